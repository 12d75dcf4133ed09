section ZJN0
noncomputable def kn_cX5_holds : Nat := 0xac030400a7040700a0030400a7040700a0047e041b030400a7040700997e2e7e067a041b8600b22e040900b42a
theorem zk_cX5_holds : zkd cX5_holds.data.toList kn_cX5_holds = true := by decide +kernel
theorem zn_cX5_holds : cX5_holds.data.toList.length = 45 := by decide +kernel
theorem dX5_holds_0 : decode cX5_holds 0 = .ok (.aload_n 0, 1) := zo_42 (zkb zk_cX5_holds zn_cX5_holds rfl)
theorem dX5_holds_1 : decode cX5_holds 1 = .ok (.getfield 9, 3) := zo_180 (b1 := 0) (b2 := 9) (zkb3 zk_cX5_holds zn_cX5_holds rfl) rfl
theorem dX5_holds_4 : decode cX5_holds 4 = .ok (.iconst 1, 1) := zo_4 (zkb zk_cX5_holds zn_cX5_holds rfl)
theorem dX5_holds_5 : decode cX5_holds 5 = .ok (.iaload, 1) := zo_46 (zkb zk_cX5_holds zn_cX5_holds rfl)
theorem dX5_holds_6 : decode cX5_holds 6 = .ok (.getstatic 134, 3) := zo_178 (b1 := 0) (b2 := 134) (zkb3 zk_cX5_holds zn_cX5_holds rfl) rfl
theorem dX5_holds_9 : decode cX5_holds 9 = .ok (.iload_n 1, 1) := zo_27 (zkb zk_cX5_holds zn_cX5_holds rfl)
theorem dX5_holds_10 : decode cX5_holds 10 = .ok (.iconst 1, 1) := zo_4 (zkb zk_cX5_holds zn_cX5_holds rfl)
theorem dX5_holds_11 : decode cX5_holds 11 = .ok (.ishr, 1) := zo_122 (zkb zk_cX5_holds zn_cX5_holds rfl)
theorem dX5_holds_12 : decode cX5_holds 12 = .ok (.iconst 3, 1) := zo_6 (zkb zk_cX5_holds zn_cX5_holds rfl)
theorem dX5_holds_13 : decode cX5_holds 13 = .ok (.iand, 1) := zo_126 (zkb zk_cX5_holds zn_cX5_holds rfl)
theorem dX5_holds_14 : decode cX5_holds 14 = .ok (.iaload, 1) := zo_46 (zkb zk_cX5_holds zn_cX5_holds rfl)
theorem dX5_holds_15 : decode cX5_holds 15 = .ok (.iand, 1) := zo_126 (zkb zk_cX5_holds zn_cX5_holds rfl)
theorem dX5_holds_16 : decode cX5_holds 16 = .ok (.ifCond .eq 7, 3) := zo_153 (b1 := 0) (b2 := 7) (zkb3 zk_cX5_holds zn_cX5_holds rfl) rfl
theorem dX5_holds_19 : decode cX5_holds 19 = .ok (.iconst 1, 1) := zo_4 (zkb zk_cX5_holds zn_cX5_holds rfl)
theorem dX5_holds_20 : decode cX5_holds 20 = .ok (.goto 4, 3) := zo_167 (b1 := 0) (b2 := 4) (zkb3 zk_cX5_holds zn_cX5_holds rfl) rfl
theorem dX5_holds_23 : decode cX5_holds 23 = .ok (.iconst 0, 1) := zo_3 (zkb zk_cX5_holds zn_cX5_holds rfl)
theorem dX5_holds_24 : decode cX5_holds 24 = .ok (.iload_n 1, 1) := zo_27 (zkb zk_cX5_holds zn_cX5_holds rfl)
theorem dX5_holds_25 : decode cX5_holds 25 = .ok (.iconst 1, 1) := zo_4 (zkb zk_cX5_holds zn_cX5_holds rfl)
theorem dX5_holds_26 : decode cX5_holds 26 = .ok (.iand, 1) := zo_126 (zkb zk_cX5_holds zn_cX5_holds rfl)
theorem dX5_holds_27 : decode cX5_holds 27 = .ok (.iconst 1, 1) := zo_4 (zkb zk_cX5_holds zn_cX5_holds rfl)
theorem dX5_holds_28 : decode cX5_holds 28 = .ok (.if_icmp .ne 7, 3) := zo_160 (b1 := 0) (b2 := 7) (zkb3 zk_cX5_holds zn_cX5_holds rfl) rfl
theorem dX5_holds_31 : decode cX5_holds 31 = .ok (.iconst 1, 1) := zo_4 (zkb zk_cX5_holds zn_cX5_holds rfl)
theorem dX5_holds_32 : decode cX5_holds 32 = .ok (.goto 4, 3) := zo_167 (b1 := 0) (b2 := 4) (zkb3 zk_cX5_holds zn_cX5_holds rfl) rfl
theorem dX5_holds_35 : decode cX5_holds 35 = .ok (.iconst 0, 1) := zo_3 (zkb zk_cX5_holds zn_cX5_holds rfl)
theorem dX5_holds_36 : decode cX5_holds 36 = .ok (.if_icmp .ne 7, 3) := zo_160 (b1 := 0) (b2 := 7) (zkb3 zk_cX5_holds zn_cX5_holds rfl) rfl
theorem dX5_holds_39 : decode cX5_holds 39 = .ok (.iconst 1, 1) := zo_4 (zkb zk_cX5_holds zn_cX5_holds rfl)
theorem dX5_holds_40 : decode cX5_holds 40 = .ok (.goto 4, 3) := zo_167 (b1 := 0) (b2 := 4) (zkb3 zk_cX5_holds zn_cX5_holds rfl) rfl
theorem dX5_holds_43 : decode cX5_holds 43 = .ok (.iconst 0, 1) := zo_3 (zkb zk_cX5_holds zn_cX5_holds rfl)
theorem dX5_holds_44 : decode cX5_holds 44 = .ok (.ireturn, 1) := zo_172 (zkb zk_cX5_holds zn_cX5_holds rfl)
noncomputable def kn_cX5_changeWithOther : Nat := 0xb14f1c6008101b0900b42a4f2e6008101b0900b42a1b0900b42a3d2e1b0900b42a
theorem zk_cX5_changeWithOther : zkd cX5_changeWithOther.data.toList kn_cX5_changeWithOther = true := by decide +kernel
theorem zn_cX5_changeWithOther : cX5_changeWithOther.data.toList.length = 33 := by decide +kernel
theorem dX5_changeWithOther_0 : decode cX5_changeWithOther 0 = .ok (.aload_n 0, 1) := zo_42 (zkb zk_cX5_changeWithOther zn_cX5_changeWithOther rfl)
theorem dX5_changeWithOther_1 : decode cX5_changeWithOther 1 = .ok (.getfield 9, 3) := zo_180 (b1 := 0) (b2 := 9) (zkb3 zk_cX5_changeWithOther zn_cX5_changeWithOther rfl) rfl
theorem dX5_changeWithOther_4 : decode cX5_changeWithOther 4 = .ok (.iload_n 1, 1) := zo_27 (zkb zk_cX5_changeWithOther zn_cX5_changeWithOther rfl)
theorem dX5_changeWithOther_5 : decode cX5_changeWithOther 5 = .ok (.iaload, 1) := zo_46 (zkb zk_cX5_changeWithOther zn_cX5_changeWithOther rfl)
theorem dX5_changeWithOther_6 : decode cX5_changeWithOther 6 = .ok (.istore_n 2, 1) := zo_61 (zkb zk_cX5_changeWithOther zn_cX5_changeWithOther rfl)
theorem dX5_changeWithOther_7 : decode cX5_changeWithOther 7 = .ok (.aload_n 0, 1) := zo_42 (zkb zk_cX5_changeWithOther zn_cX5_changeWithOther rfl)
theorem dX5_changeWithOther_8 : decode cX5_changeWithOther 8 = .ok (.getfield 9, 3) := zo_180 (b1 := 0) (b2 := 9) (zkb3 zk_cX5_changeWithOther zn_cX5_changeWithOther rfl) rfl
theorem dX5_changeWithOther_11 : decode cX5_changeWithOther 11 = .ok (.iload_n 1, 1) := zo_27 (zkb zk_cX5_changeWithOther zn_cX5_changeWithOther rfl)
theorem dX5_changeWithOther_12 : decode cX5_changeWithOther 12 = .ok (.aload_n 0, 1) := zo_42 (zkb zk_cX5_changeWithOther zn_cX5_changeWithOther rfl)
theorem dX5_changeWithOther_13 : decode cX5_changeWithOther 13 = .ok (.getfield 9, 3) := zo_180 (b1 := 0) (b2 := 9) (zkb3 zk_cX5_changeWithOther zn_cX5_changeWithOther rfl) rfl
theorem dX5_changeWithOther_16 : decode cX5_changeWithOther 16 = .ok (.iload_n 1, 1) := zo_27 (zkb zk_cX5_changeWithOther zn_cX5_changeWithOther rfl)
theorem dX5_changeWithOther_17 : decode cX5_changeWithOther 17 = .ok (.bipush 8, 2) := zo_16 (b1 := 8) (zkb2 zk_cX5_changeWithOther zn_cX5_changeWithOther rfl) rfl
theorem dX5_changeWithOther_19 : decode cX5_changeWithOther 19 = .ok (.iadd, 1) := zo_96 (zkb zk_cX5_changeWithOther zn_cX5_changeWithOther rfl)
theorem dX5_changeWithOther_20 : decode cX5_changeWithOther 20 = .ok (.iaload, 1) := zo_46 (zkb zk_cX5_changeWithOther zn_cX5_changeWithOther rfl)
theorem dX5_changeWithOther_21 : decode cX5_changeWithOther 21 = .ok (.iastore, 1) := zo_79 (zkb zk_cX5_changeWithOther zn_cX5_changeWithOther rfl)
theorem dX5_changeWithOther_22 : decode cX5_changeWithOther 22 = .ok (.aload_n 0, 1) := zo_42 (zkb zk_cX5_changeWithOther zn_cX5_changeWithOther rfl)
theorem dX5_changeWithOther_23 : decode cX5_changeWithOther 23 = .ok (.getfield 9, 3) := zo_180 (b1 := 0) (b2 := 9) (zkb3 zk_cX5_changeWithOther zn_cX5_changeWithOther rfl) rfl
theorem dX5_changeWithOther_26 : decode cX5_changeWithOther 26 = .ok (.iload_n 1, 1) := zo_27 (zkb zk_cX5_changeWithOther zn_cX5_changeWithOther rfl)
theorem dX5_changeWithOther_27 : decode cX5_changeWithOther 27 = .ok (.bipush 8, 2) := zo_16 (b1 := 8) (zkb2 zk_cX5_changeWithOther zn_cX5_changeWithOther rfl) rfl
theorem dX5_changeWithOther_29 : decode cX5_changeWithOther 29 = .ok (.iadd, 1) := zo_96 (zkb zk_cX5_changeWithOther zn_cX5_changeWithOther rfl)
theorem dX5_changeWithOther_30 : decode cX5_changeWithOther 30 = .ok (.iload_n 2, 1) := zo_28 (zkb zk_cX5_changeWithOther zn_cX5_changeWithOther rfl)
theorem dX5_changeWithOther_31 : decode cX5_changeWithOther 31 = .ok (.iastore, 1) := zo_79 (zkb zk_cX5_changeWithOther zn_cX5_changeWithOther rfl)
theorem dX5_changeWithOther_32 : decode cX5_changeWithOther 32 = .ok (.return_, 1) := zo_177 (zkb zk_cX5_changeWithOther zn_cX5_changeWithOther rfl)
noncomputable def kn_cX5_adjustA : Nat := 0xb14f800415807e052e040900b42a80030400a71010080099061580c400b80715bb00b80715040900b42a4f0715030900b42a07367eff00116005152e030900b42a0c00a76405152e030900b42a0f00991d0636030400a7040700a409101b0e00a7031200a7040700a206101b0d00991c1500991d053660030400a760100800990415030400a706100800991c0700a309101b04367e042e040900b42a0b00a7040700a49900112e030900b42a3e030400a7040700997e052e040900b42a3d030400a7040700997e10102e040900b42a3c7e0f102e030900b42a
theorem zk_cX5_adjustA : zkd cX5_adjustA.data.toList kn_cX5_adjustA = true := by decide +kernel
theorem zn_cX5_adjustA : cX5_adjustA.data.toList.length = 217 := by decide +kernel
theorem dX5_adjustA_0 : decode cX5_adjustA 0 = .ok (.aload_n 0, 1) := zo_42 (zkb zk_cX5_adjustA zn_cX5_adjustA rfl)
theorem dX5_adjustA_1 : decode cX5_adjustA 1 = .ok (.getfield 9, 3) := zo_180 (b1 := 0) (b2 := 9) (zkb3 zk_cX5_adjustA zn_cX5_adjustA rfl) rfl
theorem dX5_adjustA_4 : decode cX5_adjustA 4 = .ok (.iconst 0, 1) := zo_3 (zkb zk_cX5_adjustA zn_cX5_adjustA rfl)
theorem dX5_adjustA_5 : decode cX5_adjustA 5 = .ok (.iaload, 1) := zo_46 (zkb zk_cX5_adjustA zn_cX5_adjustA rfl)
theorem dX5_adjustA_6 : decode cX5_adjustA 6 = .ok (.bipush 15, 2) := zo_16 (b1 := 15) (zkb2 zk_cX5_adjustA zn_cX5_adjustA rfl) rfl
theorem dX5_adjustA_8 : decode cX5_adjustA 8 = .ok (.iand, 1) := zo_126 (zkb zk_cX5_adjustA zn_cX5_adjustA rfl)
theorem dX5_adjustA_9 : decode cX5_adjustA 9 = .ok (.istore_n 1, 1) := zo_60 (zkb zk_cX5_adjustA zn_cX5_adjustA rfl)
theorem dX5_adjustA_10 : decode cX5_adjustA 10 = .ok (.aload_n 0, 1) := zo_42 (zkb zk_cX5_adjustA zn_cX5_adjustA rfl)
theorem dX5_adjustA_11 : decode cX5_adjustA 11 = .ok (.getfield 9, 3) := zo_180 (b1 := 0) (b2 := 9) (zkb3 zk_cX5_adjustA zn_cX5_adjustA rfl) rfl
theorem dX5_adjustA_14 : decode cX5_adjustA 14 = .ok (.iconst 1, 1) := zo_4 (zkb zk_cX5_adjustA zn_cX5_adjustA rfl)
theorem dX5_adjustA_15 : decode cX5_adjustA 15 = .ok (.iaload, 1) := zo_46 (zkb zk_cX5_adjustA zn_cX5_adjustA rfl)
theorem dX5_adjustA_16 : decode cX5_adjustA 16 = .ok (.bipush 16, 2) := zo_16 (b1 := 16) (zkb2 zk_cX5_adjustA zn_cX5_adjustA rfl) rfl
theorem dX5_adjustA_18 : decode cX5_adjustA 18 = .ok (.iand, 1) := zo_126 (zkb zk_cX5_adjustA zn_cX5_adjustA rfl)
theorem dX5_adjustA_19 : decode cX5_adjustA 19 = .ok (.ifCond .eq 7, 3) := zo_153 (b1 := 0) (b2 := 7) (zkb3 zk_cX5_adjustA zn_cX5_adjustA rfl) rfl
theorem dX5_adjustA_22 : decode cX5_adjustA 22 = .ok (.iconst 1, 1) := zo_4 (zkb zk_cX5_adjustA zn_cX5_adjustA rfl)
theorem dX5_adjustA_23 : decode cX5_adjustA 23 = .ok (.goto 4, 3) := zo_167 (b1 := 0) (b2 := 4) (zkb3 zk_cX5_adjustA zn_cX5_adjustA rfl) rfl
theorem dX5_adjustA_26 : decode cX5_adjustA 26 = .ok (.iconst 0, 1) := zo_3 (zkb zk_cX5_adjustA zn_cX5_adjustA rfl)
theorem dX5_adjustA_27 : decode cX5_adjustA 27 = .ok (.istore_n 2, 1) := zo_61 (zkb zk_cX5_adjustA zn_cX5_adjustA rfl)
theorem dX5_adjustA_28 : decode cX5_adjustA 28 = .ok (.aload_n 0, 1) := zo_42 (zkb zk_cX5_adjustA zn_cX5_adjustA rfl)
theorem dX5_adjustA_29 : decode cX5_adjustA 29 = .ok (.getfield 9, 3) := zo_180 (b1 := 0) (b2 := 9) (zkb3 zk_cX5_adjustA zn_cX5_adjustA rfl) rfl
theorem dX5_adjustA_32 : decode cX5_adjustA 32 = .ok (.iconst 1, 1) := zo_4 (zkb zk_cX5_adjustA zn_cX5_adjustA rfl)
theorem dX5_adjustA_33 : decode cX5_adjustA 33 = .ok (.iaload, 1) := zo_46 (zkb zk_cX5_adjustA zn_cX5_adjustA rfl)
theorem dX5_adjustA_34 : decode cX5_adjustA 34 = .ok (.iconst 2, 1) := zo_5 (zkb zk_cX5_adjustA zn_cX5_adjustA rfl)
theorem dX5_adjustA_35 : decode cX5_adjustA 35 = .ok (.iand, 1) := zo_126 (zkb zk_cX5_adjustA zn_cX5_adjustA rfl)
theorem dX5_adjustA_36 : decode cX5_adjustA 36 = .ok (.ifCond .eq 7, 3) := zo_153 (b1 := 0) (b2 := 7) (zkb3 zk_cX5_adjustA zn_cX5_adjustA rfl) rfl
theorem dX5_adjustA_39 : decode cX5_adjustA 39 = .ok (.iconst 1, 1) := zo_4 (zkb zk_cX5_adjustA zn_cX5_adjustA rfl)
theorem dX5_adjustA_40 : decode cX5_adjustA 40 = .ok (.goto 4, 3) := zo_167 (b1 := 0) (b2 := 4) (zkb3 zk_cX5_adjustA zn_cX5_adjustA rfl) rfl
theorem dX5_adjustA_43 : decode cX5_adjustA 43 = .ok (.iconst 0, 1) := zo_3 (zkb zk_cX5_adjustA zn_cX5_adjustA rfl)
theorem dX5_adjustA_44 : decode cX5_adjustA 44 = .ok (.istore_n 3, 1) := zo_62 (zkb zk_cX5_adjustA zn_cX5_adjustA rfl)
theorem dX5_adjustA_45 : decode cX5_adjustA 45 = .ok (.aload_n 0, 1) := zo_42 (zkb zk_cX5_adjustA zn_cX5_adjustA rfl)
theorem dX5_adjustA_46 : decode cX5_adjustA 46 = .ok (.getfield 9, 3) := zo_180 (b1 := 0) (b2 := 9) (zkb3 zk_cX5_adjustA zn_cX5_adjustA rfl) rfl
theorem dX5_adjustA_49 : decode cX5_adjustA 49 = .ok (.iconst 0, 1) := zo_3 (zkb zk_cX5_adjustA zn_cX5_adjustA rfl)
theorem dX5_adjustA_50 : decode cX5_adjustA 50 = .ok (.iaload, 1) := zo_46 (zkb zk_cX5_adjustA zn_cX5_adjustA rfl)
theorem dX5_adjustA_51 : decode cX5_adjustA 51 = .ok (.sipush 153, 3) := zo_17 (b1 := 0) (b2 := 153) (zkb3 zk_cX5_adjustA zn_cX5_adjustA rfl) rfl
theorem dX5_adjustA_54 : decode cX5_adjustA 54 = .ok (.if_icmp .le 7, 3) := zo_164 (b1 := 0) (b2 := 7) (zkb3 zk_cX5_adjustA zn_cX5_adjustA rfl) rfl
theorem dX5_adjustA_57 : decode cX5_adjustA 57 = .ok (.iconst 1, 1) := zo_4 (zkb zk_cX5_adjustA zn_cX5_adjustA rfl)
theorem dX5_adjustA_58 : decode cX5_adjustA 58 = .ok (.goto 11, 3) := zo_167 (b1 := 0) (b2 := 11) (zkb3 zk_cX5_adjustA zn_cX5_adjustA rfl) rfl
theorem dX5_adjustA_61 : decode cX5_adjustA 61 = .ok (.aload_n 0, 1) := zo_42 (zkb zk_cX5_adjustA zn_cX5_adjustA rfl)
theorem dX5_adjustA_62 : decode cX5_adjustA 62 = .ok (.getfield 9, 3) := zo_180 (b1 := 0) (b2 := 9) (zkb3 zk_cX5_adjustA zn_cX5_adjustA rfl) rfl
theorem dX5_adjustA_65 : decode cX5_adjustA 65 = .ok (.iconst 1, 1) := zo_4 (zkb zk_cX5_adjustA zn_cX5_adjustA rfl)
theorem dX5_adjustA_66 : decode cX5_adjustA 66 = .ok (.iaload, 1) := zo_46 (zkb zk_cX5_adjustA zn_cX5_adjustA rfl)
theorem dX5_adjustA_67 : decode cX5_adjustA 67 = .ok (.iconst 1, 1) := zo_4 (zkb zk_cX5_adjustA zn_cX5_adjustA rfl)
theorem dX5_adjustA_68 : decode cX5_adjustA 68 = .ok (.iand, 1) := zo_126 (zkb zk_cX5_adjustA zn_cX5_adjustA rfl)
theorem dX5_adjustA_69 : decode cX5_adjustA 69 = .ok (.istore 4, 2) := zo_54 (b1 := 4) (zkb2 zk_cX5_adjustA zn_cX5_adjustA rfl)
theorem dX5_adjustA_71 : decode cX5_adjustA 71 = .ok (.iload_n 1, 1) := zo_27 (zkb zk_cX5_adjustA zn_cX5_adjustA rfl)
theorem dX5_adjustA_72 : decode cX5_adjustA 72 = .ok (.bipush 9, 2) := zo_16 (b1 := 9) (zkb2 zk_cX5_adjustA zn_cX5_adjustA rfl) rfl
theorem dX5_adjustA_74 : decode cX5_adjustA 74 = .ok (.if_icmp .gt 7, 3) := zo_163 (b1 := 0) (b2 := 7) (zkb3 zk_cX5_adjustA zn_cX5_adjustA rfl) rfl
theorem dX5_adjustA_77 : decode cX5_adjustA 77 = .ok (.iload_n 2, 1) := zo_28 (zkb zk_cX5_adjustA zn_cX5_adjustA rfl)
theorem dX5_adjustA_78 : decode cX5_adjustA 78 = .ok (.ifCond .eq 8, 3) := zo_153 (b1 := 0) (b2 := 8) (zkb3 zk_cX5_adjustA zn_cX5_adjustA rfl) rfl
theorem dX5_adjustA_81 : decode cX5_adjustA 81 = .ok (.bipush 6, 2) := zo_16 (b1 := 6) (zkb2 zk_cX5_adjustA zn_cX5_adjustA rfl) rfl
theorem dX5_adjustA_83 : decode cX5_adjustA 83 = .ok (.goto 4, 3) := zo_167 (b1 := 0) (b2 := 4) (zkb3 zk_cX5_adjustA zn_cX5_adjustA rfl) rfl
theorem dX5_adjustA_86 : decode cX5_adjustA 86 = .ok (.iconst 0, 1) := zo_3 (zkb zk_cX5_adjustA zn_cX5_adjustA rfl)
theorem dX5_adjustA_87 : decode cX5_adjustA 87 = .ok (.iload 4, 2) := zo_21 (b1 := 4) (zkb2 zk_cX5_adjustA zn_cX5_adjustA rfl)
theorem dX5_adjustA_89 : decode cX5_adjustA 89 = .ok (.ifCond .eq 8, 3) := zo_153 (b1 := 0) (b2 := 8) (zkb3 zk_cX5_adjustA zn_cX5_adjustA rfl) rfl
theorem dX5_adjustA_92 : decode cX5_adjustA 92 = .ok (.bipush 96, 2) := zo_16 (b1 := 96) (zkb2 zk_cX5_adjustA zn_cX5_adjustA rfl) rfl
theorem dX5_adjustA_94 : decode cX5_adjustA 94 = .ok (.goto 4, 3) := zo_167 (b1 := 0) (b2 := 4) (zkb3 zk_cX5_adjustA zn_cX5_adjustA rfl) rfl
theorem dX5_adjustA_97 : decode cX5_adjustA 97 = .ok (.iconst 0, 1) := zo_3 (zkb zk_cX5_adjustA zn_cX5_adjustA rfl)
theorem dX5_adjustA_98 : decode cX5_adjustA 98 = .ok (.iadd, 1) := zo_96 (zkb zk_cX5_adjustA zn_cX5_adjustA rfl)
theorem dX5_adjustA_99 : decode cX5_adjustA 99 = .ok (.istore 5, 2) := zo_54 (b1 := 5) (zkb2 zk_cX5_adjustA zn_cX5_adjustA rfl)
theorem dX5_adjustA_101 : decode cX5_adjustA 101 = .ok (.iload_n 3, 1) := zo_29 (zkb zk_cX5_adjustA zn_cX5_adjustA rfl)
theorem dX5_adjustA_102 : decode cX5_adjustA 102 = .ok (.ifCond .eq 21, 3) := zo_153 (b1 := 0) (b2 := 21) (zkb3 zk_cX5_adjustA zn_cX5_adjustA rfl) rfl
theorem dX5_adjustA_105 : decode cX5_adjustA 105 = .ok (.iload_n 2, 1) := zo_28 (zkb zk_cX5_adjustA zn_cX5_adjustA rfl)
theorem dX5_adjustA_106 : decode cX5_adjustA 106 = .ok (.ifCond .eq 13, 3) := zo_153 (b1 := 0) (b2 := 13) (zkb3 zk_cX5_adjustA zn_cX5_adjustA rfl) rfl
theorem dX5_adjustA_109 : decode cX5_adjustA 109 = .ok (.iload_n 1, 1) := zo_27 (zkb zk_cX5_adjustA zn_cX5_adjustA rfl)
theorem dX5_adjustA_110 : decode cX5_adjustA 110 = .ok (.bipush 6, 2) := zo_16 (b1 := 6) (zkb2 zk_cX5_adjustA zn_cX5_adjustA rfl) rfl
theorem dX5_adjustA_112 : decode cX5_adjustA 112 = .ok (.if_icmp .ge 7, 3) := zo_162 (b1 := 0) (b2 := 7) (zkb3 zk_cX5_adjustA zn_cX5_adjustA rfl) rfl
theorem dX5_adjustA_115 : decode cX5_adjustA 115 = .ok (.iconst 1, 1) := zo_4 (zkb zk_cX5_adjustA zn_cX5_adjustA rfl)
theorem dX5_adjustA_116 : decode cX5_adjustA 116 = .ok (.goto 18, 3) := zo_167 (b1 := 0) (b2 := 18) (zkb3 zk_cX5_adjustA zn_cX5_adjustA rfl) rfl
theorem dX5_adjustA_119 : decode cX5_adjustA 119 = .ok (.iconst 0, 1) := zo_3 (zkb zk_cX5_adjustA zn_cX5_adjustA rfl)
theorem dX5_adjustA_120 : decode cX5_adjustA 120 = .ok (.goto 14, 3) := zo_167 (b1 := 0) (b2 := 14) (zkb3 zk_cX5_adjustA zn_cX5_adjustA rfl) rfl
theorem dX5_adjustA_123 : decode cX5_adjustA 123 = .ok (.iload_n 1, 1) := zo_27 (zkb zk_cX5_adjustA zn_cX5_adjustA rfl)
theorem dX5_adjustA_124 : decode cX5_adjustA 124 = .ok (.bipush 9, 2) := zo_16 (b1 := 9) (zkb2 zk_cX5_adjustA zn_cX5_adjustA rfl) rfl
theorem dX5_adjustA_126 : decode cX5_adjustA 126 = .ok (.if_icmp .le 7, 3) := zo_164 (b1 := 0) (b2 := 7) (zkb3 zk_cX5_adjustA zn_cX5_adjustA rfl) rfl
theorem dX5_adjustA_129 : decode cX5_adjustA 129 = .ok (.iconst 1, 1) := zo_4 (zkb zk_cX5_adjustA zn_cX5_adjustA rfl)
theorem dX5_adjustA_130 : decode cX5_adjustA 130 = .ok (.goto 4, 3) := zo_167 (b1 := 0) (b2 := 4) (zkb3 zk_cX5_adjustA zn_cX5_adjustA rfl) rfl
theorem dX5_adjustA_133 : decode cX5_adjustA 133 = .ok (.iconst 0, 1) := zo_3 (zkb zk_cX5_adjustA zn_cX5_adjustA rfl)
theorem dX5_adjustA_134 : decode cX5_adjustA 134 = .ok (.istore 6, 2) := zo_54 (b1 := 6) (zkb2 zk_cX5_adjustA zn_cX5_adjustA rfl)
theorem dX5_adjustA_136 : decode cX5_adjustA 136 = .ok (.iload_n 3, 1) := zo_29 (zkb zk_cX5_adjustA zn_cX5_adjustA rfl)
theorem dX5_adjustA_137 : decode cX5_adjustA 137 = .ok (.ifCond .eq 15, 3) := zo_153 (b1 := 0) (b2 := 15) (zkb3 zk_cX5_adjustA zn_cX5_adjustA rfl) rfl
theorem dX5_adjustA_140 : decode cX5_adjustA 140 = .ok (.aload_n 0, 1) := zo_42 (zkb zk_cX5_adjustA zn_cX5_adjustA rfl)
theorem dX5_adjustA_141 : decode cX5_adjustA 141 = .ok (.getfield 9, 3) := zo_180 (b1 := 0) (b2 := 9) (zkb3 zk_cX5_adjustA zn_cX5_adjustA rfl) rfl
theorem dX5_adjustA_144 : decode cX5_adjustA 144 = .ok (.iconst 0, 1) := zo_3 (zkb zk_cX5_adjustA zn_cX5_adjustA rfl)
theorem dX5_adjustA_145 : decode cX5_adjustA 145 = .ok (.iaload, 1) := zo_46 (zkb zk_cX5_adjustA zn_cX5_adjustA rfl)
theorem dX5_adjustA_146 : decode cX5_adjustA 146 = .ok (.iload 5, 2) := zo_21 (b1 := 5) (zkb2 zk_cX5_adjustA zn_cX5_adjustA rfl)
theorem dX5_adjustA_148 : decode cX5_adjustA 148 = .ok (.isub, 1) := zo_100 (zkb zk_cX5_adjustA zn_cX5_adjustA rfl)
theorem dX5_adjustA_149 : decode cX5_adjustA 149 = .ok (.goto 12, 3) := zo_167 (b1 := 0) (b2 := 12) (zkb3 zk_cX5_adjustA zn_cX5_adjustA rfl) rfl
theorem dX5_adjustA_152 : decode cX5_adjustA 152 = .ok (.aload_n 0, 1) := zo_42 (zkb zk_cX5_adjustA zn_cX5_adjustA rfl)
theorem dX5_adjustA_153 : decode cX5_adjustA 153 = .ok (.getfield 9, 3) := zo_180 (b1 := 0) (b2 := 9) (zkb3 zk_cX5_adjustA zn_cX5_adjustA rfl) rfl
theorem dX5_adjustA_156 : decode cX5_adjustA 156 = .ok (.iconst 0, 1) := zo_3 (zkb zk_cX5_adjustA zn_cX5_adjustA rfl)
theorem dX5_adjustA_157 : decode cX5_adjustA 157 = .ok (.iaload, 1) := zo_46 (zkb zk_cX5_adjustA zn_cX5_adjustA rfl)
theorem dX5_adjustA_158 : decode cX5_adjustA 158 = .ok (.iload 5, 2) := zo_21 (b1 := 5) (zkb2 zk_cX5_adjustA zn_cX5_adjustA rfl)
theorem dX5_adjustA_160 : decode cX5_adjustA 160 = .ok (.iadd, 1) := zo_96 (zkb zk_cX5_adjustA zn_cX5_adjustA rfl)
theorem dX5_adjustA_161 : decode cX5_adjustA 161 = .ok (.sipush 255, 3) := zo_17 (b1 := 0) (b2 := 255) (zkb3 zk_cX5_adjustA zn_cX5_adjustA rfl) rfl
theorem dX5_adjustA_164 : decode cX5_adjustA 164 = .ok (.iand, 1) := zo_126 (zkb zk_cX5_adjustA zn_cX5_adjustA rfl)
theorem dX5_adjustA_165 : decode cX5_adjustA 165 = .ok (.istore 7, 2) := zo_54 (b1 := 7) (zkb2 zk_cX5_adjustA zn_cX5_adjustA rfl)
theorem dX5_adjustA_167 : decode cX5_adjustA 167 = .ok (.aload_n 0, 1) := zo_42 (zkb zk_cX5_adjustA zn_cX5_adjustA rfl)
theorem dX5_adjustA_168 : decode cX5_adjustA 168 = .ok (.getfield 9, 3) := zo_180 (b1 := 0) (b2 := 9) (zkb3 zk_cX5_adjustA zn_cX5_adjustA rfl) rfl
theorem dX5_adjustA_171 : decode cX5_adjustA 171 = .ok (.iconst 0, 1) := zo_3 (zkb zk_cX5_adjustA zn_cX5_adjustA rfl)
theorem dX5_adjustA_172 : decode cX5_adjustA 172 = .ok (.iload 7, 2) := zo_21 (b1 := 7) (zkb2 zk_cX5_adjustA zn_cX5_adjustA rfl)
theorem dX5_adjustA_174 : decode cX5_adjustA 174 = .ok (.iastore, 1) := zo_79 (zkb zk_cX5_adjustA zn_cX5_adjustA rfl)
theorem dX5_adjustA_175 : decode cX5_adjustA 175 = .ok (.aload_n 0, 1) := zo_42 (zkb zk_cX5_adjustA zn_cX5_adjustA rfl)
theorem dX5_adjustA_176 : decode cX5_adjustA 176 = .ok (.getfield 9, 3) := zo_180 (b1 := 0) (b2 := 9) (zkb3 zk_cX5_adjustA zn_cX5_adjustA rfl) rfl
theorem dX5_adjustA_179 : decode cX5_adjustA 179 = .ok (.iconst 1, 1) := zo_4 (zkb zk_cX5_adjustA zn_cX5_adjustA rfl)
theorem dX5_adjustA_180 : decode cX5_adjustA 180 = .ok (.iload 7, 2) := zo_21 (b1 := 7) (zkb2 zk_cX5_adjustA zn_cX5_adjustA rfl)
theorem dX5_adjustA_182 : decode cX5_adjustA 182 = .ok (.invokestatic 187, 3) := zo_184 (b1 := 0) (b2 := 187) (zkb3 zk_cX5_adjustA zn_cX5_adjustA rfl) rfl
theorem dX5_adjustA_185 : decode cX5_adjustA 185 = .ok (.iload 7, 2) := zo_21 (b1 := 7) (zkb2 zk_cX5_adjustA zn_cX5_adjustA rfl)
theorem dX5_adjustA_187 : decode cX5_adjustA 187 = .ok (.invokestatic 196, 3) := zo_184 (b1 := 0) (b2 := 196) (zkb3 zk_cX5_adjustA zn_cX5_adjustA rfl) rfl
theorem dX5_adjustA_190 : decode cX5_adjustA 190 = .ok (.ior, 1) := zo_128 (zkb zk_cX5_adjustA zn_cX5_adjustA rfl)
theorem dX5_adjustA_191 : decode cX5_adjustA 191 = .ok (.iload 6, 2) := zo_21 (b1 := 6) (zkb2 zk_cX5_adjustA zn_cX5_adjustA rfl)
theorem dX5_adjustA_193 : decode cX5_adjustA 193 = .ok (.ifCond .eq 8, 3) := zo_153 (b1 := 0) (b2 := 8) (zkb3 zk_cX5_adjustA zn_cX5_adjustA rfl) rfl
theorem dX5_adjustA_196 : decode cX5_adjustA 196 = .ok (.bipush 16, 2) := zo_16 (b1 := 16) (zkb2 zk_cX5_adjustA zn_cX5_adjustA rfl) rfl
theorem dX5_adjustA_198 : decode cX5_adjustA 198 = .ok (.goto 4, 3) := zo_167 (b1 := 0) (b2 := 4) (zkb3 zk_cX5_adjustA zn_cX5_adjustA rfl) rfl
theorem dX5_adjustA_201 : decode cX5_adjustA 201 = .ok (.iconst 0, 1) := zo_3 (zkb zk_cX5_adjustA zn_cX5_adjustA rfl)
theorem dX5_adjustA_202 : decode cX5_adjustA 202 = .ok (.ior, 1) := zo_128 (zkb zk_cX5_adjustA zn_cX5_adjustA rfl)
theorem dX5_adjustA_203 : decode cX5_adjustA 203 = .ok (.aload_n 0, 1) := zo_42 (zkb zk_cX5_adjustA zn_cX5_adjustA rfl)
theorem dX5_adjustA_204 : decode cX5_adjustA 204 = .ok (.getfield 9, 3) := zo_180 (b1 := 0) (b2 := 9) (zkb3 zk_cX5_adjustA zn_cX5_adjustA rfl) rfl
theorem dX5_adjustA_207 : decode cX5_adjustA 207 = .ok (.iconst 1, 1) := zo_4 (zkb zk_cX5_adjustA zn_cX5_adjustA rfl)
theorem dX5_adjustA_208 : decode cX5_adjustA 208 = .ok (.iaload, 1) := zo_46 (zkb zk_cX5_adjustA zn_cX5_adjustA rfl)
theorem dX5_adjustA_209 : decode cX5_adjustA 209 = .ok (.iconst 2, 1) := zo_5 (zkb zk_cX5_adjustA zn_cX5_adjustA rfl)
theorem dX5_adjustA_210 : decode cX5_adjustA 210 = .ok (.iand, 1) := zo_126 (zkb zk_cX5_adjustA zn_cX5_adjustA rfl)
theorem dX5_adjustA_211 : decode cX5_adjustA 211 = .ok (.ior, 1) := zo_128 (zkb zk_cX5_adjustA zn_cX5_adjustA rfl)
theorem dX5_adjustA_212 : decode cX5_adjustA 212 = .ok (.iload 4, 2) := zo_21 (b1 := 4) (zkb2 zk_cX5_adjustA zn_cX5_adjustA rfl)
theorem dX5_adjustA_214 : decode cX5_adjustA 214 = .ok (.ior, 1) := zo_128 (zkb zk_cX5_adjustA zn_cX5_adjustA rfl)
theorem dX5_adjustA_215 : decode cX5_adjustA 215 = .ok (.iastore, 1) := zo_79 (zkb zk_cX5_adjustA zn_cX5_adjustA rfl)
theorem dX5_adjustA_216 : decode cX5_adjustA 216 = .ok (.return_, 1) := zo_177 (zkb zk_cX5_adjustA zn_cX5_adjustA rfl)
noncomputable def kn_cX5_move : Nat := 0xac070400a707100800a006101d09009f06101ca600b6a000b61d2a1c2a3e7e07101b3d7e07107a061bac074f041a100900b42a0d00a076101b
theorem zk_cX5_move : zkd cX5_move.data.toList kn_cX5_move = true := by decide +kernel
theorem zn_cX5_move : cX5_move.data.toList.length = 57 := by decide +kernel
theorem dX5_move_0 : decode cX5_move 0 = .ok (.iload_n 1, 1) := zo_27 (zkb zk_cX5_move zn_cX5_move rfl)
theorem dX5_move_1 : decode cX5_move 1 = .ok (.bipush 118, 2) := zo_16 (b1 := 118) (zkb2 zk_cX5_move zn_cX5_move rfl) rfl
theorem dX5_move_3 : decode cX5_move 3 = .ok (.if_icmp .ne 13, 3) := zo_160 (b1 := 0) (b2 := 13) (zkb3 zk_cX5_move zn_cX5_move rfl) rfl
theorem dX5_move_6 : decode cX5_move 6 = .ok (.aload_n 0, 1) := zo_42 (zkb zk_cX5_move zn_cX5_move rfl)
theorem dX5_move_7 : decode cX5_move 7 = .ok (.getfield 9, 3) := zo_180 (b1 := 0) (b2 := 9) (zkb3 zk_cX5_move zn_cX5_move rfl) rfl
theorem dX5_move_10 : decode cX5_move 10 = .ok (.bipush 26, 2) := zo_16 (b1 := 26) (zkb2 zk_cX5_move zn_cX5_move rfl) rfl
theorem dX5_move_12 : decode cX5_move 12 = .ok (.iconst 1, 1) := zo_4 (zkb zk_cX5_move zn_cX5_move rfl)
theorem dX5_move_13 : decode cX5_move 13 = .ok (.iastore, 1) := zo_79 (zkb zk_cX5_move zn_cX5_move rfl)
theorem dX5_move_14 : decode cX5_move 14 = .ok (.iconst 4, 1) := zo_7 (zkb zk_cX5_move zn_cX5_move rfl)
theorem dX5_move_15 : decode cX5_move 15 = .ok (.ireturn, 1) := zo_172 (zkb zk_cX5_move zn_cX5_move rfl)
theorem dX5_move_16 : decode cX5_move 16 = .ok (.iload_n 1, 1) := zo_27 (zkb zk_cX5_move zn_cX5_move rfl)
theorem dX5_move_17 : decode cX5_move 17 = .ok (.iconst 3, 1) := zo_6 (zkb zk_cX5_move zn_cX5_move rfl)
theorem dX5_move_18 : decode cX5_move 18 = .ok (.ishr, 1) := zo_122 (zkb zk_cX5_move zn_cX5_move rfl)
theorem dX5_move_19 : decode cX5_move 19 = .ok (.bipush 7, 2) := zo_16 (b1 := 7) (zkb2 zk_cX5_move zn_cX5_move rfl) rfl
theorem dX5_move_21 : decode cX5_move 21 = .ok (.iand, 1) := zo_126 (zkb zk_cX5_move zn_cX5_move rfl)
theorem dX5_move_22 : decode cX5_move 22 = .ok (.istore_n 2, 1) := zo_61 (zkb zk_cX5_move zn_cX5_move rfl)
theorem dX5_move_23 : decode cX5_move 23 = .ok (.iload_n 1, 1) := zo_27 (zkb zk_cX5_move zn_cX5_move rfl)
theorem dX5_move_24 : decode cX5_move 24 = .ok (.bipush 7, 2) := zo_16 (b1 := 7) (zkb2 zk_cX5_move zn_cX5_move rfl) rfl
theorem dX5_move_26 : decode cX5_move 26 = .ok (.iand, 1) := zo_126 (zkb zk_cX5_move zn_cX5_move rfl)
theorem dX5_move_27 : decode cX5_move 27 = .ok (.istore_n 3, 1) := zo_62 (zkb zk_cX5_move zn_cX5_move rfl)
theorem dX5_move_28 : decode cX5_move 28 = .ok (.aload_n 0, 1) := zo_42 (zkb zk_cX5_move zn_cX5_move rfl)
theorem dX5_move_29 : decode cX5_move 29 = .ok (.iload_n 2, 1) := zo_28 (zkb zk_cX5_move zn_cX5_move rfl)
theorem dX5_move_30 : decode cX5_move 30 = .ok (.aload_n 0, 1) := zo_42 (zkb zk_cX5_move zn_cX5_move rfl)
theorem dX5_move_31 : decode cX5_move 31 = .ok (.iload_n 3, 1) := zo_29 (zkb zk_cX5_move zn_cX5_move rfl)
theorem dX5_move_32 : decode cX5_move 32 = .ok (.invokevirtual 160, 3) := zo_182 (b1 := 0) (b2 := 160) (zkb3 zk_cX5_move zn_cX5_move rfl) rfl
theorem dX5_move_35 : decode cX5_move 35 = .ok (.invokevirtual 166, 3) := zo_182 (b1 := 0) (b2 := 166) (zkb3 zk_cX5_move zn_cX5_move rfl) rfl
theorem dX5_move_38 : decode cX5_move 38 = .ok (.iload_n 2, 1) := zo_28 (zkb zk_cX5_move zn_cX5_move rfl)
theorem dX5_move_39 : decode cX5_move 39 = .ok (.bipush 6, 2) := zo_16 (b1 := 6) (zkb2 zk_cX5_move zn_cX5_move rfl) rfl
theorem dX5_move_41 : decode cX5_move 41 = .ok (.if_icmp .eq 9, 3) := zo_159 (b1 := 0) (b2 := 9) (zkb3 zk_cX5_move zn_cX5_move rfl) rfl
theorem dX5_move_44 : decode cX5_move 44 = .ok (.iload_n 3, 1) := zo_29 (zkb zk_cX5_move zn_cX5_move rfl)
theorem dX5_move_45 : decode cX5_move 45 = .ok (.bipush 6, 2) := zo_16 (b1 := 6) (zkb2 zk_cX5_move zn_cX5_move rfl) rfl
theorem dX5_move_47 : decode cX5_move 47 = .ok (.if_icmp .ne 8, 3) := zo_160 (b1 := 0) (b2 := 8) (zkb3 zk_cX5_move zn_cX5_move rfl) rfl
theorem dX5_move_50 : decode cX5_move 50 = .ok (.bipush 7, 2) := zo_16 (b1 := 7) (zkb2 zk_cX5_move zn_cX5_move rfl) rfl
theorem dX5_move_52 : decode cX5_move 52 = .ok (.goto 4, 3) := zo_167 (b1 := 0) (b2 := 4) (zkb3 zk_cX5_move zn_cX5_move rfl) rfl
theorem dX5_move_55 : decode cX5_move 55 = .ok (.iconst 4, 1) := zo_7 (zkb zk_cX5_move zn_cX5_move rfl)
theorem dX5_move_56 : decode cX5_move 56 = .ok (.ireturn, 1) := zo_172 (zkb zk_cX5_move zn_cX5_move rfl)
noncomputable def kn_cX5_doWithRegister : Nat := 0xac070400a707100800a006107e07101bc700b6a000b67e07101b2a7e07107a061b2a
theorem zk_cX5_doWithRegister : zkd cX5_doWithRegister.data.toList kn_cX5_doWithRegister = true := by decide +kernel
theorem zn_cX5_doWithRegister : cX5_doWithRegister.data.toList.length = 34 := by decide +kernel
theorem dX5_doWithRegister_0 : decode cX5_doWithRegister 0 = .ok (.aload_n 0, 1) := zo_42 (zkb zk_cX5_doWithRegister zn_cX5_doWithRegister rfl)
theorem dX5_doWithRegister_1 : decode cX5_doWithRegister 1 = .ok (.iload_n 1, 1) := zo_27 (zkb zk_cX5_doWithRegister zn_cX5_doWithRegister rfl)
theorem dX5_doWithRegister_2 : decode cX5_doWithRegister 2 = .ok (.iconst 3, 1) := zo_6 (zkb zk_cX5_doWithRegister zn_cX5_doWithRegister rfl)
theorem dX5_doWithRegister_3 : decode cX5_doWithRegister 3 = .ok (.ishr, 1) := zo_122 (zkb zk_cX5_doWithRegister zn_cX5_doWithRegister rfl)
theorem dX5_doWithRegister_4 : decode cX5_doWithRegister 4 = .ok (.bipush 7, 2) := zo_16 (b1 := 7) (zkb2 zk_cX5_doWithRegister zn_cX5_doWithRegister rfl) rfl
theorem dX5_doWithRegister_6 : decode cX5_doWithRegister 6 = .ok (.iand, 1) := zo_126 (zkb zk_cX5_doWithRegister zn_cX5_doWithRegister rfl)
theorem dX5_doWithRegister_7 : decode cX5_doWithRegister 7 = .ok (.aload_n 0, 1) := zo_42 (zkb zk_cX5_doWithRegister zn_cX5_doWithRegister rfl)
theorem dX5_doWithRegister_8 : decode cX5_doWithRegister 8 = .ok (.iload_n 1, 1) := zo_27 (zkb zk_cX5_doWithRegister zn_cX5_doWithRegister rfl)
theorem dX5_doWithRegister_9 : decode cX5_doWithRegister 9 = .ok (.bipush 7, 2) := zo_16 (b1 := 7) (zkb2 zk_cX5_doWithRegister zn_cX5_doWithRegister rfl) rfl
theorem dX5_doWithRegister_11 : decode cX5_doWithRegister 11 = .ok (.iand, 1) := zo_126 (zkb zk_cX5_doWithRegister zn_cX5_doWithRegister rfl)
theorem dX5_doWithRegister_12 : decode cX5_doWithRegister 12 = .ok (.invokevirtual 160, 3) := zo_182 (b1 := 0) (b2 := 160) (zkb3 zk_cX5_doWithRegister zn_cX5_doWithRegister rfl) rfl
theorem dX5_doWithRegister_15 : decode cX5_doWithRegister 15 = .ok (.invokevirtual 199, 3) := zo_182 (b1 := 0) (b2 := 199) (zkb3 zk_cX5_doWithRegister zn_cX5_doWithRegister rfl) rfl
theorem dX5_doWithRegister_18 : decode cX5_doWithRegister 18 = .ok (.iload_n 1, 1) := zo_27 (zkb zk_cX5_doWithRegister zn_cX5_doWithRegister rfl)
theorem dX5_doWithRegister_19 : decode cX5_doWithRegister 19 = .ok (.bipush 7, 2) := zo_16 (b1 := 7) (zkb2 zk_cX5_doWithRegister zn_cX5_doWithRegister rfl) rfl
theorem dX5_doWithRegister_21 : decode cX5_doWithRegister 21 = .ok (.iand, 1) := zo_126 (zkb zk_cX5_doWithRegister zn_cX5_doWithRegister rfl)
theorem dX5_doWithRegister_22 : decode cX5_doWithRegister 22 = .ok (.bipush 6, 2) := zo_16 (b1 := 6) (zkb2 zk_cX5_doWithRegister zn_cX5_doWithRegister rfl) rfl
theorem dX5_doWithRegister_24 : decode cX5_doWithRegister 24 = .ok (.if_icmp .ne 8, 3) := zo_160 (b1 := 0) (b2 := 8) (zkb3 zk_cX5_doWithRegister zn_cX5_doWithRegister rfl) rfl
theorem dX5_doWithRegister_27 : decode cX5_doWithRegister 27 = .ok (.bipush 7, 2) := zo_16 (b1 := 7) (zkb2 zk_cX5_doWithRegister zn_cX5_doWithRegister rfl) rfl
theorem dX5_doWithRegister_29 : decode cX5_doWithRegister 29 = .ok (.goto 4, 3) := zo_167 (b1 := 0) (b2 := 4) (zkb3 zk_cX5_doWithRegister zn_cX5_doWithRegister rfl) rfl
theorem dX5_doWithRegister_32 : decode cX5_doWithRegister 32 = .ok (.iconst 4, 1) := zo_7 (zkb zk_cX5_doWithRegister zn_cX5_doWithRegister rfl)
theorem dX5_doWithRegister_33 : decode cX5_doWithRegister 33 = .ok (.ireturn, 1) := zo_172 (zkb zk_cX5_doWithRegister zn_cX5_doWithRegister rfl)
noncomputable def kn_cX5_doWith : Nat := 0xb14f807e28101c7ed7102e040900b42a040900b42a57ce00b6031c2e030900b42a2a2400a74f80c400b82e030900b42abb00b82e030900b42a040900b42a4f801c2e5c030900b42a4a00a74f80c400b82e030900b42abb00b82e030900b42a040900b42a4f821c2e5c030900b42a7000a74f80101080c400b82e030900b42abb00b82e030900b42a040900b42a4f7e1c2e5c030900b42a9900a74fce00b67e042e040900b42a1c2e030900b42a2a030900b42ab500a74fce00b6031c2e030900b42a2a030900b42aca00a74fca00b67e042e040900b42a1c2e030900b42a2a030900b42ae600a74fca00b6031c2e030900b42a2a030900b42adc000000b60000008d000000710000005c000000400000002b0000000600000000000000020100000000aa1b
theorem zk_cX5_doWith : zkd cX5_doWith.data.toList kn_cX5_doWith = true := by decide +kernel
theorem zn_cX5_doWith : cX5_doWith.data.toList.length = 293 := by decide +kernel
theorem dX5_doWith_0 : decode cX5_doWith 0 = .ok (.iload_n 1, 1) := zo_27 (zkb zk_cX5_doWith zn_cX5_doWith rfl)
theorem dX5_doWith_1 : decode cX5_doWith 1 = .ok (.tableswitch 258 0 6 #[43, 64, 92, 113, 141, 182, 220], 43) := by decide +kernel
theorem dX5_doWith_44 : decode cX5_doWith 44 = .ok (.aload_n 0, 1) := zo_42 (zkb zk_cX5_doWith zn_cX5_doWith rfl)
theorem dX5_doWith_45 : decode cX5_doWith 45 = .ok (.getfield 9, 3) := zo_180 (b1 := 0) (b2 := 9) (zkb3 zk_cX5_doWith zn_cX5_doWith rfl) rfl
theorem dX5_doWith_48 : decode cX5_doWith 48 = .ok (.iconst 0, 1) := zo_3 (zkb zk_cX5_doWith zn_cX5_doWith rfl)
theorem dX5_doWith_49 : decode cX5_doWith 49 = .ok (.aload_n 0, 1) := zo_42 (zkb zk_cX5_doWith zn_cX5_doWith rfl)
theorem dX5_doWith_50 : decode cX5_doWith 50 = .ok (.aload_n 0, 1) := zo_42 (zkb zk_cX5_doWith zn_cX5_doWith rfl)
theorem dX5_doWith_51 : decode cX5_doWith 51 = .ok (.getfield 9, 3) := zo_180 (b1 := 0) (b2 := 9) (zkb3 zk_cX5_doWith zn_cX5_doWith rfl) rfl
theorem dX5_doWith_54 : decode cX5_doWith 54 = .ok (.iconst 0, 1) := zo_3 (zkb zk_cX5_doWith zn_cX5_doWith rfl)
theorem dX5_doWith_55 : decode cX5_doWith 55 = .ok (.iaload, 1) := zo_46 (zkb zk_cX5_doWith zn_cX5_doWith rfl)
theorem dX5_doWith_56 : decode cX5_doWith 56 = .ok (.iload_n 2, 1) := zo_28 (zkb zk_cX5_doWith zn_cX5_doWith rfl)
theorem dX5_doWith_57 : decode cX5_doWith 57 = .ok (.iconst 0, 1) := zo_3 (zkb zk_cX5_doWith zn_cX5_doWith rfl)
theorem dX5_doWith_58 : decode cX5_doWith 58 = .ok (.invokevirtual 202, 3) := zo_182 (b1 := 0) (b2 := 202) (zkb3 zk_cX5_doWith zn_cX5_doWith rfl) rfl
theorem dX5_doWith_61 : decode cX5_doWith 61 = .ok (.iastore, 1) := zo_79 (zkb zk_cX5_doWith zn_cX5_doWith rfl)
theorem dX5_doWith_62 : decode cX5_doWith 62 = .ok (.goto 230, 3) := zo_167 (b1 := 0) (b2 := 230) (zkb3 zk_cX5_doWith zn_cX5_doWith rfl) rfl
theorem dX5_doWith_65 : decode cX5_doWith 65 = .ok (.aload_n 0, 1) := zo_42 (zkb zk_cX5_doWith zn_cX5_doWith rfl)
theorem dX5_doWith_66 : decode cX5_doWith 66 = .ok (.getfield 9, 3) := zo_180 (b1 := 0) (b2 := 9) (zkb3 zk_cX5_doWith zn_cX5_doWith rfl) rfl
theorem dX5_doWith_69 : decode cX5_doWith 69 = .ok (.iconst 0, 1) := zo_3 (zkb zk_cX5_doWith zn_cX5_doWith rfl)
theorem dX5_doWith_70 : decode cX5_doWith 70 = .ok (.aload_n 0, 1) := zo_42 (zkb zk_cX5_doWith zn_cX5_doWith rfl)
theorem dX5_doWith_71 : decode cX5_doWith 71 = .ok (.aload_n 0, 1) := zo_42 (zkb zk_cX5_doWith zn_cX5_doWith rfl)
theorem dX5_doWith_72 : decode cX5_doWith 72 = .ok (.getfield 9, 3) := zo_180 (b1 := 0) (b2 := 9) (zkb3 zk_cX5_doWith zn_cX5_doWith rfl) rfl
theorem dX5_doWith_75 : decode cX5_doWith 75 = .ok (.iconst 0, 1) := zo_3 (zkb zk_cX5_doWith zn_cX5_doWith rfl)
theorem dX5_doWith_76 : decode cX5_doWith 76 = .ok (.iaload, 1) := zo_46 (zkb zk_cX5_doWith zn_cX5_doWith rfl)
theorem dX5_doWith_77 : decode cX5_doWith 77 = .ok (.iload_n 2, 1) := zo_28 (zkb zk_cX5_doWith zn_cX5_doWith rfl)
theorem dX5_doWith_78 : decode cX5_doWith 78 = .ok (.aload_n 0, 1) := zo_42 (zkb zk_cX5_doWith zn_cX5_doWith rfl)
theorem dX5_doWith_79 : decode cX5_doWith 79 = .ok (.getfield 9, 3) := zo_180 (b1 := 0) (b2 := 9) (zkb3 zk_cX5_doWith zn_cX5_doWith rfl) rfl
theorem dX5_doWith_82 : decode cX5_doWith 82 = .ok (.iconst 1, 1) := zo_4 (zkb zk_cX5_doWith zn_cX5_doWith rfl)
theorem dX5_doWith_83 : decode cX5_doWith 83 = .ok (.iaload, 1) := zo_46 (zkb zk_cX5_doWith zn_cX5_doWith rfl)
theorem dX5_doWith_84 : decode cX5_doWith 84 = .ok (.iconst 1, 1) := zo_4 (zkb zk_cX5_doWith zn_cX5_doWith rfl)
theorem dX5_doWith_85 : decode cX5_doWith 85 = .ok (.iand, 1) := zo_126 (zkb zk_cX5_doWith zn_cX5_doWith rfl)
theorem dX5_doWith_86 : decode cX5_doWith 86 = .ok (.invokevirtual 202, 3) := zo_182 (b1 := 0) (b2 := 202) (zkb3 zk_cX5_doWith zn_cX5_doWith rfl) rfl
theorem dX5_doWith_89 : decode cX5_doWith 89 = .ok (.iastore, 1) := zo_79 (zkb zk_cX5_doWith zn_cX5_doWith rfl)
theorem dX5_doWith_90 : decode cX5_doWith 90 = .ok (.goto 202, 3) := zo_167 (b1 := 0) (b2 := 202) (zkb3 zk_cX5_doWith zn_cX5_doWith rfl) rfl
theorem dX5_doWith_93 : decode cX5_doWith 93 = .ok (.aload_n 0, 1) := zo_42 (zkb zk_cX5_doWith zn_cX5_doWith rfl)
theorem dX5_doWith_94 : decode cX5_doWith 94 = .ok (.getfield 9, 3) := zo_180 (b1 := 0) (b2 := 9) (zkb3 zk_cX5_doWith zn_cX5_doWith rfl) rfl
theorem dX5_doWith_97 : decode cX5_doWith 97 = .ok (.iconst 0, 1) := zo_3 (zkb zk_cX5_doWith zn_cX5_doWith rfl)
theorem dX5_doWith_98 : decode cX5_doWith 98 = .ok (.aload_n 0, 1) := zo_42 (zkb zk_cX5_doWith zn_cX5_doWith rfl)
theorem dX5_doWith_99 : decode cX5_doWith 99 = .ok (.aload_n 0, 1) := zo_42 (zkb zk_cX5_doWith zn_cX5_doWith rfl)
theorem dX5_doWith_100 : decode cX5_doWith 100 = .ok (.getfield 9, 3) := zo_180 (b1 := 0) (b2 := 9) (zkb3 zk_cX5_doWith zn_cX5_doWith rfl) rfl
theorem dX5_doWith_103 : decode cX5_doWith 103 = .ok (.iconst 0, 1) := zo_3 (zkb zk_cX5_doWith zn_cX5_doWith rfl)
theorem dX5_doWith_104 : decode cX5_doWith 104 = .ok (.iaload, 1) := zo_46 (zkb zk_cX5_doWith zn_cX5_doWith rfl)
theorem dX5_doWith_105 : decode cX5_doWith 105 = .ok (.iload_n 2, 1) := zo_28 (zkb zk_cX5_doWith zn_cX5_doWith rfl)
theorem dX5_doWith_106 : decode cX5_doWith 106 = .ok (.iconst 0, 1) := zo_3 (zkb zk_cX5_doWith zn_cX5_doWith rfl)
theorem dX5_doWith_107 : decode cX5_doWith 107 = .ok (.invokevirtual 206, 3) := zo_182 (b1 := 0) (b2 := 206) (zkb3 zk_cX5_doWith zn_cX5_doWith rfl) rfl
theorem dX5_doWith_110 : decode cX5_doWith 110 = .ok (.iastore, 1) := zo_79 (zkb zk_cX5_doWith zn_cX5_doWith rfl)
theorem dX5_doWith_111 : decode cX5_doWith 111 = .ok (.goto 181, 3) := zo_167 (b1 := 0) (b2 := 181) (zkb3 zk_cX5_doWith zn_cX5_doWith rfl) rfl
theorem dX5_doWith_114 : decode cX5_doWith 114 = .ok (.aload_n 0, 1) := zo_42 (zkb zk_cX5_doWith zn_cX5_doWith rfl)
theorem dX5_doWith_115 : decode cX5_doWith 115 = .ok (.getfield 9, 3) := zo_180 (b1 := 0) (b2 := 9) (zkb3 zk_cX5_doWith zn_cX5_doWith rfl) rfl
theorem dX5_doWith_118 : decode cX5_doWith 118 = .ok (.iconst 0, 1) := zo_3 (zkb zk_cX5_doWith zn_cX5_doWith rfl)
theorem dX5_doWith_119 : decode cX5_doWith 119 = .ok (.aload_n 0, 1) := zo_42 (zkb zk_cX5_doWith zn_cX5_doWith rfl)
theorem dX5_doWith_120 : decode cX5_doWith 120 = .ok (.aload_n 0, 1) := zo_42 (zkb zk_cX5_doWith zn_cX5_doWith rfl)
theorem dX5_doWith_121 : decode cX5_doWith 121 = .ok (.getfield 9, 3) := zo_180 (b1 := 0) (b2 := 9) (zkb3 zk_cX5_doWith zn_cX5_doWith rfl) rfl
theorem dX5_doWith_124 : decode cX5_doWith 124 = .ok (.iconst 0, 1) := zo_3 (zkb zk_cX5_doWith zn_cX5_doWith rfl)
theorem dX5_doWith_125 : decode cX5_doWith 125 = .ok (.iaload, 1) := zo_46 (zkb zk_cX5_doWith zn_cX5_doWith rfl)
theorem dX5_doWith_126 : decode cX5_doWith 126 = .ok (.iload_n 2, 1) := zo_28 (zkb zk_cX5_doWith zn_cX5_doWith rfl)
theorem dX5_doWith_127 : decode cX5_doWith 127 = .ok (.aload_n 0, 1) := zo_42 (zkb zk_cX5_doWith zn_cX5_doWith rfl)
theorem dX5_doWith_128 : decode cX5_doWith 128 = .ok (.getfield 9, 3) := zo_180 (b1 := 0) (b2 := 9) (zkb3 zk_cX5_doWith zn_cX5_doWith rfl) rfl
theorem dX5_doWith_131 : decode cX5_doWith 131 = .ok (.iconst 1, 1) := zo_4 (zkb zk_cX5_doWith zn_cX5_doWith rfl)
theorem dX5_doWith_132 : decode cX5_doWith 132 = .ok (.iaload, 1) := zo_46 (zkb zk_cX5_doWith zn_cX5_doWith rfl)
theorem dX5_doWith_133 : decode cX5_doWith 133 = .ok (.iconst 1, 1) := zo_4 (zkb zk_cX5_doWith zn_cX5_doWith rfl)
theorem dX5_doWith_134 : decode cX5_doWith 134 = .ok (.iand, 1) := zo_126 (zkb zk_cX5_doWith zn_cX5_doWith rfl)
theorem dX5_doWith_135 : decode cX5_doWith 135 = .ok (.invokevirtual 206, 3) := zo_182 (b1 := 0) (b2 := 206) (zkb3 zk_cX5_doWith zn_cX5_doWith rfl) rfl
theorem dX5_doWith_138 : decode cX5_doWith 138 = .ok (.iastore, 1) := zo_79 (zkb zk_cX5_doWith zn_cX5_doWith rfl)
theorem dX5_doWith_139 : decode cX5_doWith 139 = .ok (.goto 153, 3) := zo_167 (b1 := 0) (b2 := 153) (zkb3 zk_cX5_doWith zn_cX5_doWith rfl) rfl
theorem dX5_doWith_142 : decode cX5_doWith 142 = .ok (.aload_n 0, 1) := zo_42 (zkb zk_cX5_doWith zn_cX5_doWith rfl)
theorem dX5_doWith_143 : decode cX5_doWith 143 = .ok (.getfield 9, 3) := zo_180 (b1 := 0) (b2 := 9) (zkb3 zk_cX5_doWith zn_cX5_doWith rfl) rfl
theorem dX5_doWith_146 : decode cX5_doWith 146 = .ok (.iconst 0, 1) := zo_3 (zkb zk_cX5_doWith zn_cX5_doWith rfl)
theorem dX5_doWith_147 : decode cX5_doWith 147 = .ok (.dup2, 1) := zo_92 (zkb zk_cX5_doWith zn_cX5_doWith rfl)
theorem dX5_doWith_148 : decode cX5_doWith 148 = .ok (.iaload, 1) := zo_46 (zkb zk_cX5_doWith zn_cX5_doWith rfl)
theorem dX5_doWith_149 : decode cX5_doWith 149 = .ok (.iload_n 2, 1) := zo_28 (zkb zk_cX5_doWith zn_cX5_doWith rfl)
theorem dX5_doWith_150 : decode cX5_doWith 150 = .ok (.iand, 1) := zo_126 (zkb zk_cX5_doWith zn_cX5_doWith rfl)
theorem dX5_doWith_151 : decode cX5_doWith 151 = .ok (.iastore, 1) := zo_79 (zkb zk_cX5_doWith zn_cX5_doWith rfl)
theorem dX5_doWith_152 : decode cX5_doWith 152 = .ok (.aload_n 0, 1) := zo_42 (zkb zk_cX5_doWith zn_cX5_doWith rfl)
theorem dX5_doWith_153 : decode cX5_doWith 153 = .ok (.getfield 9, 3) := zo_180 (b1 := 0) (b2 := 9) (zkb3 zk_cX5_doWith zn_cX5_doWith rfl) rfl
theorem dX5_doWith_156 : decode cX5_doWith 156 = .ok (.iconst 1, 1) := zo_4 (zkb zk_cX5_doWith zn_cX5_doWith rfl)
theorem dX5_doWith_157 : decode cX5_doWith 157 = .ok (.aload_n 0, 1) := zo_42 (zkb zk_cX5_doWith zn_cX5_doWith rfl)
theorem dX5_doWith_158 : decode cX5_doWith 158 = .ok (.getfield 9, 3) := zo_180 (b1 := 0) (b2 := 9) (zkb3 zk_cX5_doWith zn_cX5_doWith rfl) rfl
theorem dX5_doWith_161 : decode cX5_doWith 161 = .ok (.iconst 0, 1) := zo_3 (zkb zk_cX5_doWith zn_cX5_doWith rfl)
theorem dX5_doWith_162 : decode cX5_doWith 162 = .ok (.iaload, 1) := zo_46 (zkb zk_cX5_doWith zn_cX5_doWith rfl)
theorem dX5_doWith_163 : decode cX5_doWith 163 = .ok (.invokestatic 187, 3) := zo_184 (b1 := 0) (b2 := 187) (zkb3 zk_cX5_doWith zn_cX5_doWith rfl) rfl
theorem dX5_doWith_166 : decode cX5_doWith 166 = .ok (.aload_n 0, 1) := zo_42 (zkb zk_cX5_doWith zn_cX5_doWith rfl)
theorem dX5_doWith_167 : decode cX5_doWith 167 = .ok (.getfield 9, 3) := zo_180 (b1 := 0) (b2 := 9) (zkb3 zk_cX5_doWith zn_cX5_doWith rfl) rfl
theorem dX5_doWith_170 : decode cX5_doWith 170 = .ok (.iconst 0, 1) := zo_3 (zkb zk_cX5_doWith zn_cX5_doWith rfl)
theorem dX5_doWith_171 : decode cX5_doWith 171 = .ok (.iaload, 1) := zo_46 (zkb zk_cX5_doWith zn_cX5_doWith rfl)
theorem dX5_doWith_172 : decode cX5_doWith 172 = .ok (.invokestatic 196, 3) := zo_184 (b1 := 0) (b2 := 196) (zkb3 zk_cX5_doWith zn_cX5_doWith rfl) rfl
theorem dX5_doWith_175 : decode cX5_doWith 175 = .ok (.ior, 1) := zo_128 (zkb zk_cX5_doWith zn_cX5_doWith rfl)
theorem dX5_doWith_176 : decode cX5_doWith 176 = .ok (.bipush 16, 2) := zo_16 (b1 := 16) (zkb2 zk_cX5_doWith zn_cX5_doWith rfl) rfl
theorem dX5_doWith_178 : decode cX5_doWith 178 = .ok (.ior, 1) := zo_128 (zkb zk_cX5_doWith zn_cX5_doWith rfl)
theorem dX5_doWith_179 : decode cX5_doWith 179 = .ok (.iastore, 1) := zo_79 (zkb zk_cX5_doWith zn_cX5_doWith rfl)
theorem dX5_doWith_180 : decode cX5_doWith 180 = .ok (.goto 112, 3) := zo_167 (b1 := 0) (b2 := 112) (zkb3 zk_cX5_doWith zn_cX5_doWith rfl) rfl
theorem dX5_doWith_183 : decode cX5_doWith 183 = .ok (.aload_n 0, 1) := zo_42 (zkb zk_cX5_doWith zn_cX5_doWith rfl)
theorem dX5_doWith_184 : decode cX5_doWith 184 = .ok (.getfield 9, 3) := zo_180 (b1 := 0) (b2 := 9) (zkb3 zk_cX5_doWith zn_cX5_doWith rfl) rfl
theorem dX5_doWith_187 : decode cX5_doWith 187 = .ok (.iconst 0, 1) := zo_3 (zkb zk_cX5_doWith zn_cX5_doWith rfl)
theorem dX5_doWith_188 : decode cX5_doWith 188 = .ok (.dup2, 1) := zo_92 (zkb zk_cX5_doWith zn_cX5_doWith rfl)
theorem dX5_doWith_189 : decode cX5_doWith 189 = .ok (.iaload, 1) := zo_46 (zkb zk_cX5_doWith zn_cX5_doWith rfl)
theorem dX5_doWith_190 : decode cX5_doWith 190 = .ok (.iload_n 2, 1) := zo_28 (zkb zk_cX5_doWith zn_cX5_doWith rfl)
theorem dX5_doWith_191 : decode cX5_doWith 191 = .ok (.ixor, 1) := zo_130 (zkb zk_cX5_doWith zn_cX5_doWith rfl)
theorem dX5_doWith_192 : decode cX5_doWith 192 = .ok (.iastore, 1) := zo_79 (zkb zk_cX5_doWith zn_cX5_doWith rfl)
theorem dX5_doWith_193 : decode cX5_doWith 193 = .ok (.aload_n 0, 1) := zo_42 (zkb zk_cX5_doWith zn_cX5_doWith rfl)
theorem dX5_doWith_194 : decode cX5_doWith 194 = .ok (.getfield 9, 3) := zo_180 (b1 := 0) (b2 := 9) (zkb3 zk_cX5_doWith zn_cX5_doWith rfl) rfl
theorem dX5_doWith_197 : decode cX5_doWith 197 = .ok (.iconst 1, 1) := zo_4 (zkb zk_cX5_doWith zn_cX5_doWith rfl)
theorem dX5_doWith_198 : decode cX5_doWith 198 = .ok (.aload_n 0, 1) := zo_42 (zkb zk_cX5_doWith zn_cX5_doWith rfl)
theorem dX5_doWith_199 : decode cX5_doWith 199 = .ok (.getfield 9, 3) := zo_180 (b1 := 0) (b2 := 9) (zkb3 zk_cX5_doWith zn_cX5_doWith rfl) rfl
theorem dX5_doWith_202 : decode cX5_doWith 202 = .ok (.iconst 0, 1) := zo_3 (zkb zk_cX5_doWith zn_cX5_doWith rfl)
theorem dX5_doWith_203 : decode cX5_doWith 203 = .ok (.iaload, 1) := zo_46 (zkb zk_cX5_doWith zn_cX5_doWith rfl)
theorem dX5_doWith_204 : decode cX5_doWith 204 = .ok (.invokestatic 187, 3) := zo_184 (b1 := 0) (b2 := 187) (zkb3 zk_cX5_doWith zn_cX5_doWith rfl) rfl
theorem dX5_doWith_207 : decode cX5_doWith 207 = .ok (.aload_n 0, 1) := zo_42 (zkb zk_cX5_doWith zn_cX5_doWith rfl)
theorem dX5_doWith_208 : decode cX5_doWith 208 = .ok (.getfield 9, 3) := zo_180 (b1 := 0) (b2 := 9) (zkb3 zk_cX5_doWith zn_cX5_doWith rfl) rfl
theorem dX5_doWith_211 : decode cX5_doWith 211 = .ok (.iconst 0, 1) := zo_3 (zkb zk_cX5_doWith zn_cX5_doWith rfl)
theorem dX5_doWith_212 : decode cX5_doWith 212 = .ok (.iaload, 1) := zo_46 (zkb zk_cX5_doWith zn_cX5_doWith rfl)
theorem dX5_doWith_213 : decode cX5_doWith 213 = .ok (.invokestatic 196, 3) := zo_184 (b1 := 0) (b2 := 196) (zkb3 zk_cX5_doWith zn_cX5_doWith rfl) rfl
theorem dX5_doWith_216 : decode cX5_doWith 216 = .ok (.ior, 1) := zo_128 (zkb zk_cX5_doWith zn_cX5_doWith rfl)
theorem dX5_doWith_217 : decode cX5_doWith 217 = .ok (.iastore, 1) := zo_79 (zkb zk_cX5_doWith zn_cX5_doWith rfl)
theorem dX5_doWith_218 : decode cX5_doWith 218 = .ok (.goto 74, 3) := zo_167 (b1 := 0) (b2 := 74) (zkb3 zk_cX5_doWith zn_cX5_doWith rfl) rfl
theorem dX5_doWith_221 : decode cX5_doWith 221 = .ok (.aload_n 0, 1) := zo_42 (zkb zk_cX5_doWith zn_cX5_doWith rfl)
theorem dX5_doWith_222 : decode cX5_doWith 222 = .ok (.getfield 9, 3) := zo_180 (b1 := 0) (b2 := 9) (zkb3 zk_cX5_doWith zn_cX5_doWith rfl) rfl
theorem dX5_doWith_225 : decode cX5_doWith 225 = .ok (.iconst 0, 1) := zo_3 (zkb zk_cX5_doWith zn_cX5_doWith rfl)
theorem dX5_doWith_226 : decode cX5_doWith 226 = .ok (.dup2, 1) := zo_92 (zkb zk_cX5_doWith zn_cX5_doWith rfl)
theorem dX5_doWith_227 : decode cX5_doWith 227 = .ok (.iaload, 1) := zo_46 (zkb zk_cX5_doWith zn_cX5_doWith rfl)
theorem dX5_doWith_228 : decode cX5_doWith 228 = .ok (.iload_n 2, 1) := zo_28 (zkb zk_cX5_doWith zn_cX5_doWith rfl)
theorem dX5_doWith_229 : decode cX5_doWith 229 = .ok (.ior, 1) := zo_128 (zkb zk_cX5_doWith zn_cX5_doWith rfl)
theorem dX5_doWith_230 : decode cX5_doWith 230 = .ok (.iastore, 1) := zo_79 (zkb zk_cX5_doWith zn_cX5_doWith rfl)
theorem dX5_doWith_231 : decode cX5_doWith 231 = .ok (.aload_n 0, 1) := zo_42 (zkb zk_cX5_doWith zn_cX5_doWith rfl)
theorem dX5_doWith_232 : decode cX5_doWith 232 = .ok (.getfield 9, 3) := zo_180 (b1 := 0) (b2 := 9) (zkb3 zk_cX5_doWith zn_cX5_doWith rfl) rfl
theorem dX5_doWith_235 : decode cX5_doWith 235 = .ok (.iconst 1, 1) := zo_4 (zkb zk_cX5_doWith zn_cX5_doWith rfl)
theorem dX5_doWith_236 : decode cX5_doWith 236 = .ok (.aload_n 0, 1) := zo_42 (zkb zk_cX5_doWith zn_cX5_doWith rfl)
theorem dX5_doWith_237 : decode cX5_doWith 237 = .ok (.getfield 9, 3) := zo_180 (b1 := 0) (b2 := 9) (zkb3 zk_cX5_doWith zn_cX5_doWith rfl) rfl
theorem dX5_doWith_240 : decode cX5_doWith 240 = .ok (.iconst 0, 1) := zo_3 (zkb zk_cX5_doWith zn_cX5_doWith rfl)
theorem dX5_doWith_241 : decode cX5_doWith 241 = .ok (.iaload, 1) := zo_46 (zkb zk_cX5_doWith zn_cX5_doWith rfl)
theorem dX5_doWith_242 : decode cX5_doWith 242 = .ok (.invokestatic 187, 3) := zo_184 (b1 := 0) (b2 := 187) (zkb3 zk_cX5_doWith zn_cX5_doWith rfl) rfl
theorem dX5_doWith_245 : decode cX5_doWith 245 = .ok (.aload_n 0, 1) := zo_42 (zkb zk_cX5_doWith zn_cX5_doWith rfl)
theorem dX5_doWith_246 : decode cX5_doWith 246 = .ok (.getfield 9, 3) := zo_180 (b1 := 0) (b2 := 9) (zkb3 zk_cX5_doWith zn_cX5_doWith rfl) rfl
theorem dX5_doWith_249 : decode cX5_doWith 249 = .ok (.iconst 0, 1) := zo_3 (zkb zk_cX5_doWith zn_cX5_doWith rfl)
theorem dX5_doWith_250 : decode cX5_doWith 250 = .ok (.iaload, 1) := zo_46 (zkb zk_cX5_doWith zn_cX5_doWith rfl)
theorem dX5_doWith_251 : decode cX5_doWith 251 = .ok (.invokestatic 196, 3) := zo_184 (b1 := 0) (b2 := 196) (zkb3 zk_cX5_doWith zn_cX5_doWith rfl) rfl
theorem dX5_doWith_254 : decode cX5_doWith 254 = .ok (.ior, 1) := zo_128 (zkb zk_cX5_doWith zn_cX5_doWith rfl)
theorem dX5_doWith_255 : decode cX5_doWith 255 = .ok (.iastore, 1) := zo_79 (zkb zk_cX5_doWith zn_cX5_doWith rfl)
theorem dX5_doWith_256 : decode cX5_doWith 256 = .ok (.goto 36, 3) := zo_167 (b1 := 0) (b2 := 36) (zkb3 zk_cX5_doWith zn_cX5_doWith rfl) rfl
theorem dX5_doWith_259 : decode cX5_doWith 259 = .ok (.aload_n 0, 1) := zo_42 (zkb zk_cX5_doWith zn_cX5_doWith rfl)
theorem dX5_doWith_260 : decode cX5_doWith 260 = .ok (.aload_n 0, 1) := zo_42 (zkb zk_cX5_doWith zn_cX5_doWith rfl)
theorem dX5_doWith_261 : decode cX5_doWith 261 = .ok (.getfield 9, 3) := zo_180 (b1 := 0) (b2 := 9) (zkb3 zk_cX5_doWith zn_cX5_doWith rfl) rfl
theorem dX5_doWith_264 : decode cX5_doWith 264 = .ok (.iconst 0, 1) := zo_3 (zkb zk_cX5_doWith zn_cX5_doWith rfl)
theorem dX5_doWith_265 : decode cX5_doWith 265 = .ok (.iaload, 1) := zo_46 (zkb zk_cX5_doWith zn_cX5_doWith rfl)
theorem dX5_doWith_266 : decode cX5_doWith 266 = .ok (.iload_n 2, 1) := zo_28 (zkb zk_cX5_doWith zn_cX5_doWith rfl)
theorem dX5_doWith_267 : decode cX5_doWith 267 = .ok (.iconst 0, 1) := zo_3 (zkb zk_cX5_doWith zn_cX5_doWith rfl)
theorem dX5_doWith_268 : decode cX5_doWith 268 = .ok (.invokevirtual 206, 3) := zo_182 (b1 := 0) (b2 := 206) (zkb3 zk_cX5_doWith zn_cX5_doWith rfl) rfl
theorem dX5_doWith_271 : decode cX5_doWith 271 = .ok (.pop, 1) := zo_87 (zkb zk_cX5_doWith zn_cX5_doWith rfl)
theorem dX5_doWith_272 : decode cX5_doWith 272 = .ok (.aload_n 0, 1) := zo_42 (zkb zk_cX5_doWith zn_cX5_doWith rfl)
theorem dX5_doWith_273 : decode cX5_doWith 273 = .ok (.getfield 9, 3) := zo_180 (b1 := 0) (b2 := 9) (zkb3 zk_cX5_doWith zn_cX5_doWith rfl) rfl
theorem dX5_doWith_276 : decode cX5_doWith 276 = .ok (.iconst 1, 1) := zo_4 (zkb zk_cX5_doWith zn_cX5_doWith rfl)
theorem dX5_doWith_277 : decode cX5_doWith 277 = .ok (.aload_n 0, 1) := zo_42 (zkb zk_cX5_doWith zn_cX5_doWith rfl)
theorem dX5_doWith_278 : decode cX5_doWith 278 = .ok (.getfield 9, 3) := zo_180 (b1 := 0) (b2 := 9) (zkb3 zk_cX5_doWith zn_cX5_doWith rfl) rfl
theorem dX5_doWith_281 : decode cX5_doWith 281 = .ok (.iconst 1, 1) := zo_4 (zkb zk_cX5_doWith zn_cX5_doWith rfl)
theorem dX5_doWith_282 : decode cX5_doWith 282 = .ok (.iaload, 1) := zo_46 (zkb zk_cX5_doWith zn_cX5_doWith rfl)
theorem dX5_doWith_283 : decode cX5_doWith 283 = .ok (.bipush (-41), 2) := zo_16 (b1 := 215) (zkb2 zk_cX5_doWith zn_cX5_doWith rfl) rfl
theorem dX5_doWith_285 : decode cX5_doWith 285 = .ok (.iand, 1) := zo_126 (zkb zk_cX5_doWith zn_cX5_doWith rfl)
theorem dX5_doWith_286 : decode cX5_doWith 286 = .ok (.iload_n 2, 1) := zo_28 (zkb zk_cX5_doWith zn_cX5_doWith rfl)
theorem dX5_doWith_287 : decode cX5_doWith 287 = .ok (.bipush 40, 2) := zo_16 (b1 := 40) (zkb2 zk_cX5_doWith zn_cX5_doWith rfl) rfl
theorem dX5_doWith_289 : decode cX5_doWith 289 = .ok (.iand, 1) := zo_126 (zkb zk_cX5_doWith zn_cX5_doWith rfl)
theorem dX5_doWith_290 : decode cX5_doWith 290 = .ok (.ior, 1) := zo_128 (zkb zk_cX5_doWith zn_cX5_doWith rfl)
theorem dX5_doWith_291 : decode cX5_doWith 291 = .ok (.iastore, 1) := zo_79 (zkb zk_cX5_doWith zn_cX5_doWith rfl)
theorem dX5_doWith_292 : decode cX5_doWith 292 = .ok (.return_, 1) := zo_177 (zkb zk_cX5_doWith zn_cX5_doWith rfl)
noncomputable def kn_cX5_sum : Nat := 0xac05154f807a0810041580030400a7070700990615807e1010820515821c1bbb00b80515040900b42a06367e8000117e8205151b8202821c1b05367eff001104150436601d601c1b
theorem zk_cX5_sum : zkd cX5_sum.data.toList kn_cX5_sum = true := by decide +kernel
theorem zn_cX5_sum : cX5_sum.data.toList.length = 72 := by decide +kernel
theorem dX5_sum_0 : decode cX5_sum 0 = .ok (.iload_n 1, 1) := zo_27 (zkb zk_cX5_sum zn_cX5_sum rfl)
theorem dX5_sum_1 : decode cX5_sum 1 = .ok (.iload_n 2, 1) := zo_28 (zkb zk_cX5_sum zn_cX5_sum rfl)
theorem dX5_sum_2 : decode cX5_sum 2 = .ok (.iadd, 1) := zo_96 (zkb zk_cX5_sum zn_cX5_sum rfl)
theorem dX5_sum_3 : decode cX5_sum 3 = .ok (.iload_n 3, 1) := zo_29 (zkb zk_cX5_sum zn_cX5_sum rfl)
theorem dX5_sum_4 : decode cX5_sum 4 = .ok (.iadd, 1) := zo_96 (zkb zk_cX5_sum zn_cX5_sum rfl)
theorem dX5_sum_5 : decode cX5_sum 5 = .ok (.istore 4, 2) := zo_54 (b1 := 4) (zkb2 zk_cX5_sum zn_cX5_sum rfl)
theorem dX5_sum_7 : decode cX5_sum 7 = .ok (.iload 4, 2) := zo_21 (b1 := 4) (zkb2 zk_cX5_sum zn_cX5_sum rfl)
theorem dX5_sum_9 : decode cX5_sum 9 = .ok (.sipush 255, 3) := zo_17 (b1 := 0) (b2 := 255) (zkb3 zk_cX5_sum zn_cX5_sum rfl) rfl
theorem dX5_sum_12 : decode cX5_sum 12 = .ok (.iand, 1) := zo_126 (zkb zk_cX5_sum zn_cX5_sum rfl)
theorem dX5_sum_13 : decode cX5_sum 13 = .ok (.istore 5, 2) := zo_54 (b1 := 5) (zkb2 zk_cX5_sum zn_cX5_sum rfl)
theorem dX5_sum_15 : decode cX5_sum 15 = .ok (.iload_n 1, 1) := zo_27 (zkb zk_cX5_sum zn_cX5_sum rfl)
theorem dX5_sum_16 : decode cX5_sum 16 = .ok (.iload_n 2, 1) := zo_28 (zkb zk_cX5_sum zn_cX5_sum rfl)
theorem dX5_sum_17 : decode cX5_sum 17 = .ok (.ixor, 1) := zo_130 (zkb zk_cX5_sum zn_cX5_sum rfl)
theorem dX5_sum_18 : decode cX5_sum 18 = .ok (.iconst (-1), 1) := zo_2 (zkb zk_cX5_sum zn_cX5_sum rfl)
theorem dX5_sum_19 : decode cX5_sum 19 = .ok (.ixor, 1) := zo_130 (zkb zk_cX5_sum zn_cX5_sum rfl)
theorem dX5_sum_20 : decode cX5_sum 20 = .ok (.iload_n 1, 1) := zo_27 (zkb zk_cX5_sum zn_cX5_sum rfl)
theorem dX5_sum_21 : decode cX5_sum 21 = .ok (.iload 5, 2) := zo_21 (b1 := 5) (zkb2 zk_cX5_sum zn_cX5_sum rfl)
theorem dX5_sum_23 : decode cX5_sum 23 = .ok (.ixor, 1) := zo_130 (zkb zk_cX5_sum zn_cX5_sum rfl)
theorem dX5_sum_24 : decode cX5_sum 24 = .ok (.iand, 1) := zo_126 (zkb zk_cX5_sum zn_cX5_sum rfl)
theorem dX5_sum_25 : decode cX5_sum 25 = .ok (.sipush 128, 3) := zo_17 (b1 := 0) (b2 := 128) (zkb3 zk_cX5_sum zn_cX5_sum rfl) rfl
theorem dX5_sum_28 : decode cX5_sum 28 = .ok (.iand, 1) := zo_126 (zkb zk_cX5_sum zn_cX5_sum rfl)
theorem dX5_sum_29 : decode cX5_sum 29 = .ok (.istore 6, 2) := zo_54 (b1 := 6) (zkb2 zk_cX5_sum zn_cX5_sum rfl)
theorem dX5_sum_31 : decode cX5_sum 31 = .ok (.aload_n 0, 1) := zo_42 (zkb zk_cX5_sum zn_cX5_sum rfl)
theorem dX5_sum_32 : decode cX5_sum 32 = .ok (.getfield 9, 3) := zo_180 (b1 := 0) (b2 := 9) (zkb3 zk_cX5_sum zn_cX5_sum rfl) rfl
theorem dX5_sum_35 : decode cX5_sum 35 = .ok (.iconst 1, 1) := zo_4 (zkb zk_cX5_sum zn_cX5_sum rfl)
theorem dX5_sum_36 : decode cX5_sum 36 = .ok (.iload 5, 2) := zo_21 (b1 := 5) (zkb2 zk_cX5_sum zn_cX5_sum rfl)
theorem dX5_sum_38 : decode cX5_sum 38 = .ok (.invokestatic 187, 3) := zo_184 (b1 := 0) (b2 := 187) (zkb3 zk_cX5_sum zn_cX5_sum rfl) rfl
theorem dX5_sum_41 : decode cX5_sum 41 = .ok (.iload_n 1, 1) := zo_27 (zkb zk_cX5_sum zn_cX5_sum rfl)
theorem dX5_sum_42 : decode cX5_sum 42 = .ok (.iload_n 2, 1) := zo_28 (zkb zk_cX5_sum zn_cX5_sum rfl)
theorem dX5_sum_43 : decode cX5_sum 43 = .ok (.ixor, 1) := zo_130 (zkb zk_cX5_sum zn_cX5_sum rfl)
theorem dX5_sum_44 : decode cX5_sum 44 = .ok (.iload 5, 2) := zo_21 (b1 := 5) (zkb2 zk_cX5_sum zn_cX5_sum rfl)
theorem dX5_sum_46 : decode cX5_sum 46 = .ok (.ixor, 1) := zo_130 (zkb zk_cX5_sum zn_cX5_sum rfl)
theorem dX5_sum_47 : decode cX5_sum 47 = .ok (.bipush 16, 2) := zo_16 (b1 := 16) (zkb2 zk_cX5_sum zn_cX5_sum rfl) rfl
theorem dX5_sum_49 : decode cX5_sum 49 = .ok (.iand, 1) := zo_126 (zkb zk_cX5_sum zn_cX5_sum rfl)
theorem dX5_sum_50 : decode cX5_sum 50 = .ok (.ior, 1) := zo_128 (zkb zk_cX5_sum zn_cX5_sum rfl)
theorem dX5_sum_51 : decode cX5_sum 51 = .ok (.iload 6, 2) := zo_21 (b1 := 6) (zkb2 zk_cX5_sum zn_cX5_sum rfl)
theorem dX5_sum_53 : decode cX5_sum 53 = .ok (.ifCond .eq 7, 3) := zo_153 (b1 := 0) (b2 := 7) (zkb3 zk_cX5_sum zn_cX5_sum rfl) rfl
theorem dX5_sum_56 : decode cX5_sum 56 = .ok (.iconst 4, 1) := zo_7 (zkb zk_cX5_sum zn_cX5_sum rfl)
theorem dX5_sum_57 : decode cX5_sum 57 = .ok (.goto 4, 3) := zo_167 (b1 := 0) (b2 := 4) (zkb3 zk_cX5_sum zn_cX5_sum rfl) rfl
theorem dX5_sum_60 : decode cX5_sum 60 = .ok (.iconst 0, 1) := zo_3 (zkb zk_cX5_sum zn_cX5_sum rfl)
theorem dX5_sum_61 : decode cX5_sum 61 = .ok (.ior, 1) := zo_128 (zkb zk_cX5_sum zn_cX5_sum rfl)
theorem dX5_sum_62 : decode cX5_sum 62 = .ok (.iload 4, 2) := zo_21 (b1 := 4) (zkb2 zk_cX5_sum zn_cX5_sum rfl)
theorem dX5_sum_64 : decode cX5_sum 64 = .ok (.bipush 8, 2) := zo_16 (b1 := 8) (zkb2 zk_cX5_sum zn_cX5_sum rfl) rfl
theorem dX5_sum_66 : decode cX5_sum 66 = .ok (.ishr, 1) := zo_122 (zkb zk_cX5_sum zn_cX5_sum rfl)
theorem dX5_sum_67 : decode cX5_sum 67 = .ok (.ior, 1) := zo_128 (zkb zk_cX5_sum zn_cX5_sum rfl)
theorem dX5_sum_68 : decode cX5_sum 68 = .ok (.iastore, 1) := zo_79 (zkb zk_cX5_sum zn_cX5_sum rfl)
theorem dX5_sum_69 : decode cX5_sum 69 = .ok (.iload 5, 2) := zo_21 (b1 := 5) (zkb2 zk_cX5_sum zn_cX5_sum rfl)
theorem dX5_sum_71 : decode cX5_sum 71 = .ok (.ireturn, 1) := zo_172 (zkb zk_cX5_sum zn_cX5_sum rfl)
noncomputable def kn_cX5_lastQuarter : Nat := 0xac0b103e00b6681c08102a3b00b62e13100900b42a2aac0710c700b67200b62a1c2aac0b103b00b69a00b67a041c2a0a00a74100b6032a0b00a006101c2aacda00b6042a0900a0047e041cacda00b6b200b61c2a2aac0a104f2e14100900b42a13100900b42a110099b200b61c2a4fb500b62a14100900b42aacd700b67a041c2a0a00a7d400b67a041c2a0d009a7e041cac0b103e00b6d100b62a2aac0805009ab200b61c2aad000000840000007a000000b9000000560000003e000000290000000600000000000000b9000000aa7e07101b3d7e07107a061b
theorem zk_cX5_lastQuarter : zkd cX5_lastQuarter.data.toList kn_cX5_lastQuarter = true := by decide +kernel
theorem zn_cX5_lastQuarter : cX5_lastQuarter.data.toList.length = 218 := by decide +kernel
theorem dX5_lastQuarter_0 : decode cX5_lastQuarter 0 = .ok (.iload_n 1, 1) := zo_27 (zkb zk_cX5_lastQuarter zn_cX5_lastQuarter rfl)
theorem dX5_lastQuarter_1 : decode cX5_lastQuarter 1 = .ok (.iconst 3, 1) := zo_6 (zkb zk_cX5_lastQuarter zn_cX5_lastQuarter rfl)
theorem dX5_lastQuarter_2 : decode cX5_lastQuarter 2 = .ok (.ishr, 1) := zo_122 (zkb zk_cX5_lastQuarter zn_cX5_lastQuarter rfl)
theorem dX5_lastQuarter_3 : decode cX5_lastQuarter 3 = .ok (.bipush 7, 2) := zo_16 (b1 := 7) (zkb2 zk_cX5_lastQuarter zn_cX5_lastQuarter rfl) rfl
theorem dX5_lastQuarter_5 : decode cX5_lastQuarter 5 = .ok (.iand, 1) := zo_126 (zkb zk_cX5_lastQuarter zn_cX5_lastQuarter rfl)
theorem dX5_lastQuarter_6 : decode cX5_lastQuarter 6 = .ok (.istore_n 2, 1) := zo_61 (zkb zk_cX5_lastQuarter zn_cX5_lastQuarter rfl)
theorem dX5_lastQuarter_7 : decode cX5_lastQuarter 7 = .ok (.iload_n 1, 1) := zo_27 (zkb zk_cX5_lastQuarter zn_cX5_lastQuarter rfl)
theorem dX5_lastQuarter_8 : decode cX5_lastQuarter 8 = .ok (.bipush 7, 2) := zo_16 (b1 := 7) (zkb2 zk_cX5_lastQuarter zn_cX5_lastQuarter rfl) rfl
theorem dX5_lastQuarter_10 : decode cX5_lastQuarter 10 = .ok (.iand, 1) := zo_126 (zkb zk_cX5_lastQuarter zn_cX5_lastQuarter rfl)
theorem dX5_lastQuarter_11 : decode cX5_lastQuarter 11 = .ok (.tableswitch 185 0 6 #[41, 62, 86, 185, 122, 132, 173], 41) := by decide +kernel
theorem dX5_lastQuarter_52 : decode cX5_lastQuarter 52 = .ok (.aload_n 0, 1) := zo_42 (zkb zk_cX5_lastQuarter zn_cX5_lastQuarter rfl)
theorem dX5_lastQuarter_53 : decode cX5_lastQuarter 53 = .ok (.iload_n 2, 1) := zo_28 (zkb zk_cX5_lastQuarter zn_cX5_lastQuarter rfl)
theorem dX5_lastQuarter_54 : decode cX5_lastQuarter 54 = .ok (.invokevirtual 178, 3) := zo_182 (b1 := 0) (b2 := 178) (zkb3 zk_cX5_lastQuarter zn_cX5_lastQuarter rfl) rfl
theorem dX5_lastQuarter_57 : decode cX5_lastQuarter 57 = .ok (.ifCond .ne 5, 3) := zo_154 (b1 := 0) (b2 := 5) (zkb3 zk_cX5_lastQuarter zn_cX5_lastQuarter rfl) rfl
theorem dX5_lastQuarter_60 : decode cX5_lastQuarter 60 = .ok (.iconst 5, 1) := zo_8 (zkb zk_cX5_lastQuarter zn_cX5_lastQuarter rfl)
theorem dX5_lastQuarter_61 : decode cX5_lastQuarter 61 = .ok (.ireturn, 1) := zo_172 (zkb zk_cX5_lastQuarter zn_cX5_lastQuarter rfl)
theorem dX5_lastQuarter_62 : decode cX5_lastQuarter 62 = .ok (.aload_n 0, 1) := zo_42 (zkb zk_cX5_lastQuarter zn_cX5_lastQuarter rfl)
theorem dX5_lastQuarter_63 : decode cX5_lastQuarter 63 = .ok (.aload_n 0, 1) := zo_42 (zkb zk_cX5_lastQuarter zn_cX5_lastQuarter rfl)
theorem dX5_lastQuarter_64 : decode cX5_lastQuarter 64 = .ok (.invokevirtual 209, 3) := zo_182 (b1 := 0) (b2 := 209) (zkb3 zk_cX5_lastQuarter zn_cX5_lastQuarter rfl) rfl
theorem dX5_lastQuarter_67 : decode cX5_lastQuarter 67 = .ok (.invokevirtual 62, 3) := zo_182 (b1 := 0) (b2 := 62) (zkb3 zk_cX5_lastQuarter zn_cX5_lastQuarter rfl) rfl
theorem dX5_lastQuarter_70 : decode cX5_lastQuarter 70 = .ok (.bipush 11, 2) := zo_16 (b1 := 11) (zkb2 zk_cX5_lastQuarter zn_cX5_lastQuarter rfl) rfl
theorem dX5_lastQuarter_72 : decode cX5_lastQuarter 72 = .ok (.ireturn, 1) := zo_172 (zkb zk_cX5_lastQuarter zn_cX5_lastQuarter rfl)
theorem dX5_lastQuarter_73 : decode cX5_lastQuarter 73 = .ok (.iload_n 2, 1) := zo_28 (zkb zk_cX5_lastQuarter zn_cX5_lastQuarter rfl)
theorem dX5_lastQuarter_74 : decode cX5_lastQuarter 74 = .ok (.iconst 1, 1) := zo_4 (zkb zk_cX5_lastQuarter zn_cX5_lastQuarter rfl)
theorem dX5_lastQuarter_75 : decode cX5_lastQuarter 75 = .ok (.iand, 1) := zo_126 (zkb zk_cX5_lastQuarter zn_cX5_lastQuarter rfl)
theorem dX5_lastQuarter_76 : decode cX5_lastQuarter 76 = .ok (.ifCond .ne 13, 3) := zo_154 (b1 := 0) (b2 := 13) (zkb3 zk_cX5_lastQuarter zn_cX5_lastQuarter rfl) rfl
theorem dX5_lastQuarter_79 : decode cX5_lastQuarter 79 = .ok (.aload_n 0, 1) := zo_42 (zkb zk_cX5_lastQuarter zn_cX5_lastQuarter rfl)
theorem dX5_lastQuarter_80 : decode cX5_lastQuarter 80 = .ok (.iload_n 2, 1) := zo_28 (zkb zk_cX5_lastQuarter zn_cX5_lastQuarter rfl)
theorem dX5_lastQuarter_81 : decode cX5_lastQuarter 81 = .ok (.iconst 1, 1) := zo_4 (zkb zk_cX5_lastQuarter zn_cX5_lastQuarter rfl)
theorem dX5_lastQuarter_82 : decode cX5_lastQuarter 82 = .ok (.ishr, 1) := zo_122 (zkb zk_cX5_lastQuarter zn_cX5_lastQuarter rfl)
theorem dX5_lastQuarter_83 : decode cX5_lastQuarter 83 = .ok (.invokevirtual 212, 3) := zo_182 (b1 := 0) (b2 := 212) (zkb3 zk_cX5_lastQuarter zn_cX5_lastQuarter rfl) rfl
theorem dX5_lastQuarter_86 : decode cX5_lastQuarter 86 = .ok (.goto 10, 3) := zo_167 (b1 := 0) (b2 := 10) (zkb3 zk_cX5_lastQuarter zn_cX5_lastQuarter rfl) rfl
theorem dX5_lastQuarter_89 : decode cX5_lastQuarter 89 = .ok (.aload_n 0, 1) := zo_42 (zkb zk_cX5_lastQuarter zn_cX5_lastQuarter rfl)
theorem dX5_lastQuarter_90 : decode cX5_lastQuarter 90 = .ok (.iload_n 2, 1) := zo_28 (zkb zk_cX5_lastQuarter zn_cX5_lastQuarter rfl)
theorem dX5_lastQuarter_91 : decode cX5_lastQuarter 91 = .ok (.iconst 1, 1) := zo_4 (zkb zk_cX5_lastQuarter zn_cX5_lastQuarter rfl)
theorem dX5_lastQuarter_92 : decode cX5_lastQuarter 92 = .ok (.ishr, 1) := zo_122 (zkb zk_cX5_lastQuarter zn_cX5_lastQuarter rfl)
theorem dX5_lastQuarter_93 : decode cX5_lastQuarter 93 = .ok (.invokevirtual 215, 3) := zo_182 (b1 := 0) (b2 := 215) (zkb3 zk_cX5_lastQuarter zn_cX5_lastQuarter rfl) rfl
theorem dX5_lastQuarter_96 : decode cX5_lastQuarter 96 = .ok (.ireturn, 1) := zo_172 (zkb zk_cX5_lastQuarter zn_cX5_lastQuarter rfl)
theorem dX5_lastQuarter_97 : decode cX5_lastQuarter 97 = .ok (.aload_n 0, 1) := zo_42 (zkb zk_cX5_lastQuarter zn_cX5_lastQuarter rfl)
theorem dX5_lastQuarter_98 : decode cX5_lastQuarter 98 = .ok (.getfield 9, 3) := zo_180 (b1 := 0) (b2 := 9) (zkb3 zk_cX5_lastQuarter zn_cX5_lastQuarter rfl) rfl
theorem dX5_lastQuarter_101 : decode cX5_lastQuarter 101 = .ok (.bipush 20, 2) := zo_16 (b1 := 20) (zkb2 zk_cX5_lastQuarter zn_cX5_lastQuarter rfl) rfl
theorem dX5_lastQuarter_103 : decode cX5_lastQuarter 103 = .ok (.aload_n 0, 1) := zo_42 (zkb zk_cX5_lastQuarter zn_cX5_lastQuarter rfl)
theorem dX5_lastQuarter_104 : decode cX5_lastQuarter 104 = .ok (.invokevirtual 181, 3) := zo_182 (b1 := 0) (b2 := 181) (zkb3 zk_cX5_lastQuarter zn_cX5_lastQuarter rfl) rfl
theorem dX5_lastQuarter_107 : decode cX5_lastQuarter 107 = .ok (.iastore, 1) := zo_79 (zkb zk_cX5_lastQuarter zn_cX5_lastQuarter rfl)
theorem dX5_lastQuarter_108 : decode cX5_lastQuarter 108 = .ok (.aload_n 0, 1) := zo_42 (zkb zk_cX5_lastQuarter zn_cX5_lastQuarter rfl)
theorem dX5_lastQuarter_109 : decode cX5_lastQuarter 109 = .ok (.iload_n 2, 1) := zo_28 (zkb zk_cX5_lastQuarter zn_cX5_lastQuarter rfl)
theorem dX5_lastQuarter_110 : decode cX5_lastQuarter 110 = .ok (.invokevirtual 178, 3) := zo_182 (b1 := 0) (b2 := 178) (zkb3 zk_cX5_lastQuarter zn_cX5_lastQuarter rfl) rfl
theorem dX5_lastQuarter_113 : decode cX5_lastQuarter 113 = .ok (.ifCond .eq 17, 3) := zo_153 (b1 := 0) (b2 := 17) (zkb3 zk_cX5_lastQuarter zn_cX5_lastQuarter rfl) rfl
theorem dX5_lastQuarter_116 : decode cX5_lastQuarter 116 = .ok (.aload_n 0, 1) := zo_42 (zkb zk_cX5_lastQuarter zn_cX5_lastQuarter rfl)
theorem dX5_lastQuarter_117 : decode cX5_lastQuarter 117 = .ok (.getfield 9, 3) := zo_180 (b1 := 0) (b2 := 9) (zkb3 zk_cX5_lastQuarter zn_cX5_lastQuarter rfl) rfl
theorem dX5_lastQuarter_120 : decode cX5_lastQuarter 120 = .ok (.bipush 19, 2) := zo_16 (b1 := 19) (zkb2 zk_cX5_lastQuarter zn_cX5_lastQuarter rfl) rfl
theorem dX5_lastQuarter_122 : decode cX5_lastQuarter 122 = .ok (.aload_n 0, 1) := zo_42 (zkb zk_cX5_lastQuarter zn_cX5_lastQuarter rfl)
theorem dX5_lastQuarter_123 : decode cX5_lastQuarter 123 = .ok (.getfield 9, 3) := zo_180 (b1 := 0) (b2 := 9) (zkb3 zk_cX5_lastQuarter zn_cX5_lastQuarter rfl) rfl
theorem dX5_lastQuarter_126 : decode cX5_lastQuarter 126 = .ok (.bipush 20, 2) := zo_16 (b1 := 20) (zkb2 zk_cX5_lastQuarter zn_cX5_lastQuarter rfl) rfl
theorem dX5_lastQuarter_128 : decode cX5_lastQuarter 128 = .ok (.iaload, 1) := zo_46 (zkb zk_cX5_lastQuarter zn_cX5_lastQuarter rfl)
theorem dX5_lastQuarter_129 : decode cX5_lastQuarter 129 = .ok (.iastore, 1) := zo_79 (zkb zk_cX5_lastQuarter zn_cX5_lastQuarter rfl)
theorem dX5_lastQuarter_130 : decode cX5_lastQuarter 130 = .ok (.bipush 10, 2) := zo_16 (b1 := 10) (zkb2 zk_cX5_lastQuarter zn_cX5_lastQuarter rfl) rfl
theorem dX5_lastQuarter_132 : decode cX5_lastQuarter 132 = .ok (.ireturn, 1) := zo_172 (zkb zk_cX5_lastQuarter zn_cX5_lastQuarter rfl)
theorem dX5_lastQuarter_133 : decode cX5_lastQuarter 133 = .ok (.aload_n 0, 1) := zo_42 (zkb zk_cX5_lastQuarter zn_cX5_lastQuarter rfl)
theorem dX5_lastQuarter_134 : decode cX5_lastQuarter 134 = .ok (.aload_n 0, 1) := zo_42 (zkb zk_cX5_lastQuarter zn_cX5_lastQuarter rfl)
theorem dX5_lastQuarter_135 : decode cX5_lastQuarter 135 = .ok (.iload_n 2, 1) := zo_28 (zkb zk_cX5_lastQuarter zn_cX5_lastQuarter rfl)
theorem dX5_lastQuarter_136 : decode cX5_lastQuarter 136 = .ok (.invokevirtual 178, 3) := zo_182 (b1 := 0) (b2 := 178) (zkb3 zk_cX5_lastQuarter zn_cX5_lastQuarter rfl) rfl
theorem dX5_lastQuarter_139 : decode cX5_lastQuarter 139 = .ok (.invokevirtual 218, 3) := zo_182 (b1 := 0) (b2 := 218) (zkb3 zk_cX5_lastQuarter zn_cX5_lastQuarter rfl) rfl
theorem dX5_lastQuarter_142 : decode cX5_lastQuarter 142 = .ok (.ireturn, 1) := zo_172 (zkb zk_cX5_lastQuarter zn_cX5_lastQuarter rfl)
theorem dX5_lastQuarter_143 : decode cX5_lastQuarter 143 = .ok (.iload_n 2, 1) := zo_28 (zkb zk_cX5_lastQuarter zn_cX5_lastQuarter rfl)
theorem dX5_lastQuarter_144 : decode cX5_lastQuarter 144 = .ok (.iconst 1, 1) := zo_4 (zkb zk_cX5_lastQuarter zn_cX5_lastQuarter rfl)
theorem dX5_lastQuarter_145 : decode cX5_lastQuarter 145 = .ok (.iand, 1) := zo_126 (zkb zk_cX5_lastQuarter zn_cX5_lastQuarter rfl)
theorem dX5_lastQuarter_146 : decode cX5_lastQuarter 146 = .ok (.iconst 1, 1) := zo_4 (zkb zk_cX5_lastQuarter zn_cX5_lastQuarter rfl)
theorem dX5_lastQuarter_147 : decode cX5_lastQuarter 147 = .ok (.if_icmp .ne 9, 3) := zo_160 (b1 := 0) (b2 := 9) (zkb3 zk_cX5_lastQuarter zn_cX5_lastQuarter rfl) rfl
theorem dX5_lastQuarter_150 : decode cX5_lastQuarter 150 = .ok (.aload_n 0, 1) := zo_42 (zkb zk_cX5_lastQuarter zn_cX5_lastQuarter rfl)
theorem dX5_lastQuarter_151 : decode cX5_lastQuarter 151 = .ok (.iconst 1, 1) := zo_4 (zkb zk_cX5_lastQuarter zn_cX5_lastQuarter rfl)
theorem dX5_lastQuarter_152 : decode cX5_lastQuarter 152 = .ok (.invokevirtual 218, 3) := zo_182 (b1 := 0) (b2 := 218) (zkb3 zk_cX5_lastQuarter zn_cX5_lastQuarter rfl) rfl
theorem dX5_lastQuarter_155 : decode cX5_lastQuarter 155 = .ok (.ireturn, 1) := zo_172 (zkb zk_cX5_lastQuarter zn_cX5_lastQuarter rfl)
theorem dX5_lastQuarter_156 : decode cX5_lastQuarter 156 = .ok (.aload_n 0, 1) := zo_42 (zkb zk_cX5_lastQuarter zn_cX5_lastQuarter rfl)
theorem dX5_lastQuarter_157 : decode cX5_lastQuarter 157 = .ok (.iload_n 2, 1) := zo_28 (zkb zk_cX5_lastQuarter zn_cX5_lastQuarter rfl)
theorem dX5_lastQuarter_158 : decode cX5_lastQuarter 158 = .ok (.bipush 6, 2) := zo_16 (b1 := 6) (zkb2 zk_cX5_lastQuarter zn_cX5_lastQuarter rfl) rfl
theorem dX5_lastQuarter_160 : decode cX5_lastQuarter 160 = .ok (.if_icmp .ne 11, 3) := zo_160 (b1 := 0) (b2 := 11) (zkb3 zk_cX5_lastQuarter zn_cX5_lastQuarter rfl) rfl
theorem dX5_lastQuarter_163 : decode cX5_lastQuarter 163 = .ok (.aload_n 0, 1) := zo_42 (zkb zk_cX5_lastQuarter zn_cX5_lastQuarter rfl)
theorem dX5_lastQuarter_164 : decode cX5_lastQuarter 164 = .ok (.iconst 0, 1) := zo_3 (zkb zk_cX5_lastQuarter zn_cX5_lastQuarter rfl)
theorem dX5_lastQuarter_165 : decode cX5_lastQuarter 165 = .ok (.invokevirtual 65, 3) := zo_182 (b1 := 0) (b2 := 65) (zkb3 zk_cX5_lastQuarter zn_cX5_lastQuarter rfl) rfl
theorem dX5_lastQuarter_168 : decode cX5_lastQuarter 168 = .ok (.goto 10, 3) := zo_167 (b1 := 0) (b2 := 10) (zkb3 zk_cX5_lastQuarter zn_cX5_lastQuarter rfl) rfl
theorem dX5_lastQuarter_171 : decode cX5_lastQuarter 171 = .ok (.aload_n 0, 1) := zo_42 (zkb zk_cX5_lastQuarter zn_cX5_lastQuarter rfl)
theorem dX5_lastQuarter_172 : decode cX5_lastQuarter 172 = .ok (.iload_n 2, 1) := zo_28 (zkb zk_cX5_lastQuarter zn_cX5_lastQuarter rfl)
theorem dX5_lastQuarter_173 : decode cX5_lastQuarter 173 = .ok (.iconst 1, 1) := zo_4 (zkb zk_cX5_lastQuarter zn_cX5_lastQuarter rfl)
theorem dX5_lastQuarter_174 : decode cX5_lastQuarter 174 = .ok (.ishr, 1) := zo_122 (zkb zk_cX5_lastQuarter zn_cX5_lastQuarter rfl)
theorem dX5_lastQuarter_175 : decode cX5_lastQuarter 175 = .ok (.invokevirtual 154, 3) := zo_182 (b1 := 0) (b2 := 154) (zkb3 zk_cX5_lastQuarter zn_cX5_lastQuarter rfl) rfl
theorem dX5_lastQuarter_178 : decode cX5_lastQuarter 178 = .ok (.invokevirtual 59, 3) := zo_182 (b1 := 0) (b2 := 59) (zkb3 zk_cX5_lastQuarter zn_cX5_lastQuarter rfl) rfl
theorem dX5_lastQuarter_181 : decode cX5_lastQuarter 181 = .ok (.bipush 11, 2) := zo_16 (b1 := 11) (zkb2 zk_cX5_lastQuarter zn_cX5_lastQuarter rfl) rfl
theorem dX5_lastQuarter_183 : decode cX5_lastQuarter 183 = .ok (.ireturn, 1) := zo_172 (zkb zk_cX5_lastQuarter zn_cX5_lastQuarter rfl)
theorem dX5_lastQuarter_184 : decode cX5_lastQuarter 184 = .ok (.aload_n 0, 1) := zo_42 (zkb zk_cX5_lastQuarter zn_cX5_lastQuarter rfl)
theorem dX5_lastQuarter_185 : decode cX5_lastQuarter 185 = .ok (.iload_n 2, 1) := zo_28 (zkb zk_cX5_lastQuarter zn_cX5_lastQuarter rfl)
theorem dX5_lastQuarter_186 : decode cX5_lastQuarter 186 = .ok (.aload_n 0, 1) := zo_42 (zkb zk_cX5_lastQuarter zn_cX5_lastQuarter rfl)
theorem dX5_lastQuarter_187 : decode cX5_lastQuarter 187 = .ok (.invokevirtual 114, 3) := zo_182 (b1 := 0) (b2 := 114) (zkb3 zk_cX5_lastQuarter zn_cX5_lastQuarter rfl) rfl
theorem dX5_lastQuarter_190 : decode cX5_lastQuarter 190 = .ok (.invokevirtual 199, 3) := zo_182 (b1 := 0) (b2 := 199) (zkb3 zk_cX5_lastQuarter zn_cX5_lastQuarter rfl) rfl
theorem dX5_lastQuarter_193 : decode cX5_lastQuarter 193 = .ok (.bipush 7, 2) := zo_16 (b1 := 7) (zkb2 zk_cX5_lastQuarter zn_cX5_lastQuarter rfl) rfl
theorem dX5_lastQuarter_195 : decode cX5_lastQuarter 195 = .ok (.ireturn, 1) := zo_172 (zkb zk_cX5_lastQuarter zn_cX5_lastQuarter rfl)
theorem dX5_lastQuarter_196 : decode cX5_lastQuarter 196 = .ok (.aload_n 0, 1) := zo_42 (zkb zk_cX5_lastQuarter zn_cX5_lastQuarter rfl)
theorem dX5_lastQuarter_197 : decode cX5_lastQuarter 197 = .ok (.aload_n 0, 1) := zo_42 (zkb zk_cX5_lastQuarter zn_cX5_lastQuarter rfl)
theorem dX5_lastQuarter_198 : decode cX5_lastQuarter 198 = .ok (.getfield 9, 3) := zo_180 (b1 := 0) (b2 := 9) (zkb3 zk_cX5_lastQuarter zn_cX5_lastQuarter rfl) rfl
theorem dX5_lastQuarter_201 : decode cX5_lastQuarter 201 = .ok (.bipush 19, 2) := zo_16 (b1 := 19) (zkb2 zk_cX5_lastQuarter zn_cX5_lastQuarter rfl) rfl
theorem dX5_lastQuarter_203 : decode cX5_lastQuarter 203 = .ok (.iaload, 1) := zo_46 (zkb zk_cX5_lastQuarter zn_cX5_lastQuarter rfl)
theorem dX5_lastQuarter_204 : decode cX5_lastQuarter 204 = .ok (.invokevirtual 59, 3) := zo_182 (b1 := 0) (b2 := 59) (zkb3 zk_cX5_lastQuarter zn_cX5_lastQuarter rfl) rfl
theorem dX5_lastQuarter_207 : decode cX5_lastQuarter 207 = .ok (.aload_n 0, 1) := zo_42 (zkb zk_cX5_lastQuarter zn_cX5_lastQuarter rfl)
theorem dX5_lastQuarter_208 : decode cX5_lastQuarter 208 = .ok (.bipush 8, 2) := zo_16 (b1 := 8) (zkb2 zk_cX5_lastQuarter zn_cX5_lastQuarter rfl) rfl
theorem dX5_lastQuarter_210 : decode cX5_lastQuarter 210 = .ok (.iload_n 2, 1) := zo_28 (zkb zk_cX5_lastQuarter zn_cX5_lastQuarter rfl)
theorem dX5_lastQuarter_211 : decode cX5_lastQuarter 211 = .ok (.imul, 1) := zo_104 (zkb zk_cX5_lastQuarter zn_cX5_lastQuarter rfl)
theorem dX5_lastQuarter_212 : decode cX5_lastQuarter 212 = .ok (.invokevirtual 62, 3) := zo_182 (b1 := 0) (b2 := 62) (zkb3 zk_cX5_lastQuarter zn_cX5_lastQuarter rfl) rfl
theorem dX5_lastQuarter_215 : decode cX5_lastQuarter 215 = .ok (.bipush 11, 2) := zo_16 (b1 := 11) (zkb2 zk_cX5_lastQuarter zn_cX5_lastQuarter rfl) rfl
theorem dX5_lastQuarter_217 : decode cX5_lastQuarter 217 = .ok (.ireturn, 1) := zo_172 (zkb zk_cX5_lastQuarter zn_cX5_lastQuarter rfl)
noncomputable def kn_cX5_popPair : Nat := 0xac0a109d00b61c1b2a0900a77900b61c032a0c00a0061b3dd100b62a
theorem zk_cX5_popPair : zkd cX5_popPair.data.toList kn_cX5_popPair = true := by decide +kernel
theorem zn_cX5_popPair : cX5_popPair.data.toList.length = 28 := by decide +kernel
theorem dX5_popPair_0 : decode cX5_popPair 0 = .ok (.aload_n 0, 1) := zo_42 (zkb zk_cX5_popPair zn_cX5_popPair rfl)
theorem dX5_popPair_1 : decode cX5_popPair 1 = .ok (.invokevirtual 209, 3) := zo_182 (b1 := 0) (b2 := 209) (zkb3 zk_cX5_popPair zn_cX5_popPair rfl) rfl
theorem dX5_popPair_4 : decode cX5_popPair 4 = .ok (.istore_n 2, 1) := zo_61 (zkb zk_cX5_popPair zn_cX5_popPair rfl)
theorem dX5_popPair_5 : decode cX5_popPair 5 = .ok (.iload_n 1, 1) := zo_27 (zkb zk_cX5_popPair zn_cX5_popPair rfl)
theorem dX5_popPair_6 : decode cX5_popPair 6 = .ok (.iconst 3, 1) := zo_6 (zkb zk_cX5_popPair zn_cX5_popPair rfl)
theorem dX5_popPair_7 : decode cX5_popPair 7 = .ok (.if_icmp .ne 12, 3) := zo_160 (b1 := 0) (b2 := 12) (zkb3 zk_cX5_popPair zn_cX5_popPair rfl) rfl
theorem dX5_popPair_10 : decode cX5_popPair 10 = .ok (.aload_n 0, 1) := zo_42 (zkb zk_cX5_popPair zn_cX5_popPair rfl)
theorem dX5_popPair_11 : decode cX5_popPair 11 = .ok (.iconst 0, 1) := zo_3 (zkb zk_cX5_popPair zn_cX5_popPair rfl)
theorem dX5_popPair_12 : decode cX5_popPair 12 = .ok (.iload_n 2, 1) := zo_28 (zkb zk_cX5_popPair zn_cX5_popPair rfl)
theorem dX5_popPair_13 : decode cX5_popPair 13 = .ok (.invokevirtual 121, 3) := zo_182 (b1 := 0) (b2 := 121) (zkb3 zk_cX5_popPair zn_cX5_popPair rfl) rfl
theorem dX5_popPair_16 : decode cX5_popPair 16 = .ok (.goto 9, 3) := zo_167 (b1 := 0) (b2 := 9) (zkb3 zk_cX5_popPair zn_cX5_popPair rfl) rfl
theorem dX5_popPair_19 : decode cX5_popPair 19 = .ok (.aload_n 0, 1) := zo_42 (zkb zk_cX5_popPair zn_cX5_popPair rfl)
theorem dX5_popPair_20 : decode cX5_popPair 20 = .ok (.iload_n 1, 1) := zo_27 (zkb zk_cX5_popPair zn_cX5_popPair rfl)
theorem dX5_popPair_21 : decode cX5_popPair 21 = .ok (.iload_n 2, 1) := zo_28 (zkb zk_cX5_popPair zn_cX5_popPair rfl)
theorem dX5_popPair_22 : decode cX5_popPair 22 = .ok (.invokevirtual 157, 3) := zo_182 (b1 := 0) (b2 := 157) (zkb3 zk_cX5_popPair zn_cX5_popPair rfl) rfl
theorem dX5_popPair_25 : decode cX5_popPair 25 = .ok (.bipush 10, 2) := zo_16 (b1 := 10) (zkb2 zk_cX5_popPair zn_cX5_popPair rfl) rfl
theorem dX5_popPair_27 : decode cX5_popPair 27 = .ok (.ireturn, 1) := zo_172 (zkb zk_cX5_popPair zn_cX5_popPair rfl)
noncomputable def kn_cX5_leave : Nat := 0xac06104f7c00b62a12100900b42aac074f7c00b62a13100900b42aac07f2ffa7010284af00b61c2a0e00a307101c3d05ac0a103e00b6d100b62a2a3b000000260000001b0000000200000000000000480000000000aa1b
theorem zk_cX5_leave : zkd cX5_leave.data.toList kn_cX5_leave = true := by decide +kernel
theorem zn_cX5_leave : cX5_leave.data.toList.length = 87 := by decide +kernel
theorem dX5_leave_0 : decode cX5_leave 0 = .ok (.iload_n 1, 1) := zo_27 (zkb zk_cX5_leave zn_cX5_leave rfl)
theorem dX5_leave_1 : decode cX5_leave 1 = .ok (.tableswitch 72 0 2 #[27, 38, 59], 27) := by decide +kernel
theorem dX5_leave_28 : decode cX5_leave 28 = .ok (.aload_n 0, 1) := zo_42 (zkb zk_cX5_leave zn_cX5_leave rfl)
theorem dX5_leave_29 : decode cX5_leave 29 = .ok (.aload_n 0, 1) := zo_42 (zkb zk_cX5_leave zn_cX5_leave rfl)
theorem dX5_leave_30 : decode cX5_leave 30 = .ok (.invokevirtual 209, 3) := zo_182 (b1 := 0) (b2 := 209) (zkb3 zk_cX5_leave zn_cX5_leave rfl) rfl
theorem dX5_leave_33 : decode cX5_leave 33 = .ok (.invokevirtual 62, 3) := zo_182 (b1 := 0) (b2 := 62) (zkb3 zk_cX5_leave zn_cX5_leave rfl) rfl
theorem dX5_leave_36 : decode cX5_leave 36 = .ok (.bipush 10, 2) := zo_16 (b1 := 10) (zkb2 zk_cX5_leave zn_cX5_leave rfl) rfl
theorem dX5_leave_38 : decode cX5_leave 38 = .ok (.ireturn, 1) := zo_172 (zkb zk_cX5_leave zn_cX5_leave rfl)
theorem dX5_leave_39 : decode cX5_leave 39 = .ok (.iconst 2, 1) := zo_5 (zkb zk_cX5_leave zn_cX5_leave rfl)
theorem dX5_leave_40 : decode cX5_leave 40 = .ok (.istore_n 2, 1) := zo_61 (zkb zk_cX5_leave zn_cX5_leave rfl)
theorem dX5_leave_41 : decode cX5_leave 41 = .ok (.iload_n 2, 1) := zo_28 (zkb zk_cX5_leave zn_cX5_leave rfl)
theorem dX5_leave_42 : decode cX5_leave 42 = .ok (.bipush 7, 2) := zo_16 (b1 := 7) (zkb2 zk_cX5_leave zn_cX5_leave rfl) rfl
theorem dX5_leave_44 : decode cX5_leave 44 = .ok (.if_icmp .gt 14, 3) := zo_163 (b1 := 0) (b2 := 14) (zkb3 zk_cX5_leave zn_cX5_leave rfl) rfl
theorem dX5_leave_47 : decode cX5_leave 47 = .ok (.aload_n 0, 1) := zo_42 (zkb zk_cX5_leave zn_cX5_leave rfl)
theorem dX5_leave_48 : decode cX5_leave 48 = .ok (.iload_n 2, 1) := zo_28 (zkb zk_cX5_leave zn_cX5_leave rfl)
theorem dX5_leave_49 : decode cX5_leave 49 = .ok (.invokevirtual 175, 3) := zo_182 (b1 := 0) (b2 := 175) (zkb3 zk_cX5_leave zn_cX5_leave rfl) rfl
theorem dX5_leave_52 : decode cX5_leave 52 = .ok (.iinc 2 1, 3) := zo_132 (b1 := 2) (b2 := 1) (zkb3 zk_cX5_leave zn_cX5_leave rfl) rfl
theorem dX5_leave_55 : decode cX5_leave 55 = .ok (.goto (-14), 3) := zo_167 (b1 := 255) (b2 := 242) (zkb3 zk_cX5_leave zn_cX5_leave rfl) rfl
theorem dX5_leave_58 : decode cX5_leave 58 = .ok (.iconst 4, 1) := zo_7 (zkb zk_cX5_leave zn_cX5_leave rfl)
theorem dX5_leave_59 : decode cX5_leave 59 = .ok (.ireturn, 1) := zo_172 (zkb zk_cX5_leave zn_cX5_leave rfl)
theorem dX5_leave_60 : decode cX5_leave 60 = .ok (.aload_n 0, 1) := zo_42 (zkb zk_cX5_leave zn_cX5_leave rfl)
theorem dX5_leave_61 : decode cX5_leave 61 = .ok (.getfield 9, 3) := zo_180 (b1 := 0) (b2 := 9) (zkb3 zk_cX5_leave zn_cX5_leave rfl) rfl
theorem dX5_leave_64 : decode cX5_leave 64 = .ok (.bipush 19, 2) := zo_16 (b1 := 19) (zkb2 zk_cX5_leave zn_cX5_leave rfl) rfl
theorem dX5_leave_66 : decode cX5_leave 66 = .ok (.aload_n 0, 1) := zo_42 (zkb zk_cX5_leave zn_cX5_leave rfl)
theorem dX5_leave_67 : decode cX5_leave 67 = .ok (.invokevirtual 124, 3) := zo_182 (b1 := 0) (b2 := 124) (zkb3 zk_cX5_leave zn_cX5_leave rfl) rfl
theorem dX5_leave_70 : decode cX5_leave 70 = .ok (.iastore, 1) := zo_79 (zkb zk_cX5_leave zn_cX5_leave rfl)
theorem dX5_leave_71 : decode cX5_leave 71 = .ok (.iconst 4, 1) := zo_7 (zkb zk_cX5_leave zn_cX5_leave rfl)
theorem dX5_leave_72 : decode cX5_leave 72 = .ok (.ireturn, 1) := zo_172 (zkb zk_cX5_leave zn_cX5_leave rfl)
theorem dX5_leave_73 : decode cX5_leave 73 = .ok (.aload_n 0, 1) := zo_42 (zkb zk_cX5_leave zn_cX5_leave rfl)
theorem dX5_leave_74 : decode cX5_leave 74 = .ok (.getfield 9, 3) := zo_180 (b1 := 0) (b2 := 9) (zkb3 zk_cX5_leave zn_cX5_leave rfl) rfl
theorem dX5_leave_77 : decode cX5_leave 77 = .ok (.bipush 18, 2) := zo_16 (b1 := 18) (zkb2 zk_cX5_leave zn_cX5_leave rfl) rfl
theorem dX5_leave_79 : decode cX5_leave 79 = .ok (.aload_n 0, 1) := zo_42 (zkb zk_cX5_leave zn_cX5_leave rfl)
theorem dX5_leave_80 : decode cX5_leave 80 = .ok (.invokevirtual 124, 3) := zo_182 (b1 := 0) (b2 := 124) (zkb3 zk_cX5_leave zn_cX5_leave rfl) rfl
theorem dX5_leave_83 : decode cX5_leave 83 = .ok (.iastore, 1) := zo_79 (zkb zk_cX5_leave zn_cX5_leave rfl)
theorem dX5_leave_84 : decode cX5_leave 84 = .ok (.bipush 6, 2) := zo_16 (b1 := 6) (zkb2 zk_cX5_leave zn_cX5_leave rfl) rfl
theorem dX5_leave_86 : decode cX5_leave 86 = .ok (.ireturn, 1) := zo_172 (zkb zk_cX5_leave zn_cX5_leave rfl)
noncomputable def kn_cX5_callIf : Nat := 0xac11104f1c13100900b42a3b00b62e13100900b42a2aac0a1006009a1b4f1c14100900b42a3db500b62a
theorem zk_cX5_callIf : zkd cX5_callIf.data.toList kn_cX5_callIf = true := by decide +kernel
theorem zn_cX5_callIf : cX5_callIf.data.toList.length = 42 := by decide +kernel
theorem dX5_callIf_0 : decode cX5_callIf 0 = .ok (.aload_n 0, 1) := zo_42 (zkb zk_cX5_callIf zn_cX5_callIf rfl)
theorem dX5_callIf_1 : decode cX5_callIf 1 = .ok (.invokevirtual 181, 3) := zo_182 (b1 := 0) (b2 := 181) (zkb3 zk_cX5_callIf zn_cX5_callIf rfl) rfl
theorem dX5_callIf_4 : decode cX5_callIf 4 = .ok (.istore_n 2, 1) := zo_61 (zkb zk_cX5_callIf zn_cX5_callIf rfl)
theorem dX5_callIf_5 : decode cX5_callIf 5 = .ok (.aload_n 0, 1) := zo_42 (zkb zk_cX5_callIf zn_cX5_callIf rfl)
theorem dX5_callIf_6 : decode cX5_callIf 6 = .ok (.getfield 9, 3) := zo_180 (b1 := 0) (b2 := 9) (zkb3 zk_cX5_callIf zn_cX5_callIf rfl) rfl
theorem dX5_callIf_9 : decode cX5_callIf 9 = .ok (.bipush 20, 2) := zo_16 (b1 := 20) (zkb2 zk_cX5_callIf zn_cX5_callIf rfl) rfl
theorem dX5_callIf_11 : decode cX5_callIf 11 = .ok (.iload_n 2, 1) := zo_28 (zkb zk_cX5_callIf zn_cX5_callIf rfl)
theorem dX5_callIf_12 : decode cX5_callIf 12 = .ok (.iastore, 1) := zo_79 (zkb zk_cX5_callIf zn_cX5_callIf rfl)
theorem dX5_callIf_13 : decode cX5_callIf 13 = .ok (.iload_n 1, 1) := zo_27 (zkb zk_cX5_callIf zn_cX5_callIf rfl)
theorem dX5_callIf_14 : decode cX5_callIf 14 = .ok (.ifCond .ne 6, 3) := zo_154 (b1 := 0) (b2 := 6) (zkb3 zk_cX5_callIf zn_cX5_callIf rfl) rfl
theorem dX5_callIf_17 : decode cX5_callIf 17 = .ok (.bipush 10, 2) := zo_16 (b1 := 10) (zkb2 zk_cX5_callIf zn_cX5_callIf rfl) rfl
theorem dX5_callIf_19 : decode cX5_callIf 19 = .ok (.ireturn, 1) := zo_172 (zkb zk_cX5_callIf zn_cX5_callIf rfl)
theorem dX5_callIf_20 : decode cX5_callIf 20 = .ok (.aload_n 0, 1) := zo_42 (zkb zk_cX5_callIf zn_cX5_callIf rfl)
theorem dX5_callIf_21 : decode cX5_callIf 21 = .ok (.aload_n 0, 1) := zo_42 (zkb zk_cX5_callIf zn_cX5_callIf rfl)
theorem dX5_callIf_22 : decode cX5_callIf 22 = .ok (.getfield 9, 3) := zo_180 (b1 := 0) (b2 := 9) (zkb3 zk_cX5_callIf zn_cX5_callIf rfl) rfl
theorem dX5_callIf_25 : decode cX5_callIf 25 = .ok (.bipush 19, 2) := zo_16 (b1 := 19) (zkb2 zk_cX5_callIf zn_cX5_callIf rfl) rfl
theorem dX5_callIf_27 : decode cX5_callIf 27 = .ok (.iaload, 1) := zo_46 (zkb zk_cX5_callIf zn_cX5_callIf rfl)
theorem dX5_callIf_28 : decode cX5_callIf 28 = .ok (.invokevirtual 59, 3) := zo_182 (b1 := 0) (b2 := 59) (zkb3 zk_cX5_callIf zn_cX5_callIf rfl) rfl
theorem dX5_callIf_31 : decode cX5_callIf 31 = .ok (.aload_n 0, 1) := zo_42 (zkb zk_cX5_callIf zn_cX5_callIf rfl)
theorem dX5_callIf_32 : decode cX5_callIf 32 = .ok (.getfield 9, 3) := zo_180 (b1 := 0) (b2 := 9) (zkb3 zk_cX5_callIf zn_cX5_callIf rfl) rfl
theorem dX5_callIf_35 : decode cX5_callIf 35 = .ok (.bipush 19, 2) := zo_16 (b1 := 19) (zkb2 zk_cX5_callIf zn_cX5_callIf rfl) rfl
theorem dX5_callIf_37 : decode cX5_callIf 37 = .ok (.iload_n 2, 1) := zo_28 (zkb zk_cX5_callIf zn_cX5_callIf rfl)
theorem dX5_callIf_38 : decode cX5_callIf 38 = .ok (.iastore, 1) := zo_79 (zkb zk_cX5_callIf zn_cX5_callIf rfl)
theorem dX5_callIf_39 : decode cX5_callIf 39 = .ok (.bipush 17, 2) := zo_16 (b1 := 17) (zkb2 zk_cX5_callIf zn_cX5_callIf rfl) rfl
theorem dX5_callIf_41 : decode cX5_callIf 41 = .ok (.ireturn, 1) := zo_172 (zkb zk_cX5_callIf zn_cX5_callIf rfl)
noncomputable def kn_cX5_exchange : Nat := 0xac074f7e041b1c100900b42a4f7e041b18100900b42a4f7e041b17100900b42aac077900b61c06102a7900b64100b606102a072a3d4100b6072aac13104f1c14100900b42a7f00b61c2ab800b67c00b62a2e12100900b42a2a3d3400b62e12100900b42a2aac0b104fe100b61c1800b42a030900b42a4f7e2f126004801c7808102e030900b42a14100900b42a3d7200b62aac0b104f807eff001160041c7808102e030900b42a14100900b42ade00b62e030900b42a1c1800b42a3d7200b62aac0a103e00b6b500b62a2ab80000008d0000006000000032000000d2000000270000000500000000000000d20000000000aa1b
theorem zk_cX5_exchange : zkd cX5_exchange.data.toList kn_cX5_exchange = true := by decide +kernel
theorem zn_cX5_exchange : cX5_exchange.data.toList.length = 243 := by decide +kernel
theorem dX5_exchange_0 : decode cX5_exchange 0 = .ok (.iload_n 1, 1) := zo_27 (zkb zk_cX5_exchange zn_cX5_exchange rfl)
theorem dX5_exchange_1 : decode cX5_exchange 1 = .ok (.tableswitch 210 0 5 #[39, 210, 50, 96, 141, 184], 39) := by decide +kernel
theorem dX5_exchange_40 : decode cX5_exchange 40 = .ok (.aload_n 0, 1) := zo_42 (zkb zk_cX5_exchange zn_cX5_exchange rfl)
theorem dX5_exchange_41 : decode cX5_exchange 41 = .ok (.aload_n 0, 1) := zo_42 (zkb zk_cX5_exchange zn_cX5_exchange rfl)
theorem dX5_exchange_42 : decode cX5_exchange 42 = .ok (.invokevirtual 181, 3) := zo_182 (b1 := 0) (b2 := 181) (zkb3 zk_cX5_exchange zn_cX5_exchange rfl) rfl
theorem dX5_exchange_45 : decode cX5_exchange 45 = .ok (.invokevirtual 62, 3) := zo_182 (b1 := 0) (b2 := 62) (zkb3 zk_cX5_exchange zn_cX5_exchange rfl) rfl
theorem dX5_exchange_48 : decode cX5_exchange 48 = .ok (.bipush 10, 2) := zo_16 (b1 := 10) (zkb2 zk_cX5_exchange zn_cX5_exchange rfl) rfl
theorem dX5_exchange_50 : decode cX5_exchange 50 = .ok (.ireturn, 1) := zo_172 (zkb zk_cX5_exchange zn_cX5_exchange rfl)
theorem dX5_exchange_51 : decode cX5_exchange 51 = .ok (.aload_n 0, 1) := zo_42 (zkb zk_cX5_exchange zn_cX5_exchange rfl)
theorem dX5_exchange_52 : decode cX5_exchange 52 = .ok (.invokevirtual 114, 3) := zo_182 (b1 := 0) (b2 := 114) (zkb3 zk_cX5_exchange zn_cX5_exchange rfl) rfl
theorem dX5_exchange_55 : decode cX5_exchange 55 = .ok (.istore_n 2, 1) := zo_61 (zkb zk_cX5_exchange zn_cX5_exchange rfl)
theorem dX5_exchange_56 : decode cX5_exchange 56 = .ok (.aload_n 0, 1) := zo_42 (zkb zk_cX5_exchange zn_cX5_exchange rfl)
theorem dX5_exchange_57 : decode cX5_exchange 57 = .ok (.getfield 24, 3) := zo_180 (b1 := 0) (b2 := 24) (zkb3 zk_cX5_exchange zn_cX5_exchange rfl) rfl
theorem dX5_exchange_60 : decode cX5_exchange 60 = .ok (.iload_n 2, 1) := zo_28 (zkb zk_cX5_exchange zn_cX5_exchange rfl)
theorem dX5_exchange_61 : decode cX5_exchange 61 = .ok (.aload_n 0, 1) := zo_42 (zkb zk_cX5_exchange zn_cX5_exchange rfl)
theorem dX5_exchange_62 : decode cX5_exchange 62 = .ok (.getfield 9, 3) := zo_180 (b1 := 0) (b2 := 9) (zkb3 zk_cX5_exchange zn_cX5_exchange rfl) rfl
theorem dX5_exchange_65 : decode cX5_exchange 65 = .ok (.iconst 0, 1) := zo_3 (zkb zk_cX5_exchange zn_cX5_exchange rfl)
theorem dX5_exchange_66 : decode cX5_exchange 66 = .ok (.iaload, 1) := zo_46 (zkb zk_cX5_exchange zn_cX5_exchange rfl)
theorem dX5_exchange_67 : decode cX5_exchange 67 = .ok (.invokevirtual 222, 3) := zo_182 (b1 := 0) (b2 := 222) (zkb3 zk_cX5_exchange zn_cX5_exchange rfl) rfl
theorem dX5_exchange_70 : decode cX5_exchange 70 = .ok (.aload_n 0, 1) := zo_42 (zkb zk_cX5_exchange zn_cX5_exchange rfl)
theorem dX5_exchange_71 : decode cX5_exchange 71 = .ok (.getfield 9, 3) := zo_180 (b1 := 0) (b2 := 9) (zkb3 zk_cX5_exchange zn_cX5_exchange rfl) rfl
theorem dX5_exchange_74 : decode cX5_exchange 74 = .ok (.bipush 20, 2) := zo_16 (b1 := 20) (zkb2 zk_cX5_exchange zn_cX5_exchange rfl) rfl
theorem dX5_exchange_76 : decode cX5_exchange 76 = .ok (.aload_n 0, 1) := zo_42 (zkb zk_cX5_exchange zn_cX5_exchange rfl)
theorem dX5_exchange_77 : decode cX5_exchange 77 = .ok (.getfield 9, 3) := zo_180 (b1 := 0) (b2 := 9) (zkb3 zk_cX5_exchange zn_cX5_exchange rfl) rfl
theorem dX5_exchange_80 : decode cX5_exchange 80 = .ok (.iconst 0, 1) := zo_3 (zkb zk_cX5_exchange zn_cX5_exchange rfl)
theorem dX5_exchange_81 : decode cX5_exchange 81 = .ok (.iaload, 1) := zo_46 (zkb zk_cX5_exchange zn_cX5_exchange rfl)
theorem dX5_exchange_82 : decode cX5_exchange 82 = .ok (.bipush 8, 2) := zo_16 (b1 := 8) (zkb2 zk_cX5_exchange zn_cX5_exchange rfl) rfl
theorem dX5_exchange_84 : decode cX5_exchange 84 = .ok (.ishl, 1) := zo_120 (zkb zk_cX5_exchange zn_cX5_exchange rfl)
theorem dX5_exchange_85 : decode cX5_exchange 85 = .ok (.iload_n 2, 1) := zo_28 (zkb zk_cX5_exchange zn_cX5_exchange rfl)
theorem dX5_exchange_86 : decode cX5_exchange 86 = .ok (.iconst 1, 1) := zo_4 (zkb zk_cX5_exchange zn_cX5_exchange rfl)
theorem dX5_exchange_87 : decode cX5_exchange 87 = .ok (.iadd, 1) := zo_96 (zkb zk_cX5_exchange zn_cX5_exchange rfl)
theorem dX5_exchange_88 : decode cX5_exchange 88 = .ok (.sipush 255, 3) := zo_17 (b1 := 0) (b2 := 255) (zkb3 zk_cX5_exchange zn_cX5_exchange rfl) rfl
theorem dX5_exchange_91 : decode cX5_exchange 91 = .ok (.iand, 1) := zo_126 (zkb zk_cX5_exchange zn_cX5_exchange rfl)
theorem dX5_exchange_92 : decode cX5_exchange 92 = .ok (.ior, 1) := zo_128 (zkb zk_cX5_exchange zn_cX5_exchange rfl)
theorem dX5_exchange_93 : decode cX5_exchange 93 = .ok (.iastore, 1) := zo_79 (zkb zk_cX5_exchange zn_cX5_exchange rfl)
theorem dX5_exchange_94 : decode cX5_exchange 94 = .ok (.bipush 11, 2) := zo_16 (b1 := 11) (zkb2 zk_cX5_exchange zn_cX5_exchange rfl) rfl
theorem dX5_exchange_96 : decode cX5_exchange 96 = .ok (.ireturn, 1) := zo_172 (zkb zk_cX5_exchange zn_cX5_exchange rfl)
theorem dX5_exchange_97 : decode cX5_exchange 97 = .ok (.aload_n 0, 1) := zo_42 (zkb zk_cX5_exchange zn_cX5_exchange rfl)
theorem dX5_exchange_98 : decode cX5_exchange 98 = .ok (.invokevirtual 114, 3) := zo_182 (b1 := 0) (b2 := 114) (zkb3 zk_cX5_exchange zn_cX5_exchange rfl) rfl
theorem dX5_exchange_101 : decode cX5_exchange 101 = .ok (.istore_n 2, 1) := zo_61 (zkb zk_cX5_exchange zn_cX5_exchange rfl)
theorem dX5_exchange_102 : decode cX5_exchange 102 = .ok (.aload_n 0, 1) := zo_42 (zkb zk_cX5_exchange zn_cX5_exchange rfl)
theorem dX5_exchange_103 : decode cX5_exchange 103 = .ok (.getfield 9, 3) := zo_180 (b1 := 0) (b2 := 9) (zkb3 zk_cX5_exchange zn_cX5_exchange rfl) rfl
theorem dX5_exchange_106 : decode cX5_exchange 106 = .ok (.bipush 20, 2) := zo_16 (b1 := 20) (zkb2 zk_cX5_exchange zn_cX5_exchange rfl) rfl
theorem dX5_exchange_108 : decode cX5_exchange 108 = .ok (.aload_n 0, 1) := zo_42 (zkb zk_cX5_exchange zn_cX5_exchange rfl)
theorem dX5_exchange_109 : decode cX5_exchange 109 = .ok (.getfield 9, 3) := zo_180 (b1 := 0) (b2 := 9) (zkb3 zk_cX5_exchange zn_cX5_exchange rfl) rfl
theorem dX5_exchange_112 : decode cX5_exchange 112 = .ok (.iconst 0, 1) := zo_3 (zkb zk_cX5_exchange zn_cX5_exchange rfl)
theorem dX5_exchange_113 : decode cX5_exchange 113 = .ok (.iaload, 1) := zo_46 (zkb zk_cX5_exchange zn_cX5_exchange rfl)
theorem dX5_exchange_114 : decode cX5_exchange 114 = .ok (.bipush 8, 2) := zo_16 (b1 := 8) (zkb2 zk_cX5_exchange zn_cX5_exchange rfl) rfl
theorem dX5_exchange_116 : decode cX5_exchange 116 = .ok (.ishl, 1) := zo_120 (zkb zk_cX5_exchange zn_cX5_exchange rfl)
theorem dX5_exchange_117 : decode cX5_exchange 117 = .ok (.iload_n 2, 1) := zo_28 (zkb zk_cX5_exchange zn_cX5_exchange rfl)
theorem dX5_exchange_118 : decode cX5_exchange 118 = .ok (.ior, 1) := zo_128 (zkb zk_cX5_exchange zn_cX5_exchange rfl)
theorem dX5_exchange_119 : decode cX5_exchange 119 = .ok (.iconst 1, 1) := zo_4 (zkb zk_cX5_exchange zn_cX5_exchange rfl)
theorem dX5_exchange_120 : decode cX5_exchange 120 = .ok (.iadd, 1) := zo_96 (zkb zk_cX5_exchange zn_cX5_exchange rfl)
theorem dX5_exchange_121 : decode cX5_exchange 121 = .ok (.ldc 47, 2) := zo_18 (b1 := 47) (zkb2 zk_cX5_exchange zn_cX5_exchange rfl)
theorem dX5_exchange_123 : decode cX5_exchange 123 = .ok (.iand, 1) := zo_126 (zkb zk_cX5_exchange zn_cX5_exchange rfl)
theorem dX5_exchange_124 : decode cX5_exchange 124 = .ok (.iastore, 1) := zo_79 (zkb zk_cX5_exchange zn_cX5_exchange rfl)
theorem dX5_exchange_125 : decode cX5_exchange 125 = .ok (.aload_n 0, 1) := zo_42 (zkb zk_cX5_exchange zn_cX5_exchange rfl)
theorem dX5_exchange_126 : decode cX5_exchange 126 = .ok (.getfield 9, 3) := zo_180 (b1 := 0) (b2 := 9) (zkb3 zk_cX5_exchange zn_cX5_exchange rfl) rfl
theorem dX5_exchange_129 : decode cX5_exchange 129 = .ok (.iconst 0, 1) := zo_3 (zkb zk_cX5_exchange zn_cX5_exchange rfl)
theorem dX5_exchange_130 : decode cX5_exchange 130 = .ok (.aload_n 0, 1) := zo_42 (zkb zk_cX5_exchange zn_cX5_exchange rfl)
theorem dX5_exchange_131 : decode cX5_exchange 131 = .ok (.getfield 24, 3) := zo_180 (b1 := 0) (b2 := 24) (zkb3 zk_cX5_exchange zn_cX5_exchange rfl) rfl
theorem dX5_exchange_134 : decode cX5_exchange 134 = .ok (.iload_n 2, 1) := zo_28 (zkb zk_cX5_exchange zn_cX5_exchange rfl)
theorem dX5_exchange_135 : decode cX5_exchange 135 = .ok (.invokevirtual 225, 3) := zo_182 (b1 := 0) (b2 := 225) (zkb3 zk_cX5_exchange zn_cX5_exchange rfl) rfl
theorem dX5_exchange_138 : decode cX5_exchange 138 = .ok (.iastore, 1) := zo_79 (zkb zk_cX5_exchange zn_cX5_exchange rfl)
theorem dX5_exchange_139 : decode cX5_exchange 139 = .ok (.bipush 11, 2) := zo_16 (b1 := 11) (zkb2 zk_cX5_exchange zn_cX5_exchange rfl) rfl
theorem dX5_exchange_141 : decode cX5_exchange 141 = .ok (.ireturn, 1) := zo_172 (zkb zk_cX5_exchange zn_cX5_exchange rfl)
theorem dX5_exchange_142 : decode cX5_exchange 142 = .ok (.aload_n 0, 1) := zo_42 (zkb zk_cX5_exchange zn_cX5_exchange rfl)
theorem dX5_exchange_143 : decode cX5_exchange 143 = .ok (.aload_n 0, 1) := zo_42 (zkb zk_cX5_exchange zn_cX5_exchange rfl)
theorem dX5_exchange_144 : decode cX5_exchange 144 = .ok (.getfield 9, 3) := zo_180 (b1 := 0) (b2 := 9) (zkb3 zk_cX5_exchange zn_cX5_exchange rfl) rfl
theorem dX5_exchange_147 : decode cX5_exchange 147 = .ok (.bipush 18, 2) := zo_16 (b1 := 18) (zkb2 zk_cX5_exchange zn_cX5_exchange rfl) rfl
theorem dX5_exchange_149 : decode cX5_exchange 149 = .ok (.iaload, 1) := zo_46 (zkb zk_cX5_exchange zn_cX5_exchange rfl)
theorem dX5_exchange_150 : decode cX5_exchange 150 = .ok (.invokevirtual 52, 3) := zo_182 (b1 := 0) (b2 := 52) (zkb3 zk_cX5_exchange zn_cX5_exchange rfl) rfl
theorem dX5_exchange_153 : decode cX5_exchange 153 = .ok (.istore_n 2, 1) := zo_61 (zkb zk_cX5_exchange zn_cX5_exchange rfl)
theorem dX5_exchange_154 : decode cX5_exchange 154 = .ok (.aload_n 0, 1) := zo_42 (zkb zk_cX5_exchange zn_cX5_exchange rfl)
theorem dX5_exchange_155 : decode cX5_exchange 155 = .ok (.aload_n 0, 1) := zo_42 (zkb zk_cX5_exchange zn_cX5_exchange rfl)
theorem dX5_exchange_156 : decode cX5_exchange 156 = .ok (.getfield 9, 3) := zo_180 (b1 := 0) (b2 := 9) (zkb3 zk_cX5_exchange zn_cX5_exchange rfl) rfl
theorem dX5_exchange_159 : decode cX5_exchange 159 = .ok (.bipush 18, 2) := zo_16 (b1 := 18) (zkb2 zk_cX5_exchange zn_cX5_exchange rfl) rfl
theorem dX5_exchange_161 : decode cX5_exchange 161 = .ok (.iaload, 1) := zo_46 (zkb zk_cX5_exchange zn_cX5_exchange rfl)
theorem dX5_exchange_162 : decode cX5_exchange 162 = .ok (.aload_n 0, 1) := zo_42 (zkb zk_cX5_exchange zn_cX5_exchange rfl)
theorem dX5_exchange_163 : decode cX5_exchange 163 = .ok (.invokevirtual 124, 3) := zo_182 (b1 := 0) (b2 := 124) (zkb3 zk_cX5_exchange zn_cX5_exchange rfl) rfl
theorem dX5_exchange_166 : decode cX5_exchange 166 = .ok (.invokevirtual 184, 3) := zo_182 (b1 := 0) (b2 := 184) (zkb3 zk_cX5_exchange zn_cX5_exchange rfl) rfl
theorem dX5_exchange_169 : decode cX5_exchange 169 = .ok (.aload_n 0, 1) := zo_42 (zkb zk_cX5_exchange zn_cX5_exchange rfl)
theorem dX5_exchange_170 : decode cX5_exchange 170 = .ok (.iload_n 2, 1) := zo_28 (zkb zk_cX5_exchange zn_cX5_exchange rfl)
theorem dX5_exchange_171 : decode cX5_exchange 171 = .ok (.invokevirtual 127, 3) := zo_182 (b1 := 0) (b2 := 127) (zkb3 zk_cX5_exchange zn_cX5_exchange rfl) rfl
theorem dX5_exchange_174 : decode cX5_exchange 174 = .ok (.aload_n 0, 1) := zo_42 (zkb zk_cX5_exchange zn_cX5_exchange rfl)
theorem dX5_exchange_175 : decode cX5_exchange 175 = .ok (.getfield 9, 3) := zo_180 (b1 := 0) (b2 := 9) (zkb3 zk_cX5_exchange zn_cX5_exchange rfl) rfl
theorem dX5_exchange_178 : decode cX5_exchange 178 = .ok (.bipush 20, 2) := zo_16 (b1 := 20) (zkb2 zk_cX5_exchange zn_cX5_exchange rfl) rfl
theorem dX5_exchange_180 : decode cX5_exchange 180 = .ok (.iload_n 2, 1) := zo_28 (zkb zk_cX5_exchange zn_cX5_exchange rfl)
theorem dX5_exchange_181 : decode cX5_exchange 181 = .ok (.iastore, 1) := zo_79 (zkb zk_cX5_exchange zn_cX5_exchange rfl)
theorem dX5_exchange_182 : decode cX5_exchange 182 = .ok (.bipush 19, 2) := zo_16 (b1 := 19) (zkb2 zk_cX5_exchange zn_cX5_exchange rfl) rfl
theorem dX5_exchange_184 : decode cX5_exchange 184 = .ok (.ireturn, 1) := zo_172 (zkb zk_cX5_exchange zn_cX5_exchange rfl)
theorem dX5_exchange_185 : decode cX5_exchange 185 = .ok (.aload_n 0, 1) := zo_42 (zkb zk_cX5_exchange zn_cX5_exchange rfl)
theorem dX5_exchange_186 : decode cX5_exchange 186 = .ok (.iconst 4, 1) := zo_7 (zkb zk_cX5_exchange zn_cX5_exchange rfl)
theorem dX5_exchange_187 : decode cX5_exchange 187 = .ok (.invokevirtual 65, 3) := zo_182 (b1 := 0) (b2 := 65) (zkb3 zk_cX5_exchange zn_cX5_exchange rfl) rfl
theorem dX5_exchange_190 : decode cX5_exchange 190 = .ok (.istore_n 2, 1) := zo_61 (zkb zk_cX5_exchange zn_cX5_exchange rfl)
theorem dX5_exchange_191 : decode cX5_exchange 191 = .ok (.aload_n 0, 1) := zo_42 (zkb zk_cX5_exchange zn_cX5_exchange rfl)
theorem dX5_exchange_192 : decode cX5_exchange 192 = .ok (.iconst 4, 1) := zo_7 (zkb zk_cX5_exchange zn_cX5_exchange rfl)
theorem dX5_exchange_193 : decode cX5_exchange 193 = .ok (.aload_n 0, 1) := zo_42 (zkb zk_cX5_exchange zn_cX5_exchange rfl)
theorem dX5_exchange_194 : decode cX5_exchange 194 = .ok (.bipush 6, 2) := zo_16 (b1 := 6) (zkb2 zk_cX5_exchange zn_cX5_exchange rfl) rfl
theorem dX5_exchange_196 : decode cX5_exchange 196 = .ok (.invokevirtual 65, 3) := zo_182 (b1 := 0) (b2 := 65) (zkb3 zk_cX5_exchange zn_cX5_exchange rfl) rfl
theorem dX5_exchange_199 : decode cX5_exchange 199 = .ok (.invokevirtual 121, 3) := zo_182 (b1 := 0) (b2 := 121) (zkb3 zk_cX5_exchange zn_cX5_exchange rfl) rfl
theorem dX5_exchange_202 : decode cX5_exchange 202 = .ok (.aload_n 0, 1) := zo_42 (zkb zk_cX5_exchange zn_cX5_exchange rfl)
theorem dX5_exchange_203 : decode cX5_exchange 203 = .ok (.bipush 6, 2) := zo_16 (b1 := 6) (zkb2 zk_cX5_exchange zn_cX5_exchange rfl) rfl
theorem dX5_exchange_205 : decode cX5_exchange 205 = .ok (.iload_n 2, 1) := zo_28 (zkb zk_cX5_exchange zn_cX5_exchange rfl)
theorem dX5_exchange_206 : decode cX5_exchange 206 = .ok (.invokevirtual 121, 3) := zo_182 (b1 := 0) (b2 := 121) (zkb3 zk_cX5_exchange zn_cX5_exchange rfl) rfl
theorem dX5_exchange_209 : decode cX5_exchange 209 = .ok (.iconst 4, 1) := zo_7 (zkb zk_cX5_exchange zn_cX5_exchange rfl)
theorem dX5_exchange_210 : decode cX5_exchange 210 = .ok (.ireturn, 1) := zo_172 (zkb zk_cX5_exchange zn_cX5_exchange rfl)
theorem dX5_exchange_211 : decode cX5_exchange 211 = .ok (.aload_n 0, 1) := zo_42 (zkb zk_cX5_exchange zn_cX5_exchange rfl)
theorem dX5_exchange_212 : decode cX5_exchange 212 = .ok (.getfield 9, 3) := zo_180 (b1 := 0) (b2 := 9) (zkb3 zk_cX5_exchange zn_cX5_exchange rfl) rfl
theorem dX5_exchange_215 : decode cX5_exchange 215 = .ok (.bipush 23, 2) := zo_16 (b1 := 23) (zkb2 zk_cX5_exchange zn_cX5_exchange rfl) rfl
theorem dX5_exchange_217 : decode cX5_exchange 217 = .ok (.iload_n 1, 1) := zo_27 (zkb zk_cX5_exchange zn_cX5_exchange rfl)
theorem dX5_exchange_218 : decode cX5_exchange 218 = .ok (.iconst 1, 1) := zo_4 (zkb zk_cX5_exchange zn_cX5_exchange rfl)
theorem dX5_exchange_219 : decode cX5_exchange 219 = .ok (.iand, 1) := zo_126 (zkb zk_cX5_exchange zn_cX5_exchange rfl)
theorem dX5_exchange_220 : decode cX5_exchange 220 = .ok (.iastore, 1) := zo_79 (zkb zk_cX5_exchange zn_cX5_exchange rfl)
theorem dX5_exchange_221 : decode cX5_exchange 221 = .ok (.aload_n 0, 1) := zo_42 (zkb zk_cX5_exchange zn_cX5_exchange rfl)
theorem dX5_exchange_222 : decode cX5_exchange 222 = .ok (.getfield 9, 3) := zo_180 (b1 := 0) (b2 := 9) (zkb3 zk_cX5_exchange zn_cX5_exchange rfl) rfl
theorem dX5_exchange_225 : decode cX5_exchange 225 = .ok (.bipush 24, 2) := zo_16 (b1 := 24) (zkb2 zk_cX5_exchange zn_cX5_exchange rfl) rfl
theorem dX5_exchange_227 : decode cX5_exchange 227 = .ok (.iload_n 1, 1) := zo_27 (zkb zk_cX5_exchange zn_cX5_exchange rfl)
theorem dX5_exchange_228 : decode cX5_exchange 228 = .ok (.iconst 1, 1) := zo_4 (zkb zk_cX5_exchange zn_cX5_exchange rfl)
theorem dX5_exchange_229 : decode cX5_exchange 229 = .ok (.iand, 1) := zo_126 (zkb zk_cX5_exchange zn_cX5_exchange rfl)
theorem dX5_exchange_230 : decode cX5_exchange 230 = .ok (.iastore, 1) := zo_79 (zkb zk_cX5_exchange zn_cX5_exchange rfl)
theorem dX5_exchange_231 : decode cX5_exchange 231 = .ok (.aload_n 0, 1) := zo_42 (zkb zk_cX5_exchange zn_cX5_exchange rfl)
theorem dX5_exchange_232 : decode cX5_exchange 232 = .ok (.getfield 9, 3) := zo_180 (b1 := 0) (b2 := 9) (zkb3 zk_cX5_exchange zn_cX5_exchange rfl) rfl
theorem dX5_exchange_235 : decode cX5_exchange 235 = .ok (.bipush 28, 2) := zo_16 (b1 := 28) (zkb2 zk_cX5_exchange zn_cX5_exchange rfl) rfl
theorem dX5_exchange_237 : decode cX5_exchange 237 = .ok (.iload_n 1, 1) := zo_27 (zkb zk_cX5_exchange zn_cX5_exchange rfl)
theorem dX5_exchange_238 : decode cX5_exchange 238 = .ok (.iconst 1, 1) := zo_4 (zkb zk_cX5_exchange zn_cX5_exchange rfl)
theorem dX5_exchange_239 : decode cX5_exchange 239 = .ok (.iand, 1) := zo_126 (zkb zk_cX5_exchange zn_cX5_exchange rfl)
theorem dX5_exchange_240 : decode cX5_exchange 240 = .ok (.iastore, 1) := zo_79 (zkb zk_cX5_exchange zn_cX5_exchange rfl)
theorem dX5_exchange_241 : decode cX5_exchange 241 = .ok (.iconst 4, 1) := zo_7 (zkb zk_cX5_exchange zn_cX5_exchange rfl)
theorem dX5_exchange_242 : decode cX5_exchange 242 = .ok (.ireturn, 1) := zo_172 (zkb zk_cX5_exchange zn_cX5_exchange rfl)
noncomputable def kn_cX5_behindEd : Nat := 0xacf800b61c2aac08104ff500b864047e061c0319100900b42aac0e104f2e18100900b42a17100900b42a3e00b6d100b62a2aac08104fce00b6032e030900b42a032a030900b42aacf200b61c2aacef00b67a041c2a0a00a7ec00b67a041c2a0d009a7e041cac0c10de00b6a000b61c2a0800a7030700a006101c2e060900b42a1800b42a4f7e2f1260044100b6052a14100900b42aac0c10e900b61c2a4f7e2f1260044100b6052a14100900b42abf000000a6000000910000008b00000073000000430000002a0000000600000000000000d200000000aa7e07101b3d7e07107a061bac081006009f047a06101b
theorem zk_cX5_behindEd : zkd cX5_behindEd.data.toList kn_cX5_behindEd = true := by decide +kernel
theorem zn_cX5_behindEd : cX5_behindEd.data.toList.length = 238 := by decide +kernel
theorem dX5_behindEd_0 : decode cX5_behindEd 0 = .ok (.iload_n 1, 1) := zo_27 (zkb zk_cX5_behindEd zn_cX5_behindEd rfl)
theorem dX5_behindEd_1 : decode cX5_behindEd 1 = .ok (.bipush 6, 2) := zo_16 (b1 := 6) (zkb2 zk_cX5_behindEd zn_cX5_behindEd rfl) rfl
theorem dX5_behindEd_3 : decode cX5_behindEd 3 = .ok (.ishr, 1) := zo_122 (zkb zk_cX5_behindEd zn_cX5_behindEd rfl)
theorem dX5_behindEd_4 : decode cX5_behindEd 4 = .ok (.iconst 1, 1) := zo_4 (zkb zk_cX5_behindEd zn_cX5_behindEd rfl)
theorem dX5_behindEd_5 : decode cX5_behindEd 5 = .ok (.if_icmp .eq 6, 3) := zo_159 (b1 := 0) (b2 := 6) (zkb3 zk_cX5_behindEd zn_cX5_behindEd rfl) rfl
theorem dX5_behindEd_8 : decode cX5_behindEd 8 = .ok (.bipush 8, 2) := zo_16 (b1 := 8) (zkb2 zk_cX5_behindEd zn_cX5_behindEd rfl) rfl
theorem dX5_behindEd_10 : decode cX5_behindEd 10 = .ok (.ireturn, 1) := zo_172 (zkb zk_cX5_behindEd zn_cX5_behindEd rfl)
theorem dX5_behindEd_11 : decode cX5_behindEd 11 = .ok (.iload_n 1, 1) := zo_27 (zkb zk_cX5_behindEd zn_cX5_behindEd rfl)
theorem dX5_behindEd_12 : decode cX5_behindEd 12 = .ok (.iconst 3, 1) := zo_6 (zkb zk_cX5_behindEd zn_cX5_behindEd rfl)
theorem dX5_behindEd_13 : decode cX5_behindEd 13 = .ok (.ishr, 1) := zo_122 (zkb zk_cX5_behindEd zn_cX5_behindEd rfl)
theorem dX5_behindEd_14 : decode cX5_behindEd 14 = .ok (.bipush 7, 2) := zo_16 (b1 := 7) (zkb2 zk_cX5_behindEd zn_cX5_behindEd rfl) rfl
theorem dX5_behindEd_16 : decode cX5_behindEd 16 = .ok (.iand, 1) := zo_126 (zkb zk_cX5_behindEd zn_cX5_behindEd rfl)
theorem dX5_behindEd_17 : decode cX5_behindEd 17 = .ok (.istore_n 2, 1) := zo_61 (zkb zk_cX5_behindEd zn_cX5_behindEd rfl)
theorem dX5_behindEd_18 : decode cX5_behindEd 18 = .ok (.iload_n 1, 1) := zo_27 (zkb zk_cX5_behindEd zn_cX5_behindEd rfl)
theorem dX5_behindEd_19 : decode cX5_behindEd 19 = .ok (.bipush 7, 2) := zo_16 (b1 := 7) (zkb2 zk_cX5_behindEd zn_cX5_behindEd rfl) rfl
theorem dX5_behindEd_21 : decode cX5_behindEd 21 = .ok (.iand, 1) := zo_126 (zkb zk_cX5_behindEd zn_cX5_behindEd rfl)
theorem dX5_behindEd_22 : decode cX5_behindEd 22 = .ok (.tableswitch 210 0 6 #[42, 67, 115, 139, 145, 166, 191], 42) := by decide +kernel
theorem dX5_behindEd_64 : decode cX5_behindEd 64 = .ok (.aload_n 0, 1) := zo_42 (zkb zk_cX5_behindEd zn_cX5_behindEd rfl)
theorem dX5_behindEd_65 : decode cX5_behindEd 65 = .ok (.getfield 9, 3) := zo_180 (b1 := 0) (b2 := 9) (zkb3 zk_cX5_behindEd zn_cX5_behindEd rfl) rfl
theorem dX5_behindEd_68 : decode cX5_behindEd 68 = .ok (.bipush 20, 2) := zo_16 (b1 := 20) (zkb2 zk_cX5_behindEd zn_cX5_behindEd rfl) rfl
theorem dX5_behindEd_70 : decode cX5_behindEd 70 = .ok (.aload_n 0, 1) := zo_42 (zkb zk_cX5_behindEd zn_cX5_behindEd rfl)
theorem dX5_behindEd_71 : decode cX5_behindEd 71 = .ok (.iconst 2, 1) := zo_5 (zkb zk_cX5_behindEd zn_cX5_behindEd rfl)
theorem dX5_behindEd_72 : decode cX5_behindEd 72 = .ok (.invokevirtual 65, 3) := zo_182 (b1 := 0) (b2 := 65) (zkb3 zk_cX5_behindEd zn_cX5_behindEd rfl) rfl
theorem dX5_behindEd_75 : decode cX5_behindEd 75 = .ok (.iconst 1, 1) := zo_4 (zkb zk_cX5_behindEd zn_cX5_behindEd rfl)
theorem dX5_behindEd_76 : decode cX5_behindEd 76 = .ok (.iadd, 1) := zo_96 (zkb zk_cX5_behindEd zn_cX5_behindEd rfl)
theorem dX5_behindEd_77 : decode cX5_behindEd 77 = .ok (.ldc 47, 2) := zo_18 (b1 := 47) (zkb2 zk_cX5_behindEd zn_cX5_behindEd rfl)
theorem dX5_behindEd_79 : decode cX5_behindEd 79 = .ok (.iand, 1) := zo_126 (zkb zk_cX5_behindEd zn_cX5_behindEd rfl)
theorem dX5_behindEd_80 : decode cX5_behindEd 80 = .ok (.iastore, 1) := zo_79 (zkb zk_cX5_behindEd zn_cX5_behindEd rfl)
theorem dX5_behindEd_81 : decode cX5_behindEd 81 = .ok (.aload_n 0, 1) := zo_42 (zkb zk_cX5_behindEd zn_cX5_behindEd rfl)
theorem dX5_behindEd_82 : decode cX5_behindEd 82 = .ok (.iload_n 2, 1) := zo_28 (zkb zk_cX5_behindEd zn_cX5_behindEd rfl)
theorem dX5_behindEd_83 : decode cX5_behindEd 83 = .ok (.invokevirtual 233, 3) := zo_182 (b1 := 0) (b2 := 233) (zkb3 zk_cX5_behindEd zn_cX5_behindEd rfl) rfl
theorem dX5_behindEd_86 : decode cX5_behindEd 86 = .ok (.bipush 12, 2) := zo_16 (b1 := 12) (zkb2 zk_cX5_behindEd zn_cX5_behindEd rfl) rfl
theorem dX5_behindEd_88 : decode cX5_behindEd 88 = .ok (.ireturn, 1) := zo_172 (zkb zk_cX5_behindEd zn_cX5_behindEd rfl)
theorem dX5_behindEd_89 : decode cX5_behindEd 89 = .ok (.aload_n 0, 1) := zo_42 (zkb zk_cX5_behindEd zn_cX5_behindEd rfl)
theorem dX5_behindEd_90 : decode cX5_behindEd 90 = .ok (.getfield 9, 3) := zo_180 (b1 := 0) (b2 := 9) (zkb3 zk_cX5_behindEd zn_cX5_behindEd rfl) rfl
theorem dX5_behindEd_93 : decode cX5_behindEd 93 = .ok (.bipush 20, 2) := zo_16 (b1 := 20) (zkb2 zk_cX5_behindEd zn_cX5_behindEd rfl) rfl
theorem dX5_behindEd_95 : decode cX5_behindEd 95 = .ok (.aload_n 0, 1) := zo_42 (zkb zk_cX5_behindEd zn_cX5_behindEd rfl)
theorem dX5_behindEd_96 : decode cX5_behindEd 96 = .ok (.iconst 2, 1) := zo_5 (zkb zk_cX5_behindEd zn_cX5_behindEd rfl)
theorem dX5_behindEd_97 : decode cX5_behindEd 97 = .ok (.invokevirtual 65, 3) := zo_182 (b1 := 0) (b2 := 65) (zkb3 zk_cX5_behindEd zn_cX5_behindEd rfl) rfl
theorem dX5_behindEd_100 : decode cX5_behindEd 100 = .ok (.iconst 1, 1) := zo_4 (zkb zk_cX5_behindEd zn_cX5_behindEd rfl)
theorem dX5_behindEd_101 : decode cX5_behindEd 101 = .ok (.iadd, 1) := zo_96 (zkb zk_cX5_behindEd zn_cX5_behindEd rfl)
theorem dX5_behindEd_102 : decode cX5_behindEd 102 = .ok (.ldc 47, 2) := zo_18 (b1 := 47) (zkb2 zk_cX5_behindEd zn_cX5_behindEd rfl)
theorem dX5_behindEd_104 : decode cX5_behindEd 104 = .ok (.iand, 1) := zo_126 (zkb zk_cX5_behindEd zn_cX5_behindEd rfl)
theorem dX5_behindEd_105 : decode cX5_behindEd 105 = .ok (.iastore, 1) := zo_79 (zkb zk_cX5_behindEd zn_cX5_behindEd rfl)
theorem dX5_behindEd_106 : decode cX5_behindEd 106 = .ok (.aload_n 0, 1) := zo_42 (zkb zk_cX5_behindEd zn_cX5_behindEd rfl)
theorem dX5_behindEd_107 : decode cX5_behindEd 107 = .ok (.getfield 24, 3) := zo_180 (b1 := 0) (b2 := 24) (zkb3 zk_cX5_behindEd zn_cX5_behindEd rfl) rfl
theorem dX5_behindEd_110 : decode cX5_behindEd 110 = .ok (.aload_n 0, 1) := zo_42 (zkb zk_cX5_behindEd zn_cX5_behindEd rfl)
theorem dX5_behindEd_111 : decode cX5_behindEd 111 = .ok (.getfield 9, 3) := zo_180 (b1 := 0) (b2 := 9) (zkb3 zk_cX5_behindEd zn_cX5_behindEd rfl) rfl
theorem dX5_behindEd_114 : decode cX5_behindEd 114 = .ok (.iconst 3, 1) := zo_6 (zkb zk_cX5_behindEd zn_cX5_behindEd rfl)
theorem dX5_behindEd_115 : decode cX5_behindEd 115 = .ok (.iaload, 1) := zo_46 (zkb zk_cX5_behindEd zn_cX5_behindEd rfl)
theorem dX5_behindEd_116 : decode cX5_behindEd 116 = .ok (.iload_n 2, 1) := zo_28 (zkb zk_cX5_behindEd zn_cX5_behindEd rfl)
theorem dX5_behindEd_117 : decode cX5_behindEd 117 = .ok (.bipush 6, 2) := zo_16 (b1 := 6) (zkb2 zk_cX5_behindEd zn_cX5_behindEd rfl) rfl
theorem dX5_behindEd_119 : decode cX5_behindEd 119 = .ok (.if_icmp .ne 7, 3) := zo_160 (b1 := 0) (b2 := 7) (zkb3 zk_cX5_behindEd zn_cX5_behindEd rfl) rfl
theorem dX5_behindEd_122 : decode cX5_behindEd 122 = .ok (.iconst 0, 1) := zo_3 (zkb zk_cX5_behindEd zn_cX5_behindEd rfl)
theorem dX5_behindEd_123 : decode cX5_behindEd 123 = .ok (.goto 8, 3) := zo_167 (b1 := 0) (b2 := 8) (zkb3 zk_cX5_behindEd zn_cX5_behindEd rfl) rfl
theorem dX5_behindEd_126 : decode cX5_behindEd 126 = .ok (.aload_n 0, 1) := zo_42 (zkb zk_cX5_behindEd zn_cX5_behindEd rfl)
theorem dX5_behindEd_127 : decode cX5_behindEd 127 = .ok (.iload_n 2, 1) := zo_28 (zkb zk_cX5_behindEd zn_cX5_behindEd rfl)
theorem dX5_behindEd_128 : decode cX5_behindEd 128 = .ok (.invokevirtual 160, 3) := zo_182 (b1 := 0) (b2 := 160) (zkb3 zk_cX5_behindEd zn_cX5_behindEd rfl) rfl
theorem dX5_behindEd_131 : decode cX5_behindEd 131 = .ok (.invokevirtual 222, 3) := zo_182 (b1 := 0) (b2 := 222) (zkb3 zk_cX5_behindEd zn_cX5_behindEd rfl) rfl
theorem dX5_behindEd_134 : decode cX5_behindEd 134 = .ok (.bipush 12, 2) := zo_16 (b1 := 12) (zkb2 zk_cX5_behindEd zn_cX5_behindEd rfl) rfl
theorem dX5_behindEd_136 : decode cX5_behindEd 136 = .ok (.ireturn, 1) := zo_172 (zkb zk_cX5_behindEd zn_cX5_behindEd rfl)
theorem dX5_behindEd_137 : decode cX5_behindEd 137 = .ok (.iload_n 2, 1) := zo_28 (zkb zk_cX5_behindEd zn_cX5_behindEd rfl)
theorem dX5_behindEd_138 : decode cX5_behindEd 138 = .ok (.iconst 1, 1) := zo_4 (zkb zk_cX5_behindEd zn_cX5_behindEd rfl)
theorem dX5_behindEd_139 : decode cX5_behindEd 139 = .ok (.iand, 1) := zo_126 (zkb zk_cX5_behindEd zn_cX5_behindEd rfl)
theorem dX5_behindEd_140 : decode cX5_behindEd 140 = .ok (.ifCond .ne 13, 3) := zo_154 (b1 := 0) (b2 := 13) (zkb3 zk_cX5_behindEd zn_cX5_behindEd rfl) rfl
theorem dX5_behindEd_143 : decode cX5_behindEd 143 = .ok (.aload_n 0, 1) := zo_42 (zkb zk_cX5_behindEd zn_cX5_behindEd rfl)
theorem dX5_behindEd_144 : decode cX5_behindEd 144 = .ok (.iload_n 2, 1) := zo_28 (zkb zk_cX5_behindEd zn_cX5_behindEd rfl)
theorem dX5_behindEd_145 : decode cX5_behindEd 145 = .ok (.iconst 1, 1) := zo_4 (zkb zk_cX5_behindEd zn_cX5_behindEd rfl)
theorem dX5_behindEd_146 : decode cX5_behindEd 146 = .ok (.ishr, 1) := zo_122 (zkb zk_cX5_behindEd zn_cX5_behindEd rfl)
theorem dX5_behindEd_147 : decode cX5_behindEd 147 = .ok (.invokevirtual 236, 3) := zo_182 (b1 := 0) (b2 := 236) (zkb3 zk_cX5_behindEd zn_cX5_behindEd rfl) rfl
theorem dX5_behindEd_150 : decode cX5_behindEd 150 = .ok (.goto 10, 3) := zo_167 (b1 := 0) (b2 := 10) (zkb3 zk_cX5_behindEd zn_cX5_behindEd rfl) rfl
theorem dX5_behindEd_153 : decode cX5_behindEd 153 = .ok (.aload_n 0, 1) := zo_42 (zkb zk_cX5_behindEd zn_cX5_behindEd rfl)
theorem dX5_behindEd_154 : decode cX5_behindEd 154 = .ok (.iload_n 2, 1) := zo_28 (zkb zk_cX5_behindEd zn_cX5_behindEd rfl)
theorem dX5_behindEd_155 : decode cX5_behindEd 155 = .ok (.iconst 1, 1) := zo_4 (zkb zk_cX5_behindEd zn_cX5_behindEd rfl)
theorem dX5_behindEd_156 : decode cX5_behindEd 156 = .ok (.ishr, 1) := zo_122 (zkb zk_cX5_behindEd zn_cX5_behindEd rfl)
theorem dX5_behindEd_157 : decode cX5_behindEd 157 = .ok (.invokevirtual 239, 3) := zo_182 (b1 := 0) (b2 := 239) (zkb3 zk_cX5_behindEd zn_cX5_behindEd rfl) rfl
theorem dX5_behindEd_160 : decode cX5_behindEd 160 = .ok (.ireturn, 1) := zo_172 (zkb zk_cX5_behindEd zn_cX5_behindEd rfl)
theorem dX5_behindEd_161 : decode cX5_behindEd 161 = .ok (.aload_n 0, 1) := zo_42 (zkb zk_cX5_behindEd zn_cX5_behindEd rfl)
theorem dX5_behindEd_162 : decode cX5_behindEd 162 = .ok (.iload_n 2, 1) := zo_28 (zkb zk_cX5_behindEd zn_cX5_behindEd rfl)
theorem dX5_behindEd_163 : decode cX5_behindEd 163 = .ok (.invokevirtual 242, 3) := zo_182 (b1 := 0) (b2 := 242) (zkb3 zk_cX5_behindEd zn_cX5_behindEd rfl) rfl
theorem dX5_behindEd_166 : decode cX5_behindEd 166 = .ok (.ireturn, 1) := zo_172 (zkb zk_cX5_behindEd zn_cX5_behindEd rfl)
theorem dX5_behindEd_167 : decode cX5_behindEd 167 = .ok (.aload_n 0, 1) := zo_42 (zkb zk_cX5_behindEd zn_cX5_behindEd rfl)
theorem dX5_behindEd_168 : decode cX5_behindEd 168 = .ok (.getfield 9, 3) := zo_180 (b1 := 0) (b2 := 9) (zkb3 zk_cX5_behindEd zn_cX5_behindEd rfl) rfl
theorem dX5_behindEd_171 : decode cX5_behindEd 171 = .ok (.iconst 0, 1) := zo_3 (zkb zk_cX5_behindEd zn_cX5_behindEd rfl)
theorem dX5_behindEd_172 : decode cX5_behindEd 172 = .ok (.aload_n 0, 1) := zo_42 (zkb zk_cX5_behindEd zn_cX5_behindEd rfl)
theorem dX5_behindEd_173 : decode cX5_behindEd 173 = .ok (.iconst 0, 1) := zo_3 (zkb zk_cX5_behindEd zn_cX5_behindEd rfl)
theorem dX5_behindEd_174 : decode cX5_behindEd 174 = .ok (.aload_n 0, 1) := zo_42 (zkb zk_cX5_behindEd zn_cX5_behindEd rfl)
theorem dX5_behindEd_175 : decode cX5_behindEd 175 = .ok (.getfield 9, 3) := zo_180 (b1 := 0) (b2 := 9) (zkb3 zk_cX5_behindEd zn_cX5_behindEd rfl) rfl
theorem dX5_behindEd_178 : decode cX5_behindEd 178 = .ok (.iconst 0, 1) := zo_3 (zkb zk_cX5_behindEd zn_cX5_behindEd rfl)
theorem dX5_behindEd_179 : decode cX5_behindEd 179 = .ok (.iaload, 1) := zo_46 (zkb zk_cX5_behindEd zn_cX5_behindEd rfl)
theorem dX5_behindEd_180 : decode cX5_behindEd 180 = .ok (.iconst 0, 1) := zo_3 (zkb zk_cX5_behindEd zn_cX5_behindEd rfl)
theorem dX5_behindEd_181 : decode cX5_behindEd 181 = .ok (.invokevirtual 206, 3) := zo_182 (b1 := 0) (b2 := 206) (zkb3 zk_cX5_behindEd zn_cX5_behindEd rfl) rfl
theorem dX5_behindEd_184 : decode cX5_behindEd 184 = .ok (.iastore, 1) := zo_79 (zkb zk_cX5_behindEd zn_cX5_behindEd rfl)
theorem dX5_behindEd_185 : decode cX5_behindEd 185 = .ok (.bipush 8, 2) := zo_16 (b1 := 8) (zkb2 zk_cX5_behindEd zn_cX5_behindEd rfl) rfl
theorem dX5_behindEd_187 : decode cX5_behindEd 187 = .ok (.ireturn, 1) := zo_172 (zkb zk_cX5_behindEd zn_cX5_behindEd rfl)
theorem dX5_behindEd_188 : decode cX5_behindEd 188 = .ok (.aload_n 0, 1) := zo_42 (zkb zk_cX5_behindEd zn_cX5_behindEd rfl)
theorem dX5_behindEd_189 : decode cX5_behindEd 189 = .ok (.aload_n 0, 1) := zo_42 (zkb zk_cX5_behindEd zn_cX5_behindEd rfl)
theorem dX5_behindEd_190 : decode cX5_behindEd 190 = .ok (.invokevirtual 209, 3) := zo_182 (b1 := 0) (b2 := 209) (zkb3 zk_cX5_behindEd zn_cX5_behindEd rfl) rfl
theorem dX5_behindEd_193 : decode cX5_behindEd 193 = .ok (.invokevirtual 62, 3) := zo_182 (b1 := 0) (b2 := 62) (zkb3 zk_cX5_behindEd zn_cX5_behindEd rfl) rfl
theorem dX5_behindEd_196 : decode cX5_behindEd 196 = .ok (.aload_n 0, 1) := zo_42 (zkb zk_cX5_behindEd zn_cX5_behindEd rfl)
theorem dX5_behindEd_197 : decode cX5_behindEd 197 = .ok (.getfield 9, 3) := zo_180 (b1 := 0) (b2 := 9) (zkb3 zk_cX5_behindEd zn_cX5_behindEd rfl) rfl
theorem dX5_behindEd_200 : decode cX5_behindEd 200 = .ok (.bipush 23, 2) := zo_16 (b1 := 23) (zkb2 zk_cX5_behindEd zn_cX5_behindEd rfl) rfl
theorem dX5_behindEd_202 : decode cX5_behindEd 202 = .ok (.aload_n 0, 1) := zo_42 (zkb zk_cX5_behindEd zn_cX5_behindEd rfl)
theorem dX5_behindEd_203 : decode cX5_behindEd 203 = .ok (.getfield 9, 3) := zo_180 (b1 := 0) (b2 := 9) (zkb3 zk_cX5_behindEd zn_cX5_behindEd rfl) rfl
theorem dX5_behindEd_206 : decode cX5_behindEd 206 = .ok (.bipush 24, 2) := zo_16 (b1 := 24) (zkb2 zk_cX5_behindEd zn_cX5_behindEd rfl) rfl
theorem dX5_behindEd_208 : decode cX5_behindEd 208 = .ok (.iaload, 1) := zo_46 (zkb zk_cX5_behindEd zn_cX5_behindEd rfl)
theorem dX5_behindEd_209 : decode cX5_behindEd 209 = .ok (.iastore, 1) := zo_79 (zkb zk_cX5_behindEd zn_cX5_behindEd rfl)
theorem dX5_behindEd_210 : decode cX5_behindEd 210 = .ok (.bipush 14, 2) := zo_16 (b1 := 14) (zkb2 zk_cX5_behindEd zn_cX5_behindEd rfl) rfl
theorem dX5_behindEd_212 : decode cX5_behindEd 212 = .ok (.ireturn, 1) := zo_172 (zkb zk_cX5_behindEd zn_cX5_behindEd rfl)
theorem dX5_behindEd_213 : decode cX5_behindEd 213 = .ok (.aload_n 0, 1) := zo_42 (zkb zk_cX5_behindEd zn_cX5_behindEd rfl)
theorem dX5_behindEd_214 : decode cX5_behindEd 214 = .ok (.getfield 9, 3) := zo_180 (b1 := 0) (b2 := 9) (zkb3 zk_cX5_behindEd zn_cX5_behindEd rfl) rfl
theorem dX5_behindEd_217 : decode cX5_behindEd 217 = .ok (.bipush 25, 2) := zo_16 (b1 := 25) (zkb2 zk_cX5_behindEd zn_cX5_behindEd rfl) rfl
theorem dX5_behindEd_219 : decode cX5_behindEd 219 = .ok (.iconst 0, 1) := zo_3 (zkb zk_cX5_behindEd zn_cX5_behindEd rfl)
theorem dX5_behindEd_220 : decode cX5_behindEd 220 = .ok (.iload_n 2, 1) := zo_28 (zkb zk_cX5_behindEd zn_cX5_behindEd rfl)
theorem dX5_behindEd_221 : decode cX5_behindEd 221 = .ok (.iconst 3, 1) := zo_6 (zkb zk_cX5_behindEd zn_cX5_behindEd rfl)
theorem dX5_behindEd_222 : decode cX5_behindEd 222 = .ok (.iand, 1) := zo_126 (zkb zk_cX5_behindEd zn_cX5_behindEd rfl)
theorem dX5_behindEd_223 : decode cX5_behindEd 223 = .ok (.iconst 1, 1) := zo_4 (zkb zk_cX5_behindEd zn_cX5_behindEd rfl)
theorem dX5_behindEd_224 : decode cX5_behindEd 224 = .ok (.isub, 1) := zo_100 (zkb zk_cX5_behindEd zn_cX5_behindEd rfl)
theorem dX5_behindEd_225 : decode cX5_behindEd 225 = .ok (.invokestatic 245, 3) := zo_184 (b1 := 0) (b2 := 245) (zkb3 zk_cX5_behindEd zn_cX5_behindEd rfl) rfl
theorem dX5_behindEd_228 : decode cX5_behindEd 228 = .ok (.iastore, 1) := zo_79 (zkb zk_cX5_behindEd zn_cX5_behindEd rfl)
theorem dX5_behindEd_229 : decode cX5_behindEd 229 = .ok (.bipush 8, 2) := zo_16 (b1 := 8) (zkb2 zk_cX5_behindEd zn_cX5_behindEd rfl) rfl
theorem dX5_behindEd_231 : decode cX5_behindEd 231 = .ok (.ireturn, 1) := zo_172 (zkb zk_cX5_behindEd zn_cX5_behindEd rfl)
theorem dX5_behindEd_232 : decode cX5_behindEd 232 = .ok (.aload_n 0, 1) := zo_42 (zkb zk_cX5_behindEd zn_cX5_behindEd rfl)
theorem dX5_behindEd_233 : decode cX5_behindEd 233 = .ok (.iload_n 2, 1) := zo_28 (zkb zk_cX5_behindEd zn_cX5_behindEd rfl)
theorem dX5_behindEd_234 : decode cX5_behindEd 234 = .ok (.invokevirtual 248, 3) := zo_182 (b1 := 0) (b2 := 248) (zkb3 zk_cX5_behindEd zn_cX5_behindEd rfl) rfl
theorem dX5_behindEd_237 : decode cX5_behindEd 237 = .ok (.ireturn, 1) := zo_172 (zkb zk_cX5_behindEd zn_cX5_behindEd rfl)
noncomputable def kn_cX5_takeFromPort : Nat := 0xb14f80c400b81c80bb00b81c7e042e040900b42a040900b42aa600b61c1b2a09009f06101b3de100b62e060900b42a1800b42a
theorem zk_cX5_takeFromPort : zkd cX5_takeFromPort.data.toList kn_cX5_takeFromPort = true := by decide +kernel
theorem zn_cX5_takeFromPort : cX5_takeFromPort.data.toList.length = 51 := by decide +kernel
theorem dX5_takeFromPort_0 : decode cX5_takeFromPort 0 = .ok (.aload_n 0, 1) := zo_42 (zkb zk_cX5_takeFromPort zn_cX5_takeFromPort rfl)
theorem dX5_takeFromPort_1 : decode cX5_takeFromPort 1 = .ok (.getfield 24, 3) := zo_180 (b1 := 0) (b2 := 24) (zkb3 zk_cX5_takeFromPort zn_cX5_takeFromPort rfl) rfl
theorem dX5_takeFromPort_4 : decode cX5_takeFromPort 4 = .ok (.aload_n 0, 1) := zo_42 (zkb zk_cX5_takeFromPort zn_cX5_takeFromPort rfl)
theorem dX5_takeFromPort_5 : decode cX5_takeFromPort 5 = .ok (.getfield 9, 3) := zo_180 (b1 := 0) (b2 := 9) (zkb3 zk_cX5_takeFromPort zn_cX5_takeFromPort rfl) rfl
theorem dX5_takeFromPort_8 : decode cX5_takeFromPort 8 = .ok (.iconst 3, 1) := zo_6 (zkb zk_cX5_takeFromPort zn_cX5_takeFromPort rfl)
theorem dX5_takeFromPort_9 : decode cX5_takeFromPort 9 = .ok (.iaload, 1) := zo_46 (zkb zk_cX5_takeFromPort zn_cX5_takeFromPort rfl)
theorem dX5_takeFromPort_10 : decode cX5_takeFromPort 10 = .ok (.invokevirtual 225, 3) := zo_182 (b1 := 0) (b2 := 225) (zkb3 zk_cX5_takeFromPort zn_cX5_takeFromPort rfl) rfl
theorem dX5_takeFromPort_13 : decode cX5_takeFromPort 13 = .ok (.istore_n 2, 1) := zo_61 (zkb zk_cX5_takeFromPort zn_cX5_takeFromPort rfl)
theorem dX5_takeFromPort_14 : decode cX5_takeFromPort 14 = .ok (.iload_n 1, 1) := zo_27 (zkb zk_cX5_takeFromPort zn_cX5_takeFromPort rfl)
theorem dX5_takeFromPort_15 : decode cX5_takeFromPort 15 = .ok (.bipush 6, 2) := zo_16 (b1 := 6) (zkb2 zk_cX5_takeFromPort zn_cX5_takeFromPort rfl) rfl
theorem dX5_takeFromPort_17 : decode cX5_takeFromPort 17 = .ok (.if_icmp .eq 9, 3) := zo_159 (b1 := 0) (b2 := 9) (zkb3 zk_cX5_takeFromPort zn_cX5_takeFromPort rfl) rfl
theorem dX5_takeFromPort_20 : decode cX5_takeFromPort 20 = .ok (.aload_n 0, 1) := zo_42 (zkb zk_cX5_takeFromPort zn_cX5_takeFromPort rfl)
theorem dX5_takeFromPort_21 : decode cX5_takeFromPort 21 = .ok (.iload_n 1, 1) := zo_27 (zkb zk_cX5_takeFromPort zn_cX5_takeFromPort rfl)
theorem dX5_takeFromPort_22 : decode cX5_takeFromPort 22 = .ok (.iload_n 2, 1) := zo_28 (zkb zk_cX5_takeFromPort zn_cX5_takeFromPort rfl)
theorem dX5_takeFromPort_23 : decode cX5_takeFromPort 23 = .ok (.invokevirtual 166, 3) := zo_182 (b1 := 0) (b2 := 166) (zkb3 zk_cX5_takeFromPort zn_cX5_takeFromPort rfl) rfl
theorem dX5_takeFromPort_26 : decode cX5_takeFromPort 26 = .ok (.aload_n 0, 1) := zo_42 (zkb zk_cX5_takeFromPort zn_cX5_takeFromPort rfl)
theorem dX5_takeFromPort_27 : decode cX5_takeFromPort 27 = .ok (.getfield 9, 3) := zo_180 (b1 := 0) (b2 := 9) (zkb3 zk_cX5_takeFromPort zn_cX5_takeFromPort rfl) rfl
theorem dX5_takeFromPort_30 : decode cX5_takeFromPort 30 = .ok (.iconst 1, 1) := zo_4 (zkb zk_cX5_takeFromPort zn_cX5_takeFromPort rfl)
theorem dX5_takeFromPort_31 : decode cX5_takeFromPort 31 = .ok (.aload_n 0, 1) := zo_42 (zkb zk_cX5_takeFromPort zn_cX5_takeFromPort rfl)
theorem dX5_takeFromPort_32 : decode cX5_takeFromPort 32 = .ok (.getfield 9, 3) := zo_180 (b1 := 0) (b2 := 9) (zkb3 zk_cX5_takeFromPort zn_cX5_takeFromPort rfl) rfl
theorem dX5_takeFromPort_35 : decode cX5_takeFromPort 35 = .ok (.iconst 1, 1) := zo_4 (zkb zk_cX5_takeFromPort zn_cX5_takeFromPort rfl)
theorem dX5_takeFromPort_36 : decode cX5_takeFromPort 36 = .ok (.iaload, 1) := zo_46 (zkb zk_cX5_takeFromPort zn_cX5_takeFromPort rfl)
theorem dX5_takeFromPort_37 : decode cX5_takeFromPort 37 = .ok (.iconst 1, 1) := zo_4 (zkb zk_cX5_takeFromPort zn_cX5_takeFromPort rfl)
theorem dX5_takeFromPort_38 : decode cX5_takeFromPort 38 = .ok (.iand, 1) := zo_126 (zkb zk_cX5_takeFromPort zn_cX5_takeFromPort rfl)
theorem dX5_takeFromPort_39 : decode cX5_takeFromPort 39 = .ok (.iload_n 2, 1) := zo_28 (zkb zk_cX5_takeFromPort zn_cX5_takeFromPort rfl)
theorem dX5_takeFromPort_40 : decode cX5_takeFromPort 40 = .ok (.invokestatic 187, 3) := zo_184 (b1 := 0) (b2 := 187) (zkb3 zk_cX5_takeFromPort zn_cX5_takeFromPort rfl) rfl
theorem dX5_takeFromPort_43 : decode cX5_takeFromPort 43 = .ok (.ior, 1) := zo_128 (zkb zk_cX5_takeFromPort zn_cX5_takeFromPort rfl)
theorem dX5_takeFromPort_44 : decode cX5_takeFromPort 44 = .ok (.iload_n 2, 1) := zo_28 (zkb zk_cX5_takeFromPort zn_cX5_takeFromPort rfl)
theorem dX5_takeFromPort_45 : decode cX5_takeFromPort 45 = .ok (.invokestatic 196, 3) := zo_184 (b1 := 0) (b2 := 196) (zkb3 zk_cX5_takeFromPort zn_cX5_takeFromPort rfl) rfl
theorem dX5_takeFromPort_48 : decode cX5_takeFromPort 48 = .ok (.ior, 1) := zo_128 (zkb zk_cX5_takeFromPort zn_cX5_takeFromPort rfl)
theorem dX5_takeFromPort_49 : decode cX5_takeFromPort 49 = .ok (.iastore, 1) := zo_79 (zkb zk_cX5_takeFromPort zn_cX5_takeFromPort rfl)
theorem dX5_takeFromPort_50 : decode cX5_takeFromPort 50 = .ok (.return_, 1) := zo_177 (zkb zk_cX5_takeFromPort zn_cX5_takeFromPort rfl)
noncomputable def kn_cX5_takePair : Nat := 0xac0f104f808005030400a70707009905152e5c040900b42a05367efe127e8204151c821d1cfb00b604151d1c2a0436647e042e040900b42a641d1c3e9a00b61b2a3d7c00b62a
theorem zk_cX5_takePair : zkd cX5_takePair.data.toList kn_cX5_takePair = true := by decide +kernel
theorem zn_cX5_takePair : cX5_takePair.data.toList.length = 70 := by decide +kernel
theorem dX5_takePair_0 : decode cX5_takePair 0 = .ok (.aload_n 0, 1) := zo_42 (zkb zk_cX5_takePair zn_cX5_takePair rfl)
theorem dX5_takePair_1 : decode cX5_takePair 1 = .ok (.invokevirtual 124, 3) := zo_182 (b1 := 0) (b2 := 124) (zkb3 zk_cX5_takePair zn_cX5_takePair rfl) rfl
theorem dX5_takePair_4 : decode cX5_takePair 4 = .ok (.istore_n 2, 1) := zo_61 (zkb zk_cX5_takePair zn_cX5_takePair rfl)
theorem dX5_takePair_5 : decode cX5_takePair 5 = .ok (.aload_n 0, 1) := zo_42 (zkb zk_cX5_takePair zn_cX5_takePair rfl)
theorem dX5_takePair_6 : decode cX5_takePair 6 = .ok (.iload_n 1, 1) := zo_27 (zkb zk_cX5_takePair zn_cX5_takePair rfl)
theorem dX5_takePair_7 : decode cX5_takePair 7 = .ok (.invokevirtual 154, 3) := zo_182 (b1 := 0) (b2 := 154) (zkb3 zk_cX5_takePair zn_cX5_takePair rfl) rfl
theorem dX5_takePair_10 : decode cX5_takePair 10 = .ok (.istore_n 3, 1) := zo_62 (zkb zk_cX5_takePair zn_cX5_takePair rfl)
theorem dX5_takePair_11 : decode cX5_takePair 11 = .ok (.iload_n 2, 1) := zo_28 (zkb zk_cX5_takePair zn_cX5_takePair rfl)
theorem dX5_takePair_12 : decode cX5_takePair 12 = .ok (.iload_n 3, 1) := zo_29 (zkb zk_cX5_takePair zn_cX5_takePair rfl)
theorem dX5_takePair_13 : decode cX5_takePair 13 = .ok (.isub, 1) := zo_100 (zkb zk_cX5_takePair zn_cX5_takePair rfl)
theorem dX5_takePair_14 : decode cX5_takePair 14 = .ok (.aload_n 0, 1) := zo_42 (zkb zk_cX5_takePair zn_cX5_takePair rfl)
theorem dX5_takePair_15 : decode cX5_takePair 15 = .ok (.getfield 9, 3) := zo_180 (b1 := 0) (b2 := 9) (zkb3 zk_cX5_takePair zn_cX5_takePair rfl) rfl
theorem dX5_takePair_18 : decode cX5_takePair 18 = .ok (.iconst 1, 1) := zo_4 (zkb zk_cX5_takePair zn_cX5_takePair rfl)
theorem dX5_takePair_19 : decode cX5_takePair 19 = .ok (.iaload, 1) := zo_46 (zkb zk_cX5_takePair zn_cX5_takePair rfl)
theorem dX5_takePair_20 : decode cX5_takePair 20 = .ok (.iconst 1, 1) := zo_4 (zkb zk_cX5_takePair zn_cX5_takePair rfl)
theorem dX5_takePair_21 : decode cX5_takePair 21 = .ok (.iand, 1) := zo_126 (zkb zk_cX5_takePair zn_cX5_takePair rfl)
theorem dX5_takePair_22 : decode cX5_takePair 22 = .ok (.isub, 1) := zo_100 (zkb zk_cX5_takePair zn_cX5_takePair rfl)
theorem dX5_takePair_23 : decode cX5_takePair 23 = .ok (.istore 4, 2) := zo_54 (b1 := 4) (zkb2 zk_cX5_takePair zn_cX5_takePair rfl)
theorem dX5_takePair_25 : decode cX5_takePair 25 = .ok (.aload_n 0, 1) := zo_42 (zkb zk_cX5_takePair zn_cX5_takePair rfl)
theorem dX5_takePair_26 : decode cX5_takePair 26 = .ok (.iload_n 2, 1) := zo_28 (zkb zk_cX5_takePair zn_cX5_takePair rfl)
theorem dX5_takePair_27 : decode cX5_takePair 27 = .ok (.iload_n 3, 1) := zo_29 (zkb zk_cX5_takePair zn_cX5_takePair rfl)
theorem dX5_takePair_28 : decode cX5_takePair 28 = .ok (.iload 4, 2) := zo_21 (b1 := 4) (zkb2 zk_cX5_takePair zn_cX5_takePair rfl)
theorem dX5_takePair_30 : decode cX5_takePair 30 = .ok (.invokevirtual 251, 3) := zo_182 (b1 := 0) (b2 := 251) (zkb3 zk_cX5_takePair zn_cX5_takePair rfl) rfl
theorem dX5_takePair_33 : decode cX5_takePair 33 = .ok (.iload_n 2, 1) := zo_28 (zkb zk_cX5_takePair zn_cX5_takePair rfl)
theorem dX5_takePair_34 : decode cX5_takePair 34 = .ok (.iload_n 3, 1) := zo_29 (zkb zk_cX5_takePair zn_cX5_takePair rfl)
theorem dX5_takePair_35 : decode cX5_takePair 35 = .ok (.ixor, 1) := zo_130 (zkb zk_cX5_takePair zn_cX5_takePair rfl)
theorem dX5_takePair_36 : decode cX5_takePair 36 = .ok (.iload_n 2, 1) := zo_28 (zkb zk_cX5_takePair zn_cX5_takePair rfl)
theorem dX5_takePair_37 : decode cX5_takePair 37 = .ok (.iload 4, 2) := zo_21 (b1 := 4) (zkb2 zk_cX5_takePair zn_cX5_takePair rfl)
theorem dX5_takePair_39 : decode cX5_takePair 39 = .ok (.ixor, 1) := zo_130 (zkb zk_cX5_takePair zn_cX5_takePair rfl)
theorem dX5_takePair_40 : decode cX5_takePair 40 = .ok (.iand, 1) := zo_126 (zkb zk_cX5_takePair zn_cX5_takePair rfl)
theorem dX5_takePair_41 : decode cX5_takePair 41 = .ok (.ldc 254, 2) := zo_18 (b1 := 254) (zkb2 zk_cX5_takePair zn_cX5_takePair rfl)
theorem dX5_takePair_43 : decode cX5_takePair 43 = .ok (.iand, 1) := zo_126 (zkb zk_cX5_takePair zn_cX5_takePair rfl)
theorem dX5_takePair_44 : decode cX5_takePair 44 = .ok (.istore 5, 2) := zo_54 (b1 := 5) (zkb2 zk_cX5_takePair zn_cX5_takePair rfl)
theorem dX5_takePair_46 : decode cX5_takePair 46 = .ok (.aload_n 0, 1) := zo_42 (zkb zk_cX5_takePair zn_cX5_takePair rfl)
theorem dX5_takePair_47 : decode cX5_takePair 47 = .ok (.getfield 9, 3) := zo_180 (b1 := 0) (b2 := 9) (zkb3 zk_cX5_takePair zn_cX5_takePair rfl) rfl
theorem dX5_takePair_50 : decode cX5_takePair 50 = .ok (.iconst 1, 1) := zo_4 (zkb zk_cX5_takePair zn_cX5_takePair rfl)
theorem dX5_takePair_51 : decode cX5_takePair 51 = .ok (.dup2, 1) := zo_92 (zkb zk_cX5_takePair zn_cX5_takePair rfl)
theorem dX5_takePair_52 : decode cX5_takePair 52 = .ok (.iaload, 1) := zo_46 (zkb zk_cX5_takePair zn_cX5_takePair rfl)
theorem dX5_takePair_53 : decode cX5_takePair 53 = .ok (.iload 5, 2) := zo_21 (b1 := 5) (zkb2 zk_cX5_takePair zn_cX5_takePair rfl)
theorem dX5_takePair_55 : decode cX5_takePair 55 = .ok (.ifCond .eq 7, 3) := zo_153 (b1 := 0) (b2 := 7) (zkb3 zk_cX5_takePair zn_cX5_takePair rfl) rfl
theorem dX5_takePair_58 : decode cX5_takePair 58 = .ok (.iconst 4, 1) := zo_7 (zkb zk_cX5_takePair zn_cX5_takePair rfl)
theorem dX5_takePair_59 : decode cX5_takePair 59 = .ok (.goto 4, 3) := zo_167 (b1 := 0) (b2 := 4) (zkb3 zk_cX5_takePair zn_cX5_takePair rfl) rfl
theorem dX5_takePair_62 : decode cX5_takePair 62 = .ok (.iconst 0, 1) := zo_3 (zkb zk_cX5_takePair zn_cX5_takePair rfl)
theorem dX5_takePair_63 : decode cX5_takePair 63 = .ok (.iconst 2, 1) := zo_5 (zkb zk_cX5_takePair zn_cX5_takePair rfl)
theorem dX5_takePair_64 : decode cX5_takePair 64 = .ok (.ior, 1) := zo_128 (zkb zk_cX5_takePair zn_cX5_takePair rfl)
theorem dX5_takePair_65 : decode cX5_takePair 65 = .ok (.ior, 1) := zo_128 (zkb zk_cX5_takePair zn_cX5_takePair rfl)
theorem dX5_takePair_66 : decode cX5_takePair 66 = .ok (.iastore, 1) := zo_79 (zkb zk_cX5_takePair zn_cX5_takePair rfl)
theorem dX5_takePair_67 : decode cX5_takePair 67 = .ok (.bipush 15, 2) := zo_16 (b1 := 15) (zkb2 zk_cX5_takePair zn_cX5_takePair rfl) rfl
theorem dX5_takePair_69 : decode cX5_takePair 69 = .ok (.ireturn, 1) := zo_172 (zkb zk_cX5_takePair zn_cX5_takePair rfl)
noncomputable def kn_cX5_addPairAndCarry : Nat := 0xac0f104f80030400a70707009905152e5c040900b42a05367efe127e8204151c8202821d1cfb00b604151d1c2a0436607e042e040900b42a601d1c3e9a00b61b2a3d7c00b62a
theorem zk_cX5_addPairAndCarry : zkd cX5_addPairAndCarry.data.toList kn_cX5_addPairAndCarry = true := by decide +kernel
theorem zn_cX5_addPairAndCarry : cX5_addPairAndCarry.data.toList.length = 70 := by decide +kernel
theorem dX5_addPairAndCarry_0 : decode cX5_addPairAndCarry 0 = .ok (.aload_n 0, 1) := zo_42 (zkb zk_cX5_addPairAndCarry zn_cX5_addPairAndCarry rfl)
theorem dX5_addPairAndCarry_1 : decode cX5_addPairAndCarry 1 = .ok (.invokevirtual 124, 3) := zo_182 (b1 := 0) (b2 := 124) (zkb3 zk_cX5_addPairAndCarry zn_cX5_addPairAndCarry rfl) rfl
theorem dX5_addPairAndCarry_4 : decode cX5_addPairAndCarry 4 = .ok (.istore_n 2, 1) := zo_61 (zkb zk_cX5_addPairAndCarry zn_cX5_addPairAndCarry rfl)
theorem dX5_addPairAndCarry_5 : decode cX5_addPairAndCarry 5 = .ok (.aload_n 0, 1) := zo_42 (zkb zk_cX5_addPairAndCarry zn_cX5_addPairAndCarry rfl)
theorem dX5_addPairAndCarry_6 : decode cX5_addPairAndCarry 6 = .ok (.iload_n 1, 1) := zo_27 (zkb zk_cX5_addPairAndCarry zn_cX5_addPairAndCarry rfl)
theorem dX5_addPairAndCarry_7 : decode cX5_addPairAndCarry 7 = .ok (.invokevirtual 154, 3) := zo_182 (b1 := 0) (b2 := 154) (zkb3 zk_cX5_addPairAndCarry zn_cX5_addPairAndCarry rfl) rfl
theorem dX5_addPairAndCarry_10 : decode cX5_addPairAndCarry 10 = .ok (.istore_n 3, 1) := zo_62 (zkb zk_cX5_addPairAndCarry zn_cX5_addPairAndCarry rfl)
theorem dX5_addPairAndCarry_11 : decode cX5_addPairAndCarry 11 = .ok (.iload_n 2, 1) := zo_28 (zkb zk_cX5_addPairAndCarry zn_cX5_addPairAndCarry rfl)
theorem dX5_addPairAndCarry_12 : decode cX5_addPairAndCarry 12 = .ok (.iload_n 3, 1) := zo_29 (zkb zk_cX5_addPairAndCarry zn_cX5_addPairAndCarry rfl)
theorem dX5_addPairAndCarry_13 : decode cX5_addPairAndCarry 13 = .ok (.iadd, 1) := zo_96 (zkb zk_cX5_addPairAndCarry zn_cX5_addPairAndCarry rfl)
theorem dX5_addPairAndCarry_14 : decode cX5_addPairAndCarry 14 = .ok (.aload_n 0, 1) := zo_42 (zkb zk_cX5_addPairAndCarry zn_cX5_addPairAndCarry rfl)
theorem dX5_addPairAndCarry_15 : decode cX5_addPairAndCarry 15 = .ok (.getfield 9, 3) := zo_180 (b1 := 0) (b2 := 9) (zkb3 zk_cX5_addPairAndCarry zn_cX5_addPairAndCarry rfl) rfl
theorem dX5_addPairAndCarry_18 : decode cX5_addPairAndCarry 18 = .ok (.iconst 1, 1) := zo_4 (zkb zk_cX5_addPairAndCarry zn_cX5_addPairAndCarry rfl)
theorem dX5_addPairAndCarry_19 : decode cX5_addPairAndCarry 19 = .ok (.iaload, 1) := zo_46 (zkb zk_cX5_addPairAndCarry zn_cX5_addPairAndCarry rfl)
theorem dX5_addPairAndCarry_20 : decode cX5_addPairAndCarry 20 = .ok (.iconst 1, 1) := zo_4 (zkb zk_cX5_addPairAndCarry zn_cX5_addPairAndCarry rfl)
theorem dX5_addPairAndCarry_21 : decode cX5_addPairAndCarry 21 = .ok (.iand, 1) := zo_126 (zkb zk_cX5_addPairAndCarry zn_cX5_addPairAndCarry rfl)
theorem dX5_addPairAndCarry_22 : decode cX5_addPairAndCarry 22 = .ok (.iadd, 1) := zo_96 (zkb zk_cX5_addPairAndCarry zn_cX5_addPairAndCarry rfl)
theorem dX5_addPairAndCarry_23 : decode cX5_addPairAndCarry 23 = .ok (.istore 4, 2) := zo_54 (b1 := 4) (zkb2 zk_cX5_addPairAndCarry zn_cX5_addPairAndCarry rfl)
theorem dX5_addPairAndCarry_25 : decode cX5_addPairAndCarry 25 = .ok (.aload_n 0, 1) := zo_42 (zkb zk_cX5_addPairAndCarry zn_cX5_addPairAndCarry rfl)
theorem dX5_addPairAndCarry_26 : decode cX5_addPairAndCarry 26 = .ok (.iload_n 2, 1) := zo_28 (zkb zk_cX5_addPairAndCarry zn_cX5_addPairAndCarry rfl)
theorem dX5_addPairAndCarry_27 : decode cX5_addPairAndCarry 27 = .ok (.iload_n 3, 1) := zo_29 (zkb zk_cX5_addPairAndCarry zn_cX5_addPairAndCarry rfl)
theorem dX5_addPairAndCarry_28 : decode cX5_addPairAndCarry 28 = .ok (.iload 4, 2) := zo_21 (b1 := 4) (zkb2 zk_cX5_addPairAndCarry zn_cX5_addPairAndCarry rfl)
theorem dX5_addPairAndCarry_30 : decode cX5_addPairAndCarry 30 = .ok (.invokevirtual 251, 3) := zo_182 (b1 := 0) (b2 := 251) (zkb3 zk_cX5_addPairAndCarry zn_cX5_addPairAndCarry rfl) rfl
theorem dX5_addPairAndCarry_33 : decode cX5_addPairAndCarry 33 = .ok (.iload_n 2, 1) := zo_28 (zkb zk_cX5_addPairAndCarry zn_cX5_addPairAndCarry rfl)
theorem dX5_addPairAndCarry_34 : decode cX5_addPairAndCarry 34 = .ok (.iload_n 3, 1) := zo_29 (zkb zk_cX5_addPairAndCarry zn_cX5_addPairAndCarry rfl)
theorem dX5_addPairAndCarry_35 : decode cX5_addPairAndCarry 35 = .ok (.ixor, 1) := zo_130 (zkb zk_cX5_addPairAndCarry zn_cX5_addPairAndCarry rfl)
theorem dX5_addPairAndCarry_36 : decode cX5_addPairAndCarry 36 = .ok (.iconst (-1), 1) := zo_2 (zkb zk_cX5_addPairAndCarry zn_cX5_addPairAndCarry rfl)
theorem dX5_addPairAndCarry_37 : decode cX5_addPairAndCarry 37 = .ok (.ixor, 1) := zo_130 (zkb zk_cX5_addPairAndCarry zn_cX5_addPairAndCarry rfl)
theorem dX5_addPairAndCarry_38 : decode cX5_addPairAndCarry 38 = .ok (.iload_n 2, 1) := zo_28 (zkb zk_cX5_addPairAndCarry zn_cX5_addPairAndCarry rfl)
theorem dX5_addPairAndCarry_39 : decode cX5_addPairAndCarry 39 = .ok (.iload 4, 2) := zo_21 (b1 := 4) (zkb2 zk_cX5_addPairAndCarry zn_cX5_addPairAndCarry rfl)
theorem dX5_addPairAndCarry_41 : decode cX5_addPairAndCarry 41 = .ok (.ixor, 1) := zo_130 (zkb zk_cX5_addPairAndCarry zn_cX5_addPairAndCarry rfl)
theorem dX5_addPairAndCarry_42 : decode cX5_addPairAndCarry 42 = .ok (.iand, 1) := zo_126 (zkb zk_cX5_addPairAndCarry zn_cX5_addPairAndCarry rfl)
theorem dX5_addPairAndCarry_43 : decode cX5_addPairAndCarry 43 = .ok (.ldc 254, 2) := zo_18 (b1 := 254) (zkb2 zk_cX5_addPairAndCarry zn_cX5_addPairAndCarry rfl)
theorem dX5_addPairAndCarry_45 : decode cX5_addPairAndCarry 45 = .ok (.iand, 1) := zo_126 (zkb zk_cX5_addPairAndCarry zn_cX5_addPairAndCarry rfl)
theorem dX5_addPairAndCarry_46 : decode cX5_addPairAndCarry 46 = .ok (.istore 5, 2) := zo_54 (b1 := 5) (zkb2 zk_cX5_addPairAndCarry zn_cX5_addPairAndCarry rfl)
theorem dX5_addPairAndCarry_48 : decode cX5_addPairAndCarry 48 = .ok (.aload_n 0, 1) := zo_42 (zkb zk_cX5_addPairAndCarry zn_cX5_addPairAndCarry rfl)
theorem dX5_addPairAndCarry_49 : decode cX5_addPairAndCarry 49 = .ok (.getfield 9, 3) := zo_180 (b1 := 0) (b2 := 9) (zkb3 zk_cX5_addPairAndCarry zn_cX5_addPairAndCarry rfl) rfl
theorem dX5_addPairAndCarry_52 : decode cX5_addPairAndCarry 52 = .ok (.iconst 1, 1) := zo_4 (zkb zk_cX5_addPairAndCarry zn_cX5_addPairAndCarry rfl)
theorem dX5_addPairAndCarry_53 : decode cX5_addPairAndCarry 53 = .ok (.dup2, 1) := zo_92 (zkb zk_cX5_addPairAndCarry zn_cX5_addPairAndCarry rfl)
theorem dX5_addPairAndCarry_54 : decode cX5_addPairAndCarry 54 = .ok (.iaload, 1) := zo_46 (zkb zk_cX5_addPairAndCarry zn_cX5_addPairAndCarry rfl)
theorem dX5_addPairAndCarry_55 : decode cX5_addPairAndCarry 55 = .ok (.iload 5, 2) := zo_21 (b1 := 5) (zkb2 zk_cX5_addPairAndCarry zn_cX5_addPairAndCarry rfl)
theorem dX5_addPairAndCarry_57 : decode cX5_addPairAndCarry 57 = .ok (.ifCond .eq 7, 3) := zo_153 (b1 := 0) (b2 := 7) (zkb3 zk_cX5_addPairAndCarry zn_cX5_addPairAndCarry rfl) rfl
theorem dX5_addPairAndCarry_60 : decode cX5_addPairAndCarry 60 = .ok (.iconst 4, 1) := zo_7 (zkb zk_cX5_addPairAndCarry zn_cX5_addPairAndCarry rfl)
theorem dX5_addPairAndCarry_61 : decode cX5_addPairAndCarry 61 = .ok (.goto 4, 3) := zo_167 (b1 := 0) (b2 := 4) (zkb3 zk_cX5_addPairAndCarry zn_cX5_addPairAndCarry rfl) rfl
theorem dX5_addPairAndCarry_64 : decode cX5_addPairAndCarry 64 = .ok (.iconst 0, 1) := zo_3 (zkb zk_cX5_addPairAndCarry zn_cX5_addPairAndCarry rfl)
theorem dX5_addPairAndCarry_65 : decode cX5_addPairAndCarry 65 = .ok (.ior, 1) := zo_128 (zkb zk_cX5_addPairAndCarry zn_cX5_addPairAndCarry rfl)
theorem dX5_addPairAndCarry_66 : decode cX5_addPairAndCarry 66 = .ok (.iastore, 1) := zo_79 (zkb zk_cX5_addPairAndCarry zn_cX5_addPairAndCarry rfl)
theorem dX5_addPairAndCarry_67 : decode cX5_addPairAndCarry 67 = .ok (.bipush 15, 2) := zo_16 (b1 := 15) (zkb2 zk_cX5_addPairAndCarry zn_cX5_addPairAndCarry rfl) rfl
theorem dX5_addPairAndCarry_69 : decode cX5_addPairAndCarry 69 = .ok (.ireturn, 1) := zo_172 (zkb zk_cX5_addPairAndCarry zn_cX5_addPairAndCarry rfl)
noncomputable def kn_cX5_putWide : Nat := 0xb14f807e047a10101d807e10107a0810821d821c1b80030400a7401008009a7e2f121d7ea800117a08101d040900b42a7f00b61d2a4f7e2f1260041b14100900b42a
theorem zk_cX5_putWide : zkd cX5_putWide.data.toList kn_cX5_putWide = true := by decide +kernel
theorem zn_cX5_putWide : cX5_putWide.data.toList.length = 66 := by decide +kernel
theorem dX5_putWide_0 : decode cX5_putWide 0 = .ok (.aload_n 0, 1) := zo_42 (zkb zk_cX5_putWide zn_cX5_putWide rfl)
theorem dX5_putWide_1 : decode cX5_putWide 1 = .ok (.getfield 9, 3) := zo_180 (b1 := 0) (b2 := 9) (zkb3 zk_cX5_putWide zn_cX5_putWide rfl) rfl
theorem dX5_putWide_4 : decode cX5_putWide 4 = .ok (.bipush 20, 2) := zo_16 (b1 := 20) (zkb2 zk_cX5_putWide zn_cX5_putWide rfl) rfl
theorem dX5_putWide_6 : decode cX5_putWide 6 = .ok (.iload_n 1, 1) := zo_27 (zkb zk_cX5_putWide zn_cX5_putWide rfl)
theorem dX5_putWide_7 : decode cX5_putWide 7 = .ok (.iconst 1, 1) := zo_4 (zkb zk_cX5_putWide zn_cX5_putWide rfl)
theorem dX5_putWide_8 : decode cX5_putWide 8 = .ok (.iadd, 1) := zo_96 (zkb zk_cX5_putWide zn_cX5_putWide rfl)
theorem dX5_putWide_9 : decode cX5_putWide 9 = .ok (.ldc 47, 2) := zo_18 (b1 := 47) (zkb2 zk_cX5_putWide zn_cX5_putWide rfl)
theorem dX5_putWide_11 : decode cX5_putWide 11 = .ok (.iand, 1) := zo_126 (zkb zk_cX5_putWide zn_cX5_putWide rfl)
theorem dX5_putWide_12 : decode cX5_putWide 12 = .ok (.iastore, 1) := zo_79 (zkb zk_cX5_putWide zn_cX5_putWide rfl)
theorem dX5_putWide_13 : decode cX5_putWide 13 = .ok (.aload_n 0, 1) := zo_42 (zkb zk_cX5_putWide zn_cX5_putWide rfl)
theorem dX5_putWide_14 : decode cX5_putWide 14 = .ok (.iload_n 3, 1) := zo_29 (zkb zk_cX5_putWide zn_cX5_putWide rfl)
theorem dX5_putWide_15 : decode cX5_putWide 15 = .ok (.invokevirtual 127, 3) := zo_182 (b1 := 0) (b2 := 127) (zkb3 zk_cX5_putWide zn_cX5_putWide rfl) rfl
theorem dX5_putWide_18 : decode cX5_putWide 18 = .ok (.aload_n 0, 1) := zo_42 (zkb zk_cX5_putWide zn_cX5_putWide rfl)
theorem dX5_putWide_19 : decode cX5_putWide 19 = .ok (.getfield 9, 3) := zo_180 (b1 := 0) (b2 := 9) (zkb3 zk_cX5_putWide zn_cX5_putWide rfl) rfl
theorem dX5_putWide_22 : decode cX5_putWide 22 = .ok (.iconst 1, 1) := zo_4 (zkb zk_cX5_putWide zn_cX5_putWide rfl)
theorem dX5_putWide_23 : decode cX5_putWide 23 = .ok (.iload_n 3, 1) := zo_29 (zkb zk_cX5_putWide zn_cX5_putWide rfl)
theorem dX5_putWide_24 : decode cX5_putWide 24 = .ok (.bipush 8, 2) := zo_16 (b1 := 8) (zkb2 zk_cX5_putWide zn_cX5_putWide rfl) rfl
theorem dX5_putWide_26 : decode cX5_putWide 26 = .ok (.ishr, 1) := zo_122 (zkb zk_cX5_putWide zn_cX5_putWide rfl)
theorem dX5_putWide_27 : decode cX5_putWide 27 = .ok (.sipush 168, 3) := zo_17 (b1 := 0) (b2 := 168) (zkb3 zk_cX5_putWide zn_cX5_putWide rfl) rfl
theorem dX5_putWide_30 : decode cX5_putWide 30 = .ok (.iand, 1) := zo_126 (zkb zk_cX5_putWide zn_cX5_putWide rfl)
theorem dX5_putWide_31 : decode cX5_putWide 31 = .ok (.iload_n 3, 1) := zo_29 (zkb zk_cX5_putWide zn_cX5_putWide rfl)
theorem dX5_putWide_32 : decode cX5_putWide 32 = .ok (.ldc 47, 2) := zo_18 (b1 := 47) (zkb2 zk_cX5_putWide zn_cX5_putWide rfl)
theorem dX5_putWide_34 : decode cX5_putWide 34 = .ok (.iand, 1) := zo_126 (zkb zk_cX5_putWide zn_cX5_putWide rfl)
theorem dX5_putWide_35 : decode cX5_putWide 35 = .ok (.ifCond .ne 8, 3) := zo_154 (b1 := 0) (b2 := 8) (zkb3 zk_cX5_putWide zn_cX5_putWide rfl) rfl
theorem dX5_putWide_38 : decode cX5_putWide 38 = .ok (.bipush 64, 2) := zo_16 (b1 := 64) (zkb2 zk_cX5_putWide zn_cX5_putWide rfl) rfl
theorem dX5_putWide_40 : decode cX5_putWide 40 = .ok (.goto 4, 3) := zo_167 (b1 := 0) (b2 := 4) (zkb3 zk_cX5_putWide zn_cX5_putWide rfl) rfl
theorem dX5_putWide_43 : decode cX5_putWide 43 = .ok (.iconst 0, 1) := zo_3 (zkb zk_cX5_putWide zn_cX5_putWide rfl)
theorem dX5_putWide_44 : decode cX5_putWide 44 = .ok (.ior, 1) := zo_128 (zkb zk_cX5_putWide zn_cX5_putWide rfl)
theorem dX5_putWide_45 : decode cX5_putWide 45 = .ok (.iload_n 1, 1) := zo_27 (zkb zk_cX5_putWide zn_cX5_putWide rfl)
theorem dX5_putWide_46 : decode cX5_putWide 46 = .ok (.iload_n 2, 1) := zo_28 (zkb zk_cX5_putWide zn_cX5_putWide rfl)
theorem dX5_putWide_47 : decode cX5_putWide 47 = .ok (.ixor, 1) := zo_130 (zkb zk_cX5_putWide zn_cX5_putWide rfl)
theorem dX5_putWide_48 : decode cX5_putWide 48 = .ok (.iload_n 3, 1) := zo_29 (zkb zk_cX5_putWide zn_cX5_putWide rfl)
theorem dX5_putWide_49 : decode cX5_putWide 49 = .ok (.ixor, 1) := zo_130 (zkb zk_cX5_putWide zn_cX5_putWide rfl)
theorem dX5_putWide_50 : decode cX5_putWide 50 = .ok (.bipush 8, 2) := zo_16 (b1 := 8) (zkb2 zk_cX5_putWide zn_cX5_putWide rfl) rfl
theorem dX5_putWide_52 : decode cX5_putWide 52 = .ok (.ishr, 1) := zo_122 (zkb zk_cX5_putWide zn_cX5_putWide rfl)
theorem dX5_putWide_53 : decode cX5_putWide 53 = .ok (.bipush 16, 2) := zo_16 (b1 := 16) (zkb2 zk_cX5_putWide zn_cX5_putWide rfl) rfl
theorem dX5_putWide_55 : decode cX5_putWide 55 = .ok (.iand, 1) := zo_126 (zkb zk_cX5_putWide zn_cX5_putWide rfl)
theorem dX5_putWide_56 : decode cX5_putWide 56 = .ok (.ior, 1) := zo_128 (zkb zk_cX5_putWide zn_cX5_putWide rfl)
theorem dX5_putWide_57 : decode cX5_putWide 57 = .ok (.iload_n 3, 1) := zo_29 (zkb zk_cX5_putWide zn_cX5_putWide rfl)
theorem dX5_putWide_58 : decode cX5_putWide 58 = .ok (.bipush 16, 2) := zo_16 (b1 := 16) (zkb2 zk_cX5_putWide zn_cX5_putWide rfl) rfl
theorem dX5_putWide_60 : decode cX5_putWide 60 = .ok (.ishr, 1) := zo_122 (zkb zk_cX5_putWide zn_cX5_putWide rfl)
theorem dX5_putWide_61 : decode cX5_putWide 61 = .ok (.iconst 1, 1) := zo_4 (zkb zk_cX5_putWide zn_cX5_putWide rfl)
theorem dX5_putWide_62 : decode cX5_putWide 62 = .ok (.iand, 1) := zo_126 (zkb zk_cX5_putWide zn_cX5_putWide rfl)
theorem dX5_putWide_63 : decode cX5_putWide 63 = .ok (.ior, 1) := zo_128 (zkb zk_cX5_putWide zn_cX5_putWide rfl)
theorem dX5_putWide_64 : decode cX5_putWide 64 = .ok (.iastore, 1) := zo_79 (zkb zk_cX5_putWide zn_cX5_putWide rfl)
theorem dX5_putWide_65 : decode cX5_putWide 65 = .ok (.return_, 1) := zo_177 (zkb zk_cX5_putWide zn_cX5_putWide rfl)
noncomputable def kn_cX5_farPair : Nat := 0xac14109d00b63400b61c2a7a041b2a0f00a7b800b69a00b67a041b2a1c2a12009a7e041b4f7e2f1260041c14100900b42a3db500b62a
theorem zk_cX5_farPair : zkd cX5_farPair.data.toList kn_cX5_farPair = true := by decide +kernel
theorem zn_cX5_farPair : cX5_farPair.data.toList.length = 54 := by decide +kernel
theorem dX5_farPair_0 : decode cX5_farPair 0 = .ok (.aload_n 0, 1) := zo_42 (zkb zk_cX5_farPair zn_cX5_farPair rfl)
theorem dX5_farPair_1 : decode cX5_farPair 1 = .ok (.invokevirtual 181, 3) := zo_182 (b1 := 0) (b2 := 181) (zkb3 zk_cX5_farPair zn_cX5_farPair rfl) rfl
theorem dX5_farPair_4 : decode cX5_farPair 4 = .ok (.istore_n 2, 1) := zo_61 (zkb zk_cX5_farPair zn_cX5_farPair rfl)
theorem dX5_farPair_5 : decode cX5_farPair 5 = .ok (.aload_n 0, 1) := zo_42 (zkb zk_cX5_farPair zn_cX5_farPair rfl)
theorem dX5_farPair_6 : decode cX5_farPair 6 = .ok (.getfield 9, 3) := zo_180 (b1 := 0) (b2 := 9) (zkb3 zk_cX5_farPair zn_cX5_farPair rfl) rfl
theorem dX5_farPair_9 : decode cX5_farPair 9 = .ok (.bipush 20, 2) := zo_16 (b1 := 20) (zkb2 zk_cX5_farPair zn_cX5_farPair rfl) rfl
theorem dX5_farPair_11 : decode cX5_farPair 11 = .ok (.iload_n 2, 1) := zo_28 (zkb zk_cX5_farPair zn_cX5_farPair rfl)
theorem dX5_farPair_12 : decode cX5_farPair 12 = .ok (.iconst 1, 1) := zo_4 (zkb zk_cX5_farPair zn_cX5_farPair rfl)
theorem dX5_farPair_13 : decode cX5_farPair 13 = .ok (.iadd, 1) := zo_96 (zkb zk_cX5_farPair zn_cX5_farPair rfl)
theorem dX5_farPair_14 : decode cX5_farPair 14 = .ok (.ldc 47, 2) := zo_18 (b1 := 47) (zkb2 zk_cX5_farPair zn_cX5_farPair rfl)
theorem dX5_farPair_16 : decode cX5_farPair 16 = .ok (.iand, 1) := zo_126 (zkb zk_cX5_farPair zn_cX5_farPair rfl)
theorem dX5_farPair_17 : decode cX5_farPair 17 = .ok (.iastore, 1) := zo_79 (zkb zk_cX5_farPair zn_cX5_farPair rfl)
theorem dX5_farPair_18 : decode cX5_farPair 18 = .ok (.iload_n 1, 1) := zo_27 (zkb zk_cX5_farPair zn_cX5_farPair rfl)
theorem dX5_farPair_19 : decode cX5_farPair 19 = .ok (.iconst 1, 1) := zo_4 (zkb zk_cX5_farPair zn_cX5_farPair rfl)
theorem dX5_farPair_20 : decode cX5_farPair 20 = .ok (.iand, 1) := zo_126 (zkb zk_cX5_farPair zn_cX5_farPair rfl)
theorem dX5_farPair_21 : decode cX5_farPair 21 = .ok (.ifCond .ne 18, 3) := zo_154 (b1 := 0) (b2 := 18) (zkb3 zk_cX5_farPair zn_cX5_farPair rfl) rfl
theorem dX5_farPair_24 : decode cX5_farPair 24 = .ok (.aload_n 0, 1) := zo_42 (zkb zk_cX5_farPair zn_cX5_farPair rfl)
theorem dX5_farPair_25 : decode cX5_farPair 25 = .ok (.iload_n 2, 1) := zo_28 (zkb zk_cX5_farPair zn_cX5_farPair rfl)
theorem dX5_farPair_26 : decode cX5_farPair 26 = .ok (.aload_n 0, 1) := zo_42 (zkb zk_cX5_farPair zn_cX5_farPair rfl)
theorem dX5_farPair_27 : decode cX5_farPair 27 = .ok (.iload_n 1, 1) := zo_27 (zkb zk_cX5_farPair zn_cX5_farPair rfl)
theorem dX5_farPair_28 : decode cX5_farPair 28 = .ok (.iconst 1, 1) := zo_4 (zkb zk_cX5_farPair zn_cX5_farPair rfl)
theorem dX5_farPair_29 : decode cX5_farPair 29 = .ok (.ishr, 1) := zo_122 (zkb zk_cX5_farPair zn_cX5_farPair rfl)
theorem dX5_farPair_30 : decode cX5_farPair 30 = .ok (.invokevirtual 154, 3) := zo_182 (b1 := 0) (b2 := 154) (zkb3 zk_cX5_farPair zn_cX5_farPair rfl) rfl
theorem dX5_farPair_33 : decode cX5_farPair 33 = .ok (.invokevirtual 184, 3) := zo_182 (b1 := 0) (b2 := 184) (zkb3 zk_cX5_farPair zn_cX5_farPair rfl) rfl
theorem dX5_farPair_36 : decode cX5_farPair 36 = .ok (.goto 15, 3) := zo_167 (b1 := 0) (b2 := 15) (zkb3 zk_cX5_farPair zn_cX5_farPair rfl) rfl
theorem dX5_farPair_39 : decode cX5_farPair 39 = .ok (.aload_n 0, 1) := zo_42 (zkb zk_cX5_farPair zn_cX5_farPair rfl)
theorem dX5_farPair_40 : decode cX5_farPair 40 = .ok (.iload_n 1, 1) := zo_27 (zkb zk_cX5_farPair zn_cX5_farPair rfl)
theorem dX5_farPair_41 : decode cX5_farPair 41 = .ok (.iconst 1, 1) := zo_4 (zkb zk_cX5_farPair zn_cX5_farPair rfl)
theorem dX5_farPair_42 : decode cX5_farPair 42 = .ok (.ishr, 1) := zo_122 (zkb zk_cX5_farPair zn_cX5_farPair rfl)
theorem dX5_farPair_43 : decode cX5_farPair 43 = .ok (.aload_n 0, 1) := zo_42 (zkb zk_cX5_farPair zn_cX5_farPair rfl)
theorem dX5_farPair_44 : decode cX5_farPair 44 = .ok (.iload_n 2, 1) := zo_28 (zkb zk_cX5_farPair zn_cX5_farPair rfl)
theorem dX5_farPair_45 : decode cX5_farPair 45 = .ok (.invokevirtual 52, 3) := zo_182 (b1 := 0) (b2 := 52) (zkb3 zk_cX5_farPair zn_cX5_farPair rfl) rfl
theorem dX5_farPair_48 : decode cX5_farPair 48 = .ok (.invokevirtual 157, 3) := zo_182 (b1 := 0) (b2 := 157) (zkb3 zk_cX5_farPair zn_cX5_farPair rfl) rfl
theorem dX5_farPair_51 : decode cX5_farPair 51 = .ok (.bipush 20, 2) := zo_16 (b1 := 20) (zkb2 zk_cX5_farPair zn_cX5_farPair rfl) rfl
theorem dX5_farPair_53 : decode cX5_farPair 53 = .ok (.ireturn, 1) := zo_172 (zkb zk_cX5_farPair zn_cX5_farPair rfl)
noncomputable def rmX5_farPair : Room := { frames := 3, cells := 0, slots := 0, locals := 68 }
noncomputable def wzX5_farPair : List Cond := .code yX5_farPair cX5_farPair 3 (some .int) :: wsL_law
theorem hinX5_farPair_X50 : ∀ w ∈ wsX50, w ∈ wzX5_farPair := fun w h => List.mem_cons_of_mem _ (inlX5 w h)
noncomputable def fX5_farPair_51  (σ : zSt)  : Option (zSt × Int32) :=
  some (σ, 20)
noncomputable def fX5_farPair  (σ : zSt) (x1 : Int32) : Option (zSt × Int32) :=
  zbi (fX5_fetchWord σ ) (fun σ1 v2 =>
  zck (zin 20 29) (zbv (zsi σ1 36 ((20 : Int32).toNatClampNeg) ((v2 + 1) &&& 65535)) (fun σ3 =>
  if (x1 &&& 1) = 0 then zbi (fX5_pair σ3 (x1 >>> ((1 : Int32) &&& 31))) (fun σ7 v8 =>
  zbu (fX5_writeWord σ7 v2 v8) (fun σ9 =>
  fX5_farPair_51 σ9)) else
  zbi (fX5_readWord σ3 v2) (fun σ4 v5 =>
  zbu (fX5_putPair σ4 (x1 >>> ((1 : Int32) &&& 31)) v5) (fun σ6 =>
  fX5_farPair_51 σ6)))))
set_option maxRecDepth 20000 in
set_option maxHeartbeats 4000000 in
theorem bX5_farPair_51 {st : Nat → Nat} {p : Program} {l : Launch} {e : Env} {s : State} {m : MethodId} {args : Array Value} {below : List Frame} {meth : Method} {c : Code} {D : va_G} {A : Nat → Prop} {ad : Nat → Nat} {cy : Nat → ClassId} (hC : zC p m c cX5_farPair 3 s args wzX5_farPair RX5 meth (some .int))  {res : zSt × Int32} {H : Heap} {locs : List Loc} {σ : zSt} {ls : Array Slot}  (hI : zI st D (tC cy) (wC ad cy σ) A s H locs) (hl : lv_has ls 3 []) (hf : fX5_farPair_51  σ  = some res) : W p l e rmX5_farPair s m args below meth c H locs 0 0 (zQi below args s D (tC cy) (wC ad cy) A res) (F0 m 51 ls []) := by
  have hx := hC.1
  have hb := hC.2.1
  unfold fX5_farPair_51 at hf
  refine lv_bipush (v := 20) hx hb dX5_farPair_51 (by decide) ?_
  exact z_ireturn hC hI hf dX5_farPair_53
set_option maxRecDepth 20000 in
set_option maxHeartbeats 4000000 in
theorem bX5_farPair {st : Nat → Nat} {p : Program} {l : Launch} {e : Env} {s : State} {m : MethodId} {args : Array Value} {below : List Frame} {meth : Method} {c : Code} {D : va_G} {A : Nat → Prop} {ad : Nat → Nat} {cy : Nat → ClassId} (hC : zC p m c cX5_farPair 3 s args wzX5_farPair RX5 meth (some .int))  {res : zSt × Int32} {H : Heap} {locs : List Loc} {σ : zSt} {ls : Array Slot} {x1 : Int32} (hI : zI st D (tC cy) (wC ad cy σ) A s H locs) (hl : lv_has ls 3 [(0, .ref (ad 7)), (1, .int x1)]) (hf : fX5_farPair  σ x1 = some res) : W p l e rmX5_farPair s m args below meth c H locs 0 0 (zQi below args s D (tC cy) (wC ad cy) A res) (F0 m 0 ls []) := by
  have hx := hC.1
  have hb := hC.2.1
  unfold fX5_farPair at hf
  refine lv_aload_n hx hb dX5_farPair_0 rfl (lv_at hl 0 rfl) ?_
  obtain ⟨σ1, v2, g1, hf⟩ := zbi_use hf
  refine z_callVi (As := []) (rest := []) hC hI (cX5_fetchWord_met st l D ad cy σ  _ g1) (zgV zw30_15 zw30_16 zw30_17 zw2_21 zw30_18) rfl ⟨rfl, rfl⟩ 0 hdX5_fetchWord ⟨Nat.le_of_ble_eq_true rfl, Nat.le_of_ble_eq_true rfl⟩ rfl rfl (wC_e7 ad cy σ) rfl hl rfl (Nat.le_of_ble_eq_true rfl) dX5_farPair_1 ⟨Nat.zero_le _, Nat.zero_le _⟩ (fun H locs hI => ?_)
  refine lv_istore_n (lv' := [(2, .int v2), (0, .ref (ad 7)), (1, .int x1)]) hx hb dX5_farPair_4 rfl hl (by decide) rfl (fun ls hl => ?_)
  refine lv_aload_n hx hb dX5_farPair_5 rfl (lv_at hl 1 rfl) ?_
  refine z_get hC hI hinX5_farPair_X50 7 (wC_e7 ad cy σ1) rfl 2 (by decide) (List.mem_cons_of_mem _ zw7_5) rfl dX5_farPair_6 ?_
  refine lv_bipush (v := 20) hx hb dX5_farPair_9 (by decide) ?_
  refine lv_iload_n hx hb dX5_farPair_11 rfl (lv_at hl 0 rfl) ?_
  refine lv_iconst (v := 1) hx hb dX5_farPair_12 (by decide) ?_
  refine lv_iadd hx hb dX5_farPair_13 ?_
  refine lv_ldc (v := 65535) hx hb hC.2.2.2.1 (hC.2.2.2.2.1 _ (List.mem_cons_of_mem _ zw20_6)) dX5_farPair_14 ?_
  refine lv_iand hx hb dX5_farPair_16 ?_
  obtain ⟨q, hf⟩ := zck_use hf
  obtain ⟨σ3, eσ3⟩ : ∃ z, z = zsi σ1 36 ((20 : Int32).toNatClampNeg) ((v2 + 1) &&& 65535) := ⟨_, rfl⟩
  replace hf := zbv_use eσ3 hf
  refine z_iast hC hI 36 23 (wC_e36 ad cy σ1) (tC_t36 cy) q ((wC_s36 ad cy σ1 _ _).trans (congrArg (wC ad cy) eσ3.symm)) dX5_farPair_17 (fun H locs hI => ?_)
  refine lv_iload_n hx hb dX5_farPair_18 rfl (lv_at hl 2 rfl) ?_
  refine lv_iconst (v := 1) hx hb dX5_farPair_19 (by decide) ?_
  refine lv_iand hx hb dX5_farPair_20 ?_
  refine lv_if_ne (tgt := 39) hx hb dX5_farPair_21 (by decide) (fun q => ?_) (fun q => ?_)
  · replace hf := zif_f q hf
    refine lv_aload_n hx hb dX5_farPair_39 rfl (lv_at hl 1 rfl) ?_
    refine lv_iload_n hx hb dX5_farPair_40 rfl (lv_at hl 2 rfl) ?_
    refine lv_iconst (v := 1) hx hb dX5_farPair_41 (by decide) ?_
    refine lv_ishr hx hb dX5_farPair_42 ?_
    refine lv_aload_n hx hb dX5_farPair_43 rfl (lv_at hl 1 rfl) ?_
    refine lv_iload_n hx hb dX5_farPair_44 rfl (lv_at hl 0 rfl) ?_
    obtain ⟨σ4, v5, g4, hf⟩ := zbi_use hf
    refine z_callVi (As := [.int v2]) (rest := [.int (x1 >>> ((1 : Int32) &&& 31)), .ref (ad 7)]) hC hI (cX5_readWord_met st l D ad cy σ3 v2 _ g4) (zgV zw21_2 zw21_3 zw21_4 zw2_21 zw21_5) rfl ⟨rfl, rfl⟩ 1 hdX5_readWord ⟨Nat.le_of_ble_eq_true rfl, Nat.le_of_ble_eq_true rfl⟩ rfl rfl (wC_e7 ad cy σ3) rfl hl rfl (Nat.le_of_ble_eq_true rfl) dX5_farPair_45 ⟨Nat.zero_le _, Nat.zero_le _⟩ (fun H locs hI => ?_)
    obtain ⟨σ6, g6, hf⟩ := zbu_use hf
    refine z_callVu (As := [.int (x1 >>> ((1 : Int32) &&& 31)), .int v5]) (rest := []) hC hI (cX5_putPair_met st l D ad cy σ4 (x1 >>> ((1 : Int32) &&& 31)) v5 _ g6) (zgV zw30_23 zw31_0 zw31_1 zw2_21 zw31_2) rfl ⟨rfl, rfl⟩ 2 hdX5_putPair ⟨Nat.le_of_ble_eq_true rfl, Nat.le_of_ble_eq_true rfl⟩ rfl rfl (wC_e7 ad cy σ4) rfl hl rfl (Nat.le_of_ble_eq_true rfl) dX5_farPair_48 ⟨Nat.zero_le _, Nat.zero_le _⟩ (fun H locs hI => ?_)
    exact bX5_farPair_51 hC  hI (lv_sub hl [] rfl) hf
  replace hf := zif_t q hf
  refine lv_aload_n hx hb dX5_farPair_24 rfl (lv_at hl 1 rfl) ?_
  refine lv_iload_n hx hb dX5_farPair_25 rfl (lv_at hl 0 rfl) ?_
  refine lv_aload_n hx hb dX5_farPair_26 rfl (lv_at hl 1 rfl) ?_
  refine lv_iload_n hx hb dX5_farPair_27 rfl (lv_at hl 2 rfl) ?_
  refine lv_iconst (v := 1) hx hb dX5_farPair_28 (by decide) ?_
  refine lv_ishr hx hb dX5_farPair_29 ?_
  obtain ⟨σ7, v8, g7, hf⟩ := zbi_use hf
  refine z_callVi (As := [.int (x1 >>> ((1 : Int32) &&& 31))]) (rest := [.int v2, .ref (ad 7)]) hC hI (cX5_pair_met st l D ad cy σ3 (x1 >>> ((1 : Int32) &&& 31)) _ g7) (zgV zw29_19 zw29_20 zw29_21 zw2_21 zw29_22) rfl ⟨rfl, rfl⟩ 1 hdX5_pair ⟨Nat.le_of_ble_eq_true rfl, Nat.le_of_ble_eq_true rfl⟩ rfl rfl (wC_e7 ad cy σ3) rfl hl rfl (Nat.le_of_ble_eq_true rfl) dX5_farPair_30 ⟨Nat.zero_le _, Nat.zero_le _⟩ (fun H locs hI => ?_)
  obtain ⟨σ9, g9, hf⟩ := zbu_use hf
  refine z_callVu (As := [.int v2, .int v8]) (rest := []) hC hI (cX5_writeWord_met st l D ad cy σ7 v2 v8 _ g9) (zgV zw30_19 zw30_20 zw30_21 zw2_21 zw30_22) rfl ⟨rfl, rfl⟩ 2 hdX5_writeWord ⟨Nat.le_of_ble_eq_true rfl, Nat.le_of_ble_eq_true rfl⟩ rfl rfl (wC_e7 ad cy σ7) rfl hl rfl (Nat.le_of_ble_eq_true rfl) dX5_farPair_33 ⟨Nat.zero_le _, Nat.zero_le _⟩ (fun H locs hI => ?_)
  refine lv_goto (tgt := 51) hx hb dX5_farPair_36 (by decide) ?_
  exact bX5_farPair_51 hC  hI (lv_sub hl [] rfl) hf
set_option maxRecDepth 20000 in
theorem cX5_farPair_met (st : Nat → Nat) (l : Launch) (D : va_G) (ad : Nat → Nat) (cy : Nat → ClassId) (σ : zSt) (x1 : Int32) (res : zSt × Int32) (hf : fX5_farPair σ x1 = some res) (sz : Nat) : zMi st l yX5_farPair wzX5_farPair rmX5_farPair [.ref (ad 7), .int x1] D (tC cy) (wC ad cy) sz σ res :=
  zMi.of (cc := cX5_farPair) (maxL := 3) (ret := (some .int)) (by decide) rfl (Nat.le_of_ble_eq_true rfl) (fun p e s m args below meth c hC A hI ls hl => bX5_farPair hC hI hl hf)
theorem hdX5_farPair : yX5_farPair.cls = RX5 ∧ yX5_farPair.cls ≠ "java/lang/invoke/MethodHandle" ∧ yX5_farPair.cls ≠ "java/lang/invoke/VarHandle" ∧ (parseMethodDescriptor yX5_farPair.desc).map (fun d => d.parameters.length) = some 1 := by decide +kernel
noncomputable def rmX5_putWide : Room := { frames := 2, cells := 0, slots := 0, locals := 43 }
noncomputable def wzX5_putWide : List Cond := .code yX5_putWide cX5_putWide 4 none :: wsL_law
theorem hinX5_putWide_X50 : ∀ w ∈ wsX50, w ∈ wzX5_putWide := fun w h => List.mem_cons_of_mem _ (inlX5 w h)
noncomputable def fX5_putWide_44  (σ : zSt) (x1 : Int32) (x2 : Int32) (x3 : Int32) (s0 : Int32) (s1 : Int32) (s2 : Int32) : Option (zSt) :=
  zck (zin s2 29) (zbv (zsi σ 36 (s2.toNatClampNeg) (((s1 ||| s0) ||| ((((x1 ^^^ x2) ^^^ x3) >>> ((8 : Int32) &&& 31)) &&& 16)) ||| ((x3 >>> ((16 : Int32) &&& 31)) &&& 1))) (fun σ1 =>
  some σ1))
noncomputable def fX5_putWide  (σ : zSt) (x1 : Int32) (x2 : Int32) (x3 : Int32) : Option (zSt) :=
  zck (zin 20 29) (zbv (zsi σ 36 ((20 : Int32).toNatClampNeg) ((x1 + 1) &&& 65535)) (fun σ2 =>
  zbu (fX5_putHl σ2 x3) (fun σ3 =>
  if (x3 &&& 65535) = 0 then fX5_putWide_44 σ3 x1 x2 x3 64 ((x3 >>> ((8 : Int32) &&& 31)) &&& 168) 1 else
  fX5_putWide_44 σ3 x1 x2 x3 0 ((x3 >>> ((8 : Int32) &&& 31)) &&& 168) 1)))
set_option maxRecDepth 20000 in
set_option maxHeartbeats 4000000 in
theorem bX5_putWide_44 {st : Nat → Nat} {p : Program} {l : Launch} {e : Env} {s : State} {m : MethodId} {args : Array Value} {below : List Frame} {meth : Method} {c : Code} {D : va_G} {A : Nat → Prop} {ad : Nat → Nat} {cy : Nat → ClassId} (hC : zC p m c cX5_putWide 4 s args wzX5_putWide RX5 meth none)  {res : zSt} {H : Heap} {locs : List Loc} {σ : zSt} {ls : Array Slot} {x1 : Int32} {x2 : Int32} {x3 : Int32} {s0 : Int32} {s1 : Int32} {s2 : Int32} (hI : zI st D (tC cy) (wC ad cy σ) A s H locs) (hl : lv_has ls 4 [(1, .int x1), (2, .int x2), (3, .int x3)]) (hf : fX5_putWide_44  σ x1 x2 x3 s0 s1 s2 = some res) : W p l e rmX5_putWide s m args below meth c H locs 0 0 (zQu below args s D (tC cy) (wC ad cy) A res) (F0 m 44 ls [.int s0, .int s1, .int s2, .ref (ad 36)]) := by
  have hx := hC.1
  have hb := hC.2.1
  unfold fX5_putWide_44 at hf
  refine lv_ior hx hb dX5_putWide_44 ?_
  refine lv_iload_n hx hb dX5_putWide_45 rfl (lv_at hl 0 rfl) ?_
  refine lv_iload_n hx hb dX5_putWide_46 rfl (lv_at hl 1 rfl) ?_
  refine lv_ixor hx hb dX5_putWide_47 ?_
  refine lv_iload_n hx hb dX5_putWide_48 rfl (lv_at hl 2 rfl) ?_
  refine lv_ixor hx hb dX5_putWide_49 ?_
  refine lv_bipush (v := 8) hx hb dX5_putWide_50 (by decide) ?_
  refine lv_ishr hx hb dX5_putWide_52 ?_
  refine lv_bipush (v := 16) hx hb dX5_putWide_53 (by decide) ?_
  refine lv_iand hx hb dX5_putWide_55 ?_
  refine lv_ior hx hb dX5_putWide_56 ?_
  refine lv_iload_n hx hb dX5_putWide_57 rfl (lv_at hl 2 rfl) ?_
  refine lv_bipush (v := 16) hx hb dX5_putWide_58 (by decide) ?_
  refine lv_ishr hx hb dX5_putWide_60 ?_
  refine lv_iconst (v := 1) hx hb dX5_putWide_61 (by decide) ?_
  refine lv_iand hx hb dX5_putWide_62 ?_
  refine lv_ior hx hb dX5_putWide_63 ?_
  obtain ⟨q, hf⟩ := zck_use hf
  obtain ⟨σ1, eσ1⟩ : ∃ z, z = zsi σ 36 (s2.toNatClampNeg) (((s1 ||| s0) ||| ((((x1 ^^^ x2) ^^^ x3) >>> ((8 : Int32) &&& 31)) &&& 16)) ||| ((x3 >>> ((16 : Int32) &&& 31)) &&& 1)) := ⟨_, rfl⟩
  replace hf := zbv_use eσ1 hf
  refine z_iast hC hI 36 23 (wC_e36 ad cy σ) (tC_t36 cy) q ((wC_s36 ad cy σ _ _).trans (congrArg (wC ad cy) eσ1.symm)) dX5_putWide_64 (fun H locs hI => ?_)
  exact z_return hC hI hf dX5_putWide_65
set_option maxRecDepth 20000 in
set_option maxHeartbeats 4000000 in
theorem bX5_putWide {st : Nat → Nat} {p : Program} {l : Launch} {e : Env} {s : State} {m : MethodId} {args : Array Value} {below : List Frame} {meth : Method} {c : Code} {D : va_G} {A : Nat → Prop} {ad : Nat → Nat} {cy : Nat → ClassId} (hC : zC p m c cX5_putWide 4 s args wzX5_putWide RX5 meth none)  {res : zSt} {H : Heap} {locs : List Loc} {σ : zSt} {ls : Array Slot} {x1 : Int32} {x2 : Int32} {x3 : Int32} (hI : zI st D (tC cy) (wC ad cy σ) A s H locs) (hl : lv_has ls 4 [(0, .ref (ad 7)), (1, .int x1), (2, .int x2), (3, .int x3)]) (hf : fX5_putWide  σ x1 x2 x3 = some res) : W p l e rmX5_putWide s m args below meth c H locs 0 0 (zQu below args s D (tC cy) (wC ad cy) A res) (F0 m 0 ls []) := by
  have hx := hC.1
  have hb := hC.2.1
  unfold fX5_putWide at hf
  refine lv_aload_n hx hb dX5_putWide_0 rfl (lv_at hl 0 rfl) ?_
  refine z_get hC hI hinX5_putWide_X50 7 (wC_e7 ad cy σ) rfl 2 (by decide) (List.mem_cons_of_mem _ zw7_5) rfl dX5_putWide_1 ?_
  refine lv_bipush (v := 20) hx hb dX5_putWide_4 (by decide) ?_
  refine lv_iload_n hx hb dX5_putWide_6 rfl (lv_at hl 1 rfl) ?_
  refine lv_iconst (v := 1) hx hb dX5_putWide_7 (by decide) ?_
  refine lv_iadd hx hb dX5_putWide_8 ?_
  refine lv_ldc (v := 65535) hx hb hC.2.2.2.1 (hC.2.2.2.2.1 _ (List.mem_cons_of_mem _ zw20_6)) dX5_putWide_9 ?_
  refine lv_iand hx hb dX5_putWide_11 ?_
  obtain ⟨q, hf⟩ := zck_use hf
  obtain ⟨σ2, eσ2⟩ : ∃ z, z = zsi σ 36 ((20 : Int32).toNatClampNeg) ((x1 + 1) &&& 65535) := ⟨_, rfl⟩
  replace hf := zbv_use eσ2 hf
  refine z_iast hC hI 36 23 (wC_e36 ad cy σ) (tC_t36 cy) q ((wC_s36 ad cy σ _ _).trans (congrArg (wC ad cy) eσ2.symm)) dX5_putWide_12 (fun H locs hI => ?_)
  refine lv_aload_n hx hb dX5_putWide_13 rfl (lv_at hl 0 rfl) ?_
  refine lv_iload_n hx hb dX5_putWide_14 rfl (lv_at hl 3 rfl) ?_
  obtain ⟨σ3, g3, hf⟩ := zbu_use hf
  refine z_callVu (As := [.int x3]) (rest := []) hC hI (cX5_putHl_met st l D ad cy σ2 x3 _ g3) (zgV zw30_3 zw30_4 zw30_5 zw2_21 zw30_6) rfl ⟨rfl, rfl⟩ 1 hdX5_putHl ⟨Nat.le_of_ble_eq_true rfl, Nat.le_of_ble_eq_true rfl⟩ rfl rfl (wC_e7 ad cy σ2) rfl hl rfl (Nat.le_of_ble_eq_true rfl) dX5_putWide_15 ⟨Nat.zero_le _, Nat.zero_le _⟩ (fun H locs hI => ?_)
  refine lv_aload_n hx hb dX5_putWide_18 rfl (lv_at hl 0 rfl) ?_
  refine z_get hC hI hinX5_putWide_X50 7 (wC_e7 ad cy σ3) rfl 2 (by decide) (List.mem_cons_of_mem _ zw7_5) rfl dX5_putWide_19 ?_
  refine lv_iconst (v := 1) hx hb dX5_putWide_22 (by decide) ?_
  refine lv_iload_n hx hb dX5_putWide_23 rfl (lv_at hl 3 rfl) ?_
  refine lv_bipush (v := 8) hx hb dX5_putWide_24 (by decide) ?_
  refine lv_ishr hx hb dX5_putWide_26 ?_
  refine lv_sipush (v := 168) hx hb dX5_putWide_27 (by decide) ?_
  refine lv_iand hx hb dX5_putWide_30 ?_
  refine lv_iload_n hx hb dX5_putWide_31 rfl (lv_at hl 3 rfl) ?_
  refine lv_ldc (v := 65535) hx hb hC.2.2.2.1 (hC.2.2.2.2.1 _ (List.mem_cons_of_mem _ zw20_6)) dX5_putWide_32 ?_
  refine lv_iand hx hb dX5_putWide_34 ?_
  refine lv_if_ne (tgt := 43) hx hb dX5_putWide_35 (by decide) (fun q => ?_) (fun q => ?_)
  · replace hf := zif_f q hf
    refine lv_iconst (v := 0) hx hb dX5_putWide_43 (by decide) ?_
    exact bX5_putWide_44 hC  hI (lv_sub hl [1, 2, 3] rfl) hf
  replace hf := zif_t q hf
  refine lv_bipush (v := 64) hx hb dX5_putWide_38 (by decide) ?_
  refine lv_goto (tgt := 44) hx hb dX5_putWide_40 (by decide) ?_
  exact bX5_putWide_44 hC  hI (lv_sub hl [1, 2, 3] rfl) hf
set_option maxRecDepth 20000 in
theorem cX5_putWide_met (st : Nat → Nat) (l : Launch) (D : va_G) (ad : Nat → Nat) (cy : Nat → ClassId) (σ : zSt) (x1 : Int32) (x2 : Int32) (x3 : Int32) (res : zSt) (hf : fX5_putWide σ x1 x2 x3 = some res) (sz : Nat) : zMu st l yX5_putWide wzX5_putWide rmX5_putWide [.ref (ad 7), .int x1, .int x2, .int x3] D (tC cy) (wC ad cy) sz σ res :=
  zMu.of (cc := cX5_putWide) (maxL := 4) (ret := none) (by decide) rfl (Nat.le_of_ble_eq_true rfl) (fun p e s m args below meth c hC A hI ls hl => bX5_putWide hC hI hl hf)
theorem hdX5_putWide : yX5_putWide.cls = RX5 ∧ yX5_putWide.cls ≠ "java/lang/invoke/MethodHandle" ∧ yX5_putWide.cls ≠ "java/lang/invoke/VarHandle" ∧ (parseMethodDescriptor yX5_putWide.desc).map (fun d => d.parameters.length) = some 3 := by decide +kernel
noncomputable def rmX5_takePair : Room := { frames := 3, cells := 0, slots := 0, locals := 66 }
noncomputable def wzX5_takePair : List Cond := .code yX5_takePair cX5_takePair 6 (some .int) :: wsL_law
theorem hinX5_takePair_X50 : ∀ w ∈ wsX50, w ∈ wzX5_takePair := fun w h => List.mem_cons_of_mem _ (inlX5 w h)
noncomputable def fX5_takePair_63  (σ : zSt) (s0 : Int32) (s1 : Int32) (s2 : Int32) : Option (zSt × Int32) :=
  zck (zin s2 29) (zbv (zsi σ 36 (s2.toNatClampNeg) (s1 ||| (s0 ||| 2))) (fun σ1 =>
  some (σ1, 15)))
noncomputable def fX5_takePair  (σ : zSt) (x1 : Int32) : Option (zSt × Int32) :=
  zbi (fX5_hl σ ) (fun σ2 v3 =>
  zbi (fX5_pair σ2 x1) (fun σ4 v5 =>
  zck (zin 1 29) (
  zbv ((v3 - v5) - ((zgi σ4 36 (1 : Int32).toNatClampNeg) &&& 1)) (fun v6 =>
  zbu (fX5_putWide σ4 v3 v5 v6) (fun σ7 =>
  zbv (((v3 ^^^ v5) &&& (v3 ^^^ v6)) &&& 32768) (fun v8 =>
  zck (zin 1 29) (
  if v8 = 0 then fX5_takePair_63 σ7 0 (zgi σ7 36 (1 : Int32).toNatClampNeg) 1 else
  fX5_takePair_63 σ7 4 (zgi σ7 36 (1 : Int32).toNatClampNeg) 1)))))))
set_option maxRecDepth 20000 in
set_option maxHeartbeats 4000000 in
theorem bX5_takePair_63 {st : Nat → Nat} {p : Program} {l : Launch} {e : Env} {s : State} {m : MethodId} {args : Array Value} {below : List Frame} {meth : Method} {c : Code} {D : va_G} {A : Nat → Prop} {ad : Nat → Nat} {cy : Nat → ClassId} (hC : zC p m c cX5_takePair 6 s args wzX5_takePair RX5 meth (some .int))  {res : zSt × Int32} {H : Heap} {locs : List Loc} {σ : zSt} {ls : Array Slot} {s0 : Int32} {s1 : Int32} {s2 : Int32} (hI : zI st D (tC cy) (wC ad cy σ) A s H locs) (hl : lv_has ls 6 []) (hf : fX5_takePair_63  σ s0 s1 s2 = some res) : W p l e rmX5_takePair s m args below meth c H locs 0 0 (zQi below args s D (tC cy) (wC ad cy) A res) (F0 m 63 ls [.int s0, .int s1, .int s2, .ref (ad 36)]) := by
  have hx := hC.1
  have hb := hC.2.1
  unfold fX5_takePair_63 at hf
  refine lv_iconst (v := 2) hx hb dX5_takePair_63 (by decide) ?_
  refine lv_ior hx hb dX5_takePair_64 ?_
  refine lv_ior hx hb dX5_takePair_65 ?_
  obtain ⟨q, hf⟩ := zck_use hf
  obtain ⟨σ1, eσ1⟩ : ∃ z, z = zsi σ 36 (s2.toNatClampNeg) (s1 ||| (s0 ||| 2)) := ⟨_, rfl⟩
  replace hf := zbv_use eσ1 hf
  refine z_iast hC hI 36 23 (wC_e36 ad cy σ) (tC_t36 cy) q ((wC_s36 ad cy σ _ _).trans (congrArg (wC ad cy) eσ1.symm)) dX5_takePair_66 (fun H locs hI => ?_)
  refine lv_bipush (v := 15) hx hb dX5_takePair_67 (by decide) ?_
  exact z_ireturn hC hI hf dX5_takePair_69
set_option maxRecDepth 20000 in
set_option maxHeartbeats 4000000 in
theorem bX5_takePair {st : Nat → Nat} {p : Program} {l : Launch} {e : Env} {s : State} {m : MethodId} {args : Array Value} {below : List Frame} {meth : Method} {c : Code} {D : va_G} {A : Nat → Prop} {ad : Nat → Nat} {cy : Nat → ClassId} (hC : zC p m c cX5_takePair 6 s args wzX5_takePair RX5 meth (some .int))  {res : zSt × Int32} {H : Heap} {locs : List Loc} {σ : zSt} {ls : Array Slot} {x1 : Int32} (hI : zI st D (tC cy) (wC ad cy σ) A s H locs) (hl : lv_has ls 6 [(0, .ref (ad 7)), (1, .int x1)]) (hf : fX5_takePair  σ x1 = some res) : W p l e rmX5_takePair s m args below meth c H locs 0 0 (zQi below args s D (tC cy) (wC ad cy) A res) (F0 m 0 ls []) := by
  have hx := hC.1
  have hb := hC.2.1
  unfold fX5_takePair at hf
  refine lv_aload_n hx hb dX5_takePair_0 rfl (lv_at hl 0 rfl) ?_
  obtain ⟨σ2, v3, g2, hf⟩ := zbi_use hf
  refine z_callVi (As := []) (rest := []) hC hI (cX5_hl_met st l D ad cy σ  _ g2) (zgV zw29_15 zw29_16 zw29_17 zw2_21 zw29_18) rfl ⟨rfl, rfl⟩ 0 hdX5_hl ⟨Nat.le_of_ble_eq_true rfl, Nat.le_of_ble_eq_true rfl⟩ rfl rfl (wC_e7 ad cy σ) rfl hl rfl (Nat.le_of_ble_eq_true rfl) dX5_takePair_1 ⟨Nat.zero_le _, Nat.zero_le _⟩ (fun H locs hI => ?_)
  refine lv_istore_n (lv' := [(2, .int v3), (0, .ref (ad 7)), (1, .int x1)]) hx hb dX5_takePair_4 rfl hl (by decide) rfl (fun ls hl => ?_)
  refine lv_aload_n hx hb dX5_takePair_5 rfl (lv_at hl 1 rfl) ?_
  refine lv_iload_n hx hb dX5_takePair_6 rfl (lv_at hl 2 rfl) ?_
  obtain ⟨σ4, v5, g4, hf⟩ := zbi_use hf
  refine z_callVi (As := [.int x1]) (rest := []) hC hI (cX5_pair_met st l D ad cy σ2 x1 _ g4) (zgV zw29_19 zw29_20 zw29_21 zw2_21 zw29_22) rfl ⟨rfl, rfl⟩ 1 hdX5_pair ⟨Nat.le_of_ble_eq_true rfl, Nat.le_of_ble_eq_true rfl⟩ rfl rfl (wC_e7 ad cy σ2) rfl hl rfl (Nat.le_of_ble_eq_true rfl) dX5_takePair_7 ⟨Nat.zero_le _, Nat.zero_le _⟩ (fun H locs hI => ?_)
  refine lv_istore_n (lv' := [(3, .int v5), (2, .int v3), (0, .ref (ad 7)), (1, .int x1)]) hx hb dX5_takePair_10 rfl hl (by decide) rfl (fun ls hl => ?_)
  refine lv_iload_n hx hb dX5_takePair_11 rfl (lv_at hl 1 rfl) ?_
  refine lv_iload_n hx hb dX5_takePair_12 rfl (lv_at hl 0 rfl) ?_
  refine lv_isub hx hb dX5_takePair_13 ?_
  refine lv_aload_n hx hb dX5_takePair_14 rfl (lv_at hl 2 rfl) ?_
  refine z_get hC hI hinX5_takePair_X50 7 (wC_e7 ad cy σ4) rfl 2 (by decide) (List.mem_cons_of_mem _ zw7_5) rfl dX5_takePair_15 ?_
  refine lv_iconst (v := 1) hx hb dX5_takePair_18 (by decide) ?_
  obtain ⟨q, hf⟩ := zck_use hf
  refine z_iald hC hI 36 23 (wC_e36 ad cy σ4) (tC_t36 cy) q dX5_takePair_19 ?_
  refine lv_iconst (v := 1) hx hb dX5_takePair_20 (by decide) ?_
  refine lv_iand hx hb dX5_takePair_21 ?_
  refine lv_isub hx hb dX5_takePair_22 ?_
  refine lv_topi (fun v6 ev6 => ?_)
  replace hf := zbv_use ev6 hf
  refine lv_istore (lv' := [(4, .int v6), (3, .int v5), (2, .int v3), (0, .ref (ad 7)), (1, .int x1)]) hx hb dX5_takePair_23 hl (by decide) rfl (fun ls hl => ?_)
  refine lv_aload_n hx hb dX5_takePair_25 rfl (lv_at hl 3 rfl) ?_
  refine lv_iload_n hx hb dX5_takePair_26 rfl (lv_at hl 2 rfl) ?_
  refine lv_iload_n hx hb dX5_takePair_27 rfl (lv_at hl 1 rfl) ?_
  refine lv_iload hx hb dX5_takePair_28 (lv_at hl 0 rfl) ?_
  obtain ⟨σ7, g7, hf⟩ := zbu_use hf
  refine z_callVu (As := [.int v3, .int v5, .int v6]) (rest := []) hC hI (cX5_putWide_met st l D ad cy σ4 v3 v5 v6 _ g7) (zgV zw29_23 zw30_0 zw30_1 zw2_21 zw30_2) rfl ⟨rfl, rfl⟩ 3 hdX5_putWide ⟨Nat.le_of_ble_eq_true rfl, Nat.le_of_ble_eq_true rfl⟩ rfl rfl (wC_e7 ad cy σ4) rfl hl rfl (Nat.le_of_ble_eq_true rfl) dX5_takePair_30 ⟨Nat.zero_le _, Nat.zero_le _⟩ (fun H locs hI => ?_)
  refine lv_iload_n hx hb dX5_takePair_33 rfl (lv_at hl 2 rfl) ?_
  refine lv_iload_n hx hb dX5_takePair_34 rfl (lv_at hl 1 rfl) ?_
  refine lv_ixor hx hb dX5_takePair_35 ?_
  refine lv_iload_n hx hb dX5_takePair_36 rfl (lv_at hl 2 rfl) ?_
  refine lv_iload hx hb dX5_takePair_37 (lv_at hl 0 rfl) ?_
  refine lv_ixor hx hb dX5_takePair_39 ?_
  refine lv_iand hx hb dX5_takePair_40 ?_
  refine lv_ldc (v := 32768) hx hb hC.2.2.2.1 (hC.2.2.2.2.1 _ (List.mem_cons_of_mem _ zw29_14)) dX5_takePair_41 ?_
  refine lv_iand hx hb dX5_takePair_43 ?_
  refine lv_topi (fun v8 ev8 => ?_)
  replace hf := zbv_use ev8 hf
  refine lv_istore (lv' := [(5, .int v8), (4, .int v6), (3, .int v5), (2, .int v3), (0, .ref (ad 7)), (1, .int x1)]) hx hb dX5_takePair_44 hl (by decide) rfl (fun ls hl => ?_)
  refine lv_aload_n hx hb dX5_takePair_46 rfl (lv_at hl 4 rfl) ?_
  refine z_get hC hI hinX5_takePair_X50 7 (wC_e7 ad cy σ7) rfl 2 (by decide) (List.mem_cons_of_mem _ zw7_5) rfl dX5_takePair_47 ?_
  refine lv_iconst (v := 1) hx hb dX5_takePair_50 (by decide) ?_
  refine lv_dup2_11 hx hb dX5_takePair_51 rfl rfl ?_
  obtain ⟨q, hf⟩ := zck_use hf
  refine z_iald hC hI 36 23 (wC_e36 ad cy σ7) (tC_t36 cy) q dX5_takePair_52 ?_
  refine lv_iload hx hb dX5_takePair_53 (lv_at hl 0 rfl) ?_
  refine lv_if_eq (tgt := 62) hx hb dX5_takePair_55 (by decide) (fun q => ?_) (fun q => ?_)
  · replace hf := zif_t q hf
    refine lv_iconst (v := 0) hx hb dX5_takePair_62 (by decide) ?_
    exact bX5_takePair_63 hC  hI (lv_sub hl [] rfl) hf
  replace hf := zif_f q hf
  refine lv_iconst (v := 4) hx hb dX5_takePair_58 (by decide) ?_
  refine lv_goto (tgt := 63) hx hb dX5_takePair_59 (by decide) ?_
  exact bX5_takePair_63 hC  hI (lv_sub hl [] rfl) hf
set_option maxRecDepth 20000 in
theorem cX5_takePair_met (st : Nat → Nat) (l : Launch) (D : va_G) (ad : Nat → Nat) (cy : Nat → ClassId) (σ : zSt) (x1 : Int32) (res : zSt × Int32) (hf : fX5_takePair σ x1 = some res) (sz : Nat) : zMi st l yX5_takePair wzX5_takePair rmX5_takePair [.ref (ad 7), .int x1] D (tC cy) (wC ad cy) sz σ res :=
  zMi.of (cc := cX5_takePair) (maxL := 6) (ret := (some .int)) (by decide) rfl (Nat.le_of_ble_eq_true rfl) (fun p e s m args below meth c hC A hI ls hl => bX5_takePair hC hI hl hf)
theorem hdX5_takePair : yX5_takePair.cls = RX5 ∧ yX5_takePair.cls ≠ "java/lang/invoke/MethodHandle" ∧ yX5_takePair.cls ≠ "java/lang/invoke/VarHandle" ∧ (parseMethodDescriptor yX5_takePair.desc).map (fun d => d.parameters.length) = some 1 := by decide +kernel
noncomputable def rmX5_addPairAndCarry : Room := { frames := 3, cells := 0, slots := 0, locals := 66 }
noncomputable def wzX5_addPairAndCarry : List Cond := .code yX5_addPairAndCarry cX5_addPairAndCarry 6 (some .int) :: wsL_law
theorem hinX5_addPairAndCarry_X50 : ∀ w ∈ wsX50, w ∈ wzX5_addPairAndCarry := fun w h => List.mem_cons_of_mem _ (inlX5 w h)
noncomputable def fX5_addPairAndCarry_65  (σ : zSt) (s0 : Int32) (s1 : Int32) (s2 : Int32) : Option (zSt × Int32) :=
  zck (zin s2 29) (zbv (zsi σ 36 (s2.toNatClampNeg) (s1 ||| s0)) (fun σ1 =>
  some (σ1, 15)))
noncomputable def fX5_addPairAndCarry  (σ : zSt) (x1 : Int32) : Option (zSt × Int32) :=
  zbi (fX5_hl σ ) (fun σ2 v3 =>
  zbi (fX5_pair σ2 x1) (fun σ4 v5 =>
  zck (zin 1 29) (
  zbv ((v3 + v5) + ((zgi σ4 36 (1 : Int32).toNatClampNeg) &&& 1)) (fun v6 =>
  zbu (fX5_putWide σ4 v3 v5 v6) (fun σ7 =>
  zbv ((((v3 ^^^ v5) ^^^ (-1)) &&& (v3 ^^^ v6)) &&& 32768) (fun v8 =>
  zck (zin 1 29) (
  if v8 = 0 then fX5_addPairAndCarry_65 σ7 0 (zgi σ7 36 (1 : Int32).toNatClampNeg) 1 else
  fX5_addPairAndCarry_65 σ7 4 (zgi σ7 36 (1 : Int32).toNatClampNeg) 1)))))))
set_option maxRecDepth 20000 in
set_option maxHeartbeats 4000000 in
theorem bX5_addPairAndCarry_65 {st : Nat → Nat} {p : Program} {l : Launch} {e : Env} {s : State} {m : MethodId} {args : Array Value} {below : List Frame} {meth : Method} {c : Code} {D : va_G} {A : Nat → Prop} {ad : Nat → Nat} {cy : Nat → ClassId} (hC : zC p m c cX5_addPairAndCarry 6 s args wzX5_addPairAndCarry RX5 meth (some .int))  {res : zSt × Int32} {H : Heap} {locs : List Loc} {σ : zSt} {ls : Array Slot} {s0 : Int32} {s1 : Int32} {s2 : Int32} (hI : zI st D (tC cy) (wC ad cy σ) A s H locs) (hl : lv_has ls 6 []) (hf : fX5_addPairAndCarry_65  σ s0 s1 s2 = some res) : W p l e rmX5_addPairAndCarry s m args below meth c H locs 0 0 (zQi below args s D (tC cy) (wC ad cy) A res) (F0 m 65 ls [.int s0, .int s1, .int s2, .ref (ad 36)]) := by
  have hx := hC.1
  have hb := hC.2.1
  unfold fX5_addPairAndCarry_65 at hf
  refine lv_ior hx hb dX5_addPairAndCarry_65 ?_
  obtain ⟨q, hf⟩ := zck_use hf
  obtain ⟨σ1, eσ1⟩ : ∃ z, z = zsi σ 36 (s2.toNatClampNeg) (s1 ||| s0) := ⟨_, rfl⟩
  replace hf := zbv_use eσ1 hf
  refine z_iast hC hI 36 23 (wC_e36 ad cy σ) (tC_t36 cy) q ((wC_s36 ad cy σ _ _).trans (congrArg (wC ad cy) eσ1.symm)) dX5_addPairAndCarry_66 (fun H locs hI => ?_)
  refine lv_bipush (v := 15) hx hb dX5_addPairAndCarry_67 (by decide) ?_
  exact z_ireturn hC hI hf dX5_addPairAndCarry_69
set_option maxRecDepth 20000 in
set_option maxHeartbeats 4000000 in
theorem bX5_addPairAndCarry {st : Nat → Nat} {p : Program} {l : Launch} {e : Env} {s : State} {m : MethodId} {args : Array Value} {below : List Frame} {meth : Method} {c : Code} {D : va_G} {A : Nat → Prop} {ad : Nat → Nat} {cy : Nat → ClassId} (hC : zC p m c cX5_addPairAndCarry 6 s args wzX5_addPairAndCarry RX5 meth (some .int))  {res : zSt × Int32} {H : Heap} {locs : List Loc} {σ : zSt} {ls : Array Slot} {x1 : Int32} (hI : zI st D (tC cy) (wC ad cy σ) A s H locs) (hl : lv_has ls 6 [(0, .ref (ad 7)), (1, .int x1)]) (hf : fX5_addPairAndCarry  σ x1 = some res) : W p l e rmX5_addPairAndCarry s m args below meth c H locs 0 0 (zQi below args s D (tC cy) (wC ad cy) A res) (F0 m 0 ls []) := by
  have hx := hC.1
  have hb := hC.2.1
  unfold fX5_addPairAndCarry at hf
  refine lv_aload_n hx hb dX5_addPairAndCarry_0 rfl (lv_at hl 0 rfl) ?_
  obtain ⟨σ2, v3, g2, hf⟩ := zbi_use hf
  refine z_callVi (As := []) (rest := []) hC hI (cX5_hl_met st l D ad cy σ  _ g2) (zgV zw29_15 zw29_16 zw29_17 zw2_21 zw29_18) rfl ⟨rfl, rfl⟩ 0 hdX5_hl ⟨Nat.le_of_ble_eq_true rfl, Nat.le_of_ble_eq_true rfl⟩ rfl rfl (wC_e7 ad cy σ) rfl hl rfl (Nat.le_of_ble_eq_true rfl) dX5_addPairAndCarry_1 ⟨Nat.zero_le _, Nat.zero_le _⟩ (fun H locs hI => ?_)
  refine lv_istore_n (lv' := [(2, .int v3), (0, .ref (ad 7)), (1, .int x1)]) hx hb dX5_addPairAndCarry_4 rfl hl (by decide) rfl (fun ls hl => ?_)
  refine lv_aload_n hx hb dX5_addPairAndCarry_5 rfl (lv_at hl 1 rfl) ?_
  refine lv_iload_n hx hb dX5_addPairAndCarry_6 rfl (lv_at hl 2 rfl) ?_
  obtain ⟨σ4, v5, g4, hf⟩ := zbi_use hf
  refine z_callVi (As := [.int x1]) (rest := []) hC hI (cX5_pair_met st l D ad cy σ2 x1 _ g4) (zgV zw29_19 zw29_20 zw29_21 zw2_21 zw29_22) rfl ⟨rfl, rfl⟩ 1 hdX5_pair ⟨Nat.le_of_ble_eq_true rfl, Nat.le_of_ble_eq_true rfl⟩ rfl rfl (wC_e7 ad cy σ2) rfl hl rfl (Nat.le_of_ble_eq_true rfl) dX5_addPairAndCarry_7 ⟨Nat.zero_le _, Nat.zero_le _⟩ (fun H locs hI => ?_)
  refine lv_istore_n (lv' := [(3, .int v5), (2, .int v3), (0, .ref (ad 7)), (1, .int x1)]) hx hb dX5_addPairAndCarry_10 rfl hl (by decide) rfl (fun ls hl => ?_)
  refine lv_iload_n hx hb dX5_addPairAndCarry_11 rfl (lv_at hl 1 rfl) ?_
  refine lv_iload_n hx hb dX5_addPairAndCarry_12 rfl (lv_at hl 0 rfl) ?_
  refine lv_iadd hx hb dX5_addPairAndCarry_13 ?_
  refine lv_aload_n hx hb dX5_addPairAndCarry_14 rfl (lv_at hl 2 rfl) ?_
  refine z_get hC hI hinX5_addPairAndCarry_X50 7 (wC_e7 ad cy σ4) rfl 2 (by decide) (List.mem_cons_of_mem _ zw7_5) rfl dX5_addPairAndCarry_15 ?_
  refine lv_iconst (v := 1) hx hb dX5_addPairAndCarry_18 (by decide) ?_
  obtain ⟨q, hf⟩ := zck_use hf
  refine z_iald hC hI 36 23 (wC_e36 ad cy σ4) (tC_t36 cy) q dX5_addPairAndCarry_19 ?_
  refine lv_iconst (v := 1) hx hb dX5_addPairAndCarry_20 (by decide) ?_
  refine lv_iand hx hb dX5_addPairAndCarry_21 ?_
  refine lv_iadd hx hb dX5_addPairAndCarry_22 ?_
  refine lv_topi (fun v6 ev6 => ?_)
  replace hf := zbv_use ev6 hf
  refine lv_istore (lv' := [(4, .int v6), (3, .int v5), (2, .int v3), (0, .ref (ad 7)), (1, .int x1)]) hx hb dX5_addPairAndCarry_23 hl (by decide) rfl (fun ls hl => ?_)
  refine lv_aload_n hx hb dX5_addPairAndCarry_25 rfl (lv_at hl 3 rfl) ?_
  refine lv_iload_n hx hb dX5_addPairAndCarry_26 rfl (lv_at hl 2 rfl) ?_
  refine lv_iload_n hx hb dX5_addPairAndCarry_27 rfl (lv_at hl 1 rfl) ?_
  refine lv_iload hx hb dX5_addPairAndCarry_28 (lv_at hl 0 rfl) ?_
  obtain ⟨σ7, g7, hf⟩ := zbu_use hf
  refine z_callVu (As := [.int v3, .int v5, .int v6]) (rest := []) hC hI (cX5_putWide_met st l D ad cy σ4 v3 v5 v6 _ g7) (zgV zw29_23 zw30_0 zw30_1 zw2_21 zw30_2) rfl ⟨rfl, rfl⟩ 3 hdX5_putWide ⟨Nat.le_of_ble_eq_true rfl, Nat.le_of_ble_eq_true rfl⟩ rfl rfl (wC_e7 ad cy σ4) rfl hl rfl (Nat.le_of_ble_eq_true rfl) dX5_addPairAndCarry_30 ⟨Nat.zero_le _, Nat.zero_le _⟩ (fun H locs hI => ?_)
  refine lv_iload_n hx hb dX5_addPairAndCarry_33 rfl (lv_at hl 2 rfl) ?_
  refine lv_iload_n hx hb dX5_addPairAndCarry_34 rfl (lv_at hl 1 rfl) ?_
  refine lv_ixor hx hb dX5_addPairAndCarry_35 ?_
  refine lv_iconst (v := (-1)) hx hb dX5_addPairAndCarry_36 (by decide) ?_
  refine lv_ixor hx hb dX5_addPairAndCarry_37 ?_
  refine lv_iload_n hx hb dX5_addPairAndCarry_38 rfl (lv_at hl 2 rfl) ?_
  refine lv_iload hx hb dX5_addPairAndCarry_39 (lv_at hl 0 rfl) ?_
  refine lv_ixor hx hb dX5_addPairAndCarry_41 ?_
  refine lv_iand hx hb dX5_addPairAndCarry_42 ?_
  refine lv_ldc (v := 32768) hx hb hC.2.2.2.1 (hC.2.2.2.2.1 _ (List.mem_cons_of_mem _ zw29_14)) dX5_addPairAndCarry_43 ?_
  refine lv_iand hx hb dX5_addPairAndCarry_45 ?_
  refine lv_topi (fun v8 ev8 => ?_)
  replace hf := zbv_use ev8 hf
  refine lv_istore (lv' := [(5, .int v8), (4, .int v6), (3, .int v5), (2, .int v3), (0, .ref (ad 7)), (1, .int x1)]) hx hb dX5_addPairAndCarry_46 hl (by decide) rfl (fun ls hl => ?_)
  refine lv_aload_n hx hb dX5_addPairAndCarry_48 rfl (lv_at hl 4 rfl) ?_
  refine z_get hC hI hinX5_addPairAndCarry_X50 7 (wC_e7 ad cy σ7) rfl 2 (by decide) (List.mem_cons_of_mem _ zw7_5) rfl dX5_addPairAndCarry_49 ?_
  refine lv_iconst (v := 1) hx hb dX5_addPairAndCarry_52 (by decide) ?_
  refine lv_dup2_11 hx hb dX5_addPairAndCarry_53 rfl rfl ?_
  obtain ⟨q, hf⟩ := zck_use hf
  refine z_iald hC hI 36 23 (wC_e36 ad cy σ7) (tC_t36 cy) q dX5_addPairAndCarry_54 ?_
  refine lv_iload hx hb dX5_addPairAndCarry_55 (lv_at hl 0 rfl) ?_
  refine lv_if_eq (tgt := 64) hx hb dX5_addPairAndCarry_57 (by decide) (fun q => ?_) (fun q => ?_)
  · replace hf := zif_t q hf
    refine lv_iconst (v := 0) hx hb dX5_addPairAndCarry_64 (by decide) ?_
    exact bX5_addPairAndCarry_65 hC  hI (lv_sub hl [] rfl) hf
  replace hf := zif_f q hf
  refine lv_iconst (v := 4) hx hb dX5_addPairAndCarry_60 (by decide) ?_
  refine lv_goto (tgt := 65) hx hb dX5_addPairAndCarry_61 (by decide) ?_
  exact bX5_addPairAndCarry_65 hC  hI (lv_sub hl [] rfl) hf
set_option maxRecDepth 20000 in
theorem cX5_addPairAndCarry_met (st : Nat → Nat) (l : Launch) (D : va_G) (ad : Nat → Nat) (cy : Nat → ClassId) (σ : zSt) (x1 : Int32) (res : zSt × Int32) (hf : fX5_addPairAndCarry σ x1 = some res) (sz : Nat) : zMi st l yX5_addPairAndCarry wzX5_addPairAndCarry rmX5_addPairAndCarry [.ref (ad 7), .int x1] D (tC cy) (wC ad cy) sz σ res :=
  zMi.of (cc := cX5_addPairAndCarry) (maxL := 6) (ret := (some .int)) (by decide) rfl (Nat.le_of_ble_eq_true rfl) (fun p e s m args below meth c hC A hI ls hl => bX5_addPairAndCarry hC hI hl hf)
theorem hdX5_addPairAndCarry : yX5_addPairAndCarry.cls = RX5 ∧ yX5_addPairAndCarry.cls ≠ "java/lang/invoke/MethodHandle" ∧ yX5_addPairAndCarry.cls ≠ "java/lang/invoke/VarHandle" ∧ (parseMethodDescriptor yX5_addPairAndCarry.desc).map (fun d => d.parameters.length) = some 1 := by decide +kernel
noncomputable def rmX5_takeFromPort : Room := { frames := 3, cells := 0, slots := 0, locals := 66 }
noncomputable def wzX5_takeFromPort : List Cond := .code yX5_takeFromPort cX5_takeFromPort 3 none :: wsL_law
theorem hinX5_takeFromPort_X50 : ∀ w ∈ wsX50, w ∈ wzX5_takeFromPort := fun w h => List.mem_cons_of_mem _ (inlX5 w h)
noncomputable def fX5_takeFromPort_26  (σ : zSt) (x2 : Int32) : Option (zSt) :=
  zck (zin 1 29) (
  zbi (fX5_by σ x2) (fun σ1 v2 =>
  zbi (fX5_parity σ1 x2) (fun σ3 v4 =>
  zck (zin 1 29) (zbv (zsi σ3 36 ((1 : Int32).toNatClampNeg) ((((zgi σ 36 (1 : Int32).toNatClampNeg) &&& 1) ||| v2) ||| v4)) (fun σ5 =>
  some σ5)))))
noncomputable def fX5_takeFromPort  (σ : zSt) (x1 : Int32) : Option (zSt) :=
  zck (zin 3 29) (
  zbi (fX4_read σ (zgi σ 36 (3 : Int32).toNatClampNeg)) (fun σ6 v7 =>
  if x1 = 6 then fX5_takeFromPort_26 σ6 v7 else
  zbu (fX5_putOne σ6 x1 v7) (fun σ8 =>
  fX5_takeFromPort_26 σ8 v7)))
set_option maxRecDepth 20000 in
set_option maxHeartbeats 4000000 in
theorem bX5_takeFromPort_26 {st : Nat → Nat} {p : Program} {l : Launch} {e : Env} {s : State} {m : MethodId} {args : Array Value} {below : List Frame} {meth : Method} {c : Code} {D : va_G} {A : Nat → Prop} {ad : Nat → Nat} {cy : Nat → ClassId} (hC : zC p m c cX5_takeFromPort 3 s args wzX5_takeFromPort RX5 meth none)  {res : zSt} {H : Heap} {locs : List Loc} {σ : zSt} {ls : Array Slot} {x2 : Int32} (hI : zI st D (tC cy) (wC ad cy σ) A s H locs) (hl : lv_has ls 3 [(0, .ref (ad 7)), (2, .int x2)]) (hf : fX5_takeFromPort_26  σ x2 = some res) : W p l e rmX5_takeFromPort s m args below meth c H locs 0 0 (zQu below args s D (tC cy) (wC ad cy) A res) (F0 m 26 ls []) := by
  have hx := hC.1
  have hb := hC.2.1
  unfold fX5_takeFromPort_26 at hf
  refine lv_aload_n hx hb dX5_takeFromPort_26 rfl (lv_at hl 0 rfl) ?_
  refine z_get hC hI hinX5_takeFromPort_X50 7 (wC_e7 ad cy σ) rfl 2 (by decide) (List.mem_cons_of_mem _ zw7_5) rfl dX5_takeFromPort_27 ?_
  refine lv_iconst (v := 1) hx hb dX5_takeFromPort_30 (by decide) ?_
  refine lv_aload_n hx hb dX5_takeFromPort_31 rfl (lv_at hl 0 rfl) ?_
  refine z_get hC hI hinX5_takeFromPort_X50 7 (wC_e7 ad cy σ) rfl 2 (by decide) (List.mem_cons_of_mem _ zw7_5) rfl dX5_takeFromPort_32 ?_
  refine lv_iconst (v := 1) hx hb dX5_takeFromPort_35 (by decide) ?_
  obtain ⟨q, hf⟩ := zck_use hf
  refine z_iald hC hI 36 23 (wC_e36 ad cy σ) (tC_t36 cy) q dX5_takeFromPort_36 ?_
  refine lv_iconst (v := 1) hx hb dX5_takeFromPort_37 (by decide) ?_
  refine lv_iand hx hb dX5_takeFromPort_38 ?_
  refine lv_iload_n hx hb dX5_takeFromPort_39 rfl (lv_at hl 1 rfl) ?_
  obtain ⟨σ1, v2, g1, hf⟩ := zbi_use hf
  refine z_callSi (As := [.int x2]) (rest := [.int ((zgi σ 36 (1 : Int32).toNatClampNeg) &&& 1), .int 1, .ref (ad 36)]) hC hI (cX5_by_met st l D ad cy σ x2 _ g1) (zgS zw22_19 zw22_20 zw2_21 zw22_21) rfl ⟨rfl, rfl⟩ 1 hdX5_by ⟨Nat.le_of_ble_eq_true rfl, Nat.le_of_ble_eq_true rfl⟩ rfl hl rfl (Nat.le_of_ble_eq_true rfl) dX5_takeFromPort_40 ⟨Nat.zero_le _, Nat.zero_le _⟩ (fun H locs hI => ?_)
  refine lv_ior hx hb dX5_takeFromPort_43 ?_
  refine lv_iload_n hx hb dX5_takeFromPort_44 rfl (lv_at hl 1 rfl) ?_
  obtain ⟨σ3, v4, g3, hf⟩ := zbi_use hf
  refine z_callSi (As := [.int x2]) (rest := [.int (((zgi σ 36 (1 : Int32).toNatClampNeg) &&& 1) ||| v2), .int 1, .ref (ad 36)]) hC hI (cX5_parity_met st l D ad cy σ1 x2 _ g3) (zgS zw22_22 zw22_23 zw2_21 zw23_0) rfl ⟨rfl, rfl⟩ 1 hdX5_parity ⟨Nat.le_of_ble_eq_true rfl, Nat.le_of_ble_eq_true rfl⟩ rfl hl rfl (Nat.le_of_ble_eq_true rfl) dX5_takeFromPort_45 ⟨Nat.zero_le _, Nat.zero_le _⟩ (fun H locs hI => ?_)
  refine lv_ior hx hb dX5_takeFromPort_48 ?_
  obtain ⟨q, hf⟩ := zck_use hf
  obtain ⟨σ5, eσ5⟩ : ∃ z, z = zsi σ3 36 ((1 : Int32).toNatClampNeg) ((((zgi σ 36 (1 : Int32).toNatClampNeg) &&& 1) ||| v2) ||| v4) := ⟨_, rfl⟩
  replace hf := zbv_use eσ5 hf
  refine z_iast hC hI 36 23 (wC_e36 ad cy σ3) (tC_t36 cy) q ((wC_s36 ad cy σ3 _ _).trans (congrArg (wC ad cy) eσ5.symm)) dX5_takeFromPort_49 (fun H locs hI => ?_)
  exact z_return hC hI hf dX5_takeFromPort_50
set_option maxRecDepth 20000 in
set_option maxHeartbeats 4000000 in
theorem bX5_takeFromPort {st : Nat → Nat} {p : Program} {l : Launch} {e : Env} {s : State} {m : MethodId} {args : Array Value} {below : List Frame} {meth : Method} {c : Code} {D : va_G} {A : Nat → Prop} {ad : Nat → Nat} {cy : Nat → ClassId} (hC : zC p m c cX5_takeFromPort 3 s args wzX5_takeFromPort RX5 meth none)  {res : zSt} {H : Heap} {locs : List Loc} {σ : zSt} {ls : Array Slot} {x1 : Int32} (hI : zI st D (tC cy) (wC ad cy σ) A s H locs) (hl : lv_has ls 3 [(0, .ref (ad 7)), (1, .int x1)]) (hf : fX5_takeFromPort  σ x1 = some res) : W p l e rmX5_takeFromPort s m args below meth c H locs 0 0 (zQu below args s D (tC cy) (wC ad cy) A res) (F0 m 0 ls []) := by
  have hx := hC.1
  have hb := hC.2.1
  unfold fX5_takeFromPort at hf
  refine lv_aload_n hx hb dX5_takeFromPort_0 rfl (lv_at hl 0 rfl) ?_
  refine z_get hC hI hinX5_takeFromPort_X50 7 (wC_e7 ad cy σ) rfl 1 (by decide) (List.mem_cons_of_mem _ zw7_9) rfl dX5_takeFromPort_1 ?_
  refine lv_aload_n hx hb dX5_takeFromPort_4 rfl (lv_at hl 0 rfl) ?_
  refine z_get hC hI hinX5_takeFromPort_X50 7 (wC_e7 ad cy σ) rfl 2 (by decide) (List.mem_cons_of_mem _ zw7_5) rfl dX5_takeFromPort_5 ?_
  refine lv_iconst (v := 3) hx hb dX5_takeFromPort_8 (by decide) ?_
  obtain ⟨q, hf⟩ := zck_use hf
  refine z_iald hC hI 36 23 (wC_e36 ad cy σ) (tC_t36 cy) q dX5_takeFromPort_9 ?_
  obtain ⟨σ6, v7, g6, hf⟩ := zbi_use hf
  refine z_callVi (As := [.int (zgi σ 36 (3 : Int32).toNatClampNeg)]) (rest := []) hC hI (cX4_read_met st l D ad cy σ (zgi σ 36 (3 : Int32).toNatClampNeg) _ g6) (zgV zw25_4 zw25_5 zw25_6 zw2_17 zw25_7) rfl ⟨rfl, rfl⟩ 1 hdX4_read ⟨Nat.le_of_ble_eq_true rfl, Nat.le_of_ble_eq_true rfl⟩ rfl rfl (wC_e6 ad cy σ) rfl hl rfl (Nat.le_of_ble_eq_true rfl) dX5_takeFromPort_10 ⟨Nat.zero_le _, Nat.zero_le _⟩ (fun H locs hI => ?_)
  refine lv_istore_n (lv' := [(2, .int v7), (0, .ref (ad 7)), (1, .int x1)]) hx hb dX5_takeFromPort_13 rfl hl (by decide) rfl (fun ls hl => ?_)
  refine lv_iload_n hx hb dX5_takeFromPort_14 rfl (lv_at hl 2 rfl) ?_
  refine lv_bipush (v := 6) hx hb dX5_takeFromPort_15 (by decide) ?_
  refine lv_icmp_eq (tgt := 26) hx hb dX5_takeFromPort_17 (by decide) (fun q => ?_) (fun q => ?_)
  · replace hf := zif_t q hf
    exact bX5_takeFromPort_26 hC  hI (lv_sub hl [1, 0] rfl) hf
  replace hf := zif_f q hf
  refine lv_aload_n hx hb dX5_takeFromPort_20 rfl (lv_at hl 1 rfl) ?_
  refine lv_iload_n hx hb dX5_takeFromPort_21 rfl (lv_at hl 2 rfl) ?_
  refine lv_iload_n hx hb dX5_takeFromPort_22 rfl (lv_at hl 0 rfl) ?_
  obtain ⟨σ8, g8, hf⟩ := zbu_use hf
  refine z_callVu (As := [.int x1, .int v7]) (rest := []) hC hI (cX5_putOne_met st l D ad cy σ6 x1 v7 _ g8) (zgV zw23_8 zw23_9 zw23_10 zw2_21 zw23_11) rfl ⟨rfl, rfl⟩ 2 hdX5_putOne ⟨Nat.le_of_ble_eq_true rfl, Nat.le_of_ble_eq_true rfl⟩ rfl rfl (wC_e7 ad cy σ6) rfl hl rfl (Nat.le_of_ble_eq_true rfl) dX5_takeFromPort_23 ⟨Nat.zero_le _, Nat.zero_le _⟩ (fun H locs hI => ?_)
  exact bX5_takeFromPort_26 hC  hI (lv_sub hl [1, 0] rfl) hf
set_option maxRecDepth 20000 in
theorem cX5_takeFromPort_met (st : Nat → Nat) (l : Launch) (D : va_G) (ad : Nat → Nat) (cy : Nat → ClassId) (σ : zSt) (x1 : Int32) (res : zSt) (hf : fX5_takeFromPort σ x1 = some res) (sz : Nat) : zMu st l yX5_takeFromPort wzX5_takeFromPort rmX5_takeFromPort [.ref (ad 7), .int x1] D (tC cy) (wC ad cy) sz σ res :=
  zMu.of (cc := cX5_takeFromPort) (maxL := 3) (ret := none) (by decide) rfl (Nat.le_of_ble_eq_true rfl) (fun p e s m args below meth c hC A hI ls hl => bX5_takeFromPort hC hI hl hf)
theorem hdX5_takeFromPort : yX5_takeFromPort.cls = RX5 ∧ yX5_takeFromPort.cls ≠ "java/lang/invoke/MethodHandle" ∧ yX5_takeFromPort.cls ≠ "java/lang/invoke/VarHandle" ∧ (parseMethodDescriptor yX5_takeFromPort.desc).map (fun d => d.parameters.length) = some 1 := by decide +kernel
noncomputable def rmX5_behindEd : Room := { frames := 4, cells := 0, slots := 0, locals := 92 }
noncomputable def wzX5_behindEd : List Cond := .code yX5_behindEd cX5_behindEd 3 (some .int) :: wsL_law
theorem hinX5_behindEd_X50 : ∀ w ∈ wsX50, w ∈ wzX5_behindEd := fun w h => List.mem_cons_of_mem _ (inlX5 w h)
noncomputable def fX5_behindEd_160  (σ : zSt) (s0 : Int32) : Option (zSt × Int32) :=
  some (σ, s0)
noncomputable def fX5_behindEd_131  (σ : zSt) (s0 : Int32) (s1 : Int32) : Option (zSt × Int32) :=
  zbu (fX4_write σ s1 s0) (fun σ1 =>
  some (σ1, 12))
noncomputable def fX5_behindEd  (σ : zSt) (x1 : Int32) : Option (zSt × Int32) :=
  if (x1 >>> ((6 : Int32) &&& 31)) = 1 then zbv ((x1 >>> ((3 : Int32) &&& 31)) &&& 7) (fun v2 =>
  if (x1 &&& 7) = 0 then zbi (fX5_pairAt σ 2) (fun σ3 v4 =>
  zck (zin 20 29) (zbv (zsi σ3 36 ((20 : Int32).toNatClampNeg) ((v4 + 1) &&& 65535)) (fun σ5 =>
  zbu (fX5_takeFromPort σ5 v2) (fun σ6 =>
  some (σ6, 12))))) else
  if (x1 &&& 7) = 1 then zbi (fX5_pairAt σ 2) (fun σ7 v8 =>
  zck (zin 20 29) (zbv (zsi σ7 36 ((20 : Int32).toNatClampNeg) ((v8 + 1) &&& 65535)) (fun σ9 =>
  zck (zin 3 29) (
  if v2 = 6 then fX5_behindEd_131 σ9 0 (zgi σ9 36 (3 : Int32).toNatClampNeg) else
  zbi (fX5_one σ9 v2) (fun σ10 v11 =>
  fX5_behindEd_131 σ10 v11 (zgi σ9 36 (3 : Int32).toNatClampNeg)))))) else
  if (x1 &&& 7) = 2 then if (v2 &&& 1) = 0 then zbi (fX5_takePair σ (v2 >>> ((1 : Int32) &&& 31))) (fun σ14 v15 =>
  fX5_behindEd_160 σ14 v15) else
  zbi (fX5_addPairAndCarry σ (v2 >>> ((1 : Int32) &&& 31))) (fun σ12 v13 =>
  fX5_behindEd_160 σ12 v13) else
  if (x1 &&& 7) = 3 then zbi (fX5_farPair σ v2) (fun σ16 v17 =>
  some (σ16, v17)) else
  if (x1 &&& 7) = 4 then zck (zin 0 29) (
  zbi (fX5_difference σ 0 (zgi σ 36 (0 : Int32).toNatClampNeg) 0) (fun σ18 v19 =>
  zck (zin 0 29) (zbv (zsi σ18 36 ((0 : Int32).toNatClampNeg) v19) (fun σ20 =>
  some (σ20, 8))))) else
  if (x1 &&& 7) = 5 then zbi (fX5_pop σ ) (fun σ21 v22 =>
  zbu (fX5_goTo σ21 v22) (fun σ23 =>
  zck (zin 24 29) (
  zck (zin 23 29) (zbv (zsi σ23 36 ((23 : Int32).toNatClampNeg) (zgi σ23 36 (24 : Int32).toNatClampNeg)) (fun σ24 =>
  some (σ24, 14)))))) else
  if (x1 &&& 7) = 6 then zck (zin 25 29) (zbv (zsi σ 36 ((25 : Int32).toNatClampNeg) (zmax 0 ((v2 &&& 3) - 1))) (fun σ25 =>
  some (σ25, 8))) else
  zbi (fX5_moreOfA σ v2) (fun σ26 v27 =>
  some (σ26, v27))) else
  some (σ, 8)
set_option maxRecDepth 20000 in
set_option maxHeartbeats 4000000 in
theorem bX5_behindEd_160 {st : Nat → Nat} {p : Program} {l : Launch} {e : Env} {s : State} {m : MethodId} {args : Array Value} {below : List Frame} {meth : Method} {c : Code} {D : va_G} {A : Nat → Prop} {ad : Nat → Nat} {cy : Nat → ClassId} (hC : zC p m c cX5_behindEd 3 s args wzX5_behindEd RX5 meth (some .int))  {res : zSt × Int32} {H : Heap} {locs : List Loc} {σ : zSt} {ls : Array Slot} {s0 : Int32} (hI : zI st D (tC cy) (wC ad cy σ) A s H locs) (hl : lv_has ls 3 []) (hf : fX5_behindEd_160  σ s0 = some res) : W p l e rmX5_behindEd s m args below meth c H locs 0 0 (zQi below args s D (tC cy) (wC ad cy) A res) (F0 m 160 ls [.int s0]) := by
  have hx := hC.1
  have hb := hC.2.1
  unfold fX5_behindEd_160 at hf
  exact z_ireturn hC hI hf dX5_behindEd_160
set_option maxRecDepth 20000 in
set_option maxHeartbeats 4000000 in
theorem bX5_behindEd_131 {st : Nat → Nat} {p : Program} {l : Launch} {e : Env} {s : State} {m : MethodId} {args : Array Value} {below : List Frame} {meth : Method} {c : Code} {D : va_G} {A : Nat → Prop} {ad : Nat → Nat} {cy : Nat → ClassId} (hC : zC p m c cX5_behindEd 3 s args wzX5_behindEd RX5 meth (some .int))  {res : zSt × Int32} {H : Heap} {locs : List Loc} {σ : zSt} {ls : Array Slot} {s0 : Int32} {s1 : Int32} (hI : zI st D (tC cy) (wC ad cy σ) A s H locs) (hl : lv_has ls 3 []) (hf : fX5_behindEd_131  σ s0 s1 = some res) : W p l e rmX5_behindEd s m args below meth c H locs 0 0 (zQi below args s D (tC cy) (wC ad cy) A res) (F0 m 131 ls [.int s0, .int s1, .ref (ad 6)]) := by
  have hx := hC.1
  have hb := hC.2.1
  unfold fX5_behindEd_131 at hf
  obtain ⟨σ1, g1, hf⟩ := zbu_use hf
  refine z_callVu (As := [.int s1, .int s0]) (rest := []) hC hI (cX4_write_met st l D ad cy σ s1 s0 _ g1) (zgV zw27_9 zw27_10 zw27_11 zw2_17 zw27_12) rfl ⟨rfl, rfl⟩ 2 hdX4_write ⟨Nat.le_of_ble_eq_true rfl, Nat.le_of_ble_eq_true rfl⟩ rfl rfl (wC_e6 ad cy σ) rfl hl rfl (Nat.le_of_ble_eq_true rfl) dX5_behindEd_131 ⟨Nat.zero_le _, Nat.zero_le _⟩ (fun H locs hI => ?_)
  refine lv_bipush (v := 12) hx hb dX5_behindEd_134 (by decide) ?_
  exact z_ireturn hC hI hf dX5_behindEd_136
set_option maxRecDepth 20000 in
set_option maxHeartbeats 4000000 in
theorem bX5_behindEd {st : Nat → Nat} {p : Program} {l : Launch} {e : Env} {s : State} {m : MethodId} {args : Array Value} {below : List Frame} {meth : Method} {c : Code} {D : va_G} {A : Nat → Prop} {ad : Nat → Nat} {cy : Nat → ClassId} (hC : zC p m c cX5_behindEd 3 s args wzX5_behindEd RX5 meth (some .int))  {res : zSt × Int32} {H : Heap} {locs : List Loc} {σ : zSt} {ls : Array Slot} {x1 : Int32} (hI : zI st D (tC cy) (wC ad cy σ) A s H locs) (hl : lv_has ls 3 [(0, .ref (ad 7)), (1, .int x1)]) (hf : fX5_behindEd  σ x1 = some res) : W p l e rmX5_behindEd s m args below meth c H locs 0 0 (zQi below args s D (tC cy) (wC ad cy) A res) (F0 m 0 ls []) := by
  have hx := hC.1
  have hb := hC.2.1
  unfold fX5_behindEd at hf
  refine lv_iload_n hx hb dX5_behindEd_0 rfl (lv_at hl 1 rfl) ?_
  refine lv_bipush (v := 6) hx hb dX5_behindEd_1 (by decide) ?_
  refine lv_ishr hx hb dX5_behindEd_3 ?_
  refine lv_iconst (v := 1) hx hb dX5_behindEd_4 (by decide) ?_
  refine lv_icmp_eq (tgt := 11) hx hb dX5_behindEd_5 (by decide) (fun q => ?_) (fun q => ?_)
  · replace hf := zif_t q hf
    refine lv_iload_n hx hb dX5_behindEd_11 rfl (lv_at hl 1 rfl) ?_
    refine lv_iconst (v := 3) hx hb dX5_behindEd_12 (by decide) ?_
    refine lv_ishr hx hb dX5_behindEd_13 ?_
    refine lv_bipush (v := 7) hx hb dX5_behindEd_14 (by decide) ?_
    refine lv_iand hx hb dX5_behindEd_16 ?_
    refine lv_topi (fun v2 ev2 => ?_)
    replace hf := zbv_use ev2 hf
    refine lv_istore_n (lv' := [(2, .int v2), (0, .ref (ad 7)), (1, .int x1)]) hx hb dX5_behindEd_17 rfl hl (by decide) rfl (fun ls hl => ?_)
    refine lv_iload_n hx hb dX5_behindEd_18 rfl (lv_at hl 2 rfl) ?_
    refine lv_bipush (v := 7) hx hb dX5_behindEd_19 (by decide) ?_
    refine lv_iand hx hb dX5_behindEd_21 ?_
    by_cases q0 : (x1 &&& 7) = 0
    · replace hf := zif_t q0 hf
      refine lv_tableIn (tgt := 64) hx hb dX5_behindEd_22 (by rw [q0]; decide) (by rw [q0]; decide) (by rw [q0]; rfl) (by decide) ?_
      refine lv_aload_n hx hb dX5_behindEd_64 rfl (lv_at hl 1 rfl) ?_
      refine z_get hC hI hinX5_behindEd_X50 7 (wC_e7 ad cy σ) rfl 2 (by decide) (List.mem_cons_of_mem _ zw7_5) rfl dX5_behindEd_65 ?_
      refine lv_bipush (v := 20) hx hb dX5_behindEd_68 (by decide) ?_
      refine lv_aload_n hx hb dX5_behindEd_70 rfl (lv_at hl 1 rfl) ?_
      refine lv_iconst (v := 2) hx hb dX5_behindEd_71 (by decide) ?_
      obtain ⟨σ3, v4, g3, hf⟩ := zbi_use hf
      refine z_callVi (As := [.int 2]) (rest := [.int 20, .ref (ad 36)]) hC hI (cX5_pairAt_met st l D ad cy σ 2 _ g3) (zgV zw21_15 zw21_16 zw21_17 zw2_21 zw21_18) rfl ⟨rfl, rfl⟩ 1 hdX5_pairAt ⟨Nat.le_of_ble_eq_true rfl, Nat.le_of_ble_eq_true rfl⟩ rfl rfl (wC_e7 ad cy σ) rfl hl rfl (Nat.le_of_ble_eq_true rfl) dX5_behindEd_72 ⟨Nat.zero_le _, Nat.zero_le _⟩ (fun H locs hI => ?_)
      refine lv_iconst (v := 1) hx hb dX5_behindEd_75 (by decide) ?_
      refine lv_iadd hx hb dX5_behindEd_76 ?_
      refine lv_ldc (v := 65535) hx hb hC.2.2.2.1 (hC.2.2.2.2.1 _ (List.mem_cons_of_mem _ zw20_6)) dX5_behindEd_77 ?_
      refine lv_iand hx hb dX5_behindEd_79 ?_
      obtain ⟨q, hf⟩ := zck_use hf
      obtain ⟨σ5, eσ5⟩ : ∃ z, z = zsi σ3 36 ((20 : Int32).toNatClampNeg) ((v4 + 1) &&& 65535) := ⟨_, rfl⟩
      replace hf := zbv_use eσ5 hf
      refine z_iast hC hI 36 23 (wC_e36 ad cy σ3) (tC_t36 cy) q ((wC_s36 ad cy σ3 _ _).trans (congrArg (wC ad cy) eσ5.symm)) dX5_behindEd_80 (fun H locs hI => ?_)
      refine lv_aload_n hx hb dX5_behindEd_81 rfl (lv_at hl 1 rfl) ?_
      refine lv_iload_n hx hb dX5_behindEd_82 rfl (lv_at hl 0 rfl) ?_
      obtain ⟨σ6, g6, hf⟩ := zbu_use hf
      refine z_callVu (As := [.int v2]) (rest := []) hC hI (cX5_takeFromPort_met st l D ad cy σ5 v2 _ g6) (zgV zw29_6 zw29_7 zw29_8 zw2_21 zw29_9) rfl ⟨rfl, rfl⟩ 1 hdX5_takeFromPort ⟨Nat.le_of_ble_eq_true rfl, Nat.le_of_ble_eq_true rfl⟩ rfl rfl (wC_e7 ad cy σ5) rfl hl rfl (Nat.le_of_ble_eq_true rfl) dX5_behindEd_83 ⟨Nat.zero_le _, Nat.zero_le _⟩ (fun H locs hI => ?_)
      refine lv_bipush (v := 12) hx hb dX5_behindEd_86 (by decide) ?_
      exact z_ireturn hC hI hf dX5_behindEd_88
    replace hf := zif_f q0 hf
    by_cases q1 : (x1 &&& 7) = 1
    · replace hf := zif_t q1 hf
      refine lv_tableIn (tgt := 89) hx hb dX5_behindEd_22 (by rw [q1]; decide) (by rw [q1]; decide) (by rw [q1]; rfl) (by decide) ?_
      refine lv_aload_n hx hb dX5_behindEd_89 rfl (lv_at hl 1 rfl) ?_
      refine z_get hC hI hinX5_behindEd_X50 7 (wC_e7 ad cy σ) rfl 2 (by decide) (List.mem_cons_of_mem _ zw7_5) rfl dX5_behindEd_90 ?_
      refine lv_bipush (v := 20) hx hb dX5_behindEd_93 (by decide) ?_
      refine lv_aload_n hx hb dX5_behindEd_95 rfl (lv_at hl 1 rfl) ?_
      refine lv_iconst (v := 2) hx hb dX5_behindEd_96 (by decide) ?_
      obtain ⟨σ7, v8, g7, hf⟩ := zbi_use hf
      refine z_callVi (As := [.int 2]) (rest := [.int 20, .ref (ad 36)]) hC hI (cX5_pairAt_met st l D ad cy σ 2 _ g7) (zgV zw21_15 zw21_16 zw21_17 zw2_21 zw21_18) rfl ⟨rfl, rfl⟩ 1 hdX5_pairAt ⟨Nat.le_of_ble_eq_true rfl, Nat.le_of_ble_eq_true rfl⟩ rfl rfl (wC_e7 ad cy σ) rfl hl rfl (Nat.le_of_ble_eq_true rfl) dX5_behindEd_97 ⟨Nat.zero_le _, Nat.zero_le _⟩ (fun H locs hI => ?_)
      refine lv_iconst (v := 1) hx hb dX5_behindEd_100 (by decide) ?_
      refine lv_iadd hx hb dX5_behindEd_101 ?_
      refine lv_ldc (v := 65535) hx hb hC.2.2.2.1 (hC.2.2.2.2.1 _ (List.mem_cons_of_mem _ zw20_6)) dX5_behindEd_102 ?_
      refine lv_iand hx hb dX5_behindEd_104 ?_
      obtain ⟨q, hf⟩ := zck_use hf
      obtain ⟨σ9, eσ9⟩ : ∃ z, z = zsi σ7 36 ((20 : Int32).toNatClampNeg) ((v8 + 1) &&& 65535) := ⟨_, rfl⟩
      replace hf := zbv_use eσ9 hf
      refine z_iast hC hI 36 23 (wC_e36 ad cy σ7) (tC_t36 cy) q ((wC_s36 ad cy σ7 _ _).trans (congrArg (wC ad cy) eσ9.symm)) dX5_behindEd_105 (fun H locs hI => ?_)
      refine lv_aload_n hx hb dX5_behindEd_106 rfl (lv_at hl 1 rfl) ?_
      refine z_get hC hI hinX5_behindEd_X50 7 (wC_e7 ad cy σ9) rfl 1 (by decide) (List.mem_cons_of_mem _ zw7_9) rfl dX5_behindEd_107 ?_
      refine lv_aload_n hx hb dX5_behindEd_110 rfl (lv_at hl 1 rfl) ?_
      refine z_get hC hI hinX5_behindEd_X50 7 (wC_e7 ad cy σ9) rfl 2 (by decide) (List.mem_cons_of_mem _ zw7_5) rfl dX5_behindEd_111 ?_
      refine lv_iconst (v := 3) hx hb dX5_behindEd_114 (by decide) ?_
      obtain ⟨q, hf⟩ := zck_use hf
      refine z_iald hC hI 36 23 (wC_e36 ad cy σ9) (tC_t36 cy) q dX5_behindEd_115 ?_
      refine lv_iload_n hx hb dX5_behindEd_116 rfl (lv_at hl 0 rfl) ?_
      refine lv_bipush (v := 6) hx hb dX5_behindEd_117 (by decide) ?_
      refine lv_icmp_ne (tgt := 126) hx hb dX5_behindEd_119 (by decide) (fun q => ?_) (fun q => ?_)
      · replace hf := zif_f q hf
        refine lv_aload_n hx hb dX5_behindEd_126 rfl (lv_at hl 1 rfl) ?_
        refine lv_iload_n hx hb dX5_behindEd_127 rfl (lv_at hl 0 rfl) ?_
        obtain ⟨σ10, v11, g10, hf⟩ := zbi_use hf
        refine z_callVi (As := [.int v2]) (rest := [.int (zgi σ9 36 (3 : Int32).toNatClampNeg), .ref (ad 6)]) hC hI (cX5_one_met st l D ad cy σ9 v2 _ g10) (zgV zw24_4 zw24_5 zw24_6 zw2_21 zw24_7) rfl ⟨rfl, rfl⟩ 1 hdX5_one ⟨Nat.le_of_ble_eq_true rfl, Nat.le_of_ble_eq_true rfl⟩ rfl rfl (wC_e7 ad cy σ9) rfl hl rfl (Nat.le_of_ble_eq_true rfl) dX5_behindEd_128 ⟨Nat.zero_le _, Nat.zero_le _⟩ (fun H locs hI => ?_)
        exact bX5_behindEd_131 hC  hI (lv_sub hl [] rfl) hf
      replace hf := zif_t q hf
      refine lv_iconst (v := 0) hx hb dX5_behindEd_122 (by decide) ?_
      refine lv_goto (tgt := 131) hx hb dX5_behindEd_123 (by decide) ?_
      exact bX5_behindEd_131 hC  hI (lv_sub hl [] rfl) hf
    replace hf := zif_f q1 hf
    by_cases q2 : (x1 &&& 7) = 2
    · replace hf := zif_t q2 hf
      refine lv_tableIn (tgt := 137) hx hb dX5_behindEd_22 (by rw [q2]; decide) (by rw [q2]; decide) (by rw [q2]; rfl) (by decide) ?_
      refine lv_iload_n hx hb dX5_behindEd_137 rfl (lv_at hl 0 rfl) ?_
      refine lv_iconst (v := 1) hx hb dX5_behindEd_138 (by decide) ?_
      refine lv_iand hx hb dX5_behindEd_139 ?_
      refine lv_if_ne (tgt := 153) hx hb dX5_behindEd_140 (by decide) (fun q => ?_) (fun q => ?_)
      · replace hf := zif_f q hf
        refine lv_aload_n hx hb dX5_behindEd_153 rfl (lv_at hl 1 rfl) ?_
        refine lv_iload_n hx hb dX5_behindEd_154 rfl (lv_at hl 0 rfl) ?_
        refine lv_iconst (v := 1) hx hb dX5_behindEd_155 (by decide) ?_
        refine lv_ishr hx hb dX5_behindEd_156 ?_
        obtain ⟨σ12, v13, g12, hf⟩ := zbi_use hf
        refine z_callVi (As := [.int (v2 >>> ((1 : Int32) &&& 31))]) (rest := []) hC hI (cX5_addPairAndCarry_met st l D ad cy σ (v2 >>> ((1 : Int32) &&& 31)) _ g12) (zgV zw30_7 zw30_8 zw30_9 zw2_21 zw30_10) rfl ⟨rfl, rfl⟩ 1 hdX5_addPairAndCarry ⟨Nat.le_of_ble_eq_true rfl, Nat.le_of_ble_eq_true rfl⟩ rfl rfl (wC_e7 ad cy σ) rfl hl rfl (Nat.le_of_ble_eq_true rfl) dX5_behindEd_157 ⟨Nat.zero_le _, Nat.zero_le _⟩ (fun H locs hI => ?_)
        exact bX5_behindEd_160 hC  hI (lv_sub hl [] rfl) hf
      replace hf := zif_t q hf
      refine lv_aload_n hx hb dX5_behindEd_143 rfl (lv_at hl 1 rfl) ?_
      refine lv_iload_n hx hb dX5_behindEd_144 rfl (lv_at hl 0 rfl) ?_
      refine lv_iconst (v := 1) hx hb dX5_behindEd_145 (by decide) ?_
      refine lv_ishr hx hb dX5_behindEd_146 ?_
      obtain ⟨σ14, v15, g14, hf⟩ := zbi_use hf
      refine z_callVi (As := [.int (v2 >>> ((1 : Int32) &&& 31))]) (rest := []) hC hI (cX5_takePair_met st l D ad cy σ (v2 >>> ((1 : Int32) &&& 31)) _ g14) (zgV zw29_10 zw29_11 zw29_12 zw2_21 zw29_13) rfl ⟨rfl, rfl⟩ 1 hdX5_takePair ⟨Nat.le_of_ble_eq_true rfl, Nat.le_of_ble_eq_true rfl⟩ rfl rfl (wC_e7 ad cy σ) rfl hl rfl (Nat.le_of_ble_eq_true rfl) dX5_behindEd_147 ⟨Nat.zero_le _, Nat.zero_le _⟩ (fun H locs hI => ?_)
      refine lv_goto (tgt := 160) hx hb dX5_behindEd_150 (by decide) ?_
      exact bX5_behindEd_160 hC  hI (lv_sub hl [] rfl) hf
    replace hf := zif_f q2 hf
    by_cases q3 : (x1 &&& 7) = 3
    · replace hf := zif_t q3 hf
      refine lv_tableIn (tgt := 161) hx hb dX5_behindEd_22 (by rw [q3]; decide) (by rw [q3]; decide) (by rw [q3]; rfl) (by decide) ?_
      refine lv_aload_n hx hb dX5_behindEd_161 rfl (lv_at hl 1 rfl) ?_
      refine lv_iload_n hx hb dX5_behindEd_162 rfl (lv_at hl 0 rfl) ?_
      obtain ⟨σ16, v17, g16, hf⟩ := zbi_use hf
      refine z_callVi (As := [.int v2]) (rest := []) hC hI (cX5_farPair_met st l D ad cy σ v2 _ g16) (zgV zw30_11 zw30_12 zw30_13 zw2_21 zw30_14) rfl ⟨rfl, rfl⟩ 1 hdX5_farPair ⟨Nat.le_of_ble_eq_true rfl, Nat.le_of_ble_eq_true rfl⟩ rfl rfl (wC_e7 ad cy σ) rfl hl rfl (Nat.le_of_ble_eq_true rfl) dX5_behindEd_163 ⟨Nat.zero_le _, Nat.zero_le _⟩ (fun H locs hI => ?_)
      exact z_ireturn hC hI hf dX5_behindEd_166
    replace hf := zif_f q3 hf
    by_cases q4 : (x1 &&& 7) = 4
    · replace hf := zif_t q4 hf
      refine lv_tableIn (tgt := 167) hx hb dX5_behindEd_22 (by rw [q4]; decide) (by rw [q4]; decide) (by rw [q4]; rfl) (by decide) ?_
      refine lv_aload_n hx hb dX5_behindEd_167 rfl (lv_at hl 1 rfl) ?_
      refine z_get hC hI hinX5_behindEd_X50 7 (wC_e7 ad cy σ) rfl 2 (by decide) (List.mem_cons_of_mem _ zw7_5) rfl dX5_behindEd_168 ?_
      refine lv_iconst (v := 0) hx hb dX5_behindEd_171 (by decide) ?_
      refine lv_aload_n hx hb dX5_behindEd_172 rfl (lv_at hl 1 rfl) ?_
      refine lv_iconst (v := 0) hx hb dX5_behindEd_173 (by decide) ?_
      refine lv_aload_n hx hb dX5_behindEd_174 rfl (lv_at hl 1 rfl) ?_
      refine z_get hC hI hinX5_behindEd_X50 7 (wC_e7 ad cy σ) rfl 2 (by decide) (List.mem_cons_of_mem _ zw7_5) rfl dX5_behindEd_175 ?_
      refine lv_iconst (v := 0) hx hb dX5_behindEd_178 (by decide) ?_
      obtain ⟨q, hf⟩ := zck_use hf
      refine z_iald hC hI 36 23 (wC_e36 ad cy σ) (tC_t36 cy) q dX5_behindEd_179 ?_
      refine lv_iconst (v := 0) hx hb dX5_behindEd_180 (by decide) ?_
      obtain ⟨σ18, v19, g18, hf⟩ := zbi_use hf
      refine z_callVi (As := [.int 0, .int (zgi σ 36 (0 : Int32).toNatClampNeg), .int 0]) (rest := [.int 0, .ref (ad 36)]) hC hI (cX5_difference_met st l D ad cy σ 0 (zgi σ 36 (0 : Int32).toNatClampNeg) 0 _ g18) (zgV zw31_3 zw31_4 zw31_5 zw2_21 zw31_6) rfl ⟨rfl, rfl⟩ 3 hdX5_difference ⟨Nat.le_of_ble_eq_true rfl, Nat.le_of_ble_eq_true rfl⟩ rfl rfl (wC_e7 ad cy σ) rfl hl rfl (Nat.le_of_ble_eq_true rfl) dX5_behindEd_181 ⟨Nat.zero_le _, Nat.zero_le _⟩ (fun H locs hI => ?_)
      obtain ⟨q, hf⟩ := zck_use hf
      obtain ⟨σ20, eσ20⟩ : ∃ z, z = zsi σ18 36 ((0 : Int32).toNatClampNeg) v19 := ⟨_, rfl⟩
      replace hf := zbv_use eσ20 hf
      refine z_iast hC hI 36 23 (wC_e36 ad cy σ18) (tC_t36 cy) q ((wC_s36 ad cy σ18 _ _).trans (congrArg (wC ad cy) eσ20.symm)) dX5_behindEd_184 (fun H locs hI => ?_)
      refine lv_bipush (v := 8) hx hb dX5_behindEd_185 (by decide) ?_
      exact z_ireturn hC hI hf dX5_behindEd_187
    replace hf := zif_f q4 hf
    by_cases q5 : (x1 &&& 7) = 5
    · replace hf := zif_t q5 hf
      refine lv_tableIn (tgt := 188) hx hb dX5_behindEd_22 (by rw [q5]; decide) (by rw [q5]; decide) (by rw [q5]; rfl) (by decide) ?_
      refine lv_aload_n hx hb dX5_behindEd_188 rfl (lv_at hl 1 rfl) ?_
      refine lv_aload_n hx hb dX5_behindEd_189 rfl (lv_at hl 1 rfl) ?_
      obtain ⟨σ21, v22, g21, hf⟩ := zbi_use hf
      refine z_callVi (As := []) (rest := [.ref (ad 7)]) hC hI (cX5_pop_met st l D ad cy σ  _ g21) (zgV zw31_7 zw31_8 zw31_9 zw2_21 zw31_10) rfl ⟨rfl, rfl⟩ 0 hdX5_pop ⟨Nat.le_of_ble_eq_true rfl, Nat.le_of_ble_eq_true rfl⟩ rfl rfl (wC_e7 ad cy σ) rfl hl rfl (Nat.le_of_ble_eq_true rfl) dX5_behindEd_190 ⟨Nat.zero_le _, Nat.zero_le _⟩ (fun H locs hI => ?_)
      obtain ⟨σ23, g23, hf⟩ := zbu_use hf
      refine z_callVu (As := [.int v22]) (rest := []) hC hI (cX5_goTo_met st l D ad cy σ21 v22 _ g23) (zgV zw20_22 zw20_23 zw21_0 zw2_21 zw21_1) rfl ⟨rfl, rfl⟩ 1 hdX5_goTo ⟨Nat.le_of_ble_eq_true rfl, Nat.le_of_ble_eq_true rfl⟩ rfl rfl (wC_e7 ad cy σ21) rfl hl rfl (Nat.le_of_ble_eq_true rfl) dX5_behindEd_193 ⟨Nat.zero_le _, Nat.zero_le _⟩ (fun H locs hI => ?_)
      refine lv_aload_n hx hb dX5_behindEd_196 rfl (lv_at hl 1 rfl) ?_
      refine z_get hC hI hinX5_behindEd_X50 7 (wC_e7 ad cy σ23) rfl 2 (by decide) (List.mem_cons_of_mem _ zw7_5) rfl dX5_behindEd_197 ?_
      refine lv_bipush (v := 23) hx hb dX5_behindEd_200 (by decide) ?_
      refine lv_aload_n hx hb dX5_behindEd_202 rfl (lv_at hl 1 rfl) ?_
      refine z_get hC hI hinX5_behindEd_X50 7 (wC_e7 ad cy σ23) rfl 2 (by decide) (List.mem_cons_of_mem _ zw7_5) rfl dX5_behindEd_203 ?_
      refine lv_bipush (v := 24) hx hb dX5_behindEd_206 (by decide) ?_
      obtain ⟨q, hf⟩ := zck_use hf
      refine z_iald hC hI 36 23 (wC_e36 ad cy σ23) (tC_t36 cy) q dX5_behindEd_208 ?_
      obtain ⟨q, hf⟩ := zck_use hf
      obtain ⟨σ24, eσ24⟩ : ∃ z, z = zsi σ23 36 ((23 : Int32).toNatClampNeg) (zgi σ23 36 (24 : Int32).toNatClampNeg) := ⟨_, rfl⟩
      replace hf := zbv_use eσ24 hf
      refine z_iast hC hI 36 23 (wC_e36 ad cy σ23) (tC_t36 cy) q ((wC_s36 ad cy σ23 _ _).trans (congrArg (wC ad cy) eσ24.symm)) dX5_behindEd_209 (fun H locs hI => ?_)
      refine lv_bipush (v := 14) hx hb dX5_behindEd_210 (by decide) ?_
      exact z_ireturn hC hI hf dX5_behindEd_212
    replace hf := zif_f q5 hf
    by_cases q6 : (x1 &&& 7) = 6
    · replace hf := zif_t q6 hf
      refine lv_tableIn (tgt := 213) hx hb dX5_behindEd_22 (by rw [q6]; decide) (by rw [q6]; decide) (by rw [q6]; rfl) (by decide) ?_
      refine lv_aload_n hx hb dX5_behindEd_213 rfl (lv_at hl 1 rfl) ?_
      refine z_get hC hI hinX5_behindEd_X50 7 (wC_e7 ad cy σ) rfl 2 (by decide) (List.mem_cons_of_mem _ zw7_5) rfl dX5_behindEd_214 ?_
      refine lv_bipush (v := 25) hx hb dX5_behindEd_217 (by decide) ?_
      refine lv_iconst (v := 0) hx hb dX5_behindEd_219 (by decide) ?_
      refine lv_iload_n hx hb dX5_behindEd_220 rfl (lv_at hl 0 rfl) ?_
      refine lv_iconst (v := 3) hx hb dX5_behindEd_221 (by decide) ?_
      refine lv_iand hx hb dX5_behindEd_222 ?_
      refine lv_iconst (v := 1) hx hb dX5_behindEd_223 (by decide) ?_
      refine lv_isub hx hb dX5_behindEd_224 ?_
      refine z_mmax hC (List.mem_cons_of_mem _ zw29_5) (List.mem_cons_of_mem _ zw12_18) (List.mem_cons_of_mem _ zw12_15) (List.mem_cons_of_mem _ zw12_19) hl (Nat.le_of_ble_eq_true rfl) (Nat.le_of_ble_eq_true rfl) ⟨Nat.zero_le _, Nat.zero_le _⟩ dX5_behindEd_225 ?_
      obtain ⟨q, hf⟩ := zck_use hf
      obtain ⟨σ25, eσ25⟩ : ∃ z, z = zsi σ 36 ((25 : Int32).toNatClampNeg) (zmax 0 ((v2 &&& 3) - 1)) := ⟨_, rfl⟩
      replace hf := zbv_use eσ25 hf
      refine z_iast hC hI 36 23 (wC_e36 ad cy σ) (tC_t36 cy) q ((wC_s36 ad cy σ _ _).trans (congrArg (wC ad cy) eσ25.symm)) dX5_behindEd_228 (fun H locs hI => ?_)
      refine lv_bipush (v := 8) hx hb dX5_behindEd_229 (by decide) ?_
      exact z_ireturn hC hI hf dX5_behindEd_231
    replace hf := zif_f q6 hf
    refine lv_tableOut (tgt := 232) hx hb dX5_behindEd_22 (zsw (fun k h1 h2 => by rcases (show k = 0 ∨ k = 1 ∨ k = 2 ∨ k = 3 ∨ k = 4 ∨ k = 5 ∨ k = 6 by omega) with rfl | rfl | rfl | rfl | rfl | rfl | rfl <;> assumption)) (by decide) ?_
    refine lv_aload_n hx hb dX5_behindEd_232 rfl (lv_at hl 1 rfl) ?_
    refine lv_iload_n hx hb dX5_behindEd_233 rfl (lv_at hl 0 rfl) ?_
    obtain ⟨σ26, v27, g26, hf⟩ := zbi_use hf
    refine z_callVi (As := [.int v2]) (rest := []) hC hI (cX5_moreOfA_met st l D ad cy σ v2 _ g26) (zgV zw31_11 zw31_12 zw31_13 zw2_21 zw31_14) rfl ⟨rfl, rfl⟩ 1 hdX5_moreOfA ⟨Nat.le_of_ble_eq_true rfl, Nat.le_of_ble_eq_true rfl⟩ rfl rfl (wC_e7 ad cy σ) rfl hl rfl (Nat.le_of_ble_eq_true rfl) dX5_behindEd_234 ⟨Nat.zero_le _, Nat.zero_le _⟩ (fun H locs hI => ?_)
    exact z_ireturn hC hI hf dX5_behindEd_237
  replace hf := zif_f q hf
  refine lv_bipush (v := 8) hx hb dX5_behindEd_8 (by decide) ?_
  exact z_ireturn hC hI hf dX5_behindEd_10
set_option maxRecDepth 20000 in
theorem cX5_behindEd_met (st : Nat → Nat) (l : Launch) (D : va_G) (ad : Nat → Nat) (cy : Nat → ClassId) (σ : zSt) (x1 : Int32) (res : zSt × Int32) (hf : fX5_behindEd σ x1 = some res) (sz : Nat) : zMi st l yX5_behindEd wzX5_behindEd rmX5_behindEd [.ref (ad 7), .int x1] D (tC cy) (wC ad cy) sz σ res :=
  zMi.of (cc := cX5_behindEd) (maxL := 3) (ret := (some .int)) (by decide) rfl (Nat.le_of_ble_eq_true rfl) (fun p e s m args below meth c hC A hI ls hl => bX5_behindEd hC hI hl hf)
theorem hdX5_behindEd : yX5_behindEd.cls = RX5 ∧ yX5_behindEd.cls ≠ "java/lang/invoke/MethodHandle" ∧ yX5_behindEd.cls ≠ "java/lang/invoke/VarHandle" ∧ (parseMethodDescriptor yX5_behindEd.desc).map (fun d => d.parameters.length) = some 1 := by decide +kernel
noncomputable def rmX5_exchange : Room := { frames := 3, cells := 0, slots := 0, locals := 69 }
noncomputable def wzX5_exchange : List Cond := .code yX5_exchange cX5_exchange 3 (some .int) :: wsL_law
theorem hinX5_exchange_X50 : ∀ w ∈ wsX50, w ∈ wzX5_exchange := fun w h => List.mem_cons_of_mem _ (inlX5 w h)
noncomputable def fX5_exchange_211  (σ : zSt) (x1 : Int32) : Option (zSt × Int32) :=
  zck (zin 23 29) (zbv (zsi σ 36 ((23 : Int32).toNatClampNeg) (x1 &&& 1)) (fun σ1 =>
  zck (zin 24 29) (zbv (zsi σ1 36 ((24 : Int32).toNatClampNeg) (x1 &&& 1)) (fun σ2 =>
  zck (zin 28 29) (zbv (zsi σ2 36 ((28 : Int32).toNatClampNeg) (x1 &&& 1)) (fun σ3 =>
  some (σ3, 4)))))))
noncomputable def fX5_exchange  (σ : zSt) (x1 : Int32) : Option (zSt × Int32) :=
  if x1 = 0 then zbi (fX5_fetchWord σ ) (fun σ4 v5 =>
  zbu (fX5_goTo σ4 v5) (fun σ6 =>
  some (σ6, 10))) else
  if x1 = 1 then fX5_exchange_211 σ x1 else
  if x1 = 2 then zbi (fX5_fetch σ ) (fun σ7 v8 =>
  zck (zin 0 29) (
  zbu (fX4_write σ7 v8 (zgi σ7 36 (0 : Int32).toNatClampNeg)) (fun σ9 =>
  zck (zin 0 29) (
  zck (zin 20 29) (zbv (zsi σ9 36 ((20 : Int32).toNatClampNeg) (((zgi σ9 36 (0 : Int32).toNatClampNeg) <<< ((8 : Int32) &&& 31)) ||| ((v8 + 1) &&& 255))) (fun σ10 =>
  some (σ10, 11))))))) else
  if x1 = 3 then zbi (fX5_fetch σ ) (fun σ11 v12 =>
  zck (zin 0 29) (
  zck (zin 20 29) (zbv (zsi σ11 36 ((20 : Int32).toNatClampNeg) (((((zgi σ11 36 (0 : Int32).toNatClampNeg) <<< ((8 : Int32) &&& 31)) ||| v12) + 1) &&& 65535)) (fun σ13 =>
  zbi (fX4_read σ13 v12) (fun σ14 v15 =>
  zck (zin 0 29) (zbv (zsi σ14 36 ((0 : Int32).toNatClampNeg) v15) (fun σ16 =>
  some (σ16, 11)))))))) else
  if x1 = 4 then zck (zin 18 29) (
  zbi (fX5_readWord σ (zgi σ 36 (18 : Int32).toNatClampNeg)) (fun σ17 v18 =>
  zck (zin 18 29) (
  zbi (fX5_hl σ17 ) (fun σ19 v20 =>
  zbu (fX5_writeWord σ19 (zgi σ17 36 (18 : Int32).toNatClampNeg) v20) (fun σ21 =>
  zbu (fX5_putHl σ21 v18) (fun σ22 =>
  zck (zin 20 29) (zbv (zsi σ22 36 ((20 : Int32).toNatClampNeg) v18) (fun σ23 =>
  some (σ23, 19))))))))) else
  if x1 = 5 then zbi (fX5_pairAt σ 4) (fun σ24 v25 =>
  zbi (fX5_pairAt σ24 6) (fun σ26 v27 =>
  zbu (fX5_putPairAt σ26 4 v27) (fun σ28 =>
  zbu (fX5_putPairAt σ28 6 v25) (fun σ29 =>
  some (σ29, 4))))) else
  fX5_exchange_211 σ x1
set_option maxRecDepth 20000 in
set_option maxHeartbeats 4000000 in
theorem bX5_exchange_211 {st : Nat → Nat} {p : Program} {l : Launch} {e : Env} {s : State} {m : MethodId} {args : Array Value} {below : List Frame} {meth : Method} {c : Code} {D : va_G} {A : Nat → Prop} {ad : Nat → Nat} {cy : Nat → ClassId} (hC : zC p m c cX5_exchange 3 s args wzX5_exchange RX5 meth (some .int))  {res : zSt × Int32} {H : Heap} {locs : List Loc} {σ : zSt} {ls : Array Slot} {x1 : Int32} (hI : zI st D (tC cy) (wC ad cy σ) A s H locs) (hl : lv_has ls 3 [(0, .ref (ad 7)), (1, .int x1)]) (hf : fX5_exchange_211  σ x1 = some res) : W p l e rmX5_exchange s m args below meth c H locs 0 0 (zQi below args s D (tC cy) (wC ad cy) A res) (F0 m 211 ls []) := by
  have hx := hC.1
  have hb := hC.2.1
  unfold fX5_exchange_211 at hf
  refine lv_aload_n hx hb dX5_exchange_211 rfl (lv_at hl 0 rfl) ?_
  refine z_get hC hI hinX5_exchange_X50 7 (wC_e7 ad cy σ) rfl 2 (by decide) (List.mem_cons_of_mem _ zw7_5) rfl dX5_exchange_212 ?_
  refine lv_bipush (v := 23) hx hb dX5_exchange_215 (by decide) ?_
  refine lv_iload_n hx hb dX5_exchange_217 rfl (lv_at hl 1 rfl) ?_
  refine lv_iconst (v := 1) hx hb dX5_exchange_218 (by decide) ?_
  refine lv_iand hx hb dX5_exchange_219 ?_
  obtain ⟨q, hf⟩ := zck_use hf
  obtain ⟨σ1, eσ1⟩ : ∃ z, z = zsi σ 36 ((23 : Int32).toNatClampNeg) (x1 &&& 1) := ⟨_, rfl⟩
  replace hf := zbv_use eσ1 hf
  refine z_iast hC hI 36 23 (wC_e36 ad cy σ) (tC_t36 cy) q ((wC_s36 ad cy σ _ _).trans (congrArg (wC ad cy) eσ1.symm)) dX5_exchange_220 (fun H locs hI => ?_)
  refine lv_aload_n hx hb dX5_exchange_221 rfl (lv_at hl 0 rfl) ?_
  refine z_get hC hI hinX5_exchange_X50 7 (wC_e7 ad cy σ1) rfl 2 (by decide) (List.mem_cons_of_mem _ zw7_5) rfl dX5_exchange_222 ?_
  refine lv_bipush (v := 24) hx hb dX5_exchange_225 (by decide) ?_
  refine lv_iload_n hx hb dX5_exchange_227 rfl (lv_at hl 1 rfl) ?_
  refine lv_iconst (v := 1) hx hb dX5_exchange_228 (by decide) ?_
  refine lv_iand hx hb dX5_exchange_229 ?_
  obtain ⟨q, hf⟩ := zck_use hf
  obtain ⟨σ2, eσ2⟩ : ∃ z, z = zsi σ1 36 ((24 : Int32).toNatClampNeg) (x1 &&& 1) := ⟨_, rfl⟩
  replace hf := zbv_use eσ2 hf
  refine z_iast hC hI 36 23 (wC_e36 ad cy σ1) (tC_t36 cy) q ((wC_s36 ad cy σ1 _ _).trans (congrArg (wC ad cy) eσ2.symm)) dX5_exchange_230 (fun H locs hI => ?_)
  refine lv_aload_n hx hb dX5_exchange_231 rfl (lv_at hl 0 rfl) ?_
  refine z_get hC hI hinX5_exchange_X50 7 (wC_e7 ad cy σ2) rfl 2 (by decide) (List.mem_cons_of_mem _ zw7_5) rfl dX5_exchange_232 ?_
  refine lv_bipush (v := 28) hx hb dX5_exchange_235 (by decide) ?_
  refine lv_iload_n hx hb dX5_exchange_237 rfl (lv_at hl 1 rfl) ?_
  refine lv_iconst (v := 1) hx hb dX5_exchange_238 (by decide) ?_
  refine lv_iand hx hb dX5_exchange_239 ?_
  obtain ⟨q, hf⟩ := zck_use hf
  obtain ⟨σ3, eσ3⟩ : ∃ z, z = zsi σ2 36 ((28 : Int32).toNatClampNeg) (x1 &&& 1) := ⟨_, rfl⟩
  replace hf := zbv_use eσ3 hf
  refine z_iast hC hI 36 23 (wC_e36 ad cy σ2) (tC_t36 cy) q ((wC_s36 ad cy σ2 _ _).trans (congrArg (wC ad cy) eσ3.symm)) dX5_exchange_240 (fun H locs hI => ?_)
  refine lv_iconst (v := 4) hx hb dX5_exchange_241 (by decide) ?_
  exact z_ireturn hC hI hf dX5_exchange_242
set_option maxRecDepth 20000 in
set_option maxHeartbeats 4000000 in
theorem bX5_exchange {st : Nat → Nat} {p : Program} {l : Launch} {e : Env} {s : State} {m : MethodId} {args : Array Value} {below : List Frame} {meth : Method} {c : Code} {D : va_G} {A : Nat → Prop} {ad : Nat → Nat} {cy : Nat → ClassId} (hC : zC p m c cX5_exchange 3 s args wzX5_exchange RX5 meth (some .int))  {res : zSt × Int32} {H : Heap} {locs : List Loc} {σ : zSt} {ls : Array Slot} {x1 : Int32} (hI : zI st D (tC cy) (wC ad cy σ) A s H locs) (hl : lv_has ls 3 [(0, .ref (ad 7)), (1, .int x1)]) (hf : fX5_exchange  σ x1 = some res) : W p l e rmX5_exchange s m args below meth c H locs 0 0 (zQi below args s D (tC cy) (wC ad cy) A res) (F0 m 0 ls []) := by
  have hx := hC.1
  have hb := hC.2.1
  unfold fX5_exchange at hf
  refine lv_iload_n hx hb dX5_exchange_0 rfl (lv_at hl 1 rfl) ?_
  by_cases q0 : x1 = 0
  · replace hf := zif_t q0 hf
    refine lv_tableIn (tgt := 40) hx hb dX5_exchange_1 (by rw [q0]; decide) (by rw [q0]; decide) (by rw [q0]; rfl) (by decide) ?_
    refine lv_aload_n hx hb dX5_exchange_40 rfl (lv_at hl 0 rfl) ?_
    refine lv_aload_n hx hb dX5_exchange_41 rfl (lv_at hl 0 rfl) ?_
    obtain ⟨σ4, v5, g4, hf⟩ := zbi_use hf
    refine z_callVi (As := []) (rest := [.ref (ad 7)]) hC hI (cX5_fetchWord_met st l D ad cy σ  _ g4) (zgV zw30_15 zw30_16 zw30_17 zw2_21 zw30_18) rfl ⟨rfl, rfl⟩ 0 hdX5_fetchWord ⟨Nat.le_of_ble_eq_true rfl, Nat.le_of_ble_eq_true rfl⟩ rfl rfl (wC_e7 ad cy σ) rfl hl rfl (Nat.le_of_ble_eq_true rfl) dX5_exchange_42 ⟨Nat.zero_le _, Nat.zero_le _⟩ (fun H locs hI => ?_)
    obtain ⟨σ6, g6, hf⟩ := zbu_use hf
    refine z_callVu (As := [.int v5]) (rest := []) hC hI (cX5_goTo_met st l D ad cy σ4 v5 _ g6) (zgV zw20_22 zw20_23 zw21_0 zw2_21 zw21_1) rfl ⟨rfl, rfl⟩ 1 hdX5_goTo ⟨Nat.le_of_ble_eq_true rfl, Nat.le_of_ble_eq_true rfl⟩ rfl rfl (wC_e7 ad cy σ4) rfl hl rfl (Nat.le_of_ble_eq_true rfl) dX5_exchange_45 ⟨Nat.zero_le _, Nat.zero_le _⟩ (fun H locs hI => ?_)
    refine lv_bipush (v := 10) hx hb dX5_exchange_48 (by decide) ?_
    exact z_ireturn hC hI hf dX5_exchange_50
  replace hf := zif_f q0 hf
  by_cases q1 : x1 = 1
  · replace hf := zif_t q1 hf
    refine lv_tableIn (tgt := 211) hx hb dX5_exchange_1 (by rw [q1]; decide) (by rw [q1]; decide) (by rw [q1]; rfl) (by decide) ?_
    exact bX5_exchange_211 hC  hI hl hf
  replace hf := zif_f q1 hf
  by_cases q2 : x1 = 2
  · replace hf := zif_t q2 hf
    refine lv_tableIn (tgt := 51) hx hb dX5_exchange_1 (by rw [q2]; decide) (by rw [q2]; decide) (by rw [q2]; rfl) (by decide) ?_
    refine lv_aload_n hx hb dX5_exchange_51 rfl (lv_at hl 0 rfl) ?_
    obtain ⟨σ7, v8, g7, hf⟩ := zbi_use hf
    refine z_callVi (As := []) (rest := []) hC hI (cX5_fetch_met st l D ad cy σ  _ g7) (zgV zw21_23 zw22_0 zw22_1 zw2_21 zw22_2) rfl ⟨rfl, rfl⟩ 0 hdX5_fetch ⟨Nat.le_of_ble_eq_true rfl, Nat.le_of_ble_eq_true rfl⟩ rfl rfl (wC_e7 ad cy σ) rfl hl rfl (Nat.le_of_ble_eq_true rfl) dX5_exchange_52 ⟨Nat.zero_le _, Nat.zero_le _⟩ (fun H locs hI => ?_)
    refine lv_istore_n (lv' := [(2, .int v8), (0, .ref (ad 7)), (1, .int x1)]) hx hb dX5_exchange_55 rfl hl (by decide) rfl (fun ls hl => ?_)
    refine lv_aload_n hx hb dX5_exchange_56 rfl (lv_at hl 1 rfl) ?_
    refine z_get hC hI hinX5_exchange_X50 7 (wC_e7 ad cy σ7) rfl 1 (by decide) (List.mem_cons_of_mem _ zw7_9) rfl dX5_exchange_57 ?_
    refine lv_iload_n hx hb dX5_exchange_60 rfl (lv_at hl 0 rfl) ?_
    refine lv_aload_n hx hb dX5_exchange_61 rfl (lv_at hl 1 rfl) ?_
    refine z_get hC hI hinX5_exchange_X50 7 (wC_e7 ad cy σ7) rfl 2 (by decide) (List.mem_cons_of_mem _ zw7_5) rfl dX5_exchange_62 ?_
    refine lv_iconst (v := 0) hx hb dX5_exchange_65 (by decide) ?_
    obtain ⟨q, hf⟩ := zck_use hf
    refine z_iald hC hI 36 23 (wC_e36 ad cy σ7) (tC_t36 cy) q dX5_exchange_66 ?_
    obtain ⟨σ9, g9, hf⟩ := zbu_use hf
    refine z_callVu (As := [.int v8, .int (zgi σ7 36 (0 : Int32).toNatClampNeg)]) (rest := []) hC hI (cX4_write_met st l D ad cy σ7 v8 (zgi σ7 36 (0 : Int32).toNatClampNeg) _ g9) (zgV zw27_9 zw27_10 zw27_11 zw2_17 zw27_12) rfl ⟨rfl, rfl⟩ 2 hdX4_write ⟨Nat.le_of_ble_eq_true rfl, Nat.le_of_ble_eq_true rfl⟩ rfl rfl (wC_e6 ad cy σ7) rfl hl rfl (Nat.le_of_ble_eq_true rfl) dX5_exchange_67 ⟨Nat.zero_le _, Nat.zero_le _⟩ (fun H locs hI => ?_)
    refine lv_aload_n hx hb dX5_exchange_70 rfl (lv_at hl 1 rfl) ?_
    refine z_get hC hI hinX5_exchange_X50 7 (wC_e7 ad cy σ9) rfl 2 (by decide) (List.mem_cons_of_mem _ zw7_5) rfl dX5_exchange_71 ?_
    refine lv_bipush (v := 20) hx hb dX5_exchange_74 (by decide) ?_
    refine lv_aload_n hx hb dX5_exchange_76 rfl (lv_at hl 1 rfl) ?_
    refine z_get hC hI hinX5_exchange_X50 7 (wC_e7 ad cy σ9) rfl 2 (by decide) (List.mem_cons_of_mem _ zw7_5) rfl dX5_exchange_77 ?_
    refine lv_iconst (v := 0) hx hb dX5_exchange_80 (by decide) ?_
    obtain ⟨q, hf⟩ := zck_use hf
    refine z_iald hC hI 36 23 (wC_e36 ad cy σ9) (tC_t36 cy) q dX5_exchange_81 ?_
    refine lv_bipush (v := 8) hx hb dX5_exchange_82 (by decide) ?_
    refine lv_ishl hx hb dX5_exchange_84 ?_
    refine lv_iload_n hx hb dX5_exchange_85 rfl (lv_at hl 0 rfl) ?_
    refine lv_iconst (v := 1) hx hb dX5_exchange_86 (by decide) ?_
    refine lv_iadd hx hb dX5_exchange_87 ?_
    refine lv_sipush (v := 255) hx hb dX5_exchange_88 (by decide) ?_
    refine lv_iand hx hb dX5_exchange_91 ?_
    refine lv_ior hx hb dX5_exchange_92 ?_
    obtain ⟨q, hf⟩ := zck_use hf
    obtain ⟨σ10, eσ10⟩ : ∃ z, z = zsi σ9 36 ((20 : Int32).toNatClampNeg) (((zgi σ9 36 (0 : Int32).toNatClampNeg) <<< ((8 : Int32) &&& 31)) ||| ((v8 + 1) &&& 255)) := ⟨_, rfl⟩
    replace hf := zbv_use eσ10 hf
    refine z_iast hC hI 36 23 (wC_e36 ad cy σ9) (tC_t36 cy) q ((wC_s36 ad cy σ9 _ _).trans (congrArg (wC ad cy) eσ10.symm)) dX5_exchange_93 (fun H locs hI => ?_)
    refine lv_bipush (v := 11) hx hb dX5_exchange_94 (by decide) ?_
    exact z_ireturn hC hI hf dX5_exchange_96
  replace hf := zif_f q2 hf
  by_cases q3 : x1 = 3
  · replace hf := zif_t q3 hf
    refine lv_tableIn (tgt := 97) hx hb dX5_exchange_1 (by rw [q3]; decide) (by rw [q3]; decide) (by rw [q3]; rfl) (by decide) ?_
    refine lv_aload_n hx hb dX5_exchange_97 rfl (lv_at hl 0 rfl) ?_
    obtain ⟨σ11, v12, g11, hf⟩ := zbi_use hf
    refine z_callVi (As := []) (rest := []) hC hI (cX5_fetch_met st l D ad cy σ  _ g11) (zgV zw21_23 zw22_0 zw22_1 zw2_21 zw22_2) rfl ⟨rfl, rfl⟩ 0 hdX5_fetch ⟨Nat.le_of_ble_eq_true rfl, Nat.le_of_ble_eq_true rfl⟩ rfl rfl (wC_e7 ad cy σ) rfl hl rfl (Nat.le_of_ble_eq_true rfl) dX5_exchange_98 ⟨Nat.zero_le _, Nat.zero_le _⟩ (fun H locs hI => ?_)
    refine lv_istore_n (lv' := [(2, .int v12), (0, .ref (ad 7)), (1, .int x1)]) hx hb dX5_exchange_101 rfl hl (by decide) rfl (fun ls hl => ?_)
    refine lv_aload_n hx hb dX5_exchange_102 rfl (lv_at hl 1 rfl) ?_
    refine z_get hC hI hinX5_exchange_X50 7 (wC_e7 ad cy σ11) rfl 2 (by decide) (List.mem_cons_of_mem _ zw7_5) rfl dX5_exchange_103 ?_
    refine lv_bipush (v := 20) hx hb dX5_exchange_106 (by decide) ?_
    refine lv_aload_n hx hb dX5_exchange_108 rfl (lv_at hl 1 rfl) ?_
    refine z_get hC hI hinX5_exchange_X50 7 (wC_e7 ad cy σ11) rfl 2 (by decide) (List.mem_cons_of_mem _ zw7_5) rfl dX5_exchange_109 ?_
    refine lv_iconst (v := 0) hx hb dX5_exchange_112 (by decide) ?_
    obtain ⟨q, hf⟩ := zck_use hf
    refine z_iald hC hI 36 23 (wC_e36 ad cy σ11) (tC_t36 cy) q dX5_exchange_113 ?_
    refine lv_bipush (v := 8) hx hb dX5_exchange_114 (by decide) ?_
    refine lv_ishl hx hb dX5_exchange_116 ?_
    refine lv_iload_n hx hb dX5_exchange_117 rfl (lv_at hl 0 rfl) ?_
    refine lv_ior hx hb dX5_exchange_118 ?_
    refine lv_iconst (v := 1) hx hb dX5_exchange_119 (by decide) ?_
    refine lv_iadd hx hb dX5_exchange_120 ?_
    refine lv_ldc (v := 65535) hx hb hC.2.2.2.1 (hC.2.2.2.2.1 _ (List.mem_cons_of_mem _ zw20_6)) dX5_exchange_121 ?_
    refine lv_iand hx hb dX5_exchange_123 ?_
    obtain ⟨q, hf⟩ := zck_use hf
    obtain ⟨σ13, eσ13⟩ : ∃ z, z = zsi σ11 36 ((20 : Int32).toNatClampNeg) (((((zgi σ11 36 (0 : Int32).toNatClampNeg) <<< ((8 : Int32) &&& 31)) ||| v12) + 1) &&& 65535) := ⟨_, rfl⟩
    replace hf := zbv_use eσ13 hf
    refine z_iast hC hI 36 23 (wC_e36 ad cy σ11) (tC_t36 cy) q ((wC_s36 ad cy σ11 _ _).trans (congrArg (wC ad cy) eσ13.symm)) dX5_exchange_124 (fun H locs hI => ?_)
    refine lv_aload_n hx hb dX5_exchange_125 rfl (lv_at hl 1 rfl) ?_
    refine z_get hC hI hinX5_exchange_X50 7 (wC_e7 ad cy σ13) rfl 2 (by decide) (List.mem_cons_of_mem _ zw7_5) rfl dX5_exchange_126 ?_
    refine lv_iconst (v := 0) hx hb dX5_exchange_129 (by decide) ?_
    refine lv_aload_n hx hb dX5_exchange_130 rfl (lv_at hl 1 rfl) ?_
    refine z_get hC hI hinX5_exchange_X50 7 (wC_e7 ad cy σ13) rfl 1 (by decide) (List.mem_cons_of_mem _ zw7_9) rfl dX5_exchange_131 ?_
    refine lv_iload_n hx hb dX5_exchange_134 rfl (lv_at hl 0 rfl) ?_
    obtain ⟨σ14, v15, g14, hf⟩ := zbi_use hf
    refine z_callVi (As := [.int v12]) (rest := [.int 0, .ref (ad 36)]) hC hI (cX4_read_met st l D ad cy σ13 v12 _ g14) (zgV zw25_4 zw25_5 zw25_6 zw2_17 zw25_7) rfl ⟨rfl, rfl⟩ 1 hdX4_read ⟨Nat.le_of_ble_eq_true rfl, Nat.le_of_ble_eq_true rfl⟩ rfl rfl (wC_e6 ad cy σ13) rfl hl rfl (Nat.le_of_ble_eq_true rfl) dX5_exchange_135 ⟨Nat.zero_le _, Nat.zero_le _⟩ (fun H locs hI => ?_)
    obtain ⟨q, hf⟩ := zck_use hf
    obtain ⟨σ16, eσ16⟩ : ∃ z, z = zsi σ14 36 ((0 : Int32).toNatClampNeg) v15 := ⟨_, rfl⟩
    replace hf := zbv_use eσ16 hf
    refine z_iast hC hI 36 23 (wC_e36 ad cy σ14) (tC_t36 cy) q ((wC_s36 ad cy σ14 _ _).trans (congrArg (wC ad cy) eσ16.symm)) dX5_exchange_138 (fun H locs hI => ?_)
    refine lv_bipush (v := 11) hx hb dX5_exchange_139 (by decide) ?_
    exact z_ireturn hC hI hf dX5_exchange_141
  replace hf := zif_f q3 hf
  by_cases q4 : x1 = 4
  · replace hf := zif_t q4 hf
    refine lv_tableIn (tgt := 142) hx hb dX5_exchange_1 (by rw [q4]; decide) (by rw [q4]; decide) (by rw [q4]; rfl) (by decide) ?_
    refine lv_aload_n hx hb dX5_exchange_142 rfl (lv_at hl 0 rfl) ?_
    refine lv_aload_n hx hb dX5_exchange_143 rfl (lv_at hl 0 rfl) ?_
    refine z_get hC hI hinX5_exchange_X50 7 (wC_e7 ad cy σ) rfl 2 (by decide) (List.mem_cons_of_mem _ zw7_5) rfl dX5_exchange_144 ?_
    refine lv_bipush (v := 18) hx hb dX5_exchange_147 (by decide) ?_
    obtain ⟨q, hf⟩ := zck_use hf
    refine z_iald hC hI 36 23 (wC_e36 ad cy σ) (tC_t36 cy) q dX5_exchange_149 ?_
    obtain ⟨σ17, v18, g17, hf⟩ := zbi_use hf
    refine z_callVi (As := [.int (zgi σ 36 (18 : Int32).toNatClampNeg)]) (rest := []) hC hI (cX5_readWord_met st l D ad cy σ (zgi σ 36 (18 : Int32).toNatClampNeg) _ g17) (zgV zw21_2 zw21_3 zw21_4 zw2_21 zw21_5) rfl ⟨rfl, rfl⟩ 1 hdX5_readWord ⟨Nat.le_of_ble_eq_true rfl, Nat.le_of_ble_eq_true rfl⟩ rfl rfl (wC_e7 ad cy σ) rfl hl rfl (Nat.le_of_ble_eq_true rfl) dX5_exchange_150 ⟨Nat.zero_le _, Nat.zero_le _⟩ (fun H locs hI => ?_)
    refine lv_istore_n (lv' := [(2, .int v18), (0, .ref (ad 7)), (1, .int x1)]) hx hb dX5_exchange_153 rfl hl (by decide) rfl (fun ls hl => ?_)
    refine lv_aload_n hx hb dX5_exchange_154 rfl (lv_at hl 1 rfl) ?_
    refine lv_aload_n hx hb dX5_exchange_155 rfl (lv_at hl 1 rfl) ?_
    refine z_get hC hI hinX5_exchange_X50 7 (wC_e7 ad cy σ17) rfl 2 (by decide) (List.mem_cons_of_mem _ zw7_5) rfl dX5_exchange_156 ?_
    refine lv_bipush (v := 18) hx hb dX5_exchange_159 (by decide) ?_
    obtain ⟨q, hf⟩ := zck_use hf
    refine z_iald hC hI 36 23 (wC_e36 ad cy σ17) (tC_t36 cy) q dX5_exchange_161 ?_
    refine lv_aload_n hx hb dX5_exchange_162 rfl (lv_at hl 1 rfl) ?_
    obtain ⟨σ19, v20, g19, hf⟩ := zbi_use hf
    refine z_callVi (As := []) (rest := [.int (zgi σ17 36 (18 : Int32).toNatClampNeg), .ref (ad 7)]) hC hI (cX5_hl_met st l D ad cy σ17  _ g19) (zgV zw29_15 zw29_16 zw29_17 zw2_21 zw29_18) rfl ⟨rfl, rfl⟩ 0 hdX5_hl ⟨Nat.le_of_ble_eq_true rfl, Nat.le_of_ble_eq_true rfl⟩ rfl rfl (wC_e7 ad cy σ17) rfl hl rfl (Nat.le_of_ble_eq_true rfl) dX5_exchange_163 ⟨Nat.zero_le _, Nat.zero_le _⟩ (fun H locs hI => ?_)
    obtain ⟨σ21, g21, hf⟩ := zbu_use hf
    refine z_callVu (As := [.int (zgi σ17 36 (18 : Int32).toNatClampNeg), .int v20]) (rest := []) hC hI (cX5_writeWord_met st l D ad cy σ19 (zgi σ17 36 (18 : Int32).toNatClampNeg) v20 _ g21) (zgV zw30_19 zw30_20 zw30_21 zw2_21 zw30_22) rfl ⟨rfl, rfl⟩ 2 hdX5_writeWord ⟨Nat.le_of_ble_eq_true rfl, Nat.le_of_ble_eq_true rfl⟩ rfl rfl (wC_e7 ad cy σ19) rfl hl rfl (Nat.le_of_ble_eq_true rfl) dX5_exchange_166 ⟨Nat.zero_le _, Nat.zero_le _⟩ (fun H locs hI => ?_)
    refine lv_aload_n hx hb dX5_exchange_169 rfl (lv_at hl 1 rfl) ?_
    refine lv_iload_n hx hb dX5_exchange_170 rfl (lv_at hl 0 rfl) ?_
    obtain ⟨σ22, g22, hf⟩ := zbu_use hf
    refine z_callVu (As := [.int v18]) (rest := []) hC hI (cX5_putHl_met st l D ad cy σ21 v18 _ g22) (zgV zw30_3 zw30_4 zw30_5 zw2_21 zw30_6) rfl ⟨rfl, rfl⟩ 1 hdX5_putHl ⟨Nat.le_of_ble_eq_true rfl, Nat.le_of_ble_eq_true rfl⟩ rfl rfl (wC_e7 ad cy σ21) rfl hl rfl (Nat.le_of_ble_eq_true rfl) dX5_exchange_171 ⟨Nat.zero_le _, Nat.zero_le _⟩ (fun H locs hI => ?_)
    refine lv_aload_n hx hb dX5_exchange_174 rfl (lv_at hl 1 rfl) ?_
    refine z_get hC hI hinX5_exchange_X50 7 (wC_e7 ad cy σ22) rfl 2 (by decide) (List.mem_cons_of_mem _ zw7_5) rfl dX5_exchange_175 ?_
    refine lv_bipush (v := 20) hx hb dX5_exchange_178 (by decide) ?_
    refine lv_iload_n hx hb dX5_exchange_180 rfl (lv_at hl 0 rfl) ?_
    obtain ⟨q, hf⟩ := zck_use hf
    obtain ⟨σ23, eσ23⟩ : ∃ z, z = zsi σ22 36 ((20 : Int32).toNatClampNeg) v18 := ⟨_, rfl⟩
    replace hf := zbv_use eσ23 hf
    refine z_iast hC hI 36 23 (wC_e36 ad cy σ22) (tC_t36 cy) q ((wC_s36 ad cy σ22 _ _).trans (congrArg (wC ad cy) eσ23.symm)) dX5_exchange_181 (fun H locs hI => ?_)
    refine lv_bipush (v := 19) hx hb dX5_exchange_182 (by decide) ?_
    exact z_ireturn hC hI hf dX5_exchange_184
  replace hf := zif_f q4 hf
  by_cases q5 : x1 = 5
  · replace hf := zif_t q5 hf
    refine lv_tableIn (tgt := 185) hx hb dX5_exchange_1 (by rw [q5]; decide) (by rw [q5]; decide) (by rw [q5]; rfl) (by decide) ?_
    refine lv_aload_n hx hb dX5_exchange_185 rfl (lv_at hl 0 rfl) ?_
    refine lv_iconst (v := 4) hx hb dX5_exchange_186 (by decide) ?_
    obtain ⟨σ24, v25, g24, hf⟩ := zbi_use hf
    refine z_callVi (As := [.int 4]) (rest := []) hC hI (cX5_pairAt_met st l D ad cy σ 4 _ g24) (zgV zw21_15 zw21_16 zw21_17 zw2_21 zw21_18) rfl ⟨rfl, rfl⟩ 1 hdX5_pairAt ⟨Nat.le_of_ble_eq_true rfl, Nat.le_of_ble_eq_true rfl⟩ rfl rfl (wC_e7 ad cy σ) rfl hl rfl (Nat.le_of_ble_eq_true rfl) dX5_exchange_187 ⟨Nat.zero_le _, Nat.zero_le _⟩ (fun H locs hI => ?_)
    refine lv_istore_n (lv' := [(2, .int v25), (0, .ref (ad 7)), (1, .int x1)]) hx hb dX5_exchange_190 rfl hl (by decide) rfl (fun ls hl => ?_)
    refine lv_aload_n hx hb dX5_exchange_191 rfl (lv_at hl 1 rfl) ?_
    refine lv_iconst (v := 4) hx hb dX5_exchange_192 (by decide) ?_
    refine lv_aload_n hx hb dX5_exchange_193 rfl (lv_at hl 1 rfl) ?_
    refine lv_bipush (v := 6) hx hb dX5_exchange_194 (by decide) ?_
    obtain ⟨σ26, v27, g26, hf⟩ := zbi_use hf
    refine z_callVi (As := [.int 6]) (rest := [.int 4, .ref (ad 7)]) hC hI (cX5_pairAt_met st l D ad cy σ24 6 _ g26) (zgV zw21_15 zw21_16 zw21_17 zw2_21 zw21_18) rfl ⟨rfl, rfl⟩ 1 hdX5_pairAt ⟨Nat.le_of_ble_eq_true rfl, Nat.le_of_ble_eq_true rfl⟩ rfl rfl (wC_e7 ad cy σ24) rfl hl rfl (Nat.le_of_ble_eq_true rfl) dX5_exchange_196 ⟨Nat.zero_le _, Nat.zero_le _⟩ (fun H locs hI => ?_)
    obtain ⟨σ28, g28, hf⟩ := zbu_use hf
    refine z_callVu (As := [.int 4, .int v27]) (rest := []) hC hI (cX5_putPairAt_met st l D ad cy σ26 4 v27 _ g28) (zgV zw24_16 zw24_17 zw24_18 zw2_21 zw24_19) rfl ⟨rfl, rfl⟩ 2 hdX5_putPairAt ⟨Nat.le_of_ble_eq_true rfl, Nat.le_of_ble_eq_true rfl⟩ rfl rfl (wC_e7 ad cy σ26) rfl hl rfl (Nat.le_of_ble_eq_true rfl) dX5_exchange_199 ⟨Nat.zero_le _, Nat.zero_le _⟩ (fun H locs hI => ?_)
    refine lv_aload_n hx hb dX5_exchange_202 rfl (lv_at hl 1 rfl) ?_
    refine lv_bipush (v := 6) hx hb dX5_exchange_203 (by decide) ?_
    refine lv_iload_n hx hb dX5_exchange_205 rfl (lv_at hl 0 rfl) ?_
    obtain ⟨σ29, g29, hf⟩ := zbu_use hf
    refine z_callVu (As := [.int 6, .int v25]) (rest := []) hC hI (cX5_putPairAt_met st l D ad cy σ28 6 v25 _ g29) (zgV zw24_16 zw24_17 zw24_18 zw2_21 zw24_19) rfl ⟨rfl, rfl⟩ 2 hdX5_putPairAt ⟨Nat.le_of_ble_eq_true rfl, Nat.le_of_ble_eq_true rfl⟩ rfl rfl (wC_e7 ad cy σ28) rfl hl rfl (Nat.le_of_ble_eq_true rfl) dX5_exchange_206 ⟨Nat.zero_le _, Nat.zero_le _⟩ (fun H locs hI => ?_)
    refine lv_iconst (v := 4) hx hb dX5_exchange_209 (by decide) ?_
    exact z_ireturn hC hI hf dX5_exchange_210
  replace hf := zif_f q5 hf
  refine lv_tableOut (tgt := 211) hx hb dX5_exchange_1 (zsw (fun k h1 h2 => by rcases (show k = 0 ∨ k = 1 ∨ k = 2 ∨ k = 3 ∨ k = 4 ∨ k = 5 by omega) with rfl | rfl | rfl | rfl | rfl | rfl <;> assumption)) (by decide) ?_
  exact bX5_exchange_211 hC  hI hl hf
set_option maxRecDepth 20000 in
theorem cX5_exchange_met (st : Nat → Nat) (l : Launch) (D : va_G) (ad : Nat → Nat) (cy : Nat → ClassId) (σ : zSt) (x1 : Int32) (res : zSt × Int32) (hf : fX5_exchange σ x1 = some res) (sz : Nat) : zMi st l yX5_exchange wzX5_exchange rmX5_exchange [.ref (ad 7), .int x1] D (tC cy) (wC ad cy) sz σ res :=
  zMi.of (cc := cX5_exchange) (maxL := 3) (ret := (some .int)) (by decide) rfl (Nat.le_of_ble_eq_true rfl) (fun p e s m args below meth c hC A hI ls hl => bX5_exchange hC hI hl hf)
theorem hdX5_exchange : yX5_exchange.cls = RX5 ∧ yX5_exchange.cls ≠ "java/lang/invoke/MethodHandle" ∧ yX5_exchange.cls ≠ "java/lang/invoke/VarHandle" ∧ (parseMethodDescriptor yX5_exchange.desc).map (fun d => d.parameters.length) = some 1 := by decide +kernel
noncomputable def rmX5_sum : Room := { frames := 1, cells := 0, slots := 0, locals := 20 }
noncomputable def wzX5_sum : List Cond := .code yX5_sum cX5_sum 7 (some .int) :: wsL_law
theorem hinX5_sum_X50 : ∀ w ∈ wsX50, w ∈ wzX5_sum := fun w h => List.mem_cons_of_mem _ (inlX5 w h)
noncomputable def fX5_sum_61  (σ : zSt) (x4 : Int32) (x5 : Int32) (s0 : Int32) (s1 : Int32) (s2 : Int32) : Option (zSt × Int32) :=
  zck (zin s2 29) (zbv (zsi σ 36 (s2.toNatClampNeg) ((s1 ||| s0) ||| (x4 >>> ((8 : Int32) &&& 31)))) (fun σ1 =>
  some (σ1, x5)))
noncomputable def fX5_sum  (σ : zSt) (x1 : Int32) (x2 : Int32) (x3 : Int32) : Option (zSt × Int32) :=
  zbv ((x1 + x2) + x3) (fun v2 =>
  zbv (v2 &&& 255) (fun v3 =>
  zbv ((((x1 ^^^ x2) ^^^ (-1)) &&& (x1 ^^^ v3)) &&& 128) (fun v4 =>
  zbi (fX5_by σ v3) (fun σ5 v6 =>
  if v4 = 0 then fX5_sum_61 σ5 v2 v3 0 (v6 ||| (((x1 ^^^ x2) ^^^ v3) &&& 16)) 1 else
  fX5_sum_61 σ5 v2 v3 4 (v6 ||| (((x1 ^^^ x2) ^^^ v3) &&& 16)) 1))))
set_option maxRecDepth 20000 in
set_option maxHeartbeats 4000000 in
theorem bX5_sum_61 {st : Nat → Nat} {p : Program} {l : Launch} {e : Env} {s : State} {m : MethodId} {args : Array Value} {below : List Frame} {meth : Method} {c : Code} {D : va_G} {A : Nat → Prop} {ad : Nat → Nat} {cy : Nat → ClassId} (hC : zC p m c cX5_sum 7 s args wzX5_sum RX5 meth (some .int))  {res : zSt × Int32} {H : Heap} {locs : List Loc} {σ : zSt} {ls : Array Slot} {x4 : Int32} {x5 : Int32} {s0 : Int32} {s1 : Int32} {s2 : Int32} (hI : zI st D (tC cy) (wC ad cy σ) A s H locs) (hl : lv_has ls 7 [(4, .int x4), (5, .int x5)]) (hf : fX5_sum_61  σ x4 x5 s0 s1 s2 = some res) : W p l e rmX5_sum s m args below meth c H locs 0 0 (zQi below args s D (tC cy) (wC ad cy) A res) (F0 m 61 ls [.int s0, .int s1, .int s2, .ref (ad 36)]) := by
  have hx := hC.1
  have hb := hC.2.1
  unfold fX5_sum_61 at hf
  refine lv_ior hx hb dX5_sum_61 ?_
  refine lv_iload hx hb dX5_sum_62 (lv_at hl 0 rfl) ?_
  refine lv_bipush (v := 8) hx hb dX5_sum_64 (by decide) ?_
  refine lv_ishr hx hb dX5_sum_66 ?_
  refine lv_ior hx hb dX5_sum_67 ?_
  obtain ⟨q, hf⟩ := zck_use hf
  obtain ⟨σ1, eσ1⟩ : ∃ z, z = zsi σ 36 (s2.toNatClampNeg) ((s1 ||| s0) ||| (x4 >>> ((8 : Int32) &&& 31))) := ⟨_, rfl⟩
  replace hf := zbv_use eσ1 hf
  refine z_iast hC hI 36 23 (wC_e36 ad cy σ) (tC_t36 cy) q ((wC_s36 ad cy σ _ _).trans (congrArg (wC ad cy) eσ1.symm)) dX5_sum_68 (fun H locs hI => ?_)
  refine lv_iload hx hb dX5_sum_69 (lv_at hl 1 rfl) ?_
  exact z_ireturn hC hI hf dX5_sum_71
set_option maxRecDepth 20000 in
set_option maxHeartbeats 4000000 in
theorem bX5_sum {st : Nat → Nat} {p : Program} {l : Launch} {e : Env} {s : State} {m : MethodId} {args : Array Value} {below : List Frame} {meth : Method} {c : Code} {D : va_G} {A : Nat → Prop} {ad : Nat → Nat} {cy : Nat → ClassId} (hC : zC p m c cX5_sum 7 s args wzX5_sum RX5 meth (some .int))  {res : zSt × Int32} {H : Heap} {locs : List Loc} {σ : zSt} {ls : Array Slot} {x1 : Int32} {x2 : Int32} {x3 : Int32} (hI : zI st D (tC cy) (wC ad cy σ) A s H locs) (hl : lv_has ls 7 [(0, .ref (ad 7)), (1, .int x1), (2, .int x2), (3, .int x3)]) (hf : fX5_sum  σ x1 x2 x3 = some res) : W p l e rmX5_sum s m args below meth c H locs 0 0 (zQi below args s D (tC cy) (wC ad cy) A res) (F0 m 0 ls []) := by
  have hx := hC.1
  have hb := hC.2.1
  unfold fX5_sum at hf
  refine lv_iload_n hx hb dX5_sum_0 rfl (lv_at hl 1 rfl) ?_
  refine lv_iload_n hx hb dX5_sum_1 rfl (lv_at hl 2 rfl) ?_
  refine lv_iadd hx hb dX5_sum_2 ?_
  refine lv_iload_n hx hb dX5_sum_3 rfl (lv_at hl 3 rfl) ?_
  refine lv_iadd hx hb dX5_sum_4 ?_
  refine lv_topi (fun v2 ev2 => ?_)
  replace hf := zbv_use ev2 hf
  refine lv_istore (lv' := [(4, .int v2), (0, .ref (ad 7)), (1, .int x1), (2, .int x2), (3, .int x3)]) hx hb dX5_sum_5 hl (by decide) rfl (fun ls hl => ?_)
  refine lv_iload hx hb dX5_sum_7 (lv_at hl 0 rfl) ?_
  refine lv_sipush (v := 255) hx hb dX5_sum_9 (by decide) ?_
  refine lv_iand hx hb dX5_sum_12 ?_
  refine lv_topi (fun v3 ev3 => ?_)
  replace hf := zbv_use ev3 hf
  refine lv_istore (lv' := [(5, .int v3), (4, .int v2), (0, .ref (ad 7)), (1, .int x1), (2, .int x2), (3, .int x3)]) hx hb dX5_sum_13 hl (by decide) rfl (fun ls hl => ?_)
  refine lv_iload_n hx hb dX5_sum_15 rfl (lv_at hl 3 rfl) ?_
  refine lv_iload_n hx hb dX5_sum_16 rfl (lv_at hl 4 rfl) ?_
  refine lv_ixor hx hb dX5_sum_17 ?_
  refine lv_iconst (v := (-1)) hx hb dX5_sum_18 (by decide) ?_
  refine lv_ixor hx hb dX5_sum_19 ?_
  refine lv_iload_n hx hb dX5_sum_20 rfl (lv_at hl 3 rfl) ?_
  refine lv_iload hx hb dX5_sum_21 (lv_at hl 0 rfl) ?_
  refine lv_ixor hx hb dX5_sum_23 ?_
  refine lv_iand hx hb dX5_sum_24 ?_
  refine lv_sipush (v := 128) hx hb dX5_sum_25 (by decide) ?_
  refine lv_iand hx hb dX5_sum_28 ?_
  refine lv_topi (fun v4 ev4 => ?_)
  replace hf := zbv_use ev4 hf
  refine lv_istore (lv' := [(6, .int v4), (5, .int v3), (4, .int v2), (0, .ref (ad 7)), (1, .int x1), (2, .int x2), (3, .int x3)]) hx hb dX5_sum_29 hl (by decide) rfl (fun ls hl => ?_)
  refine lv_aload_n hx hb dX5_sum_31 rfl (lv_at hl 3 rfl) ?_
  refine z_get hC hI hinX5_sum_X50 7 (wC_e7 ad cy σ) rfl 2 (by decide) (List.mem_cons_of_mem _ zw7_5) rfl dX5_sum_32 ?_
  refine lv_iconst (v := 1) hx hb dX5_sum_35 (by decide) ?_
  refine lv_iload hx hb dX5_sum_36 (lv_at hl 1 rfl) ?_
  obtain ⟨σ5, v6, g5, hf⟩ := zbi_use hf
  refine z_callSi (As := [.int v3]) (rest := [.int 1, .ref (ad 36)]) hC hI (cX5_by_met st l D ad cy σ v3 _ g5) (zgS zw22_19 zw22_20 zw2_21 zw22_21) rfl ⟨rfl, rfl⟩ 1 hdX5_by ⟨Nat.le_of_ble_eq_true rfl, Nat.le_of_ble_eq_true rfl⟩ rfl hl rfl (Nat.le_of_ble_eq_true rfl) dX5_sum_38 ⟨Nat.zero_le _, Nat.zero_le _⟩ (fun H locs hI => ?_)
  refine lv_iload_n hx hb dX5_sum_41 rfl (lv_at hl 4 rfl) ?_
  refine lv_iload_n hx hb dX5_sum_42 rfl (lv_at hl 5 rfl) ?_
  refine lv_ixor hx hb dX5_sum_43 ?_
  refine lv_iload hx hb dX5_sum_44 (lv_at hl 1 rfl) ?_
  refine lv_ixor hx hb dX5_sum_46 ?_
  refine lv_bipush (v := 16) hx hb dX5_sum_47 (by decide) ?_
  refine lv_iand hx hb dX5_sum_49 ?_
  refine lv_ior hx hb dX5_sum_50 ?_
  refine lv_iload hx hb dX5_sum_51 (lv_at hl 0 rfl) ?_
  refine lv_if_eq (tgt := 60) hx hb dX5_sum_53 (by decide) (fun q => ?_) (fun q => ?_)
  · replace hf := zif_t q hf
    refine lv_iconst (v := 0) hx hb dX5_sum_60 (by decide) ?_
    exact bX5_sum_61 hC  hI (lv_sub hl [2, 1] rfl) hf
  replace hf := zif_f q hf
  refine lv_iconst (v := 4) hx hb dX5_sum_56 (by decide) ?_
  refine lv_goto (tgt := 61) hx hb dX5_sum_57 (by decide) ?_
  exact bX5_sum_61 hC  hI (lv_sub hl [2, 1] rfl) hf
set_option maxRecDepth 20000 in
theorem cX5_sum_met (st : Nat → Nat) (l : Launch) (D : va_G) (ad : Nat → Nat) (cy : Nat → ClassId) (σ : zSt) (x1 : Int32) (x2 : Int32) (x3 : Int32) (res : zSt × Int32) (hf : fX5_sum σ x1 x2 x3 = some res) (sz : Nat) : zMi st l yX5_sum wzX5_sum rmX5_sum [.ref (ad 7), .int x1, .int x2, .int x3] D (tC cy) (wC ad cy) sz σ res :=
  zMi.of (cc := cX5_sum) (maxL := 7) (ret := (some .int)) (by decide) rfl (Nat.le_of_ble_eq_true rfl) (fun p e s m args below meth c hC A hI ls hl => bX5_sum hC hI hl hf)
theorem hdX5_sum : yX5_sum.cls = RX5 ∧ yX5_sum.cls ≠ "java/lang/invoke/MethodHandle" ∧ yX5_sum.cls ≠ "java/lang/invoke/VarHandle" ∧ (parseMethodDescriptor yX5_sum.desc).map (fun d => d.parameters.length) = some 3 := by decide +kernel
noncomputable def rmX5_doWith : Room := { frames := 2, cells := 0, slots := 0, locals := 46 }
noncomputable def wzX5_doWith : List Cond := .code yX5_doWith cX5_doWith 3 none :: wsL_law
theorem hinX5_doWith_X50 : ∀ w ∈ wsX50, w ∈ wzX5_doWith := fun w h => List.mem_cons_of_mem _ (inlX5 w h)
noncomputable def fX5_doWith_292  (σ : zSt)  : Option (zSt) :=
  some σ
noncomputable def fX5_doWith  (σ : zSt) (x1 : Int32) (x2 : Int32) : Option (zSt) :=
  if x1 = 0 then zck (zin 0 29) (
  zbi (fX5_sum σ (zgi σ 36 (0 : Int32).toNatClampNeg) x2 0) (fun σ1 v2 =>
  zck (zin 0 29) (zbv (zsi σ1 36 ((0 : Int32).toNatClampNeg) v2) (fun σ3 =>
  fX5_doWith_292 σ3)))) else
  if x1 = 1 then zck (zin 0 29) (
  zck (zin 1 29) (
  zbi (fX5_sum σ (zgi σ 36 (0 : Int32).toNatClampNeg) x2 ((zgi σ 36 (1 : Int32).toNatClampNeg) &&& 1)) (fun σ4 v5 =>
  zck (zin 0 29) (zbv (zsi σ4 36 ((0 : Int32).toNatClampNeg) v5) (fun σ6 =>
  fX5_doWith_292 σ6))))) else
  if x1 = 2 then zck (zin 0 29) (
  zbi (fX5_difference σ (zgi σ 36 (0 : Int32).toNatClampNeg) x2 0) (fun σ7 v8 =>
  zck (zin 0 29) (zbv (zsi σ7 36 ((0 : Int32).toNatClampNeg) v8) (fun σ9 =>
  fX5_doWith_292 σ9)))) else
  if x1 = 3 then zck (zin 0 29) (
  zck (zin 1 29) (
  zbi (fX5_difference σ (zgi σ 36 (0 : Int32).toNatClampNeg) x2 ((zgi σ 36 (1 : Int32).toNatClampNeg) &&& 1)) (fun σ10 v11 =>
  zck (zin 0 29) (zbv (zsi σ10 36 ((0 : Int32).toNatClampNeg) v11) (fun σ12 =>
  fX5_doWith_292 σ12))))) else
  if x1 = 4 then zck (zin 0 29) (
  zck (zin 0 29) (zbv (zsi σ 36 ((0 : Int32).toNatClampNeg) ((zgi σ 36 (0 : Int32).toNatClampNeg) &&& x2)) (fun σ13 =>
  zck (zin 0 29) (
  zbi (fX5_by σ13 (zgi σ13 36 (0 : Int32).toNatClampNeg)) (fun σ14 v15 =>
  zck (zin 0 29) (
  zbi (fX5_parity σ14 (zgi σ14 36 (0 : Int32).toNatClampNeg)) (fun σ16 v17 =>
  zck (zin 1 29) (zbv (zsi σ16 36 ((1 : Int32).toNatClampNeg) ((v15 ||| v17) ||| 16)) (fun σ18 =>
  fX5_doWith_292 σ18))))))))) else
  if x1 = 5 then zck (zin 0 29) (
  zck (zin 0 29) (zbv (zsi σ 36 ((0 : Int32).toNatClampNeg) ((zgi σ 36 (0 : Int32).toNatClampNeg) ^^^ x2)) (fun σ19 =>
  zck (zin 0 29) (
  zbi (fX5_by σ19 (zgi σ19 36 (0 : Int32).toNatClampNeg)) (fun σ20 v21 =>
  zck (zin 0 29) (
  zbi (fX5_parity σ20 (zgi σ20 36 (0 : Int32).toNatClampNeg)) (fun σ22 v23 =>
  zck (zin 1 29) (zbv (zsi σ22 36 ((1 : Int32).toNatClampNeg) (v21 ||| v23)) (fun σ24 =>
  fX5_doWith_292 σ24))))))))) else
  if x1 = 6 then zck (zin 0 29) (
  zck (zin 0 29) (zbv (zsi σ 36 ((0 : Int32).toNatClampNeg) ((zgi σ 36 (0 : Int32).toNatClampNeg) ||| x2)) (fun σ25 =>
  zck (zin 0 29) (
  zbi (fX5_by σ25 (zgi σ25 36 (0 : Int32).toNatClampNeg)) (fun σ26 v27 =>
  zck (zin 0 29) (
  zbi (fX5_parity σ26 (zgi σ26 36 (0 : Int32).toNatClampNeg)) (fun σ28 v29 =>
  zck (zin 1 29) (zbv (zsi σ28 36 ((1 : Int32).toNatClampNeg) (v27 ||| v29)) (fun σ30 =>
  fX5_doWith_292 σ30))))))))) else
  zck (zin 0 29) (
  zbi (fX5_difference σ (zgi σ 36 (0 : Int32).toNatClampNeg) x2 0) (fun σ31 v32 =>
  zck (zin 1 29) (
  zck (zin 1 29) (zbv (zsi σ31 36 ((1 : Int32).toNatClampNeg) (((zgi σ31 36 (1 : Int32).toNatClampNeg) &&& (-41)) ||| (x2 &&& 40))) (fun σ33 =>
  fX5_doWith_292 σ33)))))
set_option maxRecDepth 20000 in
set_option maxHeartbeats 4000000 in
theorem bX5_doWith_292 {st : Nat → Nat} {p : Program} {l : Launch} {e : Env} {s : State} {m : MethodId} {args : Array Value} {below : List Frame} {meth : Method} {c : Code} {D : va_G} {A : Nat → Prop} {ad : Nat → Nat} {cy : Nat → ClassId} (hC : zC p m c cX5_doWith 3 s args wzX5_doWith RX5 meth none)  {res : zSt} {H : Heap} {locs : List Loc} {σ : zSt} {ls : Array Slot}  (hI : zI st D (tC cy) (wC ad cy σ) A s H locs) (hl : lv_has ls 3 []) (hf : fX5_doWith_292  σ  = some res) : W p l e rmX5_doWith s m args below meth c H locs 0 0 (zQu below args s D (tC cy) (wC ad cy) A res) (F0 m 292 ls []) := by
  have hx := hC.1
  have hb := hC.2.1
  unfold fX5_doWith_292 at hf
  exact z_return hC hI hf dX5_doWith_292
set_option maxRecDepth 20000 in
set_option maxHeartbeats 4000000 in
theorem bX5_doWith {st : Nat → Nat} {p : Program} {l : Launch} {e : Env} {s : State} {m : MethodId} {args : Array Value} {below : List Frame} {meth : Method} {c : Code} {D : va_G} {A : Nat → Prop} {ad : Nat → Nat} {cy : Nat → ClassId} (hC : zC p m c cX5_doWith 3 s args wzX5_doWith RX5 meth none)  {res : zSt} {H : Heap} {locs : List Loc} {σ : zSt} {ls : Array Slot} {x1 : Int32} {x2 : Int32} (hI : zI st D (tC cy) (wC ad cy σ) A s H locs) (hl : lv_has ls 3 [(0, .ref (ad 7)), (1, .int x1), (2, .int x2)]) (hf : fX5_doWith  σ x1 x2 = some res) : W p l e rmX5_doWith s m args below meth c H locs 0 0 (zQu below args s D (tC cy) (wC ad cy) A res) (F0 m 0 ls []) := by
  have hx := hC.1
  have hb := hC.2.1
  unfold fX5_doWith at hf
  refine lv_iload_n hx hb dX5_doWith_0 rfl (lv_at hl 1 rfl) ?_
  by_cases q0 : x1 = 0
  · replace hf := zif_t q0 hf
    refine lv_tableIn (tgt := 44) hx hb dX5_doWith_1 (by rw [q0]; decide) (by rw [q0]; decide) (by rw [q0]; rfl) (by decide) ?_
    refine lv_aload_n hx hb dX5_doWith_44 rfl (lv_at hl 0 rfl) ?_
    refine z_get hC hI hinX5_doWith_X50 7 (wC_e7 ad cy σ) rfl 2 (by decide) (List.mem_cons_of_mem _ zw7_5) rfl dX5_doWith_45 ?_
    refine lv_iconst (v := 0) hx hb dX5_doWith_48 (by decide) ?_
    refine lv_aload_n hx hb dX5_doWith_49 rfl (lv_at hl 0 rfl) ?_
    refine lv_aload_n hx hb dX5_doWith_50 rfl (lv_at hl 0 rfl) ?_
    refine z_get hC hI hinX5_doWith_X50 7 (wC_e7 ad cy σ) rfl 2 (by decide) (List.mem_cons_of_mem _ zw7_5) rfl dX5_doWith_51 ?_
    refine lv_iconst (v := 0) hx hb dX5_doWith_54 (by decide) ?_
    obtain ⟨q, hf⟩ := zck_use hf
    refine z_iald hC hI 36 23 (wC_e36 ad cy σ) (tC_t36 cy) q dX5_doWith_55 ?_
    refine lv_iload_n hx hb dX5_doWith_56 rfl (lv_at hl 2 rfl) ?_
    refine lv_iconst (v := 0) hx hb dX5_doWith_57 (by decide) ?_
    obtain ⟨σ1, v2, g1, hf⟩ := zbi_use hf
    refine z_callVi (As := [.int (zgi σ 36 (0 : Int32).toNatClampNeg), .int x2, .int 0]) (rest := [.int 0, .ref (ad 36)]) hC hI (cX5_sum_met st l D ad cy σ (zgi σ 36 (0 : Int32).toNatClampNeg) x2 0 _ g1) (zgV zw34_4 zw34_5 zw34_6 zw2_21 zw34_7) rfl ⟨rfl, rfl⟩ 3 hdX5_sum ⟨Nat.le_of_ble_eq_true rfl, Nat.le_of_ble_eq_true rfl⟩ rfl rfl (wC_e7 ad cy σ) rfl hl rfl (Nat.le_of_ble_eq_true rfl) dX5_doWith_58 ⟨Nat.zero_le _, Nat.zero_le _⟩ (fun H locs hI => ?_)
    obtain ⟨q, hf⟩ := zck_use hf
    obtain ⟨σ3, eσ3⟩ : ∃ z, z = zsi σ1 36 ((0 : Int32).toNatClampNeg) v2 := ⟨_, rfl⟩
    replace hf := zbv_use eσ3 hf
    refine z_iast hC hI 36 23 (wC_e36 ad cy σ1) (tC_t36 cy) q ((wC_s36 ad cy σ1 _ _).trans (congrArg (wC ad cy) eσ3.symm)) dX5_doWith_61 (fun H locs hI => ?_)
    refine lv_goto (tgt := 292) hx hb dX5_doWith_62 (by decide) ?_
    exact bX5_doWith_292 hC  hI (lv_sub hl [] rfl) hf
  replace hf := zif_f q0 hf
  by_cases q1 : x1 = 1
  · replace hf := zif_t q1 hf
    refine lv_tableIn (tgt := 65) hx hb dX5_doWith_1 (by rw [q1]; decide) (by rw [q1]; decide) (by rw [q1]; rfl) (by decide) ?_
    refine lv_aload_n hx hb dX5_doWith_65 rfl (lv_at hl 0 rfl) ?_
    refine z_get hC hI hinX5_doWith_X50 7 (wC_e7 ad cy σ) rfl 2 (by decide) (List.mem_cons_of_mem _ zw7_5) rfl dX5_doWith_66 ?_
    refine lv_iconst (v := 0) hx hb dX5_doWith_69 (by decide) ?_
    refine lv_aload_n hx hb dX5_doWith_70 rfl (lv_at hl 0 rfl) ?_
    refine lv_aload_n hx hb dX5_doWith_71 rfl (lv_at hl 0 rfl) ?_
    refine z_get hC hI hinX5_doWith_X50 7 (wC_e7 ad cy σ) rfl 2 (by decide) (List.mem_cons_of_mem _ zw7_5) rfl dX5_doWith_72 ?_
    refine lv_iconst (v := 0) hx hb dX5_doWith_75 (by decide) ?_
    obtain ⟨q, hf⟩ := zck_use hf
    refine z_iald hC hI 36 23 (wC_e36 ad cy σ) (tC_t36 cy) q dX5_doWith_76 ?_
    refine lv_iload_n hx hb dX5_doWith_77 rfl (lv_at hl 2 rfl) ?_
    refine lv_aload_n hx hb dX5_doWith_78 rfl (lv_at hl 0 rfl) ?_
    refine z_get hC hI hinX5_doWith_X50 7 (wC_e7 ad cy σ) rfl 2 (by decide) (List.mem_cons_of_mem _ zw7_5) rfl dX5_doWith_79 ?_
    refine lv_iconst (v := 1) hx hb dX5_doWith_82 (by decide) ?_
    obtain ⟨q, hf⟩ := zck_use hf
    refine z_iald hC hI 36 23 (wC_e36 ad cy σ) (tC_t36 cy) q dX5_doWith_83 ?_
    refine lv_iconst (v := 1) hx hb dX5_doWith_84 (by decide) ?_
    refine lv_iand hx hb dX5_doWith_85 ?_
    obtain ⟨σ4, v5, g4, hf⟩ := zbi_use hf
    refine z_callVi (As := [.int (zgi σ 36 (0 : Int32).toNatClampNeg), .int x2, .int ((zgi σ 36 (1 : Int32).toNatClampNeg) &&& 1)]) (rest := [.int 0, .ref (ad 36)]) hC hI (cX5_sum_met st l D ad cy σ (zgi σ 36 (0 : Int32).toNatClampNeg) x2 ((zgi σ 36 (1 : Int32).toNatClampNeg) &&& 1) _ g4) (zgV zw34_4 zw34_5 zw34_6 zw2_21 zw34_7) rfl ⟨rfl, rfl⟩ 3 hdX5_sum ⟨Nat.le_of_ble_eq_true rfl, Nat.le_of_ble_eq_true rfl⟩ rfl rfl (wC_e7 ad cy σ) rfl hl rfl (Nat.le_of_ble_eq_true rfl) dX5_doWith_86 ⟨Nat.zero_le _, Nat.zero_le _⟩ (fun H locs hI => ?_)
    obtain ⟨q, hf⟩ := zck_use hf
    obtain ⟨σ6, eσ6⟩ : ∃ z, z = zsi σ4 36 ((0 : Int32).toNatClampNeg) v5 := ⟨_, rfl⟩
    replace hf := zbv_use eσ6 hf
    refine z_iast hC hI 36 23 (wC_e36 ad cy σ4) (tC_t36 cy) q ((wC_s36 ad cy σ4 _ _).trans (congrArg (wC ad cy) eσ6.symm)) dX5_doWith_89 (fun H locs hI => ?_)
    refine lv_goto (tgt := 292) hx hb dX5_doWith_90 (by decide) ?_
    exact bX5_doWith_292 hC  hI (lv_sub hl [] rfl) hf
  replace hf := zif_f q1 hf
  by_cases q2 : x1 = 2
  · replace hf := zif_t q2 hf
    refine lv_tableIn (tgt := 93) hx hb dX5_doWith_1 (by rw [q2]; decide) (by rw [q2]; decide) (by rw [q2]; rfl) (by decide) ?_
    refine lv_aload_n hx hb dX5_doWith_93 rfl (lv_at hl 0 rfl) ?_
    refine z_get hC hI hinX5_doWith_X50 7 (wC_e7 ad cy σ) rfl 2 (by decide) (List.mem_cons_of_mem _ zw7_5) rfl dX5_doWith_94 ?_
    refine lv_iconst (v := 0) hx hb dX5_doWith_97 (by decide) ?_
    refine lv_aload_n hx hb dX5_doWith_98 rfl (lv_at hl 0 rfl) ?_
    refine lv_aload_n hx hb dX5_doWith_99 rfl (lv_at hl 0 rfl) ?_
    refine z_get hC hI hinX5_doWith_X50 7 (wC_e7 ad cy σ) rfl 2 (by decide) (List.mem_cons_of_mem _ zw7_5) rfl dX5_doWith_100 ?_
    refine lv_iconst (v := 0) hx hb dX5_doWith_103 (by decide) ?_
    obtain ⟨q, hf⟩ := zck_use hf
    refine z_iald hC hI 36 23 (wC_e36 ad cy σ) (tC_t36 cy) q dX5_doWith_104 ?_
    refine lv_iload_n hx hb dX5_doWith_105 rfl (lv_at hl 2 rfl) ?_
    refine lv_iconst (v := 0) hx hb dX5_doWith_106 (by decide) ?_
    obtain ⟨σ7, v8, g7, hf⟩ := zbi_use hf
    refine z_callVi (As := [.int (zgi σ 36 (0 : Int32).toNatClampNeg), .int x2, .int 0]) (rest := [.int 0, .ref (ad 36)]) hC hI (cX5_difference_met st l D ad cy σ (zgi σ 36 (0 : Int32).toNatClampNeg) x2 0 _ g7) (zgV zw31_3 zw31_4 zw31_5 zw2_21 zw31_6) rfl ⟨rfl, rfl⟩ 3 hdX5_difference ⟨Nat.le_of_ble_eq_true rfl, Nat.le_of_ble_eq_true rfl⟩ rfl rfl (wC_e7 ad cy σ) rfl hl rfl (Nat.le_of_ble_eq_true rfl) dX5_doWith_107 ⟨Nat.zero_le _, Nat.zero_le _⟩ (fun H locs hI => ?_)
    obtain ⟨q, hf⟩ := zck_use hf
    obtain ⟨σ9, eσ9⟩ : ∃ z, z = zsi σ7 36 ((0 : Int32).toNatClampNeg) v8 := ⟨_, rfl⟩
    replace hf := zbv_use eσ9 hf
    refine z_iast hC hI 36 23 (wC_e36 ad cy σ7) (tC_t36 cy) q ((wC_s36 ad cy σ7 _ _).trans (congrArg (wC ad cy) eσ9.symm)) dX5_doWith_110 (fun H locs hI => ?_)
    refine lv_goto (tgt := 292) hx hb dX5_doWith_111 (by decide) ?_
    exact bX5_doWith_292 hC  hI (lv_sub hl [] rfl) hf
  replace hf := zif_f q2 hf
  by_cases q3 : x1 = 3
  · replace hf := zif_t q3 hf
    refine lv_tableIn (tgt := 114) hx hb dX5_doWith_1 (by rw [q3]; decide) (by rw [q3]; decide) (by rw [q3]; rfl) (by decide) ?_
    refine lv_aload_n hx hb dX5_doWith_114 rfl (lv_at hl 0 rfl) ?_
    refine z_get hC hI hinX5_doWith_X50 7 (wC_e7 ad cy σ) rfl 2 (by decide) (List.mem_cons_of_mem _ zw7_5) rfl dX5_doWith_115 ?_
    refine lv_iconst (v := 0) hx hb dX5_doWith_118 (by decide) ?_
    refine lv_aload_n hx hb dX5_doWith_119 rfl (lv_at hl 0 rfl) ?_
    refine lv_aload_n hx hb dX5_doWith_120 rfl (lv_at hl 0 rfl) ?_
    refine z_get hC hI hinX5_doWith_X50 7 (wC_e7 ad cy σ) rfl 2 (by decide) (List.mem_cons_of_mem _ zw7_5) rfl dX5_doWith_121 ?_
    refine lv_iconst (v := 0) hx hb dX5_doWith_124 (by decide) ?_
    obtain ⟨q, hf⟩ := zck_use hf
    refine z_iald hC hI 36 23 (wC_e36 ad cy σ) (tC_t36 cy) q dX5_doWith_125 ?_
    refine lv_iload_n hx hb dX5_doWith_126 rfl (lv_at hl 2 rfl) ?_
    refine lv_aload_n hx hb dX5_doWith_127 rfl (lv_at hl 0 rfl) ?_
    refine z_get hC hI hinX5_doWith_X50 7 (wC_e7 ad cy σ) rfl 2 (by decide) (List.mem_cons_of_mem _ zw7_5) rfl dX5_doWith_128 ?_
    refine lv_iconst (v := 1) hx hb dX5_doWith_131 (by decide) ?_
    obtain ⟨q, hf⟩ := zck_use hf
    refine z_iald hC hI 36 23 (wC_e36 ad cy σ) (tC_t36 cy) q dX5_doWith_132 ?_
    refine lv_iconst (v := 1) hx hb dX5_doWith_133 (by decide) ?_
    refine lv_iand hx hb dX5_doWith_134 ?_
    obtain ⟨σ10, v11, g10, hf⟩ := zbi_use hf
    refine z_callVi (As := [.int (zgi σ 36 (0 : Int32).toNatClampNeg), .int x2, .int ((zgi σ 36 (1 : Int32).toNatClampNeg) &&& 1)]) (rest := [.int 0, .ref (ad 36)]) hC hI (cX5_difference_met st l D ad cy σ (zgi σ 36 (0 : Int32).toNatClampNeg) x2 ((zgi σ 36 (1 : Int32).toNatClampNeg) &&& 1) _ g10) (zgV zw31_3 zw31_4 zw31_5 zw2_21 zw31_6) rfl ⟨rfl, rfl⟩ 3 hdX5_difference ⟨Nat.le_of_ble_eq_true rfl, Nat.le_of_ble_eq_true rfl⟩ rfl rfl (wC_e7 ad cy σ) rfl hl rfl (Nat.le_of_ble_eq_true rfl) dX5_doWith_135 ⟨Nat.zero_le _, Nat.zero_le _⟩ (fun H locs hI => ?_)
    obtain ⟨q, hf⟩ := zck_use hf
    obtain ⟨σ12, eσ12⟩ : ∃ z, z = zsi σ10 36 ((0 : Int32).toNatClampNeg) v11 := ⟨_, rfl⟩
    replace hf := zbv_use eσ12 hf
    refine z_iast hC hI 36 23 (wC_e36 ad cy σ10) (tC_t36 cy) q ((wC_s36 ad cy σ10 _ _).trans (congrArg (wC ad cy) eσ12.symm)) dX5_doWith_138 (fun H locs hI => ?_)
    refine lv_goto (tgt := 292) hx hb dX5_doWith_139 (by decide) ?_
    exact bX5_doWith_292 hC  hI (lv_sub hl [] rfl) hf
  replace hf := zif_f q3 hf
  by_cases q4 : x1 = 4
  · replace hf := zif_t q4 hf
    refine lv_tableIn (tgt := 142) hx hb dX5_doWith_1 (by rw [q4]; decide) (by rw [q4]; decide) (by rw [q4]; rfl) (by decide) ?_
    refine lv_aload_n hx hb dX5_doWith_142 rfl (lv_at hl 0 rfl) ?_
    refine z_get hC hI hinX5_doWith_X50 7 (wC_e7 ad cy σ) rfl 2 (by decide) (List.mem_cons_of_mem _ zw7_5) rfl dX5_doWith_143 ?_
    refine lv_iconst (v := 0) hx hb dX5_doWith_146 (by decide) ?_
    refine lv_dup2_11 hx hb dX5_doWith_147 rfl rfl ?_
    obtain ⟨q, hf⟩ := zck_use hf
    refine z_iald hC hI 36 23 (wC_e36 ad cy σ) (tC_t36 cy) q dX5_doWith_148 ?_
    refine lv_iload_n hx hb dX5_doWith_149 rfl (lv_at hl 2 rfl) ?_
    refine lv_iand hx hb dX5_doWith_150 ?_
    obtain ⟨q, hf⟩ := zck_use hf
    obtain ⟨σ13, eσ13⟩ : ∃ z, z = zsi σ 36 ((0 : Int32).toNatClampNeg) ((zgi σ 36 (0 : Int32).toNatClampNeg) &&& x2) := ⟨_, rfl⟩
    replace hf := zbv_use eσ13 hf
    refine z_iast hC hI 36 23 (wC_e36 ad cy σ) (tC_t36 cy) q ((wC_s36 ad cy σ _ _).trans (congrArg (wC ad cy) eσ13.symm)) dX5_doWith_151 (fun H locs hI => ?_)
    refine lv_aload_n hx hb dX5_doWith_152 rfl (lv_at hl 0 rfl) ?_
    refine z_get hC hI hinX5_doWith_X50 7 (wC_e7 ad cy σ13) rfl 2 (by decide) (List.mem_cons_of_mem _ zw7_5) rfl dX5_doWith_153 ?_
    refine lv_iconst (v := 1) hx hb dX5_doWith_156 (by decide) ?_
    refine lv_aload_n hx hb dX5_doWith_157 rfl (lv_at hl 0 rfl) ?_
    refine z_get hC hI hinX5_doWith_X50 7 (wC_e7 ad cy σ13) rfl 2 (by decide) (List.mem_cons_of_mem _ zw7_5) rfl dX5_doWith_158 ?_
    refine lv_iconst (v := 0) hx hb dX5_doWith_161 (by decide) ?_
    obtain ⟨q, hf⟩ := zck_use hf
    refine z_iald hC hI 36 23 (wC_e36 ad cy σ13) (tC_t36 cy) q dX5_doWith_162 ?_
    obtain ⟨σ14, v15, g14, hf⟩ := zbi_use hf
    refine z_callSi (As := [.int (zgi σ13 36 (0 : Int32).toNatClampNeg)]) (rest := [.int 1, .ref (ad 36)]) hC hI (cX5_by_met st l D ad cy σ13 (zgi σ13 36 (0 : Int32).toNatClampNeg) _ g14) (zgS zw22_19 zw22_20 zw2_21 zw22_21) rfl ⟨rfl, rfl⟩ 1 hdX5_by ⟨Nat.le_of_ble_eq_true rfl, Nat.le_of_ble_eq_true rfl⟩ rfl hl rfl (Nat.le_of_ble_eq_true rfl) dX5_doWith_163 ⟨Nat.zero_le _, Nat.zero_le _⟩ (fun H locs hI => ?_)
    refine lv_aload_n hx hb dX5_doWith_166 rfl (lv_at hl 0 rfl) ?_
    refine z_get hC hI hinX5_doWith_X50 7 (wC_e7 ad cy σ14) rfl 2 (by decide) (List.mem_cons_of_mem _ zw7_5) rfl dX5_doWith_167 ?_
    refine lv_iconst (v := 0) hx hb dX5_doWith_170 (by decide) ?_
    obtain ⟨q, hf⟩ := zck_use hf
    refine z_iald hC hI 36 23 (wC_e36 ad cy σ14) (tC_t36 cy) q dX5_doWith_171 ?_
    obtain ⟨σ16, v17, g16, hf⟩ := zbi_use hf
    refine z_callSi (As := [.int (zgi σ14 36 (0 : Int32).toNatClampNeg)]) (rest := [.int v15, .int 1, .ref (ad 36)]) hC hI (cX5_parity_met st l D ad cy σ14 (zgi σ14 36 (0 : Int32).toNatClampNeg) _ g16) (zgS zw22_22 zw22_23 zw2_21 zw23_0) rfl ⟨rfl, rfl⟩ 1 hdX5_parity ⟨Nat.le_of_ble_eq_true rfl, Nat.le_of_ble_eq_true rfl⟩ rfl hl rfl (Nat.le_of_ble_eq_true rfl) dX5_doWith_172 ⟨Nat.zero_le _, Nat.zero_le _⟩ (fun H locs hI => ?_)
    refine lv_ior hx hb dX5_doWith_175 ?_
    refine lv_bipush (v := 16) hx hb dX5_doWith_176 (by decide) ?_
    refine lv_ior hx hb dX5_doWith_178 ?_
    obtain ⟨q, hf⟩ := zck_use hf
    obtain ⟨σ18, eσ18⟩ : ∃ z, z = zsi σ16 36 ((1 : Int32).toNatClampNeg) ((v15 ||| v17) ||| 16) := ⟨_, rfl⟩
    replace hf := zbv_use eσ18 hf
    refine z_iast hC hI 36 23 (wC_e36 ad cy σ16) (tC_t36 cy) q ((wC_s36 ad cy σ16 _ _).trans (congrArg (wC ad cy) eσ18.symm)) dX5_doWith_179 (fun H locs hI => ?_)
    refine lv_goto (tgt := 292) hx hb dX5_doWith_180 (by decide) ?_
    exact bX5_doWith_292 hC  hI (lv_sub hl [] rfl) hf
  replace hf := zif_f q4 hf
  by_cases q5 : x1 = 5
  · replace hf := zif_t q5 hf
    refine lv_tableIn (tgt := 183) hx hb dX5_doWith_1 (by rw [q5]; decide) (by rw [q5]; decide) (by rw [q5]; rfl) (by decide) ?_
    refine lv_aload_n hx hb dX5_doWith_183 rfl (lv_at hl 0 rfl) ?_
    refine z_get hC hI hinX5_doWith_X50 7 (wC_e7 ad cy σ) rfl 2 (by decide) (List.mem_cons_of_mem _ zw7_5) rfl dX5_doWith_184 ?_
    refine lv_iconst (v := 0) hx hb dX5_doWith_187 (by decide) ?_
    refine lv_dup2_11 hx hb dX5_doWith_188 rfl rfl ?_
    obtain ⟨q, hf⟩ := zck_use hf
    refine z_iald hC hI 36 23 (wC_e36 ad cy σ) (tC_t36 cy) q dX5_doWith_189 ?_
    refine lv_iload_n hx hb dX5_doWith_190 rfl (lv_at hl 2 rfl) ?_
    refine lv_ixor hx hb dX5_doWith_191 ?_
    obtain ⟨q, hf⟩ := zck_use hf
    obtain ⟨σ19, eσ19⟩ : ∃ z, z = zsi σ 36 ((0 : Int32).toNatClampNeg) ((zgi σ 36 (0 : Int32).toNatClampNeg) ^^^ x2) := ⟨_, rfl⟩
    replace hf := zbv_use eσ19 hf
    refine z_iast hC hI 36 23 (wC_e36 ad cy σ) (tC_t36 cy) q ((wC_s36 ad cy σ _ _).trans (congrArg (wC ad cy) eσ19.symm)) dX5_doWith_192 (fun H locs hI => ?_)
    refine lv_aload_n hx hb dX5_doWith_193 rfl (lv_at hl 0 rfl) ?_
    refine z_get hC hI hinX5_doWith_X50 7 (wC_e7 ad cy σ19) rfl 2 (by decide) (List.mem_cons_of_mem _ zw7_5) rfl dX5_doWith_194 ?_
    refine lv_iconst (v := 1) hx hb dX5_doWith_197 (by decide) ?_
    refine lv_aload_n hx hb dX5_doWith_198 rfl (lv_at hl 0 rfl) ?_
    refine z_get hC hI hinX5_doWith_X50 7 (wC_e7 ad cy σ19) rfl 2 (by decide) (List.mem_cons_of_mem _ zw7_5) rfl dX5_doWith_199 ?_
    refine lv_iconst (v := 0) hx hb dX5_doWith_202 (by decide) ?_
    obtain ⟨q, hf⟩ := zck_use hf
    refine z_iald hC hI 36 23 (wC_e36 ad cy σ19) (tC_t36 cy) q dX5_doWith_203 ?_
    obtain ⟨σ20, v21, g20, hf⟩ := zbi_use hf
    refine z_callSi (As := [.int (zgi σ19 36 (0 : Int32).toNatClampNeg)]) (rest := [.int 1, .ref (ad 36)]) hC hI (cX5_by_met st l D ad cy σ19 (zgi σ19 36 (0 : Int32).toNatClampNeg) _ g20) (zgS zw22_19 zw22_20 zw2_21 zw22_21) rfl ⟨rfl, rfl⟩ 1 hdX5_by ⟨Nat.le_of_ble_eq_true rfl, Nat.le_of_ble_eq_true rfl⟩ rfl hl rfl (Nat.le_of_ble_eq_true rfl) dX5_doWith_204 ⟨Nat.zero_le _, Nat.zero_le _⟩ (fun H locs hI => ?_)
    refine lv_aload_n hx hb dX5_doWith_207 rfl (lv_at hl 0 rfl) ?_
    refine z_get hC hI hinX5_doWith_X50 7 (wC_e7 ad cy σ20) rfl 2 (by decide) (List.mem_cons_of_mem _ zw7_5) rfl dX5_doWith_208 ?_
    refine lv_iconst (v := 0) hx hb dX5_doWith_211 (by decide) ?_
    obtain ⟨q, hf⟩ := zck_use hf
    refine z_iald hC hI 36 23 (wC_e36 ad cy σ20) (tC_t36 cy) q dX5_doWith_212 ?_
    obtain ⟨σ22, v23, g22, hf⟩ := zbi_use hf
    refine z_callSi (As := [.int (zgi σ20 36 (0 : Int32).toNatClampNeg)]) (rest := [.int v21, .int 1, .ref (ad 36)]) hC hI (cX5_parity_met st l D ad cy σ20 (zgi σ20 36 (0 : Int32).toNatClampNeg) _ g22) (zgS zw22_22 zw22_23 zw2_21 zw23_0) rfl ⟨rfl, rfl⟩ 1 hdX5_parity ⟨Nat.le_of_ble_eq_true rfl, Nat.le_of_ble_eq_true rfl⟩ rfl hl rfl (Nat.le_of_ble_eq_true rfl) dX5_doWith_213 ⟨Nat.zero_le _, Nat.zero_le _⟩ (fun H locs hI => ?_)
    refine lv_ior hx hb dX5_doWith_216 ?_
    obtain ⟨q, hf⟩ := zck_use hf
    obtain ⟨σ24, eσ24⟩ : ∃ z, z = zsi σ22 36 ((1 : Int32).toNatClampNeg) (v21 ||| v23) := ⟨_, rfl⟩
    replace hf := zbv_use eσ24 hf
    refine z_iast hC hI 36 23 (wC_e36 ad cy σ22) (tC_t36 cy) q ((wC_s36 ad cy σ22 _ _).trans (congrArg (wC ad cy) eσ24.symm)) dX5_doWith_217 (fun H locs hI => ?_)
    refine lv_goto (tgt := 292) hx hb dX5_doWith_218 (by decide) ?_
    exact bX5_doWith_292 hC  hI (lv_sub hl [] rfl) hf
  replace hf := zif_f q5 hf
  by_cases q6 : x1 = 6
  · replace hf := zif_t q6 hf
    refine lv_tableIn (tgt := 221) hx hb dX5_doWith_1 (by rw [q6]; decide) (by rw [q6]; decide) (by rw [q6]; rfl) (by decide) ?_
    refine lv_aload_n hx hb dX5_doWith_221 rfl (lv_at hl 0 rfl) ?_
    refine z_get hC hI hinX5_doWith_X50 7 (wC_e7 ad cy σ) rfl 2 (by decide) (List.mem_cons_of_mem _ zw7_5) rfl dX5_doWith_222 ?_
    refine lv_iconst (v := 0) hx hb dX5_doWith_225 (by decide) ?_
    refine lv_dup2_11 hx hb dX5_doWith_226 rfl rfl ?_
    obtain ⟨q, hf⟩ := zck_use hf
    refine z_iald hC hI 36 23 (wC_e36 ad cy σ) (tC_t36 cy) q dX5_doWith_227 ?_
    refine lv_iload_n hx hb dX5_doWith_228 rfl (lv_at hl 2 rfl) ?_
    refine lv_ior hx hb dX5_doWith_229 ?_
    obtain ⟨q, hf⟩ := zck_use hf
    obtain ⟨σ25, eσ25⟩ : ∃ z, z = zsi σ 36 ((0 : Int32).toNatClampNeg) ((zgi σ 36 (0 : Int32).toNatClampNeg) ||| x2) := ⟨_, rfl⟩
    replace hf := zbv_use eσ25 hf
    refine z_iast hC hI 36 23 (wC_e36 ad cy σ) (tC_t36 cy) q ((wC_s36 ad cy σ _ _).trans (congrArg (wC ad cy) eσ25.symm)) dX5_doWith_230 (fun H locs hI => ?_)
    refine lv_aload_n hx hb dX5_doWith_231 rfl (lv_at hl 0 rfl) ?_
    refine z_get hC hI hinX5_doWith_X50 7 (wC_e7 ad cy σ25) rfl 2 (by decide) (List.mem_cons_of_mem _ zw7_5) rfl dX5_doWith_232 ?_
    refine lv_iconst (v := 1) hx hb dX5_doWith_235 (by decide) ?_
    refine lv_aload_n hx hb dX5_doWith_236 rfl (lv_at hl 0 rfl) ?_
    refine z_get hC hI hinX5_doWith_X50 7 (wC_e7 ad cy σ25) rfl 2 (by decide) (List.mem_cons_of_mem _ zw7_5) rfl dX5_doWith_237 ?_
    refine lv_iconst (v := 0) hx hb dX5_doWith_240 (by decide) ?_
    obtain ⟨q, hf⟩ := zck_use hf
    refine z_iald hC hI 36 23 (wC_e36 ad cy σ25) (tC_t36 cy) q dX5_doWith_241 ?_
    obtain ⟨σ26, v27, g26, hf⟩ := zbi_use hf
    refine z_callSi (As := [.int (zgi σ25 36 (0 : Int32).toNatClampNeg)]) (rest := [.int 1, .ref (ad 36)]) hC hI (cX5_by_met st l D ad cy σ25 (zgi σ25 36 (0 : Int32).toNatClampNeg) _ g26) (zgS zw22_19 zw22_20 zw2_21 zw22_21) rfl ⟨rfl, rfl⟩ 1 hdX5_by ⟨Nat.le_of_ble_eq_true rfl, Nat.le_of_ble_eq_true rfl⟩ rfl hl rfl (Nat.le_of_ble_eq_true rfl) dX5_doWith_242 ⟨Nat.zero_le _, Nat.zero_le _⟩ (fun H locs hI => ?_)
    refine lv_aload_n hx hb dX5_doWith_245 rfl (lv_at hl 0 rfl) ?_
    refine z_get hC hI hinX5_doWith_X50 7 (wC_e7 ad cy σ26) rfl 2 (by decide) (List.mem_cons_of_mem _ zw7_5) rfl dX5_doWith_246 ?_
    refine lv_iconst (v := 0) hx hb dX5_doWith_249 (by decide) ?_
    obtain ⟨q, hf⟩ := zck_use hf
    refine z_iald hC hI 36 23 (wC_e36 ad cy σ26) (tC_t36 cy) q dX5_doWith_250 ?_
    obtain ⟨σ28, v29, g28, hf⟩ := zbi_use hf
    refine z_callSi (As := [.int (zgi σ26 36 (0 : Int32).toNatClampNeg)]) (rest := [.int v27, .int 1, .ref (ad 36)]) hC hI (cX5_parity_met st l D ad cy σ26 (zgi σ26 36 (0 : Int32).toNatClampNeg) _ g28) (zgS zw22_22 zw22_23 zw2_21 zw23_0) rfl ⟨rfl, rfl⟩ 1 hdX5_parity ⟨Nat.le_of_ble_eq_true rfl, Nat.le_of_ble_eq_true rfl⟩ rfl hl rfl (Nat.le_of_ble_eq_true rfl) dX5_doWith_251 ⟨Nat.zero_le _, Nat.zero_le _⟩ (fun H locs hI => ?_)
    refine lv_ior hx hb dX5_doWith_254 ?_
    obtain ⟨q, hf⟩ := zck_use hf
    obtain ⟨σ30, eσ30⟩ : ∃ z, z = zsi σ28 36 ((1 : Int32).toNatClampNeg) (v27 ||| v29) := ⟨_, rfl⟩
    replace hf := zbv_use eσ30 hf
    refine z_iast hC hI 36 23 (wC_e36 ad cy σ28) (tC_t36 cy) q ((wC_s36 ad cy σ28 _ _).trans (congrArg (wC ad cy) eσ30.symm)) dX5_doWith_255 (fun H locs hI => ?_)
    refine lv_goto (tgt := 292) hx hb dX5_doWith_256 (by decide) ?_
    exact bX5_doWith_292 hC  hI (lv_sub hl [] rfl) hf
  replace hf := zif_f q6 hf
  refine lv_tableOut (tgt := 259) hx hb dX5_doWith_1 (zsw (fun k h1 h2 => by rcases (show k = 0 ∨ k = 1 ∨ k = 2 ∨ k = 3 ∨ k = 4 ∨ k = 5 ∨ k = 6 by omega) with rfl | rfl | rfl | rfl | rfl | rfl | rfl <;> assumption)) (by decide) ?_
  refine lv_aload_n hx hb dX5_doWith_259 rfl (lv_at hl 0 rfl) ?_
  refine lv_aload_n hx hb dX5_doWith_260 rfl (lv_at hl 0 rfl) ?_
  refine z_get hC hI hinX5_doWith_X50 7 (wC_e7 ad cy σ) rfl 2 (by decide) (List.mem_cons_of_mem _ zw7_5) rfl dX5_doWith_261 ?_
  refine lv_iconst (v := 0) hx hb dX5_doWith_264 (by decide) ?_
  obtain ⟨q, hf⟩ := zck_use hf
  refine z_iald hC hI 36 23 (wC_e36 ad cy σ) (tC_t36 cy) q dX5_doWith_265 ?_
  refine lv_iload_n hx hb dX5_doWith_266 rfl (lv_at hl 2 rfl) ?_
  refine lv_iconst (v := 0) hx hb dX5_doWith_267 (by decide) ?_
  obtain ⟨σ31, v32, g31, hf⟩ := zbi_use hf
  refine z_callVi (As := [.int (zgi σ 36 (0 : Int32).toNatClampNeg), .int x2, .int 0]) (rest := []) hC hI (cX5_difference_met st l D ad cy σ (zgi σ 36 (0 : Int32).toNatClampNeg) x2 0 _ g31) (zgV zw31_3 zw31_4 zw31_5 zw2_21 zw31_6) rfl ⟨rfl, rfl⟩ 3 hdX5_difference ⟨Nat.le_of_ble_eq_true rfl, Nat.le_of_ble_eq_true rfl⟩ rfl rfl (wC_e7 ad cy σ) rfl hl rfl (Nat.le_of_ble_eq_true rfl) dX5_doWith_268 ⟨Nat.zero_le _, Nat.zero_le _⟩ (fun H locs hI => ?_)
  refine lv_pop hx hb dX5_doWith_271 rfl ?_
  refine lv_aload_n hx hb dX5_doWith_272 rfl (lv_at hl 0 rfl) ?_
  refine z_get hC hI hinX5_doWith_X50 7 (wC_e7 ad cy σ31) rfl 2 (by decide) (List.mem_cons_of_mem _ zw7_5) rfl dX5_doWith_273 ?_
  refine lv_iconst (v := 1) hx hb dX5_doWith_276 (by decide) ?_
  refine lv_aload_n hx hb dX5_doWith_277 rfl (lv_at hl 0 rfl) ?_
  refine z_get hC hI hinX5_doWith_X50 7 (wC_e7 ad cy σ31) rfl 2 (by decide) (List.mem_cons_of_mem _ zw7_5) rfl dX5_doWith_278 ?_
  refine lv_iconst (v := 1) hx hb dX5_doWith_281 (by decide) ?_
  obtain ⟨q, hf⟩ := zck_use hf
  refine z_iald hC hI 36 23 (wC_e36 ad cy σ31) (tC_t36 cy) q dX5_doWith_282 ?_
  refine lv_bipush (v := (-41)) hx hb dX5_doWith_283 (by decide) ?_
  refine lv_iand hx hb dX5_doWith_285 ?_
  refine lv_iload_n hx hb dX5_doWith_286 rfl (lv_at hl 2 rfl) ?_
  refine lv_bipush (v := 40) hx hb dX5_doWith_287 (by decide) ?_
  refine lv_iand hx hb dX5_doWith_289 ?_
  refine lv_ior hx hb dX5_doWith_290 ?_
  obtain ⟨q, hf⟩ := zck_use hf
  obtain ⟨σ33, eσ33⟩ : ∃ z, z = zsi σ31 36 ((1 : Int32).toNatClampNeg) (((zgi σ31 36 (1 : Int32).toNatClampNeg) &&& (-41)) ||| (x2 &&& 40)) := ⟨_, rfl⟩
  replace hf := zbv_use eσ33 hf
  refine z_iast hC hI 36 23 (wC_e36 ad cy σ31) (tC_t36 cy) q ((wC_s36 ad cy σ31 _ _).trans (congrArg (wC ad cy) eσ33.symm)) dX5_doWith_291 (fun H locs hI => ?_)
  exact bX5_doWith_292 hC  hI (lv_sub hl [] rfl) hf
set_option maxRecDepth 20000 in
theorem cX5_doWith_met (st : Nat → Nat) (l : Launch) (D : va_G) (ad : Nat → Nat) (cy : Nat → ClassId) (σ : zSt) (x1 : Int32) (x2 : Int32) (res : zSt) (hf : fX5_doWith σ x1 x2 = some res) (sz : Nat) : zMu st l yX5_doWith wzX5_doWith rmX5_doWith [.ref (ad 7), .int x1, .int x2] D (tC cy) (wC ad cy) sz σ res :=
  zMu.of (cc := cX5_doWith) (maxL := 3) (ret := none) (by decide) rfl (Nat.le_of_ble_eq_true rfl) (fun p e s m args below meth c hC A hI ls hl => bX5_doWith hC hI hl hf)
theorem hdX5_doWith : yX5_doWith.cls = RX5 ∧ yX5_doWith.cls ≠ "java/lang/invoke/MethodHandle" ∧ yX5_doWith.cls ≠ "java/lang/invoke/VarHandle" ∧ (parseMethodDescriptor yX5_doWith.desc).map (fun d => d.parameters.length) = some 2 := by decide +kernel
noncomputable def rmX5_callIf : Room := { frames := 3, cells := 0, slots := 0, locals := 68 }
noncomputable def wzX5_callIf : List Cond := .code yX5_callIf cX5_callIf 3 (some .int) :: wsL_law
theorem hinX5_callIf_X50 : ∀ w ∈ wsX50, w ∈ wzX5_callIf := fun w h => List.mem_cons_of_mem _ (inlX5 w h)
noncomputable def fX5_callIf  (σ : zSt) (x1 : Int32) : Option (zSt × Int32) :=
  zbi (fX5_fetchWord σ ) (fun σ1 v2 =>
  zck (zin 20 29) (zbv (zsi σ1 36 ((20 : Int32).toNatClampNeg) v2) (fun σ3 =>
  if x1 = 0 then some (σ3, 10) else
  zck (zin 19 29) (
  zbu (fX5_push σ3 (zgi σ3 36 (19 : Int32).toNatClampNeg)) (fun σ4 =>
  zck (zin 19 29) (zbv (zsi σ4 36 ((19 : Int32).toNatClampNeg) v2) (fun σ5 =>
  some (σ5, 17))))))))
set_option maxRecDepth 20000 in
set_option maxHeartbeats 4000000 in
theorem bX5_callIf {st : Nat → Nat} {p : Program} {l : Launch} {e : Env} {s : State} {m : MethodId} {args : Array Value} {below : List Frame} {meth : Method} {c : Code} {D : va_G} {A : Nat → Prop} {ad : Nat → Nat} {cy : Nat → ClassId} (hC : zC p m c cX5_callIf 3 s args wzX5_callIf RX5 meth (some .int))  {res : zSt × Int32} {H : Heap} {locs : List Loc} {σ : zSt} {ls : Array Slot} {x1 : Int32} (hI : zI st D (tC cy) (wC ad cy σ) A s H locs) (hl : lv_has ls 3 [(0, .ref (ad 7)), (1, .int x1)]) (hf : fX5_callIf  σ x1 = some res) : W p l e rmX5_callIf s m args below meth c H locs 0 0 (zQi below args s D (tC cy) (wC ad cy) A res) (F0 m 0 ls []) := by
  have hx := hC.1
  have hb := hC.2.1
  unfold fX5_callIf at hf
  refine lv_aload_n hx hb dX5_callIf_0 rfl (lv_at hl 0 rfl) ?_
  obtain ⟨σ1, v2, g1, hf⟩ := zbi_use hf
  refine z_callVi (As := []) (rest := []) hC hI (cX5_fetchWord_met st l D ad cy σ  _ g1) (zgV zw30_15 zw30_16 zw30_17 zw2_21 zw30_18) rfl ⟨rfl, rfl⟩ 0 hdX5_fetchWord ⟨Nat.le_of_ble_eq_true rfl, Nat.le_of_ble_eq_true rfl⟩ rfl rfl (wC_e7 ad cy σ) rfl hl rfl (Nat.le_of_ble_eq_true rfl) dX5_callIf_1 ⟨Nat.zero_le _, Nat.zero_le _⟩ (fun H locs hI => ?_)
  refine lv_istore_n (lv' := [(2, .int v2), (0, .ref (ad 7)), (1, .int x1)]) hx hb dX5_callIf_4 rfl hl (by decide) rfl (fun ls hl => ?_)
  refine lv_aload_n hx hb dX5_callIf_5 rfl (lv_at hl 1 rfl) ?_
  refine z_get hC hI hinX5_callIf_X50 7 (wC_e7 ad cy σ1) rfl 2 (by decide) (List.mem_cons_of_mem _ zw7_5) rfl dX5_callIf_6 ?_
  refine lv_bipush (v := 20) hx hb dX5_callIf_9 (by decide) ?_
  refine lv_iload_n hx hb dX5_callIf_11 rfl (lv_at hl 0 rfl) ?_
  obtain ⟨q, hf⟩ := zck_use hf
  obtain ⟨σ3, eσ3⟩ : ∃ z, z = zsi σ1 36 ((20 : Int32).toNatClampNeg) v2 := ⟨_, rfl⟩
  replace hf := zbv_use eσ3 hf
  refine z_iast hC hI 36 23 (wC_e36 ad cy σ1) (tC_t36 cy) q ((wC_s36 ad cy σ1 _ _).trans (congrArg (wC ad cy) eσ3.symm)) dX5_callIf_12 (fun H locs hI => ?_)
  refine lv_iload_n hx hb dX5_callIf_13 rfl (lv_at hl 2 rfl) ?_
  refine lv_if_ne (tgt := 20) hx hb dX5_callIf_14 (by decide) (fun q => ?_) (fun q => ?_)
  · replace hf := zif_f q hf
    refine lv_aload_n hx hb dX5_callIf_20 rfl (lv_at hl 1 rfl) ?_
    refine lv_aload_n hx hb dX5_callIf_21 rfl (lv_at hl 1 rfl) ?_
    refine z_get hC hI hinX5_callIf_X50 7 (wC_e7 ad cy σ3) rfl 2 (by decide) (List.mem_cons_of_mem _ zw7_5) rfl dX5_callIf_22 ?_
    refine lv_bipush (v := 19) hx hb dX5_callIf_25 (by decide) ?_
    obtain ⟨q, hf⟩ := zck_use hf
    refine z_iald hC hI 36 23 (wC_e36 ad cy σ3) (tC_t36 cy) q dX5_callIf_27 ?_
    obtain ⟨σ4, g4, hf⟩ := zbu_use hf
    refine z_callVu (As := [.int (zgi σ3 36 (19 : Int32).toNatClampNeg)]) (rest := []) hC hI (cX5_push_met st l D ad cy σ3 (zgi σ3 36 (19 : Int32).toNatClampNeg) _ g4) (zgV zw20_2 zw20_3 zw20_4 zw2_21 zw20_5) rfl ⟨rfl, rfl⟩ 1 hdX5_push ⟨Nat.le_of_ble_eq_true rfl, Nat.le_of_ble_eq_true rfl⟩ rfl rfl (wC_e7 ad cy σ3) rfl hl rfl (Nat.le_of_ble_eq_true rfl) dX5_callIf_28 ⟨Nat.zero_le _, Nat.zero_le _⟩ (fun H locs hI => ?_)
    refine lv_aload_n hx hb dX5_callIf_31 rfl (lv_at hl 1 rfl) ?_
    refine z_get hC hI hinX5_callIf_X50 7 (wC_e7 ad cy σ4) rfl 2 (by decide) (List.mem_cons_of_mem _ zw7_5) rfl dX5_callIf_32 ?_
    refine lv_bipush (v := 19) hx hb dX5_callIf_35 (by decide) ?_
    refine lv_iload_n hx hb dX5_callIf_37 rfl (lv_at hl 0 rfl) ?_
    obtain ⟨q, hf⟩ := zck_use hf
    obtain ⟨σ5, eσ5⟩ : ∃ z, z = zsi σ4 36 ((19 : Int32).toNatClampNeg) v2 := ⟨_, rfl⟩
    replace hf := zbv_use eσ5 hf
    refine z_iast hC hI 36 23 (wC_e36 ad cy σ4) (tC_t36 cy) q ((wC_s36 ad cy σ4 _ _).trans (congrArg (wC ad cy) eσ5.symm)) dX5_callIf_38 (fun H locs hI => ?_)
    refine lv_bipush (v := 17) hx hb dX5_callIf_39 (by decide) ?_
    exact z_ireturn hC hI hf dX5_callIf_41
  replace hf := zif_t q hf
  refine lv_bipush (v := 10) hx hb dX5_callIf_17 (by decide) ?_
  exact z_ireturn hC hI hf dX5_callIf_19
set_option maxRecDepth 20000 in
theorem cX5_callIf_met (st : Nat → Nat) (l : Launch) (D : va_G) (ad : Nat → Nat) (cy : Nat → ClassId) (σ : zSt) (x1 : Int32) (res : zSt × Int32) (hf : fX5_callIf σ x1 = some res) (sz : Nat) : zMi st l yX5_callIf wzX5_callIf rmX5_callIf [.ref (ad 7), .int x1] D (tC cy) (wC ad cy) sz σ res :=
  zMi.of (cc := cX5_callIf) (maxL := 3) (ret := (some .int)) (by decide) rfl (Nat.le_of_ble_eq_true rfl) (fun p e s m args below meth c hC A hI ls hl => bX5_callIf hC hI hl hf)
theorem hdX5_callIf : yX5_callIf.cls = RX5 ∧ yX5_callIf.cls ≠ "java/lang/invoke/MethodHandle" ∧ yX5_callIf.cls ≠ "java/lang/invoke/VarHandle" ∧ (parseMethodDescriptor yX5_callIf.desc).map (fun d => d.parameters.length) = some 1 := by decide +kernel
noncomputable def rmX5_holds : Room := { frames := 0, cells := 0, slots := 0, locals := 0 }
noncomputable def wzX5_holds : List Cond := .code yX5_holds cX5_holds 2 (some .boolean) :: wsL_law
theorem hinX5_holds_X50 : ∀ w ∈ wsX50, w ∈ wzX5_holds := fun w h => List.mem_cons_of_mem _ (inlX5 w h)
noncomputable def fX5_holds_44  (σ : zSt) (s0 : Int32) : Option (zSt × Int32) :=
  zck (zbo s0) (some (σ, s0))
noncomputable def fX5_holds_36  (σ : zSt) (s0 : Int32) (s1 : Int32) : Option (zSt × Int32) :=
  if s1 = s0 then fX5_holds_44 σ 1 else
  fX5_holds_44 σ 0
noncomputable def fX5_holds_24  (σ : zSt) (x1 : Int32) (s0 : Int32) : Option (zSt × Int32) :=
  if (x1 &&& 1) = 1 then fX5_holds_36 σ 1 s0 else
  fX5_holds_36 σ 0 s0
noncomputable def fX5_holds  (σ : zSt) (x1 : Int32) : Option (zSt × Int32) :=
  zck (zin 1 29) (
  zck (zin ((x1 >>> ((1 : Int32) &&& 31)) &&& 3) 4) (
  if ((zgi σ 36 (1 : Int32).toNatClampNeg) &&& (zt2 ((x1 >>> ((1 : Int32) &&& 31)) &&& 3).toNatClampNeg)) = 0 then fX5_holds_24 σ x1 0 else
  fX5_holds_24 σ x1 1))
set_option maxRecDepth 20000 in
set_option maxHeartbeats 4000000 in
theorem bX5_holds_44 {st : Nat → Nat} {p : Program} {l : Launch} {e : Env} {s : State} {m : MethodId} {args : Array Value} {below : List Frame} {meth : Method} {c : Code} {D : va_G} {A : Nat → Prop} {ad : Nat → Nat} {cy : Nat → ClassId} (hC : zC p m c cX5_holds 2 s args wzX5_holds RX5 meth (some .boolean))  {res : zSt × Int32} {H : Heap} {locs : List Loc} {σ : zSt} {ls : Array Slot} {s0 : Int32} (hI : zI st D (tC cy) (wC ad cy σ) A s H locs) (hl : lv_has ls 2 []) (hf : fX5_holds_44  σ s0 = some res) : W p l e rmX5_holds s m args below meth c H locs 0 0 (zQi below args s D (tC cy) (wC ad cy) A res) (F0 m 44 ls [.int s0]) := by
  have hx := hC.1
  have hb := hC.2.1
  unfold fX5_holds_44 at hf
  obtain ⟨q, hf⟩ := zck_use hf
  exact z_zreturn hC hI (zbo_n q) hf dX5_holds_44
set_option maxRecDepth 20000 in
set_option maxHeartbeats 4000000 in
theorem bX5_holds_36 {st : Nat → Nat} {p : Program} {l : Launch} {e : Env} {s : State} {m : MethodId} {args : Array Value} {below : List Frame} {meth : Method} {c : Code} {D : va_G} {A : Nat → Prop} {ad : Nat → Nat} {cy : Nat → ClassId} (hC : zC p m c cX5_holds 2 s args wzX5_holds RX5 meth (some .boolean))  {res : zSt × Int32} {H : Heap} {locs : List Loc} {σ : zSt} {ls : Array Slot} {s0 : Int32} {s1 : Int32} (hI : zI st D (tC cy) (wC ad cy σ) A s H locs) (hl : lv_has ls 2 []) (hf : fX5_holds_36  σ s0 s1 = some res) : W p l e rmX5_holds s m args below meth c H locs 0 0 (zQi below args s D (tC cy) (wC ad cy) A res) (F0 m 36 ls [.int s0, .int s1]) := by
  have hx := hC.1
  have hb := hC.2.1
  unfold fX5_holds_36 at hf
  refine lv_icmp_ne (tgt := 43) hx hb dX5_holds_36 (by decide) (fun q => ?_) (fun q => ?_)
  · replace hf := zif_f q hf
    refine lv_iconst (v := 0) hx hb dX5_holds_43 (by decide) ?_
    exact bX5_holds_44 hC  hI hl hf
  replace hf := zif_t q hf
  refine lv_iconst (v := 1) hx hb dX5_holds_39 (by decide) ?_
  refine lv_goto (tgt := 44) hx hb dX5_holds_40 (by decide) ?_
  exact bX5_holds_44 hC  hI hl hf
set_option maxRecDepth 20000 in
set_option maxHeartbeats 4000000 in
theorem bX5_holds_24 {st : Nat → Nat} {p : Program} {l : Launch} {e : Env} {s : State} {m : MethodId} {args : Array Value} {below : List Frame} {meth : Method} {c : Code} {D : va_G} {A : Nat → Prop} {ad : Nat → Nat} {cy : Nat → ClassId} (hC : zC p m c cX5_holds 2 s args wzX5_holds RX5 meth (some .boolean))  {res : zSt × Int32} {H : Heap} {locs : List Loc} {σ : zSt} {ls : Array Slot} {x1 : Int32} {s0 : Int32} (hI : zI st D (tC cy) (wC ad cy σ) A s H locs) (hl : lv_has ls 2 [(1, .int x1)]) (hf : fX5_holds_24  σ x1 s0 = some res) : W p l e rmX5_holds s m args below meth c H locs 0 0 (zQi below args s D (tC cy) (wC ad cy) A res) (F0 m 24 ls [.int s0]) := by
  have hx := hC.1
  have hb := hC.2.1
  unfold fX5_holds_24 at hf
  refine lv_iload_n hx hb dX5_holds_24 rfl (lv_at hl 0 rfl) ?_
  refine lv_iconst (v := 1) hx hb dX5_holds_25 (by decide) ?_
  refine lv_iand hx hb dX5_holds_26 ?_
  refine lv_iconst (v := 1) hx hb dX5_holds_27 (by decide) ?_
  refine lv_icmp_ne (tgt := 35) hx hb dX5_holds_28 (by decide) (fun q => ?_) (fun q => ?_)
  · replace hf := zif_f q hf
    refine lv_iconst (v := 0) hx hb dX5_holds_35 (by decide) ?_
    exact bX5_holds_36 hC  hI (lv_sub hl [] rfl) hf
  replace hf := zif_t q hf
  refine lv_iconst (v := 1) hx hb dX5_holds_31 (by decide) ?_
  refine lv_goto (tgt := 36) hx hb dX5_holds_32 (by decide) ?_
  exact bX5_holds_36 hC  hI (lv_sub hl [] rfl) hf
set_option maxRecDepth 20000 in
set_option maxHeartbeats 4000000 in
theorem bX5_holds {st : Nat → Nat} {p : Program} {l : Launch} {e : Env} {s : State} {m : MethodId} {args : Array Value} {below : List Frame} {meth : Method} {c : Code} {D : va_G} {A : Nat → Prop} {ad : Nat → Nat} {cy : Nat → ClassId} (hC : zC p m c cX5_holds 2 s args wzX5_holds RX5 meth (some .boolean))  {res : zSt × Int32} {H : Heap} {locs : List Loc} {σ : zSt} {ls : Array Slot} {x1 : Int32} (hI : zI st D (tC cy) (wC ad cy σ) A s H locs) (hl : lv_has ls 2 [(0, .ref (ad 7)), (1, .int x1)]) (hf : fX5_holds  σ x1 = some res) : W p l e rmX5_holds s m args below meth c H locs 0 0 (zQi below args s D (tC cy) (wC ad cy) A res) (F0 m 0 ls []) := by
  have hx := hC.1
  have hb := hC.2.1
  unfold fX5_holds at hf
  refine lv_aload_n hx hb dX5_holds_0 rfl (lv_at hl 0 rfl) ?_
  refine z_get hC hI hinX5_holds_X50 7 (wC_e7 ad cy σ) rfl 2 (by decide) (List.mem_cons_of_mem _ zw7_5) rfl dX5_holds_1 ?_
  refine lv_iconst (v := 1) hx hb dX5_holds_4 (by decide) ?_
  obtain ⟨q, hf⟩ := zck_use hf
  refine z_iald hC hI 36 23 (wC_e36 ad cy σ) (tC_t36 cy) q dX5_holds_5 ?_
  refine z_gets hC hI 2 (by decide) (List.mem_cons_of_mem _ zw32_11) dX5_holds_6 ?_
  refine lv_iload_n hx hb dX5_holds_9 rfl (lv_at hl 1 rfl) ?_
  refine lv_iconst (v := 1) hx hb dX5_holds_10 (by decide) ?_
  refine lv_ishr hx hb dX5_holds_11 ?_
  refine lv_iconst (v := 3) hx hb dX5_holds_12 (by decide) ?_
  refine lv_iand hx hb dX5_holds_13 ?_
  obtain ⟨q, hf⟩ := zck_use hf
  refine z_ti hC hI 2 (by decide) rfl rfl q rfl dX5_holds_14 ?_
  refine lv_iand hx hb dX5_holds_15 ?_
  refine lv_if_eq (tgt := 23) hx hb dX5_holds_16 (by decide) (fun q => ?_) (fun q => ?_)
  · replace hf := zif_t q hf
    refine lv_iconst (v := 0) hx hb dX5_holds_23 (by decide) ?_
    exact bX5_holds_24 hC  hI (lv_sub hl [1] rfl) hf
  replace hf := zif_f q hf
  refine lv_iconst (v := 1) hx hb dX5_holds_19 (by decide) ?_
  refine lv_goto (tgt := 24) hx hb dX5_holds_20 (by decide) ?_
  exact bX5_holds_24 hC  hI (lv_sub hl [1] rfl) hf
set_option maxRecDepth 20000 in
theorem cX5_holds_met (st : Nat → Nat) (l : Launch) (D : va_G) (ad : Nat → Nat) (cy : Nat → ClassId) (σ : zSt) (x1 : Int32) (res : zSt × Int32) (hf : fX5_holds σ x1 = some res) (sz : Nat) : zMi st l yX5_holds wzX5_holds rmX5_holds [.ref (ad 7), .int x1] D (tC cy) (wC ad cy) sz σ res :=
  zMi.of (cc := cX5_holds) (maxL := 2) (ret := (some .boolean)) (by decide) rfl (Nat.le_of_ble_eq_true rfl) (fun p e s m args below meth c hC A hI ls hl => bX5_holds hC hI hl hf)
theorem hdX5_holds : yX5_holds.cls = RX5 ∧ yX5_holds.cls ≠ "java/lang/invoke/MethodHandle" ∧ yX5_holds.cls ≠ "java/lang/invoke/VarHandle" ∧ (parseMethodDescriptor yX5_holds.desc).map (fun d => d.parameters.length) = some 1 := by decide +kernel
noncomputable def rmX5_popPair : Room := { frames := 3, cells := 0, slots := 0, locals := 68 }
noncomputable def wzX5_popPair : List Cond := .code yX5_popPair cX5_popPair 3 (some .int) :: wsL_law
noncomputable def fX5_popPair_25  (σ : zSt)  : Option (zSt × Int32) :=
  some (σ, 10)
noncomputable def fX5_popPair  (σ : zSt) (x1 : Int32) : Option (zSt × Int32) :=
  zbi (fX5_pop σ ) (fun σ1 v2 =>
  if x1 = 3 then zbu (fX5_putPairAt σ1 0 v2) (fun σ4 =>
  fX5_popPair_25 σ4) else
  zbu (fX5_putPair σ1 x1 v2) (fun σ3 =>
  fX5_popPair_25 σ3))
set_option maxRecDepth 20000 in
set_option maxHeartbeats 4000000 in
theorem bX5_popPair_25 {st : Nat → Nat} {p : Program} {l : Launch} {e : Env} {s : State} {m : MethodId} {args : Array Value} {below : List Frame} {meth : Method} {c : Code} {D : va_G} {A : Nat → Prop} {ad : Nat → Nat} {cy : Nat → ClassId} (hC : zC p m c cX5_popPair 3 s args wzX5_popPair RX5 meth (some .int))  {res : zSt × Int32} {H : Heap} {locs : List Loc} {σ : zSt} {ls : Array Slot}  (hI : zI st D (tC cy) (wC ad cy σ) A s H locs) (hl : lv_has ls 3 []) (hf : fX5_popPair_25  σ  = some res) : W p l e rmX5_popPair s m args below meth c H locs 0 0 (zQi below args s D (tC cy) (wC ad cy) A res) (F0 m 25 ls []) := by
  have hx := hC.1
  have hb := hC.2.1
  unfold fX5_popPair_25 at hf
  refine lv_bipush (v := 10) hx hb dX5_popPair_25 (by decide) ?_
  exact z_ireturn hC hI hf dX5_popPair_27
set_option maxRecDepth 20000 in
set_option maxHeartbeats 4000000 in
theorem bX5_popPair {st : Nat → Nat} {p : Program} {l : Launch} {e : Env} {s : State} {m : MethodId} {args : Array Value} {below : List Frame} {meth : Method} {c : Code} {D : va_G} {A : Nat → Prop} {ad : Nat → Nat} {cy : Nat → ClassId} (hC : zC p m c cX5_popPair 3 s args wzX5_popPair RX5 meth (some .int))  {res : zSt × Int32} {H : Heap} {locs : List Loc} {σ : zSt} {ls : Array Slot} {x1 : Int32} (hI : zI st D (tC cy) (wC ad cy σ) A s H locs) (hl : lv_has ls 3 [(0, .ref (ad 7)), (1, .int x1)]) (hf : fX5_popPair  σ x1 = some res) : W p l e rmX5_popPair s m args below meth c H locs 0 0 (zQi below args s D (tC cy) (wC ad cy) A res) (F0 m 0 ls []) := by
  have hx := hC.1
  have hb := hC.2.1
  unfold fX5_popPair at hf
  refine lv_aload_n hx hb dX5_popPair_0 rfl (lv_at hl 0 rfl) ?_
  obtain ⟨σ1, v2, g1, hf⟩ := zbi_use hf
  refine z_callVi (As := []) (rest := []) hC hI (cX5_pop_met st l D ad cy σ  _ g1) (zgV zw31_7 zw31_8 zw31_9 zw2_21 zw31_10) rfl ⟨rfl, rfl⟩ 0 hdX5_pop ⟨Nat.le_of_ble_eq_true rfl, Nat.le_of_ble_eq_true rfl⟩ rfl rfl (wC_e7 ad cy σ) rfl hl rfl (Nat.le_of_ble_eq_true rfl) dX5_popPair_1 ⟨Nat.zero_le _, Nat.zero_le _⟩ (fun H locs hI => ?_)
  refine lv_istore_n (lv' := [(2, .int v2), (0, .ref (ad 7)), (1, .int x1)]) hx hb dX5_popPair_4 rfl hl (by decide) rfl (fun ls hl => ?_)
  refine lv_iload_n hx hb dX5_popPair_5 rfl (lv_at hl 2 rfl) ?_
  refine lv_iconst (v := 3) hx hb dX5_popPair_6 (by decide) ?_
  refine lv_icmp_ne (tgt := 19) hx hb dX5_popPair_7 (by decide) (fun q => ?_) (fun q => ?_)
  · replace hf := zif_f q hf
    refine lv_aload_n hx hb dX5_popPair_19 rfl (lv_at hl 1 rfl) ?_
    refine lv_iload_n hx hb dX5_popPair_20 rfl (lv_at hl 2 rfl) ?_
    refine lv_iload_n hx hb dX5_popPair_21 rfl (lv_at hl 0 rfl) ?_
    obtain ⟨σ3, g3, hf⟩ := zbu_use hf
    refine z_callVu (As := [.int x1, .int v2]) (rest := []) hC hI (cX5_putPair_met st l D ad cy σ1 x1 v2 _ g3) (zgV zw30_23 zw31_0 zw31_1 zw2_21 zw31_2) rfl ⟨rfl, rfl⟩ 2 hdX5_putPair ⟨Nat.le_of_ble_eq_true rfl, Nat.le_of_ble_eq_true rfl⟩ rfl rfl (wC_e7 ad cy σ1) rfl hl rfl (Nat.le_of_ble_eq_true rfl) dX5_popPair_22 ⟨Nat.zero_le _, Nat.zero_le _⟩ (fun H locs hI => ?_)
    exact bX5_popPair_25 hC  hI (lv_sub hl [] rfl) hf
  replace hf := zif_t q hf
  refine lv_aload_n hx hb dX5_popPair_10 rfl (lv_at hl 1 rfl) ?_
  refine lv_iconst (v := 0) hx hb dX5_popPair_11 (by decide) ?_
  refine lv_iload_n hx hb dX5_popPair_12 rfl (lv_at hl 0 rfl) ?_
  obtain ⟨σ4, g4, hf⟩ := zbu_use hf
  refine z_callVu (As := [.int 0, .int v2]) (rest := []) hC hI (cX5_putPairAt_met st l D ad cy σ1 0 v2 _ g4) (zgV zw24_16 zw24_17 zw24_18 zw2_21 zw24_19) rfl ⟨rfl, rfl⟩ 2 hdX5_putPairAt ⟨Nat.le_of_ble_eq_true rfl, Nat.le_of_ble_eq_true rfl⟩ rfl rfl (wC_e7 ad cy σ1) rfl hl rfl (Nat.le_of_ble_eq_true rfl) dX5_popPair_13 ⟨Nat.zero_le _, Nat.zero_le _⟩ (fun H locs hI => ?_)
  refine lv_goto (tgt := 25) hx hb dX5_popPair_16 (by decide) ?_
  exact bX5_popPair_25 hC  hI (lv_sub hl [] rfl) hf
set_option maxRecDepth 20000 in
theorem cX5_popPair_met (st : Nat → Nat) (l : Launch) (D : va_G) (ad : Nat → Nat) (cy : Nat → ClassId) (σ : zSt) (x1 : Int32) (res : zSt × Int32) (hf : fX5_popPair σ x1 = some res) (sz : Nat) : zMi st l yX5_popPair wzX5_popPair rmX5_popPair [.ref (ad 7), .int x1] D (tC cy) (wC ad cy) sz σ res :=
  zMi.of (cc := cX5_popPair) (maxL := 3) (ret := (some .int)) (by decide) rfl (Nat.le_of_ble_eq_true rfl) (fun p e s m args below meth c hC A hI ls hl => bX5_popPair hC hI hl hf)
theorem hdX5_popPair : yX5_popPair.cls = RX5 ∧ yX5_popPair.cls ≠ "java/lang/invoke/MethodHandle" ∧ yX5_popPair.cls ≠ "java/lang/invoke/VarHandle" ∧ (parseMethodDescriptor yX5_popPair.desc).map (fun d => d.parameters.length) = some 1 := by decide +kernel
noncomputable def rmX5_changeWithOther : Room := { frames := 0, cells := 0, slots := 0, locals := 0 }
noncomputable def wzX5_changeWithOther : List Cond := .code yX5_changeWithOther cX5_changeWithOther 3 none :: wsL_law
theorem hinX5_changeWithOther_X50 : ∀ w ∈ wsX50, w ∈ wzX5_changeWithOther := fun w h => List.mem_cons_of_mem _ (inlX5 w h)
noncomputable def fX5_changeWithOther  (σ : zSt) (x1 : Int32) : Option (zSt) :=
  zck (zin x1 29) (
  zbv (zgi σ 36 x1.toNatClampNeg) (fun v1 =>
  zck (zin (x1 + 8) 29) (
  zck (zin x1 29) (zbv (zsi σ 36 (x1.toNatClampNeg) (zgi σ 36 (x1 + 8).toNatClampNeg)) (fun σ2 =>
  zck (zin (x1 + 8) 29) (zbv (zsi σ2 36 ((x1 + 8).toNatClampNeg) v1) (fun σ3 =>
  some σ3)))))))
set_option maxRecDepth 20000 in
set_option maxHeartbeats 4000000 in
theorem bX5_changeWithOther {st : Nat → Nat} {p : Program} {l : Launch} {e : Env} {s : State} {m : MethodId} {args : Array Value} {below : List Frame} {meth : Method} {c : Code} {D : va_G} {A : Nat → Prop} {ad : Nat → Nat} {cy : Nat → ClassId} (hC : zC p m c cX5_changeWithOther 3 s args wzX5_changeWithOther RX5 meth none)  {res : zSt} {H : Heap} {locs : List Loc} {σ : zSt} {ls : Array Slot} {x1 : Int32} (hI : zI st D (tC cy) (wC ad cy σ) A s H locs) (hl : lv_has ls 3 [(0, .ref (ad 7)), (1, .int x1)]) (hf : fX5_changeWithOther  σ x1 = some res) : W p l e rmX5_changeWithOther s m args below meth c H locs 0 0 (zQu below args s D (tC cy) (wC ad cy) A res) (F0 m 0 ls []) := by
  have hx := hC.1
  have hb := hC.2.1
  unfold fX5_changeWithOther at hf
  refine lv_aload_n hx hb dX5_changeWithOther_0 rfl (lv_at hl 0 rfl) ?_
  refine z_get hC hI hinX5_changeWithOther_X50 7 (wC_e7 ad cy σ) rfl 2 (by decide) (List.mem_cons_of_mem _ zw7_5) rfl dX5_changeWithOther_1 ?_
  refine lv_iload_n hx hb dX5_changeWithOther_4 rfl (lv_at hl 1 rfl) ?_
  obtain ⟨q, hf⟩ := zck_use hf
  refine z_iald hC hI 36 23 (wC_e36 ad cy σ) (tC_t36 cy) q dX5_changeWithOther_5 ?_
  refine lv_topi (fun v1 ev1 => ?_)
  replace hf := zbv_use ev1 hf
  refine lv_istore_n (lv' := [(2, .int v1), (0, .ref (ad 7)), (1, .int x1)]) hx hb dX5_changeWithOther_6 rfl hl (by decide) rfl (fun ls hl => ?_)
  refine lv_aload_n hx hb dX5_changeWithOther_7 rfl (lv_at hl 1 rfl) ?_
  refine z_get hC hI hinX5_changeWithOther_X50 7 (wC_e7 ad cy σ) rfl 2 (by decide) (List.mem_cons_of_mem _ zw7_5) rfl dX5_changeWithOther_8 ?_
  refine lv_iload_n hx hb dX5_changeWithOther_11 rfl (lv_at hl 2 rfl) ?_
  refine lv_aload_n hx hb dX5_changeWithOther_12 rfl (lv_at hl 1 rfl) ?_
  refine z_get hC hI hinX5_changeWithOther_X50 7 (wC_e7 ad cy σ) rfl 2 (by decide) (List.mem_cons_of_mem _ zw7_5) rfl dX5_changeWithOther_13 ?_
  refine lv_iload_n hx hb dX5_changeWithOther_16 rfl (lv_at hl 2 rfl) ?_
  refine lv_bipush (v := 8) hx hb dX5_changeWithOther_17 (by decide) ?_
  refine lv_iadd hx hb dX5_changeWithOther_19 ?_
  obtain ⟨q, hf⟩ := zck_use hf
  refine z_iald hC hI 36 23 (wC_e36 ad cy σ) (tC_t36 cy) q dX5_changeWithOther_20 ?_
  obtain ⟨q, hf⟩ := zck_use hf
  obtain ⟨σ2, eσ2⟩ : ∃ z, z = zsi σ 36 (x1.toNatClampNeg) (zgi σ 36 (x1 + 8).toNatClampNeg) := ⟨_, rfl⟩
  replace hf := zbv_use eσ2 hf
  refine z_iast hC hI 36 23 (wC_e36 ad cy σ) (tC_t36 cy) q ((wC_s36 ad cy σ _ _).trans (congrArg (wC ad cy) eσ2.symm)) dX5_changeWithOther_21 (fun H locs hI => ?_)
  refine lv_aload_n hx hb dX5_changeWithOther_22 rfl (lv_at hl 1 rfl) ?_
  refine z_get hC hI hinX5_changeWithOther_X50 7 (wC_e7 ad cy σ2) rfl 2 (by decide) (List.mem_cons_of_mem _ zw7_5) rfl dX5_changeWithOther_23 ?_
  refine lv_iload_n hx hb dX5_changeWithOther_26 rfl (lv_at hl 2 rfl) ?_
  refine lv_bipush (v := 8) hx hb dX5_changeWithOther_27 (by decide) ?_
  refine lv_iadd hx hb dX5_changeWithOther_29 ?_
  refine lv_iload_n hx hb dX5_changeWithOther_30 rfl (lv_at hl 0 rfl) ?_
  obtain ⟨q, hf⟩ := zck_use hf
  obtain ⟨σ3, eσ3⟩ : ∃ z, z = zsi σ2 36 ((x1 + 8).toNatClampNeg) v1 := ⟨_, rfl⟩
  replace hf := zbv_use eσ3 hf
  refine z_iast hC hI 36 23 (wC_e36 ad cy σ2) (tC_t36 cy) q ((wC_s36 ad cy σ2 _ _).trans (congrArg (wC ad cy) eσ3.symm)) dX5_changeWithOther_31 (fun H locs hI => ?_)
  exact z_return hC hI hf dX5_changeWithOther_32
set_option maxRecDepth 20000 in
theorem cX5_changeWithOther_met (st : Nat → Nat) (l : Launch) (D : va_G) (ad : Nat → Nat) (cy : Nat → ClassId) (σ : zSt) (x1 : Int32) (res : zSt) (hf : fX5_changeWithOther σ x1 = some res) (sz : Nat) : zMu st l yX5_changeWithOther wzX5_changeWithOther rmX5_changeWithOther [.ref (ad 7), .int x1] D (tC cy) (wC ad cy) sz σ res :=
  zMu.of (cc := cX5_changeWithOther) (maxL := 3) (ret := none) (by decide) rfl (Nat.le_of_ble_eq_true rfl) (fun p e s m args below meth c hC A hI ls hl => bX5_changeWithOther hC hI hl hf)
theorem hdX5_changeWithOther : yX5_changeWithOther.cls = RX5 ∧ yX5_changeWithOther.cls ≠ "java/lang/invoke/MethodHandle" ∧ yX5_changeWithOther.cls ≠ "java/lang/invoke/VarHandle" ∧ (parseMethodDescriptor yX5_changeWithOther.desc).map (fun d => d.parameters.length) = some 1 := by decide +kernel
noncomputable def rmX5_leave : Room := { frames := 3, cells := 0, slots := 0, locals := 68 }
noncomputable def wzX5_leave : List Cond := .code yX5_leave cX5_leave 3 (some .int) :: wsL_law
theorem hinX5_leave_X50 : ∀ w ∈ wsX50, w ∈ wzX5_leave := fun w h => List.mem_cons_of_mem _ (inlX5 w h)
noncomputable def fX5_leave_41_body (k41 : zSt → Int32 → Option (zSt × Int32)) (σ : zSt) (x2 : Int32) : Option (zSt × Int32) :=
  if 7 < x2 then some (σ, 4) else
  zbu (fX5_changeWithOther σ x2) (fun σ1 =>
  zbv (x2 + 1) (fun v2 =>
  k41 σ1 v2))
noncomputable def fX5_leave_41  : Nat → zSt → Int32 → Option (zSt × Int32)
  | 0, _, _ => none
  | n + 1, σ, x2 => fX5_leave_41_body (fX5_leave_41  n) σ x2
noncomputable def fX5_leave  (σ : zSt) (x1 : Int32) : Option (zSt × Int32) :=
  if x1 = 0 then zbi (fX5_pop σ ) (fun σ3 v4 =>
  zbu (fX5_goTo σ3 v4) (fun σ5 =>
  some (σ5, 10))) else
  if x1 = 1 then fX5_leave_41 zfuel σ 2 else
  if x1 = 2 then zbi (fX5_hl σ ) (fun σ6 v7 =>
  zck (zin 19 29) (zbv (zsi σ6 36 ((19 : Int32).toNatClampNeg) v7) (fun σ8 =>
  some (σ8, 4)))) else
  zbi (fX5_hl σ ) (fun σ9 v10 =>
  zck (zin 18 29) (zbv (zsi σ9 36 ((18 : Int32).toNatClampNeg) v10) (fun σ11 =>
  some (σ11, 6))))
set_option maxRecDepth 20000 in
set_option maxHeartbeats 4000000 in
theorem bX5_leave_41_body {st : Nat → Nat} {p : Program} {l : Launch} {e : Env} {s : State} {m : MethodId} {args : Array Value} {below : List Frame} {meth : Method} {c : Code} {D : va_G} {A : Nat → Prop} {ad : Nat → Nat} {cy : Nat → ClassId} (hC : zC p m c cX5_leave 3 s args wzX5_leave RX5 meth (some .int)) {k41 : zSt → Int32 → Option (zSt × Int32)} {res : zSt × Int32} (hk41 : ∀ (H : Heap) (locs : List Loc) (σ : zSt) (ls : Array Slot) (x2 : Int32), zI st D (tC cy) (wC ad cy σ) A s H locs → lv_has ls 3 [(0, .ref (ad 7)), (2, .int x2)] → k41 σ x2 = some res → W p l e rmX5_leave s m args below meth c H locs 0 0 (zQi below args s D (tC cy) (wC ad cy) A res) (F0 m 41 ls [])) {H : Heap} {locs : List Loc} {σ : zSt} {ls : Array Slot} {x2 : Int32} (hI : zI st D (tC cy) (wC ad cy σ) A s H locs) (hl : lv_has ls 3 [(0, .ref (ad 7)), (2, .int x2)]) (hf : fX5_leave_41_body k41 σ x2 = some res) : W p l e rmX5_leave s m args below meth c H locs 0 0 (zQi below args s D (tC cy) (wC ad cy) A res) (F0 m 41 ls []) := by
  have hx := hC.1
  have hb := hC.2.1
  unfold fX5_leave_41_body at hf
  refine lv_iload_n hx hb dX5_leave_41 rfl (lv_at hl 1 rfl) ?_
  refine lv_bipush (v := 7) hx hb dX5_leave_42 (by decide) ?_
  refine lv_icmp_gt (tgt := 58) hx hb dX5_leave_44 (by decide) (fun q => ?_) (fun q => ?_)
  · replace hf := zif_t q hf
    refine lv_iconst (v := 4) hx hb dX5_leave_58 (by decide) ?_
    exact z_ireturn hC hI hf dX5_leave_59
  replace hf := zif_f q hf
  refine lv_aload_n hx hb dX5_leave_47 rfl (lv_at hl 0 rfl) ?_
  refine lv_iload_n hx hb dX5_leave_48 rfl (lv_at hl 1 rfl) ?_
  obtain ⟨σ1, g1, hf⟩ := zbu_use hf
  refine z_callVu (As := [.int x2]) (rest := []) hC hI (cX5_changeWithOther_met st l D ad cy σ x2 _ g1) (zgV zw32_3 zw32_4 zw32_5 zw2_21 zw32_6) rfl ⟨rfl, rfl⟩ 1 hdX5_changeWithOther ⟨Nat.le_of_ble_eq_true rfl, Nat.le_of_ble_eq_true rfl⟩ rfl rfl (wC_e7 ad cy σ) rfl hl rfl (Nat.le_of_ble_eq_true rfl) dX5_leave_49 ⟨Nat.zero_le _, Nat.zero_le _⟩ (fun H locs hI => ?_)
  obtain ⟨v2, ev2⟩ : ∃ z : Int32, z = x2 + 1 := ⟨_, rfl⟩
  replace hf := zbv_use ev2 hf
  refine lv_iinc (v := v2) (lv' := [(2, .int v2), (0, .ref (ad 7))]) hx hb dX5_leave_52 hl (k := 1) rfl (by rw [ev2]; rfl) (by decide) rfl (fun ls hl => ?_)
  refine lv_goto (tgt := 41) hx hb dX5_leave_55 (by decide) ?_
  exact hk41 _ _ _ _ _ hI (lv_sub hl [1, 0] rfl) hf
theorem blX5_leave_41 {st : Nat → Nat} {p : Program} {l : Launch} {e : Env} {s : State} {m : MethodId} {args : Array Value} {below : List Frame} {meth : Method} {c : Code} {D : va_G} {A : Nat → Prop} {ad : Nat → Nat} {cy : Nat → ClassId} (hC : zC p m c cX5_leave 3 s args wzX5_leave RX5 meth (some .int))  {res : zSt × Int32} : ∀ (n : Nat) (H : Heap) (locs : List Loc) (σ : zSt) (ls : Array Slot) (x2 : Int32), zI st D (tC cy) (wC ad cy σ) A s H locs → lv_has ls 3 [(0, .ref (ad 7)), (2, .int x2)] → fX5_leave_41  n σ x2 = some res → W p l e rmX5_leave s m args below meth c H locs 0 0 (zQi below args s D (tC cy) (wC ad cy) A res) (F0 m 41 ls []) := by
  intro n
  induction n with
  | zero => intro H locs σ ls x2 hI hl hf; cases hf
  | succ n ih => intro H locs σ ls x2 hI hl hf; exact bX5_leave_41_body hC ih hI hl hf
set_option maxRecDepth 20000 in
set_option maxHeartbeats 4000000 in
theorem bX5_leave {st : Nat → Nat} {p : Program} {l : Launch} {e : Env} {s : State} {m : MethodId} {args : Array Value} {below : List Frame} {meth : Method} {c : Code} {D : va_G} {A : Nat → Prop} {ad : Nat → Nat} {cy : Nat → ClassId} (hC : zC p m c cX5_leave 3 s args wzX5_leave RX5 meth (some .int))  {res : zSt × Int32} {H : Heap} {locs : List Loc} {σ : zSt} {ls : Array Slot} {x1 : Int32} (hI : zI st D (tC cy) (wC ad cy σ) A s H locs) (hl : lv_has ls 3 [(0, .ref (ad 7)), (1, .int x1)]) (hf : fX5_leave  σ x1 = some res) : W p l e rmX5_leave s m args below meth c H locs 0 0 (zQi below args s D (tC cy) (wC ad cy) A res) (F0 m 0 ls []) := by
  have hx := hC.1
  have hb := hC.2.1
  unfold fX5_leave at hf
  refine lv_iload_n hx hb dX5_leave_0 rfl (lv_at hl 1 rfl) ?_
  by_cases q0 : x1 = 0
  · replace hf := zif_t q0 hf
    refine lv_tableIn (tgt := 28) hx hb dX5_leave_1 (by rw [q0]; decide) (by rw [q0]; decide) (by rw [q0]; rfl) (by decide) ?_
    refine lv_aload_n hx hb dX5_leave_28 rfl (lv_at hl 0 rfl) ?_
    refine lv_aload_n hx hb dX5_leave_29 rfl (lv_at hl 0 rfl) ?_
    obtain ⟨σ3, v4, g3, hf⟩ := zbi_use hf
    refine z_callVi (As := []) (rest := [.ref (ad 7)]) hC hI (cX5_pop_met st l D ad cy σ  _ g3) (zgV zw31_7 zw31_8 zw31_9 zw2_21 zw31_10) rfl ⟨rfl, rfl⟩ 0 hdX5_pop ⟨Nat.le_of_ble_eq_true rfl, Nat.le_of_ble_eq_true rfl⟩ rfl rfl (wC_e7 ad cy σ) rfl hl rfl (Nat.le_of_ble_eq_true rfl) dX5_leave_30 ⟨Nat.zero_le _, Nat.zero_le _⟩ (fun H locs hI => ?_)
    obtain ⟨σ5, g5, hf⟩ := zbu_use hf
    refine z_callVu (As := [.int v4]) (rest := []) hC hI (cX5_goTo_met st l D ad cy σ3 v4 _ g5) (zgV zw20_22 zw20_23 zw21_0 zw2_21 zw21_1) rfl ⟨rfl, rfl⟩ 1 hdX5_goTo ⟨Nat.le_of_ble_eq_true rfl, Nat.le_of_ble_eq_true rfl⟩ rfl rfl (wC_e7 ad cy σ3) rfl hl rfl (Nat.le_of_ble_eq_true rfl) dX5_leave_33 ⟨Nat.zero_le _, Nat.zero_le _⟩ (fun H locs hI => ?_)
    refine lv_bipush (v := 10) hx hb dX5_leave_36 (by decide) ?_
    exact z_ireturn hC hI hf dX5_leave_38
  replace hf := zif_f q0 hf
  by_cases q1 : x1 = 1
  · replace hf := zif_t q1 hf
    refine lv_tableIn (tgt := 39) hx hb dX5_leave_1 (by rw [q1]; decide) (by rw [q1]; decide) (by rw [q1]; rfl) (by decide) ?_
    refine lv_iconst (v := 2) hx hb dX5_leave_39 (by decide) ?_
    refine lv_istore_n (lv' := [(2, .int 2), (0, .ref (ad 7)), (1, .int x1)]) hx hb dX5_leave_40 rfl hl (by decide) rfl (fun ls hl => ?_)
    exact blX5_leave_41 hC  zfuel _ _ _ _ _ hI (lv_sub hl [1, 0] rfl) hf
  replace hf := zif_f q1 hf
  by_cases q2 : x1 = 2
  · replace hf := zif_t q2 hf
    refine lv_tableIn (tgt := 60) hx hb dX5_leave_1 (by rw [q2]; decide) (by rw [q2]; decide) (by rw [q2]; rfl) (by decide) ?_
    refine lv_aload_n hx hb dX5_leave_60 rfl (lv_at hl 0 rfl) ?_
    refine z_get hC hI hinX5_leave_X50 7 (wC_e7 ad cy σ) rfl 2 (by decide) (List.mem_cons_of_mem _ zw7_5) rfl dX5_leave_61 ?_
    refine lv_bipush (v := 19) hx hb dX5_leave_64 (by decide) ?_
    refine lv_aload_n hx hb dX5_leave_66 rfl (lv_at hl 0 rfl) ?_
    obtain ⟨σ6, v7, g6, hf⟩ := zbi_use hf
    refine z_callVi (As := []) (rest := [.int 19, .ref (ad 36)]) hC hI (cX5_hl_met st l D ad cy σ  _ g6) (zgV zw29_15 zw29_16 zw29_17 zw2_21 zw29_18) rfl ⟨rfl, rfl⟩ 0 hdX5_hl ⟨Nat.le_of_ble_eq_true rfl, Nat.le_of_ble_eq_true rfl⟩ rfl rfl (wC_e7 ad cy σ) rfl hl rfl (Nat.le_of_ble_eq_true rfl) dX5_leave_67 ⟨Nat.zero_le _, Nat.zero_le _⟩ (fun H locs hI => ?_)
    obtain ⟨q, hf⟩ := zck_use hf
    obtain ⟨σ8, eσ8⟩ : ∃ z, z = zsi σ6 36 ((19 : Int32).toNatClampNeg) v7 := ⟨_, rfl⟩
    replace hf := zbv_use eσ8 hf
    refine z_iast hC hI 36 23 (wC_e36 ad cy σ6) (tC_t36 cy) q ((wC_s36 ad cy σ6 _ _).trans (congrArg (wC ad cy) eσ8.symm)) dX5_leave_70 (fun H locs hI => ?_)
    refine lv_iconst (v := 4) hx hb dX5_leave_71 (by decide) ?_
    exact z_ireturn hC hI hf dX5_leave_72
  replace hf := zif_f q2 hf
  refine lv_tableOut (tgt := 73) hx hb dX5_leave_1 (zsw (fun k h1 h2 => by rcases (show k = 0 ∨ k = 1 ∨ k = 2 by omega) with rfl | rfl | rfl <;> assumption)) (by decide) ?_
  refine lv_aload_n hx hb dX5_leave_73 rfl (lv_at hl 0 rfl) ?_
  refine z_get hC hI hinX5_leave_X50 7 (wC_e7 ad cy σ) rfl 2 (by decide) (List.mem_cons_of_mem _ zw7_5) rfl dX5_leave_74 ?_
  refine lv_bipush (v := 18) hx hb dX5_leave_77 (by decide) ?_
  refine lv_aload_n hx hb dX5_leave_79 rfl (lv_at hl 0 rfl) ?_
  obtain ⟨σ9, v10, g9, hf⟩ := zbi_use hf
  refine z_callVi (As := []) (rest := [.int 18, .ref (ad 36)]) hC hI (cX5_hl_met st l D ad cy σ  _ g9) (zgV zw29_15 zw29_16 zw29_17 zw2_21 zw29_18) rfl ⟨rfl, rfl⟩ 0 hdX5_hl ⟨Nat.le_of_ble_eq_true rfl, Nat.le_of_ble_eq_true rfl⟩ rfl rfl (wC_e7 ad cy σ) rfl hl rfl (Nat.le_of_ble_eq_true rfl) dX5_leave_80 ⟨Nat.zero_le _, Nat.zero_le _⟩ (fun H locs hI => ?_)
  obtain ⟨q, hf⟩ := zck_use hf
  obtain ⟨σ11, eσ11⟩ : ∃ z, z = zsi σ9 36 ((18 : Int32).toNatClampNeg) v10 := ⟨_, rfl⟩
  replace hf := zbv_use eσ11 hf
  refine z_iast hC hI 36 23 (wC_e36 ad cy σ9) (tC_t36 cy) q ((wC_s36 ad cy σ9 _ _).trans (congrArg (wC ad cy) eσ11.symm)) dX5_leave_83 (fun H locs hI => ?_)
  refine lv_bipush (v := 6) hx hb dX5_leave_84 (by decide) ?_
  exact z_ireturn hC hI hf dX5_leave_86
set_option maxRecDepth 20000 in
theorem cX5_leave_met (st : Nat → Nat) (l : Launch) (D : va_G) (ad : Nat → Nat) (cy : Nat → ClassId) (σ : zSt) (x1 : Int32) (res : zSt × Int32) (hf : fX5_leave σ x1 = some res) (sz : Nat) : zMi st l yX5_leave wzX5_leave rmX5_leave [.ref (ad 7), .int x1] D (tC cy) (wC ad cy) sz σ res :=
  zMi.of (cc := cX5_leave) (maxL := 3) (ret := (some .int)) (by decide) rfl (Nat.le_of_ble_eq_true rfl) (fun p e s m args below meth c hC A hI ls hl => bX5_leave hC hI hl hf)
theorem hdX5_leave : yX5_leave.cls = RX5 ∧ yX5_leave.cls ≠ "java/lang/invoke/MethodHandle" ∧ yX5_leave.cls ≠ "java/lang/invoke/VarHandle" ∧ (parseMethodDescriptor yX5_leave.desc).map (fun d => d.parameters.length) = some 1 := by decide +kernel
noncomputable def rmX5_lastQuarter : Room := { frames := 4, cells := 0, slots := 0, locals := 90 }
noncomputable def wzX5_lastQuarter : List Cond := .code yX5_lastQuarter cX5_lastQuarter 3 (some .int) :: wsL_law
theorem hinX5_lastQuarter_X50 : ∀ w ∈ wsX50, w ∈ wzX5_lastQuarter := fun w h => List.mem_cons_of_mem _ (inlX5 w h)
noncomputable def fX5_lastQuarter_196  (σ : zSt) (x2 : Int32) : Option (zSt × Int32) :=
  zck (zin 19 29) (
  zbu (fX5_push σ (zgi σ 36 (19 : Int32).toNatClampNeg)) (fun σ1 =>
  zbu (fX5_goTo σ1 (8 * x2)) (fun σ2 =>
  some (σ2, 11))))
noncomputable def fX5_lastQuarter_178  (σ : zSt) (s0 : Int32) : Option (zSt × Int32) :=
  zbu (fX5_push σ s0) (fun σ3 =>
  some (σ3, 11))
noncomputable def fX5_lastQuarter_130  (σ : zSt)  : Option (zSt × Int32) :=
  some (σ, 10)
noncomputable def fX5_lastQuarter_96  (σ : zSt) (s0 : Int32) : Option (zSt × Int32) :=
  some (σ, s0)
noncomputable def fX5_lastQuarter  (σ : zSt) (x1 : Int32) : Option (zSt × Int32) :=
  zbv ((x1 >>> ((3 : Int32) &&& 31)) &&& 7) (fun v4 =>
  if (x1 &&& 7) = 0 then zbi (fX5_holds σ v4) (fun σ5 v6 =>
  if v6 = 0 then some (σ5, 5) else
  zbi (fX5_pop σ5 ) (fun σ7 v8 =>
  zbu (fX5_goTo σ7 v8) (fun σ9 =>
  some (σ9, 11)))) else
  if (x1 &&& 7) = 1 then if (v4 &&& 1) = 0 then zbi (fX5_popPair σ (v4 >>> ((1 : Int32) &&& 31))) (fun σ12 v13 =>
  fX5_lastQuarter_96 σ12 v13) else
  zbi (fX5_leave σ (v4 >>> ((1 : Int32) &&& 31))) (fun σ10 v11 =>
  fX5_lastQuarter_96 σ10 v11) else
  if (x1 &&& 7) = 2 then zbi (fX5_fetchWord σ ) (fun σ14 v15 =>
  zck (zin 20 29) (zbv (zsi σ14 36 ((20 : Int32).toNatClampNeg) v15) (fun σ16 =>
  zbi (fX5_holds σ16 v4) (fun σ17 v18 =>
  if v18 = 0 then fX5_lastQuarter_130 σ17 else
  zck (zin 20 29) (
  zck (zin 19 29) (zbv (zsi σ17 36 ((19 : Int32).toNatClampNeg) (zgi σ17 36 (20 : Int32).toNatClampNeg)) (fun σ19 =>
  fX5_lastQuarter_130 σ19))))))) else
  if (x1 &&& 7) = 3 then fX5_lastQuarter_196 σ v4 else
  if (x1 &&& 7) = 4 then zbi (fX5_holds σ v4) (fun σ20 v21 =>
  zbi (fX5_callIf σ20 v21) (fun σ22 v23 =>
  some (σ22, v23))) else
  if (x1 &&& 7) = 5 then if (v4 &&& 1) = 1 then zbi (fX5_callIf σ 1) (fun σ28 v29 =>
  some (σ28, v29)) else
  if v4 = 6 then zbi (fX5_pairAt σ 0) (fun σ26 v27 =>
  fX5_lastQuarter_178 σ26 v27) else
  zbi (fX5_pair σ (v4 >>> ((1 : Int32) &&& 31))) (fun σ24 v25 =>
  fX5_lastQuarter_178 σ24 v25) else
  if (x1 &&& 7) = 6 then zbi (fX5_fetch σ ) (fun σ30 v31 =>
  zbu (fX5_doWith σ30 v4 v31) (fun σ32 =>
  some (σ32, 7))) else
  fX5_lastQuarter_196 σ v4)
set_option maxRecDepth 20000 in
set_option maxHeartbeats 4000000 in
theorem bX5_lastQuarter_196 {st : Nat → Nat} {p : Program} {l : Launch} {e : Env} {s : State} {m : MethodId} {args : Array Value} {below : List Frame} {meth : Method} {c : Code} {D : va_G} {A : Nat → Prop} {ad : Nat → Nat} {cy : Nat → ClassId} (hC : zC p m c cX5_lastQuarter 3 s args wzX5_lastQuarter RX5 meth (some .int))  {res : zSt × Int32} {H : Heap} {locs : List Loc} {σ : zSt} {ls : Array Slot} {x2 : Int32} (hI : zI st D (tC cy) (wC ad cy σ) A s H locs) (hl : lv_has ls 3 [(0, .ref (ad 7)), (2, .int x2)]) (hf : fX5_lastQuarter_196  σ x2 = some res) : W p l e rmX5_lastQuarter s m args below meth c H locs 0 0 (zQi below args s D (tC cy) (wC ad cy) A res) (F0 m 196 ls []) := by
  have hx := hC.1
  have hb := hC.2.1
  unfold fX5_lastQuarter_196 at hf
  refine lv_aload_n hx hb dX5_lastQuarter_196 rfl (lv_at hl 0 rfl) ?_
  refine lv_aload_n hx hb dX5_lastQuarter_197 rfl (lv_at hl 0 rfl) ?_
  refine z_get hC hI hinX5_lastQuarter_X50 7 (wC_e7 ad cy σ) rfl 2 (by decide) (List.mem_cons_of_mem _ zw7_5) rfl dX5_lastQuarter_198 ?_
  refine lv_bipush (v := 19) hx hb dX5_lastQuarter_201 (by decide) ?_
  obtain ⟨q, hf⟩ := zck_use hf
  refine z_iald hC hI 36 23 (wC_e36 ad cy σ) (tC_t36 cy) q dX5_lastQuarter_203 ?_
  obtain ⟨σ1, g1, hf⟩ := zbu_use hf
  refine z_callVu (As := [.int (zgi σ 36 (19 : Int32).toNatClampNeg)]) (rest := []) hC hI (cX5_push_met st l D ad cy σ (zgi σ 36 (19 : Int32).toNatClampNeg) _ g1) (zgV zw20_2 zw20_3 zw20_4 zw2_21 zw20_5) rfl ⟨rfl, rfl⟩ 1 hdX5_push ⟨Nat.le_of_ble_eq_true rfl, Nat.le_of_ble_eq_true rfl⟩ rfl rfl (wC_e7 ad cy σ) rfl hl rfl (Nat.le_of_ble_eq_true rfl) dX5_lastQuarter_204 ⟨Nat.zero_le _, Nat.zero_le _⟩ (fun H locs hI => ?_)
  refine lv_aload_n hx hb dX5_lastQuarter_207 rfl (lv_at hl 0 rfl) ?_
  refine lv_bipush (v := 8) hx hb dX5_lastQuarter_208 (by decide) ?_
  refine lv_iload_n hx hb dX5_lastQuarter_210 rfl (lv_at hl 1 rfl) ?_
  refine lv_imul hx hb dX5_lastQuarter_211 ?_
  obtain ⟨σ2, g2, hf⟩ := zbu_use hf
  refine z_callVu (As := [.int (8 * x2)]) (rest := []) hC hI (cX5_goTo_met st l D ad cy σ1 (8 * x2) _ g2) (zgV zw20_22 zw20_23 zw21_0 zw2_21 zw21_1) rfl ⟨rfl, rfl⟩ 1 hdX5_goTo ⟨Nat.le_of_ble_eq_true rfl, Nat.le_of_ble_eq_true rfl⟩ rfl rfl (wC_e7 ad cy σ1) rfl hl rfl (Nat.le_of_ble_eq_true rfl) dX5_lastQuarter_212 ⟨Nat.zero_le _, Nat.zero_le _⟩ (fun H locs hI => ?_)
  refine lv_bipush (v := 11) hx hb dX5_lastQuarter_215 (by decide) ?_
  exact z_ireturn hC hI hf dX5_lastQuarter_217
set_option maxRecDepth 20000 in
set_option maxHeartbeats 4000000 in
theorem bX5_lastQuarter_178 {st : Nat → Nat} {p : Program} {l : Launch} {e : Env} {s : State} {m : MethodId} {args : Array Value} {below : List Frame} {meth : Method} {c : Code} {D : va_G} {A : Nat → Prop} {ad : Nat → Nat} {cy : Nat → ClassId} (hC : zC p m c cX5_lastQuarter 3 s args wzX5_lastQuarter RX5 meth (some .int))  {res : zSt × Int32} {H : Heap} {locs : List Loc} {σ : zSt} {ls : Array Slot} {s0 : Int32} (hI : zI st D (tC cy) (wC ad cy σ) A s H locs) (hl : lv_has ls 3 []) (hf : fX5_lastQuarter_178  σ s0 = some res) : W p l e rmX5_lastQuarter s m args below meth c H locs 0 0 (zQi below args s D (tC cy) (wC ad cy) A res) (F0 m 178 ls [.int s0, .ref (ad 7)]) := by
  have hx := hC.1
  have hb := hC.2.1
  unfold fX5_lastQuarter_178 at hf
  obtain ⟨σ3, g3, hf⟩ := zbu_use hf
  refine z_callVu (As := [.int s0]) (rest := []) hC hI (cX5_push_met st l D ad cy σ s0 _ g3) (zgV zw20_2 zw20_3 zw20_4 zw2_21 zw20_5) rfl ⟨rfl, rfl⟩ 1 hdX5_push ⟨Nat.le_of_ble_eq_true rfl, Nat.le_of_ble_eq_true rfl⟩ rfl rfl (wC_e7 ad cy σ) rfl hl rfl (Nat.le_of_ble_eq_true rfl) dX5_lastQuarter_178 ⟨Nat.zero_le _, Nat.zero_le _⟩ (fun H locs hI => ?_)
  refine lv_bipush (v := 11) hx hb dX5_lastQuarter_181 (by decide) ?_
  exact z_ireturn hC hI hf dX5_lastQuarter_183
set_option maxRecDepth 20000 in
set_option maxHeartbeats 4000000 in
theorem bX5_lastQuarter_130 {st : Nat → Nat} {p : Program} {l : Launch} {e : Env} {s : State} {m : MethodId} {args : Array Value} {below : List Frame} {meth : Method} {c : Code} {D : va_G} {A : Nat → Prop} {ad : Nat → Nat} {cy : Nat → ClassId} (hC : zC p m c cX5_lastQuarter 3 s args wzX5_lastQuarter RX5 meth (some .int))  {res : zSt × Int32} {H : Heap} {locs : List Loc} {σ : zSt} {ls : Array Slot}  (hI : zI st D (tC cy) (wC ad cy σ) A s H locs) (hl : lv_has ls 3 []) (hf : fX5_lastQuarter_130  σ  = some res) : W p l e rmX5_lastQuarter s m args below meth c H locs 0 0 (zQi below args s D (tC cy) (wC ad cy) A res) (F0 m 130 ls []) := by
  have hx := hC.1
  have hb := hC.2.1
  unfold fX5_lastQuarter_130 at hf
  refine lv_bipush (v := 10) hx hb dX5_lastQuarter_130 (by decide) ?_
  exact z_ireturn hC hI hf dX5_lastQuarter_132
set_option maxRecDepth 20000 in
set_option maxHeartbeats 4000000 in
theorem bX5_lastQuarter_96 {st : Nat → Nat} {p : Program} {l : Launch} {e : Env} {s : State} {m : MethodId} {args : Array Value} {below : List Frame} {meth : Method} {c : Code} {D : va_G} {A : Nat → Prop} {ad : Nat → Nat} {cy : Nat → ClassId} (hC : zC p m c cX5_lastQuarter 3 s args wzX5_lastQuarter RX5 meth (some .int))  {res : zSt × Int32} {H : Heap} {locs : List Loc} {σ : zSt} {ls : Array Slot} {s0 : Int32} (hI : zI st D (tC cy) (wC ad cy σ) A s H locs) (hl : lv_has ls 3 []) (hf : fX5_lastQuarter_96  σ s0 = some res) : W p l e rmX5_lastQuarter s m args below meth c H locs 0 0 (zQi below args s D (tC cy) (wC ad cy) A res) (F0 m 96 ls [.int s0]) := by
  have hx := hC.1
  have hb := hC.2.1
  unfold fX5_lastQuarter_96 at hf
  exact z_ireturn hC hI hf dX5_lastQuarter_96
set_option maxRecDepth 20000 in
set_option maxHeartbeats 4000000 in
theorem bX5_lastQuarter {st : Nat → Nat} {p : Program} {l : Launch} {e : Env} {s : State} {m : MethodId} {args : Array Value} {below : List Frame} {meth : Method} {c : Code} {D : va_G} {A : Nat → Prop} {ad : Nat → Nat} {cy : Nat → ClassId} (hC : zC p m c cX5_lastQuarter 3 s args wzX5_lastQuarter RX5 meth (some .int))  {res : zSt × Int32} {H : Heap} {locs : List Loc} {σ : zSt} {ls : Array Slot} {x1 : Int32} (hI : zI st D (tC cy) (wC ad cy σ) A s H locs) (hl : lv_has ls 3 [(0, .ref (ad 7)), (1, .int x1)]) (hf : fX5_lastQuarter  σ x1 = some res) : W p l e rmX5_lastQuarter s m args below meth c H locs 0 0 (zQi below args s D (tC cy) (wC ad cy) A res) (F0 m 0 ls []) := by
  have hx := hC.1
  have hb := hC.2.1
  unfold fX5_lastQuarter at hf
  refine lv_iload_n hx hb dX5_lastQuarter_0 rfl (lv_at hl 1 rfl) ?_
  refine lv_iconst (v := 3) hx hb dX5_lastQuarter_1 (by decide) ?_
  refine lv_ishr hx hb dX5_lastQuarter_2 ?_
  refine lv_bipush (v := 7) hx hb dX5_lastQuarter_3 (by decide) ?_
  refine lv_iand hx hb dX5_lastQuarter_5 ?_
  refine lv_topi (fun v4 ev4 => ?_)
  replace hf := zbv_use ev4 hf
  refine lv_istore_n (lv' := [(2, .int v4), (0, .ref (ad 7)), (1, .int x1)]) hx hb dX5_lastQuarter_6 rfl hl (by decide) rfl (fun ls hl => ?_)
  refine lv_iload_n hx hb dX5_lastQuarter_7 rfl (lv_at hl 2 rfl) ?_
  refine lv_bipush (v := 7) hx hb dX5_lastQuarter_8 (by decide) ?_
  refine lv_iand hx hb dX5_lastQuarter_10 ?_
  by_cases q0 : (x1 &&& 7) = 0
  · replace hf := zif_t q0 hf
    refine lv_tableIn (tgt := 52) hx hb dX5_lastQuarter_11 (by rw [q0]; decide) (by rw [q0]; decide) (by rw [q0]; rfl) (by decide) ?_
    refine lv_aload_n hx hb dX5_lastQuarter_52 rfl (lv_at hl 1 rfl) ?_
    refine lv_iload_n hx hb dX5_lastQuarter_53 rfl (lv_at hl 0 rfl) ?_
    obtain ⟨σ5, v6, g5, hf⟩ := zbi_use hf
    refine z_callVi (As := [.int v4]) (rest := []) hC hI (cX5_holds_met st l D ad cy σ v4 _ g5) (zgV zw32_7 zw32_8 zw32_9 zw2_21 zw32_10) rfl ⟨rfl, rfl⟩ 1 hdX5_holds ⟨Nat.le_of_ble_eq_true rfl, Nat.le_of_ble_eq_true rfl⟩ rfl rfl (wC_e7 ad cy σ) rfl hl rfl (Nat.le_of_ble_eq_true rfl) dX5_lastQuarter_54 ⟨Nat.zero_le _, Nat.zero_le _⟩ (fun H locs hI => ?_)
    refine lv_if_ne (tgt := 62) hx hb dX5_lastQuarter_57 (by decide) (fun q => ?_) (fun q => ?_)
    · replace hf := zif_f q hf
      refine lv_aload_n hx hb dX5_lastQuarter_62 rfl (lv_at hl 1 rfl) ?_
      refine lv_aload_n hx hb dX5_lastQuarter_63 rfl (lv_at hl 1 rfl) ?_
      obtain ⟨σ7, v8, g7, hf⟩ := zbi_use hf
      refine z_callVi (As := []) (rest := [.ref (ad 7)]) hC hI (cX5_pop_met st l D ad cy σ5  _ g7) (zgV zw31_7 zw31_8 zw31_9 zw2_21 zw31_10) rfl ⟨rfl, rfl⟩ 0 hdX5_pop ⟨Nat.le_of_ble_eq_true rfl, Nat.le_of_ble_eq_true rfl⟩ rfl rfl (wC_e7 ad cy σ5) rfl hl rfl (Nat.le_of_ble_eq_true rfl) dX5_lastQuarter_64 ⟨Nat.zero_le _, Nat.zero_le _⟩ (fun H locs hI => ?_)
      obtain ⟨σ9, g9, hf⟩ := zbu_use hf
      refine z_callVu (As := [.int v8]) (rest := []) hC hI (cX5_goTo_met st l D ad cy σ7 v8 _ g9) (zgV zw20_22 zw20_23 zw21_0 zw2_21 zw21_1) rfl ⟨rfl, rfl⟩ 1 hdX5_goTo ⟨Nat.le_of_ble_eq_true rfl, Nat.le_of_ble_eq_true rfl⟩ rfl rfl (wC_e7 ad cy σ7) rfl hl rfl (Nat.le_of_ble_eq_true rfl) dX5_lastQuarter_67 ⟨Nat.zero_le _, Nat.zero_le _⟩ (fun H locs hI => ?_)
      refine lv_bipush (v := 11) hx hb dX5_lastQuarter_70 (by decide) ?_
      exact z_ireturn hC hI hf dX5_lastQuarter_72
    replace hf := zif_t q hf
    refine lv_iconst (v := 5) hx hb dX5_lastQuarter_60 (by decide) ?_
    exact z_ireturn hC hI hf dX5_lastQuarter_61
  replace hf := zif_f q0 hf
  by_cases q1 : (x1 &&& 7) = 1
  · replace hf := zif_t q1 hf
    refine lv_tableIn (tgt := 73) hx hb dX5_lastQuarter_11 (by rw [q1]; decide) (by rw [q1]; decide) (by rw [q1]; rfl) (by decide) ?_
    refine lv_iload_n hx hb dX5_lastQuarter_73 rfl (lv_at hl 0 rfl) ?_
    refine lv_iconst (v := 1) hx hb dX5_lastQuarter_74 (by decide) ?_
    refine lv_iand hx hb dX5_lastQuarter_75 ?_
    refine lv_if_ne (tgt := 89) hx hb dX5_lastQuarter_76 (by decide) (fun q => ?_) (fun q => ?_)
    · replace hf := zif_f q hf
      refine lv_aload_n hx hb dX5_lastQuarter_89 rfl (lv_at hl 1 rfl) ?_
      refine lv_iload_n hx hb dX5_lastQuarter_90 rfl (lv_at hl 0 rfl) ?_
      refine lv_iconst (v := 1) hx hb dX5_lastQuarter_91 (by decide) ?_
      refine lv_ishr hx hb dX5_lastQuarter_92 ?_
      obtain ⟨σ10, v11, g10, hf⟩ := zbi_use hf
      refine z_callVi (As := [.int (v4 >>> ((1 : Int32) &&& 31))]) (rest := []) hC hI (cX5_leave_met st l D ad cy σ (v4 >>> ((1 : Int32) &&& 31)) _ g10) (zgV zw34_20 zw34_21 zw34_22 zw2_21 zw34_23) rfl ⟨rfl, rfl⟩ 1 hdX5_leave ⟨Nat.le_of_ble_eq_true rfl, Nat.le_of_ble_eq_true rfl⟩ rfl rfl (wC_e7 ad cy σ) rfl hl rfl (Nat.le_of_ble_eq_true rfl) dX5_lastQuarter_93 ⟨Nat.zero_le _, Nat.zero_le _⟩ (fun H locs hI => ?_)
      exact bX5_lastQuarter_96 hC  hI (lv_sub hl [] rfl) hf
    replace hf := zif_t q hf
    refine lv_aload_n hx hb dX5_lastQuarter_79 rfl (lv_at hl 1 rfl) ?_
    refine lv_iload_n hx hb dX5_lastQuarter_80 rfl (lv_at hl 0 rfl) ?_
    refine lv_iconst (v := 1) hx hb dX5_lastQuarter_81 (by decide) ?_
    refine lv_ishr hx hb dX5_lastQuarter_82 ?_
    obtain ⟨σ12, v13, g12, hf⟩ := zbi_use hf
    refine z_callVi (As := [.int (v4 >>> ((1 : Int32) &&& 31))]) (rest := []) hC hI (cX5_popPair_met st l D ad cy σ (v4 >>> ((1 : Int32) &&& 31)) _ g12) (zgV zw34_16 zw34_17 zw34_18 zw2_21 zw34_19) rfl ⟨rfl, rfl⟩ 1 hdX5_popPair ⟨Nat.le_of_ble_eq_true rfl, Nat.le_of_ble_eq_true rfl⟩ rfl rfl (wC_e7 ad cy σ) rfl hl rfl (Nat.le_of_ble_eq_true rfl) dX5_lastQuarter_83 ⟨Nat.zero_le _, Nat.zero_le _⟩ (fun H locs hI => ?_)
    refine lv_goto (tgt := 96) hx hb dX5_lastQuarter_86 (by decide) ?_
    exact bX5_lastQuarter_96 hC  hI (lv_sub hl [] rfl) hf
  replace hf := zif_f q1 hf
  by_cases q2 : (x1 &&& 7) = 2
  · replace hf := zif_t q2 hf
    refine lv_tableIn (tgt := 97) hx hb dX5_lastQuarter_11 (by rw [q2]; decide) (by rw [q2]; decide) (by rw [q2]; rfl) (by decide) ?_
    refine lv_aload_n hx hb dX5_lastQuarter_97 rfl (lv_at hl 1 rfl) ?_
    refine z_get hC hI hinX5_lastQuarter_X50 7 (wC_e7 ad cy σ) rfl 2 (by decide) (List.mem_cons_of_mem _ zw7_5) rfl dX5_lastQuarter_98 ?_
    refine lv_bipush (v := 20) hx hb dX5_lastQuarter_101 (by decide) ?_
    refine lv_aload_n hx hb dX5_lastQuarter_103 rfl (lv_at hl 1 rfl) ?_
    obtain ⟨σ14, v15, g14, hf⟩ := zbi_use hf
    refine z_callVi (As := []) (rest := [.int 20, .ref (ad 36)]) hC hI (cX5_fetchWord_met st l D ad cy σ  _ g14) (zgV zw30_15 zw30_16 zw30_17 zw2_21 zw30_18) rfl ⟨rfl, rfl⟩ 0 hdX5_fetchWord ⟨Nat.le_of_ble_eq_true rfl, Nat.le_of_ble_eq_true rfl⟩ rfl rfl (wC_e7 ad cy σ) rfl hl rfl (Nat.le_of_ble_eq_true rfl) dX5_lastQuarter_104 ⟨Nat.zero_le _, Nat.zero_le _⟩ (fun H locs hI => ?_)
    obtain ⟨q, hf⟩ := zck_use hf
    obtain ⟨σ16, eσ16⟩ : ∃ z, z = zsi σ14 36 ((20 : Int32).toNatClampNeg) v15 := ⟨_, rfl⟩
    replace hf := zbv_use eσ16 hf
    refine z_iast hC hI 36 23 (wC_e36 ad cy σ14) (tC_t36 cy) q ((wC_s36 ad cy σ14 _ _).trans (congrArg (wC ad cy) eσ16.symm)) dX5_lastQuarter_107 (fun H locs hI => ?_)
    refine lv_aload_n hx hb dX5_lastQuarter_108 rfl (lv_at hl 1 rfl) ?_
    refine lv_iload_n hx hb dX5_lastQuarter_109 rfl (lv_at hl 0 rfl) ?_
    obtain ⟨σ17, v18, g17, hf⟩ := zbi_use hf
    refine z_callVi (As := [.int v4]) (rest := []) hC hI (cX5_holds_met st l D ad cy σ16 v4 _ g17) (zgV zw32_7 zw32_8 zw32_9 zw2_21 zw32_10) rfl ⟨rfl, rfl⟩ 1 hdX5_holds ⟨Nat.le_of_ble_eq_true rfl, Nat.le_of_ble_eq_true rfl⟩ rfl rfl (wC_e7 ad cy σ16) rfl hl rfl (Nat.le_of_ble_eq_true rfl) dX5_lastQuarter_110 ⟨Nat.zero_le _, Nat.zero_le _⟩ (fun H locs hI => ?_)
    refine lv_if_eq (tgt := 130) hx hb dX5_lastQuarter_113 (by decide) (fun q => ?_) (fun q => ?_)
    · replace hf := zif_t q hf
      exact bX5_lastQuarter_130 hC  hI (lv_sub hl [] rfl) hf
    replace hf := zif_f q hf
    refine lv_aload_n hx hb dX5_lastQuarter_116 rfl (lv_at hl 1 rfl) ?_
    refine z_get hC hI hinX5_lastQuarter_X50 7 (wC_e7 ad cy σ17) rfl 2 (by decide) (List.mem_cons_of_mem _ zw7_5) rfl dX5_lastQuarter_117 ?_
    refine lv_bipush (v := 19) hx hb dX5_lastQuarter_120 (by decide) ?_
    refine lv_aload_n hx hb dX5_lastQuarter_122 rfl (lv_at hl 1 rfl) ?_
    refine z_get hC hI hinX5_lastQuarter_X50 7 (wC_e7 ad cy σ17) rfl 2 (by decide) (List.mem_cons_of_mem _ zw7_5) rfl dX5_lastQuarter_123 ?_
    refine lv_bipush (v := 20) hx hb dX5_lastQuarter_126 (by decide) ?_
    obtain ⟨q, hf⟩ := zck_use hf
    refine z_iald hC hI 36 23 (wC_e36 ad cy σ17) (tC_t36 cy) q dX5_lastQuarter_128 ?_
    obtain ⟨q, hf⟩ := zck_use hf
    obtain ⟨σ19, eσ19⟩ : ∃ z, z = zsi σ17 36 ((19 : Int32).toNatClampNeg) (zgi σ17 36 (20 : Int32).toNatClampNeg) := ⟨_, rfl⟩
    replace hf := zbv_use eσ19 hf
    refine z_iast hC hI 36 23 (wC_e36 ad cy σ17) (tC_t36 cy) q ((wC_s36 ad cy σ17 _ _).trans (congrArg (wC ad cy) eσ19.symm)) dX5_lastQuarter_129 (fun H locs hI => ?_)
    exact bX5_lastQuarter_130 hC  hI (lv_sub hl [] rfl) hf
  replace hf := zif_f q2 hf
  by_cases q3 : (x1 &&& 7) = 3
  · replace hf := zif_t q3 hf
    refine lv_tableIn (tgt := 196) hx hb dX5_lastQuarter_11 (by rw [q3]; decide) (by rw [q3]; decide) (by rw [q3]; rfl) (by decide) ?_
    exact bX5_lastQuarter_196 hC  hI (lv_sub hl [1, 0] rfl) hf
  replace hf := zif_f q3 hf
  by_cases q4 : (x1 &&& 7) = 4
  · replace hf := zif_t q4 hf
    refine lv_tableIn (tgt := 133) hx hb dX5_lastQuarter_11 (by rw [q4]; decide) (by rw [q4]; decide) (by rw [q4]; rfl) (by decide) ?_
    refine lv_aload_n hx hb dX5_lastQuarter_133 rfl (lv_at hl 1 rfl) ?_
    refine lv_aload_n hx hb dX5_lastQuarter_134 rfl (lv_at hl 1 rfl) ?_
    refine lv_iload_n hx hb dX5_lastQuarter_135 rfl (lv_at hl 0 rfl) ?_
    obtain ⟨σ20, v21, g20, hf⟩ := zbi_use hf
    refine z_callVi (As := [.int v4]) (rest := [.ref (ad 7)]) hC hI (cX5_holds_met st l D ad cy σ v4 _ g20) (zgV zw32_7 zw32_8 zw32_9 zw2_21 zw32_10) rfl ⟨rfl, rfl⟩ 1 hdX5_holds ⟨Nat.le_of_ble_eq_true rfl, Nat.le_of_ble_eq_true rfl⟩ rfl rfl (wC_e7 ad cy σ) rfl hl rfl (Nat.le_of_ble_eq_true rfl) dX5_lastQuarter_136 ⟨Nat.zero_le _, Nat.zero_le _⟩ (fun H locs hI => ?_)
    obtain ⟨σ22, v23, g22, hf⟩ := zbi_use hf
    refine z_callVi (As := [.int v21]) (rest := []) hC hI (cX5_callIf_met st l D ad cy σ20 v21 _ g22) (zgV zw35_0 zw35_1 zw35_2 zw2_21 zw35_3) rfl ⟨rfl, rfl⟩ 1 hdX5_callIf ⟨Nat.le_of_ble_eq_true rfl, Nat.le_of_ble_eq_true rfl⟩ rfl rfl (wC_e7 ad cy σ20) rfl hl rfl (Nat.le_of_ble_eq_true rfl) dX5_lastQuarter_139 ⟨Nat.zero_le _, Nat.zero_le _⟩ (fun H locs hI => ?_)
    exact z_ireturn hC hI hf dX5_lastQuarter_142
  replace hf := zif_f q4 hf
  by_cases q5 : (x1 &&& 7) = 5
  · replace hf := zif_t q5 hf
    refine lv_tableIn (tgt := 143) hx hb dX5_lastQuarter_11 (by rw [q5]; decide) (by rw [q5]; decide) (by rw [q5]; rfl) (by decide) ?_
    refine lv_iload_n hx hb dX5_lastQuarter_143 rfl (lv_at hl 0 rfl) ?_
    refine lv_iconst (v := 1) hx hb dX5_lastQuarter_144 (by decide) ?_
    refine lv_iand hx hb dX5_lastQuarter_145 ?_
    refine lv_iconst (v := 1) hx hb dX5_lastQuarter_146 (by decide) ?_
    refine lv_icmp_ne (tgt := 156) hx hb dX5_lastQuarter_147 (by decide) (fun q => ?_) (fun q => ?_)
    · replace hf := zif_f q hf
      refine lv_aload_n hx hb dX5_lastQuarter_156 rfl (lv_at hl 1 rfl) ?_
      refine lv_iload_n hx hb dX5_lastQuarter_157 rfl (lv_at hl 0 rfl) ?_
      refine lv_bipush (v := 6) hx hb dX5_lastQuarter_158 (by decide) ?_
      refine lv_icmp_ne (tgt := 171) hx hb dX5_lastQuarter_160 (by decide) (fun q => ?_) (fun q => ?_)
      · replace hf := zif_f q hf
        refine lv_aload_n hx hb dX5_lastQuarter_171 rfl (lv_at hl 1 rfl) ?_
        refine lv_iload_n hx hb dX5_lastQuarter_172 rfl (lv_at hl 0 rfl) ?_
        refine lv_iconst (v := 1) hx hb dX5_lastQuarter_173 (by decide) ?_
        refine lv_ishr hx hb dX5_lastQuarter_174 ?_
        obtain ⟨σ24, v25, g24, hf⟩ := zbi_use hf
        refine z_callVi (As := [.int (v4 >>> ((1 : Int32) &&& 31))]) (rest := [.ref (ad 7)]) hC hI (cX5_pair_met st l D ad cy σ (v4 >>> ((1 : Int32) &&& 31)) _ g24) (zgV zw29_19 zw29_20 zw29_21 zw2_21 zw29_22) rfl ⟨rfl, rfl⟩ 1 hdX5_pair ⟨Nat.le_of_ble_eq_true rfl, Nat.le_of_ble_eq_true rfl⟩ rfl rfl (wC_e7 ad cy σ) rfl hl rfl (Nat.le_of_ble_eq_true rfl) dX5_lastQuarter_175 ⟨Nat.zero_le _, Nat.zero_le _⟩ (fun H locs hI => ?_)
        exact bX5_lastQuarter_178 hC  hI (lv_sub hl [] rfl) hf
      replace hf := zif_t q hf
      refine lv_aload_n hx hb dX5_lastQuarter_163 rfl (lv_at hl 1 rfl) ?_
      refine lv_iconst (v := 0) hx hb dX5_lastQuarter_164 (by decide) ?_
      obtain ⟨σ26, v27, g26, hf⟩ := zbi_use hf
      refine z_callVi (As := [.int 0]) (rest := [.ref (ad 7)]) hC hI (cX5_pairAt_met st l D ad cy σ 0 _ g26) (zgV zw21_15 zw21_16 zw21_17 zw2_21 zw21_18) rfl ⟨rfl, rfl⟩ 1 hdX5_pairAt ⟨Nat.le_of_ble_eq_true rfl, Nat.le_of_ble_eq_true rfl⟩ rfl rfl (wC_e7 ad cy σ) rfl hl rfl (Nat.le_of_ble_eq_true rfl) dX5_lastQuarter_165 ⟨Nat.zero_le _, Nat.zero_le _⟩ (fun H locs hI => ?_)
      refine lv_goto (tgt := 178) hx hb dX5_lastQuarter_168 (by decide) ?_
      exact bX5_lastQuarter_178 hC  hI (lv_sub hl [] rfl) hf
    replace hf := zif_t q hf
    refine lv_aload_n hx hb dX5_lastQuarter_150 rfl (lv_at hl 1 rfl) ?_
    refine lv_iconst (v := 1) hx hb dX5_lastQuarter_151 (by decide) ?_
    obtain ⟨σ28, v29, g28, hf⟩ := zbi_use hf
    refine z_callVi (As := [.int 1]) (rest := []) hC hI (cX5_callIf_met st l D ad cy σ 1 _ g28) (zgV zw35_0 zw35_1 zw35_2 zw2_21 zw35_3) rfl ⟨rfl, rfl⟩ 1 hdX5_callIf ⟨Nat.le_of_ble_eq_true rfl, Nat.le_of_ble_eq_true rfl⟩ rfl rfl (wC_e7 ad cy σ) rfl hl rfl (Nat.le_of_ble_eq_true rfl) dX5_lastQuarter_152 ⟨Nat.zero_le _, Nat.zero_le _⟩ (fun H locs hI => ?_)
    exact z_ireturn hC hI hf dX5_lastQuarter_155
  replace hf := zif_f q5 hf
  by_cases q6 : (x1 &&& 7) = 6
  · replace hf := zif_t q6 hf
    refine lv_tableIn (tgt := 184) hx hb dX5_lastQuarter_11 (by rw [q6]; decide) (by rw [q6]; decide) (by rw [q6]; rfl) (by decide) ?_
    refine lv_aload_n hx hb dX5_lastQuarter_184 rfl (lv_at hl 1 rfl) ?_
    refine lv_iload_n hx hb dX5_lastQuarter_185 rfl (lv_at hl 0 rfl) ?_
    refine lv_aload_n hx hb dX5_lastQuarter_186 rfl (lv_at hl 1 rfl) ?_
    obtain ⟨σ30, v31, g30, hf⟩ := zbi_use hf
    refine z_callVi (As := []) (rest := [.int v4, .ref (ad 7)]) hC hI (cX5_fetch_met st l D ad cy σ  _ g30) (zgV zw21_23 zw22_0 zw22_1 zw2_21 zw22_2) rfl ⟨rfl, rfl⟩ 0 hdX5_fetch ⟨Nat.le_of_ble_eq_true rfl, Nat.le_of_ble_eq_true rfl⟩ rfl rfl (wC_e7 ad cy σ) rfl hl rfl (Nat.le_of_ble_eq_true rfl) dX5_lastQuarter_187 ⟨Nat.zero_le _, Nat.zero_le _⟩ (fun H locs hI => ?_)
    obtain ⟨σ32, g32, hf⟩ := zbu_use hf
    refine z_callVu (As := [.int v4, .int v31]) (rest := []) hC hI (cX5_doWith_met st l D ad cy σ30 v4 v31 _ g32) (zgV zw34_0 zw34_1 zw34_2 zw2_21 zw34_3) rfl ⟨rfl, rfl⟩ 2 hdX5_doWith ⟨Nat.le_of_ble_eq_true rfl, Nat.le_of_ble_eq_true rfl⟩ rfl rfl (wC_e7 ad cy σ30) rfl hl rfl (Nat.le_of_ble_eq_true rfl) dX5_lastQuarter_190 ⟨Nat.zero_le _, Nat.zero_le _⟩ (fun H locs hI => ?_)
    refine lv_bipush (v := 7) hx hb dX5_lastQuarter_193 (by decide) ?_
    exact z_ireturn hC hI hf dX5_lastQuarter_195
  replace hf := zif_f q6 hf
  refine lv_tableOut (tgt := 196) hx hb dX5_lastQuarter_11 (zsw (fun k h1 h2 => by rcases (show k = 0 ∨ k = 1 ∨ k = 2 ∨ k = 3 ∨ k = 4 ∨ k = 5 ∨ k = 6 by omega) with rfl | rfl | rfl | rfl | rfl | rfl | rfl <;> assumption)) (by decide) ?_
  exact bX5_lastQuarter_196 hC  hI (lv_sub hl [1, 0] rfl) hf
set_option maxRecDepth 20000 in
theorem cX5_lastQuarter_met (st : Nat → Nat) (l : Launch) (D : va_G) (ad : Nat → Nat) (cy : Nat → ClassId) (σ : zSt) (x1 : Int32) (res : zSt × Int32) (hf : fX5_lastQuarter σ x1 = some res) (sz : Nat) : zMi st l yX5_lastQuarter wzX5_lastQuarter rmX5_lastQuarter [.ref (ad 7), .int x1] D (tC cy) (wC ad cy) sz σ res :=
  zMi.of (cc := cX5_lastQuarter) (maxL := 3) (ret := (some .int)) (by decide) rfl (Nat.le_of_ble_eq_true rfl) (fun p e s m args below meth c hC A hI ls hl => bX5_lastQuarter hC hI hl hf)
theorem hdX5_lastQuarter : yX5_lastQuarter.cls = RX5 ∧ yX5_lastQuarter.cls ≠ "java/lang/invoke/MethodHandle" ∧ yX5_lastQuarter.cls ≠ "java/lang/invoke/VarHandle" ∧ (parseMethodDescriptor yX5_lastQuarter.desc).map (fun d => d.parameters.length) = some 1 := by decide +kernel
noncomputable def rmX5_doWithRegister : Room := { frames := 3, cells := 0, slots := 0, locals := 68 }
noncomputable def wzX5_doWithRegister : List Cond := .code yX5_doWithRegister cX5_doWithRegister 2 (some .int) :: wsL_law
noncomputable def fX5_doWithRegister_33  (σ : zSt) (s0 : Int32) : Option (zSt × Int32) :=
  some (σ, s0)
noncomputable def fX5_doWithRegister  (σ : zSt) (x1 : Int32) : Option (zSt × Int32) :=
  zbi (fX5_one σ (x1 &&& 7)) (fun σ1 v2 =>
  zbu (fX5_doWith σ1 ((x1 >>> ((3 : Int32) &&& 31)) &&& 7) v2) (fun σ3 =>
  if (x1 &&& 7) = 6 then fX5_doWithRegister_33 σ3 7 else
  fX5_doWithRegister_33 σ3 4))
set_option maxRecDepth 20000 in
set_option maxHeartbeats 4000000 in
theorem bX5_doWithRegister_33 {st : Nat → Nat} {p : Program} {l : Launch} {e : Env} {s : State} {m : MethodId} {args : Array Value} {below : List Frame} {meth : Method} {c : Code} {D : va_G} {A : Nat → Prop} {ad : Nat → Nat} {cy : Nat → ClassId} (hC : zC p m c cX5_doWithRegister 2 s args wzX5_doWithRegister RX5 meth (some .int))  {res : zSt × Int32} {H : Heap} {locs : List Loc} {σ : zSt} {ls : Array Slot} {s0 : Int32} (hI : zI st D (tC cy) (wC ad cy σ) A s H locs) (hl : lv_has ls 2 []) (hf : fX5_doWithRegister_33  σ s0 = some res) : W p l e rmX5_doWithRegister s m args below meth c H locs 0 0 (zQi below args s D (tC cy) (wC ad cy) A res) (F0 m 33 ls [.int s0]) := by
  have hx := hC.1
  have hb := hC.2.1
  unfold fX5_doWithRegister_33 at hf
  exact z_ireturn hC hI hf dX5_doWithRegister_33
set_option maxRecDepth 20000 in
set_option maxHeartbeats 4000000 in
theorem bX5_doWithRegister {st : Nat → Nat} {p : Program} {l : Launch} {e : Env} {s : State} {m : MethodId} {args : Array Value} {below : List Frame} {meth : Method} {c : Code} {D : va_G} {A : Nat → Prop} {ad : Nat → Nat} {cy : Nat → ClassId} (hC : zC p m c cX5_doWithRegister 2 s args wzX5_doWithRegister RX5 meth (some .int))  {res : zSt × Int32} {H : Heap} {locs : List Loc} {σ : zSt} {ls : Array Slot} {x1 : Int32} (hI : zI st D (tC cy) (wC ad cy σ) A s H locs) (hl : lv_has ls 2 [(0, .ref (ad 7)), (1, .int x1)]) (hf : fX5_doWithRegister  σ x1 = some res) : W p l e rmX5_doWithRegister s m args below meth c H locs 0 0 (zQi below args s D (tC cy) (wC ad cy) A res) (F0 m 0 ls []) := by
  have hx := hC.1
  have hb := hC.2.1
  unfold fX5_doWithRegister at hf
  refine lv_aload_n hx hb dX5_doWithRegister_0 rfl (lv_at hl 0 rfl) ?_
  refine lv_iload_n hx hb dX5_doWithRegister_1 rfl (lv_at hl 1 rfl) ?_
  refine lv_iconst (v := 3) hx hb dX5_doWithRegister_2 (by decide) ?_
  refine lv_ishr hx hb dX5_doWithRegister_3 ?_
  refine lv_bipush (v := 7) hx hb dX5_doWithRegister_4 (by decide) ?_
  refine lv_iand hx hb dX5_doWithRegister_6 ?_
  refine lv_aload_n hx hb dX5_doWithRegister_7 rfl (lv_at hl 0 rfl) ?_
  refine lv_iload_n hx hb dX5_doWithRegister_8 rfl (lv_at hl 1 rfl) ?_
  refine lv_bipush (v := 7) hx hb dX5_doWithRegister_9 (by decide) ?_
  refine lv_iand hx hb dX5_doWithRegister_11 ?_
  obtain ⟨σ1, v2, g1, hf⟩ := zbi_use hf
  refine z_callVi (As := [.int (x1 &&& 7)]) (rest := [.int ((x1 >>> ((3 : Int32) &&& 31)) &&& 7), .ref (ad 7)]) hC hI (cX5_one_met st l D ad cy σ (x1 &&& 7) _ g1) (zgV zw24_4 zw24_5 zw24_6 zw2_21 zw24_7) rfl ⟨rfl, rfl⟩ 1 hdX5_one ⟨Nat.le_of_ble_eq_true rfl, Nat.le_of_ble_eq_true rfl⟩ rfl rfl (wC_e7 ad cy σ) rfl hl rfl (Nat.le_of_ble_eq_true rfl) dX5_doWithRegister_12 ⟨Nat.zero_le _, Nat.zero_le _⟩ (fun H locs hI => ?_)
  obtain ⟨σ3, g3, hf⟩ := zbu_use hf
  refine z_callVu (As := [.int ((x1 >>> ((3 : Int32) &&& 31)) &&& 7), .int v2]) (rest := []) hC hI (cX5_doWith_met st l D ad cy σ1 ((x1 >>> ((3 : Int32) &&& 31)) &&& 7) v2 _ g3) (zgV zw34_0 zw34_1 zw34_2 zw2_21 zw34_3) rfl ⟨rfl, rfl⟩ 2 hdX5_doWith ⟨Nat.le_of_ble_eq_true rfl, Nat.le_of_ble_eq_true rfl⟩ rfl rfl (wC_e7 ad cy σ1) rfl hl rfl (Nat.le_of_ble_eq_true rfl) dX5_doWithRegister_15 ⟨Nat.zero_le _, Nat.zero_le _⟩ (fun H locs hI => ?_)
  refine lv_iload_n hx hb dX5_doWithRegister_18 rfl (lv_at hl 1 rfl) ?_
  refine lv_bipush (v := 7) hx hb dX5_doWithRegister_19 (by decide) ?_
  refine lv_iand hx hb dX5_doWithRegister_21 ?_
  refine lv_bipush (v := 6) hx hb dX5_doWithRegister_22 (by decide) ?_
  refine lv_icmp_ne (tgt := 32) hx hb dX5_doWithRegister_24 (by decide) (fun q => ?_) (fun q => ?_)
  · replace hf := zif_f q hf
    refine lv_iconst (v := 4) hx hb dX5_doWithRegister_32 (by decide) ?_
    exact bX5_doWithRegister_33 hC  hI (lv_sub hl [] rfl) hf
  replace hf := zif_t q hf
  refine lv_bipush (v := 7) hx hb dX5_doWithRegister_27 (by decide) ?_
  refine lv_goto (tgt := 33) hx hb dX5_doWithRegister_29 (by decide) ?_
  exact bX5_doWithRegister_33 hC  hI (lv_sub hl [] rfl) hf
set_option maxRecDepth 20000 in
theorem cX5_doWithRegister_met (st : Nat → Nat) (l : Launch) (D : va_G) (ad : Nat → Nat) (cy : Nat → ClassId) (σ : zSt) (x1 : Int32) (res : zSt × Int32) (hf : fX5_doWithRegister σ x1 = some res) (sz : Nat) : zMi st l yX5_doWithRegister wzX5_doWithRegister rmX5_doWithRegister [.ref (ad 7), .int x1] D (tC cy) (wC ad cy) sz σ res :=
  zMi.of (cc := cX5_doWithRegister) (maxL := 2) (ret := (some .int)) (by decide) rfl (Nat.le_of_ble_eq_true rfl) (fun p e s m args below meth c hC A hI ls hl => bX5_doWithRegister hC hI hl hf)
theorem hdX5_doWithRegister : yX5_doWithRegister.cls = RX5 ∧ yX5_doWithRegister.cls ≠ "java/lang/invoke/MethodHandle" ∧ yX5_doWithRegister.cls ≠ "java/lang/invoke/VarHandle" ∧ (parseMethodDescriptor yX5_doWithRegister.desc).map (fun d => d.parameters.length) = some 1 := by decide +kernel
noncomputable def rmX5_move : Room := { frames := 3, cells := 0, slots := 0, locals := 68 }
noncomputable def wzX5_move : List Cond := .code yX5_move cX5_move 4 (some .int) :: wsL_law
theorem hinX5_move_X50 : ∀ w ∈ wsX50, w ∈ wzX5_move := fun w h => List.mem_cons_of_mem _ (inlX5 w h)
noncomputable def fX5_move_56  (σ : zSt) (s0 : Int32) : Option (zSt × Int32) :=
  some (σ, s0)
noncomputable def fX5_move_50  (σ : zSt)  : Option (zSt × Int32) :=
  fX5_move_56 σ 7
noncomputable def fX5_move  (σ : zSt) (x1 : Int32) : Option (zSt × Int32) :=
  if x1 = 118 then zck (zin 26 29) (zbv (zsi σ 36 ((26 : Int32).toNatClampNeg) 1) (fun σ6 =>
  some (σ6, 4))) else
  zbv ((x1 >>> ((3 : Int32) &&& 31)) &&& 7) (fun v1 =>
  zbv (x1 &&& 7) (fun v2 =>
  zbi (fX5_one σ v2) (fun σ3 v4 =>
  zbu (fX5_putOne σ3 v1 v4) (fun σ5 =>
  if v1 = 6 then fX5_move_50 σ5 else
  if v2 = 6 then fX5_move_50 σ5 else
  fX5_move_56 σ5 4))))
set_option maxRecDepth 20000 in
set_option maxHeartbeats 4000000 in
theorem bX5_move_56 {st : Nat → Nat} {p : Program} {l : Launch} {e : Env} {s : State} {m : MethodId} {args : Array Value} {below : List Frame} {meth : Method} {c : Code} {D : va_G} {A : Nat → Prop} {ad : Nat → Nat} {cy : Nat → ClassId} (hC : zC p m c cX5_move 4 s args wzX5_move RX5 meth (some .int))  {res : zSt × Int32} {H : Heap} {locs : List Loc} {σ : zSt} {ls : Array Slot} {s0 : Int32} (hI : zI st D (tC cy) (wC ad cy σ) A s H locs) (hl : lv_has ls 4 []) (hf : fX5_move_56  σ s0 = some res) : W p l e rmX5_move s m args below meth c H locs 0 0 (zQi below args s D (tC cy) (wC ad cy) A res) (F0 m 56 ls [.int s0]) := by
  have hx := hC.1
  have hb := hC.2.1
  unfold fX5_move_56 at hf
  exact z_ireturn hC hI hf dX5_move_56
set_option maxRecDepth 20000 in
set_option maxHeartbeats 4000000 in
theorem bX5_move_50 {st : Nat → Nat} {p : Program} {l : Launch} {e : Env} {s : State} {m : MethodId} {args : Array Value} {below : List Frame} {meth : Method} {c : Code} {D : va_G} {A : Nat → Prop} {ad : Nat → Nat} {cy : Nat → ClassId} (hC : zC p m c cX5_move 4 s args wzX5_move RX5 meth (some .int))  {res : zSt × Int32} {H : Heap} {locs : List Loc} {σ : zSt} {ls : Array Slot}  (hI : zI st D (tC cy) (wC ad cy σ) A s H locs) (hl : lv_has ls 4 []) (hf : fX5_move_50  σ  = some res) : W p l e rmX5_move s m args below meth c H locs 0 0 (zQi below args s D (tC cy) (wC ad cy) A res) (F0 m 50 ls []) := by
  have hx := hC.1
  have hb := hC.2.1
  unfold fX5_move_50 at hf
  refine lv_bipush (v := 7) hx hb dX5_move_50 (by decide) ?_
  refine lv_goto (tgt := 56) hx hb dX5_move_52 (by decide) ?_
  exact bX5_move_56 hC  hI hl hf
set_option maxRecDepth 20000 in
set_option maxHeartbeats 4000000 in
theorem bX5_move {st : Nat → Nat} {p : Program} {l : Launch} {e : Env} {s : State} {m : MethodId} {args : Array Value} {below : List Frame} {meth : Method} {c : Code} {D : va_G} {A : Nat → Prop} {ad : Nat → Nat} {cy : Nat → ClassId} (hC : zC p m c cX5_move 4 s args wzX5_move RX5 meth (some .int))  {res : zSt × Int32} {H : Heap} {locs : List Loc} {σ : zSt} {ls : Array Slot} {x1 : Int32} (hI : zI st D (tC cy) (wC ad cy σ) A s H locs) (hl : lv_has ls 4 [(0, .ref (ad 7)), (1, .int x1)]) (hf : fX5_move  σ x1 = some res) : W p l e rmX5_move s m args below meth c H locs 0 0 (zQi below args s D (tC cy) (wC ad cy) A res) (F0 m 0 ls []) := by
  have hx := hC.1
  have hb := hC.2.1
  unfold fX5_move at hf
  refine lv_iload_n hx hb dX5_move_0 rfl (lv_at hl 1 rfl) ?_
  refine lv_bipush (v := 118) hx hb dX5_move_1 (by decide) ?_
  refine lv_icmp_ne (tgt := 16) hx hb dX5_move_3 (by decide) (fun q => ?_) (fun q => ?_)
  · replace hf := zif_f q hf
    refine lv_iload_n hx hb dX5_move_16 rfl (lv_at hl 1 rfl) ?_
    refine lv_iconst (v := 3) hx hb dX5_move_17 (by decide) ?_
    refine lv_ishr hx hb dX5_move_18 ?_
    refine lv_bipush (v := 7) hx hb dX5_move_19 (by decide) ?_
    refine lv_iand hx hb dX5_move_21 ?_
    refine lv_topi (fun v1 ev1 => ?_)
    replace hf := zbv_use ev1 hf
    refine lv_istore_n (lv' := [(2, .int v1), (0, .ref (ad 7)), (1, .int x1)]) hx hb dX5_move_22 rfl hl (by decide) rfl (fun ls hl => ?_)
    refine lv_iload_n hx hb dX5_move_23 rfl (lv_at hl 2 rfl) ?_
    refine lv_bipush (v := 7) hx hb dX5_move_24 (by decide) ?_
    refine lv_iand hx hb dX5_move_26 ?_
    refine lv_topi (fun v2 ev2 => ?_)
    replace hf := zbv_use ev2 hf
    refine lv_istore_n (lv' := [(3, .int v2), (2, .int v1), (0, .ref (ad 7)), (1, .int x1)]) hx hb dX5_move_27 rfl hl (by decide) rfl (fun ls hl => ?_)
    refine lv_aload_n hx hb dX5_move_28 rfl (lv_at hl 2 rfl) ?_
    refine lv_iload_n hx hb dX5_move_29 rfl (lv_at hl 1 rfl) ?_
    refine lv_aload_n hx hb dX5_move_30 rfl (lv_at hl 2 rfl) ?_
    refine lv_iload_n hx hb dX5_move_31 rfl (lv_at hl 0 rfl) ?_
    obtain ⟨σ3, v4, g3, hf⟩ := zbi_use hf
    refine z_callVi (As := [.int v2]) (rest := [.int v1, .ref (ad 7)]) hC hI (cX5_one_met st l D ad cy σ v2 _ g3) (zgV zw24_4 zw24_5 zw24_6 zw2_21 zw24_7) rfl ⟨rfl, rfl⟩ 1 hdX5_one ⟨Nat.le_of_ble_eq_true rfl, Nat.le_of_ble_eq_true rfl⟩ rfl rfl (wC_e7 ad cy σ) rfl hl rfl (Nat.le_of_ble_eq_true rfl) dX5_move_32 ⟨Nat.zero_le _, Nat.zero_le _⟩ (fun H locs hI => ?_)
    obtain ⟨σ5, g5, hf⟩ := zbu_use hf
    refine z_callVu (As := [.int v1, .int v4]) (rest := []) hC hI (cX5_putOne_met st l D ad cy σ3 v1 v4 _ g5) (zgV zw23_8 zw23_9 zw23_10 zw2_21 zw23_11) rfl ⟨rfl, rfl⟩ 2 hdX5_putOne ⟨Nat.le_of_ble_eq_true rfl, Nat.le_of_ble_eq_true rfl⟩ rfl rfl (wC_e7 ad cy σ3) rfl hl rfl (Nat.le_of_ble_eq_true rfl) dX5_move_35 ⟨Nat.zero_le _, Nat.zero_le _⟩ (fun H locs hI => ?_)
    refine lv_iload_n hx hb dX5_move_38 rfl (lv_at hl 1 rfl) ?_
    refine lv_bipush (v := 6) hx hb dX5_move_39 (by decide) ?_
    refine lv_icmp_eq (tgt := 50) hx hb dX5_move_41 (by decide) (fun q => ?_) (fun q => ?_)
    · replace hf := zif_t q hf
      exact bX5_move_50 hC  hI (lv_sub hl [] rfl) hf
    replace hf := zif_f q hf
    refine lv_iload_n hx hb dX5_move_44 rfl (lv_at hl 0 rfl) ?_
    refine lv_bipush (v := 6) hx hb dX5_move_45 (by decide) ?_
    refine lv_icmp_ne (tgt := 55) hx hb dX5_move_47 (by decide) (fun q => ?_) (fun q => ?_)
    · replace hf := zif_f q hf
      refine lv_iconst (v := 4) hx hb dX5_move_55 (by decide) ?_
      exact bX5_move_56 hC  hI (lv_sub hl [] rfl) hf
    replace hf := zif_t q hf
    exact bX5_move_50 hC  hI (lv_sub hl [] rfl) hf
  replace hf := zif_t q hf
  refine lv_aload_n hx hb dX5_move_6 rfl (lv_at hl 0 rfl) ?_
  refine z_get hC hI hinX5_move_X50 7 (wC_e7 ad cy σ) rfl 2 (by decide) (List.mem_cons_of_mem _ zw7_5) rfl dX5_move_7 ?_
  refine lv_bipush (v := 26) hx hb dX5_move_10 (by decide) ?_
  refine lv_iconst (v := 1) hx hb dX5_move_12 (by decide) ?_
  obtain ⟨q, hf⟩ := zck_use hf
  obtain ⟨σ6, eσ6⟩ : ∃ z, z = zsi σ 36 ((26 : Int32).toNatClampNeg) 1 := ⟨_, rfl⟩
  replace hf := zbv_use eσ6 hf
  refine z_iast hC hI 36 23 (wC_e36 ad cy σ) (tC_t36 cy) q ((wC_s36 ad cy σ _ _).trans (congrArg (wC ad cy) eσ6.symm)) dX5_move_13 (fun H locs hI => ?_)
  refine lv_iconst (v := 4) hx hb dX5_move_14 (by decide) ?_
  exact z_ireturn hC hI hf dX5_move_15
set_option maxRecDepth 20000 in
theorem cX5_move_met (st : Nat → Nat) (l : Launch) (D : va_G) (ad : Nat → Nat) (cy : Nat → ClassId) (σ : zSt) (x1 : Int32) (res : zSt × Int32) (hf : fX5_move σ x1 = some res) (sz : Nat) : zMi st l yX5_move wzX5_move rmX5_move [.ref (ad 7), .int x1] D (tC cy) (wC ad cy) sz σ res :=
  zMi.of (cc := cX5_move) (maxL := 4) (ret := (some .int)) (by decide) rfl (Nat.le_of_ble_eq_true rfl) (fun p e s m args below meth c hC A hI ls hl => bX5_move hC hI hl hf)
theorem hdX5_move : yX5_move.cls = RX5 ∧ yX5_move.cls ≠ "java/lang/invoke/MethodHandle" ∧ yX5_move.cls ≠ "java/lang/invoke/VarHandle" ∧ (parseMethodDescriptor yX5_move.desc).map (fun d => d.parameters.length) = some 1 := by decide +kernel
noncomputable def rmX5_adjustA : Room := { frames := 2, cells := 0, slots := 0, locals := 40 }
noncomputable def wzX5_adjustA : List Cond := .code yX5_adjustA cX5_adjustA 8 none :: wsL_law
theorem hinX5_adjustA_X50 : ∀ w ∈ wsX50, w ∈ wzX5_adjustA := fun w h => List.mem_cons_of_mem _ (inlX5 w h)
noncomputable def fX5_adjustA_202  (σ : zSt) (x4 : Int32) (s0 : Int32) (s1 : Int32) (s2 : Int32) : Option (zSt) :=
  zck (zin 1 29) (
  zck (zin s2 29) (zbv (zsi σ 36 (s2.toNatClampNeg) (((s1 ||| s0) ||| ((zgi σ 36 (1 : Int32).toNatClampNeg) &&& 2)) ||| x4)) (fun σ1 =>
  some σ1)))
noncomputable def fX5_adjustA_161  (σ : zSt) (x4 : Int32) (x6 : Int32) (s0 : Int32) : Option (zSt) :=
  zbv (s0 &&& 255) (fun v2 =>
  zck (zin 0 29) (zbv (zsi σ 36 ((0 : Int32).toNatClampNeg) v2) (fun σ3 =>
  zbi (fX5_by σ3 v2) (fun σ4 v5 =>
  zbi (fX5_parity σ4 v2) (fun σ6 v7 =>
  if x6 = 0 then fX5_adjustA_202 σ6 x4 0 (v5 ||| v7) 1 else
  fX5_adjustA_202 σ6 x4 16 (v5 ||| v7) 1)))))
noncomputable def fX5_adjustA_134  (σ : zSt) (x3 : Int32) (x4 : Int32) (x5 : Int32) (s0 : Int32) : Option (zSt) :=
  if x3 = 0 then zck (zin 0 29) (
  fX5_adjustA_161 σ x4 s0 ((zgi σ 36 (0 : Int32).toNatClampNeg) + x5)) else
  zck (zin 0 29) (
  fX5_adjustA_161 σ x4 s0 ((zgi σ 36 (0 : Int32).toNatClampNeg) - x5))
noncomputable def fX5_adjustA_119  (σ : zSt) (x3 : Int32) (x4 : Int32) (x5 : Int32) : Option (zSt) :=
  fX5_adjustA_134 σ x3 x4 x5 0
noncomputable def fX5_adjustA_98  (σ : zSt) (x1 : Int32) (x2 : Int32) (x3 : Int32) (x4 : Int32) (s0 : Int32) (s1 : Int32) : Option (zSt) :=
  zbv (s1 + s0) (fun v8 =>
  if x3 = 0 then if x1 ≤ 9 then fX5_adjustA_134 σ x3 x4 v8 0 else
  fX5_adjustA_134 σ x3 x4 v8 1 else
  if x2 = 0 then fX5_adjustA_119 σ x3 x4 v8 else
  if 6 ≤ x1 then fX5_adjustA_119 σ x3 x4 v8 else
  fX5_adjustA_134 σ x3 x4 v8 1)
noncomputable def fX5_adjustA_87  (σ : zSt) (x1 : Int32) (x2 : Int32) (x3 : Int32) (x4 : Int32) (s0 : Int32) : Option (zSt) :=
  if x4 = 0 then fX5_adjustA_98 σ x1 x2 x3 x4 0 s0 else
  fX5_adjustA_98 σ x1 x2 x3 x4 96 s0
noncomputable def fX5_adjustA_81  (σ : zSt) (x1 : Int32) (x2 : Int32) (x3 : Int32) (x4 : Int32) : Option (zSt) :=
  fX5_adjustA_87 σ x1 x2 x3 x4 6
noncomputable def fX5_adjustA_69  (σ : zSt) (x1 : Int32) (x2 : Int32) (x3 : Int32) (s0 : Int32) : Option (zSt) :=
  if 9 < x1 then fX5_adjustA_81 σ x1 x2 x3 s0 else
  if x2 = 0 then fX5_adjustA_87 σ x1 x2 x3 s0 0 else
  fX5_adjustA_81 σ x1 x2 x3 s0
noncomputable def fX5_adjustA_44  (σ : zSt) (x1 : Int32) (x2 : Int32) (s0 : Int32) : Option (zSt) :=
  zck (zin 0 29) (
  if (zgi σ 36 (0 : Int32).toNatClampNeg) ≤ 153 then zck (zin 1 29) (
  fX5_adjustA_69 σ x1 x2 s0 ((zgi σ 36 (1 : Int32).toNatClampNeg) &&& 1)) else
  fX5_adjustA_69 σ x1 x2 s0 1)
noncomputable def fX5_adjustA_27  (σ : zSt) (x1 : Int32) (s0 : Int32) : Option (zSt) :=
  zck (zin 1 29) (
  if ((zgi σ 36 (1 : Int32).toNatClampNeg) &&& 2) = 0 then fX5_adjustA_44 σ x1 s0 0 else
  fX5_adjustA_44 σ x1 s0 1)
noncomputable def fX5_adjustA  (σ : zSt)  : Option (zSt) :=
  zck (zin 0 29) (
  zbv ((zgi σ 36 (0 : Int32).toNatClampNeg) &&& 15) (fun v9 =>
  zck (zin 1 29) (
  if ((zgi σ 36 (1 : Int32).toNatClampNeg) &&& 16) = 0 then fX5_adjustA_27 σ v9 0 else
  fX5_adjustA_27 σ v9 1)))
set_option maxRecDepth 20000 in
set_option maxHeartbeats 4000000 in
theorem bX5_adjustA_202 {st : Nat → Nat} {p : Program} {l : Launch} {e : Env} {s : State} {m : MethodId} {args : Array Value} {below : List Frame} {meth : Method} {c : Code} {D : va_G} {A : Nat → Prop} {ad : Nat → Nat} {cy : Nat → ClassId} (hC : zC p m c cX5_adjustA 8 s args wzX5_adjustA RX5 meth none)  {res : zSt} {H : Heap} {locs : List Loc} {σ : zSt} {ls : Array Slot} {x4 : Int32} {s0 : Int32} {s1 : Int32} {s2 : Int32} (hI : zI st D (tC cy) (wC ad cy σ) A s H locs) (hl : lv_has ls 8 [(0, .ref (ad 7)), (4, .int x4)]) (hf : fX5_adjustA_202  σ x4 s0 s1 s2 = some res) : W p l e rmX5_adjustA s m args below meth c H locs 0 0 (zQu below args s D (tC cy) (wC ad cy) A res) (F0 m 202 ls [.int s0, .int s1, .int s2, .ref (ad 36)]) := by
  have hx := hC.1
  have hb := hC.2.1
  unfold fX5_adjustA_202 at hf
  refine lv_ior hx hb dX5_adjustA_202 ?_
  refine lv_aload_n hx hb dX5_adjustA_203 rfl (lv_at hl 0 rfl) ?_
  refine z_get hC hI hinX5_adjustA_X50 7 (wC_e7 ad cy σ) rfl 2 (by decide) (List.mem_cons_of_mem _ zw7_5) rfl dX5_adjustA_204 ?_
  refine lv_iconst (v := 1) hx hb dX5_adjustA_207 (by decide) ?_
  obtain ⟨q, hf⟩ := zck_use hf
  refine z_iald hC hI 36 23 (wC_e36 ad cy σ) (tC_t36 cy) q dX5_adjustA_208 ?_
  refine lv_iconst (v := 2) hx hb dX5_adjustA_209 (by decide) ?_
  refine lv_iand hx hb dX5_adjustA_210 ?_
  refine lv_ior hx hb dX5_adjustA_211 ?_
  refine lv_iload hx hb dX5_adjustA_212 (lv_at hl 1 rfl) ?_
  refine lv_ior hx hb dX5_adjustA_214 ?_
  obtain ⟨q, hf⟩ := zck_use hf
  obtain ⟨σ1, eσ1⟩ : ∃ z, z = zsi σ 36 (s2.toNatClampNeg) (((s1 ||| s0) ||| ((zgi σ 36 (1 : Int32).toNatClampNeg) &&& 2)) ||| x4) := ⟨_, rfl⟩
  replace hf := zbv_use eσ1 hf
  refine z_iast hC hI 36 23 (wC_e36 ad cy σ) (tC_t36 cy) q ((wC_s36 ad cy σ _ _).trans (congrArg (wC ad cy) eσ1.symm)) dX5_adjustA_215 (fun H locs hI => ?_)
  exact z_return hC hI hf dX5_adjustA_216
set_option maxRecDepth 20000 in
set_option maxHeartbeats 4000000 in
theorem bX5_adjustA_161 {st : Nat → Nat} {p : Program} {l : Launch} {e : Env} {s : State} {m : MethodId} {args : Array Value} {below : List Frame} {meth : Method} {c : Code} {D : va_G} {A : Nat → Prop} {ad : Nat → Nat} {cy : Nat → ClassId} (hC : zC p m c cX5_adjustA 8 s args wzX5_adjustA RX5 meth none)  {res : zSt} {H : Heap} {locs : List Loc} {σ : zSt} {ls : Array Slot} {x4 : Int32} {x6 : Int32} {s0 : Int32} (hI : zI st D (tC cy) (wC ad cy σ) A s H locs) (hl : lv_has ls 8 [(0, .ref (ad 7)), (4, .int x4), (6, .int x6)]) (hf : fX5_adjustA_161  σ x4 x6 s0 = some res) : W p l e rmX5_adjustA s m args below meth c H locs 0 0 (zQu below args s D (tC cy) (wC ad cy) A res) (F0 m 161 ls [.int s0]) := by
  have hx := hC.1
  have hb := hC.2.1
  unfold fX5_adjustA_161 at hf
  refine lv_sipush (v := 255) hx hb dX5_adjustA_161 (by decide) ?_
  refine lv_iand hx hb dX5_adjustA_164 ?_
  refine lv_topi (fun v2 ev2 => ?_)
  replace hf := zbv_use ev2 hf
  refine lv_istore (lv' := [(7, .int v2), (0, .ref (ad 7)), (4, .int x4), (6, .int x6)]) hx hb dX5_adjustA_165 hl (by decide) rfl (fun ls hl => ?_)
  refine lv_aload_n hx hb dX5_adjustA_167 rfl (lv_at hl 1 rfl) ?_
  refine z_get hC hI hinX5_adjustA_X50 7 (wC_e7 ad cy σ) rfl 2 (by decide) (List.mem_cons_of_mem _ zw7_5) rfl dX5_adjustA_168 ?_
  refine lv_iconst (v := 0) hx hb dX5_adjustA_171 (by decide) ?_
  refine lv_iload hx hb dX5_adjustA_172 (lv_at hl 0 rfl) ?_
  obtain ⟨q, hf⟩ := zck_use hf
  obtain ⟨σ3, eσ3⟩ : ∃ z, z = zsi σ 36 ((0 : Int32).toNatClampNeg) v2 := ⟨_, rfl⟩
  replace hf := zbv_use eσ3 hf
  refine z_iast hC hI 36 23 (wC_e36 ad cy σ) (tC_t36 cy) q ((wC_s36 ad cy σ _ _).trans (congrArg (wC ad cy) eσ3.symm)) dX5_adjustA_174 (fun H locs hI => ?_)
  refine lv_aload_n hx hb dX5_adjustA_175 rfl (lv_at hl 1 rfl) ?_
  refine z_get hC hI hinX5_adjustA_X50 7 (wC_e7 ad cy σ3) rfl 2 (by decide) (List.mem_cons_of_mem _ zw7_5) rfl dX5_adjustA_176 ?_
  refine lv_iconst (v := 1) hx hb dX5_adjustA_179 (by decide) ?_
  refine lv_iload hx hb dX5_adjustA_180 (lv_at hl 0 rfl) ?_
  obtain ⟨σ4, v5, g4, hf⟩ := zbi_use hf
  refine z_callSi (As := [.int v2]) (rest := [.int 1, .ref (ad 36)]) hC hI (cX5_by_met st l D ad cy σ3 v2 _ g4) (zgS zw22_19 zw22_20 zw2_21 zw22_21) rfl ⟨rfl, rfl⟩ 1 hdX5_by ⟨Nat.le_of_ble_eq_true rfl, Nat.le_of_ble_eq_true rfl⟩ rfl hl rfl (Nat.le_of_ble_eq_true rfl) dX5_adjustA_182 ⟨Nat.zero_le _, Nat.zero_le _⟩ (fun H locs hI => ?_)
  refine lv_iload hx hb dX5_adjustA_185 (lv_at hl 0 rfl) ?_
  obtain ⟨σ6, v7, g6, hf⟩ := zbi_use hf
  refine z_callSi (As := [.int v2]) (rest := [.int v5, .int 1, .ref (ad 36)]) hC hI (cX5_parity_met st l D ad cy σ4 v2 _ g6) (zgS zw22_22 zw22_23 zw2_21 zw23_0) rfl ⟨rfl, rfl⟩ 1 hdX5_parity ⟨Nat.le_of_ble_eq_true rfl, Nat.le_of_ble_eq_true rfl⟩ rfl hl rfl (Nat.le_of_ble_eq_true rfl) dX5_adjustA_187 ⟨Nat.zero_le _, Nat.zero_le _⟩ (fun H locs hI => ?_)
  refine lv_ior hx hb dX5_adjustA_190 ?_
  refine lv_iload hx hb dX5_adjustA_191 (lv_at hl 3 rfl) ?_
  refine lv_if_eq (tgt := 201) hx hb dX5_adjustA_193 (by decide) (fun q => ?_) (fun q => ?_)
  · replace hf := zif_t q hf
    refine lv_iconst (v := 0) hx hb dX5_adjustA_201 (by decide) ?_
    exact bX5_adjustA_202 hC  hI (lv_sub hl [1, 2] rfl) hf
  replace hf := zif_f q hf
  refine lv_bipush (v := 16) hx hb dX5_adjustA_196 (by decide) ?_
  refine lv_goto (tgt := 202) hx hb dX5_adjustA_198 (by decide) ?_
  exact bX5_adjustA_202 hC  hI (lv_sub hl [1, 2] rfl) hf
set_option maxRecDepth 20000 in
set_option maxHeartbeats 4000000 in
theorem bX5_adjustA_134 {st : Nat → Nat} {p : Program} {l : Launch} {e : Env} {s : State} {m : MethodId} {args : Array Value} {below : List Frame} {meth : Method} {c : Code} {D : va_G} {A : Nat → Prop} {ad : Nat → Nat} {cy : Nat → ClassId} (hC : zC p m c cX5_adjustA 8 s args wzX5_adjustA RX5 meth none)  {res : zSt} {H : Heap} {locs : List Loc} {σ : zSt} {ls : Array Slot} {x3 : Int32} {x4 : Int32} {x5 : Int32} {s0 : Int32} (hI : zI st D (tC cy) (wC ad cy σ) A s H locs) (hl : lv_has ls 8 [(0, .ref (ad 7)), (3, .int x3), (4, .int x4), (5, .int x5)]) (hf : fX5_adjustA_134  σ x3 x4 x5 s0 = some res) : W p l e rmX5_adjustA s m args below meth c H locs 0 0 (zQu below args s D (tC cy) (wC ad cy) A res) (F0 m 134 ls [.int s0]) := by
  have hx := hC.1
  have hb := hC.2.1
  unfold fX5_adjustA_134 at hf
  refine lv_istore (lv' := [(6, .int s0), (0, .ref (ad 7)), (3, .int x3), (4, .int x4), (5, .int x5)]) hx hb dX5_adjustA_134 hl (by decide) rfl (fun ls hl => ?_)
  refine lv_iload_n hx hb dX5_adjustA_136 rfl (lv_at hl 2 rfl) ?_
  refine lv_if_eq (tgt := 152) hx hb dX5_adjustA_137 (by decide) (fun q => ?_) (fun q => ?_)
  · replace hf := zif_t q hf
    refine lv_aload_n hx hb dX5_adjustA_152 rfl (lv_at hl 1 rfl) ?_
    refine z_get hC hI hinX5_adjustA_X50 7 (wC_e7 ad cy σ) rfl 2 (by decide) (List.mem_cons_of_mem _ zw7_5) rfl dX5_adjustA_153 ?_
    refine lv_iconst (v := 0) hx hb dX5_adjustA_156 (by decide) ?_
    obtain ⟨q, hf⟩ := zck_use hf
    refine z_iald hC hI 36 23 (wC_e36 ad cy σ) (tC_t36 cy) q dX5_adjustA_157 ?_
    refine lv_iload hx hb dX5_adjustA_158 (lv_at hl 4 rfl) ?_
    refine lv_iadd hx hb dX5_adjustA_160 ?_
    exact bX5_adjustA_161 hC  hI (lv_sub hl [1, 3, 0] rfl) hf
  replace hf := zif_f q hf
  refine lv_aload_n hx hb dX5_adjustA_140 rfl (lv_at hl 1 rfl) ?_
  refine z_get hC hI hinX5_adjustA_X50 7 (wC_e7 ad cy σ) rfl 2 (by decide) (List.mem_cons_of_mem _ zw7_5) rfl dX5_adjustA_141 ?_
  refine lv_iconst (v := 0) hx hb dX5_adjustA_144 (by decide) ?_
  obtain ⟨q, hf⟩ := zck_use hf
  refine z_iald hC hI 36 23 (wC_e36 ad cy σ) (tC_t36 cy) q dX5_adjustA_145 ?_
  refine lv_iload hx hb dX5_adjustA_146 (lv_at hl 4 rfl) ?_
  refine lv_isub hx hb dX5_adjustA_148 ?_
  refine lv_goto (tgt := 161) hx hb dX5_adjustA_149 (by decide) ?_
  exact bX5_adjustA_161 hC  hI (lv_sub hl [1, 3, 0] rfl) hf
set_option maxRecDepth 20000 in
set_option maxHeartbeats 4000000 in
theorem bX5_adjustA_119 {st : Nat → Nat} {p : Program} {l : Launch} {e : Env} {s : State} {m : MethodId} {args : Array Value} {below : List Frame} {meth : Method} {c : Code} {D : va_G} {A : Nat → Prop} {ad : Nat → Nat} {cy : Nat → ClassId} (hC : zC p m c cX5_adjustA 8 s args wzX5_adjustA RX5 meth none)  {res : zSt} {H : Heap} {locs : List Loc} {σ : zSt} {ls : Array Slot} {x3 : Int32} {x4 : Int32} {x5 : Int32} (hI : zI st D (tC cy) (wC ad cy σ) A s H locs) (hl : lv_has ls 8 [(0, .ref (ad 7)), (3, .int x3), (4, .int x4), (5, .int x5)]) (hf : fX5_adjustA_119  σ x3 x4 x5 = some res) : W p l e rmX5_adjustA s m args below meth c H locs 0 0 (zQu below args s D (tC cy) (wC ad cy) A res) (F0 m 119 ls []) := by
  have hx := hC.1
  have hb := hC.2.1
  unfold fX5_adjustA_119 at hf
  refine lv_iconst (v := 0) hx hb dX5_adjustA_119 (by decide) ?_
  refine lv_goto (tgt := 134) hx hb dX5_adjustA_120 (by decide) ?_
  exact bX5_adjustA_134 hC  hI hl hf
set_option maxRecDepth 20000 in
set_option maxHeartbeats 4000000 in
theorem bX5_adjustA_98 {st : Nat → Nat} {p : Program} {l : Launch} {e : Env} {s : State} {m : MethodId} {args : Array Value} {below : List Frame} {meth : Method} {c : Code} {D : va_G} {A : Nat → Prop} {ad : Nat → Nat} {cy : Nat → ClassId} (hC : zC p m c cX5_adjustA 8 s args wzX5_adjustA RX5 meth none)  {res : zSt} {H : Heap} {locs : List Loc} {σ : zSt} {ls : Array Slot} {x1 : Int32} {x2 : Int32} {x3 : Int32} {x4 : Int32} {s0 : Int32} {s1 : Int32} (hI : zI st D (tC cy) (wC ad cy σ) A s H locs) (hl : lv_has ls 8 [(0, .ref (ad 7)), (1, .int x1), (2, .int x2), (3, .int x3), (4, .int x4)]) (hf : fX5_adjustA_98  σ x1 x2 x3 x4 s0 s1 = some res) : W p l e rmX5_adjustA s m args below meth c H locs 0 0 (zQu below args s D (tC cy) (wC ad cy) A res) (F0 m 98 ls [.int s0, .int s1]) := by
  have hx := hC.1
  have hb := hC.2.1
  unfold fX5_adjustA_98 at hf
  refine lv_iadd hx hb dX5_adjustA_98 ?_
  refine lv_topi (fun v8 ev8 => ?_)
  replace hf := zbv_use ev8 hf
  refine lv_istore (lv' := [(5, .int v8), (0, .ref (ad 7)), (1, .int x1), (2, .int x2), (3, .int x3), (4, .int x4)]) hx hb dX5_adjustA_99 hl (by decide) rfl (fun ls hl => ?_)
  refine lv_iload_n hx hb dX5_adjustA_101 rfl (lv_at hl 4 rfl) ?_
  refine lv_if_eq (tgt := 123) hx hb dX5_adjustA_102 (by decide) (fun q => ?_) (fun q => ?_)
  · replace hf := zif_t q hf
    refine lv_iload_n hx hb dX5_adjustA_123 rfl (lv_at hl 2 rfl) ?_
    refine lv_bipush (v := 9) hx hb dX5_adjustA_124 (by decide) ?_
    refine lv_icmp_le (tgt := 133) hx hb dX5_adjustA_126 (by decide) (fun q => ?_) (fun q => ?_)
    · replace hf := zif_t q hf
      refine lv_iconst (v := 0) hx hb dX5_adjustA_133 (by decide) ?_
      exact bX5_adjustA_134 hC  hI (lv_sub hl [1, 4, 5, 0] rfl) hf
    replace hf := zif_f q hf
    refine lv_iconst (v := 1) hx hb dX5_adjustA_129 (by decide) ?_
    refine lv_goto (tgt := 134) hx hb dX5_adjustA_130 (by decide) ?_
    exact bX5_adjustA_134 hC  hI (lv_sub hl [1, 4, 5, 0] rfl) hf
  replace hf := zif_f q hf
  refine lv_iload_n hx hb dX5_adjustA_105 rfl (lv_at hl 3 rfl) ?_
  refine lv_if_eq (tgt := 119) hx hb dX5_adjustA_106 (by decide) (fun q => ?_) (fun q => ?_)
  · replace hf := zif_t q hf
    exact bX5_adjustA_119 hC  hI (lv_sub hl [1, 4, 5, 0] rfl) hf
  replace hf := zif_f q hf
  refine lv_iload_n hx hb dX5_adjustA_109 rfl (lv_at hl 2 rfl) ?_
  refine lv_bipush (v := 6) hx hb dX5_adjustA_110 (by decide) ?_
  refine lv_icmp_ge (tgt := 119) hx hb dX5_adjustA_112 (by decide) (fun q => ?_) (fun q => ?_)
  · replace hf := zif_t q hf
    exact bX5_adjustA_119 hC  hI (lv_sub hl [1, 4, 5, 0] rfl) hf
  replace hf := zif_f q hf
  refine lv_iconst (v := 1) hx hb dX5_adjustA_115 (by decide) ?_
  refine lv_goto (tgt := 134) hx hb dX5_adjustA_116 (by decide) ?_
  exact bX5_adjustA_134 hC  hI (lv_sub hl [1, 4, 5, 0] rfl) hf
set_option maxRecDepth 20000 in
set_option maxHeartbeats 4000000 in
theorem bX5_adjustA_87 {st : Nat → Nat} {p : Program} {l : Launch} {e : Env} {s : State} {m : MethodId} {args : Array Value} {below : List Frame} {meth : Method} {c : Code} {D : va_G} {A : Nat → Prop} {ad : Nat → Nat} {cy : Nat → ClassId} (hC : zC p m c cX5_adjustA 8 s args wzX5_adjustA RX5 meth none)  {res : zSt} {H : Heap} {locs : List Loc} {σ : zSt} {ls : Array Slot} {x1 : Int32} {x2 : Int32} {x3 : Int32} {x4 : Int32} {s0 : Int32} (hI : zI st D (tC cy) (wC ad cy σ) A s H locs) (hl : lv_has ls 8 [(0, .ref (ad 7)), (1, .int x1), (2, .int x2), (3, .int x3), (4, .int x4)]) (hf : fX5_adjustA_87  σ x1 x2 x3 x4 s0 = some res) : W p l e rmX5_adjustA s m args below meth c H locs 0 0 (zQu below args s D (tC cy) (wC ad cy) A res) (F0 m 87 ls [.int s0]) := by
  have hx := hC.1
  have hb := hC.2.1
  unfold fX5_adjustA_87 at hf
  refine lv_iload hx hb dX5_adjustA_87 (lv_at hl 4 rfl) ?_
  refine lv_if_eq (tgt := 97) hx hb dX5_adjustA_89 (by decide) (fun q => ?_) (fun q => ?_)
  · replace hf := zif_t q hf
    refine lv_iconst (v := 0) hx hb dX5_adjustA_97 (by decide) ?_
    exact bX5_adjustA_98 hC  hI hl hf
  replace hf := zif_f q hf
  refine lv_bipush (v := 96) hx hb dX5_adjustA_92 (by decide) ?_
  refine lv_goto (tgt := 98) hx hb dX5_adjustA_94 (by decide) ?_
  exact bX5_adjustA_98 hC  hI hl hf
set_option maxRecDepth 20000 in
set_option maxHeartbeats 4000000 in
theorem bX5_adjustA_81 {st : Nat → Nat} {p : Program} {l : Launch} {e : Env} {s : State} {m : MethodId} {args : Array Value} {below : List Frame} {meth : Method} {c : Code} {D : va_G} {A : Nat → Prop} {ad : Nat → Nat} {cy : Nat → ClassId} (hC : zC p m c cX5_adjustA 8 s args wzX5_adjustA RX5 meth none)  {res : zSt} {H : Heap} {locs : List Loc} {σ : zSt} {ls : Array Slot} {x1 : Int32} {x2 : Int32} {x3 : Int32} {x4 : Int32} (hI : zI st D (tC cy) (wC ad cy σ) A s H locs) (hl : lv_has ls 8 [(0, .ref (ad 7)), (1, .int x1), (2, .int x2), (3, .int x3), (4, .int x4)]) (hf : fX5_adjustA_81  σ x1 x2 x3 x4 = some res) : W p l e rmX5_adjustA s m args below meth c H locs 0 0 (zQu below args s D (tC cy) (wC ad cy) A res) (F0 m 81 ls []) := by
  have hx := hC.1
  have hb := hC.2.1
  unfold fX5_adjustA_81 at hf
  refine lv_bipush (v := 6) hx hb dX5_adjustA_81 (by decide) ?_
  refine lv_goto (tgt := 87) hx hb dX5_adjustA_83 (by decide) ?_
  exact bX5_adjustA_87 hC  hI hl hf
set_option maxRecDepth 20000 in
set_option maxHeartbeats 4000000 in
theorem bX5_adjustA_69 {st : Nat → Nat} {p : Program} {l : Launch} {e : Env} {s : State} {m : MethodId} {args : Array Value} {below : List Frame} {meth : Method} {c : Code} {D : va_G} {A : Nat → Prop} {ad : Nat → Nat} {cy : Nat → ClassId} (hC : zC p m c cX5_adjustA 8 s args wzX5_adjustA RX5 meth none)  {res : zSt} {H : Heap} {locs : List Loc} {σ : zSt} {ls : Array Slot} {x1 : Int32} {x2 : Int32} {x3 : Int32} {s0 : Int32} (hI : zI st D (tC cy) (wC ad cy σ) A s H locs) (hl : lv_has ls 8 [(0, .ref (ad 7)), (1, .int x1), (2, .int x2), (3, .int x3)]) (hf : fX5_adjustA_69  σ x1 x2 x3 s0 = some res) : W p l e rmX5_adjustA s m args below meth c H locs 0 0 (zQu below args s D (tC cy) (wC ad cy) A res) (F0 m 69 ls [.int s0]) := by
  have hx := hC.1
  have hb := hC.2.1
  unfold fX5_adjustA_69 at hf
  refine lv_istore (lv' := [(4, .int s0), (0, .ref (ad 7)), (1, .int x1), (2, .int x2), (3, .int x3)]) hx hb dX5_adjustA_69 hl (by decide) rfl (fun ls hl => ?_)
  refine lv_iload_n hx hb dX5_adjustA_71 rfl (lv_at hl 2 rfl) ?_
  refine lv_bipush (v := 9) hx hb dX5_adjustA_72 (by decide) ?_
  refine lv_icmp_gt (tgt := 81) hx hb dX5_adjustA_74 (by decide) (fun q => ?_) (fun q => ?_)
  · replace hf := zif_t q hf
    exact bX5_adjustA_81 hC  hI (lv_sub hl [1, 2, 3, 4, 0] rfl) hf
  replace hf := zif_f q hf
  refine lv_iload_n hx hb dX5_adjustA_77 rfl (lv_at hl 3 rfl) ?_
  refine lv_if_eq (tgt := 86) hx hb dX5_adjustA_78 (by decide) (fun q => ?_) (fun q => ?_)
  · replace hf := zif_t q hf
    refine lv_iconst (v := 0) hx hb dX5_adjustA_86 (by decide) ?_
    exact bX5_adjustA_87 hC  hI (lv_sub hl [1, 2, 3, 4, 0] rfl) hf
  replace hf := zif_f q hf
  exact bX5_adjustA_81 hC  hI (lv_sub hl [1, 2, 3, 4, 0] rfl) hf
set_option maxRecDepth 20000 in
set_option maxHeartbeats 4000000 in
theorem bX5_adjustA_44 {st : Nat → Nat} {p : Program} {l : Launch} {e : Env} {s : State} {m : MethodId} {args : Array Value} {below : List Frame} {meth : Method} {c : Code} {D : va_G} {A : Nat → Prop} {ad : Nat → Nat} {cy : Nat → ClassId} (hC : zC p m c cX5_adjustA 8 s args wzX5_adjustA RX5 meth none)  {res : zSt} {H : Heap} {locs : List Loc} {σ : zSt} {ls : Array Slot} {x1 : Int32} {x2 : Int32} {s0 : Int32} (hI : zI st D (tC cy) (wC ad cy σ) A s H locs) (hl : lv_has ls 8 [(0, .ref (ad 7)), (1, .int x1), (2, .int x2)]) (hf : fX5_adjustA_44  σ x1 x2 s0 = some res) : W p l e rmX5_adjustA s m args below meth c H locs 0 0 (zQu below args s D (tC cy) (wC ad cy) A res) (F0 m 44 ls [.int s0]) := by
  have hx := hC.1
  have hb := hC.2.1
  unfold fX5_adjustA_44 at hf
  refine lv_istore_n (lv' := [(3, .int s0), (0, .ref (ad 7)), (1, .int x1), (2, .int x2)]) hx hb dX5_adjustA_44 rfl hl (by decide) rfl (fun ls hl => ?_)
  refine lv_aload_n hx hb dX5_adjustA_45 rfl (lv_at hl 1 rfl) ?_
  refine z_get hC hI hinX5_adjustA_X50 7 (wC_e7 ad cy σ) rfl 2 (by decide) (List.mem_cons_of_mem _ zw7_5) rfl dX5_adjustA_46 ?_
  refine lv_iconst (v := 0) hx hb dX5_adjustA_49 (by decide) ?_
  obtain ⟨q, hf⟩ := zck_use hf
  refine z_iald hC hI 36 23 (wC_e36 ad cy σ) (tC_t36 cy) q dX5_adjustA_50 ?_
  refine lv_sipush (v := 153) hx hb dX5_adjustA_51 (by decide) ?_
  refine lv_icmp_le (tgt := 61) hx hb dX5_adjustA_54 (by decide) (fun q => ?_) (fun q => ?_)
  · replace hf := zif_t q hf
    refine lv_aload_n hx hb dX5_adjustA_61 rfl (lv_at hl 1 rfl) ?_
    refine z_get hC hI hinX5_adjustA_X50 7 (wC_e7 ad cy σ) rfl 2 (by decide) (List.mem_cons_of_mem _ zw7_5) rfl dX5_adjustA_62 ?_
    refine lv_iconst (v := 1) hx hb dX5_adjustA_65 (by decide) ?_
    obtain ⟨q, hf⟩ := zck_use hf
    refine z_iald hC hI 36 23 (wC_e36 ad cy σ) (tC_t36 cy) q dX5_adjustA_66 ?_
    refine lv_iconst (v := 1) hx hb dX5_adjustA_67 (by decide) ?_
    refine lv_iand hx hb dX5_adjustA_68 ?_
    exact bX5_adjustA_69 hC  hI (lv_sub hl [1, 2, 3, 0] rfl) hf
  replace hf := zif_f q hf
  refine lv_iconst (v := 1) hx hb dX5_adjustA_57 (by decide) ?_
  refine lv_goto (tgt := 69) hx hb dX5_adjustA_58 (by decide) ?_
  exact bX5_adjustA_69 hC  hI (lv_sub hl [1, 2, 3, 0] rfl) hf
set_option maxRecDepth 20000 in
set_option maxHeartbeats 4000000 in
theorem bX5_adjustA_27 {st : Nat → Nat} {p : Program} {l : Launch} {e : Env} {s : State} {m : MethodId} {args : Array Value} {below : List Frame} {meth : Method} {c : Code} {D : va_G} {A : Nat → Prop} {ad : Nat → Nat} {cy : Nat → ClassId} (hC : zC p m c cX5_adjustA 8 s args wzX5_adjustA RX5 meth none)  {res : zSt} {H : Heap} {locs : List Loc} {σ : zSt} {ls : Array Slot} {x1 : Int32} {s0 : Int32} (hI : zI st D (tC cy) (wC ad cy σ) A s H locs) (hl : lv_has ls 8 [(0, .ref (ad 7)), (1, .int x1)]) (hf : fX5_adjustA_27  σ x1 s0 = some res) : W p l e rmX5_adjustA s m args below meth c H locs 0 0 (zQu below args s D (tC cy) (wC ad cy) A res) (F0 m 27 ls [.int s0]) := by
  have hx := hC.1
  have hb := hC.2.1
  unfold fX5_adjustA_27 at hf
  refine lv_istore_n (lv' := [(2, .int s0), (0, .ref (ad 7)), (1, .int x1)]) hx hb dX5_adjustA_27 rfl hl (by decide) rfl (fun ls hl => ?_)
  refine lv_aload_n hx hb dX5_adjustA_28 rfl (lv_at hl 1 rfl) ?_
  refine z_get hC hI hinX5_adjustA_X50 7 (wC_e7 ad cy σ) rfl 2 (by decide) (List.mem_cons_of_mem _ zw7_5) rfl dX5_adjustA_29 ?_
  refine lv_iconst (v := 1) hx hb dX5_adjustA_32 (by decide) ?_
  obtain ⟨q, hf⟩ := zck_use hf
  refine z_iald hC hI 36 23 (wC_e36 ad cy σ) (tC_t36 cy) q dX5_adjustA_33 ?_
  refine lv_iconst (v := 2) hx hb dX5_adjustA_34 (by decide) ?_
  refine lv_iand hx hb dX5_adjustA_35 ?_
  refine lv_if_eq (tgt := 43) hx hb dX5_adjustA_36 (by decide) (fun q => ?_) (fun q => ?_)
  · replace hf := zif_t q hf
    refine lv_iconst (v := 0) hx hb dX5_adjustA_43 (by decide) ?_
    exact bX5_adjustA_44 hC  hI (lv_sub hl [1, 2, 0] rfl) hf
  replace hf := zif_f q hf
  refine lv_iconst (v := 1) hx hb dX5_adjustA_39 (by decide) ?_
  refine lv_goto (tgt := 44) hx hb dX5_adjustA_40 (by decide) ?_
  exact bX5_adjustA_44 hC  hI (lv_sub hl [1, 2, 0] rfl) hf
set_option maxRecDepth 20000 in
set_option maxHeartbeats 4000000 in
theorem bX5_adjustA {st : Nat → Nat} {p : Program} {l : Launch} {e : Env} {s : State} {m : MethodId} {args : Array Value} {below : List Frame} {meth : Method} {c : Code} {D : va_G} {A : Nat → Prop} {ad : Nat → Nat} {cy : Nat → ClassId} (hC : zC p m c cX5_adjustA 8 s args wzX5_adjustA RX5 meth none)  {res : zSt} {H : Heap} {locs : List Loc} {σ : zSt} {ls : Array Slot}  (hI : zI st D (tC cy) (wC ad cy σ) A s H locs) (hl : lv_has ls 8 [(0, .ref (ad 7))]) (hf : fX5_adjustA  σ  = some res) : W p l e rmX5_adjustA s m args below meth c H locs 0 0 (zQu below args s D (tC cy) (wC ad cy) A res) (F0 m 0 ls []) := by
  have hx := hC.1
  have hb := hC.2.1
  unfold fX5_adjustA at hf
  refine lv_aload_n hx hb dX5_adjustA_0 rfl (lv_at hl 0 rfl) ?_
  refine z_get hC hI hinX5_adjustA_X50 7 (wC_e7 ad cy σ) rfl 2 (by decide) (List.mem_cons_of_mem _ zw7_5) rfl dX5_adjustA_1 ?_
  refine lv_iconst (v := 0) hx hb dX5_adjustA_4 (by decide) ?_
  obtain ⟨q, hf⟩ := zck_use hf
  refine z_iald hC hI 36 23 (wC_e36 ad cy σ) (tC_t36 cy) q dX5_adjustA_5 ?_
  refine lv_bipush (v := 15) hx hb dX5_adjustA_6 (by decide) ?_
  refine lv_iand hx hb dX5_adjustA_8 ?_
  refine lv_topi (fun v9 ev9 => ?_)
  replace hf := zbv_use ev9 hf
  refine lv_istore_n (lv' := [(1, .int v9), (0, .ref (ad 7))]) hx hb dX5_adjustA_9 rfl hl (by decide) rfl (fun ls hl => ?_)
  refine lv_aload_n hx hb dX5_adjustA_10 rfl (lv_at hl 1 rfl) ?_
  refine z_get hC hI hinX5_adjustA_X50 7 (wC_e7 ad cy σ) rfl 2 (by decide) (List.mem_cons_of_mem _ zw7_5) rfl dX5_adjustA_11 ?_
  refine lv_iconst (v := 1) hx hb dX5_adjustA_14 (by decide) ?_
  obtain ⟨q, hf⟩ := zck_use hf
  refine z_iald hC hI 36 23 (wC_e36 ad cy σ) (tC_t36 cy) q dX5_adjustA_15 ?_
  refine lv_bipush (v := 16) hx hb dX5_adjustA_16 (by decide) ?_
  refine lv_iand hx hb dX5_adjustA_18 ?_
  refine lv_if_eq (tgt := 26) hx hb dX5_adjustA_19 (by decide) (fun q => ?_) (fun q => ?_)
  · replace hf := zif_t q hf
    refine lv_iconst (v := 0) hx hb dX5_adjustA_26 (by decide) ?_
    exact bX5_adjustA_27 hC  hI (lv_sub hl [1, 0] rfl) hf
  replace hf := zif_f q hf
  refine lv_iconst (v := 1) hx hb dX5_adjustA_22 (by decide) ?_
  refine lv_goto (tgt := 27) hx hb dX5_adjustA_23 (by decide) ?_
  exact bX5_adjustA_27 hC  hI (lv_sub hl [1, 0] rfl) hf
set_option maxRecDepth 20000 in
theorem cX5_adjustA_met (st : Nat → Nat) (l : Launch) (D : va_G) (ad : Nat → Nat) (cy : Nat → ClassId) (σ : zSt)  (res : zSt) (hf : fX5_adjustA σ  = some res) (sz : Nat) : zMu st l yX5_adjustA wzX5_adjustA rmX5_adjustA [.ref (ad 7)] D (tC cy) (wC ad cy) sz σ res :=
  zMu.of (cc := cX5_adjustA) (maxL := 8) (ret := none) (by decide) rfl (Nat.le_of_ble_eq_true rfl) (fun p e s m args below meth c hC A hI ls hl => bX5_adjustA hC hI hl hf)
theorem hdX5_adjustA : yX5_adjustA.cls = RX5 ∧ yX5_adjustA.cls ≠ "java/lang/invoke/MethodHandle" ∧ yX5_adjustA.cls ≠ "java/lang/invoke/VarHandle" ∧ (parseMethodDescriptor yX5_adjustA.desc).map (fun d => d.parameters.length) = some 0 := by decide +kernel
end ZJN0
section ZJN1
noncomputable def kn_cX5_carryOn : Nat := 0xac606b00b61b2a0800a76800b67e07107a061b2a1000a0067e07101b1cac606500b61b2a1cac606200b61b2a1cac605f00b61b2a1c2a000000220000001a00000002000000000000003200000000aa7a06101bac5c00b61b2a0800a75900b61b2a0b00a0a000117ee400111b3c4700b62a2100a0ed00111bac5600b64700b62a2a0c00a0cb00111b3d5300b61b2aac5000b62a0800a0cb00111b3c4700b62a1000b511100500a710100800a0dd00111b2aac074f041c100900b42a0d00a0fd00111d0a009fed00111d11009fdd00111d3e4b00b62e13100900b42a1400b42a5a00a0fd00111b0a009fdd00111b3d033c4700b62a4400b54100b606102a2a1000b506102aac073800b62a0900a0042e1a100900b42a
theorem zk_cX5_carryOn : zkd cX5_carryOn.data.toList kn_cX5_carryOn = true := by decide +kernel
theorem zn_cX5_carryOn : cX5_carryOn.data.toList.length = 277 := by decide +kernel
theorem dX5_carryOn_0 : decode cX5_carryOn 0 = .ok (.aload_n 0, 1) := zo_42 (zkb zk_cX5_carryOn zn_cX5_carryOn rfl)
theorem dX5_carryOn_1 : decode cX5_carryOn 1 = .ok (.getfield 9, 3) := zo_180 (b1 := 0) (b2 := 9) (zkb3 zk_cX5_carryOn zn_cX5_carryOn rfl) rfl
theorem dX5_carryOn_4 : decode cX5_carryOn 4 = .ok (.bipush 26, 2) := zo_16 (b1 := 26) (zkb2 zk_cX5_carryOn zn_cX5_carryOn rfl) rfl
theorem dX5_carryOn_6 : decode cX5_carryOn 6 = .ok (.iaload, 1) := zo_46 (zkb zk_cX5_carryOn zn_cX5_carryOn rfl)
theorem dX5_carryOn_7 : decode cX5_carryOn 7 = .ok (.iconst 1, 1) := zo_4 (zkb zk_cX5_carryOn zn_cX5_carryOn rfl)
theorem dX5_carryOn_8 : decode cX5_carryOn 8 = .ok (.if_icmp .ne 9, 3) := zo_160 (b1 := 0) (b2 := 9) (zkb3 zk_cX5_carryOn zn_cX5_carryOn rfl) rfl
theorem dX5_carryOn_11 : decode cX5_carryOn 11 = .ok (.aload_n 0, 1) := zo_42 (zkb zk_cX5_carryOn zn_cX5_carryOn rfl)
theorem dX5_carryOn_12 : decode cX5_carryOn 12 = .ok (.invokevirtual 56, 3) := zo_182 (b1 := 0) (b2 := 56) (zkb3 zk_cX5_carryOn zn_cX5_carryOn rfl) rfl
theorem dX5_carryOn_15 : decode cX5_carryOn 15 = .ok (.iconst 4, 1) := zo_7 (zkb zk_cX5_carryOn zn_cX5_carryOn rfl)
theorem dX5_carryOn_16 : decode cX5_carryOn 16 = .ok (.ireturn, 1) := zo_172 (zkb zk_cX5_carryOn zn_cX5_carryOn rfl)
theorem dX5_carryOn_17 : decode cX5_carryOn 17 = .ok (.aload_n 0, 1) := zo_42 (zkb zk_cX5_carryOn zn_cX5_carryOn rfl)
theorem dX5_carryOn_18 : decode cX5_carryOn 18 = .ok (.bipush 6, 2) := zo_16 (b1 := 6) (zkb2 zk_cX5_carryOn zn_cX5_carryOn rfl) rfl
theorem dX5_carryOn_20 : decode cX5_carryOn 20 = .ok (.putfield 16, 3) := zo_181 (b1 := 0) (b2 := 16) (zkb3 zk_cX5_carryOn zn_cX5_carryOn rfl) rfl
theorem dX5_carryOn_23 : decode cX5_carryOn 23 = .ok (.aload_n 0, 1) := zo_42 (zkb zk_cX5_carryOn zn_cX5_carryOn rfl)
theorem dX5_carryOn_24 : decode cX5_carryOn 24 = .ok (.aload_n 0, 1) := zo_42 (zkb zk_cX5_carryOn zn_cX5_carryOn rfl)
theorem dX5_carryOn_25 : decode cX5_carryOn 25 = .ok (.bipush 6, 2) := zo_16 (b1 := 6) (zkb2 zk_cX5_carryOn zn_cX5_carryOn rfl) rfl
theorem dX5_carryOn_27 : decode cX5_carryOn 27 = .ok (.invokevirtual 65, 3) := zo_182 (b1 := 0) (b2 := 65) (zkb3 zk_cX5_carryOn zn_cX5_carryOn rfl) rfl
theorem dX5_carryOn_30 : decode cX5_carryOn 30 = .ok (.putfield 68, 3) := zo_181 (b1 := 0) (b2 := 68) (zkb3 zk_cX5_carryOn zn_cX5_carryOn rfl) rfl
theorem dX5_carryOn_33 : decode cX5_carryOn 33 = .ok (.aload_n 0, 1) := zo_42 (zkb zk_cX5_carryOn zn_cX5_carryOn rfl)
theorem dX5_carryOn_34 : decode cX5_carryOn 34 = .ok (.invokevirtual 71, 3) := zo_182 (b1 := 0) (b2 := 71) (zkb3 zk_cX5_carryOn zn_cX5_carryOn rfl) rfl
theorem dX5_carryOn_37 : decode cX5_carryOn 37 = .ok (.istore_n 1, 1) := zo_60 (zkb zk_cX5_carryOn zn_cX5_carryOn rfl)
theorem dX5_carryOn_38 : decode cX5_carryOn 38 = .ok (.iconst 0, 1) := zo_3 (zkb zk_cX5_carryOn zn_cX5_carryOn rfl)
theorem dX5_carryOn_39 : decode cX5_carryOn 39 = .ok (.istore_n 2, 1) := zo_61 (zkb zk_cX5_carryOn zn_cX5_carryOn rfl)
theorem dX5_carryOn_40 : decode cX5_carryOn 40 = .ok (.iload_n 1, 1) := zo_27 (zkb zk_cX5_carryOn zn_cX5_carryOn rfl)
theorem dX5_carryOn_41 : decode cX5_carryOn 41 = .ok (.sipush 221, 3) := zo_17 (b1 := 0) (b2 := 221) (zkb3 zk_cX5_carryOn zn_cX5_carryOn rfl) rfl
theorem dX5_carryOn_44 : decode cX5_carryOn 44 = .ok (.if_icmp .eq 10, 3) := zo_159 (b1 := 0) (b2 := 10) (zkb3 zk_cX5_carryOn zn_cX5_carryOn rfl) rfl
theorem dX5_carryOn_47 : decode cX5_carryOn 47 = .ok (.iload_n 1, 1) := zo_27 (zkb zk_cX5_carryOn zn_cX5_carryOn rfl)
theorem dX5_carryOn_48 : decode cX5_carryOn 48 = .ok (.sipush 253, 3) := zo_17 (b1 := 0) (b2 := 253) (zkb3 zk_cX5_carryOn zn_cX5_carryOn rfl) rfl
theorem dX5_carryOn_51 : decode cX5_carryOn 51 = .ok (.if_icmp .ne 90, 3) := zo_160 (b1 := 0) (b2 := 90) (zkb3 zk_cX5_carryOn zn_cX5_carryOn rfl) rfl
theorem dX5_carryOn_54 : decode cX5_carryOn 54 = .ok (.aload_n 0, 1) := zo_42 (zkb zk_cX5_carryOn zn_cX5_carryOn rfl)
theorem dX5_carryOn_55 : decode cX5_carryOn 55 = .ok (.getfield 20, 3) := zo_180 (b1 := 0) (b2 := 20) (zkb3 zk_cX5_carryOn zn_cX5_carryOn rfl) rfl
theorem dX5_carryOn_58 : decode cX5_carryOn 58 = .ok (.aload_n 0, 1) := zo_42 (zkb zk_cX5_carryOn zn_cX5_carryOn rfl)
theorem dX5_carryOn_59 : decode cX5_carryOn 59 = .ok (.getfield 9, 3) := zo_180 (b1 := 0) (b2 := 9) (zkb3 zk_cX5_carryOn zn_cX5_carryOn rfl) rfl
theorem dX5_carryOn_62 : decode cX5_carryOn 62 = .ok (.bipush 19, 2) := zo_16 (b1 := 19) (zkb2 zk_cX5_carryOn zn_cX5_carryOn rfl) rfl
theorem dX5_carryOn_64 : decode cX5_carryOn 64 = .ok (.iaload, 1) := zo_46 (zkb zk_cX5_carryOn zn_cX5_carryOn rfl)
theorem dX5_carryOn_65 : decode cX5_carryOn 65 = .ok (.invokevirtual 75, 3) := zo_182 (b1 := 0) (b2 := 75) (zkb3 zk_cX5_carryOn zn_cX5_carryOn rfl) rfl
theorem dX5_carryOn_68 : decode cX5_carryOn 68 = .ok (.istore_n 3, 1) := zo_62 (zkb zk_cX5_carryOn zn_cX5_carryOn rfl)
theorem dX5_carryOn_69 : decode cX5_carryOn 69 = .ok (.iload_n 3, 1) := zo_29 (zkb zk_cX5_carryOn zn_cX5_carryOn rfl)
theorem dX5_carryOn_70 : decode cX5_carryOn 70 = .ok (.sipush 221, 3) := zo_17 (b1 := 0) (b2 := 221) (zkb3 zk_cX5_carryOn zn_cX5_carryOn rfl) rfl
theorem dX5_carryOn_73 : decode cX5_carryOn 73 = .ok (.if_icmp .eq 17, 3) := zo_159 (b1 := 0) (b2 := 17) (zkb3 zk_cX5_carryOn zn_cX5_carryOn rfl) rfl
theorem dX5_carryOn_76 : decode cX5_carryOn 76 = .ok (.iload_n 3, 1) := zo_29 (zkb zk_cX5_carryOn zn_cX5_carryOn rfl)
theorem dX5_carryOn_77 : decode cX5_carryOn 77 = .ok (.sipush 237, 3) := zo_17 (b1 := 0) (b2 := 237) (zkb3 zk_cX5_carryOn zn_cX5_carryOn rfl) rfl
theorem dX5_carryOn_80 : decode cX5_carryOn 80 = .ok (.if_icmp .eq 10, 3) := zo_159 (b1 := 0) (b2 := 10) (zkb3 zk_cX5_carryOn zn_cX5_carryOn rfl) rfl
theorem dX5_carryOn_83 : decode cX5_carryOn 83 = .ok (.iload_n 3, 1) := zo_29 (zkb zk_cX5_carryOn zn_cX5_carryOn rfl)
theorem dX5_carryOn_84 : decode cX5_carryOn 84 = .ok (.sipush 253, 3) := zo_17 (b1 := 0) (b2 := 253) (zkb3 zk_cX5_carryOn zn_cX5_carryOn rfl) rfl
theorem dX5_carryOn_87 : decode cX5_carryOn 87 = .ok (.if_icmp .ne 13, 3) := zo_160 (b1 := 0) (b2 := 13) (zkb3 zk_cX5_carryOn zn_cX5_carryOn rfl) rfl
theorem dX5_carryOn_90 : decode cX5_carryOn 90 = .ok (.aload_n 0, 1) := zo_42 (zkb zk_cX5_carryOn zn_cX5_carryOn rfl)
theorem dX5_carryOn_91 : decode cX5_carryOn 91 = .ok (.getfield 9, 3) := zo_180 (b1 := 0) (b2 := 9) (zkb3 zk_cX5_carryOn zn_cX5_carryOn rfl) rfl
theorem dX5_carryOn_94 : decode cX5_carryOn 94 = .ok (.bipush 28, 2) := zo_16 (b1 := 28) (zkb2 zk_cX5_carryOn zn_cX5_carryOn rfl) rfl
theorem dX5_carryOn_96 : decode cX5_carryOn 96 = .ok (.iconst 1, 1) := zo_4 (zkb zk_cX5_carryOn zn_cX5_carryOn rfl)
theorem dX5_carryOn_97 : decode cX5_carryOn 97 = .ok (.iastore, 1) := zo_79 (zkb zk_cX5_carryOn zn_cX5_carryOn rfl)
theorem dX5_carryOn_98 : decode cX5_carryOn 98 = .ok (.iconst 4, 1) := zo_7 (zkb zk_cX5_carryOn zn_cX5_carryOn rfl)
theorem dX5_carryOn_99 : decode cX5_carryOn 99 = .ok (.ireturn, 1) := zo_172 (zkb zk_cX5_carryOn zn_cX5_carryOn rfl)
theorem dX5_carryOn_100 : decode cX5_carryOn 100 = .ok (.aload_n 0, 1) := zo_42 (zkb zk_cX5_carryOn zn_cX5_carryOn rfl)
theorem dX5_carryOn_101 : decode cX5_carryOn 101 = .ok (.iload_n 1, 1) := zo_27 (zkb zk_cX5_carryOn zn_cX5_carryOn rfl)
theorem dX5_carryOn_102 : decode cX5_carryOn 102 = .ok (.sipush 221, 3) := zo_17 (b1 := 0) (b2 := 221) (zkb3 zk_cX5_carryOn zn_cX5_carryOn rfl) rfl
theorem dX5_carryOn_105 : decode cX5_carryOn 105 = .ok (.if_icmp .ne 8, 3) := zo_160 (b1 := 0) (b2 := 8) (zkb3 zk_cX5_carryOn zn_cX5_carryOn rfl) rfl
theorem dX5_carryOn_108 : decode cX5_carryOn 108 = .ok (.bipush 16, 2) := zo_16 (b1 := 16) (zkb2 zk_cX5_carryOn zn_cX5_carryOn rfl) rfl
theorem dX5_carryOn_110 : decode cX5_carryOn 110 = .ok (.goto 5, 3) := zo_167 (b1 := 0) (b2 := 5) (zkb3 zk_cX5_carryOn zn_cX5_carryOn rfl) rfl
theorem dX5_carryOn_113 : decode cX5_carryOn 113 = .ok (.bipush 17, 2) := zo_16 (b1 := 17) (zkb2 zk_cX5_carryOn zn_cX5_carryOn rfl) rfl
theorem dX5_carryOn_115 : decode cX5_carryOn 115 = .ok (.putfield 16, 3) := zo_181 (b1 := 0) (b2 := 16) (zkb3 zk_cX5_carryOn zn_cX5_carryOn rfl) rfl
theorem dX5_carryOn_118 : decode cX5_carryOn 118 = .ok (.aload_n 0, 1) := zo_42 (zkb zk_cX5_carryOn zn_cX5_carryOn rfl)
theorem dX5_carryOn_119 : decode cX5_carryOn 119 = .ok (.invokevirtual 71, 3) := zo_182 (b1 := 0) (b2 := 71) (zkb3 zk_cX5_carryOn zn_cX5_carryOn rfl) rfl
theorem dX5_carryOn_122 : decode cX5_carryOn 122 = .ok (.istore_n 1, 1) := zo_60 (zkb zk_cX5_carryOn zn_cX5_carryOn rfl)
theorem dX5_carryOn_123 : decode cX5_carryOn 123 = .ok (.iload_n 1, 1) := zo_27 (zkb zk_cX5_carryOn zn_cX5_carryOn rfl)
theorem dX5_carryOn_124 : decode cX5_carryOn 124 = .ok (.sipush 203, 3) := zo_17 (b1 := 0) (b2 := 203) (zkb3 zk_cX5_carryOn zn_cX5_carryOn rfl) rfl
theorem dX5_carryOn_127 : decode cX5_carryOn 127 = .ok (.if_icmp .ne 8, 3) := zo_160 (b1 := 0) (b2 := 8) (zkb3 zk_cX5_carryOn zn_cX5_carryOn rfl) rfl
theorem dX5_carryOn_130 : decode cX5_carryOn 130 = .ok (.aload_n 0, 1) := zo_42 (zkb zk_cX5_carryOn zn_cX5_carryOn rfl)
theorem dX5_carryOn_131 : decode cX5_carryOn 131 = .ok (.invokevirtual 80, 3) := zo_182 (b1 := 0) (b2 := 80) (zkb3 zk_cX5_carryOn zn_cX5_carryOn rfl) rfl
theorem dX5_carryOn_134 : decode cX5_carryOn 134 = .ok (.ireturn, 1) := zo_172 (zkb zk_cX5_carryOn zn_cX5_carryOn rfl)
theorem dX5_carryOn_135 : decode cX5_carryOn 135 = .ok (.aload_n 0, 1) := zo_42 (zkb zk_cX5_carryOn zn_cX5_carryOn rfl)
theorem dX5_carryOn_136 : decode cX5_carryOn 136 = .ok (.iload_n 1, 1) := zo_27 (zkb zk_cX5_carryOn zn_cX5_carryOn rfl)
theorem dX5_carryOn_137 : decode cX5_carryOn 137 = .ok (.invokevirtual 83, 3) := zo_182 (b1 := 0) (b2 := 83) (zkb3 zk_cX5_carryOn zn_cX5_carryOn rfl) rfl
theorem dX5_carryOn_140 : decode cX5_carryOn 140 = .ok (.istore_n 2, 1) := zo_61 (zkb zk_cX5_carryOn zn_cX5_carryOn rfl)
theorem dX5_carryOn_141 : decode cX5_carryOn 141 = .ok (.iload_n 1, 1) := zo_27 (zkb zk_cX5_carryOn zn_cX5_carryOn rfl)
theorem dX5_carryOn_142 : decode cX5_carryOn 142 = .ok (.sipush 203, 3) := zo_17 (b1 := 0) (b2 := 203) (zkb3 zk_cX5_carryOn zn_cX5_carryOn rfl) rfl
theorem dX5_carryOn_145 : decode cX5_carryOn 145 = .ok (.if_icmp .ne 12, 3) := zo_160 (b1 := 0) (b2 := 12) (zkb3 zk_cX5_carryOn zn_cX5_carryOn rfl) rfl
theorem dX5_carryOn_148 : decode cX5_carryOn 148 = .ok (.aload_n 0, 1) := zo_42 (zkb zk_cX5_carryOn zn_cX5_carryOn rfl)
theorem dX5_carryOn_149 : decode cX5_carryOn 149 = .ok (.aload_n 0, 1) := zo_42 (zkb zk_cX5_carryOn zn_cX5_carryOn rfl)
theorem dX5_carryOn_150 : decode cX5_carryOn 150 = .ok (.invokevirtual 71, 3) := zo_182 (b1 := 0) (b2 := 71) (zkb3 zk_cX5_carryOn zn_cX5_carryOn rfl) rfl
theorem dX5_carryOn_153 : decode cX5_carryOn 153 = .ok (.invokevirtual 86, 3) := zo_182 (b1 := 0) (b2 := 86) (zkb3 zk_cX5_carryOn zn_cX5_carryOn rfl) rfl
theorem dX5_carryOn_156 : decode cX5_carryOn 156 = .ok (.ireturn, 1) := zo_172 (zkb zk_cX5_carryOn zn_cX5_carryOn rfl)
theorem dX5_carryOn_157 : decode cX5_carryOn 157 = .ok (.iload_n 1, 1) := zo_27 (zkb zk_cX5_carryOn zn_cX5_carryOn rfl)
theorem dX5_carryOn_158 : decode cX5_carryOn 158 = .ok (.sipush 237, 3) := zo_17 (b1 := 0) (b2 := 237) (zkb3 zk_cX5_carryOn zn_cX5_carryOn rfl) rfl
theorem dX5_carryOn_161 : decode cX5_carryOn 161 = .ok (.if_icmp .ne 33, 3) := zo_160 (b1 := 0) (b2 := 33) (zkb3 zk_cX5_carryOn zn_cX5_carryOn rfl) rfl
theorem dX5_carryOn_164 : decode cX5_carryOn 164 = .ok (.aload_n 0, 1) := zo_42 (zkb zk_cX5_carryOn zn_cX5_carryOn rfl)
theorem dX5_carryOn_165 : decode cX5_carryOn 165 = .ok (.invokevirtual 71, 3) := zo_182 (b1 := 0) (b2 := 71) (zkb3 zk_cX5_carryOn zn_cX5_carryOn rfl) rfl
theorem dX5_carryOn_168 : decode cX5_carryOn 168 = .ok (.istore_n 1, 1) := zo_60 (zkb zk_cX5_carryOn zn_cX5_carryOn rfl)
theorem dX5_carryOn_169 : decode cX5_carryOn 169 = .ok (.iload_n 1, 1) := zo_27 (zkb zk_cX5_carryOn zn_cX5_carryOn rfl)
theorem dX5_carryOn_170 : decode cX5_carryOn 170 = .ok (.sipush 228, 3) := zo_17 (b1 := 0) (b2 := 228) (zkb3 zk_cX5_carryOn zn_cX5_carryOn rfl) rfl
theorem dX5_carryOn_173 : decode cX5_carryOn 173 = .ok (.iand, 1) := zo_126 (zkb zk_cX5_carryOn zn_cX5_carryOn rfl)
theorem dX5_carryOn_174 : decode cX5_carryOn 174 = .ok (.sipush 160, 3) := zo_17 (b1 := 0) (b2 := 160) (zkb3 zk_cX5_carryOn zn_cX5_carryOn rfl) rfl
theorem dX5_carryOn_177 : decode cX5_carryOn 177 = .ok (.if_icmp .ne 11, 3) := zo_160 (b1 := 0) (b2 := 11) (zkb3 zk_cX5_carryOn zn_cX5_carryOn rfl) rfl
theorem dX5_carryOn_180 : decode cX5_carryOn 180 = .ok (.aload_n 0, 1) := zo_42 (zkb zk_cX5_carryOn zn_cX5_carryOn rfl)
theorem dX5_carryOn_181 : decode cX5_carryOn 181 = .ok (.iload_n 1, 1) := zo_27 (zkb zk_cX5_carryOn zn_cX5_carryOn rfl)
theorem dX5_carryOn_182 : decode cX5_carryOn 182 = .ok (.invokevirtual 89, 3) := zo_182 (b1 := 0) (b2 := 89) (zkb3 zk_cX5_carryOn zn_cX5_carryOn rfl) rfl
theorem dX5_carryOn_185 : decode cX5_carryOn 185 = .ok (.goto 8, 3) := zo_167 (b1 := 0) (b2 := 8) (zkb3 zk_cX5_carryOn zn_cX5_carryOn rfl) rfl
theorem dX5_carryOn_188 : decode cX5_carryOn 188 = .ok (.aload_n 0, 1) := zo_42 (zkb zk_cX5_carryOn zn_cX5_carryOn rfl)
theorem dX5_carryOn_189 : decode cX5_carryOn 189 = .ok (.iload_n 1, 1) := zo_27 (zkb zk_cX5_carryOn zn_cX5_carryOn rfl)
theorem dX5_carryOn_190 : decode cX5_carryOn 190 = .ok (.invokevirtual 92, 3) := zo_182 (b1 := 0) (b2 := 92) (zkb3 zk_cX5_carryOn zn_cX5_carryOn rfl) rfl
theorem dX5_carryOn_193 : decode cX5_carryOn 193 = .ok (.ireturn, 1) := zo_172 (zkb zk_cX5_carryOn zn_cX5_carryOn rfl)
theorem dX5_carryOn_194 : decode cX5_carryOn 194 = .ok (.iload_n 1, 1) := zo_27 (zkb zk_cX5_carryOn zn_cX5_carryOn rfl)
theorem dX5_carryOn_195 : decode cX5_carryOn 195 = .ok (.bipush 6, 2) := zo_16 (b1 := 6) (zkb2 zk_cX5_carryOn zn_cX5_carryOn rfl) rfl
theorem dX5_carryOn_197 : decode cX5_carryOn 197 = .ok (.ishr, 1) := zo_122 (zkb zk_cX5_carryOn zn_cX5_carryOn rfl)
theorem dX5_carryOn_198 : decode cX5_carryOn 198 = .ok (.tableswitch 50 0 2 #[26, 34, 42], 26) := by decide +kernel
theorem dX5_carryOn_224 : decode cX5_carryOn 224 = .ok (.iload_n 2, 1) := zo_28 (zkb zk_cX5_carryOn zn_cX5_carryOn rfl)
theorem dX5_carryOn_225 : decode cX5_carryOn 225 = .ok (.aload_n 0, 1) := zo_42 (zkb zk_cX5_carryOn zn_cX5_carryOn rfl)
theorem dX5_carryOn_226 : decode cX5_carryOn 226 = .ok (.iload_n 1, 1) := zo_27 (zkb zk_cX5_carryOn zn_cX5_carryOn rfl)
theorem dX5_carryOn_227 : decode cX5_carryOn 227 = .ok (.invokevirtual 95, 3) := zo_182 (b1 := 0) (b2 := 95) (zkb3 zk_cX5_carryOn zn_cX5_carryOn rfl) rfl
theorem dX5_carryOn_230 : decode cX5_carryOn 230 = .ok (.iadd, 1) := zo_96 (zkb zk_cX5_carryOn zn_cX5_carryOn rfl)
theorem dX5_carryOn_231 : decode cX5_carryOn 231 = .ok (.ireturn, 1) := zo_172 (zkb zk_cX5_carryOn zn_cX5_carryOn rfl)
theorem dX5_carryOn_232 : decode cX5_carryOn 232 = .ok (.iload_n 2, 1) := zo_28 (zkb zk_cX5_carryOn zn_cX5_carryOn rfl)
theorem dX5_carryOn_233 : decode cX5_carryOn 233 = .ok (.aload_n 0, 1) := zo_42 (zkb zk_cX5_carryOn zn_cX5_carryOn rfl)
theorem dX5_carryOn_234 : decode cX5_carryOn 234 = .ok (.iload_n 1, 1) := zo_27 (zkb zk_cX5_carryOn zn_cX5_carryOn rfl)
theorem dX5_carryOn_235 : decode cX5_carryOn 235 = .ok (.invokevirtual 98, 3) := zo_182 (b1 := 0) (b2 := 98) (zkb3 zk_cX5_carryOn zn_cX5_carryOn rfl) rfl
theorem dX5_carryOn_238 : decode cX5_carryOn 238 = .ok (.iadd, 1) := zo_96 (zkb zk_cX5_carryOn zn_cX5_carryOn rfl)
theorem dX5_carryOn_239 : decode cX5_carryOn 239 = .ok (.ireturn, 1) := zo_172 (zkb zk_cX5_carryOn zn_cX5_carryOn rfl)
theorem dX5_carryOn_240 : decode cX5_carryOn 240 = .ok (.iload_n 2, 1) := zo_28 (zkb zk_cX5_carryOn zn_cX5_carryOn rfl)
theorem dX5_carryOn_241 : decode cX5_carryOn 241 = .ok (.aload_n 0, 1) := zo_42 (zkb zk_cX5_carryOn zn_cX5_carryOn rfl)
theorem dX5_carryOn_242 : decode cX5_carryOn 242 = .ok (.iload_n 1, 1) := zo_27 (zkb zk_cX5_carryOn zn_cX5_carryOn rfl)
theorem dX5_carryOn_243 : decode cX5_carryOn 243 = .ok (.invokevirtual 101, 3) := zo_182 (b1 := 0) (b2 := 101) (zkb3 zk_cX5_carryOn zn_cX5_carryOn rfl) rfl
theorem dX5_carryOn_246 : decode cX5_carryOn 246 = .ok (.iadd, 1) := zo_96 (zkb zk_cX5_carryOn zn_cX5_carryOn rfl)
theorem dX5_carryOn_247 : decode cX5_carryOn 247 = .ok (.ireturn, 1) := zo_172 (zkb zk_cX5_carryOn zn_cX5_carryOn rfl)
theorem dX5_carryOn_248 : decode cX5_carryOn 248 = .ok (.iload_n 2, 1) := zo_28 (zkb zk_cX5_carryOn zn_cX5_carryOn rfl)
theorem dX5_carryOn_249 : decode cX5_carryOn 249 = .ok (.iload_n 1, 1) := zo_27 (zkb zk_cX5_carryOn zn_cX5_carryOn rfl)
theorem dX5_carryOn_250 : decode cX5_carryOn 250 = .ok (.bipush 7, 2) := zo_16 (b1 := 7) (zkb2 zk_cX5_carryOn zn_cX5_carryOn rfl) rfl
theorem dX5_carryOn_252 : decode cX5_carryOn 252 = .ok (.iand, 1) := zo_126 (zkb zk_cX5_carryOn zn_cX5_carryOn rfl)
theorem dX5_carryOn_253 : decode cX5_carryOn 253 = .ok (.iconst 3, 1) := zo_6 (zkb zk_cX5_carryOn zn_cX5_carryOn rfl)
theorem dX5_carryOn_254 : decode cX5_carryOn 254 = .ok (.if_icmp .ne 16, 3) := zo_160 (b1 := 0) (b2 := 16) (zkb3 zk_cX5_carryOn zn_cX5_carryOn rfl) rfl
theorem dX5_carryOn_257 : decode cX5_carryOn 257 = .ok (.aload_n 0, 1) := zo_42 (zkb zk_cX5_carryOn zn_cX5_carryOn rfl)
theorem dX5_carryOn_258 : decode cX5_carryOn 258 = .ok (.iload_n 1, 1) := zo_27 (zkb zk_cX5_carryOn zn_cX5_carryOn rfl)
theorem dX5_carryOn_259 : decode cX5_carryOn 259 = .ok (.iconst 3, 1) := zo_6 (zkb zk_cX5_carryOn zn_cX5_carryOn rfl)
theorem dX5_carryOn_260 : decode cX5_carryOn 260 = .ok (.ishr, 1) := zo_122 (zkb zk_cX5_carryOn zn_cX5_carryOn rfl)
theorem dX5_carryOn_261 : decode cX5_carryOn 261 = .ok (.bipush 7, 2) := zo_16 (b1 := 7) (zkb2 zk_cX5_carryOn zn_cX5_carryOn rfl) rfl
theorem dX5_carryOn_263 : decode cX5_carryOn 263 = .ok (.iand, 1) := zo_126 (zkb zk_cX5_carryOn zn_cX5_carryOn rfl)
theorem dX5_carryOn_264 : decode cX5_carryOn 264 = .ok (.invokevirtual 104, 3) := zo_182 (b1 := 0) (b2 := 104) (zkb3 zk_cX5_carryOn zn_cX5_carryOn rfl) rfl
theorem dX5_carryOn_267 : decode cX5_carryOn 267 = .ok (.goto 8, 3) := zo_167 (b1 := 0) (b2 := 8) (zkb3 zk_cX5_carryOn zn_cX5_carryOn rfl) rfl
theorem dX5_carryOn_270 : decode cX5_carryOn 270 = .ok (.aload_n 0, 1) := zo_42 (zkb zk_cX5_carryOn zn_cX5_carryOn rfl)
theorem dX5_carryOn_271 : decode cX5_carryOn 271 = .ok (.iload_n 1, 1) := zo_27 (zkb zk_cX5_carryOn zn_cX5_carryOn rfl)
theorem dX5_carryOn_272 : decode cX5_carryOn 272 = .ok (.invokevirtual 107, 3) := zo_182 (b1 := 0) (b2 := 107) (zkb3 zk_cX5_carryOn zn_cX5_carryOn rfl) rfl
theorem dX5_carryOn_275 : decode cX5_carryOn 275 = .ok (.iadd, 1) := zo_96 (zkb zk_cX5_carryOn zn_cX5_carryOn rfl)
theorem dX5_carryOn_276 : decode cX5_carryOn 276 = .ok (.ireturn, 1) := zo_172 (zkb zk_cX5_carryOn zn_cX5_carryOn rfl)
noncomputable def kn_cX5_firstQuarter : Nat := 0xac07ac00b61c2aac07100500a70a100800a006101ca600b67200b62a1c2aac070400a70b100800a006101ca600b6a900b6a000b61c2a2a1c2aac070400a70b100800a006101ca600b6a300b6a000b61c2a2a1c2aac06109d00b660020400a70407009a7e041c9a00b67a041c2a7a041c2aac9700b61c2aac9400b67a041c2a0a00a79100b67a041c2a0d009a7e041cac8e00b61c2aa0000000850000006a0000004d000000470000002f000000290000000600000000000000b7000000aa7e07101b3d7e07107a061b
theorem zk_cX5_firstQuarter : zkd cX5_firstQuarter.data.toList kn_cX5_firstQuarter = true := by decide +kernel
theorem zn_cX5_firstQuarter : cX5_firstQuarter.data.toList.length = 201 := by decide +kernel
theorem dX5_firstQuarter_0 : decode cX5_firstQuarter 0 = .ok (.iload_n 1, 1) := zo_27 (zkb zk_cX5_firstQuarter zn_cX5_firstQuarter rfl)
theorem dX5_firstQuarter_1 : decode cX5_firstQuarter 1 = .ok (.iconst 3, 1) := zo_6 (zkb zk_cX5_firstQuarter zn_cX5_firstQuarter rfl)
theorem dX5_firstQuarter_2 : decode cX5_firstQuarter 2 = .ok (.ishr, 1) := zo_122 (zkb zk_cX5_firstQuarter zn_cX5_firstQuarter rfl)
theorem dX5_firstQuarter_3 : decode cX5_firstQuarter 3 = .ok (.bipush 7, 2) := zo_16 (b1 := 7) (zkb2 zk_cX5_firstQuarter zn_cX5_firstQuarter rfl) rfl
theorem dX5_firstQuarter_5 : decode cX5_firstQuarter 5 = .ok (.iand, 1) := zo_126 (zkb zk_cX5_firstQuarter zn_cX5_firstQuarter rfl)
theorem dX5_firstQuarter_6 : decode cX5_firstQuarter 6 = .ok (.istore_n 2, 1) := zo_61 (zkb zk_cX5_firstQuarter zn_cX5_firstQuarter rfl)
theorem dX5_firstQuarter_7 : decode cX5_firstQuarter 7 = .ok (.iload_n 1, 1) := zo_27 (zkb zk_cX5_firstQuarter zn_cX5_firstQuarter rfl)
theorem dX5_firstQuarter_8 : decode cX5_firstQuarter 8 = .ok (.bipush 7, 2) := zo_16 (b1 := 7) (zkb2 zk_cX5_firstQuarter zn_cX5_firstQuarter rfl) rfl
theorem dX5_firstQuarter_10 : decode cX5_firstQuarter 10 = .ok (.iand, 1) := zo_126 (zkb zk_cX5_firstQuarter zn_cX5_firstQuarter rfl)
theorem dX5_firstQuarter_11 : decode cX5_firstQuarter 11 = .ok (.tableswitch 183 0 6 #[41, 47, 71, 77, 106, 133, 160], 41) := by decide +kernel
theorem dX5_firstQuarter_52 : decode cX5_firstQuarter 52 = .ok (.aload_n 0, 1) := zo_42 (zkb zk_cX5_firstQuarter zn_cX5_firstQuarter rfl)
theorem dX5_firstQuarter_53 : decode cX5_firstQuarter 53 = .ok (.iload_n 2, 1) := zo_28 (zkb zk_cX5_firstQuarter zn_cX5_firstQuarter rfl)
theorem dX5_firstQuarter_54 : decode cX5_firstQuarter 54 = .ok (.invokevirtual 142, 3) := zo_182 (b1 := 0) (b2 := 142) (zkb3 zk_cX5_firstQuarter zn_cX5_firstQuarter rfl) rfl
theorem dX5_firstQuarter_57 : decode cX5_firstQuarter 57 = .ok (.ireturn, 1) := zo_172 (zkb zk_cX5_firstQuarter zn_cX5_firstQuarter rfl)
theorem dX5_firstQuarter_58 : decode cX5_firstQuarter 58 = .ok (.iload_n 2, 1) := zo_28 (zkb zk_cX5_firstQuarter zn_cX5_firstQuarter rfl)
theorem dX5_firstQuarter_59 : decode cX5_firstQuarter 59 = .ok (.iconst 1, 1) := zo_4 (zkb zk_cX5_firstQuarter zn_cX5_firstQuarter rfl)
theorem dX5_firstQuarter_60 : decode cX5_firstQuarter 60 = .ok (.iand, 1) := zo_126 (zkb zk_cX5_firstQuarter zn_cX5_firstQuarter rfl)
theorem dX5_firstQuarter_61 : decode cX5_firstQuarter 61 = .ok (.ifCond .ne 13, 3) := zo_154 (b1 := 0) (b2 := 13) (zkb3 zk_cX5_firstQuarter zn_cX5_firstQuarter rfl) rfl
theorem dX5_firstQuarter_64 : decode cX5_firstQuarter 64 = .ok (.aload_n 0, 1) := zo_42 (zkb zk_cX5_firstQuarter zn_cX5_firstQuarter rfl)
theorem dX5_firstQuarter_65 : decode cX5_firstQuarter 65 = .ok (.iload_n 2, 1) := zo_28 (zkb zk_cX5_firstQuarter zn_cX5_firstQuarter rfl)
theorem dX5_firstQuarter_66 : decode cX5_firstQuarter 66 = .ok (.iconst 1, 1) := zo_4 (zkb zk_cX5_firstQuarter zn_cX5_firstQuarter rfl)
theorem dX5_firstQuarter_67 : decode cX5_firstQuarter 67 = .ok (.ishr, 1) := zo_122 (zkb zk_cX5_firstQuarter zn_cX5_firstQuarter rfl)
theorem dX5_firstQuarter_68 : decode cX5_firstQuarter 68 = .ok (.invokevirtual 145, 3) := zo_182 (b1 := 0) (b2 := 145) (zkb3 zk_cX5_firstQuarter zn_cX5_firstQuarter rfl) rfl
theorem dX5_firstQuarter_71 : decode cX5_firstQuarter 71 = .ok (.goto 10, 3) := zo_167 (b1 := 0) (b2 := 10) (zkb3 zk_cX5_firstQuarter zn_cX5_firstQuarter rfl) rfl
theorem dX5_firstQuarter_74 : decode cX5_firstQuarter 74 = .ok (.aload_n 0, 1) := zo_42 (zkb zk_cX5_firstQuarter zn_cX5_firstQuarter rfl)
theorem dX5_firstQuarter_75 : decode cX5_firstQuarter 75 = .ok (.iload_n 2, 1) := zo_28 (zkb zk_cX5_firstQuarter zn_cX5_firstQuarter rfl)
theorem dX5_firstQuarter_76 : decode cX5_firstQuarter 76 = .ok (.iconst 1, 1) := zo_4 (zkb zk_cX5_firstQuarter zn_cX5_firstQuarter rfl)
theorem dX5_firstQuarter_77 : decode cX5_firstQuarter 77 = .ok (.ishr, 1) := zo_122 (zkb zk_cX5_firstQuarter zn_cX5_firstQuarter rfl)
theorem dX5_firstQuarter_78 : decode cX5_firstQuarter 78 = .ok (.invokevirtual 148, 3) := zo_182 (b1 := 0) (b2 := 148) (zkb3 zk_cX5_firstQuarter zn_cX5_firstQuarter rfl) rfl
theorem dX5_firstQuarter_81 : decode cX5_firstQuarter 81 = .ok (.ireturn, 1) := zo_172 (zkb zk_cX5_firstQuarter zn_cX5_firstQuarter rfl)
theorem dX5_firstQuarter_82 : decode cX5_firstQuarter 82 = .ok (.aload_n 0, 1) := zo_42 (zkb zk_cX5_firstQuarter zn_cX5_firstQuarter rfl)
theorem dX5_firstQuarter_83 : decode cX5_firstQuarter 83 = .ok (.iload_n 2, 1) := zo_28 (zkb zk_cX5_firstQuarter zn_cX5_firstQuarter rfl)
theorem dX5_firstQuarter_84 : decode cX5_firstQuarter 84 = .ok (.invokevirtual 151, 3) := zo_182 (b1 := 0) (b2 := 151) (zkb3 zk_cX5_firstQuarter zn_cX5_firstQuarter rfl) rfl
theorem dX5_firstQuarter_87 : decode cX5_firstQuarter 87 = .ok (.ireturn, 1) := zo_172 (zkb zk_cX5_firstQuarter zn_cX5_firstQuarter rfl)
theorem dX5_firstQuarter_88 : decode cX5_firstQuarter 88 = .ok (.aload_n 0, 1) := zo_42 (zkb zk_cX5_firstQuarter zn_cX5_firstQuarter rfl)
theorem dX5_firstQuarter_89 : decode cX5_firstQuarter 89 = .ok (.iload_n 2, 1) := zo_28 (zkb zk_cX5_firstQuarter zn_cX5_firstQuarter rfl)
theorem dX5_firstQuarter_90 : decode cX5_firstQuarter 90 = .ok (.iconst 1, 1) := zo_4 (zkb zk_cX5_firstQuarter zn_cX5_firstQuarter rfl)
theorem dX5_firstQuarter_91 : decode cX5_firstQuarter 91 = .ok (.ishr, 1) := zo_122 (zkb zk_cX5_firstQuarter zn_cX5_firstQuarter rfl)
theorem dX5_firstQuarter_92 : decode cX5_firstQuarter 92 = .ok (.aload_n 0, 1) := zo_42 (zkb zk_cX5_firstQuarter zn_cX5_firstQuarter rfl)
theorem dX5_firstQuarter_93 : decode cX5_firstQuarter 93 = .ok (.iload_n 2, 1) := zo_28 (zkb zk_cX5_firstQuarter zn_cX5_firstQuarter rfl)
theorem dX5_firstQuarter_94 : decode cX5_firstQuarter 94 = .ok (.iconst 1, 1) := zo_4 (zkb zk_cX5_firstQuarter zn_cX5_firstQuarter rfl)
theorem dX5_firstQuarter_95 : decode cX5_firstQuarter 95 = .ok (.ishr, 1) := zo_122 (zkb zk_cX5_firstQuarter zn_cX5_firstQuarter rfl)
theorem dX5_firstQuarter_96 : decode cX5_firstQuarter 96 = .ok (.invokevirtual 154, 3) := zo_182 (b1 := 0) (b2 := 154) (zkb3 zk_cX5_firstQuarter zn_cX5_firstQuarter rfl) rfl
theorem dX5_firstQuarter_99 : decode cX5_firstQuarter 99 = .ok (.iload_n 2, 1) := zo_28 (zkb zk_cX5_firstQuarter zn_cX5_firstQuarter rfl)
theorem dX5_firstQuarter_100 : decode cX5_firstQuarter 100 = .ok (.iconst 1, 1) := zo_4 (zkb zk_cX5_firstQuarter zn_cX5_firstQuarter rfl)
theorem dX5_firstQuarter_101 : decode cX5_firstQuarter 101 = .ok (.iand, 1) := zo_126 (zkb zk_cX5_firstQuarter zn_cX5_firstQuarter rfl)
theorem dX5_firstQuarter_102 : decode cX5_firstQuarter 102 = .ok (.ifCond .ne 7, 3) := zo_154 (b1 := 0) (b2 := 7) (zkb3 zk_cX5_firstQuarter zn_cX5_firstQuarter rfl) rfl
theorem dX5_firstQuarter_105 : decode cX5_firstQuarter 105 = .ok (.iconst 1, 1) := zo_4 (zkb zk_cX5_firstQuarter zn_cX5_firstQuarter rfl)
theorem dX5_firstQuarter_106 : decode cX5_firstQuarter 106 = .ok (.goto 4, 3) := zo_167 (b1 := 0) (b2 := 4) (zkb3 zk_cX5_firstQuarter zn_cX5_firstQuarter rfl) rfl
theorem dX5_firstQuarter_109 : decode cX5_firstQuarter 109 = .ok (.iconst (-1), 1) := zo_2 (zkb zk_cX5_firstQuarter zn_cX5_firstQuarter rfl)
theorem dX5_firstQuarter_110 : decode cX5_firstQuarter 110 = .ok (.iadd, 1) := zo_96 (zkb zk_cX5_firstQuarter zn_cX5_firstQuarter rfl)
theorem dX5_firstQuarter_111 : decode cX5_firstQuarter 111 = .ok (.invokevirtual 157, 3) := zo_182 (b1 := 0) (b2 := 157) (zkb3 zk_cX5_firstQuarter zn_cX5_firstQuarter rfl) rfl
theorem dX5_firstQuarter_114 : decode cX5_firstQuarter 114 = .ok (.bipush 6, 2) := zo_16 (b1 := 6) (zkb2 zk_cX5_firstQuarter zn_cX5_firstQuarter rfl) rfl
theorem dX5_firstQuarter_116 : decode cX5_firstQuarter 116 = .ok (.ireturn, 1) := zo_172 (zkb zk_cX5_firstQuarter zn_cX5_firstQuarter rfl)
theorem dX5_firstQuarter_117 : decode cX5_firstQuarter 117 = .ok (.aload_n 0, 1) := zo_42 (zkb zk_cX5_firstQuarter zn_cX5_firstQuarter rfl)
theorem dX5_firstQuarter_118 : decode cX5_firstQuarter 118 = .ok (.iload_n 2, 1) := zo_28 (zkb zk_cX5_firstQuarter zn_cX5_firstQuarter rfl)
theorem dX5_firstQuarter_119 : decode cX5_firstQuarter 119 = .ok (.aload_n 0, 1) := zo_42 (zkb zk_cX5_firstQuarter zn_cX5_firstQuarter rfl)
theorem dX5_firstQuarter_120 : decode cX5_firstQuarter 120 = .ok (.aload_n 0, 1) := zo_42 (zkb zk_cX5_firstQuarter zn_cX5_firstQuarter rfl)
theorem dX5_firstQuarter_121 : decode cX5_firstQuarter 121 = .ok (.iload_n 2, 1) := zo_28 (zkb zk_cX5_firstQuarter zn_cX5_firstQuarter rfl)
theorem dX5_firstQuarter_122 : decode cX5_firstQuarter 122 = .ok (.invokevirtual 160, 3) := zo_182 (b1 := 0) (b2 := 160) (zkb3 zk_cX5_firstQuarter zn_cX5_firstQuarter rfl) rfl
theorem dX5_firstQuarter_125 : decode cX5_firstQuarter 125 = .ok (.invokevirtual 163, 3) := zo_182 (b1 := 0) (b2 := 163) (zkb3 zk_cX5_firstQuarter zn_cX5_firstQuarter rfl) rfl
theorem dX5_firstQuarter_128 : decode cX5_firstQuarter 128 = .ok (.invokevirtual 166, 3) := zo_182 (b1 := 0) (b2 := 166) (zkb3 zk_cX5_firstQuarter zn_cX5_firstQuarter rfl) rfl
theorem dX5_firstQuarter_131 : decode cX5_firstQuarter 131 = .ok (.iload_n 2, 1) := zo_28 (zkb zk_cX5_firstQuarter zn_cX5_firstQuarter rfl)
theorem dX5_firstQuarter_132 : decode cX5_firstQuarter 132 = .ok (.bipush 6, 2) := zo_16 (b1 := 6) (zkb2 zk_cX5_firstQuarter zn_cX5_firstQuarter rfl) rfl
theorem dX5_firstQuarter_134 : decode cX5_firstQuarter 134 = .ok (.if_icmp .ne 8, 3) := zo_160 (b1 := 0) (b2 := 8) (zkb3 zk_cX5_firstQuarter zn_cX5_firstQuarter rfl) rfl
theorem dX5_firstQuarter_137 : decode cX5_firstQuarter 137 = .ok (.bipush 11, 2) := zo_16 (b1 := 11) (zkb2 zk_cX5_firstQuarter zn_cX5_firstQuarter rfl) rfl
theorem dX5_firstQuarter_139 : decode cX5_firstQuarter 139 = .ok (.goto 4, 3) := zo_167 (b1 := 0) (b2 := 4) (zkb3 zk_cX5_firstQuarter zn_cX5_firstQuarter rfl) rfl
theorem dX5_firstQuarter_142 : decode cX5_firstQuarter 142 = .ok (.iconst 4, 1) := zo_7 (zkb zk_cX5_firstQuarter zn_cX5_firstQuarter rfl)
theorem dX5_firstQuarter_143 : decode cX5_firstQuarter 143 = .ok (.ireturn, 1) := zo_172 (zkb zk_cX5_firstQuarter zn_cX5_firstQuarter rfl)
theorem dX5_firstQuarter_144 : decode cX5_firstQuarter 144 = .ok (.aload_n 0, 1) := zo_42 (zkb zk_cX5_firstQuarter zn_cX5_firstQuarter rfl)
theorem dX5_firstQuarter_145 : decode cX5_firstQuarter 145 = .ok (.iload_n 2, 1) := zo_28 (zkb zk_cX5_firstQuarter zn_cX5_firstQuarter rfl)
theorem dX5_firstQuarter_146 : decode cX5_firstQuarter 146 = .ok (.aload_n 0, 1) := zo_42 (zkb zk_cX5_firstQuarter zn_cX5_firstQuarter rfl)
theorem dX5_firstQuarter_147 : decode cX5_firstQuarter 147 = .ok (.aload_n 0, 1) := zo_42 (zkb zk_cX5_firstQuarter zn_cX5_firstQuarter rfl)
theorem dX5_firstQuarter_148 : decode cX5_firstQuarter 148 = .ok (.iload_n 2, 1) := zo_28 (zkb zk_cX5_firstQuarter zn_cX5_firstQuarter rfl)
theorem dX5_firstQuarter_149 : decode cX5_firstQuarter 149 = .ok (.invokevirtual 160, 3) := zo_182 (b1 := 0) (b2 := 160) (zkb3 zk_cX5_firstQuarter zn_cX5_firstQuarter rfl) rfl
theorem dX5_firstQuarter_152 : decode cX5_firstQuarter 152 = .ok (.invokevirtual 169, 3) := zo_182 (b1 := 0) (b2 := 169) (zkb3 zk_cX5_firstQuarter zn_cX5_firstQuarter rfl) rfl
theorem dX5_firstQuarter_155 : decode cX5_firstQuarter 155 = .ok (.invokevirtual 166, 3) := zo_182 (b1 := 0) (b2 := 166) (zkb3 zk_cX5_firstQuarter zn_cX5_firstQuarter rfl) rfl
theorem dX5_firstQuarter_158 : decode cX5_firstQuarter 158 = .ok (.iload_n 2, 1) := zo_28 (zkb zk_cX5_firstQuarter zn_cX5_firstQuarter rfl)
theorem dX5_firstQuarter_159 : decode cX5_firstQuarter 159 = .ok (.bipush 6, 2) := zo_16 (b1 := 6) (zkb2 zk_cX5_firstQuarter zn_cX5_firstQuarter rfl) rfl
theorem dX5_firstQuarter_161 : decode cX5_firstQuarter 161 = .ok (.if_icmp .ne 8, 3) := zo_160 (b1 := 0) (b2 := 8) (zkb3 zk_cX5_firstQuarter zn_cX5_firstQuarter rfl) rfl
theorem dX5_firstQuarter_164 : decode cX5_firstQuarter 164 = .ok (.bipush 11, 2) := zo_16 (b1 := 11) (zkb2 zk_cX5_firstQuarter zn_cX5_firstQuarter rfl) rfl
theorem dX5_firstQuarter_166 : decode cX5_firstQuarter 166 = .ok (.goto 4, 3) := zo_167 (b1 := 0) (b2 := 4) (zkb3 zk_cX5_firstQuarter zn_cX5_firstQuarter rfl) rfl
theorem dX5_firstQuarter_169 : decode cX5_firstQuarter 169 = .ok (.iconst 4, 1) := zo_7 (zkb zk_cX5_firstQuarter zn_cX5_firstQuarter rfl)
theorem dX5_firstQuarter_170 : decode cX5_firstQuarter 170 = .ok (.ireturn, 1) := zo_172 (zkb zk_cX5_firstQuarter zn_cX5_firstQuarter rfl)
theorem dX5_firstQuarter_171 : decode cX5_firstQuarter 171 = .ok (.aload_n 0, 1) := zo_42 (zkb zk_cX5_firstQuarter zn_cX5_firstQuarter rfl)
theorem dX5_firstQuarter_172 : decode cX5_firstQuarter 172 = .ok (.iload_n 2, 1) := zo_28 (zkb zk_cX5_firstQuarter zn_cX5_firstQuarter rfl)
theorem dX5_firstQuarter_173 : decode cX5_firstQuarter 173 = .ok (.aload_n 0, 1) := zo_42 (zkb zk_cX5_firstQuarter zn_cX5_firstQuarter rfl)
theorem dX5_firstQuarter_174 : decode cX5_firstQuarter 174 = .ok (.invokevirtual 114, 3) := zo_182 (b1 := 0) (b2 := 114) (zkb3 zk_cX5_firstQuarter zn_cX5_firstQuarter rfl) rfl
theorem dX5_firstQuarter_177 : decode cX5_firstQuarter 177 = .ok (.invokevirtual 166, 3) := zo_182 (b1 := 0) (b2 := 166) (zkb3 zk_cX5_firstQuarter zn_cX5_firstQuarter rfl) rfl
theorem dX5_firstQuarter_180 : decode cX5_firstQuarter 180 = .ok (.iload_n 2, 1) := zo_28 (zkb zk_cX5_firstQuarter zn_cX5_firstQuarter rfl)
theorem dX5_firstQuarter_181 : decode cX5_firstQuarter 181 = .ok (.bipush 6, 2) := zo_16 (b1 := 6) (zkb2 zk_cX5_firstQuarter zn_cX5_firstQuarter rfl) rfl
theorem dX5_firstQuarter_183 : decode cX5_firstQuarter 183 = .ok (.if_icmp .ne 8, 3) := zo_160 (b1 := 0) (b2 := 8) (zkb3 zk_cX5_firstQuarter zn_cX5_firstQuarter rfl) rfl
theorem dX5_firstQuarter_186 : decode cX5_firstQuarter 186 = .ok (.bipush 10, 2) := zo_16 (b1 := 10) (zkb2 zk_cX5_firstQuarter zn_cX5_firstQuarter rfl) rfl
theorem dX5_firstQuarter_188 : decode cX5_firstQuarter 188 = .ok (.goto 5, 3) := zo_167 (b1 := 0) (b2 := 5) (zkb3 zk_cX5_firstQuarter zn_cX5_firstQuarter rfl) rfl
theorem dX5_firstQuarter_191 : decode cX5_firstQuarter 191 = .ok (.bipush 7, 2) := zo_16 (b1 := 7) (zkb2 zk_cX5_firstQuarter zn_cX5_firstQuarter rfl) rfl
theorem dX5_firstQuarter_193 : decode cX5_firstQuarter 193 = .ok (.ireturn, 1) := zo_172 (zkb zk_cX5_firstQuarter zn_cX5_firstQuarter rfl)
theorem dX5_firstQuarter_194 : decode cX5_firstQuarter 194 = .ok (.aload_n 0, 1) := zo_42 (zkb zk_cX5_firstQuarter zn_cX5_firstQuarter rfl)
theorem dX5_firstQuarter_195 : decode cX5_firstQuarter 195 = .ok (.iload_n 2, 1) := zo_28 (zkb zk_cX5_firstQuarter zn_cX5_firstQuarter rfl)
theorem dX5_firstQuarter_196 : decode cX5_firstQuarter 196 = .ok (.invokevirtual 172, 3) := zo_182 (b1 := 0) (b2 := 172) (zkb3 zk_cX5_firstQuarter zn_cX5_firstQuarter rfl) rfl
theorem dX5_firstQuarter_199 : decode cX5_firstQuarter 199 = .ok (.iconst 4, 1) := zo_7 (zkb zk_cX5_firstQuarter zn_cX5_firstQuarter rfl)
theorem dX5_firstQuarter_200 : decode cX5_firstQuarter 200 = .ok (.ireturn, 1) := zo_172 (zkb zk_cX5_firstQuarter zn_cX5_firstQuarter rfl)
noncomputable def kn_cX5_near : Nat := 0xac60030400a7040700a0051b07100500a70c100800991d3e00b67e2f12601c2e13100900b42a2a1300991d3e030400a7040700992e050900b42a4f7eff001164042e050900b42a050900b42a2400a0051b3e030400a704070099b200b664071b2a1100a4061b12009f061b3d917200b62aac07af00b6042aaf00b6032a0d00a0041b1400a2051b
theorem zk_cX5_near : zkd cX5_near.data.toList kn_cX5_near = true := by decide +kernel
theorem zn_cX5_near : cX5_near.data.toList.length = 135 := by decide +kernel
theorem dX5_near_0 : decode cX5_near 0 = .ok (.iload_n 1, 1) := zo_27 (zkb zk_cX5_near zn_cX5_near rfl)
theorem dX5_near_1 : decode cX5_near 1 = .ok (.iconst 2, 1) := zo_5 (zkb zk_cX5_near zn_cX5_near rfl)
theorem dX5_near_2 : decode cX5_near 2 = .ok (.if_icmp .ge 20, 3) := zo_162 (b1 := 0) (b2 := 20) (zkb3 zk_cX5_near zn_cX5_near rfl) rfl
theorem dX5_near_5 : decode cX5_near 5 = .ok (.iload_n 1, 1) := zo_27 (zkb zk_cX5_near zn_cX5_near rfl)
theorem dX5_near_6 : decode cX5_near 6 = .ok (.iconst 1, 1) := zo_4 (zkb zk_cX5_near zn_cX5_near rfl)
theorem dX5_near_7 : decode cX5_near 7 = .ok (.if_icmp .ne 13, 3) := zo_160 (b1 := 0) (b2 := 13) (zkb3 zk_cX5_near zn_cX5_near rfl) rfl
theorem dX5_near_10 : decode cX5_near 10 = .ok (.aload_n 0, 1) := zo_42 (zkb zk_cX5_near zn_cX5_near rfl)
theorem dX5_near_11 : decode cX5_near 11 = .ok (.iconst 0, 1) := zo_3 (zkb zk_cX5_near zn_cX5_near rfl)
theorem dX5_near_12 : decode cX5_near 12 = .ok (.invokevirtual 175, 3) := zo_182 (b1 := 0) (b2 := 175) (zkb3 zk_cX5_near zn_cX5_near rfl) rfl
theorem dX5_near_15 : decode cX5_near 15 = .ok (.aload_n 0, 1) := zo_42 (zkb zk_cX5_near zn_cX5_near rfl)
theorem dX5_near_16 : decode cX5_near 16 = .ok (.iconst 1, 1) := zo_4 (zkb zk_cX5_near zn_cX5_near rfl)
theorem dX5_near_17 : decode cX5_near 17 = .ok (.invokevirtual 175, 3) := zo_182 (b1 := 0) (b2 := 175) (zkb3 zk_cX5_near zn_cX5_near rfl) rfl
theorem dX5_near_20 : decode cX5_near 20 = .ok (.iconst 4, 1) := zo_7 (zkb zk_cX5_near zn_cX5_near rfl)
theorem dX5_near_21 : decode cX5_near 21 = .ok (.ireturn, 1) := zo_172 (zkb zk_cX5_near zn_cX5_near rfl)
theorem dX5_near_22 : decode cX5_near 22 = .ok (.aload_n 0, 1) := zo_42 (zkb zk_cX5_near zn_cX5_near rfl)
theorem dX5_near_23 : decode cX5_near 23 = .ok (.invokevirtual 114, 3) := zo_182 (b1 := 0) (b2 := 114) (zkb3 zk_cX5_near zn_cX5_near rfl) rfl
theorem dX5_near_26 : decode cX5_near 26 = .ok (.i2b, 1) := zo_145 (zkb zk_cX5_near zn_cX5_near rfl)
theorem dX5_near_27 : decode cX5_near 27 = .ok (.istore_n 2, 1) := zo_61 (zkb zk_cX5_near zn_cX5_near rfl)
theorem dX5_near_28 : decode cX5_near 28 = .ok (.iload_n 1, 1) := zo_27 (zkb zk_cX5_near zn_cX5_near rfl)
theorem dX5_near_29 : decode cX5_near 29 = .ok (.iconst 3, 1) := zo_6 (zkb zk_cX5_near zn_cX5_near rfl)
theorem dX5_near_30 : decode cX5_near 30 = .ok (.if_icmp .eq 18, 3) := zo_159 (b1 := 0) (b2 := 18) (zkb3 zk_cX5_near zn_cX5_near rfl) rfl
theorem dX5_near_33 : decode cX5_near 33 = .ok (.iload_n 1, 1) := zo_27 (zkb zk_cX5_near zn_cX5_near rfl)
theorem dX5_near_34 : decode cX5_near 34 = .ok (.iconst 3, 1) := zo_6 (zkb zk_cX5_near zn_cX5_near rfl)
theorem dX5_near_35 : decode cX5_near 35 = .ok (.if_icmp .le 17, 3) := zo_164 (b1 := 0) (b2 := 17) (zkb3 zk_cX5_near zn_cX5_near rfl) rfl
theorem dX5_near_38 : decode cX5_near 38 = .ok (.aload_n 0, 1) := zo_42 (zkb zk_cX5_near zn_cX5_near rfl)
theorem dX5_near_39 : decode cX5_near 39 = .ok (.iload_n 1, 1) := zo_27 (zkb zk_cX5_near zn_cX5_near rfl)
theorem dX5_near_40 : decode cX5_near 40 = .ok (.iconst 4, 1) := zo_7 (zkb zk_cX5_near zn_cX5_near rfl)
theorem dX5_near_41 : decode cX5_near 41 = .ok (.isub, 1) := zo_100 (zkb zk_cX5_near zn_cX5_near rfl)
theorem dX5_near_42 : decode cX5_near 42 = .ok (.invokevirtual 178, 3) := zo_182 (b1 := 0) (b2 := 178) (zkb3 zk_cX5_near zn_cX5_near rfl) rfl
theorem dX5_near_45 : decode cX5_near 45 = .ok (.ifCond .eq 7, 3) := zo_153 (b1 := 0) (b2 := 7) (zkb3 zk_cX5_near zn_cX5_near rfl) rfl
theorem dX5_near_48 : decode cX5_near 48 = .ok (.iconst 1, 1) := zo_4 (zkb zk_cX5_near zn_cX5_near rfl)
theorem dX5_near_49 : decode cX5_near 49 = .ok (.goto 4, 3) := zo_167 (b1 := 0) (b2 := 4) (zkb3 zk_cX5_near zn_cX5_near rfl) rfl
theorem dX5_near_52 : decode cX5_near 52 = .ok (.iconst 0, 1) := zo_3 (zkb zk_cX5_near zn_cX5_near rfl)
theorem dX5_near_53 : decode cX5_near 53 = .ok (.istore_n 3, 1) := zo_62 (zkb zk_cX5_near zn_cX5_near rfl)
theorem dX5_near_54 : decode cX5_near 54 = .ok (.iload_n 1, 1) := zo_27 (zkb zk_cX5_near zn_cX5_near rfl)
theorem dX5_near_55 : decode cX5_near 55 = .ok (.iconst 2, 1) := zo_5 (zkb zk_cX5_near zn_cX5_near rfl)
theorem dX5_near_56 : decode cX5_near 56 = .ok (.if_icmp .ne 36, 3) := zo_160 (b1 := 0) (b2 := 36) (zkb3 zk_cX5_near zn_cX5_near rfl) rfl
theorem dX5_near_59 : decode cX5_near 59 = .ok (.aload_n 0, 1) := zo_42 (zkb zk_cX5_near zn_cX5_near rfl)
theorem dX5_near_60 : decode cX5_near 60 = .ok (.getfield 9, 3) := zo_180 (b1 := 0) (b2 := 9) (zkb3 zk_cX5_near zn_cX5_near rfl) rfl
theorem dX5_near_63 : decode cX5_near 63 = .ok (.iconst 2, 1) := zo_5 (zkb zk_cX5_near zn_cX5_near rfl)
theorem dX5_near_64 : decode cX5_near 64 = .ok (.aload_n 0, 1) := zo_42 (zkb zk_cX5_near zn_cX5_near rfl)
theorem dX5_near_65 : decode cX5_near 65 = .ok (.getfield 9, 3) := zo_180 (b1 := 0) (b2 := 9) (zkb3 zk_cX5_near zn_cX5_near rfl) rfl
theorem dX5_near_68 : decode cX5_near 68 = .ok (.iconst 2, 1) := zo_5 (zkb zk_cX5_near zn_cX5_near rfl)
theorem dX5_near_69 : decode cX5_near 69 = .ok (.iaload, 1) := zo_46 (zkb zk_cX5_near zn_cX5_near rfl)
theorem dX5_near_70 : decode cX5_near 70 = .ok (.iconst 1, 1) := zo_4 (zkb zk_cX5_near zn_cX5_near rfl)
theorem dX5_near_71 : decode cX5_near 71 = .ok (.isub, 1) := zo_100 (zkb zk_cX5_near zn_cX5_near rfl)
theorem dX5_near_72 : decode cX5_near 72 = .ok (.sipush 255, 3) := zo_17 (b1 := 0) (b2 := 255) (zkb3 zk_cX5_near zn_cX5_near rfl) rfl
theorem dX5_near_75 : decode cX5_near 75 = .ok (.iand, 1) := zo_126 (zkb zk_cX5_near zn_cX5_near rfl)
theorem dX5_near_76 : decode cX5_near 76 = .ok (.iastore, 1) := zo_79 (zkb zk_cX5_near zn_cX5_near rfl)
theorem dX5_near_77 : decode cX5_near 77 = .ok (.aload_n 0, 1) := zo_42 (zkb zk_cX5_near zn_cX5_near rfl)
theorem dX5_near_78 : decode cX5_near 78 = .ok (.getfield 9, 3) := zo_180 (b1 := 0) (b2 := 9) (zkb3 zk_cX5_near zn_cX5_near rfl) rfl
theorem dX5_near_81 : decode cX5_near 81 = .ok (.iconst 2, 1) := zo_5 (zkb zk_cX5_near zn_cX5_near rfl)
theorem dX5_near_82 : decode cX5_near 82 = .ok (.iaload, 1) := zo_46 (zkb zk_cX5_near zn_cX5_near rfl)
theorem dX5_near_83 : decode cX5_near 83 = .ok (.ifCond .eq 7, 3) := zo_153 (b1 := 0) (b2 := 7) (zkb3 zk_cX5_near zn_cX5_near rfl) rfl
theorem dX5_near_86 : decode cX5_near 86 = .ok (.iconst 1, 1) := zo_4 (zkb zk_cX5_near zn_cX5_near rfl)
theorem dX5_near_87 : decode cX5_near 87 = .ok (.goto 4, 3) := zo_167 (b1 := 0) (b2 := 4) (zkb3 zk_cX5_near zn_cX5_near rfl) rfl
theorem dX5_near_90 : decode cX5_near 90 = .ok (.iconst 0, 1) := zo_3 (zkb zk_cX5_near zn_cX5_near rfl)
theorem dX5_near_91 : decode cX5_near 91 = .ok (.istore_n 3, 1) := zo_62 (zkb zk_cX5_near zn_cX5_near rfl)
theorem dX5_near_92 : decode cX5_near 92 = .ok (.iload_n 3, 1) := zo_29 (zkb zk_cX5_near zn_cX5_near rfl)
theorem dX5_near_93 : decode cX5_near 93 = .ok (.ifCond .eq 19, 3) := zo_153 (b1 := 0) (b2 := 19) (zkb3 zk_cX5_near zn_cX5_near rfl) rfl
theorem dX5_near_96 : decode cX5_near 96 = .ok (.aload_n 0, 1) := zo_42 (zkb zk_cX5_near zn_cX5_near rfl)
theorem dX5_near_97 : decode cX5_near 97 = .ok (.aload_n 0, 1) := zo_42 (zkb zk_cX5_near zn_cX5_near rfl)
theorem dX5_near_98 : decode cX5_near 98 = .ok (.getfield 9, 3) := zo_180 (b1 := 0) (b2 := 9) (zkb3 zk_cX5_near zn_cX5_near rfl) rfl
theorem dX5_near_101 : decode cX5_near 101 = .ok (.bipush 19, 2) := zo_16 (b1 := 19) (zkb2 zk_cX5_near zn_cX5_near rfl) rfl
theorem dX5_near_103 : decode cX5_near 103 = .ok (.iaload, 1) := zo_46 (zkb zk_cX5_near zn_cX5_near rfl)
theorem dX5_near_104 : decode cX5_near 104 = .ok (.iload_n 2, 1) := zo_28 (zkb zk_cX5_near zn_cX5_near rfl)
theorem dX5_near_105 : decode cX5_near 105 = .ok (.iadd, 1) := zo_96 (zkb zk_cX5_near zn_cX5_near rfl)
theorem dX5_near_106 : decode cX5_near 106 = .ok (.ldc 47, 2) := zo_18 (b1 := 47) (zkb2 zk_cX5_near zn_cX5_near rfl)
theorem dX5_near_108 : decode cX5_near 108 = .ok (.iand, 1) := zo_126 (zkb zk_cX5_near zn_cX5_near rfl)
theorem dX5_near_109 : decode cX5_near 109 = .ok (.invokevirtual 62, 3) := zo_182 (b1 := 0) (b2 := 62) (zkb3 zk_cX5_near zn_cX5_near rfl) rfl
theorem dX5_near_112 : decode cX5_near 112 = .ok (.iload_n 3, 1) := zo_29 (zkb zk_cX5_near zn_cX5_near rfl)
theorem dX5_near_113 : decode cX5_near 113 = .ok (.ifCond .eq 8, 3) := zo_153 (b1 := 0) (b2 := 8) (zkb3 zk_cX5_near zn_cX5_near rfl) rfl
theorem dX5_near_116 : decode cX5_near 116 = .ok (.bipush 12, 2) := zo_16 (b1 := 12) (zkb2 zk_cX5_near zn_cX5_near rfl) rfl
theorem dX5_near_118 : decode cX5_near 118 = .ok (.goto 5, 3) := zo_167 (b1 := 0) (b2 := 5) (zkb3 zk_cX5_near zn_cX5_near rfl) rfl
theorem dX5_near_121 : decode cX5_near 121 = .ok (.bipush 7, 2) := zo_16 (b1 := 7) (zkb2 zk_cX5_near zn_cX5_near rfl) rfl
theorem dX5_near_123 : decode cX5_near 123 = .ok (.iload_n 1, 1) := zo_27 (zkb zk_cX5_near zn_cX5_near rfl)
theorem dX5_near_124 : decode cX5_near 124 = .ok (.iconst 2, 1) := zo_5 (zkb zk_cX5_near zn_cX5_near rfl)
theorem dX5_near_125 : decode cX5_near 125 = .ok (.if_icmp .ne 7, 3) := zo_160 (b1 := 0) (b2 := 7) (zkb3 zk_cX5_near zn_cX5_near rfl) rfl
theorem dX5_near_128 : decode cX5_near 128 = .ok (.iconst 1, 1) := zo_4 (zkb zk_cX5_near zn_cX5_near rfl)
theorem dX5_near_129 : decode cX5_near 129 = .ok (.goto 4, 3) := zo_167 (b1 := 0) (b2 := 4) (zkb3 zk_cX5_near zn_cX5_near rfl) rfl
theorem dX5_near_132 : decode cX5_near 132 = .ok (.iconst 0, 1) := zo_3 (zkb zk_cX5_near zn_cX5_near rfl)
theorem dX5_near_133 : decode cX5_near 133 = .ok (.iadd, 1) := zo_96 (zkb zk_cX5_near zn_cX5_near rfl)
theorem dX5_near_134 : decode cX5_near 134 = .ok (.ireturn, 1) := zo_172 (zkb zk_cX5_near zn_cX5_near rfl)
noncomputable def kn_cX5_loadPair : Nat := 0xac0a109d00b6b500b62a1b2a
theorem zk_cX5_loadPair : zkd cX5_loadPair.data.toList kn_cX5_loadPair = true := by decide +kernel
theorem zn_cX5_loadPair : cX5_loadPair.data.toList.length = 12 := by decide +kernel
theorem dX5_loadPair_0 : decode cX5_loadPair 0 = .ok (.aload_n 0, 1) := zo_42 (zkb zk_cX5_loadPair zn_cX5_loadPair rfl)
theorem dX5_loadPair_1 : decode cX5_loadPair 1 = .ok (.iload_n 1, 1) := zo_27 (zkb zk_cX5_loadPair zn_cX5_loadPair rfl)
theorem dX5_loadPair_2 : decode cX5_loadPair 2 = .ok (.aload_n 0, 1) := zo_42 (zkb zk_cX5_loadPair zn_cX5_loadPair rfl)
theorem dX5_loadPair_3 : decode cX5_loadPair 3 = .ok (.invokevirtual 181, 3) := zo_182 (b1 := 0) (b2 := 181) (zkb3 zk_cX5_loadPair zn_cX5_loadPair rfl) rfl
theorem dX5_loadPair_6 : decode cX5_loadPair 6 = .ok (.invokevirtual 157, 3) := zo_182 (b1 := 0) (b2 := 157) (zkb3 zk_cX5_loadPair zn_cX5_loadPair rfl) rfl
theorem dX5_loadPair_9 : decode cX5_loadPair 9 = .ok (.bipush 10, 2) := zo_16 (b1 := 10) (zkb2 zk_cX5_loadPair zn_cX5_loadPair rfl) rfl
theorem dX5_loadPair_11 : decode cX5_loadPair 11 = .ok (.ireturn, 1) := zo_172 (zkb zk_cX5_loadPair zn_cX5_loadPair rfl)
noncomputable def kn_cX5_addPair : Nat := 0xac0b104f807a10100415807e10107a0810820415821d1c807e28107a081004157ec400112e040900b42a040900b42a7f00b604152a4f7e2f1260041c14100900b42a0436601d1c3e9a00b61b2a3d7c00b62a
theorem zk_cX5_addPair : zkd cX5_addPair.data.toList kn_cX5_addPair = true := by decide +kernel
theorem zn_cX5_addPair : cX5_addPair.data.toList.length = 82 := by decide +kernel
theorem dX5_addPair_0 : decode cX5_addPair 0 = .ok (.aload_n 0, 1) := zo_42 (zkb zk_cX5_addPair zn_cX5_addPair rfl)
theorem dX5_addPair_1 : decode cX5_addPair 1 = .ok (.invokevirtual 124, 3) := zo_182 (b1 := 0) (b2 := 124) (zkb3 zk_cX5_addPair zn_cX5_addPair rfl) rfl
theorem dX5_addPair_4 : decode cX5_addPair 4 = .ok (.istore_n 2, 1) := zo_61 (zkb zk_cX5_addPair zn_cX5_addPair rfl)
theorem dX5_addPair_5 : decode cX5_addPair 5 = .ok (.aload_n 0, 1) := zo_42 (zkb zk_cX5_addPair zn_cX5_addPair rfl)
theorem dX5_addPair_6 : decode cX5_addPair 6 = .ok (.iload_n 1, 1) := zo_27 (zkb zk_cX5_addPair zn_cX5_addPair rfl)
theorem dX5_addPair_7 : decode cX5_addPair 7 = .ok (.invokevirtual 154, 3) := zo_182 (b1 := 0) (b2 := 154) (zkb3 zk_cX5_addPair zn_cX5_addPair rfl) rfl
theorem dX5_addPair_10 : decode cX5_addPair 10 = .ok (.istore_n 3, 1) := zo_62 (zkb zk_cX5_addPair zn_cX5_addPair rfl)
theorem dX5_addPair_11 : decode cX5_addPair 11 = .ok (.iload_n 2, 1) := zo_28 (zkb zk_cX5_addPair zn_cX5_addPair rfl)
theorem dX5_addPair_12 : decode cX5_addPair 12 = .ok (.iload_n 3, 1) := zo_29 (zkb zk_cX5_addPair zn_cX5_addPair rfl)
theorem dX5_addPair_13 : decode cX5_addPair 13 = .ok (.iadd, 1) := zo_96 (zkb zk_cX5_addPair zn_cX5_addPair rfl)
theorem dX5_addPair_14 : decode cX5_addPair 14 = .ok (.istore 4, 2) := zo_54 (b1 := 4) (zkb2 zk_cX5_addPair zn_cX5_addPair rfl)
theorem dX5_addPair_16 : decode cX5_addPair 16 = .ok (.aload_n 0, 1) := zo_42 (zkb zk_cX5_addPair zn_cX5_addPair rfl)
theorem dX5_addPair_17 : decode cX5_addPair 17 = .ok (.getfield 9, 3) := zo_180 (b1 := 0) (b2 := 9) (zkb3 zk_cX5_addPair zn_cX5_addPair rfl) rfl
theorem dX5_addPair_20 : decode cX5_addPair 20 = .ok (.bipush 20, 2) := zo_16 (b1 := 20) (zkb2 zk_cX5_addPair zn_cX5_addPair rfl) rfl
theorem dX5_addPair_22 : decode cX5_addPair 22 = .ok (.iload_n 2, 1) := zo_28 (zkb zk_cX5_addPair zn_cX5_addPair rfl)
theorem dX5_addPair_23 : decode cX5_addPair 23 = .ok (.iconst 1, 1) := zo_4 (zkb zk_cX5_addPair zn_cX5_addPair rfl)
theorem dX5_addPair_24 : decode cX5_addPair 24 = .ok (.iadd, 1) := zo_96 (zkb zk_cX5_addPair zn_cX5_addPair rfl)
theorem dX5_addPair_25 : decode cX5_addPair 25 = .ok (.ldc 47, 2) := zo_18 (b1 := 47) (zkb2 zk_cX5_addPair zn_cX5_addPair rfl)
theorem dX5_addPair_27 : decode cX5_addPair 27 = .ok (.iand, 1) := zo_126 (zkb zk_cX5_addPair zn_cX5_addPair rfl)
theorem dX5_addPair_28 : decode cX5_addPair 28 = .ok (.iastore, 1) := zo_79 (zkb zk_cX5_addPair zn_cX5_addPair rfl)
theorem dX5_addPair_29 : decode cX5_addPair 29 = .ok (.aload_n 0, 1) := zo_42 (zkb zk_cX5_addPair zn_cX5_addPair rfl)
theorem dX5_addPair_30 : decode cX5_addPair 30 = .ok (.iload 4, 2) := zo_21 (b1 := 4) (zkb2 zk_cX5_addPair zn_cX5_addPair rfl)
theorem dX5_addPair_32 : decode cX5_addPair 32 = .ok (.invokevirtual 127, 3) := zo_182 (b1 := 0) (b2 := 127) (zkb3 zk_cX5_addPair zn_cX5_addPair rfl) rfl
theorem dX5_addPair_35 : decode cX5_addPair 35 = .ok (.aload_n 0, 1) := zo_42 (zkb zk_cX5_addPair zn_cX5_addPair rfl)
theorem dX5_addPair_36 : decode cX5_addPair 36 = .ok (.getfield 9, 3) := zo_180 (b1 := 0) (b2 := 9) (zkb3 zk_cX5_addPair zn_cX5_addPair rfl) rfl
theorem dX5_addPair_39 : decode cX5_addPair 39 = .ok (.iconst 1, 1) := zo_4 (zkb zk_cX5_addPair zn_cX5_addPair rfl)
theorem dX5_addPair_40 : decode cX5_addPair 40 = .ok (.aload_n 0, 1) := zo_42 (zkb zk_cX5_addPair zn_cX5_addPair rfl)
theorem dX5_addPair_41 : decode cX5_addPair 41 = .ok (.getfield 9, 3) := zo_180 (b1 := 0) (b2 := 9) (zkb3 zk_cX5_addPair zn_cX5_addPair rfl) rfl
theorem dX5_addPair_44 : decode cX5_addPair 44 = .ok (.iconst 1, 1) := zo_4 (zkb zk_cX5_addPair zn_cX5_addPair rfl)
theorem dX5_addPair_45 : decode cX5_addPair 45 = .ok (.iaload, 1) := zo_46 (zkb zk_cX5_addPair zn_cX5_addPair rfl)
theorem dX5_addPair_46 : decode cX5_addPair 46 = .ok (.sipush 196, 3) := zo_17 (b1 := 0) (b2 := 196) (zkb3 zk_cX5_addPair zn_cX5_addPair rfl) rfl
theorem dX5_addPair_49 : decode cX5_addPair 49 = .ok (.iand, 1) := zo_126 (zkb zk_cX5_addPair zn_cX5_addPair rfl)
theorem dX5_addPair_50 : decode cX5_addPair 50 = .ok (.iload 4, 2) := zo_21 (b1 := 4) (zkb2 zk_cX5_addPair zn_cX5_addPair rfl)
theorem dX5_addPair_52 : decode cX5_addPair 52 = .ok (.bipush 8, 2) := zo_16 (b1 := 8) (zkb2 zk_cX5_addPair zn_cX5_addPair rfl) rfl
theorem dX5_addPair_54 : decode cX5_addPair 54 = .ok (.ishr, 1) := zo_122 (zkb zk_cX5_addPair zn_cX5_addPair rfl)
theorem dX5_addPair_55 : decode cX5_addPair 55 = .ok (.bipush 40, 2) := zo_16 (b1 := 40) (zkb2 zk_cX5_addPair zn_cX5_addPair rfl) rfl
theorem dX5_addPair_57 : decode cX5_addPair 57 = .ok (.iand, 1) := zo_126 (zkb zk_cX5_addPair zn_cX5_addPair rfl)
theorem dX5_addPair_58 : decode cX5_addPair 58 = .ok (.ior, 1) := zo_128 (zkb zk_cX5_addPair zn_cX5_addPair rfl)
theorem dX5_addPair_59 : decode cX5_addPair 59 = .ok (.iload_n 2, 1) := zo_28 (zkb zk_cX5_addPair zn_cX5_addPair rfl)
theorem dX5_addPair_60 : decode cX5_addPair 60 = .ok (.iload_n 3, 1) := zo_29 (zkb zk_cX5_addPair zn_cX5_addPair rfl)
theorem dX5_addPair_61 : decode cX5_addPair 61 = .ok (.ixor, 1) := zo_130 (zkb zk_cX5_addPair zn_cX5_addPair rfl)
theorem dX5_addPair_62 : decode cX5_addPair 62 = .ok (.iload 4, 2) := zo_21 (b1 := 4) (zkb2 zk_cX5_addPair zn_cX5_addPair rfl)
theorem dX5_addPair_64 : decode cX5_addPair 64 = .ok (.ixor, 1) := zo_130 (zkb zk_cX5_addPair zn_cX5_addPair rfl)
theorem dX5_addPair_65 : decode cX5_addPair 65 = .ok (.bipush 8, 2) := zo_16 (b1 := 8) (zkb2 zk_cX5_addPair zn_cX5_addPair rfl) rfl
theorem dX5_addPair_67 : decode cX5_addPair 67 = .ok (.ishr, 1) := zo_122 (zkb zk_cX5_addPair zn_cX5_addPair rfl)
theorem dX5_addPair_68 : decode cX5_addPair 68 = .ok (.bipush 16, 2) := zo_16 (b1 := 16) (zkb2 zk_cX5_addPair zn_cX5_addPair rfl) rfl
theorem dX5_addPair_70 : decode cX5_addPair 70 = .ok (.iand, 1) := zo_126 (zkb zk_cX5_addPair zn_cX5_addPair rfl)
theorem dX5_addPair_71 : decode cX5_addPair 71 = .ok (.ior, 1) := zo_128 (zkb zk_cX5_addPair zn_cX5_addPair rfl)
theorem dX5_addPair_72 : decode cX5_addPair 72 = .ok (.iload 4, 2) := zo_21 (b1 := 4) (zkb2 zk_cX5_addPair zn_cX5_addPair rfl)
theorem dX5_addPair_74 : decode cX5_addPair 74 = .ok (.bipush 16, 2) := zo_16 (b1 := 16) (zkb2 zk_cX5_addPair zn_cX5_addPair rfl) rfl
theorem dX5_addPair_76 : decode cX5_addPair 76 = .ok (.ishr, 1) := zo_122 (zkb zk_cX5_addPair zn_cX5_addPair rfl)
theorem dX5_addPair_77 : decode cX5_addPair 77 = .ok (.ior, 1) := zo_128 (zkb zk_cX5_addPair zn_cX5_addPair rfl)
theorem dX5_addPair_78 : decode cX5_addPair 78 = .ok (.iastore, 1) := zo_79 (zkb zk_cX5_addPair zn_cX5_addPair rfl)
theorem dX5_addPair_79 : decode cX5_addPair 79 = .ok (.bipush 11, 2) := zo_16 (b1 := 11) (zkb2 zk_cX5_addPair zn_cX5_addPair rfl) rfl
theorem dX5_addPair_81 : decode cX5_addPair 81 = .ok (.ireturn, 1) := zo_172 (zkb zk_cX5_addPair zn_cX5_addPair rfl)
noncomputable def kn_cX5_far : Nat := 0xac0d100500a707100800a2071b4f807eff001160041d7808102e030900b42a14100900b42a7500b62e030900b42a1d1400b42a2900a74f4b00b61d1400b42a030900b42a1400991cac1010b800b67c00b62a1d2a0c00a77f00b63400b61d2a2a0f00991c1f00a0057a041b4f7e2f1260041d14100900b42a3eb500b62a0700a79a00b67a041b2a0d00a2071b3d030400a7040700a0047e041b
theorem zk_cX5_far : zkd cX5_far.data.toList kn_cX5_far = true := by decide +kernel
theorem zn_cX5_far : cX5_far.data.toList.length = 153 := by decide +kernel
theorem dX5_far_0 : decode cX5_far 0 = .ok (.iload_n 1, 1) := zo_27 (zkb zk_cX5_far zn_cX5_far rfl)
theorem dX5_far_1 : decode cX5_far 1 = .ok (.iconst 1, 1) := zo_4 (zkb zk_cX5_far zn_cX5_far rfl)
theorem dX5_far_2 : decode cX5_far 2 = .ok (.iand, 1) := zo_126 (zkb zk_cX5_far zn_cX5_far rfl)
theorem dX5_far_3 : decode cX5_far 3 = .ok (.iconst 1, 1) := zo_4 (zkb zk_cX5_far zn_cX5_far rfl)
theorem dX5_far_4 : decode cX5_far 4 = .ok (.if_icmp .ne 7, 3) := zo_160 (b1 := 0) (b2 := 7) (zkb3 zk_cX5_far zn_cX5_far rfl) rfl
theorem dX5_far_7 : decode cX5_far 7 = .ok (.iconst 1, 1) := zo_4 (zkb zk_cX5_far zn_cX5_far rfl)
theorem dX5_far_8 : decode cX5_far 8 = .ok (.goto 4, 3) := zo_167 (b1 := 0) (b2 := 4) (zkb3 zk_cX5_far zn_cX5_far rfl) rfl
theorem dX5_far_11 : decode cX5_far 11 = .ok (.iconst 0, 1) := zo_3 (zkb zk_cX5_far zn_cX5_far rfl)
theorem dX5_far_12 : decode cX5_far 12 = .ok (.istore_n 2, 1) := zo_61 (zkb zk_cX5_far zn_cX5_far rfl)
theorem dX5_far_13 : decode cX5_far 13 = .ok (.iload_n 1, 1) := zo_27 (zkb zk_cX5_far zn_cX5_far rfl)
theorem dX5_far_14 : decode cX5_far 14 = .ok (.iconst 4, 1) := zo_7 (zkb zk_cX5_far zn_cX5_far rfl)
theorem dX5_far_15 : decode cX5_far 15 = .ok (.if_icmp .ge 13, 3) := zo_162 (b1 := 0) (b2 := 13) (zkb3 zk_cX5_far zn_cX5_far rfl) rfl
theorem dX5_far_18 : decode cX5_far 18 = .ok (.aload_n 0, 1) := zo_42 (zkb zk_cX5_far zn_cX5_far rfl)
theorem dX5_far_19 : decode cX5_far 19 = .ok (.iload_n 1, 1) := zo_27 (zkb zk_cX5_far zn_cX5_far rfl)
theorem dX5_far_20 : decode cX5_far 20 = .ok (.iconst 1, 1) := zo_4 (zkb zk_cX5_far zn_cX5_far rfl)
theorem dX5_far_21 : decode cX5_far 21 = .ok (.ishr, 1) := zo_122 (zkb zk_cX5_far zn_cX5_far rfl)
theorem dX5_far_22 : decode cX5_far 22 = .ok (.invokevirtual 154, 3) := zo_182 (b1 := 0) (b2 := 154) (zkb3 zk_cX5_far zn_cX5_far rfl) rfl
theorem dX5_far_25 : decode cX5_far 25 = .ok (.goto 7, 3) := zo_167 (b1 := 0) (b2 := 7) (zkb3 zk_cX5_far zn_cX5_far rfl) rfl
theorem dX5_far_28 : decode cX5_far 28 = .ok (.aload_n 0, 1) := zo_42 (zkb zk_cX5_far zn_cX5_far rfl)
theorem dX5_far_29 : decode cX5_far 29 = .ok (.invokevirtual 181, 3) := zo_182 (b1 := 0) (b2 := 181) (zkb3 zk_cX5_far zn_cX5_far rfl) rfl
theorem dX5_far_32 : decode cX5_far 32 = .ok (.istore_n 3, 1) := zo_62 (zkb zk_cX5_far zn_cX5_far rfl)
theorem dX5_far_33 : decode cX5_far 33 = .ok (.aload_n 0, 1) := zo_42 (zkb zk_cX5_far zn_cX5_far rfl)
theorem dX5_far_34 : decode cX5_far 34 = .ok (.getfield 9, 3) := zo_180 (b1 := 0) (b2 := 9) (zkb3 zk_cX5_far zn_cX5_far rfl) rfl
theorem dX5_far_37 : decode cX5_far 37 = .ok (.bipush 20, 2) := zo_16 (b1 := 20) (zkb2 zk_cX5_far zn_cX5_far rfl) rfl
theorem dX5_far_39 : decode cX5_far 39 = .ok (.iload_n 3, 1) := zo_29 (zkb zk_cX5_far zn_cX5_far rfl)
theorem dX5_far_40 : decode cX5_far 40 = .ok (.iconst 1, 1) := zo_4 (zkb zk_cX5_far zn_cX5_far rfl)
theorem dX5_far_41 : decode cX5_far 41 = .ok (.iadd, 1) := zo_96 (zkb zk_cX5_far zn_cX5_far rfl)
theorem dX5_far_42 : decode cX5_far 42 = .ok (.ldc 47, 2) := zo_18 (b1 := 47) (zkb2 zk_cX5_far zn_cX5_far rfl)
theorem dX5_far_44 : decode cX5_far 44 = .ok (.iand, 1) := zo_126 (zkb zk_cX5_far zn_cX5_far rfl)
theorem dX5_far_45 : decode cX5_far 45 = .ok (.iastore, 1) := zo_79 (zkb zk_cX5_far zn_cX5_far rfl)
theorem dX5_far_46 : decode cX5_far 46 = .ok (.iload_n 1, 1) := zo_27 (zkb zk_cX5_far zn_cX5_far rfl)
theorem dX5_far_47 : decode cX5_far 47 = .ok (.iconst 1, 1) := zo_4 (zkb zk_cX5_far zn_cX5_far rfl)
theorem dX5_far_48 : decode cX5_far 48 = .ok (.ishr, 1) := zo_122 (zkb zk_cX5_far zn_cX5_far rfl)
theorem dX5_far_49 : decode cX5_far 49 = .ok (.iconst 2, 1) := zo_5 (zkb zk_cX5_far zn_cX5_far rfl)
theorem dX5_far_50 : decode cX5_far 50 = .ok (.if_icmp .ne 31, 3) := zo_160 (b1 := 0) (b2 := 31) (zkb3 zk_cX5_far zn_cX5_far rfl) rfl
theorem dX5_far_53 : decode cX5_far 53 = .ok (.iload_n 2, 1) := zo_28 (zkb zk_cX5_far zn_cX5_far rfl)
theorem dX5_far_54 : decode cX5_far 54 = .ok (.ifCond .eq 15, 3) := zo_153 (b1 := 0) (b2 := 15) (zkb3 zk_cX5_far zn_cX5_far rfl) rfl
theorem dX5_far_57 : decode cX5_far 57 = .ok (.aload_n 0, 1) := zo_42 (zkb zk_cX5_far zn_cX5_far rfl)
theorem dX5_far_58 : decode cX5_far 58 = .ok (.aload_n 0, 1) := zo_42 (zkb zk_cX5_far zn_cX5_far rfl)
theorem dX5_far_59 : decode cX5_far 59 = .ok (.iload_n 3, 1) := zo_29 (zkb zk_cX5_far zn_cX5_far rfl)
theorem dX5_far_60 : decode cX5_far 60 = .ok (.invokevirtual 52, 3) := zo_182 (b1 := 0) (b2 := 52) (zkb3 zk_cX5_far zn_cX5_far rfl) rfl
theorem dX5_far_63 : decode cX5_far 63 = .ok (.invokevirtual 127, 3) := zo_182 (b1 := 0) (b2 := 127) (zkb3 zk_cX5_far zn_cX5_far rfl) rfl
theorem dX5_far_66 : decode cX5_far 66 = .ok (.goto 12, 3) := zo_167 (b1 := 0) (b2 := 12) (zkb3 zk_cX5_far zn_cX5_far rfl) rfl
theorem dX5_far_69 : decode cX5_far 69 = .ok (.aload_n 0, 1) := zo_42 (zkb zk_cX5_far zn_cX5_far rfl)
theorem dX5_far_70 : decode cX5_far 70 = .ok (.iload_n 3, 1) := zo_29 (zkb zk_cX5_far zn_cX5_far rfl)
theorem dX5_far_71 : decode cX5_far 71 = .ok (.aload_n 0, 1) := zo_42 (zkb zk_cX5_far zn_cX5_far rfl)
theorem dX5_far_72 : decode cX5_far 72 = .ok (.invokevirtual 124, 3) := zo_182 (b1 := 0) (b2 := 124) (zkb3 zk_cX5_far zn_cX5_far rfl) rfl
theorem dX5_far_75 : decode cX5_far 75 = .ok (.invokevirtual 184, 3) := zo_182 (b1 := 0) (b2 := 184) (zkb3 zk_cX5_far zn_cX5_far rfl) rfl
theorem dX5_far_78 : decode cX5_far 78 = .ok (.bipush 16, 2) := zo_16 (b1 := 16) (zkb2 zk_cX5_far zn_cX5_far rfl) rfl
theorem dX5_far_80 : decode cX5_far 80 = .ok (.ireturn, 1) := zo_172 (zkb zk_cX5_far zn_cX5_far rfl)
theorem dX5_far_81 : decode cX5_far 81 = .ok (.iload_n 2, 1) := zo_28 (zkb zk_cX5_far zn_cX5_far rfl)
theorem dX5_far_82 : decode cX5_far 82 = .ok (.ifCond .eq 20, 3) := zo_153 (b1 := 0) (b2 := 20) (zkb3 zk_cX5_far zn_cX5_far rfl) rfl
theorem dX5_far_85 : decode cX5_far 85 = .ok (.aload_n 0, 1) := zo_42 (zkb zk_cX5_far zn_cX5_far rfl)
theorem dX5_far_86 : decode cX5_far 86 = .ok (.getfield 9, 3) := zo_180 (b1 := 0) (b2 := 9) (zkb3 zk_cX5_far zn_cX5_far rfl) rfl
theorem dX5_far_89 : decode cX5_far 89 = .ok (.iconst 0, 1) := zo_3 (zkb zk_cX5_far zn_cX5_far rfl)
theorem dX5_far_90 : decode cX5_far 90 = .ok (.aload_n 0, 1) := zo_42 (zkb zk_cX5_far zn_cX5_far rfl)
theorem dX5_far_91 : decode cX5_far 91 = .ok (.getfield 20, 3) := zo_180 (b1 := 0) (b2 := 20) (zkb3 zk_cX5_far zn_cX5_far rfl) rfl
theorem dX5_far_94 : decode cX5_far 94 = .ok (.iload_n 3, 1) := zo_29 (zkb zk_cX5_far zn_cX5_far rfl)
theorem dX5_far_95 : decode cX5_far 95 = .ok (.invokevirtual 75, 3) := zo_182 (b1 := 0) (b2 := 75) (zkb3 zk_cX5_far zn_cX5_far rfl) rfl
theorem dX5_far_98 : decode cX5_far 98 = .ok (.iastore, 1) := zo_79 (zkb zk_cX5_far zn_cX5_far rfl)
theorem dX5_far_99 : decode cX5_far 99 = .ok (.goto 41, 3) := zo_167 (b1 := 0) (b2 := 41) (zkb3 zk_cX5_far zn_cX5_far rfl) rfl
theorem dX5_far_102 : decode cX5_far 102 = .ok (.aload_n 0, 1) := zo_42 (zkb zk_cX5_far zn_cX5_far rfl)
theorem dX5_far_103 : decode cX5_far 103 = .ok (.getfield 20, 3) := zo_180 (b1 := 0) (b2 := 20) (zkb3 zk_cX5_far zn_cX5_far rfl) rfl
theorem dX5_far_106 : decode cX5_far 106 = .ok (.iload_n 3, 1) := zo_29 (zkb zk_cX5_far zn_cX5_far rfl)
theorem dX5_far_107 : decode cX5_far 107 = .ok (.aload_n 0, 1) := zo_42 (zkb zk_cX5_far zn_cX5_far rfl)
theorem dX5_far_108 : decode cX5_far 108 = .ok (.getfield 9, 3) := zo_180 (b1 := 0) (b2 := 9) (zkb3 zk_cX5_far zn_cX5_far rfl) rfl
theorem dX5_far_111 : decode cX5_far 111 = .ok (.iconst 0, 1) := zo_3 (zkb zk_cX5_far zn_cX5_far rfl)
theorem dX5_far_112 : decode cX5_far 112 = .ok (.iaload, 1) := zo_46 (zkb zk_cX5_far zn_cX5_far rfl)
theorem dX5_far_113 : decode cX5_far 113 = .ok (.invokevirtual 117, 3) := zo_182 (b1 := 0) (b2 := 117) (zkb3 zk_cX5_far zn_cX5_far rfl) rfl
theorem dX5_far_116 : decode cX5_far 116 = .ok (.aload_n 0, 1) := zo_42 (zkb zk_cX5_far zn_cX5_far rfl)
theorem dX5_far_117 : decode cX5_far 117 = .ok (.getfield 9, 3) := zo_180 (b1 := 0) (b2 := 9) (zkb3 zk_cX5_far zn_cX5_far rfl) rfl
theorem dX5_far_120 : decode cX5_far 120 = .ok (.bipush 20, 2) := zo_16 (b1 := 20) (zkb2 zk_cX5_far zn_cX5_far rfl) rfl
theorem dX5_far_122 : decode cX5_far 122 = .ok (.aload_n 0, 1) := zo_42 (zkb zk_cX5_far zn_cX5_far rfl)
theorem dX5_far_123 : decode cX5_far 123 = .ok (.getfield 9, 3) := zo_180 (b1 := 0) (b2 := 9) (zkb3 zk_cX5_far zn_cX5_far rfl) rfl
theorem dX5_far_126 : decode cX5_far 126 = .ok (.iconst 0, 1) := zo_3 (zkb zk_cX5_far zn_cX5_far rfl)
theorem dX5_far_127 : decode cX5_far 127 = .ok (.iaload, 1) := zo_46 (zkb zk_cX5_far zn_cX5_far rfl)
theorem dX5_far_128 : decode cX5_far 128 = .ok (.bipush 8, 2) := zo_16 (b1 := 8) (zkb2 zk_cX5_far zn_cX5_far rfl) rfl
theorem dX5_far_130 : decode cX5_far 130 = .ok (.ishl, 1) := zo_120 (zkb zk_cX5_far zn_cX5_far rfl)
theorem dX5_far_131 : decode cX5_far 131 = .ok (.iload_n 3, 1) := zo_29 (zkb zk_cX5_far zn_cX5_far rfl)
theorem dX5_far_132 : decode cX5_far 132 = .ok (.iconst 1, 1) := zo_4 (zkb zk_cX5_far zn_cX5_far rfl)
theorem dX5_far_133 : decode cX5_far 133 = .ok (.iadd, 1) := zo_96 (zkb zk_cX5_far zn_cX5_far rfl)
theorem dX5_far_134 : decode cX5_far 134 = .ok (.sipush 255, 3) := zo_17 (b1 := 0) (b2 := 255) (zkb3 zk_cX5_far zn_cX5_far rfl) rfl
theorem dX5_far_137 : decode cX5_far 137 = .ok (.iand, 1) := zo_126 (zkb zk_cX5_far zn_cX5_far rfl)
theorem dX5_far_138 : decode cX5_far 138 = .ok (.ior, 1) := zo_128 (zkb zk_cX5_far zn_cX5_far rfl)
theorem dX5_far_139 : decode cX5_far 139 = .ok (.iastore, 1) := zo_79 (zkb zk_cX5_far zn_cX5_far rfl)
theorem dX5_far_140 : decode cX5_far 140 = .ok (.iload_n 1, 1) := zo_27 (zkb zk_cX5_far zn_cX5_far rfl)
theorem dX5_far_141 : decode cX5_far 141 = .ok (.iconst 4, 1) := zo_7 (zkb zk_cX5_far zn_cX5_far rfl)
theorem dX5_far_142 : decode cX5_far 142 = .ok (.if_icmp .ge 8, 3) := zo_162 (b1 := 0) (b2 := 8) (zkb3 zk_cX5_far zn_cX5_far rfl) rfl
theorem dX5_far_145 : decode cX5_far 145 = .ok (.bipush 7, 2) := zo_16 (b1 := 7) (zkb2 zk_cX5_far zn_cX5_far rfl) rfl
theorem dX5_far_147 : decode cX5_far 147 = .ok (.goto 5, 3) := zo_167 (b1 := 0) (b2 := 5) (zkb3 zk_cX5_far zn_cX5_far rfl) rfl
theorem dX5_far_150 : decode cX5_far 150 = .ok (.bipush 13, 2) := zo_16 (b1 := 13) (zkb2 zk_cX5_far zn_cX5_far rfl) rfl
theorem dX5_far_152 : decode cX5_far 152 = .ok (.ireturn, 1) := zo_172 (zkb zk_cX5_far zn_cX5_far rfl)
noncomputable def kn_cX5_oneMore : Nat := 0xac1c4f80030400a7070700a08000111c80030400a7101008009a7e0f101c80bb00b81c7e042e040900b42a040900b42a3d7eff001160041b
theorem zk_cX5_oneMore : zkd cX5_oneMore.data.toList kn_cX5_oneMore = true := by decide +kernel
theorem zn_cX5_oneMore : cX5_oneMore.data.toList.length = 56 := by decide +kernel
theorem dX5_oneMore_0 : decode cX5_oneMore 0 = .ok (.iload_n 1, 1) := zo_27 (zkb zk_cX5_oneMore zn_cX5_oneMore rfl)
theorem dX5_oneMore_1 : decode cX5_oneMore 1 = .ok (.iconst 1, 1) := zo_4 (zkb zk_cX5_oneMore zn_cX5_oneMore rfl)
theorem dX5_oneMore_2 : decode cX5_oneMore 2 = .ok (.iadd, 1) := zo_96 (zkb zk_cX5_oneMore zn_cX5_oneMore rfl)
theorem dX5_oneMore_3 : decode cX5_oneMore 3 = .ok (.sipush 255, 3) := zo_17 (b1 := 0) (b2 := 255) (zkb3 zk_cX5_oneMore zn_cX5_oneMore rfl) rfl
theorem dX5_oneMore_6 : decode cX5_oneMore 6 = .ok (.iand, 1) := zo_126 (zkb zk_cX5_oneMore zn_cX5_oneMore rfl)
theorem dX5_oneMore_7 : decode cX5_oneMore 7 = .ok (.istore_n 2, 1) := zo_61 (zkb zk_cX5_oneMore zn_cX5_oneMore rfl)
theorem dX5_oneMore_8 : decode cX5_oneMore 8 = .ok (.aload_n 0, 1) := zo_42 (zkb zk_cX5_oneMore zn_cX5_oneMore rfl)
theorem dX5_oneMore_9 : decode cX5_oneMore 9 = .ok (.getfield 9, 3) := zo_180 (b1 := 0) (b2 := 9) (zkb3 zk_cX5_oneMore zn_cX5_oneMore rfl) rfl
theorem dX5_oneMore_12 : decode cX5_oneMore 12 = .ok (.iconst 1, 1) := zo_4 (zkb zk_cX5_oneMore zn_cX5_oneMore rfl)
theorem dX5_oneMore_13 : decode cX5_oneMore 13 = .ok (.aload_n 0, 1) := zo_42 (zkb zk_cX5_oneMore zn_cX5_oneMore rfl)
theorem dX5_oneMore_14 : decode cX5_oneMore 14 = .ok (.getfield 9, 3) := zo_180 (b1 := 0) (b2 := 9) (zkb3 zk_cX5_oneMore zn_cX5_oneMore rfl) rfl
theorem dX5_oneMore_17 : decode cX5_oneMore 17 = .ok (.iconst 1, 1) := zo_4 (zkb zk_cX5_oneMore zn_cX5_oneMore rfl)
theorem dX5_oneMore_18 : decode cX5_oneMore 18 = .ok (.iaload, 1) := zo_46 (zkb zk_cX5_oneMore zn_cX5_oneMore rfl)
theorem dX5_oneMore_19 : decode cX5_oneMore 19 = .ok (.iconst 1, 1) := zo_4 (zkb zk_cX5_oneMore zn_cX5_oneMore rfl)
theorem dX5_oneMore_20 : decode cX5_oneMore 20 = .ok (.iand, 1) := zo_126 (zkb zk_cX5_oneMore zn_cX5_oneMore rfl)
theorem dX5_oneMore_21 : decode cX5_oneMore 21 = .ok (.iload_n 2, 1) := zo_28 (zkb zk_cX5_oneMore zn_cX5_oneMore rfl)
theorem dX5_oneMore_22 : decode cX5_oneMore 22 = .ok (.invokestatic 187, 3) := zo_184 (b1 := 0) (b2 := 187) (zkb3 zk_cX5_oneMore zn_cX5_oneMore rfl) rfl
theorem dX5_oneMore_25 : decode cX5_oneMore 25 = .ok (.ior, 1) := zo_128 (zkb zk_cX5_oneMore zn_cX5_oneMore rfl)
theorem dX5_oneMore_26 : decode cX5_oneMore 26 = .ok (.iload_n 2, 1) := zo_28 (zkb zk_cX5_oneMore zn_cX5_oneMore rfl)
theorem dX5_oneMore_27 : decode cX5_oneMore 27 = .ok (.bipush 15, 2) := zo_16 (b1 := 15) (zkb2 zk_cX5_oneMore zn_cX5_oneMore rfl) rfl
theorem dX5_oneMore_29 : decode cX5_oneMore 29 = .ok (.iand, 1) := zo_126 (zkb zk_cX5_oneMore zn_cX5_oneMore rfl)
theorem dX5_oneMore_30 : decode cX5_oneMore 30 = .ok (.ifCond .ne 8, 3) := zo_154 (b1 := 0) (b2 := 8) (zkb3 zk_cX5_oneMore zn_cX5_oneMore rfl) rfl
theorem dX5_oneMore_33 : decode cX5_oneMore 33 = .ok (.bipush 16, 2) := zo_16 (b1 := 16) (zkb2 zk_cX5_oneMore zn_cX5_oneMore rfl) rfl
theorem dX5_oneMore_35 : decode cX5_oneMore 35 = .ok (.goto 4, 3) := zo_167 (b1 := 0) (b2 := 4) (zkb3 zk_cX5_oneMore zn_cX5_oneMore rfl) rfl
theorem dX5_oneMore_38 : decode cX5_oneMore 38 = .ok (.iconst 0, 1) := zo_3 (zkb zk_cX5_oneMore zn_cX5_oneMore rfl)
theorem dX5_oneMore_39 : decode cX5_oneMore 39 = .ok (.ior, 1) := zo_128 (zkb zk_cX5_oneMore zn_cX5_oneMore rfl)
theorem dX5_oneMore_40 : decode cX5_oneMore 40 = .ok (.iload_n 2, 1) := zo_28 (zkb zk_cX5_oneMore zn_cX5_oneMore rfl)
theorem dX5_oneMore_41 : decode cX5_oneMore 41 = .ok (.sipush 128, 3) := zo_17 (b1 := 0) (b2 := 128) (zkb3 zk_cX5_oneMore zn_cX5_oneMore rfl) rfl
theorem dX5_oneMore_44 : decode cX5_oneMore 44 = .ok (.if_icmp .ne 7, 3) := zo_160 (b1 := 0) (b2 := 7) (zkb3 zk_cX5_oneMore zn_cX5_oneMore rfl) rfl
theorem dX5_oneMore_47 : decode cX5_oneMore 47 = .ok (.iconst 4, 1) := zo_7 (zkb zk_cX5_oneMore zn_cX5_oneMore rfl)
theorem dX5_oneMore_48 : decode cX5_oneMore 48 = .ok (.goto 4, 3) := zo_167 (b1 := 0) (b2 := 4) (zkb3 zk_cX5_oneMore zn_cX5_oneMore rfl) rfl
theorem dX5_oneMore_51 : decode cX5_oneMore 51 = .ok (.iconst 0, 1) := zo_3 (zkb zk_cX5_oneMore zn_cX5_oneMore rfl)
theorem dX5_oneMore_52 : decode cX5_oneMore 52 = .ok (.ior, 1) := zo_128 (zkb zk_cX5_oneMore zn_cX5_oneMore rfl)
theorem dX5_oneMore_53 : decode cX5_oneMore 53 = .ok (.iastore, 1) := zo_79 (zkb zk_cX5_oneMore zn_cX5_oneMore rfl)
theorem dX5_oneMore_54 : decode cX5_oneMore 54 = .ok (.iload_n 2, 1) := zo_28 (zkb zk_cX5_oneMore zn_cX5_oneMore rfl)
theorem dX5_oneMore_55 : decode cX5_oneMore 55 = .ok (.ireturn, 1) := zo_172 (zkb zk_cX5_oneMore zn_cX5_oneMore rfl)
noncomputable def kn_cX5_oneLess : Nat := 0xac1c4f800580030400a7070700a07f101c80030400a710100800a00f107e0f101c80bb00b81c7e042e040900b42a040900b42a3d7eff001164041b
theorem zk_cX5_oneLess : zkd cX5_oneLess.data.toList kn_cX5_oneLess = true := by decide +kernel
theorem zn_cX5_oneLess : cX5_oneLess.data.toList.length = 59 := by decide +kernel
theorem dX5_oneLess_0 : decode cX5_oneLess 0 = .ok (.iload_n 1, 1) := zo_27 (zkb zk_cX5_oneLess zn_cX5_oneLess rfl)
theorem dX5_oneLess_1 : decode cX5_oneLess 1 = .ok (.iconst 1, 1) := zo_4 (zkb zk_cX5_oneLess zn_cX5_oneLess rfl)
theorem dX5_oneLess_2 : decode cX5_oneLess 2 = .ok (.isub, 1) := zo_100 (zkb zk_cX5_oneLess zn_cX5_oneLess rfl)
theorem dX5_oneLess_3 : decode cX5_oneLess 3 = .ok (.sipush 255, 3) := zo_17 (b1 := 0) (b2 := 255) (zkb3 zk_cX5_oneLess zn_cX5_oneLess rfl) rfl
theorem dX5_oneLess_6 : decode cX5_oneLess 6 = .ok (.iand, 1) := zo_126 (zkb zk_cX5_oneLess zn_cX5_oneLess rfl)
theorem dX5_oneLess_7 : decode cX5_oneLess 7 = .ok (.istore_n 2, 1) := zo_61 (zkb zk_cX5_oneLess zn_cX5_oneLess rfl)
theorem dX5_oneLess_8 : decode cX5_oneLess 8 = .ok (.aload_n 0, 1) := zo_42 (zkb zk_cX5_oneLess zn_cX5_oneLess rfl)
theorem dX5_oneLess_9 : decode cX5_oneLess 9 = .ok (.getfield 9, 3) := zo_180 (b1 := 0) (b2 := 9) (zkb3 zk_cX5_oneLess zn_cX5_oneLess rfl) rfl
theorem dX5_oneLess_12 : decode cX5_oneLess 12 = .ok (.iconst 1, 1) := zo_4 (zkb zk_cX5_oneLess zn_cX5_oneLess rfl)
theorem dX5_oneLess_13 : decode cX5_oneLess 13 = .ok (.aload_n 0, 1) := zo_42 (zkb zk_cX5_oneLess zn_cX5_oneLess rfl)
theorem dX5_oneLess_14 : decode cX5_oneLess 14 = .ok (.getfield 9, 3) := zo_180 (b1 := 0) (b2 := 9) (zkb3 zk_cX5_oneLess zn_cX5_oneLess rfl) rfl
theorem dX5_oneLess_17 : decode cX5_oneLess 17 = .ok (.iconst 1, 1) := zo_4 (zkb zk_cX5_oneLess zn_cX5_oneLess rfl)
theorem dX5_oneLess_18 : decode cX5_oneLess 18 = .ok (.iaload, 1) := zo_46 (zkb zk_cX5_oneLess zn_cX5_oneLess rfl)
theorem dX5_oneLess_19 : decode cX5_oneLess 19 = .ok (.iconst 1, 1) := zo_4 (zkb zk_cX5_oneLess zn_cX5_oneLess rfl)
theorem dX5_oneLess_20 : decode cX5_oneLess 20 = .ok (.iand, 1) := zo_126 (zkb zk_cX5_oneLess zn_cX5_oneLess rfl)
theorem dX5_oneLess_21 : decode cX5_oneLess 21 = .ok (.iload_n 2, 1) := zo_28 (zkb zk_cX5_oneLess zn_cX5_oneLess rfl)
theorem dX5_oneLess_22 : decode cX5_oneLess 22 = .ok (.invokestatic 187, 3) := zo_184 (b1 := 0) (b2 := 187) (zkb3 zk_cX5_oneLess zn_cX5_oneLess rfl) rfl
theorem dX5_oneLess_25 : decode cX5_oneLess 25 = .ok (.ior, 1) := zo_128 (zkb zk_cX5_oneLess zn_cX5_oneLess rfl)
theorem dX5_oneLess_26 : decode cX5_oneLess 26 = .ok (.iload_n 2, 1) := zo_28 (zkb zk_cX5_oneLess zn_cX5_oneLess rfl)
theorem dX5_oneLess_27 : decode cX5_oneLess 27 = .ok (.bipush 15, 2) := zo_16 (b1 := 15) (zkb2 zk_cX5_oneLess zn_cX5_oneLess rfl) rfl
theorem dX5_oneLess_29 : decode cX5_oneLess 29 = .ok (.iand, 1) := zo_126 (zkb zk_cX5_oneLess zn_cX5_oneLess rfl)
theorem dX5_oneLess_30 : decode cX5_oneLess 30 = .ok (.bipush 15, 2) := zo_16 (b1 := 15) (zkb2 zk_cX5_oneLess zn_cX5_oneLess rfl) rfl
theorem dX5_oneLess_32 : decode cX5_oneLess 32 = .ok (.if_icmp .ne 8, 3) := zo_160 (b1 := 0) (b2 := 8) (zkb3 zk_cX5_oneLess zn_cX5_oneLess rfl) rfl
theorem dX5_oneLess_35 : decode cX5_oneLess 35 = .ok (.bipush 16, 2) := zo_16 (b1 := 16) (zkb2 zk_cX5_oneLess zn_cX5_oneLess rfl) rfl
theorem dX5_oneLess_37 : decode cX5_oneLess 37 = .ok (.goto 4, 3) := zo_167 (b1 := 0) (b2 := 4) (zkb3 zk_cX5_oneLess zn_cX5_oneLess rfl) rfl
theorem dX5_oneLess_40 : decode cX5_oneLess 40 = .ok (.iconst 0, 1) := zo_3 (zkb zk_cX5_oneLess zn_cX5_oneLess rfl)
theorem dX5_oneLess_41 : decode cX5_oneLess 41 = .ok (.ior, 1) := zo_128 (zkb zk_cX5_oneLess zn_cX5_oneLess rfl)
theorem dX5_oneLess_42 : decode cX5_oneLess 42 = .ok (.iload_n 2, 1) := zo_28 (zkb zk_cX5_oneLess zn_cX5_oneLess rfl)
theorem dX5_oneLess_43 : decode cX5_oneLess 43 = .ok (.bipush 127, 2) := zo_16 (b1 := 127) (zkb2 zk_cX5_oneLess zn_cX5_oneLess rfl) rfl
theorem dX5_oneLess_45 : decode cX5_oneLess 45 = .ok (.if_icmp .ne 7, 3) := zo_160 (b1 := 0) (b2 := 7) (zkb3 zk_cX5_oneLess zn_cX5_oneLess rfl) rfl
theorem dX5_oneLess_48 : decode cX5_oneLess 48 = .ok (.iconst 4, 1) := zo_7 (zkb zk_cX5_oneLess zn_cX5_oneLess rfl)
theorem dX5_oneLess_49 : decode cX5_oneLess 49 = .ok (.goto 4, 3) := zo_167 (b1 := 0) (b2 := 4) (zkb3 zk_cX5_oneLess zn_cX5_oneLess rfl) rfl
theorem dX5_oneLess_52 : decode cX5_oneLess 52 = .ok (.iconst 0, 1) := zo_3 (zkb zk_cX5_oneLess zn_cX5_oneLess rfl)
theorem dX5_oneLess_53 : decode cX5_oneLess 53 = .ok (.ior, 1) := zo_128 (zkb zk_cX5_oneLess zn_cX5_oneLess rfl)
theorem dX5_oneLess_54 : decode cX5_oneLess 54 = .ok (.iconst 2, 1) := zo_5 (zkb zk_cX5_oneLess zn_cX5_oneLess rfl)
theorem dX5_oneLess_55 : decode cX5_oneLess 55 = .ok (.ior, 1) := zo_128 (zkb zk_cX5_oneLess zn_cX5_oneLess rfl)
theorem dX5_oneLess_56 : decode cX5_oneLess 56 = .ok (.iastore, 1) := zo_79 (zkb zk_cX5_oneLess zn_cX5_oneLess rfl)
theorem dX5_oneLess_57 : decode cX5_oneLess 57 = .ok (.iload_n 2, 1) := zo_28 (zkb zk_cX5_oneLess zn_cX5_oneLess rfl)
theorem dX5_oneLess_58 : decode cX5_oneLess 58 = .ok (.ireturn, 1) := zo_172 (zkb zk_cX5_oneLess zn_cX5_oneLess rfl)
noncomputable def kn_cX5_changeA : Nat := 0xb14f807e29102e040900b42a1c040900b42a4fc100b62e030900b42a1b2a030900b42ab14f807e28102e030900b42a8010100500a70407009a1d1c040900b42ab14f807e28102e030900b42a80041c040900b42ab14f807e28102e030900b42a8005801010801d1c040900b42a4f82ff00112e5c030900b42ab1be00b62a5d00000049000000240000001f00000007000000040000007a0000000000aa1b3e7e042e040900b42a3d7ec400112e040900b42a
theorem zk_cX5_changeA : zkd cX5_changeA.data.toList kn_cX5_changeA = true := by decide +kernel
theorem zn_cX5_changeA : cX5_changeA.data.toList.length = 178 := by decide +kernel
theorem dX5_changeA_0 : decode cX5_changeA 0 = .ok (.aload_n 0, 1) := zo_42 (zkb zk_cX5_changeA zn_cX5_changeA rfl)
theorem dX5_changeA_1 : decode cX5_changeA 1 = .ok (.getfield 9, 3) := zo_180 (b1 := 0) (b2 := 9) (zkb3 zk_cX5_changeA zn_cX5_changeA rfl) rfl
theorem dX5_changeA_4 : decode cX5_changeA 4 = .ok (.iconst 1, 1) := zo_4 (zkb zk_cX5_changeA zn_cX5_changeA rfl)
theorem dX5_changeA_5 : decode cX5_changeA 5 = .ok (.iaload, 1) := zo_46 (zkb zk_cX5_changeA zn_cX5_changeA rfl)
theorem dX5_changeA_6 : decode cX5_changeA 6 = .ok (.sipush 196, 3) := zo_17 (b1 := 0) (b2 := 196) (zkb3 zk_cX5_changeA zn_cX5_changeA rfl) rfl
theorem dX5_changeA_9 : decode cX5_changeA 9 = .ok (.iand, 1) := zo_126 (zkb zk_cX5_changeA zn_cX5_changeA rfl)
theorem dX5_changeA_10 : decode cX5_changeA 10 = .ok (.istore_n 2, 1) := zo_61 (zkb zk_cX5_changeA zn_cX5_changeA rfl)
theorem dX5_changeA_11 : decode cX5_changeA 11 = .ok (.aload_n 0, 1) := zo_42 (zkb zk_cX5_changeA zn_cX5_changeA rfl)
theorem dX5_changeA_12 : decode cX5_changeA 12 = .ok (.getfield 9, 3) := zo_180 (b1 := 0) (b2 := 9) (zkb3 zk_cX5_changeA zn_cX5_changeA rfl) rfl
theorem dX5_changeA_15 : decode cX5_changeA 15 = .ok (.iconst 1, 1) := zo_4 (zkb zk_cX5_changeA zn_cX5_changeA rfl)
theorem dX5_changeA_16 : decode cX5_changeA 16 = .ok (.iaload, 1) := zo_46 (zkb zk_cX5_changeA zn_cX5_changeA rfl)
theorem dX5_changeA_17 : decode cX5_changeA 17 = .ok (.iconst 1, 1) := zo_4 (zkb zk_cX5_changeA zn_cX5_changeA rfl)
theorem dX5_changeA_18 : decode cX5_changeA 18 = .ok (.iand, 1) := zo_126 (zkb zk_cX5_changeA zn_cX5_changeA rfl)
theorem dX5_changeA_19 : decode cX5_changeA 19 = .ok (.istore_n 3, 1) := zo_62 (zkb zk_cX5_changeA zn_cX5_changeA rfl)
theorem dX5_changeA_20 : decode cX5_changeA 20 = .ok (.iload_n 1, 1) := zo_27 (zkb zk_cX5_changeA zn_cX5_changeA rfl)
theorem dX5_changeA_21 : decode cX5_changeA 21 = .ok (.tableswitch 122 4 7 #[31, 36, 73, 93], 31) := by decide +kernel
theorem dX5_changeA_52 : decode cX5_changeA 52 = .ok (.aload_n 0, 1) := zo_42 (zkb zk_cX5_changeA zn_cX5_changeA rfl)
theorem dX5_changeA_53 : decode cX5_changeA 53 = .ok (.invokevirtual 190, 3) := zo_182 (b1 := 0) (b2 := 190) (zkb3 zk_cX5_changeA zn_cX5_changeA rfl) rfl
theorem dX5_changeA_56 : decode cX5_changeA 56 = .ok (.return_, 1) := zo_177 (zkb zk_cX5_changeA zn_cX5_changeA rfl)
theorem dX5_changeA_57 : decode cX5_changeA 57 = .ok (.aload_n 0, 1) := zo_42 (zkb zk_cX5_changeA zn_cX5_changeA rfl)
theorem dX5_changeA_58 : decode cX5_changeA 58 = .ok (.getfield 9, 3) := zo_180 (b1 := 0) (b2 := 9) (zkb3 zk_cX5_changeA zn_cX5_changeA rfl) rfl
theorem dX5_changeA_61 : decode cX5_changeA 61 = .ok (.iconst 0, 1) := zo_3 (zkb zk_cX5_changeA zn_cX5_changeA rfl)
theorem dX5_changeA_62 : decode cX5_changeA 62 = .ok (.dup2, 1) := zo_92 (zkb zk_cX5_changeA zn_cX5_changeA rfl)
theorem dX5_changeA_63 : decode cX5_changeA 63 = .ok (.iaload, 1) := zo_46 (zkb zk_cX5_changeA zn_cX5_changeA rfl)
theorem dX5_changeA_64 : decode cX5_changeA 64 = .ok (.sipush 255, 3) := zo_17 (b1 := 0) (b2 := 255) (zkb3 zk_cX5_changeA zn_cX5_changeA rfl) rfl
theorem dX5_changeA_67 : decode cX5_changeA 67 = .ok (.ixor, 1) := zo_130 (zkb zk_cX5_changeA zn_cX5_changeA rfl)
theorem dX5_changeA_68 : decode cX5_changeA 68 = .ok (.iastore, 1) := zo_79 (zkb zk_cX5_changeA zn_cX5_changeA rfl)
theorem dX5_changeA_69 : decode cX5_changeA 69 = .ok (.aload_n 0, 1) := zo_42 (zkb zk_cX5_changeA zn_cX5_changeA rfl)
theorem dX5_changeA_70 : decode cX5_changeA 70 = .ok (.getfield 9, 3) := zo_180 (b1 := 0) (b2 := 9) (zkb3 zk_cX5_changeA zn_cX5_changeA rfl) rfl
theorem dX5_changeA_73 : decode cX5_changeA 73 = .ok (.iconst 1, 1) := zo_4 (zkb zk_cX5_changeA zn_cX5_changeA rfl)
theorem dX5_changeA_74 : decode cX5_changeA 74 = .ok (.iload_n 2, 1) := zo_28 (zkb zk_cX5_changeA zn_cX5_changeA rfl)
theorem dX5_changeA_75 : decode cX5_changeA 75 = .ok (.iload_n 3, 1) := zo_29 (zkb zk_cX5_changeA zn_cX5_changeA rfl)
theorem dX5_changeA_76 : decode cX5_changeA 76 = .ok (.ior, 1) := zo_128 (zkb zk_cX5_changeA zn_cX5_changeA rfl)
theorem dX5_changeA_77 : decode cX5_changeA 77 = .ok (.bipush 16, 2) := zo_16 (b1 := 16) (zkb2 zk_cX5_changeA zn_cX5_changeA rfl) rfl
theorem dX5_changeA_79 : decode cX5_changeA 79 = .ok (.ior, 1) := zo_128 (zkb zk_cX5_changeA zn_cX5_changeA rfl)
theorem dX5_changeA_80 : decode cX5_changeA 80 = .ok (.iconst 2, 1) := zo_5 (zkb zk_cX5_changeA zn_cX5_changeA rfl)
theorem dX5_changeA_81 : decode cX5_changeA 81 = .ok (.ior, 1) := zo_128 (zkb zk_cX5_changeA zn_cX5_changeA rfl)
theorem dX5_changeA_82 : decode cX5_changeA 82 = .ok (.aload_n 0, 1) := zo_42 (zkb zk_cX5_changeA zn_cX5_changeA rfl)
theorem dX5_changeA_83 : decode cX5_changeA 83 = .ok (.getfield 9, 3) := zo_180 (b1 := 0) (b2 := 9) (zkb3 zk_cX5_changeA zn_cX5_changeA rfl) rfl
theorem dX5_changeA_86 : decode cX5_changeA 86 = .ok (.iconst 0, 1) := zo_3 (zkb zk_cX5_changeA zn_cX5_changeA rfl)
theorem dX5_changeA_87 : decode cX5_changeA 87 = .ok (.iaload, 1) := zo_46 (zkb zk_cX5_changeA zn_cX5_changeA rfl)
theorem dX5_changeA_88 : decode cX5_changeA 88 = .ok (.bipush 40, 2) := zo_16 (b1 := 40) (zkb2 zk_cX5_changeA zn_cX5_changeA rfl) rfl
theorem dX5_changeA_90 : decode cX5_changeA 90 = .ok (.iand, 1) := zo_126 (zkb zk_cX5_changeA zn_cX5_changeA rfl)
theorem dX5_changeA_91 : decode cX5_changeA 91 = .ok (.ior, 1) := zo_128 (zkb zk_cX5_changeA zn_cX5_changeA rfl)
theorem dX5_changeA_92 : decode cX5_changeA 92 = .ok (.iastore, 1) := zo_79 (zkb zk_cX5_changeA zn_cX5_changeA rfl)
theorem dX5_changeA_93 : decode cX5_changeA 93 = .ok (.return_, 1) := zo_177 (zkb zk_cX5_changeA zn_cX5_changeA rfl)
theorem dX5_changeA_94 : decode cX5_changeA 94 = .ok (.aload_n 0, 1) := zo_42 (zkb zk_cX5_changeA zn_cX5_changeA rfl)
theorem dX5_changeA_95 : decode cX5_changeA 95 = .ok (.getfield 9, 3) := zo_180 (b1 := 0) (b2 := 9) (zkb3 zk_cX5_changeA zn_cX5_changeA rfl) rfl
theorem dX5_changeA_98 : decode cX5_changeA 98 = .ok (.iconst 1, 1) := zo_4 (zkb zk_cX5_changeA zn_cX5_changeA rfl)
theorem dX5_changeA_99 : decode cX5_changeA 99 = .ok (.iload_n 2, 1) := zo_28 (zkb zk_cX5_changeA zn_cX5_changeA rfl)
theorem dX5_changeA_100 : decode cX5_changeA 100 = .ok (.iconst 1, 1) := zo_4 (zkb zk_cX5_changeA zn_cX5_changeA rfl)
theorem dX5_changeA_101 : decode cX5_changeA 101 = .ok (.ior, 1) := zo_128 (zkb zk_cX5_changeA zn_cX5_changeA rfl)
theorem dX5_changeA_102 : decode cX5_changeA 102 = .ok (.aload_n 0, 1) := zo_42 (zkb zk_cX5_changeA zn_cX5_changeA rfl)
theorem dX5_changeA_103 : decode cX5_changeA 103 = .ok (.getfield 9, 3) := zo_180 (b1 := 0) (b2 := 9) (zkb3 zk_cX5_changeA zn_cX5_changeA rfl) rfl
theorem dX5_changeA_106 : decode cX5_changeA 106 = .ok (.iconst 0, 1) := zo_3 (zkb zk_cX5_changeA zn_cX5_changeA rfl)
theorem dX5_changeA_107 : decode cX5_changeA 107 = .ok (.iaload, 1) := zo_46 (zkb zk_cX5_changeA zn_cX5_changeA rfl)
theorem dX5_changeA_108 : decode cX5_changeA 108 = .ok (.bipush 40, 2) := zo_16 (b1 := 40) (zkb2 zk_cX5_changeA zn_cX5_changeA rfl) rfl
theorem dX5_changeA_110 : decode cX5_changeA 110 = .ok (.iand, 1) := zo_126 (zkb zk_cX5_changeA zn_cX5_changeA rfl)
theorem dX5_changeA_111 : decode cX5_changeA 111 = .ok (.ior, 1) := zo_128 (zkb zk_cX5_changeA zn_cX5_changeA rfl)
theorem dX5_changeA_112 : decode cX5_changeA 112 = .ok (.iastore, 1) := zo_79 (zkb zk_cX5_changeA zn_cX5_changeA rfl)
theorem dX5_changeA_113 : decode cX5_changeA 113 = .ok (.return_, 1) := zo_177 (zkb zk_cX5_changeA zn_cX5_changeA rfl)
theorem dX5_changeA_114 : decode cX5_changeA 114 = .ok (.aload_n 0, 1) := zo_42 (zkb zk_cX5_changeA zn_cX5_changeA rfl)
theorem dX5_changeA_115 : decode cX5_changeA 115 = .ok (.getfield 9, 3) := zo_180 (b1 := 0) (b2 := 9) (zkb3 zk_cX5_changeA zn_cX5_changeA rfl) rfl
theorem dX5_changeA_118 : decode cX5_changeA 118 = .ok (.iconst 1, 1) := zo_4 (zkb zk_cX5_changeA zn_cX5_changeA rfl)
theorem dX5_changeA_119 : decode cX5_changeA 119 = .ok (.iload_n 2, 1) := zo_28 (zkb zk_cX5_changeA zn_cX5_changeA rfl)
theorem dX5_changeA_120 : decode cX5_changeA 120 = .ok (.iload_n 3, 1) := zo_29 (zkb zk_cX5_changeA zn_cX5_changeA rfl)
theorem dX5_changeA_121 : decode cX5_changeA 121 = .ok (.ifCond .ne 7, 3) := zo_154 (b1 := 0) (b2 := 7) (zkb3 zk_cX5_changeA zn_cX5_changeA rfl) rfl
theorem dX5_changeA_124 : decode cX5_changeA 124 = .ok (.iconst 1, 1) := zo_4 (zkb zk_cX5_changeA zn_cX5_changeA rfl)
theorem dX5_changeA_125 : decode cX5_changeA 125 = .ok (.goto 5, 3) := zo_167 (b1 := 0) (b2 := 5) (zkb3 zk_cX5_changeA zn_cX5_changeA rfl) rfl
theorem dX5_changeA_128 : decode cX5_changeA 128 = .ok (.bipush 16, 2) := zo_16 (b1 := 16) (zkb2 zk_cX5_changeA zn_cX5_changeA rfl) rfl
theorem dX5_changeA_130 : decode cX5_changeA 130 = .ok (.ior, 1) := zo_128 (zkb zk_cX5_changeA zn_cX5_changeA rfl)
theorem dX5_changeA_131 : decode cX5_changeA 131 = .ok (.aload_n 0, 1) := zo_42 (zkb zk_cX5_changeA zn_cX5_changeA rfl)
theorem dX5_changeA_132 : decode cX5_changeA 132 = .ok (.getfield 9, 3) := zo_180 (b1 := 0) (b2 := 9) (zkb3 zk_cX5_changeA zn_cX5_changeA rfl) rfl
theorem dX5_changeA_135 : decode cX5_changeA 135 = .ok (.iconst 0, 1) := zo_3 (zkb zk_cX5_changeA zn_cX5_changeA rfl)
theorem dX5_changeA_136 : decode cX5_changeA 136 = .ok (.iaload, 1) := zo_46 (zkb zk_cX5_changeA zn_cX5_changeA rfl)
theorem dX5_changeA_137 : decode cX5_changeA 137 = .ok (.bipush 40, 2) := zo_16 (b1 := 40) (zkb2 zk_cX5_changeA zn_cX5_changeA rfl) rfl
theorem dX5_changeA_139 : decode cX5_changeA 139 = .ok (.iand, 1) := zo_126 (zkb zk_cX5_changeA zn_cX5_changeA rfl)
theorem dX5_changeA_140 : decode cX5_changeA 140 = .ok (.ior, 1) := zo_128 (zkb zk_cX5_changeA zn_cX5_changeA rfl)
theorem dX5_changeA_141 : decode cX5_changeA 141 = .ok (.iastore, 1) := zo_79 (zkb zk_cX5_changeA zn_cX5_changeA rfl)
theorem dX5_changeA_142 : decode cX5_changeA 142 = .ok (.return_, 1) := zo_177 (zkb zk_cX5_changeA zn_cX5_changeA rfl)
theorem dX5_changeA_143 : decode cX5_changeA 143 = .ok (.aload_n 0, 1) := zo_42 (zkb zk_cX5_changeA zn_cX5_changeA rfl)
theorem dX5_changeA_144 : decode cX5_changeA 144 = .ok (.getfield 9, 3) := zo_180 (b1 := 0) (b2 := 9) (zkb3 zk_cX5_changeA zn_cX5_changeA rfl) rfl
theorem dX5_changeA_147 : decode cX5_changeA 147 = .ok (.iconst 0, 1) := zo_3 (zkb zk_cX5_changeA zn_cX5_changeA rfl)
theorem dX5_changeA_148 : decode cX5_changeA 148 = .ok (.aload_n 0, 1) := zo_42 (zkb zk_cX5_changeA zn_cX5_changeA rfl)
theorem dX5_changeA_149 : decode cX5_changeA 149 = .ok (.iload_n 1, 1) := zo_27 (zkb zk_cX5_changeA zn_cX5_changeA rfl)
theorem dX5_changeA_150 : decode cX5_changeA 150 = .ok (.aload_n 0, 1) := zo_42 (zkb zk_cX5_changeA zn_cX5_changeA rfl)
theorem dX5_changeA_151 : decode cX5_changeA 151 = .ok (.getfield 9, 3) := zo_180 (b1 := 0) (b2 := 9) (zkb3 zk_cX5_changeA zn_cX5_changeA rfl) rfl
theorem dX5_changeA_154 : decode cX5_changeA 154 = .ok (.iconst 0, 1) := zo_3 (zkb zk_cX5_changeA zn_cX5_changeA rfl)
theorem dX5_changeA_155 : decode cX5_changeA 155 = .ok (.iaload, 1) := zo_46 (zkb zk_cX5_changeA zn_cX5_changeA rfl)
theorem dX5_changeA_156 : decode cX5_changeA 156 = .ok (.invokevirtual 193, 3) := zo_182 (b1 := 0) (b2 := 193) (zkb3 zk_cX5_changeA zn_cX5_changeA rfl) rfl
theorem dX5_changeA_159 : decode cX5_changeA 159 = .ok (.iastore, 1) := zo_79 (zkb zk_cX5_changeA zn_cX5_changeA rfl)
theorem dX5_changeA_160 : decode cX5_changeA 160 = .ok (.aload_n 0, 1) := zo_42 (zkb zk_cX5_changeA zn_cX5_changeA rfl)
theorem dX5_changeA_161 : decode cX5_changeA 161 = .ok (.getfield 9, 3) := zo_180 (b1 := 0) (b2 := 9) (zkb3 zk_cX5_changeA zn_cX5_changeA rfl) rfl
theorem dX5_changeA_164 : decode cX5_changeA 164 = .ok (.iconst 1, 1) := zo_4 (zkb zk_cX5_changeA zn_cX5_changeA rfl)
theorem dX5_changeA_165 : decode cX5_changeA 165 = .ok (.iload_n 2, 1) := zo_28 (zkb zk_cX5_changeA zn_cX5_changeA rfl)
theorem dX5_changeA_166 : decode cX5_changeA 166 = .ok (.aload_n 0, 1) := zo_42 (zkb zk_cX5_changeA zn_cX5_changeA rfl)
theorem dX5_changeA_167 : decode cX5_changeA 167 = .ok (.getfield 9, 3) := zo_180 (b1 := 0) (b2 := 9) (zkb3 zk_cX5_changeA zn_cX5_changeA rfl) rfl
theorem dX5_changeA_170 : decode cX5_changeA 170 = .ok (.iconst 1, 1) := zo_4 (zkb zk_cX5_changeA zn_cX5_changeA rfl)
theorem dX5_changeA_171 : decode cX5_changeA 171 = .ok (.iaload, 1) := zo_46 (zkb zk_cX5_changeA zn_cX5_changeA rfl)
theorem dX5_changeA_172 : decode cX5_changeA 172 = .ok (.bipush 41, 2) := zo_16 (b1 := 41) (zkb2 zk_cX5_changeA zn_cX5_changeA rfl) rfl
theorem dX5_changeA_174 : decode cX5_changeA 174 = .ok (.iand, 1) := zo_126 (zkb zk_cX5_changeA zn_cX5_changeA rfl)
theorem dX5_changeA_175 : decode cX5_changeA 175 = .ok (.ior, 1) := zo_128 (zkb zk_cX5_changeA zn_cX5_changeA rfl)
theorem dX5_changeA_176 : decode cX5_changeA 176 = .ok (.iastore, 1) := zo_79 (zkb zk_cX5_changeA zn_cX5_changeA rfl)
theorem dX5_changeA_177 : decode cX5_changeA 177 = .ok (.return_, 1) := zo_177 (zkb zk_cX5_changeA zn_cX5_changeA rfl)
noncomputable def kn_cX6_size : Nat := 0xac1400b42a
theorem zk_cX6_size : zkd cX6_size.data.toList kn_cX6_size = true := by decide +kernel
theorem zn_cX6_size : cX6_size.data.toList.length = 5 := by decide +kernel
theorem dX6_size_0 : decode cX6_size 0 = .ok (.aload_n 0, 1) := zo_42 (zkb zk_cX6_size zn_cX6_size rfl)
theorem dX6_size_1 : decode cX6_size 1 = .ok (.getfield 20, 3) := zo_180 (b1 := 0) (b2 := 20) (zkb3 zk_cX6_size zn_cX6_size rfl) rfl
theorem dX6_size_4 : decode cX6_size 4 = .ok (.ireturn, 1) := zo_172 (zkb zk_cX6_size zn_cX6_size rfl)
noncomputable def kn_cX6_takeFirst : Nat := 0xad1f1400b564041400b4592a1000b57eff0f1160041000b42a2a402f7eff0f111000b42a0900b42aad0905009a1400b42a
theorem zk_cX6_takeFirst : zkd cX6_takeFirst.data.toList kn_cX6_takeFirst = true := by decide +kernel
theorem zn_cX6_takeFirst : cX6_takeFirst.data.toList.length = 49 := by decide +kernel
theorem dX6_takeFirst_0 : decode cX6_takeFirst 0 = .ok (.aload_n 0, 1) := zo_42 (zkb zk_cX6_takeFirst zn_cX6_takeFirst rfl)
theorem dX6_takeFirst_1 : decode cX6_takeFirst 1 = .ok (.getfield 20, 3) := zo_180 (b1 := 0) (b2 := 20) (zkb3 zk_cX6_takeFirst zn_cX6_takeFirst rfl) rfl
theorem dX6_takeFirst_4 : decode cX6_takeFirst 4 = .ok (.ifCond .ne 5, 3) := zo_154 (b1 := 0) (b2 := 5) (zkb3 zk_cX6_takeFirst zn_cX6_takeFirst rfl) rfl
theorem dX6_takeFirst_7 : decode cX6_takeFirst 7 = .ok (.lconst 0, 1) := zo_9 (zkb zk_cX6_takeFirst zn_cX6_takeFirst rfl)
theorem dX6_takeFirst_8 : decode cX6_takeFirst 8 = .ok (.lreturn, 1) := zo_173 (zkb zk_cX6_takeFirst zn_cX6_takeFirst rfl)
theorem dX6_takeFirst_9 : decode cX6_takeFirst 9 = .ok (.aload_n 0, 1) := zo_42 (zkb zk_cX6_takeFirst zn_cX6_takeFirst rfl)
theorem dX6_takeFirst_10 : decode cX6_takeFirst 10 = .ok (.getfield 9, 3) := zo_180 (b1 := 0) (b2 := 9) (zkb3 zk_cX6_takeFirst zn_cX6_takeFirst rfl) rfl
theorem dX6_takeFirst_13 : decode cX6_takeFirst 13 = .ok (.aload_n 0, 1) := zo_42 (zkb zk_cX6_takeFirst zn_cX6_takeFirst rfl)
theorem dX6_takeFirst_14 : decode cX6_takeFirst 14 = .ok (.getfield 16, 3) := zo_180 (b1 := 0) (b2 := 16) (zkb3 zk_cX6_takeFirst zn_cX6_takeFirst rfl) rfl
theorem dX6_takeFirst_17 : decode cX6_takeFirst 17 = .ok (.sipush 4095, 3) := zo_17 (b1 := 15) (b2 := 255) (zkb3 zk_cX6_takeFirst zn_cX6_takeFirst rfl) rfl
theorem dX6_takeFirst_20 : decode cX6_takeFirst 20 = .ok (.iand, 1) := zo_126 (zkb zk_cX6_takeFirst zn_cX6_takeFirst rfl)
theorem dX6_takeFirst_21 : decode cX6_takeFirst 21 = .ok (.laload, 1) := zo_47 (zkb zk_cX6_takeFirst zn_cX6_takeFirst rfl)
theorem dX6_takeFirst_22 : decode cX6_takeFirst 22 = .ok (.lstore_n 1, 1) := zo_64 (zkb zk_cX6_takeFirst zn_cX6_takeFirst rfl)
theorem dX6_takeFirst_23 : decode cX6_takeFirst 23 = .ok (.aload_n 0, 1) := zo_42 (zkb zk_cX6_takeFirst zn_cX6_takeFirst rfl)
theorem dX6_takeFirst_24 : decode cX6_takeFirst 24 = .ok (.aload_n 0, 1) := zo_42 (zkb zk_cX6_takeFirst zn_cX6_takeFirst rfl)
theorem dX6_takeFirst_25 : decode cX6_takeFirst 25 = .ok (.getfield 16, 3) := zo_180 (b1 := 0) (b2 := 16) (zkb3 zk_cX6_takeFirst zn_cX6_takeFirst rfl) rfl
theorem dX6_takeFirst_28 : decode cX6_takeFirst 28 = .ok (.iconst 1, 1) := zo_4 (zkb zk_cX6_takeFirst zn_cX6_takeFirst rfl)
theorem dX6_takeFirst_29 : decode cX6_takeFirst 29 = .ok (.iadd, 1) := zo_96 (zkb zk_cX6_takeFirst zn_cX6_takeFirst rfl)
theorem dX6_takeFirst_30 : decode cX6_takeFirst 30 = .ok (.sipush 4095, 3) := zo_17 (b1 := 15) (b2 := 255) (zkb3 zk_cX6_takeFirst zn_cX6_takeFirst rfl) rfl
theorem dX6_takeFirst_33 : decode cX6_takeFirst 33 = .ok (.iand, 1) := zo_126 (zkb zk_cX6_takeFirst zn_cX6_takeFirst rfl)
theorem dX6_takeFirst_34 : decode cX6_takeFirst 34 = .ok (.putfield 16, 3) := zo_181 (b1 := 0) (b2 := 16) (zkb3 zk_cX6_takeFirst zn_cX6_takeFirst rfl) rfl
theorem dX6_takeFirst_37 : decode cX6_takeFirst 37 = .ok (.aload_n 0, 1) := zo_42 (zkb zk_cX6_takeFirst zn_cX6_takeFirst rfl)
theorem dX6_takeFirst_38 : decode cX6_takeFirst 38 = .ok (.dup, 1) := zo_89 (zkb zk_cX6_takeFirst zn_cX6_takeFirst rfl)
theorem dX6_takeFirst_39 : decode cX6_takeFirst 39 = .ok (.getfield 20, 3) := zo_180 (b1 := 0) (b2 := 20) (zkb3 zk_cX6_takeFirst zn_cX6_takeFirst rfl) rfl
theorem dX6_takeFirst_42 : decode cX6_takeFirst 42 = .ok (.iconst 1, 1) := zo_4 (zkb zk_cX6_takeFirst zn_cX6_takeFirst rfl)
theorem dX6_takeFirst_43 : decode cX6_takeFirst 43 = .ok (.isub, 1) := zo_100 (zkb zk_cX6_takeFirst zn_cX6_takeFirst rfl)
theorem dX6_takeFirst_44 : decode cX6_takeFirst 44 = .ok (.putfield 20, 3) := zo_181 (b1 := 0) (b2 := 20) (zkb3 zk_cX6_takeFirst zn_cX6_takeFirst rfl) rfl
theorem dX6_takeFirst_47 : decode cX6_takeFirst 47 = .ok (.lload_n 1, 1) := zo_31 (zkb zk_cX6_takeFirst zn_cX6_takeFirst rfl)
theorem dX6_takeFirst_48 : decode cX6_takeFirst 48 = .ok (.lreturn, 1) := zo_173 (zkb zk_cX6_takeFirst zn_cX6_takeFirst rfl)
noncomputable def kn_cX7_clear : Nat := 0xb14fff001112100900b42a4f1c1210100900b42a1900b80f100d1009100900b42a1300b8030900b42a
theorem zk_cX7_clear : zkd cX7_clear.data.toList kn_cX7_clear = true := by decide +kernel
theorem zn_cX7_clear : cX7_clear.data.toList.length = 41 := by decide +kernel
theorem dX7_clear_0 : decode cX7_clear 0 = .ok (.aload_n 0, 1) := zo_42 (zkb zk_cX7_clear zn_cX7_clear rfl)
theorem dX7_clear_1 : decode cX7_clear 1 = .ok (.getfield 9, 3) := zo_180 (b1 := 0) (b2 := 9) (zkb3 zk_cX7_clear zn_cX7_clear rfl) rfl
theorem dX7_clear_4 : decode cX7_clear 4 = .ok (.iconst 0, 1) := zo_3 (zkb zk_cX7_clear zn_cX7_clear rfl)
theorem dX7_clear_5 : decode cX7_clear 5 = .ok (.invokestatic 19, 3) := zo_184 (b1 := 0) (b2 := 19) (zkb3 zk_cX7_clear zn_cX7_clear rfl) rfl
theorem dX7_clear_8 : decode cX7_clear 8 = .ok (.aload_n 0, 1) := zo_42 (zkb zk_cX7_clear zn_cX7_clear rfl)
theorem dX7_clear_9 : decode cX7_clear 9 = .ok (.getfield 9, 3) := zo_180 (b1 := 0) (b2 := 9) (zkb3 zk_cX7_clear zn_cX7_clear rfl) rfl
theorem dX7_clear_12 : decode cX7_clear 12 = .ok (.bipush 9, 2) := zo_16 (b1 := 9) (zkb2 zk_cX7_clear zn_cX7_clear rfl) rfl
theorem dX7_clear_14 : decode cX7_clear 14 = .ok (.bipush 13, 2) := zo_16 (b1 := 13) (zkb2 zk_cX7_clear zn_cX7_clear rfl) rfl
theorem dX7_clear_16 : decode cX7_clear 16 = .ok (.bipush 15, 2) := zo_16 (b1 := 15) (zkb2 zk_cX7_clear zn_cX7_clear rfl) rfl
theorem dX7_clear_18 : decode cX7_clear 18 = .ok (.invokestatic 25, 3) := zo_184 (b1 := 0) (b2 := 25) (zkb3 zk_cX7_clear zn_cX7_clear rfl) rfl
theorem dX7_clear_21 : decode cX7_clear 21 = .ok (.aload_n 0, 1) := zo_42 (zkb zk_cX7_clear zn_cX7_clear rfl)
theorem dX7_clear_22 : decode cX7_clear 22 = .ok (.getfield 9, 3) := zo_180 (b1 := 0) (b2 := 9) (zkb3 zk_cX7_clear zn_cX7_clear rfl) rfl
theorem dX7_clear_25 : decode cX7_clear 25 = .ok (.bipush 16, 2) := zo_16 (b1 := 16) (zkb2 zk_cX7_clear zn_cX7_clear rfl) rfl
theorem dX7_clear_27 : decode cX7_clear 27 = .ok (.ldc 28, 2) := zo_18 (b1 := 28) (zkb2 zk_cX7_clear zn_cX7_clear rfl)
theorem dX7_clear_29 : decode cX7_clear 29 = .ok (.iastore, 1) := zo_79 (zkb zk_cX7_clear zn_cX7_clear rfl)
theorem dX7_clear_30 : decode cX7_clear 30 = .ok (.aload_n 0, 1) := zo_42 (zkb zk_cX7_clear zn_cX7_clear rfl)
theorem dX7_clear_31 : decode cX7_clear 31 = .ok (.getfield 9, 3) := zo_180 (b1 := 0) (b2 := 9) (zkb3 zk_cX7_clear zn_cX7_clear rfl) rfl
theorem dX7_clear_34 : decode cX7_clear 34 = .ok (.bipush 18, 2) := zo_16 (b1 := 18) (zkb2 zk_cX7_clear zn_cX7_clear rfl) rfl
theorem dX7_clear_36 : decode cX7_clear 36 = .ok (.sipush 255, 3) := zo_17 (b1 := 0) (b2 := 255) (zkb3 zk_cX7_clear zn_cX7_clear rfl) rfl
theorem dX7_clear_39 : decode cX7_clear 39 = .ok (.iastore, 1) := zo_79 (zkb zk_cX7_clear zn_cX7_clear rfl)
theorem dX7_clear_40 : decode cX7_clear 40 = .ok (.return_, 1) := zo_177 (zkb zk_cX7_clear zn_cX7_clear rfl)
noncomputable def kn_cX7_keep : Nat := 0xb11d00b81310030d00b42a030900b42a
theorem zk_cX7_keep : zkd cX7_keep.data.toList kn_cX7_keep = true := by decide +kernel
theorem zn_cX7_keep : cX7_keep.data.toList.length = 16 := by decide +kernel
theorem dX7_keep_0 : decode cX7_keep 0 = .ok (.aload_n 0, 1) := zo_42 (zkb zk_cX7_keep zn_cX7_keep rfl)
theorem dX7_keep_1 : decode cX7_keep 1 = .ok (.getfield 9, 3) := zo_180 (b1 := 0) (b2 := 9) (zkb3 zk_cX7_keep zn_cX7_keep rfl) rfl
theorem dX7_keep_4 : decode cX7_keep 4 = .ok (.iconst 0, 1) := zo_3 (zkb zk_cX7_keep zn_cX7_keep rfl)
theorem dX7_keep_5 : decode cX7_keep 5 = .ok (.aload_n 0, 1) := zo_42 (zkb zk_cX7_keep zn_cX7_keep rfl)
theorem dX7_keep_6 : decode cX7_keep 6 = .ok (.getfield 13, 3) := zo_180 (b1 := 0) (b2 := 13) (zkb3 zk_cX7_keep zn_cX7_keep rfl) rfl
theorem dX7_keep_9 : decode cX7_keep 9 = .ok (.iconst 0, 1) := zo_3 (zkb zk_cX7_keep zn_cX7_keep rfl)
theorem dX7_keep_10 : decode cX7_keep 10 = .ok (.bipush 19, 2) := zo_16 (b1 := 19) (zkb2 zk_cX7_keep zn_cX7_keep rfl) rfl
theorem dX7_keep_12 : decode cX7_keep 12 = .ok (.invokestatic 29, 3) := zo_184 (b1 := 0) (b2 := 29) (zkb3 zk_cX7_keep zn_cX7_keep rfl) rfl
theorem dX7_keep_15 : decode cX7_keep 15 = .ok (.return_, 1) := zo_177 (zkb zk_cX7_keep zn_cX7_keep rfl)
noncomputable def kn_cX7_bringBack : Nat := 0xb11d00b81310030900b42a030d00b42a
theorem zk_cX7_bringBack : zkd cX7_bringBack.data.toList kn_cX7_bringBack = true := by decide +kernel
theorem zn_cX7_bringBack : cX7_bringBack.data.toList.length = 16 := by decide +kernel
theorem dX7_bringBack_0 : decode cX7_bringBack 0 = .ok (.aload_n 0, 1) := zo_42 (zkb zk_cX7_bringBack zn_cX7_bringBack rfl)
theorem dX7_bringBack_1 : decode cX7_bringBack 1 = .ok (.getfield 13, 3) := zo_180 (b1 := 0) (b2 := 13) (zkb3 zk_cX7_bringBack zn_cX7_bringBack rfl) rfl
theorem dX7_bringBack_4 : decode cX7_bringBack 4 = .ok (.iconst 0, 1) := zo_3 (zkb zk_cX7_bringBack zn_cX7_bringBack rfl)
theorem dX7_bringBack_5 : decode cX7_bringBack 5 = .ok (.aload_n 0, 1) := zo_42 (zkb zk_cX7_bringBack zn_cX7_bringBack rfl)
theorem dX7_bringBack_6 : decode cX7_bringBack 6 = .ok (.getfield 9, 3) := zo_180 (b1 := 0) (b2 := 9) (zkb3 zk_cX7_bringBack zn_cX7_bringBack rfl) rfl
theorem dX7_bringBack_9 : decode cX7_bringBack 9 = .ok (.iconst 0, 1) := zo_3 (zkb zk_cX7_bringBack zn_cX7_bringBack rfl)
theorem dX7_bringBack_10 : decode cX7_bringBack 10 = .ok (.bipush 19, 2) := zo_16 (b1 := 19) (zkb2 zk_cX7_bringBack zn_cX7_bringBack rfl) rfl
theorem dX7_bringBack_12 : decode cX7_bringBack 12 = .ok (.invokestatic 29, 3) := zo_184 (b1 := 0) (b2 := 29) (zkb3 zk_cX7_bringBack zn_cX7_bringBack rfl) rfl
theorem dX7_bringBack_15 : decode cX7_bringBack 15 = .ok (.return_, 1) := zo_177 (zkb zk_cX7_bringBack zn_cX7_bringBack rfl)
noncomputable def kn_cX7_value : Nat := 0xac030400a72e1b0900b42a0c00a213101b12009b1b
theorem zk_cX7_value : zkd cX7_value.data.toList kn_cX7_value = true := by decide +kernel
theorem zn_cX7_value : cX7_value.data.toList.length = 21 := by decide +kernel
theorem dX7_value_0 : decode cX7_value 0 = .ok (.iload_n 1, 1) := zo_27 (zkb zk_cX7_value zn_cX7_value rfl)
theorem dX7_value_1 : decode cX7_value 1 = .ok (.ifCond .lt 18, 3) := zo_155 (b1 := 0) (b2 := 18) (zkb3 zk_cX7_value zn_cX7_value rfl) rfl
theorem dX7_value_4 : decode cX7_value 4 = .ok (.iload_n 1, 1) := zo_27 (zkb zk_cX7_value zn_cX7_value rfl)
theorem dX7_value_5 : decode cX7_value 5 = .ok (.bipush 19, 2) := zo_16 (b1 := 19) (zkb2 zk_cX7_value zn_cX7_value rfl) rfl
theorem dX7_value_7 : decode cX7_value 7 = .ok (.if_icmp .ge 12, 3) := zo_162 (b1 := 0) (b2 := 12) (zkb3 zk_cX7_value zn_cX7_value rfl) rfl
theorem dX7_value_10 : decode cX7_value 10 = .ok (.aload_n 0, 1) := zo_42 (zkb zk_cX7_value zn_cX7_value rfl)
theorem dX7_value_11 : decode cX7_value 11 = .ok (.getfield 9, 3) := zo_180 (b1 := 0) (b2 := 9) (zkb3 zk_cX7_value zn_cX7_value rfl) rfl
theorem dX7_value_14 : decode cX7_value 14 = .ok (.iload_n 1, 1) := zo_27 (zkb zk_cX7_value zn_cX7_value rfl)
theorem dX7_value_15 : decode cX7_value 15 = .ok (.iaload, 1) := zo_46 (zkb zk_cX7_value zn_cX7_value rfl)
theorem dX7_value_16 : decode cX7_value 16 = .ok (.goto 4, 3) := zo_167 (b1 := 0) (b2 := 4) (zkb3 zk_cX7_value zn_cX7_value rfl) rfl
theorem dX7_value_19 : decode cX7_value 19 = .ok (.iconst 0, 1) := zo_3 (zkb zk_cX7_value zn_cX7_value rfl)
theorem dX7_value_20 : decode cX7_value 20 = .ok (.ireturn, 1) := zo_172 (zkb zk_cX7_value zn_cX7_value rfl)
noncomputable def kn_cX8_take : Nat := 0xac1b1600b560041600b4592a3c2700b6601600b42a1200b42a0d00b42a
theorem zk_cX8_take : zkd cX8_take.data.toList kn_cX8_take = true := by decide +kernel
theorem zn_cX8_take : cX8_take.data.toList.length = 29 := by decide +kernel
theorem dX8_take_0 : decode cX8_take 0 = .ok (.aload_n 0, 1) := zo_42 (zkb zk_cX8_take zn_cX8_take rfl)
theorem dX8_take_1 : decode cX8_take 1 = .ok (.getfield 13, 3) := zo_180 (b1 := 0) (b2 := 13) (zkb3 zk_cX8_take zn_cX8_take rfl) rfl
theorem dX8_take_4 : decode cX8_take 4 = .ok (.aload_n 0, 1) := zo_42 (zkb zk_cX8_take zn_cX8_take rfl)
theorem dX8_take_5 : decode cX8_take 5 = .ok (.getfield 18, 3) := zo_180 (b1 := 0) (b2 := 18) (zkb3 zk_cX8_take zn_cX8_take rfl) rfl
theorem dX8_take_8 : decode cX8_take 8 = .ok (.aload_n 0, 1) := zo_42 (zkb zk_cX8_take zn_cX8_take rfl)
theorem dX8_take_9 : decode cX8_take 9 = .ok (.getfield 22, 3) := zo_180 (b1 := 0) (b2 := 22) (zkb3 zk_cX8_take zn_cX8_take rfl) rfl
theorem dX8_take_12 : decode cX8_take 12 = .ok (.iadd, 1) := zo_96 (zkb zk_cX8_take zn_cX8_take rfl)
theorem dX8_take_13 : decode cX8_take 13 = .ok (.invokevirtual 39, 3) := zo_182 (b1 := 0) (b2 := 39) (zkb3 zk_cX8_take zn_cX8_take rfl) rfl
theorem dX8_take_16 : decode cX8_take 16 = .ok (.istore_n 1, 1) := zo_60 (zkb zk_cX8_take zn_cX8_take rfl)
theorem dX8_take_17 : decode cX8_take 17 = .ok (.aload_n 0, 1) := zo_42 (zkb zk_cX8_take zn_cX8_take rfl)
theorem dX8_take_18 : decode cX8_take 18 = .ok (.dup, 1) := zo_89 (zkb zk_cX8_take zn_cX8_take rfl)
theorem dX8_take_19 : decode cX8_take 19 = .ok (.getfield 22, 3) := zo_180 (b1 := 0) (b2 := 22) (zkb3 zk_cX8_take zn_cX8_take rfl) rfl
theorem dX8_take_22 : decode cX8_take 22 = .ok (.iconst 1, 1) := zo_4 (zkb zk_cX8_take zn_cX8_take rfl)
theorem dX8_take_23 : decode cX8_take 23 = .ok (.iadd, 1) := zo_96 (zkb zk_cX8_take zn_cX8_take rfl)
theorem dX8_take_24 : decode cX8_take 24 = .ok (.putfield 22, 3) := zo_181 (b1 := 0) (b2 := 22) (zkb3 zk_cX8_take zn_cX8_take rfl) rfl
theorem dX8_take_27 : decode cX8_take 27 = .ok (.iload_n 1, 1) := zo_27 (zkb zk_cX8_take zn_cX8_take rfl)
theorem dX8_take_28 : decode cX8_take 28 = .ok (.ireturn, 1) := zo_172 (zkb zk_cX8_take zn_cX8_take rfl)
noncomputable def kn_cX8_split : Nat := 0xb14300b57e07101b2a4000b57e07107a061b2a3d00b57a06101b2a
theorem zk_cX8_split : zkd cX8_split.data.toList kn_cX8_split = true := by decide +kernel
theorem zn_cX8_split : cX8_split.data.toList.length = 27 := by decide +kernel
theorem dX8_split_0 : decode cX8_split 0 = .ok (.aload_n 0, 1) := zo_42 (zkb zk_cX8_split zn_cX8_split rfl)
theorem dX8_split_1 : decode cX8_split 1 = .ok (.iload_n 1, 1) := zo_27 (zkb zk_cX8_split zn_cX8_split rfl)
theorem dX8_split_2 : decode cX8_split 2 = .ok (.bipush 6, 2) := zo_16 (b1 := 6) (zkb2 zk_cX8_split zn_cX8_split rfl) rfl
theorem dX8_split_4 : decode cX8_split 4 = .ok (.ishr, 1) := zo_122 (zkb zk_cX8_split zn_cX8_split rfl)
theorem dX8_split_5 : decode cX8_split 5 = .ok (.putfield 61, 3) := zo_181 (b1 := 0) (b2 := 61) (zkb3 zk_cX8_split zn_cX8_split rfl) rfl
theorem dX8_split_8 : decode cX8_split 8 = .ok (.aload_n 0, 1) := zo_42 (zkb zk_cX8_split zn_cX8_split rfl)
theorem dX8_split_9 : decode cX8_split 9 = .ok (.iload_n 1, 1) := zo_27 (zkb zk_cX8_split zn_cX8_split rfl)
theorem dX8_split_10 : decode cX8_split 10 = .ok (.iconst 3, 1) := zo_6 (zkb zk_cX8_split zn_cX8_split rfl)
theorem dX8_split_11 : decode cX8_split 11 = .ok (.ishr, 1) := zo_122 (zkb zk_cX8_split zn_cX8_split rfl)
theorem dX8_split_12 : decode cX8_split 12 = .ok (.bipush 7, 2) := zo_16 (b1 := 7) (zkb2 zk_cX8_split zn_cX8_split rfl) rfl
theorem dX8_split_14 : decode cX8_split 14 = .ok (.iand, 1) := zo_126 (zkb zk_cX8_split zn_cX8_split rfl)
theorem dX8_split_15 : decode cX8_split 15 = .ok (.putfield 64, 3) := zo_181 (b1 := 0) (b2 := 64) (zkb3 zk_cX8_split zn_cX8_split rfl) rfl
theorem dX8_split_18 : decode cX8_split 18 = .ok (.aload_n 0, 1) := zo_42 (zkb zk_cX8_split zn_cX8_split rfl)
theorem dX8_split_19 : decode cX8_split 19 = .ok (.iload_n 1, 1) := zo_27 (zkb zk_cX8_split zn_cX8_split rfl)
theorem dX8_split_20 : decode cX8_split 20 = .ok (.bipush 7, 2) := zo_16 (b1 := 7) (zkb2 zk_cX8_split zn_cX8_split rfl) rfl
theorem dX8_split_22 : decode cX8_split 22 = .ok (.iand, 1) := zo_126 (zkb zk_cX8_split zn_cX8_split rfl)
theorem dX8_split_23 : decode cX8_split 23 = .ok (.putfield 67, 3) := zo_181 (b1 := 0) (b2 := 67) (zkb3 zk_cX8_split zn_cX8_split rfl) rfl
theorem dX8_split_26 : decode cX8_split 26 = .ok (.return_, 1) := zo_177 (zkb zk_cX8_split zn_cX8_split rfl)
noncomputable def kn_cX8_turnPatterns : Nat := 0xb08912b08712b08512b08312220000001f0000001c000000020000000000000025000000000000aa3d00b42a
theorem zk_cX8_turnPatterns : zkd cX8_turnPatterns.data.toList kn_cX8_turnPatterns = true := by decide +kernel
theorem zn_cX8_turnPatterns : cX8_turnPatterns.data.toList.length = 44 := by decide +kernel
theorem dX8_turnPatterns_0 : decode cX8_turnPatterns 0 = .ok (.aload_n 0, 1) := zo_42 (zkb zk_cX8_turnPatterns zn_cX8_turnPatterns rfl)
theorem dX8_turnPatterns_1 : decode cX8_turnPatterns 1 = .ok (.getfield 61, 3) := zo_180 (b1 := 0) (b2 := 61) (zkb3 zk_cX8_turnPatterns zn_cX8_turnPatterns rfl) rfl
theorem dX8_turnPatterns_4 : decode cX8_turnPatterns 4 = .ok (.tableswitch 37 0 2 #[28, 31, 34], 28) := by decide +kernel
theorem dX8_turnPatterns_32 : decode cX8_turnPatterns 32 = .ok (.ldc 131, 2) := zo_18 (b1 := 131) (zkb2 zk_cX8_turnPatterns zn_cX8_turnPatterns rfl)
theorem dX8_turnPatterns_34 : decode cX8_turnPatterns 34 = .ok (.areturn, 1) := zo_176 (zkb zk_cX8_turnPatterns zn_cX8_turnPatterns rfl)
theorem dX8_turnPatterns_35 : decode cX8_turnPatterns 35 = .ok (.ldc 133, 2) := zo_18 (b1 := 133) (zkb2 zk_cX8_turnPatterns zn_cX8_turnPatterns rfl)
theorem dX8_turnPatterns_37 : decode cX8_turnPatterns 37 = .ok (.areturn, 1) := zo_176 (zkb zk_cX8_turnPatterns zn_cX8_turnPatterns rfl)
theorem dX8_turnPatterns_38 : decode cX8_turnPatterns 38 = .ok (.ldc 135, 2) := zo_18 (b1 := 135) (zkb2 zk_cX8_turnPatterns zn_cX8_turnPatterns rfl)
theorem dX8_turnPatterns_40 : decode cX8_turnPatterns 40 = .ok (.areturn, 1) := zo_176 (zkb zk_cX8_turnPatterns zn_cX8_turnPatterns rfl)
theorem dX8_turnPatterns_41 : decode cX8_turnPatterns 41 = .ok (.ldc 137, 2) := zo_18 (b1 := 137) (zkb2 zk_cX8_turnPatterns zn_cX8_turnPatterns rfl)
theorem dX8_turnPatterns_43 : decode cX8_turnPatterns 43 = .ok (.areturn, 1) := zo_176 (zkb zk_cX8_turnPatterns zn_cX8_turnPatterns rfl)
noncomputable def kn_cX8_put : Nat := 0xb1b8ffa7010484b400b605152a0900a7b100b605152a0c00a35a1005151300a1411005152000a0701c4000b42a1d2a00a70103840900a03b1005150536ad00b604152b4500a2a900b62b04150436033e03e3ffa70103843d60030400a7040700a03b10ad00b61d2b1c1b00a2a900b62b1d3e033d04
theorem zk_cX8_put : zkd cX8_put.data.toList kn_cX8_put = true := by decide +kernel
theorem zn_cX8_put : cX8_put.data.toList.length = 117 := by decide +kernel
theorem dX8_put_0 : decode cX8_put 0 = .ok (.iconst 1, 1) := zo_4 (zkb zk_cX8_put zn_cX8_put rfl)
theorem dX8_put_1 : decode cX8_put 1 = .ok (.istore_n 2, 1) := zo_61 (zkb zk_cX8_put zn_cX8_put rfl)
theorem dX8_put_2 : decode cX8_put 2 = .ok (.iconst 0, 1) := zo_3 (zkb zk_cX8_put zn_cX8_put rfl)
theorem dX8_put_3 : decode cX8_put 3 = .ok (.istore_n 3, 1) := zo_62 (zkb zk_cX8_put zn_cX8_put rfl)
theorem dX8_put_4 : decode cX8_put 4 = .ok (.iload_n 3, 1) := zo_29 (zkb zk_cX8_put zn_cX8_put rfl)
theorem dX8_put_5 : decode cX8_put 5 = .ok (.aload_n 1, 1) := zo_43 (zkb zk_cX8_put zn_cX8_put rfl)
theorem dX8_put_6 : decode cX8_put 6 = .ok (.invokevirtual 169, 3) := zo_182 (b1 := 0) (b2 := 169) (zkb3 zk_cX8_put zn_cX8_put rfl) rfl
theorem dX8_put_9 : decode cX8_put 9 = .ok (.if_icmp .ge 27, 3) := zo_162 (b1 := 0) (b2 := 27) (zkb3 zk_cX8_put zn_cX8_put rfl) rfl
theorem dX8_put_12 : decode cX8_put 12 = .ok (.iload_n 2, 1) := zo_28 (zkb zk_cX8_put zn_cX8_put rfl)
theorem dX8_put_13 : decode cX8_put 13 = .ok (.aload_n 1, 1) := zo_43 (zkb zk_cX8_put zn_cX8_put rfl)
theorem dX8_put_14 : decode cX8_put 14 = .ok (.iload_n 3, 1) := zo_29 (zkb zk_cX8_put zn_cX8_put rfl)
theorem dX8_put_15 : decode cX8_put 15 = .ok (.invokevirtual 173, 3) := zo_182 (b1 := 0) (b2 := 173) (zkb3 zk_cX8_put zn_cX8_put rfl) rfl
theorem dX8_put_18 : decode cX8_put 18 = .ok (.bipush 59, 2) := zo_16 (b1 := 59) (zkb2 zk_cX8_put zn_cX8_put rfl) rfl
theorem dX8_put_20 : decode cX8_put 20 = .ok (.if_icmp .ne 7, 3) := zo_160 (b1 := 0) (b2 := 7) (zkb3 zk_cX8_put zn_cX8_put rfl) rfl
theorem dX8_put_23 : decode cX8_put 23 = .ok (.iconst 1, 1) := zo_4 (zkb zk_cX8_put zn_cX8_put rfl)
theorem dX8_put_24 : decode cX8_put 24 = .ok (.goto 4, 3) := zo_167 (b1 := 0) (b2 := 4) (zkb3 zk_cX8_put zn_cX8_put rfl) rfl
theorem dX8_put_27 : decode cX8_put 27 = .ok (.iconst 0, 1) := zo_3 (zkb zk_cX8_put zn_cX8_put rfl)
theorem dX8_put_28 : decode cX8_put 28 = .ok (.iadd, 1) := zo_96 (zkb zk_cX8_put zn_cX8_put rfl)
theorem dX8_put_29 : decode cX8_put 29 = .ok (.istore_n 2, 1) := zo_61 (zkb zk_cX8_put zn_cX8_put rfl)
theorem dX8_put_30 : decode cX8_put 30 = .ok (.iinc 3 1, 3) := zo_132 (b1 := 3) (b2 := 1) (zkb3 zk_cX8_put zn_cX8_put rfl) rfl
theorem dX8_put_33 : decode cX8_put 33 = .ok (.goto (-29), 3) := zo_167 (b1 := 255) (b2 := 227) (zkb3 zk_cX8_put zn_cX8_put rfl) rfl
theorem dX8_put_36 : decode cX8_put 36 = .ok (.iconst 0, 1) := zo_3 (zkb zk_cX8_put zn_cX8_put rfl)
theorem dX8_put_37 : decode cX8_put 37 = .ok (.istore_n 3, 1) := zo_62 (zkb zk_cX8_put zn_cX8_put rfl)
theorem dX8_put_38 : decode cX8_put 38 = .ok (.iconst 0, 1) := zo_3 (zkb zk_cX8_put zn_cX8_put rfl)
theorem dX8_put_39 : decode cX8_put 39 = .ok (.istore 4, 2) := zo_54 (b1 := 4) (zkb2 zk_cX8_put zn_cX8_put rfl)
theorem dX8_put_41 : decode cX8_put 41 = .ok (.iload 4, 2) := zo_21 (b1 := 4) (zkb2 zk_cX8_put zn_cX8_put rfl)
theorem dX8_put_43 : decode cX8_put 43 = .ok (.aload_n 1, 1) := zo_43 (zkb zk_cX8_put zn_cX8_put rfl)
theorem dX8_put_44 : decode cX8_put 44 = .ok (.invokevirtual 169, 3) := zo_182 (b1 := 0) (b2 := 169) (zkb3 zk_cX8_put zn_cX8_put rfl) rfl
theorem dX8_put_47 : decode cX8_put 47 = .ok (.if_icmp .ge 69, 3) := zo_162 (b1 := 0) (b2 := 69) (zkb3 zk_cX8_put zn_cX8_put rfl) rfl
theorem dX8_put_50 : decode cX8_put 50 = .ok (.aload_n 1, 1) := zo_43 (zkb zk_cX8_put zn_cX8_put rfl)
theorem dX8_put_51 : decode cX8_put 51 = .ok (.iload 4, 2) := zo_21 (b1 := 4) (zkb2 zk_cX8_put zn_cX8_put rfl)
theorem dX8_put_53 : decode cX8_put 53 = .ok (.invokevirtual 173, 3) := zo_182 (b1 := 0) (b2 := 173) (zkb3 zk_cX8_put zn_cX8_put rfl) rfl
theorem dX8_put_56 : decode cX8_put 56 = .ok (.istore 5, 2) := zo_54 (b1 := 5) (zkb2 zk_cX8_put zn_cX8_put rfl)
theorem dX8_put_58 : decode cX8_put 58 = .ok (.iload 5, 2) := zo_21 (b1 := 5) (zkb2 zk_cX8_put zn_cX8_put rfl)
theorem dX8_put_60 : decode cX8_put 60 = .ok (.bipush 59, 2) := zo_16 (b1 := 59) (zkb2 zk_cX8_put zn_cX8_put rfl) rfl
theorem dX8_put_62 : decode cX8_put 62 = .ok (.if_icmp .ne 9, 3) := zo_160 (b1 := 0) (b2 := 9) (zkb3 zk_cX8_put zn_cX8_put rfl) rfl
theorem dX8_put_65 : decode cX8_put 65 = .ok (.iinc 3 1, 3) := zo_132 (b1 := 3) (b2 := 1) (zkb3 zk_cX8_put zn_cX8_put rfl) rfl
theorem dX8_put_68 : decode cX8_put 68 = .ok (.goto 42, 3) := zo_167 (b1 := 0) (b2 := 42) (zkb3 zk_cX8_put zn_cX8_put rfl) rfl
theorem dX8_put_71 : decode cX8_put 71 = .ok (.iload_n 3, 1) := zo_29 (zkb zk_cX8_put zn_cX8_put rfl)
theorem dX8_put_72 : decode cX8_put 72 = .ok (.aload_n 0, 1) := zo_42 (zkb zk_cX8_put zn_cX8_put rfl)
theorem dX8_put_73 : decode cX8_put 73 = .ok (.getfield 64, 3) := zo_180 (b1 := 0) (b2 := 64) (zkb3 zk_cX8_put zn_cX8_put rfl) rfl
theorem dX8_put_76 : decode cX8_put 76 = .ok (.iload_n 2, 1) := zo_28 (zkb zk_cX8_put zn_cX8_put rfl)
theorem dX8_put_77 : decode cX8_put 77 = .ok (.irem, 1) := zo_112 (zkb zk_cX8_put zn_cX8_put rfl)
theorem dX8_put_78 : decode cX8_put 78 = .ok (.if_icmp .ne 32, 3) := zo_160 (b1 := 0) (b2 := 32) (zkb3 zk_cX8_put zn_cX8_put rfl) rfl
theorem dX8_put_81 : decode cX8_put 81 = .ok (.iload 5, 2) := zo_21 (b1 := 5) (zkb2 zk_cX8_put zn_cX8_put rfl)
theorem dX8_put_83 : decode cX8_put 83 = .ok (.bipush 65, 2) := zo_16 (b1 := 65) (zkb2 zk_cX8_put zn_cX8_put rfl) rfl
theorem dX8_put_85 : decode cX8_put 85 = .ok (.if_icmp .lt 19, 3) := zo_161 (b1 := 0) (b2 := 19) (zkb3 zk_cX8_put zn_cX8_put rfl) rfl
theorem dX8_put_88 : decode cX8_put 88 = .ok (.iload 5, 2) := zo_21 (b1 := 5) (zkb2 zk_cX8_put zn_cX8_put rfl)
theorem dX8_put_90 : decode cX8_put 90 = .ok (.bipush 90, 2) := zo_16 (b1 := 90) (zkb2 zk_cX8_put zn_cX8_put rfl) rfl
theorem dX8_put_92 : decode cX8_put 92 = .ok (.if_icmp .gt 12, 3) := zo_163 (b1 := 0) (b2 := 12) (zkb3 zk_cX8_put zn_cX8_put rfl) rfl
theorem dX8_put_95 : decode cX8_put 95 = .ok (.aload_n 0, 1) := zo_42 (zkb zk_cX8_put zn_cX8_put rfl)
theorem dX8_put_96 : decode cX8_put 96 = .ok (.iload 5, 2) := zo_21 (b1 := 5) (zkb2 zk_cX8_put zn_cX8_put rfl)
theorem dX8_put_98 : decode cX8_put 98 = .ok (.invokevirtual 177, 3) := zo_182 (b1 := 0) (b2 := 177) (zkb3 zk_cX8_put zn_cX8_put rfl) rfl
theorem dX8_put_101 : decode cX8_put 101 = .ok (.goto 9, 3) := zo_167 (b1 := 0) (b2 := 9) (zkb3 zk_cX8_put zn_cX8_put rfl) rfl
theorem dX8_put_104 : decode cX8_put 104 = .ok (.aload_n 0, 1) := zo_42 (zkb zk_cX8_put zn_cX8_put rfl)
theorem dX8_put_105 : decode cX8_put 105 = .ok (.iload 5, 2) := zo_21 (b1 := 5) (zkb2 zk_cX8_put zn_cX8_put rfl)
theorem dX8_put_107 : decode cX8_put 107 = .ok (.invokevirtual 180, 3) := zo_182 (b1 := 0) (b2 := 180) (zkb3 zk_cX8_put zn_cX8_put rfl) rfl
theorem dX8_put_110 : decode cX8_put 110 = .ok (.iinc 4 1, 3) := zo_132 (b1 := 4) (b2 := 1) (zkb3 zk_cX8_put zn_cX8_put rfl) rfl
theorem dX8_put_113 : decode cX8_put 113 = .ok (.goto (-72), 3) := zo_167 (b1 := 255) (b2 := 184) (zkb3 zk_cX8_put zn_cX8_put rfl) rfl
theorem dX8_put_116 : decode cX8_put 116 = .ok (.return_, 1) := zo_177 (zkb zk_cX8_put zn_cX8_put rfl)
noncomputable def kn_cX8_putSign : Nat := 0xb11900b560041900b4592a4f1b1900b42a0900b42a1700a220101900b42a
theorem zk_cX8_putSign : zkd cX8_putSign.data.toList kn_cX8_putSign = true := by decide +kernel
theorem zn_cX8_putSign : cX8_putSign.data.toList.length = 30 := by decide +kernel
theorem dX8_putSign_0 : decode cX8_putSign 0 = .ok (.aload_n 0, 1) := zo_42 (zkb zk_cX8_putSign zn_cX8_putSign rfl)
theorem dX8_putSign_1 : decode cX8_putSign 1 = .ok (.getfield 25, 3) := zo_180 (b1 := 0) (b2 := 25) (zkb3 zk_cX8_putSign zn_cX8_putSign rfl) rfl
theorem dX8_putSign_4 : decode cX8_putSign 4 = .ok (.bipush 32, 2) := zo_16 (b1 := 32) (zkb2 zk_cX8_putSign zn_cX8_putSign rfl) rfl
theorem dX8_putSign_6 : decode cX8_putSign 6 = .ok (.if_icmp .ge 23, 3) := zo_162 (b1 := 0) (b2 := 23) (zkb3 zk_cX8_putSign zn_cX8_putSign rfl) rfl
theorem dX8_putSign_9 : decode cX8_putSign 9 = .ok (.aload_n 0, 1) := zo_42 (zkb zk_cX8_putSign zn_cX8_putSign rfl)
theorem dX8_putSign_10 : decode cX8_putSign 10 = .ok (.getfield 9, 3) := zo_180 (b1 := 0) (b2 := 9) (zkb3 zk_cX8_putSign zn_cX8_putSign rfl) rfl
theorem dX8_putSign_13 : decode cX8_putSign 13 = .ok (.aload_n 0, 1) := zo_42 (zkb zk_cX8_putSign zn_cX8_putSign rfl)
theorem dX8_putSign_14 : decode cX8_putSign 14 = .ok (.getfield 25, 3) := zo_180 (b1 := 0) (b2 := 25) (zkb3 zk_cX8_putSign zn_cX8_putSign rfl) rfl
theorem dX8_putSign_17 : decode cX8_putSign 17 = .ok (.iload_n 1, 1) := zo_27 (zkb zk_cX8_putSign zn_cX8_putSign rfl)
theorem dX8_putSign_18 : decode cX8_putSign 18 = .ok (.iastore, 1) := zo_79 (zkb zk_cX8_putSign zn_cX8_putSign rfl)
theorem dX8_putSign_19 : decode cX8_putSign 19 = .ok (.aload_n 0, 1) := zo_42 (zkb zk_cX8_putSign zn_cX8_putSign rfl)
theorem dX8_putSign_20 : decode cX8_putSign 20 = .ok (.dup, 1) := zo_89 (zkb zk_cX8_putSign zn_cX8_putSign rfl)
theorem dX8_putSign_21 : decode cX8_putSign 21 = .ok (.getfield 25, 3) := zo_180 (b1 := 0) (b2 := 25) (zkb3 zk_cX8_putSign zn_cX8_putSign rfl) rfl
theorem dX8_putSign_24 : decode cX8_putSign 24 = .ok (.iconst 1, 1) := zo_4 (zkb zk_cX8_putSign zn_cX8_putSign rfl)
theorem dX8_putSign_25 : decode cX8_putSign 25 = .ok (.iadd, 1) := zo_96 (zkb zk_cX8_putSign zn_cX8_putSign rfl)
theorem dX8_putSign_26 : decode cX8_putSign 26 = .ok (.putfield 25, 3) := zo_181 (b1 := 0) (b2 := 25) (zkb3 zk_cX8_putSign zn_cX8_putSign rfl) rfl
theorem dX8_putSign_29 : decode cX8_putSign 29 = .ok (.return_, 1) := zo_177 (zkb zk_cX8_putSign zn_cX8_putSign rfl)
noncomputable def kn_cX8_putMeant : Nat := 0xb1d000b6601600b42a601200b42a912300b62a2a1600a7d000b6807808102300b62a2300b62a2a2900a7cd00b62300b62a2a3400a7cd00b6684000b42a08102a4200a7b400b6604000b42a30102a5000a7c900b664074000b42ac7122a5f00a7c900b64000b42ac7122a6c00a7c400b62a7300a7bf00b6c2122a7c00a7bf00b6bd122a8500a7ba00b62a8c00a7b700b64300b42a2a9700a7b700b64000b42a2a7e00000073000000ff000000ec000000d3000000ff00000089000000ff000000ff0000009900000090000000ff000000e1000000ff000000ff000000ff000000a2000000ff000000ff000000ff000000ff000000ff000000b6000000a9000000c50000005a00000042000000ff0000000000aa1b
theorem zk_cX8_putMeant : zkd cX8_putMeant.data.toList kn_cX8_putMeant = true := by decide +kernel
theorem zn_cX8_putMeant : cX8_putMeant.data.toList.length = 276 := by decide +kernel
theorem dX8_putMeant_0 : decode cX8_putMeant 0 = .ok (.iload_n 1, 1) := zo_27 (zkb zk_cX8_putMeant zn_cX8_putMeant rfl)
theorem dX8_putMeant_1 : decode cX8_putMeant 1 = .ok (.tableswitch 255 66 90 #[197, 169, 182, 255, 255, 255, 255, 255, 162, 255, 255, 255, 225, 255, 144, 153, 255, 255, 137, 255, 211, 236, 255, 115, 126], 115) := by decide +kernel
theorem dX8_putMeant_116 : decode cX8_putMeant 116 = .ok (.aload_n 0, 1) := zo_42 (zkb zk_cX8_putMeant zn_cX8_putMeant rfl)
theorem dX8_putMeant_117 : decode cX8_putMeant 117 = .ok (.aload_n 0, 1) := zo_42 (zkb zk_cX8_putMeant zn_cX8_putMeant rfl)
theorem dX8_putMeant_118 : decode cX8_putMeant 118 = .ok (.getfield 64, 3) := zo_180 (b1 := 0) (b2 := 64) (zkb3 zk_cX8_putMeant zn_cX8_putMeant rfl) rfl
theorem dX8_putMeant_121 : decode cX8_putMeant 121 = .ok (.invokevirtual 183, 3) := zo_182 (b1 := 0) (b2 := 183) (zkb3 zk_cX8_putMeant zn_cX8_putMeant rfl) rfl
theorem dX8_putMeant_124 : decode cX8_putMeant 124 = .ok (.goto 151, 3) := zo_167 (b1 := 0) (b2 := 151) (zkb3 zk_cX8_putMeant zn_cX8_putMeant rfl) rfl
theorem dX8_putMeant_127 : decode cX8_putMeant 127 = .ok (.aload_n 0, 1) := zo_42 (zkb zk_cX8_putMeant zn_cX8_putMeant rfl)
theorem dX8_putMeant_128 : decode cX8_putMeant 128 = .ok (.aload_n 0, 1) := zo_42 (zkb zk_cX8_putMeant zn_cX8_putMeant rfl)
theorem dX8_putMeant_129 : decode cX8_putMeant 129 = .ok (.getfield 67, 3) := zo_180 (b1 := 0) (b2 := 67) (zkb3 zk_cX8_putMeant zn_cX8_putMeant rfl) rfl
theorem dX8_putMeant_132 : decode cX8_putMeant 132 = .ok (.invokevirtual 183, 3) := zo_182 (b1 := 0) (b2 := 183) (zkb3 zk_cX8_putMeant zn_cX8_putMeant rfl) rfl
theorem dX8_putMeant_135 : decode cX8_putMeant 135 = .ok (.goto 140, 3) := zo_167 (b1 := 0) (b2 := 140) (zkb3 zk_cX8_putMeant zn_cX8_putMeant rfl) rfl
theorem dX8_putMeant_138 : decode cX8_putMeant 138 = .ok (.aload_n 0, 1) := zo_42 (zkb zk_cX8_putMeant zn_cX8_putMeant rfl)
theorem dX8_putMeant_139 : decode cX8_putMeant 139 = .ok (.invokevirtual 186, 3) := zo_182 (b1 := 0) (b2 := 186) (zkb3 zk_cX8_putMeant zn_cX8_putMeant rfl) rfl
theorem dX8_putMeant_142 : decode cX8_putMeant 142 = .ok (.goto 133, 3) := zo_167 (b1 := 0) (b2 := 133) (zkb3 zk_cX8_putMeant zn_cX8_putMeant rfl) rfl
theorem dX8_putMeant_145 : decode cX8_putMeant 145 = .ok (.aload_n 0, 1) := zo_42 (zkb zk_cX8_putMeant zn_cX8_putMeant rfl)
theorem dX8_putMeant_146 : decode cX8_putMeant 146 = .ok (.ldc 189, 2) := zo_18 (b1 := 189) (zkb2 zk_cX8_putMeant zn_cX8_putMeant rfl)
theorem dX8_putMeant_148 : decode cX8_putMeant 148 = .ok (.invokevirtual 191, 3) := zo_182 (b1 := 0) (b2 := 191) (zkb3 zk_cX8_putMeant zn_cX8_putMeant rfl) rfl
theorem dX8_putMeant_151 : decode cX8_putMeant 151 = .ok (.goto 124, 3) := zo_167 (b1 := 0) (b2 := 124) (zkb3 zk_cX8_putMeant zn_cX8_putMeant rfl) rfl
theorem dX8_putMeant_154 : decode cX8_putMeant 154 = .ok (.aload_n 0, 1) := zo_42 (zkb zk_cX8_putMeant zn_cX8_putMeant rfl)
theorem dX8_putMeant_155 : decode cX8_putMeant 155 = .ok (.ldc 194, 2) := zo_18 (b1 := 194) (zkb2 zk_cX8_putMeant zn_cX8_putMeant rfl)
theorem dX8_putMeant_157 : decode cX8_putMeant 157 = .ok (.invokevirtual 191, 3) := zo_182 (b1 := 0) (b2 := 191) (zkb3 zk_cX8_putMeant zn_cX8_putMeant rfl) rfl
theorem dX8_putMeant_160 : decode cX8_putMeant 160 = .ok (.goto 115, 3) := zo_167 (b1 := 0) (b2 := 115) (zkb3 zk_cX8_putMeant zn_cX8_putMeant rfl) rfl
theorem dX8_putMeant_163 : decode cX8_putMeant 163 = .ok (.aload_n 0, 1) := zo_42 (zkb zk_cX8_putMeant zn_cX8_putMeant rfl)
theorem dX8_putMeant_164 : decode cX8_putMeant 164 = .ok (.invokevirtual 196, 3) := zo_182 (b1 := 0) (b2 := 196) (zkb3 zk_cX8_putMeant zn_cX8_putMeant rfl) rfl
theorem dX8_putMeant_167 : decode cX8_putMeant 167 = .ok (.goto 108, 3) := zo_167 (b1 := 0) (b2 := 108) (zkb3 zk_cX8_putMeant zn_cX8_putMeant rfl) rfl
theorem dX8_putMeant_170 : decode cX8_putMeant 170 = .ok (.aload_n 0, 1) := zo_42 (zkb zk_cX8_putMeant zn_cX8_putMeant rfl)
theorem dX8_putMeant_171 : decode cX8_putMeant 171 = .ok (.ldc 199, 2) := zo_18 (b1 := 199) (zkb2 zk_cX8_putMeant zn_cX8_putMeant rfl)
theorem dX8_putMeant_173 : decode cX8_putMeant 173 = .ok (.aload_n 0, 1) := zo_42 (zkb zk_cX8_putMeant zn_cX8_putMeant rfl)
theorem dX8_putMeant_174 : decode cX8_putMeant 174 = .ok (.getfield 64, 3) := zo_180 (b1 := 0) (b2 := 64) (zkb3 zk_cX8_putMeant zn_cX8_putMeant rfl) rfl
theorem dX8_putMeant_177 : decode cX8_putMeant 177 = .ok (.invokevirtual 201, 3) := zo_182 (b1 := 0) (b2 := 201) (zkb3 zk_cX8_putMeant zn_cX8_putMeant rfl) rfl
theorem dX8_putMeant_180 : decode cX8_putMeant 180 = .ok (.goto 95, 3) := zo_167 (b1 := 0) (b2 := 95) (zkb3 zk_cX8_putMeant zn_cX8_putMeant rfl) rfl
theorem dX8_putMeant_183 : decode cX8_putMeant 183 = .ok (.aload_n 0, 1) := zo_42 (zkb zk_cX8_putMeant zn_cX8_putMeant rfl)
theorem dX8_putMeant_184 : decode cX8_putMeant 184 = .ok (.ldc 199, 2) := zo_18 (b1 := 199) (zkb2 zk_cX8_putMeant zn_cX8_putMeant rfl)
theorem dX8_putMeant_186 : decode cX8_putMeant 186 = .ok (.aload_n 0, 1) := zo_42 (zkb zk_cX8_putMeant zn_cX8_putMeant rfl)
theorem dX8_putMeant_187 : decode cX8_putMeant 187 = .ok (.getfield 64, 3) := zo_180 (b1 := 0) (b2 := 64) (zkb3 zk_cX8_putMeant zn_cX8_putMeant rfl) rfl
theorem dX8_putMeant_190 : decode cX8_putMeant 190 = .ok (.iconst 4, 1) := zo_7 (zkb zk_cX8_putMeant zn_cX8_putMeant rfl)
theorem dX8_putMeant_191 : decode cX8_putMeant 191 = .ok (.isub, 1) := zo_100 (zkb zk_cX8_putMeant zn_cX8_putMeant rfl)
theorem dX8_putMeant_192 : decode cX8_putMeant 192 = .ok (.invokevirtual 201, 3) := zo_182 (b1 := 0) (b2 := 201) (zkb3 zk_cX8_putMeant zn_cX8_putMeant rfl) rfl
theorem dX8_putMeant_195 : decode cX8_putMeant 195 = .ok (.goto 80, 3) := zo_167 (b1 := 0) (b2 := 80) (zkb3 zk_cX8_putMeant zn_cX8_putMeant rfl) rfl
theorem dX8_putMeant_198 : decode cX8_putMeant 198 = .ok (.aload_n 0, 1) := zo_42 (zkb zk_cX8_putMeant zn_cX8_putMeant rfl)
theorem dX8_putMeant_199 : decode cX8_putMeant 199 = .ok (.bipush 48, 2) := zo_16 (b1 := 48) (zkb2 zk_cX8_putMeant zn_cX8_putMeant rfl) rfl
theorem dX8_putMeant_201 : decode cX8_putMeant 201 = .ok (.aload_n 0, 1) := zo_42 (zkb zk_cX8_putMeant zn_cX8_putMeant rfl)
theorem dX8_putMeant_202 : decode cX8_putMeant 202 = .ok (.getfield 64, 3) := zo_180 (b1 := 0) (b2 := 64) (zkb3 zk_cX8_putMeant zn_cX8_putMeant rfl) rfl
theorem dX8_putMeant_205 : decode cX8_putMeant 205 = .ok (.iadd, 1) := zo_96 (zkb zk_cX8_putMeant zn_cX8_putMeant rfl)
theorem dX8_putMeant_206 : decode cX8_putMeant 206 = .ok (.invokevirtual 180, 3) := zo_182 (b1 := 0) (b2 := 180) (zkb3 zk_cX8_putMeant zn_cX8_putMeant rfl) rfl
theorem dX8_putMeant_209 : decode cX8_putMeant 209 = .ok (.goto 66, 3) := zo_167 (b1 := 0) (b2 := 66) (zkb3 zk_cX8_putMeant zn_cX8_putMeant rfl) rfl
theorem dX8_putMeant_212 : decode cX8_putMeant 212 = .ok (.aload_n 0, 1) := zo_42 (zkb zk_cX8_putMeant zn_cX8_putMeant rfl)
theorem dX8_putMeant_213 : decode cX8_putMeant 213 = .ok (.bipush 8, 2) := zo_16 (b1 := 8) (zkb2 zk_cX8_putMeant zn_cX8_putMeant rfl) rfl
theorem dX8_putMeant_215 : decode cX8_putMeant 215 = .ok (.aload_n 0, 1) := zo_42 (zkb zk_cX8_putMeant zn_cX8_putMeant rfl)
theorem dX8_putMeant_216 : decode cX8_putMeant 216 = .ok (.getfield 64, 3) := zo_180 (b1 := 0) (b2 := 64) (zkb3 zk_cX8_putMeant zn_cX8_putMeant rfl) rfl
theorem dX8_putMeant_219 : decode cX8_putMeant 219 = .ok (.imul, 1) := zo_104 (zkb zk_cX8_putMeant zn_cX8_putMeant rfl)
theorem dX8_putMeant_220 : decode cX8_putMeant 220 = .ok (.invokevirtual 205, 3) := zo_182 (b1 := 0) (b2 := 205) (zkb3 zk_cX8_putMeant zn_cX8_putMeant rfl) rfl
theorem dX8_putMeant_223 : decode cX8_putMeant 223 = .ok (.goto 52, 3) := zo_167 (b1 := 0) (b2 := 52) (zkb3 zk_cX8_putMeant zn_cX8_putMeant rfl) rfl
theorem dX8_putMeant_226 : decode cX8_putMeant 226 = .ok (.aload_n 0, 1) := zo_42 (zkb zk_cX8_putMeant zn_cX8_putMeant rfl)
theorem dX8_putMeant_227 : decode cX8_putMeant 227 = .ok (.aload_n 0, 1) := zo_42 (zkb zk_cX8_putMeant zn_cX8_putMeant rfl)
theorem dX8_putMeant_228 : decode cX8_putMeant 228 = .ok (.invokevirtual 35, 3) := zo_182 (b1 := 0) (b2 := 35) (zkb3 zk_cX8_putMeant zn_cX8_putMeant rfl) rfl
theorem dX8_putMeant_231 : decode cX8_putMeant 231 = .ok (.invokevirtual 205, 3) := zo_182 (b1 := 0) (b2 := 205) (zkb3 zk_cX8_putMeant zn_cX8_putMeant rfl) rfl
theorem dX8_putMeant_234 : decode cX8_putMeant 234 = .ok (.goto 41, 3) := zo_167 (b1 := 0) (b2 := 41) (zkb3 zk_cX8_putMeant zn_cX8_putMeant rfl) rfl
theorem dX8_putMeant_237 : decode cX8_putMeant 237 = .ok (.aload_n 0, 1) := zo_42 (zkb zk_cX8_putMeant zn_cX8_putMeant rfl)
theorem dX8_putMeant_238 : decode cX8_putMeant 238 = .ok (.aload_n 0, 1) := zo_42 (zkb zk_cX8_putMeant zn_cX8_putMeant rfl)
theorem dX8_putMeant_239 : decode cX8_putMeant 239 = .ok (.invokevirtual 35, 3) := zo_182 (b1 := 0) (b2 := 35) (zkb3 zk_cX8_putMeant zn_cX8_putMeant rfl) rfl
theorem dX8_putMeant_242 : decode cX8_putMeant 242 = .ok (.aload_n 0, 1) := zo_42 (zkb zk_cX8_putMeant zn_cX8_putMeant rfl)
theorem dX8_putMeant_243 : decode cX8_putMeant 243 = .ok (.invokevirtual 35, 3) := zo_182 (b1 := 0) (b2 := 35) (zkb3 zk_cX8_putMeant zn_cX8_putMeant rfl) rfl
theorem dX8_putMeant_246 : decode cX8_putMeant 246 = .ok (.bipush 8, 2) := zo_16 (b1 := 8) (zkb2 zk_cX8_putMeant zn_cX8_putMeant rfl) rfl
theorem dX8_putMeant_248 : decode cX8_putMeant 248 = .ok (.ishl, 1) := zo_120 (zkb zk_cX8_putMeant zn_cX8_putMeant rfl)
theorem dX8_putMeant_249 : decode cX8_putMeant 249 = .ok (.ior, 1) := zo_128 (zkb zk_cX8_putMeant zn_cX8_putMeant rfl)
theorem dX8_putMeant_250 : decode cX8_putMeant 250 = .ok (.invokevirtual 208, 3) := zo_182 (b1 := 0) (b2 := 208) (zkb3 zk_cX8_putMeant zn_cX8_putMeant rfl) rfl
theorem dX8_putMeant_253 : decode cX8_putMeant 253 = .ok (.goto 22, 3) := zo_167 (b1 := 0) (b2 := 22) (zkb3 zk_cX8_putMeant zn_cX8_putMeant rfl) rfl
theorem dX8_putMeant_256 : decode cX8_putMeant 256 = .ok (.aload_n 0, 1) := zo_42 (zkb zk_cX8_putMeant zn_cX8_putMeant rfl)
theorem dX8_putMeant_257 : decode cX8_putMeant 257 = .ok (.aload_n 0, 1) := zo_42 (zkb zk_cX8_putMeant zn_cX8_putMeant rfl)
theorem dX8_putMeant_258 : decode cX8_putMeant 258 = .ok (.invokevirtual 35, 3) := zo_182 (b1 := 0) (b2 := 35) (zkb3 zk_cX8_putMeant zn_cX8_putMeant rfl) rfl
theorem dX8_putMeant_261 : decode cX8_putMeant 261 = .ok (.i2b, 1) := zo_145 (zkb zk_cX8_putMeant zn_cX8_putMeant rfl)
theorem dX8_putMeant_262 : decode cX8_putMeant 262 = .ok (.aload_n 0, 1) := zo_42 (zkb zk_cX8_putMeant zn_cX8_putMeant rfl)
theorem dX8_putMeant_263 : decode cX8_putMeant 263 = .ok (.getfield 18, 3) := zo_180 (b1 := 0) (b2 := 18) (zkb3 zk_cX8_putMeant zn_cX8_putMeant rfl) rfl
theorem dX8_putMeant_266 : decode cX8_putMeant 266 = .ok (.iadd, 1) := zo_96 (zkb zk_cX8_putMeant zn_cX8_putMeant rfl)
theorem dX8_putMeant_267 : decode cX8_putMeant 267 = .ok (.aload_n 0, 1) := zo_42 (zkb zk_cX8_putMeant zn_cX8_putMeant rfl)
theorem dX8_putMeant_268 : decode cX8_putMeant 268 = .ok (.getfield 22, 3) := zo_180 (b1 := 0) (b2 := 22) (zkb3 zk_cX8_putMeant zn_cX8_putMeant rfl) rfl
theorem dX8_putMeant_271 : decode cX8_putMeant 271 = .ok (.iadd, 1) := zo_96 (zkb zk_cX8_putMeant zn_cX8_putMeant rfl)
theorem dX8_putMeant_272 : decode cX8_putMeant 272 = .ok (.invokevirtual 208, 3) := zo_182 (b1 := 0) (b2 := 208) (zkb3 zk_cX8_putMeant zn_cX8_putMeant rfl) rfl
theorem dX8_putMeant_275 : decode cX8_putMeant 275 = .ok (.return_, 1) := zo_177 (zkb zk_cX8_putMeant zn_cX8_putMeant rfl)
noncomputable def kn_cX8_putName : Nat := 0xb1d4ffa7010484b400b6ad00b604152b2a0d00a01c1d1200a70103840900a03b10ad00b604152b2900a2a900b62b04150436033e03
theorem zk_cX8_putName : zkd cX8_putName.data.toList kn_cX8_putName = true := by decide +kernel
theorem zn_cX8_putName : cX8_putName.data.toList.length = 53 := by decide +kernel
theorem dX8_putName_0 : decode cX8_putName 0 = .ok (.iconst 0, 1) := zo_3 (zkb zk_cX8_putName zn_cX8_putName rfl)
theorem dX8_putName_1 : decode cX8_putName 1 = .ok (.istore_n 3, 1) := zo_62 (zkb zk_cX8_putName zn_cX8_putName rfl)
theorem dX8_putName_2 : decode cX8_putName 2 = .ok (.iconst 0, 1) := zo_3 (zkb zk_cX8_putName zn_cX8_putName rfl)
theorem dX8_putName_3 : decode cX8_putName 3 = .ok (.istore 4, 2) := zo_54 (b1 := 4) (zkb2 zk_cX8_putName zn_cX8_putName rfl)
theorem dX8_putName_5 : decode cX8_putName 5 = .ok (.iload 4, 2) := zo_21 (b1 := 4) (zkb2 zk_cX8_putName zn_cX8_putName rfl)
theorem dX8_putName_7 : decode cX8_putName 7 = .ok (.aload_n 1, 1) := zo_43 (zkb zk_cX8_putName zn_cX8_putName rfl)
theorem dX8_putName_8 : decode cX8_putName 8 = .ok (.invokevirtual 169, 3) := zo_182 (b1 := 0) (b2 := 169) (zkb3 zk_cX8_putName zn_cX8_putName rfl) rfl
theorem dX8_putName_11 : decode cX8_putName 11 = .ok (.if_icmp .ge 41, 3) := zo_162 (b1 := 0) (b2 := 41) (zkb3 zk_cX8_putName zn_cX8_putName rfl) rfl
theorem dX8_putName_14 : decode cX8_putName 14 = .ok (.aload_n 1, 1) := zo_43 (zkb zk_cX8_putName zn_cX8_putName rfl)
theorem dX8_putName_15 : decode cX8_putName 15 = .ok (.iload 4, 2) := zo_21 (b1 := 4) (zkb2 zk_cX8_putName zn_cX8_putName rfl)
theorem dX8_putName_17 : decode cX8_putName 17 = .ok (.invokevirtual 173, 3) := zo_182 (b1 := 0) (b2 := 173) (zkb3 zk_cX8_putName zn_cX8_putName rfl) rfl
theorem dX8_putName_20 : decode cX8_putName 20 = .ok (.bipush 59, 2) := zo_16 (b1 := 59) (zkb2 zk_cX8_putName zn_cX8_putName rfl) rfl
theorem dX8_putName_22 : decode cX8_putName 22 = .ok (.if_icmp .ne 9, 3) := zo_160 (b1 := 0) (b2 := 9) (zkb3 zk_cX8_putName zn_cX8_putName rfl) rfl
theorem dX8_putName_25 : decode cX8_putName 25 = .ok (.iinc 3 1, 3) := zo_132 (b1 := 3) (b2 := 1) (zkb3 zk_cX8_putName zn_cX8_putName rfl) rfl
theorem dX8_putName_28 : decode cX8_putName 28 = .ok (.goto 18, 3) := zo_167 (b1 := 0) (b2 := 18) (zkb3 zk_cX8_putName zn_cX8_putName rfl) rfl
theorem dX8_putName_31 : decode cX8_putName 31 = .ok (.iload_n 3, 1) := zo_29 (zkb zk_cX8_putName zn_cX8_putName rfl)
theorem dX8_putName_32 : decode cX8_putName 32 = .ok (.iload_n 2, 1) := zo_28 (zkb zk_cX8_putName zn_cX8_putName rfl)
theorem dX8_putName_33 : decode cX8_putName 33 = .ok (.if_icmp .ne 13, 3) := zo_160 (b1 := 0) (b2 := 13) (zkb3 zk_cX8_putName zn_cX8_putName rfl) rfl
theorem dX8_putName_36 : decode cX8_putName 36 = .ok (.aload_n 0, 1) := zo_42 (zkb zk_cX8_putName zn_cX8_putName rfl)
theorem dX8_putName_37 : decode cX8_putName 37 = .ok (.aload_n 1, 1) := zo_43 (zkb zk_cX8_putName zn_cX8_putName rfl)
theorem dX8_putName_38 : decode cX8_putName 38 = .ok (.iload 4, 2) := zo_21 (b1 := 4) (zkb2 zk_cX8_putName zn_cX8_putName rfl)
theorem dX8_putName_40 : decode cX8_putName 40 = .ok (.invokevirtual 173, 3) := zo_182 (b1 := 0) (b2 := 173) (zkb3 zk_cX8_putName zn_cX8_putName rfl) rfl
theorem dX8_putName_43 : decode cX8_putName 43 = .ok (.invokevirtual 180, 3) := zo_182 (b1 := 0) (b2 := 180) (zkb3 zk_cX8_putName zn_cX8_putName rfl) rfl
theorem dX8_putName_46 : decode cX8_putName 46 = .ok (.iinc 4 1, 3) := zo_132 (b1 := 4) (b2 := 1) (zkb3 zk_cX8_putName zn_cX8_putName rfl) rfl
theorem dX8_putName_49 : decode cX8_putName 49 = .ok (.goto (-44), 3) := zo_167 (b1 := 255) (b2 := 212) (zkb3 zk_cX8_putName zn_cX8_putName rfl) rfl
theorem dX8_putName_52 : decode cX8_putName 52 = .ok (.return_, 1) := zo_177 (zkb zk_cX8_putName zn_cX8_putName rfl)
noncomputable def kn_cX8_putOne : Nat := 0xb1c900b61bd6122a0a00a7b400b66c100500a768100800a0071b2ac400b62a1a009a1f00b42a2100991c00b42a2800a0081b08009f071b3900a7d300b62300b62a2a0e00991c00b42a1500a006101b
theorem zk_cX8_putOne : zkd cX8_putOne.data.toList kn_cX8_putOne = true := by decide +kernel
theorem zn_cX8_putOne : cX8_putOne.data.toList.length = 79 := by decide +kernel
theorem dX8_putOne_0 : decode cX8_putOne 0 = .ok (.iload_n 1, 1) := zo_27 (zkb zk_cX8_putOne zn_cX8_putOne rfl)
theorem dX8_putOne_1 : decode cX8_putOne 1 = .ok (.bipush 6, 2) := zo_16 (b1 := 6) (zkb2 zk_cX8_putOne zn_cX8_putOne rfl) rfl
theorem dX8_putOne_3 : decode cX8_putOne 3 = .ok (.if_icmp .ne 21, 3) := zo_160 (b1 := 0) (b2 := 21) (zkb3 zk_cX8_putOne zn_cX8_putOne rfl) rfl
theorem dX8_putOne_6 : decode cX8_putOne 6 = .ok (.aload_n 0, 1) := zo_42 (zkb zk_cX8_putOne zn_cX8_putOne rfl)
theorem dX8_putOne_7 : decode cX8_putOne 7 = .ok (.getfield 28, 3) := zo_180 (b1 := 0) (b2 := 28) (zkb3 zk_cX8_putOne zn_cX8_putOne rfl) rfl
theorem dX8_putOne_10 : decode cX8_putOne 10 = .ok (.ifCond .eq 14, 3) := zo_153 (b1 := 0) (b2 := 14) (zkb3 zk_cX8_putOne zn_cX8_putOne rfl) rfl
theorem dX8_putOne_13 : decode cX8_putOne 13 = .ok (.aload_n 0, 1) := zo_42 (zkb zk_cX8_putOne zn_cX8_putOne rfl)
theorem dX8_putOne_14 : decode cX8_putOne 14 = .ok (.aload_n 0, 1) := zo_42 (zkb zk_cX8_putOne zn_cX8_putOne rfl)
theorem dX8_putOne_15 : decode cX8_putOne 15 = .ok (.invokevirtual 35, 3) := zo_182 (b1 := 0) (b2 := 35) (zkb3 zk_cX8_putOne zn_cX8_putOne rfl) rfl
theorem dX8_putOne_18 : decode cX8_putOne 18 = .ok (.invokevirtual 211, 3) := zo_182 (b1 := 0) (b2 := 211) (zkb3 zk_cX8_putOne zn_cX8_putOne rfl) rfl
theorem dX8_putOne_21 : decode cX8_putOne 21 = .ok (.goto 57, 3) := zo_167 (b1 := 0) (b2 := 57) (zkb3 zk_cX8_putOne zn_cX8_putOne rfl) rfl
theorem dX8_putOne_24 : decode cX8_putOne 24 = .ok (.iload_n 1, 1) := zo_27 (zkb zk_cX8_putOne zn_cX8_putOne rfl)
theorem dX8_putOne_25 : decode cX8_putOne 25 = .ok (.iconst 4, 1) := zo_7 (zkb zk_cX8_putOne zn_cX8_putOne rfl)
theorem dX8_putOne_26 : decode cX8_putOne 26 = .ok (.if_icmp .eq 8, 3) := zo_159 (b1 := 0) (b2 := 8) (zkb3 zk_cX8_putOne zn_cX8_putOne rfl) rfl
theorem dX8_putOne_29 : decode cX8_putOne 29 = .ok (.iload_n 1, 1) := zo_27 (zkb zk_cX8_putOne zn_cX8_putOne rfl)
theorem dX8_putOne_30 : decode cX8_putOne 30 = .ok (.iconst 5, 1) := zo_8 (zkb zk_cX8_putOne zn_cX8_putOne rfl)
theorem dX8_putOne_31 : decode cX8_putOne 31 = .ok (.if_icmp .ne 40, 3) := zo_160 (b1 := 0) (b2 := 40) (zkb3 zk_cX8_putOne zn_cX8_putOne rfl) rfl
theorem dX8_putOne_34 : decode cX8_putOne 34 = .ok (.aload_n 0, 1) := zo_42 (zkb zk_cX8_putOne zn_cX8_putOne rfl)
theorem dX8_putOne_35 : decode cX8_putOne 35 = .ok (.getfield 28, 3) := zo_180 (b1 := 0) (b2 := 28) (zkb3 zk_cX8_putOne zn_cX8_putOne rfl) rfl
theorem dX8_putOne_38 : decode cX8_putOne 38 = .ok (.ifCond .eq 33, 3) := zo_153 (b1 := 0) (b2 := 33) (zkb3 zk_cX8_putOne zn_cX8_putOne rfl) rfl
theorem dX8_putOne_41 : decode cX8_putOne 41 = .ok (.aload_n 0, 1) := zo_42 (zkb zk_cX8_putOne zn_cX8_putOne rfl)
theorem dX8_putOne_42 : decode cX8_putOne 42 = .ok (.getfield 31, 3) := zo_180 (b1 := 0) (b2 := 31) (zkb3 zk_cX8_putOne zn_cX8_putOne rfl) rfl
theorem dX8_putOne_45 : decode cX8_putOne 45 = .ok (.ifCond .ne 26, 3) := zo_154 (b1 := 0) (b2 := 26) (zkb3 zk_cX8_putOne zn_cX8_putOne rfl) rfl
theorem dX8_putOne_48 : decode cX8_putOne 48 = .ok (.aload_n 0, 1) := zo_42 (zkb zk_cX8_putOne zn_cX8_putOne rfl)
theorem dX8_putOne_49 : decode cX8_putOne 49 = .ok (.invokevirtual 196, 3) := zo_182 (b1 := 0) (b2 := 196) (zkb3 zk_cX8_putOne zn_cX8_putOne rfl) rfl
theorem dX8_putOne_52 : decode cX8_putOne 52 = .ok (.aload_n 0, 1) := zo_42 (zkb zk_cX8_putOne zn_cX8_putOne rfl)
theorem dX8_putOne_53 : decode cX8_putOne 53 = .ok (.iload_n 1, 1) := zo_27 (zkb zk_cX8_putOne zn_cX8_putOne rfl)
theorem dX8_putOne_54 : decode cX8_putOne 54 = .ok (.iconst 4, 1) := zo_7 (zkb zk_cX8_putOne zn_cX8_putOne rfl)
theorem dX8_putOne_55 : decode cX8_putOne 55 = .ok (.if_icmp .ne 8, 3) := zo_160 (b1 := 0) (b2 := 8) (zkb3 zk_cX8_putOne zn_cX8_putOne rfl) rfl
theorem dX8_putOne_58 : decode cX8_putOne 58 = .ok (.bipush 104, 2) := zo_16 (b1 := 104) (zkb2 zk_cX8_putOne zn_cX8_putOne rfl) rfl
theorem dX8_putOne_60 : decode cX8_putOne 60 = .ok (.goto 5, 3) := zo_167 (b1 := 0) (b2 := 5) (zkb3 zk_cX8_putOne zn_cX8_putOne rfl) rfl
theorem dX8_putOne_63 : decode cX8_putOne 63 = .ok (.bipush 108, 2) := zo_16 (b1 := 108) (zkb2 zk_cX8_putOne zn_cX8_putOne rfl) rfl
theorem dX8_putOne_65 : decode cX8_putOne 65 = .ok (.invokevirtual 180, 3) := zo_182 (b1 := 0) (b2 := 180) (zkb3 zk_cX8_putOne zn_cX8_putOne rfl) rfl
theorem dX8_putOne_68 : decode cX8_putOne 68 = .ok (.goto 10, 3) := zo_167 (b1 := 0) (b2 := 10) (zkb3 zk_cX8_putOne zn_cX8_putOne rfl) rfl
theorem dX8_putOne_71 : decode cX8_putOne 71 = .ok (.aload_n 0, 1) := zo_42 (zkb zk_cX8_putOne zn_cX8_putOne rfl)
theorem dX8_putOne_72 : decode cX8_putOne 72 = .ok (.ldc 214, 2) := zo_18 (b1 := 214) (zkb2 zk_cX8_putOne zn_cX8_putOne rfl)
theorem dX8_putOne_74 : decode cX8_putOne 74 = .ok (.iload_n 1, 1) := zo_27 (zkb zk_cX8_putOne zn_cX8_putOne rfl)
theorem dX8_putOne_75 : decode cX8_putOne 75 = .ok (.invokevirtual 201, 3) := zo_182 (b1 := 0) (b2 := 201) (zkb3 zk_cX8_putOne zn_cX8_putOne rfl) rfl
theorem dX8_putOne_78 : decode cX8_putOne 78 = .ok (.return_, 1) := zo_177 (zkb zk_cX8_putOne zn_cX8_putOne rfl)
noncomputable def kn_cX8_putTurned : Nat := 0xb1c900b64300b42ad6122ab400b62c102a13009f06104300b42a1c009f043d00b42ad300b64600b42a2ab1c900b64300b42ad6122a0e009a1c00b42a
theorem zk_cX8_putTurned : zkd cX8_putTurned.data.toList kn_cX8_putTurned = true := by decide +kernel
theorem zn_cX8_putTurned : cX8_putTurned.data.toList.length = 60 := by decide +kernel
theorem dX8_putTurned_0 : decode cX8_putTurned 0 = .ok (.aload_n 0, 1) := zo_42 (zkb zk_cX8_putTurned zn_cX8_putTurned rfl)
theorem dX8_putTurned_1 : decode cX8_putTurned 1 = .ok (.getfield 28, 3) := zo_180 (b1 := 0) (b2 := 28) (zkb3 zk_cX8_putTurned zn_cX8_putTurned rfl) rfl
theorem dX8_putTurned_4 : decode cX8_putTurned 4 = .ok (.ifCond .ne 14, 3) := zo_154 (b1 := 0) (b2 := 14) (zkb3 zk_cX8_putTurned zn_cX8_putTurned rfl) rfl
theorem dX8_putTurned_7 : decode cX8_putTurned 7 = .ok (.aload_n 0, 1) := zo_42 (zkb zk_cX8_putTurned zn_cX8_putTurned rfl)
theorem dX8_putTurned_8 : decode cX8_putTurned 8 = .ok (.ldc 214, 2) := zo_18 (b1 := 214) (zkb2 zk_cX8_putTurned zn_cX8_putTurned rfl)
theorem dX8_putTurned_10 : decode cX8_putTurned 10 = .ok (.aload_n 0, 1) := zo_42 (zkb zk_cX8_putTurned zn_cX8_putTurned rfl)
theorem dX8_putTurned_11 : decode cX8_putTurned 11 = .ok (.getfield 67, 3) := zo_180 (b1 := 0) (b2 := 67) (zkb3 zk_cX8_putTurned zn_cX8_putTurned rfl) rfl
theorem dX8_putTurned_14 : decode cX8_putTurned 14 = .ok (.invokevirtual 201, 3) := zo_182 (b1 := 0) (b2 := 201) (zkb3 zk_cX8_putTurned zn_cX8_putTurned rfl) rfl
theorem dX8_putTurned_17 : decode cX8_putTurned 17 = .ok (.return_, 1) := zo_177 (zkb zk_cX8_putTurned zn_cX8_putTurned rfl)
theorem dX8_putTurned_18 : decode cX8_putTurned 18 = .ok (.aload_n 0, 1) := zo_42 (zkb zk_cX8_putTurned zn_cX8_putTurned rfl)
theorem dX8_putTurned_19 : decode cX8_putTurned 19 = .ok (.aload_n 0, 1) := zo_42 (zkb zk_cX8_putTurned zn_cX8_putTurned rfl)
theorem dX8_putTurned_20 : decode cX8_putTurned 20 = .ok (.getfield 70, 3) := zo_180 (b1 := 0) (b2 := 70) (zkb3 zk_cX8_putTurned zn_cX8_putTurned rfl) rfl
theorem dX8_putTurned_23 : decode cX8_putTurned 23 = .ok (.invokevirtual 211, 3) := zo_182 (b1 := 0) (b2 := 211) (zkb3 zk_cX8_putTurned zn_cX8_putTurned rfl) rfl
theorem dX8_putTurned_26 : decode cX8_putTurned 26 = .ok (.aload_n 0, 1) := zo_42 (zkb zk_cX8_putTurned zn_cX8_putTurned rfl)
theorem dX8_putTurned_27 : decode cX8_putTurned 27 = .ok (.getfield 61, 3) := zo_180 (b1 := 0) (b2 := 61) (zkb3 zk_cX8_putTurned zn_cX8_putTurned rfl) rfl
theorem dX8_putTurned_30 : decode cX8_putTurned 30 = .ok (.iconst 1, 1) := zo_4 (zkb zk_cX8_putTurned zn_cX8_putTurned rfl)
theorem dX8_putTurned_31 : decode cX8_putTurned 31 = .ok (.if_icmp .eq 28, 3) := zo_159 (b1 := 0) (b2 := 28) (zkb3 zk_cX8_putTurned zn_cX8_putTurned rfl) rfl
theorem dX8_putTurned_34 : decode cX8_putTurned 34 = .ok (.aload_n 0, 1) := zo_42 (zkb zk_cX8_putTurned zn_cX8_putTurned rfl)
theorem dX8_putTurned_35 : decode cX8_putTurned 35 = .ok (.getfield 67, 3) := zo_180 (b1 := 0) (b2 := 67) (zkb3 zk_cX8_putTurned zn_cX8_putTurned rfl) rfl
theorem dX8_putTurned_38 : decode cX8_putTurned 38 = .ok (.bipush 6, 2) := zo_16 (b1 := 6) (zkb2 zk_cX8_putTurned zn_cX8_putTurned rfl) rfl
theorem dX8_putTurned_40 : decode cX8_putTurned 40 = .ok (.if_icmp .eq 19, 3) := zo_159 (b1 := 0) (b2 := 19) (zkb3 zk_cX8_putTurned zn_cX8_putTurned rfl) rfl
theorem dX8_putTurned_43 : decode cX8_putTurned 43 = .ok (.aload_n 0, 1) := zo_42 (zkb zk_cX8_putTurned zn_cX8_putTurned rfl)
theorem dX8_putTurned_44 : decode cX8_putTurned 44 = .ok (.bipush 44, 2) := zo_16 (b1 := 44) (zkb2 zk_cX8_putTurned zn_cX8_putTurned rfl) rfl
theorem dX8_putTurned_46 : decode cX8_putTurned 46 = .ok (.invokevirtual 180, 3) := zo_182 (b1 := 0) (b2 := 180) (zkb3 zk_cX8_putTurned zn_cX8_putTurned rfl) rfl
theorem dX8_putTurned_49 : decode cX8_putTurned 49 = .ok (.aload_n 0, 1) := zo_42 (zkb zk_cX8_putTurned zn_cX8_putTurned rfl)
theorem dX8_putTurned_50 : decode cX8_putTurned 50 = .ok (.ldc 214, 2) := zo_18 (b1 := 214) (zkb2 zk_cX8_putTurned zn_cX8_putTurned rfl)
theorem dX8_putTurned_52 : decode cX8_putTurned 52 = .ok (.aload_n 0, 1) := zo_42 (zkb zk_cX8_putTurned zn_cX8_putTurned rfl)
theorem dX8_putTurned_53 : decode cX8_putTurned 53 = .ok (.getfield 67, 3) := zo_180 (b1 := 0) (b2 := 67) (zkb3 zk_cX8_putTurned zn_cX8_putTurned rfl) rfl
theorem dX8_putTurned_56 : decode cX8_putTurned 56 = .ok (.invokevirtual 201, 3) := zo_182 (b1 := 0) (b2 := 201) (zkb3 zk_cX8_putTurned zn_cX8_putTurned rfl) rfl
theorem dX8_putTurned_59 : decode cX8_putTurned 59 = .ok (.return_, 1) := zo_177 (zkb zk_cX8_putTurned zn_cX8_putTurned rfl)
noncomputable def kn_cX8_putPair : Nat := 0xb1c900b67a044000b42a2b2a0e00a7c400b62a0a00a0057a044000b42a
theorem zk_cX8_putPair : zkd cX8_putPair.data.toList kn_cX8_putPair = true := by decide +kernel
theorem zn_cX8_putPair : cX8_putPair.data.toList.length = 29 := by decide +kernel
theorem dX8_putPair_0 : decode cX8_putPair 0 = .ok (.aload_n 0, 1) := zo_42 (zkb zk_cX8_putPair zn_cX8_putPair rfl)
theorem dX8_putPair_1 : decode cX8_putPair 1 = .ok (.getfield 64, 3) := zo_180 (b1 := 0) (b2 := 64) (zkb3 zk_cX8_putPair zn_cX8_putPair rfl) rfl
theorem dX8_putPair_4 : decode cX8_putPair 4 = .ok (.iconst 1, 1) := zo_4 (zkb zk_cX8_putPair zn_cX8_putPair rfl)
theorem dX8_putPair_5 : decode cX8_putPair 5 = .ok (.ishr, 1) := zo_122 (zkb zk_cX8_putPair zn_cX8_putPair rfl)
theorem dX8_putPair_6 : decode cX8_putPair 6 = .ok (.iconst 2, 1) := zo_5 (zkb zk_cX8_putPair zn_cX8_putPair rfl)
theorem dX8_putPair_7 : decode cX8_putPair 7 = .ok (.if_icmp .ne 10, 3) := zo_160 (b1 := 0) (b2 := 10) (zkb3 zk_cX8_putPair zn_cX8_putPair rfl) rfl
theorem dX8_putPair_10 : decode cX8_putPair 10 = .ok (.aload_n 0, 1) := zo_42 (zkb zk_cX8_putPair zn_cX8_putPair rfl)
theorem dX8_putPair_11 : decode cX8_putPair 11 = .ok (.invokevirtual 196, 3) := zo_182 (b1 := 0) (b2 := 196) (zkb3 zk_cX8_putPair zn_cX8_putPair rfl) rfl
theorem dX8_putPair_14 : decode cX8_putPair 14 = .ok (.goto 14, 3) := zo_167 (b1 := 0) (b2 := 14) (zkb3 zk_cX8_putPair zn_cX8_putPair rfl) rfl
theorem dX8_putPair_17 : decode cX8_putPair 17 = .ok (.aload_n 0, 1) := zo_42 (zkb zk_cX8_putPair zn_cX8_putPair rfl)
theorem dX8_putPair_18 : decode cX8_putPair 18 = .ok (.aload_n 1, 1) := zo_43 (zkb zk_cX8_putPair zn_cX8_putPair rfl)
theorem dX8_putPair_19 : decode cX8_putPair 19 = .ok (.aload_n 0, 1) := zo_42 (zkb zk_cX8_putPair zn_cX8_putPair rfl)
theorem dX8_putPair_20 : decode cX8_putPair 20 = .ok (.getfield 64, 3) := zo_180 (b1 := 0) (b2 := 64) (zkb3 zk_cX8_putPair zn_cX8_putPair rfl) rfl
theorem dX8_putPair_23 : decode cX8_putPair 23 = .ok (.iconst 1, 1) := zo_4 (zkb zk_cX8_putPair zn_cX8_putPair rfl)
theorem dX8_putPair_24 : decode cX8_putPair 24 = .ok (.ishr, 1) := zo_122 (zkb zk_cX8_putPair zn_cX8_putPair rfl)
theorem dX8_putPair_25 : decode cX8_putPair 25 = .ok (.invokevirtual 201, 3) := zo_182 (b1 := 0) (b2 := 201) (zkb3 zk_cX8_putPair zn_cX8_putPair rfl) rfl
theorem dX8_putPair_28 : decode cX8_putPair 28 = .ok (.return_, 1) := zo_177 (zkb zk_cX8_putPair zn_cX8_putPair rfl)
noncomputable def kn_cX8_putHl : Nat := 0xb1b400b61c00b42a0700a76c1008009a1c00b42a2ab400b669100500a7681008009a1c00b42a2a
theorem zk_cX8_putHl : zkd cX8_putHl.data.toList kn_cX8_putHl = true := by decide +kernel
theorem zn_cX8_putHl : cX8_putHl.data.toList.length = 39 := by decide +kernel
theorem dX8_putHl_0 : decode cX8_putHl 0 = .ok (.aload_n 0, 1) := zo_42 (zkb zk_cX8_putHl zn_cX8_putHl rfl)
theorem dX8_putHl_1 : decode cX8_putHl 1 = .ok (.aload_n 0, 1) := zo_42 (zkb zk_cX8_putHl zn_cX8_putHl rfl)
theorem dX8_putHl_2 : decode cX8_putHl 2 = .ok (.getfield 28, 3) := zo_180 (b1 := 0) (b2 := 28) (zkb3 zk_cX8_putHl zn_cX8_putHl rfl) rfl
theorem dX8_putHl_5 : decode cX8_putHl 5 = .ok (.ifCond .ne 8, 3) := zo_154 (b1 := 0) (b2 := 8) (zkb3 zk_cX8_putHl zn_cX8_putHl rfl) rfl
theorem dX8_putHl_8 : decode cX8_putHl 8 = .ok (.bipush 104, 2) := zo_16 (b1 := 104) (zkb2 zk_cX8_putHl zn_cX8_putHl rfl) rfl
theorem dX8_putHl_10 : decode cX8_putHl 10 = .ok (.goto 5, 3) := zo_167 (b1 := 0) (b2 := 5) (zkb3 zk_cX8_putHl zn_cX8_putHl rfl) rfl
theorem dX8_putHl_13 : decode cX8_putHl 13 = .ok (.bipush 105, 2) := zo_16 (b1 := 105) (zkb2 zk_cX8_putHl zn_cX8_putHl rfl) rfl
theorem dX8_putHl_15 : decode cX8_putHl 15 = .ok (.invokevirtual 180, 3) := zo_182 (b1 := 0) (b2 := 180) (zkb3 zk_cX8_putHl zn_cX8_putHl rfl) rfl
theorem dX8_putHl_18 : decode cX8_putHl 18 = .ok (.aload_n 0, 1) := zo_42 (zkb zk_cX8_putHl zn_cX8_putHl rfl)
theorem dX8_putHl_19 : decode cX8_putHl 19 = .ok (.aload_n 0, 1) := zo_42 (zkb zk_cX8_putHl zn_cX8_putHl rfl)
theorem dX8_putHl_20 : decode cX8_putHl 20 = .ok (.getfield 28, 3) := zo_180 (b1 := 0) (b2 := 28) (zkb3 zk_cX8_putHl zn_cX8_putHl rfl) rfl
theorem dX8_putHl_23 : decode cX8_putHl 23 = .ok (.ifCond .ne 8, 3) := zo_154 (b1 := 0) (b2 := 8) (zkb3 zk_cX8_putHl zn_cX8_putHl rfl) rfl
theorem dX8_putHl_26 : decode cX8_putHl 26 = .ok (.bipush 108, 2) := zo_16 (b1 := 108) (zkb2 zk_cX8_putHl zn_cX8_putHl rfl) rfl
theorem dX8_putHl_28 : decode cX8_putHl 28 = .ok (.goto 7, 3) := zo_167 (b1 := 0) (b2 := 7) (zkb3 zk_cX8_putHl zn_cX8_putHl rfl) rfl
theorem dX8_putHl_31 : decode cX8_putHl 31 = .ok (.aload_n 0, 1) := zo_42 (zkb zk_cX8_putHl zn_cX8_putHl rfl)
theorem dX8_putHl_32 : decode cX8_putHl 32 = .ok (.getfield 28, 3) := zo_180 (b1 := 0) (b2 := 28) (zkb3 zk_cX8_putHl zn_cX8_putHl rfl) rfl
theorem dX8_putHl_35 : decode cX8_putHl 35 = .ok (.invokevirtual 180, 3) := zo_182 (b1 := 0) (b2 := 180) (zkb3 zk_cX8_putHl zn_cX8_putHl rfl) rfl
theorem dX8_putHl_38 : decode cX8_putHl 38 = .ok (.return_, 1) := zo_177 (zkb zk_cX8_putHl zn_cX8_putHl rfl)
noncomputable def kn_cX8_putPlace : Nat := 0xb1b400b629102acd00b6641b0001110800a71b0700a28000111b2ab400b62d100500a72b100800a28000111b2ac400b62ab400b628102a
theorem zk_cX8_putPlace : zkd cX8_putPlace.data.toList kn_cX8_putPlace = true := by decide +kernel
theorem zn_cX8_putPlace : cX8_putPlace.data.toList.length = 55 := by decide +kernel
theorem dX8_putPlace_0 : decode cX8_putPlace 0 = .ok (.aload_n 0, 1) := zo_42 (zkb zk_cX8_putPlace zn_cX8_putPlace rfl)
theorem dX8_putPlace_1 : decode cX8_putPlace 1 = .ok (.bipush 40, 2) := zo_16 (b1 := 40) (zkb2 zk_cX8_putPlace zn_cX8_putPlace rfl) rfl
theorem dX8_putPlace_3 : decode cX8_putPlace 3 = .ok (.invokevirtual 180, 3) := zo_182 (b1 := 0) (b2 := 180) (zkb3 zk_cX8_putPlace zn_cX8_putPlace rfl) rfl
theorem dX8_putPlace_6 : decode cX8_putPlace 6 = .ok (.aload_n 0, 1) := zo_42 (zkb zk_cX8_putPlace zn_cX8_putPlace rfl)
theorem dX8_putPlace_7 : decode cX8_putPlace 7 = .ok (.invokevirtual 196, 3) := zo_182 (b1 := 0) (b2 := 196) (zkb3 zk_cX8_putPlace zn_cX8_putPlace rfl) rfl
theorem dX8_putPlace_10 : decode cX8_putPlace 10 = .ok (.aload_n 0, 1) := zo_42 (zkb zk_cX8_putPlace zn_cX8_putPlace rfl)
theorem dX8_putPlace_11 : decode cX8_putPlace 11 = .ok (.iload_n 1, 1) := zo_27 (zkb zk_cX8_putPlace zn_cX8_putPlace rfl)
theorem dX8_putPlace_12 : decode cX8_putPlace 12 = .ok (.sipush 128, 3) := zo_17 (b1 := 0) (b2 := 128) (zkb3 zk_cX8_putPlace zn_cX8_putPlace rfl) rfl
theorem dX8_putPlace_15 : decode cX8_putPlace 15 = .ok (.if_icmp .ge 8, 3) := zo_162 (b1 := 0) (b2 := 8) (zkb3 zk_cX8_putPlace zn_cX8_putPlace rfl) rfl
theorem dX8_putPlace_18 : decode cX8_putPlace 18 = .ok (.bipush 43, 2) := zo_16 (b1 := 43) (zkb2 zk_cX8_putPlace zn_cX8_putPlace rfl) rfl
theorem dX8_putPlace_20 : decode cX8_putPlace 20 = .ok (.goto 5, 3) := zo_167 (b1 := 0) (b2 := 5) (zkb3 zk_cX8_putPlace zn_cX8_putPlace rfl) rfl
theorem dX8_putPlace_23 : decode cX8_putPlace 23 = .ok (.bipush 45, 2) := zo_16 (b1 := 45) (zkb2 zk_cX8_putPlace zn_cX8_putPlace rfl) rfl
theorem dX8_putPlace_25 : decode cX8_putPlace 25 = .ok (.invokevirtual 180, 3) := zo_182 (b1 := 0) (b2 := 180) (zkb3 zk_cX8_putPlace zn_cX8_putPlace rfl) rfl
theorem dX8_putPlace_28 : decode cX8_putPlace 28 = .ok (.aload_n 0, 1) := zo_42 (zkb zk_cX8_putPlace zn_cX8_putPlace rfl)
theorem dX8_putPlace_29 : decode cX8_putPlace 29 = .ok (.iload_n 1, 1) := zo_27 (zkb zk_cX8_putPlace zn_cX8_putPlace rfl)
theorem dX8_putPlace_30 : decode cX8_putPlace 30 = .ok (.sipush 128, 3) := zo_17 (b1 := 0) (b2 := 128) (zkb3 zk_cX8_putPlace zn_cX8_putPlace rfl) rfl
theorem dX8_putPlace_33 : decode cX8_putPlace 33 = .ok (.if_icmp .ge 7, 3) := zo_162 (b1 := 0) (b2 := 7) (zkb3 zk_cX8_putPlace zn_cX8_putPlace rfl) rfl
theorem dX8_putPlace_36 : decode cX8_putPlace 36 = .ok (.iload_n 1, 1) := zo_27 (zkb zk_cX8_putPlace zn_cX8_putPlace rfl)
theorem dX8_putPlace_37 : decode cX8_putPlace 37 = .ok (.goto 8, 3) := zo_167 (b1 := 0) (b2 := 8) (zkb3 zk_cX8_putPlace zn_cX8_putPlace rfl) rfl
theorem dX8_putPlace_40 : decode cX8_putPlace 40 = .ok (.sipush 256, 3) := zo_17 (b1 := 1) (b2 := 0) (zkb3 zk_cX8_putPlace zn_cX8_putPlace rfl) rfl
theorem dX8_putPlace_43 : decode cX8_putPlace 43 = .ok (.iload_n 1, 1) := zo_27 (zkb zk_cX8_putPlace zn_cX8_putPlace rfl)
theorem dX8_putPlace_44 : decode cX8_putPlace 44 = .ok (.isub, 1) := zo_100 (zkb zk_cX8_putPlace zn_cX8_putPlace rfl)
theorem dX8_putPlace_45 : decode cX8_putPlace 45 = .ok (.invokevirtual 205, 3) := zo_182 (b1 := 0) (b2 := 205) (zkb3 zk_cX8_putPlace zn_cX8_putPlace rfl) rfl
theorem dX8_putPlace_48 : decode cX8_putPlace 48 = .ok (.aload_n 0, 1) := zo_42 (zkb zk_cX8_putPlace zn_cX8_putPlace rfl)
theorem dX8_putPlace_49 : decode cX8_putPlace 49 = .ok (.bipush 41, 2) := zo_16 (b1 := 41) (zkb2 zk_cX8_putPlace zn_cX8_putPlace rfl) rfl
theorem dX8_putPlace_51 : decode cX8_putPlace 51 = .ok (.invokevirtual 180, 3) := zo_182 (b1 := 0) (b2 := 180) (zkb3 zk_cX8_putPlace zn_cX8_putPlace rfl) rfl
theorem dX8_putPlace_54 : decode cX8_putPlace 54 = .ok (.return_, 1) := zo_177 (zkb zk_cX8_putPlace zn_cX8_putPlace rfl)
noncomputable def kn_cX8_putByte : Nat := 0xb1b400b6ad00b67e0f101bd8122ab400b6ad00b67e0f107a071bd8122a
theorem zk_cX8_putByte : zkd cX8_putByte.data.toList kn_cX8_putByte = true := by decide +kernel
theorem zn_cX8_putByte : cX8_putByte.data.toList.length = 29 := by decide +kernel
theorem dX8_putByte_0 : decode cX8_putByte 0 = .ok (.aload_n 0, 1) := zo_42 (zkb zk_cX8_putByte zn_cX8_putByte rfl)
theorem dX8_putByte_1 : decode cX8_putByte 1 = .ok (.ldc 216, 2) := zo_18 (b1 := 216) (zkb2 zk_cX8_putByte zn_cX8_putByte rfl)
theorem dX8_putByte_3 : decode cX8_putByte 3 = .ok (.iload_n 1, 1) := zo_27 (zkb zk_cX8_putByte zn_cX8_putByte rfl)
theorem dX8_putByte_4 : decode cX8_putByte 4 = .ok (.iconst 4, 1) := zo_7 (zkb zk_cX8_putByte zn_cX8_putByte rfl)
theorem dX8_putByte_5 : decode cX8_putByte 5 = .ok (.ishr, 1) := zo_122 (zkb zk_cX8_putByte zn_cX8_putByte rfl)
theorem dX8_putByte_6 : decode cX8_putByte 6 = .ok (.bipush 15, 2) := zo_16 (b1 := 15) (zkb2 zk_cX8_putByte zn_cX8_putByte rfl) rfl
theorem dX8_putByte_8 : decode cX8_putByte 8 = .ok (.iand, 1) := zo_126 (zkb zk_cX8_putByte zn_cX8_putByte rfl)
theorem dX8_putByte_9 : decode cX8_putByte 9 = .ok (.invokevirtual 173, 3) := zo_182 (b1 := 0) (b2 := 173) (zkb3 zk_cX8_putByte zn_cX8_putByte rfl) rfl
theorem dX8_putByte_12 : decode cX8_putByte 12 = .ok (.invokevirtual 180, 3) := zo_182 (b1 := 0) (b2 := 180) (zkb3 zk_cX8_putByte zn_cX8_putByte rfl) rfl
theorem dX8_putByte_15 : decode cX8_putByte 15 = .ok (.aload_n 0, 1) := zo_42 (zkb zk_cX8_putByte zn_cX8_putByte rfl)
theorem dX8_putByte_16 : decode cX8_putByte 16 = .ok (.ldc 216, 2) := zo_18 (b1 := 216) (zkb2 zk_cX8_putByte zn_cX8_putByte rfl)
theorem dX8_putByte_18 : decode cX8_putByte 18 = .ok (.iload_n 1, 1) := zo_27 (zkb zk_cX8_putByte zn_cX8_putByte rfl)
theorem dX8_putByte_19 : decode cX8_putByte 19 = .ok (.bipush 15, 2) := zo_16 (b1 := 15) (zkb2 zk_cX8_putByte zn_cX8_putByte rfl) rfl
theorem dX8_putByte_21 : decode cX8_putByte 21 = .ok (.iand, 1) := zo_126 (zkb zk_cX8_putByte zn_cX8_putByte rfl)
theorem dX8_putByte_22 : decode cX8_putByte 22 = .ok (.invokevirtual 173, 3) := zo_182 (b1 := 0) (b2 := 173) (zkb3 zk_cX8_putByte zn_cX8_putByte rfl) rfl
theorem dX8_putByte_25 : decode cX8_putByte 25 = .ok (.invokevirtual 180, 3) := zo_182 (b1 := 0) (b2 := 180) (zkb3 zk_cX8_putByte zn_cX8_putByte rfl) rfl
theorem dX8_putByte_28 : decode cX8_putByte 28 = .ok (.return_, 1) := zo_177 (zkb zk_cX8_putByte zn_cX8_putByte rfl)
noncomputable def kn_cX8_putWord : Nat := 0xb1cd00b67eff00111b2acd00b67eff00117a08101b2a
theorem zk_cX8_putWord : zkd cX8_putWord.data.toList kn_cX8_putWord = true := by decide +kernel
theorem zn_cX8_putWord : cX8_putWord.data.toList.length = 22 := by decide +kernel
theorem dX8_putWord_0 : decode cX8_putWord 0 = .ok (.aload_n 0, 1) := zo_42 (zkb zk_cX8_putWord zn_cX8_putWord rfl)
theorem dX8_putWord_1 : decode cX8_putWord 1 = .ok (.iload_n 1, 1) := zo_27 (zkb zk_cX8_putWord zn_cX8_putWord rfl)
theorem dX8_putWord_2 : decode cX8_putWord 2 = .ok (.bipush 8, 2) := zo_16 (b1 := 8) (zkb2 zk_cX8_putWord zn_cX8_putWord rfl) rfl
theorem dX8_putWord_4 : decode cX8_putWord 4 = .ok (.ishr, 1) := zo_122 (zkb zk_cX8_putWord zn_cX8_putWord rfl)
theorem dX8_putWord_5 : decode cX8_putWord 5 = .ok (.sipush 255, 3) := zo_17 (b1 := 0) (b2 := 255) (zkb3 zk_cX8_putWord zn_cX8_putWord rfl) rfl
theorem dX8_putWord_8 : decode cX8_putWord 8 = .ok (.iand, 1) := zo_126 (zkb zk_cX8_putWord zn_cX8_putWord rfl)
theorem dX8_putWord_9 : decode cX8_putWord 9 = .ok (.invokevirtual 205, 3) := zo_182 (b1 := 0) (b2 := 205) (zkb3 zk_cX8_putWord zn_cX8_putWord rfl) rfl
theorem dX8_putWord_12 : decode cX8_putWord 12 = .ok (.aload_n 0, 1) := zo_42 (zkb zk_cX8_putWord zn_cX8_putWord rfl)
theorem dX8_putWord_13 : decode cX8_putWord 13 = .ok (.iload_n 1, 1) := zo_27 (zkb zk_cX8_putWord zn_cX8_putWord rfl)
theorem dX8_putWord_14 : decode cX8_putWord 14 = .ok (.sipush 255, 3) := zo_17 (b1 := 0) (b2 := 255) (zkb3 zk_cX8_putWord zn_cX8_putWord rfl) rfl
theorem dX8_putWord_17 : decode cX8_putWord 17 = .ok (.iand, 1) := zo_126 (zkb zk_cX8_putWord zn_cX8_putWord rfl)
theorem dX8_putWord_18 : decode cX8_putWord 18 = .ok (.invokevirtual 205, 3) := zo_182 (b1 := 0) (b2 := 205) (zkb3 zk_cX8_putWord zn_cX8_putWord rfl) rfl
theorem dX8_putWord_21 : decode cX8_putWord 21 = .ok (.return_, 1) := zo_177 (zkb zk_cX8_putWord zn_cX8_putWord rfl)
noncomputable def rmX5_changeA : Room := { frames := 3, cells := 0, slots := 0, locals := 67 }
noncomputable def wzX5_changeA : List Cond := .code yX5_changeA cX5_changeA 4 none :: wsL_law
theorem hinX5_changeA_X50 : ∀ w ∈ wsX50, w ∈ wzX5_changeA := fun w h => List.mem_cons_of_mem _ (inlX5 w h)
noncomputable def fX5_changeA_130  (σ : zSt) (s0 : Int32) (s1 : Int32) (s2 : Int32) : Option (zSt) :=
  zck (zin 0 29) (
  zck (zin s2 29) (zbv (zsi σ 36 (s2.toNatClampNeg) ((s1 ||| s0) ||| ((zgi σ 36 (0 : Int32).toNatClampNeg) &&& 40))) (fun σ1 =>
  some σ1)))
noncomputable def fX5_changeA  (σ : zSt) (x1 : Int32) : Option (zSt) :=
  zck (zin 1 29) (
  zbv ((zgi σ 36 (1 : Int32).toNatClampNeg) &&& 196) (fun v2 =>
  zck (zin 1 29) (
  zbv ((zgi σ 36 (1 : Int32).toNatClampNeg) &&& 1) (fun v3 =>
  if x1 = 4 then zbu (fX5_adjustA σ ) (fun σ4 =>
  some σ4) else
  if x1 = 5 then zck (zin 0 29) (
  zck (zin 0 29) (zbv (zsi σ 36 ((0 : Int32).toNatClampNeg) ((zgi σ 36 (0 : Int32).toNatClampNeg) ^^^ 255)) (fun σ5 =>
  zck (zin 0 29) (
  zck (zin 1 29) (zbv (zsi σ5 36 ((1 : Int32).toNatClampNeg) ((((v2 ||| v3) ||| 16) ||| 2) ||| ((zgi σ5 36 (0 : Int32).toNatClampNeg) &&& 40))) (fun σ6 =>
  some σ6)))))) else
  if x1 = 6 then zck (zin 0 29) (
  zck (zin 1 29) (zbv (zsi σ 36 ((1 : Int32).toNatClampNeg) ((v2 ||| 1) ||| ((zgi σ 36 (0 : Int32).toNatClampNeg) &&& 40))) (fun σ7 =>
  some σ7))) else
  if x1 = 7 then if v3 = 0 then fX5_changeA_130 σ 1 v2 1 else
  fX5_changeA_130 σ 16 v2 1 else
  zck (zin 0 29) (
  zbi (fX5_turn σ x1 (zgi σ 36 (0 : Int32).toNatClampNeg)) (fun σ8 v9 =>
  zck (zin 0 29) (zbv (zsi σ8 36 ((0 : Int32).toNatClampNeg) v9) (fun σ10 =>
  zck (zin 1 29) (
  zck (zin 1 29) (zbv (zsi σ10 36 ((1 : Int32).toNatClampNeg) (v2 ||| ((zgi σ10 36 (1 : Int32).toNatClampNeg) &&& 41))) (fun σ11 =>
  some σ11)))))))))))
set_option maxRecDepth 20000 in
set_option maxHeartbeats 4000000 in
theorem bX5_changeA_130 {st : Nat → Nat} {p : Program} {l : Launch} {e : Env} {s : State} {m : MethodId} {args : Array Value} {below : List Frame} {meth : Method} {c : Code} {D : va_G} {A : Nat → Prop} {ad : Nat → Nat} {cy : Nat → ClassId} (hC : zC p m c cX5_changeA 4 s args wzX5_changeA RX5 meth none)  {res : zSt} {H : Heap} {locs : List Loc} {σ : zSt} {ls : Array Slot} {s0 : Int32} {s1 : Int32} {s2 : Int32} (hI : zI st D (tC cy) (wC ad cy σ) A s H locs) (hl : lv_has ls 4 [(0, .ref (ad 7))]) (hf : fX5_changeA_130  σ s0 s1 s2 = some res) : W p l e rmX5_changeA s m args below meth c H locs 0 0 (zQu below args s D (tC cy) (wC ad cy) A res) (F0 m 130 ls [.int s0, .int s1, .int s2, .ref (ad 36)]) := by
  have hx := hC.1
  have hb := hC.2.1
  unfold fX5_changeA_130 at hf
  refine lv_ior hx hb dX5_changeA_130 ?_
  refine lv_aload_n hx hb dX5_changeA_131 rfl (lv_at hl 0 rfl) ?_
  refine z_get hC hI hinX5_changeA_X50 7 (wC_e7 ad cy σ) rfl 2 (by decide) (List.mem_cons_of_mem _ zw7_5) rfl dX5_changeA_132 ?_
  refine lv_iconst (v := 0) hx hb dX5_changeA_135 (by decide) ?_
  obtain ⟨q, hf⟩ := zck_use hf
  refine z_iald hC hI 36 23 (wC_e36 ad cy σ) (tC_t36 cy) q dX5_changeA_136 ?_
  refine lv_bipush (v := 40) hx hb dX5_changeA_137 (by decide) ?_
  refine lv_iand hx hb dX5_changeA_139 ?_
  refine lv_ior hx hb dX5_changeA_140 ?_
  obtain ⟨q, hf⟩ := zck_use hf
  obtain ⟨σ1, eσ1⟩ : ∃ z, z = zsi σ 36 (s2.toNatClampNeg) ((s1 ||| s0) ||| ((zgi σ 36 (0 : Int32).toNatClampNeg) &&& 40)) := ⟨_, rfl⟩
  replace hf := zbv_use eσ1 hf
  refine z_iast hC hI 36 23 (wC_e36 ad cy σ) (tC_t36 cy) q ((wC_s36 ad cy σ _ _).trans (congrArg (wC ad cy) eσ1.symm)) dX5_changeA_141 (fun H locs hI => ?_)
  exact z_return hC hI hf dX5_changeA_142
set_option maxRecDepth 20000 in
set_option maxHeartbeats 4000000 in
theorem bX5_changeA {st : Nat → Nat} {p : Program} {l : Launch} {e : Env} {s : State} {m : MethodId} {args : Array Value} {below : List Frame} {meth : Method} {c : Code} {D : va_G} {A : Nat → Prop} {ad : Nat → Nat} {cy : Nat → ClassId} (hC : zC p m c cX5_changeA 4 s args wzX5_changeA RX5 meth none)  {res : zSt} {H : Heap} {locs : List Loc} {σ : zSt} {ls : Array Slot} {x1 : Int32} (hI : zI st D (tC cy) (wC ad cy σ) A s H locs) (hl : lv_has ls 4 [(0, .ref (ad 7)), (1, .int x1)]) (hf : fX5_changeA  σ x1 = some res) : W p l e rmX5_changeA s m args below meth c H locs 0 0 (zQu below args s D (tC cy) (wC ad cy) A res) (F0 m 0 ls []) := by
  have hx := hC.1
  have hb := hC.2.1
  unfold fX5_changeA at hf
  refine lv_aload_n hx hb dX5_changeA_0 rfl (lv_at hl 0 rfl) ?_
  refine z_get hC hI hinX5_changeA_X50 7 (wC_e7 ad cy σ) rfl 2 (by decide) (List.mem_cons_of_mem _ zw7_5) rfl dX5_changeA_1 ?_
  refine lv_iconst (v := 1) hx hb dX5_changeA_4 (by decide) ?_
  obtain ⟨q, hf⟩ := zck_use hf
  refine z_iald hC hI 36 23 (wC_e36 ad cy σ) (tC_t36 cy) q dX5_changeA_5 ?_
  refine lv_sipush (v := 196) hx hb dX5_changeA_6 (by decide) ?_
  refine lv_iand hx hb dX5_changeA_9 ?_
  refine lv_topi (fun v2 ev2 => ?_)
  replace hf := zbv_use ev2 hf
  refine lv_istore_n (lv' := [(2, .int v2), (0, .ref (ad 7)), (1, .int x1)]) hx hb dX5_changeA_10 rfl hl (by decide) rfl (fun ls hl => ?_)
  refine lv_aload_n hx hb dX5_changeA_11 rfl (lv_at hl 1 rfl) ?_
  refine z_get hC hI hinX5_changeA_X50 7 (wC_e7 ad cy σ) rfl 2 (by decide) (List.mem_cons_of_mem _ zw7_5) rfl dX5_changeA_12 ?_
  refine lv_iconst (v := 1) hx hb dX5_changeA_15 (by decide) ?_
  obtain ⟨q, hf⟩ := zck_use hf
  refine z_iald hC hI 36 23 (wC_e36 ad cy σ) (tC_t36 cy) q dX5_changeA_16 ?_
  refine lv_iconst (v := 1) hx hb dX5_changeA_17 (by decide) ?_
  refine lv_iand hx hb dX5_changeA_18 ?_
  refine lv_topi (fun v3 ev3 => ?_)
  replace hf := zbv_use ev3 hf
  refine lv_istore_n (lv' := [(3, .int v3), (2, .int v2), (0, .ref (ad 7)), (1, .int x1)]) hx hb dX5_changeA_19 rfl hl (by decide) rfl (fun ls hl => ?_)
  refine lv_iload_n hx hb dX5_changeA_20 rfl (lv_at hl 3 rfl) ?_
  by_cases q0 : x1 = 4
  · replace hf := zif_t q0 hf
    refine lv_tableIn (tgt := 52) hx hb dX5_changeA_21 (by rw [q0]; decide) (by rw [q0]; decide) (by rw [q0]; rfl) (by decide) ?_
    refine lv_aload_n hx hb dX5_changeA_52 rfl (lv_at hl 2 rfl) ?_
    obtain ⟨σ4, g4, hf⟩ := zbu_use hf
    refine z_callVu (As := []) (rest := []) hC hI (cX5_adjustA_met st l D ad cy σ  _ g4) (zgV zw33_12 zw33_13 zw33_14 zw2_21 zw33_15) rfl ⟨rfl, rfl⟩ 0 hdX5_adjustA ⟨Nat.le_of_ble_eq_true rfl, Nat.le_of_ble_eq_true rfl⟩ rfl rfl (wC_e7 ad cy σ) rfl hl rfl (Nat.le_of_ble_eq_true rfl) dX5_changeA_53 ⟨Nat.zero_le _, Nat.zero_le _⟩ (fun H locs hI => ?_)
    exact z_return hC hI hf dX5_changeA_56
  replace hf := zif_f q0 hf
  by_cases q1 : x1 = 5
  · replace hf := zif_t q1 hf
    refine lv_tableIn (tgt := 57) hx hb dX5_changeA_21 (by rw [q1]; decide) (by rw [q1]; decide) (by rw [q1]; rfl) (by decide) ?_
    refine lv_aload_n hx hb dX5_changeA_57 rfl (lv_at hl 2 rfl) ?_
    refine z_get hC hI hinX5_changeA_X50 7 (wC_e7 ad cy σ) rfl 2 (by decide) (List.mem_cons_of_mem _ zw7_5) rfl dX5_changeA_58 ?_
    refine lv_iconst (v := 0) hx hb dX5_changeA_61 (by decide) ?_
    refine lv_dup2_11 hx hb dX5_changeA_62 rfl rfl ?_
    obtain ⟨q, hf⟩ := zck_use hf
    refine z_iald hC hI 36 23 (wC_e36 ad cy σ) (tC_t36 cy) q dX5_changeA_63 ?_
    refine lv_sipush (v := 255) hx hb dX5_changeA_64 (by decide) ?_
    refine lv_ixor hx hb dX5_changeA_67 ?_
    obtain ⟨q, hf⟩ := zck_use hf
    obtain ⟨σ5, eσ5⟩ : ∃ z, z = zsi σ 36 ((0 : Int32).toNatClampNeg) ((zgi σ 36 (0 : Int32).toNatClampNeg) ^^^ 255) := ⟨_, rfl⟩
    replace hf := zbv_use eσ5 hf
    refine z_iast hC hI 36 23 (wC_e36 ad cy σ) (tC_t36 cy) q ((wC_s36 ad cy σ _ _).trans (congrArg (wC ad cy) eσ5.symm)) dX5_changeA_68 (fun H locs hI => ?_)
    refine lv_aload_n hx hb dX5_changeA_69 rfl (lv_at hl 2 rfl) ?_
    refine z_get hC hI hinX5_changeA_X50 7 (wC_e7 ad cy σ5) rfl 2 (by decide) (List.mem_cons_of_mem _ zw7_5) rfl dX5_changeA_70 ?_
    refine lv_iconst (v := 1) hx hb dX5_changeA_73 (by decide) ?_
    refine lv_iload_n hx hb dX5_changeA_74 rfl (lv_at hl 1 rfl) ?_
    refine lv_iload_n hx hb dX5_changeA_75 rfl (lv_at hl 0 rfl) ?_
    refine lv_ior hx hb dX5_changeA_76 ?_
    refine lv_bipush (v := 16) hx hb dX5_changeA_77 (by decide) ?_
    refine lv_ior hx hb dX5_changeA_79 ?_
    refine lv_iconst (v := 2) hx hb dX5_changeA_80 (by decide) ?_
    refine lv_ior hx hb dX5_changeA_81 ?_
    refine lv_aload_n hx hb dX5_changeA_82 rfl (lv_at hl 2 rfl) ?_
    refine z_get hC hI hinX5_changeA_X50 7 (wC_e7 ad cy σ5) rfl 2 (by decide) (List.mem_cons_of_mem _ zw7_5) rfl dX5_changeA_83 ?_
    refine lv_iconst (v := 0) hx hb dX5_changeA_86 (by decide) ?_
    obtain ⟨q, hf⟩ := zck_use hf
    refine z_iald hC hI 36 23 (wC_e36 ad cy σ5) (tC_t36 cy) q dX5_changeA_87 ?_
    refine lv_bipush (v := 40) hx hb dX5_changeA_88 (by decide) ?_
    refine lv_iand hx hb dX5_changeA_90 ?_
    refine lv_ior hx hb dX5_changeA_91 ?_
    obtain ⟨q, hf⟩ := zck_use hf
    obtain ⟨σ6, eσ6⟩ : ∃ z, z = zsi σ5 36 ((1 : Int32).toNatClampNeg) ((((v2 ||| v3) ||| 16) ||| 2) ||| ((zgi σ5 36 (0 : Int32).toNatClampNeg) &&& 40)) := ⟨_, rfl⟩
    replace hf := zbv_use eσ6 hf
    refine z_iast hC hI 36 23 (wC_e36 ad cy σ5) (tC_t36 cy) q ((wC_s36 ad cy σ5 _ _).trans (congrArg (wC ad cy) eσ6.symm)) dX5_changeA_92 (fun H locs hI => ?_)
    exact z_return hC hI hf dX5_changeA_93
  replace hf := zif_f q1 hf
  by_cases q2 : x1 = 6
  · replace hf := zif_t q2 hf
    refine lv_tableIn (tgt := 94) hx hb dX5_changeA_21 (by rw [q2]; decide) (by rw [q2]; decide) (by rw [q2]; rfl) (by decide) ?_
    refine lv_aload_n hx hb dX5_changeA_94 rfl (lv_at hl 2 rfl) ?_
    refine z_get hC hI hinX5_changeA_X50 7 (wC_e7 ad cy σ) rfl 2 (by decide) (List.mem_cons_of_mem _ zw7_5) rfl dX5_changeA_95 ?_
    refine lv_iconst (v := 1) hx hb dX5_changeA_98 (by decide) ?_
    refine lv_iload_n hx hb dX5_changeA_99 rfl (lv_at hl 1 rfl) ?_
    refine lv_iconst (v := 1) hx hb dX5_changeA_100 (by decide) ?_
    refine lv_ior hx hb dX5_changeA_101 ?_
    refine lv_aload_n hx hb dX5_changeA_102 rfl (lv_at hl 2 rfl) ?_
    refine z_get hC hI hinX5_changeA_X50 7 (wC_e7 ad cy σ) rfl 2 (by decide) (List.mem_cons_of_mem _ zw7_5) rfl dX5_changeA_103 ?_
    refine lv_iconst (v := 0) hx hb dX5_changeA_106 (by decide) ?_
    obtain ⟨q, hf⟩ := zck_use hf
    refine z_iald hC hI 36 23 (wC_e36 ad cy σ) (tC_t36 cy) q dX5_changeA_107 ?_
    refine lv_bipush (v := 40) hx hb dX5_changeA_108 (by decide) ?_
    refine lv_iand hx hb dX5_changeA_110 ?_
    refine lv_ior hx hb dX5_changeA_111 ?_
    obtain ⟨q, hf⟩ := zck_use hf
    obtain ⟨σ7, eσ7⟩ : ∃ z, z = zsi σ 36 ((1 : Int32).toNatClampNeg) ((v2 ||| 1) ||| ((zgi σ 36 (0 : Int32).toNatClampNeg) &&& 40)) := ⟨_, rfl⟩
    replace hf := zbv_use eσ7 hf
    refine z_iast hC hI 36 23 (wC_e36 ad cy σ) (tC_t36 cy) q ((wC_s36 ad cy σ _ _).trans (congrArg (wC ad cy) eσ7.symm)) dX5_changeA_112 (fun H locs hI => ?_)
    exact z_return hC hI hf dX5_changeA_113
  replace hf := zif_f q2 hf
  by_cases q3 : x1 = 7
  · replace hf := zif_t q3 hf
    refine lv_tableIn (tgt := 114) hx hb dX5_changeA_21 (by rw [q3]; decide) (by rw [q3]; decide) (by rw [q3]; rfl) (by decide) ?_
    refine lv_aload_n hx hb dX5_changeA_114 rfl (lv_at hl 2 rfl) ?_
    refine z_get hC hI hinX5_changeA_X50 7 (wC_e7 ad cy σ) rfl 2 (by decide) (List.mem_cons_of_mem _ zw7_5) rfl dX5_changeA_115 ?_
    refine lv_iconst (v := 1) hx hb dX5_changeA_118 (by decide) ?_
    refine lv_iload_n hx hb dX5_changeA_119 rfl (lv_at hl 1 rfl) ?_
    refine lv_iload_n hx hb dX5_changeA_120 rfl (lv_at hl 0 rfl) ?_
    refine lv_if_ne (tgt := 128) hx hb dX5_changeA_121 (by decide) (fun q => ?_) (fun q => ?_)
    · replace hf := zif_f q hf
      refine lv_bipush (v := 16) hx hb dX5_changeA_128 (by decide) ?_
      exact bX5_changeA_130 hC  hI (lv_sub hl [2] rfl) hf
    replace hf := zif_t q hf
    refine lv_iconst (v := 1) hx hb dX5_changeA_124 (by decide) ?_
    refine lv_goto (tgt := 130) hx hb dX5_changeA_125 (by decide) ?_
    exact bX5_changeA_130 hC  hI (lv_sub hl [2] rfl) hf
  replace hf := zif_f q3 hf
  refine lv_tableOut (tgt := 143) hx hb dX5_changeA_21 (zsw (fun k h1 h2 => by rcases (show k = 4 ∨ k = 5 ∨ k = 6 ∨ k = 7 by omega) with rfl | rfl | rfl | rfl <;> assumption)) (by decide) ?_
  refine lv_aload_n hx hb dX5_changeA_143 rfl (lv_at hl 2 rfl) ?_
  refine z_get hC hI hinX5_changeA_X50 7 (wC_e7 ad cy σ) rfl 2 (by decide) (List.mem_cons_of_mem _ zw7_5) rfl dX5_changeA_144 ?_
  refine lv_iconst (v := 0) hx hb dX5_changeA_147 (by decide) ?_
  refine lv_aload_n hx hb dX5_changeA_148 rfl (lv_at hl 2 rfl) ?_
  refine lv_iload_n hx hb dX5_changeA_149 rfl (lv_at hl 3 rfl) ?_
  refine lv_aload_n hx hb dX5_changeA_150 rfl (lv_at hl 2 rfl) ?_
  refine z_get hC hI hinX5_changeA_X50 7 (wC_e7 ad cy σ) rfl 2 (by decide) (List.mem_cons_of_mem _ zw7_5) rfl dX5_changeA_151 ?_
  refine lv_iconst (v := 0) hx hb dX5_changeA_154 (by decide) ?_
  obtain ⟨q, hf⟩ := zck_use hf
  refine z_iald hC hI 36 23 (wC_e36 ad cy σ) (tC_t36 cy) q dX5_changeA_155 ?_
  obtain ⟨σ8, v9, g8, hf⟩ := zbi_use hf
  refine z_callVi (As := [.int x1, .int (zgi σ 36 (0 : Int32).toNatClampNeg)]) (rest := [.int 0, .ref (ad 36)]) hC hI (cX5_turn_met st l D ad cy σ x1 (zgi σ 36 (0 : Int32).toNatClampNeg) _ g8) (zgV zw22_15 zw22_16 zw22_17 zw2_21 zw22_18) rfl ⟨rfl, rfl⟩ 2 hdX5_turn ⟨Nat.le_of_ble_eq_true rfl, Nat.le_of_ble_eq_true rfl⟩ rfl rfl (wC_e7 ad cy σ) rfl hl rfl (Nat.le_of_ble_eq_true rfl) dX5_changeA_156 ⟨Nat.zero_le _, Nat.zero_le _⟩ (fun H locs hI => ?_)
  obtain ⟨q, hf⟩ := zck_use hf
  obtain ⟨σ10, eσ10⟩ : ∃ z, z = zsi σ8 36 ((0 : Int32).toNatClampNeg) v9 := ⟨_, rfl⟩
  replace hf := zbv_use eσ10 hf
  refine z_iast hC hI 36 23 (wC_e36 ad cy σ8) (tC_t36 cy) q ((wC_s36 ad cy σ8 _ _).trans (congrArg (wC ad cy) eσ10.symm)) dX5_changeA_159 (fun H locs hI => ?_)
  refine lv_aload_n hx hb dX5_changeA_160 rfl (lv_at hl 2 rfl) ?_
  refine z_get hC hI hinX5_changeA_X50 7 (wC_e7 ad cy σ10) rfl 2 (by decide) (List.mem_cons_of_mem _ zw7_5) rfl dX5_changeA_161 ?_
  refine lv_iconst (v := 1) hx hb dX5_changeA_164 (by decide) ?_
  refine lv_iload_n hx hb dX5_changeA_165 rfl (lv_at hl 1 rfl) ?_
  refine lv_aload_n hx hb dX5_changeA_166 rfl (lv_at hl 2 rfl) ?_
  refine z_get hC hI hinX5_changeA_X50 7 (wC_e7 ad cy σ10) rfl 2 (by decide) (List.mem_cons_of_mem _ zw7_5) rfl dX5_changeA_167 ?_
  refine lv_iconst (v := 1) hx hb dX5_changeA_170 (by decide) ?_
  obtain ⟨q, hf⟩ := zck_use hf
  refine z_iald hC hI 36 23 (wC_e36 ad cy σ10) (tC_t36 cy) q dX5_changeA_171 ?_
  refine lv_bipush (v := 41) hx hb dX5_changeA_172 (by decide) ?_
  refine lv_iand hx hb dX5_changeA_174 ?_
  refine lv_ior hx hb dX5_changeA_175 ?_
  obtain ⟨q, hf⟩ := zck_use hf
  obtain ⟨σ11, eσ11⟩ : ∃ z, z = zsi σ10 36 ((1 : Int32).toNatClampNeg) (v2 ||| ((zgi σ10 36 (1 : Int32).toNatClampNeg) &&& 41)) := ⟨_, rfl⟩
  replace hf := zbv_use eσ11 hf
  refine z_iast hC hI 36 23 (wC_e36 ad cy σ10) (tC_t36 cy) q ((wC_s36 ad cy σ10 _ _).trans (congrArg (wC ad cy) eσ11.symm)) dX5_changeA_176 (fun H locs hI => ?_)
  exact z_return hC hI hf dX5_changeA_177
set_option maxRecDepth 20000 in
theorem cX5_changeA_met (st : Nat → Nat) (l : Launch) (D : va_G) (ad : Nat → Nat) (cy : Nat → ClassId) (σ : zSt) (x1 : Int32) (res : zSt) (hf : fX5_changeA σ x1 = some res) (sz : Nat) : zMu st l yX5_changeA wzX5_changeA rmX5_changeA [.ref (ad 7), .int x1] D (tC cy) (wC ad cy) sz σ res :=
  zMu.of (cc := cX5_changeA) (maxL := 4) (ret := none) (by decide) rfl (Nat.le_of_ble_eq_true rfl) (fun p e s m args below meth c hC A hI ls hl => bX5_changeA hC hI hl hf)
theorem hdX5_changeA : yX5_changeA.cls = RX5 ∧ yX5_changeA.cls ≠ "java/lang/invoke/MethodHandle" ∧ yX5_changeA.cls ≠ "java/lang/invoke/VarHandle" ∧ (parseMethodDescriptor yX5_changeA.desc).map (fun d => d.parameters.length) = some 1 := by decide +kernel
noncomputable def rmX5_oneLess : Room := { frames := 1, cells := 0, slots := 0, locals := 20 }
noncomputable def wzX5_oneLess : List Cond := .code yX5_oneLess cX5_oneLess 3 (some .int) :: wsL_law
theorem hinX5_oneLess_X50 : ∀ w ∈ wsX50, w ∈ wzX5_oneLess := fun w h => List.mem_cons_of_mem _ (inlX5 w h)
noncomputable def fX5_oneLess_53  (σ : zSt) (x2 : Int32) (s0 : Int32) (s1 : Int32) (s2 : Int32) : Option (zSt × Int32) :=
  zck (zin s2 29) (zbv (zsi σ 36 (s2.toNatClampNeg) ((s1 ||| s0) ||| 2)) (fun σ1 =>
  some (σ1, x2)))
noncomputable def fX5_oneLess_41  (σ : zSt) (x2 : Int32) (s0 : Int32) (s1 : Int32) (s2 : Int32) : Option (zSt × Int32) :=
  if x2 = 127 then fX5_oneLess_53 σ x2 4 (s1 ||| s0) s2 else
  fX5_oneLess_53 σ x2 0 (s1 ||| s0) s2
noncomputable def fX5_oneLess  (σ : zSt) (x1 : Int32) : Option (zSt × Int32) :=
  zbv ((x1 - 1) &&& 255) (fun v2 =>
  zck (zin 1 29) (
  zbi (fX5_by σ v2) (fun σ3 v4 =>
  if (v2 &&& 15) = 15 then fX5_oneLess_41 σ3 v2 16 (((zgi σ 36 (1 : Int32).toNatClampNeg) &&& 1) ||| v4) 1 else
  fX5_oneLess_41 σ3 v2 0 (((zgi σ 36 (1 : Int32).toNatClampNeg) &&& 1) ||| v4) 1)))
set_option maxRecDepth 20000 in
set_option maxHeartbeats 4000000 in
theorem bX5_oneLess_53 {st : Nat → Nat} {p : Program} {l : Launch} {e : Env} {s : State} {m : MethodId} {args : Array Value} {below : List Frame} {meth : Method} {c : Code} {D : va_G} {A : Nat → Prop} {ad : Nat → Nat} {cy : Nat → ClassId} (hC : zC p m c cX5_oneLess 3 s args wzX5_oneLess RX5 meth (some .int))  {res : zSt × Int32} {H : Heap} {locs : List Loc} {σ : zSt} {ls : Array Slot} {x2 : Int32} {s0 : Int32} {s1 : Int32} {s2 : Int32} (hI : zI st D (tC cy) (wC ad cy σ) A s H locs) (hl : lv_has ls 3 [(2, .int x2)]) (hf : fX5_oneLess_53  σ x2 s0 s1 s2 = some res) : W p l e rmX5_oneLess s m args below meth c H locs 0 0 (zQi below args s D (tC cy) (wC ad cy) A res) (F0 m 53 ls [.int s0, .int s1, .int s2, .ref (ad 36)]) := by
  have hx := hC.1
  have hb := hC.2.1
  unfold fX5_oneLess_53 at hf
  refine lv_ior hx hb dX5_oneLess_53 ?_
  refine lv_iconst (v := 2) hx hb dX5_oneLess_54 (by decide) ?_
  refine lv_ior hx hb dX5_oneLess_55 ?_
  obtain ⟨q, hf⟩ := zck_use hf
  obtain ⟨σ1, eσ1⟩ : ∃ z, z = zsi σ 36 (s2.toNatClampNeg) ((s1 ||| s0) ||| 2) := ⟨_, rfl⟩
  replace hf := zbv_use eσ1 hf
  refine z_iast hC hI 36 23 (wC_e36 ad cy σ) (tC_t36 cy) q ((wC_s36 ad cy σ _ _).trans (congrArg (wC ad cy) eσ1.symm)) dX5_oneLess_56 (fun H locs hI => ?_)
  refine lv_iload_n hx hb dX5_oneLess_57 rfl (lv_at hl 0 rfl) ?_
  exact z_ireturn hC hI hf dX5_oneLess_58
set_option maxRecDepth 20000 in
set_option maxHeartbeats 4000000 in
theorem bX5_oneLess_41 {st : Nat → Nat} {p : Program} {l : Launch} {e : Env} {s : State} {m : MethodId} {args : Array Value} {below : List Frame} {meth : Method} {c : Code} {D : va_G} {A : Nat → Prop} {ad : Nat → Nat} {cy : Nat → ClassId} (hC : zC p m c cX5_oneLess 3 s args wzX5_oneLess RX5 meth (some .int))  {res : zSt × Int32} {H : Heap} {locs : List Loc} {σ : zSt} {ls : Array Slot} {x2 : Int32} {s0 : Int32} {s1 : Int32} {s2 : Int32} (hI : zI st D (tC cy) (wC ad cy σ) A s H locs) (hl : lv_has ls 3 [(2, .int x2)]) (hf : fX5_oneLess_41  σ x2 s0 s1 s2 = some res) : W p l e rmX5_oneLess s m args below meth c H locs 0 0 (zQi below args s D (tC cy) (wC ad cy) A res) (F0 m 41 ls [.int s0, .int s1, .int s2, .ref (ad 36)]) := by
  have hx := hC.1
  have hb := hC.2.1
  unfold fX5_oneLess_41 at hf
  refine lv_ior hx hb dX5_oneLess_41 ?_
  refine lv_iload_n hx hb dX5_oneLess_42 rfl (lv_at hl 0 rfl) ?_
  refine lv_bipush (v := 127) hx hb dX5_oneLess_43 (by decide) ?_
  refine lv_icmp_ne (tgt := 52) hx hb dX5_oneLess_45 (by decide) (fun q => ?_) (fun q => ?_)
  · replace hf := zif_f q hf
    refine lv_iconst (v := 0) hx hb dX5_oneLess_52 (by decide) ?_
    exact bX5_oneLess_53 hC  hI hl hf
  replace hf := zif_t q hf
  refine lv_iconst (v := 4) hx hb dX5_oneLess_48 (by decide) ?_
  refine lv_goto (tgt := 53) hx hb dX5_oneLess_49 (by decide) ?_
  exact bX5_oneLess_53 hC  hI hl hf
set_option maxRecDepth 20000 in
set_option maxHeartbeats 4000000 in
theorem bX5_oneLess {st : Nat → Nat} {p : Program} {l : Launch} {e : Env} {s : State} {m : MethodId} {args : Array Value} {below : List Frame} {meth : Method} {c : Code} {D : va_G} {A : Nat → Prop} {ad : Nat → Nat} {cy : Nat → ClassId} (hC : zC p m c cX5_oneLess 3 s args wzX5_oneLess RX5 meth (some .int))  {res : zSt × Int32} {H : Heap} {locs : List Loc} {σ : zSt} {ls : Array Slot} {x1 : Int32} (hI : zI st D (tC cy) (wC ad cy σ) A s H locs) (hl : lv_has ls 3 [(0, .ref (ad 7)), (1, .int x1)]) (hf : fX5_oneLess  σ x1 = some res) : W p l e rmX5_oneLess s m args below meth c H locs 0 0 (zQi below args s D (tC cy) (wC ad cy) A res) (F0 m 0 ls []) := by
  have hx := hC.1
  have hb := hC.2.1
  unfold fX5_oneLess at hf
  refine lv_iload_n hx hb dX5_oneLess_0 rfl (lv_at hl 1 rfl) ?_
  refine lv_iconst (v := 1) hx hb dX5_oneLess_1 (by decide) ?_
  refine lv_isub hx hb dX5_oneLess_2 ?_
  refine lv_sipush (v := 255) hx hb dX5_oneLess_3 (by decide) ?_
  refine lv_iand hx hb dX5_oneLess_6 ?_
  refine lv_topi (fun v2 ev2 => ?_)
  replace hf := zbv_use ev2 hf
  refine lv_istore_n (lv' := [(2, .int v2), (0, .ref (ad 7)), (1, .int x1)]) hx hb dX5_oneLess_7 rfl hl (by decide) rfl (fun ls hl => ?_)
  refine lv_aload_n hx hb dX5_oneLess_8 rfl (lv_at hl 1 rfl) ?_
  refine z_get hC hI hinX5_oneLess_X50 7 (wC_e7 ad cy σ) rfl 2 (by decide) (List.mem_cons_of_mem _ zw7_5) rfl dX5_oneLess_9 ?_
  refine lv_iconst (v := 1) hx hb dX5_oneLess_12 (by decide) ?_
  refine lv_aload_n hx hb dX5_oneLess_13 rfl (lv_at hl 1 rfl) ?_
  refine z_get hC hI hinX5_oneLess_X50 7 (wC_e7 ad cy σ) rfl 2 (by decide) (List.mem_cons_of_mem _ zw7_5) rfl dX5_oneLess_14 ?_
  refine lv_iconst (v := 1) hx hb dX5_oneLess_17 (by decide) ?_
  obtain ⟨q, hf⟩ := zck_use hf
  refine z_iald hC hI 36 23 (wC_e36 ad cy σ) (tC_t36 cy) q dX5_oneLess_18 ?_
  refine lv_iconst (v := 1) hx hb dX5_oneLess_19 (by decide) ?_
  refine lv_iand hx hb dX5_oneLess_20 ?_
  refine lv_iload_n hx hb dX5_oneLess_21 rfl (lv_at hl 0 rfl) ?_
  obtain ⟨σ3, v4, g3, hf⟩ := zbi_use hf
  refine z_callSi (As := [.int v2]) (rest := [.int ((zgi σ 36 (1 : Int32).toNatClampNeg) &&& 1), .int 1, .ref (ad 36)]) hC hI (cX5_by_met st l D ad cy σ v2 _ g3) (zgS zw22_19 zw22_20 zw2_21 zw22_21) rfl ⟨rfl, rfl⟩ 1 hdX5_by ⟨Nat.le_of_ble_eq_true rfl, Nat.le_of_ble_eq_true rfl⟩ rfl hl rfl (Nat.le_of_ble_eq_true rfl) dX5_oneLess_22 ⟨Nat.zero_le _, Nat.zero_le _⟩ (fun H locs hI => ?_)
  refine lv_ior hx hb dX5_oneLess_25 ?_
  refine lv_iload_n hx hb dX5_oneLess_26 rfl (lv_at hl 0 rfl) ?_
  refine lv_bipush (v := 15) hx hb dX5_oneLess_27 (by decide) ?_
  refine lv_iand hx hb dX5_oneLess_29 ?_
  refine lv_bipush (v := 15) hx hb dX5_oneLess_30 (by decide) ?_
  refine lv_icmp_ne (tgt := 40) hx hb dX5_oneLess_32 (by decide) (fun q => ?_) (fun q => ?_)
  · replace hf := zif_f q hf
    refine lv_iconst (v := 0) hx hb dX5_oneLess_40 (by decide) ?_
    exact bX5_oneLess_41 hC  hI (lv_sub hl [0] rfl) hf
  replace hf := zif_t q hf
  refine lv_bipush (v := 16) hx hb dX5_oneLess_35 (by decide) ?_
  refine lv_goto (tgt := 41) hx hb dX5_oneLess_37 (by decide) ?_
  exact bX5_oneLess_41 hC  hI (lv_sub hl [0] rfl) hf
set_option maxRecDepth 20000 in
theorem cX5_oneLess_met (st : Nat → Nat) (l : Launch) (D : va_G) (ad : Nat → Nat) (cy : Nat → ClassId) (σ : zSt) (x1 : Int32) (res : zSt × Int32) (hf : fX5_oneLess σ x1 = some res) (sz : Nat) : zMi st l yX5_oneLess wzX5_oneLess rmX5_oneLess [.ref (ad 7), .int x1] D (tC cy) (wC ad cy) sz σ res :=
  zMi.of (cc := cX5_oneLess) (maxL := 3) (ret := (some .int)) (by decide) rfl (Nat.le_of_ble_eq_true rfl) (fun p e s m args below meth c hC A hI ls hl => bX5_oneLess hC hI hl hf)
theorem hdX5_oneLess : yX5_oneLess.cls = RX5 ∧ yX5_oneLess.cls ≠ "java/lang/invoke/MethodHandle" ∧ yX5_oneLess.cls ≠ "java/lang/invoke/VarHandle" ∧ (parseMethodDescriptor yX5_oneLess.desc).map (fun d => d.parameters.length) = some 1 := by decide +kernel
noncomputable def rmX5_oneMore : Room := { frames := 1, cells := 0, slots := 0, locals := 20 }
noncomputable def wzX5_oneMore : List Cond := .code yX5_oneMore cX5_oneMore 3 (some .int) :: wsL_law
theorem hinX5_oneMore_X50 : ∀ w ∈ wsX50, w ∈ wzX5_oneMore := fun w h => List.mem_cons_of_mem _ (inlX5 w h)
noncomputable def fX5_oneMore_52  (σ : zSt) (x2 : Int32) (s0 : Int32) (s1 : Int32) (s2 : Int32) : Option (zSt × Int32) :=
  zck (zin s2 29) (zbv (zsi σ 36 (s2.toNatClampNeg) (s1 ||| s0)) (fun σ1 =>
  some (σ1, x2)))
noncomputable def fX5_oneMore_39  (σ : zSt) (x2 : Int32) (s0 : Int32) (s1 : Int32) (s2 : Int32) : Option (zSt × Int32) :=
  if x2 = 128 then fX5_oneMore_52 σ x2 4 (s1 ||| s0) s2 else
  fX5_oneMore_52 σ x2 0 (s1 ||| s0) s2
noncomputable def fX5_oneMore  (σ : zSt) (x1 : Int32) : Option (zSt × Int32) :=
  zbv ((x1 + 1) &&& 255) (fun v2 =>
  zck (zin 1 29) (
  zbi (fX5_by σ v2) (fun σ3 v4 =>
  if (v2 &&& 15) = 0 then fX5_oneMore_39 σ3 v2 16 (((zgi σ 36 (1 : Int32).toNatClampNeg) &&& 1) ||| v4) 1 else
  fX5_oneMore_39 σ3 v2 0 (((zgi σ 36 (1 : Int32).toNatClampNeg) &&& 1) ||| v4) 1)))
set_option maxRecDepth 20000 in
set_option maxHeartbeats 4000000 in
theorem bX5_oneMore_52 {st : Nat → Nat} {p : Program} {l : Launch} {e : Env} {s : State} {m : MethodId} {args : Array Value} {below : List Frame} {meth : Method} {c : Code} {D : va_G} {A : Nat → Prop} {ad : Nat → Nat} {cy : Nat → ClassId} (hC : zC p m c cX5_oneMore 3 s args wzX5_oneMore RX5 meth (some .int))  {res : zSt × Int32} {H : Heap} {locs : List Loc} {σ : zSt} {ls : Array Slot} {x2 : Int32} {s0 : Int32} {s1 : Int32} {s2 : Int32} (hI : zI st D (tC cy) (wC ad cy σ) A s H locs) (hl : lv_has ls 3 [(2, .int x2)]) (hf : fX5_oneMore_52  σ x2 s0 s1 s2 = some res) : W p l e rmX5_oneMore s m args below meth c H locs 0 0 (zQi below args s D (tC cy) (wC ad cy) A res) (F0 m 52 ls [.int s0, .int s1, .int s2, .ref (ad 36)]) := by
  have hx := hC.1
  have hb := hC.2.1
  unfold fX5_oneMore_52 at hf
  refine lv_ior hx hb dX5_oneMore_52 ?_
  obtain ⟨q, hf⟩ := zck_use hf
  obtain ⟨σ1, eσ1⟩ : ∃ z, z = zsi σ 36 (s2.toNatClampNeg) (s1 ||| s0) := ⟨_, rfl⟩
  replace hf := zbv_use eσ1 hf
  refine z_iast hC hI 36 23 (wC_e36 ad cy σ) (tC_t36 cy) q ((wC_s36 ad cy σ _ _).trans (congrArg (wC ad cy) eσ1.symm)) dX5_oneMore_53 (fun H locs hI => ?_)
  refine lv_iload_n hx hb dX5_oneMore_54 rfl (lv_at hl 0 rfl) ?_
  exact z_ireturn hC hI hf dX5_oneMore_55
set_option maxRecDepth 20000 in
set_option maxHeartbeats 4000000 in
theorem bX5_oneMore_39 {st : Nat → Nat} {p : Program} {l : Launch} {e : Env} {s : State} {m : MethodId} {args : Array Value} {below : List Frame} {meth : Method} {c : Code} {D : va_G} {A : Nat → Prop} {ad : Nat → Nat} {cy : Nat → ClassId} (hC : zC p m c cX5_oneMore 3 s args wzX5_oneMore RX5 meth (some .int))  {res : zSt × Int32} {H : Heap} {locs : List Loc} {σ : zSt} {ls : Array Slot} {x2 : Int32} {s0 : Int32} {s1 : Int32} {s2 : Int32} (hI : zI st D (tC cy) (wC ad cy σ) A s H locs) (hl : lv_has ls 3 [(2, .int x2)]) (hf : fX5_oneMore_39  σ x2 s0 s1 s2 = some res) : W p l e rmX5_oneMore s m args below meth c H locs 0 0 (zQi below args s D (tC cy) (wC ad cy) A res) (F0 m 39 ls [.int s0, .int s1, .int s2, .ref (ad 36)]) := by
  have hx := hC.1
  have hb := hC.2.1
  unfold fX5_oneMore_39 at hf
  refine lv_ior hx hb dX5_oneMore_39 ?_
  refine lv_iload_n hx hb dX5_oneMore_40 rfl (lv_at hl 0 rfl) ?_
  refine lv_sipush (v := 128) hx hb dX5_oneMore_41 (by decide) ?_
  refine lv_icmp_ne (tgt := 51) hx hb dX5_oneMore_44 (by decide) (fun q => ?_) (fun q => ?_)
  · replace hf := zif_f q hf
    refine lv_iconst (v := 0) hx hb dX5_oneMore_51 (by decide) ?_
    exact bX5_oneMore_52 hC  hI hl hf
  replace hf := zif_t q hf
  refine lv_iconst (v := 4) hx hb dX5_oneMore_47 (by decide) ?_
  refine lv_goto (tgt := 52) hx hb dX5_oneMore_48 (by decide) ?_
  exact bX5_oneMore_52 hC  hI hl hf
set_option maxRecDepth 20000 in
set_option maxHeartbeats 4000000 in
theorem bX5_oneMore {st : Nat → Nat} {p : Program} {l : Launch} {e : Env} {s : State} {m : MethodId} {args : Array Value} {below : List Frame} {meth : Method} {c : Code} {D : va_G} {A : Nat → Prop} {ad : Nat → Nat} {cy : Nat → ClassId} (hC : zC p m c cX5_oneMore 3 s args wzX5_oneMore RX5 meth (some .int))  {res : zSt × Int32} {H : Heap} {locs : List Loc} {σ : zSt} {ls : Array Slot} {x1 : Int32} (hI : zI st D (tC cy) (wC ad cy σ) A s H locs) (hl : lv_has ls 3 [(0, .ref (ad 7)), (1, .int x1)]) (hf : fX5_oneMore  σ x1 = some res) : W p l e rmX5_oneMore s m args below meth c H locs 0 0 (zQi below args s D (tC cy) (wC ad cy) A res) (F0 m 0 ls []) := by
  have hx := hC.1
  have hb := hC.2.1
  unfold fX5_oneMore at hf
  refine lv_iload_n hx hb dX5_oneMore_0 rfl (lv_at hl 1 rfl) ?_
  refine lv_iconst (v := 1) hx hb dX5_oneMore_1 (by decide) ?_
  refine lv_iadd hx hb dX5_oneMore_2 ?_
  refine lv_sipush (v := 255) hx hb dX5_oneMore_3 (by decide) ?_
  refine lv_iand hx hb dX5_oneMore_6 ?_
  refine lv_topi (fun v2 ev2 => ?_)
  replace hf := zbv_use ev2 hf
  refine lv_istore_n (lv' := [(2, .int v2), (0, .ref (ad 7)), (1, .int x1)]) hx hb dX5_oneMore_7 rfl hl (by decide) rfl (fun ls hl => ?_)
  refine lv_aload_n hx hb dX5_oneMore_8 rfl (lv_at hl 1 rfl) ?_
  refine z_get hC hI hinX5_oneMore_X50 7 (wC_e7 ad cy σ) rfl 2 (by decide) (List.mem_cons_of_mem _ zw7_5) rfl dX5_oneMore_9 ?_
  refine lv_iconst (v := 1) hx hb dX5_oneMore_12 (by decide) ?_
  refine lv_aload_n hx hb dX5_oneMore_13 rfl (lv_at hl 1 rfl) ?_
  refine z_get hC hI hinX5_oneMore_X50 7 (wC_e7 ad cy σ) rfl 2 (by decide) (List.mem_cons_of_mem _ zw7_5) rfl dX5_oneMore_14 ?_
  refine lv_iconst (v := 1) hx hb dX5_oneMore_17 (by decide) ?_
  obtain ⟨q, hf⟩ := zck_use hf
  refine z_iald hC hI 36 23 (wC_e36 ad cy σ) (tC_t36 cy) q dX5_oneMore_18 ?_
  refine lv_iconst (v := 1) hx hb dX5_oneMore_19 (by decide) ?_
  refine lv_iand hx hb dX5_oneMore_20 ?_
  refine lv_iload_n hx hb dX5_oneMore_21 rfl (lv_at hl 0 rfl) ?_
  obtain ⟨σ3, v4, g3, hf⟩ := zbi_use hf
  refine z_callSi (As := [.int v2]) (rest := [.int ((zgi σ 36 (1 : Int32).toNatClampNeg) &&& 1), .int 1, .ref (ad 36)]) hC hI (cX5_by_met st l D ad cy σ v2 _ g3) (zgS zw22_19 zw22_20 zw2_21 zw22_21) rfl ⟨rfl, rfl⟩ 1 hdX5_by ⟨Nat.le_of_ble_eq_true rfl, Nat.le_of_ble_eq_true rfl⟩ rfl hl rfl (Nat.le_of_ble_eq_true rfl) dX5_oneMore_22 ⟨Nat.zero_le _, Nat.zero_le _⟩ (fun H locs hI => ?_)
  refine lv_ior hx hb dX5_oneMore_25 ?_
  refine lv_iload_n hx hb dX5_oneMore_26 rfl (lv_at hl 0 rfl) ?_
  refine lv_bipush (v := 15) hx hb dX5_oneMore_27 (by decide) ?_
  refine lv_iand hx hb dX5_oneMore_29 ?_
  refine lv_if_ne (tgt := 38) hx hb dX5_oneMore_30 (by decide) (fun q => ?_) (fun q => ?_)
  · replace hf := zif_f q hf
    refine lv_iconst (v := 0) hx hb dX5_oneMore_38 (by decide) ?_
    exact bX5_oneMore_39 hC  hI (lv_sub hl [0] rfl) hf
  replace hf := zif_t q hf
  refine lv_bipush (v := 16) hx hb dX5_oneMore_33 (by decide) ?_
  refine lv_goto (tgt := 39) hx hb dX5_oneMore_35 (by decide) ?_
  exact bX5_oneMore_39 hC  hI (lv_sub hl [0] rfl) hf
set_option maxRecDepth 20000 in
theorem cX5_oneMore_met (st : Nat → Nat) (l : Launch) (D : va_G) (ad : Nat → Nat) (cy : Nat → ClassId) (σ : zSt) (x1 : Int32) (res : zSt × Int32) (hf : fX5_oneMore σ x1 = some res) (sz : Nat) : zMi st l yX5_oneMore wzX5_oneMore rmX5_oneMore [.ref (ad 7), .int x1] D (tC cy) (wC ad cy) sz σ res :=
  zMi.of (cc := cX5_oneMore) (maxL := 3) (ret := (some .int)) (by decide) rfl (Nat.le_of_ble_eq_true rfl) (fun p e s m args below meth c hC A hI ls hl => bX5_oneMore hC hI hl hf)
theorem hdX5_oneMore : yX5_oneMore.cls = RX5 ∧ yX5_oneMore.cls ≠ "java/lang/invoke/MethodHandle" ∧ yX5_oneMore.cls ≠ "java/lang/invoke/VarHandle" ∧ (parseMethodDescriptor yX5_oneMore.desc).map (fun d => d.parameters.length) = some 1 := by decide +kernel
noncomputable def rmX5_far : Room := { frames := 3, cells := 0, slots := 0, locals := 68 }
noncomputable def wzX5_far : List Cond := .code yX5_far cX5_far 4 (some .int) :: wsL_law
theorem hinX5_far_X50 : ∀ w ∈ wsX50, w ∈ wzX5_far := fun w h => List.mem_cons_of_mem _ (inlX5 w h)
noncomputable def fX5_far_78  (σ : zSt)  : Option (zSt × Int32) :=
  some (σ, 16)
noncomputable def fX5_far_152  (σ : zSt) (s0 : Int32) : Option (zSt × Int32) :=
  some (σ, s0)
noncomputable def fX5_far_140  (σ : zSt) (x1 : Int32) : Option (zSt × Int32) :=
  if 4 ≤ x1 then fX5_far_152 σ 13 else
  fX5_far_152 σ 7
noncomputable def fX5_far_32  (σ : zSt) (x1 : Int32) (x2 : Int32) (s0 : Int32) : Option (zSt × Int32) :=
  zck (zin 20 29) (zbv (zsi σ 36 ((20 : Int32).toNatClampNeg) ((s0 + 1) &&& 65535)) (fun σ1 =>
  if (x1 >>> ((1 : Int32) &&& 31)) = 2 then if x2 = 0 then zbi (fX5_hl σ1 ) (fun σ7 v8 =>
  zbu (fX5_writeWord σ7 s0 v8) (fun σ9 =>
  fX5_far_78 σ9)) else
  zbi (fX5_readWord σ1 s0) (fun σ10 v11 =>
  zbu (fX5_putHl σ10 v11) (fun σ12 =>
  fX5_far_78 σ12)) else
  if x2 = 0 then zck (zin 0 29) (
  zbu (fX2_write σ1 s0 (zgi σ1 36 (0 : Int32).toNatClampNeg)) (fun σ2 =>
  zck (zin 0 29) (
  zck (zin 20 29) (zbv (zsi σ2 36 ((20 : Int32).toNatClampNeg) (((zgi σ2 36 (0 : Int32).toNatClampNeg) <<< ((8 : Int32) &&& 31)) ||| ((s0 + 1) &&& 255))) (fun σ3 =>
  fX5_far_140 σ3 x1))))) else
  zbi (fX2_read σ1 s0) (fun σ4 v5 =>
  zck (zin 0 29) (zbv (zsi σ4 36 ((0 : Int32).toNatClampNeg) v5) (fun σ6 =>
  fX5_far_140 σ6 x1)))))
noncomputable def fX5_far_12  (σ : zSt) (x1 : Int32) (s0 : Int32) : Option (zSt × Int32) :=
  if 4 ≤ x1 then zbi (fX5_fetchWord σ ) (fun σ13 v14 =>
  fX5_far_32 σ13 x1 s0 v14) else
  zbi (fX5_pair σ (x1 >>> ((1 : Int32) &&& 31))) (fun σ15 v16 =>
  fX5_far_32 σ15 x1 s0 v16)
noncomputable def fX5_far  (σ : zSt) (x1 : Int32) : Option (zSt × Int32) :=
  if (x1 &&& 1) = 1 then fX5_far_12 σ x1 1 else
  fX5_far_12 σ x1 0
set_option maxRecDepth 20000 in
set_option maxHeartbeats 4000000 in
theorem bX5_far_78 {st : Nat → Nat} {p : Program} {l : Launch} {e : Env} {s : State} {m : MethodId} {args : Array Value} {below : List Frame} {meth : Method} {c : Code} {D : va_G} {A : Nat → Prop} {ad : Nat → Nat} {cy : Nat → ClassId} (hC : zC p m c cX5_far 4 s args wzX5_far RX5 meth (some .int))  {res : zSt × Int32} {H : Heap} {locs : List Loc} {σ : zSt} {ls : Array Slot}  (hI : zI st D (tC cy) (wC ad cy σ) A s H locs) (hl : lv_has ls 4 []) (hf : fX5_far_78  σ  = some res) : W p l e rmX5_far s m args below meth c H locs 0 0 (zQi below args s D (tC cy) (wC ad cy) A res) (F0 m 78 ls []) := by
  have hx := hC.1
  have hb := hC.2.1
  unfold fX5_far_78 at hf
  refine lv_bipush (v := 16) hx hb dX5_far_78 (by decide) ?_
  exact z_ireturn hC hI hf dX5_far_80
set_option maxRecDepth 20000 in
set_option maxHeartbeats 4000000 in
theorem bX5_far_152 {st : Nat → Nat} {p : Program} {l : Launch} {e : Env} {s : State} {m : MethodId} {args : Array Value} {below : List Frame} {meth : Method} {c : Code} {D : va_G} {A : Nat → Prop} {ad : Nat → Nat} {cy : Nat → ClassId} (hC : zC p m c cX5_far 4 s args wzX5_far RX5 meth (some .int))  {res : zSt × Int32} {H : Heap} {locs : List Loc} {σ : zSt} {ls : Array Slot} {s0 : Int32} (hI : zI st D (tC cy) (wC ad cy σ) A s H locs) (hl : lv_has ls 4 []) (hf : fX5_far_152  σ s0 = some res) : W p l e rmX5_far s m args below meth c H locs 0 0 (zQi below args s D (tC cy) (wC ad cy) A res) (F0 m 152 ls [.int s0]) := by
  have hx := hC.1
  have hb := hC.2.1
  unfold fX5_far_152 at hf
  exact z_ireturn hC hI hf dX5_far_152
set_option maxRecDepth 20000 in
set_option maxHeartbeats 4000000 in
theorem bX5_far_140 {st : Nat → Nat} {p : Program} {l : Launch} {e : Env} {s : State} {m : MethodId} {args : Array Value} {below : List Frame} {meth : Method} {c : Code} {D : va_G} {A : Nat → Prop} {ad : Nat → Nat} {cy : Nat → ClassId} (hC : zC p m c cX5_far 4 s args wzX5_far RX5 meth (some .int))  {res : zSt × Int32} {H : Heap} {locs : List Loc} {σ : zSt} {ls : Array Slot} {x1 : Int32} (hI : zI st D (tC cy) (wC ad cy σ) A s H locs) (hl : lv_has ls 4 [(1, .int x1)]) (hf : fX5_far_140  σ x1 = some res) : W p l e rmX5_far s m args below meth c H locs 0 0 (zQi below args s D (tC cy) (wC ad cy) A res) (F0 m 140 ls []) := by
  have hx := hC.1
  have hb := hC.2.1
  unfold fX5_far_140 at hf
  refine lv_iload_n hx hb dX5_far_140 rfl (lv_at hl 0 rfl) ?_
  refine lv_iconst (v := 4) hx hb dX5_far_141 (by decide) ?_
  refine lv_icmp_ge (tgt := 150) hx hb dX5_far_142 (by decide) (fun q => ?_) (fun q => ?_)
  · replace hf := zif_t q hf
    refine lv_bipush (v := 13) hx hb dX5_far_150 (by decide) ?_
    exact bX5_far_152 hC  hI (lv_sub hl [] rfl) hf
  replace hf := zif_f q hf
  refine lv_bipush (v := 7) hx hb dX5_far_145 (by decide) ?_
  refine lv_goto (tgt := 152) hx hb dX5_far_147 (by decide) ?_
  exact bX5_far_152 hC  hI (lv_sub hl [] rfl) hf
set_option maxRecDepth 20000 in
set_option maxHeartbeats 4000000 in
theorem bX5_far_32 {st : Nat → Nat} {p : Program} {l : Launch} {e : Env} {s : State} {m : MethodId} {args : Array Value} {below : List Frame} {meth : Method} {c : Code} {D : va_G} {A : Nat → Prop} {ad : Nat → Nat} {cy : Nat → ClassId} (hC : zC p m c cX5_far 4 s args wzX5_far RX5 meth (some .int))  {res : zSt × Int32} {H : Heap} {locs : List Loc} {σ : zSt} {ls : Array Slot} {x1 : Int32} {x2 : Int32} {s0 : Int32} (hI : zI st D (tC cy) (wC ad cy σ) A s H locs) (hl : lv_has ls 4 [(0, .ref (ad 7)), (1, .int x1), (2, .int x2)]) (hf : fX5_far_32  σ x1 x2 s0 = some res) : W p l e rmX5_far s m args below meth c H locs 0 0 (zQi below args s D (tC cy) (wC ad cy) A res) (F0 m 32 ls [.int s0]) := by
  have hx := hC.1
  have hb := hC.2.1
  unfold fX5_far_32 at hf
  refine lv_istore_n (lv' := [(3, .int s0), (0, .ref (ad 7)), (1, .int x1), (2, .int x2)]) hx hb dX5_far_32 rfl hl (by decide) rfl (fun ls hl => ?_)
  refine lv_aload_n hx hb dX5_far_33 rfl (lv_at hl 1 rfl) ?_
  refine z_get hC hI hinX5_far_X50 7 (wC_e7 ad cy σ) rfl 2 (by decide) (List.mem_cons_of_mem _ zw7_5) rfl dX5_far_34 ?_
  refine lv_bipush (v := 20) hx hb dX5_far_37 (by decide) ?_
  refine lv_iload_n hx hb dX5_far_39 rfl (lv_at hl 0 rfl) ?_
  refine lv_iconst (v := 1) hx hb dX5_far_40 (by decide) ?_
  refine lv_iadd hx hb dX5_far_41 ?_
  refine lv_ldc (v := 65535) hx hb hC.2.2.2.1 (hC.2.2.2.2.1 _ (List.mem_cons_of_mem _ zw20_6)) dX5_far_42 ?_
  refine lv_iand hx hb dX5_far_44 ?_
  obtain ⟨q, hf⟩ := zck_use hf
  obtain ⟨σ1, eσ1⟩ : ∃ z, z = zsi σ 36 ((20 : Int32).toNatClampNeg) ((s0 + 1) &&& 65535) := ⟨_, rfl⟩
  replace hf := zbv_use eσ1 hf
  refine z_iast hC hI 36 23 (wC_e36 ad cy σ) (tC_t36 cy) q ((wC_s36 ad cy σ _ _).trans (congrArg (wC ad cy) eσ1.symm)) dX5_far_45 (fun H locs hI => ?_)
  refine lv_iload_n hx hb dX5_far_46 rfl (lv_at hl 2 rfl) ?_
  refine lv_iconst (v := 1) hx hb dX5_far_47 (by decide) ?_
  refine lv_ishr hx hb dX5_far_48 ?_
  refine lv_iconst (v := 2) hx hb dX5_far_49 (by decide) ?_
  refine lv_icmp_ne (tgt := 81) hx hb dX5_far_50 (by decide) (fun q => ?_) (fun q => ?_)
  · replace hf := zif_f q hf
    refine lv_iload_n hx hb dX5_far_81 rfl (lv_at hl 3 rfl) ?_
    refine lv_if_eq (tgt := 102) hx hb dX5_far_82 (by decide) (fun q => ?_) (fun q => ?_)
    · replace hf := zif_t q hf
      refine lv_aload_n hx hb dX5_far_102 rfl (lv_at hl 1 rfl) ?_
      refine z_get hC hI hinX5_far_X50 7 (wC_e7 ad cy σ1) rfl 0 (by decide) (List.mem_cons_of_mem _ zw7_8) rfl dX5_far_103 ?_
      refine lv_iload_n hx hb dX5_far_106 rfl (lv_at hl 0 rfl) ?_
      refine lv_aload_n hx hb dX5_far_107 rfl (lv_at hl 1 rfl) ?_
      refine z_get hC hI hinX5_far_X50 7 (wC_e7 ad cy σ1) rfl 2 (by decide) (List.mem_cons_of_mem _ zw7_5) rfl dX5_far_108 ?_
      refine lv_iconst (v := 0) hx hb dX5_far_111 (by decide) ?_
      obtain ⟨q, hf⟩ := zck_use hf
      refine z_iald hC hI 36 23 (wC_e36 ad cy σ1) (tC_t36 cy) q dX5_far_112 ?_
      obtain ⟨σ2, g2, hf⟩ := zbu_use hf
      refine z_callVu (As := [.int s0, .int (zgi σ1 36 (0 : Int32).toNatClampNeg)]) (rest := []) hC hI (cX2_write_met st l D ad cy σ1 s0 (zgi σ1 36 (0 : Int32).toNatClampNeg) _ g2) (zgV zw20_7 zw20_8 zw20_9 zw1_21 zw20_10) rfl ⟨rfl, rfl⟩ 2 hdX2_write ⟨Nat.le_of_ble_eq_true rfl, Nat.le_of_ble_eq_true rfl⟩ rfl rfl (wC_e1 ad cy σ1) rfl hl rfl (Nat.le_of_ble_eq_true rfl) dX5_far_113 ⟨Nat.zero_le _, Nat.zero_le _⟩ (fun H locs hI => ?_)
      refine lv_aload_n hx hb dX5_far_116 rfl (lv_at hl 1 rfl) ?_
      refine z_get hC hI hinX5_far_X50 7 (wC_e7 ad cy σ2) rfl 2 (by decide) (List.mem_cons_of_mem _ zw7_5) rfl dX5_far_117 ?_
      refine lv_bipush (v := 20) hx hb dX5_far_120 (by decide) ?_
      refine lv_aload_n hx hb dX5_far_122 rfl (lv_at hl 1 rfl) ?_
      refine z_get hC hI hinX5_far_X50 7 (wC_e7 ad cy σ2) rfl 2 (by decide) (List.mem_cons_of_mem _ zw7_5) rfl dX5_far_123 ?_
      refine lv_iconst (v := 0) hx hb dX5_far_126 (by decide) ?_
      obtain ⟨q, hf⟩ := zck_use hf
      refine z_iald hC hI 36 23 (wC_e36 ad cy σ2) (tC_t36 cy) q dX5_far_127 ?_
      refine lv_bipush (v := 8) hx hb dX5_far_128 (by decide) ?_
      refine lv_ishl hx hb dX5_far_130 ?_
      refine lv_iload_n hx hb dX5_far_131 rfl (lv_at hl 0 rfl) ?_
      refine lv_iconst (v := 1) hx hb dX5_far_132 (by decide) ?_
      refine lv_iadd hx hb dX5_far_133 ?_
      refine lv_sipush (v := 255) hx hb dX5_far_134 (by decide) ?_
      refine lv_iand hx hb dX5_far_137 ?_
      refine lv_ior hx hb dX5_far_138 ?_
      obtain ⟨q, hf⟩ := zck_use hf
      obtain ⟨σ3, eσ3⟩ : ∃ z, z = zsi σ2 36 ((20 : Int32).toNatClampNeg) (((zgi σ2 36 (0 : Int32).toNatClampNeg) <<< ((8 : Int32) &&& 31)) ||| ((s0 + 1) &&& 255)) := ⟨_, rfl⟩
      replace hf := zbv_use eσ3 hf
      refine z_iast hC hI 36 23 (wC_e36 ad cy σ2) (tC_t36 cy) q ((wC_s36 ad cy σ2 _ _).trans (congrArg (wC ad cy) eσ3.symm)) dX5_far_139 (fun H locs hI => ?_)
      exact bX5_far_140 hC  hI (lv_sub hl [2] rfl) hf
    replace hf := zif_f q hf
    refine lv_aload_n hx hb dX5_far_85 rfl (lv_at hl 1 rfl) ?_
    refine z_get hC hI hinX5_far_X50 7 (wC_e7 ad cy σ1) rfl 2 (by decide) (List.mem_cons_of_mem _ zw7_5) rfl dX5_far_86 ?_
    refine lv_iconst (v := 0) hx hb dX5_far_89 (by decide) ?_
    refine lv_aload_n hx hb dX5_far_90 rfl (lv_at hl 1 rfl) ?_
    refine z_get hC hI hinX5_far_X50 7 (wC_e7 ad cy σ1) rfl 0 (by decide) (List.mem_cons_of_mem _ zw7_8) rfl dX5_far_91 ?_
    refine lv_iload_n hx hb dX5_far_94 rfl (lv_at hl 0 rfl) ?_
    obtain ⟨σ4, v5, g4, hf⟩ := zbi_use hf
    refine z_callVi (As := [.int s0]) (rest := [.int 0, .ref (ad 36)]) hC hI (cX2_read_met st l D ad cy σ1 s0 _ g4) (zgV zw21_6 zw21_7 zw21_8 zw1_21 zw21_9) rfl ⟨rfl, rfl⟩ 1 hdX2_read ⟨Nat.le_of_ble_eq_true rfl, Nat.le_of_ble_eq_true rfl⟩ rfl rfl (wC_e1 ad cy σ1) rfl hl rfl (Nat.le_of_ble_eq_true rfl) dX5_far_95 ⟨Nat.zero_le _, Nat.zero_le _⟩ (fun H locs hI => ?_)
    obtain ⟨q, hf⟩ := zck_use hf
    obtain ⟨σ6, eσ6⟩ : ∃ z, z = zsi σ4 36 ((0 : Int32).toNatClampNeg) v5 := ⟨_, rfl⟩
    replace hf := zbv_use eσ6 hf
    refine z_iast hC hI 36 23 (wC_e36 ad cy σ4) (tC_t36 cy) q ((wC_s36 ad cy σ4 _ _).trans (congrArg (wC ad cy) eσ6.symm)) dX5_far_98 (fun H locs hI => ?_)
    refine lv_goto (tgt := 140) hx hb dX5_far_99 (by decide) ?_
    exact bX5_far_140 hC  hI (lv_sub hl [2] rfl) hf
  replace hf := zif_t q hf
  refine lv_iload_n hx hb dX5_far_53 rfl (lv_at hl 3 rfl) ?_
  refine lv_if_eq (tgt := 69) hx hb dX5_far_54 (by decide) (fun q => ?_) (fun q => ?_)
  · replace hf := zif_t q hf
    refine lv_aload_n hx hb dX5_far_69 rfl (lv_at hl 1 rfl) ?_
    refine lv_iload_n hx hb dX5_far_70 rfl (lv_at hl 0 rfl) ?_
    refine lv_aload_n hx hb dX5_far_71 rfl (lv_at hl 1 rfl) ?_
    obtain ⟨σ7, v8, g7, hf⟩ := zbi_use hf
    refine z_callVi (As := []) (rest := [.int s0, .ref (ad 7)]) hC hI (cX5_hl_met st l D ad cy σ1  _ g7) (zgV zw29_15 zw29_16 zw29_17 zw2_21 zw29_18) rfl ⟨rfl, rfl⟩ 0 hdX5_hl ⟨Nat.le_of_ble_eq_true rfl, Nat.le_of_ble_eq_true rfl⟩ rfl rfl (wC_e7 ad cy σ1) rfl hl rfl (Nat.le_of_ble_eq_true rfl) dX5_far_72 ⟨Nat.zero_le _, Nat.zero_le _⟩ (fun H locs hI => ?_)
    obtain ⟨σ9, g9, hf⟩ := zbu_use hf
    refine z_callVu (As := [.int s0, .int v8]) (rest := []) hC hI (cX5_writeWord_met st l D ad cy σ7 s0 v8 _ g9) (zgV zw30_19 zw30_20 zw30_21 zw2_21 zw30_22) rfl ⟨rfl, rfl⟩ 2 hdX5_writeWord ⟨Nat.le_of_ble_eq_true rfl, Nat.le_of_ble_eq_true rfl⟩ rfl rfl (wC_e7 ad cy σ7) rfl hl rfl (Nat.le_of_ble_eq_true rfl) dX5_far_75 ⟨Nat.zero_le _, Nat.zero_le _⟩ (fun H locs hI => ?_)
    exact bX5_far_78 hC  hI (lv_sub hl [] rfl) hf
  replace hf := zif_f q hf
  refine lv_aload_n hx hb dX5_far_57 rfl (lv_at hl 1 rfl) ?_
  refine lv_aload_n hx hb dX5_far_58 rfl (lv_at hl 1 rfl) ?_
  refine lv_iload_n hx hb dX5_far_59 rfl (lv_at hl 0 rfl) ?_
  obtain ⟨σ10, v11, g10, hf⟩ := zbi_use hf
  refine z_callVi (As := [.int s0]) (rest := [.ref (ad 7)]) hC hI (cX5_readWord_met st l D ad cy σ1 s0 _ g10) (zgV zw21_2 zw21_3 zw21_4 zw2_21 zw21_5) rfl ⟨rfl, rfl⟩ 1 hdX5_readWord ⟨Nat.le_of_ble_eq_true rfl, Nat.le_of_ble_eq_true rfl⟩ rfl rfl (wC_e7 ad cy σ1) rfl hl rfl (Nat.le_of_ble_eq_true rfl) dX5_far_60 ⟨Nat.zero_le _, Nat.zero_le _⟩ (fun H locs hI => ?_)
  obtain ⟨σ12, g12, hf⟩ := zbu_use hf
  refine z_callVu (As := [.int v11]) (rest := []) hC hI (cX5_putHl_met st l D ad cy σ10 v11 _ g12) (zgV zw30_3 zw30_4 zw30_5 zw2_21 zw30_6) rfl ⟨rfl, rfl⟩ 1 hdX5_putHl ⟨Nat.le_of_ble_eq_true rfl, Nat.le_of_ble_eq_true rfl⟩ rfl rfl (wC_e7 ad cy σ10) rfl hl rfl (Nat.le_of_ble_eq_true rfl) dX5_far_63 ⟨Nat.zero_le _, Nat.zero_le _⟩ (fun H locs hI => ?_)
  refine lv_goto (tgt := 78) hx hb dX5_far_66 (by decide) ?_
  exact bX5_far_78 hC  hI (lv_sub hl [] rfl) hf
set_option maxRecDepth 20000 in
set_option maxHeartbeats 4000000 in
theorem bX5_far_12 {st : Nat → Nat} {p : Program} {l : Launch} {e : Env} {s : State} {m : MethodId} {args : Array Value} {below : List Frame} {meth : Method} {c : Code} {D : va_G} {A : Nat → Prop} {ad : Nat → Nat} {cy : Nat → ClassId} (hC : zC p m c cX5_far 4 s args wzX5_far RX5 meth (some .int))  {res : zSt × Int32} {H : Heap} {locs : List Loc} {σ : zSt} {ls : Array Slot} {x1 : Int32} {s0 : Int32} (hI : zI st D (tC cy) (wC ad cy σ) A s H locs) (hl : lv_has ls 4 [(0, .ref (ad 7)), (1, .int x1)]) (hf : fX5_far_12  σ x1 s0 = some res) : W p l e rmX5_far s m args below meth c H locs 0 0 (zQi below args s D (tC cy) (wC ad cy) A res) (F0 m 12 ls [.int s0]) := by
  have hx := hC.1
  have hb := hC.2.1
  unfold fX5_far_12 at hf
  refine lv_istore_n (lv' := [(2, .int s0), (0, .ref (ad 7)), (1, .int x1)]) hx hb dX5_far_12 rfl hl (by decide) rfl (fun ls hl => ?_)
  refine lv_iload_n hx hb dX5_far_13 rfl (lv_at hl 2 rfl) ?_
  refine lv_iconst (v := 4) hx hb dX5_far_14 (by decide) ?_
  refine lv_icmp_ge (tgt := 28) hx hb dX5_far_15 (by decide) (fun q => ?_) (fun q => ?_)
  · replace hf := zif_t q hf
    refine lv_aload_n hx hb dX5_far_28 rfl (lv_at hl 1 rfl) ?_
    obtain ⟨σ13, v14, g13, hf⟩ := zbi_use hf
    refine z_callVi (As := []) (rest := []) hC hI (cX5_fetchWord_met st l D ad cy σ  _ g13) (zgV zw30_15 zw30_16 zw30_17 zw2_21 zw30_18) rfl ⟨rfl, rfl⟩ 0 hdX5_fetchWord ⟨Nat.le_of_ble_eq_true rfl, Nat.le_of_ble_eq_true rfl⟩ rfl rfl (wC_e7 ad cy σ) rfl hl rfl (Nat.le_of_ble_eq_true rfl) dX5_far_29 ⟨Nat.zero_le _, Nat.zero_le _⟩ (fun H locs hI => ?_)
    exact bX5_far_32 hC  hI (lv_sub hl [1, 2, 0] rfl) hf
  replace hf := zif_f q hf
  refine lv_aload_n hx hb dX5_far_18 rfl (lv_at hl 1 rfl) ?_
  refine lv_iload_n hx hb dX5_far_19 rfl (lv_at hl 2 rfl) ?_
  refine lv_iconst (v := 1) hx hb dX5_far_20 (by decide) ?_
  refine lv_ishr hx hb dX5_far_21 ?_
  obtain ⟨σ15, v16, g15, hf⟩ := zbi_use hf
  refine z_callVi (As := [.int (x1 >>> ((1 : Int32) &&& 31))]) (rest := []) hC hI (cX5_pair_met st l D ad cy σ (x1 >>> ((1 : Int32) &&& 31)) _ g15) (zgV zw29_19 zw29_20 zw29_21 zw2_21 zw29_22) rfl ⟨rfl, rfl⟩ 1 hdX5_pair ⟨Nat.le_of_ble_eq_true rfl, Nat.le_of_ble_eq_true rfl⟩ rfl rfl (wC_e7 ad cy σ) rfl hl rfl (Nat.le_of_ble_eq_true rfl) dX5_far_22 ⟨Nat.zero_le _, Nat.zero_le _⟩ (fun H locs hI => ?_)
  refine lv_goto (tgt := 32) hx hb dX5_far_25 (by decide) ?_
  exact bX5_far_32 hC  hI (lv_sub hl [1, 2, 0] rfl) hf
set_option maxRecDepth 20000 in
set_option maxHeartbeats 4000000 in
theorem bX5_far {st : Nat → Nat} {p : Program} {l : Launch} {e : Env} {s : State} {m : MethodId} {args : Array Value} {below : List Frame} {meth : Method} {c : Code} {D : va_G} {A : Nat → Prop} {ad : Nat → Nat} {cy : Nat → ClassId} (hC : zC p m c cX5_far 4 s args wzX5_far RX5 meth (some .int))  {res : zSt × Int32} {H : Heap} {locs : List Loc} {σ : zSt} {ls : Array Slot} {x1 : Int32} (hI : zI st D (tC cy) (wC ad cy σ) A s H locs) (hl : lv_has ls 4 [(0, .ref (ad 7)), (1, .int x1)]) (hf : fX5_far  σ x1 = some res) : W p l e rmX5_far s m args below meth c H locs 0 0 (zQi below args s D (tC cy) (wC ad cy) A res) (F0 m 0 ls []) := by
  have hx := hC.1
  have hb := hC.2.1
  unfold fX5_far at hf
  refine lv_iload_n hx hb dX5_far_0 rfl (lv_at hl 1 rfl) ?_
  refine lv_iconst (v := 1) hx hb dX5_far_1 (by decide) ?_
  refine lv_iand hx hb dX5_far_2 ?_
  refine lv_iconst (v := 1) hx hb dX5_far_3 (by decide) ?_
  refine lv_icmp_ne (tgt := 11) hx hb dX5_far_4 (by decide) (fun q => ?_) (fun q => ?_)
  · replace hf := zif_f q hf
    refine lv_iconst (v := 0) hx hb dX5_far_11 (by decide) ?_
    exact bX5_far_12 hC  hI hl hf
  replace hf := zif_t q hf
  refine lv_iconst (v := 1) hx hb dX5_far_7 (by decide) ?_
  refine lv_goto (tgt := 12) hx hb dX5_far_8 (by decide) ?_
  exact bX5_far_12 hC  hI hl hf
set_option maxRecDepth 20000 in
theorem cX5_far_met (st : Nat → Nat) (l : Launch) (D : va_G) (ad : Nat → Nat) (cy : Nat → ClassId) (σ : zSt) (x1 : Int32) (res : zSt × Int32) (hf : fX5_far σ x1 = some res) (sz : Nat) : zMi st l yX5_far wzX5_far rmX5_far [.ref (ad 7), .int x1] D (tC cy) (wC ad cy) sz σ res :=
  zMi.of (cc := cX5_far) (maxL := 4) (ret := (some .int)) (by decide) rfl (Nat.le_of_ble_eq_true rfl) (fun p e s m args below meth c hC A hI ls hl => bX5_far hC hI hl hf)
theorem hdX5_far : yX5_far.cls = RX5 ∧ yX5_far.cls ≠ "java/lang/invoke/MethodHandle" ∧ yX5_far.cls ≠ "java/lang/invoke/VarHandle" ∧ (parseMethodDescriptor yX5_far.desc).map (fun d => d.parameters.length) = some 1 := by decide +kernel
noncomputable def rmX5_loadPair : Room := { frames := 3, cells := 0, slots := 0, locals := 68 }
noncomputable def wzX5_loadPair : List Cond := .code yX5_loadPair cX5_loadPair 2 (some .int) :: wsL_law
noncomputable def fX5_loadPair  (σ : zSt) (x1 : Int32) : Option (zSt × Int32) :=
  zbi (fX5_fetchWord σ ) (fun σ1 v2 =>
  zbu (fX5_putPair σ1 x1 v2) (fun σ3 =>
  some (σ3, 10)))
set_option maxRecDepth 20000 in
set_option maxHeartbeats 4000000 in
theorem bX5_loadPair {st : Nat → Nat} {p : Program} {l : Launch} {e : Env} {s : State} {m : MethodId} {args : Array Value} {below : List Frame} {meth : Method} {c : Code} {D : va_G} {A : Nat → Prop} {ad : Nat → Nat} {cy : Nat → ClassId} (hC : zC p m c cX5_loadPair 2 s args wzX5_loadPair RX5 meth (some .int))  {res : zSt × Int32} {H : Heap} {locs : List Loc} {σ : zSt} {ls : Array Slot} {x1 : Int32} (hI : zI st D (tC cy) (wC ad cy σ) A s H locs) (hl : lv_has ls 2 [(0, .ref (ad 7)), (1, .int x1)]) (hf : fX5_loadPair  σ x1 = some res) : W p l e rmX5_loadPair s m args below meth c H locs 0 0 (zQi below args s D (tC cy) (wC ad cy) A res) (F0 m 0 ls []) := by
  have hx := hC.1
  have hb := hC.2.1
  unfold fX5_loadPair at hf
  refine lv_aload_n hx hb dX5_loadPair_0 rfl (lv_at hl 0 rfl) ?_
  refine lv_iload_n hx hb dX5_loadPair_1 rfl (lv_at hl 1 rfl) ?_
  refine lv_aload_n hx hb dX5_loadPair_2 rfl (lv_at hl 0 rfl) ?_
  obtain ⟨σ1, v2, g1, hf⟩ := zbi_use hf
  refine z_callVi (As := []) (rest := [.int x1, .ref (ad 7)]) hC hI (cX5_fetchWord_met st l D ad cy σ  _ g1) (zgV zw30_15 zw30_16 zw30_17 zw2_21 zw30_18) rfl ⟨rfl, rfl⟩ 0 hdX5_fetchWord ⟨Nat.le_of_ble_eq_true rfl, Nat.le_of_ble_eq_true rfl⟩ rfl rfl (wC_e7 ad cy σ) rfl hl rfl (Nat.le_of_ble_eq_true rfl) dX5_loadPair_3 ⟨Nat.zero_le _, Nat.zero_le _⟩ (fun H locs hI => ?_)
  obtain ⟨σ3, g3, hf⟩ := zbu_use hf
  refine z_callVu (As := [.int x1, .int v2]) (rest := []) hC hI (cX5_putPair_met st l D ad cy σ1 x1 v2 _ g3) (zgV zw30_23 zw31_0 zw31_1 zw2_21 zw31_2) rfl ⟨rfl, rfl⟩ 2 hdX5_putPair ⟨Nat.le_of_ble_eq_true rfl, Nat.le_of_ble_eq_true rfl⟩ rfl rfl (wC_e7 ad cy σ1) rfl hl rfl (Nat.le_of_ble_eq_true rfl) dX5_loadPair_6 ⟨Nat.zero_le _, Nat.zero_le _⟩ (fun H locs hI => ?_)
  refine lv_bipush (v := 10) hx hb dX5_loadPair_9 (by decide) ?_
  exact z_ireturn hC hI hf dX5_loadPair_11
set_option maxRecDepth 20000 in
theorem cX5_loadPair_met (st : Nat → Nat) (l : Launch) (D : va_G) (ad : Nat → Nat) (cy : Nat → ClassId) (σ : zSt) (x1 : Int32) (res : zSt × Int32) (hf : fX5_loadPair σ x1 = some res) (sz : Nat) : zMi st l yX5_loadPair wzX5_loadPair rmX5_loadPair [.ref (ad 7), .int x1] D (tC cy) (wC ad cy) sz σ res :=
  zMi.of (cc := cX5_loadPair) (maxL := 2) (ret := (some .int)) (by decide) rfl (Nat.le_of_ble_eq_true rfl) (fun p e s m args below meth c hC A hI ls hl => bX5_loadPair hC hI hl hf)
theorem hdX5_loadPair : yX5_loadPair.cls = RX5 ∧ yX5_loadPair.cls ≠ "java/lang/invoke/MethodHandle" ∧ yX5_loadPair.cls ≠ "java/lang/invoke/VarHandle" ∧ (parseMethodDescriptor yX5_loadPair.desc).map (fun d => d.parameters.length) = some 1 := by decide +kernel
noncomputable def rmX5_addPair : Room := { frames := 3, cells := 0, slots := 0, locals := 62 }
noncomputable def wzX5_addPair : List Cond := .code yX5_addPair cX5_addPair 5 (some .int) :: wsL_law
theorem hinX5_addPair_X50 : ∀ w ∈ wsX50, w ∈ wzX5_addPair := fun w h => List.mem_cons_of_mem _ (inlX5 w h)
noncomputable def fX5_addPair  (σ : zSt) (x1 : Int32) : Option (zSt × Int32) :=
  zbi (fX5_hl σ ) (fun σ1 v2 =>
  zbi (fX5_pair σ1 x1) (fun σ3 v4 =>
  zbv (v2 + v4) (fun v5 =>
  zck (zin 20 29) (zbv (zsi σ3 36 ((20 : Int32).toNatClampNeg) ((v2 + 1) &&& 65535)) (fun σ6 =>
  zbu (fX5_putHl σ6 v5) (fun σ7 =>
  zck (zin 1 29) (
  zck (zin 1 29) (zbv (zsi σ7 36 ((1 : Int32).toNatClampNeg) (((((zgi σ7 36 (1 : Int32).toNatClampNeg) &&& 196) ||| ((v5 >>> ((8 : Int32) &&& 31)) &&& 40)) ||| ((((v2 ^^^ v4) ^^^ v5) >>> ((8 : Int32) &&& 31)) &&& 16)) ||| (v5 >>> ((16 : Int32) &&& 31)))) (fun σ8 =>
  some (σ8, 11))))))))))
set_option maxRecDepth 20000 in
set_option maxHeartbeats 4000000 in
theorem bX5_addPair {st : Nat → Nat} {p : Program} {l : Launch} {e : Env} {s : State} {m : MethodId} {args : Array Value} {below : List Frame} {meth : Method} {c : Code} {D : va_G} {A : Nat → Prop} {ad : Nat → Nat} {cy : Nat → ClassId} (hC : zC p m c cX5_addPair 5 s args wzX5_addPair RX5 meth (some .int))  {res : zSt × Int32} {H : Heap} {locs : List Loc} {σ : zSt} {ls : Array Slot} {x1 : Int32} (hI : zI st D (tC cy) (wC ad cy σ) A s H locs) (hl : lv_has ls 5 [(0, .ref (ad 7)), (1, .int x1)]) (hf : fX5_addPair  σ x1 = some res) : W p l e rmX5_addPair s m args below meth c H locs 0 0 (zQi below args s D (tC cy) (wC ad cy) A res) (F0 m 0 ls []) := by
  have hx := hC.1
  have hb := hC.2.1
  unfold fX5_addPair at hf
  refine lv_aload_n hx hb dX5_addPair_0 rfl (lv_at hl 0 rfl) ?_
  obtain ⟨σ1, v2, g1, hf⟩ := zbi_use hf
  refine z_callVi (As := []) (rest := []) hC hI (cX5_hl_met st l D ad cy σ  _ g1) (zgV zw29_15 zw29_16 zw29_17 zw2_21 zw29_18) rfl ⟨rfl, rfl⟩ 0 hdX5_hl ⟨Nat.le_of_ble_eq_true rfl, Nat.le_of_ble_eq_true rfl⟩ rfl rfl (wC_e7 ad cy σ) rfl hl rfl (Nat.le_of_ble_eq_true rfl) dX5_addPair_1 ⟨Nat.zero_le _, Nat.zero_le _⟩ (fun H locs hI => ?_)
  refine lv_istore_n (lv' := [(2, .int v2), (0, .ref (ad 7)), (1, .int x1)]) hx hb dX5_addPair_4 rfl hl (by decide) rfl (fun ls hl => ?_)
  refine lv_aload_n hx hb dX5_addPair_5 rfl (lv_at hl 1 rfl) ?_
  refine lv_iload_n hx hb dX5_addPair_6 rfl (lv_at hl 2 rfl) ?_
  obtain ⟨σ3, v4, g3, hf⟩ := zbi_use hf
  refine z_callVi (As := [.int x1]) (rest := []) hC hI (cX5_pair_met st l D ad cy σ1 x1 _ g3) (zgV zw29_19 zw29_20 zw29_21 zw2_21 zw29_22) rfl ⟨rfl, rfl⟩ 1 hdX5_pair ⟨Nat.le_of_ble_eq_true rfl, Nat.le_of_ble_eq_true rfl⟩ rfl rfl (wC_e7 ad cy σ1) rfl hl rfl (Nat.le_of_ble_eq_true rfl) dX5_addPair_7 ⟨Nat.zero_le _, Nat.zero_le _⟩ (fun H locs hI => ?_)
  refine lv_istore_n (lv' := [(3, .int v4), (2, .int v2), (0, .ref (ad 7)), (1, .int x1)]) hx hb dX5_addPair_10 rfl hl (by decide) rfl (fun ls hl => ?_)
  refine lv_iload_n hx hb dX5_addPair_11 rfl (lv_at hl 1 rfl) ?_
  refine lv_iload_n hx hb dX5_addPair_12 rfl (lv_at hl 0 rfl) ?_
  refine lv_iadd hx hb dX5_addPair_13 ?_
  refine lv_topi (fun v5 ev5 => ?_)
  replace hf := zbv_use ev5 hf
  refine lv_istore (lv' := [(4, .int v5), (3, .int v4), (2, .int v2), (0, .ref (ad 7)), (1, .int x1)]) hx hb dX5_addPair_14 hl (by decide) rfl (fun ls hl => ?_)
  refine lv_aload_n hx hb dX5_addPair_16 rfl (lv_at hl 3 rfl) ?_
  refine z_get hC hI hinX5_addPair_X50 7 (wC_e7 ad cy σ3) rfl 2 (by decide) (List.mem_cons_of_mem _ zw7_5) rfl dX5_addPair_17 ?_
  refine lv_bipush (v := 20) hx hb dX5_addPair_20 (by decide) ?_
  refine lv_iload_n hx hb dX5_addPair_22 rfl (lv_at hl 2 rfl) ?_
  refine lv_iconst (v := 1) hx hb dX5_addPair_23 (by decide) ?_
  refine lv_iadd hx hb dX5_addPair_24 ?_
  refine lv_ldc (v := 65535) hx hb hC.2.2.2.1 (hC.2.2.2.2.1 _ (List.mem_cons_of_mem _ zw20_6)) dX5_addPair_25 ?_
  refine lv_iand hx hb dX5_addPair_27 ?_
  obtain ⟨q, hf⟩ := zck_use hf
  obtain ⟨σ6, eσ6⟩ : ∃ z, z = zsi σ3 36 ((20 : Int32).toNatClampNeg) ((v2 + 1) &&& 65535) := ⟨_, rfl⟩
  replace hf := zbv_use eσ6 hf
  refine z_iast hC hI 36 23 (wC_e36 ad cy σ3) (tC_t36 cy) q ((wC_s36 ad cy σ3 _ _).trans (congrArg (wC ad cy) eσ6.symm)) dX5_addPair_28 (fun H locs hI => ?_)
  refine lv_aload_n hx hb dX5_addPair_29 rfl (lv_at hl 3 rfl) ?_
  refine lv_iload hx hb dX5_addPair_30 (lv_at hl 0 rfl) ?_
  obtain ⟨σ7, g7, hf⟩ := zbu_use hf
  refine z_callVu (As := [.int v5]) (rest := []) hC hI (cX5_putHl_met st l D ad cy σ6 v5 _ g7) (zgV zw30_3 zw30_4 zw30_5 zw2_21 zw30_6) rfl ⟨rfl, rfl⟩ 1 hdX5_putHl ⟨Nat.le_of_ble_eq_true rfl, Nat.le_of_ble_eq_true rfl⟩ rfl rfl (wC_e7 ad cy σ6) rfl hl rfl (Nat.le_of_ble_eq_true rfl) dX5_addPair_32 ⟨Nat.zero_le _, Nat.zero_le _⟩ (fun H locs hI => ?_)
  refine lv_aload_n hx hb dX5_addPair_35 rfl (lv_at hl 3 rfl) ?_
  refine z_get hC hI hinX5_addPair_X50 7 (wC_e7 ad cy σ7) rfl 2 (by decide) (List.mem_cons_of_mem _ zw7_5) rfl dX5_addPair_36 ?_
  refine lv_iconst (v := 1) hx hb dX5_addPair_39 (by decide) ?_
  refine lv_aload_n hx hb dX5_addPair_40 rfl (lv_at hl 3 rfl) ?_
  refine z_get hC hI hinX5_addPair_X50 7 (wC_e7 ad cy σ7) rfl 2 (by decide) (List.mem_cons_of_mem _ zw7_5) rfl dX5_addPair_41 ?_
  refine lv_iconst (v := 1) hx hb dX5_addPair_44 (by decide) ?_
  obtain ⟨q, hf⟩ := zck_use hf
  refine z_iald hC hI 36 23 (wC_e36 ad cy σ7) (tC_t36 cy) q dX5_addPair_45 ?_
  refine lv_sipush (v := 196) hx hb dX5_addPair_46 (by decide) ?_
  refine lv_iand hx hb dX5_addPair_49 ?_
  refine lv_iload hx hb dX5_addPair_50 (lv_at hl 0 rfl) ?_
  refine lv_bipush (v := 8) hx hb dX5_addPair_52 (by decide) ?_
  refine lv_ishr hx hb dX5_addPair_54 ?_
  refine lv_bipush (v := 40) hx hb dX5_addPair_55 (by decide) ?_
  refine lv_iand hx hb dX5_addPair_57 ?_
  refine lv_ior hx hb dX5_addPair_58 ?_
  refine lv_iload_n hx hb dX5_addPair_59 rfl (lv_at hl 2 rfl) ?_
  refine lv_iload_n hx hb dX5_addPair_60 rfl (lv_at hl 1 rfl) ?_
  refine lv_ixor hx hb dX5_addPair_61 ?_
  refine lv_iload hx hb dX5_addPair_62 (lv_at hl 0 rfl) ?_
  refine lv_ixor hx hb dX5_addPair_64 ?_
  refine lv_bipush (v := 8) hx hb dX5_addPair_65 (by decide) ?_
  refine lv_ishr hx hb dX5_addPair_67 ?_
  refine lv_bipush (v := 16) hx hb dX5_addPair_68 (by decide) ?_
  refine lv_iand hx hb dX5_addPair_70 ?_
  refine lv_ior hx hb dX5_addPair_71 ?_
  refine lv_iload hx hb dX5_addPair_72 (lv_at hl 0 rfl) ?_
  refine lv_bipush (v := 16) hx hb dX5_addPair_74 (by decide) ?_
  refine lv_ishr hx hb dX5_addPair_76 ?_
  refine lv_ior hx hb dX5_addPair_77 ?_
  obtain ⟨q, hf⟩ := zck_use hf
  obtain ⟨σ8, eσ8⟩ : ∃ z, z = zsi σ7 36 ((1 : Int32).toNatClampNeg) (((((zgi σ7 36 (1 : Int32).toNatClampNeg) &&& 196) ||| ((v5 >>> ((8 : Int32) &&& 31)) &&& 40)) ||| ((((v2 ^^^ v4) ^^^ v5) >>> ((8 : Int32) &&& 31)) &&& 16)) ||| (v5 >>> ((16 : Int32) &&& 31))) := ⟨_, rfl⟩
  replace hf := zbv_use eσ8 hf
  refine z_iast hC hI 36 23 (wC_e36 ad cy σ7) (tC_t36 cy) q ((wC_s36 ad cy σ7 _ _).trans (congrArg (wC ad cy) eσ8.symm)) dX5_addPair_78 (fun H locs hI => ?_)
  refine lv_bipush (v := 11) hx hb dX5_addPair_79 (by decide) ?_
  exact z_ireturn hC hI hf dX5_addPair_81
set_option maxRecDepth 20000 in
theorem cX5_addPair_met (st : Nat → Nat) (l : Launch) (D : va_G) (ad : Nat → Nat) (cy : Nat → ClassId) (σ : zSt) (x1 : Int32) (res : zSt × Int32) (hf : fX5_addPair σ x1 = some res) (sz : Nat) : zMi st l yX5_addPair wzX5_addPair rmX5_addPair [.ref (ad 7), .int x1] D (tC cy) (wC ad cy) sz σ res :=
  zMi.of (cc := cX5_addPair) (maxL := 5) (ret := (some .int)) (by decide) rfl (Nat.le_of_ble_eq_true rfl) (fun p e s m args below meth c hC A hI ls hl => bX5_addPair hC hI hl hf)
theorem hdX5_addPair : yX5_addPair.cls = RX5 ∧ yX5_addPair.cls ≠ "java/lang/invoke/MethodHandle" ∧ yX5_addPair.cls ≠ "java/lang/invoke/VarHandle" ∧ (parseMethodDescriptor yX5_addPair.desc).map (fun d => d.parameters.length) = some 1 := by decide +kernel
noncomputable def rmX5_near : Room := { frames := 3, cells := 0, slots := 0, locals := 68 }
noncomputable def wzX5_near : List Cond := .code yX5_near cX5_near 4 (some .int) :: wsL_law
theorem hinX5_near_X50 : ∀ w ∈ wsX50, w ∈ wzX5_near := fun w h => List.mem_cons_of_mem _ (inlX5 w h)
noncomputable def fX5_near_20  (σ : zSt)  : Option (zSt × Int32) :=
  some (σ, 4)
noncomputable def fX5_near_133  (σ : zSt) (s0 : Int32) (s1 : Int32) : Option (zSt × Int32) :=
  some (σ, s1 + s0)
noncomputable def fX5_near_123  (σ : zSt) (x1 : Int32) (s0 : Int32) : Option (zSt × Int32) :=
  if x1 = 2 then fX5_near_133 σ 1 s0 else
  fX5_near_133 σ 0 s0
noncomputable def fX5_near_112  (σ : zSt) (x1 : Int32) (x3 : Int32) : Option (zSt × Int32) :=
  if x3 = 0 then fX5_near_123 σ x1 7 else
  fX5_near_123 σ x1 12
noncomputable def fX5_near_92  (σ : zSt) (x1 : Int32) (x2 : Int32) (x3 : Int32) : Option (zSt × Int32) :=
  if x3 = 0 then fX5_near_112 σ x1 x3 else
  zck (zin 19 29) (
  zbu (fX5_goTo σ (((zgi σ 36 (19 : Int32).toNatClampNeg) + x2) &&& 65535)) (fun σ1 =>
  fX5_near_112 σ1 x1 x3))
noncomputable def fX5_near_91  (σ : zSt) (x1 : Int32) (x2 : Int32) (s0 : Int32) : Option (zSt × Int32) :=
  fX5_near_92 σ x1 x2 s0
noncomputable def fX5_near_53  (σ : zSt) (x1 : Int32) (x2 : Int32) (s0 : Int32) : Option (zSt × Int32) :=
  if x1 = 2 then zck (zin 2 29) (
  zck (zin 2 29) (zbv (zsi σ 36 ((2 : Int32).toNatClampNeg) (((zgi σ 36 (2 : Int32).toNatClampNeg) - 1) &&& 255)) (fun σ2 =>
  zck (zin 2 29) (
  if (zgi σ2 36 (2 : Int32).toNatClampNeg) = 0 then fX5_near_91 σ2 x1 x2 0 else
  fX5_near_91 σ2 x1 x2 1)))) else
  fX5_near_92 σ x1 x2 s0
noncomputable def fX5_near_48  (σ : zSt) (x1 : Int32) (x2 : Int32) : Option (zSt × Int32) :=
  fX5_near_53 σ x1 x2 1
noncomputable def fX5_near_52  (σ : zSt) (x1 : Int32) (x2 : Int32) : Option (zSt × Int32) :=
  fX5_near_53 σ x1 x2 0
noncomputable def fX5_near  (σ : zSt) (x1 : Int32) : Option (zSt × Int32) :=
  if 2 ≤ x1 then zbi (fX5_fetch σ ) (fun σ3 v4 =>
  zbv (v4.toInt8.toInt32) (fun v5 =>
  if x1 = 3 then fX5_near_48 σ3 x1 v5 else
  if x1 ≤ 3 then fX5_near_52 σ3 x1 v5 else
  zbi (fX5_holds σ3 (x1 - 4)) (fun σ6 v7 =>
  if v7 = 0 then fX5_near_52 σ6 x1 v5 else
  fX5_near_48 σ6 x1 v5))) else
  if x1 = 1 then zbu (fX5_changeWithOther σ 0) (fun σ8 =>
  zbu (fX5_changeWithOther σ8 1) (fun σ9 =>
  fX5_near_20 σ9)) else
  fX5_near_20 σ
set_option maxRecDepth 20000 in
set_option maxHeartbeats 4000000 in
theorem bX5_near_20 {st : Nat → Nat} {p : Program} {l : Launch} {e : Env} {s : State} {m : MethodId} {args : Array Value} {below : List Frame} {meth : Method} {c : Code} {D : va_G} {A : Nat → Prop} {ad : Nat → Nat} {cy : Nat → ClassId} (hC : zC p m c cX5_near 4 s args wzX5_near RX5 meth (some .int))  {res : zSt × Int32} {H : Heap} {locs : List Loc} {σ : zSt} {ls : Array Slot}  (hI : zI st D (tC cy) (wC ad cy σ) A s H locs) (hl : lv_has ls 4 []) (hf : fX5_near_20  σ  = some res) : W p l e rmX5_near s m args below meth c H locs 0 0 (zQi below args s D (tC cy) (wC ad cy) A res) (F0 m 20 ls []) := by
  have hx := hC.1
  have hb := hC.2.1
  unfold fX5_near_20 at hf
  refine lv_iconst (v := 4) hx hb dX5_near_20 (by decide) ?_
  exact z_ireturn hC hI hf dX5_near_21
set_option maxRecDepth 20000 in
set_option maxHeartbeats 4000000 in
theorem bX5_near_133 {st : Nat → Nat} {p : Program} {l : Launch} {e : Env} {s : State} {m : MethodId} {args : Array Value} {below : List Frame} {meth : Method} {c : Code} {D : va_G} {A : Nat → Prop} {ad : Nat → Nat} {cy : Nat → ClassId} (hC : zC p m c cX5_near 4 s args wzX5_near RX5 meth (some .int))  {res : zSt × Int32} {H : Heap} {locs : List Loc} {σ : zSt} {ls : Array Slot} {s0 : Int32} {s1 : Int32} (hI : zI st D (tC cy) (wC ad cy σ) A s H locs) (hl : lv_has ls 4 []) (hf : fX5_near_133  σ s0 s1 = some res) : W p l e rmX5_near s m args below meth c H locs 0 0 (zQi below args s D (tC cy) (wC ad cy) A res) (F0 m 133 ls [.int s0, .int s1]) := by
  have hx := hC.1
  have hb := hC.2.1
  unfold fX5_near_133 at hf
  refine lv_iadd hx hb dX5_near_133 ?_
  exact z_ireturn hC hI hf dX5_near_134
set_option maxRecDepth 20000 in
set_option maxHeartbeats 4000000 in
theorem bX5_near_123 {st : Nat → Nat} {p : Program} {l : Launch} {e : Env} {s : State} {m : MethodId} {args : Array Value} {below : List Frame} {meth : Method} {c : Code} {D : va_G} {A : Nat → Prop} {ad : Nat → Nat} {cy : Nat → ClassId} (hC : zC p m c cX5_near 4 s args wzX5_near RX5 meth (some .int))  {res : zSt × Int32} {H : Heap} {locs : List Loc} {σ : zSt} {ls : Array Slot} {x1 : Int32} {s0 : Int32} (hI : zI st D (tC cy) (wC ad cy σ) A s H locs) (hl : lv_has ls 4 [(1, .int x1)]) (hf : fX5_near_123  σ x1 s0 = some res) : W p l e rmX5_near s m args below meth c H locs 0 0 (zQi below args s D (tC cy) (wC ad cy) A res) (F0 m 123 ls [.int s0]) := by
  have hx := hC.1
  have hb := hC.2.1
  unfold fX5_near_123 at hf
  refine lv_iload_n hx hb dX5_near_123 rfl (lv_at hl 0 rfl) ?_
  refine lv_iconst (v := 2) hx hb dX5_near_124 (by decide) ?_
  refine lv_icmp_ne (tgt := 132) hx hb dX5_near_125 (by decide) (fun q => ?_) (fun q => ?_)
  · replace hf := zif_f q hf
    refine lv_iconst (v := 0) hx hb dX5_near_132 (by decide) ?_
    exact bX5_near_133 hC  hI (lv_sub hl [] rfl) hf
  replace hf := zif_t q hf
  refine lv_iconst (v := 1) hx hb dX5_near_128 (by decide) ?_
  refine lv_goto (tgt := 133) hx hb dX5_near_129 (by decide) ?_
  exact bX5_near_133 hC  hI (lv_sub hl [] rfl) hf
set_option maxRecDepth 20000 in
set_option maxHeartbeats 4000000 in
theorem bX5_near_112 {st : Nat → Nat} {p : Program} {l : Launch} {e : Env} {s : State} {m : MethodId} {args : Array Value} {below : List Frame} {meth : Method} {c : Code} {D : va_G} {A : Nat → Prop} {ad : Nat → Nat} {cy : Nat → ClassId} (hC : zC p m c cX5_near 4 s args wzX5_near RX5 meth (some .int))  {res : zSt × Int32} {H : Heap} {locs : List Loc} {σ : zSt} {ls : Array Slot} {x1 : Int32} {x3 : Int32} (hI : zI st D (tC cy) (wC ad cy σ) A s H locs) (hl : lv_has ls 4 [(1, .int x1), (3, .int x3)]) (hf : fX5_near_112  σ x1 x3 = some res) : W p l e rmX5_near s m args below meth c H locs 0 0 (zQi below args s D (tC cy) (wC ad cy) A res) (F0 m 112 ls []) := by
  have hx := hC.1
  have hb := hC.2.1
  unfold fX5_near_112 at hf
  refine lv_iload_n hx hb dX5_near_112 rfl (lv_at hl 1 rfl) ?_
  refine lv_if_eq (tgt := 121) hx hb dX5_near_113 (by decide) (fun q => ?_) (fun q => ?_)
  · replace hf := zif_t q hf
    refine lv_bipush (v := 7) hx hb dX5_near_121 (by decide) ?_
    exact bX5_near_123 hC  hI (lv_sub hl [0] rfl) hf
  replace hf := zif_f q hf
  refine lv_bipush (v := 12) hx hb dX5_near_116 (by decide) ?_
  refine lv_goto (tgt := 123) hx hb dX5_near_118 (by decide) ?_
  exact bX5_near_123 hC  hI (lv_sub hl [0] rfl) hf
set_option maxRecDepth 20000 in
set_option maxHeartbeats 4000000 in
theorem bX5_near_92 {st : Nat → Nat} {p : Program} {l : Launch} {e : Env} {s : State} {m : MethodId} {args : Array Value} {below : List Frame} {meth : Method} {c : Code} {D : va_G} {A : Nat → Prop} {ad : Nat → Nat} {cy : Nat → ClassId} (hC : zC p m c cX5_near 4 s args wzX5_near RX5 meth (some .int))  {res : zSt × Int32} {H : Heap} {locs : List Loc} {σ : zSt} {ls : Array Slot} {x1 : Int32} {x2 : Int32} {x3 : Int32} (hI : zI st D (tC cy) (wC ad cy σ) A s H locs) (hl : lv_has ls 4 [(0, .ref (ad 7)), (1, .int x1), (2, .int x2), (3, .int x3)]) (hf : fX5_near_92  σ x1 x2 x3 = some res) : W p l e rmX5_near s m args below meth c H locs 0 0 (zQi below args s D (tC cy) (wC ad cy) A res) (F0 m 92 ls []) := by
  have hx := hC.1
  have hb := hC.2.1
  unfold fX5_near_92 at hf
  refine lv_iload_n hx hb dX5_near_92 rfl (lv_at hl 3 rfl) ?_
  refine lv_if_eq (tgt := 112) hx hb dX5_near_93 (by decide) (fun q => ?_) (fun q => ?_)
  · replace hf := zif_t q hf
    exact bX5_near_112 hC  hI (lv_sub hl [1, 3] rfl) hf
  replace hf := zif_f q hf
  refine lv_aload_n hx hb dX5_near_96 rfl (lv_at hl 0 rfl) ?_
  refine lv_aload_n hx hb dX5_near_97 rfl (lv_at hl 0 rfl) ?_
  refine z_get hC hI hinX5_near_X50 7 (wC_e7 ad cy σ) rfl 2 (by decide) (List.mem_cons_of_mem _ zw7_5) rfl dX5_near_98 ?_
  refine lv_bipush (v := 19) hx hb dX5_near_101 (by decide) ?_
  obtain ⟨q, hf⟩ := zck_use hf
  refine z_iald hC hI 36 23 (wC_e36 ad cy σ) (tC_t36 cy) q dX5_near_103 ?_
  refine lv_iload_n hx hb dX5_near_104 rfl (lv_at hl 2 rfl) ?_
  refine lv_iadd hx hb dX5_near_105 ?_
  refine lv_ldc (v := 65535) hx hb hC.2.2.2.1 (hC.2.2.2.2.1 _ (List.mem_cons_of_mem _ zw20_6)) dX5_near_106 ?_
  refine lv_iand hx hb dX5_near_108 ?_
  obtain ⟨σ1, g1, hf⟩ := zbu_use hf
  refine z_callVu (As := [.int (((zgi σ 36 (19 : Int32).toNatClampNeg) + x2) &&& 65535)]) (rest := []) hC hI (cX5_goTo_met st l D ad cy σ (((zgi σ 36 (19 : Int32).toNatClampNeg) + x2) &&& 65535) _ g1) (zgV zw20_22 zw20_23 zw21_0 zw2_21 zw21_1) rfl ⟨rfl, rfl⟩ 1 hdX5_goTo ⟨Nat.le_of_ble_eq_true rfl, Nat.le_of_ble_eq_true rfl⟩ rfl rfl (wC_e7 ad cy σ) rfl hl rfl (Nat.le_of_ble_eq_true rfl) dX5_near_109 ⟨Nat.zero_le _, Nat.zero_le _⟩ (fun H locs hI => ?_)
  exact bX5_near_112 hC  hI (lv_sub hl [1, 3] rfl) hf
set_option maxRecDepth 20000 in
set_option maxHeartbeats 4000000 in
theorem bX5_near_91 {st : Nat → Nat} {p : Program} {l : Launch} {e : Env} {s : State} {m : MethodId} {args : Array Value} {below : List Frame} {meth : Method} {c : Code} {D : va_G} {A : Nat → Prop} {ad : Nat → Nat} {cy : Nat → ClassId} (hC : zC p m c cX5_near 4 s args wzX5_near RX5 meth (some .int))  {res : zSt × Int32} {H : Heap} {locs : List Loc} {σ : zSt} {ls : Array Slot} {x1 : Int32} {x2 : Int32} {s0 : Int32} (hI : zI st D (tC cy) (wC ad cy σ) A s H locs) (hl : lv_has ls 4 [(0, .ref (ad 7)), (1, .int x1), (2, .int x2)]) (hf : fX5_near_91  σ x1 x2 s0 = some res) : W p l e rmX5_near s m args below meth c H locs 0 0 (zQi below args s D (tC cy) (wC ad cy) A res) (F0 m 91 ls [.int s0]) := by
  have hx := hC.1
  have hb := hC.2.1
  unfold fX5_near_91 at hf
  refine lv_istore_n (lv' := [(3, .int s0), (0, .ref (ad 7)), (1, .int x1), (2, .int x2)]) hx hb dX5_near_91 rfl hl (by decide) rfl (fun ls hl => ?_)
  exact bX5_near_92 hC  hI (lv_sub hl [1, 2, 3, 0] rfl) hf
set_option maxRecDepth 20000 in
set_option maxHeartbeats 4000000 in
theorem bX5_near_53 {st : Nat → Nat} {p : Program} {l : Launch} {e : Env} {s : State} {m : MethodId} {args : Array Value} {below : List Frame} {meth : Method} {c : Code} {D : va_G} {A : Nat → Prop} {ad : Nat → Nat} {cy : Nat → ClassId} (hC : zC p m c cX5_near 4 s args wzX5_near RX5 meth (some .int))  {res : zSt × Int32} {H : Heap} {locs : List Loc} {σ : zSt} {ls : Array Slot} {x1 : Int32} {x2 : Int32} {s0 : Int32} (hI : zI st D (tC cy) (wC ad cy σ) A s H locs) (hl : lv_has ls 4 [(0, .ref (ad 7)), (1, .int x1), (2, .int x2)]) (hf : fX5_near_53  σ x1 x2 s0 = some res) : W p l e rmX5_near s m args below meth c H locs 0 0 (zQi below args s D (tC cy) (wC ad cy) A res) (F0 m 53 ls [.int s0]) := by
  have hx := hC.1
  have hb := hC.2.1
  unfold fX5_near_53 at hf
  refine lv_istore_n (lv' := [(3, .int s0), (0, .ref (ad 7)), (1, .int x1), (2, .int x2)]) hx hb dX5_near_53 rfl hl (by decide) rfl (fun ls hl => ?_)
  refine lv_iload_n hx hb dX5_near_54 rfl (lv_at hl 2 rfl) ?_
  refine lv_iconst (v := 2) hx hb dX5_near_55 (by decide) ?_
  refine lv_icmp_ne (tgt := 92) hx hb dX5_near_56 (by decide) (fun q => ?_) (fun q => ?_)
  · replace hf := zif_f q hf
    exact bX5_near_92 hC  hI (lv_sub hl [1, 2, 3, 0] rfl) hf
  replace hf := zif_t q hf
  refine lv_aload_n hx hb dX5_near_59 rfl (lv_at hl 1 rfl) ?_
  refine z_get hC hI hinX5_near_X50 7 (wC_e7 ad cy σ) rfl 2 (by decide) (List.mem_cons_of_mem _ zw7_5) rfl dX5_near_60 ?_
  refine lv_iconst (v := 2) hx hb dX5_near_63 (by decide) ?_
  refine lv_aload_n hx hb dX5_near_64 rfl (lv_at hl 1 rfl) ?_
  refine z_get hC hI hinX5_near_X50 7 (wC_e7 ad cy σ) rfl 2 (by decide) (List.mem_cons_of_mem _ zw7_5) rfl dX5_near_65 ?_
  refine lv_iconst (v := 2) hx hb dX5_near_68 (by decide) ?_
  obtain ⟨q, hf⟩ := zck_use hf
  refine z_iald hC hI 36 23 (wC_e36 ad cy σ) (tC_t36 cy) q dX5_near_69 ?_
  refine lv_iconst (v := 1) hx hb dX5_near_70 (by decide) ?_
  refine lv_isub hx hb dX5_near_71 ?_
  refine lv_sipush (v := 255) hx hb dX5_near_72 (by decide) ?_
  refine lv_iand hx hb dX5_near_75 ?_
  obtain ⟨q, hf⟩ := zck_use hf
  obtain ⟨σ2, eσ2⟩ : ∃ z, z = zsi σ 36 ((2 : Int32).toNatClampNeg) (((zgi σ 36 (2 : Int32).toNatClampNeg) - 1) &&& 255) := ⟨_, rfl⟩
  replace hf := zbv_use eσ2 hf
  refine z_iast hC hI 36 23 (wC_e36 ad cy σ) (tC_t36 cy) q ((wC_s36 ad cy σ _ _).trans (congrArg (wC ad cy) eσ2.symm)) dX5_near_76 (fun H locs hI => ?_)
  refine lv_aload_n hx hb dX5_near_77 rfl (lv_at hl 1 rfl) ?_
  refine z_get hC hI hinX5_near_X50 7 (wC_e7 ad cy σ2) rfl 2 (by decide) (List.mem_cons_of_mem _ zw7_5) rfl dX5_near_78 ?_
  refine lv_iconst (v := 2) hx hb dX5_near_81 (by decide) ?_
  obtain ⟨q, hf⟩ := zck_use hf
  refine z_iald hC hI 36 23 (wC_e36 ad cy σ2) (tC_t36 cy) q dX5_near_82 ?_
  refine lv_if_eq (tgt := 90) hx hb dX5_near_83 (by decide) (fun q => ?_) (fun q => ?_)
  · replace hf := zif_t q hf
    refine lv_iconst (v := 0) hx hb dX5_near_90 (by decide) ?_
    exact bX5_near_91 hC  hI (lv_sub hl [1, 2, 3] rfl) hf
  replace hf := zif_f q hf
  refine lv_iconst (v := 1) hx hb dX5_near_86 (by decide) ?_
  refine lv_goto (tgt := 91) hx hb dX5_near_87 (by decide) ?_
  exact bX5_near_91 hC  hI (lv_sub hl [1, 2, 3] rfl) hf
set_option maxRecDepth 20000 in
set_option maxHeartbeats 4000000 in
theorem bX5_near_48 {st : Nat → Nat} {p : Program} {l : Launch} {e : Env} {s : State} {m : MethodId} {args : Array Value} {below : List Frame} {meth : Method} {c : Code} {D : va_G} {A : Nat → Prop} {ad : Nat → Nat} {cy : Nat → ClassId} (hC : zC p m c cX5_near 4 s args wzX5_near RX5 meth (some .int))  {res : zSt × Int32} {H : Heap} {locs : List Loc} {σ : zSt} {ls : Array Slot} {x1 : Int32} {x2 : Int32} (hI : zI st D (tC cy) (wC ad cy σ) A s H locs) (hl : lv_has ls 4 [(0, .ref (ad 7)), (1, .int x1), (2, .int x2)]) (hf : fX5_near_48  σ x1 x2 = some res) : W p l e rmX5_near s m args below meth c H locs 0 0 (zQi below args s D (tC cy) (wC ad cy) A res) (F0 m 48 ls []) := by
  have hx := hC.1
  have hb := hC.2.1
  unfold fX5_near_48 at hf
  refine lv_iconst (v := 1) hx hb dX5_near_48 (by decide) ?_
  refine lv_goto (tgt := 53) hx hb dX5_near_49 (by decide) ?_
  exact bX5_near_53 hC  hI hl hf
set_option maxRecDepth 20000 in
set_option maxHeartbeats 4000000 in
theorem bX5_near_52 {st : Nat → Nat} {p : Program} {l : Launch} {e : Env} {s : State} {m : MethodId} {args : Array Value} {below : List Frame} {meth : Method} {c : Code} {D : va_G} {A : Nat → Prop} {ad : Nat → Nat} {cy : Nat → ClassId} (hC : zC p m c cX5_near 4 s args wzX5_near RX5 meth (some .int))  {res : zSt × Int32} {H : Heap} {locs : List Loc} {σ : zSt} {ls : Array Slot} {x1 : Int32} {x2 : Int32} (hI : zI st D (tC cy) (wC ad cy σ) A s H locs) (hl : lv_has ls 4 [(0, .ref (ad 7)), (1, .int x1), (2, .int x2)]) (hf : fX5_near_52  σ x1 x2 = some res) : W p l e rmX5_near s m args below meth c H locs 0 0 (zQi below args s D (tC cy) (wC ad cy) A res) (F0 m 52 ls []) := by
  have hx := hC.1
  have hb := hC.2.1
  unfold fX5_near_52 at hf
  refine lv_iconst (v := 0) hx hb dX5_near_52 (by decide) ?_
  exact bX5_near_53 hC  hI hl hf
set_option maxRecDepth 20000 in
set_option maxHeartbeats 4000000 in
theorem bX5_near {st : Nat → Nat} {p : Program} {l : Launch} {e : Env} {s : State} {m : MethodId} {args : Array Value} {below : List Frame} {meth : Method} {c : Code} {D : va_G} {A : Nat → Prop} {ad : Nat → Nat} {cy : Nat → ClassId} (hC : zC p m c cX5_near 4 s args wzX5_near RX5 meth (some .int))  {res : zSt × Int32} {H : Heap} {locs : List Loc} {σ : zSt} {ls : Array Slot} {x1 : Int32} (hI : zI st D (tC cy) (wC ad cy σ) A s H locs) (hl : lv_has ls 4 [(0, .ref (ad 7)), (1, .int x1)]) (hf : fX5_near  σ x1 = some res) : W p l e rmX5_near s m args below meth c H locs 0 0 (zQi below args s D (tC cy) (wC ad cy) A res) (F0 m 0 ls []) := by
  have hx := hC.1
  have hb := hC.2.1
  unfold fX5_near at hf
  refine lv_iload_n hx hb dX5_near_0 rfl (lv_at hl 1 rfl) ?_
  refine lv_iconst (v := 2) hx hb dX5_near_1 (by decide) ?_
  refine lv_icmp_ge (tgt := 22) hx hb dX5_near_2 (by decide) (fun q => ?_) (fun q => ?_)
  · replace hf := zif_t q hf
    refine lv_aload_n hx hb dX5_near_22 rfl (lv_at hl 0 rfl) ?_
    obtain ⟨σ3, v4, g3, hf⟩ := zbi_use hf
    refine z_callVi (As := []) (rest := []) hC hI (cX5_fetch_met st l D ad cy σ  _ g3) (zgV zw21_23 zw22_0 zw22_1 zw2_21 zw22_2) rfl ⟨rfl, rfl⟩ 0 hdX5_fetch ⟨Nat.le_of_ble_eq_true rfl, Nat.le_of_ble_eq_true rfl⟩ rfl rfl (wC_e7 ad cy σ) rfl hl rfl (Nat.le_of_ble_eq_true rfl) dX5_near_23 ⟨Nat.zero_le _, Nat.zero_le _⟩ (fun H locs hI => ?_)
    refine lv_i2b (v := v4.toInt8.toInt32) hx hb dX5_near_26 rfl ?_
    refine lv_topi (fun v5 ev5 => ?_)
    replace hf := zbv_use ev5 hf
    refine lv_istore_n (lv' := [(2, .int v5), (0, .ref (ad 7)), (1, .int x1)]) hx hb dX5_near_27 rfl hl (by decide) rfl (fun ls hl => ?_)
    refine lv_iload_n hx hb dX5_near_28 rfl (lv_at hl 2 rfl) ?_
    refine lv_iconst (v := 3) hx hb dX5_near_29 (by decide) ?_
    refine lv_icmp_eq (tgt := 48) hx hb dX5_near_30 (by decide) (fun q => ?_) (fun q => ?_)
    · replace hf := zif_t q hf
      exact bX5_near_48 hC  hI (lv_sub hl [1, 2, 0] rfl) hf
    replace hf := zif_f q hf
    refine lv_iload_n hx hb dX5_near_33 rfl (lv_at hl 2 rfl) ?_
    refine lv_iconst (v := 3) hx hb dX5_near_34 (by decide) ?_
    refine lv_icmp_le (tgt := 52) hx hb dX5_near_35 (by decide) (fun q => ?_) (fun q => ?_)
    · replace hf := zif_t q hf
      exact bX5_near_52 hC  hI (lv_sub hl [1, 2, 0] rfl) hf
    replace hf := zif_f q hf
    refine lv_aload_n hx hb dX5_near_38 rfl (lv_at hl 1 rfl) ?_
    refine lv_iload_n hx hb dX5_near_39 rfl (lv_at hl 2 rfl) ?_
    refine lv_iconst (v := 4) hx hb dX5_near_40 (by decide) ?_
    refine lv_isub hx hb dX5_near_41 ?_
    obtain ⟨σ6, v7, g6, hf⟩ := zbi_use hf
    refine z_callVi (As := [.int (x1 - 4)]) (rest := []) hC hI (cX5_holds_met st l D ad cy σ3 (x1 - 4) _ g6) (zgV zw32_7 zw32_8 zw32_9 zw2_21 zw32_10) rfl ⟨rfl, rfl⟩ 1 hdX5_holds ⟨Nat.le_of_ble_eq_true rfl, Nat.le_of_ble_eq_true rfl⟩ rfl rfl (wC_e7 ad cy σ3) rfl hl rfl (Nat.le_of_ble_eq_true rfl) dX5_near_42 ⟨Nat.zero_le _, Nat.zero_le _⟩ (fun H locs hI => ?_)
    refine lv_if_eq (tgt := 52) hx hb dX5_near_45 (by decide) (fun q => ?_) (fun q => ?_)
    · replace hf := zif_t q hf
      exact bX5_near_52 hC  hI (lv_sub hl [1, 2, 0] rfl) hf
    replace hf := zif_f q hf
    exact bX5_near_48 hC  hI (lv_sub hl [1, 2, 0] rfl) hf
  replace hf := zif_f q hf
  refine lv_iload_n hx hb dX5_near_5 rfl (lv_at hl 1 rfl) ?_
  refine lv_iconst (v := 1) hx hb dX5_near_6 (by decide) ?_
  refine lv_icmp_ne (tgt := 20) hx hb dX5_near_7 (by decide) (fun q => ?_) (fun q => ?_)
  · replace hf := zif_f q hf
    exact bX5_near_20 hC  hI (lv_sub hl [] rfl) hf
  replace hf := zif_t q hf
  refine lv_aload_n hx hb dX5_near_10 rfl (lv_at hl 0 rfl) ?_
  refine lv_iconst (v := 0) hx hb dX5_near_11 (by decide) ?_
  obtain ⟨σ8, g8, hf⟩ := zbu_use hf
  refine z_callVu (As := [.int 0]) (rest := []) hC hI (cX5_changeWithOther_met st l D ad cy σ 0 _ g8) (zgV zw32_3 zw32_4 zw32_5 zw2_21 zw32_6) rfl ⟨rfl, rfl⟩ 1 hdX5_changeWithOther ⟨Nat.le_of_ble_eq_true rfl, Nat.le_of_ble_eq_true rfl⟩ rfl rfl (wC_e7 ad cy σ) rfl hl rfl (Nat.le_of_ble_eq_true rfl) dX5_near_12 ⟨Nat.zero_le _, Nat.zero_le _⟩ (fun H locs hI => ?_)
  refine lv_aload_n hx hb dX5_near_15 rfl (lv_at hl 0 rfl) ?_
  refine lv_iconst (v := 1) hx hb dX5_near_16 (by decide) ?_
  obtain ⟨σ9, g9, hf⟩ := zbu_use hf
  refine z_callVu (As := [.int 1]) (rest := []) hC hI (cX5_changeWithOther_met st l D ad cy σ8 1 _ g9) (zgV zw32_3 zw32_4 zw32_5 zw2_21 zw32_6) rfl ⟨rfl, rfl⟩ 1 hdX5_changeWithOther ⟨Nat.le_of_ble_eq_true rfl, Nat.le_of_ble_eq_true rfl⟩ rfl rfl (wC_e7 ad cy σ8) rfl hl rfl (Nat.le_of_ble_eq_true rfl) dX5_near_17 ⟨Nat.zero_le _, Nat.zero_le _⟩ (fun H locs hI => ?_)
  exact bX5_near_20 hC  hI (lv_sub hl [] rfl) hf
set_option maxRecDepth 20000 in
theorem cX5_near_met (st : Nat → Nat) (l : Launch) (D : va_G) (ad : Nat → Nat) (cy : Nat → ClassId) (σ : zSt) (x1 : Int32) (res : zSt × Int32) (hf : fX5_near σ x1 = some res) (sz : Nat) : zMi st l yX5_near wzX5_near rmX5_near [.ref (ad 7), .int x1] D (tC cy) (wC ad cy) sz σ res :=
  zMi.of (cc := cX5_near) (maxL := 4) (ret := (some .int)) (by decide) rfl (Nat.le_of_ble_eq_true rfl) (fun p e s m args below meth c hC A hI ls hl => bX5_near hC hI hl hf)
theorem hdX5_near : yX5_near.cls = RX5 ∧ yX5_near.cls ≠ "java/lang/invoke/MethodHandle" ∧ yX5_near.cls ≠ "java/lang/invoke/VarHandle" ∧ (parseMethodDescriptor yX5_near.desc).map (fun d => d.parameters.length) = some 1 := by decide +kernel
noncomputable def rmX5_firstQuarter : Room := { frames := 4, cells := 0, slots := 0, locals := 91 }
noncomputable def wzX5_firstQuarter : List Cond := .code yX5_firstQuarter cX5_firstQuarter 3 (some .int) :: wsL_law
noncomputable def fX5_firstQuarter_193  (σ : zSt) (s0 : Int32) : Option (zSt × Int32) :=
  some (σ, s0)
noncomputable def fX5_firstQuarter_170  (σ : zSt) (s0 : Int32) : Option (zSt × Int32) :=
  some (σ, s0)
noncomputable def fX5_firstQuarter_143  (σ : zSt) (s0 : Int32) : Option (zSt × Int32) :=
  some (σ, s0)
noncomputable def fX5_firstQuarter_110  (σ : zSt) (s0 : Int32) (s1 : Int32) (s2 : Int32) : Option (zSt × Int32) :=
  zbu (fX5_putPair σ s2 (s1 + s0)) (fun σ1 =>
  some (σ1, 6))
noncomputable def fX5_firstQuarter_81  (σ : zSt) (s0 : Int32) : Option (zSt × Int32) :=
  some (σ, s0)
noncomputable def fX5_firstQuarter  (σ : zSt) (x1 : Int32) : Option (zSt × Int32) :=
  zbv ((x1 >>> ((3 : Int32) &&& 31)) &&& 7) (fun v2 =>
  if (x1 &&& 7) = 0 then zbi (fX5_near σ v2) (fun σ3 v4 =>
  some (σ3, v4)) else
  if (x1 &&& 7) = 1 then if (v2 &&& 1) = 0 then zbi (fX5_loadPair σ (v2 >>> ((1 : Int32) &&& 31))) (fun σ7 v8 =>
  fX5_firstQuarter_81 σ7 v8) else
  zbi (fX5_addPair σ (v2 >>> ((1 : Int32) &&& 31))) (fun σ5 v6 =>
  fX5_firstQuarter_81 σ5 v6) else
  if (x1 &&& 7) = 2 then zbi (fX5_far σ v2) (fun σ9 v10 =>
  some (σ9, v10)) else
  if (x1 &&& 7) = 3 then zbi (fX5_pair σ (v2 >>> ((1 : Int32) &&& 31))) (fun σ11 v12 =>
  if (v2 &&& 1) = 0 then fX5_firstQuarter_110 σ11 1 v12 (v2 >>> ((1 : Int32) &&& 31)) else
  fX5_firstQuarter_110 σ11 (-1) v12 (v2 >>> ((1 : Int32) &&& 31))) else
  if (x1 &&& 7) = 4 then zbi (fX5_one σ v2) (fun σ13 v14 =>
  zbi (fX5_oneMore σ13 v14) (fun σ15 v16 =>
  zbu (fX5_putOne σ15 v2 v16) (fun σ17 =>
  if v2 = 6 then fX5_firstQuarter_143 σ17 11 else
  fX5_firstQuarter_143 σ17 4))) else
  if (x1 &&& 7) = 5 then zbi (fX5_one σ v2) (fun σ18 v19 =>
  zbi (fX5_oneLess σ18 v19) (fun σ20 v21 =>
  zbu (fX5_putOne σ20 v2 v21) (fun σ22 =>
  if v2 = 6 then fX5_firstQuarter_170 σ22 11 else
  fX5_firstQuarter_170 σ22 4))) else
  if (x1 &&& 7) = 6 then zbi (fX5_fetch σ ) (fun σ23 v24 =>
  zbu (fX5_putOne σ23 v2 v24) (fun σ25 =>
  if v2 = 6 then fX5_firstQuarter_193 σ25 10 else
  fX5_firstQuarter_193 σ25 7)) else
  zbu (fX5_changeA σ v2) (fun σ26 =>
  some (σ26, 4)))
set_option maxRecDepth 20000 in
set_option maxHeartbeats 4000000 in
theorem bX5_firstQuarter_193 {st : Nat → Nat} {p : Program} {l : Launch} {e : Env} {s : State} {m : MethodId} {args : Array Value} {below : List Frame} {meth : Method} {c : Code} {D : va_G} {A : Nat → Prop} {ad : Nat → Nat} {cy : Nat → ClassId} (hC : zC p m c cX5_firstQuarter 3 s args wzX5_firstQuarter RX5 meth (some .int))  {res : zSt × Int32} {H : Heap} {locs : List Loc} {σ : zSt} {ls : Array Slot} {s0 : Int32} (hI : zI st D (tC cy) (wC ad cy σ) A s H locs) (hl : lv_has ls 3 []) (hf : fX5_firstQuarter_193  σ s0 = some res) : W p l e rmX5_firstQuarter s m args below meth c H locs 0 0 (zQi below args s D (tC cy) (wC ad cy) A res) (F0 m 193 ls [.int s0]) := by
  have hx := hC.1
  have hb := hC.2.1
  unfold fX5_firstQuarter_193 at hf
  exact z_ireturn hC hI hf dX5_firstQuarter_193
set_option maxRecDepth 20000 in
set_option maxHeartbeats 4000000 in
theorem bX5_firstQuarter_170 {st : Nat → Nat} {p : Program} {l : Launch} {e : Env} {s : State} {m : MethodId} {args : Array Value} {below : List Frame} {meth : Method} {c : Code} {D : va_G} {A : Nat → Prop} {ad : Nat → Nat} {cy : Nat → ClassId} (hC : zC p m c cX5_firstQuarter 3 s args wzX5_firstQuarter RX5 meth (some .int))  {res : zSt × Int32} {H : Heap} {locs : List Loc} {σ : zSt} {ls : Array Slot} {s0 : Int32} (hI : zI st D (tC cy) (wC ad cy σ) A s H locs) (hl : lv_has ls 3 []) (hf : fX5_firstQuarter_170  σ s0 = some res) : W p l e rmX5_firstQuarter s m args below meth c H locs 0 0 (zQi below args s D (tC cy) (wC ad cy) A res) (F0 m 170 ls [.int s0]) := by
  have hx := hC.1
  have hb := hC.2.1
  unfold fX5_firstQuarter_170 at hf
  exact z_ireturn hC hI hf dX5_firstQuarter_170
set_option maxRecDepth 20000 in
set_option maxHeartbeats 4000000 in
theorem bX5_firstQuarter_143 {st : Nat → Nat} {p : Program} {l : Launch} {e : Env} {s : State} {m : MethodId} {args : Array Value} {below : List Frame} {meth : Method} {c : Code} {D : va_G} {A : Nat → Prop} {ad : Nat → Nat} {cy : Nat → ClassId} (hC : zC p m c cX5_firstQuarter 3 s args wzX5_firstQuarter RX5 meth (some .int))  {res : zSt × Int32} {H : Heap} {locs : List Loc} {σ : zSt} {ls : Array Slot} {s0 : Int32} (hI : zI st D (tC cy) (wC ad cy σ) A s H locs) (hl : lv_has ls 3 []) (hf : fX5_firstQuarter_143  σ s0 = some res) : W p l e rmX5_firstQuarter s m args below meth c H locs 0 0 (zQi below args s D (tC cy) (wC ad cy) A res) (F0 m 143 ls [.int s0]) := by
  have hx := hC.1
  have hb := hC.2.1
  unfold fX5_firstQuarter_143 at hf
  exact z_ireturn hC hI hf dX5_firstQuarter_143
set_option maxRecDepth 20000 in
set_option maxHeartbeats 4000000 in
theorem bX5_firstQuarter_110 {st : Nat → Nat} {p : Program} {l : Launch} {e : Env} {s : State} {m : MethodId} {args : Array Value} {below : List Frame} {meth : Method} {c : Code} {D : va_G} {A : Nat → Prop} {ad : Nat → Nat} {cy : Nat → ClassId} (hC : zC p m c cX5_firstQuarter 3 s args wzX5_firstQuarter RX5 meth (some .int))  {res : zSt × Int32} {H : Heap} {locs : List Loc} {σ : zSt} {ls : Array Slot} {s0 : Int32} {s1 : Int32} {s2 : Int32} (hI : zI st D (tC cy) (wC ad cy σ) A s H locs) (hl : lv_has ls 3 []) (hf : fX5_firstQuarter_110  σ s0 s1 s2 = some res) : W p l e rmX5_firstQuarter s m args below meth c H locs 0 0 (zQi below args s D (tC cy) (wC ad cy) A res) (F0 m 110 ls [.int s0, .int s1, .int s2, .ref (ad 7)]) := by
  have hx := hC.1
  have hb := hC.2.1
  unfold fX5_firstQuarter_110 at hf
  refine lv_iadd hx hb dX5_firstQuarter_110 ?_
  obtain ⟨σ1, g1, hf⟩ := zbu_use hf
  refine z_callVu (As := [.int s2, .int (s1 + s0)]) (rest := []) hC hI (cX5_putPair_met st l D ad cy σ s2 (s1 + s0) _ g1) (zgV zw30_23 zw31_0 zw31_1 zw2_21 zw31_2) rfl ⟨rfl, rfl⟩ 2 hdX5_putPair ⟨Nat.le_of_ble_eq_true rfl, Nat.le_of_ble_eq_true rfl⟩ rfl rfl (wC_e7 ad cy σ) rfl hl rfl (Nat.le_of_ble_eq_true rfl) dX5_firstQuarter_111 ⟨Nat.zero_le _, Nat.zero_le _⟩ (fun H locs hI => ?_)
  refine lv_bipush (v := 6) hx hb dX5_firstQuarter_114 (by decide) ?_
  exact z_ireturn hC hI hf dX5_firstQuarter_116
set_option maxRecDepth 20000 in
set_option maxHeartbeats 4000000 in
theorem bX5_firstQuarter_81 {st : Nat → Nat} {p : Program} {l : Launch} {e : Env} {s : State} {m : MethodId} {args : Array Value} {below : List Frame} {meth : Method} {c : Code} {D : va_G} {A : Nat → Prop} {ad : Nat → Nat} {cy : Nat → ClassId} (hC : zC p m c cX5_firstQuarter 3 s args wzX5_firstQuarter RX5 meth (some .int))  {res : zSt × Int32} {H : Heap} {locs : List Loc} {σ : zSt} {ls : Array Slot} {s0 : Int32} (hI : zI st D (tC cy) (wC ad cy σ) A s H locs) (hl : lv_has ls 3 []) (hf : fX5_firstQuarter_81  σ s0 = some res) : W p l e rmX5_firstQuarter s m args below meth c H locs 0 0 (zQi below args s D (tC cy) (wC ad cy) A res) (F0 m 81 ls [.int s0]) := by
  have hx := hC.1
  have hb := hC.2.1
  unfold fX5_firstQuarter_81 at hf
  exact z_ireturn hC hI hf dX5_firstQuarter_81
set_option maxRecDepth 20000 in
set_option maxHeartbeats 4000000 in
theorem bX5_firstQuarter {st : Nat → Nat} {p : Program} {l : Launch} {e : Env} {s : State} {m : MethodId} {args : Array Value} {below : List Frame} {meth : Method} {c : Code} {D : va_G} {A : Nat → Prop} {ad : Nat → Nat} {cy : Nat → ClassId} (hC : zC p m c cX5_firstQuarter 3 s args wzX5_firstQuarter RX5 meth (some .int))  {res : zSt × Int32} {H : Heap} {locs : List Loc} {σ : zSt} {ls : Array Slot} {x1 : Int32} (hI : zI st D (tC cy) (wC ad cy σ) A s H locs) (hl : lv_has ls 3 [(0, .ref (ad 7)), (1, .int x1)]) (hf : fX5_firstQuarter  σ x1 = some res) : W p l e rmX5_firstQuarter s m args below meth c H locs 0 0 (zQi below args s D (tC cy) (wC ad cy) A res) (F0 m 0 ls []) := by
  have hx := hC.1
  have hb := hC.2.1
  unfold fX5_firstQuarter at hf
  refine lv_iload_n hx hb dX5_firstQuarter_0 rfl (lv_at hl 1 rfl) ?_
  refine lv_iconst (v := 3) hx hb dX5_firstQuarter_1 (by decide) ?_
  refine lv_ishr hx hb dX5_firstQuarter_2 ?_
  refine lv_bipush (v := 7) hx hb dX5_firstQuarter_3 (by decide) ?_
  refine lv_iand hx hb dX5_firstQuarter_5 ?_
  refine lv_topi (fun v2 ev2 => ?_)
  replace hf := zbv_use ev2 hf
  refine lv_istore_n (lv' := [(2, .int v2), (0, .ref (ad 7)), (1, .int x1)]) hx hb dX5_firstQuarter_6 rfl hl (by decide) rfl (fun ls hl => ?_)
  refine lv_iload_n hx hb dX5_firstQuarter_7 rfl (lv_at hl 2 rfl) ?_
  refine lv_bipush (v := 7) hx hb dX5_firstQuarter_8 (by decide) ?_
  refine lv_iand hx hb dX5_firstQuarter_10 ?_
  by_cases q0 : (x1 &&& 7) = 0
  · replace hf := zif_t q0 hf
    refine lv_tableIn (tgt := 52) hx hb dX5_firstQuarter_11 (by rw [q0]; decide) (by rw [q0]; decide) (by rw [q0]; rfl) (by decide) ?_
    refine lv_aload_n hx hb dX5_firstQuarter_52 rfl (lv_at hl 1 rfl) ?_
    refine lv_iload_n hx hb dX5_firstQuarter_53 rfl (lv_at hl 0 rfl) ?_
    obtain ⟨σ3, v4, g3, hf⟩ := zbi_use hf
    refine z_callVi (As := [.int v2]) (rest := []) hC hI (cX5_near_met st l D ad cy σ v2 _ g3) (zgV zw31_23 zw32_0 zw32_1 zw2_21 zw32_2) rfl ⟨rfl, rfl⟩ 1 hdX5_near ⟨Nat.le_of_ble_eq_true rfl, Nat.le_of_ble_eq_true rfl⟩ rfl rfl (wC_e7 ad cy σ) rfl hl rfl (Nat.le_of_ble_eq_true rfl) dX5_firstQuarter_54 ⟨Nat.zero_le _, Nat.zero_le _⟩ (fun H locs hI => ?_)
    exact z_ireturn hC hI hf dX5_firstQuarter_57
  replace hf := zif_f q0 hf
  by_cases q1 : (x1 &&& 7) = 1
  · replace hf := zif_t q1 hf
    refine lv_tableIn (tgt := 58) hx hb dX5_firstQuarter_11 (by rw [q1]; decide) (by rw [q1]; decide) (by rw [q1]; rfl) (by decide) ?_
    refine lv_iload_n hx hb dX5_firstQuarter_58 rfl (lv_at hl 0 rfl) ?_
    refine lv_iconst (v := 1) hx hb dX5_firstQuarter_59 (by decide) ?_
    refine lv_iand hx hb dX5_firstQuarter_60 ?_
    refine lv_if_ne (tgt := 74) hx hb dX5_firstQuarter_61 (by decide) (fun q => ?_) (fun q => ?_)
    · replace hf := zif_f q hf
      refine lv_aload_n hx hb dX5_firstQuarter_74 rfl (lv_at hl 1 rfl) ?_
      refine lv_iload_n hx hb dX5_firstQuarter_75 rfl (lv_at hl 0 rfl) ?_
      refine lv_iconst (v := 1) hx hb dX5_firstQuarter_76 (by decide) ?_
      refine lv_ishr hx hb dX5_firstQuarter_77 ?_
      obtain ⟨σ5, v6, g5, hf⟩ := zbi_use hf
      refine z_callVi (As := [.int (v2 >>> ((1 : Int32) &&& 31))]) (rest := []) hC hI (cX5_addPair_met st l D ad cy σ (v2 >>> ((1 : Int32) &&& 31)) _ g5) (zgV zw32_16 zw32_17 zw32_18 zw2_21 zw32_19) rfl ⟨rfl, rfl⟩ 1 hdX5_addPair ⟨Nat.le_of_ble_eq_true rfl, Nat.le_of_ble_eq_true rfl⟩ rfl rfl (wC_e7 ad cy σ) rfl hl rfl (Nat.le_of_ble_eq_true rfl) dX5_firstQuarter_78 ⟨Nat.zero_le _, Nat.zero_le _⟩ (fun H locs hI => ?_)
      exact bX5_firstQuarter_81 hC  hI (lv_sub hl [] rfl) hf
    replace hf := zif_t q hf
    refine lv_aload_n hx hb dX5_firstQuarter_64 rfl (lv_at hl 1 rfl) ?_
    refine lv_iload_n hx hb dX5_firstQuarter_65 rfl (lv_at hl 0 rfl) ?_
    refine lv_iconst (v := 1) hx hb dX5_firstQuarter_66 (by decide) ?_
    refine lv_ishr hx hb dX5_firstQuarter_67 ?_
    obtain ⟨σ7, v8, g7, hf⟩ := zbi_use hf
    refine z_callVi (As := [.int (v2 >>> ((1 : Int32) &&& 31))]) (rest := []) hC hI (cX5_loadPair_met st l D ad cy σ (v2 >>> ((1 : Int32) &&& 31)) _ g7) (zgV zw32_12 zw32_13 zw32_14 zw2_21 zw32_15) rfl ⟨rfl, rfl⟩ 1 hdX5_loadPair ⟨Nat.le_of_ble_eq_true rfl, Nat.le_of_ble_eq_true rfl⟩ rfl rfl (wC_e7 ad cy σ) rfl hl rfl (Nat.le_of_ble_eq_true rfl) dX5_firstQuarter_68 ⟨Nat.zero_le _, Nat.zero_le _⟩ (fun H locs hI => ?_)
    refine lv_goto (tgt := 81) hx hb dX5_firstQuarter_71 (by decide) ?_
    exact bX5_firstQuarter_81 hC  hI (lv_sub hl [] rfl) hf
  replace hf := zif_f q1 hf
  by_cases q2 : (x1 &&& 7) = 2
  · replace hf := zif_t q2 hf
    refine lv_tableIn (tgt := 82) hx hb dX5_firstQuarter_11 (by rw [q2]; decide) (by rw [q2]; decide) (by rw [q2]; rfl) (by decide) ?_
    refine lv_aload_n hx hb dX5_firstQuarter_82 rfl (lv_at hl 1 rfl) ?_
    refine lv_iload_n hx hb dX5_firstQuarter_83 rfl (lv_at hl 0 rfl) ?_
    obtain ⟨σ9, v10, g9, hf⟩ := zbi_use hf
    refine z_callVi (As := [.int v2]) (rest := []) hC hI (cX5_far_met st l D ad cy σ v2 _ g9) (zgV zw32_20 zw32_21 zw32_22 zw2_21 zw32_23) rfl ⟨rfl, rfl⟩ 1 hdX5_far ⟨Nat.le_of_ble_eq_true rfl, Nat.le_of_ble_eq_true rfl⟩ rfl rfl (wC_e7 ad cy σ) rfl hl rfl (Nat.le_of_ble_eq_true rfl) dX5_firstQuarter_84 ⟨Nat.zero_le _, Nat.zero_le _⟩ (fun H locs hI => ?_)
    exact z_ireturn hC hI hf dX5_firstQuarter_87
  replace hf := zif_f q2 hf
  by_cases q3 : (x1 &&& 7) = 3
  · replace hf := zif_t q3 hf
    refine lv_tableIn (tgt := 88) hx hb dX5_firstQuarter_11 (by rw [q3]; decide) (by rw [q3]; decide) (by rw [q3]; rfl) (by decide) ?_
    refine lv_aload_n hx hb dX5_firstQuarter_88 rfl (lv_at hl 1 rfl) ?_
    refine lv_iload_n hx hb dX5_firstQuarter_89 rfl (lv_at hl 0 rfl) ?_
    refine lv_iconst (v := 1) hx hb dX5_firstQuarter_90 (by decide) ?_
    refine lv_ishr hx hb dX5_firstQuarter_91 ?_
    refine lv_aload_n hx hb dX5_firstQuarter_92 rfl (lv_at hl 1 rfl) ?_
    refine lv_iload_n hx hb dX5_firstQuarter_93 rfl (lv_at hl 0 rfl) ?_
    refine lv_iconst (v := 1) hx hb dX5_firstQuarter_94 (by decide) ?_
    refine lv_ishr hx hb dX5_firstQuarter_95 ?_
    obtain ⟨σ11, v12, g11, hf⟩ := zbi_use hf
    refine z_callVi (As := [.int (v2 >>> ((1 : Int32) &&& 31))]) (rest := [.int (v2 >>> ((1 : Int32) &&& 31)), .ref (ad 7)]) hC hI (cX5_pair_met st l D ad cy σ (v2 >>> ((1 : Int32) &&& 31)) _ g11) (zgV zw29_19 zw29_20 zw29_21 zw2_21 zw29_22) rfl ⟨rfl, rfl⟩ 1 hdX5_pair ⟨Nat.le_of_ble_eq_true rfl, Nat.le_of_ble_eq_true rfl⟩ rfl rfl (wC_e7 ad cy σ) rfl hl rfl (Nat.le_of_ble_eq_true rfl) dX5_firstQuarter_96 ⟨Nat.zero_le _, Nat.zero_le _⟩ (fun H locs hI => ?_)
    refine lv_iload_n hx hb dX5_firstQuarter_99 rfl (lv_at hl 0 rfl) ?_
    refine lv_iconst (v := 1) hx hb dX5_firstQuarter_100 (by decide) ?_
    refine lv_iand hx hb dX5_firstQuarter_101 ?_
    refine lv_if_ne (tgt := 109) hx hb dX5_firstQuarter_102 (by decide) (fun q => ?_) (fun q => ?_)
    · replace hf := zif_f q hf
      refine lv_iconst (v := (-1)) hx hb dX5_firstQuarter_109 (by decide) ?_
      exact bX5_firstQuarter_110 hC  hI (lv_sub hl [] rfl) hf
    replace hf := zif_t q hf
    refine lv_iconst (v := 1) hx hb dX5_firstQuarter_105 (by decide) ?_
    refine lv_goto (tgt := 110) hx hb dX5_firstQuarter_106 (by decide) ?_
    exact bX5_firstQuarter_110 hC  hI (lv_sub hl [] rfl) hf
  replace hf := zif_f q3 hf
  by_cases q4 : (x1 &&& 7) = 4
  · replace hf := zif_t q4 hf
    refine lv_tableIn (tgt := 117) hx hb dX5_firstQuarter_11 (by rw [q4]; decide) (by rw [q4]; decide) (by rw [q4]; rfl) (by decide) ?_
    refine lv_aload_n hx hb dX5_firstQuarter_117 rfl (lv_at hl 1 rfl) ?_
    refine lv_iload_n hx hb dX5_firstQuarter_118 rfl (lv_at hl 0 rfl) ?_
    refine lv_aload_n hx hb dX5_firstQuarter_119 rfl (lv_at hl 1 rfl) ?_
    refine lv_aload_n hx hb dX5_firstQuarter_120 rfl (lv_at hl 1 rfl) ?_
    refine lv_iload_n hx hb dX5_firstQuarter_121 rfl (lv_at hl 0 rfl) ?_
    obtain ⟨σ13, v14, g13, hf⟩ := zbi_use hf
    refine z_callVi (As := [.int v2]) (rest := [.ref (ad 7), .int v2, .ref (ad 7)]) hC hI (cX5_one_met st l D ad cy σ v2 _ g13) (zgV zw24_4 zw24_5 zw24_6 zw2_21 zw24_7) rfl ⟨rfl, rfl⟩ 1 hdX5_one ⟨Nat.le_of_ble_eq_true rfl, Nat.le_of_ble_eq_true rfl⟩ rfl rfl (wC_e7 ad cy σ) rfl hl rfl (Nat.le_of_ble_eq_true rfl) dX5_firstQuarter_122 ⟨Nat.zero_le _, Nat.zero_le _⟩ (fun H locs hI => ?_)
    obtain ⟨σ15, v16, g15, hf⟩ := zbi_use hf
    refine z_callVi (As := [.int v14]) (rest := [.int v2, .ref (ad 7)]) hC hI (cX5_oneMore_met st l D ad cy σ13 v14 _ g15) (zgV zw33_0 zw33_1 zw33_2 zw2_21 zw33_3) rfl ⟨rfl, rfl⟩ 1 hdX5_oneMore ⟨Nat.le_of_ble_eq_true rfl, Nat.le_of_ble_eq_true rfl⟩ rfl rfl (wC_e7 ad cy σ13) rfl hl rfl (Nat.le_of_ble_eq_true rfl) dX5_firstQuarter_125 ⟨Nat.zero_le _, Nat.zero_le _⟩ (fun H locs hI => ?_)
    obtain ⟨σ17, g17, hf⟩ := zbu_use hf
    refine z_callVu (As := [.int v2, .int v16]) (rest := []) hC hI (cX5_putOne_met st l D ad cy σ15 v2 v16 _ g17) (zgV zw23_8 zw23_9 zw23_10 zw2_21 zw23_11) rfl ⟨rfl, rfl⟩ 2 hdX5_putOne ⟨Nat.le_of_ble_eq_true rfl, Nat.le_of_ble_eq_true rfl⟩ rfl rfl (wC_e7 ad cy σ15) rfl hl rfl (Nat.le_of_ble_eq_true rfl) dX5_firstQuarter_128 ⟨Nat.zero_le _, Nat.zero_le _⟩ (fun H locs hI => ?_)
    refine lv_iload_n hx hb dX5_firstQuarter_131 rfl (lv_at hl 0 rfl) ?_
    refine lv_bipush (v := 6) hx hb dX5_firstQuarter_132 (by decide) ?_
    refine lv_icmp_ne (tgt := 142) hx hb dX5_firstQuarter_134 (by decide) (fun q => ?_) (fun q => ?_)
    · replace hf := zif_f q hf
      refine lv_iconst (v := 4) hx hb dX5_firstQuarter_142 (by decide) ?_
      exact bX5_firstQuarter_143 hC  hI (lv_sub hl [] rfl) hf
    replace hf := zif_t q hf
    refine lv_bipush (v := 11) hx hb dX5_firstQuarter_137 (by decide) ?_
    refine lv_goto (tgt := 143) hx hb dX5_firstQuarter_139 (by decide) ?_
    exact bX5_firstQuarter_143 hC  hI (lv_sub hl [] rfl) hf
  replace hf := zif_f q4 hf
  by_cases q5 : (x1 &&& 7) = 5
  · replace hf := zif_t q5 hf
    refine lv_tableIn (tgt := 144) hx hb dX5_firstQuarter_11 (by rw [q5]; decide) (by rw [q5]; decide) (by rw [q5]; rfl) (by decide) ?_
    refine lv_aload_n hx hb dX5_firstQuarter_144 rfl (lv_at hl 1 rfl) ?_
    refine lv_iload_n hx hb dX5_firstQuarter_145 rfl (lv_at hl 0 rfl) ?_
    refine lv_aload_n hx hb dX5_firstQuarter_146 rfl (lv_at hl 1 rfl) ?_
    refine lv_aload_n hx hb dX5_firstQuarter_147 rfl (lv_at hl 1 rfl) ?_
    refine lv_iload_n hx hb dX5_firstQuarter_148 rfl (lv_at hl 0 rfl) ?_
    obtain ⟨σ18, v19, g18, hf⟩ := zbi_use hf
    refine z_callVi (As := [.int v2]) (rest := [.ref (ad 7), .int v2, .ref (ad 7)]) hC hI (cX5_one_met st l D ad cy σ v2 _ g18) (zgV zw24_4 zw24_5 zw24_6 zw2_21 zw24_7) rfl ⟨rfl, rfl⟩ 1 hdX5_one ⟨Nat.le_of_ble_eq_true rfl, Nat.le_of_ble_eq_true rfl⟩ rfl rfl (wC_e7 ad cy σ) rfl hl rfl (Nat.le_of_ble_eq_true rfl) dX5_firstQuarter_149 ⟨Nat.zero_le _, Nat.zero_le _⟩ (fun H locs hI => ?_)
    obtain ⟨σ20, v21, g20, hf⟩ := zbi_use hf
    refine z_callVi (As := [.int v19]) (rest := [.int v2, .ref (ad 7)]) hC hI (cX5_oneLess_met st l D ad cy σ18 v19 _ g20) (zgV zw33_4 zw33_5 zw33_6 zw2_21 zw33_7) rfl ⟨rfl, rfl⟩ 1 hdX5_oneLess ⟨Nat.le_of_ble_eq_true rfl, Nat.le_of_ble_eq_true rfl⟩ rfl rfl (wC_e7 ad cy σ18) rfl hl rfl (Nat.le_of_ble_eq_true rfl) dX5_firstQuarter_152 ⟨Nat.zero_le _, Nat.zero_le _⟩ (fun H locs hI => ?_)
    obtain ⟨σ22, g22, hf⟩ := zbu_use hf
    refine z_callVu (As := [.int v2, .int v21]) (rest := []) hC hI (cX5_putOne_met st l D ad cy σ20 v2 v21 _ g22) (zgV zw23_8 zw23_9 zw23_10 zw2_21 zw23_11) rfl ⟨rfl, rfl⟩ 2 hdX5_putOne ⟨Nat.le_of_ble_eq_true rfl, Nat.le_of_ble_eq_true rfl⟩ rfl rfl (wC_e7 ad cy σ20) rfl hl rfl (Nat.le_of_ble_eq_true rfl) dX5_firstQuarter_155 ⟨Nat.zero_le _, Nat.zero_le _⟩ (fun H locs hI => ?_)
    refine lv_iload_n hx hb dX5_firstQuarter_158 rfl (lv_at hl 0 rfl) ?_
    refine lv_bipush (v := 6) hx hb dX5_firstQuarter_159 (by decide) ?_
    refine lv_icmp_ne (tgt := 169) hx hb dX5_firstQuarter_161 (by decide) (fun q => ?_) (fun q => ?_)
    · replace hf := zif_f q hf
      refine lv_iconst (v := 4) hx hb dX5_firstQuarter_169 (by decide) ?_
      exact bX5_firstQuarter_170 hC  hI (lv_sub hl [] rfl) hf
    replace hf := zif_t q hf
    refine lv_bipush (v := 11) hx hb dX5_firstQuarter_164 (by decide) ?_
    refine lv_goto (tgt := 170) hx hb dX5_firstQuarter_166 (by decide) ?_
    exact bX5_firstQuarter_170 hC  hI (lv_sub hl [] rfl) hf
  replace hf := zif_f q5 hf
  by_cases q6 : (x1 &&& 7) = 6
  · replace hf := zif_t q6 hf
    refine lv_tableIn (tgt := 171) hx hb dX5_firstQuarter_11 (by rw [q6]; decide) (by rw [q6]; decide) (by rw [q6]; rfl) (by decide) ?_
    refine lv_aload_n hx hb dX5_firstQuarter_171 rfl (lv_at hl 1 rfl) ?_
    refine lv_iload_n hx hb dX5_firstQuarter_172 rfl (lv_at hl 0 rfl) ?_
    refine lv_aload_n hx hb dX5_firstQuarter_173 rfl (lv_at hl 1 rfl) ?_
    obtain ⟨σ23, v24, g23, hf⟩ := zbi_use hf
    refine z_callVi (As := []) (rest := [.int v2, .ref (ad 7)]) hC hI (cX5_fetch_met st l D ad cy σ  _ g23) (zgV zw21_23 zw22_0 zw22_1 zw2_21 zw22_2) rfl ⟨rfl, rfl⟩ 0 hdX5_fetch ⟨Nat.le_of_ble_eq_true rfl, Nat.le_of_ble_eq_true rfl⟩ rfl rfl (wC_e7 ad cy σ) rfl hl rfl (Nat.le_of_ble_eq_true rfl) dX5_firstQuarter_174 ⟨Nat.zero_le _, Nat.zero_le _⟩ (fun H locs hI => ?_)
    obtain ⟨σ25, g25, hf⟩ := zbu_use hf
    refine z_callVu (As := [.int v2, .int v24]) (rest := []) hC hI (cX5_putOne_met st l D ad cy σ23 v2 v24 _ g25) (zgV zw23_8 zw23_9 zw23_10 zw2_21 zw23_11) rfl ⟨rfl, rfl⟩ 2 hdX5_putOne ⟨Nat.le_of_ble_eq_true rfl, Nat.le_of_ble_eq_true rfl⟩ rfl rfl (wC_e7 ad cy σ23) rfl hl rfl (Nat.le_of_ble_eq_true rfl) dX5_firstQuarter_177 ⟨Nat.zero_le _, Nat.zero_le _⟩ (fun H locs hI => ?_)
    refine lv_iload_n hx hb dX5_firstQuarter_180 rfl (lv_at hl 0 rfl) ?_
    refine lv_bipush (v := 6) hx hb dX5_firstQuarter_181 (by decide) ?_
    refine lv_icmp_ne (tgt := 191) hx hb dX5_firstQuarter_183 (by decide) (fun q => ?_) (fun q => ?_)
    · replace hf := zif_f q hf
      refine lv_bipush (v := 7) hx hb dX5_firstQuarter_191 (by decide) ?_
      exact bX5_firstQuarter_193 hC  hI (lv_sub hl [] rfl) hf
    replace hf := zif_t q hf
    refine lv_bipush (v := 10) hx hb dX5_firstQuarter_186 (by decide) ?_
    refine lv_goto (tgt := 193) hx hb dX5_firstQuarter_188 (by decide) ?_
    exact bX5_firstQuarter_193 hC  hI (lv_sub hl [] rfl) hf
  replace hf := zif_f q6 hf
  refine lv_tableOut (tgt := 194) hx hb dX5_firstQuarter_11 (zsw (fun k h1 h2 => by rcases (show k = 0 ∨ k = 1 ∨ k = 2 ∨ k = 3 ∨ k = 4 ∨ k = 5 ∨ k = 6 by omega) with rfl | rfl | rfl | rfl | rfl | rfl | rfl <;> assumption)) (by decide) ?_
  refine lv_aload_n hx hb dX5_firstQuarter_194 rfl (lv_at hl 1 rfl) ?_
  refine lv_iload_n hx hb dX5_firstQuarter_195 rfl (lv_at hl 0 rfl) ?_
  obtain ⟨σ26, g26, hf⟩ := zbu_use hf
  refine z_callVu (As := [.int v2]) (rest := []) hC hI (cX5_changeA_met st l D ad cy σ v2 _ g26) (zgV zw33_8 zw33_9 zw33_10 zw2_21 zw33_11) rfl ⟨rfl, rfl⟩ 1 hdX5_changeA ⟨Nat.le_of_ble_eq_true rfl, Nat.le_of_ble_eq_true rfl⟩ rfl rfl (wC_e7 ad cy σ) rfl hl rfl (Nat.le_of_ble_eq_true rfl) dX5_firstQuarter_196 ⟨Nat.zero_le _, Nat.zero_le _⟩ (fun H locs hI => ?_)
  refine lv_iconst (v := 4) hx hb dX5_firstQuarter_199 (by decide) ?_
  exact z_ireturn hC hI hf dX5_firstQuarter_200
set_option maxRecDepth 20000 in
theorem cX5_firstQuarter_met (st : Nat → Nat) (l : Launch) (D : va_G) (ad : Nat → Nat) (cy : Nat → ClassId) (σ : zSt) (x1 : Int32) (res : zSt × Int32) (hf : fX5_firstQuarter σ x1 = some res) (sz : Nat) : zMi st l yX5_firstQuarter wzX5_firstQuarter rmX5_firstQuarter [.ref (ad 7), .int x1] D (tC cy) (wC ad cy) sz σ res :=
  zMi.of (cc := cX5_firstQuarter) (maxL := 3) (ret := (some .int)) (by decide) rfl (Nat.le_of_ble_eq_true rfl) (fun p e s m args below meth c hC A hI ls hl => bX5_firstQuarter hC hI hl hf)
theorem hdX5_firstQuarter : yX5_firstQuarter.cls = RX5 ∧ yX5_firstQuarter.cls ≠ "java/lang/invoke/MethodHandle" ∧ yX5_firstQuarter.cls ≠ "java/lang/invoke/VarHandle" ∧ (parseMethodDescriptor yX5_firstQuarter.desc).map (fun d => d.parameters.length) = some 1 := by decide +kernel
noncomputable def rmX5_carryOn : Room := { frames := 5, cells := 0, slots := 0, locals := 114 }
noncomputable def wzX5_carryOn : List Cond := .code yX5_carryOn cX5_carryOn 4 (some .int) :: wsL_law
theorem hinX5_carryOn_X50 : ∀ w ∈ wsX50, w ∈ wzX5_carryOn := fun w h => List.mem_cons_of_mem _ (inlX5 w h)
noncomputable def fX5_carryOn_90  (σ : zSt)  : Option (zSt × Int32) :=
  zck (zin 28 29) (zbv (zsi σ 36 ((28 : Int32).toNatClampNeg) 1) (fun σ1 =>
  some (σ1, 4)))
noncomputable def fX5_carryOn_193  (σ : zSt) (s0 : Int32) : Option (zSt × Int32) :=
  some (σ, s0)
noncomputable def fX5_carryOn_275  (σ : zSt) (s0 : Int32) (s1 : Int32) : Option (zSt × Int32) :=
  some (σ, s1 + s0)
noncomputable def fX5_carryOn_141  (σ : zSt) (x1 : Int32) (x2 : Int32) : Option (zSt × Int32) :=
  if x1 = 203 then zbi (fX5_fetchOp σ ) (fun σ18 v19 =>
  zbi (fX5_turns σ18 v19) (fun σ20 v21 =>
  some (σ20, v21))) else
  if x1 = 237 then zbi (fX5_fetchOp σ ) (fun σ12 v13 =>
  if (v13 &&& 228) = 160 then zbi (fX5_block σ12 v13) (fun σ16 v17 =>
  fX5_carryOn_193 σ16 v17) else
  zbi (fX5_behindEd σ12 v13) (fun σ14 v15 =>
  fX5_carryOn_193 σ14 v15)) else
  if (x1 >>> ((6 : Int32) &&& 31)) = 0 then zbi (fX5_firstQuarter σ x1) (fun σ2 v3 =>
  some (σ2, x2 + v3)) else
  if (x1 >>> ((6 : Int32) &&& 31)) = 1 then zbi (fX5_move σ x1) (fun σ4 v5 =>
  some (σ4, x2 + v5)) else
  if (x1 >>> ((6 : Int32) &&& 31)) = 2 then zbi (fX5_doWithRegister σ x1) (fun σ6 v7 =>
  some (σ6, x2 + v7)) else
  if (x1 &&& 7) = 3 then zbi (fX5_exchange σ ((x1 >>> ((3 : Int32) &&& 31)) &&& 7)) (fun σ10 v11 =>
  fX5_carryOn_275 σ10 v11 x2) else
  zbi (fX5_lastQuarter σ x1) (fun σ8 v9 =>
  fX5_carryOn_275 σ8 v9 x2)
noncomputable def fX5_carryOn_115  (σ : zSt) (s0 : Int32) : Option (zSt × Int32) :=
  zbv (zsi σ 7 4 s0) (fun σ22 =>
  zbi (fX5_fetchOp σ22 ) (fun σ23 v24 =>
  if v24 = 203 then zbi (fX5_turnBeside σ23 ) (fun σ27 v28 =>
  some (σ27, v28)) else
  zbi (fX5_takePlace σ23 v24) (fun σ25 v26 =>
  fX5_carryOn_141 σ25 v24 v26)))
noncomputable def fX5_carryOn_54  (σ : zSt) (x1 : Int32) : Option (zSt × Int32) :=
  zck (zin 19 29) (
  zbi (fX2_read σ (zgi σ 36 (19 : Int32).toNatClampNeg)) (fun σ29 v30 =>
  if v30 = 221 then fX5_carryOn_90 σ29 else
  if v30 = 237 then fX5_carryOn_90 σ29 else
  if v30 = 253 then fX5_carryOn_90 σ29 else
  if x1 = 221 then fX5_carryOn_115 σ29 16 else
  fX5_carryOn_115 σ29 17))
noncomputable def fX5_carryOn  (σ : zSt)  : Option (zSt × Int32) :=
  zck (zin 26 29) (
  if (zgi σ 36 (26 : Int32).toNatClampNeg) = 1 then zbu (fX5_growR σ ) (fun σ37 =>
  some (σ37, 4)) else
  zbv (zsi σ 7 4 6) (fun σ31 =>
  zbi (fX5_pairAt σ31 6) (fun σ32 v33 =>
  zbv (zsi σ32 7 5 v33) (fun σ34 =>
  zbi (fX5_fetchOp σ34 ) (fun σ35 v36 =>
  if v36 = 221 then fX5_carryOn_54 σ35 v36 else
  if v36 = 253 then fX5_carryOn_54 σ35 v36 else
  fX5_carryOn_141 σ35 v36 0)))))
set_option maxRecDepth 20000 in
set_option maxHeartbeats 4000000 in
theorem bX5_carryOn_90 {st : Nat → Nat} {p : Program} {l : Launch} {e : Env} {s : State} {m : MethodId} {args : Array Value} {below : List Frame} {meth : Method} {c : Code} {D : va_G} {A : Nat → Prop} {ad : Nat → Nat} {cy : Nat → ClassId} (hC : zC p m c cX5_carryOn 4 s args wzX5_carryOn RX5 meth (some .int))  {res : zSt × Int32} {H : Heap} {locs : List Loc} {σ : zSt} {ls : Array Slot}  (hI : zI st D (tC cy) (wC ad cy σ) A s H locs) (hl : lv_has ls 4 [(0, .ref (ad 7))]) (hf : fX5_carryOn_90  σ  = some res) : W p l e rmX5_carryOn s m args below meth c H locs 0 0 (zQi below args s D (tC cy) (wC ad cy) A res) (F0 m 90 ls []) := by
  have hx := hC.1
  have hb := hC.2.1
  unfold fX5_carryOn_90 at hf
  refine lv_aload_n hx hb dX5_carryOn_90 rfl (lv_at hl 0 rfl) ?_
  refine z_get hC hI hinX5_carryOn_X50 7 (wC_e7 ad cy σ) rfl 2 (by decide) (List.mem_cons_of_mem _ zw7_5) rfl dX5_carryOn_91 ?_
  refine lv_bipush (v := 28) hx hb dX5_carryOn_94 (by decide) ?_
  refine lv_iconst (v := 1) hx hb dX5_carryOn_96 (by decide) ?_
  obtain ⟨q, hf⟩ := zck_use hf
  obtain ⟨σ1, eσ1⟩ : ∃ z, z = zsi σ 36 ((28 : Int32).toNatClampNeg) 1 := ⟨_, rfl⟩
  replace hf := zbv_use eσ1 hf
  refine z_iast hC hI 36 23 (wC_e36 ad cy σ) (tC_t36 cy) q ((wC_s36 ad cy σ _ _).trans (congrArg (wC ad cy) eσ1.symm)) dX5_carryOn_97 (fun H locs hI => ?_)
  refine lv_iconst (v := 4) hx hb dX5_carryOn_98 (by decide) ?_
  exact z_ireturn hC hI hf dX5_carryOn_99
set_option maxRecDepth 20000 in
set_option maxHeartbeats 4000000 in
theorem bX5_carryOn_193 {st : Nat → Nat} {p : Program} {l : Launch} {e : Env} {s : State} {m : MethodId} {args : Array Value} {below : List Frame} {meth : Method} {c : Code} {D : va_G} {A : Nat → Prop} {ad : Nat → Nat} {cy : Nat → ClassId} (hC : zC p m c cX5_carryOn 4 s args wzX5_carryOn RX5 meth (some .int))  {res : zSt × Int32} {H : Heap} {locs : List Loc} {σ : zSt} {ls : Array Slot} {s0 : Int32} (hI : zI st D (tC cy) (wC ad cy σ) A s H locs) (hl : lv_has ls 4 []) (hf : fX5_carryOn_193  σ s0 = some res) : W p l e rmX5_carryOn s m args below meth c H locs 0 0 (zQi below args s D (tC cy) (wC ad cy) A res) (F0 m 193 ls [.int s0]) := by
  have hx := hC.1
  have hb := hC.2.1
  unfold fX5_carryOn_193 at hf
  exact z_ireturn hC hI hf dX5_carryOn_193
set_option maxRecDepth 20000 in
set_option maxHeartbeats 4000000 in
theorem bX5_carryOn_275 {st : Nat → Nat} {p : Program} {l : Launch} {e : Env} {s : State} {m : MethodId} {args : Array Value} {below : List Frame} {meth : Method} {c : Code} {D : va_G} {A : Nat → Prop} {ad : Nat → Nat} {cy : Nat → ClassId} (hC : zC p m c cX5_carryOn 4 s args wzX5_carryOn RX5 meth (some .int))  {res : zSt × Int32} {H : Heap} {locs : List Loc} {σ : zSt} {ls : Array Slot} {s0 : Int32} {s1 : Int32} (hI : zI st D (tC cy) (wC ad cy σ) A s H locs) (hl : lv_has ls 4 []) (hf : fX5_carryOn_275  σ s0 s1 = some res) : W p l e rmX5_carryOn s m args below meth c H locs 0 0 (zQi below args s D (tC cy) (wC ad cy) A res) (F0 m 275 ls [.int s0, .int s1]) := by
  have hx := hC.1
  have hb := hC.2.1
  unfold fX5_carryOn_275 at hf
  refine lv_iadd hx hb dX5_carryOn_275 ?_
  exact z_ireturn hC hI hf dX5_carryOn_276
set_option maxRecDepth 20000 in
set_option maxHeartbeats 4000000 in
theorem bX5_carryOn_141 {st : Nat → Nat} {p : Program} {l : Launch} {e : Env} {s : State} {m : MethodId} {args : Array Value} {below : List Frame} {meth : Method} {c : Code} {D : va_G} {A : Nat → Prop} {ad : Nat → Nat} {cy : Nat → ClassId} (hC : zC p m c cX5_carryOn 4 s args wzX5_carryOn RX5 meth (some .int))  {res : zSt × Int32} {H : Heap} {locs : List Loc} {σ : zSt} {ls : Array Slot} {x1 : Int32} {x2 : Int32} (hI : zI st D (tC cy) (wC ad cy σ) A s H locs) (hl : lv_has ls 4 [(0, .ref (ad 7)), (1, .int x1), (2, .int x2)]) (hf : fX5_carryOn_141  σ x1 x2 = some res) : W p l e rmX5_carryOn s m args below meth c H locs 0 0 (zQi below args s D (tC cy) (wC ad cy) A res) (F0 m 141 ls []) := by
  have hx := hC.1
  have hb := hC.2.1
  unfold fX5_carryOn_141 at hf
  refine lv_iload_n hx hb dX5_carryOn_141 rfl (lv_at hl 1 rfl) ?_
  refine lv_sipush (v := 203) hx hb dX5_carryOn_142 (by decide) ?_
  refine lv_icmp_ne (tgt := 157) hx hb dX5_carryOn_145 (by decide) (fun q => ?_) (fun q => ?_)
  · replace hf := zif_f q hf
    refine lv_iload_n hx hb dX5_carryOn_157 rfl (lv_at hl 1 rfl) ?_
    refine lv_sipush (v := 237) hx hb dX5_carryOn_158 (by decide) ?_
    refine lv_icmp_ne (tgt := 194) hx hb dX5_carryOn_161 (by decide) (fun q => ?_) (fun q => ?_)
    · replace hf := zif_f q hf
      refine lv_iload_n hx hb dX5_carryOn_194 rfl (lv_at hl 1 rfl) ?_
      refine lv_bipush (v := 6) hx hb dX5_carryOn_195 (by decide) ?_
      refine lv_ishr hx hb dX5_carryOn_197 ?_
      by_cases q0 : (x1 >>> ((6 : Int32) &&& 31)) = 0
      · replace hf := zif_t q0 hf
        refine lv_tableIn (tgt := 224) hx hb dX5_carryOn_198 (by rw [q0]; decide) (by rw [q0]; decide) (by rw [q0]; rfl) (by decide) ?_
        refine lv_iload_n hx hb dX5_carryOn_224 rfl (lv_at hl 2 rfl) ?_
        refine lv_aload_n hx hb dX5_carryOn_225 rfl (lv_at hl 0 rfl) ?_
        refine lv_iload_n hx hb dX5_carryOn_226 rfl (lv_at hl 1 rfl) ?_
        obtain ⟨σ2, v3, g2, hf⟩ := zbi_use hf
        refine z_callVi (As := [.int x1]) (rest := [.int x2]) hC hI (cX5_firstQuarter_met st l D ad cy σ x1 _ g2) (zgV zw31_19 zw31_20 zw31_21 zw2_21 zw31_22) rfl ⟨rfl, rfl⟩ 1 hdX5_firstQuarter ⟨Nat.le_of_ble_eq_true rfl, Nat.le_of_ble_eq_true rfl⟩ rfl rfl (wC_e7 ad cy σ) rfl hl rfl (Nat.le_of_ble_eq_true rfl) dX5_carryOn_227 ⟨Nat.zero_le _, Nat.zero_le _⟩ (fun H locs hI => ?_)
        refine lv_iadd hx hb dX5_carryOn_230 ?_
        exact z_ireturn hC hI hf dX5_carryOn_231
      replace hf := zif_f q0 hf
      by_cases q1 : (x1 >>> ((6 : Int32) &&& 31)) = 1
      · replace hf := zif_t q1 hf
        refine lv_tableIn (tgt := 232) hx hb dX5_carryOn_198 (by rw [q1]; decide) (by rw [q1]; decide) (by rw [q1]; rfl) (by decide) ?_
        refine lv_iload_n hx hb dX5_carryOn_232 rfl (lv_at hl 2 rfl) ?_
        refine lv_aload_n hx hb dX5_carryOn_233 rfl (lv_at hl 0 rfl) ?_
        refine lv_iload_n hx hb dX5_carryOn_234 rfl (lv_at hl 1 rfl) ?_
        obtain ⟨σ4, v5, g4, hf⟩ := zbi_use hf
        refine z_callVi (As := [.int x1]) (rest := [.int x2]) hC hI (cX5_move_met st l D ad cy σ x1 _ g4) (zgV zw33_16 zw33_17 zw33_18 zw2_21 zw33_19) rfl ⟨rfl, rfl⟩ 1 hdX5_move ⟨Nat.le_of_ble_eq_true rfl, Nat.le_of_ble_eq_true rfl⟩ rfl rfl (wC_e7 ad cy σ) rfl hl rfl (Nat.le_of_ble_eq_true rfl) dX5_carryOn_235 ⟨Nat.zero_le _, Nat.zero_le _⟩ (fun H locs hI => ?_)
        refine lv_iadd hx hb dX5_carryOn_238 ?_
        exact z_ireturn hC hI hf dX5_carryOn_239
      replace hf := zif_f q1 hf
      by_cases q2 : (x1 >>> ((6 : Int32) &&& 31)) = 2
      · replace hf := zif_t q2 hf
        refine lv_tableIn (tgt := 240) hx hb dX5_carryOn_198 (by rw [q2]; decide) (by rw [q2]; decide) (by rw [q2]; rfl) (by decide) ?_
        refine lv_iload_n hx hb dX5_carryOn_240 rfl (lv_at hl 2 rfl) ?_
        refine lv_aload_n hx hb dX5_carryOn_241 rfl (lv_at hl 0 rfl) ?_
        refine lv_iload_n hx hb dX5_carryOn_242 rfl (lv_at hl 1 rfl) ?_
        obtain ⟨σ6, v7, g6, hf⟩ := zbi_use hf
        refine z_callVi (As := [.int x1]) (rest := [.int x2]) hC hI (cX5_doWithRegister_met st l D ad cy σ x1 _ g6) (zgV zw33_20 zw33_21 zw33_22 zw2_21 zw33_23) rfl ⟨rfl, rfl⟩ 1 hdX5_doWithRegister ⟨Nat.le_of_ble_eq_true rfl, Nat.le_of_ble_eq_true rfl⟩ rfl rfl (wC_e7 ad cy σ) rfl hl rfl (Nat.le_of_ble_eq_true rfl) dX5_carryOn_243 ⟨Nat.zero_le _, Nat.zero_le _⟩ (fun H locs hI => ?_)
        refine lv_iadd hx hb dX5_carryOn_246 ?_
        exact z_ireturn hC hI hf dX5_carryOn_247
      replace hf := zif_f q2 hf
      refine lv_tableOut (tgt := 248) hx hb dX5_carryOn_198 (zsw (fun k h1 h2 => by rcases (show k = 0 ∨ k = 1 ∨ k = 2 by omega) with rfl | rfl | rfl <;> assumption)) (by decide) ?_
      refine lv_iload_n hx hb dX5_carryOn_248 rfl (lv_at hl 2 rfl) ?_
      refine lv_iload_n hx hb dX5_carryOn_249 rfl (lv_at hl 1 rfl) ?_
      refine lv_bipush (v := 7) hx hb dX5_carryOn_250 (by decide) ?_
      refine lv_iand hx hb dX5_carryOn_252 ?_
      refine lv_iconst (v := 3) hx hb dX5_carryOn_253 (by decide) ?_
      refine lv_icmp_ne (tgt := 270) hx hb dX5_carryOn_254 (by decide) (fun q => ?_) (fun q => ?_)
      · replace hf := zif_f q hf
        refine lv_aload_n hx hb dX5_carryOn_270 rfl (lv_at hl 0 rfl) ?_
        refine lv_iload_n hx hb dX5_carryOn_271 rfl (lv_at hl 1 rfl) ?_
        obtain ⟨σ8, v9, g8, hf⟩ := zbi_use hf
        refine z_callVi (As := [.int x1]) (rest := [.int x2]) hC hI (cX5_lastQuarter_met st l D ad cy σ x1 _ g8) (zgV zw34_12 zw34_13 zw34_14 zw2_21 zw34_15) rfl ⟨rfl, rfl⟩ 1 hdX5_lastQuarter ⟨Nat.le_of_ble_eq_true rfl, Nat.le_of_ble_eq_true rfl⟩ rfl rfl (wC_e7 ad cy σ) rfl hl rfl (Nat.le_of_ble_eq_true rfl) dX5_carryOn_272 ⟨Nat.zero_le _, Nat.zero_le _⟩ (fun H locs hI => ?_)
        exact bX5_carryOn_275 hC  hI (lv_sub hl [] rfl) hf
      replace hf := zif_t q hf
      refine lv_aload_n hx hb dX5_carryOn_257 rfl (lv_at hl 0 rfl) ?_
      refine lv_iload_n hx hb dX5_carryOn_258 rfl (lv_at hl 1 rfl) ?_
      refine lv_iconst (v := 3) hx hb dX5_carryOn_259 (by decide) ?_
      refine lv_ishr hx hb dX5_carryOn_260 ?_
      refine lv_bipush (v := 7) hx hb dX5_carryOn_261 (by decide) ?_
      refine lv_iand hx hb dX5_carryOn_263 ?_
      obtain ⟨σ10, v11, g10, hf⟩ := zbi_use hf
      refine z_callVi (As := [.int ((x1 >>> ((3 : Int32) &&& 31)) &&& 7)]) (rest := [.int x2]) hC hI (cX5_exchange_met st l D ad cy σ ((x1 >>> ((3 : Int32) &&& 31)) &&& 7) _ g10) (zgV zw34_8 zw34_9 zw34_10 zw2_21 zw34_11) rfl ⟨rfl, rfl⟩ 1 hdX5_exchange ⟨Nat.le_of_ble_eq_true rfl, Nat.le_of_ble_eq_true rfl⟩ rfl rfl (wC_e7 ad cy σ) rfl hl rfl (Nat.le_of_ble_eq_true rfl) dX5_carryOn_264 ⟨Nat.zero_le _, Nat.zero_le _⟩ (fun H locs hI => ?_)
      refine lv_goto (tgt := 275) hx hb dX5_carryOn_267 (by decide) ?_
      exact bX5_carryOn_275 hC  hI (lv_sub hl [] rfl) hf
    replace hf := zif_t q hf
    refine lv_aload_n hx hb dX5_carryOn_164 rfl (lv_at hl 0 rfl) ?_
    obtain ⟨σ12, v13, g12, hf⟩ := zbi_use hf
    refine z_callVi (As := []) (rest := []) hC hI (cX5_fetchOp_met st l D ad cy σ  _ g12) (zgV zw21_19 zw21_20 zw21_21 zw2_21 zw21_22) rfl ⟨rfl, rfl⟩ 0 hdX5_fetchOp ⟨Nat.le_of_ble_eq_true rfl, Nat.le_of_ble_eq_true rfl⟩ rfl rfl (wC_e7 ad cy σ) rfl hl rfl (Nat.le_of_ble_eq_true rfl) dX5_carryOn_165 ⟨Nat.zero_le _, Nat.zero_le _⟩ (fun H locs hI => ?_)
    refine lv_istore_n (lv' := [(1, .int v13), (0, .ref (ad 7)), (2, .int x2)]) hx hb dX5_carryOn_168 rfl hl (by decide) rfl (fun ls hl => ?_)
    refine lv_iload_n hx hb dX5_carryOn_169 rfl (lv_at hl 0 rfl) ?_
    refine lv_sipush (v := 228) hx hb dX5_carryOn_170 (by decide) ?_
    refine lv_iand hx hb dX5_carryOn_173 ?_
    refine lv_sipush (v := 160) hx hb dX5_carryOn_174 (by decide) ?_
    refine lv_icmp_ne (tgt := 188) hx hb dX5_carryOn_177 (by decide) (fun q => ?_) (fun q => ?_)
    · replace hf := zif_f q hf
      refine lv_aload_n hx hb dX5_carryOn_188 rfl (lv_at hl 1 rfl) ?_
      refine lv_iload_n hx hb dX5_carryOn_189 rfl (lv_at hl 0 rfl) ?_
      obtain ⟨σ14, v15, g14, hf⟩ := zbi_use hf
      refine z_callVi (As := [.int v13]) (rest := []) hC hI (cX5_behindEd_met st l D ad cy σ12 v13 _ g14) (zgV zw29_1 zw29_2 zw29_3 zw2_21 zw29_4) rfl ⟨rfl, rfl⟩ 1 hdX5_behindEd ⟨Nat.le_of_ble_eq_true rfl, Nat.le_of_ble_eq_true rfl⟩ rfl rfl (wC_e7 ad cy σ12) rfl hl rfl (Nat.le_of_ble_eq_true rfl) dX5_carryOn_190 ⟨Nat.zero_le _, Nat.zero_le _⟩ (fun H locs hI => ?_)
      exact bX5_carryOn_193 hC  hI (lv_sub hl [] rfl) hf
    replace hf := zif_t q hf
    refine lv_aload_n hx hb dX5_carryOn_180 rfl (lv_at hl 1 rfl) ?_
    refine lv_iload_n hx hb dX5_carryOn_181 rfl (lv_at hl 0 rfl) ?_
    obtain ⟨σ16, v17, g16, hf⟩ := zbi_use hf
    refine z_callVi (As := [.int v13]) (rest := []) hC hI (cX5_block_met st l D ad cy σ12 v13 _ g16) (zgV zw24_8 zw24_9 zw24_10 zw2_21 zw24_11) rfl ⟨rfl, rfl⟩ 1 hdX5_block ⟨Nat.le_of_ble_eq_true rfl, Nat.le_of_ble_eq_true rfl⟩ rfl rfl (wC_e7 ad cy σ12) rfl hl rfl (Nat.le_of_ble_eq_true rfl) dX5_carryOn_182 ⟨Nat.zero_le _, Nat.zero_le _⟩ (fun H locs hI => ?_)
    refine lv_goto (tgt := 193) hx hb dX5_carryOn_185 (by decide) ?_
    exact bX5_carryOn_193 hC  hI (lv_sub hl [] rfl) hf
  replace hf := zif_t q hf
  refine lv_aload_n hx hb dX5_carryOn_148 rfl (lv_at hl 0 rfl) ?_
  refine lv_aload_n hx hb dX5_carryOn_149 rfl (lv_at hl 0 rfl) ?_
  obtain ⟨σ18, v19, g18, hf⟩ := zbi_use hf
  refine z_callVi (As := []) (rest := [.ref (ad 7)]) hC hI (cX5_fetchOp_met st l D ad cy σ  _ g18) (zgV zw21_19 zw21_20 zw21_21 zw2_21 zw21_22) rfl ⟨rfl, rfl⟩ 0 hdX5_fetchOp ⟨Nat.le_of_ble_eq_true rfl, Nat.le_of_ble_eq_true rfl⟩ rfl rfl (wC_e7 ad cy σ) rfl hl rfl (Nat.le_of_ble_eq_true rfl) dX5_carryOn_150 ⟨Nat.zero_le _, Nat.zero_le _⟩ (fun H locs hI => ?_)
  obtain ⟨σ20, v21, g20, hf⟩ := zbi_use hf
  refine z_callVi (As := [.int v19]) (rest := []) hC hI (cX5_turns_met st l D ad cy σ18 v19 _ g20) (zgV zw24_0 zw24_1 zw24_2 zw2_21 zw24_3) rfl ⟨rfl, rfl⟩ 1 hdX5_turns ⟨Nat.le_of_ble_eq_true rfl, Nat.le_of_ble_eq_true rfl⟩ rfl rfl (wC_e7 ad cy σ18) rfl hl rfl (Nat.le_of_ble_eq_true rfl) dX5_carryOn_153 ⟨Nat.zero_le _, Nat.zero_le _⟩ (fun H locs hI => ?_)
  exact z_ireturn hC hI hf dX5_carryOn_156
set_option maxRecDepth 20000 in
set_option maxHeartbeats 4000000 in
theorem bX5_carryOn_115 {st : Nat → Nat} {p : Program} {l : Launch} {e : Env} {s : State} {m : MethodId} {args : Array Value} {below : List Frame} {meth : Method} {c : Code} {D : va_G} {A : Nat → Prop} {ad : Nat → Nat} {cy : Nat → ClassId} (hC : zC p m c cX5_carryOn 4 s args wzX5_carryOn RX5 meth (some .int))  {res : zSt × Int32} {H : Heap} {locs : List Loc} {σ : zSt} {ls : Array Slot} {s0 : Int32} (hI : zI st D (tC cy) (wC ad cy σ) A s H locs) (hl : lv_has ls 4 [(0, .ref (ad 7))]) (hf : fX5_carryOn_115  σ s0 = some res) : W p l e rmX5_carryOn s m args below meth c H locs 0 0 (zQi below args s D (tC cy) (wC ad cy) A res) (F0 m 115 ls [.int s0, .ref (ad 7)]) := by
  have hx := hC.1
  have hb := hC.2.1
  unfold fX5_carryOn_115 at hf
  obtain ⟨σ22, eσ22⟩ : ∃ z, z = zsi σ 7 4 s0 := ⟨_, rfl⟩
  replace hf := zbv_use eσ22 hf
  refine z_put hC hI hinX5_carryOn_X50 tyX5_ok nmX5 7 (wC_e7 ad cy σ) rfl 4 (by decide) (List.mem_cons_of_mem _ zw7_7) rfl rfl rfl (Nat.le_of_ble_eq_true rfl) ((wC_s7_4 ad cy σ s0).trans (congrArg (wC ad cy) eσ22.symm)) dX5_carryOn_115 (fun H locs hI => ?_)
  refine lv_aload_n hx hb dX5_carryOn_118 rfl (lv_at hl 0 rfl) ?_
  obtain ⟨σ23, v24, g23, hf⟩ := zbi_use hf
  refine z_callVi (As := []) (rest := []) hC hI (cX5_fetchOp_met st l D ad cy σ22  _ g23) (zgV zw21_19 zw21_20 zw21_21 zw2_21 zw21_22) rfl ⟨rfl, rfl⟩ 0 hdX5_fetchOp ⟨Nat.le_of_ble_eq_true rfl, Nat.le_of_ble_eq_true rfl⟩ rfl rfl (wC_e7 ad cy σ22) rfl hl rfl (Nat.le_of_ble_eq_true rfl) dX5_carryOn_119 ⟨Nat.zero_le _, Nat.zero_le _⟩ (fun H locs hI => ?_)
  refine lv_istore_n (lv' := [(1, .int v24), (0, .ref (ad 7))]) hx hb dX5_carryOn_122 rfl hl (by decide) rfl (fun ls hl => ?_)
  refine lv_iload_n hx hb dX5_carryOn_123 rfl (lv_at hl 0 rfl) ?_
  refine lv_sipush (v := 203) hx hb dX5_carryOn_124 (by decide) ?_
  refine lv_icmp_ne (tgt := 135) hx hb dX5_carryOn_127 (by decide) (fun q => ?_) (fun q => ?_)
  · replace hf := zif_f q hf
    refine lv_aload_n hx hb dX5_carryOn_135 rfl (lv_at hl 1 rfl) ?_
    refine lv_iload_n hx hb dX5_carryOn_136 rfl (lv_at hl 0 rfl) ?_
    obtain ⟨σ25, v26, g25, hf⟩ := zbi_use hf
    refine z_callVi (As := [.int v24]) (rest := []) hC hI (cX5_takePlace_met st l D ad cy σ23 v24 _ g25) (zgV zw23_17 zw23_18 zw23_19 zw2_21 zw23_20) rfl ⟨rfl, rfl⟩ 1 hdX5_takePlace ⟨Nat.le_of_ble_eq_true rfl, Nat.le_of_ble_eq_true rfl⟩ rfl rfl (wC_e7 ad cy σ23) rfl hl rfl (Nat.le_of_ble_eq_true rfl) dX5_carryOn_137 ⟨Nat.zero_le _, Nat.zero_le _⟩ (fun H locs hI => ?_)
    refine lv_istore_n (lv' := [(2, .int v26), (1, .int v24), (0, .ref (ad 7))]) hx hb dX5_carryOn_140 rfl hl (by decide) rfl (fun ls hl => ?_)
    exact bX5_carryOn_141 hC  hI (lv_sub hl [2, 1, 0] rfl) hf
  replace hf := zif_t q hf
  refine lv_aload_n hx hb dX5_carryOn_130 rfl (lv_at hl 1 rfl) ?_
  obtain ⟨σ27, v28, g27, hf⟩ := zbi_use hf
  refine z_callVi (As := []) (rest := []) hC hI (cX5_turnBeside_met st l D ad cy σ23  _ g27) (zgV zw22_3 zw22_4 zw22_5 zw2_21 zw22_6) rfl ⟨rfl, rfl⟩ 0 hdX5_turnBeside ⟨Nat.le_of_ble_eq_true rfl, Nat.le_of_ble_eq_true rfl⟩ rfl rfl (wC_e7 ad cy σ23) rfl hl rfl (Nat.le_of_ble_eq_true rfl) dX5_carryOn_131 ⟨Nat.zero_le _, Nat.zero_le _⟩ (fun H locs hI => ?_)
  exact z_ireturn hC hI hf dX5_carryOn_134
set_option maxRecDepth 20000 in
set_option maxHeartbeats 4000000 in
theorem bX5_carryOn_54 {st : Nat → Nat} {p : Program} {l : Launch} {e : Env} {s : State} {m : MethodId} {args : Array Value} {below : List Frame} {meth : Method} {c : Code} {D : va_G} {A : Nat → Prop} {ad : Nat → Nat} {cy : Nat → ClassId} (hC : zC p m c cX5_carryOn 4 s args wzX5_carryOn RX5 meth (some .int))  {res : zSt × Int32} {H : Heap} {locs : List Loc} {σ : zSt} {ls : Array Slot} {x1 : Int32} (hI : zI st D (tC cy) (wC ad cy σ) A s H locs) (hl : lv_has ls 4 [(0, .ref (ad 7)), (1, .int x1)]) (hf : fX5_carryOn_54  σ x1 = some res) : W p l e rmX5_carryOn s m args below meth c H locs 0 0 (zQi below args s D (tC cy) (wC ad cy) A res) (F0 m 54 ls []) := by
  have hx := hC.1
  have hb := hC.2.1
  unfold fX5_carryOn_54 at hf
  refine lv_aload_n hx hb dX5_carryOn_54 rfl (lv_at hl 0 rfl) ?_
  refine z_get hC hI hinX5_carryOn_X50 7 (wC_e7 ad cy σ) rfl 0 (by decide) (List.mem_cons_of_mem _ zw7_8) rfl dX5_carryOn_55 ?_
  refine lv_aload_n hx hb dX5_carryOn_58 rfl (lv_at hl 0 rfl) ?_
  refine z_get hC hI hinX5_carryOn_X50 7 (wC_e7 ad cy σ) rfl 2 (by decide) (List.mem_cons_of_mem _ zw7_5) rfl dX5_carryOn_59 ?_
  refine lv_bipush (v := 19) hx hb dX5_carryOn_62 (by decide) ?_
  obtain ⟨q, hf⟩ := zck_use hf
  refine z_iald hC hI 36 23 (wC_e36 ad cy σ) (tC_t36 cy) q dX5_carryOn_64 ?_
  obtain ⟨σ29, v30, g29, hf⟩ := zbi_use hf
  refine z_callVi (As := [.int (zgi σ 36 (19 : Int32).toNatClampNeg)]) (rest := []) hC hI (cX2_read_met st l D ad cy σ (zgi σ 36 (19 : Int32).toNatClampNeg) _ g29) (zgV zw21_6 zw21_7 zw21_8 zw1_21 zw21_9) rfl ⟨rfl, rfl⟩ 1 hdX2_read ⟨Nat.le_of_ble_eq_true rfl, Nat.le_of_ble_eq_true rfl⟩ rfl rfl (wC_e1 ad cy σ) rfl hl rfl (Nat.le_of_ble_eq_true rfl) dX5_carryOn_65 ⟨Nat.zero_le _, Nat.zero_le _⟩ (fun H locs hI => ?_)
  refine lv_istore_n (lv' := [(3, .int v30), (0, .ref (ad 7)), (1, .int x1)]) hx hb dX5_carryOn_68 rfl hl (by decide) rfl (fun ls hl => ?_)
  refine lv_iload_n hx hb dX5_carryOn_69 rfl (lv_at hl 0 rfl) ?_
  refine lv_sipush (v := 221) hx hb dX5_carryOn_70 (by decide) ?_
  refine lv_icmp_eq (tgt := 90) hx hb dX5_carryOn_73 (by decide) (fun q => ?_) (fun q => ?_)
  · replace hf := zif_t q hf
    exact bX5_carryOn_90 hC  hI (lv_sub hl [1] rfl) hf
  replace hf := zif_f q hf
  refine lv_iload_n hx hb dX5_carryOn_76 rfl (lv_at hl 0 rfl) ?_
  refine lv_sipush (v := 237) hx hb dX5_carryOn_77 (by decide) ?_
  refine lv_icmp_eq (tgt := 90) hx hb dX5_carryOn_80 (by decide) (fun q => ?_) (fun q => ?_)
  · replace hf := zif_t q hf
    exact bX5_carryOn_90 hC  hI (lv_sub hl [1] rfl) hf
  replace hf := zif_f q hf
  refine lv_iload_n hx hb dX5_carryOn_83 rfl (lv_at hl 0 rfl) ?_
  refine lv_sipush (v := 253) hx hb dX5_carryOn_84 (by decide) ?_
  refine lv_icmp_ne (tgt := 100) hx hb dX5_carryOn_87 (by decide) (fun q => ?_) (fun q => ?_)
  · replace hf := zif_f q hf
    refine lv_aload_n hx hb dX5_carryOn_100 rfl (lv_at hl 1 rfl) ?_
    refine lv_iload_n hx hb dX5_carryOn_101 rfl (lv_at hl 2 rfl) ?_
    refine lv_sipush (v := 221) hx hb dX5_carryOn_102 (by decide) ?_
    refine lv_icmp_ne (tgt := 113) hx hb dX5_carryOn_105 (by decide) (fun q => ?_) (fun q => ?_)
    · replace hf := zif_f q hf
      refine lv_bipush (v := 17) hx hb dX5_carryOn_113 (by decide) ?_
      exact bX5_carryOn_115 hC  hI (lv_sub hl [1] rfl) hf
    replace hf := zif_t q hf
    refine lv_bipush (v := 16) hx hb dX5_carryOn_108 (by decide) ?_
    refine lv_goto (tgt := 115) hx hb dX5_carryOn_110 (by decide) ?_
    exact bX5_carryOn_115 hC  hI (lv_sub hl [1] rfl) hf
  replace hf := zif_t q hf
  exact bX5_carryOn_90 hC  hI (lv_sub hl [1] rfl) hf
set_option maxRecDepth 20000 in
set_option maxHeartbeats 4000000 in
theorem bX5_carryOn {st : Nat → Nat} {p : Program} {l : Launch} {e : Env} {s : State} {m : MethodId} {args : Array Value} {below : List Frame} {meth : Method} {c : Code} {D : va_G} {A : Nat → Prop} {ad : Nat → Nat} {cy : Nat → ClassId} (hC : zC p m c cX5_carryOn 4 s args wzX5_carryOn RX5 meth (some .int))  {res : zSt × Int32} {H : Heap} {locs : List Loc} {σ : zSt} {ls : Array Slot}  (hI : zI st D (tC cy) (wC ad cy σ) A s H locs) (hl : lv_has ls 4 [(0, .ref (ad 7))]) (hf : fX5_carryOn  σ  = some res) : W p l e rmX5_carryOn s m args below meth c H locs 0 0 (zQi below args s D (tC cy) (wC ad cy) A res) (F0 m 0 ls []) := by
  have hx := hC.1
  have hb := hC.2.1
  unfold fX5_carryOn at hf
  refine lv_aload_n hx hb dX5_carryOn_0 rfl (lv_at hl 0 rfl) ?_
  refine z_get hC hI hinX5_carryOn_X50 7 (wC_e7 ad cy σ) rfl 2 (by decide) (List.mem_cons_of_mem _ zw7_5) rfl dX5_carryOn_1 ?_
  refine lv_bipush (v := 26) hx hb dX5_carryOn_4 (by decide) ?_
  obtain ⟨q, hf⟩ := zck_use hf
  refine z_iald hC hI 36 23 (wC_e36 ad cy σ) (tC_t36 cy) q dX5_carryOn_6 ?_
  refine lv_iconst (v := 1) hx hb dX5_carryOn_7 (by decide) ?_
  refine lv_icmp_ne (tgt := 17) hx hb dX5_carryOn_8 (by decide) (fun q => ?_) (fun q => ?_)
  · replace hf := zif_f q hf
    refine lv_aload_n hx hb dX5_carryOn_17 rfl (lv_at hl 0 rfl) ?_
    refine lv_bipush (v := 6) hx hb dX5_carryOn_18 (by decide) ?_
    obtain ⟨σ31, eσ31⟩ : ∃ z, z = zsi σ 7 4 6 := ⟨_, rfl⟩
    replace hf := zbv_use eσ31 hf
    refine z_put hC hI hinX5_carryOn_X50 tyX5_ok nmX5 7 (wC_e7 ad cy σ) rfl 4 (by decide) (List.mem_cons_of_mem _ zw7_7) rfl rfl rfl (Nat.le_of_ble_eq_true rfl) ((wC_s7_4 ad cy σ 6).trans (congrArg (wC ad cy) eσ31.symm)) dX5_carryOn_20 (fun H locs hI => ?_)
    refine lv_aload_n hx hb dX5_carryOn_23 rfl (lv_at hl 0 rfl) ?_
    refine lv_aload_n hx hb dX5_carryOn_24 rfl (lv_at hl 0 rfl) ?_
    refine lv_bipush (v := 6) hx hb dX5_carryOn_25 (by decide) ?_
    obtain ⟨σ32, v33, g32, hf⟩ := zbi_use hf
    refine z_callVi (As := [.int 6]) (rest := [.ref (ad 7)]) hC hI (cX5_pairAt_met st l D ad cy σ31 6 _ g32) (zgV zw21_15 zw21_16 zw21_17 zw2_21 zw21_18) rfl ⟨rfl, rfl⟩ 1 hdX5_pairAt ⟨Nat.le_of_ble_eq_true rfl, Nat.le_of_ble_eq_true rfl⟩ rfl rfl (wC_e7 ad cy σ31) rfl hl rfl (Nat.le_of_ble_eq_true rfl) dX5_carryOn_27 ⟨Nat.zero_le _, Nat.zero_le _⟩ (fun H locs hI => ?_)
    obtain ⟨σ34, eσ34⟩ : ∃ z, z = zsi σ32 7 5 v33 := ⟨_, rfl⟩
    replace hf := zbv_use eσ34 hf
    refine z_put hC hI hinX5_carryOn_X50 tyX5_ok nmX5 7 (wC_e7 ad cy σ32) rfl 5 (by decide) (List.mem_cons_of_mem _ zw21_14) rfl rfl rfl (Nat.le_of_ble_eq_true rfl) ((wC_s7_5 ad cy σ32 v33).trans (congrArg (wC ad cy) eσ34.symm)) dX5_carryOn_30 (fun H locs hI => ?_)
    refine lv_aload_n hx hb dX5_carryOn_33 rfl (lv_at hl 0 rfl) ?_
    obtain ⟨σ35, v36, g35, hf⟩ := zbi_use hf
    refine z_callVi (As := []) (rest := []) hC hI (cX5_fetchOp_met st l D ad cy σ34  _ g35) (zgV zw21_19 zw21_20 zw21_21 zw2_21 zw21_22) rfl ⟨rfl, rfl⟩ 0 hdX5_fetchOp ⟨Nat.le_of_ble_eq_true rfl, Nat.le_of_ble_eq_true rfl⟩ rfl rfl (wC_e7 ad cy σ34) rfl hl rfl (Nat.le_of_ble_eq_true rfl) dX5_carryOn_34 ⟨Nat.zero_le _, Nat.zero_le _⟩ (fun H locs hI => ?_)
    refine lv_istore_n (lv' := [(1, .int v36), (0, .ref (ad 7))]) hx hb dX5_carryOn_37 rfl hl (by decide) rfl (fun ls hl => ?_)
    refine lv_iconst (v := 0) hx hb dX5_carryOn_38 (by decide) ?_
    refine lv_istore_n (lv' := [(2, .int 0), (1, .int v36), (0, .ref (ad 7))]) hx hb dX5_carryOn_39 rfl hl (by decide) rfl (fun ls hl => ?_)
    refine lv_iload_n hx hb dX5_carryOn_40 rfl (lv_at hl 1 rfl) ?_
    refine lv_sipush (v := 221) hx hb dX5_carryOn_41 (by decide) ?_
    refine lv_icmp_eq (tgt := 54) hx hb dX5_carryOn_44 (by decide) (fun q => ?_) (fun q => ?_)
    · replace hf := zif_t q hf
      exact bX5_carryOn_54 hC  hI (lv_sub hl [2, 1] rfl) hf
    replace hf := zif_f q hf
    refine lv_iload_n hx hb dX5_carryOn_47 rfl (lv_at hl 1 rfl) ?_
    refine lv_sipush (v := 253) hx hb dX5_carryOn_48 (by decide) ?_
    refine lv_icmp_ne (tgt := 141) hx hb dX5_carryOn_51 (by decide) (fun q => ?_) (fun q => ?_)
    · replace hf := zif_f q hf
      exact bX5_carryOn_141 hC  hI (lv_sub hl [2, 1, 0] rfl) hf
    replace hf := zif_t q hf
    exact bX5_carryOn_54 hC  hI (lv_sub hl [2, 1] rfl) hf
  replace hf := zif_t q hf
  refine lv_aload_n hx hb dX5_carryOn_11 rfl (lv_at hl 0 rfl) ?_
  obtain ⟨σ37, g37, hf⟩ := zbu_use hf
  refine z_callVu (As := []) (rest := []) hC hI (cX5_growR_met st l D ad cy σ  _ g37) (zgV zw19_22 zw19_23 zw20_0 zw2_21 zw20_1) rfl ⟨rfl, rfl⟩ 0 hdX5_growR ⟨Nat.le_of_ble_eq_true rfl, Nat.le_of_ble_eq_true rfl⟩ rfl rfl (wC_e7 ad cy σ) rfl hl rfl (Nat.le_of_ble_eq_true rfl) dX5_carryOn_12 ⟨Nat.zero_le _, Nat.zero_le _⟩ (fun H locs hI => ?_)
  refine lv_iconst (v := 4) hx hb dX5_carryOn_15 (by decide) ?_
  exact z_ireturn hC hI hf dX5_carryOn_16
set_option maxRecDepth 20000 in
theorem cX5_carryOn_met (st : Nat → Nat) (l : Launch) (D : va_G) (ad : Nat → Nat) (cy : Nat → ClassId) (σ : zSt)  (res : zSt × Int32) (hf : fX5_carryOn σ  = some res) (sz : Nat) : zMi st l yX5_carryOn wzX5_carryOn rmX5_carryOn [.ref (ad 7)] D (tC cy) (wC ad cy) sz σ res :=
  zMi.of (cc := cX5_carryOn) (maxL := 4) (ret := (some .int)) (by decide) rfl (Nat.le_of_ble_eq_true rfl) (fun p e s m args below meth c hC A hI ls hl => bX5_carryOn hC hI hl hf)
theorem hdX5_carryOn : yX5_carryOn.cls = RX5 ∧ yX5_carryOn.cls ≠ "java/lang/invoke/MethodHandle" ∧ yX5_carryOn.cls ≠ "java/lang/invoke/VarHandle" ∧ (parseMethodDescriptor yX5_carryOn.desc).map (fun d => d.parameters.length) = some 0 := by decide +kernel
noncomputable def rmX6_size_k11 : Room := { frames := 0, cells := 0, slots := 0, locals := 0 }
noncomputable def wzX6_size : List Cond := .code yX6_size cX6_size 1 (some .int) :: wsL_law
theorem hinX6_size_k11_X60 : ∀ w ∈ wsX60, w ∈ wzX6_size := fun w h => List.mem_cons_of_mem _ (inlX6 w h)
noncomputable def fX6_size_k11  (σ : zSt)  : Option (zSt × Int32) :=
  some (σ, zgi σ 11 3)
set_option maxRecDepth 20000 in
set_option maxHeartbeats 4000000 in
theorem bX6_size_k11 {st : Nat → Nat} {p : Program} {l : Launch} {e : Env} {s : State} {m : MethodId} {args : Array Value} {below : List Frame} {meth : Method} {c : Code} {D : va_G} {A : Nat → Prop} {ad : Nat → Nat} {cy : Nat → ClassId} (hC : zC p m c cX6_size 1 s args wzX6_size RX6 meth (some .int))  {res : zSt × Int32} {H : Heap} {locs : List Loc} {σ : zSt} {ls : Array Slot}  (hI : zI st D (tC cy) (wC ad cy σ) A s H locs) (hl : lv_has ls 1 [(0, .ref (ad 11))]) (hf : fX6_size_k11  σ  = some res) : W p l e rmX6_size_k11 s m args below meth c H locs 0 0 (zQi below args s D (tC cy) (wC ad cy) A res) (F0 m 0 ls []) := by
  have hx := hC.1
  have hb := hC.2.1
  unfold fX6_size_k11 at hf
  refine lv_aload_n hx hb dX6_size_0 rfl (lv_at hl 0 rfl) ?_
  refine z_get hC hI hinX6_size_k11_X60 11 (wC_e11 ad cy σ) rfl 3 (by decide) (List.mem_cons_of_mem _ zw41_23) rfl dX6_size_1 ?_
  exact z_ireturn hC hI hf dX6_size_4
set_option maxRecDepth 20000 in
theorem cX6_size_k11_met (st : Nat → Nat) (l : Launch) (D : va_G) (ad : Nat → Nat) (cy : Nat → ClassId) (σ : zSt)  (res : zSt × Int32) (hf : fX6_size_k11 σ  = some res) (sz : Nat) : zMi st l yX6_size wzX6_size rmX6_size_k11 [.ref (ad 11)] D (tC cy) (wC ad cy) sz σ res :=
  zMi.of (cc := cX6_size) (maxL := 1) (ret := (some .int)) (by decide) rfl (Nat.le_of_ble_eq_true rfl) (fun p e s m args below meth c hC A hI ls hl => bX6_size_k11 hC hI hl hf)
theorem hdX6_size_k11 : yX6_size.cls = RX6 ∧ yX6_size.cls ≠ "java/lang/invoke/MethodHandle" ∧ yX6_size.cls ≠ "java/lang/invoke/VarHandle" ∧ (parseMethodDescriptor yX6_size.desc).map (fun d => d.parameters.length) = some 0 := by decide +kernel
noncomputable def rmX6_size_k12 : Room := { frames := 0, cells := 0, slots := 0, locals := 0 }
theorem hinX6_size_k12_X60 : ∀ w ∈ wsX60, w ∈ wzX6_size := fun w h => List.mem_cons_of_mem _ (inlX6 w h)
noncomputable def fX6_size_k12  (σ : zSt)  : Option (zSt × Int32) :=
  some (σ, zgi σ 12 3)
set_option maxRecDepth 20000 in
set_option maxHeartbeats 4000000 in
theorem bX6_size_k12 {st : Nat → Nat} {p : Program} {l : Launch} {e : Env} {s : State} {m : MethodId} {args : Array Value} {below : List Frame} {meth : Method} {c : Code} {D : va_G} {A : Nat → Prop} {ad : Nat → Nat} {cy : Nat → ClassId} (hC : zC p m c cX6_size 1 s args wzX6_size RX6 meth (some .int))  {res : zSt × Int32} {H : Heap} {locs : List Loc} {σ : zSt} {ls : Array Slot}  (hI : zI st D (tC cy) (wC ad cy σ) A s H locs) (hl : lv_has ls 1 [(0, .ref (ad 12))]) (hf : fX6_size_k12  σ  = some res) : W p l e rmX6_size_k12 s m args below meth c H locs 0 0 (zQi below args s D (tC cy) (wC ad cy) A res) (F0 m 0 ls []) := by
  have hx := hC.1
  have hb := hC.2.1
  unfold fX6_size_k12 at hf
  refine lv_aload_n hx hb dX6_size_0 rfl (lv_at hl 0 rfl) ?_
  refine z_get hC hI hinX6_size_k12_X60 12 (wC_e12 ad cy σ) rfl 3 (by decide) (List.mem_cons_of_mem _ zw41_23) rfl dX6_size_1 ?_
  exact z_ireturn hC hI hf dX6_size_4
set_option maxRecDepth 20000 in
theorem cX6_size_k12_met (st : Nat → Nat) (l : Launch) (D : va_G) (ad : Nat → Nat) (cy : Nat → ClassId) (σ : zSt)  (res : zSt × Int32) (hf : fX6_size_k12 σ  = some res) (sz : Nat) : zMi st l yX6_size wzX6_size rmX6_size_k12 [.ref (ad 12)] D (tC cy) (wC ad cy) sz σ res :=
  zMi.of (cc := cX6_size) (maxL := 1) (ret := (some .int)) (by decide) rfl (Nat.le_of_ble_eq_true rfl) (fun p e s m args below meth c hC A hI ls hl => bX6_size_k12 hC hI hl hf)
theorem hdX6_size_k12 : yX6_size.cls = RX6 ∧ yX6_size.cls ≠ "java/lang/invoke/MethodHandle" ∧ yX6_size.cls ≠ "java/lang/invoke/VarHandle" ∧ (parseMethodDescriptor yX6_size.desc).map (fun d => d.parameters.length) = some 0 := by decide +kernel
noncomputable def rmX6_takeFirst_k11 : Room := { frames := 0, cells := 0, slots := 0, locals := 0 }
noncomputable def wzX6_takeFirst : List Cond := .code yX6_takeFirst cX6_takeFirst 3 (some .long) :: wsL_law
theorem hinX6_takeFirst_k11_X60 : ∀ w ∈ wsX60, w ∈ wzX6_takeFirst := fun w h => List.mem_cons_of_mem _ (inlX6 w h)
noncomputable def fX6_takeFirst_k11  (σ : zSt)  : Option (zSt × Int64) :=
  if (zgi σ 11 3) = 0 then some (σ, 0) else
  zck (zin ((zgi σ 11 2) &&& 4095) 4096) (
  zbv (zgl σ 46 ((zgi σ 11 2) &&& 4095).toNatClampNeg) (fun v1 =>
  zbv (zsi σ 11 2 (((zgi σ 11 2) + 1) &&& 4095)) (fun σ2 =>
  zbv (zsi σ2 11 3 ((zgi σ2 11 3) - 1)) (fun σ3 =>
  some (σ3, v1)))))
set_option maxRecDepth 20000 in
set_option maxHeartbeats 4000000 in
theorem bX6_takeFirst_k11 {st : Nat → Nat} {p : Program} {l : Launch} {e : Env} {s : State} {m : MethodId} {args : Array Value} {below : List Frame} {meth : Method} {c : Code} {D : va_G} {A : Nat → Prop} {ad : Nat → Nat} {cy : Nat → ClassId} (hC : zC p m c cX6_takeFirst 3 s args wzX6_takeFirst RX6 meth (some .long))  {res : zSt × Int64} {H : Heap} {locs : List Loc} {σ : zSt} {ls : Array Slot}  (hI : zI st D (tC cy) (wC ad cy σ) A s H locs) (hl : lv_has ls 3 [(0, .ref (ad 11))]) (hf : fX6_takeFirst_k11  σ  = some res) : W p l e rmX6_takeFirst_k11 s m args below meth c H locs 0 0 (zQl below args s D (tC cy) (wC ad cy) A res) (F0 m 0 ls []) := by
  have hx := hC.1
  have hb := hC.2.1
  unfold fX6_takeFirst_k11 at hf
  refine lv_aload_n hx hb dX6_takeFirst_0 rfl (lv_at hl 0 rfl) ?_
  refine z_get hC hI hinX6_takeFirst_k11_X60 11 (wC_e11 ad cy σ) rfl 3 (by decide) (List.mem_cons_of_mem _ zw41_23) rfl dX6_takeFirst_1 ?_
  refine lv_if_ne (tgt := 9) hx hb dX6_takeFirst_4 (by decide) (fun q => ?_) (fun q => ?_)
  · replace hf := zif_f q hf
    refine lv_aload_n hx hb dX6_takeFirst_9 rfl (lv_at hl 0 rfl) ?_
    refine z_get hC hI hinX6_takeFirst_k11_X60 11 (wC_e11 ad cy σ) rfl 0 (by decide) (List.mem_cons_of_mem _ zw8_3) rfl dX6_takeFirst_10 ?_
    refine lv_aload_n hx hb dX6_takeFirst_13 rfl (lv_at hl 0 rfl) ?_
    refine z_get hC hI hinX6_takeFirst_k11_X60 11 (wC_e11 ad cy σ) rfl 2 (by decide) (List.mem_cons_of_mem _ zw41_22) rfl dX6_takeFirst_14 ?_
    refine lv_sipush (v := 4095) hx hb dX6_takeFirst_17 (by decide) ?_
    refine lv_iand hx hb dX6_takeFirst_20 ?_
    obtain ⟨q, hf⟩ := zck_use hf
    refine z_lald hC hI 46 33 (wC_e46 ad cy σ) (tC_t46 cy) q dX6_takeFirst_21 ?_
    refine lv_topl (fun v1 ev1 => ?_)
    replace hf := zbv_use ev1 hf
    refine lv_lstore_n (lv' := [(1, .long v1), (0, .ref (ad 11))]) hx hb dX6_takeFirst_22 rfl hl (by decide) rfl (fun ls hl => ?_)
    refine lv_aload_n hx hb dX6_takeFirst_23 rfl (lv_at hl 1 rfl) ?_
    refine lv_aload_n hx hb dX6_takeFirst_24 rfl (lv_at hl 1 rfl) ?_
    refine z_get hC hI hinX6_takeFirst_k11_X60 11 (wC_e11 ad cy σ) rfl 2 (by decide) (List.mem_cons_of_mem _ zw41_22) rfl dX6_takeFirst_25 ?_
    refine lv_iconst (v := 1) hx hb dX6_takeFirst_28 (by decide) ?_
    refine lv_iadd hx hb dX6_takeFirst_29 ?_
    refine lv_sipush (v := 4095) hx hb dX6_takeFirst_30 (by decide) ?_
    refine lv_iand hx hb dX6_takeFirst_33 ?_
    obtain ⟨σ2, eσ2⟩ : ∃ z, z = zsi σ 11 2 (((zgi σ 11 2) + 1) &&& 4095) := ⟨_, rfl⟩
    replace hf := zbv_use eσ2 hf
    refine z_put hC hI hinX6_takeFirst_k11_X60 tyX6_ok nmX6 11 (wC_e11 ad cy σ) rfl 2 (by decide) (List.mem_cons_of_mem _ zw41_22) rfl rfl rfl (Nat.le_of_ble_eq_true rfl) ((wC_s11_2 ad cy σ (((zgi σ 11 2) + 1) &&& 4095)).trans (congrArg (wC ad cy) eσ2.symm)) dX6_takeFirst_34 (fun H locs hI => ?_)
    refine lv_aload_n hx hb dX6_takeFirst_37 rfl (lv_at hl 1 rfl) ?_
    refine lv_dup hx hb dX6_takeFirst_38 rfl ?_
    refine z_get hC hI hinX6_takeFirst_k11_X60 11 (wC_e11 ad cy σ2) rfl 3 (by decide) (List.mem_cons_of_mem _ zw41_23) rfl dX6_takeFirst_39 ?_
    refine lv_iconst (v := 1) hx hb dX6_takeFirst_42 (by decide) ?_
    refine lv_isub hx hb dX6_takeFirst_43 ?_
    obtain ⟨σ3, eσ3⟩ : ∃ z, z = zsi σ2 11 3 ((zgi σ2 11 3) - 1) := ⟨_, rfl⟩
    replace hf := zbv_use eσ3 hf
    refine z_put hC hI hinX6_takeFirst_k11_X60 tyX6_ok nmX6 11 (wC_e11 ad cy σ2) rfl 3 (by decide) (List.mem_cons_of_mem _ zw41_23) rfl rfl rfl (Nat.le_of_ble_eq_true rfl) ((wC_s11_3 ad cy σ2 ((zgi σ2 11 3) - 1)).trans (congrArg (wC ad cy) eσ3.symm)) dX6_takeFirst_44 (fun H locs hI => ?_)
    refine lv_lload_n hx hb dX6_takeFirst_47 rfl (lv_at hl 0 rfl) ?_
    exact z_lreturn hC hI hf dX6_takeFirst_48
  replace hf := zif_t q hf
  refine lv_lconst (v := 0) hx hb dX6_takeFirst_7 (by decide) ?_
  exact z_lreturn hC hI hf dX6_takeFirst_8
set_option maxRecDepth 20000 in
theorem cX6_takeFirst_k11_met (st : Nat → Nat) (l : Launch) (D : va_G) (ad : Nat → Nat) (cy : Nat → ClassId) (σ : zSt)  (res : zSt × Int64) (hf : fX6_takeFirst_k11 σ  = some res) (sz : Nat) : zMl st l yX6_takeFirst wzX6_takeFirst rmX6_takeFirst_k11 [.ref (ad 11)] D (tC cy) (wC ad cy) sz σ res :=
  zMl.of (cc := cX6_takeFirst) (maxL := 3) (ret := (some .long)) (by decide) rfl (Nat.le_of_ble_eq_true rfl) (fun p e s m args below meth c hC A hI ls hl => bX6_takeFirst_k11 hC hI hl hf)
theorem hdX6_takeFirst_k11 : yX6_takeFirst.cls = RX6 ∧ yX6_takeFirst.cls ≠ "java/lang/invoke/MethodHandle" ∧ yX6_takeFirst.cls ≠ "java/lang/invoke/VarHandle" ∧ (parseMethodDescriptor yX6_takeFirst.desc).map (fun d => d.parameters.length) = some 0 := by decide +kernel
noncomputable def rmX6_takeFirst_k12 : Room := { frames := 0, cells := 0, slots := 0, locals := 0 }
theorem hinX6_takeFirst_k12_X60 : ∀ w ∈ wsX60, w ∈ wzX6_takeFirst := fun w h => List.mem_cons_of_mem _ (inlX6 w h)
noncomputable def fX6_takeFirst_k12  (σ : zSt)  : Option (zSt × Int64) :=
  if (zgi σ 12 3) = 0 then some (σ, 0) else
  zck (zin ((zgi σ 12 2) &&& 4095) 4096) (
  zbv (zgl σ 48 ((zgi σ 12 2) &&& 4095).toNatClampNeg) (fun v1 =>
  zbv (zsi σ 12 2 (((zgi σ 12 2) + 1) &&& 4095)) (fun σ2 =>
  zbv (zsi σ2 12 3 ((zgi σ2 12 3) - 1)) (fun σ3 =>
  some (σ3, v1)))))
set_option maxRecDepth 20000 in
set_option maxHeartbeats 4000000 in
theorem bX6_takeFirst_k12 {st : Nat → Nat} {p : Program} {l : Launch} {e : Env} {s : State} {m : MethodId} {args : Array Value} {below : List Frame} {meth : Method} {c : Code} {D : va_G} {A : Nat → Prop} {ad : Nat → Nat} {cy : Nat → ClassId} (hC : zC p m c cX6_takeFirst 3 s args wzX6_takeFirst RX6 meth (some .long))  {res : zSt × Int64} {H : Heap} {locs : List Loc} {σ : zSt} {ls : Array Slot}  (hI : zI st D (tC cy) (wC ad cy σ) A s H locs) (hl : lv_has ls 3 [(0, .ref (ad 12))]) (hf : fX6_takeFirst_k12  σ  = some res) : W p l e rmX6_takeFirst_k12 s m args below meth c H locs 0 0 (zQl below args s D (tC cy) (wC ad cy) A res) (F0 m 0 ls []) := by
  have hx := hC.1
  have hb := hC.2.1
  unfold fX6_takeFirst_k12 at hf
  refine lv_aload_n hx hb dX6_takeFirst_0 rfl (lv_at hl 0 rfl) ?_
  refine z_get hC hI hinX6_takeFirst_k12_X60 12 (wC_e12 ad cy σ) rfl 3 (by decide) (List.mem_cons_of_mem _ zw41_23) rfl dX6_takeFirst_1 ?_
  refine lv_if_ne (tgt := 9) hx hb dX6_takeFirst_4 (by decide) (fun q => ?_) (fun q => ?_)
  · replace hf := zif_f q hf
    refine lv_aload_n hx hb dX6_takeFirst_9 rfl (lv_at hl 0 rfl) ?_
    refine z_get hC hI hinX6_takeFirst_k12_X60 12 (wC_e12 ad cy σ) rfl 0 (by decide) (List.mem_cons_of_mem _ zw8_3) rfl dX6_takeFirst_10 ?_
    refine lv_aload_n hx hb dX6_takeFirst_13 rfl (lv_at hl 0 rfl) ?_
    refine z_get hC hI hinX6_takeFirst_k12_X60 12 (wC_e12 ad cy σ) rfl 2 (by decide) (List.mem_cons_of_mem _ zw41_22) rfl dX6_takeFirst_14 ?_
    refine lv_sipush (v := 4095) hx hb dX6_takeFirst_17 (by decide) ?_
    refine lv_iand hx hb dX6_takeFirst_20 ?_
    obtain ⟨q, hf⟩ := zck_use hf
    refine z_lald hC hI 48 35 (wC_e48 ad cy σ) (tC_t48 cy) q dX6_takeFirst_21 ?_
    refine lv_topl (fun v1 ev1 => ?_)
    replace hf := zbv_use ev1 hf
    refine lv_lstore_n (lv' := [(1, .long v1), (0, .ref (ad 12))]) hx hb dX6_takeFirst_22 rfl hl (by decide) rfl (fun ls hl => ?_)
    refine lv_aload_n hx hb dX6_takeFirst_23 rfl (lv_at hl 1 rfl) ?_
    refine lv_aload_n hx hb dX6_takeFirst_24 rfl (lv_at hl 1 rfl) ?_
    refine z_get hC hI hinX6_takeFirst_k12_X60 12 (wC_e12 ad cy σ) rfl 2 (by decide) (List.mem_cons_of_mem _ zw41_22) rfl dX6_takeFirst_25 ?_
    refine lv_iconst (v := 1) hx hb dX6_takeFirst_28 (by decide) ?_
    refine lv_iadd hx hb dX6_takeFirst_29 ?_
    refine lv_sipush (v := 4095) hx hb dX6_takeFirst_30 (by decide) ?_
    refine lv_iand hx hb dX6_takeFirst_33 ?_
    obtain ⟨σ2, eσ2⟩ : ∃ z, z = zsi σ 12 2 (((zgi σ 12 2) + 1) &&& 4095) := ⟨_, rfl⟩
    replace hf := zbv_use eσ2 hf
    refine z_put hC hI hinX6_takeFirst_k12_X60 tyX6_ok nmX6 12 (wC_e12 ad cy σ) rfl 2 (by decide) (List.mem_cons_of_mem _ zw41_22) rfl rfl rfl (Nat.le_of_ble_eq_true rfl) ((wC_s12_2 ad cy σ (((zgi σ 12 2) + 1) &&& 4095)).trans (congrArg (wC ad cy) eσ2.symm)) dX6_takeFirst_34 (fun H locs hI => ?_)
    refine lv_aload_n hx hb dX6_takeFirst_37 rfl (lv_at hl 1 rfl) ?_
    refine lv_dup hx hb dX6_takeFirst_38 rfl ?_
    refine z_get hC hI hinX6_takeFirst_k12_X60 12 (wC_e12 ad cy σ2) rfl 3 (by decide) (List.mem_cons_of_mem _ zw41_23) rfl dX6_takeFirst_39 ?_
    refine lv_iconst (v := 1) hx hb dX6_takeFirst_42 (by decide) ?_
    refine lv_isub hx hb dX6_takeFirst_43 ?_
    obtain ⟨σ3, eσ3⟩ : ∃ z, z = zsi σ2 12 3 ((zgi σ2 12 3) - 1) := ⟨_, rfl⟩
    replace hf := zbv_use eσ3 hf
    refine z_put hC hI hinX6_takeFirst_k12_X60 tyX6_ok nmX6 12 (wC_e12 ad cy σ2) rfl 3 (by decide) (List.mem_cons_of_mem _ zw41_23) rfl rfl rfl (Nat.le_of_ble_eq_true rfl) ((wC_s12_3 ad cy σ2 ((zgi σ2 12 3) - 1)).trans (congrArg (wC ad cy) eσ3.symm)) dX6_takeFirst_44 (fun H locs hI => ?_)
    refine lv_lload_n hx hb dX6_takeFirst_47 rfl (lv_at hl 0 rfl) ?_
    exact z_lreturn hC hI hf dX6_takeFirst_48
  replace hf := zif_t q hf
  refine lv_lconst (v := 0) hx hb dX6_takeFirst_7 (by decide) ?_
  exact z_lreturn hC hI hf dX6_takeFirst_8
set_option maxRecDepth 20000 in
theorem cX6_takeFirst_k12_met (st : Nat → Nat) (l : Launch) (D : va_G) (ad : Nat → Nat) (cy : Nat → ClassId) (σ : zSt)  (res : zSt × Int64) (hf : fX6_takeFirst_k12 σ  = some res) (sz : Nat) : zMl st l yX6_takeFirst wzX6_takeFirst rmX6_takeFirst_k12 [.ref (ad 12)] D (tC cy) (wC ad cy) sz σ res :=
  zMl.of (cc := cX6_takeFirst) (maxL := 3) (ret := (some .long)) (by decide) rfl (Nat.le_of_ble_eq_true rfl) (fun p e s m args below meth c hC A hI ls hl => bX6_takeFirst_k12 hC hI hl hf)
theorem hdX6_takeFirst_k12 : yX6_takeFirst.cls = RX6 ∧ yX6_takeFirst.cls ≠ "java/lang/invoke/MethodHandle" ∧ yX6_takeFirst.cls ≠ "java/lang/invoke/VarHandle" ∧ (parseMethodDescriptor yX6_takeFirst.desc).map (fun d => d.parameters.length) = some 0 := by decide +kernel
noncomputable def rmJ7_fill_53178_k30 : Room := { frames := 0, cells := 0, slots := 0, locals := 0 }
noncomputable def fJ7_fill_53178_k30_5_body (k5 : zSt → Int32 → Int32 → Int32 → Option (zSt)) (σ : zSt) (x1 : Int32) (x2 : Int32) (x3 : Int32) : Option (zSt) :=
  if x3 ≤ x2 then some σ else
  zck (zin x2 19) (zbv (zsi σ 30 (x2.toNatClampNeg) x1) (fun σ1 =>
  zbv (x2 + 1) (fun v2 =>
  k5 σ1 x1 v2 x3)))
noncomputable def fJ7_fill_53178_k30_5  : Nat → zSt → Int32 → Int32 → Int32 → Option (zSt)
  | 0, _, _, _, _ => none
  | n + 1, σ, x1, x2, x3 => fJ7_fill_53178_k30_5_body (fJ7_fill_53178_k30_5  n) σ x1 x2 x3
noncomputable def fJ7_fill_53178_k30  (σ : zSt) (x1 : Int32) : Option (zSt) :=
  fJ7_fill_53178_k30_5 zfuel σ x1 0 19
set_option maxRecDepth 20000 in
set_option maxHeartbeats 4000000 in
theorem bJ7_fill_53178_k30_5_body {st : Nat → Nat} {p : Program} {l : Launch} {e : Env} {s : State} {m : MethodId} {args : Array Value} {below : List Frame} {meth : Method} {c : Code} {D : va_G} {A : Nat → Prop} {ad : Nat → Nat} {cy : Nat → ClassId} (hC : zC p m c cJ7_fill_53178 4 s args wzJ7_fill_53178 RJ7 meth none) {k5 : zSt → Int32 → Int32 → Int32 → Option (zSt)} {res : zSt} (hk5 : ∀ (H : Heap) (locs : List Loc) (σ : zSt) (ls : Array Slot) (x1 : Int32) (x2 : Int32) (x3 : Int32), zI st D (tC cy) (wC ad cy σ) A s H locs → lv_has ls 4 [(0, .ref (ad 30)), (1, .int x1), (2, .int x2), (3, .int x3)] → k5 σ x1 x2 x3 = some res → W p l e rmJ7_fill_53178_k30 s m args below meth c H locs 0 0 (zQu below args s D (tC cy) (wC ad cy) A res) (F0 m 5 ls [])) {H : Heap} {locs : List Loc} {σ : zSt} {ls : Array Slot} {x1 : Int32} {x2 : Int32} {x3 : Int32} (hI : zI st D (tC cy) (wC ad cy σ) A s H locs) (hl : lv_has ls 4 [(0, .ref (ad 30)), (1, .int x1), (2, .int x2), (3, .int x3)]) (hf : fJ7_fill_53178_k30_5_body k5 σ x1 x2 x3 = some res) : W p l e rmJ7_fill_53178_k30 s m args below meth c H locs 0 0 (zQu below args s D (tC cy) (wC ad cy) A res) (F0 m 5 ls []) := by
  have hx := hC.1
  have hb := hC.2.1
  unfold fJ7_fill_53178_k30_5_body at hf
  refine lv_iload_n hx hb dJ7_fill_53178_5 rfl (lv_at hl 2 rfl) ?_
  refine lv_iload_n hx hb dJ7_fill_53178_6 rfl (lv_at hl 3 rfl) ?_
  refine lv_icmp_ge (tgt := 20) hx hb dJ7_fill_53178_7 (by decide) (fun q => ?_) (fun q => ?_)
  · replace hf := zif_t q hf
    exact z_return hC hI hf dJ7_fill_53178_20
  replace hf := zif_f q hf
  refine lv_aload_n hx hb dJ7_fill_53178_10 rfl (lv_at hl 0 rfl) ?_
  refine lv_iload_n hx hb dJ7_fill_53178_11 rfl (lv_at hl 2 rfl) ?_
  refine lv_iload_n hx hb dJ7_fill_53178_12 rfl (lv_at hl 1 rfl) ?_
  obtain ⟨q, hf⟩ := zck_use hf
  obtain ⟨σ1, eσ1⟩ : ∃ z, z = zsi σ 30 (x2.toNatClampNeg) x1 := ⟨_, rfl⟩
  replace hf := zbv_use eσ1 hf
  refine z_iast hC hI 30 17 (wC_e30 ad cy σ) (tC_t30 cy) q ((wC_s30 ad cy σ _ _).trans (congrArg (wC ad cy) eσ1.symm)) dJ7_fill_53178_13 (fun H locs hI => ?_)
  obtain ⟨v2, ev2⟩ : ∃ z : Int32, z = x2 + 1 := ⟨_, rfl⟩
  replace hf := zbv_use ev2 hf
  refine lv_iinc (v := v2) (lv' := [(2, .int v2), (0, .ref (ad 30)), (1, .int x1), (3, .int x3)]) hx hb dJ7_fill_53178_14 hl (k := 2) rfl (by rw [ev2]; rfl) (by decide) rfl (fun ls hl => ?_)
  refine lv_goto (tgt := 5) hx hb dJ7_fill_53178_17 (by decide) ?_
  exact hk5 _ _ _ _ _ _ _ hI (lv_sub hl [1, 2, 0, 3] rfl) hf
theorem blJ7_fill_53178_k30_5 {st : Nat → Nat} {p : Program} {l : Launch} {e : Env} {s : State} {m : MethodId} {args : Array Value} {below : List Frame} {meth : Method} {c : Code} {D : va_G} {A : Nat → Prop} {ad : Nat → Nat} {cy : Nat → ClassId} (hC : zC p m c cJ7_fill_53178 4 s args wzJ7_fill_53178 RJ7 meth none)  {res : zSt} : ∀ (n : Nat) (H : Heap) (locs : List Loc) (σ : zSt) (ls : Array Slot) (x1 : Int32) (x2 : Int32) (x3 : Int32), zI st D (tC cy) (wC ad cy σ) A s H locs → lv_has ls 4 [(0, .ref (ad 30)), (1, .int x1), (2, .int x2), (3, .int x3)] → fJ7_fill_53178_k30_5  n σ x1 x2 x3 = some res → W p l e rmJ7_fill_53178_k30 s m args below meth c H locs 0 0 (zQu below args s D (tC cy) (wC ad cy) A res) (F0 m 5 ls []) := by
  intro n
  induction n with
  | zero => intro H locs σ ls x1 x2 x3 hI hl hf; cases hf
  | succ n ih => intro H locs σ ls x1 x2 x3 hI hl hf; exact bJ7_fill_53178_k30_5_body hC ih hI hl hf
set_option maxRecDepth 20000 in
set_option maxHeartbeats 4000000 in
theorem bJ7_fill_53178_k30 {st : Nat → Nat} {p : Program} {l : Launch} {e : Env} {s : State} {m : MethodId} {args : Array Value} {below : List Frame} {meth : Method} {c : Code} {D : va_G} {A : Nat → Prop} {ad : Nat → Nat} {cy : Nat → ClassId} (hC : zC p m c cJ7_fill_53178 4 s args wzJ7_fill_53178 RJ7 meth none)  {res : zSt} {H : Heap} {locs : List Loc} {σ : zSt} {ls : Array Slot} {x1 : Int32} (hI : zI st D (tC cy) (wC ad cy σ) A s H locs) (hl : lv_has ls 4 [(0, .ref (ad 30)), (1, .int x1)]) (hf : fJ7_fill_53178_k30  σ x1 = some res) : W p l e rmJ7_fill_53178_k30 s m args below meth c H locs 0 0 (zQu below args s D (tC cy) (wC ad cy) A res) (F0 m 0 ls []) := by
  have hx := hC.1
  have hb := hC.2.1
  unfold fJ7_fill_53178_k30 at hf
  refine lv_iconst (v := 0) hx hb dJ7_fill_53178_0 (by decide) ?_
  refine lv_istore_n (lv' := [(2, .int 0), (0, .ref (ad 30)), (1, .int x1)]) hx hb dJ7_fill_53178_1 rfl hl (by decide) rfl (fun ls hl => ?_)
  refine lv_aload_n hx hb dJ7_fill_53178_2 rfl (lv_at hl 1 rfl) ?_
  refine z_alen (v := 19) hC hI 30 17 (wC_e30 ad cy σ) (tC_t30 cy) rfl dJ7_fill_53178_3 ?_
  refine lv_istore_n (lv' := [(3, .int 19), (2, .int 0), (0, .ref (ad 30)), (1, .int x1)]) hx hb dJ7_fill_53178_4 rfl hl (by decide) rfl (fun ls hl => ?_)
  exact blJ7_fill_53178_k30_5 hC  zfuel _ _ _ _ _ _ _ hI (lv_sub hl [2, 3, 1, 0] rfl) hf
set_option maxRecDepth 20000 in
theorem cJ7_fill_53178_k30_met (st : Nat → Nat) (l : Launch) (D : va_G) (ad : Nat → Nat) (cy : Nat → ClassId) (σ : zSt) (x1 : Int32) (res : zSt) (hf : fJ7_fill_53178_k30 σ x1 = some res) (sz : Nat) : zMu st l yJ7_fill_53178 wzJ7_fill_53178 rmJ7_fill_53178_k30 [.ref (ad 30), .int x1] D (tC cy) (wC ad cy) sz σ res :=
  zMu.of (cc := cJ7_fill_53178) (maxL := 4) (ret := none) (by decide) rfl (Nat.le_of_ble_eq_true rfl) (fun p e s m args below meth c hC A hI ls hl => bJ7_fill_53178_k30 hC hI hl hf)
theorem hdJ7_fill_53178_k30 : yJ7_fill_53178.cls ≠ "java/lang/invoke/MethodHandle" ∧ yJ7_fill_53178.cls ≠ "java/lang/invoke/VarHandle" ∧ (parseMethodDescriptor yJ7_fill_53178.desc).map (fun d => d.parameters.length) = some 2 := by decide +kernel
noncomputable def rmJ7_fill_fda19_k30 : Room := { frames := 1, cells := 0, slots := 0, locals := 22 }
noncomputable def fJ7_fill_fda19_k30_10_body (k10 : zSt → Int32 → Int32 → Int32 → Option (zSt)) (σ : zSt) (x2 : Int32) (x3 : Int32) (x4 : Int32) : Option (zSt) :=
  if x2 ≤ x4 then some σ else
  zck (zin x4 19) (zbv (zsi σ 30 (x4.toNatClampNeg) x3) (fun σ1 =>
  zbv (x4 + 1) (fun v2 =>
  k10 σ1 x2 x3 v2)))
noncomputable def fJ7_fill_fda19_k30_10  : Nat → zSt → Int32 → Int32 → Int32 → Option (zSt)
  | 0, _, _, _, _ => none
  | n + 1, σ, x2, x3, x4 => fJ7_fill_fda19_k30_10_body (fJ7_fill_fda19_k30_10  n) σ x2 x3 x4
noncomputable def fJ7_fill_fda19_k30  (σ : zSt) (x1 : Int32) (x2 : Int32) (x3 : Int32) : Option (zSt) :=
  zbu (fJ7_rangeCheck_23922 σ 19 x1 x2) (fun σ3 =>
  fJ7_fill_fda19_k30_10 zfuel σ3 x2 x3 x1)
set_option maxRecDepth 20000 in
set_option maxHeartbeats 4000000 in
theorem bJ7_fill_fda19_k30_10_body {st : Nat → Nat} {p : Program} {l : Launch} {e : Env} {s : State} {m : MethodId} {args : Array Value} {below : List Frame} {meth : Method} {c : Code} {D : va_G} {A : Nat → Prop} {ad : Nat → Nat} {cy : Nat → ClassId} (hC : zC p m c cJ7_fill_fda19 5 s args wzJ7_fill_fda19 RJ7 meth none) {k10 : zSt → Int32 → Int32 → Int32 → Option (zSt)} {res : zSt} (hk10 : ∀ (H : Heap) (locs : List Loc) (σ : zSt) (ls : Array Slot) (x2 : Int32) (x3 : Int32) (x4 : Int32), zI st D (tC cy) (wC ad cy σ) A s H locs → lv_has ls 5 [(0, .ref (ad 30)), (2, .int x2), (3, .int x3), (4, .int x4)] → k10 σ x2 x3 x4 = some res → W p l e rmJ7_fill_fda19_k30 s m args below meth c H locs 0 0 (zQu below args s D (tC cy) (wC ad cy) A res) (F0 m 10 ls [])) {H : Heap} {locs : List Loc} {σ : zSt} {ls : Array Slot} {x2 : Int32} {x3 : Int32} {x4 : Int32} (hI : zI st D (tC cy) (wC ad cy σ) A s H locs) (hl : lv_has ls 5 [(0, .ref (ad 30)), (2, .int x2), (3, .int x3), (4, .int x4)]) (hf : fJ7_fill_fda19_k30_10_body k10 σ x2 x3 x4 = some res) : W p l e rmJ7_fill_fda19_k30 s m args below meth c H locs 0 0 (zQu below args s D (tC cy) (wC ad cy) A res) (F0 m 10 ls []) := by
  have hx := hC.1
  have hb := hC.2.1
  unfold fJ7_fill_fda19_k30_10_body at hf
  refine lv_iload hx hb dJ7_fill_fda19_10 (lv_at hl 3 rfl) ?_
  refine lv_iload_n hx hb dJ7_fill_fda19_12 rfl (lv_at hl 1 rfl) ?_
  refine lv_icmp_ge (tgt := 27) hx hb dJ7_fill_fda19_13 (by decide) (fun q => ?_) (fun q => ?_)
  · replace hf := zif_t q hf
    exact z_return hC hI hf dJ7_fill_fda19_27
  replace hf := zif_f q hf
  refine lv_aload_n hx hb dJ7_fill_fda19_16 rfl (lv_at hl 0 rfl) ?_
  refine lv_iload hx hb dJ7_fill_fda19_17 (lv_at hl 3 rfl) ?_
  refine lv_iload_n hx hb dJ7_fill_fda19_19 rfl (lv_at hl 2 rfl) ?_
  obtain ⟨q, hf⟩ := zck_use hf
  obtain ⟨σ1, eσ1⟩ : ∃ z, z = zsi σ 30 (x4.toNatClampNeg) x3 := ⟨_, rfl⟩
  replace hf := zbv_use eσ1 hf
  refine z_iast hC hI 30 17 (wC_e30 ad cy σ) (tC_t30 cy) q ((wC_s30 ad cy σ _ _).trans (congrArg (wC ad cy) eσ1.symm)) dJ7_fill_fda19_20 (fun H locs hI => ?_)
  obtain ⟨v2, ev2⟩ : ∃ z : Int32, z = x4 + 1 := ⟨_, rfl⟩
  replace hf := zbv_use ev2 hf
  refine lv_iinc (v := v2) (lv' := [(4, .int v2), (0, .ref (ad 30)), (2, .int x2), (3, .int x3)]) hx hb dJ7_fill_fda19_21 hl (k := 3) rfl (by rw [ev2]; rfl) (by decide) rfl (fun ls hl => ?_)
  refine lv_goto (tgt := 10) hx hb dJ7_fill_fda19_24 (by decide) ?_
  exact hk10 _ _ _ _ _ _ _ hI (lv_sub hl [1, 2, 3, 0] rfl) hf
theorem blJ7_fill_fda19_k30_10 {st : Nat → Nat} {p : Program} {l : Launch} {e : Env} {s : State} {m : MethodId} {args : Array Value} {below : List Frame} {meth : Method} {c : Code} {D : va_G} {A : Nat → Prop} {ad : Nat → Nat} {cy : Nat → ClassId} (hC : zC p m c cJ7_fill_fda19 5 s args wzJ7_fill_fda19 RJ7 meth none)  {res : zSt} : ∀ (n : Nat) (H : Heap) (locs : List Loc) (σ : zSt) (ls : Array Slot) (x2 : Int32) (x3 : Int32) (x4 : Int32), zI st D (tC cy) (wC ad cy σ) A s H locs → lv_has ls 5 [(0, .ref (ad 30)), (2, .int x2), (3, .int x3), (4, .int x4)] → fJ7_fill_fda19_k30_10  n σ x2 x3 x4 = some res → W p l e rmJ7_fill_fda19_k30 s m args below meth c H locs 0 0 (zQu below args s D (tC cy) (wC ad cy) A res) (F0 m 10 ls []) := by
  intro n
  induction n with
  | zero => intro H locs σ ls x2 x3 x4 hI hl hf; cases hf
  | succ n ih => intro H locs σ ls x2 x3 x4 hI hl hf; exact bJ7_fill_fda19_k30_10_body hC ih hI hl hf
set_option maxRecDepth 20000 in
set_option maxHeartbeats 4000000 in
theorem bJ7_fill_fda19_k30 {st : Nat → Nat} {p : Program} {l : Launch} {e : Env} {s : State} {m : MethodId} {args : Array Value} {below : List Frame} {meth : Method} {c : Code} {D : va_G} {A : Nat → Prop} {ad : Nat → Nat} {cy : Nat → ClassId} (hC : zC p m c cJ7_fill_fda19 5 s args wzJ7_fill_fda19 RJ7 meth none)  {res : zSt} {H : Heap} {locs : List Loc} {σ : zSt} {ls : Array Slot} {x1 : Int32} {x2 : Int32} {x3 : Int32} (hI : zI st D (tC cy) (wC ad cy σ) A s H locs) (hl : lv_has ls 5 [(0, .ref (ad 30)), (1, .int x1), (2, .int x2), (3, .int x3)]) (hf : fJ7_fill_fda19_k30  σ x1 x2 x3 = some res) : W p l e rmJ7_fill_fda19_k30 s m args below meth c H locs 0 0 (zQu below args s D (tC cy) (wC ad cy) A res) (F0 m 0 ls []) := by
  have hx := hC.1
  have hb := hC.2.1
  unfold fJ7_fill_fda19_k30 at hf
  refine lv_aload_n hx hb dJ7_fill_fda19_0 rfl (lv_at hl 0 rfl) ?_
  refine z_alen (v := 19) hC hI 30 17 (wC_e30 ad cy σ) (tC_t30 cy) rfl dJ7_fill_fda19_1 ?_
  refine lv_iload_n hx hb dJ7_fill_fda19_2 rfl (lv_at hl 1 rfl) ?_
  refine lv_iload_n hx hb dJ7_fill_fda19_3 rfl (lv_at hl 2 rfl) ?_
  obtain ⟨σ3, g3, hf⟩ := zbu_use hf
  refine z_callSu (As := [.int 19, .int x1, .int x2]) (rest := []) hC hI (cJ7_rangeCheck_23922_met st l D ad cy σ 19 x1 x2 _ g3) (zgS zw5_18 zw5_19 zw5_13 zw5_20) rfl ⟨rfl, rfl⟩ 3 hdJ7_rangeCheck_23922 ⟨Nat.le_of_ble_eq_true rfl, Nat.le_of_ble_eq_true rfl⟩ rfl hl rfl (Nat.le_of_ble_eq_true rfl) dJ7_fill_fda19_4 ⟨Nat.zero_le _, Nat.zero_le _⟩ (fun H locs hI => ?_)
  refine lv_iload_n hx hb dJ7_fill_fda19_7 rfl (lv_at hl 1 rfl) ?_
  refine lv_istore (lv' := [(4, .int x1), (0, .ref (ad 30)), (1, .int x1), (2, .int x2), (3, .int x3)]) hx hb dJ7_fill_fda19_8 hl (by decide) rfl (fun ls hl => ?_)
  exact blJ7_fill_fda19_k30_10 hC  zfuel _ _ _ _ _ _ _ hI (lv_sub hl [1, 3, 4, 0] rfl) hf
set_option maxRecDepth 20000 in
theorem cJ7_fill_fda19_k30_met (st : Nat → Nat) (l : Launch) (D : va_G) (ad : Nat → Nat) (cy : Nat → ClassId) (σ : zSt) (x1 : Int32) (x2 : Int32) (x3 : Int32) (res : zSt) (hf : fJ7_fill_fda19_k30 σ x1 x2 x3 = some res) (sz : Nat) : zMu st l yJ7_fill_fda19 wzJ7_fill_fda19 rmJ7_fill_fda19_k30 [.ref (ad 30), .int x1, .int x2, .int x3] D (tC cy) (wC ad cy) sz σ res :=
  zMu.of (cc := cJ7_fill_fda19) (maxL := 5) (ret := none) (by decide) rfl (Nat.le_of_ble_eq_true rfl) (fun p e s m args below meth c hC A hI ls hl => bJ7_fill_fda19_k30 hC hI hl hf)
theorem hdJ7_fill_fda19_k30 : yJ7_fill_fda19.cls ≠ "java/lang/invoke/MethodHandle" ∧ yJ7_fill_fda19.cls ≠ "java/lang/invoke/VarHandle" ∧ (parseMethodDescriptor yJ7_fill_fda19.desc).map (fun d => d.parameters.length) = some 4 := by decide +kernel
noncomputable def rmX7_clear : Room := { frames := 2, cells := 0, slots := 0, locals := 46 }
noncomputable def wzX7_clear : List Cond := .code yX7_clear cX7_clear 1 none :: wsL_law
theorem hinX7_clear_X70 : ∀ w ∈ wsX70, w ∈ wzX7_clear := fun w h => List.mem_cons_of_mem _ (inlX7 w h)
noncomputable def fX7_clear  (σ : zSt)  : Option (zSt) :=
  zbu (fJ7_fill_53178_k30 σ 0) (fun σ1 =>
  zbu (fJ7_fill_fda19_k30 σ1 9 13 15) (fun σ2 =>
  zck (zin 16 19) (zbv (zsi σ2 30 ((16 : Int32).toNatClampNeg) 32768) (fun σ3 =>
  zck (zin 18 19) (zbv (zsi σ3 30 ((18 : Int32).toNatClampNeg) 255) (fun σ4 =>
  some σ4))))))
set_option maxRecDepth 20000 in
set_option maxHeartbeats 4000000 in
theorem bX7_clear {st : Nat → Nat} {p : Program} {l : Launch} {e : Env} {s : State} {m : MethodId} {args : Array Value} {below : List Frame} {meth : Method} {c : Code} {D : va_G} {A : Nat → Prop} {ad : Nat → Nat} {cy : Nat → ClassId} (hC : zC p m c cX7_clear 1 s args wzX7_clear RX7 meth none)  {res : zSt} {H : Heap} {locs : List Loc} {σ : zSt} {ls : Array Slot}  (hI : zI st D (tC cy) (wC ad cy σ) A s H locs) (hl : lv_has ls 1 [(0, .ref (ad 4))]) (hf : fX7_clear  σ  = some res) : W p l e rmX7_clear s m args below meth c H locs 0 0 (zQu below args s D (tC cy) (wC ad cy) A res) (F0 m 0 ls []) := by
  have hx := hC.1
  have hb := hC.2.1
  unfold fX7_clear at hf
  refine lv_aload_n hx hb dX7_clear_0 rfl (lv_at hl 0 rfl) ?_
  refine z_get hC hI hinX7_clear_X70 4 (wC_e4 ad cy σ) rfl 0 (by decide) (List.mem_cons_of_mem _ zw5_4) rfl dX7_clear_1 ?_
  refine lv_iconst (v := 0) hx hb dX7_clear_4 (by decide) ?_
  obtain ⟨σ1, g1, hf⟩ := zbu_use hf
  refine z_callSu (As := [.ref (ad 30), .int 0]) (rest := []) hC hI (cJ7_fill_53178_k30_met st l D ad cy σ 0 _ g1) (zgS zw5_11 zw5_12 zw5_13 zw5_14) rfl ⟨rfl, rfl⟩ 2 hdJ7_fill_53178_k30 ⟨Nat.le_of_ble_eq_true rfl, Nat.le_of_ble_eq_true rfl⟩ rfl hl rfl (Nat.le_of_ble_eq_true rfl) dX7_clear_5 ⟨Nat.zero_le _, Nat.zero_le _⟩ (fun H locs hI => ?_)
  refine lv_aload_n hx hb dX7_clear_8 rfl (lv_at hl 0 rfl) ?_
  refine z_get hC hI hinX7_clear_X70 4 (wC_e4 ad cy σ1) rfl 0 (by decide) (List.mem_cons_of_mem _ zw5_4) rfl dX7_clear_9 ?_
  refine lv_bipush (v := 9) hx hb dX7_clear_12 (by decide) ?_
  refine lv_bipush (v := 13) hx hb dX7_clear_14 (by decide) ?_
  refine lv_bipush (v := 15) hx hb dX7_clear_16 (by decide) ?_
  obtain ⟨σ2, g2, hf⟩ := zbu_use hf
  refine z_callSu (As := [.ref (ad 30), .int 9, .int 13, .int 15]) (rest := []) hC hI (cJ7_fill_fda19_k30_met st l D ad cy σ1 9 13 15 _ g2) (zgS zw5_15 zw5_16 zw5_13 zw5_17) rfl ⟨rfl, rfl⟩ 4 hdJ7_fill_fda19_k30 ⟨Nat.le_of_ble_eq_true rfl, Nat.le_of_ble_eq_true rfl⟩ rfl hl rfl (Nat.le_of_ble_eq_true rfl) dX7_clear_18 ⟨Nat.zero_le _, Nat.zero_le _⟩ (fun H locs hI => ?_)
  refine lv_aload_n hx hb dX7_clear_21 rfl (lv_at hl 0 rfl) ?_
  refine z_get hC hI hinX7_clear_X70 4 (wC_e4 ad cy σ2) rfl 0 (by decide) (List.mem_cons_of_mem _ zw5_4) rfl dX7_clear_22 ?_
  refine lv_bipush (v := 16) hx hb dX7_clear_25 (by decide) ?_
  refine lv_ldc (v := 32768) hx hb hC.2.2.2.1 (hC.2.2.2.2.1 _ (List.mem_cons_of_mem _ zw5_10)) dX7_clear_27 ?_
  obtain ⟨q, hf⟩ := zck_use hf
  obtain ⟨σ3, eσ3⟩ : ∃ z, z = zsi σ2 30 ((16 : Int32).toNatClampNeg) 32768 := ⟨_, rfl⟩
  replace hf := zbv_use eσ3 hf
  refine z_iast hC hI 30 17 (wC_e30 ad cy σ2) (tC_t30 cy) q ((wC_s30 ad cy σ2 _ _).trans (congrArg (wC ad cy) eσ3.symm)) dX7_clear_29 (fun H locs hI => ?_)
  refine lv_aload_n hx hb dX7_clear_30 rfl (lv_at hl 0 rfl) ?_
  refine z_get hC hI hinX7_clear_X70 4 (wC_e4 ad cy σ3) rfl 0 (by decide) (List.mem_cons_of_mem _ zw5_4) rfl dX7_clear_31 ?_
  refine lv_bipush (v := 18) hx hb dX7_clear_34 (by decide) ?_
  refine lv_sipush (v := 255) hx hb dX7_clear_36 (by decide) ?_
  obtain ⟨q, hf⟩ := zck_use hf
  obtain ⟨σ4, eσ4⟩ : ∃ z, z = zsi σ3 30 ((18 : Int32).toNatClampNeg) 255 := ⟨_, rfl⟩
  replace hf := zbv_use eσ4 hf
  refine z_iast hC hI 30 17 (wC_e30 ad cy σ3) (tC_t30 cy) q ((wC_s30 ad cy σ3 _ _).trans (congrArg (wC ad cy) eσ4.symm)) dX7_clear_39 (fun H locs hI => ?_)
  exact z_return hC hI hf dX7_clear_40
set_option maxRecDepth 20000 in
theorem cX7_clear_met (st : Nat → Nat) (l : Launch) (D : va_G) (ad : Nat → Nat) (cy : Nat → ClassId) (σ : zSt)  (res : zSt) (hf : fX7_clear σ  = some res) (sz : Nat) : zMu st l yX7_clear wzX7_clear rmX7_clear [.ref (ad 4)] D (tC cy) (wC ad cy) sz σ res :=
  zMu.of (cc := cX7_clear) (maxL := 1) (ret := none) (by decide) rfl (Nat.le_of_ble_eq_true rfl) (fun p e s m args below meth c hC A hI ls hl => bX7_clear hC hI hl hf)
theorem hdX7_clear : yX7_clear.cls = RX7 ∧ yX7_clear.cls ≠ "java/lang/invoke/MethodHandle" ∧ yX7_clear.cls ≠ "java/lang/invoke/VarHandle" ∧ (parseMethodDescriptor yX7_clear.desc).map (fun d => d.parameters.length) = some 0 := by decide +kernel
noncomputable def rmX7_keep : Room := { frames := 1, cells := 0, slots := 0, locals := 64 }
noncomputable def wzX7_keep : List Cond := .code yX7_keep cX7_keep 1 none :: wsL_law
theorem hinX7_keep_X70 : ∀ w ∈ wsX70, w ∈ wzX7_keep := fun w h => List.mem_cons_of_mem _ (inlX7 w h)
noncomputable def fX7_keep  (σ : zSt)  : Option (zSt) :=
  zck (zco 0 0 19 19 19) (zbv (zcpi σ 30 31 ((0 : Int32).toNatClampNeg) ((0 : Int32).toNatClampNeg) ((19 : Int32).toNatClampNeg)) (fun σ1 =>
  some σ1))
set_option maxRecDepth 20000 in
set_option maxHeartbeats 4000000 in
theorem bX7_keep {st : Nat → Nat} {p : Program} {l : Launch} {e : Env} {s : State} {m : MethodId} {args : Array Value} {below : List Frame} {meth : Method} {c : Code} {D : va_G} {A : Nat → Prop} {ad : Nat → Nat} {cy : Nat → ClassId} (hC : zC p m c cX7_keep 1 s args wzX7_keep RX7 meth none)  {res : zSt} {H : Heap} {locs : List Loc} {σ : zSt} {ls : Array Slot}  (hI : zI st D (tC cy) (wC ad cy σ) A s H locs) (hl : lv_has ls 1 [(0, .ref (ad 4))]) (hf : fX7_keep  σ  = some res) : W p l e rmX7_keep s m args below meth c H locs 0 0 (zQu below args s D (tC cy) (wC ad cy) A res) (F0 m 0 ls []) := by
  have hx := hC.1
  have hb := hC.2.1
  unfold fX7_keep at hf
  refine lv_aload_n hx hb dX7_keep_0 rfl (lv_at hl 0 rfl) ?_
  refine z_get hC hI hinX7_keep_X70 4 (wC_e4 ad cy σ) rfl 0 (by decide) (List.mem_cons_of_mem _ zw5_4) rfl dX7_keep_1 ?_
  refine lv_iconst (v := 0) hx hb dX7_keep_4 (by decide) ?_
  refine lv_aload_n hx hb dX7_keep_5 rfl (lv_at hl 0 rfl) ?_
  refine z_get hC hI hinX7_keep_X70 4 (wC_e4 ad cy σ) rfl 1 (by decide) (List.mem_cons_of_mem _ zw5_5) rfl dX7_keep_6 ?_
  refine lv_iconst (v := 0) hx hb dX7_keep_9 (by decide) ?_
  refine lv_bipush (v := 19) hx hb dX7_keep_10 (by decide) ?_
  obtain ⟨q, hf⟩ := zck_use hf
  obtain ⟨σ1, eσ1⟩ : ∃ z, z = zcpi σ 30 31 ((0 : Int32).toNatClampNeg) ((0 : Int32).toNatClampNeg) ((19 : Int32).toNatClampNeg) := ⟨_, rfl⟩
  replace hf := zbv_use eσ1 hf
  refine z_cpi hC hI (List.mem_cons_of_mem _ zw80_23) (List.mem_cons_of_mem _ zw80_6) (List.mem_cons_of_mem _ zw80_7) (List.mem_cons_of_mem _ zw80_8) hl 30 31 17 18 (wC_e30 ad cy σ) (wC_e31 ad cy σ) (tC_t30 cy) (tC_t31 cy) q (show _ = wC ad cy σ1 from eσ1 ▸ rfl) (Nat.le_of_ble_eq_true rfl) (Nat.le_of_ble_eq_true rfl) dX7_keep_12 (fun H locs hI => ?_)
  exact z_return hC hI hf dX7_keep_15
set_option maxRecDepth 20000 in
theorem cX7_keep_met (st : Nat → Nat) (l : Launch) (D : va_G) (ad : Nat → Nat) (cy : Nat → ClassId) (σ : zSt)  (res : zSt) (hf : fX7_keep σ  = some res) (sz : Nat) : zMu st l yX7_keep wzX7_keep rmX7_keep [.ref (ad 4)] D (tC cy) (wC ad cy) sz σ res :=
  zMu.of (cc := cX7_keep) (maxL := 1) (ret := none) (by decide) rfl (Nat.le_of_ble_eq_true rfl) (fun p e s m args below meth c hC A hI ls hl => bX7_keep hC hI hl hf)
theorem hdX7_keep : yX7_keep.cls = RX7 ∧ yX7_keep.cls ≠ "java/lang/invoke/MethodHandle" ∧ yX7_keep.cls ≠ "java/lang/invoke/VarHandle" ∧ (parseMethodDescriptor yX7_keep.desc).map (fun d => d.parameters.length) = some 0 := by decide +kernel
noncomputable def rmX7_bringBack : Room := { frames := 1, cells := 0, slots := 0, locals := 64 }
noncomputable def wzX7_bringBack : List Cond := .code yX7_bringBack cX7_bringBack 1 none :: wsL_law
theorem hinX7_bringBack_X70 : ∀ w ∈ wsX70, w ∈ wzX7_bringBack := fun w h => List.mem_cons_of_mem _ (inlX7 w h)
noncomputable def fX7_bringBack  (σ : zSt)  : Option (zSt) :=
  zck (zco 0 0 19 19 19) (zbv (zcpi σ 31 30 ((0 : Int32).toNatClampNeg) ((0 : Int32).toNatClampNeg) ((19 : Int32).toNatClampNeg)) (fun σ1 =>
  some σ1))
set_option maxRecDepth 20000 in
set_option maxHeartbeats 4000000 in
theorem bX7_bringBack {st : Nat → Nat} {p : Program} {l : Launch} {e : Env} {s : State} {m : MethodId} {args : Array Value} {below : List Frame} {meth : Method} {c : Code} {D : va_G} {A : Nat → Prop} {ad : Nat → Nat} {cy : Nat → ClassId} (hC : zC p m c cX7_bringBack 1 s args wzX7_bringBack RX7 meth none)  {res : zSt} {H : Heap} {locs : List Loc} {σ : zSt} {ls : Array Slot}  (hI : zI st D (tC cy) (wC ad cy σ) A s H locs) (hl : lv_has ls 1 [(0, .ref (ad 4))]) (hf : fX7_bringBack  σ  = some res) : W p l e rmX7_bringBack s m args below meth c H locs 0 0 (zQu below args s D (tC cy) (wC ad cy) A res) (F0 m 0 ls []) := by
  have hx := hC.1
  have hb := hC.2.1
  unfold fX7_bringBack at hf
  refine lv_aload_n hx hb dX7_bringBack_0 rfl (lv_at hl 0 rfl) ?_
  refine z_get hC hI hinX7_bringBack_X70 4 (wC_e4 ad cy σ) rfl 1 (by decide) (List.mem_cons_of_mem _ zw5_5) rfl dX7_bringBack_1 ?_
  refine lv_iconst (v := 0) hx hb dX7_bringBack_4 (by decide) ?_
  refine lv_aload_n hx hb dX7_bringBack_5 rfl (lv_at hl 0 rfl) ?_
  refine z_get hC hI hinX7_bringBack_X70 4 (wC_e4 ad cy σ) rfl 0 (by decide) (List.mem_cons_of_mem _ zw5_4) rfl dX7_bringBack_6 ?_
  refine lv_iconst (v := 0) hx hb dX7_bringBack_9 (by decide) ?_
  refine lv_bipush (v := 19) hx hb dX7_bringBack_10 (by decide) ?_
  obtain ⟨q, hf⟩ := zck_use hf
  obtain ⟨σ1, eσ1⟩ : ∃ z, z = zcpi σ 31 30 ((0 : Int32).toNatClampNeg) ((0 : Int32).toNatClampNeg) ((19 : Int32).toNatClampNeg) := ⟨_, rfl⟩
  replace hf := zbv_use eσ1 hf
  refine z_cpi hC hI (List.mem_cons_of_mem _ zw80_23) (List.mem_cons_of_mem _ zw80_6) (List.mem_cons_of_mem _ zw80_7) (List.mem_cons_of_mem _ zw80_8) hl 31 30 18 17 (wC_e31 ad cy σ) (wC_e30 ad cy σ) (tC_t31 cy) (tC_t30 cy) q (show _ = wC ad cy σ1 from eσ1 ▸ rfl) (Nat.le_of_ble_eq_true rfl) (Nat.le_of_ble_eq_true rfl) dX7_bringBack_12 (fun H locs hI => ?_)
  exact z_return hC hI hf dX7_bringBack_15
set_option maxRecDepth 20000 in
theorem cX7_bringBack_met (st : Nat → Nat) (l : Launch) (D : va_G) (ad : Nat → Nat) (cy : Nat → ClassId) (σ : zSt)  (res : zSt) (hf : fX7_bringBack σ  = some res) (sz : Nat) : zMu st l yX7_bringBack wzX7_bringBack rmX7_bringBack [.ref (ad 4)] D (tC cy) (wC ad cy) sz σ res :=
  zMu.of (cc := cX7_bringBack) (maxL := 1) (ret := none) (by decide) rfl (Nat.le_of_ble_eq_true rfl) (fun p e s m args below meth c hC A hI ls hl => bX7_bringBack hC hI hl hf)
theorem hdX7_bringBack : yX7_bringBack.cls = RX7 ∧ yX7_bringBack.cls ≠ "java/lang/invoke/MethodHandle" ∧ yX7_bringBack.cls ≠ "java/lang/invoke/VarHandle" ∧ (parseMethodDescriptor yX7_bringBack.desc).map (fun d => d.parameters.length) = some 0 := by decide +kernel
noncomputable def rmX7_value : Room := { frames := 0, cells := 0, slots := 0, locals := 0 }
noncomputable def wzX7_value : List Cond := .code yX7_value cX7_value 2 (some .int) :: wsL_law
theorem hinX7_value_X70 : ∀ w ∈ wsX70, w ∈ wzX7_value := fun w h => List.mem_cons_of_mem _ (inlX7 w h)
noncomputable def fX7_value_20  (σ : zSt) (s0 : Int32) : Option (zSt × Int32) :=
  some (σ, s0)
noncomputable def fX7_value_19  (σ : zSt)  : Option (zSt × Int32) :=
  fX7_value_20 σ 0
noncomputable def fX7_value  (σ : zSt) (x1 : Int32) : Option (zSt × Int32) :=
  if x1 < 0 then fX7_value_19 σ else
  if 19 ≤ x1 then fX7_value_19 σ else
  zck (zin x1 19) (
  fX7_value_20 σ (zgi σ 30 x1.toNatClampNeg))
set_option maxRecDepth 20000 in
set_option maxHeartbeats 4000000 in
theorem bX7_value_20 {st : Nat → Nat} {p : Program} {l : Launch} {e : Env} {s : State} {m : MethodId} {args : Array Value} {below : List Frame} {meth : Method} {c : Code} {D : va_G} {A : Nat → Prop} {ad : Nat → Nat} {cy : Nat → ClassId} (hC : zC p m c cX7_value 2 s args wzX7_value RX7 meth (some .int))  {res : zSt × Int32} {H : Heap} {locs : List Loc} {σ : zSt} {ls : Array Slot} {s0 : Int32} (hI : zI st D (tC cy) (wC ad cy σ) A s H locs) (hl : lv_has ls 2 []) (hf : fX7_value_20  σ s0 = some res) : W p l e rmX7_value s m args below meth c H locs 0 0 (zQi below args s D (tC cy) (wC ad cy) A res) (F0 m 20 ls [.int s0]) := by
  have hx := hC.1
  have hb := hC.2.1
  unfold fX7_value_20 at hf
  exact z_ireturn hC hI hf dX7_value_20
set_option maxRecDepth 20000 in
set_option maxHeartbeats 4000000 in
theorem bX7_value_19 {st : Nat → Nat} {p : Program} {l : Launch} {e : Env} {s : State} {m : MethodId} {args : Array Value} {below : List Frame} {meth : Method} {c : Code} {D : va_G} {A : Nat → Prop} {ad : Nat → Nat} {cy : Nat → ClassId} (hC : zC p m c cX7_value 2 s args wzX7_value RX7 meth (some .int))  {res : zSt × Int32} {H : Heap} {locs : List Loc} {σ : zSt} {ls : Array Slot}  (hI : zI st D (tC cy) (wC ad cy σ) A s H locs) (hl : lv_has ls 2 []) (hf : fX7_value_19  σ  = some res) : W p l e rmX7_value s m args below meth c H locs 0 0 (zQi below args s D (tC cy) (wC ad cy) A res) (F0 m 19 ls []) := by
  have hx := hC.1
  have hb := hC.2.1
  unfold fX7_value_19 at hf
  refine lv_iconst (v := 0) hx hb dX7_value_19 (by decide) ?_
  exact bX7_value_20 hC  hI hl hf
set_option maxRecDepth 20000 in
set_option maxHeartbeats 4000000 in
theorem bX7_value {st : Nat → Nat} {p : Program} {l : Launch} {e : Env} {s : State} {m : MethodId} {args : Array Value} {below : List Frame} {meth : Method} {c : Code} {D : va_G} {A : Nat → Prop} {ad : Nat → Nat} {cy : Nat → ClassId} (hC : zC p m c cX7_value 2 s args wzX7_value RX7 meth (some .int))  {res : zSt × Int32} {H : Heap} {locs : List Loc} {σ : zSt} {ls : Array Slot} {x1 : Int32} (hI : zI st D (tC cy) (wC ad cy σ) A s H locs) (hl : lv_has ls 2 [(0, .ref (ad 4)), (1, .int x1)]) (hf : fX7_value  σ x1 = some res) : W p l e rmX7_value s m args below meth c H locs 0 0 (zQi below args s D (tC cy) (wC ad cy) A res) (F0 m 0 ls []) := by
  have hx := hC.1
  have hb := hC.2.1
  unfold fX7_value at hf
  refine lv_iload_n hx hb dX7_value_0 rfl (lv_at hl 1 rfl) ?_
  refine lv_if_lt (tgt := 19) hx hb dX7_value_1 (by decide) (fun q => ?_) (fun q => ?_)
  · replace hf := zif_t q hf
    exact bX7_value_19 hC  hI (lv_sub hl [] rfl) hf
  replace hf := zif_f q hf
  refine lv_iload_n hx hb dX7_value_4 rfl (lv_at hl 1 rfl) ?_
  refine lv_bipush (v := 19) hx hb dX7_value_5 (by decide) ?_
  refine lv_icmp_ge (tgt := 19) hx hb dX7_value_7 (by decide) (fun q => ?_) (fun q => ?_)
  · replace hf := zif_t q hf
    exact bX7_value_19 hC  hI (lv_sub hl [] rfl) hf
  replace hf := zif_f q hf
  refine lv_aload_n hx hb dX7_value_10 rfl (lv_at hl 0 rfl) ?_
  refine z_get hC hI hinX7_value_X70 4 (wC_e4 ad cy σ) rfl 0 (by decide) (List.mem_cons_of_mem _ zw5_4) rfl dX7_value_11 ?_
  refine lv_iload_n hx hb dX7_value_14 rfl (lv_at hl 1 rfl) ?_
  obtain ⟨q, hf⟩ := zck_use hf
  refine z_iald hC hI 30 17 (wC_e30 ad cy σ) (tC_t30 cy) q dX7_value_15 ?_
  refine lv_goto (tgt := 20) hx hb dX7_value_16 (by decide) ?_
  exact bX7_value_20 hC  hI (lv_sub hl [] rfl) hf
set_option maxRecDepth 20000 in
theorem cX7_value_met (st : Nat → Nat) (l : Launch) (D : va_G) (ad : Nat → Nat) (cy : Nat → ClassId) (σ : zSt) (x1 : Int32) (res : zSt × Int32) (hf : fX7_value σ x1 = some res) (sz : Nat) : zMi st l yX7_value wzX7_value rmX7_value [.ref (ad 4), .int x1] D (tC cy) (wC ad cy) sz σ res :=
  zMi.of (cc := cX7_value) (maxL := 2) (ret := (some .int)) (by decide) rfl (Nat.le_of_ble_eq_true rfl) (fun p e s m args below meth c hC A hI ls hl => bX7_value hC hI hl hf)
theorem hdX7_value : yX7_value.cls = RX7 ∧ yX7_value.cls ≠ "java/lang/invoke/MethodHandle" ∧ yX7_value.cls ≠ "java/lang/invoke/VarHandle" ∧ (parseMethodDescriptor yX7_value.desc).map (fun d => d.parameters.length) = some 1 := by decide +kernel
noncomputable def rmX8_take : Room := { frames := 2, cells := 0, slots := 0, locals := 47 }
noncomputable def wzX8_take : List Cond := .code yX8_take cX8_take 2 (some .int) :: wsL_law
theorem hinX8_take_X80 : ∀ w ∈ wsX80, w ∈ wzX8_take := fun w h => List.mem_cons_of_mem _ (inlX8 w h)
noncomputable def fX8_take  (σ : zSt)  : Option (zSt × Int32) :=
  zbi (fX2_read σ ((zgi σ 10 3) + (zgi σ 10 4))) (fun σ1 v2 =>
  zbv (zsi σ1 10 4 ((zgi σ1 10 4) + 1)) (fun σ3 =>
  some (σ3, v2)))
set_option maxRecDepth 20000 in
set_option maxHeartbeats 4000000 in
theorem bX8_take {st : Nat → Nat} {p : Program} {l : Launch} {e : Env} {s : State} {m : MethodId} {args : Array Value} {below : List Frame} {meth : Method} {c : Code} {D : va_G} {A : Nat → Prop} {ad : Nat → Nat} {cy : Nat → ClassId} (hC : zC p m c cX8_take 2 s args wzX8_take RX8 meth (some .int))  {res : zSt × Int32} {H : Heap} {locs : List Loc} {σ : zSt} {ls : Array Slot}  (hI : zI st D (tC cy) (wC ad cy σ) A s H locs) (hl : lv_has ls 2 [(0, .ref (ad 10))]) (hf : fX8_take  σ  = some res) : W p l e rmX8_take s m args below meth c H locs 0 0 (zQi below args s D (tC cy) (wC ad cy) A res) (F0 m 0 ls []) := by
  have hx := hC.1
  have hb := hC.2.1
  unfold fX8_take at hf
  refine lv_aload_n hx hb dX8_take_0 rfl (lv_at hl 0 rfl) ?_
  refine z_get hC hI hinX8_take_X80 10 (wC_e10 ad cy σ) rfl 0 (by decide) (List.mem_cons_of_mem _ zw8_20) rfl dX8_take_1 ?_
  refine lv_aload_n hx hb dX8_take_4 rfl (lv_at hl 0 rfl) ?_
  refine z_get hC hI hinX8_take_X80 10 (wC_e10 ad cy σ) rfl 3 (by decide) (List.mem_cons_of_mem _ zw70_6) rfl dX8_take_5 ?_
  refine lv_aload_n hx hb dX8_take_8 rfl (lv_at hl 0 rfl) ?_
  refine z_get hC hI hinX8_take_X80 10 (wC_e10 ad cy σ) rfl 4 (by decide) (List.mem_cons_of_mem _ zw70_7) rfl dX8_take_9 ?_
  refine lv_iadd hx hb dX8_take_12 ?_
  obtain ⟨σ1, v2, g1, hf⟩ := zbi_use hf
  refine z_callVi (As := [.int ((zgi σ 10 3) + (zgi σ 10 4))]) (rest := []) hC hI (cX2_read_met st l D ad cy σ ((zgi σ 10 3) + (zgi σ 10 4)) _ g1) (zgV zw70_15 zw21_7 zw21_8 zw1_21 zw21_9) rfl ⟨rfl, rfl⟩ 1 hdX2_read ⟨Nat.le_of_ble_eq_true rfl, Nat.le_of_ble_eq_true rfl⟩ rfl rfl (wC_e1 ad cy σ) rfl hl rfl (Nat.le_of_ble_eq_true rfl) dX8_take_13 ⟨Nat.zero_le _, Nat.zero_le _⟩ (fun H locs hI => ?_)
  refine lv_istore_n (lv' := [(1, .int v2), (0, .ref (ad 10))]) hx hb dX8_take_16 rfl hl (by decide) rfl (fun ls hl => ?_)
  refine lv_aload_n hx hb dX8_take_17 rfl (lv_at hl 1 rfl) ?_
  refine lv_dup hx hb dX8_take_18 rfl ?_
  refine z_get hC hI hinX8_take_X80 10 (wC_e10 ad cy σ1) rfl 4 (by decide) (List.mem_cons_of_mem _ zw70_7) rfl dX8_take_19 ?_
  refine lv_iconst (v := 1) hx hb dX8_take_22 (by decide) ?_
  refine lv_iadd hx hb dX8_take_23 ?_
  obtain ⟨σ3, eσ3⟩ : ∃ z, z = zsi σ1 10 4 ((zgi σ1 10 4) + 1) := ⟨_, rfl⟩
  replace hf := zbv_use eσ3 hf
  refine z_put hC hI hinX8_take_X80 tyX8_ok nmX8 10 (wC_e10 ad cy σ1) rfl 4 (by decide) (List.mem_cons_of_mem _ zw70_7) rfl rfl rfl (Nat.le_of_ble_eq_true rfl) ((wC_s10_4 ad cy σ1 ((zgi σ1 10 4) + 1)).trans (congrArg (wC ad cy) eσ3.symm)) dX8_take_24 (fun H locs hI => ?_)
  refine lv_iload_n hx hb dX8_take_27 rfl (lv_at hl 0 rfl) ?_
  exact z_ireturn hC hI hf dX8_take_28
set_option maxRecDepth 20000 in
theorem cX8_take_met (st : Nat → Nat) (l : Launch) (D : va_G) (ad : Nat → Nat) (cy : Nat → ClassId) (σ : zSt)  (res : zSt × Int32) (hf : fX8_take σ  = some res) (sz : Nat) : zMi st l yX8_take wzX8_take rmX8_take [.ref (ad 10)] D (tC cy) (wC ad cy) sz σ res :=
  zMi.of (cc := cX8_take) (maxL := 2) (ret := (some .int)) (by decide) rfl (Nat.le_of_ble_eq_true rfl) (fun p e s m args below meth c hC A hI ls hl => bX8_take hC hI hl hf)
theorem hdX8_take : yX8_take.cls = RX8 ∧ yX8_take.cls ≠ "java/lang/invoke/MethodHandle" ∧ yX8_take.cls ≠ "java/lang/invoke/VarHandle" ∧ (parseMethodDescriptor yX8_take.desc).map (fun d => d.parameters.length) = some 0 := by decide +kernel
noncomputable def rmX8_putSign : Room := { frames := 0, cells := 0, slots := 0, locals := 0 }
noncomputable def wzX8_putSign : List Cond := .code yX8_putSign cX8_putSign 2 none :: wsL_law
theorem hinX8_putSign_X80 : ∀ w ∈ wsX80, w ∈ wzX8_putSign := fun w h => List.mem_cons_of_mem _ (inlX8 w h)
noncomputable def fX8_putSign_29  (σ : zSt)  : Option (zSt) :=
  some σ
noncomputable def fX8_putSign  (σ : zSt) (x1 : Int32) : Option (zSt) :=
  if 32 ≤ (zgi σ 10 2) then fX8_putSign_29 σ else
  zck (zin (zgi σ 10 2) 32) (zbv (zsi σ 45 ((zgi σ 10 2).toNatClampNeg) x1) (fun σ1 =>
  zbv (zsi σ1 10 2 ((zgi σ1 10 2) + 1)) (fun σ2 =>
  fX8_putSign_29 σ2)))
set_option maxRecDepth 20000 in
set_option maxHeartbeats 4000000 in
theorem bX8_putSign_29 {st : Nat → Nat} {p : Program} {l : Launch} {e : Env} {s : State} {m : MethodId} {args : Array Value} {below : List Frame} {meth : Method} {c : Code} {D : va_G} {A : Nat → Prop} {ad : Nat → Nat} {cy : Nat → ClassId} (hC : zC p m c cX8_putSign 2 s args wzX8_putSign RX8 meth none)  {res : zSt} {H : Heap} {locs : List Loc} {σ : zSt} {ls : Array Slot}  (hI : zI st D (tC cy) (wC ad cy σ) A s H locs) (hl : lv_has ls 2 []) (hf : fX8_putSign_29  σ  = some res) : W p l e rmX8_putSign s m args below meth c H locs 0 0 (zQu below args s D (tC cy) (wC ad cy) A res) (F0 m 29 ls []) := by
  have hx := hC.1
  have hb := hC.2.1
  unfold fX8_putSign_29 at hf
  exact z_return hC hI hf dX8_putSign_29
set_option maxRecDepth 20000 in
set_option maxHeartbeats 4000000 in
theorem bX8_putSign {st : Nat → Nat} {p : Program} {l : Launch} {e : Env} {s : State} {m : MethodId} {args : Array Value} {below : List Frame} {meth : Method} {c : Code} {D : va_G} {A : Nat → Prop} {ad : Nat → Nat} {cy : Nat → ClassId} (hC : zC p m c cX8_putSign 2 s args wzX8_putSign RX8 meth none)  {res : zSt} {H : Heap} {locs : List Loc} {σ : zSt} {ls : Array Slot} {x1 : Int32} (hI : zI st D (tC cy) (wC ad cy σ) A s H locs) (hl : lv_has ls 2 [(0, .ref (ad 10)), (1, .int x1)]) (hf : fX8_putSign  σ x1 = some res) : W p l e rmX8_putSign s m args below meth c H locs 0 0 (zQu below args s D (tC cy) (wC ad cy) A res) (F0 m 0 ls []) := by
  have hx := hC.1
  have hb := hC.2.1
  unfold fX8_putSign at hf
  refine lv_aload_n hx hb dX8_putSign_0 rfl (lv_at hl 0 rfl) ?_
  refine z_get hC hI hinX8_putSign_X80 10 (wC_e10 ad cy σ) rfl 2 (by decide) (List.mem_cons_of_mem _ zw70_8) rfl dX8_putSign_1 ?_
  refine lv_bipush (v := 32) hx hb dX8_putSign_4 (by decide) ?_
  refine lv_icmp_ge (tgt := 29) hx hb dX8_putSign_6 (by decide) (fun q => ?_) (fun q => ?_)
  · replace hf := zif_t q hf
    exact bX8_putSign_29 hC  hI (lv_sub hl [] rfl) hf
  replace hf := zif_f q hf
  refine lv_aload_n hx hb dX8_putSign_9 rfl (lv_at hl 0 rfl) ?_
  refine z_get hC hI hinX8_putSign_X80 10 (wC_e10 ad cy σ) rfl 1 (by decide) (List.mem_cons_of_mem _ zw8_19) rfl dX8_putSign_10 ?_
  refine lv_aload_n hx hb dX8_putSign_13 rfl (lv_at hl 0 rfl) ?_
  refine z_get hC hI hinX8_putSign_X80 10 (wC_e10 ad cy σ) rfl 2 (by decide) (List.mem_cons_of_mem _ zw70_8) rfl dX8_putSign_14 ?_
  refine lv_iload_n hx hb dX8_putSign_17 rfl (lv_at hl 1 rfl) ?_
  obtain ⟨q, hf⟩ := zck_use hf
  obtain ⟨σ1, eσ1⟩ : ∃ z, z = zsi σ 45 ((zgi σ 10 2).toNatClampNeg) x1 := ⟨_, rfl⟩
  replace hf := zbv_use eσ1 hf
  refine z_iast hC hI 45 32 (wC_e45 ad cy σ) (tC_t45 cy) q ((wC_s45 ad cy σ _ _).trans (congrArg (wC ad cy) eσ1.symm)) dX8_putSign_18 (fun H locs hI => ?_)
  refine lv_aload_n hx hb dX8_putSign_19 rfl (lv_at hl 0 rfl) ?_
  refine lv_dup hx hb dX8_putSign_20 rfl ?_
  refine z_get hC hI hinX8_putSign_X80 10 (wC_e10 ad cy σ1) rfl 2 (by decide) (List.mem_cons_of_mem _ zw70_8) rfl dX8_putSign_21 ?_
  refine lv_iconst (v := 1) hx hb dX8_putSign_24 (by decide) ?_
  refine lv_iadd hx hb dX8_putSign_25 ?_
  obtain ⟨σ2, eσ2⟩ : ∃ z, z = zsi σ1 10 2 ((zgi σ1 10 2) + 1) := ⟨_, rfl⟩
  replace hf := zbv_use eσ2 hf
  refine z_put hC hI hinX8_putSign_X80 tyX8_ok nmX8 10 (wC_e10 ad cy σ1) rfl 2 (by decide) (List.mem_cons_of_mem _ zw70_8) rfl rfl rfl (Nat.le_of_ble_eq_true rfl) ((wC_s10_2 ad cy σ1 ((zgi σ1 10 2) + 1)).trans (congrArg (wC ad cy) eσ2.symm)) dX8_putSign_26 (fun H locs hI => ?_)
  exact bX8_putSign_29 hC  hI (lv_sub hl [] rfl) hf
set_option maxRecDepth 20000 in
theorem cX8_putSign_met (st : Nat → Nat) (l : Launch) (D : va_G) (ad : Nat → Nat) (cy : Nat → ClassId) (σ : zSt) (x1 : Int32) (res : zSt) (hf : fX8_putSign σ x1 = some res) (sz : Nat) : zMu st l yX8_putSign wzX8_putSign rmX8_putSign [.ref (ad 10), .int x1] D (tC cy) (wC ad cy) sz σ res :=
  zMu.of (cc := cX8_putSign) (maxL := 2) (ret := none) (by decide) rfl (Nat.le_of_ble_eq_true rfl) (fun p e s m args below meth c hC A hI ls hl => bX8_putSign hC hI hl hf)
theorem hdX8_putSign : yX8_putSign.cls = RX8 ∧ yX8_putSign.cls ≠ "java/lang/invoke/MethodHandle" ∧ yX8_putSign.cls ≠ "java/lang/invoke/VarHandle" ∧ (parseMethodDescriptor yX8_putSign.desc).map (fun d => d.parameters.length) = some 1 := by decide +kernel
noncomputable def rmX8_putByte : Room := { frames := 4, cells := 0, slots := 0, locals := 117 }
noncomputable def wzX8_putByte : List Cond := .code yX8_putByte cX8_putByte 2 none :: wsL_law
noncomputable def fX8_putByte  (σ : zSt) (x1 : Int32) : Option (zSt) :=
  zck (decide (1 < zNK)) (zck (zin ((x1 >>> ((4 : Int32) &&& 31)) &&& 15) (zkL 1)) (
  zbu (fX8_putSign σ (zkC 1 ((x1 >>> ((4 : Int32) &&& 31)) &&& 15).toNatClampNeg)) (fun σ1 =>
  zck (decide (1 < zNK)) (zck (zin (x1 &&& 15) (zkL 1)) (
  zbu (fX8_putSign σ1 (zkC 1 (x1 &&& 15).toNatClampNeg)) (fun σ2 =>
  some σ2))))))
set_option maxRecDepth 20000 in
set_option maxHeartbeats 4000000 in
theorem bX8_putByte {st : Nat → Nat} {p : Program} {l : Launch} {e : Env} {s : State} {m : MethodId} {args : Array Value} {below : List Frame} {meth : Method} {c : Code} {D : va_G} {A : Nat → Prop} {ad : Nat → Nat} {cy : Nat → ClassId} (hC : zC p m c cX8_putByte 2 s args wzX8_putByte RX8 meth none)  {res : zSt} {H : Heap} {locs : List Loc} {σ : zSt} {ls : Array Slot} {x1 : Int32} (hI : zI st D (tC cy) (wC ad cy σ) A s H locs) (hl : lv_has ls 2 [(0, .ref (ad 10)), (1, .int x1)]) (hf : fX8_putByte  σ x1 = some res) : W p l e rmX8_putByte s m args below meth c H locs 0 0 (zQu below args s D (tC cy) (wC ad cy) A res) (F0 m 0 ls []) := by
  have hx := hC.1
  have hb := hC.2.1
  unfold fX8_putByte at hf
  refine lv_aload_n hx hb dX8_putByte_0 rfl (lv_at hl 0 rfl) ?_
  refine z_ldcS hC hI 1 (by decide) rfl rfl dX8_putByte_1 ?_
  refine lv_iload_n hx hb dX8_putByte_3 rfl (lv_at hl 1 rfl) ?_
  refine lv_iconst (v := 4) hx hb dX8_putByte_4 (by decide) ?_
  refine lv_ishr hx hb dX8_putByte_5 ?_
  refine lv_bipush (v := 15) hx hb dX8_putByte_6 (by decide) ?_
  refine lv_iand hx hb dX8_putByte_8 ?_
  obtain ⟨q0, hf⟩ := zck_use hf
  obtain ⟨q, hf⟩ := zck_use hf
  refine z_callKi (As := [.int ((x1 >>> ((4 : Int32) &&& 31)) &&& 15)]) (rest := [.ref (ad 10)]) hC hI (cJ0_charAt_met st l D (tC cy) (wC ad cy) σ 1 (of_decide_eq_true q0) ((x1 >>> ((4 : Int32) &&& 31)) &&& 15) q) (zgV zw71_5 zw62_11 zw62_12 zw62_13 zw62_14) rfl ⟨rfl, rfl⟩ 1 hdJ0_charAt ⟨Nat.le_of_ble_eq_true rfl, Nat.le_of_ble_eq_true rfl⟩ (of_decide_eq_true q0) rfl rfl hl rfl (Nat.le_of_ble_eq_true rfl) dX8_putByte_9 ⟨Nat.zero_le _, Nat.zero_le _⟩ (fun H locs hI => ?_)
  obtain ⟨σ1, g1, hf⟩ := zbu_use hf
  refine z_callVu (As := [.int (zkC 1 ((x1 >>> ((4 : Int32) &&& 31)) &&& 15).toNatClampNeg)]) (rest := []) hC hI (cX8_putSign_met st l D ad cy σ (zkC 1 ((x1 >>> ((4 : Int32) &&& 31)) &&& 15).toNatClampNeg) _ g1) (zgV zw71_19 zw71_20 zw71_21 zw3_9 zw71_22) rfl ⟨rfl, rfl⟩ 1 hdX8_putSign ⟨Nat.le_of_ble_eq_true rfl, Nat.le_of_ble_eq_true rfl⟩ rfl rfl (wC_e10 ad cy σ) rfl hl rfl (Nat.le_of_ble_eq_true rfl) dX8_putByte_12 ⟨Nat.zero_le _, Nat.zero_le _⟩ (fun H locs hI => ?_)
  refine lv_aload_n hx hb dX8_putByte_15 rfl (lv_at hl 0 rfl) ?_
  refine z_ldcS hC hI 1 (by decide) rfl rfl dX8_putByte_16 ?_
  refine lv_iload_n hx hb dX8_putByte_18 rfl (lv_at hl 1 rfl) ?_
  refine lv_bipush (v := 15) hx hb dX8_putByte_19 (by decide) ?_
  refine lv_iand hx hb dX8_putByte_21 ?_
  obtain ⟨q0, hf⟩ := zck_use hf
  obtain ⟨q, hf⟩ := zck_use hf
  refine z_callKi (As := [.int (x1 &&& 15)]) (rest := [.ref (ad 10)]) hC hI (cJ0_charAt_met st l D (tC cy) (wC ad cy) σ1 1 (of_decide_eq_true q0) (x1 &&& 15) q) (zgV zw71_5 zw62_11 zw62_12 zw62_13 zw62_14) rfl ⟨rfl, rfl⟩ 1 hdJ0_charAt ⟨Nat.le_of_ble_eq_true rfl, Nat.le_of_ble_eq_true rfl⟩ (of_decide_eq_true q0) rfl rfl hl rfl (Nat.le_of_ble_eq_true rfl) dX8_putByte_22 ⟨Nat.zero_le _, Nat.zero_le _⟩ (fun H locs hI => ?_)
  obtain ⟨σ2, g2, hf⟩ := zbu_use hf
  refine z_callVu (As := [.int (zkC 1 (x1 &&& 15).toNatClampNeg)]) (rest := []) hC hI (cX8_putSign_met st l D ad cy σ1 (zkC 1 (x1 &&& 15).toNatClampNeg) _ g2) (zgV zw71_19 zw71_20 zw71_21 zw3_9 zw71_22) rfl ⟨rfl, rfl⟩ 1 hdX8_putSign ⟨Nat.le_of_ble_eq_true rfl, Nat.le_of_ble_eq_true rfl⟩ rfl rfl (wC_e10 ad cy σ1) rfl hl rfl (Nat.le_of_ble_eq_true rfl) dX8_putByte_25 ⟨Nat.zero_le _, Nat.zero_le _⟩ (fun H locs hI => ?_)
  exact z_return hC hI hf dX8_putByte_28
set_option maxRecDepth 20000 in
theorem cX8_putByte_met (st : Nat → Nat) (l : Launch) (D : va_G) (ad : Nat → Nat) (cy : Nat → ClassId) (σ : zSt) (x1 : Int32) (res : zSt) (hf : fX8_putByte σ x1 = some res) (sz : Nat) : zMu st l yX8_putByte wzX8_putByte rmX8_putByte [.ref (ad 10), .int x1] D (tC cy) (wC ad cy) sz σ res :=
  zMu.of (cc := cX8_putByte) (maxL := 2) (ret := none) (by decide) rfl (Nat.le_of_ble_eq_true rfl) (fun p e s m args below meth c hC A hI ls hl => bX8_putByte hC hI hl hf)
theorem hdX8_putByte : yX8_putByte.cls = RX8 ∧ yX8_putByte.cls ≠ "java/lang/invoke/MethodHandle" ∧ yX8_putByte.cls ≠ "java/lang/invoke/VarHandle" ∧ (parseMethodDescriptor yX8_putByte.desc).map (fun d => d.parameters.length) = some 1 := by decide +kernel
noncomputable def rmX8_putWord : Room := { frames := 5, cells := 0, slots := 0, locals := 138 }
noncomputable def wzX8_putWord : List Cond := .code yX8_putWord cX8_putWord 2 none :: wsL_law
noncomputable def fX8_putWord  (σ : zSt) (x1 : Int32) : Option (zSt) :=
  zbu (fX8_putByte σ ((x1 >>> ((8 : Int32) &&& 31)) &&& 255)) (fun σ1 =>
  zbu (fX8_putByte σ1 (x1 &&& 255)) (fun σ2 =>
  some σ2))
set_option maxRecDepth 20000 in
set_option maxHeartbeats 4000000 in
theorem bX8_putWord {st : Nat → Nat} {p : Program} {l : Launch} {e : Env} {s : State} {m : MethodId} {args : Array Value} {below : List Frame} {meth : Method} {c : Code} {D : va_G} {A : Nat → Prop} {ad : Nat → Nat} {cy : Nat → ClassId} (hC : zC p m c cX8_putWord 2 s args wzX8_putWord RX8 meth none)  {res : zSt} {H : Heap} {locs : List Loc} {σ : zSt} {ls : Array Slot} {x1 : Int32} (hI : zI st D (tC cy) (wC ad cy σ) A s H locs) (hl : lv_has ls 2 [(0, .ref (ad 10)), (1, .int x1)]) (hf : fX8_putWord  σ x1 = some res) : W p l e rmX8_putWord s m args below meth c H locs 0 0 (zQu below args s D (tC cy) (wC ad cy) A res) (F0 m 0 ls []) := by
  have hx := hC.1
  have hb := hC.2.1
  unfold fX8_putWord at hf
  refine lv_aload_n hx hb dX8_putWord_0 rfl (lv_at hl 0 rfl) ?_
  refine lv_iload_n hx hb dX8_putWord_1 rfl (lv_at hl 1 rfl) ?_
  refine lv_bipush (v := 8) hx hb dX8_putWord_2 (by decide) ?_
  refine lv_ishr hx hb dX8_putWord_4 ?_
  refine lv_sipush (v := 255) hx hb dX8_putWord_5 (by decide) ?_
  refine lv_iand hx hb dX8_putWord_8 ?_
  obtain ⟨σ1, g1, hf⟩ := zbu_use hf
  refine z_callVu (As := [.int ((x1 >>> ((8 : Int32) &&& 31)) &&& 255)]) (rest := []) hC hI (cX8_putByte_met st l D ad cy σ ((x1 >>> ((8 : Int32) &&& 31)) &&& 255) _ g1) (zgV zw72_3 zw72_4 zw72_5 zw3_9 zw72_6) rfl ⟨rfl, rfl⟩ 1 hdX8_putByte ⟨Nat.le_of_ble_eq_true rfl, Nat.le_of_ble_eq_true rfl⟩ rfl rfl (wC_e10 ad cy σ) rfl hl rfl (Nat.le_of_ble_eq_true rfl) dX8_putWord_9 ⟨Nat.zero_le _, Nat.zero_le _⟩ (fun H locs hI => ?_)
  refine lv_aload_n hx hb dX8_putWord_12 rfl (lv_at hl 0 rfl) ?_
  refine lv_iload_n hx hb dX8_putWord_13 rfl (lv_at hl 1 rfl) ?_
  refine lv_sipush (v := 255) hx hb dX8_putWord_14 (by decide) ?_
  refine lv_iand hx hb dX8_putWord_17 ?_
  obtain ⟨σ2, g2, hf⟩ := zbu_use hf
  refine z_callVu (As := [.int (x1 &&& 255)]) (rest := []) hC hI (cX8_putByte_met st l D ad cy σ1 (x1 &&& 255) _ g2) (zgV zw72_3 zw72_4 zw72_5 zw3_9 zw72_6) rfl ⟨rfl, rfl⟩ 1 hdX8_putByte ⟨Nat.le_of_ble_eq_true rfl, Nat.le_of_ble_eq_true rfl⟩ rfl rfl (wC_e10 ad cy σ1) rfl hl rfl (Nat.le_of_ble_eq_true rfl) dX8_putWord_18 ⟨Nat.zero_le _, Nat.zero_le _⟩ (fun H locs hI => ?_)
  exact z_return hC hI hf dX8_putWord_21
set_option maxRecDepth 20000 in
theorem cX8_putWord_met (st : Nat → Nat) (l : Launch) (D : va_G) (ad : Nat → Nat) (cy : Nat → ClassId) (σ : zSt) (x1 : Int32) (res : zSt) (hf : fX8_putWord σ x1 = some res) (sz : Nat) : zMu st l yX8_putWord wzX8_putWord rmX8_putWord [.ref (ad 10), .int x1] D (tC cy) (wC ad cy) sz σ res :=
  zMu.of (cc := cX8_putWord) (maxL := 2) (ret := none) (by decide) rfl (Nat.le_of_ble_eq_true rfl) (fun p e s m args below meth c hC A hI ls hl => bX8_putWord hC hI hl hf)
theorem hdX8_putWord : yX8_putWord.cls = RX8 ∧ yX8_putWord.cls ≠ "java/lang/invoke/MethodHandle" ∧ yX8_putWord.cls ≠ "java/lang/invoke/VarHandle" ∧ (parseMethodDescriptor yX8_putWord.desc).map (fun d => d.parameters.length) = some 1 := by decide +kernel
noncomputable def rmX8_putHl : Room := { frames := 1, cells := 0, slots := 0, locals := 21 }
noncomputable def wzX8_putHl : List Cond := .code yX8_putHl cX8_putHl 1 none :: wsL_law
theorem hinX8_putHl_X80 : ∀ w ∈ wsX80, w ∈ wzX8_putHl := fun w h => List.mem_cons_of_mem _ (inlX8 w h)
noncomputable def fX8_putHl_35  (σ : zSt) (s0 : Int32) : Option (zSt) :=
  zbu (fX8_putSign σ s0) (fun σ1 =>
  some σ1)
noncomputable def fX8_putHl_15  (σ : zSt) (s0 : Int32) : Option (zSt) :=
  zbu (fX8_putSign σ s0) (fun σ2 =>
  if (zgi σ2 10 8) = 0 then fX8_putHl_35 σ2 108 else
  fX8_putHl_35 σ2 (zgi σ2 10 8))
noncomputable def fX8_putHl  (σ : zSt)  : Option (zSt) :=
  if (zgi σ 10 8) = 0 then fX8_putHl_15 σ 104 else
  fX8_putHl_15 σ 105
set_option maxRecDepth 20000 in
set_option maxHeartbeats 4000000 in
theorem bX8_putHl_35 {st : Nat → Nat} {p : Program} {l : Launch} {e : Env} {s : State} {m : MethodId} {args : Array Value} {below : List Frame} {meth : Method} {c : Code} {D : va_G} {A : Nat → Prop} {ad : Nat → Nat} {cy : Nat → ClassId} (hC : zC p m c cX8_putHl 1 s args wzX8_putHl RX8 meth none)  {res : zSt} {H : Heap} {locs : List Loc} {σ : zSt} {ls : Array Slot} {s0 : Int32} (hI : zI st D (tC cy) (wC ad cy σ) A s H locs) (hl : lv_has ls 1 []) (hf : fX8_putHl_35  σ s0 = some res) : W p l e rmX8_putHl s m args below meth c H locs 0 0 (zQu below args s D (tC cy) (wC ad cy) A res) (F0 m 35 ls [.int s0, .ref (ad 10)]) := by
  have hx := hC.1
  have hb := hC.2.1
  unfold fX8_putHl_35 at hf
  obtain ⟨σ1, g1, hf⟩ := zbu_use hf
  refine z_callVu (As := [.int s0]) (rest := []) hC hI (cX8_putSign_met st l D ad cy σ s0 _ g1) (zgV zw71_19 zw71_20 zw71_21 zw3_9 zw71_22) rfl ⟨rfl, rfl⟩ 1 hdX8_putSign ⟨Nat.le_of_ble_eq_true rfl, Nat.le_of_ble_eq_true rfl⟩ rfl rfl (wC_e10 ad cy σ) rfl hl rfl (Nat.le_of_ble_eq_true rfl) dX8_putHl_35 ⟨Nat.zero_le _, Nat.zero_le _⟩ (fun H locs hI => ?_)
  exact z_return hC hI hf dX8_putHl_38
set_option maxRecDepth 20000 in
set_option maxHeartbeats 4000000 in
theorem bX8_putHl_15 {st : Nat → Nat} {p : Program} {l : Launch} {e : Env} {s : State} {m : MethodId} {args : Array Value} {below : List Frame} {meth : Method} {c : Code} {D : va_G} {A : Nat → Prop} {ad : Nat → Nat} {cy : Nat → ClassId} (hC : zC p m c cX8_putHl 1 s args wzX8_putHl RX8 meth none)  {res : zSt} {H : Heap} {locs : List Loc} {σ : zSt} {ls : Array Slot} {s0 : Int32} (hI : zI st D (tC cy) (wC ad cy σ) A s H locs) (hl : lv_has ls 1 [(0, .ref (ad 10))]) (hf : fX8_putHl_15  σ s0 = some res) : W p l e rmX8_putHl s m args below meth c H locs 0 0 (zQu below args s D (tC cy) (wC ad cy) A res) (F0 m 15 ls [.int s0, .ref (ad 10)]) := by
  have hx := hC.1
  have hb := hC.2.1
  unfold fX8_putHl_15 at hf
  obtain ⟨σ2, g2, hf⟩ := zbu_use hf
  refine z_callVu (As := [.int s0]) (rest := []) hC hI (cX8_putSign_met st l D ad cy σ s0 _ g2) (zgV zw71_19 zw71_20 zw71_21 zw3_9 zw71_22) rfl ⟨rfl, rfl⟩ 1 hdX8_putSign ⟨Nat.le_of_ble_eq_true rfl, Nat.le_of_ble_eq_true rfl⟩ rfl rfl (wC_e10 ad cy σ) rfl hl rfl (Nat.le_of_ble_eq_true rfl) dX8_putHl_15 ⟨Nat.zero_le _, Nat.zero_le _⟩ (fun H locs hI => ?_)
  refine lv_aload_n hx hb dX8_putHl_18 rfl (lv_at hl 0 rfl) ?_
  refine lv_aload_n hx hb dX8_putHl_19 rfl (lv_at hl 0 rfl) ?_
  refine z_get hC hI hinX8_putHl_X80 10 (wC_e10 ad cy σ2) rfl 8 (by decide) (List.mem_cons_of_mem _ zw70_9) rfl dX8_putHl_20 ?_
  refine lv_if_ne (tgt := 31) hx hb dX8_putHl_23 (by decide) (fun q => ?_) (fun q => ?_)
  · replace hf := zif_f q hf
    refine lv_aload_n hx hb dX8_putHl_31 rfl (lv_at hl 0 rfl) ?_
    refine z_get hC hI hinX8_putHl_X80 10 (wC_e10 ad cy σ2) rfl 8 (by decide) (List.mem_cons_of_mem _ zw70_9) rfl dX8_putHl_32 ?_
    exact bX8_putHl_35 hC  hI (lv_sub hl [] rfl) hf
  replace hf := zif_t q hf
  refine lv_bipush (v := 108) hx hb dX8_putHl_26 (by decide) ?_
  refine lv_goto (tgt := 35) hx hb dX8_putHl_28 (by decide) ?_
  exact bX8_putHl_35 hC  hI (lv_sub hl [] rfl) hf
set_option maxRecDepth 20000 in
set_option maxHeartbeats 4000000 in
theorem bX8_putHl {st : Nat → Nat} {p : Program} {l : Launch} {e : Env} {s : State} {m : MethodId} {args : Array Value} {below : List Frame} {meth : Method} {c : Code} {D : va_G} {A : Nat → Prop} {ad : Nat → Nat} {cy : Nat → ClassId} (hC : zC p m c cX8_putHl 1 s args wzX8_putHl RX8 meth none)  {res : zSt} {H : Heap} {locs : List Loc} {σ : zSt} {ls : Array Slot}  (hI : zI st D (tC cy) (wC ad cy σ) A s H locs) (hl : lv_has ls 1 [(0, .ref (ad 10))]) (hf : fX8_putHl  σ  = some res) : W p l e rmX8_putHl s m args below meth c H locs 0 0 (zQu below args s D (tC cy) (wC ad cy) A res) (F0 m 0 ls []) := by
  have hx := hC.1
  have hb := hC.2.1
  unfold fX8_putHl at hf
  refine lv_aload_n hx hb dX8_putHl_0 rfl (lv_at hl 0 rfl) ?_
  refine lv_aload_n hx hb dX8_putHl_1 rfl (lv_at hl 0 rfl) ?_
  refine z_get hC hI hinX8_putHl_X80 10 (wC_e10 ad cy σ) rfl 8 (by decide) (List.mem_cons_of_mem _ zw70_9) rfl dX8_putHl_2 ?_
  refine lv_if_ne (tgt := 13) hx hb dX8_putHl_5 (by decide) (fun q => ?_) (fun q => ?_)
  · replace hf := zif_f q hf
    refine lv_bipush (v := 105) hx hb dX8_putHl_13 (by decide) ?_
    exact bX8_putHl_15 hC  hI hl hf
  replace hf := zif_t q hf
  refine lv_bipush (v := 104) hx hb dX8_putHl_8 (by decide) ?_
  refine lv_goto (tgt := 15) hx hb dX8_putHl_10 (by decide) ?_
  exact bX8_putHl_15 hC  hI hl hf
set_option maxRecDepth 20000 in
theorem cX8_putHl_met (st : Nat → Nat) (l : Launch) (D : va_G) (ad : Nat → Nat) (cy : Nat → ClassId) (σ : zSt)  (res : zSt) (hf : fX8_putHl σ  = some res) (sz : Nat) : zMu st l yX8_putHl wzX8_putHl rmX8_putHl [.ref (ad 10)] D (tC cy) (wC ad cy) sz σ res :=
  zMu.of (cc := cX8_putHl) (maxL := 1) (ret := none) (by decide) rfl (Nat.le_of_ble_eq_true rfl) (fun p e s m args below meth c hC A hI ls hl => bX8_putHl hC hI hl hf)
theorem hdX8_putHl : yX8_putHl.cls = RX8 ∧ yX8_putHl.cls ≠ "java/lang/invoke/MethodHandle" ∧ yX8_putHl.cls ≠ "java/lang/invoke/VarHandle" ∧ (parseMethodDescriptor yX8_putHl.desc).map (fun d => d.parameters.length) = some 0 := by decide +kernel
noncomputable def rmX8_putPlace : Room := { frames := 5, cells := 0, slots := 0, locals := 138 }
noncomputable def wzX8_putPlace : List Cond := .code yX8_putPlace cX8_putPlace 2 none :: wsL_law
noncomputable def fX8_putPlace_45  (σ : zSt) (s0 : Int32) : Option (zSt) :=
  zbu (fX8_putByte σ s0) (fun σ1 =>
  zbu (fX8_putSign σ1 41) (fun σ2 =>
  some σ2))
noncomputable def fX8_putPlace_25  (σ : zSt) (x1 : Int32) (s0 : Int32) : Option (zSt) :=
  zbu (fX8_putSign σ s0) (fun σ3 =>
  if 128 ≤ x1 then fX8_putPlace_45 σ3 (256 - x1) else
  fX8_putPlace_45 σ3 x1)
noncomputable def fX8_putPlace  (σ : zSt) (x1 : Int32) : Option (zSt) :=
  zbu (fX8_putSign σ 40) (fun σ4 =>
  zbu (fX8_putHl σ4 ) (fun σ5 =>
  if 128 ≤ x1 then fX8_putPlace_25 σ5 x1 45 else
  fX8_putPlace_25 σ5 x1 43))
set_option maxRecDepth 20000 in
set_option maxHeartbeats 4000000 in
theorem bX8_putPlace_45 {st : Nat → Nat} {p : Program} {l : Launch} {e : Env} {s : State} {m : MethodId} {args : Array Value} {below : List Frame} {meth : Method} {c : Code} {D : va_G} {A : Nat → Prop} {ad : Nat → Nat} {cy : Nat → ClassId} (hC : zC p m c cX8_putPlace 2 s args wzX8_putPlace RX8 meth none)  {res : zSt} {H : Heap} {locs : List Loc} {σ : zSt} {ls : Array Slot} {s0 : Int32} (hI : zI st D (tC cy) (wC ad cy σ) A s H locs) (hl : lv_has ls 2 [(0, .ref (ad 10))]) (hf : fX8_putPlace_45  σ s0 = some res) : W p l e rmX8_putPlace s m args below meth c H locs 0 0 (zQu below args s D (tC cy) (wC ad cy) A res) (F0 m 45 ls [.int s0, .ref (ad 10)]) := by
  have hx := hC.1
  have hb := hC.2.1
  unfold fX8_putPlace_45 at hf
  obtain ⟨σ1, g1, hf⟩ := zbu_use hf
  refine z_callVu (As := [.int s0]) (rest := []) hC hI (cX8_putByte_met st l D ad cy σ s0 _ g1) (zgV zw72_3 zw72_4 zw72_5 zw3_9 zw72_6) rfl ⟨rfl, rfl⟩ 1 hdX8_putByte ⟨Nat.le_of_ble_eq_true rfl, Nat.le_of_ble_eq_true rfl⟩ rfl rfl (wC_e10 ad cy σ) rfl hl rfl (Nat.le_of_ble_eq_true rfl) dX8_putPlace_45 ⟨Nat.zero_le _, Nat.zero_le _⟩ (fun H locs hI => ?_)
  refine lv_aload_n hx hb dX8_putPlace_48 rfl (lv_at hl 0 rfl) ?_
  refine lv_bipush (v := 41) hx hb dX8_putPlace_49 (by decide) ?_
  obtain ⟨σ2, g2, hf⟩ := zbu_use hf
  refine z_callVu (As := [.int 41]) (rest := []) hC hI (cX8_putSign_met st l D ad cy σ1 41 _ g2) (zgV zw71_19 zw71_20 zw71_21 zw3_9 zw71_22) rfl ⟨rfl, rfl⟩ 1 hdX8_putSign ⟨Nat.le_of_ble_eq_true rfl, Nat.le_of_ble_eq_true rfl⟩ rfl rfl (wC_e10 ad cy σ1) rfl hl rfl (Nat.le_of_ble_eq_true rfl) dX8_putPlace_51 ⟨Nat.zero_le _, Nat.zero_le _⟩ (fun H locs hI => ?_)
  exact z_return hC hI hf dX8_putPlace_54
set_option maxRecDepth 20000 in
set_option maxHeartbeats 4000000 in
theorem bX8_putPlace_25 {st : Nat → Nat} {p : Program} {l : Launch} {e : Env} {s : State} {m : MethodId} {args : Array Value} {below : List Frame} {meth : Method} {c : Code} {D : va_G} {A : Nat → Prop} {ad : Nat → Nat} {cy : Nat → ClassId} (hC : zC p m c cX8_putPlace 2 s args wzX8_putPlace RX8 meth none)  {res : zSt} {H : Heap} {locs : List Loc} {σ : zSt} {ls : Array Slot} {x1 : Int32} {s0 : Int32} (hI : zI st D (tC cy) (wC ad cy σ) A s H locs) (hl : lv_has ls 2 [(0, .ref (ad 10)), (1, .int x1)]) (hf : fX8_putPlace_25  σ x1 s0 = some res) : W p l e rmX8_putPlace s m args below meth c H locs 0 0 (zQu below args s D (tC cy) (wC ad cy) A res) (F0 m 25 ls [.int s0, .ref (ad 10)]) := by
  have hx := hC.1
  have hb := hC.2.1
  unfold fX8_putPlace_25 at hf
  obtain ⟨σ3, g3, hf⟩ := zbu_use hf
  refine z_callVu (As := [.int s0]) (rest := []) hC hI (cX8_putSign_met st l D ad cy σ s0 _ g3) (zgV zw71_19 zw71_20 zw71_21 zw3_9 zw71_22) rfl ⟨rfl, rfl⟩ 1 hdX8_putSign ⟨Nat.le_of_ble_eq_true rfl, Nat.le_of_ble_eq_true rfl⟩ rfl rfl (wC_e10 ad cy σ) rfl hl rfl (Nat.le_of_ble_eq_true rfl) dX8_putPlace_25 ⟨Nat.zero_le _, Nat.zero_le _⟩ (fun H locs hI => ?_)
  refine lv_aload_n hx hb dX8_putPlace_28 rfl (lv_at hl 0 rfl) ?_
  refine lv_iload_n hx hb dX8_putPlace_29 rfl (lv_at hl 1 rfl) ?_
  refine lv_sipush (v := 128) hx hb dX8_putPlace_30 (by decide) ?_
  refine lv_icmp_ge (tgt := 40) hx hb dX8_putPlace_33 (by decide) (fun q => ?_) (fun q => ?_)
  · replace hf := zif_t q hf
    refine lv_sipush (v := 256) hx hb dX8_putPlace_40 (by decide) ?_
    refine lv_iload_n hx hb dX8_putPlace_43 rfl (lv_at hl 1 rfl) ?_
    refine lv_isub hx hb dX8_putPlace_44 ?_
    exact bX8_putPlace_45 hC  hI (lv_sub hl [0] rfl) hf
  replace hf := zif_f q hf
  refine lv_iload_n hx hb dX8_putPlace_36 rfl (lv_at hl 1 rfl) ?_
  refine lv_goto (tgt := 45) hx hb dX8_putPlace_37 (by decide) ?_
  exact bX8_putPlace_45 hC  hI (lv_sub hl [0] rfl) hf
set_option maxRecDepth 20000 in
set_option maxHeartbeats 4000000 in
theorem bX8_putPlace {st : Nat → Nat} {p : Program} {l : Launch} {e : Env} {s : State} {m : MethodId} {args : Array Value} {below : List Frame} {meth : Method} {c : Code} {D : va_G} {A : Nat → Prop} {ad : Nat → Nat} {cy : Nat → ClassId} (hC : zC p m c cX8_putPlace 2 s args wzX8_putPlace RX8 meth none)  {res : zSt} {H : Heap} {locs : List Loc} {σ : zSt} {ls : Array Slot} {x1 : Int32} (hI : zI st D (tC cy) (wC ad cy σ) A s H locs) (hl : lv_has ls 2 [(0, .ref (ad 10)), (1, .int x1)]) (hf : fX8_putPlace  σ x1 = some res) : W p l e rmX8_putPlace s m args below meth c H locs 0 0 (zQu below args s D (tC cy) (wC ad cy) A res) (F0 m 0 ls []) := by
  have hx := hC.1
  have hb := hC.2.1
  unfold fX8_putPlace at hf
  refine lv_aload_n hx hb dX8_putPlace_0 rfl (lv_at hl 0 rfl) ?_
  refine lv_bipush (v := 40) hx hb dX8_putPlace_1 (by decide) ?_
  obtain ⟨σ4, g4, hf⟩ := zbu_use hf
  refine z_callVu (As := [.int 40]) (rest := []) hC hI (cX8_putSign_met st l D ad cy σ 40 _ g4) (zgV zw71_19 zw71_20 zw71_21 zw3_9 zw71_22) rfl ⟨rfl, rfl⟩ 1 hdX8_putSign ⟨Nat.le_of_ble_eq_true rfl, Nat.le_of_ble_eq_true rfl⟩ rfl rfl (wC_e10 ad cy σ) rfl hl rfl (Nat.le_of_ble_eq_true rfl) dX8_putPlace_3 ⟨Nat.zero_le _, Nat.zero_le _⟩ (fun H locs hI => ?_)
  refine lv_aload_n hx hb dX8_putPlace_6 rfl (lv_at hl 0 rfl) ?_
  obtain ⟨σ5, g5, hf⟩ := zbu_use hf
  refine z_callVu (As := []) (rest := []) hC hI (cX8_putHl_met st l D ad cy σ4  _ g5) (zgV zw71_23 zw72_0 zw72_1 zw3_9 zw72_2) rfl ⟨rfl, rfl⟩ 0 hdX8_putHl ⟨Nat.le_of_ble_eq_true rfl, Nat.le_of_ble_eq_true rfl⟩ rfl rfl (wC_e10 ad cy σ4) rfl hl rfl (Nat.le_of_ble_eq_true rfl) dX8_putPlace_7 ⟨Nat.zero_le _, Nat.zero_le _⟩ (fun H locs hI => ?_)
  refine lv_aload_n hx hb dX8_putPlace_10 rfl (lv_at hl 0 rfl) ?_
  refine lv_iload_n hx hb dX8_putPlace_11 rfl (lv_at hl 1 rfl) ?_
  refine lv_sipush (v := 128) hx hb dX8_putPlace_12 (by decide) ?_
  refine lv_icmp_ge (tgt := 23) hx hb dX8_putPlace_15 (by decide) (fun q => ?_) (fun q => ?_)
  · replace hf := zif_t q hf
    refine lv_bipush (v := 45) hx hb dX8_putPlace_23 (by decide) ?_
    exact bX8_putPlace_25 hC  hI hl hf
  replace hf := zif_f q hf
  refine lv_bipush (v := 43) hx hb dX8_putPlace_18 (by decide) ?_
  refine lv_goto (tgt := 25) hx hb dX8_putPlace_20 (by decide) ?_
  exact bX8_putPlace_25 hC  hI hl hf
set_option maxRecDepth 20000 in
theorem cX8_putPlace_met (st : Nat → Nat) (l : Launch) (D : va_G) (ad : Nat → Nat) (cy : Nat → ClassId) (σ : zSt) (x1 : Int32) (res : zSt) (hf : fX8_putPlace σ x1 = some res) (sz : Nat) : zMu st l yX8_putPlace wzX8_putPlace rmX8_putPlace [.ref (ad 10), .int x1] D (tC cy) (wC ad cy) sz σ res :=
  zMu.of (cc := cX8_putPlace) (maxL := 2) (ret := none) (by decide) rfl (Nat.le_of_ble_eq_true rfl) (fun p e s m args below meth c hC A hI ls hl => bX8_putPlace hC hI hl hf)
theorem hdX8_putPlace : yX8_putPlace.cls = RX8 ∧ yX8_putPlace.cls ≠ "java/lang/invoke/MethodHandle" ∧ yX8_putPlace.cls ≠ "java/lang/invoke/VarHandle" ∧ (parseMethodDescriptor yX8_putPlace.desc).map (fun d => d.parameters.length) = some 1 := by decide +kernel
noncomputable def rmX8_putName : Room := { frames := 4, cells := 0, slots := 0, locals := 117 }
noncomputable def wzX8_putName : List Cond := .code yX8_putName cX8_putName 5 none :: wsL_law
noncomputable def fX8_putName_46 (k5 : zSt → Nat → Int32 → Int32 → Int32 → Option (zSt)) (σ : zSt) (n1 : Nat) (x2 : Int32) (x3 : Int32) (x4 : Int32) : Option (zSt) :=
  zbv (x4 + 1) (fun v1 =>
  k5 σ n1 x2 x3 v1)
noncomputable def fX8_putName_5_body (k5 : zSt → Nat → Int32 → Int32 → Int32 → Option (zSt)) (σ : zSt) (n1 : Nat) (x2 : Int32) (x3 : Int32) (x4 : Int32) : Option (zSt) :=
  zck (decide (n1 < zNK)) (if (zkN n1) ≤ x4 then some σ else
  zck (decide (n1 < zNK)) (zck (zin x4 (zkL n1)) (
  if (zkC n1 x4.toNatClampNeg) = 59 then zbv (x3 + 1) (fun v3 =>
  fX8_putName_46 k5 σ n1 x2 v3 x4) else
  if x3 = x2 then zck (decide (n1 < zNK)) (zck (zin x4 (zkL n1)) (
  zbu (fX8_putSign σ (zkC n1 x4.toNatClampNeg)) (fun σ2 =>
  fX8_putName_46 k5 σ2 n1 x2 x3 x4))) else
  fX8_putName_46 k5 σ n1 x2 x3 x4)))
noncomputable def fX8_putName_5  : Nat → zSt → Nat → Int32 → Int32 → Int32 → Option (zSt)
  | 0, _, _, _, _, _ => none
  | n + 1, σ, n1, x2, x3, x4 => fX8_putName_5_body (fX8_putName_5  n) σ n1 x2 x3 x4
noncomputable def fX8_putName  (σ : zSt) (n1 : Nat) (x2 : Int32) : Option (zSt) :=
  fX8_putName_5 zfuel σ n1 x2 0 0
set_option maxRecDepth 20000 in
set_option maxHeartbeats 4000000 in
theorem bX8_putName_46 {st : Nat → Nat} {p : Program} {l : Launch} {e : Env} {s : State} {m : MethodId} {args : Array Value} {below : List Frame} {meth : Method} {c : Code} {D : va_G} {A : Nat → Prop} {ad : Nat → Nat} {cy : Nat → ClassId} (hC : zC p m c cX8_putName 5 s args wzX8_putName RX8 meth none) {k5 : zSt → Nat → Int32 → Int32 → Int32 → Option (zSt)} {res : zSt} (hk5 : ∀ (H : Heap) (locs : List Loc) (σ : zSt) (ls : Array Slot) (n1 : Nat) (x2 : Int32) (x3 : Int32) (x4 : Int32), zI st D (tC cy) (wC ad cy σ) A s H locs → lv_has ls 5 [(0, .ref (ad 10)), (1, .ref (st (100 + n1))), (2, .int x2), (3, .int x3), (4, .int x4)] → k5 σ n1 x2 x3 x4 = some res → W p l e rmX8_putName s m args below meth c H locs 0 0 (zQu below args s D (tC cy) (wC ad cy) A res) (F0 m 5 ls [])) {H : Heap} {locs : List Loc} {σ : zSt} {ls : Array Slot} {n1 : Nat} {x2 : Int32} {x3 : Int32} {x4 : Int32} (hI : zI st D (tC cy) (wC ad cy σ) A s H locs) (hl : lv_has ls 5 [(0, .ref (ad 10)), (1, .ref (st (100 + n1))), (2, .int x2), (3, .int x3), (4, .int x4)]) (hf : fX8_putName_46 k5 σ n1 x2 x3 x4 = some res) : W p l e rmX8_putName s m args below meth c H locs 0 0 (zQu below args s D (tC cy) (wC ad cy) A res) (F0 m 46 ls []) := by
  have hx := hC.1
  have hb := hC.2.1
  unfold fX8_putName_46 at hf
  obtain ⟨v1, ev1⟩ : ∃ z : Int32, z = x4 + 1 := ⟨_, rfl⟩
  replace hf := zbv_use ev1 hf
  refine lv_iinc (v := v1) (lv' := [(4, .int v1), (0, .ref (ad 10)), (1, .ref (st (100 + n1))), (2, .int x2), (3, .int x3)]) hx hb dX8_putName_46 hl (k := 4) rfl (by rw [ev1]; rfl) (by decide) rfl (fun ls hl => ?_)
  refine lv_goto (tgt := 5) hx hb dX8_putName_49 (by decide) ?_
  exact hk5 _ _ _ _ _ _ _ _ hI (lv_sub hl [1, 2, 3, 4, 0] rfl) hf
set_option maxRecDepth 20000 in
set_option maxHeartbeats 4000000 in
theorem bX8_putName_5_body {st : Nat → Nat} {p : Program} {l : Launch} {e : Env} {s : State} {m : MethodId} {args : Array Value} {below : List Frame} {meth : Method} {c : Code} {D : va_G} {A : Nat → Prop} {ad : Nat → Nat} {cy : Nat → ClassId} (hC : zC p m c cX8_putName 5 s args wzX8_putName RX8 meth none) {k5 : zSt → Nat → Int32 → Int32 → Int32 → Option (zSt)} {res : zSt} (hk5 : ∀ (H : Heap) (locs : List Loc) (σ : zSt) (ls : Array Slot) (n1 : Nat) (x2 : Int32) (x3 : Int32) (x4 : Int32), zI st D (tC cy) (wC ad cy σ) A s H locs → lv_has ls 5 [(0, .ref (ad 10)), (1, .ref (st (100 + n1))), (2, .int x2), (3, .int x3), (4, .int x4)] → k5 σ n1 x2 x3 x4 = some res → W p l e rmX8_putName s m args below meth c H locs 0 0 (zQu below args s D (tC cy) (wC ad cy) A res) (F0 m 5 ls [])) {H : Heap} {locs : List Loc} {σ : zSt} {ls : Array Slot} {n1 : Nat} {x2 : Int32} {x3 : Int32} {x4 : Int32} (hI : zI st D (tC cy) (wC ad cy σ) A s H locs) (hl : lv_has ls 5 [(0, .ref (ad 10)), (1, .ref (st (100 + n1))), (2, .int x2), (3, .int x3), (4, .int x4)]) (hf : fX8_putName_5_body k5 σ n1 x2 x3 x4 = some res) : W p l e rmX8_putName s m args below meth c H locs 0 0 (zQu below args s D (tC cy) (wC ad cy) A res) (F0 m 5 ls []) := by
  have hx := hC.1
  have hb := hC.2.1
  unfold fX8_putName_5_body at hf
  refine lv_iload hx hb dX8_putName_5 (lv_at hl 4 rfl) ?_
  refine lv_aload_n hx hb dX8_putName_7 rfl (lv_at hl 1 rfl) ?_
  obtain ⟨q, hf⟩ := zck_use hf
  refine z_callKi (As := []) (rest := [.int x4]) hC hI (cJ0_length_met st l D (tC cy) (wC ad cy) σ n1 (of_decide_eq_true q)) (zgV zw70_21 zw70_22 zw70_23 zw62_13 zw71_0) rfl ⟨rfl, rfl⟩ 0 hdJ0_length ⟨Nat.le_of_ble_eq_true rfl, Nat.le_of_ble_eq_true rfl⟩ (of_decide_eq_true q) rfl rfl hl rfl (Nat.le_of_ble_eq_true rfl) dX8_putName_8 ⟨Nat.zero_le _, Nat.zero_le _⟩ (fun H locs hI => ?_)
  refine lv_icmp_ge (tgt := 52) hx hb dX8_putName_11 (by decide) (fun q => ?_) (fun q => ?_)
  · replace hf := zif_t q hf
    exact z_return hC hI hf dX8_putName_52
  replace hf := zif_f q hf
  refine lv_aload_n hx hb dX8_putName_14 rfl (lv_at hl 1 rfl) ?_
  refine lv_iload hx hb dX8_putName_15 (lv_at hl 4 rfl) ?_
  obtain ⟨q0, hf⟩ := zck_use hf
  obtain ⟨q, hf⟩ := zck_use hf
  refine z_callKi (As := [.int x4]) (rest := []) hC hI (cJ0_charAt_met st l D (tC cy) (wC ad cy) σ n1 (of_decide_eq_true q0) x4 q) (zgV zw71_5 zw62_11 zw62_12 zw62_13 zw62_14) rfl ⟨rfl, rfl⟩ 1 hdJ0_charAt ⟨Nat.le_of_ble_eq_true rfl, Nat.le_of_ble_eq_true rfl⟩ (of_decide_eq_true q0) rfl rfl hl rfl (Nat.le_of_ble_eq_true rfl) dX8_putName_17 ⟨Nat.zero_le _, Nat.zero_le _⟩ (fun H locs hI => ?_)
  refine lv_bipush (v := 59) hx hb dX8_putName_20 (by decide) ?_
  refine lv_icmp_ne (tgt := 31) hx hb dX8_putName_22 (by decide) (fun q => ?_) (fun q => ?_)
  · replace hf := zif_f q hf
    refine lv_iload_n hx hb dX8_putName_31 rfl (lv_at hl 3 rfl) ?_
    refine lv_iload_n hx hb dX8_putName_32 rfl (lv_at hl 2 rfl) ?_
    refine lv_icmp_ne (tgt := 46) hx hb dX8_putName_33 (by decide) (fun q => ?_) (fun q => ?_)
    · replace hf := zif_f q hf
      exact bX8_putName_46 hC hk5 hI hl hf
    replace hf := zif_t q hf
    refine lv_aload_n hx hb dX8_putName_36 rfl (lv_at hl 0 rfl) ?_
    refine lv_aload_n hx hb dX8_putName_37 rfl (lv_at hl 1 rfl) ?_
    refine lv_iload hx hb dX8_putName_38 (lv_at hl 4 rfl) ?_
    obtain ⟨q0, hf⟩ := zck_use hf
    obtain ⟨q, hf⟩ := zck_use hf
    refine z_callKi (As := [.int x4]) (rest := [.ref (ad 10)]) hC hI (cJ0_charAt_met st l D (tC cy) (wC ad cy) σ n1 (of_decide_eq_true q0) x4 q) (zgV zw71_5 zw62_11 zw62_12 zw62_13 zw62_14) rfl ⟨rfl, rfl⟩ 1 hdJ0_charAt ⟨Nat.le_of_ble_eq_true rfl, Nat.le_of_ble_eq_true rfl⟩ (of_decide_eq_true q0) rfl rfl hl rfl (Nat.le_of_ble_eq_true rfl) dX8_putName_40 ⟨Nat.zero_le _, Nat.zero_le _⟩ (fun H locs hI => ?_)
    obtain ⟨σ2, g2, hf⟩ := zbu_use hf
    refine z_callVu (As := [.int (zkC n1 x4.toNatClampNeg)]) (rest := []) hC hI (cX8_putSign_met st l D ad cy σ (zkC n1 x4.toNatClampNeg) _ g2) (zgV zw71_19 zw71_20 zw71_21 zw3_9 zw71_22) rfl ⟨rfl, rfl⟩ 1 hdX8_putSign ⟨Nat.le_of_ble_eq_true rfl, Nat.le_of_ble_eq_true rfl⟩ rfl rfl (wC_e10 ad cy σ) rfl hl rfl (Nat.le_of_ble_eq_true rfl) dX8_putName_43 ⟨Nat.zero_le _, Nat.zero_le _⟩ (fun H locs hI => ?_)
    exact bX8_putName_46 hC hk5 hI hl hf
  replace hf := zif_t q hf
  obtain ⟨v3, ev3⟩ : ∃ z : Int32, z = x3 + 1 := ⟨_, rfl⟩
  replace hf := zbv_use ev3 hf
  refine lv_iinc (v := v3) (lv' := [(3, .int v3), (0, .ref (ad 10)), (1, .ref (st (100 + n1))), (2, .int x2), (4, .int x4)]) hx hb dX8_putName_25 hl (k := 3) rfl (by rw [ev3]; rfl) (by decide) rfl (fun ls hl => ?_)
  refine lv_goto (tgt := 46) hx hb dX8_putName_28 (by decide) ?_
  exact bX8_putName_46 hC hk5 hI (lv_sub hl [1, 2, 3, 0, 4] rfl) hf
theorem blX8_putName_5 {st : Nat → Nat} {p : Program} {l : Launch} {e : Env} {s : State} {m : MethodId} {args : Array Value} {below : List Frame} {meth : Method} {c : Code} {D : va_G} {A : Nat → Prop} {ad : Nat → Nat} {cy : Nat → ClassId} (hC : zC p m c cX8_putName 5 s args wzX8_putName RX8 meth none)  {res : zSt} : ∀ (n : Nat) (H : Heap) (locs : List Loc) (σ : zSt) (ls : Array Slot) (n1 : Nat) (x2 : Int32) (x3 : Int32) (x4 : Int32), zI st D (tC cy) (wC ad cy σ) A s H locs → lv_has ls 5 [(0, .ref (ad 10)), (1, .ref (st (100 + n1))), (2, .int x2), (3, .int x3), (4, .int x4)] → fX8_putName_5  n σ n1 x2 x3 x4 = some res → W p l e rmX8_putName s m args below meth c H locs 0 0 (zQu below args s D (tC cy) (wC ad cy) A res) (F0 m 5 ls []) := by
  intro n
  induction n with
  | zero => intro H locs σ ls n1 x2 x3 x4 hI hl hf; cases hf
  | succ n ih => intro H locs σ ls n1 x2 x3 x4 hI hl hf; exact bX8_putName_5_body hC ih hI hl hf
set_option maxRecDepth 20000 in
set_option maxHeartbeats 4000000 in
theorem bX8_putName {st : Nat → Nat} {p : Program} {l : Launch} {e : Env} {s : State} {m : MethodId} {args : Array Value} {below : List Frame} {meth : Method} {c : Code} {D : va_G} {A : Nat → Prop} {ad : Nat → Nat} {cy : Nat → ClassId} (hC : zC p m c cX8_putName 5 s args wzX8_putName RX8 meth none)  {res : zSt} {H : Heap} {locs : List Loc} {σ : zSt} {ls : Array Slot} {n1 : Nat} {x2 : Int32} (hI : zI st D (tC cy) (wC ad cy σ) A s H locs) (hl : lv_has ls 5 [(0, .ref (ad 10)), (1, .ref (st (100 + n1))), (2, .int x2)]) (hf : fX8_putName  σ n1 x2 = some res) : W p l e rmX8_putName s m args below meth c H locs 0 0 (zQu below args s D (tC cy) (wC ad cy) A res) (F0 m 0 ls []) := by
  have hx := hC.1
  have hb := hC.2.1
  unfold fX8_putName at hf
  refine lv_iconst (v := 0) hx hb dX8_putName_0 (by decide) ?_
  refine lv_istore_n (lv' := [(3, .int 0), (0, .ref (ad 10)), (1, .ref (st (100 + n1))), (2, .int x2)]) hx hb dX8_putName_1 rfl hl (by decide) rfl (fun ls hl => ?_)
  refine lv_iconst (v := 0) hx hb dX8_putName_2 (by decide) ?_
  refine lv_istore (lv' := [(4, .int 0), (3, .int 0), (0, .ref (ad 10)), (1, .ref (st (100 + n1))), (2, .int x2)]) hx hb dX8_putName_3 hl (by decide) rfl (fun ls hl => ?_)
  exact blX8_putName_5 hC  zfuel _ _ _ _ _ _ _ _ hI (lv_sub hl [2, 3, 4, 1, 0] rfl) hf
set_option maxRecDepth 20000 in
theorem cX8_putName_met (st : Nat → Nat) (l : Launch) (D : va_G) (ad : Nat → Nat) (cy : Nat → ClassId) (σ : zSt) (n1 : Nat) (x2 : Int32) (res : zSt) (hf : fX8_putName σ n1 x2 = some res) (sz : Nat) : zMu st l yX8_putName wzX8_putName rmX8_putName [.ref (ad 10), .ref (st (100 + n1)), .int x2] D (tC cy) (wC ad cy) sz σ res :=
  zMu.of (cc := cX8_putName) (maxL := 5) (ret := none) (by decide) rfl (Nat.le_of_ble_eq_true rfl) (fun p e s m args below meth c hC A hI ls hl => bX8_putName hC hI hl hf)
theorem hdX8_putName : yX8_putName.cls = RX8 ∧ yX8_putName.cls ≠ "java/lang/invoke/MethodHandle" ∧ yX8_putName.cls ≠ "java/lang/invoke/VarHandle" ∧ (parseMethodDescriptor yX8_putName.desc).map (fun d => d.parameters.length) = some 2 := by decide +kernel
noncomputable def rmX8_putOne : Room := { frames := 6, cells := 0, slots := 0, locals := 159 }
noncomputable def wzX8_putOne : List Cond := .code yX8_putOne cX8_putOne 2 none :: wsL_law
theorem hinX8_putOne_X80 : ∀ w ∈ wsX80, w ∈ wzX8_putOne := fun w h => List.mem_cons_of_mem _ (inlX8 w h)
noncomputable def fX8_putOne_78  (σ : zSt)  : Option (zSt) :=
  some σ
noncomputable def fX8_putOne_71  (σ : zSt) (x1 : Int32) : Option (zSt) :=
  zbu (fX8_putName σ 2 x1) (fun σ1 =>
  fX8_putOne_78 σ1)
noncomputable def fX8_putOne_65  (σ : zSt) (s0 : Int32) : Option (zSt) :=
  zbu (fX8_putSign σ s0) (fun σ2 =>
  fX8_putOne_78 σ2)
noncomputable def fX8_putOne_34  (σ : zSt) (x1 : Int32) : Option (zSt) :=
  if (zgi σ 10 8) = 0 then fX8_putOne_71 σ x1 else
  if (zgi σ 10 9) = 0 then zbu (fX8_putHl σ ) (fun σ3 =>
  if x1 = 4 then fX8_putOne_65 σ3 104 else
  fX8_putOne_65 σ3 108) else
  fX8_putOne_71 σ x1
noncomputable def fX8_putOne_24  (σ : zSt) (x1 : Int32) : Option (zSt) :=
  if x1 = 4 then fX8_putOne_34 σ x1 else
  if x1 = 5 then fX8_putOne_34 σ x1 else
  fX8_putOne_71 σ x1
noncomputable def fX8_putOne  (σ : zSt) (x1 : Int32) : Option (zSt) :=
  if x1 = 6 then if (zgi σ 10 8) = 0 then fX8_putOne_24 σ x1 else
  zbi (fX8_take σ ) (fun σ4 v5 =>
  zbu (fX8_putPlace σ4 v5) (fun σ6 =>
  fX8_putOne_78 σ6)) else
  fX8_putOne_24 σ x1
set_option maxRecDepth 20000 in
set_option maxHeartbeats 4000000 in
theorem bX8_putOne_78 {st : Nat → Nat} {p : Program} {l : Launch} {e : Env} {s : State} {m : MethodId} {args : Array Value} {below : List Frame} {meth : Method} {c : Code} {D : va_G} {A : Nat → Prop} {ad : Nat → Nat} {cy : Nat → ClassId} (hC : zC p m c cX8_putOne 2 s args wzX8_putOne RX8 meth none)  {res : zSt} {H : Heap} {locs : List Loc} {σ : zSt} {ls : Array Slot}  (hI : zI st D (tC cy) (wC ad cy σ) A s H locs) (hl : lv_has ls 2 []) (hf : fX8_putOne_78  σ  = some res) : W p l e rmX8_putOne s m args below meth c H locs 0 0 (zQu below args s D (tC cy) (wC ad cy) A res) (F0 m 78 ls []) := by
  have hx := hC.1
  have hb := hC.2.1
  unfold fX8_putOne_78 at hf
  exact z_return hC hI hf dX8_putOne_78
set_option maxRecDepth 20000 in
set_option maxHeartbeats 4000000 in
theorem bX8_putOne_71 {st : Nat → Nat} {p : Program} {l : Launch} {e : Env} {s : State} {m : MethodId} {args : Array Value} {below : List Frame} {meth : Method} {c : Code} {D : va_G} {A : Nat → Prop} {ad : Nat → Nat} {cy : Nat → ClassId} (hC : zC p m c cX8_putOne 2 s args wzX8_putOne RX8 meth none)  {res : zSt} {H : Heap} {locs : List Loc} {σ : zSt} {ls : Array Slot} {x1 : Int32} (hI : zI st D (tC cy) (wC ad cy σ) A s H locs) (hl : lv_has ls 2 [(0, .ref (ad 10)), (1, .int x1)]) (hf : fX8_putOne_71  σ x1 = some res) : W p l e rmX8_putOne s m args below meth c H locs 0 0 (zQu below args s D (tC cy) (wC ad cy) A res) (F0 m 71 ls []) := by
  have hx := hC.1
  have hb := hC.2.1
  unfold fX8_putOne_71 at hf
  refine lv_aload_n hx hb dX8_putOne_71 rfl (lv_at hl 0 rfl) ?_
  refine z_ldcS hC hI 2 (by decide) rfl rfl dX8_putOne_72 ?_
  refine lv_iload_n hx hb dX8_putOne_74 rfl (lv_at hl 1 rfl) ?_
  obtain ⟨σ1, g1, hf⟩ := zbu_use hf
  refine z_callVu (As := [.ref (st (100 + 2)), .int x1]) (rest := []) hC hI (cX8_putName_met st l D ad cy σ 2 x1 _ g1) (zgV zw72_7 zw72_8 zw72_9 zw3_9 zw72_10) rfl ⟨rfl, rfl⟩ 2 hdX8_putName ⟨Nat.le_of_ble_eq_true rfl, Nat.le_of_ble_eq_true rfl⟩ rfl rfl (wC_e10 ad cy σ) rfl hl rfl (Nat.le_of_ble_eq_true rfl) dX8_putOne_75 ⟨Nat.zero_le _, Nat.zero_le _⟩ (fun H locs hI => ?_)
  exact bX8_putOne_78 hC  hI (lv_sub hl [] rfl) hf
set_option maxRecDepth 20000 in
set_option maxHeartbeats 4000000 in
theorem bX8_putOne_65 {st : Nat → Nat} {p : Program} {l : Launch} {e : Env} {s : State} {m : MethodId} {args : Array Value} {below : List Frame} {meth : Method} {c : Code} {D : va_G} {A : Nat → Prop} {ad : Nat → Nat} {cy : Nat → ClassId} (hC : zC p m c cX8_putOne 2 s args wzX8_putOne RX8 meth none)  {res : zSt} {H : Heap} {locs : List Loc} {σ : zSt} {ls : Array Slot} {s0 : Int32} (hI : zI st D (tC cy) (wC ad cy σ) A s H locs) (hl : lv_has ls 2 []) (hf : fX8_putOne_65  σ s0 = some res) : W p l e rmX8_putOne s m args below meth c H locs 0 0 (zQu below args s D (tC cy) (wC ad cy) A res) (F0 m 65 ls [.int s0, .ref (ad 10)]) := by
  have hx := hC.1
  have hb := hC.2.1
  unfold fX8_putOne_65 at hf
  obtain ⟨σ2, g2, hf⟩ := zbu_use hf
  refine z_callVu (As := [.int s0]) (rest := []) hC hI (cX8_putSign_met st l D ad cy σ s0 _ g2) (zgV zw71_19 zw71_20 zw71_21 zw3_9 zw71_22) rfl ⟨rfl, rfl⟩ 1 hdX8_putSign ⟨Nat.le_of_ble_eq_true rfl, Nat.le_of_ble_eq_true rfl⟩ rfl rfl (wC_e10 ad cy σ) rfl hl rfl (Nat.le_of_ble_eq_true rfl) dX8_putOne_65 ⟨Nat.zero_le _, Nat.zero_le _⟩ (fun H locs hI => ?_)
  refine lv_goto (tgt := 78) hx hb dX8_putOne_68 (by decide) ?_
  exact bX8_putOne_78 hC  hI hl hf
set_option maxRecDepth 20000 in
set_option maxHeartbeats 4000000 in
theorem bX8_putOne_34 {st : Nat → Nat} {p : Program} {l : Launch} {e : Env} {s : State} {m : MethodId} {args : Array Value} {below : List Frame} {meth : Method} {c : Code} {D : va_G} {A : Nat → Prop} {ad : Nat → Nat} {cy : Nat → ClassId} (hC : zC p m c cX8_putOne 2 s args wzX8_putOne RX8 meth none)  {res : zSt} {H : Heap} {locs : List Loc} {σ : zSt} {ls : Array Slot} {x1 : Int32} (hI : zI st D (tC cy) (wC ad cy σ) A s H locs) (hl : lv_has ls 2 [(0, .ref (ad 10)), (1, .int x1)]) (hf : fX8_putOne_34  σ x1 = some res) : W p l e rmX8_putOne s m args below meth c H locs 0 0 (zQu below args s D (tC cy) (wC ad cy) A res) (F0 m 34 ls []) := by
  have hx := hC.1
  have hb := hC.2.1
  unfold fX8_putOne_34 at hf
  refine lv_aload_n hx hb dX8_putOne_34 rfl (lv_at hl 0 rfl) ?_
  refine z_get hC hI hinX8_putOne_X80 10 (wC_e10 ad cy σ) rfl 8 (by decide) (List.mem_cons_of_mem _ zw70_9) rfl dX8_putOne_35 ?_
  refine lv_if_eq (tgt := 71) hx hb dX8_putOne_38 (by decide) (fun q => ?_) (fun q => ?_)
  · replace hf := zif_t q hf
    exact bX8_putOne_71 hC  hI hl hf
  replace hf := zif_f q hf
  refine lv_aload_n hx hb dX8_putOne_41 rfl (lv_at hl 0 rfl) ?_
  refine z_get hC hI hinX8_putOne_X80 10 (wC_e10 ad cy σ) rfl 9 (by decide) (List.mem_cons_of_mem _ zw70_10) rfl dX8_putOne_42 ?_
  refine lv_if_ne (tgt := 71) hx hb dX8_putOne_45 (by decide) (fun q => ?_) (fun q => ?_)
  · replace hf := zif_f q hf
    exact bX8_putOne_71 hC  hI hl hf
  replace hf := zif_t q hf
  refine lv_aload_n hx hb dX8_putOne_48 rfl (lv_at hl 0 rfl) ?_
  obtain ⟨σ3, g3, hf⟩ := zbu_use hf
  refine z_callVu (As := []) (rest := []) hC hI (cX8_putHl_met st l D ad cy σ  _ g3) (zgV zw71_23 zw72_0 zw72_1 zw3_9 zw72_2) rfl ⟨rfl, rfl⟩ 0 hdX8_putHl ⟨Nat.le_of_ble_eq_true rfl, Nat.le_of_ble_eq_true rfl⟩ rfl rfl (wC_e10 ad cy σ) rfl hl rfl (Nat.le_of_ble_eq_true rfl) dX8_putOne_49 ⟨Nat.zero_le _, Nat.zero_le _⟩ (fun H locs hI => ?_)
  refine lv_aload_n hx hb dX8_putOne_52 rfl (lv_at hl 0 rfl) ?_
  refine lv_iload_n hx hb dX8_putOne_53 rfl (lv_at hl 1 rfl) ?_
  refine lv_iconst (v := 4) hx hb dX8_putOne_54 (by decide) ?_
  refine lv_icmp_ne (tgt := 63) hx hb dX8_putOne_55 (by decide) (fun q => ?_) (fun q => ?_)
  · replace hf := zif_f q hf
    refine lv_bipush (v := 108) hx hb dX8_putOne_63 (by decide) ?_
    exact bX8_putOne_65 hC  hI (lv_sub hl [] rfl) hf
  replace hf := zif_t q hf
  refine lv_bipush (v := 104) hx hb dX8_putOne_58 (by decide) ?_
  refine lv_goto (tgt := 65) hx hb dX8_putOne_60 (by decide) ?_
  exact bX8_putOne_65 hC  hI (lv_sub hl [] rfl) hf
set_option maxRecDepth 20000 in
set_option maxHeartbeats 4000000 in
theorem bX8_putOne_24 {st : Nat → Nat} {p : Program} {l : Launch} {e : Env} {s : State} {m : MethodId} {args : Array Value} {below : List Frame} {meth : Method} {c : Code} {D : va_G} {A : Nat → Prop} {ad : Nat → Nat} {cy : Nat → ClassId} (hC : zC p m c cX8_putOne 2 s args wzX8_putOne RX8 meth none)  {res : zSt} {H : Heap} {locs : List Loc} {σ : zSt} {ls : Array Slot} {x1 : Int32} (hI : zI st D (tC cy) (wC ad cy σ) A s H locs) (hl : lv_has ls 2 [(0, .ref (ad 10)), (1, .int x1)]) (hf : fX8_putOne_24  σ x1 = some res) : W p l e rmX8_putOne s m args below meth c H locs 0 0 (zQu below args s D (tC cy) (wC ad cy) A res) (F0 m 24 ls []) := by
  have hx := hC.1
  have hb := hC.2.1
  unfold fX8_putOne_24 at hf
  refine lv_iload_n hx hb dX8_putOne_24 rfl (lv_at hl 1 rfl) ?_
  refine lv_iconst (v := 4) hx hb dX8_putOne_25 (by decide) ?_
  refine lv_icmp_eq (tgt := 34) hx hb dX8_putOne_26 (by decide) (fun q => ?_) (fun q => ?_)
  · replace hf := zif_t q hf
    exact bX8_putOne_34 hC  hI hl hf
  replace hf := zif_f q hf
  refine lv_iload_n hx hb dX8_putOne_29 rfl (lv_at hl 1 rfl) ?_
  refine lv_iconst (v := 5) hx hb dX8_putOne_30 (by decide) ?_
  refine lv_icmp_ne (tgt := 71) hx hb dX8_putOne_31 (by decide) (fun q => ?_) (fun q => ?_)
  · replace hf := zif_f q hf
    exact bX8_putOne_71 hC  hI hl hf
  replace hf := zif_t q hf
  exact bX8_putOne_34 hC  hI hl hf
set_option maxRecDepth 20000 in
set_option maxHeartbeats 4000000 in
theorem bX8_putOne {st : Nat → Nat} {p : Program} {l : Launch} {e : Env} {s : State} {m : MethodId} {args : Array Value} {below : List Frame} {meth : Method} {c : Code} {D : va_G} {A : Nat → Prop} {ad : Nat → Nat} {cy : Nat → ClassId} (hC : zC p m c cX8_putOne 2 s args wzX8_putOne RX8 meth none)  {res : zSt} {H : Heap} {locs : List Loc} {σ : zSt} {ls : Array Slot} {x1 : Int32} (hI : zI st D (tC cy) (wC ad cy σ) A s H locs) (hl : lv_has ls 2 [(0, .ref (ad 10)), (1, .int x1)]) (hf : fX8_putOne  σ x1 = some res) : W p l e rmX8_putOne s m args below meth c H locs 0 0 (zQu below args s D (tC cy) (wC ad cy) A res) (F0 m 0 ls []) := by
  have hx := hC.1
  have hb := hC.2.1
  unfold fX8_putOne at hf
  refine lv_iload_n hx hb dX8_putOne_0 rfl (lv_at hl 1 rfl) ?_
  refine lv_bipush (v := 6) hx hb dX8_putOne_1 (by decide) ?_
  refine lv_icmp_ne (tgt := 24) hx hb dX8_putOne_3 (by decide) (fun q => ?_) (fun q => ?_)
  · replace hf := zif_f q hf
    exact bX8_putOne_24 hC  hI hl hf
  replace hf := zif_t q hf
  refine lv_aload_n hx hb dX8_putOne_6 rfl (lv_at hl 0 rfl) ?_
  refine z_get hC hI hinX8_putOne_X80 10 (wC_e10 ad cy σ) rfl 8 (by decide) (List.mem_cons_of_mem _ zw70_9) rfl dX8_putOne_7 ?_
  refine lv_if_eq (tgt := 24) hx hb dX8_putOne_10 (by decide) (fun q => ?_) (fun q => ?_)
  · replace hf := zif_t q hf
    exact bX8_putOne_24 hC  hI hl hf
  replace hf := zif_f q hf
  refine lv_aload_n hx hb dX8_putOne_13 rfl (lv_at hl 0 rfl) ?_
  refine lv_aload_n hx hb dX8_putOne_14 rfl (lv_at hl 0 rfl) ?_
  obtain ⟨σ4, v5, g4, hf⟩ := zbi_use hf
  refine z_callVi (As := []) (rest := [.ref (ad 10)]) hC hI (cX8_take_met st l D ad cy σ  _ g4) (zgV zw70_11 zw70_12 zw70_13 zw3_9 zw70_14) rfl ⟨rfl, rfl⟩ 0 hdX8_take ⟨Nat.le_of_ble_eq_true rfl, Nat.le_of_ble_eq_true rfl⟩ rfl rfl (wC_e10 ad cy σ) rfl hl rfl (Nat.le_of_ble_eq_true rfl) dX8_putOne_15 ⟨Nat.zero_le _, Nat.zero_le _⟩ (fun H locs hI => ?_)
  obtain ⟨σ6, g6, hf⟩ := zbu_use hf
  refine z_callVu (As := [.int v5]) (rest := []) hC hI (cX8_putPlace_met st l D ad cy σ4 v5 _ g6) (zgV zw71_15 zw71_16 zw71_17 zw3_9 zw71_18) rfl ⟨rfl, rfl⟩ 1 hdX8_putPlace ⟨Nat.le_of_ble_eq_true rfl, Nat.le_of_ble_eq_true rfl⟩ rfl rfl (wC_e10 ad cy σ4) rfl hl rfl (Nat.le_of_ble_eq_true rfl) dX8_putOne_18 ⟨Nat.zero_le _, Nat.zero_le _⟩ (fun H locs hI => ?_)
  refine lv_goto (tgt := 78) hx hb dX8_putOne_21 (by decide) ?_
  exact bX8_putOne_78 hC  hI (lv_sub hl [] rfl) hf
set_option maxRecDepth 20000 in
theorem cX8_putOne_met (st : Nat → Nat) (l : Launch) (D : va_G) (ad : Nat → Nat) (cy : Nat → ClassId) (σ : zSt) (x1 : Int32) (res : zSt) (hf : fX8_putOne σ x1 = some res) (sz : Nat) : zMu st l yX8_putOne wzX8_putOne rmX8_putOne [.ref (ad 10), .int x1] D (tC cy) (wC ad cy) sz σ res :=
  zMu.of (cc := cX8_putOne) (maxL := 2) (ret := none) (by decide) rfl (Nat.le_of_ble_eq_true rfl) (fun p e s m args below meth c hC A hI ls hl => bX8_putOne hC hI hl hf)
theorem hdX8_putOne : yX8_putOne.cls = RX8 ∧ yX8_putOne.cls ≠ "java/lang/invoke/MethodHandle" ∧ yX8_putOne.cls ≠ "java/lang/invoke/VarHandle" ∧ (parseMethodDescriptor yX8_putOne.desc).map (fun d => d.parameters.length) = some 1 := by decide +kernel
noncomputable def rmX8_putTurned : Room := { frames := 6, cells := 0, slots := 0, locals := 159 }
noncomputable def wzX8_putTurned : List Cond := .code yX8_putTurned cX8_putTurned 1 none :: wsL_law
theorem hinX8_putTurned_X80 : ∀ w ∈ wsX80, w ∈ wzX8_putTurned := fun w h => List.mem_cons_of_mem _ (inlX8 w h)
noncomputable def fX8_putTurned_59  (σ : zSt)  : Option (zSt) :=
  some σ
noncomputable def fX8_putTurned  (σ : zSt)  : Option (zSt) :=
  if (zgi σ 10 8) = 0 then zbu (fX8_putName σ 2 (zgi σ 10 7)) (fun σ4 =>
  some σ4) else
  zbu (fX8_putPlace σ (zgi σ 10 10)) (fun σ1 =>
  if (zgi σ1 10 5) = 1 then fX8_putTurned_59 σ1 else
  if (zgi σ1 10 7) = 6 then fX8_putTurned_59 σ1 else
  zbu (fX8_putSign σ1 44) (fun σ2 =>
  zbu (fX8_putName σ2 2 (zgi σ2 10 7)) (fun σ3 =>
  fX8_putTurned_59 σ3)))
set_option maxRecDepth 20000 in
set_option maxHeartbeats 4000000 in
theorem bX8_putTurned_59 {st : Nat → Nat} {p : Program} {l : Launch} {e : Env} {s : State} {m : MethodId} {args : Array Value} {below : List Frame} {meth : Method} {c : Code} {D : va_G} {A : Nat → Prop} {ad : Nat → Nat} {cy : Nat → ClassId} (hC : zC p m c cX8_putTurned 1 s args wzX8_putTurned RX8 meth none)  {res : zSt} {H : Heap} {locs : List Loc} {σ : zSt} {ls : Array Slot}  (hI : zI st D (tC cy) (wC ad cy σ) A s H locs) (hl : lv_has ls 1 []) (hf : fX8_putTurned_59  σ  = some res) : W p l e rmX8_putTurned s m args below meth c H locs 0 0 (zQu below args s D (tC cy) (wC ad cy) A res) (F0 m 59 ls []) := by
  have hx := hC.1
  have hb := hC.2.1
  unfold fX8_putTurned_59 at hf
  exact z_return hC hI hf dX8_putTurned_59
set_option maxRecDepth 20000 in
set_option maxHeartbeats 4000000 in
theorem bX8_putTurned {st : Nat → Nat} {p : Program} {l : Launch} {e : Env} {s : State} {m : MethodId} {args : Array Value} {below : List Frame} {meth : Method} {c : Code} {D : va_G} {A : Nat → Prop} {ad : Nat → Nat} {cy : Nat → ClassId} (hC : zC p m c cX8_putTurned 1 s args wzX8_putTurned RX8 meth none)  {res : zSt} {H : Heap} {locs : List Loc} {σ : zSt} {ls : Array Slot}  (hI : zI st D (tC cy) (wC ad cy σ) A s H locs) (hl : lv_has ls 1 [(0, .ref (ad 10))]) (hf : fX8_putTurned  σ  = some res) : W p l e rmX8_putTurned s m args below meth c H locs 0 0 (zQu below args s D (tC cy) (wC ad cy) A res) (F0 m 0 ls []) := by
  have hx := hC.1
  have hb := hC.2.1
  unfold fX8_putTurned at hf
  refine lv_aload_n hx hb dX8_putTurned_0 rfl (lv_at hl 0 rfl) ?_
  refine z_get hC hI hinX8_putTurned_X80 10 (wC_e10 ad cy σ) rfl 8 (by decide) (List.mem_cons_of_mem _ zw70_9) rfl dX8_putTurned_1 ?_
  refine lv_if_ne (tgt := 18) hx hb dX8_putTurned_4 (by decide) (fun q => ?_) (fun q => ?_)
  · replace hf := zif_f q hf
    refine lv_aload_n hx hb dX8_putTurned_18 rfl (lv_at hl 0 rfl) ?_
    refine lv_aload_n hx hb dX8_putTurned_19 rfl (lv_at hl 0 rfl) ?_
    refine z_get hC hI hinX8_putTurned_X80 10 (wC_e10 ad cy σ) rfl 10 (by decide) (List.mem_cons_of_mem _ zw72_15) rfl dX8_putTurned_20 ?_
    obtain ⟨σ1, g1, hf⟩ := zbu_use hf
    refine z_callVu (As := [.int (zgi σ 10 10)]) (rest := []) hC hI (cX8_putPlace_met st l D ad cy σ (zgi σ 10 10) _ g1) (zgV zw71_15 zw71_16 zw71_17 zw3_9 zw71_18) rfl ⟨rfl, rfl⟩ 1 hdX8_putPlace ⟨Nat.le_of_ble_eq_true rfl, Nat.le_of_ble_eq_true rfl⟩ rfl rfl (wC_e10 ad cy σ) rfl hl rfl (Nat.le_of_ble_eq_true rfl) dX8_putTurned_23 ⟨Nat.zero_le _, Nat.zero_le _⟩ (fun H locs hI => ?_)
    refine lv_aload_n hx hb dX8_putTurned_26 rfl (lv_at hl 0 rfl) ?_
    refine z_get hC hI hinX8_putTurned_X80 10 (wC_e10 ad cy σ1) rfl 5 (by decide) (List.mem_cons_of_mem _ zw72_16) rfl dX8_putTurned_27 ?_
    refine lv_iconst (v := 1) hx hb dX8_putTurned_30 (by decide) ?_
    refine lv_icmp_eq (tgt := 59) hx hb dX8_putTurned_31 (by decide) (fun q => ?_) (fun q => ?_)
    · replace hf := zif_t q hf
      exact bX8_putTurned_59 hC  hI (lv_sub hl [] rfl) hf
    replace hf := zif_f q hf
    refine lv_aload_n hx hb dX8_putTurned_34 rfl (lv_at hl 0 rfl) ?_
    refine z_get hC hI hinX8_putTurned_X80 10 (wC_e10 ad cy σ1) rfl 7 (by decide) (List.mem_cons_of_mem _ zw71_10) rfl dX8_putTurned_35 ?_
    refine lv_bipush (v := 6) hx hb dX8_putTurned_38 (by decide) ?_
    refine lv_icmp_eq (tgt := 59) hx hb dX8_putTurned_40 (by decide) (fun q => ?_) (fun q => ?_)
    · replace hf := zif_t q hf
      exact bX8_putTurned_59 hC  hI (lv_sub hl [] rfl) hf
    replace hf := zif_f q hf
    refine lv_aload_n hx hb dX8_putTurned_43 rfl (lv_at hl 0 rfl) ?_
    refine lv_bipush (v := 44) hx hb dX8_putTurned_44 (by decide) ?_
    obtain ⟨σ2, g2, hf⟩ := zbu_use hf
    refine z_callVu (As := [.int 44]) (rest := []) hC hI (cX8_putSign_met st l D ad cy σ1 44 _ g2) (zgV zw71_19 zw71_20 zw71_21 zw3_9 zw71_22) rfl ⟨rfl, rfl⟩ 1 hdX8_putSign ⟨Nat.le_of_ble_eq_true rfl, Nat.le_of_ble_eq_true rfl⟩ rfl rfl (wC_e10 ad cy σ1) rfl hl rfl (Nat.le_of_ble_eq_true rfl) dX8_putTurned_46 ⟨Nat.zero_le _, Nat.zero_le _⟩ (fun H locs hI => ?_)
    refine lv_aload_n hx hb dX8_putTurned_49 rfl (lv_at hl 0 rfl) ?_
    refine z_ldcS hC hI 2 (by decide) rfl rfl dX8_putTurned_50 ?_
    refine lv_aload_n hx hb dX8_putTurned_52 rfl (lv_at hl 0 rfl) ?_
    refine z_get hC hI hinX8_putTurned_X80 10 (wC_e10 ad cy σ2) rfl 7 (by decide) (List.mem_cons_of_mem _ zw71_10) rfl dX8_putTurned_53 ?_
    obtain ⟨σ3, g3, hf⟩ := zbu_use hf
    refine z_callVu (As := [.ref (st (100 + 2)), .int (zgi σ2 10 7)]) (rest := []) hC hI (cX8_putName_met st l D ad cy σ2 2 (zgi σ2 10 7) _ g3) (zgV zw72_7 zw72_8 zw72_9 zw3_9 zw72_10) rfl ⟨rfl, rfl⟩ 2 hdX8_putName ⟨Nat.le_of_ble_eq_true rfl, Nat.le_of_ble_eq_true rfl⟩ rfl rfl (wC_e10 ad cy σ2) rfl hl rfl (Nat.le_of_ble_eq_true rfl) dX8_putTurned_56 ⟨Nat.zero_le _, Nat.zero_le _⟩ (fun H locs hI => ?_)
    exact bX8_putTurned_59 hC  hI (lv_sub hl [] rfl) hf
  replace hf := zif_t q hf
  refine lv_aload_n hx hb dX8_putTurned_7 rfl (lv_at hl 0 rfl) ?_
  refine z_ldcS hC hI 2 (by decide) rfl rfl dX8_putTurned_8 ?_
  refine lv_aload_n hx hb dX8_putTurned_10 rfl (lv_at hl 0 rfl) ?_
  refine z_get hC hI hinX8_putTurned_X80 10 (wC_e10 ad cy σ) rfl 7 (by decide) (List.mem_cons_of_mem _ zw71_10) rfl dX8_putTurned_11 ?_
  obtain ⟨σ4, g4, hf⟩ := zbu_use hf
  refine z_callVu (As := [.ref (st (100 + 2)), .int (zgi σ 10 7)]) (rest := []) hC hI (cX8_putName_met st l D ad cy σ 2 (zgi σ 10 7) _ g4) (zgV zw72_7 zw72_8 zw72_9 zw3_9 zw72_10) rfl ⟨rfl, rfl⟩ 2 hdX8_putName ⟨Nat.le_of_ble_eq_true rfl, Nat.le_of_ble_eq_true rfl⟩ rfl rfl (wC_e10 ad cy σ) rfl hl rfl (Nat.le_of_ble_eq_true rfl) dX8_putTurned_14 ⟨Nat.zero_le _, Nat.zero_le _⟩ (fun H locs hI => ?_)
  exact z_return hC hI hf dX8_putTurned_17
set_option maxRecDepth 20000 in
theorem cX8_putTurned_met (st : Nat → Nat) (l : Launch) (D : va_G) (ad : Nat → Nat) (cy : Nat → ClassId) (σ : zSt)  (res : zSt) (hf : fX8_putTurned σ  = some res) (sz : Nat) : zMu st l yX8_putTurned wzX8_putTurned rmX8_putTurned [.ref (ad 10)] D (tC cy) (wC ad cy) sz σ res :=
  zMu.of (cc := cX8_putTurned) (maxL := 1) (ret := none) (by decide) rfl (Nat.le_of_ble_eq_true rfl) (fun p e s m args below meth c hC A hI ls hl => bX8_putTurned hC hI hl hf)
theorem hdX8_putTurned : yX8_putTurned.cls = RX8 ∧ yX8_putTurned.cls ≠ "java/lang/invoke/MethodHandle" ∧ yX8_putTurned.cls ≠ "java/lang/invoke/VarHandle" ∧ (parseMethodDescriptor yX8_putTurned.desc).map (fun d => d.parameters.length) = some 0 := by decide +kernel
noncomputable def rmX8_putPair : Room := { frames := 5, cells := 0, slots := 0, locals := 141 }
noncomputable def wzX8_putPair : List Cond := .code yX8_putPair cX8_putPair 2 none :: wsL_law
theorem hinX8_putPair_X80 : ∀ w ∈ wsX80, w ∈ wzX8_putPair := fun w h => List.mem_cons_of_mem _ (inlX8 w h)
noncomputable def fX8_putPair_28  (σ : zSt)  : Option (zSt) :=
  some σ
noncomputable def fX8_putPair  (σ : zSt) (n1 : Nat) : Option (zSt) :=
  if ((zgi σ 10 6) >>> ((1 : Int32) &&& 31)) = 2 then zbu (fX8_putHl σ ) (fun σ2 =>
  fX8_putPair_28 σ2) else
  zbu (fX8_putName σ n1 ((zgi σ 10 6) >>> ((1 : Int32) &&& 31))) (fun σ1 =>
  fX8_putPair_28 σ1)
set_option maxRecDepth 20000 in
set_option maxHeartbeats 4000000 in
theorem bX8_putPair_28 {st : Nat → Nat} {p : Program} {l : Launch} {e : Env} {s : State} {m : MethodId} {args : Array Value} {below : List Frame} {meth : Method} {c : Code} {D : va_G} {A : Nat → Prop} {ad : Nat → Nat} {cy : Nat → ClassId} (hC : zC p m c cX8_putPair 2 s args wzX8_putPair RX8 meth none)  {res : zSt} {H : Heap} {locs : List Loc} {σ : zSt} {ls : Array Slot}  (hI : zI st D (tC cy) (wC ad cy σ) A s H locs) (hl : lv_has ls 2 []) (hf : fX8_putPair_28  σ  = some res) : W p l e rmX8_putPair s m args below meth c H locs 0 0 (zQu below args s D (tC cy) (wC ad cy) A res) (F0 m 28 ls []) := by
  have hx := hC.1
  have hb := hC.2.1
  unfold fX8_putPair_28 at hf
  exact z_return hC hI hf dX8_putPair_28
set_option maxRecDepth 20000 in
set_option maxHeartbeats 4000000 in
theorem bX8_putPair {st : Nat → Nat} {p : Program} {l : Launch} {e : Env} {s : State} {m : MethodId} {args : Array Value} {below : List Frame} {meth : Method} {c : Code} {D : va_G} {A : Nat → Prop} {ad : Nat → Nat} {cy : Nat → ClassId} (hC : zC p m c cX8_putPair 2 s args wzX8_putPair RX8 meth none)  {res : zSt} {H : Heap} {locs : List Loc} {σ : zSt} {ls : Array Slot} {n1 : Nat} (hI : zI st D (tC cy) (wC ad cy σ) A s H locs) (hl : lv_has ls 2 [(0, .ref (ad 10)), (1, .ref (st (100 + n1)))]) (hf : fX8_putPair  σ n1 = some res) : W p l e rmX8_putPair s m args below meth c H locs 0 0 (zQu below args s D (tC cy) (wC ad cy) A res) (F0 m 0 ls []) := by
  have hx := hC.1
  have hb := hC.2.1
  unfold fX8_putPair at hf
  refine lv_aload_n hx hb dX8_putPair_0 rfl (lv_at hl 0 rfl) ?_
  refine z_get hC hI hinX8_putPair_X80 10 (wC_e10 ad cy σ) rfl 6 (by decide) (List.mem_cons_of_mem _ zw70_20) rfl dX8_putPair_1 ?_
  refine lv_iconst (v := 1) hx hb dX8_putPair_4 (by decide) ?_
  refine lv_ishr hx hb dX8_putPair_5 ?_
  refine lv_iconst (v := 2) hx hb dX8_putPair_6 (by decide) ?_
  refine lv_icmp_ne (tgt := 17) hx hb dX8_putPair_7 (by decide) (fun q => ?_) (fun q => ?_)
  · replace hf := zif_f q hf
    refine lv_aload_n hx hb dX8_putPair_17 rfl (lv_at hl 0 rfl) ?_
    refine lv_aload_n hx hb dX8_putPair_18 rfl (lv_at hl 1 rfl) ?_
    refine lv_aload_n hx hb dX8_putPair_19 rfl (lv_at hl 0 rfl) ?_
    refine z_get hC hI hinX8_putPair_X80 10 (wC_e10 ad cy σ) rfl 6 (by decide) (List.mem_cons_of_mem _ zw70_20) rfl dX8_putPair_20 ?_
    refine lv_iconst (v := 1) hx hb dX8_putPair_23 (by decide) ?_
    refine lv_ishr hx hb dX8_putPair_24 ?_
    obtain ⟨σ1, g1, hf⟩ := zbu_use hf
    refine z_callVu (As := [.ref (st (100 + n1)), .int ((zgi σ 10 6) >>> ((1 : Int32) &&& 31))]) (rest := []) hC hI (cX8_putName_met st l D ad cy σ n1 ((zgi σ 10 6) >>> ((1 : Int32) &&& 31)) _ g1) (zgV zw72_7 zw72_8 zw72_9 zw3_9 zw72_10) rfl ⟨rfl, rfl⟩ 2 hdX8_putName ⟨Nat.le_of_ble_eq_true rfl, Nat.le_of_ble_eq_true rfl⟩ rfl rfl (wC_e10 ad cy σ) rfl hl rfl (Nat.le_of_ble_eq_true rfl) dX8_putPair_25 ⟨Nat.zero_le _, Nat.zero_le _⟩ (fun H locs hI => ?_)
    exact bX8_putPair_28 hC  hI (lv_sub hl [] rfl) hf
  replace hf := zif_t q hf
  refine lv_aload_n hx hb dX8_putPair_10 rfl (lv_at hl 0 rfl) ?_
  obtain ⟨σ2, g2, hf⟩ := zbu_use hf
  refine z_callVu (As := []) (rest := []) hC hI (cX8_putHl_met st l D ad cy σ  _ g2) (zgV zw71_23 zw72_0 zw72_1 zw3_9 zw72_2) rfl ⟨rfl, rfl⟩ 0 hdX8_putHl ⟨Nat.le_of_ble_eq_true rfl, Nat.le_of_ble_eq_true rfl⟩ rfl rfl (wC_e10 ad cy σ) rfl hl rfl (Nat.le_of_ble_eq_true rfl) dX8_putPair_11 ⟨Nat.zero_le _, Nat.zero_le _⟩ (fun H locs hI => ?_)
  refine lv_goto (tgt := 28) hx hb dX8_putPair_14 (by decide) ?_
  exact bX8_putPair_28 hC  hI (lv_sub hl [] rfl) hf
set_option maxRecDepth 20000 in
theorem cX8_putPair_met (st : Nat → Nat) (l : Launch) (D : va_G) (ad : Nat → Nat) (cy : Nat → ClassId) (σ : zSt) (n1 : Nat) (res : zSt) (hf : fX8_putPair σ n1 = some res) (sz : Nat) : zMu st l yX8_putPair wzX8_putPair rmX8_putPair [.ref (ad 10), .ref (st (100 + n1))] D (tC cy) (wC ad cy) sz σ res :=
  zMu.of (cc := cX8_putPair) (maxL := 2) (ret := none) (by decide) rfl (Nat.le_of_ble_eq_true rfl) (fun p e s m args below meth c hC A hI ls hl => bX8_putPair hC hI hl hf)
theorem hdX8_putPair : yX8_putPair.cls = RX8 ∧ yX8_putPair.cls ≠ "java/lang/invoke/MethodHandle" ∧ yX8_putPair.cls ≠ "java/lang/invoke/VarHandle" ∧ (parseMethodDescriptor yX8_putPair.desc).map (fun d => d.parameters.length) = some 1 := by decide +kernel
noncomputable def rmX8_putMeant : Room := { frames := 7, cells := 0, slots := 0, locals := 180 }
noncomputable def wzX8_putMeant : List Cond := .code yX8_putMeant cX8_putMeant 2 none :: wsL_law
theorem hinX8_putMeant_X80 : ∀ w ∈ wsX80, w ∈ wzX8_putMeant := fun w h => List.mem_cons_of_mem _ (inlX8 w h)
noncomputable def fX8_putMeant_275  (σ : zSt)  : Option (zSt) :=
  some σ
noncomputable def fX8_putMeant_256  (σ : zSt)  : Option (zSt) :=
  zbi (fX8_take σ ) (fun σ1 v2 =>
  zbu (fX8_putWord σ1 (((v2.toInt8.toInt32) + (zgi σ1 10 3)) + (zgi σ1 10 4))) (fun σ3 =>
  fX8_putMeant_275 σ3))
noncomputable def fX8_putMeant  (σ : zSt) (x1 : Int32) : Option (zSt) :=
  if x1 = 66 then zbu (fX8_putSign σ (48 + (zgi σ 10 6))) (fun σ4 =>
  fX8_putMeant_275 σ4) else
  if x1 = 67 then zbu (fX8_putName σ 5 (zgi σ 10 6)) (fun σ5 =>
  fX8_putMeant_275 σ5) else
  if x1 = 68 then zbu (fX8_putName σ 5 ((zgi σ 10 6) - 4)) (fun σ6 =>
  fX8_putMeant_275 σ6) else
  if x1 = 69 then fX8_putMeant_256 σ else
  if x1 = 70 then fX8_putMeant_256 σ else
  if x1 = 71 then fX8_putMeant_256 σ else
  if x1 = 72 then fX8_putMeant_256 σ else
  if x1 = 73 then fX8_putMeant_256 σ else
  if x1 = 74 then zbu (fX8_putHl σ ) (fun σ7 =>
  fX8_putMeant_275 σ7) else
  if x1 = 75 then fX8_putMeant_256 σ else
  if x1 = 76 then fX8_putMeant_256 σ else
  if x1 = 77 then fX8_putMeant_256 σ else
  if x1 = 78 then zbi (fX8_take σ ) (fun σ8 v9 =>
  zbu (fX8_putByte σ8 v9) (fun σ10 =>
  fX8_putMeant_275 σ10)) else
  if x1 = 79 then fX8_putMeant_256 σ else
  if x1 = 80 then zbu (fX8_putPair σ 3) (fun σ11 =>
  fX8_putMeant_275 σ11) else
  if x1 = 81 then zbu (fX8_putPair σ 4) (fun σ12 =>
  fX8_putMeant_275 σ12) else
  if x1 = 82 then fX8_putMeant_256 σ else
  if x1 = 83 then fX8_putMeant_256 σ else
  if x1 = 84 then zbu (fX8_putTurned σ ) (fun σ13 =>
  fX8_putMeant_275 σ13) else
  if x1 = 85 then fX8_putMeant_256 σ else
  if x1 = 86 then zbu (fX8_putByte σ (8 * (zgi σ 10 6))) (fun σ14 =>
  fX8_putMeant_275 σ14) else
  if x1 = 87 then zbi (fX8_take σ ) (fun σ15 v16 =>
  zbi (fX8_take σ15 ) (fun σ17 v18 =>
  zbu (fX8_putWord σ17 (v16 ||| (v18 <<< ((8 : Int32) &&& 31)))) (fun σ19 =>
  fX8_putMeant_275 σ19))) else
  if x1 = 88 then fX8_putMeant_256 σ else
  if x1 = 89 then zbu (fX8_putOne σ (zgi σ 10 6)) (fun σ20 =>
  fX8_putMeant_275 σ20) else
  if x1 = 90 then zbu (fX8_putOne σ (zgi σ 10 7)) (fun σ21 =>
  fX8_putMeant_275 σ21) else
  fX8_putMeant_256 σ
set_option maxRecDepth 20000 in
set_option maxHeartbeats 4000000 in
theorem bX8_putMeant_275 {st : Nat → Nat} {p : Program} {l : Launch} {e : Env} {s : State} {m : MethodId} {args : Array Value} {below : List Frame} {meth : Method} {c : Code} {D : va_G} {A : Nat → Prop} {ad : Nat → Nat} {cy : Nat → ClassId} (hC : zC p m c cX8_putMeant 2 s args wzX8_putMeant RX8 meth none)  {res : zSt} {H : Heap} {locs : List Loc} {σ : zSt} {ls : Array Slot}  (hI : zI st D (tC cy) (wC ad cy σ) A s H locs) (hl : lv_has ls 2 []) (hf : fX8_putMeant_275  σ  = some res) : W p l e rmX8_putMeant s m args below meth c H locs 0 0 (zQu below args s D (tC cy) (wC ad cy) A res) (F0 m 275 ls []) := by
  have hx := hC.1
  have hb := hC.2.1
  unfold fX8_putMeant_275 at hf
  exact z_return hC hI hf dX8_putMeant_275
set_option maxRecDepth 20000 in
set_option maxHeartbeats 4000000 in
theorem bX8_putMeant_256 {st : Nat → Nat} {p : Program} {l : Launch} {e : Env} {s : State} {m : MethodId} {args : Array Value} {below : List Frame} {meth : Method} {c : Code} {D : va_G} {A : Nat → Prop} {ad : Nat → Nat} {cy : Nat → ClassId} (hC : zC p m c cX8_putMeant 2 s args wzX8_putMeant RX8 meth none)  {res : zSt} {H : Heap} {locs : List Loc} {σ : zSt} {ls : Array Slot}  (hI : zI st D (tC cy) (wC ad cy σ) A s H locs) (hl : lv_has ls 2 [(0, .ref (ad 10))]) (hf : fX8_putMeant_256  σ  = some res) : W p l e rmX8_putMeant s m args below meth c H locs 0 0 (zQu below args s D (tC cy) (wC ad cy) A res) (F0 m 256 ls []) := by
  have hx := hC.1
  have hb := hC.2.1
  unfold fX8_putMeant_256 at hf
  refine lv_aload_n hx hb dX8_putMeant_256 rfl (lv_at hl 0 rfl) ?_
  refine lv_aload_n hx hb dX8_putMeant_257 rfl (lv_at hl 0 rfl) ?_
  obtain ⟨σ1, v2, g1, hf⟩ := zbi_use hf
  refine z_callVi (As := []) (rest := [.ref (ad 10)]) hC hI (cX8_take_met st l D ad cy σ  _ g1) (zgV zw70_11 zw70_12 zw70_13 zw3_9 zw70_14) rfl ⟨rfl, rfl⟩ 0 hdX8_take ⟨Nat.le_of_ble_eq_true rfl, Nat.le_of_ble_eq_true rfl⟩ rfl rfl (wC_e10 ad cy σ) rfl hl rfl (Nat.le_of_ble_eq_true rfl) dX8_putMeant_258 ⟨Nat.zero_le _, Nat.zero_le _⟩ (fun H locs hI => ?_)
  refine lv_i2b (v := v2.toInt8.toInt32) hx hb dX8_putMeant_261 rfl ?_
  refine lv_aload_n hx hb dX8_putMeant_262 rfl (lv_at hl 0 rfl) ?_
  refine z_get hC hI hinX8_putMeant_X80 10 (wC_e10 ad cy σ1) rfl 3 (by decide) (List.mem_cons_of_mem _ zw70_6) rfl dX8_putMeant_263 ?_
  refine lv_iadd hx hb dX8_putMeant_266 ?_
  refine lv_aload_n hx hb dX8_putMeant_267 rfl (lv_at hl 0 rfl) ?_
  refine z_get hC hI hinX8_putMeant_X80 10 (wC_e10 ad cy σ1) rfl 4 (by decide) (List.mem_cons_of_mem _ zw70_7) rfl dX8_putMeant_268 ?_
  refine lv_iadd hx hb dX8_putMeant_271 ?_
  obtain ⟨σ3, g3, hf⟩ := zbu_use hf
  refine z_callVu (As := [.int (((v2.toInt8.toInt32) + (zgi σ1 10 3)) + (zgi σ1 10 4))]) (rest := []) hC hI (cX8_putWord_met st l D ad cy σ1 (((v2.toInt8.toInt32) + (zgi σ1 10 3)) + (zgi σ1 10 4)) _ g3) (zgV zw72_21 zw72_22 zw72_23 zw3_9 zw73_0) rfl ⟨rfl, rfl⟩ 1 hdX8_putWord ⟨Nat.le_of_ble_eq_true rfl, Nat.le_of_ble_eq_true rfl⟩ rfl rfl (wC_e10 ad cy σ1) rfl hl rfl (Nat.le_of_ble_eq_true rfl) dX8_putMeant_272 ⟨Nat.zero_le _, Nat.zero_le _⟩ (fun H locs hI => ?_)
  exact bX8_putMeant_275 hC  hI (lv_sub hl [] rfl) hf
set_option maxRecDepth 20000 in
set_option maxHeartbeats 4000000 in
theorem bX8_putMeant {st : Nat → Nat} {p : Program} {l : Launch} {e : Env} {s : State} {m : MethodId} {args : Array Value} {below : List Frame} {meth : Method} {c : Code} {D : va_G} {A : Nat → Prop} {ad : Nat → Nat} {cy : Nat → ClassId} (hC : zC p m c cX8_putMeant 2 s args wzX8_putMeant RX8 meth none)  {res : zSt} {H : Heap} {locs : List Loc} {σ : zSt} {ls : Array Slot} {x1 : Int32} (hI : zI st D (tC cy) (wC ad cy σ) A s H locs) (hl : lv_has ls 2 [(0, .ref (ad 10)), (1, .int x1)]) (hf : fX8_putMeant  σ x1 = some res) : W p l e rmX8_putMeant s m args below meth c H locs 0 0 (zQu below args s D (tC cy) (wC ad cy) A res) (F0 m 0 ls []) := by
  have hx := hC.1
  have hb := hC.2.1
  unfold fX8_putMeant at hf
  refine lv_iload_n hx hb dX8_putMeant_0 rfl (lv_at hl 1 rfl) ?_
  by_cases q0 : x1 = 66
  · replace hf := zif_t q0 hf
    refine lv_tableIn (tgt := 198) hx hb dX8_putMeant_1 (by rw [q0]; decide) (by rw [q0]; decide) (by rw [q0]; rfl) (by decide) ?_
    refine lv_aload_n hx hb dX8_putMeant_198 rfl (lv_at hl 0 rfl) ?_
    refine lv_bipush (v := 48) hx hb dX8_putMeant_199 (by decide) ?_
    refine lv_aload_n hx hb dX8_putMeant_201 rfl (lv_at hl 0 rfl) ?_
    refine z_get hC hI hinX8_putMeant_X80 10 (wC_e10 ad cy σ) rfl 6 (by decide) (List.mem_cons_of_mem _ zw70_20) rfl dX8_putMeant_202 ?_
    refine lv_iadd hx hb dX8_putMeant_205 ?_
    obtain ⟨σ4, g4, hf⟩ := zbu_use hf
    refine z_callVu (As := [.int (48 + (zgi σ 10 6))]) (rest := []) hC hI (cX8_putSign_met st l D ad cy σ (48 + (zgi σ 10 6)) _ g4) (zgV zw71_19 zw71_20 zw71_21 zw3_9 zw71_22) rfl ⟨rfl, rfl⟩ 1 hdX8_putSign ⟨Nat.le_of_ble_eq_true rfl, Nat.le_of_ble_eq_true rfl⟩ rfl rfl (wC_e10 ad cy σ) rfl hl rfl (Nat.le_of_ble_eq_true rfl) dX8_putMeant_206 ⟨Nat.zero_le _, Nat.zero_le _⟩ (fun H locs hI => ?_)
    refine lv_goto (tgt := 275) hx hb dX8_putMeant_209 (by decide) ?_
    exact bX8_putMeant_275 hC  hI (lv_sub hl [] rfl) hf
  replace hf := zif_f q0 hf
  by_cases q1 : x1 = 67
  · replace hf := zif_t q1 hf
    refine lv_tableIn (tgt := 170) hx hb dX8_putMeant_1 (by rw [q1]; decide) (by rw [q1]; decide) (by rw [q1]; rfl) (by decide) ?_
    refine lv_aload_n hx hb dX8_putMeant_170 rfl (lv_at hl 0 rfl) ?_
    refine z_ldcS hC hI 5 (by decide) rfl rfl dX8_putMeant_171 ?_
    refine lv_aload_n hx hb dX8_putMeant_173 rfl (lv_at hl 0 rfl) ?_
    refine z_get hC hI hinX8_putMeant_X80 10 (wC_e10 ad cy σ) rfl 6 (by decide) (List.mem_cons_of_mem _ zw70_20) rfl dX8_putMeant_174 ?_
    obtain ⟨σ5, g5, hf⟩ := zbu_use hf
    refine z_callVu (As := [.ref (st (100 + 5)), .int (zgi σ 10 6)]) (rest := []) hC hI (cX8_putName_met st l D ad cy σ 5 (zgi σ 10 6) _ g5) (zgV zw72_7 zw72_8 zw72_9 zw3_9 zw72_10) rfl ⟨rfl, rfl⟩ 2 hdX8_putName ⟨Nat.le_of_ble_eq_true rfl, Nat.le_of_ble_eq_true rfl⟩ rfl rfl (wC_e10 ad cy σ) rfl hl rfl (Nat.le_of_ble_eq_true rfl) dX8_putMeant_177 ⟨Nat.zero_le _, Nat.zero_le _⟩ (fun H locs hI => ?_)
    refine lv_goto (tgt := 275) hx hb dX8_putMeant_180 (by decide) ?_
    exact bX8_putMeant_275 hC  hI (lv_sub hl [] rfl) hf
  replace hf := zif_f q1 hf
  by_cases q2 : x1 = 68
  · replace hf := zif_t q2 hf
    refine lv_tableIn (tgt := 183) hx hb dX8_putMeant_1 (by rw [q2]; decide) (by rw [q2]; decide) (by rw [q2]; rfl) (by decide) ?_
    refine lv_aload_n hx hb dX8_putMeant_183 rfl (lv_at hl 0 rfl) ?_
    refine z_ldcS hC hI 5 (by decide) rfl rfl dX8_putMeant_184 ?_
    refine lv_aload_n hx hb dX8_putMeant_186 rfl (lv_at hl 0 rfl) ?_
    refine z_get hC hI hinX8_putMeant_X80 10 (wC_e10 ad cy σ) rfl 6 (by decide) (List.mem_cons_of_mem _ zw70_20) rfl dX8_putMeant_187 ?_
    refine lv_iconst (v := 4) hx hb dX8_putMeant_190 (by decide) ?_
    refine lv_isub hx hb dX8_putMeant_191 ?_
    obtain ⟨σ6, g6, hf⟩ := zbu_use hf
    refine z_callVu (As := [.ref (st (100 + 5)), .int ((zgi σ 10 6) - 4)]) (rest := []) hC hI (cX8_putName_met st l D ad cy σ 5 ((zgi σ 10 6) - 4) _ g6) (zgV zw72_7 zw72_8 zw72_9 zw3_9 zw72_10) rfl ⟨rfl, rfl⟩ 2 hdX8_putName ⟨Nat.le_of_ble_eq_true rfl, Nat.le_of_ble_eq_true rfl⟩ rfl rfl (wC_e10 ad cy σ) rfl hl rfl (Nat.le_of_ble_eq_true rfl) dX8_putMeant_192 ⟨Nat.zero_le _, Nat.zero_le _⟩ (fun H locs hI => ?_)
    refine lv_goto (tgt := 275) hx hb dX8_putMeant_195 (by decide) ?_
    exact bX8_putMeant_275 hC  hI (lv_sub hl [] rfl) hf
  replace hf := zif_f q2 hf
  by_cases q3 : x1 = 69
  · replace hf := zif_t q3 hf
    refine lv_tableIn (tgt := 256) hx hb dX8_putMeant_1 (by rw [q3]; decide) (by rw [q3]; decide) (by rw [q3]; rfl) (by decide) ?_
    exact bX8_putMeant_256 hC  hI (lv_sub hl [0] rfl) hf
  replace hf := zif_f q3 hf
  by_cases q4 : x1 = 70
  · replace hf := zif_t q4 hf
    refine lv_tableIn (tgt := 256) hx hb dX8_putMeant_1 (by rw [q4]; decide) (by rw [q4]; decide) (by rw [q4]; rfl) (by decide) ?_
    exact bX8_putMeant_256 hC  hI (lv_sub hl [0] rfl) hf
  replace hf := zif_f q4 hf
  by_cases q5 : x1 = 71
  · replace hf := zif_t q5 hf
    refine lv_tableIn (tgt := 256) hx hb dX8_putMeant_1 (by rw [q5]; decide) (by rw [q5]; decide) (by rw [q5]; rfl) (by decide) ?_
    exact bX8_putMeant_256 hC  hI (lv_sub hl [0] rfl) hf
  replace hf := zif_f q5 hf
  by_cases q6 : x1 = 72
  · replace hf := zif_t q6 hf
    refine lv_tableIn (tgt := 256) hx hb dX8_putMeant_1 (by rw [q6]; decide) (by rw [q6]; decide) (by rw [q6]; rfl) (by decide) ?_
    exact bX8_putMeant_256 hC  hI (lv_sub hl [0] rfl) hf
  replace hf := zif_f q6 hf
  by_cases q7 : x1 = 73
  · replace hf := zif_t q7 hf
    refine lv_tableIn (tgt := 256) hx hb dX8_putMeant_1 (by rw [q7]; decide) (by rw [q7]; decide) (by rw [q7]; rfl) (by decide) ?_
    exact bX8_putMeant_256 hC  hI (lv_sub hl [0] rfl) hf
  replace hf := zif_f q7 hf
  by_cases q8 : x1 = 74
  · replace hf := zif_t q8 hf
    refine lv_tableIn (tgt := 163) hx hb dX8_putMeant_1 (by rw [q8]; decide) (by rw [q8]; decide) (by rw [q8]; rfl) (by decide) ?_
    refine lv_aload_n hx hb dX8_putMeant_163 rfl (lv_at hl 0 rfl) ?_
    obtain ⟨σ7, g7, hf⟩ := zbu_use hf
    refine z_callVu (As := []) (rest := []) hC hI (cX8_putHl_met st l D ad cy σ  _ g7) (zgV zw71_23 zw72_0 zw72_1 zw3_9 zw72_2) rfl ⟨rfl, rfl⟩ 0 hdX8_putHl ⟨Nat.le_of_ble_eq_true rfl, Nat.le_of_ble_eq_true rfl⟩ rfl rfl (wC_e10 ad cy σ) rfl hl rfl (Nat.le_of_ble_eq_true rfl) dX8_putMeant_164 ⟨Nat.zero_le _, Nat.zero_le _⟩ (fun H locs hI => ?_)
    refine lv_goto (tgt := 275) hx hb dX8_putMeant_167 (by decide) ?_
    exact bX8_putMeant_275 hC  hI (lv_sub hl [] rfl) hf
  replace hf := zif_f q8 hf
  by_cases q9 : x1 = 75
  · replace hf := zif_t q9 hf
    refine lv_tableIn (tgt := 256) hx hb dX8_putMeant_1 (by rw [q9]; decide) (by rw [q9]; decide) (by rw [q9]; rfl) (by decide) ?_
    exact bX8_putMeant_256 hC  hI (lv_sub hl [0] rfl) hf
  replace hf := zif_f q9 hf
  by_cases q10 : x1 = 76
  · replace hf := zif_t q10 hf
    refine lv_tableIn (tgt := 256) hx hb dX8_putMeant_1 (by rw [q10]; decide) (by rw [q10]; decide) (by rw [q10]; rfl) (by decide) ?_
    exact bX8_putMeant_256 hC  hI (lv_sub hl [0] rfl) hf
  replace hf := zif_f q10 hf
  by_cases q11 : x1 = 77
  · replace hf := zif_t q11 hf
    refine lv_tableIn (tgt := 256) hx hb dX8_putMeant_1 (by rw [q11]; decide) (by rw [q11]; decide) (by rw [q11]; rfl) (by decide) ?_
    exact bX8_putMeant_256 hC  hI (lv_sub hl [0] rfl) hf
  replace hf := zif_f q11 hf
  by_cases q12 : x1 = 78
  · replace hf := zif_t q12 hf
    refine lv_tableIn (tgt := 226) hx hb dX8_putMeant_1 (by rw [q12]; decide) (by rw [q12]; decide) (by rw [q12]; rfl) (by decide) ?_
    refine lv_aload_n hx hb dX8_putMeant_226 rfl (lv_at hl 0 rfl) ?_
    refine lv_aload_n hx hb dX8_putMeant_227 rfl (lv_at hl 0 rfl) ?_
    obtain ⟨σ8, v9, g8, hf⟩ := zbi_use hf
    refine z_callVi (As := []) (rest := [.ref (ad 10)]) hC hI (cX8_take_met st l D ad cy σ  _ g8) (zgV zw70_11 zw70_12 zw70_13 zw3_9 zw70_14) rfl ⟨rfl, rfl⟩ 0 hdX8_take ⟨Nat.le_of_ble_eq_true rfl, Nat.le_of_ble_eq_true rfl⟩ rfl rfl (wC_e10 ad cy σ) rfl hl rfl (Nat.le_of_ble_eq_true rfl) dX8_putMeant_228 ⟨Nat.zero_le _, Nat.zero_le _⟩ (fun H locs hI => ?_)
    obtain ⟨σ10, g10, hf⟩ := zbu_use hf
    refine z_callVu (As := [.int v9]) (rest := []) hC hI (cX8_putByte_met st l D ad cy σ8 v9 _ g10) (zgV zw72_3 zw72_4 zw72_5 zw3_9 zw72_6) rfl ⟨rfl, rfl⟩ 1 hdX8_putByte ⟨Nat.le_of_ble_eq_true rfl, Nat.le_of_ble_eq_true rfl⟩ rfl rfl (wC_e10 ad cy σ8) rfl hl rfl (Nat.le_of_ble_eq_true rfl) dX8_putMeant_231 ⟨Nat.zero_le _, Nat.zero_le _⟩ (fun H locs hI => ?_)
    refine lv_goto (tgt := 275) hx hb dX8_putMeant_234 (by decide) ?_
    exact bX8_putMeant_275 hC  hI (lv_sub hl [] rfl) hf
  replace hf := zif_f q12 hf
  by_cases q13 : x1 = 79
  · replace hf := zif_t q13 hf
    refine lv_tableIn (tgt := 256) hx hb dX8_putMeant_1 (by rw [q13]; decide) (by rw [q13]; decide) (by rw [q13]; rfl) (by decide) ?_
    exact bX8_putMeant_256 hC  hI (lv_sub hl [0] rfl) hf
  replace hf := zif_f q13 hf
  by_cases q14 : x1 = 80
  · replace hf := zif_t q14 hf
    refine lv_tableIn (tgt := 145) hx hb dX8_putMeant_1 (by rw [q14]; decide) (by rw [q14]; decide) (by rw [q14]; rfl) (by decide) ?_
    refine lv_aload_n hx hb dX8_putMeant_145 rfl (lv_at hl 0 rfl) ?_
    refine z_ldcS hC hI 3 (by decide) rfl rfl dX8_putMeant_146 ?_
    obtain ⟨σ11, g11, hf⟩ := zbu_use hf
    refine z_callVu (As := [.ref (st (100 + 3))]) (rest := []) hC hI (cX8_putPair_met st l D ad cy σ 3 _ g11) (zgV zw72_17 zw72_18 zw72_19 zw3_9 zw72_20) rfl ⟨rfl, rfl⟩ 1 hdX8_putPair ⟨Nat.le_of_ble_eq_true rfl, Nat.le_of_ble_eq_true rfl⟩ rfl rfl (wC_e10 ad cy σ) rfl hl rfl (Nat.le_of_ble_eq_true rfl) dX8_putMeant_148 ⟨Nat.zero_le _, Nat.zero_le _⟩ (fun H locs hI => ?_)
    refine lv_goto (tgt := 275) hx hb dX8_putMeant_151 (by decide) ?_
    exact bX8_putMeant_275 hC  hI (lv_sub hl [] rfl) hf
  replace hf := zif_f q14 hf
  by_cases q15 : x1 = 81
  · replace hf := zif_t q15 hf
    refine lv_tableIn (tgt := 154) hx hb dX8_putMeant_1 (by rw [q15]; decide) (by rw [q15]; decide) (by rw [q15]; rfl) (by decide) ?_
    refine lv_aload_n hx hb dX8_putMeant_154 rfl (lv_at hl 0 rfl) ?_
    refine z_ldcS hC hI 4 (by decide) rfl rfl dX8_putMeant_155 ?_
    obtain ⟨σ12, g12, hf⟩ := zbu_use hf
    refine z_callVu (As := [.ref (st (100 + 4))]) (rest := []) hC hI (cX8_putPair_met st l D ad cy σ 4 _ g12) (zgV zw72_17 zw72_18 zw72_19 zw3_9 zw72_20) rfl ⟨rfl, rfl⟩ 1 hdX8_putPair ⟨Nat.le_of_ble_eq_true rfl, Nat.le_of_ble_eq_true rfl⟩ rfl rfl (wC_e10 ad cy σ) rfl hl rfl (Nat.le_of_ble_eq_true rfl) dX8_putMeant_157 ⟨Nat.zero_le _, Nat.zero_le _⟩ (fun H locs hI => ?_)
    refine lv_goto (tgt := 275) hx hb dX8_putMeant_160 (by decide) ?_
    exact bX8_putMeant_275 hC  hI (lv_sub hl [] rfl) hf
  replace hf := zif_f q15 hf
  by_cases q16 : x1 = 82
  · replace hf := zif_t q16 hf
    refine lv_tableIn (tgt := 256) hx hb dX8_putMeant_1 (by rw [q16]; decide) (by rw [q16]; decide) (by rw [q16]; rfl) (by decide) ?_
    exact bX8_putMeant_256 hC  hI (lv_sub hl [0] rfl) hf
  replace hf := zif_f q16 hf
  by_cases q17 : x1 = 83
  · replace hf := zif_t q17 hf
    refine lv_tableIn (tgt := 256) hx hb dX8_putMeant_1 (by rw [q17]; decide) (by rw [q17]; decide) (by rw [q17]; rfl) (by decide) ?_
    exact bX8_putMeant_256 hC  hI (lv_sub hl [0] rfl) hf
  replace hf := zif_f q17 hf
  by_cases q18 : x1 = 84
  · replace hf := zif_t q18 hf
    refine lv_tableIn (tgt := 138) hx hb dX8_putMeant_1 (by rw [q18]; decide) (by rw [q18]; decide) (by rw [q18]; rfl) (by decide) ?_
    refine lv_aload_n hx hb dX8_putMeant_138 rfl (lv_at hl 0 rfl) ?_
    obtain ⟨σ13, g13, hf⟩ := zbu_use hf
    refine z_callVu (As := []) (rest := []) hC hI (cX8_putTurned_met st l D ad cy σ  _ g13) (zgV zw72_11 zw72_12 zw72_13 zw3_9 zw72_14) rfl ⟨rfl, rfl⟩ 0 hdX8_putTurned ⟨Nat.le_of_ble_eq_true rfl, Nat.le_of_ble_eq_true rfl⟩ rfl rfl (wC_e10 ad cy σ) rfl hl rfl (Nat.le_of_ble_eq_true rfl) dX8_putMeant_139 ⟨Nat.zero_le _, Nat.zero_le _⟩ (fun H locs hI => ?_)
    refine lv_goto (tgt := 275) hx hb dX8_putMeant_142 (by decide) ?_
    exact bX8_putMeant_275 hC  hI (lv_sub hl [] rfl) hf
  replace hf := zif_f q18 hf
  by_cases q19 : x1 = 85
  · replace hf := zif_t q19 hf
    refine lv_tableIn (tgt := 256) hx hb dX8_putMeant_1 (by rw [q19]; decide) (by rw [q19]; decide) (by rw [q19]; rfl) (by decide) ?_
    exact bX8_putMeant_256 hC  hI (lv_sub hl [0] rfl) hf
  replace hf := zif_f q19 hf
  by_cases q20 : x1 = 86
  · replace hf := zif_t q20 hf
    refine lv_tableIn (tgt := 212) hx hb dX8_putMeant_1 (by rw [q20]; decide) (by rw [q20]; decide) (by rw [q20]; rfl) (by decide) ?_
    refine lv_aload_n hx hb dX8_putMeant_212 rfl (lv_at hl 0 rfl) ?_
    refine lv_bipush (v := 8) hx hb dX8_putMeant_213 (by decide) ?_
    refine lv_aload_n hx hb dX8_putMeant_215 rfl (lv_at hl 0 rfl) ?_
    refine z_get hC hI hinX8_putMeant_X80 10 (wC_e10 ad cy σ) rfl 6 (by decide) (List.mem_cons_of_mem _ zw70_20) rfl dX8_putMeant_216 ?_
    refine lv_imul hx hb dX8_putMeant_219 ?_
    obtain ⟨σ14, g14, hf⟩ := zbu_use hf
    refine z_callVu (As := [.int (8 * (zgi σ 10 6))]) (rest := []) hC hI (cX8_putByte_met st l D ad cy σ (8 * (zgi σ 10 6)) _ g14) (zgV zw72_3 zw72_4 zw72_5 zw3_9 zw72_6) rfl ⟨rfl, rfl⟩ 1 hdX8_putByte ⟨Nat.le_of_ble_eq_true rfl, Nat.le_of_ble_eq_true rfl⟩ rfl rfl (wC_e10 ad cy σ) rfl hl rfl (Nat.le_of_ble_eq_true rfl) dX8_putMeant_220 ⟨Nat.zero_le _, Nat.zero_le _⟩ (fun H locs hI => ?_)
    refine lv_goto (tgt := 275) hx hb dX8_putMeant_223 (by decide) ?_
    exact bX8_putMeant_275 hC  hI (lv_sub hl [] rfl) hf
  replace hf := zif_f q20 hf
  by_cases q21 : x1 = 87
  · replace hf := zif_t q21 hf
    refine lv_tableIn (tgt := 237) hx hb dX8_putMeant_1 (by rw [q21]; decide) (by rw [q21]; decide) (by rw [q21]; rfl) (by decide) ?_
    refine lv_aload_n hx hb dX8_putMeant_237 rfl (lv_at hl 0 rfl) ?_
    refine lv_aload_n hx hb dX8_putMeant_238 rfl (lv_at hl 0 rfl) ?_
    obtain ⟨σ15, v16, g15, hf⟩ := zbi_use hf
    refine z_callVi (As := []) (rest := [.ref (ad 10)]) hC hI (cX8_take_met st l D ad cy σ  _ g15) (zgV zw70_11 zw70_12 zw70_13 zw3_9 zw70_14) rfl ⟨rfl, rfl⟩ 0 hdX8_take ⟨Nat.le_of_ble_eq_true rfl, Nat.le_of_ble_eq_true rfl⟩ rfl rfl (wC_e10 ad cy σ) rfl hl rfl (Nat.le_of_ble_eq_true rfl) dX8_putMeant_239 ⟨Nat.zero_le _, Nat.zero_le _⟩ (fun H locs hI => ?_)
    refine lv_aload_n hx hb dX8_putMeant_242 rfl (lv_at hl 0 rfl) ?_
    obtain ⟨σ17, v18, g17, hf⟩ := zbi_use hf
    refine z_callVi (As := []) (rest := [.int v16, .ref (ad 10)]) hC hI (cX8_take_met st l D ad cy σ15  _ g17) (zgV zw70_11 zw70_12 zw70_13 zw3_9 zw70_14) rfl ⟨rfl, rfl⟩ 0 hdX8_take ⟨Nat.le_of_ble_eq_true rfl, Nat.le_of_ble_eq_true rfl⟩ rfl rfl (wC_e10 ad cy σ15) rfl hl rfl (Nat.le_of_ble_eq_true rfl) dX8_putMeant_243 ⟨Nat.zero_le _, Nat.zero_le _⟩ (fun H locs hI => ?_)
    refine lv_bipush (v := 8) hx hb dX8_putMeant_246 (by decide) ?_
    refine lv_ishl hx hb dX8_putMeant_248 ?_
    refine lv_ior hx hb dX8_putMeant_249 ?_
    obtain ⟨σ19, g19, hf⟩ := zbu_use hf
    refine z_callVu (As := [.int (v16 ||| (v18 <<< ((8 : Int32) &&& 31)))]) (rest := []) hC hI (cX8_putWord_met st l D ad cy σ17 (v16 ||| (v18 <<< ((8 : Int32) &&& 31))) _ g19) (zgV zw72_21 zw72_22 zw72_23 zw3_9 zw73_0) rfl ⟨rfl, rfl⟩ 1 hdX8_putWord ⟨Nat.le_of_ble_eq_true rfl, Nat.le_of_ble_eq_true rfl⟩ rfl rfl (wC_e10 ad cy σ17) rfl hl rfl (Nat.le_of_ble_eq_true rfl) dX8_putMeant_250 ⟨Nat.zero_le _, Nat.zero_le _⟩ (fun H locs hI => ?_)
    refine lv_goto (tgt := 275) hx hb dX8_putMeant_253 (by decide) ?_
    exact bX8_putMeant_275 hC  hI (lv_sub hl [] rfl) hf
  replace hf := zif_f q21 hf
  by_cases q22 : x1 = 88
  · replace hf := zif_t q22 hf
    refine lv_tableIn (tgt := 256) hx hb dX8_putMeant_1 (by rw [q22]; decide) (by rw [q22]; decide) (by rw [q22]; rfl) (by decide) ?_
    exact bX8_putMeant_256 hC  hI (lv_sub hl [0] rfl) hf
  replace hf := zif_f q22 hf
  by_cases q23 : x1 = 89
  · replace hf := zif_t q23 hf
    refine lv_tableIn (tgt := 116) hx hb dX8_putMeant_1 (by rw [q23]; decide) (by rw [q23]; decide) (by rw [q23]; rfl) (by decide) ?_
    refine lv_aload_n hx hb dX8_putMeant_116 rfl (lv_at hl 0 rfl) ?_
    refine lv_aload_n hx hb dX8_putMeant_117 rfl (lv_at hl 0 rfl) ?_
    refine z_get hC hI hinX8_putMeant_X80 10 (wC_e10 ad cy σ) rfl 6 (by decide) (List.mem_cons_of_mem _ zw70_20) rfl dX8_putMeant_118 ?_
    obtain ⟨σ20, g20, hf⟩ := zbu_use hf
    refine z_callVu (As := [.int (zgi σ 10 6)]) (rest := []) hC hI (cX8_putOne_met st l D ad cy σ (zgi σ 10 6) _ g20) (zgV zw71_11 zw71_12 zw71_13 zw3_9 zw71_14) rfl ⟨rfl, rfl⟩ 1 hdX8_putOne ⟨Nat.le_of_ble_eq_true rfl, Nat.le_of_ble_eq_true rfl⟩ rfl rfl (wC_e10 ad cy σ) rfl hl rfl (Nat.le_of_ble_eq_true rfl) dX8_putMeant_121 ⟨Nat.zero_le _, Nat.zero_le _⟩ (fun H locs hI => ?_)
    refine lv_goto (tgt := 275) hx hb dX8_putMeant_124 (by decide) ?_
    exact bX8_putMeant_275 hC  hI (lv_sub hl [] rfl) hf
  replace hf := zif_f q23 hf
  by_cases q24 : x1 = 90
  · replace hf := zif_t q24 hf
    refine lv_tableIn (tgt := 127) hx hb dX8_putMeant_1 (by rw [q24]; decide) (by rw [q24]; decide) (by rw [q24]; rfl) (by decide) ?_
    refine lv_aload_n hx hb dX8_putMeant_127 rfl (lv_at hl 0 rfl) ?_
    refine lv_aload_n hx hb dX8_putMeant_128 rfl (lv_at hl 0 rfl) ?_
    refine z_get hC hI hinX8_putMeant_X80 10 (wC_e10 ad cy σ) rfl 7 (by decide) (List.mem_cons_of_mem _ zw71_10) rfl dX8_putMeant_129 ?_
    obtain ⟨σ21, g21, hf⟩ := zbu_use hf
    refine z_callVu (As := [.int (zgi σ 10 7)]) (rest := []) hC hI (cX8_putOne_met st l D ad cy σ (zgi σ 10 7) _ g21) (zgV zw71_11 zw71_12 zw71_13 zw3_9 zw71_14) rfl ⟨rfl, rfl⟩ 1 hdX8_putOne ⟨Nat.le_of_ble_eq_true rfl, Nat.le_of_ble_eq_true rfl⟩ rfl rfl (wC_e10 ad cy σ) rfl hl rfl (Nat.le_of_ble_eq_true rfl) dX8_putMeant_132 ⟨Nat.zero_le _, Nat.zero_le _⟩ (fun H locs hI => ?_)
    refine lv_goto (tgt := 275) hx hb dX8_putMeant_135 (by decide) ?_
    exact bX8_putMeant_275 hC  hI (lv_sub hl [] rfl) hf
  replace hf := zif_f q24 hf
  refine lv_tableOut (tgt := 256) hx hb dX8_putMeant_1 (zsw (fun k h1 h2 => by rcases (show k = 66 ∨ k = 67 ∨ k = 68 ∨ k = 69 ∨ k = 70 ∨ k = 71 ∨ k = 72 ∨ k = 73 ∨ k = 74 ∨ k = 75 ∨ k = 76 ∨ k = 77 ∨ k = 78 ∨ k = 79 ∨ k = 80 ∨ k = 81 ∨ k = 82 ∨ k = 83 ∨ k = 84 ∨ k = 85 ∨ k = 86 ∨ k = 87 ∨ k = 88 ∨ k = 89 ∨ k = 90 by omega) with rfl | rfl | rfl | rfl | rfl | rfl | rfl | rfl | rfl | rfl | rfl | rfl | rfl | rfl | rfl | rfl | rfl | rfl | rfl | rfl | rfl | rfl | rfl | rfl | rfl <;> assumption)) (by decide) ?_
  exact bX8_putMeant_256 hC  hI (lv_sub hl [0] rfl) hf
set_option maxRecDepth 20000 in
theorem cX8_putMeant_met (st : Nat → Nat) (l : Launch) (D : va_G) (ad : Nat → Nat) (cy : Nat → ClassId) (σ : zSt) (x1 : Int32) (res : zSt) (hf : fX8_putMeant σ x1 = some res) (sz : Nat) : zMu st l yX8_putMeant wzX8_putMeant rmX8_putMeant [.ref (ad 10), .int x1] D (tC cy) (wC ad cy) sz σ res :=
  zMu.of (cc := cX8_putMeant) (maxL := 2) (ret := none) (by decide) rfl (Nat.le_of_ble_eq_true rfl) (fun p e s m args below meth c hC A hI ls hl => bX8_putMeant hC hI hl hf)
theorem hdX8_putMeant : yX8_putMeant.cls = RX8 ∧ yX8_putMeant.cls ≠ "java/lang/invoke/MethodHandle" ∧ yX8_putMeant.cls ≠ "java/lang/invoke/VarHandle" ∧ (parseMethodDescriptor yX8_putMeant.desc).map (fun d => d.parameters.length) = some 1 := by decide +kernel
noncomputable def rmX8_put : Room := { frames := 8, cells := 0, slots := 0, locals := 201 }
noncomputable def wzX8_put : List Cond := .code yX8_put cX8_put 6 none :: wsL_law
theorem hinX8_put_X80 : ∀ w ∈ wsX80, w ∈ wzX8_put := fun w h => List.mem_cons_of_mem _ (inlX8 w h)
noncomputable def fX8_put_28 (k4 : zSt → Nat → Int32 → Int32 → Option (zSt)) (σ : zSt) (n1 : Nat) (x3 : Int32) (s0 : Int32) (s1 : Int32) : Option (zSt) :=
  zbv (s1 + s0) (fun v1 =>
  zbv (x3 + 1) (fun v2 =>
  k4 σ n1 v1 v2))
noncomputable def fX8_put_110 (k41 : zSt → Nat → Int32 → Int32 → Int32 → Option (zSt)) (σ : zSt) (n1 : Nat) (x2 : Int32) (x3 : Int32) (x4 : Int32) : Option (zSt) :=
  zbv (x4 + 1) (fun v3 =>
  k41 σ n1 x2 x3 v3)
noncomputable def fX8_put_104 (k41 : zSt → Nat → Int32 → Int32 → Int32 → Option (zSt)) (σ : zSt) (n1 : Nat) (x2 : Int32) (x3 : Int32) (x4 : Int32) (x5 : Int32) : Option (zSt) :=
  zbu (fX8_putSign σ x5) (fun σ4 =>
  fX8_put_110 k41 σ4 n1 x2 x3 x4)
noncomputable def fX8_put_41_body (k41 : zSt → Nat → Int32 → Int32 → Int32 → Option (zSt)) (σ : zSt) (n1 : Nat) (x2 : Int32) (x3 : Int32) (x4 : Int32) : Option (zSt) :=
  zck (decide (n1 < zNK)) (if (zkN n1) ≤ x4 then some σ else
  zck (decide (n1 < zNK)) (zck (zin x4 (zkL n1)) (
  zbv (zkC n1 x4.toNatClampNeg) (fun v5 =>
  if v5 = 59 then zbv (x3 + 1) (fun v7 =>
  fX8_put_110 k41 σ n1 x2 v7 x4) else
  zck (decide (¬ x2 = 0)) (
  if x3 = (zrem (zgi σ 10 6) x2) then if v5 < 65 then fX8_put_104 k41 σ n1 x2 x3 x4 v5 else
  if 90 < v5 then fX8_put_104 k41 σ n1 x2 x3 x4 v5 else
  zbu (fX8_putMeant σ v5) (fun σ6 =>
  fX8_put_110 k41 σ6 n1 x2 x3 x4) else
  fX8_put_110 k41 σ n1 x2 x3 x4)))))
noncomputable def fX8_put_41  : Nat → zSt → Nat → Int32 → Int32 → Int32 → Option (zSt)
  | 0, _, _, _, _, _ => none
  | n + 1, σ, n1, x2, x3, x4 => fX8_put_41_body (fX8_put_41  n) σ n1 x2 x3 x4
noncomputable def fX8_put_4_body (k4 : zSt → Nat → Int32 → Int32 → Option (zSt)) (σ : zSt) (n1 : Nat) (x2 : Int32) (x3 : Int32) : Option (zSt) :=
  zck (decide (n1 < zNK)) (if (zkN n1) ≤ x3 then fX8_put_41 zfuel σ n1 x2 0 0 else
  zck (decide (n1 < zNK)) (zck (zin x3 (zkL n1)) (
  if (zkC n1 x3.toNatClampNeg) = 59 then fX8_put_28 k4 σ n1 x3 1 x2 else
  fX8_put_28 k4 σ n1 x3 0 x2)))
noncomputable def fX8_put_4  : Nat → zSt → Nat → Int32 → Int32 → Option (zSt)
  | 0, _, _, _, _ => none
  | n + 1, σ, n1, x2, x3 => fX8_put_4_body (fX8_put_4  n) σ n1 x2 x3
noncomputable def fX8_put  (σ : zSt) (n1 : Nat) : Option (zSt) :=
  fX8_put_4 zfuel σ n1 1 0
set_option maxRecDepth 20000 in
set_option maxHeartbeats 4000000 in
theorem bX8_put_28 {st : Nat → Nat} {p : Program} {l : Launch} {e : Env} {s : State} {m : MethodId} {args : Array Value} {below : List Frame} {meth : Method} {c : Code} {D : va_G} {A : Nat → Prop} {ad : Nat → Nat} {cy : Nat → ClassId} (hC : zC p m c cX8_put 6 s args wzX8_put RX8 meth none) {k4 : zSt → Nat → Int32 → Int32 → Option (zSt)} {res : zSt} (hk4 : ∀ (H : Heap) (locs : List Loc) (σ : zSt) (ls : Array Slot) (n1 : Nat) (x2 : Int32) (x3 : Int32), zI st D (tC cy) (wC ad cy σ) A s H locs → lv_has ls 6 [(0, .ref (ad 10)), (1, .ref (st (100 + n1))), (2, .int x2), (3, .int x3)] → k4 σ n1 x2 x3 = some res → W p l e rmX8_put s m args below meth c H locs 0 0 (zQu below args s D (tC cy) (wC ad cy) A res) (F0 m 4 ls [])) {H : Heap} {locs : List Loc} {σ : zSt} {ls : Array Slot} {n1 : Nat} {x3 : Int32} {s0 : Int32} {s1 : Int32} (hI : zI st D (tC cy) (wC ad cy σ) A s H locs) (hl : lv_has ls 6 [(0, .ref (ad 10)), (1, .ref (st (100 + n1))), (3, .int x3)]) (hf : fX8_put_28 k4 σ n1 x3 s0 s1 = some res) : W p l e rmX8_put s m args below meth c H locs 0 0 (zQu below args s D (tC cy) (wC ad cy) A res) (F0 m 28 ls [.int s0, .int s1]) := by
  have hx := hC.1
  have hb := hC.2.1
  unfold fX8_put_28 at hf
  refine lv_iadd hx hb dX8_put_28 ?_
  refine lv_topi (fun v1 ev1 => ?_)
  replace hf := zbv_use ev1 hf
  refine lv_istore_n (lv' := [(2, .int v1), (0, .ref (ad 10)), (1, .ref (st (100 + n1))), (3, .int x3)]) hx hb dX8_put_29 rfl hl (by decide) rfl (fun ls hl => ?_)
  obtain ⟨v2, ev2⟩ : ∃ z : Int32, z = x3 + 1 := ⟨_, rfl⟩
  replace hf := zbv_use ev2 hf
  refine lv_iinc (v := v2) (lv' := [(3, .int v2), (2, .int v1), (0, .ref (ad 10)), (1, .ref (st (100 + n1)))]) hx hb dX8_put_30 hl (k := 3) rfl (by rw [ev2]; rfl) (by decide) rfl (fun ls hl => ?_)
  refine lv_goto (tgt := 4) hx hb dX8_put_33 (by decide) ?_
  exact hk4 _ _ _ _ _ _ _ hI (lv_sub hl [2, 3, 1, 0] rfl) hf
set_option maxRecDepth 20000 in
set_option maxHeartbeats 4000000 in
theorem bX8_put_110 {st : Nat → Nat} {p : Program} {l : Launch} {e : Env} {s : State} {m : MethodId} {args : Array Value} {below : List Frame} {meth : Method} {c : Code} {D : va_G} {A : Nat → Prop} {ad : Nat → Nat} {cy : Nat → ClassId} (hC : zC p m c cX8_put 6 s args wzX8_put RX8 meth none) {k41 : zSt → Nat → Int32 → Int32 → Int32 → Option (zSt)} {res : zSt} (hk41 : ∀ (H : Heap) (locs : List Loc) (σ : zSt) (ls : Array Slot) (n1 : Nat) (x2 : Int32) (x3 : Int32) (x4 : Int32), zI st D (tC cy) (wC ad cy σ) A s H locs → lv_has ls 6 [(0, .ref (ad 10)), (1, .ref (st (100 + n1))), (2, .int x2), (3, .int x3), (4, .int x4)] → k41 σ n1 x2 x3 x4 = some res → W p l e rmX8_put s m args below meth c H locs 0 0 (zQu below args s D (tC cy) (wC ad cy) A res) (F0 m 41 ls [])) {H : Heap} {locs : List Loc} {σ : zSt} {ls : Array Slot} {n1 : Nat} {x2 : Int32} {x3 : Int32} {x4 : Int32} (hI : zI st D (tC cy) (wC ad cy σ) A s H locs) (hl : lv_has ls 6 [(0, .ref (ad 10)), (1, .ref (st (100 + n1))), (2, .int x2), (3, .int x3), (4, .int x4)]) (hf : fX8_put_110 k41 σ n1 x2 x3 x4 = some res) : W p l e rmX8_put s m args below meth c H locs 0 0 (zQu below args s D (tC cy) (wC ad cy) A res) (F0 m 110 ls []) := by
  have hx := hC.1
  have hb := hC.2.1
  unfold fX8_put_110 at hf
  obtain ⟨v3, ev3⟩ : ∃ z : Int32, z = x4 + 1 := ⟨_, rfl⟩
  replace hf := zbv_use ev3 hf
  refine lv_iinc (v := v3) (lv' := [(4, .int v3), (0, .ref (ad 10)), (1, .ref (st (100 + n1))), (2, .int x2), (3, .int x3)]) hx hb dX8_put_110 hl (k := 4) rfl (by rw [ev3]; rfl) (by decide) rfl (fun ls hl => ?_)
  refine lv_goto (tgt := 41) hx hb dX8_put_113 (by decide) ?_
  exact hk41 _ _ _ _ _ _ _ _ hI (lv_sub hl [1, 2, 3, 4, 0] rfl) hf
set_option maxRecDepth 20000 in
set_option maxHeartbeats 4000000 in
theorem bX8_put_104 {st : Nat → Nat} {p : Program} {l : Launch} {e : Env} {s : State} {m : MethodId} {args : Array Value} {below : List Frame} {meth : Method} {c : Code} {D : va_G} {A : Nat → Prop} {ad : Nat → Nat} {cy : Nat → ClassId} (hC : zC p m c cX8_put 6 s args wzX8_put RX8 meth none) {k41 : zSt → Nat → Int32 → Int32 → Int32 → Option (zSt)} {res : zSt} (hk41 : ∀ (H : Heap) (locs : List Loc) (σ : zSt) (ls : Array Slot) (n1 : Nat) (x2 : Int32) (x3 : Int32) (x4 : Int32), zI st D (tC cy) (wC ad cy σ) A s H locs → lv_has ls 6 [(0, .ref (ad 10)), (1, .ref (st (100 + n1))), (2, .int x2), (3, .int x3), (4, .int x4)] → k41 σ n1 x2 x3 x4 = some res → W p l e rmX8_put s m args below meth c H locs 0 0 (zQu below args s D (tC cy) (wC ad cy) A res) (F0 m 41 ls [])) {H : Heap} {locs : List Loc} {σ : zSt} {ls : Array Slot} {n1 : Nat} {x2 : Int32} {x3 : Int32} {x4 : Int32} {x5 : Int32} (hI : zI st D (tC cy) (wC ad cy σ) A s H locs) (hl : lv_has ls 6 [(0, .ref (ad 10)), (1, .ref (st (100 + n1))), (2, .int x2), (3, .int x3), (4, .int x4), (5, .int x5)]) (hf : fX8_put_104 k41 σ n1 x2 x3 x4 x5 = some res) : W p l e rmX8_put s m args below meth c H locs 0 0 (zQu below args s D (tC cy) (wC ad cy) A res) (F0 m 104 ls []) := by
  have hx := hC.1
  have hb := hC.2.1
  unfold fX8_put_104 at hf
  refine lv_aload_n hx hb dX8_put_104 rfl (lv_at hl 0 rfl) ?_
  refine lv_iload hx hb dX8_put_105 (lv_at hl 5 rfl) ?_
  obtain ⟨σ4, g4, hf⟩ := zbu_use hf
  refine z_callVu (As := [.int x5]) (rest := []) hC hI (cX8_putSign_met st l D ad cy σ x5 _ g4) (zgV zw71_19 zw71_20 zw71_21 zw3_9 zw71_22) rfl ⟨rfl, rfl⟩ 1 hdX8_putSign ⟨Nat.le_of_ble_eq_true rfl, Nat.le_of_ble_eq_true rfl⟩ rfl rfl (wC_e10 ad cy σ) rfl hl rfl (Nat.le_of_ble_eq_true rfl) dX8_put_107 ⟨Nat.zero_le _, Nat.zero_le _⟩ (fun H locs hI => ?_)
  exact bX8_put_110 hC hk41 hI (lv_sub hl [0, 1, 2, 3, 4] rfl) hf
set_option maxRecDepth 20000 in
set_option maxHeartbeats 4000000 in
theorem bX8_put_41_body {st : Nat → Nat} {p : Program} {l : Launch} {e : Env} {s : State} {m : MethodId} {args : Array Value} {below : List Frame} {meth : Method} {c : Code} {D : va_G} {A : Nat → Prop} {ad : Nat → Nat} {cy : Nat → ClassId} (hC : zC p m c cX8_put 6 s args wzX8_put RX8 meth none) {k41 : zSt → Nat → Int32 → Int32 → Int32 → Option (zSt)} {res : zSt} (hk41 : ∀ (H : Heap) (locs : List Loc) (σ : zSt) (ls : Array Slot) (n1 : Nat) (x2 : Int32) (x3 : Int32) (x4 : Int32), zI st D (tC cy) (wC ad cy σ) A s H locs → lv_has ls 6 [(0, .ref (ad 10)), (1, .ref (st (100 + n1))), (2, .int x2), (3, .int x3), (4, .int x4)] → k41 σ n1 x2 x3 x4 = some res → W p l e rmX8_put s m args below meth c H locs 0 0 (zQu below args s D (tC cy) (wC ad cy) A res) (F0 m 41 ls [])) {H : Heap} {locs : List Loc} {σ : zSt} {ls : Array Slot} {n1 : Nat} {x2 : Int32} {x3 : Int32} {x4 : Int32} (hI : zI st D (tC cy) (wC ad cy σ) A s H locs) (hl : lv_has ls 6 [(0, .ref (ad 10)), (1, .ref (st (100 + n1))), (2, .int x2), (3, .int x3), (4, .int x4)]) (hf : fX8_put_41_body k41 σ n1 x2 x3 x4 = some res) : W p l e rmX8_put s m args below meth c H locs 0 0 (zQu below args s D (tC cy) (wC ad cy) A res) (F0 m 41 ls []) := by
  have hx := hC.1
  have hb := hC.2.1
  unfold fX8_put_41_body at hf
  refine lv_iload hx hb dX8_put_41 (lv_at hl 4 rfl) ?_
  refine lv_aload_n hx hb dX8_put_43 rfl (lv_at hl 1 rfl) ?_
  obtain ⟨q, hf⟩ := zck_use hf
  refine z_callKi (As := []) (rest := [.int x4]) hC hI (cJ0_length_met st l D (tC cy) (wC ad cy) σ n1 (of_decide_eq_true q)) (zgV zw70_21 zw70_22 zw70_23 zw62_13 zw71_0) rfl ⟨rfl, rfl⟩ 0 hdJ0_length ⟨Nat.le_of_ble_eq_true rfl, Nat.le_of_ble_eq_true rfl⟩ (of_decide_eq_true q) rfl rfl hl rfl (Nat.le_of_ble_eq_true rfl) dX8_put_44 ⟨Nat.zero_le _, Nat.zero_le _⟩ (fun H locs hI => ?_)
  refine lv_icmp_ge (tgt := 116) hx hb dX8_put_47 (by decide) (fun q => ?_) (fun q => ?_)
  · replace hf := zif_t q hf
    exact z_return hC hI hf dX8_put_116
  replace hf := zif_f q hf
  refine lv_aload_n hx hb dX8_put_50 rfl (lv_at hl 1 rfl) ?_
  refine lv_iload hx hb dX8_put_51 (lv_at hl 4 rfl) ?_
  obtain ⟨q0, hf⟩ := zck_use hf
  obtain ⟨q, hf⟩ := zck_use hf
  refine z_callKi (As := [.int x4]) (rest := []) hC hI (cJ0_charAt_met st l D (tC cy) (wC ad cy) σ n1 (of_decide_eq_true q0) x4 q) (zgV zw71_5 zw62_11 zw62_12 zw62_13 zw62_14) rfl ⟨rfl, rfl⟩ 1 hdJ0_charAt ⟨Nat.le_of_ble_eq_true rfl, Nat.le_of_ble_eq_true rfl⟩ (of_decide_eq_true q0) rfl rfl hl rfl (Nat.le_of_ble_eq_true rfl) dX8_put_53 ⟨Nat.zero_le _, Nat.zero_le _⟩ (fun H locs hI => ?_)
  refine lv_topi (fun v5 ev5 => ?_)
  replace hf := zbv_use ev5 hf
  refine lv_istore (lv' := [(5, .int v5), (0, .ref (ad 10)), (1, .ref (st (100 + n1))), (2, .int x2), (3, .int x3), (4, .int x4)]) hx hb dX8_put_56 hl (by decide) rfl (fun ls hl => ?_)
  refine lv_iload hx hb dX8_put_58 (lv_at hl 0 rfl) ?_
  refine lv_bipush (v := 59) hx hb dX8_put_60 (by decide) ?_
  refine lv_icmp_ne (tgt := 71) hx hb dX8_put_62 (by decide) (fun q => ?_) (fun q => ?_)
  · replace hf := zif_f q hf
    refine lv_iload_n hx hb dX8_put_71 rfl (lv_at hl 4 rfl) ?_
    refine lv_aload_n hx hb dX8_put_72 rfl (lv_at hl 1 rfl) ?_
    refine z_get hC hI hinX8_put_X80 10 (wC_e10 ad cy σ) rfl 6 (by decide) (List.mem_cons_of_mem _ zw70_20) rfl dX8_put_73 ?_
    refine lv_iload_n hx hb dX8_put_76 rfl (lv_at hl 3 rfl) ?_
    obtain ⟨q, hf⟩ := zck_use hf
    refine z_irem hx hb dX8_put_77 (of_decide_eq_true q) ?_
    refine lv_icmp_ne (tgt := 110) hx hb dX8_put_78 (by decide) (fun q => ?_) (fun q => ?_)
    · replace hf := zif_f q hf
      exact bX8_put_110 hC hk41 hI (lv_sub hl [1, 2, 3, 4, 5] rfl) hf
    replace hf := zif_t q hf
    refine lv_iload hx hb dX8_put_81 (lv_at hl 0 rfl) ?_
    refine lv_bipush (v := 65) hx hb dX8_put_83 (by decide) ?_
    refine lv_icmp_lt (tgt := 104) hx hb dX8_put_85 (by decide) (fun q => ?_) (fun q => ?_)
    · replace hf := zif_t q hf
      exact bX8_put_104 hC hk41 hI (lv_sub hl [1, 2, 3, 4, 5, 0] rfl) hf
    replace hf := zif_f q hf
    refine lv_iload hx hb dX8_put_88 (lv_at hl 0 rfl) ?_
    refine lv_bipush (v := 90) hx hb dX8_put_90 (by decide) ?_
    refine lv_icmp_gt (tgt := 104) hx hb dX8_put_92 (by decide) (fun q => ?_) (fun q => ?_)
    · replace hf := zif_t q hf
      exact bX8_put_104 hC hk41 hI (lv_sub hl [1, 2, 3, 4, 5, 0] rfl) hf
    replace hf := zif_f q hf
    refine lv_aload_n hx hb dX8_put_95 rfl (lv_at hl 1 rfl) ?_
    refine lv_iload hx hb dX8_put_96 (lv_at hl 0 rfl) ?_
    obtain ⟨σ6, g6, hf⟩ := zbu_use hf
    refine z_callVu (As := [.int v5]) (rest := []) hC hI (cX8_putMeant_met st l D ad cy σ v5 _ g6) (zgV zw71_6 zw71_7 zw71_8 zw3_9 zw71_9) rfl ⟨rfl, rfl⟩ 1 hdX8_putMeant ⟨Nat.le_of_ble_eq_true rfl, Nat.le_of_ble_eq_true rfl⟩ rfl rfl (wC_e10 ad cy σ) rfl hl rfl (Nat.le_of_ble_eq_true rfl) dX8_put_98 ⟨Nat.zero_le _, Nat.zero_le _⟩ (fun H locs hI => ?_)
    refine lv_goto (tgt := 110) hx hb dX8_put_101 (by decide) ?_
    exact bX8_put_110 hC hk41 hI (lv_sub hl [1, 2, 3, 4, 5] rfl) hf
  replace hf := zif_t q hf
  obtain ⟨v7, ev7⟩ : ∃ z : Int32, z = x3 + 1 := ⟨_, rfl⟩
  replace hf := zbv_use ev7 hf
  refine lv_iinc (v := v7) (lv' := [(3, .int v7), (5, .int v5), (0, .ref (ad 10)), (1, .ref (st (100 + n1))), (2, .int x2), (4, .int x4)]) hx hb dX8_put_65 hl (k := 4) rfl (by rw [ev7]; rfl) (by decide) rfl (fun ls hl => ?_)
  refine lv_goto (tgt := 110) hx hb dX8_put_68 (by decide) ?_
  exact bX8_put_110 hC hk41 hI (lv_sub hl [2, 3, 4, 0, 5] rfl) hf
theorem blX8_put_41 {st : Nat → Nat} {p : Program} {l : Launch} {e : Env} {s : State} {m : MethodId} {args : Array Value} {below : List Frame} {meth : Method} {c : Code} {D : va_G} {A : Nat → Prop} {ad : Nat → Nat} {cy : Nat → ClassId} (hC : zC p m c cX8_put 6 s args wzX8_put RX8 meth none)  {res : zSt} : ∀ (n : Nat) (H : Heap) (locs : List Loc) (σ : zSt) (ls : Array Slot) (n1 : Nat) (x2 : Int32) (x3 : Int32) (x4 : Int32), zI st D (tC cy) (wC ad cy σ) A s H locs → lv_has ls 6 [(0, .ref (ad 10)), (1, .ref (st (100 + n1))), (2, .int x2), (3, .int x3), (4, .int x4)] → fX8_put_41  n σ n1 x2 x3 x4 = some res → W p l e rmX8_put s m args below meth c H locs 0 0 (zQu below args s D (tC cy) (wC ad cy) A res) (F0 m 41 ls []) := by
  intro n
  induction n with
  | zero => intro H locs σ ls n1 x2 x3 x4 hI hl hf; cases hf
  | succ n ih => intro H locs σ ls n1 x2 x3 x4 hI hl hf; exact bX8_put_41_body hC ih hI hl hf
set_option maxRecDepth 20000 in
set_option maxHeartbeats 4000000 in
theorem bX8_put_4_body {st : Nat → Nat} {p : Program} {l : Launch} {e : Env} {s : State} {m : MethodId} {args : Array Value} {below : List Frame} {meth : Method} {c : Code} {D : va_G} {A : Nat → Prop} {ad : Nat → Nat} {cy : Nat → ClassId} (hC : zC p m c cX8_put 6 s args wzX8_put RX8 meth none) {k4 : zSt → Nat → Int32 → Int32 → Option (zSt)} {res : zSt} (hk4 : ∀ (H : Heap) (locs : List Loc) (σ : zSt) (ls : Array Slot) (n1 : Nat) (x2 : Int32) (x3 : Int32), zI st D (tC cy) (wC ad cy σ) A s H locs → lv_has ls 6 [(0, .ref (ad 10)), (1, .ref (st (100 + n1))), (2, .int x2), (3, .int x3)] → k4 σ n1 x2 x3 = some res → W p l e rmX8_put s m args below meth c H locs 0 0 (zQu below args s D (tC cy) (wC ad cy) A res) (F0 m 4 ls [])) {H : Heap} {locs : List Loc} {σ : zSt} {ls : Array Slot} {n1 : Nat} {x2 : Int32} {x3 : Int32} (hI : zI st D (tC cy) (wC ad cy σ) A s H locs) (hl : lv_has ls 6 [(0, .ref (ad 10)), (1, .ref (st (100 + n1))), (2, .int x2), (3, .int x3)]) (hf : fX8_put_4_body k4 σ n1 x2 x3 = some res) : W p l e rmX8_put s m args below meth c H locs 0 0 (zQu below args s D (tC cy) (wC ad cy) A res) (F0 m 4 ls []) := by
  have hx := hC.1
  have hb := hC.2.1
  unfold fX8_put_4_body at hf
  refine lv_iload_n hx hb dX8_put_4 rfl (lv_at hl 3 rfl) ?_
  refine lv_aload_n hx hb dX8_put_5 rfl (lv_at hl 1 rfl) ?_
  obtain ⟨q, hf⟩ := zck_use hf
  refine z_callKi (As := []) (rest := [.int x3]) hC hI (cJ0_length_met st l D (tC cy) (wC ad cy) σ n1 (of_decide_eq_true q)) (zgV zw70_21 zw70_22 zw70_23 zw62_13 zw71_0) rfl ⟨rfl, rfl⟩ 0 hdJ0_length ⟨Nat.le_of_ble_eq_true rfl, Nat.le_of_ble_eq_true rfl⟩ (of_decide_eq_true q) rfl rfl hl rfl (Nat.le_of_ble_eq_true rfl) dX8_put_6 ⟨Nat.zero_le _, Nat.zero_le _⟩ (fun H locs hI => ?_)
  refine lv_icmp_ge (tgt := 36) hx hb dX8_put_9 (by decide) (fun q => ?_) (fun q => ?_)
  · replace hf := zif_t q hf
    refine lv_iconst (v := 0) hx hb dX8_put_36 (by decide) ?_
    refine lv_istore_n (lv' := [(3, .int 0), (0, .ref (ad 10)), (1, .ref (st (100 + n1))), (2, .int x2)]) hx hb dX8_put_37 rfl hl (by decide) rfl (fun ls hl => ?_)
    refine lv_iconst (v := 0) hx hb dX8_put_38 (by decide) ?_
    refine lv_istore (lv' := [(4, .int 0), (3, .int 0), (0, .ref (ad 10)), (1, .ref (st (100 + n1))), (2, .int x2)]) hx hb dX8_put_39 hl (by decide) rfl (fun ls hl => ?_)
    exact blX8_put_41 hC  zfuel _ _ _ _ _ _ _ _ hI (lv_sub hl [2, 3, 4, 1, 0] rfl) hf
  replace hf := zif_f q hf
  refine lv_iload_n hx hb dX8_put_12 rfl (lv_at hl 2 rfl) ?_
  refine lv_aload_n hx hb dX8_put_13 rfl (lv_at hl 1 rfl) ?_
  refine lv_iload_n hx hb dX8_put_14 rfl (lv_at hl 3 rfl) ?_
  obtain ⟨q0, hf⟩ := zck_use hf
  obtain ⟨q, hf⟩ := zck_use hf
  refine z_callKi (As := [.int x3]) (rest := [.int x2]) hC hI (cJ0_charAt_met st l D (tC cy) (wC ad cy) σ n1 (of_decide_eq_true q0) x3 q) (zgV zw71_5 zw62_11 zw62_12 zw62_13 zw62_14) rfl ⟨rfl, rfl⟩ 1 hdJ0_charAt ⟨Nat.le_of_ble_eq_true rfl, Nat.le_of_ble_eq_true rfl⟩ (of_decide_eq_true q0) rfl rfl hl rfl (Nat.le_of_ble_eq_true rfl) dX8_put_15 ⟨Nat.zero_le _, Nat.zero_le _⟩ (fun H locs hI => ?_)
  refine lv_bipush (v := 59) hx hb dX8_put_18 (by decide) ?_
  refine lv_icmp_ne (tgt := 27) hx hb dX8_put_20 (by decide) (fun q => ?_) (fun q => ?_)
  · replace hf := zif_f q hf
    refine lv_iconst (v := 0) hx hb dX8_put_27 (by decide) ?_
    exact bX8_put_28 hC hk4 hI (lv_sub hl [0, 1, 3] rfl) hf
  replace hf := zif_t q hf
  refine lv_iconst (v := 1) hx hb dX8_put_23 (by decide) ?_
  refine lv_goto (tgt := 28) hx hb dX8_put_24 (by decide) ?_
  exact bX8_put_28 hC hk4 hI (lv_sub hl [0, 1, 3] rfl) hf
theorem blX8_put_4 {st : Nat → Nat} {p : Program} {l : Launch} {e : Env} {s : State} {m : MethodId} {args : Array Value} {below : List Frame} {meth : Method} {c : Code} {D : va_G} {A : Nat → Prop} {ad : Nat → Nat} {cy : Nat → ClassId} (hC : zC p m c cX8_put 6 s args wzX8_put RX8 meth none)  {res : zSt} : ∀ (n : Nat) (H : Heap) (locs : List Loc) (σ : zSt) (ls : Array Slot) (n1 : Nat) (x2 : Int32) (x3 : Int32), zI st D (tC cy) (wC ad cy σ) A s H locs → lv_has ls 6 [(0, .ref (ad 10)), (1, .ref (st (100 + n1))), (2, .int x2), (3, .int x3)] → fX8_put_4  n σ n1 x2 x3 = some res → W p l e rmX8_put s m args below meth c H locs 0 0 (zQu below args s D (tC cy) (wC ad cy) A res) (F0 m 4 ls []) := by
  intro n
  induction n with
  | zero => intro H locs σ ls n1 x2 x3 hI hl hf; cases hf
  | succ n ih => intro H locs σ ls n1 x2 x3 hI hl hf; exact bX8_put_4_body hC ih hI hl hf
set_option maxRecDepth 20000 in
set_option maxHeartbeats 4000000 in
theorem bX8_put {st : Nat → Nat} {p : Program} {l : Launch} {e : Env} {s : State} {m : MethodId} {args : Array Value} {below : List Frame} {meth : Method} {c : Code} {D : va_G} {A : Nat → Prop} {ad : Nat → Nat} {cy : Nat → ClassId} (hC : zC p m c cX8_put 6 s args wzX8_put RX8 meth none)  {res : zSt} {H : Heap} {locs : List Loc} {σ : zSt} {ls : Array Slot} {n1 : Nat} (hI : zI st D (tC cy) (wC ad cy σ) A s H locs) (hl : lv_has ls 6 [(0, .ref (ad 10)), (1, .ref (st (100 + n1)))]) (hf : fX8_put  σ n1 = some res) : W p l e rmX8_put s m args below meth c H locs 0 0 (zQu below args s D (tC cy) (wC ad cy) A res) (F0 m 0 ls []) := by
  have hx := hC.1
  have hb := hC.2.1
  unfold fX8_put at hf
  refine lv_iconst (v := 1) hx hb dX8_put_0 (by decide) ?_
  refine lv_istore_n (lv' := [(2, .int 1), (0, .ref (ad 10)), (1, .ref (st (100 + n1)))]) hx hb dX8_put_1 rfl hl (by decide) rfl (fun ls hl => ?_)
  refine lv_iconst (v := 0) hx hb dX8_put_2 (by decide) ?_
  refine lv_istore_n (lv' := [(3, .int 0), (2, .int 1), (0, .ref (ad 10)), (1, .ref (st (100 + n1)))]) hx hb dX8_put_3 rfl hl (by decide) rfl (fun ls hl => ?_)
  exact blX8_put_4 hC  zfuel _ _ _ _ _ _ _ hI (lv_sub hl [2, 3, 1, 0] rfl) hf
set_option maxRecDepth 20000 in
theorem cX8_put_met (st : Nat → Nat) (l : Launch) (D : va_G) (ad : Nat → Nat) (cy : Nat → ClassId) (σ : zSt) (n1 : Nat) (res : zSt) (hf : fX8_put σ n1 = some res) (sz : Nat) : zMu st l yX8_put wzX8_put rmX8_put [.ref (ad 10), .ref (st (100 + n1))] D (tC cy) (wC ad cy) sz σ res :=
  zMu.of (cc := cX8_put) (maxL := 6) (ret := none) (by decide) rfl (Nat.le_of_ble_eq_true rfl) (fun p e s m args below meth c hC A hI ls hl => bX8_put hC hI hl hf)
theorem hdX8_put : yX8_put.cls = RX8 ∧ yX8_put.cls ≠ "java/lang/invoke/MethodHandle" ∧ yX8_put.cls ≠ "java/lang/invoke/VarHandle" ∧ (parseMethodDescriptor yX8_put.desc).map (fun d => d.parameters.length) = some 1 := by decide +kernel
noncomputable def rmX8_split : Room := { frames := 0, cells := 0, slots := 0, locals := 0 }
noncomputable def wzX8_split : List Cond := .code yX8_split cX8_split 2 none :: wsL_law
theorem hinX8_split_X80 : ∀ w ∈ wsX80, w ∈ wzX8_split := fun w h => List.mem_cons_of_mem _ (inlX8 w h)
noncomputable def fX8_split  (σ : zSt) (x1 : Int32) : Option (zSt) :=
  zbv (zsi σ 10 5 (x1 >>> ((6 : Int32) &&& 31))) (fun σ1 =>
  zbv (zsi σ1 10 6 ((x1 >>> ((3 : Int32) &&& 31)) &&& 7)) (fun σ2 =>
  zbv (zsi σ2 10 7 (x1 &&& 7)) (fun σ3 =>
  some σ3)))
set_option maxRecDepth 20000 in
set_option maxHeartbeats 4000000 in
theorem bX8_split {st : Nat → Nat} {p : Program} {l : Launch} {e : Env} {s : State} {m : MethodId} {args : Array Value} {below : List Frame} {meth : Method} {c : Code} {D : va_G} {A : Nat → Prop} {ad : Nat → Nat} {cy : Nat → ClassId} (hC : zC p m c cX8_split 2 s args wzX8_split RX8 meth none)  {res : zSt} {H : Heap} {locs : List Loc} {σ : zSt} {ls : Array Slot} {x1 : Int32} (hI : zI st D (tC cy) (wC ad cy σ) A s H locs) (hl : lv_has ls 2 [(0, .ref (ad 10)), (1, .int x1)]) (hf : fX8_split  σ x1 = some res) : W p l e rmX8_split s m args below meth c H locs 0 0 (zQu below args s D (tC cy) (wC ad cy) A res) (F0 m 0 ls []) := by
  have hx := hC.1
  have hb := hC.2.1
  unfold fX8_split at hf
  refine lv_aload_n hx hb dX8_split_0 rfl (lv_at hl 0 rfl) ?_
  refine lv_iload_n hx hb dX8_split_1 rfl (lv_at hl 1 rfl) ?_
  refine lv_bipush (v := 6) hx hb dX8_split_2 (by decide) ?_
  refine lv_ishr hx hb dX8_split_4 ?_
  obtain ⟨σ1, eσ1⟩ : ∃ z, z = zsi σ 10 5 (x1 >>> ((6 : Int32) &&& 31)) := ⟨_, rfl⟩
  replace hf := zbv_use eσ1 hf
  refine z_put hC hI hinX8_split_X80 tyX8_ok nmX8 10 (wC_e10 ad cy σ) rfl 5 (by decide) (List.mem_cons_of_mem _ zw72_16) rfl rfl rfl (Nat.le_of_ble_eq_true rfl) ((wC_s10_5 ad cy σ (x1 >>> ((6 : Int32) &&& 31))).trans (congrArg (wC ad cy) eσ1.symm)) dX8_split_5 (fun H locs hI => ?_)
  refine lv_aload_n hx hb dX8_split_8 rfl (lv_at hl 0 rfl) ?_
  refine lv_iload_n hx hb dX8_split_9 rfl (lv_at hl 1 rfl) ?_
  refine lv_iconst (v := 3) hx hb dX8_split_10 (by decide) ?_
  refine lv_ishr hx hb dX8_split_11 ?_
  refine lv_bipush (v := 7) hx hb dX8_split_12 (by decide) ?_
  refine lv_iand hx hb dX8_split_14 ?_
  obtain ⟨σ2, eσ2⟩ : ∃ z, z = zsi σ1 10 6 ((x1 >>> ((3 : Int32) &&& 31)) &&& 7) := ⟨_, rfl⟩
  replace hf := zbv_use eσ2 hf
  refine z_put hC hI hinX8_split_X80 tyX8_ok nmX8 10 (wC_e10 ad cy σ1) rfl 6 (by decide) (List.mem_cons_of_mem _ zw70_20) rfl rfl rfl (Nat.le_of_ble_eq_true rfl) ((wC_s10_6 ad cy σ1 ((x1 >>> ((3 : Int32) &&& 31)) &&& 7)).trans (congrArg (wC ad cy) eσ2.symm)) dX8_split_15 (fun H locs hI => ?_)
  refine lv_aload_n hx hb dX8_split_18 rfl (lv_at hl 0 rfl) ?_
  refine lv_iload_n hx hb dX8_split_19 rfl (lv_at hl 1 rfl) ?_
  refine lv_bipush (v := 7) hx hb dX8_split_20 (by decide) ?_
  refine lv_iand hx hb dX8_split_22 ?_
  obtain ⟨σ3, eσ3⟩ : ∃ z, z = zsi σ2 10 7 (x1 &&& 7) := ⟨_, rfl⟩
  replace hf := zbv_use eσ3 hf
  refine z_put hC hI hinX8_split_X80 tyX8_ok nmX8 10 (wC_e10 ad cy σ2) rfl 7 (by decide) (List.mem_cons_of_mem _ zw71_10) rfl rfl rfl (Nat.le_of_ble_eq_true rfl) ((wC_s10_7 ad cy σ2 (x1 &&& 7)).trans (congrArg (wC ad cy) eσ3.symm)) dX8_split_23 (fun H locs hI => ?_)
  exact z_return hC hI hf dX8_split_26
set_option maxRecDepth 20000 in
theorem cX8_split_met (st : Nat → Nat) (l : Launch) (D : va_G) (ad : Nat → Nat) (cy : Nat → ClassId) (σ : zSt) (x1 : Int32) (res : zSt) (hf : fX8_split σ x1 = some res) (sz : Nat) : zMu st l yX8_split wzX8_split rmX8_split [.ref (ad 10), .int x1] D (tC cy) (wC ad cy) sz σ res :=
  zMu.of (cc := cX8_split) (maxL := 2) (ret := none) (by decide) rfl (Nat.le_of_ble_eq_true rfl) (fun p e s m args below meth c hC A hI ls hl => bX8_split hC hI hl hf)
theorem hdX8_split : yX8_split.cls = RX8 ∧ yX8_split.cls ≠ "java/lang/invoke/MethodHandle" ∧ yX8_split.cls ≠ "java/lang/invoke/VarHandle" ∧ (parseMethodDescriptor yX8_split.desc).map (fun d => d.parameters.length) = some 1 := by decide +kernel
noncomputable def rmX8_turnPatterns : Room := { frames := 0, cells := 0, slots := 0, locals := 0 }
noncomputable def wzX8_turnPatterns : List Cond := .code yX8_turnPatterns cX8_turnPatterns 1 (some (.object "java/lang/String")) :: wsL_law
theorem hinX8_turnPatterns_X80 : ∀ w ∈ wsX80, w ∈ wzX8_turnPatterns := fun w h => List.mem_cons_of_mem _ (inlX8 w h)
noncomputable def fX8_turnPatterns  (σ : zSt)  : Option (zSt × Nat) :=
  if (zgi σ 10 5) = 0 then some (σ, 6) else
  if (zgi σ 10 5) = 1 then some (σ, 7) else
  if (zgi σ 10 5) = 2 then some (σ, 8) else
  some (σ, 9)
set_option maxRecDepth 20000 in
set_option maxHeartbeats 4000000 in
theorem bX8_turnPatterns {st : Nat → Nat} {p : Program} {l : Launch} {e : Env} {s : State} {m : MethodId} {args : Array Value} {below : List Frame} {meth : Method} {c : Code} {D : va_G} {A : Nat → Prop} {ad : Nat → Nat} {cy : Nat → ClassId} (hC : zC p m c cX8_turnPatterns 1 s args wzX8_turnPatterns RX8 meth (some (.object "java/lang/String")))  {res : zSt × Nat} {H : Heap} {locs : List Loc} {σ : zSt} {ls : Array Slot}  (hI : zI st D (tC cy) (wC ad cy σ) A s H locs) (hl : lv_has ls 1 [(0, .ref (ad 10))]) (hf : fX8_turnPatterns  σ  = some res) : W p l e rmX8_turnPatterns s m args below meth c H locs 0 0 (zQk st below args s D (tC cy) (wC ad cy) A res) (F0 m 0 ls []) := by
  have hx := hC.1
  have hb := hC.2.1
  unfold fX8_turnPatterns at hf
  refine lv_aload_n hx hb dX8_turnPatterns_0 rfl (lv_at hl 0 rfl) ?_
  refine z_get hC hI hinX8_turnPatterns_X80 10 (wC_e10 ad cy σ) rfl 5 (by decide) (List.mem_cons_of_mem _ zw72_16) rfl dX8_turnPatterns_1 ?_
  by_cases q0 : (zgi σ 10 5) = 0
  · replace hf := zif_t q0 hf
    refine lv_tableIn (tgt := 32) hx hb dX8_turnPatterns_4 (by rw [q0]; decide) (by rw [q0]; decide) (by rw [q0]; rfl) (by decide) ?_
    refine z_ldcS hC hI 6 (by decide) rfl rfl dX8_turnPatterns_32 ?_
    exact z_areturn hC hI hf dX8_turnPatterns_34
  replace hf := zif_f q0 hf
  by_cases q1 : (zgi σ 10 5) = 1
  · replace hf := zif_t q1 hf
    refine lv_tableIn (tgt := 35) hx hb dX8_turnPatterns_4 (by rw [q1]; decide) (by rw [q1]; decide) (by rw [q1]; rfl) (by decide) ?_
    refine z_ldcS hC hI 7 (by decide) rfl rfl dX8_turnPatterns_35 ?_
    exact z_areturn hC hI hf dX8_turnPatterns_37
  replace hf := zif_f q1 hf
  by_cases q2 : (zgi σ 10 5) = 2
  · replace hf := zif_t q2 hf
    refine lv_tableIn (tgt := 38) hx hb dX8_turnPatterns_4 (by rw [q2]; decide) (by rw [q2]; decide) (by rw [q2]; rfl) (by decide) ?_
    refine z_ldcS hC hI 8 (by decide) rfl rfl dX8_turnPatterns_38 ?_
    exact z_areturn hC hI hf dX8_turnPatterns_40
  replace hf := zif_f q2 hf
  refine lv_tableOut (tgt := 41) hx hb dX8_turnPatterns_4 (zsw (fun k h1 h2 => by rcases (show k = 0 ∨ k = 1 ∨ k = 2 by omega) with rfl | rfl | rfl <;> assumption)) (by decide) ?_
  refine z_ldcS hC hI 9 (by decide) rfl rfl dX8_turnPatterns_41 ?_
  exact z_areturn hC hI hf dX8_turnPatterns_43
set_option maxRecDepth 20000 in
theorem cX8_turnPatterns_met (st : Nat → Nat) (l : Launch) (D : va_G) (ad : Nat → Nat) (cy : Nat → ClassId) (σ : zSt)  (res : zSt × Nat) (hf : fX8_turnPatterns σ  = some res) (sz : Nat) : zMk st l yX8_turnPatterns wzX8_turnPatterns rmX8_turnPatterns [.ref (ad 10)] D (tC cy) (wC ad cy) sz σ res :=
  zMk.of (cc := cX8_turnPatterns) (maxL := 1) (ret := (some (.object "java/lang/String"))) (by decide) rfl (Nat.le_of_ble_eq_true rfl) (fun p e s m args below meth c hC A hI ls hl => bX8_turnPatterns hC hI hl hf)
theorem hdX8_turnPatterns : yX8_turnPatterns.cls = RX8 ∧ yX8_turnPatterns.cls ≠ "java/lang/invoke/MethodHandle" ∧ yX8_turnPatterns.cls ≠ "java/lang/invoke/VarHandle" ∧ (parseMethodDescriptor yX8_turnPatterns.desc).map (fun d => d.parameters.length) = some 0 := by decide +kernel
end ZJN1
