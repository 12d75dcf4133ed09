section ZJN0
noncomputable def kn_cX12_sound : Nat := 0xac2e601b45101600b42a0c00a72e22101600b42a0d00a012101bac030500997200b604030400a70407009a6e00b8ba011409851b2a
theorem zk_cX12_sound : zkd cX12_sound.data.toList kn_cX12_sound = true := by decide +kernel
theorem zn_cX12_sound : cX12_sound.data.toList.length = 53 := by decide +kernel
theorem dX12_sound_0 : decode cX12_sound 0 = .ok (.aload_n 0, 1) := zo_42 (zkb zk_cX12_sound zn_cX12_sound rfl)
theorem dX12_sound_1 : decode cX12_sound 1 = .ok (.iload_n 1, 1) := zo_27 (zkb zk_cX12_sound zn_cX12_sound rfl)
theorem dX12_sound_2 : decode cX12_sound 2 = .ok (.i2l, 1) := zo_133 (zkb zk_cX12_sound zn_cX12_sound rfl)
theorem dX12_sound_3 : decode cX12_sound 3 = .ok (.lconst 0, 1) := zo_9 (zkb zk_cX12_sound zn_cX12_sound rfl)
theorem dX12_sound_4 : decode cX12_sound 4 = .ok (.ldc2_w 442, 3) := by decide +kernel
theorem dX12_sound_7 : decode cX12_sound 7 = .ok (.invokestatic 110, 3) := zo_184 (b1 := 0) (b2 := 110) (zkb3 zk_cX12_sound zn_cX12_sound rfl) rfl
theorem dX12_sound_10 : decode cX12_sound 10 = .ok (.ifCond .ne 7, 3) := zo_154 (b1 := 0) (b2 := 7) (zkb3 zk_cX12_sound zn_cX12_sound rfl) rfl
theorem dX12_sound_13 : decode cX12_sound 13 = .ok (.iconst 1, 1) := zo_4 (zkb zk_cX12_sound zn_cX12_sound rfl)
theorem dX12_sound_14 : decode cX12_sound 14 = .ok (.goto 4, 3) := zo_167 (b1 := 0) (b2 := 4) (zkb3 zk_cX12_sound zn_cX12_sound rfl) rfl
theorem dX12_sound_17 : decode cX12_sound 17 = .ok (.iconst 0, 1) := zo_3 (zkb zk_cX12_sound zn_cX12_sound rfl)
theorem dX12_sound_18 : decode cX12_sound 18 = .ok (.iconst 1, 1) := zo_4 (zkb zk_cX12_sound zn_cX12_sound rfl)
theorem dX12_sound_19 : decode cX12_sound 19 = .ok (.invokevirtual 114, 3) := zo_182 (b1 := 0) (b2 := 114) (zkb3 zk_cX12_sound zn_cX12_sound rfl) rfl
theorem dX12_sound_22 : decode cX12_sound 22 = .ok (.ifCond .eq 5, 3) := zo_153 (b1 := 0) (b2 := 5) (zkb3 zk_cX12_sound zn_cX12_sound rfl) rfl
theorem dX12_sound_25 : decode cX12_sound 25 = .ok (.iconst 0, 1) := zo_3 (zkb zk_cX12_sound zn_cX12_sound rfl)
theorem dX12_sound_26 : decode cX12_sound 26 = .ok (.ireturn, 1) := zo_172 (zkb zk_cX12_sound zn_cX12_sound rfl)
theorem dX12_sound_27 : decode cX12_sound 27 = .ok (.iload_n 1, 1) := zo_27 (zkb zk_cX12_sound zn_cX12_sound rfl)
theorem dX12_sound_28 : decode cX12_sound 28 = .ok (.bipush 18, 2) := zo_16 (b1 := 18) (zkb2 zk_cX12_sound zn_cX12_sound rfl) rfl
theorem dX12_sound_30 : decode cX12_sound 30 = .ok (.if_icmp .ne 13, 3) := zo_160 (b1 := 0) (b2 := 13) (zkb3 zk_cX12_sound zn_cX12_sound rfl) rfl
theorem dX12_sound_33 : decode cX12_sound 33 = .ok (.aload_n 0, 1) := zo_42 (zkb zk_cX12_sound zn_cX12_sound rfl)
theorem dX12_sound_34 : decode cX12_sound 34 = .ok (.getfield 22, 3) := zo_180 (b1 := 0) (b2 := 22) (zkb3 zk_cX12_sound zn_cX12_sound rfl) rfl
theorem dX12_sound_37 : decode cX12_sound 37 = .ok (.bipush 34, 2) := zo_16 (b1 := 34) (zkb2 zk_cX12_sound zn_cX12_sound rfl) rfl
theorem dX12_sound_39 : decode cX12_sound 39 = .ok (.iaload, 1) := zo_46 (zkb zk_cX12_sound zn_cX12_sound rfl)
theorem dX12_sound_40 : decode cX12_sound 40 = .ok (.goto 12, 3) := zo_167 (b1 := 0) (b2 := 12) (zkb3 zk_cX12_sound zn_cX12_sound rfl) rfl
theorem dX12_sound_43 : decode cX12_sound 43 = .ok (.aload_n 0, 1) := zo_42 (zkb zk_cX12_sound zn_cX12_sound rfl)
theorem dX12_sound_44 : decode cX12_sound 44 = .ok (.getfield 22, 3) := zo_180 (b1 := 0) (b2 := 22) (zkb3 zk_cX12_sound zn_cX12_sound rfl) rfl
theorem dX12_sound_47 : decode cX12_sound 47 = .ok (.bipush 69, 2) := zo_16 (b1 := 69) (zkb2 zk_cX12_sound zn_cX12_sound rfl) rfl
theorem dX12_sound_49 : decode cX12_sound 49 = .ok (.iload_n 1, 1) := zo_27 (zkb zk_cX12_sound zn_cX12_sound rfl)
theorem dX12_sound_50 : decode cX12_sound 50 = .ok (.iadd, 1) := zo_96 (zkb zk_cX12_sound zn_cX12_sound rfl)
theorem dX12_sound_51 : decode cX12_sound 51 = .ok (.iaload, 1) := zo_46 (zkb zk_cX12_sound zn_cX12_sound rfl)
theorem dX12_sound_52 : decode cX12_sound 52 = .ok (.ireturn, 1) := zo_172 (zkb zk_cX12_sound zn_cX12_sound rfl)
noncomputable def kn_cX12_reset : Nat := 0xb16600b62a6900b5032a
theorem zk_cX12_reset : zkd cX12_reset.data.toList kn_cX12_reset = true := by decide +kernel
theorem zn_cX12_reset : cX12_reset.data.toList.length = 10 := by decide +kernel
theorem dX12_reset_0 : decode cX12_reset 0 = .ok (.aload_n 0, 1) := zo_42 (zkb zk_cX12_reset zn_cX12_reset rfl)
theorem dX12_reset_1 : decode cX12_reset 1 = .ok (.iconst 0, 1) := zo_3 (zkb zk_cX12_reset zn_cX12_reset rfl)
theorem dX12_reset_2 : decode cX12_reset 2 = .ok (.putfield 105, 3) := zo_181 (b1 := 0) (b2 := 105) (zkb3 zk_cX12_reset zn_cX12_reset rfl) rfl
theorem dX12_reset_5 : decode cX12_reset 5 = .ok (.aload_n 0, 1) := zo_42 (zkb zk_cX12_reset zn_cX12_reset rfl)
theorem dX12_reset_6 : decode cX12_reset 6 = .ok (.invokevirtual 102, 3) := zo_182 (b1 := 0) (b2 := 102) (zkb3 zk_cX12_reset zn_cX12_reset rfl) rfl
theorem dX12_reset_9 : decode cX12_reset 9 = .ok (.return_, 1) := zo_177 (zkb zk_cX12_reset zn_cX12_reset rfl)
noncomputable def kn_cX12_pause : Nat := 0xac044f041c101600b42aac030500a0056300b42a6900b5032a
theorem zk_cX12_pause : zkd cX12_pause.data.toList kn_cX12_pause = true := by decide +kernel
theorem zn_cX12_pause : cX12_pause.data.toList.length = 25 := by decide +kernel
theorem dX12_pause_0 : decode cX12_pause 0 = .ok (.aload_n 0, 1) := zo_42 (zkb zk_cX12_pause zn_cX12_pause rfl)
theorem dX12_pause_1 : decode cX12_pause 1 = .ok (.iconst 0, 1) := zo_3 (zkb zk_cX12_pause zn_cX12_pause rfl)
theorem dX12_pause_2 : decode cX12_pause 2 = .ok (.putfield 105, 3) := zo_181 (b1 := 0) (b2 := 105) (zkb3 zk_cX12_pause zn_cX12_pause rfl) rfl
theorem dX12_pause_5 : decode cX12_pause 5 = .ok (.aload_n 0, 1) := zo_42 (zkb zk_cX12_pause zn_cX12_pause rfl)
theorem dX12_pause_6 : decode cX12_pause 6 = .ok (.getfield 99, 3) := zo_180 (b1 := 0) (b2 := 99) (zkb3 zk_cX12_pause zn_cX12_pause rfl) rfl
theorem dX12_pause_9 : decode cX12_pause 9 = .ok (.iconst 2, 1) := zo_5 (zkb zk_cX12_pause zn_cX12_pause rfl)
theorem dX12_pause_10 : decode cX12_pause 10 = .ok (.if_icmp .ne 5, 3) := zo_160 (b1 := 0) (b2 := 5) (zkb3 zk_cX12_pause zn_cX12_pause rfl) rfl
theorem dX12_pause_13 : decode cX12_pause 13 = .ok (.iconst 0, 1) := zo_3 (zkb zk_cX12_pause zn_cX12_pause rfl)
theorem dX12_pause_14 : decode cX12_pause 14 = .ok (.ireturn, 1) := zo_172 (zkb zk_cX12_pause zn_cX12_pause rfl)
theorem dX12_pause_15 : decode cX12_pause 15 = .ok (.aload_n 0, 1) := zo_42 (zkb zk_cX12_pause zn_cX12_pause rfl)
theorem dX12_pause_16 : decode cX12_pause 16 = .ok (.getfield 22, 3) := zo_180 (b1 := 0) (b2 := 22) (zkb3 zk_cX12_pause zn_cX12_pause rfl) rfl
theorem dX12_pause_19 : decode cX12_pause 19 = .ok (.bipush 28, 2) := zo_16 (b1 := 28) (zkb2 zk_cX12_pause zn_cX12_pause rfl) rfl
theorem dX12_pause_21 : decode cX12_pause 21 = .ok (.iconst 1, 1) := zo_4 (zkb zk_cX12_pause zn_cX12_pause rfl)
theorem dX12_pause_22 : decode cX12_pause 22 = .ok (.iastore, 1) := zo_79 (zkb zk_cX12_pause zn_cX12_pause rfl)
theorem dX12_pause_23 : decode cX12_pause 23 = .ok (.iconst 1, 1) := zo_4 (zkb zk_cX12_pause zn_cX12_pause rfl)
theorem dX12_pause_24 : decode cX12_pause 24 = .ok (.ireturn, 1) := zo_172 (zkb zk_cX12_pause zn_cX12_pause rfl)
noncomputable def kn_cX12_press : Nat := 0xb14f1c601b2a101600b42ab10400997200b604030400a70407009a6e00b8bc011409851c0f00996e00b80a09851b2a
theorem zk_cX12_press : zkd cX12_press.data.toList kn_cX12_press = true := by decide +kernel
theorem zn_cX12_press : cX12_press.data.toList.length = 47 := by decide +kernel
theorem dX12_press_0 : decode cX12_press 0 = .ok (.aload_n 0, 1) := zo_42 (zkb zk_cX12_press zn_cX12_press rfl)
theorem dX12_press_1 : decode cX12_press 1 = .ok (.iload_n 1, 1) := zo_27 (zkb zk_cX12_press zn_cX12_press rfl)
theorem dX12_press_2 : decode cX12_press 2 = .ok (.i2l, 1) := zo_133 (zkb zk_cX12_press zn_cX12_press rfl)
theorem dX12_press_3 : decode cX12_press 3 = .ok (.lconst 0, 1) := zo_9 (zkb zk_cX12_press zn_cX12_press rfl)
theorem dX12_press_4 : decode cX12_press 4 = .ok (.lconst 1, 1) := zo_10 (zkb zk_cX12_press zn_cX12_press rfl)
theorem dX12_press_5 : decode cX12_press 5 = .ok (.invokestatic 110, 3) := zo_184 (b1 := 0) (b2 := 110) (zkb3 zk_cX12_press zn_cX12_press rfl) rfl
theorem dX12_press_8 : decode cX12_press 8 = .ok (.ifCond .eq 15, 3) := zo_153 (b1 := 0) (b2 := 15) (zkb3 zk_cX12_press zn_cX12_press rfl) rfl
theorem dX12_press_11 : decode cX12_press 11 = .ok (.iload_n 2, 1) := zo_28 (zkb zk_cX12_press zn_cX12_press rfl)
theorem dX12_press_12 : decode cX12_press 12 = .ok (.i2l, 1) := zo_133 (zkb zk_cX12_press zn_cX12_press rfl)
theorem dX12_press_13 : decode cX12_press 13 = .ok (.lconst 0, 1) := zo_9 (zkb zk_cX12_press zn_cX12_press rfl)
theorem dX12_press_14 : decode cX12_press 14 = .ok (.ldc2_w 444, 3) := by decide +kernel
theorem dX12_press_17 : decode cX12_press 17 = .ok (.invokestatic 110, 3) := zo_184 (b1 := 0) (b2 := 110) (zkb3 zk_cX12_press zn_cX12_press rfl) rfl
theorem dX12_press_20 : decode cX12_press 20 = .ok (.ifCond .ne 7, 3) := zo_154 (b1 := 0) (b2 := 7) (zkb3 zk_cX12_press zn_cX12_press rfl) rfl
theorem dX12_press_23 : decode cX12_press 23 = .ok (.iconst 1, 1) := zo_4 (zkb zk_cX12_press zn_cX12_press rfl)
theorem dX12_press_24 : decode cX12_press 24 = .ok (.goto 4, 3) := zo_167 (b1 := 0) (b2 := 4) (zkb3 zk_cX12_press zn_cX12_press rfl) rfl
theorem dX12_press_27 : decode cX12_press 27 = .ok (.iconst 0, 1) := zo_3 (zkb zk_cX12_press zn_cX12_press rfl)
theorem dX12_press_28 : decode cX12_press 28 = .ok (.iconst 1, 1) := zo_4 (zkb zk_cX12_press zn_cX12_press rfl)
theorem dX12_press_29 : decode cX12_press 29 = .ok (.invokevirtual 114, 3) := zo_182 (b1 := 0) (b2 := 114) (zkb3 zk_cX12_press zn_cX12_press rfl) rfl
theorem dX12_press_32 : decode cX12_press 32 = .ok (.ifCond .eq 4, 3) := zo_153 (b1 := 0) (b2 := 4) (zkb3 zk_cX12_press zn_cX12_press rfl) rfl
theorem dX12_press_35 : decode cX12_press 35 = .ok (.return_, 1) := zo_177 (zkb zk_cX12_press zn_cX12_press rfl)
theorem dX12_press_36 : decode cX12_press 36 = .ok (.aload_n 0, 1) := zo_42 (zkb zk_cX12_press zn_cX12_press rfl)
theorem dX12_press_37 : decode cX12_press 37 = .ok (.getfield 22, 3) := zo_180 (b1 := 0) (b2 := 22) (zkb3 zk_cX12_press zn_cX12_press rfl) rfl
theorem dX12_press_40 : decode cX12_press 40 = .ok (.bipush 42, 2) := zo_16 (b1 := 42) (zkb2 zk_cX12_press zn_cX12_press rfl) rfl
theorem dX12_press_42 : decode cX12_press 42 = .ok (.iload_n 1, 1) := zo_27 (zkb zk_cX12_press zn_cX12_press rfl)
theorem dX12_press_43 : decode cX12_press 43 = .ok (.iadd, 1) := zo_96 (zkb zk_cX12_press zn_cX12_press rfl)
theorem dX12_press_44 : decode cX12_press 44 = .ok (.iload_n 2, 1) := zo_28 (zkb zk_cX12_press zn_cX12_press rfl)
theorem dX12_press_45 : decode cX12_press 45 = .ok (.iastore, 1) := zo_79 (zkb zk_cX12_press zn_cX12_press rfl)
theorem dX12_press_46 : decode cX12_press 46 = .ok (.return_, 1) := zo_177 (zkb zk_cX12_press zn_cX12_press rfl)
noncomputable def kn_cX12_start : Nat := 0xb14f030400a7040700991b2c101600b42a6900b5032a
theorem zk_cX12_start : zkd cX12_start.data.toList kn_cX12_start = true := by decide +kernel
theorem zn_cX12_start : cX12_start.data.toList.length = 22 := by decide +kernel
theorem dX12_start_0 : decode cX12_start 0 = .ok (.aload_n 0, 1) := zo_42 (zkb zk_cX12_start zn_cX12_start rfl)
theorem dX12_start_1 : decode cX12_start 1 = .ok (.iconst 0, 1) := zo_3 (zkb zk_cX12_start zn_cX12_start rfl)
theorem dX12_start_2 : decode cX12_start 2 = .ok (.putfield 105, 3) := zo_181 (b1 := 0) (b2 := 105) (zkb3 zk_cX12_start zn_cX12_start rfl) rfl
theorem dX12_start_5 : decode cX12_start 5 = .ok (.aload_n 0, 1) := zo_42 (zkb zk_cX12_start zn_cX12_start rfl)
theorem dX12_start_6 : decode cX12_start 6 = .ok (.getfield 22, 3) := zo_180 (b1 := 0) (b2 := 22) (zkb3 zk_cX12_start zn_cX12_start rfl) rfl
theorem dX12_start_9 : decode cX12_start 9 = .ok (.bipush 44, 2) := zo_16 (b1 := 44) (zkb2 zk_cX12_start zn_cX12_start rfl) rfl
theorem dX12_start_11 : decode cX12_start 11 = .ok (.iload_n 1, 1) := zo_27 (zkb zk_cX12_start zn_cX12_start rfl)
theorem dX12_start_12 : decode cX12_start 12 = .ok (.ifCond .eq 7, 3) := zo_153 (b1 := 0) (b2 := 7) (zkb3 zk_cX12_start zn_cX12_start rfl) rfl
theorem dX12_start_15 : decode cX12_start 15 = .ok (.iconst 1, 1) := zo_4 (zkb zk_cX12_start zn_cX12_start rfl)
theorem dX12_start_16 : decode cX12_start 16 = .ok (.goto 4, 3) := zo_167 (b1 := 0) (b2 := 4) (zkb3 zk_cX12_start zn_cX12_start rfl) rfl
theorem dX12_start_19 : decode cX12_start 19 = .ok (.iconst 0, 1) := zo_3 (zkb zk_cX12_start zn_cX12_start rfl)
theorem dX12_start_20 : decode cX12_start 20 = .ok (.iastore, 1) := zo_79 (zkb zk_cX12_start zn_cX12_start rfl)
theorem dX12_start_21 : decode cX12_start 21 = .ok (.return_, 1) := zo_177 (zkb zk_cX12_start zn_cX12_start rfl)
noncomputable def kn_cX12_line : Nat := 0xb14f5301b62a23101600b42a0e00a0044c01b61b2a17009a1d4f030400a7040700991c601b2d101600b42a3e4c01b61b2ab10400997200b604030400a70407009a6e00b80a09851b2a
theorem zk_cX12_line : zkd cX12_line.data.toList kn_cX12_line = true := by decide +kernel
theorem zn_cX12_line : cX12_line.data.toList.length = 73 := by decide +kernel
theorem dX12_line_0 : decode cX12_line 0 = .ok (.aload_n 0, 1) := zo_42 (zkb zk_cX12_line zn_cX12_line rfl)
theorem dX12_line_1 : decode cX12_line 1 = .ok (.iload_n 1, 1) := zo_27 (zkb zk_cX12_line zn_cX12_line rfl)
theorem dX12_line_2 : decode cX12_line 2 = .ok (.i2l, 1) := zo_133 (zkb zk_cX12_line zn_cX12_line rfl)
theorem dX12_line_3 : decode cX12_line 3 = .ok (.lconst 0, 1) := zo_9 (zkb zk_cX12_line zn_cX12_line rfl)
theorem dX12_line_4 : decode cX12_line 4 = .ok (.lconst 1, 1) := zo_10 (zkb zk_cX12_line zn_cX12_line rfl)
theorem dX12_line_5 : decode cX12_line 5 = .ok (.invokestatic 110, 3) := zo_184 (b1 := 0) (b2 := 110) (zkb3 zk_cX12_line zn_cX12_line rfl) rfl
theorem dX12_line_8 : decode cX12_line 8 = .ok (.ifCond .ne 7, 3) := zo_154 (b1 := 0) (b2 := 7) (zkb3 zk_cX12_line zn_cX12_line rfl) rfl
theorem dX12_line_11 : decode cX12_line 11 = .ok (.iconst 1, 1) := zo_4 (zkb zk_cX12_line zn_cX12_line rfl)
theorem dX12_line_12 : decode cX12_line 12 = .ok (.goto 4, 3) := zo_167 (b1 := 0) (b2 := 4) (zkb3 zk_cX12_line zn_cX12_line rfl) rfl
theorem dX12_line_15 : decode cX12_line 15 = .ok (.iconst 0, 1) := zo_3 (zkb zk_cX12_line zn_cX12_line rfl)
theorem dX12_line_16 : decode cX12_line 16 = .ok (.iconst 1, 1) := zo_4 (zkb zk_cX12_line zn_cX12_line rfl)
theorem dX12_line_17 : decode cX12_line 17 = .ok (.invokevirtual 114, 3) := zo_182 (b1 := 0) (b2 := 114) (zkb3 zk_cX12_line zn_cX12_line rfl) rfl
theorem dX12_line_20 : decode cX12_line 20 = .ok (.ifCond .eq 4, 3) := zo_153 (b1 := 0) (b2 := 4) (zkb3 zk_cX12_line zn_cX12_line rfl) rfl
theorem dX12_line_23 : decode cX12_line 23 = .ok (.return_, 1) := zo_177 (zkb zk_cX12_line zn_cX12_line rfl)
theorem dX12_line_24 : decode cX12_line 24 = .ok (.aload_n 0, 1) := zo_42 (zkb zk_cX12_line zn_cX12_line rfl)
theorem dX12_line_25 : decode cX12_line 25 = .ok (.iload_n 1, 1) := zo_27 (zkb zk_cX12_line zn_cX12_line rfl)
theorem dX12_line_26 : decode cX12_line 26 = .ok (.invokevirtual 332, 3) := zo_182 (b1 := 1) (b2 := 76) (zkb3 zk_cX12_line zn_cX12_line rfl) rfl
theorem dX12_line_29 : decode cX12_line 29 = .ok (.istore_n 3, 1) := zo_62 (zkb zk_cX12_line zn_cX12_line rfl)
theorem dX12_line_30 : decode cX12_line 30 = .ok (.aload_n 0, 1) := zo_42 (zkb zk_cX12_line zn_cX12_line rfl)
theorem dX12_line_31 : decode cX12_line 31 = .ok (.getfield 22, 3) := zo_180 (b1 := 0) (b2 := 22) (zkb3 zk_cX12_line zn_cX12_line rfl) rfl
theorem dX12_line_34 : decode cX12_line 34 = .ok (.bipush 45, 2) := zo_16 (b1 := 45) (zkb2 zk_cX12_line zn_cX12_line rfl) rfl
theorem dX12_line_36 : decode cX12_line 36 = .ok (.iload_n 1, 1) := zo_27 (zkb zk_cX12_line zn_cX12_line rfl)
theorem dX12_line_37 : decode cX12_line 37 = .ok (.iadd, 1) := zo_96 (zkb zk_cX12_line zn_cX12_line rfl)
theorem dX12_line_38 : decode cX12_line 38 = .ok (.iload_n 2, 1) := zo_28 (zkb zk_cX12_line zn_cX12_line rfl)
theorem dX12_line_39 : decode cX12_line 39 = .ok (.ifCond .eq 7, 3) := zo_153 (b1 := 0) (b2 := 7) (zkb3 zk_cX12_line zn_cX12_line rfl) rfl
theorem dX12_line_42 : decode cX12_line 42 = .ok (.iconst 1, 1) := zo_4 (zkb zk_cX12_line zn_cX12_line rfl)
theorem dX12_line_43 : decode cX12_line 43 = .ok (.goto 4, 3) := zo_167 (b1 := 0) (b2 := 4) (zkb3 zk_cX12_line zn_cX12_line rfl) rfl
theorem dX12_line_46 : decode cX12_line 46 = .ok (.iconst 0, 1) := zo_3 (zkb zk_cX12_line zn_cX12_line rfl)
theorem dX12_line_47 : decode cX12_line 47 = .ok (.iastore, 1) := zo_79 (zkb zk_cX12_line zn_cX12_line rfl)
theorem dX12_line_48 : decode cX12_line 48 = .ok (.iload_n 3, 1) := zo_29 (zkb zk_cX12_line zn_cX12_line rfl)
theorem dX12_line_49 : decode cX12_line 49 = .ok (.ifCond .ne 23, 3) := zo_154 (b1 := 0) (b2 := 23) (zkb3 zk_cX12_line zn_cX12_line rfl) rfl
theorem dX12_line_52 : decode cX12_line 52 = .ok (.aload_n 0, 1) := zo_42 (zkb zk_cX12_line zn_cX12_line rfl)
theorem dX12_line_53 : decode cX12_line 53 = .ok (.iload_n 1, 1) := zo_27 (zkb zk_cX12_line zn_cX12_line rfl)
theorem dX12_line_54 : decode cX12_line 54 = .ok (.invokevirtual 332, 3) := zo_182 (b1 := 1) (b2 := 76) (zkb3 zk_cX12_line zn_cX12_line rfl) rfl
theorem dX12_line_57 : decode cX12_line 57 = .ok (.iconst 1, 1) := zo_4 (zkb zk_cX12_line zn_cX12_line rfl)
theorem dX12_line_58 : decode cX12_line 58 = .ok (.if_icmp .ne 14, 3) := zo_160 (b1 := 0) (b2 := 14) (zkb3 zk_cX12_line zn_cX12_line rfl) rfl
theorem dX12_line_61 : decode cX12_line 61 = .ok (.aload_n 0, 1) := zo_42 (zkb zk_cX12_line zn_cX12_line rfl)
theorem dX12_line_62 : decode cX12_line 62 = .ok (.getfield 22, 3) := zo_180 (b1 := 0) (b2 := 22) (zkb3 zk_cX12_line zn_cX12_line rfl) rfl
theorem dX12_line_65 : decode cX12_line 65 = .ok (.bipush 35, 2) := zo_16 (b1 := 35) (zkb2 zk_cX12_line zn_cX12_line rfl) rfl
theorem dX12_line_67 : decode cX12_line 67 = .ok (.aload_n 0, 1) := zo_42 (zkb zk_cX12_line zn_cX12_line rfl)
theorem dX12_line_68 : decode cX12_line 68 = .ok (.invokevirtual 339, 3) := zo_182 (b1 := 1) (b2 := 83) (zkb3 zk_cX12_line zn_cX12_line rfl) rfl
theorem dX12_line_71 : decode cX12_line 71 = .ok (.iastore, 1) := zo_79 (zkb zk_cX12_line zn_cX12_line rfl)
theorem dX12_line_72 : decode cX12_line 72 = .ok (.return_, 1) := zo_177 (zkb zk_cX12_line zn_cX12_line rfl)
noncomputable def kn_cX12_stop : Nat := 0xac2e59101600b42a4f64042e5c59101600b42a4f2e602e59101600b42a59101600b42a60041559101600b42aefffa701048409009f1b2e60041559101600b42a0436043e00991d42009a1c4f1b602e59101600b42a59101600b42a4f60042e5c59101600b42a1e009a1d2200991cac030500997200b605030400a7040700a008102e59101600b42a13009a1d1700991c2a24009a7200b604030400a70407009a6e00b8be011409851b2a3e8301b61b2a
theorem zk_cX12_stop : zkd cX12_stop.data.toList kn_cX12_stop = true := by decide +kernel
theorem zn_cX12_stop : cX12_stop.data.toList.length = 176 := by decide +kernel
theorem dX12_stop_0 : decode cX12_stop 0 = .ok (.aload_n 0, 1) := zo_42 (zkb zk_cX12_stop zn_cX12_stop rfl)
theorem dX12_stop_1 : decode cX12_stop 1 = .ok (.iload_n 1, 1) := zo_27 (zkb zk_cX12_stop zn_cX12_stop rfl)
theorem dX12_stop_2 : decode cX12_stop 2 = .ok (.invokevirtual 387, 3) := zo_182 (b1 := 1) (b2 := 131) (zkb3 zk_cX12_stop zn_cX12_stop rfl) rfl
theorem dX12_stop_5 : decode cX12_stop 5 = .ok (.istore_n 3, 1) := zo_62 (zkb zk_cX12_stop zn_cX12_stop rfl)
theorem dX12_stop_6 : decode cX12_stop 6 = .ok (.aload_n 0, 1) := zo_42 (zkb zk_cX12_stop zn_cX12_stop rfl)
theorem dX12_stop_7 : decode cX12_stop 7 = .ok (.iload_n 1, 1) := zo_27 (zkb zk_cX12_stop zn_cX12_stop rfl)
theorem dX12_stop_8 : decode cX12_stop 8 = .ok (.i2l, 1) := zo_133 (zkb zk_cX12_stop zn_cX12_stop rfl)
theorem dX12_stop_9 : decode cX12_stop 9 = .ok (.lconst 0, 1) := zo_9 (zkb zk_cX12_stop zn_cX12_stop rfl)
theorem dX12_stop_10 : decode cX12_stop 10 = .ok (.ldc2_w 446, 3) := by decide +kernel
theorem dX12_stop_13 : decode cX12_stop 13 = .ok (.invokestatic 110, 3) := zo_184 (b1 := 0) (b2 := 110) (zkb3 zk_cX12_stop zn_cX12_stop rfl) rfl
theorem dX12_stop_16 : decode cX12_stop 16 = .ok (.ifCond .ne 7, 3) := zo_154 (b1 := 0) (b2 := 7) (zkb3 zk_cX12_stop zn_cX12_stop rfl) rfl
theorem dX12_stop_19 : decode cX12_stop 19 = .ok (.iconst 1, 1) := zo_4 (zkb zk_cX12_stop zn_cX12_stop rfl)
theorem dX12_stop_20 : decode cX12_stop 20 = .ok (.goto 4, 3) := zo_167 (b1 := 0) (b2 := 4) (zkb3 zk_cX12_stop zn_cX12_stop rfl) rfl
theorem dX12_stop_23 : decode cX12_stop 23 = .ok (.iconst 0, 1) := zo_3 (zkb zk_cX12_stop zn_cX12_stop rfl)
theorem dX12_stop_24 : decode cX12_stop 24 = .ok (.iconst 1, 1) := zo_4 (zkb zk_cX12_stop zn_cX12_stop rfl)
theorem dX12_stop_25 : decode cX12_stop 25 = .ok (.invokevirtual 114, 3) := zo_182 (b1 := 0) (b2 := 114) (zkb3 zk_cX12_stop zn_cX12_stop rfl) rfl
theorem dX12_stop_28 : decode cX12_stop 28 = .ok (.ifCond .ne 36, 3) := zo_154 (b1 := 0) (b2 := 36) (zkb3 zk_cX12_stop zn_cX12_stop rfl) rfl
theorem dX12_stop_31 : decode cX12_stop 31 = .ok (.aload_n 0, 1) := zo_42 (zkb zk_cX12_stop zn_cX12_stop rfl)
theorem dX12_stop_32 : decode cX12_stop 32 = .ok (.iload_n 2, 1) := zo_28 (zkb zk_cX12_stop zn_cX12_stop rfl)
theorem dX12_stop_33 : decode cX12_stop 33 = .ok (.ifCond .eq 23, 3) := zo_153 (b1 := 0) (b2 := 23) (zkb3 zk_cX12_stop zn_cX12_stop rfl) rfl
theorem dX12_stop_36 : decode cX12_stop 36 = .ok (.iload_n 3, 1) := zo_29 (zkb zk_cX12_stop zn_cX12_stop rfl)
theorem dX12_stop_37 : decode cX12_stop 37 = .ok (.ifCond .ne 19, 3) := zo_154 (b1 := 0) (b2 := 19) (zkb3 zk_cX12_stop zn_cX12_stop rfl) rfl
theorem dX12_stop_40 : decode cX12_stop 40 = .ok (.aload_n 0, 1) := zo_42 (zkb zk_cX12_stop zn_cX12_stop rfl)
theorem dX12_stop_41 : decode cX12_stop 41 = .ok (.getfield 22, 3) := zo_180 (b1 := 0) (b2 := 22) (zkb3 zk_cX12_stop zn_cX12_stop rfl) rfl
theorem dX12_stop_44 : decode cX12_stop 44 = .ok (.bipush 89, 2) := zo_16 (b1 := 89) (zkb2 zk_cX12_stop zn_cX12_stop rfl) rfl
theorem dX12_stop_46 : decode cX12_stop 46 = .ok (.iaload, 1) := zo_46 (zkb zk_cX12_stop zn_cX12_stop rfl)
theorem dX12_stop_47 : decode cX12_stop 47 = .ok (.bipush 8, 2) := zo_16 (b1 := 8) (zkb2 zk_cX12_stop zn_cX12_stop rfl) rfl
theorem dX12_stop_49 : decode cX12_stop 49 = .ok (.if_icmp .ne 7, 3) := zo_160 (b1 := 0) (b2 := 7) (zkb3 zk_cX12_stop zn_cX12_stop rfl) rfl
theorem dX12_stop_52 : decode cX12_stop 52 = .ok (.iconst 1, 1) := zo_4 (zkb zk_cX12_stop zn_cX12_stop rfl)
theorem dX12_stop_53 : decode cX12_stop 53 = .ok (.goto 4, 3) := zo_167 (b1 := 0) (b2 := 4) (zkb3 zk_cX12_stop zn_cX12_stop rfl) rfl
theorem dX12_stop_56 : decode cX12_stop 56 = .ok (.iconst 0, 1) := zo_3 (zkb zk_cX12_stop zn_cX12_stop rfl)
theorem dX12_stop_57 : decode cX12_stop 57 = .ok (.iconst 2, 1) := zo_5 (zkb zk_cX12_stop zn_cX12_stop rfl)
theorem dX12_stop_58 : decode cX12_stop 58 = .ok (.invokevirtual 114, 3) := zo_182 (b1 := 0) (b2 := 114) (zkb3 zk_cX12_stop zn_cX12_stop rfl) rfl
theorem dX12_stop_61 : decode cX12_stop 61 = .ok (.ifCond .eq 5, 3) := zo_153 (b1 := 0) (b2 := 5) (zkb3 zk_cX12_stop zn_cX12_stop rfl) rfl
theorem dX12_stop_64 : decode cX12_stop 64 = .ok (.iconst 0, 1) := zo_3 (zkb zk_cX12_stop zn_cX12_stop rfl)
theorem dX12_stop_65 : decode cX12_stop 65 = .ok (.ireturn, 1) := zo_172 (zkb zk_cX12_stop zn_cX12_stop rfl)
theorem dX12_stop_66 : decode cX12_stop 66 = .ok (.iload_n 2, 1) := zo_28 (zkb zk_cX12_stop zn_cX12_stop rfl)
theorem dX12_stop_67 : decode cX12_stop 67 = .ok (.ifCond .eq 34, 3) := zo_153 (b1 := 0) (b2 := 34) (zkb3 zk_cX12_stop zn_cX12_stop rfl) rfl
theorem dX12_stop_70 : decode cX12_stop 70 = .ok (.iload_n 3, 1) := zo_29 (zkb zk_cX12_stop zn_cX12_stop rfl)
theorem dX12_stop_71 : decode cX12_stop 71 = .ok (.ifCond .ne 30, 3) := zo_154 (b1 := 0) (b2 := 30) (zkb3 zk_cX12_stop zn_cX12_stop rfl) rfl
theorem dX12_stop_74 : decode cX12_stop 74 = .ok (.aload_n 0, 1) := zo_42 (zkb zk_cX12_stop zn_cX12_stop rfl)
theorem dX12_stop_75 : decode cX12_stop 75 = .ok (.getfield 22, 3) := zo_180 (b1 := 0) (b2 := 22) (zkb3 zk_cX12_stop zn_cX12_stop rfl) rfl
theorem dX12_stop_78 : decode cX12_stop 78 = .ok (.bipush 89, 2) := zo_16 (b1 := 89) (zkb2 zk_cX12_stop zn_cX12_stop rfl) rfl
theorem dX12_stop_80 : decode cX12_stop 80 = .ok (.dup2, 1) := zo_92 (zkb zk_cX12_stop zn_cX12_stop rfl)
theorem dX12_stop_81 : decode cX12_stop 81 = .ok (.iaload, 1) := zo_46 (zkb zk_cX12_stop zn_cX12_stop rfl)
theorem dX12_stop_82 : decode cX12_stop 82 = .ok (.iconst 1, 1) := zo_4 (zkb zk_cX12_stop zn_cX12_stop rfl)
theorem dX12_stop_83 : decode cX12_stop 83 = .ok (.iadd, 1) := zo_96 (zkb zk_cX12_stop zn_cX12_stop rfl)
theorem dX12_stop_84 : decode cX12_stop 84 = .ok (.iastore, 1) := zo_79 (zkb zk_cX12_stop zn_cX12_stop rfl)
theorem dX12_stop_85 : decode cX12_stop 85 = .ok (.aload_n 0, 1) := zo_42 (zkb zk_cX12_stop zn_cX12_stop rfl)
theorem dX12_stop_86 : decode cX12_stop 86 = .ok (.getfield 22, 3) := zo_180 (b1 := 0) (b2 := 22) (zkb3 zk_cX12_stop zn_cX12_stop rfl) rfl
theorem dX12_stop_89 : decode cX12_stop 89 = .ok (.bipush 89, 2) := zo_16 (b1 := 89) (zkb2 zk_cX12_stop zn_cX12_stop rfl) rfl
theorem dX12_stop_91 : decode cX12_stop 91 = .ok (.aload_n 0, 1) := zo_42 (zkb zk_cX12_stop zn_cX12_stop rfl)
theorem dX12_stop_92 : decode cX12_stop 92 = .ok (.getfield 22, 3) := zo_180 (b1 := 0) (b2 := 22) (zkb3 zk_cX12_stop zn_cX12_stop rfl) rfl
theorem dX12_stop_95 : decode cX12_stop 95 = .ok (.bipush 89, 2) := zo_16 (b1 := 89) (zkb2 zk_cX12_stop zn_cX12_stop rfl) rfl
theorem dX12_stop_97 : decode cX12_stop 97 = .ok (.iaload, 1) := zo_46 (zkb zk_cX12_stop zn_cX12_stop rfl)
theorem dX12_stop_98 : decode cX12_stop 98 = .ok (.iadd, 1) := zo_96 (zkb zk_cX12_stop zn_cX12_stop rfl)
theorem dX12_stop_99 : decode cX12_stop 99 = .ok (.iload_n 1, 1) := zo_27 (zkb zk_cX12_stop zn_cX12_stop rfl)
theorem dX12_stop_100 : decode cX12_stop 100 = .ok (.iastore, 1) := zo_79 (zkb zk_cX12_stop zn_cX12_stop rfl)
theorem dX12_stop_101 : decode cX12_stop 101 = .ok (.iload_n 2, 1) := zo_28 (zkb zk_cX12_stop zn_cX12_stop rfl)
theorem dX12_stop_102 : decode cX12_stop 102 = .ok (.ifCond .ne 66, 3) := zo_154 (b1 := 0) (b2 := 66) (zkb3 zk_cX12_stop zn_cX12_stop rfl) rfl
theorem dX12_stop_105 : decode cX12_stop 105 = .ok (.iload_n 3, 1) := zo_29 (zkb zk_cX12_stop zn_cX12_stop rfl)
theorem dX12_stop_106 : decode cX12_stop 106 = .ok (.ifCond .eq 62, 3) := zo_153 (b1 := 0) (b2 := 62) (zkb3 zk_cX12_stop zn_cX12_stop rfl) rfl
theorem dX12_stop_109 : decode cX12_stop 109 = .ok (.iconst 1, 1) := zo_4 (zkb zk_cX12_stop zn_cX12_stop rfl)
theorem dX12_stop_110 : decode cX12_stop 110 = .ok (.istore 4, 2) := zo_54 (b1 := 4) (zkb2 zk_cX12_stop zn_cX12_stop rfl)
theorem dX12_stop_112 : decode cX12_stop 112 = .ok (.aload_n 0, 1) := zo_42 (zkb zk_cX12_stop zn_cX12_stop rfl)
theorem dX12_stop_113 : decode cX12_stop 113 = .ok (.getfield 22, 3) := zo_180 (b1 := 0) (b2 := 22) (zkb3 zk_cX12_stop zn_cX12_stop rfl) rfl
theorem dX12_stop_116 : decode cX12_stop 116 = .ok (.bipush 89, 2) := zo_16 (b1 := 89) (zkb2 zk_cX12_stop zn_cX12_stop rfl) rfl
theorem dX12_stop_118 : decode cX12_stop 118 = .ok (.iload 4, 2) := zo_21 (b1 := 4) (zkb2 zk_cX12_stop zn_cX12_stop rfl)
theorem dX12_stop_120 : decode cX12_stop 120 = .ok (.iadd, 1) := zo_96 (zkb zk_cX12_stop zn_cX12_stop rfl)
theorem dX12_stop_121 : decode cX12_stop 121 = .ok (.iaload, 1) := zo_46 (zkb zk_cX12_stop zn_cX12_stop rfl)
theorem dX12_stop_122 : decode cX12_stop 122 = .ok (.iload_n 1, 1) := zo_27 (zkb zk_cX12_stop zn_cX12_stop rfl)
theorem dX12_stop_123 : decode cX12_stop 123 = .ok (.if_icmp .eq 9, 3) := zo_159 (b1 := 0) (b2 := 9) (zkb3 zk_cX12_stop zn_cX12_stop rfl) rfl
theorem dX12_stop_126 : decode cX12_stop 126 = .ok (.iinc 4 1, 3) := zo_132 (b1 := 4) (b2 := 1) (zkb3 zk_cX12_stop zn_cX12_stop rfl) rfl
theorem dX12_stop_129 : decode cX12_stop 129 = .ok (.goto (-17), 3) := zo_167 (b1 := 255) (b2 := 239) (zkb3 zk_cX12_stop zn_cX12_stop rfl) rfl
theorem dX12_stop_132 : decode cX12_stop 132 = .ok (.aload_n 0, 1) := zo_42 (zkb zk_cX12_stop zn_cX12_stop rfl)
theorem dX12_stop_133 : decode cX12_stop 133 = .ok (.getfield 22, 3) := zo_180 (b1 := 0) (b2 := 22) (zkb3 zk_cX12_stop zn_cX12_stop rfl) rfl
theorem dX12_stop_136 : decode cX12_stop 136 = .ok (.bipush 89, 2) := zo_16 (b1 := 89) (zkb2 zk_cX12_stop zn_cX12_stop rfl) rfl
theorem dX12_stop_138 : decode cX12_stop 138 = .ok (.iload 4, 2) := zo_21 (b1 := 4) (zkb2 zk_cX12_stop zn_cX12_stop rfl)
theorem dX12_stop_140 : decode cX12_stop 140 = .ok (.iadd, 1) := zo_96 (zkb zk_cX12_stop zn_cX12_stop rfl)
theorem dX12_stop_141 : decode cX12_stop 141 = .ok (.aload_n 0, 1) := zo_42 (zkb zk_cX12_stop zn_cX12_stop rfl)
theorem dX12_stop_142 : decode cX12_stop 142 = .ok (.getfield 22, 3) := zo_180 (b1 := 0) (b2 := 22) (zkb3 zk_cX12_stop zn_cX12_stop rfl) rfl
theorem dX12_stop_145 : decode cX12_stop 145 = .ok (.bipush 89, 2) := zo_16 (b1 := 89) (zkb2 zk_cX12_stop zn_cX12_stop rfl) rfl
theorem dX12_stop_147 : decode cX12_stop 147 = .ok (.aload_n 0, 1) := zo_42 (zkb zk_cX12_stop zn_cX12_stop rfl)
theorem dX12_stop_148 : decode cX12_stop 148 = .ok (.getfield 22, 3) := zo_180 (b1 := 0) (b2 := 22) (zkb3 zk_cX12_stop zn_cX12_stop rfl) rfl
theorem dX12_stop_151 : decode cX12_stop 151 = .ok (.bipush 89, 2) := zo_16 (b1 := 89) (zkb2 zk_cX12_stop zn_cX12_stop rfl) rfl
theorem dX12_stop_153 : decode cX12_stop 153 = .ok (.iaload, 1) := zo_46 (zkb zk_cX12_stop zn_cX12_stop rfl)
theorem dX12_stop_154 : decode cX12_stop 154 = .ok (.iadd, 1) := zo_96 (zkb zk_cX12_stop zn_cX12_stop rfl)
theorem dX12_stop_155 : decode cX12_stop 155 = .ok (.iaload, 1) := zo_46 (zkb zk_cX12_stop zn_cX12_stop rfl)
theorem dX12_stop_156 : decode cX12_stop 156 = .ok (.iastore, 1) := zo_79 (zkb zk_cX12_stop zn_cX12_stop rfl)
theorem dX12_stop_157 : decode cX12_stop 157 = .ok (.aload_n 0, 1) := zo_42 (zkb zk_cX12_stop zn_cX12_stop rfl)
theorem dX12_stop_158 : decode cX12_stop 158 = .ok (.getfield 22, 3) := zo_180 (b1 := 0) (b2 := 22) (zkb3 zk_cX12_stop zn_cX12_stop rfl) rfl
theorem dX12_stop_161 : decode cX12_stop 161 = .ok (.bipush 89, 2) := zo_16 (b1 := 89) (zkb2 zk_cX12_stop zn_cX12_stop rfl) rfl
theorem dX12_stop_163 : decode cX12_stop 163 = .ok (.dup2, 1) := zo_92 (zkb zk_cX12_stop zn_cX12_stop rfl)
theorem dX12_stop_164 : decode cX12_stop 164 = .ok (.iaload, 1) := zo_46 (zkb zk_cX12_stop zn_cX12_stop rfl)
theorem dX12_stop_165 : decode cX12_stop 165 = .ok (.iconst 1, 1) := zo_4 (zkb zk_cX12_stop zn_cX12_stop rfl)
theorem dX12_stop_166 : decode cX12_stop 166 = .ok (.isub, 1) := zo_100 (zkb zk_cX12_stop zn_cX12_stop rfl)
theorem dX12_stop_167 : decode cX12_stop 167 = .ok (.iastore, 1) := zo_79 (zkb zk_cX12_stop zn_cX12_stop rfl)
theorem dX12_stop_168 : decode cX12_stop 168 = .ok (.aload_n 0, 1) := zo_42 (zkb zk_cX12_stop zn_cX12_stop rfl)
theorem dX12_stop_169 : decode cX12_stop 169 = .ok (.getfield 22, 3) := zo_180 (b1 := 0) (b2 := 22) (zkb3 zk_cX12_stop zn_cX12_stop rfl) rfl
theorem dX12_stop_172 : decode cX12_stop 172 = .ok (.bipush 89, 2) := zo_16 (b1 := 89) (zkb2 zk_cX12_stop zn_cX12_stop rfl) rfl
theorem dX12_stop_174 : decode cX12_stop 174 = .ok (.iaload, 1) := zo_46 (zkb zk_cX12_stop zn_cX12_stop rfl)
theorem dX12_stop_175 : decode cX12_stop 175 = .ok (.ireturn, 1) := zo_172 (zkb zk_cX12_stop zn_cX12_stop rfl)
noncomputable def kn_cX12_save : Nat := 0xb1deffa7010184502f1b3200b42a1b4d00b42a502f1b2f00b42a1b4a00b42a2100a20010111b3c03ebffa70101844f2e1b2c00b42a1b4700b42a1500a22b121b3c03ebffa701018454331b2800b42a1b4400b42a1500a240101b3c03eaffa701018454331b2500b42a1b4100b42a1500a20040111b3c03ebffa701018454331b2200b42a1b3e00b42a1500a221121b3c03eaffa701018454331b1e00b42a1b3b00b42a1500a20020111b3c03ecffa7010184502f1b1a00b42a1b3800b42a1500a2081b3c03eaffa70101844f2e1b1600b42a1b3500b42a1500a21804111b3c039000b5042a6900b5032a
theorem zk_cX12_save : zkd cX12_save.data.toList kn_cX12_save = true := by decide +kernel
theorem zn_cX12_save : cX12_save.data.toList.length = 234 := by decide +kernel
theorem dX12_save_0 : decode cX12_save 0 = .ok (.aload_n 0, 1) := zo_42 (zkb zk_cX12_save zn_cX12_save rfl)
theorem dX12_save_1 : decode cX12_save 1 = .ok (.iconst 0, 1) := zo_3 (zkb zk_cX12_save zn_cX12_save rfl)
theorem dX12_save_2 : decode cX12_save 2 = .ok (.putfield 105, 3) := zo_181 (b1 := 0) (b2 := 105) (zkb3 zk_cX12_save zn_cX12_save rfl) rfl
theorem dX12_save_5 : decode cX12_save 5 = .ok (.aload_n 0, 1) := zo_42 (zkb zk_cX12_save zn_cX12_save rfl)
theorem dX12_save_6 : decode cX12_save 6 = .ok (.iconst 1, 1) := zo_4 (zkb zk_cX12_save zn_cX12_save rfl)
theorem dX12_save_7 : decode cX12_save 7 = .ok (.putfield 144, 3) := zo_181 (b1 := 0) (b2 := 144) (zkb3 zk_cX12_save zn_cX12_save rfl) rfl
theorem dX12_save_10 : decode cX12_save 10 = .ok (.iconst 0, 1) := zo_3 (zkb zk_cX12_save zn_cX12_save rfl)
theorem dX12_save_11 : decode cX12_save 11 = .ok (.istore_n 1, 1) := zo_60 (zkb zk_cX12_save zn_cX12_save rfl)
theorem dX12_save_12 : decode cX12_save 12 = .ok (.iload_n 1, 1) := zo_27 (zkb zk_cX12_save zn_cX12_save rfl)
theorem dX12_save_13 : decode cX12_save 13 = .ok (.sipush 1048, 3) := zo_17 (b1 := 4) (b2 := 24) (zkb3 zk_cX12_save zn_cX12_save rfl) rfl
theorem dX12_save_16 : decode cX12_save 16 = .ok (.if_icmp .ge 21, 3) := zo_162 (b1 := 0) (b2 := 21) (zkb3 zk_cX12_save zn_cX12_save rfl) rfl
theorem dX12_save_19 : decode cX12_save 19 = .ok (.aload_n 0, 1) := zo_42 (zkb zk_cX12_save zn_cX12_save rfl)
theorem dX12_save_20 : decode cX12_save 20 = .ok (.getfield 53, 3) := zo_180 (b1 := 0) (b2 := 53) (zkb3 zk_cX12_save zn_cX12_save rfl) rfl
theorem dX12_save_23 : decode cX12_save 23 = .ok (.iload_n 1, 1) := zo_27 (zkb zk_cX12_save zn_cX12_save rfl)
theorem dX12_save_24 : decode cX12_save 24 = .ok (.aload_n 0, 1) := zo_42 (zkb zk_cX12_save zn_cX12_save rfl)
theorem dX12_save_25 : decode cX12_save 25 = .ok (.getfield 22, 3) := zo_180 (b1 := 0) (b2 := 22) (zkb3 zk_cX12_save zn_cX12_save rfl) rfl
theorem dX12_save_28 : decode cX12_save 28 = .ok (.iload_n 1, 1) := zo_27 (zkb zk_cX12_save zn_cX12_save rfl)
theorem dX12_save_29 : decode cX12_save 29 = .ok (.iaload, 1) := zo_46 (zkb zk_cX12_save zn_cX12_save rfl)
theorem dX12_save_30 : decode cX12_save 30 = .ok (.iastore, 1) := zo_79 (zkb zk_cX12_save zn_cX12_save rfl)
theorem dX12_save_31 : decode cX12_save 31 = .ok (.iinc 1 1, 3) := zo_132 (b1 := 1) (b2 := 1) (zkb3 zk_cX12_save zn_cX12_save rfl) rfl
theorem dX12_save_34 : decode cX12_save 34 = .ok (.goto (-22), 3) := zo_167 (b1 := 255) (b2 := 234) (zkb3 zk_cX12_save zn_cX12_save rfl) rfl
theorem dX12_save_37 : decode cX12_save 37 = .ok (.iconst 0, 1) := zo_3 (zkb zk_cX12_save zn_cX12_save rfl)
theorem dX12_save_38 : decode cX12_save 38 = .ok (.istore_n 1, 1) := zo_60 (zkb zk_cX12_save zn_cX12_save rfl)
theorem dX12_save_39 : decode cX12_save 39 = .ok (.iload_n 1, 1) := zo_27 (zkb zk_cX12_save zn_cX12_save rfl)
theorem dX12_save_40 : decode cX12_save 40 = .ok (.iconst 5, 1) := zo_8 (zkb zk_cX12_save zn_cX12_save rfl)
theorem dX12_save_41 : decode cX12_save 41 = .ok (.if_icmp .ge 21, 3) := zo_162 (b1 := 0) (b2 := 21) (zkb3 zk_cX12_save zn_cX12_save rfl) rfl
theorem dX12_save_44 : decode cX12_save 44 = .ok (.aload_n 0, 1) := zo_42 (zkb zk_cX12_save zn_cX12_save rfl)
theorem dX12_save_45 : decode cX12_save 45 = .ok (.getfield 56, 3) := zo_180 (b1 := 0) (b2 := 56) (zkb3 zk_cX12_save zn_cX12_save rfl) rfl
theorem dX12_save_48 : decode cX12_save 48 = .ok (.iload_n 1, 1) := zo_27 (zkb zk_cX12_save zn_cX12_save rfl)
theorem dX12_save_49 : decode cX12_save 49 = .ok (.aload_n 0, 1) := zo_42 (zkb zk_cX12_save zn_cX12_save rfl)
theorem dX12_save_50 : decode cX12_save 50 = .ok (.getfield 26, 3) := zo_180 (b1 := 0) (b2 := 26) (zkb3 zk_cX12_save zn_cX12_save rfl) rfl
theorem dX12_save_53 : decode cX12_save 53 = .ok (.iload_n 1, 1) := zo_27 (zkb zk_cX12_save zn_cX12_save rfl)
theorem dX12_save_54 : decode cX12_save 54 = .ok (.laload, 1) := zo_47 (zkb zk_cX12_save zn_cX12_save rfl)
theorem dX12_save_55 : decode cX12_save 55 = .ok (.lastore, 1) := zo_80 (zkb zk_cX12_save zn_cX12_save rfl)
theorem dX12_save_56 : decode cX12_save 56 = .ok (.iinc 1 1, 3) := zo_132 (b1 := 1) (b2 := 1) (zkb3 zk_cX12_save zn_cX12_save rfl) rfl
theorem dX12_save_59 : decode cX12_save 59 = .ok (.goto (-20), 3) := zo_167 (b1 := 255) (b2 := 236) (zkb3 zk_cX12_save zn_cX12_save rfl) rfl
theorem dX12_save_62 : decode cX12_save 62 = .ok (.iconst 0, 1) := zo_3 (zkb zk_cX12_save zn_cX12_save rfl)
theorem dX12_save_63 : decode cX12_save 63 = .ok (.istore_n 1, 1) := zo_60 (zkb zk_cX12_save zn_cX12_save rfl)
theorem dX12_save_64 : decode cX12_save 64 = .ok (.iload_n 1, 1) := zo_27 (zkb zk_cX12_save zn_cX12_save rfl)
theorem dX12_save_65 : decode cX12_save 65 = .ok (.sipush 8192, 3) := zo_17 (b1 := 32) (b2 := 0) (zkb3 zk_cX12_save zn_cX12_save rfl) rfl
theorem dX12_save_68 : decode cX12_save 68 = .ok (.if_icmp .ge 21, 3) := zo_162 (b1 := 0) (b2 := 21) (zkb3 zk_cX12_save zn_cX12_save rfl) rfl
theorem dX12_save_71 : decode cX12_save 71 = .ok (.aload_n 0, 1) := zo_42 (zkb zk_cX12_save zn_cX12_save rfl)
theorem dX12_save_72 : decode cX12_save 72 = .ok (.getfield 59, 3) := zo_180 (b1 := 0) (b2 := 59) (zkb3 zk_cX12_save zn_cX12_save rfl) rfl
theorem dX12_save_75 : decode cX12_save 75 = .ok (.iload_n 1, 1) := zo_27 (zkb zk_cX12_save zn_cX12_save rfl)
theorem dX12_save_76 : decode cX12_save 76 = .ok (.aload_n 0, 1) := zo_42 (zkb zk_cX12_save zn_cX12_save rfl)
theorem dX12_save_77 : decode cX12_save 77 = .ok (.getfield 30, 3) := zo_180 (b1 := 0) (b2 := 30) (zkb3 zk_cX12_save zn_cX12_save rfl) rfl
theorem dX12_save_80 : decode cX12_save 80 = .ok (.iload_n 1, 1) := zo_27 (zkb zk_cX12_save zn_cX12_save rfl)
theorem dX12_save_81 : decode cX12_save 81 = .ok (.baload, 1) := zo_51 (zkb zk_cX12_save zn_cX12_save rfl)
theorem dX12_save_82 : decode cX12_save 82 = .ok (.bastore, 1) := zo_84 (zkb zk_cX12_save zn_cX12_save rfl)
theorem dX12_save_83 : decode cX12_save 83 = .ok (.iinc 1 1, 3) := zo_132 (b1 := 1) (b2 := 1) (zkb3 zk_cX12_save zn_cX12_save rfl) rfl
theorem dX12_save_86 : decode cX12_save 86 = .ok (.goto (-22), 3) := zo_167 (b1 := 255) (b2 := 234) (zkb3 zk_cX12_save zn_cX12_save rfl) rfl
theorem dX12_save_89 : decode cX12_save 89 = .ok (.iconst 0, 1) := zo_3 (zkb zk_cX12_save zn_cX12_save rfl)
theorem dX12_save_90 : decode cX12_save 90 = .ok (.istore_n 1, 1) := zo_60 (zkb zk_cX12_save zn_cX12_save rfl)
theorem dX12_save_91 : decode cX12_save 91 = .ok (.iload_n 1, 1) := zo_27 (zkb zk_cX12_save zn_cX12_save rfl)
theorem dX12_save_92 : decode cX12_save 92 = .ok (.ldc 33, 2) := zo_18 (b1 := 33) (zkb2 zk_cX12_save zn_cX12_save rfl)
theorem dX12_save_94 : decode cX12_save 94 = .ok (.if_icmp .ge 21, 3) := zo_162 (b1 := 0) (b2 := 21) (zkb3 zk_cX12_save zn_cX12_save rfl) rfl
theorem dX12_save_97 : decode cX12_save 97 = .ok (.aload_n 0, 1) := zo_42 (zkb zk_cX12_save zn_cX12_save rfl)
theorem dX12_save_98 : decode cX12_save 98 = .ok (.getfield 62, 3) := zo_180 (b1 := 0) (b2 := 62) (zkb3 zk_cX12_save zn_cX12_save rfl) rfl
theorem dX12_save_101 : decode cX12_save 101 = .ok (.iload_n 1, 1) := zo_27 (zkb zk_cX12_save zn_cX12_save rfl)
theorem dX12_save_102 : decode cX12_save 102 = .ok (.aload_n 0, 1) := zo_42 (zkb zk_cX12_save zn_cX12_save rfl)
theorem dX12_save_103 : decode cX12_save 103 = .ok (.getfield 34, 3) := zo_180 (b1 := 0) (b2 := 34) (zkb3 zk_cX12_save zn_cX12_save rfl) rfl
theorem dX12_save_106 : decode cX12_save 106 = .ok (.iload_n 1, 1) := zo_27 (zkb zk_cX12_save zn_cX12_save rfl)
theorem dX12_save_107 : decode cX12_save 107 = .ok (.baload, 1) := zo_51 (zkb zk_cX12_save zn_cX12_save rfl)
theorem dX12_save_108 : decode cX12_save 108 = .ok (.bastore, 1) := zo_84 (zkb zk_cX12_save zn_cX12_save rfl)
theorem dX12_save_109 : decode cX12_save 109 = .ok (.iinc 1 1, 3) := zo_132 (b1 := 1) (b2 := 1) (zkb3 zk_cX12_save zn_cX12_save rfl) rfl
theorem dX12_save_112 : decode cX12_save 112 = .ok (.goto (-21), 3) := zo_167 (b1 := 255) (b2 := 235) (zkb3 zk_cX12_save zn_cX12_save rfl) rfl
theorem dX12_save_115 : decode cX12_save 115 = .ok (.iconst 0, 1) := zo_3 (zkb zk_cX12_save zn_cX12_save rfl)
theorem dX12_save_116 : decode cX12_save 116 = .ok (.istore_n 1, 1) := zo_60 (zkb zk_cX12_save zn_cX12_save rfl)
theorem dX12_save_117 : decode cX12_save 117 = .ok (.iload_n 1, 1) := zo_27 (zkb zk_cX12_save zn_cX12_save rfl)
theorem dX12_save_118 : decode cX12_save 118 = .ok (.sipush 16384, 3) := zo_17 (b1 := 64) (b2 := 0) (zkb3 zk_cX12_save zn_cX12_save rfl) rfl
theorem dX12_save_121 : decode cX12_save 121 = .ok (.if_icmp .ge 21, 3) := zo_162 (b1 := 0) (b2 := 21) (zkb3 zk_cX12_save zn_cX12_save rfl) rfl
theorem dX12_save_124 : decode cX12_save 124 = .ok (.aload_n 0, 1) := zo_42 (zkb zk_cX12_save zn_cX12_save rfl)
theorem dX12_save_125 : decode cX12_save 125 = .ok (.getfield 65, 3) := zo_180 (b1 := 0) (b2 := 65) (zkb3 zk_cX12_save zn_cX12_save rfl) rfl
theorem dX12_save_128 : decode cX12_save 128 = .ok (.iload_n 1, 1) := zo_27 (zkb zk_cX12_save zn_cX12_save rfl)
theorem dX12_save_129 : decode cX12_save 129 = .ok (.aload_n 0, 1) := zo_42 (zkb zk_cX12_save zn_cX12_save rfl)
theorem dX12_save_130 : decode cX12_save 130 = .ok (.getfield 37, 3) := zo_180 (b1 := 0) (b2 := 37) (zkb3 zk_cX12_save zn_cX12_save rfl) rfl
theorem dX12_save_133 : decode cX12_save 133 = .ok (.iload_n 1, 1) := zo_27 (zkb zk_cX12_save zn_cX12_save rfl)
theorem dX12_save_134 : decode cX12_save 134 = .ok (.baload, 1) := zo_51 (zkb zk_cX12_save zn_cX12_save rfl)
theorem dX12_save_135 : decode cX12_save 135 = .ok (.bastore, 1) := zo_84 (zkb zk_cX12_save zn_cX12_save rfl)
theorem dX12_save_136 : decode cX12_save 136 = .ok (.iinc 1 1, 3) := zo_132 (b1 := 1) (b2 := 1) (zkb3 zk_cX12_save zn_cX12_save rfl) rfl
theorem dX12_save_139 : decode cX12_save 139 = .ok (.goto (-22), 3) := zo_167 (b1 := 255) (b2 := 234) (zkb3 zk_cX12_save zn_cX12_save rfl) rfl
theorem dX12_save_142 : decode cX12_save 142 = .ok (.iconst 0, 1) := zo_3 (zkb zk_cX12_save zn_cX12_save rfl)
theorem dX12_save_143 : decode cX12_save 143 = .ok (.istore_n 1, 1) := zo_60 (zkb zk_cX12_save zn_cX12_save rfl)
theorem dX12_save_144 : decode cX12_save 144 = .ok (.iload_n 1, 1) := zo_27 (zkb zk_cX12_save zn_cX12_save rfl)
theorem dX12_save_145 : decode cX12_save 145 = .ok (.bipush 64, 2) := zo_16 (b1 := 64) (zkb2 zk_cX12_save zn_cX12_save rfl) rfl
theorem dX12_save_147 : decode cX12_save 147 = .ok (.if_icmp .ge 21, 3) := zo_162 (b1 := 0) (b2 := 21) (zkb3 zk_cX12_save zn_cX12_save rfl) rfl
theorem dX12_save_150 : decode cX12_save 150 = .ok (.aload_n 0, 1) := zo_42 (zkb zk_cX12_save zn_cX12_save rfl)
theorem dX12_save_151 : decode cX12_save 151 = .ok (.getfield 68, 3) := zo_180 (b1 := 0) (b2 := 68) (zkb3 zk_cX12_save zn_cX12_save rfl) rfl
theorem dX12_save_154 : decode cX12_save 154 = .ok (.iload_n 1, 1) := zo_27 (zkb zk_cX12_save zn_cX12_save rfl)
theorem dX12_save_155 : decode cX12_save 155 = .ok (.aload_n 0, 1) := zo_42 (zkb zk_cX12_save zn_cX12_save rfl)
theorem dX12_save_156 : decode cX12_save 156 = .ok (.getfield 40, 3) := zo_180 (b1 := 0) (b2 := 40) (zkb3 zk_cX12_save zn_cX12_save rfl) rfl
theorem dX12_save_159 : decode cX12_save 159 = .ok (.iload_n 1, 1) := zo_27 (zkb zk_cX12_save zn_cX12_save rfl)
theorem dX12_save_160 : decode cX12_save 160 = .ok (.baload, 1) := zo_51 (zkb zk_cX12_save zn_cX12_save rfl)
theorem dX12_save_161 : decode cX12_save 161 = .ok (.bastore, 1) := zo_84 (zkb zk_cX12_save zn_cX12_save rfl)
theorem dX12_save_162 : decode cX12_save 162 = .ok (.iinc 1 1, 3) := zo_132 (b1 := 1) (b2 := 1) (zkb3 zk_cX12_save zn_cX12_save rfl) rfl
theorem dX12_save_165 : decode cX12_save 165 = .ok (.goto (-21), 3) := zo_167 (b1 := 255) (b2 := 235) (zkb3 zk_cX12_save zn_cX12_save rfl) rfl
theorem dX12_save_168 : decode cX12_save 168 = .ok (.iconst 0, 1) := zo_3 (zkb zk_cX12_save zn_cX12_save rfl)
theorem dX12_save_169 : decode cX12_save 169 = .ok (.istore_n 1, 1) := zo_60 (zkb zk_cX12_save zn_cX12_save rfl)
theorem dX12_save_170 : decode cX12_save 170 = .ok (.iload_n 1, 1) := zo_27 (zkb zk_cX12_save zn_cX12_save rfl)
theorem dX12_save_171 : decode cX12_save 171 = .ok (.ldc 43, 2) := zo_18 (b1 := 43) (zkb2 zk_cX12_save zn_cX12_save rfl)
theorem dX12_save_173 : decode cX12_save 173 = .ok (.if_icmp .ge 21, 3) := zo_162 (b1 := 0) (b2 := 21) (zkb3 zk_cX12_save zn_cX12_save rfl) rfl
theorem dX12_save_176 : decode cX12_save 176 = .ok (.aload_n 0, 1) := zo_42 (zkb zk_cX12_save zn_cX12_save rfl)
theorem dX12_save_177 : decode cX12_save 177 = .ok (.getfield 71, 3) := zo_180 (b1 := 0) (b2 := 71) (zkb3 zk_cX12_save zn_cX12_save rfl) rfl
theorem dX12_save_180 : decode cX12_save 180 = .ok (.iload_n 1, 1) := zo_27 (zkb zk_cX12_save zn_cX12_save rfl)
theorem dX12_save_181 : decode cX12_save 181 = .ok (.aload_n 0, 1) := zo_42 (zkb zk_cX12_save zn_cX12_save rfl)
theorem dX12_save_182 : decode cX12_save 182 = .ok (.getfield 44, 3) := zo_180 (b1 := 0) (b2 := 44) (zkb3 zk_cX12_save zn_cX12_save rfl) rfl
theorem dX12_save_185 : decode cX12_save 185 = .ok (.iload_n 1, 1) := zo_27 (zkb zk_cX12_save zn_cX12_save rfl)
theorem dX12_save_186 : decode cX12_save 186 = .ok (.iaload, 1) := zo_46 (zkb zk_cX12_save zn_cX12_save rfl)
theorem dX12_save_187 : decode cX12_save 187 = .ok (.iastore, 1) := zo_79 (zkb zk_cX12_save zn_cX12_save rfl)
theorem dX12_save_188 : decode cX12_save 188 = .ok (.iinc 1 1, 3) := zo_132 (b1 := 1) (b2 := 1) (zkb3 zk_cX12_save zn_cX12_save rfl) rfl
theorem dX12_save_191 : decode cX12_save 191 = .ok (.goto (-21), 3) := zo_167 (b1 := 255) (b2 := 235) (zkb3 zk_cX12_save zn_cX12_save rfl) rfl
theorem dX12_save_194 : decode cX12_save 194 = .ok (.iconst 0, 1) := zo_3 (zkb zk_cX12_save zn_cX12_save rfl)
theorem dX12_save_195 : decode cX12_save 195 = .ok (.istore_n 1, 1) := zo_60 (zkb zk_cX12_save zn_cX12_save rfl)
theorem dX12_save_196 : decode cX12_save 196 = .ok (.iload_n 1, 1) := zo_27 (zkb zk_cX12_save zn_cX12_save rfl)
theorem dX12_save_197 : decode cX12_save 197 = .ok (.sipush 4096, 3) := zo_17 (b1 := 16) (b2 := 0) (zkb3 zk_cX12_save zn_cX12_save rfl) rfl
theorem dX12_save_200 : decode cX12_save 200 = .ok (.if_icmp .ge 33, 3) := zo_162 (b1 := 0) (b2 := 33) (zkb3 zk_cX12_save zn_cX12_save rfl) rfl
theorem dX12_save_203 : decode cX12_save 203 = .ok (.aload_n 0, 1) := zo_42 (zkb zk_cX12_save zn_cX12_save rfl)
theorem dX12_save_204 : decode cX12_save 204 = .ok (.getfield 74, 3) := zo_180 (b1 := 0) (b2 := 74) (zkb3 zk_cX12_save zn_cX12_save rfl) rfl
theorem dX12_save_207 : decode cX12_save 207 = .ok (.iload_n 1, 1) := zo_27 (zkb zk_cX12_save zn_cX12_save rfl)
theorem dX12_save_208 : decode cX12_save 208 = .ok (.aload_n 0, 1) := zo_42 (zkb zk_cX12_save zn_cX12_save rfl)
theorem dX12_save_209 : decode cX12_save 209 = .ok (.getfield 47, 3) := zo_180 (b1 := 0) (b2 := 47) (zkb3 zk_cX12_save zn_cX12_save rfl) rfl
theorem dX12_save_212 : decode cX12_save 212 = .ok (.iload_n 1, 1) := zo_27 (zkb zk_cX12_save zn_cX12_save rfl)
theorem dX12_save_213 : decode cX12_save 213 = .ok (.laload, 1) := zo_47 (zkb zk_cX12_save zn_cX12_save rfl)
theorem dX12_save_214 : decode cX12_save 214 = .ok (.lastore, 1) := zo_80 (zkb zk_cX12_save zn_cX12_save rfl)
theorem dX12_save_215 : decode cX12_save 215 = .ok (.aload_n 0, 1) := zo_42 (zkb zk_cX12_save zn_cX12_save rfl)
theorem dX12_save_216 : decode cX12_save 216 = .ok (.getfield 77, 3) := zo_180 (b1 := 0) (b2 := 77) (zkb3 zk_cX12_save zn_cX12_save rfl) rfl
theorem dX12_save_219 : decode cX12_save 219 = .ok (.iload_n 1, 1) := zo_27 (zkb zk_cX12_save zn_cX12_save rfl)
theorem dX12_save_220 : decode cX12_save 220 = .ok (.aload_n 0, 1) := zo_42 (zkb zk_cX12_save zn_cX12_save rfl)
theorem dX12_save_221 : decode cX12_save 221 = .ok (.getfield 50, 3) := zo_180 (b1 := 0) (b2 := 50) (zkb3 zk_cX12_save zn_cX12_save rfl) rfl
theorem dX12_save_224 : decode cX12_save 224 = .ok (.iload_n 1, 1) := zo_27 (zkb zk_cX12_save zn_cX12_save rfl)
theorem dX12_save_225 : decode cX12_save 225 = .ok (.laload, 1) := zo_47 (zkb zk_cX12_save zn_cX12_save rfl)
theorem dX12_save_226 : decode cX12_save 226 = .ok (.lastore, 1) := zo_80 (zkb zk_cX12_save zn_cX12_save rfl)
theorem dX12_save_227 : decode cX12_save 227 = .ok (.iinc 1 1, 3) := zo_132 (b1 := 1) (b2 := 1) (zkb3 zk_cX12_save zn_cX12_save rfl) rfl
theorem dX12_save_230 : decode cX12_save 230 = .ok (.goto (-34), 3) := zo_167 (b1 := 255) (b2 := 222) (zkb3 zk_cX12_save zn_cX12_save rfl) rfl
theorem dX12_save_233 : decode cX12_save 233 = .ok (.return_, 1) := zo_177 (zkb zk_cX12_save zn_cX12_save rfl)
noncomputable def kn_cX12_restore : Nat := 0xb1deffa7010184502f1b4d00b42a1b3200b42a502f1b4a00b42a1b2f00b42a2100a20010111b3c03ebffa70101844f2e1b4700b42a1b2c00b42a1500a22b121b3c03ebffa701018454331b4400b42a1b2800b42a1500a240101b3c03eaffa701018454331b4100b42a1b2500b42a1500a20040111b3c03ebffa701018454331b3e00b42a1b2200b42a1500a221121b3c03eaffa701018454331b3b00b42a1b1e00b42a1500a20020111b3c03ecffa7010184502f1b3800b42a1b1a00b42a1500a2081b3c03eaffa70101844f2e1b3500b42a1b1600b42a1500a21804111b3c03b10400997200b604030400a70407009a9000b42a2a
theorem zk_cX12_restore : zkd cX12_restore.data.toList kn_cX12_restore = true := by decide +kernel
theorem zn_cX12_restore : cX12_restore.data.toList.length = 245 := by decide +kernel
theorem dX12_restore_0 : decode cX12_restore 0 = .ok (.aload_n 0, 1) := zo_42 (zkb zk_cX12_restore zn_cX12_restore rfl)
theorem dX12_restore_1 : decode cX12_restore 1 = .ok (.aload_n 0, 1) := zo_42 (zkb zk_cX12_restore zn_cX12_restore rfl)
theorem dX12_restore_2 : decode cX12_restore 2 = .ok (.getfield 144, 3) := zo_180 (b1 := 0) (b2 := 144) (zkb3 zk_cX12_restore zn_cX12_restore rfl) rfl
theorem dX12_restore_5 : decode cX12_restore 5 = .ok (.ifCond .ne 7, 3) := zo_154 (b1 := 0) (b2 := 7) (zkb3 zk_cX12_restore zn_cX12_restore rfl) rfl
theorem dX12_restore_8 : decode cX12_restore 8 = .ok (.iconst 1, 1) := zo_4 (zkb zk_cX12_restore zn_cX12_restore rfl)
theorem dX12_restore_9 : decode cX12_restore 9 = .ok (.goto 4, 3) := zo_167 (b1 := 0) (b2 := 4) (zkb3 zk_cX12_restore zn_cX12_restore rfl) rfl
theorem dX12_restore_12 : decode cX12_restore 12 = .ok (.iconst 0, 1) := zo_3 (zkb zk_cX12_restore zn_cX12_restore rfl)
theorem dX12_restore_13 : decode cX12_restore 13 = .ok (.iconst 1, 1) := zo_4 (zkb zk_cX12_restore zn_cX12_restore rfl)
theorem dX12_restore_14 : decode cX12_restore 14 = .ok (.invokevirtual 114, 3) := zo_182 (b1 := 0) (b2 := 114) (zkb3 zk_cX12_restore zn_cX12_restore rfl) rfl
theorem dX12_restore_17 : decode cX12_restore 17 = .ok (.ifCond .eq 4, 3) := zo_153 (b1 := 0) (b2 := 4) (zkb3 zk_cX12_restore zn_cX12_restore rfl) rfl
theorem dX12_restore_20 : decode cX12_restore 20 = .ok (.return_, 1) := zo_177 (zkb zk_cX12_restore zn_cX12_restore rfl)
theorem dX12_restore_21 : decode cX12_restore 21 = .ok (.iconst 0, 1) := zo_3 (zkb zk_cX12_restore zn_cX12_restore rfl)
theorem dX12_restore_22 : decode cX12_restore 22 = .ok (.istore_n 1, 1) := zo_60 (zkb zk_cX12_restore zn_cX12_restore rfl)
theorem dX12_restore_23 : decode cX12_restore 23 = .ok (.iload_n 1, 1) := zo_27 (zkb zk_cX12_restore zn_cX12_restore rfl)
theorem dX12_restore_24 : decode cX12_restore 24 = .ok (.sipush 1048, 3) := zo_17 (b1 := 4) (b2 := 24) (zkb3 zk_cX12_restore zn_cX12_restore rfl) rfl
theorem dX12_restore_27 : decode cX12_restore 27 = .ok (.if_icmp .ge 21, 3) := zo_162 (b1 := 0) (b2 := 21) (zkb3 zk_cX12_restore zn_cX12_restore rfl) rfl
theorem dX12_restore_30 : decode cX12_restore 30 = .ok (.aload_n 0, 1) := zo_42 (zkb zk_cX12_restore zn_cX12_restore rfl)
theorem dX12_restore_31 : decode cX12_restore 31 = .ok (.getfield 22, 3) := zo_180 (b1 := 0) (b2 := 22) (zkb3 zk_cX12_restore zn_cX12_restore rfl) rfl
theorem dX12_restore_34 : decode cX12_restore 34 = .ok (.iload_n 1, 1) := zo_27 (zkb zk_cX12_restore zn_cX12_restore rfl)
theorem dX12_restore_35 : decode cX12_restore 35 = .ok (.aload_n 0, 1) := zo_42 (zkb zk_cX12_restore zn_cX12_restore rfl)
theorem dX12_restore_36 : decode cX12_restore 36 = .ok (.getfield 53, 3) := zo_180 (b1 := 0) (b2 := 53) (zkb3 zk_cX12_restore zn_cX12_restore rfl) rfl
theorem dX12_restore_39 : decode cX12_restore 39 = .ok (.iload_n 1, 1) := zo_27 (zkb zk_cX12_restore zn_cX12_restore rfl)
theorem dX12_restore_40 : decode cX12_restore 40 = .ok (.iaload, 1) := zo_46 (zkb zk_cX12_restore zn_cX12_restore rfl)
theorem dX12_restore_41 : decode cX12_restore 41 = .ok (.iastore, 1) := zo_79 (zkb zk_cX12_restore zn_cX12_restore rfl)
theorem dX12_restore_42 : decode cX12_restore 42 = .ok (.iinc 1 1, 3) := zo_132 (b1 := 1) (b2 := 1) (zkb3 zk_cX12_restore zn_cX12_restore rfl) rfl
theorem dX12_restore_45 : decode cX12_restore 45 = .ok (.goto (-22), 3) := zo_167 (b1 := 255) (b2 := 234) (zkb3 zk_cX12_restore zn_cX12_restore rfl) rfl
theorem dX12_restore_48 : decode cX12_restore 48 = .ok (.iconst 0, 1) := zo_3 (zkb zk_cX12_restore zn_cX12_restore rfl)
theorem dX12_restore_49 : decode cX12_restore 49 = .ok (.istore_n 1, 1) := zo_60 (zkb zk_cX12_restore zn_cX12_restore rfl)
theorem dX12_restore_50 : decode cX12_restore 50 = .ok (.iload_n 1, 1) := zo_27 (zkb zk_cX12_restore zn_cX12_restore rfl)
theorem dX12_restore_51 : decode cX12_restore 51 = .ok (.iconst 5, 1) := zo_8 (zkb zk_cX12_restore zn_cX12_restore rfl)
theorem dX12_restore_52 : decode cX12_restore 52 = .ok (.if_icmp .ge 21, 3) := zo_162 (b1 := 0) (b2 := 21) (zkb3 zk_cX12_restore zn_cX12_restore rfl) rfl
theorem dX12_restore_55 : decode cX12_restore 55 = .ok (.aload_n 0, 1) := zo_42 (zkb zk_cX12_restore zn_cX12_restore rfl)
theorem dX12_restore_56 : decode cX12_restore 56 = .ok (.getfield 26, 3) := zo_180 (b1 := 0) (b2 := 26) (zkb3 zk_cX12_restore zn_cX12_restore rfl) rfl
theorem dX12_restore_59 : decode cX12_restore 59 = .ok (.iload_n 1, 1) := zo_27 (zkb zk_cX12_restore zn_cX12_restore rfl)
theorem dX12_restore_60 : decode cX12_restore 60 = .ok (.aload_n 0, 1) := zo_42 (zkb zk_cX12_restore zn_cX12_restore rfl)
theorem dX12_restore_61 : decode cX12_restore 61 = .ok (.getfield 56, 3) := zo_180 (b1 := 0) (b2 := 56) (zkb3 zk_cX12_restore zn_cX12_restore rfl) rfl
theorem dX12_restore_64 : decode cX12_restore 64 = .ok (.iload_n 1, 1) := zo_27 (zkb zk_cX12_restore zn_cX12_restore rfl)
theorem dX12_restore_65 : decode cX12_restore 65 = .ok (.laload, 1) := zo_47 (zkb zk_cX12_restore zn_cX12_restore rfl)
theorem dX12_restore_66 : decode cX12_restore 66 = .ok (.lastore, 1) := zo_80 (zkb zk_cX12_restore zn_cX12_restore rfl)
theorem dX12_restore_67 : decode cX12_restore 67 = .ok (.iinc 1 1, 3) := zo_132 (b1 := 1) (b2 := 1) (zkb3 zk_cX12_restore zn_cX12_restore rfl) rfl
theorem dX12_restore_70 : decode cX12_restore 70 = .ok (.goto (-20), 3) := zo_167 (b1 := 255) (b2 := 236) (zkb3 zk_cX12_restore zn_cX12_restore rfl) rfl
theorem dX12_restore_73 : decode cX12_restore 73 = .ok (.iconst 0, 1) := zo_3 (zkb zk_cX12_restore zn_cX12_restore rfl)
theorem dX12_restore_74 : decode cX12_restore 74 = .ok (.istore_n 1, 1) := zo_60 (zkb zk_cX12_restore zn_cX12_restore rfl)
theorem dX12_restore_75 : decode cX12_restore 75 = .ok (.iload_n 1, 1) := zo_27 (zkb zk_cX12_restore zn_cX12_restore rfl)
theorem dX12_restore_76 : decode cX12_restore 76 = .ok (.sipush 8192, 3) := zo_17 (b1 := 32) (b2 := 0) (zkb3 zk_cX12_restore zn_cX12_restore rfl) rfl
theorem dX12_restore_79 : decode cX12_restore 79 = .ok (.if_icmp .ge 21, 3) := zo_162 (b1 := 0) (b2 := 21) (zkb3 zk_cX12_restore zn_cX12_restore rfl) rfl
theorem dX12_restore_82 : decode cX12_restore 82 = .ok (.aload_n 0, 1) := zo_42 (zkb zk_cX12_restore zn_cX12_restore rfl)
theorem dX12_restore_83 : decode cX12_restore 83 = .ok (.getfield 30, 3) := zo_180 (b1 := 0) (b2 := 30) (zkb3 zk_cX12_restore zn_cX12_restore rfl) rfl
theorem dX12_restore_86 : decode cX12_restore 86 = .ok (.iload_n 1, 1) := zo_27 (zkb zk_cX12_restore zn_cX12_restore rfl)
theorem dX12_restore_87 : decode cX12_restore 87 = .ok (.aload_n 0, 1) := zo_42 (zkb zk_cX12_restore zn_cX12_restore rfl)
theorem dX12_restore_88 : decode cX12_restore 88 = .ok (.getfield 59, 3) := zo_180 (b1 := 0) (b2 := 59) (zkb3 zk_cX12_restore zn_cX12_restore rfl) rfl
theorem dX12_restore_91 : decode cX12_restore 91 = .ok (.iload_n 1, 1) := zo_27 (zkb zk_cX12_restore zn_cX12_restore rfl)
theorem dX12_restore_92 : decode cX12_restore 92 = .ok (.baload, 1) := zo_51 (zkb zk_cX12_restore zn_cX12_restore rfl)
theorem dX12_restore_93 : decode cX12_restore 93 = .ok (.bastore, 1) := zo_84 (zkb zk_cX12_restore zn_cX12_restore rfl)
theorem dX12_restore_94 : decode cX12_restore 94 = .ok (.iinc 1 1, 3) := zo_132 (b1 := 1) (b2 := 1) (zkb3 zk_cX12_restore zn_cX12_restore rfl) rfl
theorem dX12_restore_97 : decode cX12_restore 97 = .ok (.goto (-22), 3) := zo_167 (b1 := 255) (b2 := 234) (zkb3 zk_cX12_restore zn_cX12_restore rfl) rfl
theorem dX12_restore_100 : decode cX12_restore 100 = .ok (.iconst 0, 1) := zo_3 (zkb zk_cX12_restore zn_cX12_restore rfl)
theorem dX12_restore_101 : decode cX12_restore 101 = .ok (.istore_n 1, 1) := zo_60 (zkb zk_cX12_restore zn_cX12_restore rfl)
theorem dX12_restore_102 : decode cX12_restore 102 = .ok (.iload_n 1, 1) := zo_27 (zkb zk_cX12_restore zn_cX12_restore rfl)
theorem dX12_restore_103 : decode cX12_restore 103 = .ok (.ldc 33, 2) := zo_18 (b1 := 33) (zkb2 zk_cX12_restore zn_cX12_restore rfl)
theorem dX12_restore_105 : decode cX12_restore 105 = .ok (.if_icmp .ge 21, 3) := zo_162 (b1 := 0) (b2 := 21) (zkb3 zk_cX12_restore zn_cX12_restore rfl) rfl
theorem dX12_restore_108 : decode cX12_restore 108 = .ok (.aload_n 0, 1) := zo_42 (zkb zk_cX12_restore zn_cX12_restore rfl)
theorem dX12_restore_109 : decode cX12_restore 109 = .ok (.getfield 34, 3) := zo_180 (b1 := 0) (b2 := 34) (zkb3 zk_cX12_restore zn_cX12_restore rfl) rfl
theorem dX12_restore_112 : decode cX12_restore 112 = .ok (.iload_n 1, 1) := zo_27 (zkb zk_cX12_restore zn_cX12_restore rfl)
theorem dX12_restore_113 : decode cX12_restore 113 = .ok (.aload_n 0, 1) := zo_42 (zkb zk_cX12_restore zn_cX12_restore rfl)
theorem dX12_restore_114 : decode cX12_restore 114 = .ok (.getfield 62, 3) := zo_180 (b1 := 0) (b2 := 62) (zkb3 zk_cX12_restore zn_cX12_restore rfl) rfl
theorem dX12_restore_117 : decode cX12_restore 117 = .ok (.iload_n 1, 1) := zo_27 (zkb zk_cX12_restore zn_cX12_restore rfl)
theorem dX12_restore_118 : decode cX12_restore 118 = .ok (.baload, 1) := zo_51 (zkb zk_cX12_restore zn_cX12_restore rfl)
theorem dX12_restore_119 : decode cX12_restore 119 = .ok (.bastore, 1) := zo_84 (zkb zk_cX12_restore zn_cX12_restore rfl)
theorem dX12_restore_120 : decode cX12_restore 120 = .ok (.iinc 1 1, 3) := zo_132 (b1 := 1) (b2 := 1) (zkb3 zk_cX12_restore zn_cX12_restore rfl) rfl
theorem dX12_restore_123 : decode cX12_restore 123 = .ok (.goto (-21), 3) := zo_167 (b1 := 255) (b2 := 235) (zkb3 zk_cX12_restore zn_cX12_restore rfl) rfl
theorem dX12_restore_126 : decode cX12_restore 126 = .ok (.iconst 0, 1) := zo_3 (zkb zk_cX12_restore zn_cX12_restore rfl)
theorem dX12_restore_127 : decode cX12_restore 127 = .ok (.istore_n 1, 1) := zo_60 (zkb zk_cX12_restore zn_cX12_restore rfl)
theorem dX12_restore_128 : decode cX12_restore 128 = .ok (.iload_n 1, 1) := zo_27 (zkb zk_cX12_restore zn_cX12_restore rfl)
theorem dX12_restore_129 : decode cX12_restore 129 = .ok (.sipush 16384, 3) := zo_17 (b1 := 64) (b2 := 0) (zkb3 zk_cX12_restore zn_cX12_restore rfl) rfl
theorem dX12_restore_132 : decode cX12_restore 132 = .ok (.if_icmp .ge 21, 3) := zo_162 (b1 := 0) (b2 := 21) (zkb3 zk_cX12_restore zn_cX12_restore rfl) rfl
theorem dX12_restore_135 : decode cX12_restore 135 = .ok (.aload_n 0, 1) := zo_42 (zkb zk_cX12_restore zn_cX12_restore rfl)
theorem dX12_restore_136 : decode cX12_restore 136 = .ok (.getfield 37, 3) := zo_180 (b1 := 0) (b2 := 37) (zkb3 zk_cX12_restore zn_cX12_restore rfl) rfl
theorem dX12_restore_139 : decode cX12_restore 139 = .ok (.iload_n 1, 1) := zo_27 (zkb zk_cX12_restore zn_cX12_restore rfl)
theorem dX12_restore_140 : decode cX12_restore 140 = .ok (.aload_n 0, 1) := zo_42 (zkb zk_cX12_restore zn_cX12_restore rfl)
theorem dX12_restore_141 : decode cX12_restore 141 = .ok (.getfield 65, 3) := zo_180 (b1 := 0) (b2 := 65) (zkb3 zk_cX12_restore zn_cX12_restore rfl) rfl
theorem dX12_restore_144 : decode cX12_restore 144 = .ok (.iload_n 1, 1) := zo_27 (zkb zk_cX12_restore zn_cX12_restore rfl)
theorem dX12_restore_145 : decode cX12_restore 145 = .ok (.baload, 1) := zo_51 (zkb zk_cX12_restore zn_cX12_restore rfl)
theorem dX12_restore_146 : decode cX12_restore 146 = .ok (.bastore, 1) := zo_84 (zkb zk_cX12_restore zn_cX12_restore rfl)
theorem dX12_restore_147 : decode cX12_restore 147 = .ok (.iinc 1 1, 3) := zo_132 (b1 := 1) (b2 := 1) (zkb3 zk_cX12_restore zn_cX12_restore rfl) rfl
theorem dX12_restore_150 : decode cX12_restore 150 = .ok (.goto (-22), 3) := zo_167 (b1 := 255) (b2 := 234) (zkb3 zk_cX12_restore zn_cX12_restore rfl) rfl
theorem dX12_restore_153 : decode cX12_restore 153 = .ok (.iconst 0, 1) := zo_3 (zkb zk_cX12_restore zn_cX12_restore rfl)
theorem dX12_restore_154 : decode cX12_restore 154 = .ok (.istore_n 1, 1) := zo_60 (zkb zk_cX12_restore zn_cX12_restore rfl)
theorem dX12_restore_155 : decode cX12_restore 155 = .ok (.iload_n 1, 1) := zo_27 (zkb zk_cX12_restore zn_cX12_restore rfl)
theorem dX12_restore_156 : decode cX12_restore 156 = .ok (.bipush 64, 2) := zo_16 (b1 := 64) (zkb2 zk_cX12_restore zn_cX12_restore rfl) rfl
theorem dX12_restore_158 : decode cX12_restore 158 = .ok (.if_icmp .ge 21, 3) := zo_162 (b1 := 0) (b2 := 21) (zkb3 zk_cX12_restore zn_cX12_restore rfl) rfl
theorem dX12_restore_161 : decode cX12_restore 161 = .ok (.aload_n 0, 1) := zo_42 (zkb zk_cX12_restore zn_cX12_restore rfl)
theorem dX12_restore_162 : decode cX12_restore 162 = .ok (.getfield 40, 3) := zo_180 (b1 := 0) (b2 := 40) (zkb3 zk_cX12_restore zn_cX12_restore rfl) rfl
theorem dX12_restore_165 : decode cX12_restore 165 = .ok (.iload_n 1, 1) := zo_27 (zkb zk_cX12_restore zn_cX12_restore rfl)
theorem dX12_restore_166 : decode cX12_restore 166 = .ok (.aload_n 0, 1) := zo_42 (zkb zk_cX12_restore zn_cX12_restore rfl)
theorem dX12_restore_167 : decode cX12_restore 167 = .ok (.getfield 68, 3) := zo_180 (b1 := 0) (b2 := 68) (zkb3 zk_cX12_restore zn_cX12_restore rfl) rfl
theorem dX12_restore_170 : decode cX12_restore 170 = .ok (.iload_n 1, 1) := zo_27 (zkb zk_cX12_restore zn_cX12_restore rfl)
theorem dX12_restore_171 : decode cX12_restore 171 = .ok (.baload, 1) := zo_51 (zkb zk_cX12_restore zn_cX12_restore rfl)
theorem dX12_restore_172 : decode cX12_restore 172 = .ok (.bastore, 1) := zo_84 (zkb zk_cX12_restore zn_cX12_restore rfl)
theorem dX12_restore_173 : decode cX12_restore 173 = .ok (.iinc 1 1, 3) := zo_132 (b1 := 1) (b2 := 1) (zkb3 zk_cX12_restore zn_cX12_restore rfl) rfl
theorem dX12_restore_176 : decode cX12_restore 176 = .ok (.goto (-21), 3) := zo_167 (b1 := 255) (b2 := 235) (zkb3 zk_cX12_restore zn_cX12_restore rfl) rfl
theorem dX12_restore_179 : decode cX12_restore 179 = .ok (.iconst 0, 1) := zo_3 (zkb zk_cX12_restore zn_cX12_restore rfl)
theorem dX12_restore_180 : decode cX12_restore 180 = .ok (.istore_n 1, 1) := zo_60 (zkb zk_cX12_restore zn_cX12_restore rfl)
theorem dX12_restore_181 : decode cX12_restore 181 = .ok (.iload_n 1, 1) := zo_27 (zkb zk_cX12_restore zn_cX12_restore rfl)
theorem dX12_restore_182 : decode cX12_restore 182 = .ok (.ldc 43, 2) := zo_18 (b1 := 43) (zkb2 zk_cX12_restore zn_cX12_restore rfl)
theorem dX12_restore_184 : decode cX12_restore 184 = .ok (.if_icmp .ge 21, 3) := zo_162 (b1 := 0) (b2 := 21) (zkb3 zk_cX12_restore zn_cX12_restore rfl) rfl
theorem dX12_restore_187 : decode cX12_restore 187 = .ok (.aload_n 0, 1) := zo_42 (zkb zk_cX12_restore zn_cX12_restore rfl)
theorem dX12_restore_188 : decode cX12_restore 188 = .ok (.getfield 44, 3) := zo_180 (b1 := 0) (b2 := 44) (zkb3 zk_cX12_restore zn_cX12_restore rfl) rfl
theorem dX12_restore_191 : decode cX12_restore 191 = .ok (.iload_n 1, 1) := zo_27 (zkb zk_cX12_restore zn_cX12_restore rfl)
theorem dX12_restore_192 : decode cX12_restore 192 = .ok (.aload_n 0, 1) := zo_42 (zkb zk_cX12_restore zn_cX12_restore rfl)
theorem dX12_restore_193 : decode cX12_restore 193 = .ok (.getfield 71, 3) := zo_180 (b1 := 0) (b2 := 71) (zkb3 zk_cX12_restore zn_cX12_restore rfl) rfl
theorem dX12_restore_196 : decode cX12_restore 196 = .ok (.iload_n 1, 1) := zo_27 (zkb zk_cX12_restore zn_cX12_restore rfl)
theorem dX12_restore_197 : decode cX12_restore 197 = .ok (.iaload, 1) := zo_46 (zkb zk_cX12_restore zn_cX12_restore rfl)
theorem dX12_restore_198 : decode cX12_restore 198 = .ok (.iastore, 1) := zo_79 (zkb zk_cX12_restore zn_cX12_restore rfl)
theorem dX12_restore_199 : decode cX12_restore 199 = .ok (.iinc 1 1, 3) := zo_132 (b1 := 1) (b2 := 1) (zkb3 zk_cX12_restore zn_cX12_restore rfl) rfl
theorem dX12_restore_202 : decode cX12_restore 202 = .ok (.goto (-21), 3) := zo_167 (b1 := 255) (b2 := 235) (zkb3 zk_cX12_restore zn_cX12_restore rfl) rfl
theorem dX12_restore_205 : decode cX12_restore 205 = .ok (.iconst 0, 1) := zo_3 (zkb zk_cX12_restore zn_cX12_restore rfl)
theorem dX12_restore_206 : decode cX12_restore 206 = .ok (.istore_n 1, 1) := zo_60 (zkb zk_cX12_restore zn_cX12_restore rfl)
theorem dX12_restore_207 : decode cX12_restore 207 = .ok (.iload_n 1, 1) := zo_27 (zkb zk_cX12_restore zn_cX12_restore rfl)
theorem dX12_restore_208 : decode cX12_restore 208 = .ok (.sipush 4096, 3) := zo_17 (b1 := 16) (b2 := 0) (zkb3 zk_cX12_restore zn_cX12_restore rfl) rfl
theorem dX12_restore_211 : decode cX12_restore 211 = .ok (.if_icmp .ge 33, 3) := zo_162 (b1 := 0) (b2 := 33) (zkb3 zk_cX12_restore zn_cX12_restore rfl) rfl
theorem dX12_restore_214 : decode cX12_restore 214 = .ok (.aload_n 0, 1) := zo_42 (zkb zk_cX12_restore zn_cX12_restore rfl)
theorem dX12_restore_215 : decode cX12_restore 215 = .ok (.getfield 47, 3) := zo_180 (b1 := 0) (b2 := 47) (zkb3 zk_cX12_restore zn_cX12_restore rfl) rfl
theorem dX12_restore_218 : decode cX12_restore 218 = .ok (.iload_n 1, 1) := zo_27 (zkb zk_cX12_restore zn_cX12_restore rfl)
theorem dX12_restore_219 : decode cX12_restore 219 = .ok (.aload_n 0, 1) := zo_42 (zkb zk_cX12_restore zn_cX12_restore rfl)
theorem dX12_restore_220 : decode cX12_restore 220 = .ok (.getfield 74, 3) := zo_180 (b1 := 0) (b2 := 74) (zkb3 zk_cX12_restore zn_cX12_restore rfl) rfl
theorem dX12_restore_223 : decode cX12_restore 223 = .ok (.iload_n 1, 1) := zo_27 (zkb zk_cX12_restore zn_cX12_restore rfl)
theorem dX12_restore_224 : decode cX12_restore 224 = .ok (.laload, 1) := zo_47 (zkb zk_cX12_restore zn_cX12_restore rfl)
theorem dX12_restore_225 : decode cX12_restore 225 = .ok (.lastore, 1) := zo_80 (zkb zk_cX12_restore zn_cX12_restore rfl)
theorem dX12_restore_226 : decode cX12_restore 226 = .ok (.aload_n 0, 1) := zo_42 (zkb zk_cX12_restore zn_cX12_restore rfl)
theorem dX12_restore_227 : decode cX12_restore 227 = .ok (.getfield 50, 3) := zo_180 (b1 := 0) (b2 := 50) (zkb3 zk_cX12_restore zn_cX12_restore rfl) rfl
theorem dX12_restore_230 : decode cX12_restore 230 = .ok (.iload_n 1, 1) := zo_27 (zkb zk_cX12_restore zn_cX12_restore rfl)
theorem dX12_restore_231 : decode cX12_restore 231 = .ok (.aload_n 0, 1) := zo_42 (zkb zk_cX12_restore zn_cX12_restore rfl)
theorem dX12_restore_232 : decode cX12_restore 232 = .ok (.getfield 77, 3) := zo_180 (b1 := 0) (b2 := 77) (zkb3 zk_cX12_restore zn_cX12_restore rfl) rfl
theorem dX12_restore_235 : decode cX12_restore 235 = .ok (.iload_n 1, 1) := zo_27 (zkb zk_cX12_restore zn_cX12_restore rfl)
theorem dX12_restore_236 : decode cX12_restore 236 = .ok (.laload, 1) := zo_47 (zkb zk_cX12_restore zn_cX12_restore rfl)
theorem dX12_restore_237 : decode cX12_restore 237 = .ok (.lastore, 1) := zo_80 (zkb zk_cX12_restore zn_cX12_restore rfl)
theorem dX12_restore_238 : decode cX12_restore 238 = .ok (.iinc 1 1, 3) := zo_132 (b1 := 1) (b2 := 1) (zkb3 zk_cX12_restore zn_cX12_restore rfl) rfl
theorem dX12_restore_241 : decode cX12_restore 241 = .ok (.goto (-34), 3) := zo_167 (b1 := 255) (b2 := 222) (zkb3 zk_cX12_restore zn_cX12_restore rfl) rfl
theorem dX12_restore_244 : decode cX12_restore 244 = .ok (.return_, 1) := zo_177 (zkb zk_cX12_restore zn_cX12_restore rfl)
noncomputable def kn_cX12_register : Nat := 0xac2e1b1600b42a0900a7030700997200b604030400a70407009a6e00b8c0011409851b2a
theorem zk_cX12_register : zkd cX12_register.data.toList kn_cX12_register = true := by decide +kernel
theorem zn_cX12_register : cX12_register.data.toList.length = 36 := by decide +kernel
theorem dX12_register_0 : decode cX12_register 0 = .ok (.aload_n 0, 1) := zo_42 (zkb zk_cX12_register zn_cX12_register rfl)
theorem dX12_register_1 : decode cX12_register 1 = .ok (.iload_n 1, 1) := zo_27 (zkb zk_cX12_register zn_cX12_register rfl)
theorem dX12_register_2 : decode cX12_register 2 = .ok (.i2l, 1) := zo_133 (zkb zk_cX12_register zn_cX12_register rfl)
theorem dX12_register_3 : decode cX12_register 3 = .ok (.lconst 0, 1) := zo_9 (zkb zk_cX12_register zn_cX12_register rfl)
theorem dX12_register_4 : decode cX12_register 4 = .ok (.ldc2_w 448, 3) := by decide +kernel
theorem dX12_register_7 : decode cX12_register 7 = .ok (.invokestatic 110, 3) := zo_184 (b1 := 0) (b2 := 110) (zkb3 zk_cX12_register zn_cX12_register rfl) rfl
theorem dX12_register_10 : decode cX12_register 10 = .ok (.ifCond .ne 7, 3) := zo_154 (b1 := 0) (b2 := 7) (zkb3 zk_cX12_register zn_cX12_register rfl) rfl
theorem dX12_register_13 : decode cX12_register 13 = .ok (.iconst 1, 1) := zo_4 (zkb zk_cX12_register zn_cX12_register rfl)
theorem dX12_register_14 : decode cX12_register 14 = .ok (.goto 4, 3) := zo_167 (b1 := 0) (b2 := 4) (zkb3 zk_cX12_register zn_cX12_register rfl) rfl
theorem dX12_register_17 : decode cX12_register 17 = .ok (.iconst 0, 1) := zo_3 (zkb zk_cX12_register zn_cX12_register rfl)
theorem dX12_register_18 : decode cX12_register 18 = .ok (.iconst 1, 1) := zo_4 (zkb zk_cX12_register zn_cX12_register rfl)
theorem dX12_register_19 : decode cX12_register 19 = .ok (.invokevirtual 114, 3) := zo_182 (b1 := 0) (b2 := 114) (zkb3 zk_cX12_register zn_cX12_register rfl) rfl
theorem dX12_register_22 : decode cX12_register 22 = .ok (.ifCond .eq 7, 3) := zo_153 (b1 := 0) (b2 := 7) (zkb3 zk_cX12_register zn_cX12_register rfl) rfl
theorem dX12_register_25 : decode cX12_register 25 = .ok (.iconst 0, 1) := zo_3 (zkb zk_cX12_register zn_cX12_register rfl)
theorem dX12_register_26 : decode cX12_register 26 = .ok (.goto 9, 3) := zo_167 (b1 := 0) (b2 := 9) (zkb3 zk_cX12_register zn_cX12_register rfl) rfl
theorem dX12_register_29 : decode cX12_register 29 = .ok (.aload_n 0, 1) := zo_42 (zkb zk_cX12_register zn_cX12_register rfl)
theorem dX12_register_30 : decode cX12_register 30 = .ok (.getfield 22, 3) := zo_180 (b1 := 0) (b2 := 22) (zkb3 zk_cX12_register zn_cX12_register rfl) rfl
theorem dX12_register_33 : decode cX12_register 33 = .ok (.iload_n 1, 1) := zo_27 (zkb zk_cX12_register zn_cX12_register rfl)
theorem dX12_register_34 : decode cX12_register 34 = .ok (.iaload, 1) := zo_46 (zkb zk_cX12_register zn_cX12_register rfl)
theorem dX12_register_35 : decode cX12_register 35 = .ok (.ireturn, 1) := zo_172 (zkb zk_cX12_register zn_cX12_register rfl)
noncomputable def kn_cX12_set : Nat := 0xb14f7e041c0600a77eff00111c0b00a316101b1400a77e8f121c0a00a314101b2100a77eff00111c0b00a210101b1b1600b42a3500a74f7e061c0600a7050700a0067e061c1b1600b42a1a00a019101bb10400997200b604030400a70407009a6e00b8c2011409851b2a
theorem zk_cX12_set : zkd cX12_set.data.toList kn_cX12_set = true := by decide +kernel
theorem zn_cX12_set : cX12_set.data.toList.length = 106 := by decide +kernel
theorem dX12_set_0 : decode cX12_set 0 = .ok (.aload_n 0, 1) := zo_42 (zkb zk_cX12_set zn_cX12_set rfl)
theorem dX12_set_1 : decode cX12_set 1 = .ok (.iload_n 1, 1) := zo_27 (zkb zk_cX12_set zn_cX12_set rfl)
theorem dX12_set_2 : decode cX12_set 2 = .ok (.i2l, 1) := zo_133 (zkb zk_cX12_set zn_cX12_set rfl)
theorem dX12_set_3 : decode cX12_set 3 = .ok (.lconst 0, 1) := zo_9 (zkb zk_cX12_set zn_cX12_set rfl)
theorem dX12_set_4 : decode cX12_set 4 = .ok (.ldc2_w 450, 3) := by decide +kernel
theorem dX12_set_7 : decode cX12_set 7 = .ok (.invokestatic 110, 3) := zo_184 (b1 := 0) (b2 := 110) (zkb3 zk_cX12_set zn_cX12_set rfl) rfl
theorem dX12_set_10 : decode cX12_set 10 = .ok (.ifCond .ne 7, 3) := zo_154 (b1 := 0) (b2 := 7) (zkb3 zk_cX12_set zn_cX12_set rfl) rfl
theorem dX12_set_13 : decode cX12_set 13 = .ok (.iconst 1, 1) := zo_4 (zkb zk_cX12_set zn_cX12_set rfl)
theorem dX12_set_14 : decode cX12_set 14 = .ok (.goto 4, 3) := zo_167 (b1 := 0) (b2 := 4) (zkb3 zk_cX12_set zn_cX12_set rfl) rfl
theorem dX12_set_17 : decode cX12_set 17 = .ok (.iconst 0, 1) := zo_3 (zkb zk_cX12_set zn_cX12_set rfl)
theorem dX12_set_18 : decode cX12_set 18 = .ok (.iconst 1, 1) := zo_4 (zkb zk_cX12_set zn_cX12_set rfl)
theorem dX12_set_19 : decode cX12_set 19 = .ok (.invokevirtual 114, 3) := zo_182 (b1 := 0) (b2 := 114) (zkb3 zk_cX12_set zn_cX12_set rfl) rfl
theorem dX12_set_22 : decode cX12_set 22 = .ok (.ifCond .eq 4, 3) := zo_153 (b1 := 0) (b2 := 4) (zkb3 zk_cX12_set zn_cX12_set rfl) rfl
theorem dX12_set_25 : decode cX12_set 25 = .ok (.return_, 1) := zo_177 (zkb zk_cX12_set zn_cX12_set rfl)
theorem dX12_set_26 : decode cX12_set 26 = .ok (.iload_n 1, 1) := zo_27 (zkb zk_cX12_set zn_cX12_set rfl)
theorem dX12_set_27 : decode cX12_set 27 = .ok (.bipush 25, 2) := zo_16 (b1 := 25) (zkb2 zk_cX12_set zn_cX12_set rfl) rfl
theorem dX12_set_29 : decode cX12_set 29 = .ok (.if_icmp .ne 26, 3) := zo_160 (b1 := 0) (b2 := 26) (zkb3 zk_cX12_set zn_cX12_set rfl) rfl
theorem dX12_set_32 : decode cX12_set 32 = .ok (.aload_n 0, 1) := zo_42 (zkb zk_cX12_set zn_cX12_set rfl)
theorem dX12_set_33 : decode cX12_set 33 = .ok (.getfield 22, 3) := zo_180 (b1 := 0) (b2 := 22) (zkb3 zk_cX12_set zn_cX12_set rfl) rfl
theorem dX12_set_36 : decode cX12_set 36 = .ok (.iload_n 1, 1) := zo_27 (zkb zk_cX12_set zn_cX12_set rfl)
theorem dX12_set_37 : decode cX12_set 37 = .ok (.iload_n 2, 1) := zo_28 (zkb zk_cX12_set zn_cX12_set rfl)
theorem dX12_set_38 : decode cX12_set 38 = .ok (.iconst 3, 1) := zo_6 (zkb zk_cX12_set zn_cX12_set rfl)
theorem dX12_set_39 : decode cX12_set 39 = .ok (.iand, 1) := zo_126 (zkb zk_cX12_set zn_cX12_set rfl)
theorem dX12_set_40 : decode cX12_set 40 = .ok (.iconst 3, 1) := zo_6 (zkb zk_cX12_set zn_cX12_set rfl)
theorem dX12_set_41 : decode cX12_set 41 = .ok (.if_icmp .ne 7, 3) := zo_160 (b1 := 0) (b2 := 7) (zkb3 zk_cX12_set zn_cX12_set rfl) rfl
theorem dX12_set_44 : decode cX12_set 44 = .ok (.iconst 2, 1) := zo_5 (zkb zk_cX12_set zn_cX12_set rfl)
theorem dX12_set_45 : decode cX12_set 45 = .ok (.goto 6, 3) := zo_167 (b1 := 0) (b2 := 6) (zkb3 zk_cX12_set zn_cX12_set rfl) rfl
theorem dX12_set_48 : decode cX12_set 48 = .ok (.iload_n 2, 1) := zo_28 (zkb zk_cX12_set zn_cX12_set rfl)
theorem dX12_set_49 : decode cX12_set 49 = .ok (.iconst 3, 1) := zo_6 (zkb zk_cX12_set zn_cX12_set rfl)
theorem dX12_set_50 : decode cX12_set 50 = .ok (.iand, 1) := zo_126 (zkb zk_cX12_set zn_cX12_set rfl)
theorem dX12_set_51 : decode cX12_set 51 = .ok (.iastore, 1) := zo_79 (zkb zk_cX12_set zn_cX12_set rfl)
theorem dX12_set_52 : decode cX12_set 52 = .ok (.goto 53, 3) := zo_167 (b1 := 0) (b2 := 53) (zkb3 zk_cX12_set zn_cX12_set rfl) rfl
theorem dX12_set_55 : decode cX12_set 55 = .ok (.aload_n 0, 1) := zo_42 (zkb zk_cX12_set zn_cX12_set rfl)
theorem dX12_set_56 : decode cX12_set 56 = .ok (.getfield 22, 3) := zo_180 (b1 := 0) (b2 := 22) (zkb3 zk_cX12_set zn_cX12_set rfl) rfl
theorem dX12_set_59 : decode cX12_set 59 = .ok (.iload_n 1, 1) := zo_27 (zkb zk_cX12_set zn_cX12_set rfl)
theorem dX12_set_60 : decode cX12_set 60 = .ok (.iload_n 1, 1) := zo_27 (zkb zk_cX12_set zn_cX12_set rfl)
theorem dX12_set_61 : decode cX12_set 61 = .ok (.bipush 16, 2) := zo_16 (b1 := 16) (zkb2 zk_cX12_set zn_cX12_set rfl) rfl
theorem dX12_set_63 : decode cX12_set 63 = .ok (.if_icmp .ge 11, 3) := zo_162 (b1 := 0) (b2 := 11) (zkb3 zk_cX12_set zn_cX12_set rfl) rfl
theorem dX12_set_66 : decode cX12_set 66 = .ok (.iload_n 2, 1) := zo_28 (zkb zk_cX12_set zn_cX12_set rfl)
theorem dX12_set_67 : decode cX12_set 67 = .ok (.sipush 255, 3) := zo_17 (b1 := 0) (b2 := 255) (zkb3 zk_cX12_set zn_cX12_set rfl) rfl
theorem dX12_set_70 : decode cX12_set 70 = .ok (.iand, 1) := zo_126 (zkb zk_cX12_set zn_cX12_set rfl)
theorem dX12_set_71 : decode cX12_set 71 = .ok (.goto 33, 3) := zo_167 (b1 := 0) (b2 := 33) (zkb3 zk_cX12_set zn_cX12_set rfl) rfl
theorem dX12_set_74 : decode cX12_set 74 = .ok (.iload_n 1, 1) := zo_27 (zkb zk_cX12_set zn_cX12_set rfl)
theorem dX12_set_75 : decode cX12_set 75 = .ok (.bipush 20, 2) := zo_16 (b1 := 20) (zkb2 zk_cX12_set zn_cX12_set rfl) rfl
theorem dX12_set_77 : decode cX12_set 77 = .ok (.if_icmp .gt 10, 3) := zo_163 (b1 := 0) (b2 := 10) (zkb3 zk_cX12_set zn_cX12_set rfl) rfl
theorem dX12_set_80 : decode cX12_set 80 = .ok (.iload_n 2, 1) := zo_28 (zkb zk_cX12_set zn_cX12_set rfl)
theorem dX12_set_81 : decode cX12_set 81 = .ok (.ldc 143, 2) := zo_18 (b1 := 143) (zkb2 zk_cX12_set zn_cX12_set rfl)
theorem dX12_set_83 : decode cX12_set 83 = .ok (.iand, 1) := zo_126 (zkb zk_cX12_set zn_cX12_set rfl)
theorem dX12_set_84 : decode cX12_set 84 = .ok (.goto 20, 3) := zo_167 (b1 := 0) (b2 := 20) (zkb3 zk_cX12_set zn_cX12_set rfl) rfl
theorem dX12_set_87 : decode cX12_set 87 = .ok (.iload_n 1, 1) := zo_27 (zkb zk_cX12_set zn_cX12_set rfl)
theorem dX12_set_88 : decode cX12_set 88 = .ok (.bipush 22, 2) := zo_16 (b1 := 22) (zkb2 zk_cX12_set zn_cX12_set rfl) rfl
theorem dX12_set_90 : decode cX12_set 90 = .ok (.if_icmp .gt 11, 3) := zo_163 (b1 := 0) (b2 := 11) (zkb3 zk_cX12_set zn_cX12_set rfl) rfl
theorem dX12_set_93 : decode cX12_set 93 = .ok (.iload_n 2, 1) := zo_28 (zkb zk_cX12_set zn_cX12_set rfl)
theorem dX12_set_94 : decode cX12_set 94 = .ok (.sipush 255, 3) := zo_17 (b1 := 0) (b2 := 255) (zkb3 zk_cX12_set zn_cX12_set rfl) rfl
theorem dX12_set_97 : decode cX12_set 97 = .ok (.iand, 1) := zo_126 (zkb zk_cX12_set zn_cX12_set rfl)
theorem dX12_set_98 : decode cX12_set 98 = .ok (.goto 6, 3) := zo_167 (b1 := 0) (b2 := 6) (zkb3 zk_cX12_set zn_cX12_set rfl) rfl
theorem dX12_set_101 : decode cX12_set 101 = .ok (.iload_n 2, 1) := zo_28 (zkb zk_cX12_set zn_cX12_set rfl)
theorem dX12_set_102 : decode cX12_set 102 = .ok (.iconst 1, 1) := zo_4 (zkb zk_cX12_set zn_cX12_set rfl)
theorem dX12_set_103 : decode cX12_set 103 = .ok (.iand, 1) := zo_126 (zkb zk_cX12_set zn_cX12_set rfl)
theorem dX12_set_104 : decode cX12_set 104 = .ok (.iastore, 1) := zo_79 (zkb zk_cX12_set zn_cX12_set rfl)
theorem dX12_set_105 : decode cX12_set 105 = .ok (.return_, 1) := zo_177 (zkb zk_cX12_set zn_cX12_set rfl)
noncomputable def kn_cX12_peek : Nat := 0xaca600b61b2a6900b5032a
theorem zk_cX12_peek : zkd cX12_peek.data.toList kn_cX12_peek = true := by decide +kernel
theorem zn_cX12_peek : cX12_peek.data.toList.length = 11 := by decide +kernel
theorem dX12_peek_0 : decode cX12_peek 0 = .ok (.aload_n 0, 1) := zo_42 (zkb zk_cX12_peek zn_cX12_peek rfl)
theorem dX12_peek_1 : decode cX12_peek 1 = .ok (.iconst 0, 1) := zo_3 (zkb zk_cX12_peek zn_cX12_peek rfl)
theorem dX12_peek_2 : decode cX12_peek 2 = .ok (.putfield 105, 3) := zo_181 (b1 := 0) (b2 := 105) (zkb3 zk_cX12_peek zn_cX12_peek rfl) rfl
theorem dX12_peek_5 : decode cX12_peek 5 = .ok (.aload_n 0, 1) := zo_42 (zkb zk_cX12_peek zn_cX12_peek rfl)
theorem dX12_peek_6 : decode cX12_peek 6 = .ok (.iload_n 1, 1) := zo_27 (zkb zk_cX12_peek zn_cX12_peek rfl)
theorem dX12_peek_7 : decode cX12_peek 7 = .ok (.invokevirtual 166, 3) := zo_182 (b1 := 0) (b2 := 166) (zkb3 zk_cX12_peek zn_cX12_peek rfl) rfl
theorem dX12_peek_10 : decode cX12_peek 10 = .ok (.ireturn, 1) := zo_172 (zkb zk_cX12_peek zn_cX12_peek rfl)
noncomputable def kn_cX12_poke : Nat := 0xb1a900b61c1b2a6900b5032a
theorem zk_cX12_poke : zkd cX12_poke.data.toList kn_cX12_poke = true := by decide +kernel
theorem zn_cX12_poke : cX12_poke.data.toList.length = 12 := by decide +kernel
theorem dX12_poke_0 : decode cX12_poke 0 = .ok (.aload_n 0, 1) := zo_42 (zkb zk_cX12_poke zn_cX12_poke rfl)
theorem dX12_poke_1 : decode cX12_poke 1 = .ok (.iconst 0, 1) := zo_3 (zkb zk_cX12_poke zn_cX12_poke rfl)
theorem dX12_poke_2 : decode cX12_poke 2 = .ok (.putfield 105, 3) := zo_181 (b1 := 0) (b2 := 105) (zkb3 zk_cX12_poke zn_cX12_poke rfl) rfl
theorem dX12_poke_5 : decode cX12_poke 5 = .ok (.aload_n 0, 1) := zo_42 (zkb zk_cX12_poke zn_cX12_poke rfl)
theorem dX12_poke_6 : decode cX12_poke 6 = .ok (.iload_n 1, 1) := zo_27 (zkb zk_cX12_poke zn_cX12_poke rfl)
theorem dX12_poke_7 : decode cX12_poke 7 = .ok (.iload_n 2, 1) := zo_28 (zkb zk_cX12_poke zn_cX12_poke rfl)
theorem dX12_poke_8 : decode cX12_poke 8 = .ok (.invokevirtual 169, 3) := zo_182 (b1 := 0) (b2 := 169) (zkb3 zk_cX12_poke zn_cX12_poke rfl) rfl
theorem dX12_poke_11 : decode cX12_poke 11 = .ok (.return_, 1) := zo_177 (zkb zk_cX12_poke zn_cX12_poke rfl)
noncomputable def kn_cX12_in : Nat := 0xac2801b67eff00111b2a6900b5032a
theorem zk_cX12_in : zkd cX12_in.data.toList kn_cX12_in = true := by decide +kernel
theorem zn_cX12_in : cX12_in.data.toList.length = 15 := by decide +kernel
theorem dX12_in_0 : decode cX12_in 0 = .ok (.aload_n 0, 1) := zo_42 (zkb zk_cX12_in zn_cX12_in rfl)
theorem dX12_in_1 : decode cX12_in 1 = .ok (.iconst 0, 1) := zo_3 (zkb zk_cX12_in zn_cX12_in rfl)
theorem dX12_in_2 : decode cX12_in 2 = .ok (.putfield 105, 3) := zo_181 (b1 := 0) (b2 := 105) (zkb3 zk_cX12_in zn_cX12_in rfl) rfl
theorem dX12_in_5 : decode cX12_in 5 = .ok (.aload_n 0, 1) := zo_42 (zkb zk_cX12_in zn_cX12_in rfl)
theorem dX12_in_6 : decode cX12_in 6 = .ok (.iload_n 1, 1) := zo_27 (zkb zk_cX12_in zn_cX12_in rfl)
theorem dX12_in_7 : decode cX12_in 7 = .ok (.sipush 255, 3) := zo_17 (b1 := 0) (b2 := 255) (zkb3 zk_cX12_in zn_cX12_in rfl) rfl
theorem dX12_in_10 : decode cX12_in 10 = .ok (.iand, 1) := zo_126 (zkb zk_cX12_in zn_cX12_in rfl)
theorem dX12_in_11 : decode cX12_in 11 = .ok (.invokevirtual 296, 3) := zo_182 (b1 := 1) (b2 := 40) (zkb3 zk_cX12_in zn_cX12_in rfl) rfl
theorem dX12_in_14 : decode cX12_in 14 = .ok (.ireturn, 1) := zo_172 (zkb zk_cX12_in zn_cX12_in rfl)
noncomputable def kn_cX12_out : Nat := 0xb12501b67eff00111c7eff00111b2a6900b5032a
theorem zk_cX12_out : zkd cX12_out.data.toList kn_cX12_out = true := by decide +kernel
theorem zn_cX12_out : cX12_out.data.toList.length = 20 := by decide +kernel
theorem dX12_out_0 : decode cX12_out 0 = .ok (.aload_n 0, 1) := zo_42 (zkb zk_cX12_out zn_cX12_out rfl)
theorem dX12_out_1 : decode cX12_out 1 = .ok (.iconst 0, 1) := zo_3 (zkb zk_cX12_out zn_cX12_out rfl)
theorem dX12_out_2 : decode cX12_out 2 = .ok (.putfield 105, 3) := zo_181 (b1 := 0) (b2 := 105) (zkb3 zk_cX12_out zn_cX12_out rfl) rfl
theorem dX12_out_5 : decode cX12_out 5 = .ok (.aload_n 0, 1) := zo_42 (zkb zk_cX12_out zn_cX12_out rfl)
theorem dX12_out_6 : decode cX12_out 6 = .ok (.iload_n 1, 1) := zo_27 (zkb zk_cX12_out zn_cX12_out rfl)
theorem dX12_out_7 : decode cX12_out 7 = .ok (.sipush 255, 3) := zo_17 (b1 := 0) (b2 := 255) (zkb3 zk_cX12_out zn_cX12_out rfl) rfl
theorem dX12_out_10 : decode cX12_out 10 = .ok (.iand, 1) := zo_126 (zkb zk_cX12_out zn_cX12_out rfl)
theorem dX12_out_11 : decode cX12_out 11 = .ok (.iload_n 2, 1) := zo_28 (zkb zk_cX12_out zn_cX12_out rfl)
theorem dX12_out_12 : decode cX12_out 12 = .ok (.sipush 255, 3) := zo_17 (b1 := 0) (b2 := 255) (zkb3 zk_cX12_out zn_cX12_out rfl) rfl
theorem dX12_out_15 : decode cX12_out 15 = .ok (.iand, 1) := zo_126 (zkb zk_cX12_out zn_cX12_out rfl)
theorem dX12_out_16 : decode cX12_out 16 = .ok (.invokevirtual 293, 3) := zo_182 (b1 := 1) (b2 := 37) (zkb3 zk_cX12_out zn_cX12_out rfl) rfl
theorem dX12_out_19 : decode cX12_out 19 = .ok (.return_, 1) := zo_177 (zkb zk_cX12_out zn_cX12_out rfl)
noncomputable def kn_cX12_battery : Nat := 0xac7eff0011331b2200b42a0d00a7030700997200b604030400a70407009a6e00b8c4011409851b2a
theorem zk_cX12_battery : zkd cX12_battery.data.toList kn_cX12_battery = true := by decide +kernel
theorem zn_cX12_battery : cX12_battery.data.toList.length = 40 := by decide +kernel
theorem dX12_battery_0 : decode cX12_battery 0 = .ok (.aload_n 0, 1) := zo_42 (zkb zk_cX12_battery zn_cX12_battery rfl)
theorem dX12_battery_1 : decode cX12_battery 1 = .ok (.iload_n 1, 1) := zo_27 (zkb zk_cX12_battery zn_cX12_battery rfl)
theorem dX12_battery_2 : decode cX12_battery 2 = .ok (.i2l, 1) := zo_133 (zkb zk_cX12_battery zn_cX12_battery rfl)
theorem dX12_battery_3 : decode cX12_battery 3 = .ok (.lconst 0, 1) := zo_9 (zkb zk_cX12_battery zn_cX12_battery rfl)
theorem dX12_battery_4 : decode cX12_battery 4 = .ok (.ldc2_w 452, 3) := by decide +kernel
theorem dX12_battery_7 : decode cX12_battery 7 = .ok (.invokestatic 110, 3) := zo_184 (b1 := 0) (b2 := 110) (zkb3 zk_cX12_battery zn_cX12_battery rfl) rfl
theorem dX12_battery_10 : decode cX12_battery 10 = .ok (.ifCond .ne 7, 3) := zo_154 (b1 := 0) (b2 := 7) (zkb3 zk_cX12_battery zn_cX12_battery rfl) rfl
theorem dX12_battery_13 : decode cX12_battery 13 = .ok (.iconst 1, 1) := zo_4 (zkb zk_cX12_battery zn_cX12_battery rfl)
theorem dX12_battery_14 : decode cX12_battery 14 = .ok (.goto 4, 3) := zo_167 (b1 := 0) (b2 := 4) (zkb3 zk_cX12_battery zn_cX12_battery rfl) rfl
theorem dX12_battery_17 : decode cX12_battery 17 = .ok (.iconst 0, 1) := zo_3 (zkb zk_cX12_battery zn_cX12_battery rfl)
theorem dX12_battery_18 : decode cX12_battery 18 = .ok (.iconst 1, 1) := zo_4 (zkb zk_cX12_battery zn_cX12_battery rfl)
theorem dX12_battery_19 : decode cX12_battery 19 = .ok (.invokevirtual 114, 3) := zo_182 (b1 := 0) (b2 := 114) (zkb3 zk_cX12_battery zn_cX12_battery rfl) rfl
theorem dX12_battery_22 : decode cX12_battery 22 = .ok (.ifCond .eq 7, 3) := zo_153 (b1 := 0) (b2 := 7) (zkb3 zk_cX12_battery zn_cX12_battery rfl) rfl
theorem dX12_battery_25 : decode cX12_battery 25 = .ok (.iconst 0, 1) := zo_3 (zkb zk_cX12_battery zn_cX12_battery rfl)
theorem dX12_battery_26 : decode cX12_battery 26 = .ok (.goto 13, 3) := zo_167 (b1 := 0) (b2 := 13) (zkb3 zk_cX12_battery zn_cX12_battery rfl) rfl
theorem dX12_battery_29 : decode cX12_battery 29 = .ok (.aload_n 0, 1) := zo_42 (zkb zk_cX12_battery zn_cX12_battery rfl)
theorem dX12_battery_30 : decode cX12_battery 30 = .ok (.getfield 34, 3) := zo_180 (b1 := 0) (b2 := 34) (zkb3 zk_cX12_battery zn_cX12_battery rfl) rfl
theorem dX12_battery_33 : decode cX12_battery 33 = .ok (.iload_n 1, 1) := zo_27 (zkb zk_cX12_battery zn_cX12_battery rfl)
theorem dX12_battery_34 : decode cX12_battery 34 = .ok (.baload, 1) := zo_51 (zkb zk_cX12_battery zn_cX12_battery rfl)
theorem dX12_battery_35 : decode cX12_battery 35 = .ok (.sipush 255, 3) := zo_17 (b1 := 0) (b2 := 255) (zkb3 zk_cX12_battery zn_cX12_battery rfl) rfl
theorem dX12_battery_38 : decode cX12_battery 38 = .ok (.iand, 1) := zo_126 (zkb zk_cX12_battery zn_cX12_battery rfl)
theorem dX12_battery_39 : decode cX12_battery 39 = .ok (.ireturn, 1) := zo_172 (zkb zk_cX12_battery zn_cX12_battery rfl)
noncomputable def kn_cX12_wipe : Nat := 0xb1f0ffa701018454031b2200b42a1000a221121b3c036900b5032a
theorem zk_cX12_wipe : zkd cX12_wipe.data.toList kn_cX12_wipe = true := by decide +kernel
theorem zn_cX12_wipe : cX12_wipe.data.toList.length = 27 := by decide +kernel
theorem dX12_wipe_0 : decode cX12_wipe 0 = .ok (.aload_n 0, 1) := zo_42 (zkb zk_cX12_wipe zn_cX12_wipe rfl)
theorem dX12_wipe_1 : decode cX12_wipe 1 = .ok (.iconst 0, 1) := zo_3 (zkb zk_cX12_wipe zn_cX12_wipe rfl)
theorem dX12_wipe_2 : decode cX12_wipe 2 = .ok (.putfield 105, 3) := zo_181 (b1 := 0) (b2 := 105) (zkb3 zk_cX12_wipe zn_cX12_wipe rfl) rfl
theorem dX12_wipe_5 : decode cX12_wipe 5 = .ok (.iconst 0, 1) := zo_3 (zkb zk_cX12_wipe zn_cX12_wipe rfl)
theorem dX12_wipe_6 : decode cX12_wipe 6 = .ok (.istore_n 1, 1) := zo_60 (zkb zk_cX12_wipe zn_cX12_wipe rfl)
theorem dX12_wipe_7 : decode cX12_wipe 7 = .ok (.iload_n 1, 1) := zo_27 (zkb zk_cX12_wipe zn_cX12_wipe rfl)
theorem dX12_wipe_8 : decode cX12_wipe 8 = .ok (.ldc 33, 2) := zo_18 (b1 := 33) (zkb2 zk_cX12_wipe zn_cX12_wipe rfl)
theorem dX12_wipe_10 : decode cX12_wipe 10 = .ok (.if_icmp .ge 16, 3) := zo_162 (b1 := 0) (b2 := 16) (zkb3 zk_cX12_wipe zn_cX12_wipe rfl) rfl
theorem dX12_wipe_13 : decode cX12_wipe 13 = .ok (.aload_n 0, 1) := zo_42 (zkb zk_cX12_wipe zn_cX12_wipe rfl)
theorem dX12_wipe_14 : decode cX12_wipe 14 = .ok (.getfield 34, 3) := zo_180 (b1 := 0) (b2 := 34) (zkb3 zk_cX12_wipe zn_cX12_wipe rfl) rfl
theorem dX12_wipe_17 : decode cX12_wipe 17 = .ok (.iload_n 1, 1) := zo_27 (zkb zk_cX12_wipe zn_cX12_wipe rfl)
theorem dX12_wipe_18 : decode cX12_wipe 18 = .ok (.iconst 0, 1) := zo_3 (zkb zk_cX12_wipe zn_cX12_wipe rfl)
theorem dX12_wipe_19 : decode cX12_wipe 19 = .ok (.bastore, 1) := zo_84 (zkb zk_cX12_wipe zn_cX12_wipe rfl)
theorem dX12_wipe_20 : decode cX12_wipe 20 = .ok (.iinc 1 1, 3) := zo_132 (b1 := 1) (b2 := 1) (zkb3 zk_cX12_wipe zn_cX12_wipe rfl) rfl
theorem dX12_wipe_23 : decode cX12_wipe 23 = .ok (.goto (-16), 3) := zo_167 (b1 := 255) (b2 := 240) (zkb3 zk_cX12_wipe zn_cX12_wipe rfl) rfl
theorem dX12_wipe_26 : decode cX12_wipe 26 = .ok (.return_, 1) := zo_177 (zkb zk_cX12_wipe zn_cX12_wipe rfl)
noncomputable def kn_cX12_video : Nat := 0xad20e9ffa7ff04844181859101b66004151b2a7908102018009b04150436071041096900b5032a
theorem zk_cX12_video : zkd cX12_video.data.toList kn_cX12_video = true := by decide +kernel
theorem zn_cX12_video : cX12_video.data.toList.length = 39 := by decide +kernel
theorem dX12_video_0 : decode cX12_video 0 = .ok (.aload_n 0, 1) := zo_42 (zkb zk_cX12_video zn_cX12_video rfl)
theorem dX12_video_1 : decode cX12_video 1 = .ok (.iconst 0, 1) := zo_3 (zkb zk_cX12_video zn_cX12_video rfl)
theorem dX12_video_2 : decode cX12_video 2 = .ok (.putfield 105, 3) := zo_181 (b1 := 0) (b2 := 105) (zkb3 zk_cX12_video zn_cX12_video rfl) rfl
theorem dX12_video_5 : decode cX12_video 5 = .ok (.lconst 0, 1) := zo_9 (zkb zk_cX12_video zn_cX12_video rfl)
theorem dX12_video_6 : decode cX12_video 6 = .ok (.lstore_n 2, 1) := zo_65 (zkb zk_cX12_video zn_cX12_video rfl)
theorem dX12_video_7 : decode cX12_video 7 = .ok (.bipush 7, 2) := zo_16 (b1 := 7) (zkb2 zk_cX12_video zn_cX12_video rfl) rfl
theorem dX12_video_9 : decode cX12_video 9 = .ok (.istore 4, 2) := zo_54 (b1 := 4) (zkb2 zk_cX12_video zn_cX12_video rfl)
theorem dX12_video_11 : decode cX12_video 11 = .ok (.iload 4, 2) := zo_21 (b1 := 4) (zkb2 zk_cX12_video zn_cX12_video rfl)
theorem dX12_video_13 : decode cX12_video 13 = .ok (.ifCond .lt 24, 3) := zo_155 (b1 := 0) (b2 := 24) (zkb3 zk_cX12_video zn_cX12_video rfl) rfl
theorem dX12_video_16 : decode cX12_video 16 = .ok (.lload_n 2, 1) := zo_32 (zkb zk_cX12_video zn_cX12_video rfl)
theorem dX12_video_17 : decode cX12_video 17 = .ok (.bipush 8, 2) := zo_16 (b1 := 8) (zkb2 zk_cX12_video zn_cX12_video rfl) rfl
theorem dX12_video_19 : decode cX12_video 19 = .ok (.lshl, 1) := zo_121 (zkb zk_cX12_video zn_cX12_video rfl)
theorem dX12_video_20 : decode cX12_video 20 = .ok (.aload_n 0, 1) := zo_42 (zkb zk_cX12_video zn_cX12_video rfl)
theorem dX12_video_21 : decode cX12_video 21 = .ok (.iload_n 1, 1) := zo_27 (zkb zk_cX12_video zn_cX12_video rfl)
theorem dX12_video_22 : decode cX12_video 22 = .ok (.iload 4, 2) := zo_21 (b1 := 4) (zkb2 zk_cX12_video zn_cX12_video rfl)
theorem dX12_video_24 : decode cX12_video 24 = .ok (.iadd, 1) := zo_96 (zkb zk_cX12_video zn_cX12_video rfl)
theorem dX12_video_25 : decode cX12_video 25 = .ok (.invokevirtual 401, 3) := zo_182 (b1 := 1) (b2 := 145) (zkb3 zk_cX12_video zn_cX12_video rfl) rfl
theorem dX12_video_28 : decode cX12_video 28 = .ok (.i2l, 1) := zo_133 (zkb zk_cX12_video zn_cX12_video rfl)
theorem dX12_video_29 : decode cX12_video 29 = .ok (.lor, 1) := zo_129 (zkb zk_cX12_video zn_cX12_video rfl)
theorem dX12_video_30 : decode cX12_video 30 = .ok (.lstore_n 2, 1) := zo_65 (zkb zk_cX12_video zn_cX12_video rfl)
theorem dX12_video_31 : decode cX12_video 31 = .ok (.iinc 4 (-1), 3) := zo_132 (b1 := 4) (b2 := 255) (zkb3 zk_cX12_video zn_cX12_video rfl) rfl
theorem dX12_video_34 : decode cX12_video 34 = .ok (.goto (-23), 3) := zo_167 (b1 := 255) (b2 := 233) (zkb3 zk_cX12_video zn_cX12_video rfl) rfl
theorem dX12_video_37 : decode cX12_video 37 = .ok (.lload_n 2, 1) := zo_32 (zkb zk_cX12_video zn_cX12_video rfl)
theorem dX12_video_38 : decode cX12_video 38 = .ok (.lreturn, 1) := zo_173 (zkb zk_cX12_video zn_cX12_video rfl)
noncomputable def kn_cX12_chip : Nat := 0xac4301b62aac5301b62aac9701b62aac8e01b62aac2e43101600b42aac2e42101600b42aac2e41101600b42aac2e40101600b42aac030400a7040700996801b62a65000000600000005b000000530000004b000000430000003b0000002e00000018000000110000006a00000000aa1bac2e601b2f101600b42a0d00a211101bac7eff0011336420101b2800b42a1100a41f101bac030500997200b604030400a70407009a6e00b8c60114630114851b15009a6e00b8c2011409851b2a
theorem zk_cX12_chip : zkd cX12_chip.data.toList kn_cX12_chip = true := by decide +kernel
theorem zn_cX12_chip : cX12_chip.data.toList.length = 189 := by decide +kernel
theorem dX12_chip_0 : decode cX12_chip 0 = .ok (.aload_n 0, 1) := zo_42 (zkb zk_cX12_chip zn_cX12_chip rfl)
theorem dX12_chip_1 : decode cX12_chip 1 = .ok (.iload_n 1, 1) := zo_27 (zkb zk_cX12_chip zn_cX12_chip rfl)
theorem dX12_chip_2 : decode cX12_chip 2 = .ok (.i2l, 1) := zo_133 (zkb zk_cX12_chip zn_cX12_chip rfl)
theorem dX12_chip_3 : decode cX12_chip 3 = .ok (.lconst 0, 1) := zo_9 (zkb zk_cX12_chip zn_cX12_chip rfl)
theorem dX12_chip_4 : decode cX12_chip 4 = .ok (.ldc2_w 450, 3) := by decide +kernel
theorem dX12_chip_7 : decode cX12_chip 7 = .ok (.invokestatic 110, 3) := zo_184 (b1 := 0) (b2 := 110) (zkb3 zk_cX12_chip zn_cX12_chip rfl) rfl
theorem dX12_chip_10 : decode cX12_chip 10 = .ok (.ifCond .ne 21, 3) := zo_154 (b1 := 0) (b2 := 21) (zkb3 zk_cX12_chip zn_cX12_chip rfl) rfl
theorem dX12_chip_13 : decode cX12_chip 13 = .ok (.iload_n 1, 1) := zo_27 (zkb zk_cX12_chip zn_cX12_chip rfl)
theorem dX12_chip_14 : decode cX12_chip 14 = .ok (.i2l, 1) := zo_133 (zkb zk_cX12_chip zn_cX12_chip rfl)
theorem dX12_chip_15 : decode cX12_chip 15 = .ok (.ldc2_w 355, 3) := by decide +kernel
theorem dX12_chip_18 : decode cX12_chip 18 = .ok (.ldc2_w 454, 3) := by decide +kernel
theorem dX12_chip_21 : decode cX12_chip 21 = .ok (.invokestatic 110, 3) := zo_184 (b1 := 0) (b2 := 110) (zkb3 zk_cX12_chip zn_cX12_chip rfl) rfl
theorem dX12_chip_24 : decode cX12_chip 24 = .ok (.ifCond .ne 7, 3) := zo_154 (b1 := 0) (b2 := 7) (zkb3 zk_cX12_chip zn_cX12_chip rfl) rfl
theorem dX12_chip_27 : decode cX12_chip 27 = .ok (.iconst 1, 1) := zo_4 (zkb zk_cX12_chip zn_cX12_chip rfl)
theorem dX12_chip_28 : decode cX12_chip 28 = .ok (.goto 4, 3) := zo_167 (b1 := 0) (b2 := 4) (zkb3 zk_cX12_chip zn_cX12_chip rfl) rfl
theorem dX12_chip_31 : decode cX12_chip 31 = .ok (.iconst 0, 1) := zo_3 (zkb zk_cX12_chip zn_cX12_chip rfl)
theorem dX12_chip_32 : decode cX12_chip 32 = .ok (.iconst 1, 1) := zo_4 (zkb zk_cX12_chip zn_cX12_chip rfl)
theorem dX12_chip_33 : decode cX12_chip 33 = .ok (.invokevirtual 114, 3) := zo_182 (b1 := 0) (b2 := 114) (zkb3 zk_cX12_chip zn_cX12_chip rfl) rfl
theorem dX12_chip_36 : decode cX12_chip 36 = .ok (.ifCond .eq 5, 3) := zo_153 (b1 := 0) (b2 := 5) (zkb3 zk_cX12_chip zn_cX12_chip rfl) rfl
theorem dX12_chip_39 : decode cX12_chip 39 = .ok (.iconst 0, 1) := zo_3 (zkb zk_cX12_chip zn_cX12_chip rfl)
theorem dX12_chip_40 : decode cX12_chip 40 = .ok (.ireturn, 1) := zo_172 (zkb zk_cX12_chip zn_cX12_chip rfl)
theorem dX12_chip_41 : decode cX12_chip 41 = .ok (.iload_n 1, 1) := zo_27 (zkb zk_cX12_chip zn_cX12_chip rfl)
theorem dX12_chip_42 : decode cX12_chip 42 = .ok (.bipush 31, 2) := zo_16 (b1 := 31) (zkb2 zk_cX12_chip zn_cX12_chip rfl) rfl
theorem dX12_chip_44 : decode cX12_chip 44 = .ok (.if_icmp .le 17, 3) := zo_164 (b1 := 0) (b2 := 17) (zkb3 zk_cX12_chip zn_cX12_chip rfl) rfl
theorem dX12_chip_47 : decode cX12_chip 47 = .ok (.aload_n 0, 1) := zo_42 (zkb zk_cX12_chip zn_cX12_chip rfl)
theorem dX12_chip_48 : decode cX12_chip 48 = .ok (.getfield 40, 3) := zo_180 (b1 := 0) (b2 := 40) (zkb3 zk_cX12_chip zn_cX12_chip rfl) rfl
theorem dX12_chip_51 : decode cX12_chip 51 = .ok (.iload_n 1, 1) := zo_27 (zkb zk_cX12_chip zn_cX12_chip rfl)
theorem dX12_chip_52 : decode cX12_chip 52 = .ok (.bipush 32, 2) := zo_16 (b1 := 32) (zkb2 zk_cX12_chip zn_cX12_chip rfl) rfl
theorem dX12_chip_54 : decode cX12_chip 54 = .ok (.isub, 1) := zo_100 (zkb zk_cX12_chip zn_cX12_chip rfl)
theorem dX12_chip_55 : decode cX12_chip 55 = .ok (.baload, 1) := zo_51 (zkb zk_cX12_chip zn_cX12_chip rfl)
theorem dX12_chip_56 : decode cX12_chip 56 = .ok (.sipush 255, 3) := zo_17 (b1 := 0) (b2 := 255) (zkb3 zk_cX12_chip zn_cX12_chip rfl) rfl
theorem dX12_chip_59 : decode cX12_chip 59 = .ok (.iand, 1) := zo_126 (zkb zk_cX12_chip zn_cX12_chip rfl)
theorem dX12_chip_60 : decode cX12_chip 60 = .ok (.ireturn, 1) := zo_172 (zkb zk_cX12_chip zn_cX12_chip rfl)
theorem dX12_chip_61 : decode cX12_chip 61 = .ok (.iload_n 1, 1) := zo_27 (zkb zk_cX12_chip zn_cX12_chip rfl)
theorem dX12_chip_62 : decode cX12_chip 62 = .ok (.bipush 17, 2) := zo_16 (b1 := 17) (zkb2 zk_cX12_chip zn_cX12_chip rfl) rfl
theorem dX12_chip_64 : decode cX12_chip 64 = .ok (.if_icmp .ge 13, 3) := zo_162 (b1 := 0) (b2 := 13) (zkb3 zk_cX12_chip zn_cX12_chip rfl) rfl
theorem dX12_chip_67 : decode cX12_chip 67 = .ok (.aload_n 0, 1) := zo_42 (zkb zk_cX12_chip zn_cX12_chip rfl)
theorem dX12_chip_68 : decode cX12_chip 68 = .ok (.getfield 22, 3) := zo_180 (b1 := 0) (b2 := 22) (zkb3 zk_cX12_chip zn_cX12_chip rfl) rfl
theorem dX12_chip_71 : decode cX12_chip 71 = .ok (.bipush 47, 2) := zo_16 (b1 := 47) (zkb2 zk_cX12_chip zn_cX12_chip rfl) rfl
theorem dX12_chip_73 : decode cX12_chip 73 = .ok (.iload_n 1, 1) := zo_27 (zkb zk_cX12_chip zn_cX12_chip rfl)
theorem dX12_chip_74 : decode cX12_chip 74 = .ok (.iadd, 1) := zo_96 (zkb zk_cX12_chip zn_cX12_chip rfl)
theorem dX12_chip_75 : decode cX12_chip 75 = .ok (.iaload, 1) := zo_46 (zkb zk_cX12_chip zn_cX12_chip rfl)
theorem dX12_chip_76 : decode cX12_chip 76 = .ok (.ireturn, 1) := zo_172 (zkb zk_cX12_chip zn_cX12_chip rfl)
theorem dX12_chip_77 : decode cX12_chip 77 = .ok (.iload_n 1, 1) := zo_27 (zkb zk_cX12_chip zn_cX12_chip rfl)
theorem dX12_chip_78 : decode cX12_chip 78 = .ok (.tableswitch 106 17 24 #[46, 59, 67, 75, 83, 91, 96, 101], 46) := by decide +kernel
theorem dX12_chip_124 : decode cX12_chip 124 = .ok (.aload_n 0, 1) := zo_42 (zkb zk_cX12_chip zn_cX12_chip rfl)
theorem dX12_chip_125 : decode cX12_chip 125 = .ok (.invokevirtual 360, 3) := zo_182 (b1 := 1) (b2 := 104) (zkb3 zk_cX12_chip zn_cX12_chip rfl) rfl
theorem dX12_chip_128 : decode cX12_chip 128 = .ok (.ifCond .eq 7, 3) := zo_153 (b1 := 0) (b2 := 7) (zkb3 zk_cX12_chip zn_cX12_chip rfl) rfl
theorem dX12_chip_131 : decode cX12_chip 131 = .ok (.iconst 1, 1) := zo_4 (zkb zk_cX12_chip zn_cX12_chip rfl)
theorem dX12_chip_132 : decode cX12_chip 132 = .ok (.goto 4, 3) := zo_167 (b1 := 0) (b2 := 4) (zkb3 zk_cX12_chip zn_cX12_chip rfl) rfl
theorem dX12_chip_135 : decode cX12_chip 135 = .ok (.iconst 0, 1) := zo_3 (zkb zk_cX12_chip zn_cX12_chip rfl)
theorem dX12_chip_136 : decode cX12_chip 136 = .ok (.ireturn, 1) := zo_172 (zkb zk_cX12_chip zn_cX12_chip rfl)
theorem dX12_chip_137 : decode cX12_chip 137 = .ok (.aload_n 0, 1) := zo_42 (zkb zk_cX12_chip zn_cX12_chip rfl)
theorem dX12_chip_138 : decode cX12_chip 138 = .ok (.getfield 22, 3) := zo_180 (b1 := 0) (b2 := 22) (zkb3 zk_cX12_chip zn_cX12_chip rfl) rfl
theorem dX12_chip_141 : decode cX12_chip 141 = .ok (.bipush 64, 2) := zo_16 (b1 := 64) (zkb2 zk_cX12_chip zn_cX12_chip rfl) rfl
theorem dX12_chip_143 : decode cX12_chip 143 = .ok (.iaload, 1) := zo_46 (zkb zk_cX12_chip zn_cX12_chip rfl)
theorem dX12_chip_144 : decode cX12_chip 144 = .ok (.ireturn, 1) := zo_172 (zkb zk_cX12_chip zn_cX12_chip rfl)
theorem dX12_chip_145 : decode cX12_chip 145 = .ok (.aload_n 0, 1) := zo_42 (zkb zk_cX12_chip zn_cX12_chip rfl)
theorem dX12_chip_146 : decode cX12_chip 146 = .ok (.getfield 22, 3) := zo_180 (b1 := 0) (b2 := 22) (zkb3 zk_cX12_chip zn_cX12_chip rfl) rfl
theorem dX12_chip_149 : decode cX12_chip 149 = .ok (.bipush 65, 2) := zo_16 (b1 := 65) (zkb2 zk_cX12_chip zn_cX12_chip rfl) rfl
theorem dX12_chip_151 : decode cX12_chip 151 = .ok (.iaload, 1) := zo_46 (zkb zk_cX12_chip zn_cX12_chip rfl)
theorem dX12_chip_152 : decode cX12_chip 152 = .ok (.ireturn, 1) := zo_172 (zkb zk_cX12_chip zn_cX12_chip rfl)
theorem dX12_chip_153 : decode cX12_chip 153 = .ok (.aload_n 0, 1) := zo_42 (zkb zk_cX12_chip zn_cX12_chip rfl)
theorem dX12_chip_154 : decode cX12_chip 154 = .ok (.getfield 22, 3) := zo_180 (b1 := 0) (b2 := 22) (zkb3 zk_cX12_chip zn_cX12_chip rfl) rfl
theorem dX12_chip_157 : decode cX12_chip 157 = .ok (.bipush 66, 2) := zo_16 (b1 := 66) (zkb2 zk_cX12_chip zn_cX12_chip rfl) rfl
theorem dX12_chip_159 : decode cX12_chip 159 = .ok (.iaload, 1) := zo_46 (zkb zk_cX12_chip zn_cX12_chip rfl)
theorem dX12_chip_160 : decode cX12_chip 160 = .ok (.ireturn, 1) := zo_172 (zkb zk_cX12_chip zn_cX12_chip rfl)
theorem dX12_chip_161 : decode cX12_chip 161 = .ok (.aload_n 0, 1) := zo_42 (zkb zk_cX12_chip zn_cX12_chip rfl)
theorem dX12_chip_162 : decode cX12_chip 162 = .ok (.getfield 22, 3) := zo_180 (b1 := 0) (b2 := 22) (zkb3 zk_cX12_chip zn_cX12_chip rfl) rfl
theorem dX12_chip_165 : decode cX12_chip 165 = .ok (.bipush 67, 2) := zo_16 (b1 := 67) (zkb2 zk_cX12_chip zn_cX12_chip rfl) rfl
theorem dX12_chip_167 : decode cX12_chip 167 = .ok (.iaload, 1) := zo_46 (zkb zk_cX12_chip zn_cX12_chip rfl)
theorem dX12_chip_168 : decode cX12_chip 168 = .ok (.ireturn, 1) := zo_172 (zkb zk_cX12_chip zn_cX12_chip rfl)
theorem dX12_chip_169 : decode cX12_chip 169 = .ok (.aload_n 0, 1) := zo_42 (zkb zk_cX12_chip zn_cX12_chip rfl)
theorem dX12_chip_170 : decode cX12_chip 170 = .ok (.invokevirtual 398, 3) := zo_182 (b1 := 1) (b2 := 142) (zkb3 zk_cX12_chip zn_cX12_chip rfl) rfl
theorem dX12_chip_173 : decode cX12_chip 173 = .ok (.ireturn, 1) := zo_172 (zkb zk_cX12_chip zn_cX12_chip rfl)
theorem dX12_chip_174 : decode cX12_chip 174 = .ok (.aload_n 0, 1) := zo_42 (zkb zk_cX12_chip zn_cX12_chip rfl)
theorem dX12_chip_175 : decode cX12_chip 175 = .ok (.invokevirtual 407, 3) := zo_182 (b1 := 1) (b2 := 151) (zkb3 zk_cX12_chip zn_cX12_chip rfl) rfl
theorem dX12_chip_178 : decode cX12_chip 178 = .ok (.ireturn, 1) := zo_172 (zkb zk_cX12_chip zn_cX12_chip rfl)
theorem dX12_chip_179 : decode cX12_chip 179 = .ok (.aload_n 0, 1) := zo_42 (zkb zk_cX12_chip zn_cX12_chip rfl)
theorem dX12_chip_180 : decode cX12_chip 180 = .ok (.invokevirtual 339, 3) := zo_182 (b1 := 1) (b2 := 83) (zkb3 zk_cX12_chip zn_cX12_chip rfl) rfl
theorem dX12_chip_183 : decode cX12_chip 183 = .ok (.ireturn, 1) := zo_172 (zkb zk_cX12_chip zn_cX12_chip rfl)
theorem dX12_chip_184 : decode cX12_chip 184 = .ok (.aload_n 0, 1) := zo_42 (zkb zk_cX12_chip zn_cX12_chip rfl)
theorem dX12_chip_185 : decode cX12_chip 185 = .ok (.invokevirtual 323, 3) := zo_182 (b1 := 1) (b2 := 67) (zkb3 zk_cX12_chip zn_cX12_chip rfl) rfl
theorem dX12_chip_188 : decode cX12_chip 188 = .ok (.ireturn, 1) := zo_172 (zkb zk_cX12_chip zn_cX12_chip rfl)
noncomputable def kn_cX12_trace : Nat := 0xac2e887163011465851b650a5f01b42a5000b42a1600a70207009b945f01b42a851b0d00996e00b8c8011409851b6900b5032a
theorem zk_cX12_trace : zkd cX12_trace.data.toList kn_cX12_trace = true := by decide +kernel
theorem zn_cX12_trace : cX12_trace.data.toList.length = 51 := by decide +kernel
theorem dX12_trace_0 : decode cX12_trace 0 = .ok (.aload_n 0, 1) := zo_42 (zkb zk_cX12_trace zn_cX12_trace rfl)
theorem dX12_trace_1 : decode cX12_trace 1 = .ok (.iconst 0, 1) := zo_3 (zkb zk_cX12_trace zn_cX12_trace rfl)
theorem dX12_trace_2 : decode cX12_trace 2 = .ok (.putfield 105, 3) := zo_181 (b1 := 0) (b2 := 105) (zkb3 zk_cX12_trace zn_cX12_trace rfl) rfl
theorem dX12_trace_5 : decode cX12_trace 5 = .ok (.iload_n 1, 1) := zo_27 (zkb zk_cX12_trace zn_cX12_trace rfl)
theorem dX12_trace_6 : decode cX12_trace 6 = .ok (.i2l, 1) := zo_133 (zkb zk_cX12_trace zn_cX12_trace rfl)
theorem dX12_trace_7 : decode cX12_trace 7 = .ok (.lconst 0, 1) := zo_9 (zkb zk_cX12_trace zn_cX12_trace rfl)
theorem dX12_trace_8 : decode cX12_trace 8 = .ok (.ldc2_w 456, 3) := by decide +kernel
theorem dX12_trace_11 : decode cX12_trace 11 = .ok (.invokestatic 110, 3) := zo_184 (b1 := 0) (b2 := 110) (zkb3 zk_cX12_trace zn_cX12_trace rfl) rfl
theorem dX12_trace_14 : decode cX12_trace 14 = .ok (.ifCond .eq 13, 3) := zo_153 (b1 := 0) (b2 := 13) (zkb3 zk_cX12_trace zn_cX12_trace rfl) rfl
theorem dX12_trace_17 : decode cX12_trace 17 = .ok (.iload_n 1, 1) := zo_27 (zkb zk_cX12_trace zn_cX12_trace rfl)
theorem dX12_trace_18 : decode cX12_trace 18 = .ok (.i2l, 1) := zo_133 (zkb zk_cX12_trace zn_cX12_trace rfl)
theorem dX12_trace_19 : decode cX12_trace 19 = .ok (.aload_n 0, 1) := zo_42 (zkb zk_cX12_trace zn_cX12_trace rfl)
theorem dX12_trace_20 : decode cX12_trace 20 = .ok (.getfield 351, 3) := zo_180 (b1 := 1) (b2 := 95) (zkb3 zk_cX12_trace zn_cX12_trace rfl) rfl
theorem dX12_trace_23 : decode cX12_trace 23 = .ok (.lcmp, 1) := zo_148 (zkb zk_cX12_trace zn_cX12_trace rfl)
theorem dX12_trace_24 : decode cX12_trace 24 = .ok (.ifCond .lt 7, 3) := zo_155 (b1 := 0) (b2 := 7) (zkb3 zk_cX12_trace zn_cX12_trace rfl) rfl
theorem dX12_trace_27 : decode cX12_trace 27 = .ok (.iconst (-1), 1) := zo_2 (zkb zk_cX12_trace zn_cX12_trace rfl)
theorem dX12_trace_28 : decode cX12_trace 28 = .ok (.goto 22, 3) := zo_167 (b1 := 0) (b2 := 22) (zkb3 zk_cX12_trace zn_cX12_trace rfl) rfl
theorem dX12_trace_31 : decode cX12_trace 31 = .ok (.aload_n 0, 1) := zo_42 (zkb zk_cX12_trace zn_cX12_trace rfl)
theorem dX12_trace_32 : decode cX12_trace 32 = .ok (.getfield 80, 3) := zo_180 (b1 := 0) (b2 := 80) (zkb3 zk_cX12_trace zn_cX12_trace rfl) rfl
theorem dX12_trace_35 : decode cX12_trace 35 = .ok (.aload_n 0, 1) := zo_42 (zkb zk_cX12_trace zn_cX12_trace rfl)
theorem dX12_trace_36 : decode cX12_trace 36 = .ok (.getfield 351, 3) := zo_180 (b1 := 1) (b2 := 95) (zkb3 zk_cX12_trace zn_cX12_trace rfl) rfl
theorem dX12_trace_39 : decode cX12_trace 39 = .ok (.lconst 1, 1) := zo_10 (zkb zk_cX12_trace zn_cX12_trace rfl)
theorem dX12_trace_40 : decode cX12_trace 40 = .ok (.lsub, 1) := zo_101 (zkb zk_cX12_trace zn_cX12_trace rfl)
theorem dX12_trace_41 : decode cX12_trace 41 = .ok (.iload_n 1, 1) := zo_27 (zkb zk_cX12_trace zn_cX12_trace rfl)
theorem dX12_trace_42 : decode cX12_trace 42 = .ok (.i2l, 1) := zo_133 (zkb zk_cX12_trace zn_cX12_trace rfl)
theorem dX12_trace_43 : decode cX12_trace 43 = .ok (.lsub, 1) := zo_101 (zkb zk_cX12_trace zn_cX12_trace rfl)
theorem dX12_trace_44 : decode cX12_trace 44 = .ok (.ldc2_w 355, 3) := by decide +kernel
theorem dX12_trace_47 : decode cX12_trace 47 = .ok (.lrem, 1) := zo_113 (zkb zk_cX12_trace zn_cX12_trace rfl)
theorem dX12_trace_48 : decode cX12_trace 48 = .ok (.l2i, 1) := zo_136 (zkb zk_cX12_trace zn_cX12_trace rfl)
theorem dX12_trace_49 : decode cX12_trace 49 = .ok (.iaload, 1) := zo_46 (zkb zk_cX12_trace zn_cX12_trace rfl)
theorem dX12_trace_50 : decode cX12_trace 50 = .ok (.ireturn, 1) := zo_172 (zkb zk_cX12_trace zn_cX12_trace rfl)
noncomputable def kn_cX12_look : Nat := 0xad85ca01b42aad852ea900111600b42aad852eab00111600b42aad090400a70a0700999000b42aad852e21101600b42aad852e23101600b42aad852e1c101600b42aad852e640910601b1d101600b42aad852e20101600b42aad857900b42aad852e59101600b42aad857600b42aad2f061a00b42aad852e57101600b42aad2f1b1a00b42acd000000c3000000b6000000ad000000a40000009b0000008d0000008d0000008d000000840000007e000000750000006f000000680000005f0000005800000058000000580000001100000000000000d7000000000000aa1bad090500997200b604030400a70407009a6e00b8ba011409851b2a
theorem zk_cX12_look : zkd cX12_look.data.toList kn_cX12_look = true := by decide +kernel
theorem zn_cX12_look : cX12_look.data.toList.length = 249 := by decide +kernel
theorem dX12_look_0 : decode cX12_look 0 = .ok (.aload_n 0, 1) := zo_42 (zkb zk_cX12_look zn_cX12_look rfl)
theorem dX12_look_1 : decode cX12_look 1 = .ok (.iload_n 1, 1) := zo_27 (zkb zk_cX12_look zn_cX12_look rfl)
theorem dX12_look_2 : decode cX12_look 2 = .ok (.i2l, 1) := zo_133 (zkb zk_cX12_look zn_cX12_look rfl)
theorem dX12_look_3 : decode cX12_look 3 = .ok (.lconst 0, 1) := zo_9 (zkb zk_cX12_look zn_cX12_look rfl)
theorem dX12_look_4 : decode cX12_look 4 = .ok (.ldc2_w 442, 3) := by decide +kernel
theorem dX12_look_7 : decode cX12_look 7 = .ok (.invokestatic 110, 3) := zo_184 (b1 := 0) (b2 := 110) (zkb3 zk_cX12_look zn_cX12_look rfl) rfl
theorem dX12_look_10 : decode cX12_look 10 = .ok (.ifCond .ne 7, 3) := zo_154 (b1 := 0) (b2 := 7) (zkb3 zk_cX12_look zn_cX12_look rfl) rfl
theorem dX12_look_13 : decode cX12_look 13 = .ok (.iconst 1, 1) := zo_4 (zkb zk_cX12_look zn_cX12_look rfl)
theorem dX12_look_14 : decode cX12_look 14 = .ok (.goto 4, 3) := zo_167 (b1 := 0) (b2 := 4) (zkb3 zk_cX12_look zn_cX12_look rfl) rfl
theorem dX12_look_17 : decode cX12_look 17 = .ok (.iconst 0, 1) := zo_3 (zkb zk_cX12_look zn_cX12_look rfl)
theorem dX12_look_18 : decode cX12_look 18 = .ok (.iconst 1, 1) := zo_4 (zkb zk_cX12_look zn_cX12_look rfl)
theorem dX12_look_19 : decode cX12_look 19 = .ok (.invokevirtual 114, 3) := zo_182 (b1 := 0) (b2 := 114) (zkb3 zk_cX12_look zn_cX12_look rfl) rfl
theorem dX12_look_22 : decode cX12_look 22 = .ok (.ifCond .eq 5, 3) := zo_153 (b1 := 0) (b2 := 5) (zkb3 zk_cX12_look zn_cX12_look rfl) rfl
theorem dX12_look_25 : decode cX12_look 25 = .ok (.lconst 0, 1) := zo_9 (zkb zk_cX12_look zn_cX12_look rfl)
theorem dX12_look_26 : decode cX12_look 26 = .ok (.lreturn, 1) := zo_173 (zkb zk_cX12_look zn_cX12_look rfl)
theorem dX12_look_27 : decode cX12_look 27 = .ok (.iload_n 1, 1) := zo_27 (zkb zk_cX12_look zn_cX12_look rfl)
theorem dX12_look_28 : decode cX12_look 28 = .ok (.tableswitch 215 0 17 #[88, 88, 88, 95, 104, 111, 117, 126, 132, 141, 141, 141, 155, 164, 173, 182, 195, 205], 88) := by decide +kernel
theorem dX12_look_116 : decode cX12_look 116 = .ok (.aload_n 0, 1) := zo_42 (zkb zk_cX12_look zn_cX12_look rfl)
theorem dX12_look_117 : decode cX12_look 117 = .ok (.getfield 26, 3) := zo_180 (b1 := 0) (b2 := 26) (zkb3 zk_cX12_look zn_cX12_look rfl) rfl
theorem dX12_look_120 : decode cX12_look 120 = .ok (.iload_n 1, 1) := zo_27 (zkb zk_cX12_look zn_cX12_look rfl)
theorem dX12_look_121 : decode cX12_look 121 = .ok (.laload, 1) := zo_47 (zkb zk_cX12_look zn_cX12_look rfl)
theorem dX12_look_122 : decode cX12_look 122 = .ok (.lreturn, 1) := zo_173 (zkb zk_cX12_look zn_cX12_look rfl)
theorem dX12_look_123 : decode cX12_look 123 = .ok (.aload_n 0, 1) := zo_42 (zkb zk_cX12_look zn_cX12_look rfl)
theorem dX12_look_124 : decode cX12_look 124 = .ok (.getfield 22, 3) := zo_180 (b1 := 0) (b2 := 22) (zkb3 zk_cX12_look zn_cX12_look rfl) rfl
theorem dX12_look_127 : decode cX12_look 127 = .ok (.bipush 87, 2) := zo_16 (b1 := 87) (zkb2 zk_cX12_look zn_cX12_look rfl) rfl
theorem dX12_look_129 : decode cX12_look 129 = .ok (.iaload, 1) := zo_46 (zkb zk_cX12_look zn_cX12_look rfl)
theorem dX12_look_130 : decode cX12_look 130 = .ok (.i2l, 1) := zo_133 (zkb zk_cX12_look zn_cX12_look rfl)
theorem dX12_look_131 : decode cX12_look 131 = .ok (.lreturn, 1) := zo_173 (zkb zk_cX12_look zn_cX12_look rfl)
theorem dX12_look_132 : decode cX12_look 132 = .ok (.aload_n 0, 1) := zo_42 (zkb zk_cX12_look zn_cX12_look rfl)
theorem dX12_look_133 : decode cX12_look 133 = .ok (.getfield 26, 3) := zo_180 (b1 := 0) (b2 := 26) (zkb3 zk_cX12_look zn_cX12_look rfl) rfl
theorem dX12_look_136 : decode cX12_look 136 = .ok (.iconst 3, 1) := zo_6 (zkb zk_cX12_look zn_cX12_look rfl)
theorem dX12_look_137 : decode cX12_look 137 = .ok (.laload, 1) := zo_47 (zkb zk_cX12_look zn_cX12_look rfl)
theorem dX12_look_138 : decode cX12_look 138 = .ok (.lreturn, 1) := zo_173 (zkb zk_cX12_look zn_cX12_look rfl)
theorem dX12_look_139 : decode cX12_look 139 = .ok (.aload_n 0, 1) := zo_42 (zkb zk_cX12_look zn_cX12_look rfl)
theorem dX12_look_140 : decode cX12_look 140 = .ok (.getfield 118, 3) := zo_180 (b1 := 0) (b2 := 118) (zkb3 zk_cX12_look zn_cX12_look rfl) rfl
theorem dX12_look_143 : decode cX12_look 143 = .ok (.i2l, 1) := zo_133 (zkb zk_cX12_look zn_cX12_look rfl)
theorem dX12_look_144 : decode cX12_look 144 = .ok (.lreturn, 1) := zo_173 (zkb zk_cX12_look zn_cX12_look rfl)
theorem dX12_look_145 : decode cX12_look 145 = .ok (.aload_n 0, 1) := zo_42 (zkb zk_cX12_look zn_cX12_look rfl)
theorem dX12_look_146 : decode cX12_look 146 = .ok (.getfield 22, 3) := zo_180 (b1 := 0) (b2 := 22) (zkb3 zk_cX12_look zn_cX12_look rfl) rfl
theorem dX12_look_149 : decode cX12_look 149 = .ok (.bipush 89, 2) := zo_16 (b1 := 89) (zkb2 zk_cX12_look zn_cX12_look rfl) rfl
theorem dX12_look_151 : decode cX12_look 151 = .ok (.iaload, 1) := zo_46 (zkb zk_cX12_look zn_cX12_look rfl)
theorem dX12_look_152 : decode cX12_look 152 = .ok (.i2l, 1) := zo_133 (zkb zk_cX12_look zn_cX12_look rfl)
theorem dX12_look_153 : decode cX12_look 153 = .ok (.lreturn, 1) := zo_173 (zkb zk_cX12_look zn_cX12_look rfl)
theorem dX12_look_154 : decode cX12_look 154 = .ok (.aload_n 0, 1) := zo_42 (zkb zk_cX12_look zn_cX12_look rfl)
theorem dX12_look_155 : decode cX12_look 155 = .ok (.getfield 121, 3) := zo_180 (b1 := 0) (b2 := 121) (zkb3 zk_cX12_look zn_cX12_look rfl) rfl
theorem dX12_look_158 : decode cX12_look 158 = .ok (.i2l, 1) := zo_133 (zkb zk_cX12_look zn_cX12_look rfl)
theorem dX12_look_159 : decode cX12_look 159 = .ok (.lreturn, 1) := zo_173 (zkb zk_cX12_look zn_cX12_look rfl)
theorem dX12_look_160 : decode cX12_look 160 = .ok (.aload_n 0, 1) := zo_42 (zkb zk_cX12_look zn_cX12_look rfl)
theorem dX12_look_161 : decode cX12_look 161 = .ok (.getfield 22, 3) := zo_180 (b1 := 0) (b2 := 22) (zkb3 zk_cX12_look zn_cX12_look rfl) rfl
theorem dX12_look_164 : decode cX12_look 164 = .ok (.bipush 32, 2) := zo_16 (b1 := 32) (zkb2 zk_cX12_look zn_cX12_look rfl) rfl
theorem dX12_look_166 : decode cX12_look 166 = .ok (.iaload, 1) := zo_46 (zkb zk_cX12_look zn_cX12_look rfl)
theorem dX12_look_167 : decode cX12_look 167 = .ok (.i2l, 1) := zo_133 (zkb zk_cX12_look zn_cX12_look rfl)
theorem dX12_look_168 : decode cX12_look 168 = .ok (.lreturn, 1) := zo_173 (zkb zk_cX12_look zn_cX12_look rfl)
theorem dX12_look_169 : decode cX12_look 169 = .ok (.aload_n 0, 1) := zo_42 (zkb zk_cX12_look zn_cX12_look rfl)
theorem dX12_look_170 : decode cX12_look 170 = .ok (.getfield 22, 3) := zo_180 (b1 := 0) (b2 := 22) (zkb3 zk_cX12_look zn_cX12_look rfl) rfl
theorem dX12_look_173 : decode cX12_look 173 = .ok (.bipush 29, 2) := zo_16 (b1 := 29) (zkb2 zk_cX12_look zn_cX12_look rfl) rfl
theorem dX12_look_175 : decode cX12_look 175 = .ok (.iload_n 1, 1) := zo_27 (zkb zk_cX12_look zn_cX12_look rfl)
theorem dX12_look_176 : decode cX12_look 176 = .ok (.iadd, 1) := zo_96 (zkb zk_cX12_look zn_cX12_look rfl)
theorem dX12_look_177 : decode cX12_look 177 = .ok (.bipush 9, 2) := zo_16 (b1 := 9) (zkb2 zk_cX12_look zn_cX12_look rfl) rfl
theorem dX12_look_179 : decode cX12_look 179 = .ok (.isub, 1) := zo_100 (zkb zk_cX12_look zn_cX12_look rfl)
theorem dX12_look_180 : decode cX12_look 180 = .ok (.iaload, 1) := zo_46 (zkb zk_cX12_look zn_cX12_look rfl)
theorem dX12_look_181 : decode cX12_look 181 = .ok (.i2l, 1) := zo_133 (zkb zk_cX12_look zn_cX12_look rfl)
theorem dX12_look_182 : decode cX12_look 182 = .ok (.lreturn, 1) := zo_173 (zkb zk_cX12_look zn_cX12_look rfl)
theorem dX12_look_183 : decode cX12_look 183 = .ok (.aload_n 0, 1) := zo_42 (zkb zk_cX12_look zn_cX12_look rfl)
theorem dX12_look_184 : decode cX12_look 184 = .ok (.getfield 22, 3) := zo_180 (b1 := 0) (b2 := 22) (zkb3 zk_cX12_look zn_cX12_look rfl) rfl
theorem dX12_look_187 : decode cX12_look 187 = .ok (.bipush 28, 2) := zo_16 (b1 := 28) (zkb2 zk_cX12_look zn_cX12_look rfl) rfl
theorem dX12_look_189 : decode cX12_look 189 = .ok (.iaload, 1) := zo_46 (zkb zk_cX12_look zn_cX12_look rfl)
theorem dX12_look_190 : decode cX12_look 190 = .ok (.i2l, 1) := zo_133 (zkb zk_cX12_look zn_cX12_look rfl)
theorem dX12_look_191 : decode cX12_look 191 = .ok (.lreturn, 1) := zo_173 (zkb zk_cX12_look zn_cX12_look rfl)
theorem dX12_look_192 : decode cX12_look 192 = .ok (.aload_n 0, 1) := zo_42 (zkb zk_cX12_look zn_cX12_look rfl)
theorem dX12_look_193 : decode cX12_look 193 = .ok (.getfield 22, 3) := zo_180 (b1 := 0) (b2 := 22) (zkb3 zk_cX12_look zn_cX12_look rfl) rfl
theorem dX12_look_196 : decode cX12_look 196 = .ok (.bipush 35, 2) := zo_16 (b1 := 35) (zkb2 zk_cX12_look zn_cX12_look rfl) rfl
theorem dX12_look_198 : decode cX12_look 198 = .ok (.iaload, 1) := zo_46 (zkb zk_cX12_look zn_cX12_look rfl)
theorem dX12_look_199 : decode cX12_look 199 = .ok (.i2l, 1) := zo_133 (zkb zk_cX12_look zn_cX12_look rfl)
theorem dX12_look_200 : decode cX12_look 200 = .ok (.lreturn, 1) := zo_173 (zkb zk_cX12_look zn_cX12_look rfl)
theorem dX12_look_201 : decode cX12_look 201 = .ok (.aload_n 0, 1) := zo_42 (zkb zk_cX12_look zn_cX12_look rfl)
theorem dX12_look_202 : decode cX12_look 202 = .ok (.getfield 22, 3) := zo_180 (b1 := 0) (b2 := 22) (zkb3 zk_cX12_look zn_cX12_look rfl) rfl
theorem dX12_look_205 : decode cX12_look 205 = .ok (.bipush 33, 2) := zo_16 (b1 := 33) (zkb2 zk_cX12_look zn_cX12_look rfl) rfl
theorem dX12_look_207 : decode cX12_look 207 = .ok (.iaload, 1) := zo_46 (zkb zk_cX12_look zn_cX12_look rfl)
theorem dX12_look_208 : decode cX12_look 208 = .ok (.i2l, 1) := zo_133 (zkb zk_cX12_look zn_cX12_look rfl)
theorem dX12_look_209 : decode cX12_look 209 = .ok (.lreturn, 1) := zo_173 (zkb zk_cX12_look zn_cX12_look rfl)
theorem dX12_look_210 : decode cX12_look 210 = .ok (.aload_n 0, 1) := zo_42 (zkb zk_cX12_look zn_cX12_look rfl)
theorem dX12_look_211 : decode cX12_look 211 = .ok (.getfield 144, 3) := zo_180 (b1 := 0) (b2 := 144) (zkb3 zk_cX12_look zn_cX12_look rfl) rfl
theorem dX12_look_214 : decode cX12_look 214 = .ok (.ifCond .eq 7, 3) := zo_153 (b1 := 0) (b2 := 7) (zkb3 zk_cX12_look zn_cX12_look rfl) rfl
theorem dX12_look_217 : decode cX12_look 217 = .ok (.lconst 1, 1) := zo_10 (zkb zk_cX12_look zn_cX12_look rfl)
theorem dX12_look_218 : decode cX12_look 218 = .ok (.goto 4, 3) := zo_167 (b1 := 0) (b2 := 4) (zkb3 zk_cX12_look zn_cX12_look rfl) rfl
theorem dX12_look_221 : decode cX12_look 221 = .ok (.lconst 0, 1) := zo_9 (zkb zk_cX12_look zn_cX12_look rfl)
theorem dX12_look_222 : decode cX12_look 222 = .ok (.lreturn, 1) := zo_173 (zkb zk_cX12_look zn_cX12_look rfl)
theorem dX12_look_223 : decode cX12_look 223 = .ok (.aload_n 0, 1) := zo_42 (zkb zk_cX12_look zn_cX12_look rfl)
theorem dX12_look_224 : decode cX12_look 224 = .ok (.getfield 22, 3) := zo_180 (b1 := 0) (b2 := 22) (zkb3 zk_cX12_look zn_cX12_look rfl) rfl
theorem dX12_look_227 : decode cX12_look 227 = .ok (.sipush 171, 3) := zo_17 (b1 := 0) (b2 := 171) (zkb3 zk_cX12_look zn_cX12_look rfl) rfl
theorem dX12_look_230 : decode cX12_look 230 = .ok (.iaload, 1) := zo_46 (zkb zk_cX12_look zn_cX12_look rfl)
theorem dX12_look_231 : decode cX12_look 231 = .ok (.i2l, 1) := zo_133 (zkb zk_cX12_look zn_cX12_look rfl)
theorem dX12_look_232 : decode cX12_look 232 = .ok (.lreturn, 1) := zo_173 (zkb zk_cX12_look zn_cX12_look rfl)
theorem dX12_look_233 : decode cX12_look 233 = .ok (.aload_n 0, 1) := zo_42 (zkb zk_cX12_look zn_cX12_look rfl)
theorem dX12_look_234 : decode cX12_look 234 = .ok (.getfield 22, 3) := zo_180 (b1 := 0) (b2 := 22) (zkb3 zk_cX12_look zn_cX12_look rfl) rfl
theorem dX12_look_237 : decode cX12_look 237 = .ok (.sipush 169, 3) := zo_17 (b1 := 0) (b2 := 169) (zkb3 zk_cX12_look zn_cX12_look rfl) rfl
theorem dX12_look_240 : decode cX12_look 240 = .ok (.iaload, 1) := zo_46 (zkb zk_cX12_look zn_cX12_look rfl)
theorem dX12_look_241 : decode cX12_look 241 = .ok (.i2l, 1) := zo_133 (zkb zk_cX12_look zn_cX12_look rfl)
theorem dX12_look_242 : decode cX12_look 242 = .ok (.lreturn, 1) := zo_173 (zkb zk_cX12_look zn_cX12_look rfl)
theorem dX12_look_243 : decode cX12_look 243 = .ok (.aload_n 0, 1) := zo_42 (zkb zk_cX12_look zn_cX12_look rfl)
theorem dX12_look_244 : decode cX12_look 244 = .ok (.getfield 458, 3) := zo_180 (b1 := 1) (b2 := 202) (zkb3 zk_cX12_look zn_cX12_look rfl) rfl
theorem dX12_look_247 : decode cX12_look 247 = .ok (.i2l, 1) := zo_133 (zkb zk_cX12_look zn_cX12_look rfl)
theorem dX12_look_248 : decode cX12_look 248 = .ok (.lreturn, 1) := zo_173 (zkb zk_cX12_look zn_cX12_look rfl)
noncomputable def kn_cX12_mix : Nat := 0xad1f4f64042e5ca900111600b42a4f7000101160042eaa00111600b42aaa00111600b42a402f2eaa00111600b42a3200b42aad090500997200b604030400a70407009a2ea900111600b42a2a
theorem zk_cX12_mix : zkd cX12_mix.data.toList kn_cX12_mix = true := by decide +kernel
theorem zn_cX12_mix : cX12_mix.data.toList.length = 76 := by decide +kernel
theorem dX12_mix_0 : decode cX12_mix 0 = .ok (.aload_n 0, 1) := zo_42 (zkb zk_cX12_mix zn_cX12_mix rfl)
theorem dX12_mix_1 : decode cX12_mix 1 = .ok (.aload_n 0, 1) := zo_42 (zkb zk_cX12_mix zn_cX12_mix rfl)
theorem dX12_mix_2 : decode cX12_mix 2 = .ok (.getfield 22, 3) := zo_180 (b1 := 0) (b2 := 22) (zkb3 zk_cX12_mix zn_cX12_mix rfl) rfl
theorem dX12_mix_5 : decode cX12_mix 5 = .ok (.sipush 169, 3) := zo_17 (b1 := 0) (b2 := 169) (zkb3 zk_cX12_mix zn_cX12_mix rfl) rfl
theorem dX12_mix_8 : decode cX12_mix 8 = .ok (.iaload, 1) := zo_46 (zkb zk_cX12_mix zn_cX12_mix rfl)
theorem dX12_mix_9 : decode cX12_mix 9 = .ok (.ifCond .ne 7, 3) := zo_154 (b1 := 0) (b2 := 7) (zkb3 zk_cX12_mix zn_cX12_mix rfl) rfl
theorem dX12_mix_12 : decode cX12_mix 12 = .ok (.iconst 1, 1) := zo_4 (zkb zk_cX12_mix zn_cX12_mix rfl)
theorem dX12_mix_13 : decode cX12_mix 13 = .ok (.goto 4, 3) := zo_167 (b1 := 0) (b2 := 4) (zkb3 zk_cX12_mix zn_cX12_mix rfl) rfl
theorem dX12_mix_16 : decode cX12_mix 16 = .ok (.iconst 0, 1) := zo_3 (zkb zk_cX12_mix zn_cX12_mix rfl)
theorem dX12_mix_17 : decode cX12_mix 17 = .ok (.iconst 1, 1) := zo_4 (zkb zk_cX12_mix zn_cX12_mix rfl)
theorem dX12_mix_18 : decode cX12_mix 18 = .ok (.invokevirtual 114, 3) := zo_182 (b1 := 0) (b2 := 114) (zkb3 zk_cX12_mix zn_cX12_mix rfl) rfl
theorem dX12_mix_21 : decode cX12_mix 21 = .ok (.ifCond .eq 5, 3) := zo_153 (b1 := 0) (b2 := 5) (zkb3 zk_cX12_mix zn_cX12_mix rfl) rfl
theorem dX12_mix_24 : decode cX12_mix 24 = .ok (.lconst 0, 1) := zo_9 (zkb zk_cX12_mix zn_cX12_mix rfl)
theorem dX12_mix_25 : decode cX12_mix 25 = .ok (.lreturn, 1) := zo_173 (zkb zk_cX12_mix zn_cX12_mix rfl)
theorem dX12_mix_26 : decode cX12_mix 26 = .ok (.aload_n 0, 1) := zo_42 (zkb zk_cX12_mix zn_cX12_mix rfl)
theorem dX12_mix_27 : decode cX12_mix 27 = .ok (.getfield 50, 3) := zo_180 (b1 := 0) (b2 := 50) (zkb3 zk_cX12_mix zn_cX12_mix rfl) rfl
theorem dX12_mix_30 : decode cX12_mix 30 = .ok (.aload_n 0, 1) := zo_42 (zkb zk_cX12_mix zn_cX12_mix rfl)
theorem dX12_mix_31 : decode cX12_mix 31 = .ok (.getfield 22, 3) := zo_180 (b1 := 0) (b2 := 22) (zkb3 zk_cX12_mix zn_cX12_mix rfl) rfl
theorem dX12_mix_34 : decode cX12_mix 34 = .ok (.sipush 170, 3) := zo_17 (b1 := 0) (b2 := 170) (zkb3 zk_cX12_mix zn_cX12_mix rfl) rfl
theorem dX12_mix_37 : decode cX12_mix 37 = .ok (.iaload, 1) := zo_46 (zkb zk_cX12_mix zn_cX12_mix rfl)
theorem dX12_mix_38 : decode cX12_mix 38 = .ok (.laload, 1) := zo_47 (zkb zk_cX12_mix zn_cX12_mix rfl)
theorem dX12_mix_39 : decode cX12_mix 39 = .ok (.lstore_n 1, 1) := zo_64 (zkb zk_cX12_mix zn_cX12_mix rfl)
theorem dX12_mix_40 : decode cX12_mix 40 = .ok (.aload_n 0, 1) := zo_42 (zkb zk_cX12_mix zn_cX12_mix rfl)
theorem dX12_mix_41 : decode cX12_mix 41 = .ok (.getfield 22, 3) := zo_180 (b1 := 0) (b2 := 22) (zkb3 zk_cX12_mix zn_cX12_mix rfl) rfl
theorem dX12_mix_44 : decode cX12_mix 44 = .ok (.sipush 170, 3) := zo_17 (b1 := 0) (b2 := 170) (zkb3 zk_cX12_mix zn_cX12_mix rfl) rfl
theorem dX12_mix_47 : decode cX12_mix 47 = .ok (.aload_n 0, 1) := zo_42 (zkb zk_cX12_mix zn_cX12_mix rfl)
theorem dX12_mix_48 : decode cX12_mix 48 = .ok (.getfield 22, 3) := zo_180 (b1 := 0) (b2 := 22) (zkb3 zk_cX12_mix zn_cX12_mix rfl) rfl
theorem dX12_mix_51 : decode cX12_mix 51 = .ok (.sipush 170, 3) := zo_17 (b1 := 0) (b2 := 170) (zkb3 zk_cX12_mix zn_cX12_mix rfl) rfl
theorem dX12_mix_54 : decode cX12_mix 54 = .ok (.iaload, 1) := zo_46 (zkb zk_cX12_mix zn_cX12_mix rfl)
theorem dX12_mix_55 : decode cX12_mix 55 = .ok (.iconst 1, 1) := zo_4 (zkb zk_cX12_mix zn_cX12_mix rfl)
theorem dX12_mix_56 : decode cX12_mix 56 = .ok (.iadd, 1) := zo_96 (zkb zk_cX12_mix zn_cX12_mix rfl)
theorem dX12_mix_57 : decode cX12_mix 57 = .ok (.sipush 4096, 3) := zo_17 (b1 := 16) (b2 := 0) (zkb3 zk_cX12_mix zn_cX12_mix rfl) rfl
theorem dX12_mix_60 : decode cX12_mix 60 = .ok (.irem, 1) := zo_112 (zkb zk_cX12_mix zn_cX12_mix rfl)
theorem dX12_mix_61 : decode cX12_mix 61 = .ok (.iastore, 1) := zo_79 (zkb zk_cX12_mix zn_cX12_mix rfl)
theorem dX12_mix_62 : decode cX12_mix 62 = .ok (.aload_n 0, 1) := zo_42 (zkb zk_cX12_mix zn_cX12_mix rfl)
theorem dX12_mix_63 : decode cX12_mix 63 = .ok (.getfield 22, 3) := zo_180 (b1 := 0) (b2 := 22) (zkb3 zk_cX12_mix zn_cX12_mix rfl) rfl
theorem dX12_mix_66 : decode cX12_mix 66 = .ok (.sipush 169, 3) := zo_17 (b1 := 0) (b2 := 169) (zkb3 zk_cX12_mix zn_cX12_mix rfl) rfl
theorem dX12_mix_69 : decode cX12_mix 69 = .ok (.dup2, 1) := zo_92 (zkb zk_cX12_mix zn_cX12_mix rfl)
theorem dX12_mix_70 : decode cX12_mix 70 = .ok (.iaload, 1) := zo_46 (zkb zk_cX12_mix zn_cX12_mix rfl)
theorem dX12_mix_71 : decode cX12_mix 71 = .ok (.iconst 1, 1) := zo_4 (zkb zk_cX12_mix zn_cX12_mix rfl)
theorem dX12_mix_72 : decode cX12_mix 72 = .ok (.isub, 1) := zo_100 (zkb zk_cX12_mix zn_cX12_mix rfl)
theorem dX12_mix_73 : decode cX12_mix 73 = .ok (.iastore, 1) := zo_79 (zkb zk_cX12_mix zn_cX12_mix rfl)
theorem dX12_mix_74 : decode cX12_mix 74 = .ok (.lload_n 1, 1) := zo_31 (zkb zk_cX12_mix zn_cX12_mix rfl)
theorem dX12_mix_75 : decode cX12_mix 75 = .ok (.lreturn, 1) := zo_173 (zkb zk_cX12_mix zn_cX12_mix rfl)
noncomputable def kn_cX12_wave : Nat := 0xac2e607008101b60686c0810648000111b0610ac00111600b42aac2ea500111600b42a0c00a043101bac8871b801142f071a00b42a0f00a042101bac2ea400111600b42a0c00a041101bac2ea300111600b42a0c00a040101baccd01b61b2a0900a240101bac030500997200b604030400a7040700a106107008101b0c00996e00b81c02141a0214851b1e009a6e00b818021409851b2a
theorem zk_cX12_wave : zkd cX12_wave.data.toList kn_cX12_wave = true := by decide +kernel
theorem zn_cX12_wave : cX12_wave.data.toList.length = 151 := by decide +kernel
theorem dX12_wave_0 : decode cX12_wave 0 = .ok (.aload_n 0, 1) := zo_42 (zkb zk_cX12_wave zn_cX12_wave rfl)
theorem dX12_wave_1 : decode cX12_wave 1 = .ok (.iload_n 1, 1) := zo_27 (zkb zk_cX12_wave zn_cX12_wave rfl)
theorem dX12_wave_2 : decode cX12_wave 2 = .ok (.i2l, 1) := zo_133 (zkb zk_cX12_wave zn_cX12_wave rfl)
theorem dX12_wave_3 : decode cX12_wave 3 = .ok (.lconst 0, 1) := zo_9 (zkb zk_cX12_wave zn_cX12_wave rfl)
theorem dX12_wave_4 : decode cX12_wave 4 = .ok (.ldc2_w 536, 3) := by decide +kernel
theorem dX12_wave_7 : decode cX12_wave 7 = .ok (.invokestatic 110, 3) := zo_184 (b1 := 0) (b2 := 110) (zkb3 zk_cX12_wave zn_cX12_wave rfl) rfl
theorem dX12_wave_10 : decode cX12_wave 10 = .ok (.ifCond .ne 30, 3) := zo_154 (b1 := 0) (b2 := 30) (zkb3 zk_cX12_wave zn_cX12_wave rfl) rfl
theorem dX12_wave_13 : decode cX12_wave 13 = .ok (.iload_n 1, 1) := zo_27 (zkb zk_cX12_wave zn_cX12_wave rfl)
theorem dX12_wave_14 : decode cX12_wave 14 = .ok (.i2l, 1) := zo_133 (zkb zk_cX12_wave zn_cX12_wave rfl)
theorem dX12_wave_15 : decode cX12_wave 15 = .ok (.ldc2_w 538, 3) := by decide +kernel
theorem dX12_wave_18 : decode cX12_wave 18 = .ok (.ldc2_w 540, 3) := by decide +kernel
theorem dX12_wave_21 : decode cX12_wave 21 = .ok (.invokestatic 110, 3) := zo_184 (b1 := 0) (b2 := 110) (zkb3 zk_cX12_wave zn_cX12_wave rfl) rfl
theorem dX12_wave_24 : decode cX12_wave 24 = .ok (.ifCond .eq 12, 3) := zo_153 (b1 := 0) (b2 := 12) (zkb3 zk_cX12_wave zn_cX12_wave rfl) rfl
theorem dX12_wave_27 : decode cX12_wave 27 = .ok (.iload_n 1, 1) := zo_27 (zkb zk_cX12_wave zn_cX12_wave rfl)
theorem dX12_wave_28 : decode cX12_wave 28 = .ok (.bipush 8, 2) := zo_16 (b1 := 8) (zkb2 zk_cX12_wave zn_cX12_wave rfl) rfl
theorem dX12_wave_30 : decode cX12_wave 30 = .ok (.irem, 1) := zo_112 (zkb zk_cX12_wave zn_cX12_wave rfl)
theorem dX12_wave_31 : decode cX12_wave 31 = .ok (.bipush 6, 2) := zo_16 (b1 := 6) (zkb2 zk_cX12_wave zn_cX12_wave rfl) rfl
theorem dX12_wave_33 : decode cX12_wave 33 = .ok (.if_icmp .lt 7, 3) := zo_161 (b1 := 0) (b2 := 7) (zkb3 zk_cX12_wave zn_cX12_wave rfl) rfl
theorem dX12_wave_36 : decode cX12_wave 36 = .ok (.iconst 1, 1) := zo_4 (zkb zk_cX12_wave zn_cX12_wave rfl)
theorem dX12_wave_37 : decode cX12_wave 37 = .ok (.goto 4, 3) := zo_167 (b1 := 0) (b2 := 4) (zkb3 zk_cX12_wave zn_cX12_wave rfl) rfl
theorem dX12_wave_40 : decode cX12_wave 40 = .ok (.iconst 0, 1) := zo_3 (zkb zk_cX12_wave zn_cX12_wave rfl)
theorem dX12_wave_41 : decode cX12_wave 41 = .ok (.iconst 1, 1) := zo_4 (zkb zk_cX12_wave zn_cX12_wave rfl)
theorem dX12_wave_42 : decode cX12_wave 42 = .ok (.invokevirtual 114, 3) := zo_182 (b1 := 0) (b2 := 114) (zkb3 zk_cX12_wave zn_cX12_wave rfl) rfl
theorem dX12_wave_45 : decode cX12_wave 45 = .ok (.ifCond .eq 5, 3) := zo_153 (b1 := 0) (b2 := 5) (zkb3 zk_cX12_wave zn_cX12_wave rfl) rfl
theorem dX12_wave_48 : decode cX12_wave 48 = .ok (.iconst 0, 1) := zo_3 (zkb zk_cX12_wave zn_cX12_wave rfl)
theorem dX12_wave_49 : decode cX12_wave 49 = .ok (.ireturn, 1) := zo_172 (zkb zk_cX12_wave zn_cX12_wave rfl)
theorem dX12_wave_50 : decode cX12_wave 50 = .ok (.iload_n 1, 1) := zo_27 (zkb zk_cX12_wave zn_cX12_wave rfl)
theorem dX12_wave_51 : decode cX12_wave 51 = .ok (.bipush 64, 2) := zo_16 (b1 := 64) (zkb2 zk_cX12_wave zn_cX12_wave rfl) rfl
theorem dX12_wave_53 : decode cX12_wave 53 = .ok (.if_icmp .ge 9, 3) := zo_162 (b1 := 0) (b2 := 9) (zkb3 zk_cX12_wave zn_cX12_wave rfl) rfl
theorem dX12_wave_56 : decode cX12_wave 56 = .ok (.aload_n 0, 1) := zo_42 (zkb zk_cX12_wave zn_cX12_wave rfl)
theorem dX12_wave_57 : decode cX12_wave 57 = .ok (.iload_n 1, 1) := zo_27 (zkb zk_cX12_wave zn_cX12_wave rfl)
theorem dX12_wave_58 : decode cX12_wave 58 = .ok (.invokevirtual 461, 3) := zo_182 (b1 := 1) (b2 := 205) (zkb3 zk_cX12_wave zn_cX12_wave rfl) rfl
theorem dX12_wave_61 : decode cX12_wave 61 = .ok (.ireturn, 1) := zo_172 (zkb zk_cX12_wave zn_cX12_wave rfl)
theorem dX12_wave_62 : decode cX12_wave 62 = .ok (.iload_n 1, 1) := zo_27 (zkb zk_cX12_wave zn_cX12_wave rfl)
theorem dX12_wave_63 : decode cX12_wave 63 = .ok (.bipush 64, 2) := zo_16 (b1 := 64) (zkb2 zk_cX12_wave zn_cX12_wave rfl) rfl
theorem dX12_wave_65 : decode cX12_wave 65 = .ok (.if_icmp .ne 12, 3) := zo_160 (b1 := 0) (b2 := 12) (zkb3 zk_cX12_wave zn_cX12_wave rfl) rfl
theorem dX12_wave_68 : decode cX12_wave 68 = .ok (.aload_n 0, 1) := zo_42 (zkb zk_cX12_wave zn_cX12_wave rfl)
theorem dX12_wave_69 : decode cX12_wave 69 = .ok (.getfield 22, 3) := zo_180 (b1 := 0) (b2 := 22) (zkb3 zk_cX12_wave zn_cX12_wave rfl) rfl
theorem dX12_wave_72 : decode cX12_wave 72 = .ok (.sipush 163, 3) := zo_17 (b1 := 0) (b2 := 163) (zkb3 zk_cX12_wave zn_cX12_wave rfl) rfl
theorem dX12_wave_75 : decode cX12_wave 75 = .ok (.iaload, 1) := zo_46 (zkb zk_cX12_wave zn_cX12_wave rfl)
theorem dX12_wave_76 : decode cX12_wave 76 = .ok (.ireturn, 1) := zo_172 (zkb zk_cX12_wave zn_cX12_wave rfl)
theorem dX12_wave_77 : decode cX12_wave 77 = .ok (.iload_n 1, 1) := zo_27 (zkb zk_cX12_wave zn_cX12_wave rfl)
theorem dX12_wave_78 : decode cX12_wave 78 = .ok (.bipush 65, 2) := zo_16 (b1 := 65) (zkb2 zk_cX12_wave zn_cX12_wave rfl) rfl
theorem dX12_wave_80 : decode cX12_wave 80 = .ok (.if_icmp .ne 12, 3) := zo_160 (b1 := 0) (b2 := 12) (zkb3 zk_cX12_wave zn_cX12_wave rfl) rfl
theorem dX12_wave_83 : decode cX12_wave 83 = .ok (.aload_n 0, 1) := zo_42 (zkb zk_cX12_wave zn_cX12_wave rfl)
theorem dX12_wave_84 : decode cX12_wave 84 = .ok (.getfield 22, 3) := zo_180 (b1 := 0) (b2 := 22) (zkb3 zk_cX12_wave zn_cX12_wave rfl) rfl
theorem dX12_wave_87 : decode cX12_wave 87 = .ok (.sipush 164, 3) := zo_17 (b1 := 0) (b2 := 164) (zkb3 zk_cX12_wave zn_cX12_wave rfl) rfl
theorem dX12_wave_90 : decode cX12_wave 90 = .ok (.iaload, 1) := zo_46 (zkb zk_cX12_wave zn_cX12_wave rfl)
theorem dX12_wave_91 : decode cX12_wave 91 = .ok (.ireturn, 1) := zo_172 (zkb zk_cX12_wave zn_cX12_wave rfl)
theorem dX12_wave_92 : decode cX12_wave 92 = .ok (.iload_n 1, 1) := zo_27 (zkb zk_cX12_wave zn_cX12_wave rfl)
theorem dX12_wave_93 : decode cX12_wave 93 = .ok (.bipush 66, 2) := zo_16 (b1 := 66) (zkb2 zk_cX12_wave zn_cX12_wave rfl) rfl
theorem dX12_wave_95 : decode cX12_wave 95 = .ok (.if_icmp .ne 15, 3) := zo_160 (b1 := 0) (b2 := 15) (zkb3 zk_cX12_wave zn_cX12_wave rfl) rfl
theorem dX12_wave_98 : decode cX12_wave 98 = .ok (.aload_n 0, 1) := zo_42 (zkb zk_cX12_wave zn_cX12_wave rfl)
theorem dX12_wave_99 : decode cX12_wave 99 = .ok (.getfield 26, 3) := zo_180 (b1 := 0) (b2 := 26) (zkb3 zk_cX12_wave zn_cX12_wave rfl) rfl
theorem dX12_wave_102 : decode cX12_wave 102 = .ok (.iconst 4, 1) := zo_7 (zkb zk_cX12_wave zn_cX12_wave rfl)
theorem dX12_wave_103 : decode cX12_wave 103 = .ok (.laload, 1) := zo_47 (zkb zk_cX12_wave zn_cX12_wave rfl)
theorem dX12_wave_104 : decode cX12_wave 104 = .ok (.ldc2_w 440, 3) := by decide +kernel
theorem dX12_wave_107 : decode cX12_wave 107 = .ok (.lrem, 1) := zo_113 (zkb zk_cX12_wave zn_cX12_wave rfl)
theorem dX12_wave_108 : decode cX12_wave 108 = .ok (.l2i, 1) := zo_136 (zkb zk_cX12_wave zn_cX12_wave rfl)
theorem dX12_wave_109 : decode cX12_wave 109 = .ok (.ireturn, 1) := zo_172 (zkb zk_cX12_wave zn_cX12_wave rfl)
theorem dX12_wave_110 : decode cX12_wave 110 = .ok (.iload_n 1, 1) := zo_27 (zkb zk_cX12_wave zn_cX12_wave rfl)
theorem dX12_wave_111 : decode cX12_wave 111 = .ok (.bipush 67, 2) := zo_16 (b1 := 67) (zkb2 zk_cX12_wave zn_cX12_wave rfl) rfl
theorem dX12_wave_113 : decode cX12_wave 113 = .ok (.if_icmp .ne 12, 3) := zo_160 (b1 := 0) (b2 := 12) (zkb3 zk_cX12_wave zn_cX12_wave rfl) rfl
theorem dX12_wave_116 : decode cX12_wave 116 = .ok (.aload_n 0, 1) := zo_42 (zkb zk_cX12_wave zn_cX12_wave rfl)
theorem dX12_wave_117 : decode cX12_wave 117 = .ok (.getfield 22, 3) := zo_180 (b1 := 0) (b2 := 22) (zkb3 zk_cX12_wave zn_cX12_wave rfl) rfl
theorem dX12_wave_120 : decode cX12_wave 120 = .ok (.sipush 165, 3) := zo_17 (b1 := 0) (b2 := 165) (zkb3 zk_cX12_wave zn_cX12_wave rfl) rfl
theorem dX12_wave_123 : decode cX12_wave 123 = .ok (.iaload, 1) := zo_46 (zkb zk_cX12_wave zn_cX12_wave rfl)
theorem dX12_wave_124 : decode cX12_wave 124 = .ok (.ireturn, 1) := zo_172 (zkb zk_cX12_wave zn_cX12_wave rfl)
theorem dX12_wave_125 : decode cX12_wave 125 = .ok (.aload_n 0, 1) := zo_42 (zkb zk_cX12_wave zn_cX12_wave rfl)
theorem dX12_wave_126 : decode cX12_wave 126 = .ok (.getfield 22, 3) := zo_180 (b1 := 0) (b2 := 22) (zkb3 zk_cX12_wave zn_cX12_wave rfl) rfl
theorem dX12_wave_129 : decode cX12_wave 129 = .ok (.sipush 172, 3) := zo_17 (b1 := 0) (b2 := 172) (zkb3 zk_cX12_wave zn_cX12_wave rfl) rfl
theorem dX12_wave_132 : decode cX12_wave 132 = .ok (.bipush 6, 2) := zo_16 (b1 := 6) (zkb2 zk_cX12_wave zn_cX12_wave rfl) rfl
theorem dX12_wave_134 : decode cX12_wave 134 = .ok (.iload_n 1, 1) := zo_27 (zkb zk_cX12_wave zn_cX12_wave rfl)
theorem dX12_wave_135 : decode cX12_wave 135 = .ok (.sipush 128, 3) := zo_17 (b1 := 0) (b2 := 128) (zkb3 zk_cX12_wave zn_cX12_wave rfl) rfl
theorem dX12_wave_138 : decode cX12_wave 138 = .ok (.isub, 1) := zo_100 (zkb zk_cX12_wave zn_cX12_wave rfl)
theorem dX12_wave_139 : decode cX12_wave 139 = .ok (.bipush 8, 2) := zo_16 (b1 := 8) (zkb2 zk_cX12_wave zn_cX12_wave rfl) rfl
theorem dX12_wave_141 : decode cX12_wave 141 = .ok (.idiv, 1) := zo_108 (zkb zk_cX12_wave zn_cX12_wave rfl)
theorem dX12_wave_142 : decode cX12_wave 142 = .ok (.imul, 1) := zo_104 (zkb zk_cX12_wave zn_cX12_wave rfl)
theorem dX12_wave_143 : decode cX12_wave 143 = .ok (.iadd, 1) := zo_96 (zkb zk_cX12_wave zn_cX12_wave rfl)
theorem dX12_wave_144 : decode cX12_wave 144 = .ok (.iload_n 1, 1) := zo_27 (zkb zk_cX12_wave zn_cX12_wave rfl)
theorem dX12_wave_145 : decode cX12_wave 145 = .ok (.bipush 8, 2) := zo_16 (b1 := 8) (zkb2 zk_cX12_wave zn_cX12_wave rfl) rfl
theorem dX12_wave_147 : decode cX12_wave 147 = .ok (.irem, 1) := zo_112 (zkb zk_cX12_wave zn_cX12_wave rfl)
theorem dX12_wave_148 : decode cX12_wave 148 = .ok (.iadd, 1) := zo_96 (zkb zk_cX12_wave zn_cX12_wave rfl)
theorem dX12_wave_149 : decode cX12_wave 149 = .ok (.iaload, 1) := zo_46 (zkb zk_cX12_wave zn_cX12_wave rfl)
theorem dX12_wave_150 : decode cX12_wave 150 = .ok (.ireturn, 1) := zo_172 (zkb zk_cX12_wave zn_cX12_wave rfl)
noncomputable def kn_cX12_plan : Nat := 0xac2eab00111600b42a4f60042e5cab00111600b42a4f1d600505151600b42a4f1c600405151600b42a4f1b05151600b42a053660682eab00111600b42a06180111ac030500997200b605030400a7040700a00001112eab00111600b42a2a1e009a7200b604030400a70407009a6e00b8bc011409851d0f00996e00b80a09851c19009b1b1d00a104151b2a04362e606864042eab00111600b42a061801111600b42a1800a70307009a2eab00111600b42a
theorem zk_cX12_plan : zkd cX12_plan.data.toList kn_cX12_plan = true := by decide +kernel
theorem zn_cX12_plan : cX12_plan.data.toList.length = 177 := by decide +kernel
theorem dX12_plan_0 : decode cX12_plan 0 = .ok (.aload_n 0, 1) := zo_42 (zkb zk_cX12_plan zn_cX12_plan rfl)
theorem dX12_plan_1 : decode cX12_plan 1 = .ok (.getfield 22, 3) := zo_180 (b1 := 0) (b2 := 22) (zkb3 zk_cX12_plan zn_cX12_plan rfl) rfl
theorem dX12_plan_4 : decode cX12_plan 4 = .ok (.sipush 171, 3) := zo_17 (b1 := 0) (b2 := 171) (zkb3 zk_cX12_plan zn_cX12_plan rfl) rfl
theorem dX12_plan_7 : decode cX12_plan 7 = .ok (.iaload, 1) := zo_46 (zkb zk_cX12_plan zn_cX12_plan rfl)
theorem dX12_plan_8 : decode cX12_plan 8 = .ok (.ifCond .ne 7, 3) := zo_154 (b1 := 0) (b2 := 7) (zkb3 zk_cX12_plan zn_cX12_plan rfl) rfl
theorem dX12_plan_11 : decode cX12_plan 11 = .ok (.iconst 0, 1) := zo_3 (zkb zk_cX12_plan zn_cX12_plan rfl)
theorem dX12_plan_12 : decode cX12_plan 12 = .ok (.goto 24, 3) := zo_167 (b1 := 0) (b2 := 24) (zkb3 zk_cX12_plan zn_cX12_plan rfl) rfl
theorem dX12_plan_15 : decode cX12_plan 15 = .ok (.aload_n 0, 1) := zo_42 (zkb zk_cX12_plan zn_cX12_plan rfl)
theorem dX12_plan_16 : decode cX12_plan 16 = .ok (.getfield 22, 3) := zo_180 (b1 := 0) (b2 := 22) (zkb3 zk_cX12_plan zn_cX12_plan rfl) rfl
theorem dX12_plan_19 : decode cX12_plan 19 = .ok (.sipush 280, 3) := zo_17 (b1 := 1) (b2 := 24) (zkb3 zk_cX12_plan zn_cX12_plan rfl) rfl
theorem dX12_plan_22 : decode cX12_plan 22 = .ok (.iconst 3, 1) := zo_6 (zkb zk_cX12_plan zn_cX12_plan rfl)
theorem dX12_plan_23 : decode cX12_plan 23 = .ok (.aload_n 0, 1) := zo_42 (zkb zk_cX12_plan zn_cX12_plan rfl)
theorem dX12_plan_24 : decode cX12_plan 24 = .ok (.getfield 22, 3) := zo_180 (b1 := 0) (b2 := 22) (zkb3 zk_cX12_plan zn_cX12_plan rfl) rfl
theorem dX12_plan_27 : decode cX12_plan 27 = .ok (.sipush 171, 3) := zo_17 (b1 := 0) (b2 := 171) (zkb3 zk_cX12_plan zn_cX12_plan rfl) rfl
theorem dX12_plan_30 : decode cX12_plan 30 = .ok (.iaload, 1) := zo_46 (zkb zk_cX12_plan zn_cX12_plan rfl)
theorem dX12_plan_31 : decode cX12_plan 31 = .ok (.iconst 1, 1) := zo_4 (zkb zk_cX12_plan zn_cX12_plan rfl)
theorem dX12_plan_32 : decode cX12_plan 32 = .ok (.isub, 1) := zo_100 (zkb zk_cX12_plan zn_cX12_plan rfl)
theorem dX12_plan_33 : decode cX12_plan 33 = .ok (.imul, 1) := zo_104 (zkb zk_cX12_plan zn_cX12_plan rfl)
theorem dX12_plan_34 : decode cX12_plan 34 = .ok (.iadd, 1) := zo_96 (zkb zk_cX12_plan zn_cX12_plan rfl)
theorem dX12_plan_35 : decode cX12_plan 35 = .ok (.iaload, 1) := zo_46 (zkb zk_cX12_plan zn_cX12_plan rfl)
theorem dX12_plan_36 : decode cX12_plan 36 = .ok (.istore 4, 2) := zo_54 (b1 := 4) (zkb2 zk_cX12_plan zn_cX12_plan rfl)
theorem dX12_plan_38 : decode cX12_plan 38 = .ok (.aload_n 0, 1) := zo_42 (zkb zk_cX12_plan zn_cX12_plan rfl)
theorem dX12_plan_39 : decode cX12_plan 39 = .ok (.iload_n 1, 1) := zo_27 (zkb zk_cX12_plan zn_cX12_plan rfl)
theorem dX12_plan_40 : decode cX12_plan 40 = .ok (.iload 4, 2) := zo_21 (b1 := 4) (zkb2 zk_cX12_plan zn_cX12_plan rfl)
theorem dX12_plan_42 : decode cX12_plan 42 = .ok (.if_icmp .lt 29, 3) := zo_161 (b1 := 0) (b2 := 29) (zkb3 zk_cX12_plan zn_cX12_plan rfl) rfl
theorem dX12_plan_45 : decode cX12_plan 45 = .ok (.iload_n 1, 1) := zo_27 (zkb zk_cX12_plan zn_cX12_plan rfl)
theorem dX12_plan_46 : decode cX12_plan 46 = .ok (.ifCond .lt 25, 3) := zo_155 (b1 := 0) (b2 := 25) (zkb3 zk_cX12_plan zn_cX12_plan rfl) rfl
theorem dX12_plan_49 : decode cX12_plan 49 = .ok (.iload_n 2, 1) := zo_28 (zkb zk_cX12_plan zn_cX12_plan rfl)
theorem dX12_plan_50 : decode cX12_plan 50 = .ok (.i2l, 1) := zo_133 (zkb zk_cX12_plan zn_cX12_plan rfl)
theorem dX12_plan_51 : decode cX12_plan 51 = .ok (.lconst 0, 1) := zo_9 (zkb zk_cX12_plan zn_cX12_plan rfl)
theorem dX12_plan_52 : decode cX12_plan 52 = .ok (.lconst 1, 1) := zo_10 (zkb zk_cX12_plan zn_cX12_plan rfl)
theorem dX12_plan_53 : decode cX12_plan 53 = .ok (.invokestatic 110, 3) := zo_184 (b1 := 0) (b2 := 110) (zkb3 zk_cX12_plan zn_cX12_plan rfl) rfl
theorem dX12_plan_56 : decode cX12_plan 56 = .ok (.ifCond .eq 15, 3) := zo_153 (b1 := 0) (b2 := 15) (zkb3 zk_cX12_plan zn_cX12_plan rfl) rfl
theorem dX12_plan_59 : decode cX12_plan 59 = .ok (.iload_n 3, 1) := zo_29 (zkb zk_cX12_plan zn_cX12_plan rfl)
theorem dX12_plan_60 : decode cX12_plan 60 = .ok (.i2l, 1) := zo_133 (zkb zk_cX12_plan zn_cX12_plan rfl)
theorem dX12_plan_61 : decode cX12_plan 61 = .ok (.lconst 0, 1) := zo_9 (zkb zk_cX12_plan zn_cX12_plan rfl)
theorem dX12_plan_62 : decode cX12_plan 62 = .ok (.ldc2_w 444, 3) := by decide +kernel
theorem dX12_plan_65 : decode cX12_plan 65 = .ok (.invokestatic 110, 3) := zo_184 (b1 := 0) (b2 := 110) (zkb3 zk_cX12_plan zn_cX12_plan rfl) rfl
theorem dX12_plan_68 : decode cX12_plan 68 = .ok (.ifCond .ne 7, 3) := zo_154 (b1 := 0) (b2 := 7) (zkb3 zk_cX12_plan zn_cX12_plan rfl) rfl
theorem dX12_plan_71 : decode cX12_plan 71 = .ok (.iconst 1, 1) := zo_4 (zkb zk_cX12_plan zn_cX12_plan rfl)
theorem dX12_plan_72 : decode cX12_plan 72 = .ok (.goto 4, 3) := zo_167 (b1 := 0) (b2 := 4) (zkb3 zk_cX12_plan zn_cX12_plan rfl) rfl
theorem dX12_plan_75 : decode cX12_plan 75 = .ok (.iconst 0, 1) := zo_3 (zkb zk_cX12_plan zn_cX12_plan rfl)
theorem dX12_plan_76 : decode cX12_plan 76 = .ok (.iconst 1, 1) := zo_4 (zkb zk_cX12_plan zn_cX12_plan rfl)
theorem dX12_plan_77 : decode cX12_plan 77 = .ok (.invokevirtual 114, 3) := zo_182 (b1 := 0) (b2 := 114) (zkb3 zk_cX12_plan zn_cX12_plan rfl) rfl
theorem dX12_plan_80 : decode cX12_plan 80 = .ok (.ifCond .ne 30, 3) := zo_154 (b1 := 0) (b2 := 30) (zkb3 zk_cX12_plan zn_cX12_plan rfl) rfl
theorem dX12_plan_83 : decode cX12_plan 83 = .ok (.aload_n 0, 1) := zo_42 (zkb zk_cX12_plan zn_cX12_plan rfl)
theorem dX12_plan_84 : decode cX12_plan 84 = .ok (.aload_n 0, 1) := zo_42 (zkb zk_cX12_plan zn_cX12_plan rfl)
theorem dX12_plan_85 : decode cX12_plan 85 = .ok (.getfield 22, 3) := zo_180 (b1 := 0) (b2 := 22) (zkb3 zk_cX12_plan zn_cX12_plan rfl) rfl
theorem dX12_plan_88 : decode cX12_plan 88 = .ok (.sipush 171, 3) := zo_17 (b1 := 0) (b2 := 171) (zkb3 zk_cX12_plan zn_cX12_plan rfl) rfl
theorem dX12_plan_91 : decode cX12_plan 91 = .ok (.iaload, 1) := zo_46 (zkb zk_cX12_plan zn_cX12_plan rfl)
theorem dX12_plan_92 : decode cX12_plan 92 = .ok (.sipush 256, 3) := zo_17 (b1 := 1) (b2 := 0) (zkb3 zk_cX12_plan zn_cX12_plan rfl) rfl
theorem dX12_plan_95 : decode cX12_plan 95 = .ok (.if_icmp .ne 7, 3) := zo_160 (b1 := 0) (b2 := 7) (zkb3 zk_cX12_plan zn_cX12_plan rfl) rfl
theorem dX12_plan_98 : decode cX12_plan 98 = .ok (.iconst 1, 1) := zo_4 (zkb zk_cX12_plan zn_cX12_plan rfl)
theorem dX12_plan_99 : decode cX12_plan 99 = .ok (.goto 4, 3) := zo_167 (b1 := 0) (b2 := 4) (zkb3 zk_cX12_plan zn_cX12_plan rfl) rfl
theorem dX12_plan_102 : decode cX12_plan 102 = .ok (.iconst 0, 1) := zo_3 (zkb zk_cX12_plan zn_cX12_plan rfl)
theorem dX12_plan_103 : decode cX12_plan 103 = .ok (.iconst 2, 1) := zo_5 (zkb zk_cX12_plan zn_cX12_plan rfl)
theorem dX12_plan_104 : decode cX12_plan 104 = .ok (.invokevirtual 114, 3) := zo_182 (b1 := 0) (b2 := 114) (zkb3 zk_cX12_plan zn_cX12_plan rfl) rfl
theorem dX12_plan_107 : decode cX12_plan 107 = .ok (.ifCond .eq 5, 3) := zo_153 (b1 := 0) (b2 := 5) (zkb3 zk_cX12_plan zn_cX12_plan rfl) rfl
theorem dX12_plan_110 : decode cX12_plan 110 = .ok (.iconst 0, 1) := zo_3 (zkb zk_cX12_plan zn_cX12_plan rfl)
theorem dX12_plan_111 : decode cX12_plan 111 = .ok (.ireturn, 1) := zo_172 (zkb zk_cX12_plan zn_cX12_plan rfl)
theorem dX12_plan_112 : decode cX12_plan 112 = .ok (.sipush 280, 3) := zo_17 (b1 := 1) (b2 := 24) (zkb3 zk_cX12_plan zn_cX12_plan rfl) rfl
theorem dX12_plan_115 : decode cX12_plan 115 = .ok (.iconst 3, 1) := zo_6 (zkb zk_cX12_plan zn_cX12_plan rfl)
theorem dX12_plan_116 : decode cX12_plan 116 = .ok (.aload_n 0, 1) := zo_42 (zkb zk_cX12_plan zn_cX12_plan rfl)
theorem dX12_plan_117 : decode cX12_plan 117 = .ok (.getfield 22, 3) := zo_180 (b1 := 0) (b2 := 22) (zkb3 zk_cX12_plan zn_cX12_plan rfl) rfl
theorem dX12_plan_120 : decode cX12_plan 120 = .ok (.sipush 171, 3) := zo_17 (b1 := 0) (b2 := 171) (zkb3 zk_cX12_plan zn_cX12_plan rfl) rfl
theorem dX12_plan_123 : decode cX12_plan 123 = .ok (.iaload, 1) := zo_46 (zkb zk_cX12_plan zn_cX12_plan rfl)
theorem dX12_plan_124 : decode cX12_plan 124 = .ok (.imul, 1) := zo_104 (zkb zk_cX12_plan zn_cX12_plan rfl)
theorem dX12_plan_125 : decode cX12_plan 125 = .ok (.iadd, 1) := zo_96 (zkb zk_cX12_plan zn_cX12_plan rfl)
theorem dX12_plan_126 : decode cX12_plan 126 = .ok (.istore 5, 2) := zo_54 (b1 := 5) (zkb2 zk_cX12_plan zn_cX12_plan rfl)
theorem dX12_plan_128 : decode cX12_plan 128 = .ok (.aload_n 0, 1) := zo_42 (zkb zk_cX12_plan zn_cX12_plan rfl)
theorem dX12_plan_129 : decode cX12_plan 129 = .ok (.getfield 22, 3) := zo_180 (b1 := 0) (b2 := 22) (zkb3 zk_cX12_plan zn_cX12_plan rfl) rfl
theorem dX12_plan_132 : decode cX12_plan 132 = .ok (.iload 5, 2) := zo_21 (b1 := 5) (zkb2 zk_cX12_plan zn_cX12_plan rfl)
theorem dX12_plan_134 : decode cX12_plan 134 = .ok (.iload_n 1, 1) := zo_27 (zkb zk_cX12_plan zn_cX12_plan rfl)
theorem dX12_plan_135 : decode cX12_plan 135 = .ok (.iastore, 1) := zo_79 (zkb zk_cX12_plan zn_cX12_plan rfl)
theorem dX12_plan_136 : decode cX12_plan 136 = .ok (.aload_n 0, 1) := zo_42 (zkb zk_cX12_plan zn_cX12_plan rfl)
theorem dX12_plan_137 : decode cX12_plan 137 = .ok (.getfield 22, 3) := zo_180 (b1 := 0) (b2 := 22) (zkb3 zk_cX12_plan zn_cX12_plan rfl) rfl
theorem dX12_plan_140 : decode cX12_plan 140 = .ok (.iload 5, 2) := zo_21 (b1 := 5) (zkb2 zk_cX12_plan zn_cX12_plan rfl)
theorem dX12_plan_142 : decode cX12_plan 142 = .ok (.iconst 1, 1) := zo_4 (zkb zk_cX12_plan zn_cX12_plan rfl)
theorem dX12_plan_143 : decode cX12_plan 143 = .ok (.iadd, 1) := zo_96 (zkb zk_cX12_plan zn_cX12_plan rfl)
theorem dX12_plan_144 : decode cX12_plan 144 = .ok (.iload_n 2, 1) := zo_28 (zkb zk_cX12_plan zn_cX12_plan rfl)
theorem dX12_plan_145 : decode cX12_plan 145 = .ok (.iastore, 1) := zo_79 (zkb zk_cX12_plan zn_cX12_plan rfl)
theorem dX12_plan_146 : decode cX12_plan 146 = .ok (.aload_n 0, 1) := zo_42 (zkb zk_cX12_plan zn_cX12_plan rfl)
theorem dX12_plan_147 : decode cX12_plan 147 = .ok (.getfield 22, 3) := zo_180 (b1 := 0) (b2 := 22) (zkb3 zk_cX12_plan zn_cX12_plan rfl) rfl
theorem dX12_plan_150 : decode cX12_plan 150 = .ok (.iload 5, 2) := zo_21 (b1 := 5) (zkb2 zk_cX12_plan zn_cX12_plan rfl)
theorem dX12_plan_152 : decode cX12_plan 152 = .ok (.iconst 2, 1) := zo_5 (zkb zk_cX12_plan zn_cX12_plan rfl)
theorem dX12_plan_153 : decode cX12_plan 153 = .ok (.iadd, 1) := zo_96 (zkb zk_cX12_plan zn_cX12_plan rfl)
theorem dX12_plan_154 : decode cX12_plan 154 = .ok (.iload_n 3, 1) := zo_29 (zkb zk_cX12_plan zn_cX12_plan rfl)
theorem dX12_plan_155 : decode cX12_plan 155 = .ok (.iastore, 1) := zo_79 (zkb zk_cX12_plan zn_cX12_plan rfl)
theorem dX12_plan_156 : decode cX12_plan 156 = .ok (.aload_n 0, 1) := zo_42 (zkb zk_cX12_plan zn_cX12_plan rfl)
theorem dX12_plan_157 : decode cX12_plan 157 = .ok (.getfield 22, 3) := zo_180 (b1 := 0) (b2 := 22) (zkb3 zk_cX12_plan zn_cX12_plan rfl) rfl
theorem dX12_plan_160 : decode cX12_plan 160 = .ok (.sipush 171, 3) := zo_17 (b1 := 0) (b2 := 171) (zkb3 zk_cX12_plan zn_cX12_plan rfl) rfl
theorem dX12_plan_163 : decode cX12_plan 163 = .ok (.dup2, 1) := zo_92 (zkb zk_cX12_plan zn_cX12_plan rfl)
theorem dX12_plan_164 : decode cX12_plan 164 = .ok (.iaload, 1) := zo_46 (zkb zk_cX12_plan zn_cX12_plan rfl)
theorem dX12_plan_165 : decode cX12_plan 165 = .ok (.iconst 1, 1) := zo_4 (zkb zk_cX12_plan zn_cX12_plan rfl)
theorem dX12_plan_166 : decode cX12_plan 166 = .ok (.iadd, 1) := zo_96 (zkb zk_cX12_plan zn_cX12_plan rfl)
theorem dX12_plan_167 : decode cX12_plan 167 = .ok (.iastore, 1) := zo_79 (zkb zk_cX12_plan zn_cX12_plan rfl)
theorem dX12_plan_168 : decode cX12_plan 168 = .ok (.aload_n 0, 1) := zo_42 (zkb zk_cX12_plan zn_cX12_plan rfl)
theorem dX12_plan_169 : decode cX12_plan 169 = .ok (.getfield 22, 3) := zo_180 (b1 := 0) (b2 := 22) (zkb3 zk_cX12_plan zn_cX12_plan rfl) rfl
theorem dX12_plan_172 : decode cX12_plan 172 = .ok (.sipush 171, 3) := zo_17 (b1 := 0) (b2 := 171) (zkb3 zk_cX12_plan zn_cX12_plan rfl) rfl
theorem dX12_plan_175 : decode cX12_plan 175 = .ok (.iaload, 1) := zo_46 (zkb zk_cX12_plan zn_cX12_plan rfl)
theorem dX12_plan_176 : decode cX12_plan 176 = .ok (.ireturn, 1) := zo_172 (zkb zk_cX12_plan zn_cX12_plan rfl)
noncomputable def kn_cX12_say : Nat := 0xb1ddffa7010284ca01b56004ca01b4592a4fd501b61c2bca01b42a6000b42a2100a21e02b62b1c3d03
theorem zk_cX12_say : zkd cX12_say.data.toList kn_cX12_say = true := by decide +kernel
theorem zn_cX12_say : cX12_say.data.toList.length = 41 := by decide +kernel
theorem dX12_say_0 : decode cX12_say 0 = .ok (.iconst 0, 1) := zo_3 (zkb zk_cX12_say zn_cX12_say rfl)
theorem dX12_say_1 : decode cX12_say 1 = .ok (.istore_n 2, 1) := zo_61 (zkb zk_cX12_say zn_cX12_say rfl)
theorem dX12_say_2 : decode cX12_say 2 = .ok (.iload_n 2, 1) := zo_28 (zkb zk_cX12_say zn_cX12_say rfl)
theorem dX12_say_3 : decode cX12_say 3 = .ok (.aload_n 1, 1) := zo_43 (zkb zk_cX12_say zn_cX12_say rfl)
theorem dX12_say_4 : decode cX12_say 4 = .ok (.invokevirtual 542, 3) := zo_182 (b1 := 2) (b2 := 30) (zkb3 zk_cX12_say zn_cX12_say rfl) rfl
theorem dX12_say_7 : decode cX12_say 7 = .ok (.if_icmp .ge 33, 3) := zo_162 (b1 := 0) (b2 := 33) (zkb3 zk_cX12_say zn_cX12_say rfl) rfl
theorem dX12_say_10 : decode cX12_say 10 = .ok (.aload_n 0, 1) := zo_42 (zkb zk_cX12_say zn_cX12_say rfl)
theorem dX12_say_11 : decode cX12_say 11 = .ok (.getfield 96, 3) := zo_180 (b1 := 0) (b2 := 96) (zkb3 zk_cX12_say zn_cX12_say rfl) rfl
theorem dX12_say_14 : decode cX12_say 14 = .ok (.aload_n 0, 1) := zo_42 (zkb zk_cX12_say zn_cX12_say rfl)
theorem dX12_say_15 : decode cX12_say 15 = .ok (.getfield 458, 3) := zo_180 (b1 := 1) (b2 := 202) (zkb3 zk_cX12_say zn_cX12_say rfl) rfl
theorem dX12_say_18 : decode cX12_say 18 = .ok (.aload_n 1, 1) := zo_43 (zkb zk_cX12_say zn_cX12_say rfl)
theorem dX12_say_19 : decode cX12_say 19 = .ok (.iload_n 2, 1) := zo_28 (zkb zk_cX12_say zn_cX12_say rfl)
theorem dX12_say_20 : decode cX12_say 20 = .ok (.invokevirtual 469, 3) := zo_182 (b1 := 1) (b2 := 213) (zkb3 zk_cX12_say zn_cX12_say rfl) rfl
theorem dX12_say_23 : decode cX12_say 23 = .ok (.iastore, 1) := zo_79 (zkb zk_cX12_say zn_cX12_say rfl)
theorem dX12_say_24 : decode cX12_say 24 = .ok (.aload_n 0, 1) := zo_42 (zkb zk_cX12_say zn_cX12_say rfl)
theorem dX12_say_25 : decode cX12_say 25 = .ok (.dup, 1) := zo_89 (zkb zk_cX12_say zn_cX12_say rfl)
theorem dX12_say_26 : decode cX12_say 26 = .ok (.getfield 458, 3) := zo_180 (b1 := 1) (b2 := 202) (zkb3 zk_cX12_say zn_cX12_say rfl) rfl
theorem dX12_say_29 : decode cX12_say 29 = .ok (.iconst 1, 1) := zo_4 (zkb zk_cX12_say zn_cX12_say rfl)
theorem dX12_say_30 : decode cX12_say 30 = .ok (.iadd, 1) := zo_96 (zkb zk_cX12_say zn_cX12_say rfl)
theorem dX12_say_31 : decode cX12_say 31 = .ok (.putfield 458, 3) := zo_181 (b1 := 1) (b2 := 202) (zkb3 zk_cX12_say zn_cX12_say rfl) rfl
theorem dX12_say_34 : decode cX12_say 34 = .ok (.iinc 2 1, 3) := zo_132 (b1 := 2) (b2 := 1) (zkb3 zk_cX12_say zn_cX12_say rfl) rfl
theorem dX12_say_37 : decode cX12_say 37 = .ok (.goto (-35), 3) := zo_167 (b1 := 255) (b2 := 221) (zkb3 zk_cX12_say zn_cX12_say rfl) rfl
theorem dX12_say_40 : decode cX12_say 40 = .ok (.return_, 1) := zo_177 (zkb zk_cX12_say zn_cX12_say rfl)
noncomputable def rmX12_sound : Room := { frames := 1, cells := 0, slots := 0, locals := 25 }
noncomputable def wzX12_sound : List Cond := .code yX12_sound cX12_sound 2 (some .int) :: wsL_law
theorem hinX12_sound_X120 : ∀ w ∈ wsX120, w ∈ wzX12_sound := fun w h => List.mem_cons_of_mem _ (inlX12 w h)
noncomputable def fX12_sound_52  (σ : zSt) (s0 : Int32) : Option (zSt × Int32) :=
  some (σ, s0)
noncomputable def fX12_sound_18  (σ : zSt) (x1 : Int32) (s0 : Int32) : Option (zSt × Int32) :=
  zbi (fX12_fails σ s0 1) (fun σ1 v2 =>
  if v2 = 0 then if x1 = 18 then zck (zin 34 1048) (
  fX12_sound_52 σ1 (zgi σ1 3 (34 : Int32).toNatClampNeg)) else
  zck (zin (69 + x1) 1048) (
  fX12_sound_52 σ1 (zgi σ1 3 (69 + x1).toNatClampNeg)) else
  some (σ1, 0))
noncomputable def fX12_sound  (σ : zSt) (x1 : Int32) : Option (zSt × Int32) :=
  zbi (fX12_within σ (x1.toInt64) 0 18) (fun σ3 v4 =>
  if v4 = 0 then fX12_sound_18 σ3 x1 1 else
  fX12_sound_18 σ3 x1 0)
set_option maxRecDepth 20000 in
set_option maxHeartbeats 4000000 in
theorem bX12_sound_52 {st : Nat → Nat} {p : Program} {l : Launch} {e : Env} {s : State} {m : MethodId} {args : Array Value} {below : List Frame} {meth : Method} {c : Code} {D : va_G} {A : Nat → Prop} {ad : Nat → Nat} {cy : Nat → ClassId} (hC : zC p m c cX12_sound 2 s args wzX12_sound RX12 meth (some .int))  {res : zSt × Int32} {H : Heap} {locs : List Loc} {σ : zSt} {ls : Array Slot} {s0 : Int32} (hI : zI st D (tM cy) (wM ad cy σ) A s H locs) (hl : lv_has ls 2 []) (hf : fX12_sound_52  σ s0 = some res) : W p l e rmX12_sound s m args below meth c H locs 0 0 (zQi below args s D (tM cy) (wM ad cy) A res) (F0 m 52 ls [.int s0]) := by
  have hx := hC.1
  have hb := hC.2.1
  unfold fX12_sound_52 at hf
  exact z_ireturn hC hI hf dX12_sound_52
set_option maxRecDepth 20000 in
set_option maxHeartbeats 4000000 in
theorem bX12_sound_18 {st : Nat → Nat} {p : Program} {l : Launch} {e : Env} {s : State} {m : MethodId} {args : Array Value} {below : List Frame} {meth : Method} {c : Code} {D : va_G} {A : Nat → Prop} {ad : Nat → Nat} {cy : Nat → ClassId} (hC : zC p m c cX12_sound 2 s args wzX12_sound RX12 meth (some .int))  {res : zSt × Int32} {H : Heap} {locs : List Loc} {σ : zSt} {ls : Array Slot} {x1 : Int32} {s0 : Int32} (hI : zI st D (tM cy) (wM ad cy σ) A s H locs) (hl : lv_has ls 2 [(0, .ref (ad 0)), (1, .int x1)]) (hf : fX12_sound_18  σ x1 s0 = some res) : W p l e rmX12_sound s m args below meth c H locs 0 0 (zQi below args s D (tM cy) (wM ad cy) A res) (F0 m 18 ls [.int s0, .ref (ad 0)]) := by
  have hx := hC.1
  have hb := hC.2.1
  unfold fX12_sound_18 at hf
  refine lv_iconst (v := 1) hx hb dX12_sound_18 (by decide) ?_
  obtain ⟨σ1, v2, g1, hf⟩ := zbi_use hf
  refine z_callVi (As := [.int s0, .int 1]) (rest := []) hC hI (cX12_fails_met st l D ad cy σ s0 1 _ g1) (zgV zw11_21 zw11_22 zw11_23 zw1_5 zw12_0) rfl ⟨rfl, rfl⟩ 2 hdX12_fails ⟨Nat.le_of_ble_eq_true rfl, Nat.le_of_ble_eq_true rfl⟩ rfl rfl (wM_e0 ad cy σ) rfl hl rfl (Nat.le_of_ble_eq_true rfl) dX12_sound_19 ⟨Nat.zero_le _, Nat.zero_le _⟩ (fun H locs hI => ?_)
  refine lv_if_eq (tgt := 27) hx hb dX12_sound_22 (by decide) (fun q => ?_) (fun q => ?_)
  · replace hf := zif_t q hf
    refine lv_iload_n hx hb dX12_sound_27 rfl (lv_at hl 1 rfl) ?_
    refine lv_bipush (v := 18) hx hb dX12_sound_28 (by decide) ?_
    refine lv_icmp_ne (tgt := 43) hx hb dX12_sound_30 (by decide) (fun q => ?_) (fun q => ?_)
    · replace hf := zif_f q hf
      refine lv_aload_n hx hb dX12_sound_43 rfl (lv_at hl 0 rfl) ?_
      refine z_get hC hI hinX12_sound_X120 0 (wM_e0 ad cy σ1) rfl 10 (by decide) (List.mem_cons_of_mem _ zw9_7) rfl dX12_sound_44 ?_
      refine lv_bipush (v := 69) hx hb dX12_sound_47 (by decide) ?_
      refine lv_iload_n hx hb dX12_sound_49 rfl (lv_at hl 1 rfl) ?_
      refine lv_iadd hx hb dX12_sound_50 ?_
      obtain ⟨q, hf⟩ := zck_use hf
      refine z_iald hC hI 3 2 (wM_e3 ad cy σ1) (tM_t3 cy) q dX12_sound_51 ?_
      exact bX12_sound_52 hC  hI (lv_sub hl [] rfl) hf
    replace hf := zif_t q hf
    refine lv_aload_n hx hb dX12_sound_33 rfl (lv_at hl 0 rfl) ?_
    refine z_get hC hI hinX12_sound_X120 0 (wM_e0 ad cy σ1) rfl 10 (by decide) (List.mem_cons_of_mem _ zw9_7) rfl dX12_sound_34 ?_
    refine lv_bipush (v := 34) hx hb dX12_sound_37 (by decide) ?_
    obtain ⟨q, hf⟩ := zck_use hf
    refine z_iald hC hI 3 2 (wM_e3 ad cy σ1) (tM_t3 cy) q dX12_sound_39 ?_
    refine lv_goto (tgt := 52) hx hb dX12_sound_40 (by decide) ?_
    exact bX12_sound_52 hC  hI (lv_sub hl [] rfl) hf
  replace hf := zif_f q hf
  refine lv_iconst (v := 0) hx hb dX12_sound_25 (by decide) ?_
  exact z_ireturn hC hI hf dX12_sound_26
set_option maxRecDepth 20000 in
set_option maxHeartbeats 4000000 in
theorem bX12_sound {st : Nat → Nat} {p : Program} {l : Launch} {e : Env} {s : State} {m : MethodId} {args : Array Value} {below : List Frame} {meth : Method} {c : Code} {D : va_G} {A : Nat → Prop} {ad : Nat → Nat} {cy : Nat → ClassId} (hC : zC p m c cX12_sound 2 s args wzX12_sound RX12 meth (some .int))  {res : zSt × Int32} {H : Heap} {locs : List Loc} {σ : zSt} {ls : Array Slot} {x1 : Int32} (hI : zI st D (tM cy) (wM ad cy σ) A s H locs) (hl : lv_has ls 2 [(0, .ref (ad 0)), (1, .int x1)]) (hf : fX12_sound  σ x1 = some res) : W p l e rmX12_sound s m args below meth c H locs 0 0 (zQi below args s D (tM cy) (wM ad cy) A res) (F0 m 0 ls []) := by
  have hx := hC.1
  have hb := hC.2.1
  unfold fX12_sound at hf
  refine lv_aload_n hx hb dX12_sound_0 rfl (lv_at hl 0 rfl) ?_
  refine lv_iload_n hx hb dX12_sound_1 rfl (lv_at hl 1 rfl) ?_
  refine lv_i2l (v := x1.toInt64) hx hb dX12_sound_2 rfl ?_
  refine lv_lconst (v := 0) hx hb dX12_sound_3 (by decide) ?_
  refine lv_ldc2 (v := 18) hx hb hC.2.2.2.1 (hC.2.2.2.2.1 _ (List.mem_cons_of_mem _ zw94_16)) dX12_sound_4 ?_
  obtain ⟨σ3, v4, g3, hf⟩ := zbi_use hf
  refine z_callSi (As := [.long (x1.toInt64), .long 0, .long 18]) (rest := [.ref (ad 0)]) hC hI (cX12_within_met st l D ad cy σ (x1.toInt64) 0 18 _ g3) (zgS zw11_18 zw11_19 zw1_5 zw11_20) rfl ⟨rfl, rfl⟩ 3 hdX12_within ⟨Nat.le_of_ble_eq_true rfl, Nat.le_of_ble_eq_true rfl⟩ rfl hl rfl (Nat.le_of_ble_eq_true rfl) dX12_sound_7 ⟨Nat.zero_le _, Nat.zero_le _⟩ (fun H locs hI => ?_)
  refine lv_if_ne (tgt := 17) hx hb dX12_sound_10 (by decide) (fun q => ?_) (fun q => ?_)
  · replace hf := zif_f q hf
    refine lv_iconst (v := 0) hx hb dX12_sound_17 (by decide) ?_
    exact bX12_sound_18 hC  hI hl hf
  replace hf := zif_t q hf
  refine lv_iconst (v := 1) hx hb dX12_sound_13 (by decide) ?_
  refine lv_goto (tgt := 18) hx hb dX12_sound_14 (by decide) ?_
  exact bX12_sound_18 hC  hI hl hf
set_option maxRecDepth 20000 in
theorem cX12_sound_met (st : Nat → Nat) (l : Launch) (D : va_G) (ad : Nat → Nat) (cy : Nat → ClassId) (σ : zSt) (x1 : Int32) (res : zSt × Int32) (hf : fX12_sound σ x1 = some res) (sz : Nat) : zMi st l yX12_sound wzX12_sound rmX12_sound [.ref (ad 0), .int x1] D (tM cy) (wM ad cy) sz σ res :=
  zMi.of (cc := cX12_sound) (maxL := 2) (ret := (some .int)) (by decide) rfl (Nat.le_of_ble_eq_true rfl) (fun p e s m args below meth c hC A hI ls hl => bX12_sound hC hI hl hf)
theorem hdX12_sound : yX12_sound.cls = RX12 ∧ yX12_sound.cls ≠ "java/lang/invoke/MethodHandle" ∧ yX12_sound.cls ≠ "java/lang/invoke/VarHandle" ∧ (parseMethodDescriptor yX12_sound.desc).map (fun d => d.parameters.length) = some 1 := by decide +kernel
noncomputable def rmX12_reset : Room := { frames := 1, cells := 0, slots := 0, locals := 21 }
noncomputable def wzX12_reset : List Cond := .code yX12_reset cX12_reset 1 none :: wsL_law
theorem hinX12_reset_X120 : ∀ w ∈ wsX120, w ∈ wzX12_reset := fun w h => List.mem_cons_of_mem _ (inlX12 w h)
noncomputable def fX12_reset  (σ : zSt)  : Option (zSt) :=
  zbv (zsi σ 0 0 0) (fun σ1 =>
  zbu (fX12_anew σ1 ) (fun σ2 =>
  some σ2))
set_option maxRecDepth 20000 in
set_option maxHeartbeats 4000000 in
theorem bX12_reset {st : Nat → Nat} {p : Program} {l : Launch} {e : Env} {s : State} {m : MethodId} {args : Array Value} {below : List Frame} {meth : Method} {c : Code} {D : va_G} {A : Nat → Prop} {ad : Nat → Nat} {cy : Nat → ClassId} (hC : zC p m c cX12_reset 1 s args wzX12_reset RX12 meth none)  {res : zSt} {H : Heap} {locs : List Loc} {σ : zSt} {ls : Array Slot}  (hI : zI st D (tM cy) (wM ad cy σ) A s H locs) (hl : lv_has ls 1 [(0, .ref (ad 0))]) (hf : fX12_reset  σ  = some res) : W p l e rmX12_reset s m args below meth c H locs 0 0 (zQu below args s D (tM cy) (wM ad cy) A res) (F0 m 0 ls []) := by
  have hx := hC.1
  have hb := hC.2.1
  unfold fX12_reset at hf
  refine lv_aload_n hx hb dX12_reset_0 rfl (lv_at hl 0 rfl) ?_
  refine lv_iconst (v := 0) hx hb dX12_reset_1 (by decide) ?_
  obtain ⟨σ1, eσ1⟩ : ∃ z, z = zsi σ 0 0 0 := ⟨_, rfl⟩
  replace hf := zbv_use eσ1 hf
  refine z_put hC hI hinX12_reset_X120 tyX12_ok nmX12 0 (wM_e0 ad cy σ) rfl 0 (by decide) (List.mem_cons_of_mem _ zw12_1) rfl rfl rfl (Nat.le_of_ble_eq_true rfl) ((wM_s0_0 ad cy σ 0).trans (congrArg (wM ad cy) eσ1.symm)) dX12_reset_2 (fun H locs hI => ?_)
  refine lv_aload_n hx hb dX12_reset_5 rfl (lv_at hl 0 rfl) ?_
  obtain ⟨σ2, g2, hf⟩ := zbu_use hf
  refine z_callVu (As := []) (rest := []) hC hI (cX12_anew_met st l D ad cy σ1  _ g2) (zgV zw10_11 zw10_12 zw10_13 zw1_5 zw10_14) rfl ⟨rfl, rfl⟩ 0 hdX12_anew ⟨Nat.le_of_ble_eq_true rfl, Nat.le_of_ble_eq_true rfl⟩ rfl rfl (wM_e0 ad cy σ1) rfl hl rfl (Nat.le_of_ble_eq_true rfl) dX12_reset_6 ⟨Nat.zero_le _, Nat.zero_le _⟩ (fun H locs hI => ?_)
  exact z_return hC hI hf dX12_reset_9
set_option maxRecDepth 20000 in
theorem cX12_reset_met (st : Nat → Nat) (l : Launch) (D : va_G) (ad : Nat → Nat) (cy : Nat → ClassId) (σ : zSt)  (res : zSt) (hf : fX12_reset σ  = some res) (sz : Nat) : zMu st l yX12_reset wzX12_reset rmX12_reset [.ref (ad 0)] D (tM cy) (wM ad cy) sz σ res :=
  zMu.of (cc := cX12_reset) (maxL := 1) (ret := none) (by decide) rfl (Nat.le_of_ble_eq_true rfl) (fun p e s m args below meth c hC A hI ls hl => bX12_reset hC hI hl hf)
theorem hdX12_reset : yX12_reset.cls = RX12 ∧ yX12_reset.cls ≠ "java/lang/invoke/MethodHandle" ∧ yX12_reset.cls ≠ "java/lang/invoke/VarHandle" ∧ (parseMethodDescriptor yX12_reset.desc).map (fun d => d.parameters.length) = some 0 := by decide +kernel
noncomputable def rmX12_pause : Room := { frames := 0, cells := 0, slots := 0, locals := 0 }
noncomputable def wzX12_pause : List Cond := .code yX12_pause cX12_pause 1 (some .boolean) :: wsL_law
theorem hinX12_pause_X120 : ∀ w ∈ wsX120, w ∈ wzX12_pause := fun w h => List.mem_cons_of_mem _ (inlX12 w h)
noncomputable def fX12_pause  (σ : zSt)  : Option (zSt × Int32) :=
  zbv (zsi σ 0 0 0) (fun σ1 =>
  if (zgi σ1 0 3) = 2 then zck (zbo 0) (some (σ1, 0)) else
  zck (zin 28 1048) (zbv (zsi σ1 3 ((28 : Int32).toNatClampNeg) 1) (fun σ2 =>
  zck (zbo 1) (some (σ2, 1)))))
set_option maxRecDepth 20000 in
set_option maxHeartbeats 4000000 in
theorem bX12_pause {st : Nat → Nat} {p : Program} {l : Launch} {e : Env} {s : State} {m : MethodId} {args : Array Value} {below : List Frame} {meth : Method} {c : Code} {D : va_G} {A : Nat → Prop} {ad : Nat → Nat} {cy : Nat → ClassId} (hC : zC p m c cX12_pause 1 s args wzX12_pause RX12 meth (some .boolean))  {res : zSt × Int32} {H : Heap} {locs : List Loc} {σ : zSt} {ls : Array Slot}  (hI : zI st D (tM cy) (wM ad cy σ) A s H locs) (hl : lv_has ls 1 [(0, .ref (ad 0))]) (hf : fX12_pause  σ  = some res) : W p l e rmX12_pause s m args below meth c H locs 0 0 (zQi below args s D (tM cy) (wM ad cy) A res) (F0 m 0 ls []) := by
  have hx := hC.1
  have hb := hC.2.1
  unfold fX12_pause at hf
  refine lv_aload_n hx hb dX12_pause_0 rfl (lv_at hl 0 rfl) ?_
  refine lv_iconst (v := 0) hx hb dX12_pause_1 (by decide) ?_
  obtain ⟨σ1, eσ1⟩ : ∃ z, z = zsi σ 0 0 0 := ⟨_, rfl⟩
  replace hf := zbv_use eσ1 hf
  refine z_put hC hI hinX12_pause_X120 tyX12_ok nmX12 0 (wM_e0 ad cy σ) rfl 0 (by decide) (List.mem_cons_of_mem _ zw12_1) rfl rfl rfl (Nat.le_of_ble_eq_true rfl) ((wM_s0_0 ad cy σ 0).trans (congrArg (wM ad cy) eσ1.symm)) dX12_pause_2 (fun H locs hI => ?_)
  refine lv_aload_n hx hb dX12_pause_5 rfl (lv_at hl 0 rfl) ?_
  refine z_get hC hI hinX12_pause_X120 0 (wM_e0 ad cy σ1) rfl 3 (by decide) (List.mem_cons_of_mem _ zw10_10) rfl dX12_pause_6 ?_
  refine lv_iconst (v := 2) hx hb dX12_pause_9 (by decide) ?_
  refine lv_icmp_ne (tgt := 15) hx hb dX12_pause_10 (by decide) (fun q => ?_) (fun q => ?_)
  · replace hf := zif_f q hf
    refine lv_aload_n hx hb dX12_pause_15 rfl (lv_at hl 0 rfl) ?_
    refine z_get hC hI hinX12_pause_X120 0 (wM_e0 ad cy σ1) rfl 10 (by decide) (List.mem_cons_of_mem _ zw9_7) rfl dX12_pause_16 ?_
    refine lv_bipush (v := 28) hx hb dX12_pause_19 (by decide) ?_
    refine lv_iconst (v := 1) hx hb dX12_pause_21 (by decide) ?_
    obtain ⟨q, hf⟩ := zck_use hf
    obtain ⟨σ2, eσ2⟩ : ∃ z, z = zsi σ1 3 ((28 : Int32).toNatClampNeg) 1 := ⟨_, rfl⟩
    replace hf := zbv_use eσ2 hf
    refine z_iast hC hI 3 2 (wM_e3 ad cy σ1) (tM_t3 cy) q ((wM_s3 ad cy σ1 _ _).trans (congrArg (wM ad cy) eσ2.symm)) dX12_pause_22 (fun H locs hI => ?_)
    refine lv_iconst (v := 1) hx hb dX12_pause_23 (by decide) ?_
    obtain ⟨q, hf⟩ := zck_use hf
    exact z_zreturn hC hI (zbo_n q) hf dX12_pause_24
  replace hf := zif_t q hf
  refine lv_iconst (v := 0) hx hb dX12_pause_13 (by decide) ?_
  obtain ⟨q, hf⟩ := zck_use hf
  exact z_zreturn hC hI (zbo_n q) hf dX12_pause_14
set_option maxRecDepth 20000 in
theorem cX12_pause_met (st : Nat → Nat) (l : Launch) (D : va_G) (ad : Nat → Nat) (cy : Nat → ClassId) (σ : zSt)  (res : zSt × Int32) (hf : fX12_pause σ  = some res) (sz : Nat) : zMi st l yX12_pause wzX12_pause rmX12_pause [.ref (ad 0)] D (tM cy) (wM ad cy) sz σ res :=
  zMi.of (cc := cX12_pause) (maxL := 1) (ret := (some .boolean)) (by decide) rfl (Nat.le_of_ble_eq_true rfl) (fun p e s m args below meth c hC A hI ls hl => bX12_pause hC hI hl hf)
theorem hdX12_pause : yX12_pause.cls = RX12 ∧ yX12_pause.cls ≠ "java/lang/invoke/MethodHandle" ∧ yX12_pause.cls ≠ "java/lang/invoke/VarHandle" ∧ (parseMethodDescriptor yX12_pause.desc).map (fun d => d.parameters.length) = some 0 := by decide +kernel
noncomputable def rmX12_press : Room := { frames := 1, cells := 0, slots := 0, locals := 25 }
noncomputable def wzX12_press : List Cond := .code yX12_press cX12_press 3 none :: wsL_law
theorem hinX12_press_X120 : ∀ w ∈ wsX120, w ∈ wzX12_press := fun w h => List.mem_cons_of_mem _ (inlX12 w h)
noncomputable def fX12_press_28  (σ : zSt) (x1 : Int32) (x2 : Int32) (s0 : Int32) : Option (zSt) :=
  zbi (fX12_fails σ s0 1) (fun σ1 v2 =>
  if v2 = 0 then zck (zin (42 + x1) 1048) (zbv (zsi σ1 3 ((42 + x1).toNatClampNeg) x2) (fun σ3 =>
  some σ3)) else
  some σ1)
noncomputable def fX12_press_23  (σ : zSt) (x1 : Int32) (x2 : Int32) : Option (zSt) :=
  fX12_press_28 σ x1 x2 1
noncomputable def fX12_press  (σ : zSt) (x1 : Int32) (x2 : Int32) : Option (zSt) :=
  zbi (fX12_within σ (x1.toInt64) 0 1) (fun σ4 v5 =>
  if v5 = 0 then fX12_press_23 σ4 x1 x2 else
  zbi (fX12_within σ4 (x2.toInt64) 0 63) (fun σ6 v7 =>
  if v7 = 0 then fX12_press_23 σ6 x1 x2 else
  fX12_press_28 σ6 x1 x2 0))
set_option maxRecDepth 20000 in
set_option maxHeartbeats 4000000 in
theorem bX12_press_28 {st : Nat → Nat} {p : Program} {l : Launch} {e : Env} {s : State} {m : MethodId} {args : Array Value} {below : List Frame} {meth : Method} {c : Code} {D : va_G} {A : Nat → Prop} {ad : Nat → Nat} {cy : Nat → ClassId} (hC : zC p m c cX12_press 3 s args wzX12_press RX12 meth none)  {res : zSt} {H : Heap} {locs : List Loc} {σ : zSt} {ls : Array Slot} {x1 : Int32} {x2 : Int32} {s0 : Int32} (hI : zI st D (tM cy) (wM ad cy σ) A s H locs) (hl : lv_has ls 3 [(0, .ref (ad 0)), (1, .int x1), (2, .int x2)]) (hf : fX12_press_28  σ x1 x2 s0 = some res) : W p l e rmX12_press s m args below meth c H locs 0 0 (zQu below args s D (tM cy) (wM ad cy) A res) (F0 m 28 ls [.int s0, .ref (ad 0)]) := by
  have hx := hC.1
  have hb := hC.2.1
  unfold fX12_press_28 at hf
  refine lv_iconst (v := 1) hx hb dX12_press_28 (by decide) ?_
  obtain ⟨σ1, v2, g1, hf⟩ := zbi_use hf
  refine z_callVi (As := [.int s0, .int 1]) (rest := []) hC hI (cX12_fails_met st l D ad cy σ s0 1 _ g1) (zgV zw11_21 zw11_22 zw11_23 zw1_5 zw12_0) rfl ⟨rfl, rfl⟩ 2 hdX12_fails ⟨Nat.le_of_ble_eq_true rfl, Nat.le_of_ble_eq_true rfl⟩ rfl rfl (wM_e0 ad cy σ) rfl hl rfl (Nat.le_of_ble_eq_true rfl) dX12_press_29 ⟨Nat.zero_le _, Nat.zero_le _⟩ (fun H locs hI => ?_)
  refine lv_if_eq (tgt := 36) hx hb dX12_press_32 (by decide) (fun q => ?_) (fun q => ?_)
  · replace hf := zif_t q hf
    refine lv_aload_n hx hb dX12_press_36 rfl (lv_at hl 0 rfl) ?_
    refine z_get hC hI hinX12_press_X120 0 (wM_e0 ad cy σ1) rfl 10 (by decide) (List.mem_cons_of_mem _ zw9_7) rfl dX12_press_37 ?_
    refine lv_bipush (v := 42) hx hb dX12_press_40 (by decide) ?_
    refine lv_iload_n hx hb dX12_press_42 rfl (lv_at hl 1 rfl) ?_
    refine lv_iadd hx hb dX12_press_43 ?_
    refine lv_iload_n hx hb dX12_press_44 rfl (lv_at hl 2 rfl) ?_
    obtain ⟨q, hf⟩ := zck_use hf
    obtain ⟨σ3, eσ3⟩ : ∃ z, z = zsi σ1 3 ((42 + x1).toNatClampNeg) x2 := ⟨_, rfl⟩
    replace hf := zbv_use eσ3 hf
    refine z_iast hC hI 3 2 (wM_e3 ad cy σ1) (tM_t3 cy) q ((wM_s3 ad cy σ1 _ _).trans (congrArg (wM ad cy) eσ3.symm)) dX12_press_45 (fun H locs hI => ?_)
    exact z_return hC hI hf dX12_press_46
  replace hf := zif_f q hf
  exact z_return hC hI hf dX12_press_35
set_option maxRecDepth 20000 in
set_option maxHeartbeats 4000000 in
theorem bX12_press_23 {st : Nat → Nat} {p : Program} {l : Launch} {e : Env} {s : State} {m : MethodId} {args : Array Value} {below : List Frame} {meth : Method} {c : Code} {D : va_G} {A : Nat → Prop} {ad : Nat → Nat} {cy : Nat → ClassId} (hC : zC p m c cX12_press 3 s args wzX12_press RX12 meth none)  {res : zSt} {H : Heap} {locs : List Loc} {σ : zSt} {ls : Array Slot} {x1 : Int32} {x2 : Int32} (hI : zI st D (tM cy) (wM ad cy σ) A s H locs) (hl : lv_has ls 3 [(0, .ref (ad 0)), (1, .int x1), (2, .int x2)]) (hf : fX12_press_23  σ x1 x2 = some res) : W p l e rmX12_press s m args below meth c H locs 0 0 (zQu below args s D (tM cy) (wM ad cy) A res) (F0 m 23 ls [.ref (ad 0)]) := by
  have hx := hC.1
  have hb := hC.2.1
  unfold fX12_press_23 at hf
  refine lv_iconst (v := 1) hx hb dX12_press_23 (by decide) ?_
  refine lv_goto (tgt := 28) hx hb dX12_press_24 (by decide) ?_
  exact bX12_press_28 hC  hI hl hf
set_option maxRecDepth 20000 in
set_option maxHeartbeats 4000000 in
theorem bX12_press {st : Nat → Nat} {p : Program} {l : Launch} {e : Env} {s : State} {m : MethodId} {args : Array Value} {below : List Frame} {meth : Method} {c : Code} {D : va_G} {A : Nat → Prop} {ad : Nat → Nat} {cy : Nat → ClassId} (hC : zC p m c cX12_press 3 s args wzX12_press RX12 meth none)  {res : zSt} {H : Heap} {locs : List Loc} {σ : zSt} {ls : Array Slot} {x1 : Int32} {x2 : Int32} (hI : zI st D (tM cy) (wM ad cy σ) A s H locs) (hl : lv_has ls 3 [(0, .ref (ad 0)), (1, .int x1), (2, .int x2)]) (hf : fX12_press  σ x1 x2 = some res) : W p l e rmX12_press s m args below meth c H locs 0 0 (zQu below args s D (tM cy) (wM ad cy) A res) (F0 m 0 ls []) := by
  have hx := hC.1
  have hb := hC.2.1
  unfold fX12_press at hf
  refine lv_aload_n hx hb dX12_press_0 rfl (lv_at hl 0 rfl) ?_
  refine lv_iload_n hx hb dX12_press_1 rfl (lv_at hl 1 rfl) ?_
  refine lv_i2l (v := x1.toInt64) hx hb dX12_press_2 rfl ?_
  refine lv_lconst (v := 0) hx hb dX12_press_3 (by decide) ?_
  refine lv_lconst (v := 1) hx hb dX12_press_4 (by decide) ?_
  obtain ⟨σ4, v5, g4, hf⟩ := zbi_use hf
  refine z_callSi (As := [.long (x1.toInt64), .long 0, .long 1]) (rest := [.ref (ad 0)]) hC hI (cX12_within_met st l D ad cy σ (x1.toInt64) 0 1 _ g4) (zgS zw11_18 zw11_19 zw1_5 zw11_20) rfl ⟨rfl, rfl⟩ 3 hdX12_within ⟨Nat.le_of_ble_eq_true rfl, Nat.le_of_ble_eq_true rfl⟩ rfl hl rfl (Nat.le_of_ble_eq_true rfl) dX12_press_5 ⟨Nat.zero_le _, Nat.zero_le _⟩ (fun H locs hI => ?_)
  refine lv_if_eq (tgt := 23) hx hb dX12_press_8 (by decide) (fun q => ?_) (fun q => ?_)
  · replace hf := zif_t q hf
    exact bX12_press_23 hC  hI hl hf
  replace hf := zif_f q hf
  refine lv_iload_n hx hb dX12_press_11 rfl (lv_at hl 2 rfl) ?_
  refine lv_i2l (v := x2.toInt64) hx hb dX12_press_12 rfl ?_
  refine lv_lconst (v := 0) hx hb dX12_press_13 (by decide) ?_
  refine lv_ldc2 (v := 63) hx hb hC.2.2.2.1 (hC.2.2.2.2.1 _ (List.mem_cons_of_mem _ zw67_18)) dX12_press_14 ?_
  obtain ⟨σ6, v7, g6, hf⟩ := zbi_use hf
  refine z_callSi (As := [.long (x2.toInt64), .long 0, .long 63]) (rest := [.ref (ad 0)]) hC hI (cX12_within_met st l D ad cy σ4 (x2.toInt64) 0 63 _ g6) (zgS zw11_18 zw11_19 zw1_5 zw11_20) rfl ⟨rfl, rfl⟩ 3 hdX12_within ⟨Nat.le_of_ble_eq_true rfl, Nat.le_of_ble_eq_true rfl⟩ rfl hl rfl (Nat.le_of_ble_eq_true rfl) dX12_press_17 ⟨Nat.zero_le _, Nat.zero_le _⟩ (fun H locs hI => ?_)
  refine lv_if_ne (tgt := 27) hx hb dX12_press_20 (by decide) (fun q => ?_) (fun q => ?_)
  · replace hf := zif_f q hf
    refine lv_iconst (v := 0) hx hb dX12_press_27 (by decide) ?_
    exact bX12_press_28 hC  hI hl hf
  replace hf := zif_t q hf
  exact bX12_press_23 hC  hI hl hf
set_option maxRecDepth 20000 in
theorem cX12_press_met (st : Nat → Nat) (l : Launch) (D : va_G) (ad : Nat → Nat) (cy : Nat → ClassId) (σ : zSt) (x1 : Int32) (x2 : Int32) (res : zSt) (hf : fX12_press σ x1 x2 = some res) (sz : Nat) : zMu st l yX12_press wzX12_press rmX12_press [.ref (ad 0), .int x1, .int x2] D (tM cy) (wM ad cy) sz σ res :=
  zMu.of (cc := cX12_press) (maxL := 3) (ret := none) (by decide) rfl (Nat.le_of_ble_eq_true rfl) (fun p e s m args below meth c hC A hI ls hl => bX12_press hC hI hl hf)
theorem hdX12_press : yX12_press.cls = RX12 ∧ yX12_press.cls ≠ "java/lang/invoke/MethodHandle" ∧ yX12_press.cls ≠ "java/lang/invoke/VarHandle" ∧ (parseMethodDescriptor yX12_press.desc).map (fun d => d.parameters.length) = some 2 := by decide +kernel
noncomputable def rmX12_start : Room := { frames := 0, cells := 0, slots := 0, locals := 0 }
noncomputable def wzX12_start : List Cond := .code yX12_start cX12_start 2 none :: wsL_law
theorem hinX12_start_X120 : ∀ w ∈ wsX120, w ∈ wzX12_start := fun w h => List.mem_cons_of_mem _ (inlX12 w h)
noncomputable def fX12_start_20  (σ : zSt) (s0 : Int32) (s1 : Int32) : Option (zSt) :=
  zck (zin s1 1048) (zbv (zsi σ 3 (s1.toNatClampNeg) s0) (fun σ1 =>
  some σ1))
noncomputable def fX12_start  (σ : zSt) (x1 : Int32) : Option (zSt) :=
  zbv (zsi σ 0 0 0) (fun σ2 =>
  if x1 = 0 then fX12_start_20 σ2 0 44 else
  fX12_start_20 σ2 1 44)
set_option maxRecDepth 20000 in
set_option maxHeartbeats 4000000 in
theorem bX12_start_20 {st : Nat → Nat} {p : Program} {l : Launch} {e : Env} {s : State} {m : MethodId} {args : Array Value} {below : List Frame} {meth : Method} {c : Code} {D : va_G} {A : Nat → Prop} {ad : Nat → Nat} {cy : Nat → ClassId} (hC : zC p m c cX12_start 2 s args wzX12_start RX12 meth none)  {res : zSt} {H : Heap} {locs : List Loc} {σ : zSt} {ls : Array Slot} {s0 : Int32} {s1 : Int32} (hI : zI st D (tM cy) (wM ad cy σ) A s H locs) (hl : lv_has ls 2 []) (hf : fX12_start_20  σ s0 s1 = some res) : W p l e rmX12_start s m args below meth c H locs 0 0 (zQu below args s D (tM cy) (wM ad cy) A res) (F0 m 20 ls [.int s0, .int s1, .ref (ad 3)]) := by
  have hx := hC.1
  have hb := hC.2.1
  unfold fX12_start_20 at hf
  obtain ⟨q, hf⟩ := zck_use hf
  obtain ⟨σ1, eσ1⟩ : ∃ z, z = zsi σ 3 (s1.toNatClampNeg) s0 := ⟨_, rfl⟩
  replace hf := zbv_use eσ1 hf
  refine z_iast hC hI 3 2 (wM_e3 ad cy σ) (tM_t3 cy) q ((wM_s3 ad cy σ _ _).trans (congrArg (wM ad cy) eσ1.symm)) dX12_start_20 (fun H locs hI => ?_)
  exact z_return hC hI hf dX12_start_21
set_option maxRecDepth 20000 in
set_option maxHeartbeats 4000000 in
theorem bX12_start {st : Nat → Nat} {p : Program} {l : Launch} {e : Env} {s : State} {m : MethodId} {args : Array Value} {below : List Frame} {meth : Method} {c : Code} {D : va_G} {A : Nat → Prop} {ad : Nat → Nat} {cy : Nat → ClassId} (hC : zC p m c cX12_start 2 s args wzX12_start RX12 meth none)  {res : zSt} {H : Heap} {locs : List Loc} {σ : zSt} {ls : Array Slot} {x1 : Int32} (hI : zI st D (tM cy) (wM ad cy σ) A s H locs) (hl : lv_has ls 2 [(0, .ref (ad 0)), (1, .int x1)]) (hf : fX12_start  σ x1 = some res) : W p l e rmX12_start s m args below meth c H locs 0 0 (zQu below args s D (tM cy) (wM ad cy) A res) (F0 m 0 ls []) := by
  have hx := hC.1
  have hb := hC.2.1
  unfold fX12_start at hf
  refine lv_aload_n hx hb dX12_start_0 rfl (lv_at hl 0 rfl) ?_
  refine lv_iconst (v := 0) hx hb dX12_start_1 (by decide) ?_
  obtain ⟨σ2, eσ2⟩ : ∃ z, z = zsi σ 0 0 0 := ⟨_, rfl⟩
  replace hf := zbv_use eσ2 hf
  refine z_put hC hI hinX12_start_X120 tyX12_ok nmX12 0 (wM_e0 ad cy σ) rfl 0 (by decide) (List.mem_cons_of_mem _ zw12_1) rfl rfl rfl (Nat.le_of_ble_eq_true rfl) ((wM_s0_0 ad cy σ 0).trans (congrArg (wM ad cy) eσ2.symm)) dX12_start_2 (fun H locs hI => ?_)
  refine lv_aload_n hx hb dX12_start_5 rfl (lv_at hl 0 rfl) ?_
  refine z_get hC hI hinX12_start_X120 0 (wM_e0 ad cy σ2) rfl 10 (by decide) (List.mem_cons_of_mem _ zw9_7) rfl dX12_start_6 ?_
  refine lv_bipush (v := 44) hx hb dX12_start_9 (by decide) ?_
  refine lv_iload_n hx hb dX12_start_11 rfl (lv_at hl 1 rfl) ?_
  refine lv_if_eq (tgt := 19) hx hb dX12_start_12 (by decide) (fun q => ?_) (fun q => ?_)
  · replace hf := zif_t q hf
    refine lv_iconst (v := 0) hx hb dX12_start_19 (by decide) ?_
    exact bX12_start_20 hC  hI (lv_sub hl [] rfl) hf
  replace hf := zif_f q hf
  refine lv_iconst (v := 1) hx hb dX12_start_15 (by decide) ?_
  refine lv_goto (tgt := 20) hx hb dX12_start_16 (by decide) ?_
  exact bX12_start_20 hC  hI (lv_sub hl [] rfl) hf
set_option maxRecDepth 20000 in
theorem cX12_start_met (st : Nat → Nat) (l : Launch) (D : va_G) (ad : Nat → Nat) (cy : Nat → ClassId) (σ : zSt) (x1 : Int32) (res : zSt) (hf : fX12_start σ x1 = some res) (sz : Nat) : zMu st l yX12_start wzX12_start rmX12_start [.ref (ad 0), .int x1] D (tM cy) (wM ad cy) sz σ res :=
  zMu.of (cc := cX12_start) (maxL := 2) (ret := none) (by decide) rfl (Nat.le_of_ble_eq_true rfl) (fun p e s m args below meth c hC A hI ls hl => bX12_start hC hI hl hf)
theorem hdX12_start : yX12_start.cls = RX12 ∧ yX12_start.cls ≠ "java/lang/invoke/MethodHandle" ∧ yX12_start.cls ≠ "java/lang/invoke/VarHandle" ∧ (parseMethodDescriptor yX12_start.desc).map (fun d => d.parameters.length) = some 1 := by decide +kernel
noncomputable def rmX12_line : Room := { frames := 1, cells := 0, slots := 0, locals := 25 }
noncomputable def wzX12_line : List Cond := .code yX12_line cX12_line 4 none :: wsL_law
theorem hinX12_line_X120 : ∀ w ∈ wsX120, w ∈ wzX12_line := fun w h => List.mem_cons_of_mem _ (inlX12 w h)
noncomputable def fX12_line_72  (σ : zSt)  : Option (zSt) :=
  some σ
noncomputable def fX12_line_47  (σ : zSt) (x1 : Int32) (x3 : Int32) (s0 : Int32) (s1 : Int32) : Option (zSt) :=
  zck (zin s1 1048) (zbv (zsi σ 3 (s1.toNatClampNeg) s0) (fun σ1 =>
  if x3 = 0 then zbi (fX12_lineAt σ1 x1) (fun σ2 v3 =>
  if v3 = 1 then zbi (fX12_hCount σ2 ) (fun σ4 v5 =>
  zck (zin 35 1048) (zbv (zsi σ4 3 ((35 : Int32).toNatClampNeg) v5) (fun σ6 =>
  fX12_line_72 σ6))) else
  fX12_line_72 σ2) else
  fX12_line_72 σ1))
noncomputable def fX12_line_16  (σ : zSt) (x1 : Int32) (x2 : Int32) (s0 : Int32) : Option (zSt) :=
  zbi (fX12_fails σ s0 1) (fun σ7 v8 =>
  if v8 = 0 then zbi (fX12_lineAt σ7 x1) (fun σ9 v10 =>
  if x2 = 0 then fX12_line_47 σ9 x1 v10 0 (45 + x1) else
  fX12_line_47 σ9 x1 v10 1 (45 + x1)) else
  some σ7)
noncomputable def fX12_line  (σ : zSt) (x1 : Int32) (x2 : Int32) : Option (zSt) :=
  zbi (fX12_within σ (x1.toInt64) 0 1) (fun σ11 v12 =>
  if v12 = 0 then fX12_line_16 σ11 x1 x2 1 else
  fX12_line_16 σ11 x1 x2 0)
set_option maxRecDepth 20000 in
set_option maxHeartbeats 4000000 in
theorem bX12_line_72 {st : Nat → Nat} {p : Program} {l : Launch} {e : Env} {s : State} {m : MethodId} {args : Array Value} {below : List Frame} {meth : Method} {c : Code} {D : va_G} {A : Nat → Prop} {ad : Nat → Nat} {cy : Nat → ClassId} (hC : zC p m c cX12_line 4 s args wzX12_line RX12 meth none)  {res : zSt} {H : Heap} {locs : List Loc} {σ : zSt} {ls : Array Slot}  (hI : zI st D (tM cy) (wM ad cy σ) A s H locs) (hl : lv_has ls 4 []) (hf : fX12_line_72  σ  = some res) : W p l e rmX12_line s m args below meth c H locs 0 0 (zQu below args s D (tM cy) (wM ad cy) A res) (F0 m 72 ls []) := by
  have hx := hC.1
  have hb := hC.2.1
  unfold fX12_line_72 at hf
  exact z_return hC hI hf dX12_line_72
set_option maxRecDepth 20000 in
set_option maxHeartbeats 4000000 in
theorem bX12_line_47 {st : Nat → Nat} {p : Program} {l : Launch} {e : Env} {s : State} {m : MethodId} {args : Array Value} {below : List Frame} {meth : Method} {c : Code} {D : va_G} {A : Nat → Prop} {ad : Nat → Nat} {cy : Nat → ClassId} (hC : zC p m c cX12_line 4 s args wzX12_line RX12 meth none)  {res : zSt} {H : Heap} {locs : List Loc} {σ : zSt} {ls : Array Slot} {x1 : Int32} {x3 : Int32} {s0 : Int32} {s1 : Int32} (hI : zI st D (tM cy) (wM ad cy σ) A s H locs) (hl : lv_has ls 4 [(0, .ref (ad 0)), (1, .int x1), (3, .int x3)]) (hf : fX12_line_47  σ x1 x3 s0 s1 = some res) : W p l e rmX12_line s m args below meth c H locs 0 0 (zQu below args s D (tM cy) (wM ad cy) A res) (F0 m 47 ls [.int s0, .int s1, .ref (ad 3)]) := by
  have hx := hC.1
  have hb := hC.2.1
  unfold fX12_line_47 at hf
  obtain ⟨q, hf⟩ := zck_use hf
  obtain ⟨σ1, eσ1⟩ : ∃ z, z = zsi σ 3 (s1.toNatClampNeg) s0 := ⟨_, rfl⟩
  replace hf := zbv_use eσ1 hf
  refine z_iast hC hI 3 2 (wM_e3 ad cy σ) (tM_t3 cy) q ((wM_s3 ad cy σ _ _).trans (congrArg (wM ad cy) eσ1.symm)) dX12_line_47 (fun H locs hI => ?_)
  refine lv_iload_n hx hb dX12_line_48 rfl (lv_at hl 2 rfl) ?_
  refine lv_if_ne (tgt := 72) hx hb dX12_line_49 (by decide) (fun q => ?_) (fun q => ?_)
  · replace hf := zif_f q hf
    exact bX12_line_72 hC  hI (lv_sub hl [] rfl) hf
  replace hf := zif_t q hf
  refine lv_aload_n hx hb dX12_line_52 rfl (lv_at hl 0 rfl) ?_
  refine lv_iload_n hx hb dX12_line_53 rfl (lv_at hl 1 rfl) ?_
  obtain ⟨σ2, v3, g2, hf⟩ := zbi_use hf
  refine z_callVi (As := [.int x1]) (rest := []) hC hI (cX12_lineAt_met st l D ad cy σ1 x1 _ g2) (zgV zw55_14 zw55_15 zw55_16 zw1_5 zw55_17) rfl ⟨rfl, rfl⟩ 1 hdX12_lineAt ⟨Nat.le_of_ble_eq_true rfl, Nat.le_of_ble_eq_true rfl⟩ rfl rfl (wM_e0 ad cy σ1) rfl hl rfl (Nat.le_of_ble_eq_true rfl) dX12_line_54 ⟨Nat.zero_le _, Nat.zero_le _⟩ (fun H locs hI => ?_)
  refine lv_iconst (v := 1) hx hb dX12_line_57 (by decide) ?_
  refine lv_icmp_ne (tgt := 72) hx hb dX12_line_58 (by decide) (fun q => ?_) (fun q => ?_)
  · replace hf := zif_f q hf
    exact bX12_line_72 hC  hI (lv_sub hl [] rfl) hf
  replace hf := zif_t q hf
  refine lv_aload_n hx hb dX12_line_61 rfl (lv_at hl 0 rfl) ?_
  refine z_get hC hI hinX12_line_X120 0 (wM_e0 ad cy σ2) rfl 10 (by decide) (List.mem_cons_of_mem _ zw9_7) rfl dX12_line_62 ?_
  refine lv_bipush (v := 35) hx hb dX12_line_65 (by decide) ?_
  refine lv_aload_n hx hb dX12_line_67 rfl (lv_at hl 0 rfl) ?_
  obtain ⟨σ4, v5, g4, hf⟩ := zbi_use hf
  refine z_callVi (As := []) (rest := [.int 35, .ref (ad 3)]) hC hI (cX12_hCount_met st l D ad cy σ2  _ g4) (zgV zw55_18 zw55_19 zw55_20 zw1_5 zw55_21) rfl ⟨rfl, rfl⟩ 0 hdX12_hCount ⟨Nat.le_of_ble_eq_true rfl, Nat.le_of_ble_eq_true rfl⟩ rfl rfl (wM_e0 ad cy σ2) rfl hl rfl (Nat.le_of_ble_eq_true rfl) dX12_line_68 ⟨Nat.zero_le _, Nat.zero_le _⟩ (fun H locs hI => ?_)
  obtain ⟨q, hf⟩ := zck_use hf
  obtain ⟨σ6, eσ6⟩ : ∃ z, z = zsi σ4 3 ((35 : Int32).toNatClampNeg) v5 := ⟨_, rfl⟩
  replace hf := zbv_use eσ6 hf
  refine z_iast hC hI 3 2 (wM_e3 ad cy σ4) (tM_t3 cy) q ((wM_s3 ad cy σ4 _ _).trans (congrArg (wM ad cy) eσ6.symm)) dX12_line_71 (fun H locs hI => ?_)
  exact bX12_line_72 hC  hI (lv_sub hl [] rfl) hf
set_option maxRecDepth 20000 in
set_option maxHeartbeats 4000000 in
theorem bX12_line_16 {st : Nat → Nat} {p : Program} {l : Launch} {e : Env} {s : State} {m : MethodId} {args : Array Value} {below : List Frame} {meth : Method} {c : Code} {D : va_G} {A : Nat → Prop} {ad : Nat → Nat} {cy : Nat → ClassId} (hC : zC p m c cX12_line 4 s args wzX12_line RX12 meth none)  {res : zSt} {H : Heap} {locs : List Loc} {σ : zSt} {ls : Array Slot} {x1 : Int32} {x2 : Int32} {s0 : Int32} (hI : zI st D (tM cy) (wM ad cy σ) A s H locs) (hl : lv_has ls 4 [(0, .ref (ad 0)), (1, .int x1), (2, .int x2)]) (hf : fX12_line_16  σ x1 x2 s0 = some res) : W p l e rmX12_line s m args below meth c H locs 0 0 (zQu below args s D (tM cy) (wM ad cy) A res) (F0 m 16 ls [.int s0, .ref (ad 0)]) := by
  have hx := hC.1
  have hb := hC.2.1
  unfold fX12_line_16 at hf
  refine lv_iconst (v := 1) hx hb dX12_line_16 (by decide) ?_
  obtain ⟨σ7, v8, g7, hf⟩ := zbi_use hf
  refine z_callVi (As := [.int s0, .int 1]) (rest := []) hC hI (cX12_fails_met st l D ad cy σ s0 1 _ g7) (zgV zw11_21 zw11_22 zw11_23 zw1_5 zw12_0) rfl ⟨rfl, rfl⟩ 2 hdX12_fails ⟨Nat.le_of_ble_eq_true rfl, Nat.le_of_ble_eq_true rfl⟩ rfl rfl (wM_e0 ad cy σ) rfl hl rfl (Nat.le_of_ble_eq_true rfl) dX12_line_17 ⟨Nat.zero_le _, Nat.zero_le _⟩ (fun H locs hI => ?_)
  refine lv_if_eq (tgt := 24) hx hb dX12_line_20 (by decide) (fun q => ?_) (fun q => ?_)
  · replace hf := zif_t q hf
    refine lv_aload_n hx hb dX12_line_24 rfl (lv_at hl 0 rfl) ?_
    refine lv_iload_n hx hb dX12_line_25 rfl (lv_at hl 1 rfl) ?_
    obtain ⟨σ9, v10, g9, hf⟩ := zbi_use hf
    refine z_callVi (As := [.int x1]) (rest := []) hC hI (cX12_lineAt_met st l D ad cy σ7 x1 _ g9) (zgV zw55_14 zw55_15 zw55_16 zw1_5 zw55_17) rfl ⟨rfl, rfl⟩ 1 hdX12_lineAt ⟨Nat.le_of_ble_eq_true rfl, Nat.le_of_ble_eq_true rfl⟩ rfl rfl (wM_e0 ad cy σ7) rfl hl rfl (Nat.le_of_ble_eq_true rfl) dX12_line_26 ⟨Nat.zero_le _, Nat.zero_le _⟩ (fun H locs hI => ?_)
    refine lv_istore_n (lv' := [(3, .int v10), (0, .ref (ad 0)), (1, .int x1), (2, .int x2)]) hx hb dX12_line_29 rfl hl (by decide) rfl (fun ls hl => ?_)
    refine lv_aload_n hx hb dX12_line_30 rfl (lv_at hl 1 rfl) ?_
    refine z_get hC hI hinX12_line_X120 0 (wM_e0 ad cy σ9) rfl 10 (by decide) (List.mem_cons_of_mem _ zw9_7) rfl dX12_line_31 ?_
    refine lv_bipush (v := 45) hx hb dX12_line_34 (by decide) ?_
    refine lv_iload_n hx hb dX12_line_36 rfl (lv_at hl 2 rfl) ?_
    refine lv_iadd hx hb dX12_line_37 ?_
    refine lv_iload_n hx hb dX12_line_38 rfl (lv_at hl 3 rfl) ?_
    refine lv_if_eq (tgt := 46) hx hb dX12_line_39 (by decide) (fun q => ?_) (fun q => ?_)
    · replace hf := zif_t q hf
      refine lv_iconst (v := 0) hx hb dX12_line_46 (by decide) ?_
      exact bX12_line_47 hC  hI (lv_sub hl [1, 2, 0] rfl) hf
    replace hf := zif_f q hf
    refine lv_iconst (v := 1) hx hb dX12_line_42 (by decide) ?_
    refine lv_goto (tgt := 47) hx hb dX12_line_43 (by decide) ?_
    exact bX12_line_47 hC  hI (lv_sub hl [1, 2, 0] rfl) hf
  replace hf := zif_f q hf
  exact z_return hC hI hf dX12_line_23
set_option maxRecDepth 20000 in
set_option maxHeartbeats 4000000 in
theorem bX12_line {st : Nat → Nat} {p : Program} {l : Launch} {e : Env} {s : State} {m : MethodId} {args : Array Value} {below : List Frame} {meth : Method} {c : Code} {D : va_G} {A : Nat → Prop} {ad : Nat → Nat} {cy : Nat → ClassId} (hC : zC p m c cX12_line 4 s args wzX12_line RX12 meth none)  {res : zSt} {H : Heap} {locs : List Loc} {σ : zSt} {ls : Array Slot} {x1 : Int32} {x2 : Int32} (hI : zI st D (tM cy) (wM ad cy σ) A s H locs) (hl : lv_has ls 4 [(0, .ref (ad 0)), (1, .int x1), (2, .int x2)]) (hf : fX12_line  σ x1 x2 = some res) : W p l e rmX12_line s m args below meth c H locs 0 0 (zQu below args s D (tM cy) (wM ad cy) A res) (F0 m 0 ls []) := by
  have hx := hC.1
  have hb := hC.2.1
  unfold fX12_line at hf
  refine lv_aload_n hx hb dX12_line_0 rfl (lv_at hl 0 rfl) ?_
  refine lv_iload_n hx hb dX12_line_1 rfl (lv_at hl 1 rfl) ?_
  refine lv_i2l (v := x1.toInt64) hx hb dX12_line_2 rfl ?_
  refine lv_lconst (v := 0) hx hb dX12_line_3 (by decide) ?_
  refine lv_lconst (v := 1) hx hb dX12_line_4 (by decide) ?_
  obtain ⟨σ11, v12, g11, hf⟩ := zbi_use hf
  refine z_callSi (As := [.long (x1.toInt64), .long 0, .long 1]) (rest := [.ref (ad 0)]) hC hI (cX12_within_met st l D ad cy σ (x1.toInt64) 0 1 _ g11) (zgS zw11_18 zw11_19 zw1_5 zw11_20) rfl ⟨rfl, rfl⟩ 3 hdX12_within ⟨Nat.le_of_ble_eq_true rfl, Nat.le_of_ble_eq_true rfl⟩ rfl hl rfl (Nat.le_of_ble_eq_true rfl) dX12_line_5 ⟨Nat.zero_le _, Nat.zero_le _⟩ (fun H locs hI => ?_)
  refine lv_if_ne (tgt := 15) hx hb dX12_line_8 (by decide) (fun q => ?_) (fun q => ?_)
  · replace hf := zif_f q hf
    refine lv_iconst (v := 0) hx hb dX12_line_15 (by decide) ?_
    exact bX12_line_16 hC  hI hl hf
  replace hf := zif_t q hf
  refine lv_iconst (v := 1) hx hb dX12_line_11 (by decide) ?_
  refine lv_goto (tgt := 16) hx hb dX12_line_12 (by decide) ?_
  exact bX12_line_16 hC  hI hl hf
set_option maxRecDepth 20000 in
theorem cX12_line_met (st : Nat → Nat) (l : Launch) (D : va_G) (ad : Nat → Nat) (cy : Nat → ClassId) (σ : zSt) (x1 : Int32) (x2 : Int32) (res : zSt) (hf : fX12_line σ x1 x2 = some res) (sz : Nat) : zMu st l yX12_line wzX12_line rmX12_line [.ref (ad 0), .int x1, .int x2] D (tM cy) (wM ad cy) sz σ res :=
  zMu.of (cc := cX12_line) (maxL := 4) (ret := none) (by decide) rfl (Nat.le_of_ble_eq_true rfl) (fun p e s m args below meth c hC A hI ls hl => bX12_line hC hI hl hf)
theorem hdX12_line : yX12_line.cls = RX12 ∧ yX12_line.cls ≠ "java/lang/invoke/MethodHandle" ∧ yX12_line.cls ≠ "java/lang/invoke/VarHandle" ∧ (parseMethodDescriptor yX12_line.desc).map (fun d => d.parameters.length) = some 2 := by decide +kernel
noncomputable def rmX12_stop : Room := { frames := 1, cells := 0, slots := 0, locals := 25 }
noncomputable def wzX12_stop : List Cond := .code yX12_stop cX12_stop 5 (some .int) :: wsL_law
theorem hinX12_stop_X120 : ∀ w ∈ wsX120, w ∈ wzX12_stop := fun w h => List.mem_cons_of_mem _ (inlX12 w h)
noncomputable def fX12_stop_64  (σ : zSt)  : Option (zSt × Int32) :=
  some (σ, 0)
noncomputable def fX12_stop_168  (σ : zSt)  : Option (zSt × Int32) :=
  zck (zin 89 1048) (
  some (σ, zgi σ 3 (89 : Int32).toNatClampNeg))
noncomputable def fX12_stop_112_body (k112 : zSt → Int32 → Int32 → Option (zSt × Int32)) (σ : zSt) (x1 : Int32) (x4 : Int32) : Option (zSt × Int32) :=
  zck (zin (89 + x4) 1048) (
  if (zgi σ 3 (89 + x4).toNatClampNeg) = x1 then zck (zin 89 1048) (
  zck (zin (89 + (zgi σ 3 (89 : Int32).toNatClampNeg)) 1048) (
  zck (zin (89 + x4) 1048) (zbv (zsi σ 3 ((89 + x4).toNatClampNeg) (zgi σ 3 (89 + (zgi σ 3 (89 : Int32).toNatClampNeg)).toNatClampNeg)) (fun σ1 =>
  zck (zin 89 1048) (
  zck (zin 89 1048) (zbv (zsi σ1 3 ((89 : Int32).toNatClampNeg) ((zgi σ1 3 (89 : Int32).toNatClampNeg) - 1)) (fun σ2 =>
  fX12_stop_168 σ2))))))) else
  zbv (x4 + 1) (fun v3 =>
  k112 σ x1 v3))
noncomputable def fX12_stop_112  : Nat → zSt → Int32 → Int32 → Option (zSt × Int32)
  | 0, _, _, _ => none
  | n + 1, σ, x1, x4 => fX12_stop_112_body (fX12_stop_112  n) σ x1 x4
noncomputable def fX12_stop_101  (σ : zSt) (x1 : Int32) (x2 : Int32) (x3 : Int32) : Option (zSt × Int32) :=
  if x2 = 0 then if x3 = 0 then fX12_stop_168 σ else
  fX12_stop_112 zfuel σ x1 1 else
  fX12_stop_168 σ
noncomputable def fX12_stop_57  (σ : zSt) (x1 : Int32) (x2 : Int32) (x3 : Int32) (s0 : Int32) : Option (zSt × Int32) :=
  zbi (fX12_fails σ s0 2) (fun σ4 v5 =>
  if v5 = 0 then if x2 = 0 then fX12_stop_101 σ4 x1 x2 x3 else
  if x3 = 0 then zck (zin 89 1048) (
  zck (zin 89 1048) (zbv (zsi σ4 3 ((89 : Int32).toNatClampNeg) ((zgi σ4 3 (89 : Int32).toNatClampNeg) + 1)) (fun σ6 =>
  zck (zin 89 1048) (
  zck (zin (89 + (zgi σ6 3 (89 : Int32).toNatClampNeg)) 1048) (zbv (zsi σ6 3 ((89 + (zgi σ6 3 (89 : Int32).toNatClampNeg)).toNatClampNeg) x1) (fun σ7 =>
  fX12_stop_101 σ7 x1 x2 x3)))))) else
  fX12_stop_101 σ4 x1 x2 x3 else
  fX12_stop_64 σ4)
noncomputable def fX12_stop_56  (σ : zSt) (x1 : Int32) (x2 : Int32) (x3 : Int32) : Option (zSt × Int32) :=
  fX12_stop_57 σ x1 x2 x3 0
noncomputable def fX12_stop_24  (σ : zSt) (x1 : Int32) (x2 : Int32) (x3 : Int32) (s0 : Int32) : Option (zSt × Int32) :=
  zbi (fX12_fails σ s0 1) (fun σ8 v9 =>
  if v9 = 0 then if x2 = 0 then fX12_stop_56 σ8 x1 x2 x3 else
  if x3 = 0 then zck (zin 89 1048) (
  if (zgi σ8 3 (89 : Int32).toNatClampNeg) = 8 then fX12_stop_57 σ8 x1 x2 x3 1 else
  fX12_stop_56 σ8 x1 x2 x3) else
  fX12_stop_56 σ8 x1 x2 x3 else
  fX12_stop_64 σ8)
noncomputable def fX12_stop  (σ : zSt) (x1 : Int32) (x2 : Int32) : Option (zSt × Int32) :=
  zbi (fX12_isStop σ x1) (fun σ10 v11 =>
  zbi (fX12_within σ10 (x1.toInt64) 0 65535) (fun σ12 v13 =>
  if v13 = 0 then fX12_stop_24 σ12 x1 x2 v11 1 else
  fX12_stop_24 σ12 x1 x2 v11 0))
set_option maxRecDepth 20000 in
set_option maxHeartbeats 4000000 in
theorem bX12_stop_64 {st : Nat → Nat} {p : Program} {l : Launch} {e : Env} {s : State} {m : MethodId} {args : Array Value} {below : List Frame} {meth : Method} {c : Code} {D : va_G} {A : Nat → Prop} {ad : Nat → Nat} {cy : Nat → ClassId} (hC : zC p m c cX12_stop 5 s args wzX12_stop RX12 meth (some .int))  {res : zSt × Int32} {H : Heap} {locs : List Loc} {σ : zSt} {ls : Array Slot}  (hI : zI st D (tM cy) (wM ad cy σ) A s H locs) (hl : lv_has ls 5 []) (hf : fX12_stop_64  σ  = some res) : W p l e rmX12_stop s m args below meth c H locs 0 0 (zQi below args s D (tM cy) (wM ad cy) A res) (F0 m 64 ls []) := by
  have hx := hC.1
  have hb := hC.2.1
  unfold fX12_stop_64 at hf
  refine lv_iconst (v := 0) hx hb dX12_stop_64 (by decide) ?_
  exact z_ireturn hC hI hf dX12_stop_65
set_option maxRecDepth 20000 in
set_option maxHeartbeats 4000000 in
theorem bX12_stop_168 {st : Nat → Nat} {p : Program} {l : Launch} {e : Env} {s : State} {m : MethodId} {args : Array Value} {below : List Frame} {meth : Method} {c : Code} {D : va_G} {A : Nat → Prop} {ad : Nat → Nat} {cy : Nat → ClassId} (hC : zC p m c cX12_stop 5 s args wzX12_stop RX12 meth (some .int))  {res : zSt × Int32} {H : Heap} {locs : List Loc} {σ : zSt} {ls : Array Slot}  (hI : zI st D (tM cy) (wM ad cy σ) A s H locs) (hl : lv_has ls 5 [(0, .ref (ad 0))]) (hf : fX12_stop_168  σ  = some res) : W p l e rmX12_stop s m args below meth c H locs 0 0 (zQi below args s D (tM cy) (wM ad cy) A res) (F0 m 168 ls []) := by
  have hx := hC.1
  have hb := hC.2.1
  unfold fX12_stop_168 at hf
  refine lv_aload_n hx hb dX12_stop_168 rfl (lv_at hl 0 rfl) ?_
  refine z_get hC hI hinX12_stop_X120 0 (wM_e0 ad cy σ) rfl 10 (by decide) (List.mem_cons_of_mem _ zw9_7) rfl dX12_stop_169 ?_
  refine lv_bipush (v := 89) hx hb dX12_stop_172 (by decide) ?_
  obtain ⟨q, hf⟩ := zck_use hf
  refine z_iald hC hI 3 2 (wM_e3 ad cy σ) (tM_t3 cy) q dX12_stop_174 ?_
  exact z_ireturn hC hI hf dX12_stop_175
set_option maxRecDepth 20000 in
set_option maxHeartbeats 4000000 in
theorem bX12_stop_112_body {st : Nat → Nat} {p : Program} {l : Launch} {e : Env} {s : State} {m : MethodId} {args : Array Value} {below : List Frame} {meth : Method} {c : Code} {D : va_G} {A : Nat → Prop} {ad : Nat → Nat} {cy : Nat → ClassId} (hC : zC p m c cX12_stop 5 s args wzX12_stop RX12 meth (some .int)) {k112 : zSt → Int32 → Int32 → Option (zSt × Int32)} {res : zSt × Int32} (hk112 : ∀ (H : Heap) (locs : List Loc) (σ : zSt) (ls : Array Slot) (x1 : Int32) (x4 : Int32), zI st D (tM cy) (wM ad cy σ) A s H locs → lv_has ls 5 [(0, .ref (ad 0)), (1, .int x1), (4, .int x4)] → k112 σ x1 x4 = some res → W p l e rmX12_stop s m args below meth c H locs 0 0 (zQi below args s D (tM cy) (wM ad cy) A res) (F0 m 112 ls [])) {H : Heap} {locs : List Loc} {σ : zSt} {ls : Array Slot} {x1 : Int32} {x4 : Int32} (hI : zI st D (tM cy) (wM ad cy σ) A s H locs) (hl : lv_has ls 5 [(0, .ref (ad 0)), (1, .int x1), (4, .int x4)]) (hf : fX12_stop_112_body k112 σ x1 x4 = some res) : W p l e rmX12_stop s m args below meth c H locs 0 0 (zQi below args s D (tM cy) (wM ad cy) A res) (F0 m 112 ls []) := by
  have hx := hC.1
  have hb := hC.2.1
  unfold fX12_stop_112_body at hf
  refine lv_aload_n hx hb dX12_stop_112 rfl (lv_at hl 0 rfl) ?_
  refine z_get hC hI hinX12_stop_X120 0 (wM_e0 ad cy σ) rfl 10 (by decide) (List.mem_cons_of_mem _ zw9_7) rfl dX12_stop_113 ?_
  refine lv_bipush (v := 89) hx hb dX12_stop_116 (by decide) ?_
  refine lv_iload hx hb dX12_stop_118 (lv_at hl 2 rfl) ?_
  refine lv_iadd hx hb dX12_stop_120 ?_
  obtain ⟨q, hf⟩ := zck_use hf
  refine z_iald hC hI 3 2 (wM_e3 ad cy σ) (tM_t3 cy) q dX12_stop_121 ?_
  refine lv_iload_n hx hb dX12_stop_122 rfl (lv_at hl 1 rfl) ?_
  refine lv_icmp_eq (tgt := 132) hx hb dX12_stop_123 (by decide) (fun q => ?_) (fun q => ?_)
  · replace hf := zif_t q hf
    refine lv_aload_n hx hb dX12_stop_132 rfl (lv_at hl 0 rfl) ?_
    refine z_get hC hI hinX12_stop_X120 0 (wM_e0 ad cy σ) rfl 10 (by decide) (List.mem_cons_of_mem _ zw9_7) rfl dX12_stop_133 ?_
    refine lv_bipush (v := 89) hx hb dX12_stop_136 (by decide) ?_
    refine lv_iload hx hb dX12_stop_138 (lv_at hl 2 rfl) ?_
    refine lv_iadd hx hb dX12_stop_140 ?_
    refine lv_aload_n hx hb dX12_stop_141 rfl (lv_at hl 0 rfl) ?_
    refine z_get hC hI hinX12_stop_X120 0 (wM_e0 ad cy σ) rfl 10 (by decide) (List.mem_cons_of_mem _ zw9_7) rfl dX12_stop_142 ?_
    refine lv_bipush (v := 89) hx hb dX12_stop_145 (by decide) ?_
    refine lv_aload_n hx hb dX12_stop_147 rfl (lv_at hl 0 rfl) ?_
    refine z_get hC hI hinX12_stop_X120 0 (wM_e0 ad cy σ) rfl 10 (by decide) (List.mem_cons_of_mem _ zw9_7) rfl dX12_stop_148 ?_
    refine lv_bipush (v := 89) hx hb dX12_stop_151 (by decide) ?_
    obtain ⟨q, hf⟩ := zck_use hf
    refine z_iald hC hI 3 2 (wM_e3 ad cy σ) (tM_t3 cy) q dX12_stop_153 ?_
    refine lv_iadd hx hb dX12_stop_154 ?_
    obtain ⟨q, hf⟩ := zck_use hf
    refine z_iald hC hI 3 2 (wM_e3 ad cy σ) (tM_t3 cy) q dX12_stop_155 ?_
    obtain ⟨q, hf⟩ := zck_use hf
    obtain ⟨σ1, eσ1⟩ : ∃ z, z = zsi σ 3 ((89 + x4).toNatClampNeg) (zgi σ 3 (89 + (zgi σ 3 (89 : Int32).toNatClampNeg)).toNatClampNeg) := ⟨_, rfl⟩
    replace hf := zbv_use eσ1 hf
    refine z_iast hC hI 3 2 (wM_e3 ad cy σ) (tM_t3 cy) q ((wM_s3 ad cy σ _ _).trans (congrArg (wM ad cy) eσ1.symm)) dX12_stop_156 (fun H locs hI => ?_)
    refine lv_aload_n hx hb dX12_stop_157 rfl (lv_at hl 0 rfl) ?_
    refine z_get hC hI hinX12_stop_X120 0 (wM_e0 ad cy σ1) rfl 10 (by decide) (List.mem_cons_of_mem _ zw9_7) rfl dX12_stop_158 ?_
    refine lv_bipush (v := 89) hx hb dX12_stop_161 (by decide) ?_
    refine lv_dup2_11 hx hb dX12_stop_163 rfl rfl ?_
    obtain ⟨q, hf⟩ := zck_use hf
    refine z_iald hC hI 3 2 (wM_e3 ad cy σ1) (tM_t3 cy) q dX12_stop_164 ?_
    refine lv_iconst (v := 1) hx hb dX12_stop_165 (by decide) ?_
    refine lv_isub hx hb dX12_stop_166 ?_
    obtain ⟨q, hf⟩ := zck_use hf
    obtain ⟨σ2, eσ2⟩ : ∃ z, z = zsi σ1 3 ((89 : Int32).toNatClampNeg) ((zgi σ1 3 (89 : Int32).toNatClampNeg) - 1) := ⟨_, rfl⟩
    replace hf := zbv_use eσ2 hf
    refine z_iast hC hI 3 2 (wM_e3 ad cy σ1) (tM_t3 cy) q ((wM_s3 ad cy σ1 _ _).trans (congrArg (wM ad cy) eσ2.symm)) dX12_stop_167 (fun H locs hI => ?_)
    exact bX12_stop_168 hC  hI (lv_sub hl [0] rfl) hf
  replace hf := zif_f q hf
  obtain ⟨v3, ev3⟩ : ∃ z : Int32, z = x4 + 1 := ⟨_, rfl⟩
  replace hf := zbv_use ev3 hf
  refine lv_iinc (v := v3) (lv' := [(4, .int v3), (0, .ref (ad 0)), (1, .int x1)]) hx hb dX12_stop_126 hl (k := 2) rfl (by rw [ev3]; rfl) (by decide) rfl (fun ls hl => ?_)
  refine lv_goto (tgt := 112) hx hb dX12_stop_129 (by decide) ?_
  exact hk112 _ _ _ _ _ _ hI (lv_sub hl [1, 2, 0] rfl) hf
theorem blX12_stop_112 {st : Nat → Nat} {p : Program} {l : Launch} {e : Env} {s : State} {m : MethodId} {args : Array Value} {below : List Frame} {meth : Method} {c : Code} {D : va_G} {A : Nat → Prop} {ad : Nat → Nat} {cy : Nat → ClassId} (hC : zC p m c cX12_stop 5 s args wzX12_stop RX12 meth (some .int))  {res : zSt × Int32} : ∀ (n : Nat) (H : Heap) (locs : List Loc) (σ : zSt) (ls : Array Slot) (x1 : Int32) (x4 : Int32), zI st D (tM cy) (wM ad cy σ) A s H locs → lv_has ls 5 [(0, .ref (ad 0)), (1, .int x1), (4, .int x4)] → fX12_stop_112  n σ x1 x4 = some res → W p l e rmX12_stop s m args below meth c H locs 0 0 (zQi below args s D (tM cy) (wM ad cy) A res) (F0 m 112 ls []) := by
  intro n
  induction n with
  | zero => intro H locs σ ls x1 x4 hI hl hf; cases hf
  | succ n ih => intro H locs σ ls x1 x4 hI hl hf; exact bX12_stop_112_body hC ih hI hl hf
set_option maxRecDepth 20000 in
set_option maxHeartbeats 4000000 in
theorem bX12_stop_101 {st : Nat → Nat} {p : Program} {l : Launch} {e : Env} {s : State} {m : MethodId} {args : Array Value} {below : List Frame} {meth : Method} {c : Code} {D : va_G} {A : Nat → Prop} {ad : Nat → Nat} {cy : Nat → ClassId} (hC : zC p m c cX12_stop 5 s args wzX12_stop RX12 meth (some .int))  {res : zSt × Int32} {H : Heap} {locs : List Loc} {σ : zSt} {ls : Array Slot} {x1 : Int32} {x2 : Int32} {x3 : Int32} (hI : zI st D (tM cy) (wM ad cy σ) A s H locs) (hl : lv_has ls 5 [(0, .ref (ad 0)), (1, .int x1), (2, .int x2), (3, .int x3)]) (hf : fX12_stop_101  σ x1 x2 x3 = some res) : W p l e rmX12_stop s m args below meth c H locs 0 0 (zQi below args s D (tM cy) (wM ad cy) A res) (F0 m 101 ls []) := by
  have hx := hC.1
  have hb := hC.2.1
  unfold fX12_stop_101 at hf
  refine lv_iload_n hx hb dX12_stop_101 rfl (lv_at hl 2 rfl) ?_
  refine lv_if_ne (tgt := 168) hx hb dX12_stop_102 (by decide) (fun q => ?_) (fun q => ?_)
  · replace hf := zif_f q hf
    exact bX12_stop_168 hC  hI (lv_sub hl [0] rfl) hf
  replace hf := zif_t q hf
  refine lv_iload_n hx hb dX12_stop_105 rfl (lv_at hl 3 rfl) ?_
  refine lv_if_eq (tgt := 168) hx hb dX12_stop_106 (by decide) (fun q => ?_) (fun q => ?_)
  · replace hf := zif_t q hf
    exact bX12_stop_168 hC  hI (lv_sub hl [0] rfl) hf
  replace hf := zif_f q hf
  refine lv_iconst (v := 1) hx hb dX12_stop_109 (by decide) ?_
  refine lv_istore (lv' := [(4, .int 1), (0, .ref (ad 0)), (1, .int x1), (2, .int x2), (3, .int x3)]) hx hb dX12_stop_110 hl (by decide) rfl (fun ls hl => ?_)
  exact blX12_stop_112 hC  zfuel _ _ _ _ _ _ hI (lv_sub hl [1, 2, 0] rfl) hf
set_option maxRecDepth 20000 in
set_option maxHeartbeats 4000000 in
theorem bX12_stop_57 {st : Nat → Nat} {p : Program} {l : Launch} {e : Env} {s : State} {m : MethodId} {args : Array Value} {below : List Frame} {meth : Method} {c : Code} {D : va_G} {A : Nat → Prop} {ad : Nat → Nat} {cy : Nat → ClassId} (hC : zC p m c cX12_stop 5 s args wzX12_stop RX12 meth (some .int))  {res : zSt × Int32} {H : Heap} {locs : List Loc} {σ : zSt} {ls : Array Slot} {x1 : Int32} {x2 : Int32} {x3 : Int32} {s0 : Int32} (hI : zI st D (tM cy) (wM ad cy σ) A s H locs) (hl : lv_has ls 5 [(0, .ref (ad 0)), (1, .int x1), (2, .int x2), (3, .int x3)]) (hf : fX12_stop_57  σ x1 x2 x3 s0 = some res) : W p l e rmX12_stop s m args below meth c H locs 0 0 (zQi below args s D (tM cy) (wM ad cy) A res) (F0 m 57 ls [.int s0, .ref (ad 0)]) := by
  have hx := hC.1
  have hb := hC.2.1
  unfold fX12_stop_57 at hf
  refine lv_iconst (v := 2) hx hb dX12_stop_57 (by decide) ?_
  obtain ⟨σ4, v5, g4, hf⟩ := zbi_use hf
  refine z_callVi (As := [.int s0, .int 2]) (rest := []) hC hI (cX12_fails_met st l D ad cy σ s0 2 _ g4) (zgV zw11_21 zw11_22 zw11_23 zw1_5 zw12_0) rfl ⟨rfl, rfl⟩ 2 hdX12_fails ⟨Nat.le_of_ble_eq_true rfl, Nat.le_of_ble_eq_true rfl⟩ rfl rfl (wM_e0 ad cy σ) rfl hl rfl (Nat.le_of_ble_eq_true rfl) dX12_stop_58 ⟨Nat.zero_le _, Nat.zero_le _⟩ (fun H locs hI => ?_)
  refine lv_if_eq (tgt := 66) hx hb dX12_stop_61 (by decide) (fun q => ?_) (fun q => ?_)
  · replace hf := zif_t q hf
    refine lv_iload_n hx hb dX12_stop_66 rfl (lv_at hl 2 rfl) ?_
    refine lv_if_eq (tgt := 101) hx hb dX12_stop_67 (by decide) (fun q => ?_) (fun q => ?_)
    · replace hf := zif_t q hf
      exact bX12_stop_101 hC  hI hl hf
    replace hf := zif_f q hf
    refine lv_iload_n hx hb dX12_stop_70 rfl (lv_at hl 3 rfl) ?_
    refine lv_if_ne (tgt := 101) hx hb dX12_stop_71 (by decide) (fun q => ?_) (fun q => ?_)
    · replace hf := zif_f q hf
      exact bX12_stop_101 hC  hI hl hf
    replace hf := zif_t q hf
    refine lv_aload_n hx hb dX12_stop_74 rfl (lv_at hl 0 rfl) ?_
    refine z_get hC hI hinX12_stop_X120 0 (wM_e0 ad cy σ4) rfl 10 (by decide) (List.mem_cons_of_mem _ zw9_7) rfl dX12_stop_75 ?_
    refine lv_bipush (v := 89) hx hb dX12_stop_78 (by decide) ?_
    refine lv_dup2_11 hx hb dX12_stop_80 rfl rfl ?_
    obtain ⟨q, hf⟩ := zck_use hf
    refine z_iald hC hI 3 2 (wM_e3 ad cy σ4) (tM_t3 cy) q dX12_stop_81 ?_
    refine lv_iconst (v := 1) hx hb dX12_stop_82 (by decide) ?_
    refine lv_iadd hx hb dX12_stop_83 ?_
    obtain ⟨q, hf⟩ := zck_use hf
    obtain ⟨σ6, eσ6⟩ : ∃ z, z = zsi σ4 3 ((89 : Int32).toNatClampNeg) ((zgi σ4 3 (89 : Int32).toNatClampNeg) + 1) := ⟨_, rfl⟩
    replace hf := zbv_use eσ6 hf
    refine z_iast hC hI 3 2 (wM_e3 ad cy σ4) (tM_t3 cy) q ((wM_s3 ad cy σ4 _ _).trans (congrArg (wM ad cy) eσ6.symm)) dX12_stop_84 (fun H locs hI => ?_)
    refine lv_aload_n hx hb dX12_stop_85 rfl (lv_at hl 0 rfl) ?_
    refine z_get hC hI hinX12_stop_X120 0 (wM_e0 ad cy σ6) rfl 10 (by decide) (List.mem_cons_of_mem _ zw9_7) rfl dX12_stop_86 ?_
    refine lv_bipush (v := 89) hx hb dX12_stop_89 (by decide) ?_
    refine lv_aload_n hx hb dX12_stop_91 rfl (lv_at hl 0 rfl) ?_
    refine z_get hC hI hinX12_stop_X120 0 (wM_e0 ad cy σ6) rfl 10 (by decide) (List.mem_cons_of_mem _ zw9_7) rfl dX12_stop_92 ?_
    refine lv_bipush (v := 89) hx hb dX12_stop_95 (by decide) ?_
    obtain ⟨q, hf⟩ := zck_use hf
    refine z_iald hC hI 3 2 (wM_e3 ad cy σ6) (tM_t3 cy) q dX12_stop_97 ?_
    refine lv_iadd hx hb dX12_stop_98 ?_
    refine lv_iload_n hx hb dX12_stop_99 rfl (lv_at hl 1 rfl) ?_
    obtain ⟨q, hf⟩ := zck_use hf
    obtain ⟨σ7, eσ7⟩ : ∃ z, z = zsi σ6 3 ((89 + (zgi σ6 3 (89 : Int32).toNatClampNeg)).toNatClampNeg) x1 := ⟨_, rfl⟩
    replace hf := zbv_use eσ7 hf
    refine z_iast hC hI 3 2 (wM_e3 ad cy σ6) (tM_t3 cy) q ((wM_s3 ad cy σ6 _ _).trans (congrArg (wM ad cy) eσ7.symm)) dX12_stop_100 (fun H locs hI => ?_)
    exact bX12_stop_101 hC  hI hl hf
  replace hf := zif_f q hf
  exact bX12_stop_64 hC  hI (lv_sub hl [] rfl) hf
set_option maxRecDepth 20000 in
set_option maxHeartbeats 4000000 in
theorem bX12_stop_56 {st : Nat → Nat} {p : Program} {l : Launch} {e : Env} {s : State} {m : MethodId} {args : Array Value} {below : List Frame} {meth : Method} {c : Code} {D : va_G} {A : Nat → Prop} {ad : Nat → Nat} {cy : Nat → ClassId} (hC : zC p m c cX12_stop 5 s args wzX12_stop RX12 meth (some .int))  {res : zSt × Int32} {H : Heap} {locs : List Loc} {σ : zSt} {ls : Array Slot} {x1 : Int32} {x2 : Int32} {x3 : Int32} (hI : zI st D (tM cy) (wM ad cy σ) A s H locs) (hl : lv_has ls 5 [(0, .ref (ad 0)), (1, .int x1), (2, .int x2), (3, .int x3)]) (hf : fX12_stop_56  σ x1 x2 x3 = some res) : W p l e rmX12_stop s m args below meth c H locs 0 0 (zQi below args s D (tM cy) (wM ad cy) A res) (F0 m 56 ls [.ref (ad 0)]) := by
  have hx := hC.1
  have hb := hC.2.1
  unfold fX12_stop_56 at hf
  refine lv_iconst (v := 0) hx hb dX12_stop_56 (by decide) ?_
  exact bX12_stop_57 hC  hI hl hf
set_option maxRecDepth 20000 in
set_option maxHeartbeats 4000000 in
theorem bX12_stop_24 {st : Nat → Nat} {p : Program} {l : Launch} {e : Env} {s : State} {m : MethodId} {args : Array Value} {below : List Frame} {meth : Method} {c : Code} {D : va_G} {A : Nat → Prop} {ad : Nat → Nat} {cy : Nat → ClassId} (hC : zC p m c cX12_stop 5 s args wzX12_stop RX12 meth (some .int))  {res : zSt × Int32} {H : Heap} {locs : List Loc} {σ : zSt} {ls : Array Slot} {x1 : Int32} {x2 : Int32} {x3 : Int32} {s0 : Int32} (hI : zI st D (tM cy) (wM ad cy σ) A s H locs) (hl : lv_has ls 5 [(0, .ref (ad 0)), (1, .int x1), (2, .int x2), (3, .int x3)]) (hf : fX12_stop_24  σ x1 x2 x3 s0 = some res) : W p l e rmX12_stop s m args below meth c H locs 0 0 (zQi below args s D (tM cy) (wM ad cy) A res) (F0 m 24 ls [.int s0, .ref (ad 0)]) := by
  have hx := hC.1
  have hb := hC.2.1
  unfold fX12_stop_24 at hf
  refine lv_iconst (v := 1) hx hb dX12_stop_24 (by decide) ?_
  obtain ⟨σ8, v9, g8, hf⟩ := zbi_use hf
  refine z_callVi (As := [.int s0, .int 1]) (rest := []) hC hI (cX12_fails_met st l D ad cy σ s0 1 _ g8) (zgV zw11_21 zw11_22 zw11_23 zw1_5 zw12_0) rfl ⟨rfl, rfl⟩ 2 hdX12_fails ⟨Nat.le_of_ble_eq_true rfl, Nat.le_of_ble_eq_true rfl⟩ rfl rfl (wM_e0 ad cy σ) rfl hl rfl (Nat.le_of_ble_eq_true rfl) dX12_stop_25 ⟨Nat.zero_le _, Nat.zero_le _⟩ (fun H locs hI => ?_)
  refine lv_if_ne (tgt := 64) hx hb dX12_stop_28 (by decide) (fun q => ?_) (fun q => ?_)
  · replace hf := zif_f q hf
    exact bX12_stop_64 hC  hI (lv_sub hl [] rfl) hf
  replace hf := zif_t q hf
  refine lv_aload_n hx hb dX12_stop_31 rfl (lv_at hl 0 rfl) ?_
  refine lv_iload_n hx hb dX12_stop_32 rfl (lv_at hl 2 rfl) ?_
  refine lv_if_eq (tgt := 56) hx hb dX12_stop_33 (by decide) (fun q => ?_) (fun q => ?_)
  · replace hf := zif_t q hf
    exact bX12_stop_56 hC  hI hl hf
  replace hf := zif_f q hf
  refine lv_iload_n hx hb dX12_stop_36 rfl (lv_at hl 3 rfl) ?_
  refine lv_if_ne (tgt := 56) hx hb dX12_stop_37 (by decide) (fun q => ?_) (fun q => ?_)
  · replace hf := zif_f q hf
    exact bX12_stop_56 hC  hI hl hf
  replace hf := zif_t q hf
  refine lv_aload_n hx hb dX12_stop_40 rfl (lv_at hl 0 rfl) ?_
  refine z_get hC hI hinX12_stop_X120 0 (wM_e0 ad cy σ8) rfl 10 (by decide) (List.mem_cons_of_mem _ zw9_7) rfl dX12_stop_41 ?_
  refine lv_bipush (v := 89) hx hb dX12_stop_44 (by decide) ?_
  obtain ⟨q, hf⟩ := zck_use hf
  refine z_iald hC hI 3 2 (wM_e3 ad cy σ8) (tM_t3 cy) q dX12_stop_46 ?_
  refine lv_bipush (v := 8) hx hb dX12_stop_47 (by decide) ?_
  refine lv_icmp_ne (tgt := 56) hx hb dX12_stop_49 (by decide) (fun q => ?_) (fun q => ?_)
  · replace hf := zif_f q hf
    exact bX12_stop_56 hC  hI hl hf
  replace hf := zif_t q hf
  refine lv_iconst (v := 1) hx hb dX12_stop_52 (by decide) ?_
  refine lv_goto (tgt := 57) hx hb dX12_stop_53 (by decide) ?_
  exact bX12_stop_57 hC  hI hl hf
set_option maxRecDepth 20000 in
set_option maxHeartbeats 4000000 in
theorem bX12_stop {st : Nat → Nat} {p : Program} {l : Launch} {e : Env} {s : State} {m : MethodId} {args : Array Value} {below : List Frame} {meth : Method} {c : Code} {D : va_G} {A : Nat → Prop} {ad : Nat → Nat} {cy : Nat → ClassId} (hC : zC p m c cX12_stop 5 s args wzX12_stop RX12 meth (some .int))  {res : zSt × Int32} {H : Heap} {locs : List Loc} {σ : zSt} {ls : Array Slot} {x1 : Int32} {x2 : Int32} (hI : zI st D (tM cy) (wM ad cy σ) A s H locs) (hl : lv_has ls 5 [(0, .ref (ad 0)), (1, .int x1), (2, .int x2)]) (hf : fX12_stop  σ x1 x2 = some res) : W p l e rmX12_stop s m args below meth c H locs 0 0 (zQi below args s D (tM cy) (wM ad cy) A res) (F0 m 0 ls []) := by
  have hx := hC.1
  have hb := hC.2.1
  unfold fX12_stop at hf
  refine lv_aload_n hx hb dX12_stop_0 rfl (lv_at hl 0 rfl) ?_
  refine lv_iload_n hx hb dX12_stop_1 rfl (lv_at hl 1 rfl) ?_
  obtain ⟨σ10, v11, g10, hf⟩ := zbi_use hf
  refine z_callVi (As := [.int x1]) (rest := []) hC hI (cX12_isStop_met st l D ad cy σ x1 _ g10) (zgV zw47_0 zw47_1 zw47_2 zw1_5 zw47_3) rfl ⟨rfl, rfl⟩ 1 hdX12_isStop ⟨Nat.le_of_ble_eq_true rfl, Nat.le_of_ble_eq_true rfl⟩ rfl rfl (wM_e0 ad cy σ) rfl hl rfl (Nat.le_of_ble_eq_true rfl) dX12_stop_2 ⟨Nat.zero_le _, Nat.zero_le _⟩ (fun H locs hI => ?_)
  refine lv_istore_n (lv' := [(3, .int v11), (0, .ref (ad 0)), (1, .int x1), (2, .int x2)]) hx hb dX12_stop_5 rfl hl (by decide) rfl (fun ls hl => ?_)
  refine lv_aload_n hx hb dX12_stop_6 rfl (lv_at hl 1 rfl) ?_
  refine lv_iload_n hx hb dX12_stop_7 rfl (lv_at hl 2 rfl) ?_
  refine lv_i2l (v := x1.toInt64) hx hb dX12_stop_8 rfl ?_
  refine lv_lconst (v := 0) hx hb dX12_stop_9 (by decide) ?_
  refine lv_ldc2 (v := 65535) hx hb hC.2.2.2.1 (hC.2.2.2.2.1 _ (List.mem_cons_of_mem _ zw79_20)) dX12_stop_10 ?_
  obtain ⟨σ12, v13, g12, hf⟩ := zbi_use hf
  refine z_callSi (As := [.long (x1.toInt64), .long 0, .long 65535]) (rest := [.ref (ad 0)]) hC hI (cX12_within_met st l D ad cy σ10 (x1.toInt64) 0 65535 _ g12) (zgS zw11_18 zw11_19 zw1_5 zw11_20) rfl ⟨rfl, rfl⟩ 3 hdX12_within ⟨Nat.le_of_ble_eq_true rfl, Nat.le_of_ble_eq_true rfl⟩ rfl hl rfl (Nat.le_of_ble_eq_true rfl) dX12_stop_13 ⟨Nat.zero_le _, Nat.zero_le _⟩ (fun H locs hI => ?_)
  refine lv_if_ne (tgt := 23) hx hb dX12_stop_16 (by decide) (fun q => ?_) (fun q => ?_)
  · replace hf := zif_f q hf
    refine lv_iconst (v := 0) hx hb dX12_stop_23 (by decide) ?_
    exact bX12_stop_24 hC  hI (lv_sub hl [1, 2, 3, 0] rfl) hf
  replace hf := zif_t q hf
  refine lv_iconst (v := 1) hx hb dX12_stop_19 (by decide) ?_
  refine lv_goto (tgt := 24) hx hb dX12_stop_20 (by decide) ?_
  exact bX12_stop_24 hC  hI (lv_sub hl [1, 2, 3, 0] rfl) hf
set_option maxRecDepth 20000 in
theorem cX12_stop_met (st : Nat → Nat) (l : Launch) (D : va_G) (ad : Nat → Nat) (cy : Nat → ClassId) (σ : zSt) (x1 : Int32) (x2 : Int32) (res : zSt × Int32) (hf : fX12_stop σ x1 x2 = some res) (sz : Nat) : zMi st l yX12_stop wzX12_stop rmX12_stop [.ref (ad 0), .int x1, .int x2] D (tM cy) (wM ad cy) sz σ res :=
  zMi.of (cc := cX12_stop) (maxL := 5) (ret := (some .int)) (by decide) rfl (Nat.le_of_ble_eq_true rfl) (fun p e s m args below meth c hC A hI ls hl => bX12_stop hC hI hl hf)
theorem hdX12_stop : yX12_stop.cls = RX12 ∧ yX12_stop.cls ≠ "java/lang/invoke/MethodHandle" ∧ yX12_stop.cls ≠ "java/lang/invoke/VarHandle" ∧ (parseMethodDescriptor yX12_stop.desc).map (fun d => d.parameters.length) = some 2 := by decide +kernel
noncomputable def rmX12_save : Room := { frames := 0, cells := 0, slots := 0, locals := 0 }
noncomputable def wzX12_save : List Cond := .code yX12_save cX12_save 2 none :: wsL_law
theorem hinX12_save_X120 : ∀ w ∈ wsX120, w ∈ wzX12_save := fun w h => List.mem_cons_of_mem _ (inlX12 w h)
noncomputable def fX12_save_196_body (k196 : zSt → Int32 → Option (zSt)) (σ : zSt) (x1 : Int32) : Option (zSt) :=
  if 4096 ≤ x1 then some σ else
  zck (zin x1 4096) (
  zck (zin x1 4096) (zbv (zsl σ 19 (x1.toNatClampNeg) (zgl σ 10 x1.toNatClampNeg)) (fun σ1 =>
  zck (zin x1 4096) (
  zck (zin x1 4096) (zbv (zsl σ1 20 (x1.toNatClampNeg) (zgl σ1 11 x1.toNatClampNeg)) (fun σ2 =>
  zbv (x1 + 1) (fun v3 =>
  k196 σ2 v3)))))))
noncomputable def fX12_save_196  : Nat → zSt → Int32 → Option (zSt)
  | 0, _, _ => none
  | n + 1, σ, x1 => fX12_save_196_body (fX12_save_196  n) σ x1
noncomputable def fX12_save_170_body (k170 : zSt → Int32 → Option (zSt)) (σ : zSt) (x1 : Int32) : Option (zSt) :=
  if 61440 ≤ x1 then fX12_save_196 zfuel σ 0 else
  zck (zin x1 61440) (
  zck (zin x1 61440) (zbv (zsi σ 18 (x1.toNatClampNeg) (zgi σ 9 x1.toNatClampNeg)) (fun σ4 =>
  zbv (x1 + 1) (fun v5 =>
  k170 σ4 v5))))
noncomputable def fX12_save_170  : Nat → zSt → Int32 → Option (zSt)
  | 0, _, _ => none
  | n + 1, σ, x1 => fX12_save_170_body (fX12_save_170  n) σ x1
noncomputable def fX12_save_144_body (k144 : zSt → Int32 → Option (zSt)) (σ : zSt) (x1 : Int32) : Option (zSt) :=
  if 64 ≤ x1 then fX12_save_170 zfuel σ 0 else
  zck (zin x1 64) (
  zck (zin x1 64) (zbv (zsi σ 17 (x1.toNatClampNeg) (vp_nar .byte (zgi σ 8 x1.toNatClampNeg))) (fun σ6 =>
  zbv (x1 + 1) (fun v7 =>
  k144 σ6 v7))))
noncomputable def fX12_save_144  : Nat → zSt → Int32 → Option (zSt)
  | 0, _, _ => none
  | n + 1, σ, x1 => fX12_save_144_body (fX12_save_144  n) σ x1
noncomputable def fX12_save_117_body (k117 : zSt → Int32 → Option (zSt)) (σ : zSt) (x1 : Int32) : Option (zSt) :=
  if 16384 ≤ x1 then fX12_save_144 zfuel σ 0 else
  zck (zin x1 16384) (
  zck (zin x1 16384) (zbv (zsi σ 16 (x1.toNatClampNeg) (vp_nar .byte (zgi σ 7 x1.toNatClampNeg))) (fun σ8 =>
  zbv (x1 + 1) (fun v9 =>
  k117 σ8 v9))))
noncomputable def fX12_save_117  : Nat → zSt → Int32 → Option (zSt)
  | 0, _, _ => none
  | n + 1, σ, x1 => fX12_save_117_body (fX12_save_117  n) σ x1
noncomputable def fX12_save_91_body (k91 : zSt → Int32 → Option (zSt)) (σ : zSt) (x1 : Int32) : Option (zSt) :=
  if 32768 ≤ x1 then fX12_save_117 zfuel σ 0 else
  zck (zin x1 32768) (
  zck (zin x1 32768) (zbv (zsi σ 15 (x1.toNatClampNeg) (vp_nar .byte (zgi σ 6 x1.toNatClampNeg))) (fun σ10 =>
  zbv (x1 + 1) (fun v11 =>
  k91 σ10 v11))))
noncomputable def fX12_save_91  : Nat → zSt → Int32 → Option (zSt)
  | 0, _, _ => none
  | n + 1, σ, x1 => fX12_save_91_body (fX12_save_91  n) σ x1
noncomputable def fX12_save_64_body (k64 : zSt → Int32 → Option (zSt)) (σ : zSt) (x1 : Int32) : Option (zSt) :=
  if 8192 ≤ x1 then fX12_save_91 zfuel σ 0 else
  zck (zin x1 8192) (
  zck (zin x1 8192) (zbv (zsi σ 14 (x1.toNatClampNeg) (vp_nar .byte (zgi σ 5 x1.toNatClampNeg))) (fun σ12 =>
  zbv (x1 + 1) (fun v13 =>
  k64 σ12 v13))))
noncomputable def fX12_save_64  : Nat → zSt → Int32 → Option (zSt)
  | 0, _, _ => none
  | n + 1, σ, x1 => fX12_save_64_body (fX12_save_64  n) σ x1
noncomputable def fX12_save_39_body (k39 : zSt → Int32 → Option (zSt)) (σ : zSt) (x1 : Int32) : Option (zSt) :=
  if 5 ≤ x1 then fX12_save_64 zfuel σ 0 else
  zck (zin x1 5) (
  zck (zin x1 5) (zbv (zsl σ 13 (x1.toNatClampNeg) (zgl σ 4 x1.toNatClampNeg)) (fun σ14 =>
  zbv (x1 + 1) (fun v15 =>
  k39 σ14 v15))))
noncomputable def fX12_save_39  : Nat → zSt → Int32 → Option (zSt)
  | 0, _, _ => none
  | n + 1, σ, x1 => fX12_save_39_body (fX12_save_39  n) σ x1
noncomputable def fX12_save_12_body (k12 : zSt → Int32 → Option (zSt)) (σ : zSt) (x1 : Int32) : Option (zSt) :=
  if 1048 ≤ x1 then fX12_save_39 zfuel σ 0 else
  zck (zin x1 1048) (
  zck (zin x1 1048) (zbv (zsi σ 12 (x1.toNatClampNeg) (zgi σ 3 x1.toNatClampNeg)) (fun σ16 =>
  zbv (x1 + 1) (fun v17 =>
  k12 σ16 v17))))
noncomputable def fX12_save_12  : Nat → zSt → Int32 → Option (zSt)
  | 0, _, _ => none
  | n + 1, σ, x1 => fX12_save_12_body (fX12_save_12  n) σ x1
noncomputable def fX12_save  (σ : zSt)  : Option (zSt) :=
  zbv (zsi σ 0 0 0) (fun σ18 =>
  zck (zbo 1) (zbv (zsi σ18 0 19 1) (fun σ19 =>
  fX12_save_12 zfuel σ19 0)))
set_option maxRecDepth 20000 in
set_option maxHeartbeats 4000000 in
theorem bX12_save_196_body {st : Nat → Nat} {p : Program} {l : Launch} {e : Env} {s : State} {m : MethodId} {args : Array Value} {below : List Frame} {meth : Method} {c : Code} {D : va_G} {A : Nat → Prop} {ad : Nat → Nat} {cy : Nat → ClassId} (hC : zC p m c cX12_save 2 s args wzX12_save RX12 meth none) {k196 : zSt → Int32 → Option (zSt)} {res : zSt} (hk196 : ∀ (H : Heap) (locs : List Loc) (σ : zSt) (ls : Array Slot) (x1 : Int32), zI st D (tM cy) (wM ad cy σ) A s H locs → lv_has ls 2 [(0, .ref (ad 0)), (1, .int x1)] → k196 σ x1 = some res → W p l e rmX12_save s m args below meth c H locs 0 0 (zQu below args s D (tM cy) (wM ad cy) A res) (F0 m 196 ls [])) {H : Heap} {locs : List Loc} {σ : zSt} {ls : Array Slot} {x1 : Int32} (hI : zI st D (tM cy) (wM ad cy σ) A s H locs) (hl : lv_has ls 2 [(0, .ref (ad 0)), (1, .int x1)]) (hf : fX12_save_196_body k196 σ x1 = some res) : W p l e rmX12_save s m args below meth c H locs 0 0 (zQu below args s D (tM cy) (wM ad cy) A res) (F0 m 196 ls []) := by
  have hx := hC.1
  have hb := hC.2.1
  unfold fX12_save_196_body at hf
  refine lv_iload_n hx hb dX12_save_196 rfl (lv_at hl 1 rfl) ?_
  refine lv_sipush (v := 4096) hx hb dX12_save_197 (by decide) ?_
  refine lv_icmp_ge (tgt := 233) hx hb dX12_save_200 (by decide) (fun q => ?_) (fun q => ?_)
  · replace hf := zif_t q hf
    exact z_return hC hI hf dX12_save_233
  replace hf := zif_f q hf
  refine lv_aload_n hx hb dX12_save_203 rfl (lv_at hl 0 rfl) ?_
  refine z_get hC hI hinX12_save_X120 0 (wM_e0 ad cy σ) rfl 27 (by decide) (List.mem_cons_of_mem _ zw10_1) rfl dX12_save_204 ?_
  refine lv_iload_n hx hb dX12_save_207 rfl (lv_at hl 1 rfl) ?_
  refine lv_aload_n hx hb dX12_save_208 rfl (lv_at hl 0 rfl) ?_
  refine z_get hC hI hinX12_save_X120 0 (wM_e0 ad cy σ) rfl 17 (by decide) (List.mem_cons_of_mem _ zw9_16) rfl dX12_save_209 ?_
  refine lv_iload_n hx hb dX12_save_212 rfl (lv_at hl 1 rfl) ?_
  obtain ⟨q, hf⟩ := zck_use hf
  refine z_lald hC hI 10 9 (wM_e10 ad cy σ) (tM_t10 cy) q dX12_save_213 ?_
  obtain ⟨q, hf⟩ := zck_use hf
  obtain ⟨σ1, eσ1⟩ : ∃ z, z = zsl σ 19 (x1.toNatClampNeg) (zgl σ 10 x1.toNatClampNeg) := ⟨_, rfl⟩
  replace hf := zbv_use eσ1 hf
  refine z_last hC hI 19 18 (wM_e19 ad cy σ) (tM_t19 cy) q ((wM_s19 ad cy σ _ _).trans (congrArg (wM ad cy) eσ1.symm)) dX12_save_214 (fun H locs hI => ?_)
  refine lv_aload_n hx hb dX12_save_215 rfl (lv_at hl 0 rfl) ?_
  refine z_get hC hI hinX12_save_X120 0 (wM_e0 ad cy σ1) rfl 28 (by decide) (List.mem_cons_of_mem _ zw10_2) rfl dX12_save_216 ?_
  refine lv_iload_n hx hb dX12_save_219 rfl (lv_at hl 1 rfl) ?_
  refine lv_aload_n hx hb dX12_save_220 rfl (lv_at hl 0 rfl) ?_
  refine z_get hC hI hinX12_save_X120 0 (wM_e0 ad cy σ1) rfl 18 (by decide) (List.mem_cons_of_mem _ zw9_17) rfl dX12_save_221 ?_
  refine lv_iload_n hx hb dX12_save_224 rfl (lv_at hl 1 rfl) ?_
  obtain ⟨q, hf⟩ := zck_use hf
  refine z_lald hC hI 11 10 (wM_e11 ad cy σ1) (tM_t11 cy) q dX12_save_225 ?_
  obtain ⟨q, hf⟩ := zck_use hf
  obtain ⟨σ2, eσ2⟩ : ∃ z, z = zsl σ1 20 (x1.toNatClampNeg) (zgl σ1 11 x1.toNatClampNeg) := ⟨_, rfl⟩
  replace hf := zbv_use eσ2 hf
  refine z_last hC hI 20 19 (wM_e20 ad cy σ1) (tM_t20 cy) q ((wM_s20 ad cy σ1 _ _).trans (congrArg (wM ad cy) eσ2.symm)) dX12_save_226 (fun H locs hI => ?_)
  obtain ⟨v3, ev3⟩ : ∃ z : Int32, z = x1 + 1 := ⟨_, rfl⟩
  replace hf := zbv_use ev3 hf
  refine lv_iinc (v := v3) (lv' := [(1, .int v3), (0, .ref (ad 0))]) hx hb dX12_save_227 hl (k := 1) rfl (by rw [ev3]; rfl) (by decide) rfl (fun ls hl => ?_)
  refine lv_goto (tgt := 196) hx hb dX12_save_230 (by decide) ?_
  exact hk196 _ _ _ _ _ hI (lv_sub hl [1, 0] rfl) hf
theorem blX12_save_196 {st : Nat → Nat} {p : Program} {l : Launch} {e : Env} {s : State} {m : MethodId} {args : Array Value} {below : List Frame} {meth : Method} {c : Code} {D : va_G} {A : Nat → Prop} {ad : Nat → Nat} {cy : Nat → ClassId} (hC : zC p m c cX12_save 2 s args wzX12_save RX12 meth none)  {res : zSt} : ∀ (n : Nat) (H : Heap) (locs : List Loc) (σ : zSt) (ls : Array Slot) (x1 : Int32), zI st D (tM cy) (wM ad cy σ) A s H locs → lv_has ls 2 [(0, .ref (ad 0)), (1, .int x1)] → fX12_save_196  n σ x1 = some res → W p l e rmX12_save s m args below meth c H locs 0 0 (zQu below args s D (tM cy) (wM ad cy) A res) (F0 m 196 ls []) := by
  intro n
  induction n with
  | zero => intro H locs σ ls x1 hI hl hf; cases hf
  | succ n ih => intro H locs σ ls x1 hI hl hf; exact bX12_save_196_body hC ih hI hl hf
set_option maxRecDepth 20000 in
set_option maxHeartbeats 4000000 in
theorem bX12_save_170_body {st : Nat → Nat} {p : Program} {l : Launch} {e : Env} {s : State} {m : MethodId} {args : Array Value} {below : List Frame} {meth : Method} {c : Code} {D : va_G} {A : Nat → Prop} {ad : Nat → Nat} {cy : Nat → ClassId} (hC : zC p m c cX12_save 2 s args wzX12_save RX12 meth none) {k170 : zSt → Int32 → Option (zSt)} {res : zSt} (hk170 : ∀ (H : Heap) (locs : List Loc) (σ : zSt) (ls : Array Slot) (x1 : Int32), zI st D (tM cy) (wM ad cy σ) A s H locs → lv_has ls 2 [(0, .ref (ad 0)), (1, .int x1)] → k170 σ x1 = some res → W p l e rmX12_save s m args below meth c H locs 0 0 (zQu below args s D (tM cy) (wM ad cy) A res) (F0 m 170 ls [])) {H : Heap} {locs : List Loc} {σ : zSt} {ls : Array Slot} {x1 : Int32} (hI : zI st D (tM cy) (wM ad cy σ) A s H locs) (hl : lv_has ls 2 [(0, .ref (ad 0)), (1, .int x1)]) (hf : fX12_save_170_body k170 σ x1 = some res) : W p l e rmX12_save s m args below meth c H locs 0 0 (zQu below args s D (tM cy) (wM ad cy) A res) (F0 m 170 ls []) := by
  have hx := hC.1
  have hb := hC.2.1
  unfold fX12_save_170_body at hf
  refine lv_iload_n hx hb dX12_save_170 rfl (lv_at hl 1 rfl) ?_
  refine lv_ldc (v := 61440) hx hb hC.2.2.2.1 (hC.2.2.2.2.1 _ (List.mem_cons_of_mem _ zw9_14)) dX12_save_171 ?_
  refine lv_icmp_ge (tgt := 194) hx hb dX12_save_173 (by decide) (fun q => ?_) (fun q => ?_)
  · replace hf := zif_t q hf
    refine lv_iconst (v := 0) hx hb dX12_save_194 (by decide) ?_
    refine lv_istore_n (lv' := [(1, .int 0), (0, .ref (ad 0))]) hx hb dX12_save_195 rfl hl (by decide) rfl (fun ls hl => ?_)
    exact blX12_save_196 hC  zfuel _ _ _ _ _ hI (lv_sub hl [1, 0] rfl) hf
  replace hf := zif_f q hf
  refine lv_aload_n hx hb dX12_save_176 rfl (lv_at hl 0 rfl) ?_
  refine z_get hC hI hinX12_save_X120 0 (wM_e0 ad cy σ) rfl 26 (by decide) (List.mem_cons_of_mem _ zw10_0) rfl dX12_save_177 ?_
  refine lv_iload_n hx hb dX12_save_180 rfl (lv_at hl 1 rfl) ?_
  refine lv_aload_n hx hb dX12_save_181 rfl (lv_at hl 0 rfl) ?_
  refine z_get hC hI hinX12_save_X120 0 (wM_e0 ad cy σ) rfl 16 (by decide) (List.mem_cons_of_mem _ zw9_15) rfl dX12_save_182 ?_
  refine lv_iload_n hx hb dX12_save_185 rfl (lv_at hl 1 rfl) ?_
  obtain ⟨q, hf⟩ := zck_use hf
  refine z_iald hC hI 9 8 (wM_e9 ad cy σ) (tM_t9 cy) q dX12_save_186 ?_
  obtain ⟨q, hf⟩ := zck_use hf
  obtain ⟨σ4, eσ4⟩ : ∃ z, z = zsi σ 18 (x1.toNatClampNeg) (zgi σ 9 x1.toNatClampNeg) := ⟨_, rfl⟩
  replace hf := zbv_use eσ4 hf
  refine z_iast hC hI 18 17 (wM_e18 ad cy σ) (tM_t18 cy) q ((wM_s18 ad cy σ _ _).trans (congrArg (wM ad cy) eσ4.symm)) dX12_save_187 (fun H locs hI => ?_)
  obtain ⟨v5, ev5⟩ : ∃ z : Int32, z = x1 + 1 := ⟨_, rfl⟩
  replace hf := zbv_use ev5 hf
  refine lv_iinc (v := v5) (lv' := [(1, .int v5), (0, .ref (ad 0))]) hx hb dX12_save_188 hl (k := 1) rfl (by rw [ev5]; rfl) (by decide) rfl (fun ls hl => ?_)
  refine lv_goto (tgt := 170) hx hb dX12_save_191 (by decide) ?_
  exact hk170 _ _ _ _ _ hI (lv_sub hl [1, 0] rfl) hf
theorem blX12_save_170 {st : Nat → Nat} {p : Program} {l : Launch} {e : Env} {s : State} {m : MethodId} {args : Array Value} {below : List Frame} {meth : Method} {c : Code} {D : va_G} {A : Nat → Prop} {ad : Nat → Nat} {cy : Nat → ClassId} (hC : zC p m c cX12_save 2 s args wzX12_save RX12 meth none)  {res : zSt} : ∀ (n : Nat) (H : Heap) (locs : List Loc) (σ : zSt) (ls : Array Slot) (x1 : Int32), zI st D (tM cy) (wM ad cy σ) A s H locs → lv_has ls 2 [(0, .ref (ad 0)), (1, .int x1)] → fX12_save_170  n σ x1 = some res → W p l e rmX12_save s m args below meth c H locs 0 0 (zQu below args s D (tM cy) (wM ad cy) A res) (F0 m 170 ls []) := by
  intro n
  induction n with
  | zero => intro H locs σ ls x1 hI hl hf; cases hf
  | succ n ih => intro H locs σ ls x1 hI hl hf; exact bX12_save_170_body hC ih hI hl hf
set_option maxRecDepth 20000 in
set_option maxHeartbeats 4000000 in
theorem bX12_save_144_body {st : Nat → Nat} {p : Program} {l : Launch} {e : Env} {s : State} {m : MethodId} {args : Array Value} {below : List Frame} {meth : Method} {c : Code} {D : va_G} {A : Nat → Prop} {ad : Nat → Nat} {cy : Nat → ClassId} (hC : zC p m c cX12_save 2 s args wzX12_save RX12 meth none) {k144 : zSt → Int32 → Option (zSt)} {res : zSt} (hk144 : ∀ (H : Heap) (locs : List Loc) (σ : zSt) (ls : Array Slot) (x1 : Int32), zI st D (tM cy) (wM ad cy σ) A s H locs → lv_has ls 2 [(0, .ref (ad 0)), (1, .int x1)] → k144 σ x1 = some res → W p l e rmX12_save s m args below meth c H locs 0 0 (zQu below args s D (tM cy) (wM ad cy) A res) (F0 m 144 ls [])) {H : Heap} {locs : List Loc} {σ : zSt} {ls : Array Slot} {x1 : Int32} (hI : zI st D (tM cy) (wM ad cy σ) A s H locs) (hl : lv_has ls 2 [(0, .ref (ad 0)), (1, .int x1)]) (hf : fX12_save_144_body k144 σ x1 = some res) : W p l e rmX12_save s m args below meth c H locs 0 0 (zQu below args s D (tM cy) (wM ad cy) A res) (F0 m 144 ls []) := by
  have hx := hC.1
  have hb := hC.2.1
  unfold fX12_save_144_body at hf
  refine lv_iload_n hx hb dX12_save_144 rfl (lv_at hl 1 rfl) ?_
  refine lv_bipush (v := 64) hx hb dX12_save_145 (by decide) ?_
  refine lv_icmp_ge (tgt := 168) hx hb dX12_save_147 (by decide) (fun q => ?_) (fun q => ?_)
  · replace hf := zif_t q hf
    refine lv_iconst (v := 0) hx hb dX12_save_168 (by decide) ?_
    refine lv_istore_n (lv' := [(1, .int 0), (0, .ref (ad 0))]) hx hb dX12_save_169 rfl hl (by decide) rfl (fun ls hl => ?_)
    exact blX12_save_170 hC  zfuel _ _ _ _ _ hI (lv_sub hl [1, 0] rfl) hf
  replace hf := zif_f q hf
  refine lv_aload_n hx hb dX12_save_150 rfl (lv_at hl 0 rfl) ?_
  refine z_get hC hI hinX12_save_X120 0 (wM_e0 ad cy σ) rfl 25 (by decide) (List.mem_cons_of_mem _ zw9_23) rfl dX12_save_151 ?_
  refine lv_iload_n hx hb dX12_save_154 rfl (lv_at hl 1 rfl) ?_
  refine lv_aload_n hx hb dX12_save_155 rfl (lv_at hl 0 rfl) ?_
  refine z_get hC hI hinX12_save_X120 0 (wM_e0 ad cy σ) rfl 15 (by decide) (List.mem_cons_of_mem _ zw9_13) rfl dX12_save_156 ?_
  refine lv_iload_n hx hb dX12_save_159 rfl (lv_at hl 1 rfl) ?_
  obtain ⟨q, hf⟩ := zck_use hf
  refine z_bald hC hI 8 7 (wM_e8 ad cy σ) (tM_t8 cy) q dX12_save_160 ?_
  obtain ⟨q, hf⟩ := zck_use hf
  obtain ⟨σ6, eσ6⟩ : ∃ z, z = zsi σ 17 (x1.toNatClampNeg) (vp_nar .byte (zgi σ 8 x1.toNatClampNeg)) := ⟨_, rfl⟩
  replace hf := zbv_use eσ6 hf
  refine z_bast hC hI 17 16 (wM_e17 ad cy σ) (tM_t17 cy) q ((wM_s17 ad cy σ _ _).trans (congrArg (wM ad cy) eσ6.symm)) dX12_save_161 (fun H locs hI => ?_)
  obtain ⟨v7, ev7⟩ : ∃ z : Int32, z = x1 + 1 := ⟨_, rfl⟩
  replace hf := zbv_use ev7 hf
  refine lv_iinc (v := v7) (lv' := [(1, .int v7), (0, .ref (ad 0))]) hx hb dX12_save_162 hl (k := 1) rfl (by rw [ev7]; rfl) (by decide) rfl (fun ls hl => ?_)
  refine lv_goto (tgt := 144) hx hb dX12_save_165 (by decide) ?_
  exact hk144 _ _ _ _ _ hI (lv_sub hl [1, 0] rfl) hf
theorem blX12_save_144 {st : Nat → Nat} {p : Program} {l : Launch} {e : Env} {s : State} {m : MethodId} {args : Array Value} {below : List Frame} {meth : Method} {c : Code} {D : va_G} {A : Nat → Prop} {ad : Nat → Nat} {cy : Nat → ClassId} (hC : zC p m c cX12_save 2 s args wzX12_save RX12 meth none)  {res : zSt} : ∀ (n : Nat) (H : Heap) (locs : List Loc) (σ : zSt) (ls : Array Slot) (x1 : Int32), zI st D (tM cy) (wM ad cy σ) A s H locs → lv_has ls 2 [(0, .ref (ad 0)), (1, .int x1)] → fX12_save_144  n σ x1 = some res → W p l e rmX12_save s m args below meth c H locs 0 0 (zQu below args s D (tM cy) (wM ad cy) A res) (F0 m 144 ls []) := by
  intro n
  induction n with
  | zero => intro H locs σ ls x1 hI hl hf; cases hf
  | succ n ih => intro H locs σ ls x1 hI hl hf; exact bX12_save_144_body hC ih hI hl hf
set_option maxRecDepth 20000 in
set_option maxHeartbeats 4000000 in
theorem bX12_save_117_body {st : Nat → Nat} {p : Program} {l : Launch} {e : Env} {s : State} {m : MethodId} {args : Array Value} {below : List Frame} {meth : Method} {c : Code} {D : va_G} {A : Nat → Prop} {ad : Nat → Nat} {cy : Nat → ClassId} (hC : zC p m c cX12_save 2 s args wzX12_save RX12 meth none) {k117 : zSt → Int32 → Option (zSt)} {res : zSt} (hk117 : ∀ (H : Heap) (locs : List Loc) (σ : zSt) (ls : Array Slot) (x1 : Int32), zI st D (tM cy) (wM ad cy σ) A s H locs → lv_has ls 2 [(0, .ref (ad 0)), (1, .int x1)] → k117 σ x1 = some res → W p l e rmX12_save s m args below meth c H locs 0 0 (zQu below args s D (tM cy) (wM ad cy) A res) (F0 m 117 ls [])) {H : Heap} {locs : List Loc} {σ : zSt} {ls : Array Slot} {x1 : Int32} (hI : zI st D (tM cy) (wM ad cy σ) A s H locs) (hl : lv_has ls 2 [(0, .ref (ad 0)), (1, .int x1)]) (hf : fX12_save_117_body k117 σ x1 = some res) : W p l e rmX12_save s m args below meth c H locs 0 0 (zQu below args s D (tM cy) (wM ad cy) A res) (F0 m 117 ls []) := by
  have hx := hC.1
  have hb := hC.2.1
  unfold fX12_save_117_body at hf
  refine lv_iload_n hx hb dX12_save_117 rfl (lv_at hl 1 rfl) ?_
  refine lv_sipush (v := 16384) hx hb dX12_save_118 (by decide) ?_
  refine lv_icmp_ge (tgt := 142) hx hb dX12_save_121 (by decide) (fun q => ?_) (fun q => ?_)
  · replace hf := zif_t q hf
    refine lv_iconst (v := 0) hx hb dX12_save_142 (by decide) ?_
    refine lv_istore_n (lv' := [(1, .int 0), (0, .ref (ad 0))]) hx hb dX12_save_143 rfl hl (by decide) rfl (fun ls hl => ?_)
    exact blX12_save_144 hC  zfuel _ _ _ _ _ hI (lv_sub hl [1, 0] rfl) hf
  replace hf := zif_f q hf
  refine lv_aload_n hx hb dX12_save_124 rfl (lv_at hl 0 rfl) ?_
  refine z_get hC hI hinX12_save_X120 0 (wM_e0 ad cy σ) rfl 24 (by decide) (List.mem_cons_of_mem _ zw9_22) rfl dX12_save_125 ?_
  refine lv_iload_n hx hb dX12_save_128 rfl (lv_at hl 1 rfl) ?_
  refine lv_aload_n hx hb dX12_save_129 rfl (lv_at hl 0 rfl) ?_
  refine z_get hC hI hinX12_save_X120 0 (wM_e0 ad cy σ) rfl 14 (by decide) (List.mem_cons_of_mem _ zw9_12) rfl dX12_save_130 ?_
  refine lv_iload_n hx hb dX12_save_133 rfl (lv_at hl 1 rfl) ?_
  obtain ⟨q, hf⟩ := zck_use hf
  refine z_bald hC hI 7 6 (wM_e7 ad cy σ) (tM_t7 cy) q dX12_save_134 ?_
  obtain ⟨q, hf⟩ := zck_use hf
  obtain ⟨σ8, eσ8⟩ : ∃ z, z = zsi σ 16 (x1.toNatClampNeg) (vp_nar .byte (zgi σ 7 x1.toNatClampNeg)) := ⟨_, rfl⟩
  replace hf := zbv_use eσ8 hf
  refine z_bast hC hI 16 15 (wM_e16 ad cy σ) (tM_t16 cy) q ((wM_s16 ad cy σ _ _).trans (congrArg (wM ad cy) eσ8.symm)) dX12_save_135 (fun H locs hI => ?_)
  obtain ⟨v9, ev9⟩ : ∃ z : Int32, z = x1 + 1 := ⟨_, rfl⟩
  replace hf := zbv_use ev9 hf
  refine lv_iinc (v := v9) (lv' := [(1, .int v9), (0, .ref (ad 0))]) hx hb dX12_save_136 hl (k := 1) rfl (by rw [ev9]; rfl) (by decide) rfl (fun ls hl => ?_)
  refine lv_goto (tgt := 117) hx hb dX12_save_139 (by decide) ?_
  exact hk117 _ _ _ _ _ hI (lv_sub hl [1, 0] rfl) hf
theorem blX12_save_117 {st : Nat → Nat} {p : Program} {l : Launch} {e : Env} {s : State} {m : MethodId} {args : Array Value} {below : List Frame} {meth : Method} {c : Code} {D : va_G} {A : Nat → Prop} {ad : Nat → Nat} {cy : Nat → ClassId} (hC : zC p m c cX12_save 2 s args wzX12_save RX12 meth none)  {res : zSt} : ∀ (n : Nat) (H : Heap) (locs : List Loc) (σ : zSt) (ls : Array Slot) (x1 : Int32), zI st D (tM cy) (wM ad cy σ) A s H locs → lv_has ls 2 [(0, .ref (ad 0)), (1, .int x1)] → fX12_save_117  n σ x1 = some res → W p l e rmX12_save s m args below meth c H locs 0 0 (zQu below args s D (tM cy) (wM ad cy) A res) (F0 m 117 ls []) := by
  intro n
  induction n with
  | zero => intro H locs σ ls x1 hI hl hf; cases hf
  | succ n ih => intro H locs σ ls x1 hI hl hf; exact bX12_save_117_body hC ih hI hl hf
set_option maxRecDepth 20000 in
set_option maxHeartbeats 4000000 in
theorem bX12_save_91_body {st : Nat → Nat} {p : Program} {l : Launch} {e : Env} {s : State} {m : MethodId} {args : Array Value} {below : List Frame} {meth : Method} {c : Code} {D : va_G} {A : Nat → Prop} {ad : Nat → Nat} {cy : Nat → ClassId} (hC : zC p m c cX12_save 2 s args wzX12_save RX12 meth none) {k91 : zSt → Int32 → Option (zSt)} {res : zSt} (hk91 : ∀ (H : Heap) (locs : List Loc) (σ : zSt) (ls : Array Slot) (x1 : Int32), zI st D (tM cy) (wM ad cy σ) A s H locs → lv_has ls 2 [(0, .ref (ad 0)), (1, .int x1)] → k91 σ x1 = some res → W p l e rmX12_save s m args below meth c H locs 0 0 (zQu below args s D (tM cy) (wM ad cy) A res) (F0 m 91 ls [])) {H : Heap} {locs : List Loc} {σ : zSt} {ls : Array Slot} {x1 : Int32} (hI : zI st D (tM cy) (wM ad cy σ) A s H locs) (hl : lv_has ls 2 [(0, .ref (ad 0)), (1, .int x1)]) (hf : fX12_save_91_body k91 σ x1 = some res) : W p l e rmX12_save s m args below meth c H locs 0 0 (zQu below args s D (tM cy) (wM ad cy) A res) (F0 m 91 ls []) := by
  have hx := hC.1
  have hb := hC.2.1
  unfold fX12_save_91_body at hf
  refine lv_iload_n hx hb dX12_save_91 rfl (lv_at hl 1 rfl) ?_
  refine lv_ldc (v := 32768) hx hb hC.2.2.2.1 (hC.2.2.2.2.1 _ (List.mem_cons_of_mem _ zw9_10)) dX12_save_92 ?_
  refine lv_icmp_ge (tgt := 115) hx hb dX12_save_94 (by decide) (fun q => ?_) (fun q => ?_)
  · replace hf := zif_t q hf
    refine lv_iconst (v := 0) hx hb dX12_save_115 (by decide) ?_
    refine lv_istore_n (lv' := [(1, .int 0), (0, .ref (ad 0))]) hx hb dX12_save_116 rfl hl (by decide) rfl (fun ls hl => ?_)
    exact blX12_save_117 hC  zfuel _ _ _ _ _ hI (lv_sub hl [1, 0] rfl) hf
  replace hf := zif_f q hf
  refine lv_aload_n hx hb dX12_save_97 rfl (lv_at hl 0 rfl) ?_
  refine z_get hC hI hinX12_save_X120 0 (wM_e0 ad cy σ) rfl 23 (by decide) (List.mem_cons_of_mem _ zw9_21) rfl dX12_save_98 ?_
  refine lv_iload_n hx hb dX12_save_101 rfl (lv_at hl 1 rfl) ?_
  refine lv_aload_n hx hb dX12_save_102 rfl (lv_at hl 0 rfl) ?_
  refine z_get hC hI hinX12_save_X120 0 (wM_e0 ad cy σ) rfl 13 (by decide) (List.mem_cons_of_mem _ zw9_11) rfl dX12_save_103 ?_
  refine lv_iload_n hx hb dX12_save_106 rfl (lv_at hl 1 rfl) ?_
  obtain ⟨q, hf⟩ := zck_use hf
  refine z_bald hC hI 6 5 (wM_e6 ad cy σ) (tM_t6 cy) q dX12_save_107 ?_
  obtain ⟨q, hf⟩ := zck_use hf
  obtain ⟨σ10, eσ10⟩ : ∃ z, z = zsi σ 15 (x1.toNatClampNeg) (vp_nar .byte (zgi σ 6 x1.toNatClampNeg)) := ⟨_, rfl⟩
  replace hf := zbv_use eσ10 hf
  refine z_bast hC hI 15 14 (wM_e15 ad cy σ) (tM_t15 cy) q ((wM_s15 ad cy σ _ _).trans (congrArg (wM ad cy) eσ10.symm)) dX12_save_108 (fun H locs hI => ?_)
  obtain ⟨v11, ev11⟩ : ∃ z : Int32, z = x1 + 1 := ⟨_, rfl⟩
  replace hf := zbv_use ev11 hf
  refine lv_iinc (v := v11) (lv' := [(1, .int v11), (0, .ref (ad 0))]) hx hb dX12_save_109 hl (k := 1) rfl (by rw [ev11]; rfl) (by decide) rfl (fun ls hl => ?_)
  refine lv_goto (tgt := 91) hx hb dX12_save_112 (by decide) ?_
  exact hk91 _ _ _ _ _ hI (lv_sub hl [1, 0] rfl) hf
theorem blX12_save_91 {st : Nat → Nat} {p : Program} {l : Launch} {e : Env} {s : State} {m : MethodId} {args : Array Value} {below : List Frame} {meth : Method} {c : Code} {D : va_G} {A : Nat → Prop} {ad : Nat → Nat} {cy : Nat → ClassId} (hC : zC p m c cX12_save 2 s args wzX12_save RX12 meth none)  {res : zSt} : ∀ (n : Nat) (H : Heap) (locs : List Loc) (σ : zSt) (ls : Array Slot) (x1 : Int32), zI st D (tM cy) (wM ad cy σ) A s H locs → lv_has ls 2 [(0, .ref (ad 0)), (1, .int x1)] → fX12_save_91  n σ x1 = some res → W p l e rmX12_save s m args below meth c H locs 0 0 (zQu below args s D (tM cy) (wM ad cy) A res) (F0 m 91 ls []) := by
  intro n
  induction n with
  | zero => intro H locs σ ls x1 hI hl hf; cases hf
  | succ n ih => intro H locs σ ls x1 hI hl hf; exact bX12_save_91_body hC ih hI hl hf
set_option maxRecDepth 20000 in
set_option maxHeartbeats 4000000 in
theorem bX12_save_64_body {st : Nat → Nat} {p : Program} {l : Launch} {e : Env} {s : State} {m : MethodId} {args : Array Value} {below : List Frame} {meth : Method} {c : Code} {D : va_G} {A : Nat → Prop} {ad : Nat → Nat} {cy : Nat → ClassId} (hC : zC p m c cX12_save 2 s args wzX12_save RX12 meth none) {k64 : zSt → Int32 → Option (zSt)} {res : zSt} (hk64 : ∀ (H : Heap) (locs : List Loc) (σ : zSt) (ls : Array Slot) (x1 : Int32), zI st D (tM cy) (wM ad cy σ) A s H locs → lv_has ls 2 [(0, .ref (ad 0)), (1, .int x1)] → k64 σ x1 = some res → W p l e rmX12_save s m args below meth c H locs 0 0 (zQu below args s D (tM cy) (wM ad cy) A res) (F0 m 64 ls [])) {H : Heap} {locs : List Loc} {σ : zSt} {ls : Array Slot} {x1 : Int32} (hI : zI st D (tM cy) (wM ad cy σ) A s H locs) (hl : lv_has ls 2 [(0, .ref (ad 0)), (1, .int x1)]) (hf : fX12_save_64_body k64 σ x1 = some res) : W p l e rmX12_save s m args below meth c H locs 0 0 (zQu below args s D (tM cy) (wM ad cy) A res) (F0 m 64 ls []) := by
  have hx := hC.1
  have hb := hC.2.1
  unfold fX12_save_64_body at hf
  refine lv_iload_n hx hb dX12_save_64 rfl (lv_at hl 1 rfl) ?_
  refine lv_sipush (v := 8192) hx hb dX12_save_65 (by decide) ?_
  refine lv_icmp_ge (tgt := 89) hx hb dX12_save_68 (by decide) (fun q => ?_) (fun q => ?_)
  · replace hf := zif_t q hf
    refine lv_iconst (v := 0) hx hb dX12_save_89 (by decide) ?_
    refine lv_istore_n (lv' := [(1, .int 0), (0, .ref (ad 0))]) hx hb dX12_save_90 rfl hl (by decide) rfl (fun ls hl => ?_)
    exact blX12_save_91 hC  zfuel _ _ _ _ _ hI (lv_sub hl [1, 0] rfl) hf
  replace hf := zif_f q hf
  refine lv_aload_n hx hb dX12_save_71 rfl (lv_at hl 0 rfl) ?_
  refine z_get hC hI hinX12_save_X120 0 (wM_e0 ad cy σ) rfl 22 (by decide) (List.mem_cons_of_mem _ zw9_20) rfl dX12_save_72 ?_
  refine lv_iload_n hx hb dX12_save_75 rfl (lv_at hl 1 rfl) ?_
  refine lv_aload_n hx hb dX12_save_76 rfl (lv_at hl 0 rfl) ?_
  refine z_get hC hI hinX12_save_X120 0 (wM_e0 ad cy σ) rfl 12 (by decide) (List.mem_cons_of_mem _ zw9_9) rfl dX12_save_77 ?_
  refine lv_iload_n hx hb dX12_save_80 rfl (lv_at hl 1 rfl) ?_
  obtain ⟨q, hf⟩ := zck_use hf
  refine z_bald hC hI 5 4 (wM_e5 ad cy σ) (tM_t5 cy) q dX12_save_81 ?_
  obtain ⟨q, hf⟩ := zck_use hf
  obtain ⟨σ12, eσ12⟩ : ∃ z, z = zsi σ 14 (x1.toNatClampNeg) (vp_nar .byte (zgi σ 5 x1.toNatClampNeg)) := ⟨_, rfl⟩
  replace hf := zbv_use eσ12 hf
  refine z_bast hC hI 14 13 (wM_e14 ad cy σ) (tM_t14 cy) q ((wM_s14 ad cy σ _ _).trans (congrArg (wM ad cy) eσ12.symm)) dX12_save_82 (fun H locs hI => ?_)
  obtain ⟨v13, ev13⟩ : ∃ z : Int32, z = x1 + 1 := ⟨_, rfl⟩
  replace hf := zbv_use ev13 hf
  refine lv_iinc (v := v13) (lv' := [(1, .int v13), (0, .ref (ad 0))]) hx hb dX12_save_83 hl (k := 1) rfl (by rw [ev13]; rfl) (by decide) rfl (fun ls hl => ?_)
  refine lv_goto (tgt := 64) hx hb dX12_save_86 (by decide) ?_
  exact hk64 _ _ _ _ _ hI (lv_sub hl [1, 0] rfl) hf
theorem blX12_save_64 {st : Nat → Nat} {p : Program} {l : Launch} {e : Env} {s : State} {m : MethodId} {args : Array Value} {below : List Frame} {meth : Method} {c : Code} {D : va_G} {A : Nat → Prop} {ad : Nat → Nat} {cy : Nat → ClassId} (hC : zC p m c cX12_save 2 s args wzX12_save RX12 meth none)  {res : zSt} : ∀ (n : Nat) (H : Heap) (locs : List Loc) (σ : zSt) (ls : Array Slot) (x1 : Int32), zI st D (tM cy) (wM ad cy σ) A s H locs → lv_has ls 2 [(0, .ref (ad 0)), (1, .int x1)] → fX12_save_64  n σ x1 = some res → W p l e rmX12_save s m args below meth c H locs 0 0 (zQu below args s D (tM cy) (wM ad cy) A res) (F0 m 64 ls []) := by
  intro n
  induction n with
  | zero => intro H locs σ ls x1 hI hl hf; cases hf
  | succ n ih => intro H locs σ ls x1 hI hl hf; exact bX12_save_64_body hC ih hI hl hf
set_option maxRecDepth 20000 in
set_option maxHeartbeats 4000000 in
theorem bX12_save_39_body {st : Nat → Nat} {p : Program} {l : Launch} {e : Env} {s : State} {m : MethodId} {args : Array Value} {below : List Frame} {meth : Method} {c : Code} {D : va_G} {A : Nat → Prop} {ad : Nat → Nat} {cy : Nat → ClassId} (hC : zC p m c cX12_save 2 s args wzX12_save RX12 meth none) {k39 : zSt → Int32 → Option (zSt)} {res : zSt} (hk39 : ∀ (H : Heap) (locs : List Loc) (σ : zSt) (ls : Array Slot) (x1 : Int32), zI st D (tM cy) (wM ad cy σ) A s H locs → lv_has ls 2 [(0, .ref (ad 0)), (1, .int x1)] → k39 σ x1 = some res → W p l e rmX12_save s m args below meth c H locs 0 0 (zQu below args s D (tM cy) (wM ad cy) A res) (F0 m 39 ls [])) {H : Heap} {locs : List Loc} {σ : zSt} {ls : Array Slot} {x1 : Int32} (hI : zI st D (tM cy) (wM ad cy σ) A s H locs) (hl : lv_has ls 2 [(0, .ref (ad 0)), (1, .int x1)]) (hf : fX12_save_39_body k39 σ x1 = some res) : W p l e rmX12_save s m args below meth c H locs 0 0 (zQu below args s D (tM cy) (wM ad cy) A res) (F0 m 39 ls []) := by
  have hx := hC.1
  have hb := hC.2.1
  unfold fX12_save_39_body at hf
  refine lv_iload_n hx hb dX12_save_39 rfl (lv_at hl 1 rfl) ?_
  refine lv_iconst (v := 5) hx hb dX12_save_40 (by decide) ?_
  refine lv_icmp_ge (tgt := 62) hx hb dX12_save_41 (by decide) (fun q => ?_) (fun q => ?_)
  · replace hf := zif_t q hf
    refine lv_iconst (v := 0) hx hb dX12_save_62 (by decide) ?_
    refine lv_istore_n (lv' := [(1, .int 0), (0, .ref (ad 0))]) hx hb dX12_save_63 rfl hl (by decide) rfl (fun ls hl => ?_)
    exact blX12_save_64 hC  zfuel _ _ _ _ _ hI (lv_sub hl [1, 0] rfl) hf
  replace hf := zif_f q hf
  refine lv_aload_n hx hb dX12_save_44 rfl (lv_at hl 0 rfl) ?_
  refine z_get hC hI hinX12_save_X120 0 (wM_e0 ad cy σ) rfl 21 (by decide) (List.mem_cons_of_mem _ zw9_19) rfl dX12_save_45 ?_
  refine lv_iload_n hx hb dX12_save_48 rfl (lv_at hl 1 rfl) ?_
  refine lv_aload_n hx hb dX12_save_49 rfl (lv_at hl 0 rfl) ?_
  refine z_get hC hI hinX12_save_X120 0 (wM_e0 ad cy σ) rfl 11 (by decide) (List.mem_cons_of_mem _ zw9_8) rfl dX12_save_50 ?_
  refine lv_iload_n hx hb dX12_save_53 rfl (lv_at hl 1 rfl) ?_
  obtain ⟨q, hf⟩ := zck_use hf
  refine z_lald hC hI 4 3 (wM_e4 ad cy σ) (tM_t4 cy) q dX12_save_54 ?_
  obtain ⟨q, hf⟩ := zck_use hf
  obtain ⟨σ14, eσ14⟩ : ∃ z, z = zsl σ 13 (x1.toNatClampNeg) (zgl σ 4 x1.toNatClampNeg) := ⟨_, rfl⟩
  replace hf := zbv_use eσ14 hf
  refine z_last hC hI 13 12 (wM_e13 ad cy σ) (tM_t13 cy) q ((wM_s13 ad cy σ _ _).trans (congrArg (wM ad cy) eσ14.symm)) dX12_save_55 (fun H locs hI => ?_)
  obtain ⟨v15, ev15⟩ : ∃ z : Int32, z = x1 + 1 := ⟨_, rfl⟩
  replace hf := zbv_use ev15 hf
  refine lv_iinc (v := v15) (lv' := [(1, .int v15), (0, .ref (ad 0))]) hx hb dX12_save_56 hl (k := 1) rfl (by rw [ev15]; rfl) (by decide) rfl (fun ls hl => ?_)
  refine lv_goto (tgt := 39) hx hb dX12_save_59 (by decide) ?_
  exact hk39 _ _ _ _ _ hI (lv_sub hl [1, 0] rfl) hf
theorem blX12_save_39 {st : Nat → Nat} {p : Program} {l : Launch} {e : Env} {s : State} {m : MethodId} {args : Array Value} {below : List Frame} {meth : Method} {c : Code} {D : va_G} {A : Nat → Prop} {ad : Nat → Nat} {cy : Nat → ClassId} (hC : zC p m c cX12_save 2 s args wzX12_save RX12 meth none)  {res : zSt} : ∀ (n : Nat) (H : Heap) (locs : List Loc) (σ : zSt) (ls : Array Slot) (x1 : Int32), zI st D (tM cy) (wM ad cy σ) A s H locs → lv_has ls 2 [(0, .ref (ad 0)), (1, .int x1)] → fX12_save_39  n σ x1 = some res → W p l e rmX12_save s m args below meth c H locs 0 0 (zQu below args s D (tM cy) (wM ad cy) A res) (F0 m 39 ls []) := by
  intro n
  induction n with
  | zero => intro H locs σ ls x1 hI hl hf; cases hf
  | succ n ih => intro H locs σ ls x1 hI hl hf; exact bX12_save_39_body hC ih hI hl hf
set_option maxRecDepth 20000 in
set_option maxHeartbeats 4000000 in
theorem bX12_save_12_body {st : Nat → Nat} {p : Program} {l : Launch} {e : Env} {s : State} {m : MethodId} {args : Array Value} {below : List Frame} {meth : Method} {c : Code} {D : va_G} {A : Nat → Prop} {ad : Nat → Nat} {cy : Nat → ClassId} (hC : zC p m c cX12_save 2 s args wzX12_save RX12 meth none) {k12 : zSt → Int32 → Option (zSt)} {res : zSt} (hk12 : ∀ (H : Heap) (locs : List Loc) (σ : zSt) (ls : Array Slot) (x1 : Int32), zI st D (tM cy) (wM ad cy σ) A s H locs → lv_has ls 2 [(0, .ref (ad 0)), (1, .int x1)] → k12 σ x1 = some res → W p l e rmX12_save s m args below meth c H locs 0 0 (zQu below args s D (tM cy) (wM ad cy) A res) (F0 m 12 ls [])) {H : Heap} {locs : List Loc} {σ : zSt} {ls : Array Slot} {x1 : Int32} (hI : zI st D (tM cy) (wM ad cy σ) A s H locs) (hl : lv_has ls 2 [(0, .ref (ad 0)), (1, .int x1)]) (hf : fX12_save_12_body k12 σ x1 = some res) : W p l e rmX12_save s m args below meth c H locs 0 0 (zQu below args s D (tM cy) (wM ad cy) A res) (F0 m 12 ls []) := by
  have hx := hC.1
  have hb := hC.2.1
  unfold fX12_save_12_body at hf
  refine lv_iload_n hx hb dX12_save_12 rfl (lv_at hl 1 rfl) ?_
  refine lv_sipush (v := 1048) hx hb dX12_save_13 (by decide) ?_
  refine lv_icmp_ge (tgt := 37) hx hb dX12_save_16 (by decide) (fun q => ?_) (fun q => ?_)
  · replace hf := zif_t q hf
    refine lv_iconst (v := 0) hx hb dX12_save_37 (by decide) ?_
    refine lv_istore_n (lv' := [(1, .int 0), (0, .ref (ad 0))]) hx hb dX12_save_38 rfl hl (by decide) rfl (fun ls hl => ?_)
    exact blX12_save_39 hC  zfuel _ _ _ _ _ hI (lv_sub hl [1, 0] rfl) hf
  replace hf := zif_f q hf
  refine lv_aload_n hx hb dX12_save_19 rfl (lv_at hl 0 rfl) ?_
  refine z_get hC hI hinX12_save_X120 0 (wM_e0 ad cy σ) rfl 20 (by decide) (List.mem_cons_of_mem _ zw9_18) rfl dX12_save_20 ?_
  refine lv_iload_n hx hb dX12_save_23 rfl (lv_at hl 1 rfl) ?_
  refine lv_aload_n hx hb dX12_save_24 rfl (lv_at hl 0 rfl) ?_
  refine z_get hC hI hinX12_save_X120 0 (wM_e0 ad cy σ) rfl 10 (by decide) (List.mem_cons_of_mem _ zw9_7) rfl dX12_save_25 ?_
  refine lv_iload_n hx hb dX12_save_28 rfl (lv_at hl 1 rfl) ?_
  obtain ⟨q, hf⟩ := zck_use hf
  refine z_iald hC hI 3 2 (wM_e3 ad cy σ) (tM_t3 cy) q dX12_save_29 ?_
  obtain ⟨q, hf⟩ := zck_use hf
  obtain ⟨σ16, eσ16⟩ : ∃ z, z = zsi σ 12 (x1.toNatClampNeg) (zgi σ 3 x1.toNatClampNeg) := ⟨_, rfl⟩
  replace hf := zbv_use eσ16 hf
  refine z_iast hC hI 12 11 (wM_e12 ad cy σ) (tM_t12 cy) q ((wM_s12 ad cy σ _ _).trans (congrArg (wM ad cy) eσ16.symm)) dX12_save_30 (fun H locs hI => ?_)
  obtain ⟨v17, ev17⟩ : ∃ z : Int32, z = x1 + 1 := ⟨_, rfl⟩
  replace hf := zbv_use ev17 hf
  refine lv_iinc (v := v17) (lv' := [(1, .int v17), (0, .ref (ad 0))]) hx hb dX12_save_31 hl (k := 1) rfl (by rw [ev17]; rfl) (by decide) rfl (fun ls hl => ?_)
  refine lv_goto (tgt := 12) hx hb dX12_save_34 (by decide) ?_
  exact hk12 _ _ _ _ _ hI (lv_sub hl [1, 0] rfl) hf
theorem blX12_save_12 {st : Nat → Nat} {p : Program} {l : Launch} {e : Env} {s : State} {m : MethodId} {args : Array Value} {below : List Frame} {meth : Method} {c : Code} {D : va_G} {A : Nat → Prop} {ad : Nat → Nat} {cy : Nat → ClassId} (hC : zC p m c cX12_save 2 s args wzX12_save RX12 meth none)  {res : zSt} : ∀ (n : Nat) (H : Heap) (locs : List Loc) (σ : zSt) (ls : Array Slot) (x1 : Int32), zI st D (tM cy) (wM ad cy σ) A s H locs → lv_has ls 2 [(0, .ref (ad 0)), (1, .int x1)] → fX12_save_12  n σ x1 = some res → W p l e rmX12_save s m args below meth c H locs 0 0 (zQu below args s D (tM cy) (wM ad cy) A res) (F0 m 12 ls []) := by
  intro n
  induction n with
  | zero => intro H locs σ ls x1 hI hl hf; cases hf
  | succ n ih => intro H locs σ ls x1 hI hl hf; exact bX12_save_12_body hC ih hI hl hf
set_option maxRecDepth 20000 in
set_option maxHeartbeats 4000000 in
theorem bX12_save {st : Nat → Nat} {p : Program} {l : Launch} {e : Env} {s : State} {m : MethodId} {args : Array Value} {below : List Frame} {meth : Method} {c : Code} {D : va_G} {A : Nat → Prop} {ad : Nat → Nat} {cy : Nat → ClassId} (hC : zC p m c cX12_save 2 s args wzX12_save RX12 meth none)  {res : zSt} {H : Heap} {locs : List Loc} {σ : zSt} {ls : Array Slot}  (hI : zI st D (tM cy) (wM ad cy σ) A s H locs) (hl : lv_has ls 2 [(0, .ref (ad 0))]) (hf : fX12_save  σ  = some res) : W p l e rmX12_save s m args below meth c H locs 0 0 (zQu below args s D (tM cy) (wM ad cy) A res) (F0 m 0 ls []) := by
  have hx := hC.1
  have hb := hC.2.1
  unfold fX12_save at hf
  refine lv_aload_n hx hb dX12_save_0 rfl (lv_at hl 0 rfl) ?_
  refine lv_iconst (v := 0) hx hb dX12_save_1 (by decide) ?_
  obtain ⟨σ18, eσ18⟩ : ∃ z, z = zsi σ 0 0 0 := ⟨_, rfl⟩
  replace hf := zbv_use eσ18 hf
  refine z_put hC hI hinX12_save_X120 tyX12_ok nmX12 0 (wM_e0 ad cy σ) rfl 0 (by decide) (List.mem_cons_of_mem _ zw12_1) rfl rfl rfl (Nat.le_of_ble_eq_true rfl) ((wM_s0_0 ad cy σ 0).trans (congrArg (wM ad cy) eσ18.symm)) dX12_save_2 (fun H locs hI => ?_)
  refine lv_aload_n hx hb dX12_save_5 rfl (lv_at hl 0 rfl) ?_
  refine lv_iconst (v := 1) hx hb dX12_save_6 (by decide) ?_
  obtain ⟨q, hf⟩ := zck_use hf
  obtain ⟨σ19, eσ19⟩ : ∃ z, z = zsi σ18 0 19 1 := ⟨_, rfl⟩
  replace hf := zbv_use eσ19 hf
  refine z_put hC hI hinX12_save_X120 tyX12_ok nmX12 0 (wM_e0 ad cy σ18) rfl 19 (by decide) (List.mem_cons_of_mem _ zw16_12) rfl (zbo_n q) (zbo_f q) (Nat.le_of_ble_eq_true rfl) ((wM_s0_19 ad cy σ18 1).trans (congrArg (wM ad cy) eσ19.symm)) dX12_save_7 (fun H locs hI => ?_)
  refine lv_iconst (v := 0) hx hb dX12_save_10 (by decide) ?_
  refine lv_istore_n (lv' := [(1, .int 0), (0, .ref (ad 0))]) hx hb dX12_save_11 rfl hl (by decide) rfl (fun ls hl => ?_)
  exact blX12_save_12 hC  zfuel _ _ _ _ _ hI (lv_sub hl [1, 0] rfl) hf
set_option maxRecDepth 20000 in
theorem cX12_save_met (st : Nat → Nat) (l : Launch) (D : va_G) (ad : Nat → Nat) (cy : Nat → ClassId) (σ : zSt)  (res : zSt) (hf : fX12_save σ  = some res) (sz : Nat) : zMu st l yX12_save wzX12_save rmX12_save [.ref (ad 0)] D (tM cy) (wM ad cy) sz σ res :=
  zMu.of (cc := cX12_save) (maxL := 2) (ret := none) (by decide) rfl (Nat.le_of_ble_eq_true rfl) (fun p e s m args below meth c hC A hI ls hl => bX12_save hC hI hl hf)
theorem hdX12_save : yX12_save.cls = RX12 ∧ yX12_save.cls ≠ "java/lang/invoke/MethodHandle" ∧ yX12_save.cls ≠ "java/lang/invoke/VarHandle" ∧ (parseMethodDescriptor yX12_save.desc).map (fun d => d.parameters.length) = some 0 := by decide +kernel
noncomputable def rmX12_restore : Room := { frames := 1, cells := 0, slots := 0, locals := 22 }
noncomputable def wzX12_restore : List Cond := .code yX12_restore cX12_restore 2 none :: wsL_law
theorem hinX12_restore_X120 : ∀ w ∈ wsX120, w ∈ wzX12_restore := fun w h => List.mem_cons_of_mem _ (inlX12 w h)
noncomputable def fX12_restore_207_body (k207 : zSt → Int32 → Option (zSt)) (σ : zSt) (x1 : Int32) : Option (zSt) :=
  if 4096 ≤ x1 then some σ else
  zck (zin x1 4096) (
  zck (zin x1 4096) (zbv (zsl σ 10 (x1.toNatClampNeg) (zgl σ 19 x1.toNatClampNeg)) (fun σ1 =>
  zck (zin x1 4096) (
  zck (zin x1 4096) (zbv (zsl σ1 11 (x1.toNatClampNeg) (zgl σ1 20 x1.toNatClampNeg)) (fun σ2 =>
  zbv (x1 + 1) (fun v3 =>
  k207 σ2 v3)))))))
noncomputable def fX12_restore_207  : Nat → zSt → Int32 → Option (zSt)
  | 0, _, _ => none
  | n + 1, σ, x1 => fX12_restore_207_body (fX12_restore_207  n) σ x1
noncomputable def fX12_restore_181_body (k181 : zSt → Int32 → Option (zSt)) (σ : zSt) (x1 : Int32) : Option (zSt) :=
  if 61440 ≤ x1 then fX12_restore_207 zfuel σ 0 else
  zck (zin x1 61440) (
  zck (zin x1 61440) (zbv (zsi σ 9 (x1.toNatClampNeg) (zgi σ 18 x1.toNatClampNeg)) (fun σ4 =>
  zbv (x1 + 1) (fun v5 =>
  k181 σ4 v5))))
noncomputable def fX12_restore_181  : Nat → zSt → Int32 → Option (zSt)
  | 0, _, _ => none
  | n + 1, σ, x1 => fX12_restore_181_body (fX12_restore_181  n) σ x1
noncomputable def fX12_restore_155_body (k155 : zSt → Int32 → Option (zSt)) (σ : zSt) (x1 : Int32) : Option (zSt) :=
  if 64 ≤ x1 then fX12_restore_181 zfuel σ 0 else
  zck (zin x1 64) (
  zck (zin x1 64) (zbv (zsi σ 8 (x1.toNatClampNeg) (vp_nar .byte (zgi σ 17 x1.toNatClampNeg))) (fun σ6 =>
  zbv (x1 + 1) (fun v7 =>
  k155 σ6 v7))))
noncomputable def fX12_restore_155  : Nat → zSt → Int32 → Option (zSt)
  | 0, _, _ => none
  | n + 1, σ, x1 => fX12_restore_155_body (fX12_restore_155  n) σ x1
noncomputable def fX12_restore_128_body (k128 : zSt → Int32 → Option (zSt)) (σ : zSt) (x1 : Int32) : Option (zSt) :=
  if 16384 ≤ x1 then fX12_restore_155 zfuel σ 0 else
  zck (zin x1 16384) (
  zck (zin x1 16384) (zbv (zsi σ 7 (x1.toNatClampNeg) (vp_nar .byte (zgi σ 16 x1.toNatClampNeg))) (fun σ8 =>
  zbv (x1 + 1) (fun v9 =>
  k128 σ8 v9))))
noncomputable def fX12_restore_128  : Nat → zSt → Int32 → Option (zSt)
  | 0, _, _ => none
  | n + 1, σ, x1 => fX12_restore_128_body (fX12_restore_128  n) σ x1
noncomputable def fX12_restore_102_body (k102 : zSt → Int32 → Option (zSt)) (σ : zSt) (x1 : Int32) : Option (zSt) :=
  if 32768 ≤ x1 then fX12_restore_128 zfuel σ 0 else
  zck (zin x1 32768) (
  zck (zin x1 32768) (zbv (zsi σ 6 (x1.toNatClampNeg) (vp_nar .byte (zgi σ 15 x1.toNatClampNeg))) (fun σ10 =>
  zbv (x1 + 1) (fun v11 =>
  k102 σ10 v11))))
noncomputable def fX12_restore_102  : Nat → zSt → Int32 → Option (zSt)
  | 0, _, _ => none
  | n + 1, σ, x1 => fX12_restore_102_body (fX12_restore_102  n) σ x1
noncomputable def fX12_restore_75_body (k75 : zSt → Int32 → Option (zSt)) (σ : zSt) (x1 : Int32) : Option (zSt) :=
  if 8192 ≤ x1 then fX12_restore_102 zfuel σ 0 else
  zck (zin x1 8192) (
  zck (zin x1 8192) (zbv (zsi σ 5 (x1.toNatClampNeg) (vp_nar .byte (zgi σ 14 x1.toNatClampNeg))) (fun σ12 =>
  zbv (x1 + 1) (fun v13 =>
  k75 σ12 v13))))
noncomputable def fX12_restore_75  : Nat → zSt → Int32 → Option (zSt)
  | 0, _, _ => none
  | n + 1, σ, x1 => fX12_restore_75_body (fX12_restore_75  n) σ x1
noncomputable def fX12_restore_50_body (k50 : zSt → Int32 → Option (zSt)) (σ : zSt) (x1 : Int32) : Option (zSt) :=
  if 5 ≤ x1 then fX12_restore_75 zfuel σ 0 else
  zck (zin x1 5) (
  zck (zin x1 5) (zbv (zsl σ 4 (x1.toNatClampNeg) (zgl σ 13 x1.toNatClampNeg)) (fun σ14 =>
  zbv (x1 + 1) (fun v15 =>
  k50 σ14 v15))))
noncomputable def fX12_restore_50  : Nat → zSt → Int32 → Option (zSt)
  | 0, _, _ => none
  | n + 1, σ, x1 => fX12_restore_50_body (fX12_restore_50  n) σ x1
noncomputable def fX12_restore_23_body (k23 : zSt → Int32 → Option (zSt)) (σ : zSt) (x1 : Int32) : Option (zSt) :=
  if 1048 ≤ x1 then fX12_restore_50 zfuel σ 0 else
  zck (zin x1 1048) (
  zck (zin x1 1048) (zbv (zsi σ 3 (x1.toNatClampNeg) (zgi σ 12 x1.toNatClampNeg)) (fun σ16 =>
  zbv (x1 + 1) (fun v17 =>
  k23 σ16 v17))))
noncomputable def fX12_restore_23  : Nat → zSt → Int32 → Option (zSt)
  | 0, _, _ => none
  | n + 1, σ, x1 => fX12_restore_23_body (fX12_restore_23  n) σ x1
noncomputable def fX12_restore_13  (σ : zSt) (s0 : Int32) : Option (zSt) :=
  zbi (fX12_fails σ s0 1) (fun σ18 v19 =>
  if v19 = 0 then fX12_restore_23 zfuel σ18 0 else
  some σ18)
noncomputable def fX12_restore  (σ : zSt)  : Option (zSt) :=
  if (zgi σ 0 19) = 0 then fX12_restore_13 σ 1 else
  fX12_restore_13 σ 0
set_option maxRecDepth 20000 in
set_option maxHeartbeats 4000000 in
theorem bX12_restore_207_body {st : Nat → Nat} {p : Program} {l : Launch} {e : Env} {s : State} {m : MethodId} {args : Array Value} {below : List Frame} {meth : Method} {c : Code} {D : va_G} {A : Nat → Prop} {ad : Nat → Nat} {cy : Nat → ClassId} (hC : zC p m c cX12_restore 2 s args wzX12_restore RX12 meth none) {k207 : zSt → Int32 → Option (zSt)} {res : zSt} (hk207 : ∀ (H : Heap) (locs : List Loc) (σ : zSt) (ls : Array Slot) (x1 : Int32), zI st D (tM cy) (wM ad cy σ) A s H locs → lv_has ls 2 [(0, .ref (ad 0)), (1, .int x1)] → k207 σ x1 = some res → W p l e rmX12_restore s m args below meth c H locs 0 0 (zQu below args s D (tM cy) (wM ad cy) A res) (F0 m 207 ls [])) {H : Heap} {locs : List Loc} {σ : zSt} {ls : Array Slot} {x1 : Int32} (hI : zI st D (tM cy) (wM ad cy σ) A s H locs) (hl : lv_has ls 2 [(0, .ref (ad 0)), (1, .int x1)]) (hf : fX12_restore_207_body k207 σ x1 = some res) : W p l e rmX12_restore s m args below meth c H locs 0 0 (zQu below args s D (tM cy) (wM ad cy) A res) (F0 m 207 ls []) := by
  have hx := hC.1
  have hb := hC.2.1
  unfold fX12_restore_207_body at hf
  refine lv_iload_n hx hb dX12_restore_207 rfl (lv_at hl 1 rfl) ?_
  refine lv_sipush (v := 4096) hx hb dX12_restore_208 (by decide) ?_
  refine lv_icmp_ge (tgt := 244) hx hb dX12_restore_211 (by decide) (fun q => ?_) (fun q => ?_)
  · replace hf := zif_t q hf
    exact z_return hC hI hf dX12_restore_244
  replace hf := zif_f q hf
  refine lv_aload_n hx hb dX12_restore_214 rfl (lv_at hl 0 rfl) ?_
  refine z_get hC hI hinX12_restore_X120 0 (wM_e0 ad cy σ) rfl 17 (by decide) (List.mem_cons_of_mem _ zw9_16) rfl dX12_restore_215 ?_
  refine lv_iload_n hx hb dX12_restore_218 rfl (lv_at hl 1 rfl) ?_
  refine lv_aload_n hx hb dX12_restore_219 rfl (lv_at hl 0 rfl) ?_
  refine z_get hC hI hinX12_restore_X120 0 (wM_e0 ad cy σ) rfl 27 (by decide) (List.mem_cons_of_mem _ zw10_1) rfl dX12_restore_220 ?_
  refine lv_iload_n hx hb dX12_restore_223 rfl (lv_at hl 1 rfl) ?_
  obtain ⟨q, hf⟩ := zck_use hf
  refine z_lald hC hI 19 18 (wM_e19 ad cy σ) (tM_t19 cy) q dX12_restore_224 ?_
  obtain ⟨q, hf⟩ := zck_use hf
  obtain ⟨σ1, eσ1⟩ : ∃ z, z = zsl σ 10 (x1.toNatClampNeg) (zgl σ 19 x1.toNatClampNeg) := ⟨_, rfl⟩
  replace hf := zbv_use eσ1 hf
  refine z_last hC hI 10 9 (wM_e10 ad cy σ) (tM_t10 cy) q ((wM_s10 ad cy σ _ _).trans (congrArg (wM ad cy) eσ1.symm)) dX12_restore_225 (fun H locs hI => ?_)
  refine lv_aload_n hx hb dX12_restore_226 rfl (lv_at hl 0 rfl) ?_
  refine z_get hC hI hinX12_restore_X120 0 (wM_e0 ad cy σ1) rfl 18 (by decide) (List.mem_cons_of_mem _ zw9_17) rfl dX12_restore_227 ?_
  refine lv_iload_n hx hb dX12_restore_230 rfl (lv_at hl 1 rfl) ?_
  refine lv_aload_n hx hb dX12_restore_231 rfl (lv_at hl 0 rfl) ?_
  refine z_get hC hI hinX12_restore_X120 0 (wM_e0 ad cy σ1) rfl 28 (by decide) (List.mem_cons_of_mem _ zw10_2) rfl dX12_restore_232 ?_
  refine lv_iload_n hx hb dX12_restore_235 rfl (lv_at hl 1 rfl) ?_
  obtain ⟨q, hf⟩ := zck_use hf
  refine z_lald hC hI 20 19 (wM_e20 ad cy σ1) (tM_t20 cy) q dX12_restore_236 ?_
  obtain ⟨q, hf⟩ := zck_use hf
  obtain ⟨σ2, eσ2⟩ : ∃ z, z = zsl σ1 11 (x1.toNatClampNeg) (zgl σ1 20 x1.toNatClampNeg) := ⟨_, rfl⟩
  replace hf := zbv_use eσ2 hf
  refine z_last hC hI 11 10 (wM_e11 ad cy σ1) (tM_t11 cy) q ((wM_s11 ad cy σ1 _ _).trans (congrArg (wM ad cy) eσ2.symm)) dX12_restore_237 (fun H locs hI => ?_)
  obtain ⟨v3, ev3⟩ : ∃ z : Int32, z = x1 + 1 := ⟨_, rfl⟩
  replace hf := zbv_use ev3 hf
  refine lv_iinc (v := v3) (lv' := [(1, .int v3), (0, .ref (ad 0))]) hx hb dX12_restore_238 hl (k := 1) rfl (by rw [ev3]; rfl) (by decide) rfl (fun ls hl => ?_)
  refine lv_goto (tgt := 207) hx hb dX12_restore_241 (by decide) ?_
  exact hk207 _ _ _ _ _ hI (lv_sub hl [1, 0] rfl) hf
theorem blX12_restore_207 {st : Nat → Nat} {p : Program} {l : Launch} {e : Env} {s : State} {m : MethodId} {args : Array Value} {below : List Frame} {meth : Method} {c : Code} {D : va_G} {A : Nat → Prop} {ad : Nat → Nat} {cy : Nat → ClassId} (hC : zC p m c cX12_restore 2 s args wzX12_restore RX12 meth none)  {res : zSt} : ∀ (n : Nat) (H : Heap) (locs : List Loc) (σ : zSt) (ls : Array Slot) (x1 : Int32), zI st D (tM cy) (wM ad cy σ) A s H locs → lv_has ls 2 [(0, .ref (ad 0)), (1, .int x1)] → fX12_restore_207  n σ x1 = some res → W p l e rmX12_restore s m args below meth c H locs 0 0 (zQu below args s D (tM cy) (wM ad cy) A res) (F0 m 207 ls []) := by
  intro n
  induction n with
  | zero => intro H locs σ ls x1 hI hl hf; cases hf
  | succ n ih => intro H locs σ ls x1 hI hl hf; exact bX12_restore_207_body hC ih hI hl hf
set_option maxRecDepth 20000 in
set_option maxHeartbeats 4000000 in
theorem bX12_restore_181_body {st : Nat → Nat} {p : Program} {l : Launch} {e : Env} {s : State} {m : MethodId} {args : Array Value} {below : List Frame} {meth : Method} {c : Code} {D : va_G} {A : Nat → Prop} {ad : Nat → Nat} {cy : Nat → ClassId} (hC : zC p m c cX12_restore 2 s args wzX12_restore RX12 meth none) {k181 : zSt → Int32 → Option (zSt)} {res : zSt} (hk181 : ∀ (H : Heap) (locs : List Loc) (σ : zSt) (ls : Array Slot) (x1 : Int32), zI st D (tM cy) (wM ad cy σ) A s H locs → lv_has ls 2 [(0, .ref (ad 0)), (1, .int x1)] → k181 σ x1 = some res → W p l e rmX12_restore s m args below meth c H locs 0 0 (zQu below args s D (tM cy) (wM ad cy) A res) (F0 m 181 ls [])) {H : Heap} {locs : List Loc} {σ : zSt} {ls : Array Slot} {x1 : Int32} (hI : zI st D (tM cy) (wM ad cy σ) A s H locs) (hl : lv_has ls 2 [(0, .ref (ad 0)), (1, .int x1)]) (hf : fX12_restore_181_body k181 σ x1 = some res) : W p l e rmX12_restore s m args below meth c H locs 0 0 (zQu below args s D (tM cy) (wM ad cy) A res) (F0 m 181 ls []) := by
  have hx := hC.1
  have hb := hC.2.1
  unfold fX12_restore_181_body at hf
  refine lv_iload_n hx hb dX12_restore_181 rfl (lv_at hl 1 rfl) ?_
  refine lv_ldc (v := 61440) hx hb hC.2.2.2.1 (hC.2.2.2.2.1 _ (List.mem_cons_of_mem _ zw9_14)) dX12_restore_182 ?_
  refine lv_icmp_ge (tgt := 205) hx hb dX12_restore_184 (by decide) (fun q => ?_) (fun q => ?_)
  · replace hf := zif_t q hf
    refine lv_iconst (v := 0) hx hb dX12_restore_205 (by decide) ?_
    refine lv_istore_n (lv' := [(1, .int 0), (0, .ref (ad 0))]) hx hb dX12_restore_206 rfl hl (by decide) rfl (fun ls hl => ?_)
    exact blX12_restore_207 hC  zfuel _ _ _ _ _ hI (lv_sub hl [1, 0] rfl) hf
  replace hf := zif_f q hf
  refine lv_aload_n hx hb dX12_restore_187 rfl (lv_at hl 0 rfl) ?_
  refine z_get hC hI hinX12_restore_X120 0 (wM_e0 ad cy σ) rfl 16 (by decide) (List.mem_cons_of_mem _ zw9_15) rfl dX12_restore_188 ?_
  refine lv_iload_n hx hb dX12_restore_191 rfl (lv_at hl 1 rfl) ?_
  refine lv_aload_n hx hb dX12_restore_192 rfl (lv_at hl 0 rfl) ?_
  refine z_get hC hI hinX12_restore_X120 0 (wM_e0 ad cy σ) rfl 26 (by decide) (List.mem_cons_of_mem _ zw10_0) rfl dX12_restore_193 ?_
  refine lv_iload_n hx hb dX12_restore_196 rfl (lv_at hl 1 rfl) ?_
  obtain ⟨q, hf⟩ := zck_use hf
  refine z_iald hC hI 18 17 (wM_e18 ad cy σ) (tM_t18 cy) q dX12_restore_197 ?_
  obtain ⟨q, hf⟩ := zck_use hf
  obtain ⟨σ4, eσ4⟩ : ∃ z, z = zsi σ 9 (x1.toNatClampNeg) (zgi σ 18 x1.toNatClampNeg) := ⟨_, rfl⟩
  replace hf := zbv_use eσ4 hf
  refine z_iast hC hI 9 8 (wM_e9 ad cy σ) (tM_t9 cy) q ((wM_s9 ad cy σ _ _).trans (congrArg (wM ad cy) eσ4.symm)) dX12_restore_198 (fun H locs hI => ?_)
  obtain ⟨v5, ev5⟩ : ∃ z : Int32, z = x1 + 1 := ⟨_, rfl⟩
  replace hf := zbv_use ev5 hf
  refine lv_iinc (v := v5) (lv' := [(1, .int v5), (0, .ref (ad 0))]) hx hb dX12_restore_199 hl (k := 1) rfl (by rw [ev5]; rfl) (by decide) rfl (fun ls hl => ?_)
  refine lv_goto (tgt := 181) hx hb dX12_restore_202 (by decide) ?_
  exact hk181 _ _ _ _ _ hI (lv_sub hl [1, 0] rfl) hf
theorem blX12_restore_181 {st : Nat → Nat} {p : Program} {l : Launch} {e : Env} {s : State} {m : MethodId} {args : Array Value} {below : List Frame} {meth : Method} {c : Code} {D : va_G} {A : Nat → Prop} {ad : Nat → Nat} {cy : Nat → ClassId} (hC : zC p m c cX12_restore 2 s args wzX12_restore RX12 meth none)  {res : zSt} : ∀ (n : Nat) (H : Heap) (locs : List Loc) (σ : zSt) (ls : Array Slot) (x1 : Int32), zI st D (tM cy) (wM ad cy σ) A s H locs → lv_has ls 2 [(0, .ref (ad 0)), (1, .int x1)] → fX12_restore_181  n σ x1 = some res → W p l e rmX12_restore s m args below meth c H locs 0 0 (zQu below args s D (tM cy) (wM ad cy) A res) (F0 m 181 ls []) := by
  intro n
  induction n with
  | zero => intro H locs σ ls x1 hI hl hf; cases hf
  | succ n ih => intro H locs σ ls x1 hI hl hf; exact bX12_restore_181_body hC ih hI hl hf
set_option maxRecDepth 20000 in
set_option maxHeartbeats 4000000 in
theorem bX12_restore_155_body {st : Nat → Nat} {p : Program} {l : Launch} {e : Env} {s : State} {m : MethodId} {args : Array Value} {below : List Frame} {meth : Method} {c : Code} {D : va_G} {A : Nat → Prop} {ad : Nat → Nat} {cy : Nat → ClassId} (hC : zC p m c cX12_restore 2 s args wzX12_restore RX12 meth none) {k155 : zSt → Int32 → Option (zSt)} {res : zSt} (hk155 : ∀ (H : Heap) (locs : List Loc) (σ : zSt) (ls : Array Slot) (x1 : Int32), zI st D (tM cy) (wM ad cy σ) A s H locs → lv_has ls 2 [(0, .ref (ad 0)), (1, .int x1)] → k155 σ x1 = some res → W p l e rmX12_restore s m args below meth c H locs 0 0 (zQu below args s D (tM cy) (wM ad cy) A res) (F0 m 155 ls [])) {H : Heap} {locs : List Loc} {σ : zSt} {ls : Array Slot} {x1 : Int32} (hI : zI st D (tM cy) (wM ad cy σ) A s H locs) (hl : lv_has ls 2 [(0, .ref (ad 0)), (1, .int x1)]) (hf : fX12_restore_155_body k155 σ x1 = some res) : W p l e rmX12_restore s m args below meth c H locs 0 0 (zQu below args s D (tM cy) (wM ad cy) A res) (F0 m 155 ls []) := by
  have hx := hC.1
  have hb := hC.2.1
  unfold fX12_restore_155_body at hf
  refine lv_iload_n hx hb dX12_restore_155 rfl (lv_at hl 1 rfl) ?_
  refine lv_bipush (v := 64) hx hb dX12_restore_156 (by decide) ?_
  refine lv_icmp_ge (tgt := 179) hx hb dX12_restore_158 (by decide) (fun q => ?_) (fun q => ?_)
  · replace hf := zif_t q hf
    refine lv_iconst (v := 0) hx hb dX12_restore_179 (by decide) ?_
    refine lv_istore_n (lv' := [(1, .int 0), (0, .ref (ad 0))]) hx hb dX12_restore_180 rfl hl (by decide) rfl (fun ls hl => ?_)
    exact blX12_restore_181 hC  zfuel _ _ _ _ _ hI (lv_sub hl [1, 0] rfl) hf
  replace hf := zif_f q hf
  refine lv_aload_n hx hb dX12_restore_161 rfl (lv_at hl 0 rfl) ?_
  refine z_get hC hI hinX12_restore_X120 0 (wM_e0 ad cy σ) rfl 15 (by decide) (List.mem_cons_of_mem _ zw9_13) rfl dX12_restore_162 ?_
  refine lv_iload_n hx hb dX12_restore_165 rfl (lv_at hl 1 rfl) ?_
  refine lv_aload_n hx hb dX12_restore_166 rfl (lv_at hl 0 rfl) ?_
  refine z_get hC hI hinX12_restore_X120 0 (wM_e0 ad cy σ) rfl 25 (by decide) (List.mem_cons_of_mem _ zw9_23) rfl dX12_restore_167 ?_
  refine lv_iload_n hx hb dX12_restore_170 rfl (lv_at hl 1 rfl) ?_
  obtain ⟨q, hf⟩ := zck_use hf
  refine z_bald hC hI 17 16 (wM_e17 ad cy σ) (tM_t17 cy) q dX12_restore_171 ?_
  obtain ⟨q, hf⟩ := zck_use hf
  obtain ⟨σ6, eσ6⟩ : ∃ z, z = zsi σ 8 (x1.toNatClampNeg) (vp_nar .byte (zgi σ 17 x1.toNatClampNeg)) := ⟨_, rfl⟩
  replace hf := zbv_use eσ6 hf
  refine z_bast hC hI 8 7 (wM_e8 ad cy σ) (tM_t8 cy) q ((wM_s8 ad cy σ _ _).trans (congrArg (wM ad cy) eσ6.symm)) dX12_restore_172 (fun H locs hI => ?_)
  obtain ⟨v7, ev7⟩ : ∃ z : Int32, z = x1 + 1 := ⟨_, rfl⟩
  replace hf := zbv_use ev7 hf
  refine lv_iinc (v := v7) (lv' := [(1, .int v7), (0, .ref (ad 0))]) hx hb dX12_restore_173 hl (k := 1) rfl (by rw [ev7]; rfl) (by decide) rfl (fun ls hl => ?_)
  refine lv_goto (tgt := 155) hx hb dX12_restore_176 (by decide) ?_
  exact hk155 _ _ _ _ _ hI (lv_sub hl [1, 0] rfl) hf
theorem blX12_restore_155 {st : Nat → Nat} {p : Program} {l : Launch} {e : Env} {s : State} {m : MethodId} {args : Array Value} {below : List Frame} {meth : Method} {c : Code} {D : va_G} {A : Nat → Prop} {ad : Nat → Nat} {cy : Nat → ClassId} (hC : zC p m c cX12_restore 2 s args wzX12_restore RX12 meth none)  {res : zSt} : ∀ (n : Nat) (H : Heap) (locs : List Loc) (σ : zSt) (ls : Array Slot) (x1 : Int32), zI st D (tM cy) (wM ad cy σ) A s H locs → lv_has ls 2 [(0, .ref (ad 0)), (1, .int x1)] → fX12_restore_155  n σ x1 = some res → W p l e rmX12_restore s m args below meth c H locs 0 0 (zQu below args s D (tM cy) (wM ad cy) A res) (F0 m 155 ls []) := by
  intro n
  induction n with
  | zero => intro H locs σ ls x1 hI hl hf; cases hf
  | succ n ih => intro H locs σ ls x1 hI hl hf; exact bX12_restore_155_body hC ih hI hl hf
set_option maxRecDepth 20000 in
set_option maxHeartbeats 4000000 in
theorem bX12_restore_128_body {st : Nat → Nat} {p : Program} {l : Launch} {e : Env} {s : State} {m : MethodId} {args : Array Value} {below : List Frame} {meth : Method} {c : Code} {D : va_G} {A : Nat → Prop} {ad : Nat → Nat} {cy : Nat → ClassId} (hC : zC p m c cX12_restore 2 s args wzX12_restore RX12 meth none) {k128 : zSt → Int32 → Option (zSt)} {res : zSt} (hk128 : ∀ (H : Heap) (locs : List Loc) (σ : zSt) (ls : Array Slot) (x1 : Int32), zI st D (tM cy) (wM ad cy σ) A s H locs → lv_has ls 2 [(0, .ref (ad 0)), (1, .int x1)] → k128 σ x1 = some res → W p l e rmX12_restore s m args below meth c H locs 0 0 (zQu below args s D (tM cy) (wM ad cy) A res) (F0 m 128 ls [])) {H : Heap} {locs : List Loc} {σ : zSt} {ls : Array Slot} {x1 : Int32} (hI : zI st D (tM cy) (wM ad cy σ) A s H locs) (hl : lv_has ls 2 [(0, .ref (ad 0)), (1, .int x1)]) (hf : fX12_restore_128_body k128 σ x1 = some res) : W p l e rmX12_restore s m args below meth c H locs 0 0 (zQu below args s D (tM cy) (wM ad cy) A res) (F0 m 128 ls []) := by
  have hx := hC.1
  have hb := hC.2.1
  unfold fX12_restore_128_body at hf
  refine lv_iload_n hx hb dX12_restore_128 rfl (lv_at hl 1 rfl) ?_
  refine lv_sipush (v := 16384) hx hb dX12_restore_129 (by decide) ?_
  refine lv_icmp_ge (tgt := 153) hx hb dX12_restore_132 (by decide) (fun q => ?_) (fun q => ?_)
  · replace hf := zif_t q hf
    refine lv_iconst (v := 0) hx hb dX12_restore_153 (by decide) ?_
    refine lv_istore_n (lv' := [(1, .int 0), (0, .ref (ad 0))]) hx hb dX12_restore_154 rfl hl (by decide) rfl (fun ls hl => ?_)
    exact blX12_restore_155 hC  zfuel _ _ _ _ _ hI (lv_sub hl [1, 0] rfl) hf
  replace hf := zif_f q hf
  refine lv_aload_n hx hb dX12_restore_135 rfl (lv_at hl 0 rfl) ?_
  refine z_get hC hI hinX12_restore_X120 0 (wM_e0 ad cy σ) rfl 14 (by decide) (List.mem_cons_of_mem _ zw9_12) rfl dX12_restore_136 ?_
  refine lv_iload_n hx hb dX12_restore_139 rfl (lv_at hl 1 rfl) ?_
  refine lv_aload_n hx hb dX12_restore_140 rfl (lv_at hl 0 rfl) ?_
  refine z_get hC hI hinX12_restore_X120 0 (wM_e0 ad cy σ) rfl 24 (by decide) (List.mem_cons_of_mem _ zw9_22) rfl dX12_restore_141 ?_
  refine lv_iload_n hx hb dX12_restore_144 rfl (lv_at hl 1 rfl) ?_
  obtain ⟨q, hf⟩ := zck_use hf
  refine z_bald hC hI 16 15 (wM_e16 ad cy σ) (tM_t16 cy) q dX12_restore_145 ?_
  obtain ⟨q, hf⟩ := zck_use hf
  obtain ⟨σ8, eσ8⟩ : ∃ z, z = zsi σ 7 (x1.toNatClampNeg) (vp_nar .byte (zgi σ 16 x1.toNatClampNeg)) := ⟨_, rfl⟩
  replace hf := zbv_use eσ8 hf
  refine z_bast hC hI 7 6 (wM_e7 ad cy σ) (tM_t7 cy) q ((wM_s7 ad cy σ _ _).trans (congrArg (wM ad cy) eσ8.symm)) dX12_restore_146 (fun H locs hI => ?_)
  obtain ⟨v9, ev9⟩ : ∃ z : Int32, z = x1 + 1 := ⟨_, rfl⟩
  replace hf := zbv_use ev9 hf
  refine lv_iinc (v := v9) (lv' := [(1, .int v9), (0, .ref (ad 0))]) hx hb dX12_restore_147 hl (k := 1) rfl (by rw [ev9]; rfl) (by decide) rfl (fun ls hl => ?_)
  refine lv_goto (tgt := 128) hx hb dX12_restore_150 (by decide) ?_
  exact hk128 _ _ _ _ _ hI (lv_sub hl [1, 0] rfl) hf
theorem blX12_restore_128 {st : Nat → Nat} {p : Program} {l : Launch} {e : Env} {s : State} {m : MethodId} {args : Array Value} {below : List Frame} {meth : Method} {c : Code} {D : va_G} {A : Nat → Prop} {ad : Nat → Nat} {cy : Nat → ClassId} (hC : zC p m c cX12_restore 2 s args wzX12_restore RX12 meth none)  {res : zSt} : ∀ (n : Nat) (H : Heap) (locs : List Loc) (σ : zSt) (ls : Array Slot) (x1 : Int32), zI st D (tM cy) (wM ad cy σ) A s H locs → lv_has ls 2 [(0, .ref (ad 0)), (1, .int x1)] → fX12_restore_128  n σ x1 = some res → W p l e rmX12_restore s m args below meth c H locs 0 0 (zQu below args s D (tM cy) (wM ad cy) A res) (F0 m 128 ls []) := by
  intro n
  induction n with
  | zero => intro H locs σ ls x1 hI hl hf; cases hf
  | succ n ih => intro H locs σ ls x1 hI hl hf; exact bX12_restore_128_body hC ih hI hl hf
set_option maxRecDepth 20000 in
set_option maxHeartbeats 4000000 in
theorem bX12_restore_102_body {st : Nat → Nat} {p : Program} {l : Launch} {e : Env} {s : State} {m : MethodId} {args : Array Value} {below : List Frame} {meth : Method} {c : Code} {D : va_G} {A : Nat → Prop} {ad : Nat → Nat} {cy : Nat → ClassId} (hC : zC p m c cX12_restore 2 s args wzX12_restore RX12 meth none) {k102 : zSt → Int32 → Option (zSt)} {res : zSt} (hk102 : ∀ (H : Heap) (locs : List Loc) (σ : zSt) (ls : Array Slot) (x1 : Int32), zI st D (tM cy) (wM ad cy σ) A s H locs → lv_has ls 2 [(0, .ref (ad 0)), (1, .int x1)] → k102 σ x1 = some res → W p l e rmX12_restore s m args below meth c H locs 0 0 (zQu below args s D (tM cy) (wM ad cy) A res) (F0 m 102 ls [])) {H : Heap} {locs : List Loc} {σ : zSt} {ls : Array Slot} {x1 : Int32} (hI : zI st D (tM cy) (wM ad cy σ) A s H locs) (hl : lv_has ls 2 [(0, .ref (ad 0)), (1, .int x1)]) (hf : fX12_restore_102_body k102 σ x1 = some res) : W p l e rmX12_restore s m args below meth c H locs 0 0 (zQu below args s D (tM cy) (wM ad cy) A res) (F0 m 102 ls []) := by
  have hx := hC.1
  have hb := hC.2.1
  unfold fX12_restore_102_body at hf
  refine lv_iload_n hx hb dX12_restore_102 rfl (lv_at hl 1 rfl) ?_
  refine lv_ldc (v := 32768) hx hb hC.2.2.2.1 (hC.2.2.2.2.1 _ (List.mem_cons_of_mem _ zw9_10)) dX12_restore_103 ?_
  refine lv_icmp_ge (tgt := 126) hx hb dX12_restore_105 (by decide) (fun q => ?_) (fun q => ?_)
  · replace hf := zif_t q hf
    refine lv_iconst (v := 0) hx hb dX12_restore_126 (by decide) ?_
    refine lv_istore_n (lv' := [(1, .int 0), (0, .ref (ad 0))]) hx hb dX12_restore_127 rfl hl (by decide) rfl (fun ls hl => ?_)
    exact blX12_restore_128 hC  zfuel _ _ _ _ _ hI (lv_sub hl [1, 0] rfl) hf
  replace hf := zif_f q hf
  refine lv_aload_n hx hb dX12_restore_108 rfl (lv_at hl 0 rfl) ?_
  refine z_get hC hI hinX12_restore_X120 0 (wM_e0 ad cy σ) rfl 13 (by decide) (List.mem_cons_of_mem _ zw9_11) rfl dX12_restore_109 ?_
  refine lv_iload_n hx hb dX12_restore_112 rfl (lv_at hl 1 rfl) ?_
  refine lv_aload_n hx hb dX12_restore_113 rfl (lv_at hl 0 rfl) ?_
  refine z_get hC hI hinX12_restore_X120 0 (wM_e0 ad cy σ) rfl 23 (by decide) (List.mem_cons_of_mem _ zw9_21) rfl dX12_restore_114 ?_
  refine lv_iload_n hx hb dX12_restore_117 rfl (lv_at hl 1 rfl) ?_
  obtain ⟨q, hf⟩ := zck_use hf
  refine z_bald hC hI 15 14 (wM_e15 ad cy σ) (tM_t15 cy) q dX12_restore_118 ?_
  obtain ⟨q, hf⟩ := zck_use hf
  obtain ⟨σ10, eσ10⟩ : ∃ z, z = zsi σ 6 (x1.toNatClampNeg) (vp_nar .byte (zgi σ 15 x1.toNatClampNeg)) := ⟨_, rfl⟩
  replace hf := zbv_use eσ10 hf
  refine z_bast hC hI 6 5 (wM_e6 ad cy σ) (tM_t6 cy) q ((wM_s6 ad cy σ _ _).trans (congrArg (wM ad cy) eσ10.symm)) dX12_restore_119 (fun H locs hI => ?_)
  obtain ⟨v11, ev11⟩ : ∃ z : Int32, z = x1 + 1 := ⟨_, rfl⟩
  replace hf := zbv_use ev11 hf
  refine lv_iinc (v := v11) (lv' := [(1, .int v11), (0, .ref (ad 0))]) hx hb dX12_restore_120 hl (k := 1) rfl (by rw [ev11]; rfl) (by decide) rfl (fun ls hl => ?_)
  refine lv_goto (tgt := 102) hx hb dX12_restore_123 (by decide) ?_
  exact hk102 _ _ _ _ _ hI (lv_sub hl [1, 0] rfl) hf
theorem blX12_restore_102 {st : Nat → Nat} {p : Program} {l : Launch} {e : Env} {s : State} {m : MethodId} {args : Array Value} {below : List Frame} {meth : Method} {c : Code} {D : va_G} {A : Nat → Prop} {ad : Nat → Nat} {cy : Nat → ClassId} (hC : zC p m c cX12_restore 2 s args wzX12_restore RX12 meth none)  {res : zSt} : ∀ (n : Nat) (H : Heap) (locs : List Loc) (σ : zSt) (ls : Array Slot) (x1 : Int32), zI st D (tM cy) (wM ad cy σ) A s H locs → lv_has ls 2 [(0, .ref (ad 0)), (1, .int x1)] → fX12_restore_102  n σ x1 = some res → W p l e rmX12_restore s m args below meth c H locs 0 0 (zQu below args s D (tM cy) (wM ad cy) A res) (F0 m 102 ls []) := by
  intro n
  induction n with
  | zero => intro H locs σ ls x1 hI hl hf; cases hf
  | succ n ih => intro H locs σ ls x1 hI hl hf; exact bX12_restore_102_body hC ih hI hl hf
set_option maxRecDepth 20000 in
set_option maxHeartbeats 4000000 in
theorem bX12_restore_75_body {st : Nat → Nat} {p : Program} {l : Launch} {e : Env} {s : State} {m : MethodId} {args : Array Value} {below : List Frame} {meth : Method} {c : Code} {D : va_G} {A : Nat → Prop} {ad : Nat → Nat} {cy : Nat → ClassId} (hC : zC p m c cX12_restore 2 s args wzX12_restore RX12 meth none) {k75 : zSt → Int32 → Option (zSt)} {res : zSt} (hk75 : ∀ (H : Heap) (locs : List Loc) (σ : zSt) (ls : Array Slot) (x1 : Int32), zI st D (tM cy) (wM ad cy σ) A s H locs → lv_has ls 2 [(0, .ref (ad 0)), (1, .int x1)] → k75 σ x1 = some res → W p l e rmX12_restore s m args below meth c H locs 0 0 (zQu below args s D (tM cy) (wM ad cy) A res) (F0 m 75 ls [])) {H : Heap} {locs : List Loc} {σ : zSt} {ls : Array Slot} {x1 : Int32} (hI : zI st D (tM cy) (wM ad cy σ) A s H locs) (hl : lv_has ls 2 [(0, .ref (ad 0)), (1, .int x1)]) (hf : fX12_restore_75_body k75 σ x1 = some res) : W p l e rmX12_restore s m args below meth c H locs 0 0 (zQu below args s D (tM cy) (wM ad cy) A res) (F0 m 75 ls []) := by
  have hx := hC.1
  have hb := hC.2.1
  unfold fX12_restore_75_body at hf
  refine lv_iload_n hx hb dX12_restore_75 rfl (lv_at hl 1 rfl) ?_
  refine lv_sipush (v := 8192) hx hb dX12_restore_76 (by decide) ?_
  refine lv_icmp_ge (tgt := 100) hx hb dX12_restore_79 (by decide) (fun q => ?_) (fun q => ?_)
  · replace hf := zif_t q hf
    refine lv_iconst (v := 0) hx hb dX12_restore_100 (by decide) ?_
    refine lv_istore_n (lv' := [(1, .int 0), (0, .ref (ad 0))]) hx hb dX12_restore_101 rfl hl (by decide) rfl (fun ls hl => ?_)
    exact blX12_restore_102 hC  zfuel _ _ _ _ _ hI (lv_sub hl [1, 0] rfl) hf
  replace hf := zif_f q hf
  refine lv_aload_n hx hb dX12_restore_82 rfl (lv_at hl 0 rfl) ?_
  refine z_get hC hI hinX12_restore_X120 0 (wM_e0 ad cy σ) rfl 12 (by decide) (List.mem_cons_of_mem _ zw9_9) rfl dX12_restore_83 ?_
  refine lv_iload_n hx hb dX12_restore_86 rfl (lv_at hl 1 rfl) ?_
  refine lv_aload_n hx hb dX12_restore_87 rfl (lv_at hl 0 rfl) ?_
  refine z_get hC hI hinX12_restore_X120 0 (wM_e0 ad cy σ) rfl 22 (by decide) (List.mem_cons_of_mem _ zw9_20) rfl dX12_restore_88 ?_
  refine lv_iload_n hx hb dX12_restore_91 rfl (lv_at hl 1 rfl) ?_
  obtain ⟨q, hf⟩ := zck_use hf
  refine z_bald hC hI 14 13 (wM_e14 ad cy σ) (tM_t14 cy) q dX12_restore_92 ?_
  obtain ⟨q, hf⟩ := zck_use hf
  obtain ⟨σ12, eσ12⟩ : ∃ z, z = zsi σ 5 (x1.toNatClampNeg) (vp_nar .byte (zgi σ 14 x1.toNatClampNeg)) := ⟨_, rfl⟩
  replace hf := zbv_use eσ12 hf
  refine z_bast hC hI 5 4 (wM_e5 ad cy σ) (tM_t5 cy) q ((wM_s5 ad cy σ _ _).trans (congrArg (wM ad cy) eσ12.symm)) dX12_restore_93 (fun H locs hI => ?_)
  obtain ⟨v13, ev13⟩ : ∃ z : Int32, z = x1 + 1 := ⟨_, rfl⟩
  replace hf := zbv_use ev13 hf
  refine lv_iinc (v := v13) (lv' := [(1, .int v13), (0, .ref (ad 0))]) hx hb dX12_restore_94 hl (k := 1) rfl (by rw [ev13]; rfl) (by decide) rfl (fun ls hl => ?_)
  refine lv_goto (tgt := 75) hx hb dX12_restore_97 (by decide) ?_
  exact hk75 _ _ _ _ _ hI (lv_sub hl [1, 0] rfl) hf
theorem blX12_restore_75 {st : Nat → Nat} {p : Program} {l : Launch} {e : Env} {s : State} {m : MethodId} {args : Array Value} {below : List Frame} {meth : Method} {c : Code} {D : va_G} {A : Nat → Prop} {ad : Nat → Nat} {cy : Nat → ClassId} (hC : zC p m c cX12_restore 2 s args wzX12_restore RX12 meth none)  {res : zSt} : ∀ (n : Nat) (H : Heap) (locs : List Loc) (σ : zSt) (ls : Array Slot) (x1 : Int32), zI st D (tM cy) (wM ad cy σ) A s H locs → lv_has ls 2 [(0, .ref (ad 0)), (1, .int x1)] → fX12_restore_75  n σ x1 = some res → W p l e rmX12_restore s m args below meth c H locs 0 0 (zQu below args s D (tM cy) (wM ad cy) A res) (F0 m 75 ls []) := by
  intro n
  induction n with
  | zero => intro H locs σ ls x1 hI hl hf; cases hf
  | succ n ih => intro H locs σ ls x1 hI hl hf; exact bX12_restore_75_body hC ih hI hl hf
set_option maxRecDepth 20000 in
set_option maxHeartbeats 4000000 in
theorem bX12_restore_50_body {st : Nat → Nat} {p : Program} {l : Launch} {e : Env} {s : State} {m : MethodId} {args : Array Value} {below : List Frame} {meth : Method} {c : Code} {D : va_G} {A : Nat → Prop} {ad : Nat → Nat} {cy : Nat → ClassId} (hC : zC p m c cX12_restore 2 s args wzX12_restore RX12 meth none) {k50 : zSt → Int32 → Option (zSt)} {res : zSt} (hk50 : ∀ (H : Heap) (locs : List Loc) (σ : zSt) (ls : Array Slot) (x1 : Int32), zI st D (tM cy) (wM ad cy σ) A s H locs → lv_has ls 2 [(0, .ref (ad 0)), (1, .int x1)] → k50 σ x1 = some res → W p l e rmX12_restore s m args below meth c H locs 0 0 (zQu below args s D (tM cy) (wM ad cy) A res) (F0 m 50 ls [])) {H : Heap} {locs : List Loc} {σ : zSt} {ls : Array Slot} {x1 : Int32} (hI : zI st D (tM cy) (wM ad cy σ) A s H locs) (hl : lv_has ls 2 [(0, .ref (ad 0)), (1, .int x1)]) (hf : fX12_restore_50_body k50 σ x1 = some res) : W p l e rmX12_restore s m args below meth c H locs 0 0 (zQu below args s D (tM cy) (wM ad cy) A res) (F0 m 50 ls []) := by
  have hx := hC.1
  have hb := hC.2.1
  unfold fX12_restore_50_body at hf
  refine lv_iload_n hx hb dX12_restore_50 rfl (lv_at hl 1 rfl) ?_
  refine lv_iconst (v := 5) hx hb dX12_restore_51 (by decide) ?_
  refine lv_icmp_ge (tgt := 73) hx hb dX12_restore_52 (by decide) (fun q => ?_) (fun q => ?_)
  · replace hf := zif_t q hf
    refine lv_iconst (v := 0) hx hb dX12_restore_73 (by decide) ?_
    refine lv_istore_n (lv' := [(1, .int 0), (0, .ref (ad 0))]) hx hb dX12_restore_74 rfl hl (by decide) rfl (fun ls hl => ?_)
    exact blX12_restore_75 hC  zfuel _ _ _ _ _ hI (lv_sub hl [1, 0] rfl) hf
  replace hf := zif_f q hf
  refine lv_aload_n hx hb dX12_restore_55 rfl (lv_at hl 0 rfl) ?_
  refine z_get hC hI hinX12_restore_X120 0 (wM_e0 ad cy σ) rfl 11 (by decide) (List.mem_cons_of_mem _ zw9_8) rfl dX12_restore_56 ?_
  refine lv_iload_n hx hb dX12_restore_59 rfl (lv_at hl 1 rfl) ?_
  refine lv_aload_n hx hb dX12_restore_60 rfl (lv_at hl 0 rfl) ?_
  refine z_get hC hI hinX12_restore_X120 0 (wM_e0 ad cy σ) rfl 21 (by decide) (List.mem_cons_of_mem _ zw9_19) rfl dX12_restore_61 ?_
  refine lv_iload_n hx hb dX12_restore_64 rfl (lv_at hl 1 rfl) ?_
  obtain ⟨q, hf⟩ := zck_use hf
  refine z_lald hC hI 13 12 (wM_e13 ad cy σ) (tM_t13 cy) q dX12_restore_65 ?_
  obtain ⟨q, hf⟩ := zck_use hf
  obtain ⟨σ14, eσ14⟩ : ∃ z, z = zsl σ 4 (x1.toNatClampNeg) (zgl σ 13 x1.toNatClampNeg) := ⟨_, rfl⟩
  replace hf := zbv_use eσ14 hf
  refine z_last hC hI 4 3 (wM_e4 ad cy σ) (tM_t4 cy) q ((wM_s4 ad cy σ _ _).trans (congrArg (wM ad cy) eσ14.symm)) dX12_restore_66 (fun H locs hI => ?_)
  obtain ⟨v15, ev15⟩ : ∃ z : Int32, z = x1 + 1 := ⟨_, rfl⟩
  replace hf := zbv_use ev15 hf
  refine lv_iinc (v := v15) (lv' := [(1, .int v15), (0, .ref (ad 0))]) hx hb dX12_restore_67 hl (k := 1) rfl (by rw [ev15]; rfl) (by decide) rfl (fun ls hl => ?_)
  refine lv_goto (tgt := 50) hx hb dX12_restore_70 (by decide) ?_
  exact hk50 _ _ _ _ _ hI (lv_sub hl [1, 0] rfl) hf
theorem blX12_restore_50 {st : Nat → Nat} {p : Program} {l : Launch} {e : Env} {s : State} {m : MethodId} {args : Array Value} {below : List Frame} {meth : Method} {c : Code} {D : va_G} {A : Nat → Prop} {ad : Nat → Nat} {cy : Nat → ClassId} (hC : zC p m c cX12_restore 2 s args wzX12_restore RX12 meth none)  {res : zSt} : ∀ (n : Nat) (H : Heap) (locs : List Loc) (σ : zSt) (ls : Array Slot) (x1 : Int32), zI st D (tM cy) (wM ad cy σ) A s H locs → lv_has ls 2 [(0, .ref (ad 0)), (1, .int x1)] → fX12_restore_50  n σ x1 = some res → W p l e rmX12_restore s m args below meth c H locs 0 0 (zQu below args s D (tM cy) (wM ad cy) A res) (F0 m 50 ls []) := by
  intro n
  induction n with
  | zero => intro H locs σ ls x1 hI hl hf; cases hf
  | succ n ih => intro H locs σ ls x1 hI hl hf; exact bX12_restore_50_body hC ih hI hl hf
set_option maxRecDepth 20000 in
set_option maxHeartbeats 4000000 in
theorem bX12_restore_23_body {st : Nat → Nat} {p : Program} {l : Launch} {e : Env} {s : State} {m : MethodId} {args : Array Value} {below : List Frame} {meth : Method} {c : Code} {D : va_G} {A : Nat → Prop} {ad : Nat → Nat} {cy : Nat → ClassId} (hC : zC p m c cX12_restore 2 s args wzX12_restore RX12 meth none) {k23 : zSt → Int32 → Option (zSt)} {res : zSt} (hk23 : ∀ (H : Heap) (locs : List Loc) (σ : zSt) (ls : Array Slot) (x1 : Int32), zI st D (tM cy) (wM ad cy σ) A s H locs → lv_has ls 2 [(0, .ref (ad 0)), (1, .int x1)] → k23 σ x1 = some res → W p l e rmX12_restore s m args below meth c H locs 0 0 (zQu below args s D (tM cy) (wM ad cy) A res) (F0 m 23 ls [])) {H : Heap} {locs : List Loc} {σ : zSt} {ls : Array Slot} {x1 : Int32} (hI : zI st D (tM cy) (wM ad cy σ) A s H locs) (hl : lv_has ls 2 [(0, .ref (ad 0)), (1, .int x1)]) (hf : fX12_restore_23_body k23 σ x1 = some res) : W p l e rmX12_restore s m args below meth c H locs 0 0 (zQu below args s D (tM cy) (wM ad cy) A res) (F0 m 23 ls []) := by
  have hx := hC.1
  have hb := hC.2.1
  unfold fX12_restore_23_body at hf
  refine lv_iload_n hx hb dX12_restore_23 rfl (lv_at hl 1 rfl) ?_
  refine lv_sipush (v := 1048) hx hb dX12_restore_24 (by decide) ?_
  refine lv_icmp_ge (tgt := 48) hx hb dX12_restore_27 (by decide) (fun q => ?_) (fun q => ?_)
  · replace hf := zif_t q hf
    refine lv_iconst (v := 0) hx hb dX12_restore_48 (by decide) ?_
    refine lv_istore_n (lv' := [(1, .int 0), (0, .ref (ad 0))]) hx hb dX12_restore_49 rfl hl (by decide) rfl (fun ls hl => ?_)
    exact blX12_restore_50 hC  zfuel _ _ _ _ _ hI (lv_sub hl [1, 0] rfl) hf
  replace hf := zif_f q hf
  refine lv_aload_n hx hb dX12_restore_30 rfl (lv_at hl 0 rfl) ?_
  refine z_get hC hI hinX12_restore_X120 0 (wM_e0 ad cy σ) rfl 10 (by decide) (List.mem_cons_of_mem _ zw9_7) rfl dX12_restore_31 ?_
  refine lv_iload_n hx hb dX12_restore_34 rfl (lv_at hl 1 rfl) ?_
  refine lv_aload_n hx hb dX12_restore_35 rfl (lv_at hl 0 rfl) ?_
  refine z_get hC hI hinX12_restore_X120 0 (wM_e0 ad cy σ) rfl 20 (by decide) (List.mem_cons_of_mem _ zw9_18) rfl dX12_restore_36 ?_
  refine lv_iload_n hx hb dX12_restore_39 rfl (lv_at hl 1 rfl) ?_
  obtain ⟨q, hf⟩ := zck_use hf
  refine z_iald hC hI 12 11 (wM_e12 ad cy σ) (tM_t12 cy) q dX12_restore_40 ?_
  obtain ⟨q, hf⟩ := zck_use hf
  obtain ⟨σ16, eσ16⟩ : ∃ z, z = zsi σ 3 (x1.toNatClampNeg) (zgi σ 12 x1.toNatClampNeg) := ⟨_, rfl⟩
  replace hf := zbv_use eσ16 hf
  refine z_iast hC hI 3 2 (wM_e3 ad cy σ) (tM_t3 cy) q ((wM_s3 ad cy σ _ _).trans (congrArg (wM ad cy) eσ16.symm)) dX12_restore_41 (fun H locs hI => ?_)
  obtain ⟨v17, ev17⟩ : ∃ z : Int32, z = x1 + 1 := ⟨_, rfl⟩
  replace hf := zbv_use ev17 hf
  refine lv_iinc (v := v17) (lv' := [(1, .int v17), (0, .ref (ad 0))]) hx hb dX12_restore_42 hl (k := 1) rfl (by rw [ev17]; rfl) (by decide) rfl (fun ls hl => ?_)
  refine lv_goto (tgt := 23) hx hb dX12_restore_45 (by decide) ?_
  exact hk23 _ _ _ _ _ hI (lv_sub hl [1, 0] rfl) hf
theorem blX12_restore_23 {st : Nat → Nat} {p : Program} {l : Launch} {e : Env} {s : State} {m : MethodId} {args : Array Value} {below : List Frame} {meth : Method} {c : Code} {D : va_G} {A : Nat → Prop} {ad : Nat → Nat} {cy : Nat → ClassId} (hC : zC p m c cX12_restore 2 s args wzX12_restore RX12 meth none)  {res : zSt} : ∀ (n : Nat) (H : Heap) (locs : List Loc) (σ : zSt) (ls : Array Slot) (x1 : Int32), zI st D (tM cy) (wM ad cy σ) A s H locs → lv_has ls 2 [(0, .ref (ad 0)), (1, .int x1)] → fX12_restore_23  n σ x1 = some res → W p l e rmX12_restore s m args below meth c H locs 0 0 (zQu below args s D (tM cy) (wM ad cy) A res) (F0 m 23 ls []) := by
  intro n
  induction n with
  | zero => intro H locs σ ls x1 hI hl hf; cases hf
  | succ n ih => intro H locs σ ls x1 hI hl hf; exact bX12_restore_23_body hC ih hI hl hf
set_option maxRecDepth 20000 in
set_option maxHeartbeats 4000000 in
theorem bX12_restore_13 {st : Nat → Nat} {p : Program} {l : Launch} {e : Env} {s : State} {m : MethodId} {args : Array Value} {below : List Frame} {meth : Method} {c : Code} {D : va_G} {A : Nat → Prop} {ad : Nat → Nat} {cy : Nat → ClassId} (hC : zC p m c cX12_restore 2 s args wzX12_restore RX12 meth none)  {res : zSt} {H : Heap} {locs : List Loc} {σ : zSt} {ls : Array Slot} {s0 : Int32} (hI : zI st D (tM cy) (wM ad cy σ) A s H locs) (hl : lv_has ls 2 [(0, .ref (ad 0))]) (hf : fX12_restore_13  σ s0 = some res) : W p l e rmX12_restore s m args below meth c H locs 0 0 (zQu below args s D (tM cy) (wM ad cy) A res) (F0 m 13 ls [.int s0, .ref (ad 0)]) := by
  have hx := hC.1
  have hb := hC.2.1
  unfold fX12_restore_13 at hf
  refine lv_iconst (v := 1) hx hb dX12_restore_13 (by decide) ?_
  obtain ⟨σ18, v19, g18, hf⟩ := zbi_use hf
  refine z_callVi (As := [.int s0, .int 1]) (rest := []) hC hI (cX12_fails_met st l D ad cy σ s0 1 _ g18) (zgV zw11_21 zw11_22 zw11_23 zw1_5 zw12_0) rfl ⟨rfl, rfl⟩ 2 hdX12_fails ⟨Nat.le_of_ble_eq_true rfl, Nat.le_of_ble_eq_true rfl⟩ rfl rfl (wM_e0 ad cy σ) rfl hl rfl (Nat.le_of_ble_eq_true rfl) dX12_restore_14 ⟨Nat.zero_le _, Nat.zero_le _⟩ (fun H locs hI => ?_)
  refine lv_if_eq (tgt := 21) hx hb dX12_restore_17 (by decide) (fun q => ?_) (fun q => ?_)
  · replace hf := zif_t q hf
    refine lv_iconst (v := 0) hx hb dX12_restore_21 (by decide) ?_
    refine lv_istore_n (lv' := [(1, .int 0), (0, .ref (ad 0))]) hx hb dX12_restore_22 rfl hl (by decide) rfl (fun ls hl => ?_)
    exact blX12_restore_23 hC  zfuel _ _ _ _ _ hI (lv_sub hl [1, 0] rfl) hf
  replace hf := zif_f q hf
  exact z_return hC hI hf dX12_restore_20
set_option maxRecDepth 20000 in
set_option maxHeartbeats 4000000 in
theorem bX12_restore {st : Nat → Nat} {p : Program} {l : Launch} {e : Env} {s : State} {m : MethodId} {args : Array Value} {below : List Frame} {meth : Method} {c : Code} {D : va_G} {A : Nat → Prop} {ad : Nat → Nat} {cy : Nat → ClassId} (hC : zC p m c cX12_restore 2 s args wzX12_restore RX12 meth none)  {res : zSt} {H : Heap} {locs : List Loc} {σ : zSt} {ls : Array Slot}  (hI : zI st D (tM cy) (wM ad cy σ) A s H locs) (hl : lv_has ls 2 [(0, .ref (ad 0))]) (hf : fX12_restore  σ  = some res) : W p l e rmX12_restore s m args below meth c H locs 0 0 (zQu below args s D (tM cy) (wM ad cy) A res) (F0 m 0 ls []) := by
  have hx := hC.1
  have hb := hC.2.1
  unfold fX12_restore at hf
  refine lv_aload_n hx hb dX12_restore_0 rfl (lv_at hl 0 rfl) ?_
  refine lv_aload_n hx hb dX12_restore_1 rfl (lv_at hl 0 rfl) ?_
  refine z_get hC hI hinX12_restore_X120 0 (wM_e0 ad cy σ) rfl 19 (by decide) (List.mem_cons_of_mem _ zw16_12) rfl dX12_restore_2 ?_
  refine lv_if_ne (tgt := 12) hx hb dX12_restore_5 (by decide) (fun q => ?_) (fun q => ?_)
  · replace hf := zif_f q hf
    refine lv_iconst (v := 0) hx hb dX12_restore_12 (by decide) ?_
    exact bX12_restore_13 hC  hI hl hf
  replace hf := zif_t q hf
  refine lv_iconst (v := 1) hx hb dX12_restore_8 (by decide) ?_
  refine lv_goto (tgt := 13) hx hb dX12_restore_9 (by decide) ?_
  exact bX12_restore_13 hC  hI hl hf
set_option maxRecDepth 20000 in
theorem cX12_restore_met (st : Nat → Nat) (l : Launch) (D : va_G) (ad : Nat → Nat) (cy : Nat → ClassId) (σ : zSt)  (res : zSt) (hf : fX12_restore σ  = some res) (sz : Nat) : zMu st l yX12_restore wzX12_restore rmX12_restore [.ref (ad 0)] D (tM cy) (wM ad cy) sz σ res :=
  zMu.of (cc := cX12_restore) (maxL := 2) (ret := none) (by decide) rfl (Nat.le_of_ble_eq_true rfl) (fun p e s m args below meth c hC A hI ls hl => bX12_restore hC hI hl hf)
theorem hdX12_restore : yX12_restore.cls = RX12 ∧ yX12_restore.cls ≠ "java/lang/invoke/MethodHandle" ∧ yX12_restore.cls ≠ "java/lang/invoke/VarHandle" ∧ (parseMethodDescriptor yX12_restore.desc).map (fun d => d.parameters.length) = some 0 := by decide +kernel
noncomputable def rmX12_register : Room := { frames := 1, cells := 0, slots := 0, locals := 25 }
noncomputable def wzX12_register : List Cond := .code yX12_register cX12_register 2 (some .int) :: wsL_law
theorem hinX12_register_X120 : ∀ w ∈ wsX120, w ∈ wzX12_register := fun w h => List.mem_cons_of_mem _ (inlX12 w h)
noncomputable def fX12_register_35  (σ : zSt) (s0 : Int32) : Option (zSt × Int32) :=
  some (σ, s0)
noncomputable def fX12_register_18  (σ : zSt) (x1 : Int32) (s0 : Int32) : Option (zSt × Int32) :=
  zbi (fX12_fails σ s0 1) (fun σ1 v2 =>
  if v2 = 0 then zck (zin x1 1048) (
  fX12_register_35 σ1 (zgi σ1 3 x1.toNatClampNeg)) else
  fX12_register_35 σ1 0)
noncomputable def fX12_register  (σ : zSt) (x1 : Int32) : Option (zSt × Int32) :=
  zbi (fX12_within σ (x1.toInt64) 0 26) (fun σ3 v4 =>
  if v4 = 0 then fX12_register_18 σ3 x1 1 else
  fX12_register_18 σ3 x1 0)
set_option maxRecDepth 20000 in
set_option maxHeartbeats 4000000 in
theorem bX12_register_35 {st : Nat → Nat} {p : Program} {l : Launch} {e : Env} {s : State} {m : MethodId} {args : Array Value} {below : List Frame} {meth : Method} {c : Code} {D : va_G} {A : Nat → Prop} {ad : Nat → Nat} {cy : Nat → ClassId} (hC : zC p m c cX12_register 2 s args wzX12_register RX12 meth (some .int))  {res : zSt × Int32} {H : Heap} {locs : List Loc} {σ : zSt} {ls : Array Slot} {s0 : Int32} (hI : zI st D (tM cy) (wM ad cy σ) A s H locs) (hl : lv_has ls 2 []) (hf : fX12_register_35  σ s0 = some res) : W p l e rmX12_register s m args below meth c H locs 0 0 (zQi below args s D (tM cy) (wM ad cy) A res) (F0 m 35 ls [.int s0]) := by
  have hx := hC.1
  have hb := hC.2.1
  unfold fX12_register_35 at hf
  exact z_ireturn hC hI hf dX12_register_35
set_option maxRecDepth 20000 in
set_option maxHeartbeats 4000000 in
theorem bX12_register_18 {st : Nat → Nat} {p : Program} {l : Launch} {e : Env} {s : State} {m : MethodId} {args : Array Value} {below : List Frame} {meth : Method} {c : Code} {D : va_G} {A : Nat → Prop} {ad : Nat → Nat} {cy : Nat → ClassId} (hC : zC p m c cX12_register 2 s args wzX12_register RX12 meth (some .int))  {res : zSt × Int32} {H : Heap} {locs : List Loc} {σ : zSt} {ls : Array Slot} {x1 : Int32} {s0 : Int32} (hI : zI st D (tM cy) (wM ad cy σ) A s H locs) (hl : lv_has ls 2 [(0, .ref (ad 0)), (1, .int x1)]) (hf : fX12_register_18  σ x1 s0 = some res) : W p l e rmX12_register s m args below meth c H locs 0 0 (zQi below args s D (tM cy) (wM ad cy) A res) (F0 m 18 ls [.int s0, .ref (ad 0)]) := by
  have hx := hC.1
  have hb := hC.2.1
  unfold fX12_register_18 at hf
  refine lv_iconst (v := 1) hx hb dX12_register_18 (by decide) ?_
  obtain ⟨σ1, v2, g1, hf⟩ := zbi_use hf
  refine z_callVi (As := [.int s0, .int 1]) (rest := []) hC hI (cX12_fails_met st l D ad cy σ s0 1 _ g1) (zgV zw11_21 zw11_22 zw11_23 zw1_5 zw12_0) rfl ⟨rfl, rfl⟩ 2 hdX12_fails ⟨Nat.le_of_ble_eq_true rfl, Nat.le_of_ble_eq_true rfl⟩ rfl rfl (wM_e0 ad cy σ) rfl hl rfl (Nat.le_of_ble_eq_true rfl) dX12_register_19 ⟨Nat.zero_le _, Nat.zero_le _⟩ (fun H locs hI => ?_)
  refine lv_if_eq (tgt := 29) hx hb dX12_register_22 (by decide) (fun q => ?_) (fun q => ?_)
  · replace hf := zif_t q hf
    refine lv_aload_n hx hb dX12_register_29 rfl (lv_at hl 0 rfl) ?_
    refine z_get hC hI hinX12_register_X120 0 (wM_e0 ad cy σ1) rfl 10 (by decide) (List.mem_cons_of_mem _ zw9_7) rfl dX12_register_30 ?_
    refine lv_iload_n hx hb dX12_register_33 rfl (lv_at hl 1 rfl) ?_
    obtain ⟨q, hf⟩ := zck_use hf
    refine z_iald hC hI 3 2 (wM_e3 ad cy σ1) (tM_t3 cy) q dX12_register_34 ?_
    exact bX12_register_35 hC  hI (lv_sub hl [] rfl) hf
  replace hf := zif_f q hf
  refine lv_iconst (v := 0) hx hb dX12_register_25 (by decide) ?_
  refine lv_goto (tgt := 35) hx hb dX12_register_26 (by decide) ?_
  exact bX12_register_35 hC  hI (lv_sub hl [] rfl) hf
set_option maxRecDepth 20000 in
set_option maxHeartbeats 4000000 in
theorem bX12_register {st : Nat → Nat} {p : Program} {l : Launch} {e : Env} {s : State} {m : MethodId} {args : Array Value} {below : List Frame} {meth : Method} {c : Code} {D : va_G} {A : Nat → Prop} {ad : Nat → Nat} {cy : Nat → ClassId} (hC : zC p m c cX12_register 2 s args wzX12_register RX12 meth (some .int))  {res : zSt × Int32} {H : Heap} {locs : List Loc} {σ : zSt} {ls : Array Slot} {x1 : Int32} (hI : zI st D (tM cy) (wM ad cy σ) A s H locs) (hl : lv_has ls 2 [(0, .ref (ad 0)), (1, .int x1)]) (hf : fX12_register  σ x1 = some res) : W p l e rmX12_register s m args below meth c H locs 0 0 (zQi below args s D (tM cy) (wM ad cy) A res) (F0 m 0 ls []) := by
  have hx := hC.1
  have hb := hC.2.1
  unfold fX12_register at hf
  refine lv_aload_n hx hb dX12_register_0 rfl (lv_at hl 0 rfl) ?_
  refine lv_iload_n hx hb dX12_register_1 rfl (lv_at hl 1 rfl) ?_
  refine lv_i2l (v := x1.toInt64) hx hb dX12_register_2 rfl ?_
  refine lv_lconst (v := 0) hx hb dX12_register_3 (by decide) ?_
  refine lv_ldc2 (v := 26) hx hb hC.2.2.2.1 (hC.2.2.2.2.1 _ (List.mem_cons_of_mem _ zw85_3)) dX12_register_4 ?_
  obtain ⟨σ3, v4, g3, hf⟩ := zbi_use hf
  refine z_callSi (As := [.long (x1.toInt64), .long 0, .long 26]) (rest := [.ref (ad 0)]) hC hI (cX12_within_met st l D ad cy σ (x1.toInt64) 0 26 _ g3) (zgS zw11_18 zw11_19 zw1_5 zw11_20) rfl ⟨rfl, rfl⟩ 3 hdX12_within ⟨Nat.le_of_ble_eq_true rfl, Nat.le_of_ble_eq_true rfl⟩ rfl hl rfl (Nat.le_of_ble_eq_true rfl) dX12_register_7 ⟨Nat.zero_le _, Nat.zero_le _⟩ (fun H locs hI => ?_)
  refine lv_if_ne (tgt := 17) hx hb dX12_register_10 (by decide) (fun q => ?_) (fun q => ?_)
  · replace hf := zif_f q hf
    refine lv_iconst (v := 0) hx hb dX12_register_17 (by decide) ?_
    exact bX12_register_18 hC  hI hl hf
  replace hf := zif_t q hf
  refine lv_iconst (v := 1) hx hb dX12_register_13 (by decide) ?_
  refine lv_goto (tgt := 18) hx hb dX12_register_14 (by decide) ?_
  exact bX12_register_18 hC  hI hl hf
set_option maxRecDepth 20000 in
theorem cX12_register_met (st : Nat → Nat) (l : Launch) (D : va_G) (ad : Nat → Nat) (cy : Nat → ClassId) (σ : zSt) (x1 : Int32) (res : zSt × Int32) (hf : fX12_register σ x1 = some res) (sz : Nat) : zMi st l yX12_register wzX12_register rmX12_register [.ref (ad 0), .int x1] D (tM cy) (wM ad cy) sz σ res :=
  zMi.of (cc := cX12_register) (maxL := 2) (ret := (some .int)) (by decide) rfl (Nat.le_of_ble_eq_true rfl) (fun p e s m args below meth c hC A hI ls hl => bX12_register hC hI hl hf)
theorem hdX12_register : yX12_register.cls = RX12 ∧ yX12_register.cls ≠ "java/lang/invoke/MethodHandle" ∧ yX12_register.cls ≠ "java/lang/invoke/VarHandle" ∧ (parseMethodDescriptor yX12_register.desc).map (fun d => d.parameters.length) = some 1 := by decide +kernel
noncomputable def rmX12_set : Room := { frames := 1, cells := 0, slots := 0, locals := 25 }
noncomputable def wzX12_set : List Cond := .code yX12_set cX12_set 3 none :: wsL_law
theorem hinX12_set_X120 : ∀ w ∈ wsX120, w ∈ wzX12_set := fun w h => List.mem_cons_of_mem _ (inlX12 w h)
noncomputable def fX12_set_105  (σ : zSt)  : Option (zSt) :=
  some σ
noncomputable def fX12_set_51  (σ : zSt) (s0 : Int32) (s1 : Int32) : Option (zSt) :=
  zck (zin s1 1048) (zbv (zsi σ 3 (s1.toNatClampNeg) s0) (fun σ1 =>
  fX12_set_105 σ1))
noncomputable def fX12_set_104  (σ : zSt) (s0 : Int32) (s1 : Int32) : Option (zSt) :=
  zck (zin s1 1048) (zbv (zsi σ 3 (s1.toNatClampNeg) s0) (fun σ2 =>
  fX12_set_105 σ2))
noncomputable def fX12_set_18  (σ : zSt) (x1 : Int32) (x2 : Int32) (s0 : Int32) : Option (zSt) :=
  zbi (fX12_fails σ s0 1) (fun σ3 v4 =>
  if v4 = 0 then if x1 = 25 then if (x2 &&& 3) = 3 then fX12_set_51 σ3 2 x1 else
  fX12_set_51 σ3 (x2 &&& 3) x1 else
  if 16 ≤ x1 then if 20 < x1 then if 22 < x1 then fX12_set_104 σ3 (x2 &&& 1) x1 else
  fX12_set_104 σ3 (x2 &&& 255) x1 else
  fX12_set_104 σ3 (x2 &&& 65535) x1 else
  fX12_set_104 σ3 (x2 &&& 255) x1 else
  some σ3)
noncomputable def fX12_set  (σ : zSt) (x1 : Int32) (x2 : Int32) : Option (zSt) :=
  zbi (fX12_within σ (x1.toInt64) 0 25) (fun σ5 v6 =>
  if v6 = 0 then fX12_set_18 σ5 x1 x2 1 else
  fX12_set_18 σ5 x1 x2 0)
set_option maxRecDepth 20000 in
set_option maxHeartbeats 4000000 in
theorem bX12_set_105 {st : Nat → Nat} {p : Program} {l : Launch} {e : Env} {s : State} {m : MethodId} {args : Array Value} {below : List Frame} {meth : Method} {c : Code} {D : va_G} {A : Nat → Prop} {ad : Nat → Nat} {cy : Nat → ClassId} (hC : zC p m c cX12_set 3 s args wzX12_set RX12 meth none)  {res : zSt} {H : Heap} {locs : List Loc} {σ : zSt} {ls : Array Slot}  (hI : zI st D (tM cy) (wM ad cy σ) A s H locs) (hl : lv_has ls 3 []) (hf : fX12_set_105  σ  = some res) : W p l e rmX12_set s m args below meth c H locs 0 0 (zQu below args s D (tM cy) (wM ad cy) A res) (F0 m 105 ls []) := by
  have hx := hC.1
  have hb := hC.2.1
  unfold fX12_set_105 at hf
  exact z_return hC hI hf dX12_set_105
set_option maxRecDepth 20000 in
set_option maxHeartbeats 4000000 in
theorem bX12_set_51 {st : Nat → Nat} {p : Program} {l : Launch} {e : Env} {s : State} {m : MethodId} {args : Array Value} {below : List Frame} {meth : Method} {c : Code} {D : va_G} {A : Nat → Prop} {ad : Nat → Nat} {cy : Nat → ClassId} (hC : zC p m c cX12_set 3 s args wzX12_set RX12 meth none)  {res : zSt} {H : Heap} {locs : List Loc} {σ : zSt} {ls : Array Slot} {s0 : Int32} {s1 : Int32} (hI : zI st D (tM cy) (wM ad cy σ) A s H locs) (hl : lv_has ls 3 []) (hf : fX12_set_51  σ s0 s1 = some res) : W p l e rmX12_set s m args below meth c H locs 0 0 (zQu below args s D (tM cy) (wM ad cy) A res) (F0 m 51 ls [.int s0, .int s1, .ref (ad 3)]) := by
  have hx := hC.1
  have hb := hC.2.1
  unfold fX12_set_51 at hf
  obtain ⟨q, hf⟩ := zck_use hf
  obtain ⟨σ1, eσ1⟩ : ∃ z, z = zsi σ 3 (s1.toNatClampNeg) s0 := ⟨_, rfl⟩
  replace hf := zbv_use eσ1 hf
  refine z_iast hC hI 3 2 (wM_e3 ad cy σ) (tM_t3 cy) q ((wM_s3 ad cy σ _ _).trans (congrArg (wM ad cy) eσ1.symm)) dX12_set_51 (fun H locs hI => ?_)
  refine lv_goto (tgt := 105) hx hb dX12_set_52 (by decide) ?_
  exact bX12_set_105 hC  hI hl hf
set_option maxRecDepth 20000 in
set_option maxHeartbeats 4000000 in
theorem bX12_set_104 {st : Nat → Nat} {p : Program} {l : Launch} {e : Env} {s : State} {m : MethodId} {args : Array Value} {below : List Frame} {meth : Method} {c : Code} {D : va_G} {A : Nat → Prop} {ad : Nat → Nat} {cy : Nat → ClassId} (hC : zC p m c cX12_set 3 s args wzX12_set RX12 meth none)  {res : zSt} {H : Heap} {locs : List Loc} {σ : zSt} {ls : Array Slot} {s0 : Int32} {s1 : Int32} (hI : zI st D (tM cy) (wM ad cy σ) A s H locs) (hl : lv_has ls 3 []) (hf : fX12_set_104  σ s0 s1 = some res) : W p l e rmX12_set s m args below meth c H locs 0 0 (zQu below args s D (tM cy) (wM ad cy) A res) (F0 m 104 ls [.int s0, .int s1, .ref (ad 3)]) := by
  have hx := hC.1
  have hb := hC.2.1
  unfold fX12_set_104 at hf
  obtain ⟨q, hf⟩ := zck_use hf
  obtain ⟨σ2, eσ2⟩ : ∃ z, z = zsi σ 3 (s1.toNatClampNeg) s0 := ⟨_, rfl⟩
  replace hf := zbv_use eσ2 hf
  refine z_iast hC hI 3 2 (wM_e3 ad cy σ) (tM_t3 cy) q ((wM_s3 ad cy σ _ _).trans (congrArg (wM ad cy) eσ2.symm)) dX12_set_104 (fun H locs hI => ?_)
  exact bX12_set_105 hC  hI hl hf
set_option maxRecDepth 20000 in
set_option maxHeartbeats 4000000 in
theorem bX12_set_18 {st : Nat → Nat} {p : Program} {l : Launch} {e : Env} {s : State} {m : MethodId} {args : Array Value} {below : List Frame} {meth : Method} {c : Code} {D : va_G} {A : Nat → Prop} {ad : Nat → Nat} {cy : Nat → ClassId} (hC : zC p m c cX12_set 3 s args wzX12_set RX12 meth none)  {res : zSt} {H : Heap} {locs : List Loc} {σ : zSt} {ls : Array Slot} {x1 : Int32} {x2 : Int32} {s0 : Int32} (hI : zI st D (tM cy) (wM ad cy σ) A s H locs) (hl : lv_has ls 3 [(0, .ref (ad 0)), (1, .int x1), (2, .int x2)]) (hf : fX12_set_18  σ x1 x2 s0 = some res) : W p l e rmX12_set s m args below meth c H locs 0 0 (zQu below args s D (tM cy) (wM ad cy) A res) (F0 m 18 ls [.int s0, .ref (ad 0)]) := by
  have hx := hC.1
  have hb := hC.2.1
  unfold fX12_set_18 at hf
  refine lv_iconst (v := 1) hx hb dX12_set_18 (by decide) ?_
  obtain ⟨σ3, v4, g3, hf⟩ := zbi_use hf
  refine z_callVi (As := [.int s0, .int 1]) (rest := []) hC hI (cX12_fails_met st l D ad cy σ s0 1 _ g3) (zgV zw11_21 zw11_22 zw11_23 zw1_5 zw12_0) rfl ⟨rfl, rfl⟩ 2 hdX12_fails ⟨Nat.le_of_ble_eq_true rfl, Nat.le_of_ble_eq_true rfl⟩ rfl rfl (wM_e0 ad cy σ) rfl hl rfl (Nat.le_of_ble_eq_true rfl) dX12_set_19 ⟨Nat.zero_le _, Nat.zero_le _⟩ (fun H locs hI => ?_)
  refine lv_if_eq (tgt := 26) hx hb dX12_set_22 (by decide) (fun q => ?_) (fun q => ?_)
  · replace hf := zif_t q hf
    refine lv_iload_n hx hb dX12_set_26 rfl (lv_at hl 1 rfl) ?_
    refine lv_bipush (v := 25) hx hb dX12_set_27 (by decide) ?_
    refine lv_icmp_ne (tgt := 55) hx hb dX12_set_29 (by decide) (fun q => ?_) (fun q => ?_)
    · replace hf := zif_f q hf
      refine lv_aload_n hx hb dX12_set_55 rfl (lv_at hl 0 rfl) ?_
      refine z_get hC hI hinX12_set_X120 0 (wM_e0 ad cy σ3) rfl 10 (by decide) (List.mem_cons_of_mem _ zw9_7) rfl dX12_set_56 ?_
      refine lv_iload_n hx hb dX12_set_59 rfl (lv_at hl 1 rfl) ?_
      refine lv_iload_n hx hb dX12_set_60 rfl (lv_at hl 1 rfl) ?_
      refine lv_bipush (v := 16) hx hb dX12_set_61 (by decide) ?_
      refine lv_icmp_ge (tgt := 74) hx hb dX12_set_63 (by decide) (fun q => ?_) (fun q => ?_)
      · replace hf := zif_t q hf
        refine lv_iload_n hx hb dX12_set_74 rfl (lv_at hl 1 rfl) ?_
        refine lv_bipush (v := 20) hx hb dX12_set_75 (by decide) ?_
        refine lv_icmp_gt (tgt := 87) hx hb dX12_set_77 (by decide) (fun q => ?_) (fun q => ?_)
        · replace hf := zif_t q hf
          refine lv_iload_n hx hb dX12_set_87 rfl (lv_at hl 1 rfl) ?_
          refine lv_bipush (v := 22) hx hb dX12_set_88 (by decide) ?_
          refine lv_icmp_gt (tgt := 101) hx hb dX12_set_90 (by decide) (fun q => ?_) (fun q => ?_)
          · replace hf := zif_t q hf
            refine lv_iload_n hx hb dX12_set_101 rfl (lv_at hl 2 rfl) ?_
            refine lv_iconst (v := 1) hx hb dX12_set_102 (by decide) ?_
            refine lv_iand hx hb dX12_set_103 ?_
            exact bX12_set_104 hC  hI (lv_sub hl [] rfl) hf
          replace hf := zif_f q hf
          refine lv_iload_n hx hb dX12_set_93 rfl (lv_at hl 2 rfl) ?_
          refine lv_sipush (v := 255) hx hb dX12_set_94 (by decide) ?_
          refine lv_iand hx hb dX12_set_97 ?_
          refine lv_goto (tgt := 104) hx hb dX12_set_98 (by decide) ?_
          exact bX12_set_104 hC  hI (lv_sub hl [] rfl) hf
        replace hf := zif_f q hf
        refine lv_iload_n hx hb dX12_set_80 rfl (lv_at hl 2 rfl) ?_
        refine lv_ldc (v := 65535) hx hb hC.2.2.2.1 (hC.2.2.2.2.1 _ (List.mem_cons_of_mem _ zw16_11)) dX12_set_81 ?_
        refine lv_iand hx hb dX12_set_83 ?_
        refine lv_goto (tgt := 104) hx hb dX12_set_84 (by decide) ?_
        exact bX12_set_104 hC  hI (lv_sub hl [] rfl) hf
      replace hf := zif_f q hf
      refine lv_iload_n hx hb dX12_set_66 rfl (lv_at hl 2 rfl) ?_
      refine lv_sipush (v := 255) hx hb dX12_set_67 (by decide) ?_
      refine lv_iand hx hb dX12_set_70 ?_
      refine lv_goto (tgt := 104) hx hb dX12_set_71 (by decide) ?_
      exact bX12_set_104 hC  hI (lv_sub hl [] rfl) hf
    replace hf := zif_t q hf
    refine lv_aload_n hx hb dX12_set_32 rfl (lv_at hl 0 rfl) ?_
    refine z_get hC hI hinX12_set_X120 0 (wM_e0 ad cy σ3) rfl 10 (by decide) (List.mem_cons_of_mem _ zw9_7) rfl dX12_set_33 ?_
    refine lv_iload_n hx hb dX12_set_36 rfl (lv_at hl 1 rfl) ?_
    refine lv_iload_n hx hb dX12_set_37 rfl (lv_at hl 2 rfl) ?_
    refine lv_iconst (v := 3) hx hb dX12_set_38 (by decide) ?_
    refine lv_iand hx hb dX12_set_39 ?_
    refine lv_iconst (v := 3) hx hb dX12_set_40 (by decide) ?_
    refine lv_icmp_ne (tgt := 48) hx hb dX12_set_41 (by decide) (fun q => ?_) (fun q => ?_)
    · replace hf := zif_f q hf
      refine lv_iload_n hx hb dX12_set_48 rfl (lv_at hl 2 rfl) ?_
      refine lv_iconst (v := 3) hx hb dX12_set_49 (by decide) ?_
      refine lv_iand hx hb dX12_set_50 ?_
      exact bX12_set_51 hC  hI (lv_sub hl [] rfl) hf
    replace hf := zif_t q hf
    refine lv_iconst (v := 2) hx hb dX12_set_44 (by decide) ?_
    refine lv_goto (tgt := 51) hx hb dX12_set_45 (by decide) ?_
    exact bX12_set_51 hC  hI (lv_sub hl [] rfl) hf
  replace hf := zif_f q hf
  exact z_return hC hI hf dX12_set_25
set_option maxRecDepth 20000 in
set_option maxHeartbeats 4000000 in
theorem bX12_set {st : Nat → Nat} {p : Program} {l : Launch} {e : Env} {s : State} {m : MethodId} {args : Array Value} {below : List Frame} {meth : Method} {c : Code} {D : va_G} {A : Nat → Prop} {ad : Nat → Nat} {cy : Nat → ClassId} (hC : zC p m c cX12_set 3 s args wzX12_set RX12 meth none)  {res : zSt} {H : Heap} {locs : List Loc} {σ : zSt} {ls : Array Slot} {x1 : Int32} {x2 : Int32} (hI : zI st D (tM cy) (wM ad cy σ) A s H locs) (hl : lv_has ls 3 [(0, .ref (ad 0)), (1, .int x1), (2, .int x2)]) (hf : fX12_set  σ x1 x2 = some res) : W p l e rmX12_set s m args below meth c H locs 0 0 (zQu below args s D (tM cy) (wM ad cy) A res) (F0 m 0 ls []) := by
  have hx := hC.1
  have hb := hC.2.1
  unfold fX12_set at hf
  refine lv_aload_n hx hb dX12_set_0 rfl (lv_at hl 0 rfl) ?_
  refine lv_iload_n hx hb dX12_set_1 rfl (lv_at hl 1 rfl) ?_
  refine lv_i2l (v := x1.toInt64) hx hb dX12_set_2 rfl ?_
  refine lv_lconst (v := 0) hx hb dX12_set_3 (by decide) ?_
  refine lv_ldc2 (v := 25) hx hb hC.2.2.2.1 (hC.2.2.2.2.1 _ (List.mem_cons_of_mem _ zw85_20)) dX12_set_4 ?_
  obtain ⟨σ5, v6, g5, hf⟩ := zbi_use hf
  refine z_callSi (As := [.long (x1.toInt64), .long 0, .long 25]) (rest := [.ref (ad 0)]) hC hI (cX12_within_met st l D ad cy σ (x1.toInt64) 0 25 _ g5) (zgS zw11_18 zw11_19 zw1_5 zw11_20) rfl ⟨rfl, rfl⟩ 3 hdX12_within ⟨Nat.le_of_ble_eq_true rfl, Nat.le_of_ble_eq_true rfl⟩ rfl hl rfl (Nat.le_of_ble_eq_true rfl) dX12_set_7 ⟨Nat.zero_le _, Nat.zero_le _⟩ (fun H locs hI => ?_)
  refine lv_if_ne (tgt := 17) hx hb dX12_set_10 (by decide) (fun q => ?_) (fun q => ?_)
  · replace hf := zif_f q hf
    refine lv_iconst (v := 0) hx hb dX12_set_17 (by decide) ?_
    exact bX12_set_18 hC  hI hl hf
  replace hf := zif_t q hf
  refine lv_iconst (v := 1) hx hb dX12_set_13 (by decide) ?_
  refine lv_goto (tgt := 18) hx hb dX12_set_14 (by decide) ?_
  exact bX12_set_18 hC  hI hl hf
set_option maxRecDepth 20000 in
theorem cX12_set_met (st : Nat → Nat) (l : Launch) (D : va_G) (ad : Nat → Nat) (cy : Nat → ClassId) (σ : zSt) (x1 : Int32) (x2 : Int32) (res : zSt) (hf : fX12_set σ x1 x2 = some res) (sz : Nat) : zMu st l yX12_set wzX12_set rmX12_set [.ref (ad 0), .int x1, .int x2] D (tM cy) (wM ad cy) sz σ res :=
  zMu.of (cc := cX12_set) (maxL := 3) (ret := none) (by decide) rfl (Nat.le_of_ble_eq_true rfl) (fun p e s m args below meth c hC A hI ls hl => bX12_set hC hI hl hf)
theorem hdX12_set : yX12_set.cls = RX12 ∧ yX12_set.cls ≠ "java/lang/invoke/MethodHandle" ∧ yX12_set.cls ≠ "java/lang/invoke/VarHandle" ∧ (parseMethodDescriptor yX12_set.desc).map (fun d => d.parameters.length) = some 2 := by decide +kernel
noncomputable def rmX12_peek : Room := { frames := 2, cells := 0, slots := 0, locals := 44 }
noncomputable def wzX12_peek : List Cond := .code yX12_peek cX12_peek 2 (some .int) :: wsL_law
theorem hinX12_peek_X120 : ∀ w ∈ wsX120, w ∈ wzX12_peek := fun w h => List.mem_cons_of_mem _ (inlX12 w h)
noncomputable def fX12_peek  (σ : zSt) (x1 : Int32) : Option (zSt × Int32) :=
  zbv (zsi σ 0 0 0) (fun σ1 =>
  zbi (fX12_read σ1 x1) (fun σ2 v3 =>
  some (σ2, v3)))
set_option maxRecDepth 20000 in
set_option maxHeartbeats 4000000 in
theorem bX12_peek {st : Nat → Nat} {p : Program} {l : Launch} {e : Env} {s : State} {m : MethodId} {args : Array Value} {below : List Frame} {meth : Method} {c : Code} {D : va_G} {A : Nat → Prop} {ad : Nat → Nat} {cy : Nat → ClassId} (hC : zC p m c cX12_peek 2 s args wzX12_peek RX12 meth (some .int))  {res : zSt × Int32} {H : Heap} {locs : List Loc} {σ : zSt} {ls : Array Slot} {x1 : Int32} (hI : zI st D (tM cy) (wM ad cy σ) A s H locs) (hl : lv_has ls 2 [(0, .ref (ad 0)), (1, .int x1)]) (hf : fX12_peek  σ x1 = some res) : W p l e rmX12_peek s m args below meth c H locs 0 0 (zQi below args s D (tM cy) (wM ad cy) A res) (F0 m 0 ls []) := by
  have hx := hC.1
  have hb := hC.2.1
  unfold fX12_peek at hf
  refine lv_aload_n hx hb dX12_peek_0 rfl (lv_at hl 0 rfl) ?_
  refine lv_iconst (v := 0) hx hb dX12_peek_1 (by decide) ?_
  obtain ⟨σ1, eσ1⟩ : ∃ z, z = zsi σ 0 0 0 := ⟨_, rfl⟩
  replace hf := zbv_use eσ1 hf
  refine z_put hC hI hinX12_peek_X120 tyX12_ok nmX12 0 (wM_e0 ad cy σ) rfl 0 (by decide) (List.mem_cons_of_mem _ zw12_1) rfl rfl rfl (Nat.le_of_ble_eq_true rfl) ((wM_s0_0 ad cy σ 0).trans (congrArg (wM ad cy) eσ1.symm)) dX12_peek_2 (fun H locs hI => ?_)
  refine lv_aload_n hx hb dX12_peek_5 rfl (lv_at hl 0 rfl) ?_
  refine lv_iload_n hx hb dX12_peek_6 rfl (lv_at hl 1 rfl) ?_
  obtain ⟨σ2, v3, g2, hf⟩ := zbi_use hf
  refine z_callVi (As := [.int x1]) (rest := []) hC hI (cX12_read_met st l D ad cy σ1 x1 _ g2) (zgV zw49_8 zw49_9 zw49_10 zw1_5 zw49_11) rfl ⟨rfl, rfl⟩ 1 hdX12_read ⟨Nat.le_of_ble_eq_true rfl, Nat.le_of_ble_eq_true rfl⟩ rfl rfl (wM_e0 ad cy σ1) rfl hl rfl (Nat.le_of_ble_eq_true rfl) dX12_peek_7 ⟨Nat.zero_le _, Nat.zero_le _⟩ (fun H locs hI => ?_)
  exact z_ireturn hC hI hf dX12_peek_10
set_option maxRecDepth 20000 in
theorem cX12_peek_met (st : Nat → Nat) (l : Launch) (D : va_G) (ad : Nat → Nat) (cy : Nat → ClassId) (σ : zSt) (x1 : Int32) (res : zSt × Int32) (hf : fX12_peek σ x1 = some res) (sz : Nat) : zMi st l yX12_peek wzX12_peek rmX12_peek [.ref (ad 0), .int x1] D (tM cy) (wM ad cy) sz σ res :=
  zMi.of (cc := cX12_peek) (maxL := 2) (ret := (some .int)) (by decide) rfl (Nat.le_of_ble_eq_true rfl) (fun p e s m args below meth c hC A hI ls hl => bX12_peek hC hI hl hf)
theorem hdX12_peek : yX12_peek.cls = RX12 ∧ yX12_peek.cls ≠ "java/lang/invoke/MethodHandle" ∧ yX12_peek.cls ≠ "java/lang/invoke/VarHandle" ∧ (parseMethodDescriptor yX12_peek.desc).map (fun d => d.parameters.length) = some 1 := by decide +kernel
noncomputable def rmX12_poke : Room := { frames := 2, cells := 0, slots := 0, locals := 45 }
noncomputable def wzX12_poke : List Cond := .code yX12_poke cX12_poke 3 none :: wsL_law
theorem hinX12_poke_X120 : ∀ w ∈ wsX120, w ∈ wzX12_poke := fun w h => List.mem_cons_of_mem _ (inlX12 w h)
noncomputable def fX12_poke  (σ : zSt) (x1 : Int32) (x2 : Int32) : Option (zSt) :=
  zbv (zsi σ 0 0 0) (fun σ1 =>
  zbu (fX12_write σ1 x1 x2) (fun σ2 =>
  some σ2))
set_option maxRecDepth 20000 in
set_option maxHeartbeats 4000000 in
theorem bX12_poke {st : Nat → Nat} {p : Program} {l : Launch} {e : Env} {s : State} {m : MethodId} {args : Array Value} {below : List Frame} {meth : Method} {c : Code} {D : va_G} {A : Nat → Prop} {ad : Nat → Nat} {cy : Nat → ClassId} (hC : zC p m c cX12_poke 3 s args wzX12_poke RX12 meth none)  {res : zSt} {H : Heap} {locs : List Loc} {σ : zSt} {ls : Array Slot} {x1 : Int32} {x2 : Int32} (hI : zI st D (tM cy) (wM ad cy σ) A s H locs) (hl : lv_has ls 3 [(0, .ref (ad 0)), (1, .int x1), (2, .int x2)]) (hf : fX12_poke  σ x1 x2 = some res) : W p l e rmX12_poke s m args below meth c H locs 0 0 (zQu below args s D (tM cy) (wM ad cy) A res) (F0 m 0 ls []) := by
  have hx := hC.1
  have hb := hC.2.1
  unfold fX12_poke at hf
  refine lv_aload_n hx hb dX12_poke_0 rfl (lv_at hl 0 rfl) ?_
  refine lv_iconst (v := 0) hx hb dX12_poke_1 (by decide) ?_
  obtain ⟨σ1, eσ1⟩ : ∃ z, z = zsi σ 0 0 0 := ⟨_, rfl⟩
  replace hf := zbv_use eσ1 hf
  refine z_put hC hI hinX12_poke_X120 tyX12_ok nmX12 0 (wM_e0 ad cy σ) rfl 0 (by decide) (List.mem_cons_of_mem _ zw12_1) rfl rfl rfl (Nat.le_of_ble_eq_true rfl) ((wM_s0_0 ad cy σ 0).trans (congrArg (wM ad cy) eσ1.symm)) dX12_poke_2 (fun H locs hI => ?_)
  refine lv_aload_n hx hb dX12_poke_5 rfl (lv_at hl 0 rfl) ?_
  refine lv_iload_n hx hb dX12_poke_6 rfl (lv_at hl 1 rfl) ?_
  refine lv_iload_n hx hb dX12_poke_7 rfl (lv_at hl 2 rfl) ?_
  obtain ⟨σ2, g2, hf⟩ := zbu_use hf
  refine z_callVu (As := [.int x1, .int x2]) (rest := []) hC hI (cX12_write_met st l D ad cy σ1 x1 x2 _ g2) (zgV zw48_5 zw48_6 zw48_7 zw1_5 zw48_8) rfl ⟨rfl, rfl⟩ 2 hdX12_write ⟨Nat.le_of_ble_eq_true rfl, Nat.le_of_ble_eq_true rfl⟩ rfl rfl (wM_e0 ad cy σ1) rfl hl rfl (Nat.le_of_ble_eq_true rfl) dX12_poke_8 ⟨Nat.zero_le _, Nat.zero_le _⟩ (fun H locs hI => ?_)
  exact z_return hC hI hf dX12_poke_11
set_option maxRecDepth 20000 in
theorem cX12_poke_met (st : Nat → Nat) (l : Launch) (D : va_G) (ad : Nat → Nat) (cy : Nat → ClassId) (σ : zSt) (x1 : Int32) (x2 : Int32) (res : zSt) (hf : fX12_poke σ x1 x2 = some res) (sz : Nat) : zMu st l yX12_poke wzX12_poke rmX12_poke [.ref (ad 0), .int x1, .int x2] D (tM cy) (wM ad cy) sz σ res :=
  zMu.of (cc := cX12_poke) (maxL := 3) (ret := none) (by decide) rfl (Nat.le_of_ble_eq_true rfl) (fun p e s m args below meth c hC A hI ls hl => bX12_poke hC hI hl hf)
theorem hdX12_poke : yX12_poke.cls = RX12 ∧ yX12_poke.cls ≠ "java/lang/invoke/MethodHandle" ∧ yX12_poke.cls ≠ "java/lang/invoke/VarHandle" ∧ (parseMethodDescriptor yX12_poke.desc).map (fun d => d.parameters.length) = some 2 := by decide +kernel
noncomputable def rmX12_in : Room := { frames := 5, cells := 0, slots := 0, locals := 108 }
noncomputable def wzX12_in : List Cond := .code yX12_in cX12_in 2 (some .int) :: wsL_law
theorem hinX12_in_X120 : ∀ w ∈ wsX120, w ∈ wzX12_in := fun w h => List.mem_cons_of_mem _ (inlX12 w h)
noncomputable def fX12_in  (σ : zSt) (x1 : Int32) : Option (zSt × Int32) :=
  zbv (zsi σ 0 0 0) (fun σ1 =>
  zbi (fX12_port σ1 (x1 &&& 255)) (fun σ2 v3 =>
  some (σ2, v3)))
set_option maxRecDepth 20000 in
set_option maxHeartbeats 4000000 in
theorem bX12_in {st : Nat → Nat} {p : Program} {l : Launch} {e : Env} {s : State} {m : MethodId} {args : Array Value} {below : List Frame} {meth : Method} {c : Code} {D : va_G} {A : Nat → Prop} {ad : Nat → Nat} {cy : Nat → ClassId} (hC : zC p m c cX12_in 2 s args wzX12_in RX12 meth (some .int))  {res : zSt × Int32} {H : Heap} {locs : List Loc} {σ : zSt} {ls : Array Slot} {x1 : Int32} (hI : zI st D (tM cy) (wM ad cy σ) A s H locs) (hl : lv_has ls 2 [(0, .ref (ad 0)), (1, .int x1)]) (hf : fX12_in  σ x1 = some res) : W p l e rmX12_in s m args below meth c H locs 0 0 (zQi below args s D (tM cy) (wM ad cy) A res) (F0 m 0 ls []) := by
  have hx := hC.1
  have hb := hC.2.1
  unfold fX12_in at hf
  refine lv_aload_n hx hb dX12_in_0 rfl (lv_at hl 0 rfl) ?_
  refine lv_iconst (v := 0) hx hb dX12_in_1 (by decide) ?_
  obtain ⟨σ1, eσ1⟩ : ∃ z, z = zsi σ 0 0 0 := ⟨_, rfl⟩
  replace hf := zbv_use eσ1 hf
  refine z_put hC hI hinX12_in_X120 tyX12_ok nmX12 0 (wM_e0 ad cy σ) rfl 0 (by decide) (List.mem_cons_of_mem _ zw12_1) rfl rfl rfl (Nat.le_of_ble_eq_true rfl) ((wM_s0_0 ad cy σ 0).trans (congrArg (wM ad cy) eσ1.symm)) dX12_in_2 (fun H locs hI => ?_)
  refine lv_aload_n hx hb dX12_in_5 rfl (lv_at hl 0 rfl) ?_
  refine lv_iload_n hx hb dX12_in_6 rfl (lv_at hl 1 rfl) ?_
  refine lv_sipush (v := 255) hx hb dX12_in_7 (by decide) ?_
  refine lv_iand hx hb dX12_in_10 ?_
  obtain ⟨σ2, v3, g2, hf⟩ := zbi_use hf
  refine z_callVi (As := [.int (x1 &&& 255)]) (rest := []) hC hI (cX12_port_met st l D ad cy σ1 (x1 &&& 255) _ g2) (zgV zw56_18 zw56_19 zw56_20 zw1_5 zw56_21) rfl ⟨rfl, rfl⟩ 1 hdX12_port ⟨Nat.le_of_ble_eq_true rfl, Nat.le_of_ble_eq_true rfl⟩ rfl rfl (wM_e0 ad cy σ1) rfl hl rfl (Nat.le_of_ble_eq_true rfl) dX12_in_11 ⟨Nat.zero_le _, Nat.zero_le _⟩ (fun H locs hI => ?_)
  exact z_ireturn hC hI hf dX12_in_14
set_option maxRecDepth 20000 in
theorem cX12_in_met (st : Nat → Nat) (l : Launch) (D : va_G) (ad : Nat → Nat) (cy : Nat → ClassId) (σ : zSt) (x1 : Int32) (res : zSt × Int32) (hf : fX12_in σ x1 = some res) (sz : Nat) : zMi st l yX12_in wzX12_in rmX12_in [.ref (ad 0), .int x1] D (tM cy) (wM ad cy) sz σ res :=
  zMi.of (cc := cX12_in) (maxL := 2) (ret := (some .int)) (by decide) rfl (Nat.le_of_ble_eq_true rfl) (fun p e s m args below meth c hC A hI ls hl => bX12_in hC hI hl hf)
theorem hdX12_in : yX12_in.cls = RX12 ∧ yX12_in.cls ≠ "java/lang/invoke/MethodHandle" ∧ yX12_in.cls ≠ "java/lang/invoke/VarHandle" ∧ (parseMethodDescriptor yX12_in.desc).map (fun d => d.parameters.length) = some 1 := by decide +kernel
noncomputable def rmX12_out : Room := { frames := 3, cells := 0, slots := 0, locals := 67 }
noncomputable def wzX12_out : List Cond := .code yX12_out cX12_out 3 none :: wsL_law
theorem hinX12_out_X120 : ∀ w ∈ wsX120, w ∈ wzX12_out := fun w h => List.mem_cons_of_mem _ (inlX12 w h)
noncomputable def fX12_out  (σ : zSt) (x1 : Int32) (x2 : Int32) : Option (zSt) :=
  zbv (zsi σ 0 0 0) (fun σ1 =>
  zbu (fX12_portTo σ1 (x1 &&& 255) (x2 &&& 255)) (fun σ2 =>
  some σ2))
set_option maxRecDepth 20000 in
set_option maxHeartbeats 4000000 in
theorem bX12_out {st : Nat → Nat} {p : Program} {l : Launch} {e : Env} {s : State} {m : MethodId} {args : Array Value} {below : List Frame} {meth : Method} {c : Code} {D : va_G} {A : Nat → Prop} {ad : Nat → Nat} {cy : Nat → ClassId} (hC : zC p m c cX12_out 3 s args wzX12_out RX12 meth none)  {res : zSt} {H : Heap} {locs : List Loc} {σ : zSt} {ls : Array Slot} {x1 : Int32} {x2 : Int32} (hI : zI st D (tM cy) (wM ad cy σ) A s H locs) (hl : lv_has ls 3 [(0, .ref (ad 0)), (1, .int x1), (2, .int x2)]) (hf : fX12_out  σ x1 x2 = some res) : W p l e rmX12_out s m args below meth c H locs 0 0 (zQu below args s D (tM cy) (wM ad cy) A res) (F0 m 0 ls []) := by
  have hx := hC.1
  have hb := hC.2.1
  unfold fX12_out at hf
  refine lv_aload_n hx hb dX12_out_0 rfl (lv_at hl 0 rfl) ?_
  refine lv_iconst (v := 0) hx hb dX12_out_1 (by decide) ?_
  obtain ⟨σ1, eσ1⟩ : ∃ z, z = zsi σ 0 0 0 := ⟨_, rfl⟩
  replace hf := zbv_use eσ1 hf
  refine z_put hC hI hinX12_out_X120 tyX12_ok nmX12 0 (wM_e0 ad cy σ) rfl 0 (by decide) (List.mem_cons_of_mem _ zw12_1) rfl rfl rfl (Nat.le_of_ble_eq_true rfl) ((wM_s0_0 ad cy σ 0).trans (congrArg (wM ad cy) eσ1.symm)) dX12_out_2 (fun H locs hI => ?_)
  refine lv_aload_n hx hb dX12_out_5 rfl (lv_at hl 0 rfl) ?_
  refine lv_iload_n hx hb dX12_out_6 rfl (lv_at hl 1 rfl) ?_
  refine lv_sipush (v := 255) hx hb dX12_out_7 (by decide) ?_
  refine lv_iand hx hb dX12_out_10 ?_
  refine lv_iload_n hx hb dX12_out_11 rfl (lv_at hl 2 rfl) ?_
  refine lv_sipush (v := 255) hx hb dX12_out_12 (by decide) ?_
  refine lv_iand hx hb dX12_out_15 ?_
  obtain ⟨σ2, g2, hf⟩ := zbu_use hf
  refine z_callVu (As := [.int (x1 &&& 255), .int (x2 &&& 255)]) (rest := []) hC hI (cX12_portTo_met st l D ad cy σ1 (x1 &&& 255) (x2 &&& 255) _ g2) (zgV zw55_10 zw55_11 zw55_12 zw1_5 zw55_13) rfl ⟨rfl, rfl⟩ 2 hdX12_portTo ⟨Nat.le_of_ble_eq_true rfl, Nat.le_of_ble_eq_true rfl⟩ rfl rfl (wM_e0 ad cy σ1) rfl hl rfl (Nat.le_of_ble_eq_true rfl) dX12_out_16 ⟨Nat.zero_le _, Nat.zero_le _⟩ (fun H locs hI => ?_)
  exact z_return hC hI hf dX12_out_19
set_option maxRecDepth 20000 in
theorem cX12_out_met (st : Nat → Nat) (l : Launch) (D : va_G) (ad : Nat → Nat) (cy : Nat → ClassId) (σ : zSt) (x1 : Int32) (x2 : Int32) (res : zSt) (hf : fX12_out σ x1 x2 = some res) (sz : Nat) : zMu st l yX12_out wzX12_out rmX12_out [.ref (ad 0), .int x1, .int x2] D (tM cy) (wM ad cy) sz σ res :=
  zMu.of (cc := cX12_out) (maxL := 3) (ret := none) (by decide) rfl (Nat.le_of_ble_eq_true rfl) (fun p e s m args below meth c hC A hI ls hl => bX12_out hC hI hl hf)
theorem hdX12_out : yX12_out.cls = RX12 ∧ yX12_out.cls ≠ "java/lang/invoke/MethodHandle" ∧ yX12_out.cls ≠ "java/lang/invoke/VarHandle" ∧ (parseMethodDescriptor yX12_out.desc).map (fun d => d.parameters.length) = some 2 := by decide +kernel
noncomputable def rmX12_battery : Room := { frames := 1, cells := 0, slots := 0, locals := 25 }
noncomputable def wzX12_battery : List Cond := .code yX12_battery cX12_battery 2 (some .int) :: wsL_law
theorem hinX12_battery_X120 : ∀ w ∈ wsX120, w ∈ wzX12_battery := fun w h => List.mem_cons_of_mem _ (inlX12 w h)
noncomputable def fX12_battery_39  (σ : zSt) (s0 : Int32) : Option (zSt × Int32) :=
  some (σ, s0)
noncomputable def fX12_battery_18  (σ : zSt) (x1 : Int32) (s0 : Int32) : Option (zSt × Int32) :=
  zbi (fX12_fails σ s0 1) (fun σ1 v2 =>
  if v2 = 0 then zck (zin x1 32768) (
  fX12_battery_39 σ1 ((zgi σ1 6 x1.toNatClampNeg) &&& 255)) else
  fX12_battery_39 σ1 0)
noncomputable def fX12_battery  (σ : zSt) (x1 : Int32) : Option (zSt × Int32) :=
  zbi (fX12_within σ (x1.toInt64) 0 32767) (fun σ3 v4 =>
  if v4 = 0 then fX12_battery_18 σ3 x1 1 else
  fX12_battery_18 σ3 x1 0)
set_option maxRecDepth 20000 in
set_option maxHeartbeats 4000000 in
theorem bX12_battery_39 {st : Nat → Nat} {p : Program} {l : Launch} {e : Env} {s : State} {m : MethodId} {args : Array Value} {below : List Frame} {meth : Method} {c : Code} {D : va_G} {A : Nat → Prop} {ad : Nat → Nat} {cy : Nat → ClassId} (hC : zC p m c cX12_battery 2 s args wzX12_battery RX12 meth (some .int))  {res : zSt × Int32} {H : Heap} {locs : List Loc} {σ : zSt} {ls : Array Slot} {s0 : Int32} (hI : zI st D (tM cy) (wM ad cy σ) A s H locs) (hl : lv_has ls 2 []) (hf : fX12_battery_39  σ s0 = some res) : W p l e rmX12_battery s m args below meth c H locs 0 0 (zQi below args s D (tM cy) (wM ad cy) A res) (F0 m 39 ls [.int s0]) := by
  have hx := hC.1
  have hb := hC.2.1
  unfold fX12_battery_39 at hf
  exact z_ireturn hC hI hf dX12_battery_39
set_option maxRecDepth 20000 in
set_option maxHeartbeats 4000000 in
theorem bX12_battery_18 {st : Nat → Nat} {p : Program} {l : Launch} {e : Env} {s : State} {m : MethodId} {args : Array Value} {below : List Frame} {meth : Method} {c : Code} {D : va_G} {A : Nat → Prop} {ad : Nat → Nat} {cy : Nat → ClassId} (hC : zC p m c cX12_battery 2 s args wzX12_battery RX12 meth (some .int))  {res : zSt × Int32} {H : Heap} {locs : List Loc} {σ : zSt} {ls : Array Slot} {x1 : Int32} {s0 : Int32} (hI : zI st D (tM cy) (wM ad cy σ) A s H locs) (hl : lv_has ls 2 [(0, .ref (ad 0)), (1, .int x1)]) (hf : fX12_battery_18  σ x1 s0 = some res) : W p l e rmX12_battery s m args below meth c H locs 0 0 (zQi below args s D (tM cy) (wM ad cy) A res) (F0 m 18 ls [.int s0, .ref (ad 0)]) := by
  have hx := hC.1
  have hb := hC.2.1
  unfold fX12_battery_18 at hf
  refine lv_iconst (v := 1) hx hb dX12_battery_18 (by decide) ?_
  obtain ⟨σ1, v2, g1, hf⟩ := zbi_use hf
  refine z_callVi (As := [.int s0, .int 1]) (rest := []) hC hI (cX12_fails_met st l D ad cy σ s0 1 _ g1) (zgV zw11_21 zw11_22 zw11_23 zw1_5 zw12_0) rfl ⟨rfl, rfl⟩ 2 hdX12_fails ⟨Nat.le_of_ble_eq_true rfl, Nat.le_of_ble_eq_true rfl⟩ rfl rfl (wM_e0 ad cy σ) rfl hl rfl (Nat.le_of_ble_eq_true rfl) dX12_battery_19 ⟨Nat.zero_le _, Nat.zero_le _⟩ (fun H locs hI => ?_)
  refine lv_if_eq (tgt := 29) hx hb dX12_battery_22 (by decide) (fun q => ?_) (fun q => ?_)
  · replace hf := zif_t q hf
    refine lv_aload_n hx hb dX12_battery_29 rfl (lv_at hl 0 rfl) ?_
    refine z_get hC hI hinX12_battery_X120 0 (wM_e0 ad cy σ1) rfl 13 (by decide) (List.mem_cons_of_mem _ zw9_11) rfl dX12_battery_30 ?_
    refine lv_iload_n hx hb dX12_battery_33 rfl (lv_at hl 1 rfl) ?_
    obtain ⟨q, hf⟩ := zck_use hf
    refine z_bald hC hI 6 5 (wM_e6 ad cy σ1) (tM_t6 cy) q dX12_battery_34 ?_
    refine lv_sipush (v := 255) hx hb dX12_battery_35 (by decide) ?_
    refine lv_iand hx hb dX12_battery_38 ?_
    exact bX12_battery_39 hC  hI (lv_sub hl [] rfl) hf
  replace hf := zif_f q hf
  refine lv_iconst (v := 0) hx hb dX12_battery_25 (by decide) ?_
  refine lv_goto (tgt := 39) hx hb dX12_battery_26 (by decide) ?_
  exact bX12_battery_39 hC  hI (lv_sub hl [] rfl) hf
set_option maxRecDepth 20000 in
set_option maxHeartbeats 4000000 in
theorem bX12_battery {st : Nat → Nat} {p : Program} {l : Launch} {e : Env} {s : State} {m : MethodId} {args : Array Value} {below : List Frame} {meth : Method} {c : Code} {D : va_G} {A : Nat → Prop} {ad : Nat → Nat} {cy : Nat → ClassId} (hC : zC p m c cX12_battery 2 s args wzX12_battery RX12 meth (some .int))  {res : zSt × Int32} {H : Heap} {locs : List Loc} {σ : zSt} {ls : Array Slot} {x1 : Int32} (hI : zI st D (tM cy) (wM ad cy σ) A s H locs) (hl : lv_has ls 2 [(0, .ref (ad 0)), (1, .int x1)]) (hf : fX12_battery  σ x1 = some res) : W p l e rmX12_battery s m args below meth c H locs 0 0 (zQi below args s D (tM cy) (wM ad cy) A res) (F0 m 0 ls []) := by
  have hx := hC.1
  have hb := hC.2.1
  unfold fX12_battery at hf
  refine lv_aload_n hx hb dX12_battery_0 rfl (lv_at hl 0 rfl) ?_
  refine lv_iload_n hx hb dX12_battery_1 rfl (lv_at hl 1 rfl) ?_
  refine lv_i2l (v := x1.toInt64) hx hb dX12_battery_2 rfl ?_
  refine lv_lconst (v := 0) hx hb dX12_battery_3 (by decide) ?_
  refine lv_ldc2 (v := 32767) hx hb hC.2.2.2.1 (hC.2.2.2.2.1 _ (List.mem_cons_of_mem _ zw88_1)) dX12_battery_4 ?_
  obtain ⟨σ3, v4, g3, hf⟩ := zbi_use hf
  refine z_callSi (As := [.long (x1.toInt64), .long 0, .long 32767]) (rest := [.ref (ad 0)]) hC hI (cX12_within_met st l D ad cy σ (x1.toInt64) 0 32767 _ g3) (zgS zw11_18 zw11_19 zw1_5 zw11_20) rfl ⟨rfl, rfl⟩ 3 hdX12_within ⟨Nat.le_of_ble_eq_true rfl, Nat.le_of_ble_eq_true rfl⟩ rfl hl rfl (Nat.le_of_ble_eq_true rfl) dX12_battery_7 ⟨Nat.zero_le _, Nat.zero_le _⟩ (fun H locs hI => ?_)
  refine lv_if_ne (tgt := 17) hx hb dX12_battery_10 (by decide) (fun q => ?_) (fun q => ?_)
  · replace hf := zif_f q hf
    refine lv_iconst (v := 0) hx hb dX12_battery_17 (by decide) ?_
    exact bX12_battery_18 hC  hI hl hf
  replace hf := zif_t q hf
  refine lv_iconst (v := 1) hx hb dX12_battery_13 (by decide) ?_
  refine lv_goto (tgt := 18) hx hb dX12_battery_14 (by decide) ?_
  exact bX12_battery_18 hC  hI hl hf
set_option maxRecDepth 20000 in
theorem cX12_battery_met (st : Nat → Nat) (l : Launch) (D : va_G) (ad : Nat → Nat) (cy : Nat → ClassId) (σ : zSt) (x1 : Int32) (res : zSt × Int32) (hf : fX12_battery σ x1 = some res) (sz : Nat) : zMi st l yX12_battery wzX12_battery rmX12_battery [.ref (ad 0), .int x1] D (tM cy) (wM ad cy) sz σ res :=
  zMi.of (cc := cX12_battery) (maxL := 2) (ret := (some .int)) (by decide) rfl (Nat.le_of_ble_eq_true rfl) (fun p e s m args below meth c hC A hI ls hl => bX12_battery hC hI hl hf)
theorem hdX12_battery : yX12_battery.cls = RX12 ∧ yX12_battery.cls ≠ "java/lang/invoke/MethodHandle" ∧ yX12_battery.cls ≠ "java/lang/invoke/VarHandle" ∧ (parseMethodDescriptor yX12_battery.desc).map (fun d => d.parameters.length) = some 1 := by decide +kernel
noncomputable def rmX12_wipe : Room := { frames := 0, cells := 0, slots := 0, locals := 0 }
noncomputable def wzX12_wipe : List Cond := .code yX12_wipe cX12_wipe 2 none :: wsL_law
theorem hinX12_wipe_X120 : ∀ w ∈ wsX120, w ∈ wzX12_wipe := fun w h => List.mem_cons_of_mem _ (inlX12 w h)
noncomputable def fX12_wipe_7_body (k7 : zSt → Int32 → Option (zSt)) (σ : zSt) (x1 : Int32) : Option (zSt) :=
  if 32768 ≤ x1 then some σ else
  zck (zin x1 32768) (zbv (zsi σ 6 (x1.toNatClampNeg) (vp_nar .byte 0)) (fun σ1 =>
  zbv (x1 + 1) (fun v2 =>
  k7 σ1 v2)))
noncomputable def fX12_wipe_7  : Nat → zSt → Int32 → Option (zSt)
  | 0, _, _ => none
  | n + 1, σ, x1 => fX12_wipe_7_body (fX12_wipe_7  n) σ x1
noncomputable def fX12_wipe  (σ : zSt)  : Option (zSt) :=
  zbv (zsi σ 0 0 0) (fun σ3 =>
  fX12_wipe_7 zfuel σ3 0)
set_option maxRecDepth 20000 in
set_option maxHeartbeats 4000000 in
theorem bX12_wipe_7_body {st : Nat → Nat} {p : Program} {l : Launch} {e : Env} {s : State} {m : MethodId} {args : Array Value} {below : List Frame} {meth : Method} {c : Code} {D : va_G} {A : Nat → Prop} {ad : Nat → Nat} {cy : Nat → ClassId} (hC : zC p m c cX12_wipe 2 s args wzX12_wipe RX12 meth none) {k7 : zSt → Int32 → Option (zSt)} {res : zSt} (hk7 : ∀ (H : Heap) (locs : List Loc) (σ : zSt) (ls : Array Slot) (x1 : Int32), zI st D (tM cy) (wM ad cy σ) A s H locs → lv_has ls 2 [(0, .ref (ad 0)), (1, .int x1)] → k7 σ x1 = some res → W p l e rmX12_wipe s m args below meth c H locs 0 0 (zQu below args s D (tM cy) (wM ad cy) A res) (F0 m 7 ls [])) {H : Heap} {locs : List Loc} {σ : zSt} {ls : Array Slot} {x1 : Int32} (hI : zI st D (tM cy) (wM ad cy σ) A s H locs) (hl : lv_has ls 2 [(0, .ref (ad 0)), (1, .int x1)]) (hf : fX12_wipe_7_body k7 σ x1 = some res) : W p l e rmX12_wipe s m args below meth c H locs 0 0 (zQu below args s D (tM cy) (wM ad cy) A res) (F0 m 7 ls []) := by
  have hx := hC.1
  have hb := hC.2.1
  unfold fX12_wipe_7_body at hf
  refine lv_iload_n hx hb dX12_wipe_7 rfl (lv_at hl 1 rfl) ?_
  refine lv_ldc (v := 32768) hx hb hC.2.2.2.1 (hC.2.2.2.2.1 _ (List.mem_cons_of_mem _ zw9_10)) dX12_wipe_8 ?_
  refine lv_icmp_ge (tgt := 26) hx hb dX12_wipe_10 (by decide) (fun q => ?_) (fun q => ?_)
  · replace hf := zif_t q hf
    exact z_return hC hI hf dX12_wipe_26
  replace hf := zif_f q hf
  refine lv_aload_n hx hb dX12_wipe_13 rfl (lv_at hl 0 rfl) ?_
  refine z_get hC hI hinX12_wipe_X120 0 (wM_e0 ad cy σ) rfl 13 (by decide) (List.mem_cons_of_mem _ zw9_11) rfl dX12_wipe_14 ?_
  refine lv_iload_n hx hb dX12_wipe_17 rfl (lv_at hl 1 rfl) ?_
  refine lv_iconst (v := 0) hx hb dX12_wipe_18 (by decide) ?_
  obtain ⟨q, hf⟩ := zck_use hf
  obtain ⟨σ1, eσ1⟩ : ∃ z, z = zsi σ 6 (x1.toNatClampNeg) (vp_nar .byte 0) := ⟨_, rfl⟩
  replace hf := zbv_use eσ1 hf
  refine z_bast hC hI 6 5 (wM_e6 ad cy σ) (tM_t6 cy) q ((wM_s6 ad cy σ _ _).trans (congrArg (wM ad cy) eσ1.symm)) dX12_wipe_19 (fun H locs hI => ?_)
  obtain ⟨v2, ev2⟩ : ∃ z : Int32, z = x1 + 1 := ⟨_, rfl⟩
  replace hf := zbv_use ev2 hf
  refine lv_iinc (v := v2) (lv' := [(1, .int v2), (0, .ref (ad 0))]) hx hb dX12_wipe_20 hl (k := 1) rfl (by rw [ev2]; rfl) (by decide) rfl (fun ls hl => ?_)
  refine lv_goto (tgt := 7) hx hb dX12_wipe_23 (by decide) ?_
  exact hk7 _ _ _ _ _ hI (lv_sub hl [1, 0] rfl) hf
theorem blX12_wipe_7 {st : Nat → Nat} {p : Program} {l : Launch} {e : Env} {s : State} {m : MethodId} {args : Array Value} {below : List Frame} {meth : Method} {c : Code} {D : va_G} {A : Nat → Prop} {ad : Nat → Nat} {cy : Nat → ClassId} (hC : zC p m c cX12_wipe 2 s args wzX12_wipe RX12 meth none)  {res : zSt} : ∀ (n : Nat) (H : Heap) (locs : List Loc) (σ : zSt) (ls : Array Slot) (x1 : Int32), zI st D (tM cy) (wM ad cy σ) A s H locs → lv_has ls 2 [(0, .ref (ad 0)), (1, .int x1)] → fX12_wipe_7  n σ x1 = some res → W p l e rmX12_wipe s m args below meth c H locs 0 0 (zQu below args s D (tM cy) (wM ad cy) A res) (F0 m 7 ls []) := by
  intro n
  induction n with
  | zero => intro H locs σ ls x1 hI hl hf; cases hf
  | succ n ih => intro H locs σ ls x1 hI hl hf; exact bX12_wipe_7_body hC ih hI hl hf
set_option maxRecDepth 20000 in
set_option maxHeartbeats 4000000 in
theorem bX12_wipe {st : Nat → Nat} {p : Program} {l : Launch} {e : Env} {s : State} {m : MethodId} {args : Array Value} {below : List Frame} {meth : Method} {c : Code} {D : va_G} {A : Nat → Prop} {ad : Nat → Nat} {cy : Nat → ClassId} (hC : zC p m c cX12_wipe 2 s args wzX12_wipe RX12 meth none)  {res : zSt} {H : Heap} {locs : List Loc} {σ : zSt} {ls : Array Slot}  (hI : zI st D (tM cy) (wM ad cy σ) A s H locs) (hl : lv_has ls 2 [(0, .ref (ad 0))]) (hf : fX12_wipe  σ  = some res) : W p l e rmX12_wipe s m args below meth c H locs 0 0 (zQu below args s D (tM cy) (wM ad cy) A res) (F0 m 0 ls []) := by
  have hx := hC.1
  have hb := hC.2.1
  unfold fX12_wipe at hf
  refine lv_aload_n hx hb dX12_wipe_0 rfl (lv_at hl 0 rfl) ?_
  refine lv_iconst (v := 0) hx hb dX12_wipe_1 (by decide) ?_
  obtain ⟨σ3, eσ3⟩ : ∃ z, z = zsi σ 0 0 0 := ⟨_, rfl⟩
  replace hf := zbv_use eσ3 hf
  refine z_put hC hI hinX12_wipe_X120 tyX12_ok nmX12 0 (wM_e0 ad cy σ) rfl 0 (by decide) (List.mem_cons_of_mem _ zw12_1) rfl rfl rfl (Nat.le_of_ble_eq_true rfl) ((wM_s0_0 ad cy σ 0).trans (congrArg (wM ad cy) eσ3.symm)) dX12_wipe_2 (fun H locs hI => ?_)
  refine lv_iconst (v := 0) hx hb dX12_wipe_5 (by decide) ?_
  refine lv_istore_n (lv' := [(1, .int 0), (0, .ref (ad 0))]) hx hb dX12_wipe_6 rfl hl (by decide) rfl (fun ls hl => ?_)
  exact blX12_wipe_7 hC  zfuel _ _ _ _ _ hI (lv_sub hl [1, 0] rfl) hf
set_option maxRecDepth 20000 in
theorem cX12_wipe_met (st : Nat → Nat) (l : Launch) (D : va_G) (ad : Nat → Nat) (cy : Nat → ClassId) (σ : zSt)  (res : zSt) (hf : fX12_wipe σ  = some res) (sz : Nat) : zMu st l yX12_wipe wzX12_wipe rmX12_wipe [.ref (ad 0)] D (tM cy) (wM ad cy) sz σ res :=
  zMu.of (cc := cX12_wipe) (maxL := 2) (ret := none) (by decide) rfl (Nat.le_of_ble_eq_true rfl) (fun p e s m args below meth c hC A hI ls hl => bX12_wipe hC hI hl hf)
theorem hdX12_wipe : yX12_wipe.cls = RX12 ∧ yX12_wipe.cls ≠ "java/lang/invoke/MethodHandle" ∧ yX12_wipe.cls ≠ "java/lang/invoke/VarHandle" ∧ (parseMethodDescriptor yX12_wipe.desc).map (fun d => d.parameters.length) = some 0 := by decide +kernel
noncomputable def rmX12_video : Room := { frames := 1, cells := 0, slots := 0, locals := 21 }
noncomputable def wzX12_video : List Cond := .code yX12_video cX12_video 5 (some .long) :: wsL_law
theorem hinX12_video_X120 : ∀ w ∈ wsX120, w ∈ wzX12_video := fun w h => List.mem_cons_of_mem _ (inlX12 w h)
noncomputable def fX12_video_11_body (k11 : zSt → Int32 → Int64 → Int32 → Option (zSt × Int64)) (σ : zSt) (x1 : Int32) (x2 : Int64) (x4 : Int32) : Option (zSt × Int64) :=
  if x4 < 0 then some (σ, x2) else
  zbi (fX12_video8 σ (x1 + x4)) (fun σ1 v2 =>
  zbv ((zlshl x2 8) ||| (v2.toInt64)) (fun v3 =>
  zbv (x4 + (-1)) (fun v4 =>
  k11 σ1 x1 v3 v4)))
noncomputable def fX12_video_11  : Nat → zSt → Int32 → Int64 → Int32 → Option (zSt × Int64)
  | 0, _, _, _, _ => none
  | n + 1, σ, x1, x2, x4 => fX12_video_11_body (fX12_video_11  n) σ x1 x2 x4
noncomputable def fX12_video  (σ : zSt) (x1 : Int32) : Option (zSt × Int64) :=
  zbv (zsi σ 0 0 0) (fun σ5 =>
  fX12_video_11 zfuel σ5 x1 0 7)
set_option maxRecDepth 20000 in
set_option maxHeartbeats 4000000 in
theorem bX12_video_11_body {st : Nat → Nat} {p : Program} {l : Launch} {e : Env} {s : State} {m : MethodId} {args : Array Value} {below : List Frame} {meth : Method} {c : Code} {D : va_G} {A : Nat → Prop} {ad : Nat → Nat} {cy : Nat → ClassId} (hC : zC p m c cX12_video 5 s args wzX12_video RX12 meth (some .long)) {k11 : zSt → Int32 → Int64 → Int32 → Option (zSt × Int64)} {res : zSt × Int64} (hk11 : ∀ (H : Heap) (locs : List Loc) (σ : zSt) (ls : Array Slot) (x1 : Int32) (x2 : Int64) (x4 : Int32), zI st D (tM cy) (wM ad cy σ) A s H locs → lv_has ls 5 [(0, .ref (ad 0)), (1, .int x1), (2, .long x2), (4, .int x4)] → k11 σ x1 x2 x4 = some res → W p l e rmX12_video s m args below meth c H locs 0 0 (zQl below args s D (tM cy) (wM ad cy) A res) (F0 m 11 ls [])) {H : Heap} {locs : List Loc} {σ : zSt} {ls : Array Slot} {x1 : Int32} {x2 : Int64} {x4 : Int32} (hI : zI st D (tM cy) (wM ad cy σ) A s H locs) (hl : lv_has ls 5 [(0, .ref (ad 0)), (1, .int x1), (2, .long x2), (4, .int x4)]) (hf : fX12_video_11_body k11 σ x1 x2 x4 = some res) : W p l e rmX12_video s m args below meth c H locs 0 0 (zQl below args s D (tM cy) (wM ad cy) A res) (F0 m 11 ls []) := by
  have hx := hC.1
  have hb := hC.2.1
  unfold fX12_video_11_body at hf
  refine lv_iload hx hb dX12_video_11 (lv_at hl 3 rfl) ?_
  refine lv_if_lt (tgt := 37) hx hb dX12_video_13 (by decide) (fun q => ?_) (fun q => ?_)
  · replace hf := zif_t q hf
    refine lv_lload_n hx hb dX12_video_37 rfl (lv_at hl 2 rfl) ?_
    exact z_lreturn hC hI hf dX12_video_38
  replace hf := zif_f q hf
  refine lv_lload_n hx hb dX12_video_16 rfl (lv_at hl 2 rfl) ?_
  refine lv_bipush (v := 8) hx hb dX12_video_17 (by decide) ?_
  refine lv_lshl (v := zlshl x2 8) hx hb dX12_video_19 rfl ?_
  refine lv_aload_n hx hb dX12_video_20 rfl (lv_at hl 0 rfl) ?_
  refine lv_iload_n hx hb dX12_video_21 rfl (lv_at hl 1 rfl) ?_
  refine lv_iload hx hb dX12_video_22 (lv_at hl 3 rfl) ?_
  refine lv_iadd hx hb dX12_video_24 ?_
  obtain ⟨σ1, v2, g1, hf⟩ := zbi_use hf
  refine z_callVi (As := [.int (x1 + x4)]) (rest := [.long (zlshl x2 8)]) hC hI (cX12_video8_met st l D ad cy σ (x1 + x4) _ g1) (zgV zw56_6 zw56_7 zw56_8 zw1_5 zw56_9) rfl ⟨rfl, rfl⟩ 1 hdX12_video8 ⟨Nat.le_of_ble_eq_true rfl, Nat.le_of_ble_eq_true rfl⟩ rfl rfl (wM_e0 ad cy σ) rfl hl rfl (Nat.le_of_ble_eq_true rfl) dX12_video_25 ⟨Nat.zero_le _, Nat.zero_le _⟩ (fun H locs hI => ?_)
  refine lv_i2l (v := v2.toInt64) hx hb dX12_video_28 rfl ?_
  refine lv_lor hx hb dX12_video_29 ?_
  refine lv_topl (fun v3 ev3 => ?_)
  replace hf := zbv_use ev3 hf
  refine lv_lstore_n (lv' := [(2, .long v3), (0, .ref (ad 0)), (1, .int x1), (4, .int x4)]) hx hb dX12_video_30 rfl hl (by decide) rfl (fun ls hl => ?_)
  obtain ⟨v4, ev4⟩ : ∃ z : Int32, z = x4 + (-1) := ⟨_, rfl⟩
  replace hf := zbv_use ev4 hf
  refine lv_iinc (v := v4) (lv' := [(4, .int v4), (2, .long v3), (0, .ref (ad 0)), (1, .int x1)]) hx hb dX12_video_31 hl (k := 3) rfl (by rw [ev4]; rfl) (by decide) rfl (fun ls hl => ?_)
  refine lv_goto (tgt := 11) hx hb dX12_video_34 (by decide) ?_
  exact hk11 _ _ _ _ _ _ _ hI (lv_sub hl [2, 3, 1, 0] rfl) hf
theorem blX12_video_11 {st : Nat → Nat} {p : Program} {l : Launch} {e : Env} {s : State} {m : MethodId} {args : Array Value} {below : List Frame} {meth : Method} {c : Code} {D : va_G} {A : Nat → Prop} {ad : Nat → Nat} {cy : Nat → ClassId} (hC : zC p m c cX12_video 5 s args wzX12_video RX12 meth (some .long))  {res : zSt × Int64} : ∀ (n : Nat) (H : Heap) (locs : List Loc) (σ : zSt) (ls : Array Slot) (x1 : Int32) (x2 : Int64) (x4 : Int32), zI st D (tM cy) (wM ad cy σ) A s H locs → lv_has ls 5 [(0, .ref (ad 0)), (1, .int x1), (2, .long x2), (4, .int x4)] → fX12_video_11  n σ x1 x2 x4 = some res → W p l e rmX12_video s m args below meth c H locs 0 0 (zQl below args s D (tM cy) (wM ad cy) A res) (F0 m 11 ls []) := by
  intro n
  induction n with
  | zero => intro H locs σ ls x1 x2 x4 hI hl hf; cases hf
  | succ n ih => intro H locs σ ls x1 x2 x4 hI hl hf; exact bX12_video_11_body hC ih hI hl hf
set_option maxRecDepth 20000 in
set_option maxHeartbeats 4000000 in
theorem bX12_video {st : Nat → Nat} {p : Program} {l : Launch} {e : Env} {s : State} {m : MethodId} {args : Array Value} {below : List Frame} {meth : Method} {c : Code} {D : va_G} {A : Nat → Prop} {ad : Nat → Nat} {cy : Nat → ClassId} (hC : zC p m c cX12_video 5 s args wzX12_video RX12 meth (some .long))  {res : zSt × Int64} {H : Heap} {locs : List Loc} {σ : zSt} {ls : Array Slot} {x1 : Int32} (hI : zI st D (tM cy) (wM ad cy σ) A s H locs) (hl : lv_has ls 5 [(0, .ref (ad 0)), (1, .int x1)]) (hf : fX12_video  σ x1 = some res) : W p l e rmX12_video s m args below meth c H locs 0 0 (zQl below args s D (tM cy) (wM ad cy) A res) (F0 m 0 ls []) := by
  have hx := hC.1
  have hb := hC.2.1
  unfold fX12_video at hf
  refine lv_aload_n hx hb dX12_video_0 rfl (lv_at hl 0 rfl) ?_
  refine lv_iconst (v := 0) hx hb dX12_video_1 (by decide) ?_
  obtain ⟨σ5, eσ5⟩ : ∃ z, z = zsi σ 0 0 0 := ⟨_, rfl⟩
  replace hf := zbv_use eσ5 hf
  refine z_put hC hI hinX12_video_X120 tyX12_ok nmX12 0 (wM_e0 ad cy σ) rfl 0 (by decide) (List.mem_cons_of_mem _ zw12_1) rfl rfl rfl (Nat.le_of_ble_eq_true rfl) ((wM_s0_0 ad cy σ 0).trans (congrArg (wM ad cy) eσ5.symm)) dX12_video_2 (fun H locs hI => ?_)
  refine lv_lconst (v := 0) hx hb dX12_video_5 (by decide) ?_
  refine lv_lstore_n (lv' := [(2, .long 0), (0, .ref (ad 0)), (1, .int x1)]) hx hb dX12_video_6 rfl hl (by decide) rfl (fun ls hl => ?_)
  refine lv_bipush (v := 7) hx hb dX12_video_7 (by decide) ?_
  refine lv_istore (lv' := [(4, .int 7), (2, .long 0), (0, .ref (ad 0)), (1, .int x1)]) hx hb dX12_video_9 hl (by decide) rfl (fun ls hl => ?_)
  exact blX12_video_11 hC  zfuel _ _ _ _ _ _ _ hI (lv_sub hl [2, 3, 1, 0] rfl) hf
set_option maxRecDepth 20000 in
theorem cX12_video_met (st : Nat → Nat) (l : Launch) (D : va_G) (ad : Nat → Nat) (cy : Nat → ClassId) (σ : zSt) (x1 : Int32) (res : zSt × Int64) (hf : fX12_video σ x1 = some res) (sz : Nat) : zMl st l yX12_video wzX12_video rmX12_video [.ref (ad 0), .int x1] D (tM cy) (wM ad cy) sz σ res :=
  zMl.of (cc := cX12_video) (maxL := 5) (ret := (some .long)) (by decide) rfl (Nat.le_of_ble_eq_true rfl) (fun p e s m args below meth c hC A hI ls hl => bX12_video hC hI hl hf)
theorem hdX12_video : yX12_video.cls = RX12 ∧ yX12_video.cls ≠ "java/lang/invoke/MethodHandle" ∧ yX12_video.cls ≠ "java/lang/invoke/VarHandle" ∧ (parseMethodDescriptor yX12_video.desc).map (fun d => d.parameters.length) = some 1 := by decide +kernel
noncomputable def rmX12_chip : Room := { frames := 4, cells := 0, slots := 0, locals := 85 }
noncomputable def wzX12_chip : List Cond := .code yX12_chip cX12_chip 2 (some .int) :: wsL_law
theorem hinX12_chip_X120 : ∀ w ∈ wsX120, w ∈ wzX12_chip := fun w h => List.mem_cons_of_mem _ (inlX12 w h)
noncomputable def fX12_chip_136  (σ : zSt) (s0 : Int32) : Option (zSt × Int32) :=
  some (σ, s0)
noncomputable def fX12_chip_32  (σ : zSt) (x1 : Int32) (s0 : Int32) : Option (zSt × Int32) :=
  zbi (fX12_fails σ s0 1) (fun σ1 v2 =>
  if v2 = 0 then if x1 ≤ 31 then if 17 ≤ x1 then if x1 = 17 then zbi (fX12_asks σ1 ) (fun σ3 v4 =>
  if v4 = 0 then fX12_chip_136 σ3 0 else
  fX12_chip_136 σ3 1) else
  if x1 = 18 then zck (zin 64 1048) (
  some (σ1, zgi σ1 3 (64 : Int32).toNatClampNeg)) else
  if x1 = 19 then zck (zin 65 1048) (
  some (σ1, zgi σ1 3 (65 : Int32).toNatClampNeg)) else
  if x1 = 20 then zck (zin 66 1048) (
  some (σ1, zgi σ1 3 (66 : Int32).toNatClampNeg)) else
  if x1 = 21 then zck (zin 67 1048) (
  some (σ1, zgi σ1 3 (67 : Int32).toNatClampNeg)) else
  if x1 = 22 then zbi (fX12_mode σ1 ) (fun σ5 v6 =>
  some (σ5, v6)) else
  if x1 = 23 then zbi (fX12_height σ1 ) (fun σ7 v8 =>
  some (σ7, v8)) else
  if x1 = 24 then zbi (fX12_hCount σ1 ) (fun σ9 v10 =>
  some (σ9, v10)) else
  zbi (fX12_vCount σ1 ) (fun σ11 v12 =>
  some (σ11, v12)) else
  zck (zin (47 + x1) 1048) (
  some (σ1, zgi σ1 3 (47 + x1).toNatClampNeg)) else
  zck (zin (x1 - 32) 64) (
  some (σ1, (zgi σ1 8 (x1 - 32).toNatClampNeg) &&& 255)) else
  some (σ1, 0))
noncomputable def fX12_chip_31  (σ : zSt) (x1 : Int32) : Option (zSt × Int32) :=
  fX12_chip_32 σ x1 0
noncomputable def fX12_chip  (σ : zSt) (x1 : Int32) : Option (zSt × Int32) :=
  zbi (fX12_within σ (x1.toInt64) 0 25) (fun σ13 v14 =>
  if v14 = 0 then zbi (fX12_within σ13 (x1.toInt64) 32 95) (fun σ15 v16 =>
  if v16 = 0 then fX12_chip_32 σ15 x1 1 else
  fX12_chip_31 σ15 x1) else
  fX12_chip_31 σ13 x1)
set_option maxRecDepth 20000 in
set_option maxHeartbeats 4000000 in
theorem bX12_chip_136 {st : Nat → Nat} {p : Program} {l : Launch} {e : Env} {s : State} {m : MethodId} {args : Array Value} {below : List Frame} {meth : Method} {c : Code} {D : va_G} {A : Nat → Prop} {ad : Nat → Nat} {cy : Nat → ClassId} (hC : zC p m c cX12_chip 2 s args wzX12_chip RX12 meth (some .int))  {res : zSt × Int32} {H : Heap} {locs : List Loc} {σ : zSt} {ls : Array Slot} {s0 : Int32} (hI : zI st D (tM cy) (wM ad cy σ) A s H locs) (hl : lv_has ls 2 []) (hf : fX12_chip_136  σ s0 = some res) : W p l e rmX12_chip s m args below meth c H locs 0 0 (zQi below args s D (tM cy) (wM ad cy) A res) (F0 m 136 ls [.int s0]) := by
  have hx := hC.1
  have hb := hC.2.1
  unfold fX12_chip_136 at hf
  exact z_ireturn hC hI hf dX12_chip_136
set_option maxRecDepth 20000 in
set_option maxHeartbeats 4000000 in
theorem bX12_chip_32 {st : Nat → Nat} {p : Program} {l : Launch} {e : Env} {s : State} {m : MethodId} {args : Array Value} {below : List Frame} {meth : Method} {c : Code} {D : va_G} {A : Nat → Prop} {ad : Nat → Nat} {cy : Nat → ClassId} (hC : zC p m c cX12_chip 2 s args wzX12_chip RX12 meth (some .int))  {res : zSt × Int32} {H : Heap} {locs : List Loc} {σ : zSt} {ls : Array Slot} {x1 : Int32} {s0 : Int32} (hI : zI st D (tM cy) (wM ad cy σ) A s H locs) (hl : lv_has ls 2 [(0, .ref (ad 0)), (1, .int x1)]) (hf : fX12_chip_32  σ x1 s0 = some res) : W p l e rmX12_chip s m args below meth c H locs 0 0 (zQi below args s D (tM cy) (wM ad cy) A res) (F0 m 32 ls [.int s0, .ref (ad 0)]) := by
  have hx := hC.1
  have hb := hC.2.1
  unfold fX12_chip_32 at hf
  refine lv_iconst (v := 1) hx hb dX12_chip_32 (by decide) ?_
  obtain ⟨σ1, v2, g1, hf⟩ := zbi_use hf
  refine z_callVi (As := [.int s0, .int 1]) (rest := []) hC hI (cX12_fails_met st l D ad cy σ s0 1 _ g1) (zgV zw11_21 zw11_22 zw11_23 zw1_5 zw12_0) rfl ⟨rfl, rfl⟩ 2 hdX12_fails ⟨Nat.le_of_ble_eq_true rfl, Nat.le_of_ble_eq_true rfl⟩ rfl rfl (wM_e0 ad cy σ) rfl hl rfl (Nat.le_of_ble_eq_true rfl) dX12_chip_33 ⟨Nat.zero_le _, Nat.zero_le _⟩ (fun H locs hI => ?_)
  refine lv_if_eq (tgt := 41) hx hb dX12_chip_36 (by decide) (fun q => ?_) (fun q => ?_)
  · replace hf := zif_t q hf
    refine lv_iload_n hx hb dX12_chip_41 rfl (lv_at hl 1 rfl) ?_
    refine lv_bipush (v := 31) hx hb dX12_chip_42 (by decide) ?_
    refine lv_icmp_le (tgt := 61) hx hb dX12_chip_44 (by decide) (fun q => ?_) (fun q => ?_)
    · replace hf := zif_t q hf
      refine lv_iload_n hx hb dX12_chip_61 rfl (lv_at hl 1 rfl) ?_
      refine lv_bipush (v := 17) hx hb dX12_chip_62 (by decide) ?_
      refine lv_icmp_ge (tgt := 77) hx hb dX12_chip_64 (by decide) (fun q => ?_) (fun q => ?_)
      · replace hf := zif_t q hf
        refine lv_iload_n hx hb dX12_chip_77 rfl (lv_at hl 1 rfl) ?_
        by_cases q0 : x1 = 17
        · replace hf := zif_t q0 hf
          refine lv_tableIn (tgt := 124) hx hb dX12_chip_78 (by rw [q0]; decide) (by rw [q0]; decide) (by rw [q0]; rfl) (by decide) ?_
          refine lv_aload_n hx hb dX12_chip_124 rfl (lv_at hl 0 rfl) ?_
          obtain ⟨σ3, v4, g3, hf⟩ := zbi_use hf
          refine z_callVi (As := []) (rest := []) hC hI (cX12_asks_met st l D ad cy σ1  _ g3) (zgV zw48_20 zw48_21 zw48_22 zw1_5 zw48_23) rfl ⟨rfl, rfl⟩ 0 hdX12_asks ⟨Nat.le_of_ble_eq_true rfl, Nat.le_of_ble_eq_true rfl⟩ rfl rfl (wM_e0 ad cy σ1) rfl hl rfl (Nat.le_of_ble_eq_true rfl) dX12_chip_125 ⟨Nat.zero_le _, Nat.zero_le _⟩ (fun H locs hI => ?_)
          refine lv_if_eq (tgt := 135) hx hb dX12_chip_128 (by decide) (fun q => ?_) (fun q => ?_)
          · replace hf := zif_t q hf
            refine lv_iconst (v := 0) hx hb dX12_chip_135 (by decide) ?_
            exact bX12_chip_136 hC  hI (lv_sub hl [] rfl) hf
          replace hf := zif_f q hf
          refine lv_iconst (v := 1) hx hb dX12_chip_131 (by decide) ?_
          refine lv_goto (tgt := 136) hx hb dX12_chip_132 (by decide) ?_
          exact bX12_chip_136 hC  hI (lv_sub hl [] rfl) hf
        replace hf := zif_f q0 hf
        by_cases q1 : x1 = 18
        · replace hf := zif_t q1 hf
          refine lv_tableIn (tgt := 137) hx hb dX12_chip_78 (by rw [q1]; decide) (by rw [q1]; decide) (by rw [q1]; rfl) (by decide) ?_
          refine lv_aload_n hx hb dX12_chip_137 rfl (lv_at hl 0 rfl) ?_
          refine z_get hC hI hinX12_chip_X120 0 (wM_e0 ad cy σ1) rfl 10 (by decide) (List.mem_cons_of_mem _ zw9_7) rfl dX12_chip_138 ?_
          refine lv_bipush (v := 64) hx hb dX12_chip_141 (by decide) ?_
          obtain ⟨q, hf⟩ := zck_use hf
          refine z_iald hC hI 3 2 (wM_e3 ad cy σ1) (tM_t3 cy) q dX12_chip_143 ?_
          exact z_ireturn hC hI hf dX12_chip_144
        replace hf := zif_f q1 hf
        by_cases q2 : x1 = 19
        · replace hf := zif_t q2 hf
          refine lv_tableIn (tgt := 145) hx hb dX12_chip_78 (by rw [q2]; decide) (by rw [q2]; decide) (by rw [q2]; rfl) (by decide) ?_
          refine lv_aload_n hx hb dX12_chip_145 rfl (lv_at hl 0 rfl) ?_
          refine z_get hC hI hinX12_chip_X120 0 (wM_e0 ad cy σ1) rfl 10 (by decide) (List.mem_cons_of_mem _ zw9_7) rfl dX12_chip_146 ?_
          refine lv_bipush (v := 65) hx hb dX12_chip_149 (by decide) ?_
          obtain ⟨q, hf⟩ := zck_use hf
          refine z_iald hC hI 3 2 (wM_e3 ad cy σ1) (tM_t3 cy) q dX12_chip_151 ?_
          exact z_ireturn hC hI hf dX12_chip_152
        replace hf := zif_f q2 hf
        by_cases q3 : x1 = 20
        · replace hf := zif_t q3 hf
          refine lv_tableIn (tgt := 153) hx hb dX12_chip_78 (by rw [q3]; decide) (by rw [q3]; decide) (by rw [q3]; rfl) (by decide) ?_
          refine lv_aload_n hx hb dX12_chip_153 rfl (lv_at hl 0 rfl) ?_
          refine z_get hC hI hinX12_chip_X120 0 (wM_e0 ad cy σ1) rfl 10 (by decide) (List.mem_cons_of_mem _ zw9_7) rfl dX12_chip_154 ?_
          refine lv_bipush (v := 66) hx hb dX12_chip_157 (by decide) ?_
          obtain ⟨q, hf⟩ := zck_use hf
          refine z_iald hC hI 3 2 (wM_e3 ad cy σ1) (tM_t3 cy) q dX12_chip_159 ?_
          exact z_ireturn hC hI hf dX12_chip_160
        replace hf := zif_f q3 hf
        by_cases q4 : x1 = 21
        · replace hf := zif_t q4 hf
          refine lv_tableIn (tgt := 161) hx hb dX12_chip_78 (by rw [q4]; decide) (by rw [q4]; decide) (by rw [q4]; rfl) (by decide) ?_
          refine lv_aload_n hx hb dX12_chip_161 rfl (lv_at hl 0 rfl) ?_
          refine z_get hC hI hinX12_chip_X120 0 (wM_e0 ad cy σ1) rfl 10 (by decide) (List.mem_cons_of_mem _ zw9_7) rfl dX12_chip_162 ?_
          refine lv_bipush (v := 67) hx hb dX12_chip_165 (by decide) ?_
          obtain ⟨q, hf⟩ := zck_use hf
          refine z_iald hC hI 3 2 (wM_e3 ad cy σ1) (tM_t3 cy) q dX12_chip_167 ?_
          exact z_ireturn hC hI hf dX12_chip_168
        replace hf := zif_f q4 hf
        by_cases q5 : x1 = 22
        · replace hf := zif_t q5 hf
          refine lv_tableIn (tgt := 169) hx hb dX12_chip_78 (by rw [q5]; decide) (by rw [q5]; decide) (by rw [q5]; rfl) (by decide) ?_
          refine lv_aload_n hx hb dX12_chip_169 rfl (lv_at hl 0 rfl) ?_
          obtain ⟨σ5, v6, g5, hf⟩ := zbi_use hf
          refine z_callVi (As := []) (rest := []) hC hI (cX12_mode_met st l D ad cy σ1  _ g5) (zgV zw57_6 zw57_7 zw57_8 zw1_5 zw57_9) rfl ⟨rfl, rfl⟩ 0 hdX12_mode ⟨Nat.le_of_ble_eq_true rfl, Nat.le_of_ble_eq_true rfl⟩ rfl rfl (wM_e0 ad cy σ1) rfl hl rfl (Nat.le_of_ble_eq_true rfl) dX12_chip_170 ⟨Nat.zero_le _, Nat.zero_le _⟩ (fun H locs hI => ?_)
          exact z_ireturn hC hI hf dX12_chip_173
        replace hf := zif_f q5 hf
        by_cases q6 : x1 = 23
        · replace hf := zif_t q6 hf
          refine lv_tableIn (tgt := 174) hx hb dX12_chip_78 (by rw [q6]; decide) (by rw [q6]; decide) (by rw [q6]; rfl) (by decide) ?_
          refine lv_aload_n hx hb dX12_chip_174 rfl (lv_at hl 0 rfl) ?_
          obtain ⟨σ7, v8, g7, hf⟩ := zbi_use hf
          refine z_callVi (As := []) (rest := []) hC hI (cX12_height_met st l D ad cy σ1  _ g7) (zgV zw57_2 zw57_3 zw57_4 zw1_5 zw57_5) rfl ⟨rfl, rfl⟩ 0 hdX12_height ⟨Nat.le_of_ble_eq_true rfl, Nat.le_of_ble_eq_true rfl⟩ rfl rfl (wM_e0 ad cy σ1) rfl hl rfl (Nat.le_of_ble_eq_true rfl) dX12_chip_175 ⟨Nat.zero_le _, Nat.zero_le _⟩ (fun H locs hI => ?_)
          exact z_ireturn hC hI hf dX12_chip_178
        replace hf := zif_f q6 hf
        by_cases q7 : x1 = 24
        · replace hf := zif_t q7 hf
          refine lv_tableIn (tgt := 179) hx hb dX12_chip_78 (by rw [q7]; decide) (by rw [q7]; decide) (by rw [q7]; rfl) (by decide) ?_
          refine lv_aload_n hx hb dX12_chip_179 rfl (lv_at hl 0 rfl) ?_
          obtain ⟨σ9, v10, g9, hf⟩ := zbi_use hf
          refine z_callVi (As := []) (rest := []) hC hI (cX12_hCount_met st l D ad cy σ1  _ g9) (zgV zw55_18 zw55_19 zw55_20 zw1_5 zw55_21) rfl ⟨rfl, rfl⟩ 0 hdX12_hCount ⟨Nat.le_of_ble_eq_true rfl, Nat.le_of_ble_eq_true rfl⟩ rfl rfl (wM_e0 ad cy σ1) rfl hl rfl (Nat.le_of_ble_eq_true rfl) dX12_chip_180 ⟨Nat.zero_le _, Nat.zero_le _⟩ (fun H locs hI => ?_)
          exact z_ireturn hC hI hf dX12_chip_183
        replace hf := zif_f q7 hf
        refine lv_tableOut (tgt := 184) hx hb dX12_chip_78 (zsw (fun k h1 h2 => by rcases (show k = 17 ∨ k = 18 ∨ k = 19 ∨ k = 20 ∨ k = 21 ∨ k = 22 ∨ k = 23 ∨ k = 24 by omega) with rfl | rfl | rfl | rfl | rfl | rfl | rfl | rfl <;> assumption)) (by decide) ?_
        refine lv_aload_n hx hb dX12_chip_184 rfl (lv_at hl 0 rfl) ?_
        obtain ⟨σ11, v12, g11, hf⟩ := zbi_use hf
        refine z_callVi (As := []) (rest := []) hC hI (cX12_vCount_met st l D ad cy σ1  _ g11) (zgV zw56_22 zw56_23 zw57_0 zw1_5 zw57_1) rfl ⟨rfl, rfl⟩ 0 hdX12_vCount ⟨Nat.le_of_ble_eq_true rfl, Nat.le_of_ble_eq_true rfl⟩ rfl rfl (wM_e0 ad cy σ1) rfl hl rfl (Nat.le_of_ble_eq_true rfl) dX12_chip_185 ⟨Nat.zero_le _, Nat.zero_le _⟩ (fun H locs hI => ?_)
        exact z_ireturn hC hI hf dX12_chip_188
      replace hf := zif_f q hf
      refine lv_aload_n hx hb dX12_chip_67 rfl (lv_at hl 0 rfl) ?_
      refine z_get hC hI hinX12_chip_X120 0 (wM_e0 ad cy σ1) rfl 10 (by decide) (List.mem_cons_of_mem _ zw9_7) rfl dX12_chip_68 ?_
      refine lv_bipush (v := 47) hx hb dX12_chip_71 (by decide) ?_
      refine lv_iload_n hx hb dX12_chip_73 rfl (lv_at hl 1 rfl) ?_
      refine lv_iadd hx hb dX12_chip_74 ?_
      obtain ⟨q, hf⟩ := zck_use hf
      refine z_iald hC hI 3 2 (wM_e3 ad cy σ1) (tM_t3 cy) q dX12_chip_75 ?_
      exact z_ireturn hC hI hf dX12_chip_76
    replace hf := zif_f q hf
    refine lv_aload_n hx hb dX12_chip_47 rfl (lv_at hl 0 rfl) ?_
    refine z_get hC hI hinX12_chip_X120 0 (wM_e0 ad cy σ1) rfl 15 (by decide) (List.mem_cons_of_mem _ zw9_13) rfl dX12_chip_48 ?_
    refine lv_iload_n hx hb dX12_chip_51 rfl (lv_at hl 1 rfl) ?_
    refine lv_bipush (v := 32) hx hb dX12_chip_52 (by decide) ?_
    refine lv_isub hx hb dX12_chip_54 ?_
    obtain ⟨q, hf⟩ := zck_use hf
    refine z_bald hC hI 8 7 (wM_e8 ad cy σ1) (tM_t8 cy) q dX12_chip_55 ?_
    refine lv_sipush (v := 255) hx hb dX12_chip_56 (by decide) ?_
    refine lv_iand hx hb dX12_chip_59 ?_
    exact z_ireturn hC hI hf dX12_chip_60
  replace hf := zif_f q hf
  refine lv_iconst (v := 0) hx hb dX12_chip_39 (by decide) ?_
  exact z_ireturn hC hI hf dX12_chip_40
set_option maxRecDepth 20000 in
set_option maxHeartbeats 4000000 in
theorem bX12_chip_31 {st : Nat → Nat} {p : Program} {l : Launch} {e : Env} {s : State} {m : MethodId} {args : Array Value} {below : List Frame} {meth : Method} {c : Code} {D : va_G} {A : Nat → Prop} {ad : Nat → Nat} {cy : Nat → ClassId} (hC : zC p m c cX12_chip 2 s args wzX12_chip RX12 meth (some .int))  {res : zSt × Int32} {H : Heap} {locs : List Loc} {σ : zSt} {ls : Array Slot} {x1 : Int32} (hI : zI st D (tM cy) (wM ad cy σ) A s H locs) (hl : lv_has ls 2 [(0, .ref (ad 0)), (1, .int x1)]) (hf : fX12_chip_31  σ x1 = some res) : W p l e rmX12_chip s m args below meth c H locs 0 0 (zQi below args s D (tM cy) (wM ad cy) A res) (F0 m 31 ls [.ref (ad 0)]) := by
  have hx := hC.1
  have hb := hC.2.1
  unfold fX12_chip_31 at hf
  refine lv_iconst (v := 0) hx hb dX12_chip_31 (by decide) ?_
  exact bX12_chip_32 hC  hI hl hf
set_option maxRecDepth 20000 in
set_option maxHeartbeats 4000000 in
theorem bX12_chip {st : Nat → Nat} {p : Program} {l : Launch} {e : Env} {s : State} {m : MethodId} {args : Array Value} {below : List Frame} {meth : Method} {c : Code} {D : va_G} {A : Nat → Prop} {ad : Nat → Nat} {cy : Nat → ClassId} (hC : zC p m c cX12_chip 2 s args wzX12_chip RX12 meth (some .int))  {res : zSt × Int32} {H : Heap} {locs : List Loc} {σ : zSt} {ls : Array Slot} {x1 : Int32} (hI : zI st D (tM cy) (wM ad cy σ) A s H locs) (hl : lv_has ls 2 [(0, .ref (ad 0)), (1, .int x1)]) (hf : fX12_chip  σ x1 = some res) : W p l e rmX12_chip s m args below meth c H locs 0 0 (zQi below args s D (tM cy) (wM ad cy) A res) (F0 m 0 ls []) := by
  have hx := hC.1
  have hb := hC.2.1
  unfold fX12_chip at hf
  refine lv_aload_n hx hb dX12_chip_0 rfl (lv_at hl 0 rfl) ?_
  refine lv_iload_n hx hb dX12_chip_1 rfl (lv_at hl 1 rfl) ?_
  refine lv_i2l (v := x1.toInt64) hx hb dX12_chip_2 rfl ?_
  refine lv_lconst (v := 0) hx hb dX12_chip_3 (by decide) ?_
  refine lv_ldc2 (v := 25) hx hb hC.2.2.2.1 (hC.2.2.2.2.1 _ (List.mem_cons_of_mem _ zw85_20)) dX12_chip_4 ?_
  obtain ⟨σ13, v14, g13, hf⟩ := zbi_use hf
  refine z_callSi (As := [.long (x1.toInt64), .long 0, .long 25]) (rest := [.ref (ad 0)]) hC hI (cX12_within_met st l D ad cy σ (x1.toInt64) 0 25 _ g13) (zgS zw11_18 zw11_19 zw1_5 zw11_20) rfl ⟨rfl, rfl⟩ 3 hdX12_within ⟨Nat.le_of_ble_eq_true rfl, Nat.le_of_ble_eq_true rfl⟩ rfl hl rfl (Nat.le_of_ble_eq_true rfl) dX12_chip_7 ⟨Nat.zero_le _, Nat.zero_le _⟩ (fun H locs hI => ?_)
  refine lv_if_ne (tgt := 31) hx hb dX12_chip_10 (by decide) (fun q => ?_) (fun q => ?_)
  · replace hf := zif_f q hf
    exact bX12_chip_31 hC  hI hl hf
  replace hf := zif_t q hf
  refine lv_iload_n hx hb dX12_chip_13 rfl (lv_at hl 1 rfl) ?_
  refine lv_i2l (v := x1.toInt64) hx hb dX12_chip_14 rfl ?_
  refine lv_ldc2 (v := 32) hx hb hC.2.2.2.1 (hC.2.2.2.2.1 _ (List.mem_cons_of_mem _ zw47_9)) dX12_chip_15 ?_
  refine lv_ldc2 (v := 95) hx hb hC.2.2.2.1 (hC.2.2.2.2.1 _ (List.mem_cons_of_mem _ zw90_1)) dX12_chip_18 ?_
  obtain ⟨σ15, v16, g15, hf⟩ := zbi_use hf
  refine z_callSi (As := [.long (x1.toInt64), .long 32, .long 95]) (rest := [.ref (ad 0)]) hC hI (cX12_within_met st l D ad cy σ13 (x1.toInt64) 32 95 _ g15) (zgS zw11_18 zw11_19 zw1_5 zw11_20) rfl ⟨rfl, rfl⟩ 3 hdX12_within ⟨Nat.le_of_ble_eq_true rfl, Nat.le_of_ble_eq_true rfl⟩ rfl hl rfl (Nat.le_of_ble_eq_true rfl) dX12_chip_21 ⟨Nat.zero_le _, Nat.zero_le _⟩ (fun H locs hI => ?_)
  refine lv_if_ne (tgt := 31) hx hb dX12_chip_24 (by decide) (fun q => ?_) (fun q => ?_)
  · replace hf := zif_f q hf
    exact bX12_chip_31 hC  hI hl hf
  replace hf := zif_t q hf
  refine lv_iconst (v := 1) hx hb dX12_chip_27 (by decide) ?_
  refine lv_goto (tgt := 32) hx hb dX12_chip_28 (by decide) ?_
  exact bX12_chip_32 hC  hI hl hf
set_option maxRecDepth 20000 in
theorem cX12_chip_met (st : Nat → Nat) (l : Launch) (D : va_G) (ad : Nat → Nat) (cy : Nat → ClassId) (σ : zSt) (x1 : Int32) (res : zSt × Int32) (hf : fX12_chip σ x1 = some res) (sz : Nat) : zMi st l yX12_chip wzX12_chip rmX12_chip [.ref (ad 0), .int x1] D (tM cy) (wM ad cy) sz σ res :=
  zMi.of (cc := cX12_chip) (maxL := 2) (ret := (some .int)) (by decide) rfl (Nat.le_of_ble_eq_true rfl) (fun p e s m args below meth c hC A hI ls hl => bX12_chip hC hI hl hf)
theorem hdX12_chip : yX12_chip.cls = RX12 ∧ yX12_chip.cls ≠ "java/lang/invoke/MethodHandle" ∧ yX12_chip.cls ≠ "java/lang/invoke/VarHandle" ∧ (parseMethodDescriptor yX12_chip.desc).map (fun d => d.parameters.length) = some 1 := by decide +kernel
noncomputable def rmX12_trace : Room := { frames := 1, cells := 0, slots := 0, locals := 25 }
noncomputable def wzX12_trace : List Cond := .code yX12_trace cX12_trace 2 (some .int) :: wsL_law
theorem hinX12_trace_X120 : ∀ w ∈ wsX120, w ∈ wzX12_trace := fun w h => List.mem_cons_of_mem _ (inlX12 w h)
noncomputable def fX12_trace_50  (σ : zSt) (s0 : Int32) : Option (zSt × Int32) :=
  some (σ, s0)
noncomputable def fX12_trace_27  (σ : zSt)  : Option (zSt × Int32) :=
  fX12_trace_50 σ (-1)
noncomputable def fX12_trace  (σ : zSt) (x1 : Int32) : Option (zSt × Int32) :=
  zbv (zsi σ 0 0 0) (fun σ1 =>
  zbi (fX12_within σ1 (x1.toInt64) 0 31) (fun σ2 v3 =>
  if v3 = 0 then fX12_trace_27 σ2 else
  if (lg_cmp (x1.toInt64) (zgl σ2 0 30)) < 0 then zck (decide (¬ 32 = 0)) (
  zck (zin ((zreml (((zgl σ2 0 30) - 1) - (x1.toInt64)) 32).toInt32) 32) (
  fX12_trace_50 σ2 (zgi σ2 21 ((zreml (((zgl σ2 0 30) - 1) - (x1.toInt64)) 32).toInt32).toNatClampNeg))) else
  fX12_trace_27 σ2))
set_option maxRecDepth 20000 in
set_option maxHeartbeats 4000000 in
theorem bX12_trace_50 {st : Nat → Nat} {p : Program} {l : Launch} {e : Env} {s : State} {m : MethodId} {args : Array Value} {below : List Frame} {meth : Method} {c : Code} {D : va_G} {A : Nat → Prop} {ad : Nat → Nat} {cy : Nat → ClassId} (hC : zC p m c cX12_trace 2 s args wzX12_trace RX12 meth (some .int))  {res : zSt × Int32} {H : Heap} {locs : List Loc} {σ : zSt} {ls : Array Slot} {s0 : Int32} (hI : zI st D (tM cy) (wM ad cy σ) A s H locs) (hl : lv_has ls 2 []) (hf : fX12_trace_50  σ s0 = some res) : W p l e rmX12_trace s m args below meth c H locs 0 0 (zQi below args s D (tM cy) (wM ad cy) A res) (F0 m 50 ls [.int s0]) := by
  have hx := hC.1
  have hb := hC.2.1
  unfold fX12_trace_50 at hf
  exact z_ireturn hC hI hf dX12_trace_50
set_option maxRecDepth 20000 in
set_option maxHeartbeats 4000000 in
theorem bX12_trace_27 {st : Nat → Nat} {p : Program} {l : Launch} {e : Env} {s : State} {m : MethodId} {args : Array Value} {below : List Frame} {meth : Method} {c : Code} {D : va_G} {A : Nat → Prop} {ad : Nat → Nat} {cy : Nat → ClassId} (hC : zC p m c cX12_trace 2 s args wzX12_trace RX12 meth (some .int))  {res : zSt × Int32} {H : Heap} {locs : List Loc} {σ : zSt} {ls : Array Slot}  (hI : zI st D (tM cy) (wM ad cy σ) A s H locs) (hl : lv_has ls 2 []) (hf : fX12_trace_27  σ  = some res) : W p l e rmX12_trace s m args below meth c H locs 0 0 (zQi below args s D (tM cy) (wM ad cy) A res) (F0 m 27 ls []) := by
  have hx := hC.1
  have hb := hC.2.1
  unfold fX12_trace_27 at hf
  refine lv_iconst (v := (-1)) hx hb dX12_trace_27 (by decide) ?_
  refine lv_goto (tgt := 50) hx hb dX12_trace_28 (by decide) ?_
  exact bX12_trace_50 hC  hI hl hf
set_option maxRecDepth 20000 in
set_option maxHeartbeats 4000000 in
theorem bX12_trace {st : Nat → Nat} {p : Program} {l : Launch} {e : Env} {s : State} {m : MethodId} {args : Array Value} {below : List Frame} {meth : Method} {c : Code} {D : va_G} {A : Nat → Prop} {ad : Nat → Nat} {cy : Nat → ClassId} (hC : zC p m c cX12_trace 2 s args wzX12_trace RX12 meth (some .int))  {res : zSt × Int32} {H : Heap} {locs : List Loc} {σ : zSt} {ls : Array Slot} {x1 : Int32} (hI : zI st D (tM cy) (wM ad cy σ) A s H locs) (hl : lv_has ls 2 [(0, .ref (ad 0)), (1, .int x1)]) (hf : fX12_trace  σ x1 = some res) : W p l e rmX12_trace s m args below meth c H locs 0 0 (zQi below args s D (tM cy) (wM ad cy) A res) (F0 m 0 ls []) := by
  have hx := hC.1
  have hb := hC.2.1
  unfold fX12_trace at hf
  refine lv_aload_n hx hb dX12_trace_0 rfl (lv_at hl 0 rfl) ?_
  refine lv_iconst (v := 0) hx hb dX12_trace_1 (by decide) ?_
  obtain ⟨σ1, eσ1⟩ : ∃ z, z = zsi σ 0 0 0 := ⟨_, rfl⟩
  replace hf := zbv_use eσ1 hf
  refine z_put hC hI hinX12_trace_X120 tyX12_ok nmX12 0 (wM_e0 ad cy σ) rfl 0 (by decide) (List.mem_cons_of_mem _ zw12_1) rfl rfl rfl (Nat.le_of_ble_eq_true rfl) ((wM_s0_0 ad cy σ 0).trans (congrArg (wM ad cy) eσ1.symm)) dX12_trace_2 (fun H locs hI => ?_)
  refine lv_iload_n hx hb dX12_trace_5 rfl (lv_at hl 1 rfl) ?_
  refine lv_i2l (v := x1.toInt64) hx hb dX12_trace_6 rfl ?_
  refine lv_lconst (v := 0) hx hb dX12_trace_7 (by decide) ?_
  refine lv_ldc2 (v := 31) hx hb hC.2.2.2.1 (hC.2.2.2.2.1 _ (List.mem_cons_of_mem _ zw95_5)) dX12_trace_8 ?_
  obtain ⟨σ2, v3, g2, hf⟩ := zbi_use hf
  refine z_callSi (As := [.long (x1.toInt64), .long 0, .long 31]) (rest := []) hC hI (cX12_within_met st l D ad cy σ1 (x1.toInt64) 0 31 _ g2) (zgS zw11_18 zw11_19 zw1_5 zw11_20) rfl ⟨rfl, rfl⟩ 3 hdX12_within ⟨Nat.le_of_ble_eq_true rfl, Nat.le_of_ble_eq_true rfl⟩ rfl hl rfl (Nat.le_of_ble_eq_true rfl) dX12_trace_11 ⟨Nat.zero_le _, Nat.zero_le _⟩ (fun H locs hI => ?_)
  refine lv_if_eq (tgt := 27) hx hb dX12_trace_14 (by decide) (fun q => ?_) (fun q => ?_)
  · replace hf := zif_t q hf
    exact bX12_trace_27 hC  hI (lv_sub hl [] rfl) hf
  replace hf := zif_f q hf
  refine lv_iload_n hx hb dX12_trace_17 rfl (lv_at hl 1 rfl) ?_
  refine lv_i2l (v := x1.toInt64) hx hb dX12_trace_18 rfl ?_
  refine lv_aload_n hx hb dX12_trace_19 rfl (lv_at hl 0 rfl) ?_
  refine z_get hC hI hinX12_trace_X120 0 (wM_e0 ad cy σ2) rfl 30 (by decide) (List.mem_cons_of_mem _ zw47_8) rfl dX12_trace_20 ?_
  refine W.lcmp hx hb dX12_trace_23 ?_
  refine lv_if_lt (tgt := 31) hx hb dX12_trace_24 (by decide) (fun q => ?_) (fun q => ?_)
  · replace hf := zif_t q hf
    refine lv_aload_n hx hb dX12_trace_31 rfl (lv_at hl 0 rfl) ?_
    refine z_get hC hI hinX12_trace_X120 0 (wM_e0 ad cy σ2) rfl 29 (by decide) (List.mem_cons_of_mem _ zw10_3) rfl dX12_trace_32 ?_
    refine lv_aload_n hx hb dX12_trace_35 rfl (lv_at hl 0 rfl) ?_
    refine z_get hC hI hinX12_trace_X120 0 (wM_e0 ad cy σ2) rfl 30 (by decide) (List.mem_cons_of_mem _ zw47_8) rfl dX12_trace_36 ?_
    refine lv_lconst (v := 1) hx hb dX12_trace_39 (by decide) ?_
    refine lv_lsub hx hb dX12_trace_40 ?_
    refine lv_iload_n hx hb dX12_trace_41 rfl (lv_at hl 1 rfl) ?_
    refine lv_i2l (v := x1.toInt64) hx hb dX12_trace_42 rfl ?_
    refine lv_lsub hx hb dX12_trace_43 ?_
    refine lv_ldc2 (v := 32) hx hb hC.2.2.2.1 (hC.2.2.2.2.1 _ (List.mem_cons_of_mem _ zw47_9)) dX12_trace_44 ?_
    obtain ⟨q, hf⟩ := zck_use hf
    refine z_lrem hx hb dX12_trace_47 (of_decide_eq_true q) ?_
    refine lv_l2i (v := (zreml (((zgl σ2 0 30) - 1) - (x1.toInt64)) 32).toInt32) hx hb dX12_trace_48 rfl ?_
    obtain ⟨q, hf⟩ := zck_use hf
    refine z_iald hC hI 21 20 (wM_e21 ad cy σ2) (tM_t21 cy) q dX12_trace_49 ?_
    exact bX12_trace_50 hC  hI (lv_sub hl [] rfl) hf
  replace hf := zif_f q hf
  exact bX12_trace_27 hC  hI (lv_sub hl [] rfl) hf
set_option maxRecDepth 20000 in
theorem cX12_trace_met (st : Nat → Nat) (l : Launch) (D : va_G) (ad : Nat → Nat) (cy : Nat → ClassId) (σ : zSt) (x1 : Int32) (res : zSt × Int32) (hf : fX12_trace σ x1 = some res) (sz : Nat) : zMi st l yX12_trace wzX12_trace rmX12_trace [.ref (ad 0), .int x1] D (tM cy) (wM ad cy) sz σ res :=
  zMi.of (cc := cX12_trace) (maxL := 2) (ret := (some .int)) (by decide) rfl (Nat.le_of_ble_eq_true rfl) (fun p e s m args below meth c hC A hI ls hl => bX12_trace hC hI hl hf)
theorem hdX12_trace : yX12_trace.cls = RX12 ∧ yX12_trace.cls ≠ "java/lang/invoke/MethodHandle" ∧ yX12_trace.cls ≠ "java/lang/invoke/VarHandle" ∧ (parseMethodDescriptor yX12_trace.desc).map (fun d => d.parameters.length) = some 1 := by decide +kernel
noncomputable def rmX12_look : Room := { frames := 1, cells := 0, slots := 0, locals := 25 }
noncomputable def wzX12_look : List Cond := .code yX12_look cX12_look 2 (some .long) :: wsL_law
theorem hinX12_look_X120 : ∀ w ∈ wsX120, w ∈ wzX12_look := fun w h => List.mem_cons_of_mem _ (inlX12 w h)
noncomputable def fX12_look_116  (σ : zSt) (x1 : Int32) : Option (zSt × Int64) :=
  zck (zin x1 5) (
  some (σ, zgl σ 4 x1.toNatClampNeg))
noncomputable def fX12_look_169  (σ : zSt) (x1 : Int32) : Option (zSt × Int64) :=
  zck (zin ((29 + x1) - 9) 1048) (
  some (σ, (zgi σ 3 ((29 + x1) - 9).toNatClampNeg).toInt64))
noncomputable def fX12_look_222  (σ : zSt) (s0 : Int64) : Option (zSt × Int64) :=
  some (σ, s0)
noncomputable def fX12_look_18  (σ : zSt) (x1 : Int32) (s0 : Int32) : Option (zSt × Int64) :=
  zbi (fX12_fails σ s0 1) (fun σ1 v2 =>
  if v2 = 0 then if x1 = 0 then fX12_look_116 σ1 x1 else
  if x1 = 1 then fX12_look_116 σ1 x1 else
  if x1 = 2 then fX12_look_116 σ1 x1 else
  if x1 = 3 then zck (zin 87 1048) (
  some (σ1, (zgi σ1 3 (87 : Int32).toNatClampNeg).toInt64)) else
  if x1 = 4 then zck (zin 3 5) (
  some (σ1, zgl σ1 4 (3 : Int32).toNatClampNeg)) else
  if x1 = 5 then some (σ1, (zgi σ1 0 2).toInt64) else
  if x1 = 6 then zck (zin 89 1048) (
  some (σ1, (zgi σ1 3 (89 : Int32).toNatClampNeg).toInt64)) else
  if x1 = 7 then some (σ1, (zgi σ1 0 5).toInt64) else
  if x1 = 8 then zck (zin 32 1048) (
  some (σ1, (zgi σ1 3 (32 : Int32).toNatClampNeg).toInt64)) else
  if x1 = 9 then fX12_look_169 σ1 x1 else
  if x1 = 10 then fX12_look_169 σ1 x1 else
  if x1 = 11 then fX12_look_169 σ1 x1 else
  if x1 = 12 then zck (zin 28 1048) (
  some (σ1, (zgi σ1 3 (28 : Int32).toNatClampNeg).toInt64)) else
  if x1 = 13 then zck (zin 35 1048) (
  some (σ1, (zgi σ1 3 (35 : Int32).toNatClampNeg).toInt64)) else
  if x1 = 14 then zck (zin 33 1048) (
  some (σ1, (zgi σ1 3 (33 : Int32).toNatClampNeg).toInt64)) else
  if x1 = 15 then if (zgi σ1 0 19) = 0 then fX12_look_222 σ1 0 else
  fX12_look_222 σ1 1 else
  if x1 = 16 then zck (zin 171 1048) (
  some (σ1, (zgi σ1 3 (171 : Int32).toNatClampNeg).toInt64)) else
  if x1 = 17 then zck (zin 169 1048) (
  some (σ1, (zgi σ1 3 (169 : Int32).toNatClampNeg).toInt64)) else
  some (σ1, (zgi σ1 0 39).toInt64) else
  some (σ1, 0))
noncomputable def fX12_look  (σ : zSt) (x1 : Int32) : Option (zSt × Int64) :=
  zbi (fX12_within σ (x1.toInt64) 0 18) (fun σ3 v4 =>
  if v4 = 0 then fX12_look_18 σ3 x1 1 else
  fX12_look_18 σ3 x1 0)
set_option maxRecDepth 20000 in
set_option maxHeartbeats 4000000 in
theorem bX12_look_116 {st : Nat → Nat} {p : Program} {l : Launch} {e : Env} {s : State} {m : MethodId} {args : Array Value} {below : List Frame} {meth : Method} {c : Code} {D : va_G} {A : Nat → Prop} {ad : Nat → Nat} {cy : Nat → ClassId} (hC : zC p m c cX12_look 2 s args wzX12_look RX12 meth (some .long))  {res : zSt × Int64} {H : Heap} {locs : List Loc} {σ : zSt} {ls : Array Slot} {x1 : Int32} (hI : zI st D (tM cy) (wM ad cy σ) A s H locs) (hl : lv_has ls 2 [(0, .ref (ad 0)), (1, .int x1)]) (hf : fX12_look_116  σ x1 = some res) : W p l e rmX12_look s m args below meth c H locs 0 0 (zQl below args s D (tM cy) (wM ad cy) A res) (F0 m 116 ls []) := by
  have hx := hC.1
  have hb := hC.2.1
  unfold fX12_look_116 at hf
  refine lv_aload_n hx hb dX12_look_116 rfl (lv_at hl 0 rfl) ?_
  refine z_get hC hI hinX12_look_X120 0 (wM_e0 ad cy σ) rfl 11 (by decide) (List.mem_cons_of_mem _ zw9_8) rfl dX12_look_117 ?_
  refine lv_iload_n hx hb dX12_look_120 rfl (lv_at hl 1 rfl) ?_
  obtain ⟨q, hf⟩ := zck_use hf
  refine z_lald hC hI 4 3 (wM_e4 ad cy σ) (tM_t4 cy) q dX12_look_121 ?_
  exact z_lreturn hC hI hf dX12_look_122
set_option maxRecDepth 20000 in
set_option maxHeartbeats 4000000 in
theorem bX12_look_169 {st : Nat → Nat} {p : Program} {l : Launch} {e : Env} {s : State} {m : MethodId} {args : Array Value} {below : List Frame} {meth : Method} {c : Code} {D : va_G} {A : Nat → Prop} {ad : Nat → Nat} {cy : Nat → ClassId} (hC : zC p m c cX12_look 2 s args wzX12_look RX12 meth (some .long))  {res : zSt × Int64} {H : Heap} {locs : List Loc} {σ : zSt} {ls : Array Slot} {x1 : Int32} (hI : zI st D (tM cy) (wM ad cy σ) A s H locs) (hl : lv_has ls 2 [(0, .ref (ad 0)), (1, .int x1)]) (hf : fX12_look_169  σ x1 = some res) : W p l e rmX12_look s m args below meth c H locs 0 0 (zQl below args s D (tM cy) (wM ad cy) A res) (F0 m 169 ls []) := by
  have hx := hC.1
  have hb := hC.2.1
  unfold fX12_look_169 at hf
  refine lv_aload_n hx hb dX12_look_169 rfl (lv_at hl 0 rfl) ?_
  refine z_get hC hI hinX12_look_X120 0 (wM_e0 ad cy σ) rfl 10 (by decide) (List.mem_cons_of_mem _ zw9_7) rfl dX12_look_170 ?_
  refine lv_bipush (v := 29) hx hb dX12_look_173 (by decide) ?_
  refine lv_iload_n hx hb dX12_look_175 rfl (lv_at hl 1 rfl) ?_
  refine lv_iadd hx hb dX12_look_176 ?_
  refine lv_bipush (v := 9) hx hb dX12_look_177 (by decide) ?_
  refine lv_isub hx hb dX12_look_179 ?_
  obtain ⟨q, hf⟩ := zck_use hf
  refine z_iald hC hI 3 2 (wM_e3 ad cy σ) (tM_t3 cy) q dX12_look_180 ?_
  refine lv_i2l (v := (zgi σ 3 ((29 + x1) - 9).toNatClampNeg).toInt64) hx hb dX12_look_181 rfl ?_
  exact z_lreturn hC hI hf dX12_look_182
set_option maxRecDepth 20000 in
set_option maxHeartbeats 4000000 in
theorem bX12_look_222 {st : Nat → Nat} {p : Program} {l : Launch} {e : Env} {s : State} {m : MethodId} {args : Array Value} {below : List Frame} {meth : Method} {c : Code} {D : va_G} {A : Nat → Prop} {ad : Nat → Nat} {cy : Nat → ClassId} (hC : zC p m c cX12_look 2 s args wzX12_look RX12 meth (some .long))  {res : zSt × Int64} {H : Heap} {locs : List Loc} {σ : zSt} {ls : Array Slot} {s0 : Int64} (hI : zI st D (tM cy) (wM ad cy σ) A s H locs) (hl : lv_has ls 2 []) (hf : fX12_look_222  σ s0 = some res) : W p l e rmX12_look s m args below meth c H locs 0 0 (zQl below args s D (tM cy) (wM ad cy) A res) (F0 m 222 ls [.long s0]) := by
  have hx := hC.1
  have hb := hC.2.1
  unfold fX12_look_222 at hf
  exact z_lreturn hC hI hf dX12_look_222
set_option maxRecDepth 20000 in
set_option maxHeartbeats 4000000 in
theorem bX12_look_18 {st : Nat → Nat} {p : Program} {l : Launch} {e : Env} {s : State} {m : MethodId} {args : Array Value} {below : List Frame} {meth : Method} {c : Code} {D : va_G} {A : Nat → Prop} {ad : Nat → Nat} {cy : Nat → ClassId} (hC : zC p m c cX12_look 2 s args wzX12_look RX12 meth (some .long))  {res : zSt × Int64} {H : Heap} {locs : List Loc} {σ : zSt} {ls : Array Slot} {x1 : Int32} {s0 : Int32} (hI : zI st D (tM cy) (wM ad cy σ) A s H locs) (hl : lv_has ls 2 [(0, .ref (ad 0)), (1, .int x1)]) (hf : fX12_look_18  σ x1 s0 = some res) : W p l e rmX12_look s m args below meth c H locs 0 0 (zQl below args s D (tM cy) (wM ad cy) A res) (F0 m 18 ls [.int s0, .ref (ad 0)]) := by
  have hx := hC.1
  have hb := hC.2.1
  unfold fX12_look_18 at hf
  refine lv_iconst (v := 1) hx hb dX12_look_18 (by decide) ?_
  obtain ⟨σ1, v2, g1, hf⟩ := zbi_use hf
  refine z_callVi (As := [.int s0, .int 1]) (rest := []) hC hI (cX12_fails_met st l D ad cy σ s0 1 _ g1) (zgV zw11_21 zw11_22 zw11_23 zw1_5 zw12_0) rfl ⟨rfl, rfl⟩ 2 hdX12_fails ⟨Nat.le_of_ble_eq_true rfl, Nat.le_of_ble_eq_true rfl⟩ rfl rfl (wM_e0 ad cy σ) rfl hl rfl (Nat.le_of_ble_eq_true rfl) dX12_look_19 ⟨Nat.zero_le _, Nat.zero_le _⟩ (fun H locs hI => ?_)
  refine lv_if_eq (tgt := 27) hx hb dX12_look_22 (by decide) (fun q => ?_) (fun q => ?_)
  · replace hf := zif_t q hf
    refine lv_iload_n hx hb dX12_look_27 rfl (lv_at hl 1 rfl) ?_
    by_cases q0 : x1 = 0
    · replace hf := zif_t q0 hf
      refine lv_tableIn (tgt := 116) hx hb dX12_look_28 (by rw [q0]; decide) (by rw [q0]; decide) (by rw [q0]; rfl) (by decide) ?_
      exact bX12_look_116 hC  hI hl hf
    replace hf := zif_f q0 hf
    by_cases q1 : x1 = 1
    · replace hf := zif_t q1 hf
      refine lv_tableIn (tgt := 116) hx hb dX12_look_28 (by rw [q1]; decide) (by rw [q1]; decide) (by rw [q1]; rfl) (by decide) ?_
      exact bX12_look_116 hC  hI hl hf
    replace hf := zif_f q1 hf
    by_cases q2 : x1 = 2
    · replace hf := zif_t q2 hf
      refine lv_tableIn (tgt := 116) hx hb dX12_look_28 (by rw [q2]; decide) (by rw [q2]; decide) (by rw [q2]; rfl) (by decide) ?_
      exact bX12_look_116 hC  hI hl hf
    replace hf := zif_f q2 hf
    by_cases q3 : x1 = 3
    · replace hf := zif_t q3 hf
      refine lv_tableIn (tgt := 123) hx hb dX12_look_28 (by rw [q3]; decide) (by rw [q3]; decide) (by rw [q3]; rfl) (by decide) ?_
      refine lv_aload_n hx hb dX12_look_123 rfl (lv_at hl 0 rfl) ?_
      refine z_get hC hI hinX12_look_X120 0 (wM_e0 ad cy σ1) rfl 10 (by decide) (List.mem_cons_of_mem _ zw9_7) rfl dX12_look_124 ?_
      refine lv_bipush (v := 87) hx hb dX12_look_127 (by decide) ?_
      obtain ⟨q, hf⟩ := zck_use hf
      refine z_iald hC hI 3 2 (wM_e3 ad cy σ1) (tM_t3 cy) q dX12_look_129 ?_
      refine lv_i2l (v := (zgi σ1 3 (87 : Int32).toNatClampNeg).toInt64) hx hb dX12_look_130 rfl ?_
      exact z_lreturn hC hI hf dX12_look_131
    replace hf := zif_f q3 hf
    by_cases q4 : x1 = 4
    · replace hf := zif_t q4 hf
      refine lv_tableIn (tgt := 132) hx hb dX12_look_28 (by rw [q4]; decide) (by rw [q4]; decide) (by rw [q4]; rfl) (by decide) ?_
      refine lv_aload_n hx hb dX12_look_132 rfl (lv_at hl 0 rfl) ?_
      refine z_get hC hI hinX12_look_X120 0 (wM_e0 ad cy σ1) rfl 11 (by decide) (List.mem_cons_of_mem _ zw9_8) rfl dX12_look_133 ?_
      refine lv_iconst (v := 3) hx hb dX12_look_136 (by decide) ?_
      obtain ⟨q, hf⟩ := zck_use hf
      refine z_lald hC hI 4 3 (wM_e4 ad cy σ1) (tM_t4 cy) q dX12_look_137 ?_
      exact z_lreturn hC hI hf dX12_look_138
    replace hf := zif_f q4 hf
    by_cases q5 : x1 = 5
    · replace hf := zif_t q5 hf
      refine lv_tableIn (tgt := 139) hx hb dX12_look_28 (by rw [q5]; decide) (by rw [q5]; decide) (by rw [q5]; rfl) (by decide) ?_
      refine lv_aload_n hx hb dX12_look_139 rfl (lv_at hl 0 rfl) ?_
      refine z_get hC hI hinX12_look_X120 0 (wM_e0 ad cy σ1) rfl 2 (by decide) (List.mem_cons_of_mem _ zw11_17) rfl dX12_look_140 ?_
      refine lv_i2l (v := (zgi σ1 0 2).toInt64) hx hb dX12_look_143 rfl ?_
      exact z_lreturn hC hI hf dX12_look_144
    replace hf := zif_f q5 hf
    by_cases q6 : x1 = 6
    · replace hf := zif_t q6 hf
      refine lv_tableIn (tgt := 145) hx hb dX12_look_28 (by rw [q6]; decide) (by rw [q6]; decide) (by rw [q6]; rfl) (by decide) ?_
      refine lv_aload_n hx hb dX12_look_145 rfl (lv_at hl 0 rfl) ?_
      refine z_get hC hI hinX12_look_X120 0 (wM_e0 ad cy σ1) rfl 10 (by decide) (List.mem_cons_of_mem _ zw9_7) rfl dX12_look_146 ?_
      refine lv_bipush (v := 89) hx hb dX12_look_149 (by decide) ?_
      obtain ⟨q, hf⟩ := zck_use hf
      refine z_iald hC hI 3 2 (wM_e3 ad cy σ1) (tM_t3 cy) q dX12_look_151 ?_
      refine lv_i2l (v := (zgi σ1 3 (89 : Int32).toNatClampNeg).toInt64) hx hb dX12_look_152 rfl ?_
      exact z_lreturn hC hI hf dX12_look_153
    replace hf := zif_f q6 hf
    by_cases q7 : x1 = 7
    · replace hf := zif_t q7 hf
      refine lv_tableIn (tgt := 154) hx hb dX12_look_28 (by rw [q7]; decide) (by rw [q7]; decide) (by rw [q7]; rfl) (by decide) ?_
      refine lv_aload_n hx hb dX12_look_154 rfl (lv_at hl 0 rfl) ?_
      refine z_get hC hI hinX12_look_X120 0 (wM_e0 ad cy σ1) rfl 5 (by decide) (List.mem_cons_of_mem _ zw16_6) rfl dX12_look_155 ?_
      refine lv_i2l (v := (zgi σ1 0 5).toInt64) hx hb dX12_look_158 rfl ?_
      exact z_lreturn hC hI hf dX12_look_159
    replace hf := zif_f q7 hf
    by_cases q8 : x1 = 8
    · replace hf := zif_t q8 hf
      refine lv_tableIn (tgt := 160) hx hb dX12_look_28 (by rw [q8]; decide) (by rw [q8]; decide) (by rw [q8]; rfl) (by decide) ?_
      refine lv_aload_n hx hb dX12_look_160 rfl (lv_at hl 0 rfl) ?_
      refine z_get hC hI hinX12_look_X120 0 (wM_e0 ad cy σ1) rfl 10 (by decide) (List.mem_cons_of_mem _ zw9_7) rfl dX12_look_161 ?_
      refine lv_bipush (v := 32) hx hb dX12_look_164 (by decide) ?_
      obtain ⟨q, hf⟩ := zck_use hf
      refine z_iald hC hI 3 2 (wM_e3 ad cy σ1) (tM_t3 cy) q dX12_look_166 ?_
      refine lv_i2l (v := (zgi σ1 3 (32 : Int32).toNatClampNeg).toInt64) hx hb dX12_look_167 rfl ?_
      exact z_lreturn hC hI hf dX12_look_168
    replace hf := zif_f q8 hf
    by_cases q9 : x1 = 9
    · replace hf := zif_t q9 hf
      refine lv_tableIn (tgt := 169) hx hb dX12_look_28 (by rw [q9]; decide) (by rw [q9]; decide) (by rw [q9]; rfl) (by decide) ?_
      exact bX12_look_169 hC  hI hl hf
    replace hf := zif_f q9 hf
    by_cases q10 : x1 = 10
    · replace hf := zif_t q10 hf
      refine lv_tableIn (tgt := 169) hx hb dX12_look_28 (by rw [q10]; decide) (by rw [q10]; decide) (by rw [q10]; rfl) (by decide) ?_
      exact bX12_look_169 hC  hI hl hf
    replace hf := zif_f q10 hf
    by_cases q11 : x1 = 11
    · replace hf := zif_t q11 hf
      refine lv_tableIn (tgt := 169) hx hb dX12_look_28 (by rw [q11]; decide) (by rw [q11]; decide) (by rw [q11]; rfl) (by decide) ?_
      exact bX12_look_169 hC  hI hl hf
    replace hf := zif_f q11 hf
    by_cases q12 : x1 = 12
    · replace hf := zif_t q12 hf
      refine lv_tableIn (tgt := 183) hx hb dX12_look_28 (by rw [q12]; decide) (by rw [q12]; decide) (by rw [q12]; rfl) (by decide) ?_
      refine lv_aload_n hx hb dX12_look_183 rfl (lv_at hl 0 rfl) ?_
      refine z_get hC hI hinX12_look_X120 0 (wM_e0 ad cy σ1) rfl 10 (by decide) (List.mem_cons_of_mem _ zw9_7) rfl dX12_look_184 ?_
      refine lv_bipush (v := 28) hx hb dX12_look_187 (by decide) ?_
      obtain ⟨q, hf⟩ := zck_use hf
      refine z_iald hC hI 3 2 (wM_e3 ad cy σ1) (tM_t3 cy) q dX12_look_189 ?_
      refine lv_i2l (v := (zgi σ1 3 (28 : Int32).toNatClampNeg).toInt64) hx hb dX12_look_190 rfl ?_
      exact z_lreturn hC hI hf dX12_look_191
    replace hf := zif_f q12 hf
    by_cases q13 : x1 = 13
    · replace hf := zif_t q13 hf
      refine lv_tableIn (tgt := 192) hx hb dX12_look_28 (by rw [q13]; decide) (by rw [q13]; decide) (by rw [q13]; rfl) (by decide) ?_
      refine lv_aload_n hx hb dX12_look_192 rfl (lv_at hl 0 rfl) ?_
      refine z_get hC hI hinX12_look_X120 0 (wM_e0 ad cy σ1) rfl 10 (by decide) (List.mem_cons_of_mem _ zw9_7) rfl dX12_look_193 ?_
      refine lv_bipush (v := 35) hx hb dX12_look_196 (by decide) ?_
      obtain ⟨q, hf⟩ := zck_use hf
      refine z_iald hC hI 3 2 (wM_e3 ad cy σ1) (tM_t3 cy) q dX12_look_198 ?_
      refine lv_i2l (v := (zgi σ1 3 (35 : Int32).toNatClampNeg).toInt64) hx hb dX12_look_199 rfl ?_
      exact z_lreturn hC hI hf dX12_look_200
    replace hf := zif_f q13 hf
    by_cases q14 : x1 = 14
    · replace hf := zif_t q14 hf
      refine lv_tableIn (tgt := 201) hx hb dX12_look_28 (by rw [q14]; decide) (by rw [q14]; decide) (by rw [q14]; rfl) (by decide) ?_
      refine lv_aload_n hx hb dX12_look_201 rfl (lv_at hl 0 rfl) ?_
      refine z_get hC hI hinX12_look_X120 0 (wM_e0 ad cy σ1) rfl 10 (by decide) (List.mem_cons_of_mem _ zw9_7) rfl dX12_look_202 ?_
      refine lv_bipush (v := 33) hx hb dX12_look_205 (by decide) ?_
      obtain ⟨q, hf⟩ := zck_use hf
      refine z_iald hC hI 3 2 (wM_e3 ad cy σ1) (tM_t3 cy) q dX12_look_207 ?_
      refine lv_i2l (v := (zgi σ1 3 (33 : Int32).toNatClampNeg).toInt64) hx hb dX12_look_208 rfl ?_
      exact z_lreturn hC hI hf dX12_look_209
    replace hf := zif_f q14 hf
    by_cases q15 : x1 = 15
    · replace hf := zif_t q15 hf
      refine lv_tableIn (tgt := 210) hx hb dX12_look_28 (by rw [q15]; decide) (by rw [q15]; decide) (by rw [q15]; rfl) (by decide) ?_
      refine lv_aload_n hx hb dX12_look_210 rfl (lv_at hl 0 rfl) ?_
      refine z_get hC hI hinX12_look_X120 0 (wM_e0 ad cy σ1) rfl 19 (by decide) (List.mem_cons_of_mem _ zw16_12) rfl dX12_look_211 ?_
      refine lv_if_eq (tgt := 221) hx hb dX12_look_214 (by decide) (fun q => ?_) (fun q => ?_)
      · replace hf := zif_t q hf
        refine lv_lconst (v := 0) hx hb dX12_look_221 (by decide) ?_
        exact bX12_look_222 hC  hI (lv_sub hl [] rfl) hf
      replace hf := zif_f q hf
      refine lv_lconst (v := 1) hx hb dX12_look_217 (by decide) ?_
      refine lv_goto (tgt := 222) hx hb dX12_look_218 (by decide) ?_
      exact bX12_look_222 hC  hI (lv_sub hl [] rfl) hf
    replace hf := zif_f q15 hf
    by_cases q16 : x1 = 16
    · replace hf := zif_t q16 hf
      refine lv_tableIn (tgt := 223) hx hb dX12_look_28 (by rw [q16]; decide) (by rw [q16]; decide) (by rw [q16]; rfl) (by decide) ?_
      refine lv_aload_n hx hb dX12_look_223 rfl (lv_at hl 0 rfl) ?_
      refine z_get hC hI hinX12_look_X120 0 (wM_e0 ad cy σ1) rfl 10 (by decide) (List.mem_cons_of_mem _ zw9_7) rfl dX12_look_224 ?_
      refine lv_sipush (v := 171) hx hb dX12_look_227 (by decide) ?_
      obtain ⟨q, hf⟩ := zck_use hf
      refine z_iald hC hI 3 2 (wM_e3 ad cy σ1) (tM_t3 cy) q dX12_look_230 ?_
      refine lv_i2l (v := (zgi σ1 3 (171 : Int32).toNatClampNeg).toInt64) hx hb dX12_look_231 rfl ?_
      exact z_lreturn hC hI hf dX12_look_232
    replace hf := zif_f q16 hf
    by_cases q17 : x1 = 17
    · replace hf := zif_t q17 hf
      refine lv_tableIn (tgt := 233) hx hb dX12_look_28 (by rw [q17]; decide) (by rw [q17]; decide) (by rw [q17]; rfl) (by decide) ?_
      refine lv_aload_n hx hb dX12_look_233 rfl (lv_at hl 0 rfl) ?_
      refine z_get hC hI hinX12_look_X120 0 (wM_e0 ad cy σ1) rfl 10 (by decide) (List.mem_cons_of_mem _ zw9_7) rfl dX12_look_234 ?_
      refine lv_sipush (v := 169) hx hb dX12_look_237 (by decide) ?_
      obtain ⟨q, hf⟩ := zck_use hf
      refine z_iald hC hI 3 2 (wM_e3 ad cy σ1) (tM_t3 cy) q dX12_look_240 ?_
      refine lv_i2l (v := (zgi σ1 3 (169 : Int32).toNatClampNeg).toInt64) hx hb dX12_look_241 rfl ?_
      exact z_lreturn hC hI hf dX12_look_242
    replace hf := zif_f q17 hf
    refine lv_tableOut (tgt := 243) hx hb dX12_look_28 (zsw (fun k h1 h2 => by rcases (show k = 0 ∨ k = 1 ∨ k = 2 ∨ k = 3 ∨ k = 4 ∨ k = 5 ∨ k = 6 ∨ k = 7 ∨ k = 8 ∨ k = 9 ∨ k = 10 ∨ k = 11 ∨ k = 12 ∨ k = 13 ∨ k = 14 ∨ k = 15 ∨ k = 16 ∨ k = 17 by omega) with rfl | rfl | rfl | rfl | rfl | rfl | rfl | rfl | rfl | rfl | rfl | rfl | rfl | rfl | rfl | rfl | rfl | rfl <;> assumption)) (by decide) ?_
    refine lv_aload_n hx hb dX12_look_243 rfl (lv_at hl 0 rfl) ?_
    refine z_get hC hI hinX12_look_X120 0 (wM_e0 ad cy σ1) rfl 39 (by decide) (List.mem_cons_of_mem _ zw74_10) rfl dX12_look_244 ?_
    refine lv_i2l (v := (zgi σ1 0 39).toInt64) hx hb dX12_look_247 rfl ?_
    exact z_lreturn hC hI hf dX12_look_248
  replace hf := zif_f q hf
  refine lv_lconst (v := 0) hx hb dX12_look_25 (by decide) ?_
  exact z_lreturn hC hI hf dX12_look_26
set_option maxRecDepth 20000 in
set_option maxHeartbeats 4000000 in
theorem bX12_look {st : Nat → Nat} {p : Program} {l : Launch} {e : Env} {s : State} {m : MethodId} {args : Array Value} {below : List Frame} {meth : Method} {c : Code} {D : va_G} {A : Nat → Prop} {ad : Nat → Nat} {cy : Nat → ClassId} (hC : zC p m c cX12_look 2 s args wzX12_look RX12 meth (some .long))  {res : zSt × Int64} {H : Heap} {locs : List Loc} {σ : zSt} {ls : Array Slot} {x1 : Int32} (hI : zI st D (tM cy) (wM ad cy σ) A s H locs) (hl : lv_has ls 2 [(0, .ref (ad 0)), (1, .int x1)]) (hf : fX12_look  σ x1 = some res) : W p l e rmX12_look s m args below meth c H locs 0 0 (zQl below args s D (tM cy) (wM ad cy) A res) (F0 m 0 ls []) := by
  have hx := hC.1
  have hb := hC.2.1
  unfold fX12_look at hf
  refine lv_aload_n hx hb dX12_look_0 rfl (lv_at hl 0 rfl) ?_
  refine lv_iload_n hx hb dX12_look_1 rfl (lv_at hl 1 rfl) ?_
  refine lv_i2l (v := x1.toInt64) hx hb dX12_look_2 rfl ?_
  refine lv_lconst (v := 0) hx hb dX12_look_3 (by decide) ?_
  refine lv_ldc2 (v := 18) hx hb hC.2.2.2.1 (hC.2.2.2.2.1 _ (List.mem_cons_of_mem _ zw94_16)) dX12_look_4 ?_
  obtain ⟨σ3, v4, g3, hf⟩ := zbi_use hf
  refine z_callSi (As := [.long (x1.toInt64), .long 0, .long 18]) (rest := [.ref (ad 0)]) hC hI (cX12_within_met st l D ad cy σ (x1.toInt64) 0 18 _ g3) (zgS zw11_18 zw11_19 zw1_5 zw11_20) rfl ⟨rfl, rfl⟩ 3 hdX12_within ⟨Nat.le_of_ble_eq_true rfl, Nat.le_of_ble_eq_true rfl⟩ rfl hl rfl (Nat.le_of_ble_eq_true rfl) dX12_look_7 ⟨Nat.zero_le _, Nat.zero_le _⟩ (fun H locs hI => ?_)
  refine lv_if_ne (tgt := 17) hx hb dX12_look_10 (by decide) (fun q => ?_) (fun q => ?_)
  · replace hf := zif_f q hf
    refine lv_iconst (v := 0) hx hb dX12_look_17 (by decide) ?_
    exact bX12_look_18 hC  hI hl hf
  replace hf := zif_t q hf
  refine lv_iconst (v := 1) hx hb dX12_look_13 (by decide) ?_
  refine lv_goto (tgt := 18) hx hb dX12_look_14 (by decide) ?_
  exact bX12_look_18 hC  hI hl hf
set_option maxRecDepth 20000 in
theorem cX12_look_met (st : Nat → Nat) (l : Launch) (D : va_G) (ad : Nat → Nat) (cy : Nat → ClassId) (σ : zSt) (x1 : Int32) (res : zSt × Int64) (hf : fX12_look σ x1 = some res) (sz : Nat) : zMl st l yX12_look wzX12_look rmX12_look [.ref (ad 0), .int x1] D (tM cy) (wM ad cy) sz σ res :=
  zMl.of (cc := cX12_look) (maxL := 2) (ret := (some .long)) (by decide) rfl (Nat.le_of_ble_eq_true rfl) (fun p e s m args below meth c hC A hI ls hl => bX12_look hC hI hl hf)
theorem hdX12_look : yX12_look.cls = RX12 ∧ yX12_look.cls ≠ "java/lang/invoke/MethodHandle" ∧ yX12_look.cls ≠ "java/lang/invoke/VarHandle" ∧ (parseMethodDescriptor yX12_look.desc).map (fun d => d.parameters.length) = some 1 := by decide +kernel
noncomputable def rmX12_mix : Room := { frames := 1, cells := 0, slots := 0, locals := 22 }
noncomputable def wzX12_mix : List Cond := .code yX12_mix cX12_mix 3 (some .long) :: wsL_law
theorem hinX12_mix_X120 : ∀ w ∈ wsX120, w ∈ wzX12_mix := fun w h => List.mem_cons_of_mem _ (inlX12 w h)
noncomputable def fX12_mix_17  (σ : zSt) (s0 : Int32) : Option (zSt × Int64) :=
  zbi (fX12_fails σ s0 1) (fun σ1 v2 =>
  if v2 = 0 then zck (zin 170 1048) (
  zck (zin (zgi σ1 3 (170 : Int32).toNatClampNeg) 4096) (
  zbv (zgl σ1 11 (zgi σ1 3 (170 : Int32).toNatClampNeg).toNatClampNeg) (fun v3 =>
  zck (zin 170 1048) (
  zck (decide (¬ 4096 = 0)) (
  zck (zin 170 1048) (zbv (zsi σ1 3 ((170 : Int32).toNatClampNeg) (zrem ((zgi σ1 3 (170 : Int32).toNatClampNeg) + 1) 4096)) (fun σ4 =>
  zck (zin 169 1048) (
  zck (zin 169 1048) (zbv (zsi σ4 3 ((169 : Int32).toNatClampNeg) ((zgi σ4 3 (169 : Int32).toNatClampNeg) - 1)) (fun σ5 =>
  some (σ5, v3))))))))))) else
  some (σ1, 0))
noncomputable def fX12_mix  (σ : zSt)  : Option (zSt × Int64) :=
  zck (zin 169 1048) (
  if (zgi σ 3 (169 : Int32).toNatClampNeg) = 0 then fX12_mix_17 σ 1 else
  fX12_mix_17 σ 0)
set_option maxRecDepth 20000 in
set_option maxHeartbeats 4000000 in
theorem bX12_mix_17 {st : Nat → Nat} {p : Program} {l : Launch} {e : Env} {s : State} {m : MethodId} {args : Array Value} {below : List Frame} {meth : Method} {c : Code} {D : va_G} {A : Nat → Prop} {ad : Nat → Nat} {cy : Nat → ClassId} (hC : zC p m c cX12_mix 3 s args wzX12_mix RX12 meth (some .long))  {res : zSt × Int64} {H : Heap} {locs : List Loc} {σ : zSt} {ls : Array Slot} {s0 : Int32} (hI : zI st D (tM cy) (wM ad cy σ) A s H locs) (hl : lv_has ls 3 [(0, .ref (ad 0))]) (hf : fX12_mix_17  σ s0 = some res) : W p l e rmX12_mix s m args below meth c H locs 0 0 (zQl below args s D (tM cy) (wM ad cy) A res) (F0 m 17 ls [.int s0, .ref (ad 0)]) := by
  have hx := hC.1
  have hb := hC.2.1
  unfold fX12_mix_17 at hf
  refine lv_iconst (v := 1) hx hb dX12_mix_17 (by decide) ?_
  obtain ⟨σ1, v2, g1, hf⟩ := zbi_use hf
  refine z_callVi (As := [.int s0, .int 1]) (rest := []) hC hI (cX12_fails_met st l D ad cy σ s0 1 _ g1) (zgV zw11_21 zw11_22 zw11_23 zw1_5 zw12_0) rfl ⟨rfl, rfl⟩ 2 hdX12_fails ⟨Nat.le_of_ble_eq_true rfl, Nat.le_of_ble_eq_true rfl⟩ rfl rfl (wM_e0 ad cy σ) rfl hl rfl (Nat.le_of_ble_eq_true rfl) dX12_mix_18 ⟨Nat.zero_le _, Nat.zero_le _⟩ (fun H locs hI => ?_)
  refine lv_if_eq (tgt := 26) hx hb dX12_mix_21 (by decide) (fun q => ?_) (fun q => ?_)
  · replace hf := zif_t q hf
    refine lv_aload_n hx hb dX12_mix_26 rfl (lv_at hl 0 rfl) ?_
    refine z_get hC hI hinX12_mix_X120 0 (wM_e0 ad cy σ1) rfl 18 (by decide) (List.mem_cons_of_mem _ zw9_17) rfl dX12_mix_27 ?_
    refine lv_aload_n hx hb dX12_mix_30 rfl (lv_at hl 0 rfl) ?_
    refine z_get hC hI hinX12_mix_X120 0 (wM_e0 ad cy σ1) rfl 10 (by decide) (List.mem_cons_of_mem _ zw9_7) rfl dX12_mix_31 ?_
    refine lv_sipush (v := 170) hx hb dX12_mix_34 (by decide) ?_
    obtain ⟨q, hf⟩ := zck_use hf
    refine z_iald hC hI 3 2 (wM_e3 ad cy σ1) (tM_t3 cy) q dX12_mix_37 ?_
    obtain ⟨q, hf⟩ := zck_use hf
    refine z_lald hC hI 11 10 (wM_e11 ad cy σ1) (tM_t11 cy) q dX12_mix_38 ?_
    refine lv_topl (fun v3 ev3 => ?_)
    replace hf := zbv_use ev3 hf
    refine lv_lstore_n (lv' := [(1, .long v3), (0, .ref (ad 0))]) hx hb dX12_mix_39 rfl hl (by decide) rfl (fun ls hl => ?_)
    refine lv_aload_n hx hb dX12_mix_40 rfl (lv_at hl 1 rfl) ?_
    refine z_get hC hI hinX12_mix_X120 0 (wM_e0 ad cy σ1) rfl 10 (by decide) (List.mem_cons_of_mem _ zw9_7) rfl dX12_mix_41 ?_
    refine lv_sipush (v := 170) hx hb dX12_mix_44 (by decide) ?_
    refine lv_aload_n hx hb dX12_mix_47 rfl (lv_at hl 1 rfl) ?_
    refine z_get hC hI hinX12_mix_X120 0 (wM_e0 ad cy σ1) rfl 10 (by decide) (List.mem_cons_of_mem _ zw9_7) rfl dX12_mix_48 ?_
    refine lv_sipush (v := 170) hx hb dX12_mix_51 (by decide) ?_
    obtain ⟨q, hf⟩ := zck_use hf
    refine z_iald hC hI 3 2 (wM_e3 ad cy σ1) (tM_t3 cy) q dX12_mix_54 ?_
    refine lv_iconst (v := 1) hx hb dX12_mix_55 (by decide) ?_
    refine lv_iadd hx hb dX12_mix_56 ?_
    refine lv_sipush (v := 4096) hx hb dX12_mix_57 (by decide) ?_
    obtain ⟨q, hf⟩ := zck_use hf
    refine z_irem hx hb dX12_mix_60 (of_decide_eq_true q) ?_
    obtain ⟨q, hf⟩ := zck_use hf
    obtain ⟨σ4, eσ4⟩ : ∃ z, z = zsi σ1 3 ((170 : Int32).toNatClampNeg) (zrem ((zgi σ1 3 (170 : Int32).toNatClampNeg) + 1) 4096) := ⟨_, rfl⟩
    replace hf := zbv_use eσ4 hf
    refine z_iast hC hI 3 2 (wM_e3 ad cy σ1) (tM_t3 cy) q ((wM_s3 ad cy σ1 _ _).trans (congrArg (wM ad cy) eσ4.symm)) dX12_mix_61 (fun H locs hI => ?_)
    refine lv_aload_n hx hb dX12_mix_62 rfl (lv_at hl 1 rfl) ?_
    refine z_get hC hI hinX12_mix_X120 0 (wM_e0 ad cy σ4) rfl 10 (by decide) (List.mem_cons_of_mem _ zw9_7) rfl dX12_mix_63 ?_
    refine lv_sipush (v := 169) hx hb dX12_mix_66 (by decide) ?_
    refine lv_dup2_11 hx hb dX12_mix_69 rfl rfl ?_
    obtain ⟨q, hf⟩ := zck_use hf
    refine z_iald hC hI 3 2 (wM_e3 ad cy σ4) (tM_t3 cy) q dX12_mix_70 ?_
    refine lv_iconst (v := 1) hx hb dX12_mix_71 (by decide) ?_
    refine lv_isub hx hb dX12_mix_72 ?_
    obtain ⟨q, hf⟩ := zck_use hf
    obtain ⟨σ5, eσ5⟩ : ∃ z, z = zsi σ4 3 ((169 : Int32).toNatClampNeg) ((zgi σ4 3 (169 : Int32).toNatClampNeg) - 1) := ⟨_, rfl⟩
    replace hf := zbv_use eσ5 hf
    refine z_iast hC hI 3 2 (wM_e3 ad cy σ4) (tM_t3 cy) q ((wM_s3 ad cy σ4 _ _).trans (congrArg (wM ad cy) eσ5.symm)) dX12_mix_73 (fun H locs hI => ?_)
    refine lv_lload_n hx hb dX12_mix_74 rfl (lv_at hl 0 rfl) ?_
    exact z_lreturn hC hI hf dX12_mix_75
  replace hf := zif_f q hf
  refine lv_lconst (v := 0) hx hb dX12_mix_24 (by decide) ?_
  exact z_lreturn hC hI hf dX12_mix_25
set_option maxRecDepth 20000 in
set_option maxHeartbeats 4000000 in
theorem bX12_mix {st : Nat → Nat} {p : Program} {l : Launch} {e : Env} {s : State} {m : MethodId} {args : Array Value} {below : List Frame} {meth : Method} {c : Code} {D : va_G} {A : Nat → Prop} {ad : Nat → Nat} {cy : Nat → ClassId} (hC : zC p m c cX12_mix 3 s args wzX12_mix RX12 meth (some .long))  {res : zSt × Int64} {H : Heap} {locs : List Loc} {σ : zSt} {ls : Array Slot}  (hI : zI st D (tM cy) (wM ad cy σ) A s H locs) (hl : lv_has ls 3 [(0, .ref (ad 0))]) (hf : fX12_mix  σ  = some res) : W p l e rmX12_mix s m args below meth c H locs 0 0 (zQl below args s D (tM cy) (wM ad cy) A res) (F0 m 0 ls []) := by
  have hx := hC.1
  have hb := hC.2.1
  unfold fX12_mix at hf
  refine lv_aload_n hx hb dX12_mix_0 rfl (lv_at hl 0 rfl) ?_
  refine lv_aload_n hx hb dX12_mix_1 rfl (lv_at hl 0 rfl) ?_
  refine z_get hC hI hinX12_mix_X120 0 (wM_e0 ad cy σ) rfl 10 (by decide) (List.mem_cons_of_mem _ zw9_7) rfl dX12_mix_2 ?_
  refine lv_sipush (v := 169) hx hb dX12_mix_5 (by decide) ?_
  obtain ⟨q, hf⟩ := zck_use hf
  refine z_iald hC hI 3 2 (wM_e3 ad cy σ) (tM_t3 cy) q dX12_mix_8 ?_
  refine lv_if_ne (tgt := 16) hx hb dX12_mix_9 (by decide) (fun q => ?_) (fun q => ?_)
  · replace hf := zif_f q hf
    refine lv_iconst (v := 0) hx hb dX12_mix_16 (by decide) ?_
    exact bX12_mix_17 hC  hI hl hf
  replace hf := zif_t q hf
  refine lv_iconst (v := 1) hx hb dX12_mix_12 (by decide) ?_
  refine lv_goto (tgt := 17) hx hb dX12_mix_13 (by decide) ?_
  exact bX12_mix_17 hC  hI hl hf
set_option maxRecDepth 20000 in
theorem cX12_mix_met (st : Nat → Nat) (l : Launch) (D : va_G) (ad : Nat → Nat) (cy : Nat → ClassId) (σ : zSt)  (res : zSt × Int64) (hf : fX12_mix σ  = some res) (sz : Nat) : zMl st l yX12_mix wzX12_mix rmX12_mix [.ref (ad 0)] D (tM cy) (wM ad cy) sz σ res :=
  zMl.of (cc := cX12_mix) (maxL := 3) (ret := (some .long)) (by decide) rfl (Nat.le_of_ble_eq_true rfl) (fun p e s m args below meth c hC A hI ls hl => bX12_mix hC hI hl hf)
theorem hdX12_mix : yX12_mix.cls = RX12 ∧ yX12_mix.cls ≠ "java/lang/invoke/MethodHandle" ∧ yX12_mix.cls ≠ "java/lang/invoke/VarHandle" ∧ (parseMethodDescriptor yX12_mix.desc).map (fun d => d.parameters.length) = some 0 := by decide +kernel
noncomputable def rmX12_wave : Room := { frames := 1, cells := 0, slots := 0, locals := 25 }
noncomputable def wzX12_wave : List Cond := .code yX12_wave cX12_wave 2 (some .int) :: wsL_law
theorem hinX12_wave_X120 : ∀ w ∈ wsX120, w ∈ wzX12_wave := fun w h => List.mem_cons_of_mem _ (inlX12 w h)
noncomputable def fX12_wave_41  (σ : zSt) (x1 : Int32) (s0 : Int32) : Option (zSt × Int32) :=
  zbi (fX12_fails σ s0 1) (fun σ1 v2 =>
  if v2 = 0 then if 64 ≤ x1 then if x1 = 64 then zck (zin 163 1048) (
  some (σ1, zgi σ1 3 (163 : Int32).toNatClampNeg)) else
  if x1 = 65 then zck (zin 164 1048) (
  some (σ1, zgi σ1 3 (164 : Int32).toNatClampNeg)) else
  if x1 = 66 then zck (zin 4 5) (
  zck (decide (¬ 65536 = 0)) (
  some (σ1, (zreml (zgl σ1 4 (4 : Int32).toNatClampNeg) 65536).toInt32))) else
  if x1 = 67 then zck (zin 165 1048) (
  some (σ1, zgi σ1 3 (165 : Int32).toNatClampNeg)) else
  zck (decide (¬ 8 = 0)) (
  zck (decide (¬ 8 = 0)) (
  zck (zin ((172 + (6 * ((x1 - 128) / 8))) + (zrem x1 8)) 1048) (
  some (σ1, zgi σ1 3 ((172 + (6 * ((x1 - 128) / 8))) + (zrem x1 8)).toNatClampNeg)))) else
  zbi (fX12_wreg σ1 x1) (fun σ3 v4 =>
  some (σ3, v4)) else
  some (σ1, 0))
noncomputable def fX12_wave_40  (σ : zSt) (x1 : Int32) : Option (zSt × Int32) :=
  fX12_wave_41 σ x1 0
noncomputable def fX12_wave_36  (σ : zSt) (x1 : Int32) : Option (zSt × Int32) :=
  fX12_wave_41 σ x1 1
noncomputable def fX12_wave  (σ : zSt) (x1 : Int32) : Option (zSt × Int32) :=
  zbi (fX12_within σ (x1.toInt64) 0 67) (fun σ5 v6 =>
  if v6 = 0 then zbi (fX12_within σ5 (x1.toInt64) 128 271) (fun σ7 v8 =>
  if v8 = 0 then fX12_wave_36 σ7 x1 else
  zck (decide (¬ 8 = 0)) (
  if (zrem x1 8) < 6 then fX12_wave_40 σ7 x1 else
  fX12_wave_36 σ7 x1)) else
  fX12_wave_40 σ5 x1)
set_option maxRecDepth 20000 in
set_option maxHeartbeats 4000000 in
theorem bX12_wave_41 {st : Nat → Nat} {p : Program} {l : Launch} {e : Env} {s : State} {m : MethodId} {args : Array Value} {below : List Frame} {meth : Method} {c : Code} {D : va_G} {A : Nat → Prop} {ad : Nat → Nat} {cy : Nat → ClassId} (hC : zC p m c cX12_wave 2 s args wzX12_wave RX12 meth (some .int))  {res : zSt × Int32} {H : Heap} {locs : List Loc} {σ : zSt} {ls : Array Slot} {x1 : Int32} {s0 : Int32} (hI : zI st D (tM cy) (wM ad cy σ) A s H locs) (hl : lv_has ls 2 [(0, .ref (ad 0)), (1, .int x1)]) (hf : fX12_wave_41  σ x1 s0 = some res) : W p l e rmX12_wave s m args below meth c H locs 0 0 (zQi below args s D (tM cy) (wM ad cy) A res) (F0 m 41 ls [.int s0, .ref (ad 0)]) := by
  have hx := hC.1
  have hb := hC.2.1
  unfold fX12_wave_41 at hf
  refine lv_iconst (v := 1) hx hb dX12_wave_41 (by decide) ?_
  obtain ⟨σ1, v2, g1, hf⟩ := zbi_use hf
  refine z_callVi (As := [.int s0, .int 1]) (rest := []) hC hI (cX12_fails_met st l D ad cy σ s0 1 _ g1) (zgV zw11_21 zw11_22 zw11_23 zw1_5 zw12_0) rfl ⟨rfl, rfl⟩ 2 hdX12_fails ⟨Nat.le_of_ble_eq_true rfl, Nat.le_of_ble_eq_true rfl⟩ rfl rfl (wM_e0 ad cy σ) rfl hl rfl (Nat.le_of_ble_eq_true rfl) dX12_wave_42 ⟨Nat.zero_le _, Nat.zero_le _⟩ (fun H locs hI => ?_)
  refine lv_if_eq (tgt := 50) hx hb dX12_wave_45 (by decide) (fun q => ?_) (fun q => ?_)
  · replace hf := zif_t q hf
    refine lv_iload_n hx hb dX12_wave_50 rfl (lv_at hl 1 rfl) ?_
    refine lv_bipush (v := 64) hx hb dX12_wave_51 (by decide) ?_
    refine lv_icmp_ge (tgt := 62) hx hb dX12_wave_53 (by decide) (fun q => ?_) (fun q => ?_)
    · replace hf := zif_t q hf
      refine lv_iload_n hx hb dX12_wave_62 rfl (lv_at hl 1 rfl) ?_
      refine lv_bipush (v := 64) hx hb dX12_wave_63 (by decide) ?_
      refine lv_icmp_ne (tgt := 77) hx hb dX12_wave_65 (by decide) (fun q => ?_) (fun q => ?_)
      · replace hf := zif_f q hf
        refine lv_iload_n hx hb dX12_wave_77 rfl (lv_at hl 1 rfl) ?_
        refine lv_bipush (v := 65) hx hb dX12_wave_78 (by decide) ?_
        refine lv_icmp_ne (tgt := 92) hx hb dX12_wave_80 (by decide) (fun q => ?_) (fun q => ?_)
        · replace hf := zif_f q hf
          refine lv_iload_n hx hb dX12_wave_92 rfl (lv_at hl 1 rfl) ?_
          refine lv_bipush (v := 66) hx hb dX12_wave_93 (by decide) ?_
          refine lv_icmp_ne (tgt := 110) hx hb dX12_wave_95 (by decide) (fun q => ?_) (fun q => ?_)
          · replace hf := zif_f q hf
            refine lv_iload_n hx hb dX12_wave_110 rfl (lv_at hl 1 rfl) ?_
            refine lv_bipush (v := 67) hx hb dX12_wave_111 (by decide) ?_
            refine lv_icmp_ne (tgt := 125) hx hb dX12_wave_113 (by decide) (fun q => ?_) (fun q => ?_)
            · replace hf := zif_f q hf
              refine lv_aload_n hx hb dX12_wave_125 rfl (lv_at hl 0 rfl) ?_
              refine z_get hC hI hinX12_wave_X120 0 (wM_e0 ad cy σ1) rfl 10 (by decide) (List.mem_cons_of_mem _ zw9_7) rfl dX12_wave_126 ?_
              refine lv_sipush (v := 172) hx hb dX12_wave_129 (by decide) ?_
              refine lv_bipush (v := 6) hx hb dX12_wave_132 (by decide) ?_
              refine lv_iload_n hx hb dX12_wave_134 rfl (lv_at hl 1 rfl) ?_
              refine lv_sipush (v := 128) hx hb dX12_wave_135 (by decide) ?_
              refine lv_isub hx hb dX12_wave_138 ?_
              refine lv_bipush (v := 8) hx hb dX12_wave_139 (by decide) ?_
              obtain ⟨q, hf⟩ := zck_use hf
              refine lv_idiv hx hb dX12_wave_141 (of_decide_eq_true q) ?_
              refine lv_imul hx hb dX12_wave_142 ?_
              refine lv_iadd hx hb dX12_wave_143 ?_
              refine lv_iload_n hx hb dX12_wave_144 rfl (lv_at hl 1 rfl) ?_
              refine lv_bipush (v := 8) hx hb dX12_wave_145 (by decide) ?_
              obtain ⟨q, hf⟩ := zck_use hf
              refine z_irem hx hb dX12_wave_147 (of_decide_eq_true q) ?_
              refine lv_iadd hx hb dX12_wave_148 ?_
              obtain ⟨q, hf⟩ := zck_use hf
              refine z_iald hC hI 3 2 (wM_e3 ad cy σ1) (tM_t3 cy) q dX12_wave_149 ?_
              exact z_ireturn hC hI hf dX12_wave_150
            replace hf := zif_t q hf
            refine lv_aload_n hx hb dX12_wave_116 rfl (lv_at hl 0 rfl) ?_
            refine z_get hC hI hinX12_wave_X120 0 (wM_e0 ad cy σ1) rfl 10 (by decide) (List.mem_cons_of_mem _ zw9_7) rfl dX12_wave_117 ?_
            refine lv_sipush (v := 165) hx hb dX12_wave_120 (by decide) ?_
            obtain ⟨q, hf⟩ := zck_use hf
            refine z_iald hC hI 3 2 (wM_e3 ad cy σ1) (tM_t3 cy) q dX12_wave_123 ?_
            exact z_ireturn hC hI hf dX12_wave_124
          replace hf := zif_t q hf
          refine lv_aload_n hx hb dX12_wave_98 rfl (lv_at hl 0 rfl) ?_
          refine z_get hC hI hinX12_wave_X120 0 (wM_e0 ad cy σ1) rfl 11 (by decide) (List.mem_cons_of_mem _ zw9_8) rfl dX12_wave_99 ?_
          refine lv_iconst (v := 4) hx hb dX12_wave_102 (by decide) ?_
          obtain ⟨q, hf⟩ := zck_use hf
          refine z_lald hC hI 4 3 (wM_e4 ad cy σ1) (tM_t4 cy) q dX12_wave_103 ?_
          refine lv_ldc2 (v := 65536) hx hb hC.2.2.2.1 (hC.2.2.2.2.1 _ (List.mem_cons_of_mem _ zw60_18)) dX12_wave_104 ?_
          obtain ⟨q, hf⟩ := zck_use hf
          refine z_lrem hx hb dX12_wave_107 (of_decide_eq_true q) ?_
          refine lv_l2i (v := (zreml (zgl σ1 4 (4 : Int32).toNatClampNeg) 65536).toInt32) hx hb dX12_wave_108 rfl ?_
          exact z_ireturn hC hI hf dX12_wave_109
        replace hf := zif_t q hf
        refine lv_aload_n hx hb dX12_wave_83 rfl (lv_at hl 0 rfl) ?_
        refine z_get hC hI hinX12_wave_X120 0 (wM_e0 ad cy σ1) rfl 10 (by decide) (List.mem_cons_of_mem _ zw9_7) rfl dX12_wave_84 ?_
        refine lv_sipush (v := 164) hx hb dX12_wave_87 (by decide) ?_
        obtain ⟨q, hf⟩ := zck_use hf
        refine z_iald hC hI 3 2 (wM_e3 ad cy σ1) (tM_t3 cy) q dX12_wave_90 ?_
        exact z_ireturn hC hI hf dX12_wave_91
      replace hf := zif_t q hf
      refine lv_aload_n hx hb dX12_wave_68 rfl (lv_at hl 0 rfl) ?_
      refine z_get hC hI hinX12_wave_X120 0 (wM_e0 ad cy σ1) rfl 10 (by decide) (List.mem_cons_of_mem _ zw9_7) rfl dX12_wave_69 ?_
      refine lv_sipush (v := 163) hx hb dX12_wave_72 (by decide) ?_
      obtain ⟨q, hf⟩ := zck_use hf
      refine z_iald hC hI 3 2 (wM_e3 ad cy σ1) (tM_t3 cy) q dX12_wave_75 ?_
      exact z_ireturn hC hI hf dX12_wave_76
    replace hf := zif_f q hf
    refine lv_aload_n hx hb dX12_wave_56 rfl (lv_at hl 0 rfl) ?_
    refine lv_iload_n hx hb dX12_wave_57 rfl (lv_at hl 1 rfl) ?_
    obtain ⟨σ3, v4, g3, hf⟩ := zbi_use hf
    refine z_callVi (As := [.int x1]) (rest := []) hC hI (cX12_wreg_met st l D ad cy σ1 x1 _ g3) (zgV zw61_11 zw61_12 zw61_13 zw1_5 zw61_14) rfl ⟨rfl, rfl⟩ 1 hdX12_wreg ⟨Nat.le_of_ble_eq_true rfl, Nat.le_of_ble_eq_true rfl⟩ rfl rfl (wM_e0 ad cy σ1) rfl hl rfl (Nat.le_of_ble_eq_true rfl) dX12_wave_58 ⟨Nat.zero_le _, Nat.zero_le _⟩ (fun H locs hI => ?_)
    exact z_ireturn hC hI hf dX12_wave_61
  replace hf := zif_f q hf
  refine lv_iconst (v := 0) hx hb dX12_wave_48 (by decide) ?_
  exact z_ireturn hC hI hf dX12_wave_49
set_option maxRecDepth 20000 in
set_option maxHeartbeats 4000000 in
theorem bX12_wave_40 {st : Nat → Nat} {p : Program} {l : Launch} {e : Env} {s : State} {m : MethodId} {args : Array Value} {below : List Frame} {meth : Method} {c : Code} {D : va_G} {A : Nat → Prop} {ad : Nat → Nat} {cy : Nat → ClassId} (hC : zC p m c cX12_wave 2 s args wzX12_wave RX12 meth (some .int))  {res : zSt × Int32} {H : Heap} {locs : List Loc} {σ : zSt} {ls : Array Slot} {x1 : Int32} (hI : zI st D (tM cy) (wM ad cy σ) A s H locs) (hl : lv_has ls 2 [(0, .ref (ad 0)), (1, .int x1)]) (hf : fX12_wave_40  σ x1 = some res) : W p l e rmX12_wave s m args below meth c H locs 0 0 (zQi below args s D (tM cy) (wM ad cy) A res) (F0 m 40 ls [.ref (ad 0)]) := by
  have hx := hC.1
  have hb := hC.2.1
  unfold fX12_wave_40 at hf
  refine lv_iconst (v := 0) hx hb dX12_wave_40 (by decide) ?_
  exact bX12_wave_41 hC  hI hl hf
set_option maxRecDepth 20000 in
set_option maxHeartbeats 4000000 in
theorem bX12_wave_36 {st : Nat → Nat} {p : Program} {l : Launch} {e : Env} {s : State} {m : MethodId} {args : Array Value} {below : List Frame} {meth : Method} {c : Code} {D : va_G} {A : Nat → Prop} {ad : Nat → Nat} {cy : Nat → ClassId} (hC : zC p m c cX12_wave 2 s args wzX12_wave RX12 meth (some .int))  {res : zSt × Int32} {H : Heap} {locs : List Loc} {σ : zSt} {ls : Array Slot} {x1 : Int32} (hI : zI st D (tM cy) (wM ad cy σ) A s H locs) (hl : lv_has ls 2 [(0, .ref (ad 0)), (1, .int x1)]) (hf : fX12_wave_36  σ x1 = some res) : W p l e rmX12_wave s m args below meth c H locs 0 0 (zQi below args s D (tM cy) (wM ad cy) A res) (F0 m 36 ls [.ref (ad 0)]) := by
  have hx := hC.1
  have hb := hC.2.1
  unfold fX12_wave_36 at hf
  refine lv_iconst (v := 1) hx hb dX12_wave_36 (by decide) ?_
  refine lv_goto (tgt := 41) hx hb dX12_wave_37 (by decide) ?_
  exact bX12_wave_41 hC  hI hl hf
set_option maxRecDepth 20000 in
set_option maxHeartbeats 4000000 in
theorem bX12_wave {st : Nat → Nat} {p : Program} {l : Launch} {e : Env} {s : State} {m : MethodId} {args : Array Value} {below : List Frame} {meth : Method} {c : Code} {D : va_G} {A : Nat → Prop} {ad : Nat → Nat} {cy : Nat → ClassId} (hC : zC p m c cX12_wave 2 s args wzX12_wave RX12 meth (some .int))  {res : zSt × Int32} {H : Heap} {locs : List Loc} {σ : zSt} {ls : Array Slot} {x1 : Int32} (hI : zI st D (tM cy) (wM ad cy σ) A s H locs) (hl : lv_has ls 2 [(0, .ref (ad 0)), (1, .int x1)]) (hf : fX12_wave  σ x1 = some res) : W p l e rmX12_wave s m args below meth c H locs 0 0 (zQi below args s D (tM cy) (wM ad cy) A res) (F0 m 0 ls []) := by
  have hx := hC.1
  have hb := hC.2.1
  unfold fX12_wave at hf
  refine lv_aload_n hx hb dX12_wave_0 rfl (lv_at hl 0 rfl) ?_
  refine lv_iload_n hx hb dX12_wave_1 rfl (lv_at hl 1 rfl) ?_
  refine lv_i2l (v := x1.toInt64) hx hb dX12_wave_2 rfl ?_
  refine lv_lconst (v := 0) hx hb dX12_wave_3 (by decide) ?_
  refine lv_ldc2 (v := 67) hx hb hC.2.2.2.1 (hC.2.2.2.2.1 _ (List.mem_cons_of_mem _ zw93_22)) dX12_wave_4 ?_
  obtain ⟨σ5, v6, g5, hf⟩ := zbi_use hf
  refine z_callSi (As := [.long (x1.toInt64), .long 0, .long 67]) (rest := [.ref (ad 0)]) hC hI (cX12_within_met st l D ad cy σ (x1.toInt64) 0 67 _ g5) (zgS zw11_18 zw11_19 zw1_5 zw11_20) rfl ⟨rfl, rfl⟩ 3 hdX12_within ⟨Nat.le_of_ble_eq_true rfl, Nat.le_of_ble_eq_true rfl⟩ rfl hl rfl (Nat.le_of_ble_eq_true rfl) dX12_wave_7 ⟨Nat.zero_le _, Nat.zero_le _⟩ (fun H locs hI => ?_)
  refine lv_if_ne (tgt := 40) hx hb dX12_wave_10 (by decide) (fun q => ?_) (fun q => ?_)
  · replace hf := zif_f q hf
    exact bX12_wave_40 hC  hI hl hf
  replace hf := zif_t q hf
  refine lv_iload_n hx hb dX12_wave_13 rfl (lv_at hl 1 rfl) ?_
  refine lv_i2l (v := x1.toInt64) hx hb dX12_wave_14 rfl ?_
  refine lv_ldc2 (v := 128) hx hb hC.2.2.2.1 (hC.2.2.2.2.1 _ (List.mem_cons_of_mem _ zw93_23)) dX12_wave_15 ?_
  refine lv_ldc2 (v := 271) hx hb hC.2.2.2.1 (hC.2.2.2.2.1 _ (List.mem_cons_of_mem _ zw94_0)) dX12_wave_18 ?_
  obtain ⟨σ7, v8, g7, hf⟩ := zbi_use hf
  refine z_callSi (As := [.long (x1.toInt64), .long 128, .long 271]) (rest := [.ref (ad 0)]) hC hI (cX12_within_met st l D ad cy σ5 (x1.toInt64) 128 271 _ g7) (zgS zw11_18 zw11_19 zw1_5 zw11_20) rfl ⟨rfl, rfl⟩ 3 hdX12_within ⟨Nat.le_of_ble_eq_true rfl, Nat.le_of_ble_eq_true rfl⟩ rfl hl rfl (Nat.le_of_ble_eq_true rfl) dX12_wave_21 ⟨Nat.zero_le _, Nat.zero_le _⟩ (fun H locs hI => ?_)
  refine lv_if_eq (tgt := 36) hx hb dX12_wave_24 (by decide) (fun q => ?_) (fun q => ?_)
  · replace hf := zif_t q hf
    exact bX12_wave_36 hC  hI hl hf
  replace hf := zif_f q hf
  refine lv_iload_n hx hb dX12_wave_27 rfl (lv_at hl 1 rfl) ?_
  refine lv_bipush (v := 8) hx hb dX12_wave_28 (by decide) ?_
  obtain ⟨q, hf⟩ := zck_use hf
  refine z_irem hx hb dX12_wave_30 (of_decide_eq_true q) ?_
  refine lv_bipush (v := 6) hx hb dX12_wave_31 (by decide) ?_
  refine lv_icmp_lt (tgt := 40) hx hb dX12_wave_33 (by decide) (fun q => ?_) (fun q => ?_)
  · replace hf := zif_t q hf
    exact bX12_wave_40 hC  hI hl hf
  replace hf := zif_f q hf
  exact bX12_wave_36 hC  hI hl hf
set_option maxRecDepth 20000 in
theorem cX12_wave_met (st : Nat → Nat) (l : Launch) (D : va_G) (ad : Nat → Nat) (cy : Nat → ClassId) (σ : zSt) (x1 : Int32) (res : zSt × Int32) (hf : fX12_wave σ x1 = some res) (sz : Nat) : zMi st l yX12_wave wzX12_wave rmX12_wave [.ref (ad 0), .int x1] D (tM cy) (wM ad cy) sz σ res :=
  zMi.of (cc := cX12_wave) (maxL := 2) (ret := (some .int)) (by decide) rfl (Nat.le_of_ble_eq_true rfl) (fun p e s m args below meth c hC A hI ls hl => bX12_wave hC hI hl hf)
theorem hdX12_wave : yX12_wave.cls = RX12 ∧ yX12_wave.cls ≠ "java/lang/invoke/MethodHandle" ∧ yX12_wave.cls ≠ "java/lang/invoke/VarHandle" ∧ (parseMethodDescriptor yX12_wave.desc).map (fun d => d.parameters.length) = some 1 := by decide +kernel
noncomputable def rmX12_plan : Room := { frames := 1, cells := 0, slots := 0, locals := 25 }
noncomputable def wzX12_plan : List Cond := .code yX12_plan cX12_plan 6 (some .int) :: wsL_law
theorem hinX12_plan_X120 : ∀ w ∈ wsX120, w ∈ wzX12_plan := fun w h => List.mem_cons_of_mem _ (inlX12 w h)
noncomputable def fX12_plan_110  (σ : zSt)  : Option (zSt × Int32) :=
  some (σ, 0)
noncomputable def fX12_plan_103  (σ : zSt) (x1 : Int32) (x2 : Int32) (x3 : Int32) (s0 : Int32) : Option (zSt × Int32) :=
  zbi (fX12_fails σ s0 2) (fun σ1 v2 =>
  if v2 = 0 then zck (zin 171 1048) (
  zbv (280 + (3 * (zgi σ1 3 (171 : Int32).toNatClampNeg))) (fun v3 =>
  zck (zin v3 1048) (zbv (zsi σ1 3 (v3.toNatClampNeg) x1) (fun σ4 =>
  zck (zin (v3 + 1) 1048) (zbv (zsi σ4 3 ((v3 + 1).toNatClampNeg) x2) (fun σ5 =>
  zck (zin (v3 + 2) 1048) (zbv (zsi σ5 3 ((v3 + 2).toNatClampNeg) x3) (fun σ6 =>
  zck (zin 171 1048) (
  zck (zin 171 1048) (zbv (zsi σ6 3 ((171 : Int32).toNatClampNeg) ((zgi σ6 3 (171 : Int32).toNatClampNeg) + 1)) (fun σ7 =>
  zck (zin 171 1048) (
  some (σ7, zgi σ7 3 (171 : Int32).toNatClampNeg))))))))))))) else
  fX12_plan_110 σ1)
noncomputable def fX12_plan_76  (σ : zSt) (x1 : Int32) (x2 : Int32) (x3 : Int32) (s0 : Int32) : Option (zSt × Int32) :=
  zbi (fX12_fails σ s0 1) (fun σ8 v9 =>
  if v9 = 0 then zck (zin 171 1048) (
  if (zgi σ8 3 (171 : Int32).toNatClampNeg) = 256 then fX12_plan_103 σ8 x1 x2 x3 1 else
  fX12_plan_103 σ8 x1 x2 x3 0) else
  fX12_plan_110 σ8)
noncomputable def fX12_plan_71  (σ : zSt) (x1 : Int32) (x2 : Int32) (x3 : Int32) : Option (zSt × Int32) :=
  fX12_plan_76 σ x1 x2 x3 1
noncomputable def fX12_plan_36  (σ : zSt) (x1 : Int32) (x2 : Int32) (x3 : Int32) (s0 : Int32) : Option (zSt × Int32) :=
  if x1 < s0 then fX12_plan_71 σ x1 x2 x3 else
  if x1 < 0 then fX12_plan_71 σ x1 x2 x3 else
  zbi (fX12_within σ (x2.toInt64) 0 1) (fun σ10 v11 =>
  if v11 = 0 then fX12_plan_71 σ10 x1 x2 x3 else
  zbi (fX12_within σ10 (x3.toInt64) 0 63) (fun σ12 v13 =>
  if v13 = 0 then fX12_plan_71 σ12 x1 x2 x3 else
  fX12_plan_76 σ12 x1 x2 x3 0))
noncomputable def fX12_plan  (σ : zSt) (x1 : Int32) (x2 : Int32) (x3 : Int32) : Option (zSt × Int32) :=
  zck (zin 171 1048) (
  if (zgi σ 3 (171 : Int32).toNatClampNeg) = 0 then fX12_plan_36 σ x1 x2 x3 0 else
  zck (zin 171 1048) (
  zck (zin (280 + (3 * ((zgi σ 3 (171 : Int32).toNatClampNeg) - 1))) 1048) (
  fX12_plan_36 σ x1 x2 x3 (zgi σ 3 (280 + (3 * ((zgi σ 3 (171 : Int32).toNatClampNeg) - 1))).toNatClampNeg))))
set_option maxRecDepth 20000 in
set_option maxHeartbeats 4000000 in
theorem bX12_plan_110 {st : Nat → Nat} {p : Program} {l : Launch} {e : Env} {s : State} {m : MethodId} {args : Array Value} {below : List Frame} {meth : Method} {c : Code} {D : va_G} {A : Nat → Prop} {ad : Nat → Nat} {cy : Nat → ClassId} (hC : zC p m c cX12_plan 6 s args wzX12_plan RX12 meth (some .int))  {res : zSt × Int32} {H : Heap} {locs : List Loc} {σ : zSt} {ls : Array Slot}  (hI : zI st D (tM cy) (wM ad cy σ) A s H locs) (hl : lv_has ls 6 []) (hf : fX12_plan_110  σ  = some res) : W p l e rmX12_plan s m args below meth c H locs 0 0 (zQi below args s D (tM cy) (wM ad cy) A res) (F0 m 110 ls []) := by
  have hx := hC.1
  have hb := hC.2.1
  unfold fX12_plan_110 at hf
  refine lv_iconst (v := 0) hx hb dX12_plan_110 (by decide) ?_
  exact z_ireturn hC hI hf dX12_plan_111
set_option maxRecDepth 20000 in
set_option maxHeartbeats 4000000 in
theorem bX12_plan_103 {st : Nat → Nat} {p : Program} {l : Launch} {e : Env} {s : State} {m : MethodId} {args : Array Value} {below : List Frame} {meth : Method} {c : Code} {D : va_G} {A : Nat → Prop} {ad : Nat → Nat} {cy : Nat → ClassId} (hC : zC p m c cX12_plan 6 s args wzX12_plan RX12 meth (some .int))  {res : zSt × Int32} {H : Heap} {locs : List Loc} {σ : zSt} {ls : Array Slot} {x1 : Int32} {x2 : Int32} {x3 : Int32} {s0 : Int32} (hI : zI st D (tM cy) (wM ad cy σ) A s H locs) (hl : lv_has ls 6 [(0, .ref (ad 0)), (1, .int x1), (2, .int x2), (3, .int x3)]) (hf : fX12_plan_103  σ x1 x2 x3 s0 = some res) : W p l e rmX12_plan s m args below meth c H locs 0 0 (zQi below args s D (tM cy) (wM ad cy) A res) (F0 m 103 ls [.int s0, .ref (ad 0)]) := by
  have hx := hC.1
  have hb := hC.2.1
  unfold fX12_plan_103 at hf
  refine lv_iconst (v := 2) hx hb dX12_plan_103 (by decide) ?_
  obtain ⟨σ1, v2, g1, hf⟩ := zbi_use hf
  refine z_callVi (As := [.int s0, .int 2]) (rest := []) hC hI (cX12_fails_met st l D ad cy σ s0 2 _ g1) (zgV zw11_21 zw11_22 zw11_23 zw1_5 zw12_0) rfl ⟨rfl, rfl⟩ 2 hdX12_fails ⟨Nat.le_of_ble_eq_true rfl, Nat.le_of_ble_eq_true rfl⟩ rfl rfl (wM_e0 ad cy σ) rfl hl rfl (Nat.le_of_ble_eq_true rfl) dX12_plan_104 ⟨Nat.zero_le _, Nat.zero_le _⟩ (fun H locs hI => ?_)
  refine lv_if_eq (tgt := 112) hx hb dX12_plan_107 (by decide) (fun q => ?_) (fun q => ?_)
  · replace hf := zif_t q hf
    refine lv_sipush (v := 280) hx hb dX12_plan_112 (by decide) ?_
    refine lv_iconst (v := 3) hx hb dX12_plan_115 (by decide) ?_
    refine lv_aload_n hx hb dX12_plan_116 rfl (lv_at hl 0 rfl) ?_
    refine z_get hC hI hinX12_plan_X120 0 (wM_e0 ad cy σ1) rfl 10 (by decide) (List.mem_cons_of_mem _ zw9_7) rfl dX12_plan_117 ?_
    refine lv_sipush (v := 171) hx hb dX12_plan_120 (by decide) ?_
    obtain ⟨q, hf⟩ := zck_use hf
    refine z_iald hC hI 3 2 (wM_e3 ad cy σ1) (tM_t3 cy) q dX12_plan_123 ?_
    refine lv_imul hx hb dX12_plan_124 ?_
    refine lv_iadd hx hb dX12_plan_125 ?_
    refine lv_topi (fun v3 ev3 => ?_)
    replace hf := zbv_use ev3 hf
    refine lv_istore (lv' := [(5, .int v3), (0, .ref (ad 0)), (1, .int x1), (2, .int x2), (3, .int x3)]) hx hb dX12_plan_126 hl (by decide) rfl (fun ls hl => ?_)
    refine lv_aload_n hx hb dX12_plan_128 rfl (lv_at hl 1 rfl) ?_
    refine z_get hC hI hinX12_plan_X120 0 (wM_e0 ad cy σ1) rfl 10 (by decide) (List.mem_cons_of_mem _ zw9_7) rfl dX12_plan_129 ?_
    refine lv_iload hx hb dX12_plan_132 (lv_at hl 0 rfl) ?_
    refine lv_iload_n hx hb dX12_plan_134 rfl (lv_at hl 2 rfl) ?_
    obtain ⟨q, hf⟩ := zck_use hf
    obtain ⟨σ4, eσ4⟩ : ∃ z, z = zsi σ1 3 (v3.toNatClampNeg) x1 := ⟨_, rfl⟩
    replace hf := zbv_use eσ4 hf
    refine z_iast hC hI 3 2 (wM_e3 ad cy σ1) (tM_t3 cy) q ((wM_s3 ad cy σ1 _ _).trans (congrArg (wM ad cy) eσ4.symm)) dX12_plan_135 (fun H locs hI => ?_)
    refine lv_aload_n hx hb dX12_plan_136 rfl (lv_at hl 1 rfl) ?_
    refine z_get hC hI hinX12_plan_X120 0 (wM_e0 ad cy σ4) rfl 10 (by decide) (List.mem_cons_of_mem _ zw9_7) rfl dX12_plan_137 ?_
    refine lv_iload hx hb dX12_plan_140 (lv_at hl 0 rfl) ?_
    refine lv_iconst (v := 1) hx hb dX12_plan_142 (by decide) ?_
    refine lv_iadd hx hb dX12_plan_143 ?_
    refine lv_iload_n hx hb dX12_plan_144 rfl (lv_at hl 3 rfl) ?_
    obtain ⟨q, hf⟩ := zck_use hf
    obtain ⟨σ5, eσ5⟩ : ∃ z, z = zsi σ4 3 ((v3 + 1).toNatClampNeg) x2 := ⟨_, rfl⟩
    replace hf := zbv_use eσ5 hf
    refine z_iast hC hI 3 2 (wM_e3 ad cy σ4) (tM_t3 cy) q ((wM_s3 ad cy σ4 _ _).trans (congrArg (wM ad cy) eσ5.symm)) dX12_plan_145 (fun H locs hI => ?_)
    refine lv_aload_n hx hb dX12_plan_146 rfl (lv_at hl 1 rfl) ?_
    refine z_get hC hI hinX12_plan_X120 0 (wM_e0 ad cy σ5) rfl 10 (by decide) (List.mem_cons_of_mem _ zw9_7) rfl dX12_plan_147 ?_
    refine lv_iload hx hb dX12_plan_150 (lv_at hl 0 rfl) ?_
    refine lv_iconst (v := 2) hx hb dX12_plan_152 (by decide) ?_
    refine lv_iadd hx hb dX12_plan_153 ?_
    refine lv_iload_n hx hb dX12_plan_154 rfl (lv_at hl 4 rfl) ?_
    obtain ⟨q, hf⟩ := zck_use hf
    obtain ⟨σ6, eσ6⟩ : ∃ z, z = zsi σ5 3 ((v3 + 2).toNatClampNeg) x3 := ⟨_, rfl⟩
    replace hf := zbv_use eσ6 hf
    refine z_iast hC hI 3 2 (wM_e3 ad cy σ5) (tM_t3 cy) q ((wM_s3 ad cy σ5 _ _).trans (congrArg (wM ad cy) eσ6.symm)) dX12_plan_155 (fun H locs hI => ?_)
    refine lv_aload_n hx hb dX12_plan_156 rfl (lv_at hl 1 rfl) ?_
    refine z_get hC hI hinX12_plan_X120 0 (wM_e0 ad cy σ6) rfl 10 (by decide) (List.mem_cons_of_mem _ zw9_7) rfl dX12_plan_157 ?_
    refine lv_sipush (v := 171) hx hb dX12_plan_160 (by decide) ?_
    refine lv_dup2_11 hx hb dX12_plan_163 rfl rfl ?_
    obtain ⟨q, hf⟩ := zck_use hf
    refine z_iald hC hI 3 2 (wM_e3 ad cy σ6) (tM_t3 cy) q dX12_plan_164 ?_
    refine lv_iconst (v := 1) hx hb dX12_plan_165 (by decide) ?_
    refine lv_iadd hx hb dX12_plan_166 ?_
    obtain ⟨q, hf⟩ := zck_use hf
    obtain ⟨σ7, eσ7⟩ : ∃ z, z = zsi σ6 3 ((171 : Int32).toNatClampNeg) ((zgi σ6 3 (171 : Int32).toNatClampNeg) + 1) := ⟨_, rfl⟩
    replace hf := zbv_use eσ7 hf
    refine z_iast hC hI 3 2 (wM_e3 ad cy σ6) (tM_t3 cy) q ((wM_s3 ad cy σ6 _ _).trans (congrArg (wM ad cy) eσ7.symm)) dX12_plan_167 (fun H locs hI => ?_)
    refine lv_aload_n hx hb dX12_plan_168 rfl (lv_at hl 1 rfl) ?_
    refine z_get hC hI hinX12_plan_X120 0 (wM_e0 ad cy σ7) rfl 10 (by decide) (List.mem_cons_of_mem _ zw9_7) rfl dX12_plan_169 ?_
    refine lv_sipush (v := 171) hx hb dX12_plan_172 (by decide) ?_
    obtain ⟨q, hf⟩ := zck_use hf
    refine z_iald hC hI 3 2 (wM_e3 ad cy σ7) (tM_t3 cy) q dX12_plan_175 ?_
    exact z_ireturn hC hI hf dX12_plan_176
  replace hf := zif_f q hf
  exact bX12_plan_110 hC  hI (lv_sub hl [] rfl) hf
set_option maxRecDepth 20000 in
set_option maxHeartbeats 4000000 in
theorem bX12_plan_76 {st : Nat → Nat} {p : Program} {l : Launch} {e : Env} {s : State} {m : MethodId} {args : Array Value} {below : List Frame} {meth : Method} {c : Code} {D : va_G} {A : Nat → Prop} {ad : Nat → Nat} {cy : Nat → ClassId} (hC : zC p m c cX12_plan 6 s args wzX12_plan RX12 meth (some .int))  {res : zSt × Int32} {H : Heap} {locs : List Loc} {σ : zSt} {ls : Array Slot} {x1 : Int32} {x2 : Int32} {x3 : Int32} {s0 : Int32} (hI : zI st D (tM cy) (wM ad cy σ) A s H locs) (hl : lv_has ls 6 [(0, .ref (ad 0)), (1, .int x1), (2, .int x2), (3, .int x3)]) (hf : fX12_plan_76  σ x1 x2 x3 s0 = some res) : W p l e rmX12_plan s m args below meth c H locs 0 0 (zQi below args s D (tM cy) (wM ad cy) A res) (F0 m 76 ls [.int s0, .ref (ad 0)]) := by
  have hx := hC.1
  have hb := hC.2.1
  unfold fX12_plan_76 at hf
  refine lv_iconst (v := 1) hx hb dX12_plan_76 (by decide) ?_
  obtain ⟨σ8, v9, g8, hf⟩ := zbi_use hf
  refine z_callVi (As := [.int s0, .int 1]) (rest := []) hC hI (cX12_fails_met st l D ad cy σ s0 1 _ g8) (zgV zw11_21 zw11_22 zw11_23 zw1_5 zw12_0) rfl ⟨rfl, rfl⟩ 2 hdX12_fails ⟨Nat.le_of_ble_eq_true rfl, Nat.le_of_ble_eq_true rfl⟩ rfl rfl (wM_e0 ad cy σ) rfl hl rfl (Nat.le_of_ble_eq_true rfl) dX12_plan_77 ⟨Nat.zero_le _, Nat.zero_le _⟩ (fun H locs hI => ?_)
  refine lv_if_ne (tgt := 110) hx hb dX12_plan_80 (by decide) (fun q => ?_) (fun q => ?_)
  · replace hf := zif_f q hf
    exact bX12_plan_110 hC  hI (lv_sub hl [] rfl) hf
  replace hf := zif_t q hf
  refine lv_aload_n hx hb dX12_plan_83 rfl (lv_at hl 0 rfl) ?_
  refine lv_aload_n hx hb dX12_plan_84 rfl (lv_at hl 0 rfl) ?_
  refine z_get hC hI hinX12_plan_X120 0 (wM_e0 ad cy σ8) rfl 10 (by decide) (List.mem_cons_of_mem _ zw9_7) rfl dX12_plan_85 ?_
  refine lv_sipush (v := 171) hx hb dX12_plan_88 (by decide) ?_
  obtain ⟨q, hf⟩ := zck_use hf
  refine z_iald hC hI 3 2 (wM_e3 ad cy σ8) (tM_t3 cy) q dX12_plan_91 ?_
  refine lv_sipush (v := 256) hx hb dX12_plan_92 (by decide) ?_
  refine lv_icmp_ne (tgt := 102) hx hb dX12_plan_95 (by decide) (fun q => ?_) (fun q => ?_)
  · replace hf := zif_f q hf
    refine lv_iconst (v := 0) hx hb dX12_plan_102 (by decide) ?_
    exact bX12_plan_103 hC  hI hl hf
  replace hf := zif_t q hf
  refine lv_iconst (v := 1) hx hb dX12_plan_98 (by decide) ?_
  refine lv_goto (tgt := 103) hx hb dX12_plan_99 (by decide) ?_
  exact bX12_plan_103 hC  hI hl hf
set_option maxRecDepth 20000 in
set_option maxHeartbeats 4000000 in
theorem bX12_plan_71 {st : Nat → Nat} {p : Program} {l : Launch} {e : Env} {s : State} {m : MethodId} {args : Array Value} {below : List Frame} {meth : Method} {c : Code} {D : va_G} {A : Nat → Prop} {ad : Nat → Nat} {cy : Nat → ClassId} (hC : zC p m c cX12_plan 6 s args wzX12_plan RX12 meth (some .int))  {res : zSt × Int32} {H : Heap} {locs : List Loc} {σ : zSt} {ls : Array Slot} {x1 : Int32} {x2 : Int32} {x3 : Int32} (hI : zI st D (tM cy) (wM ad cy σ) A s H locs) (hl : lv_has ls 6 [(0, .ref (ad 0)), (1, .int x1), (2, .int x2), (3, .int x3)]) (hf : fX12_plan_71  σ x1 x2 x3 = some res) : W p l e rmX12_plan s m args below meth c H locs 0 0 (zQi below args s D (tM cy) (wM ad cy) A res) (F0 m 71 ls [.ref (ad 0)]) := by
  have hx := hC.1
  have hb := hC.2.1
  unfold fX12_plan_71 at hf
  refine lv_iconst (v := 1) hx hb dX12_plan_71 (by decide) ?_
  refine lv_goto (tgt := 76) hx hb dX12_plan_72 (by decide) ?_
  exact bX12_plan_76 hC  hI hl hf
set_option maxRecDepth 20000 in
set_option maxHeartbeats 4000000 in
theorem bX12_plan_36 {st : Nat → Nat} {p : Program} {l : Launch} {e : Env} {s : State} {m : MethodId} {args : Array Value} {below : List Frame} {meth : Method} {c : Code} {D : va_G} {A : Nat → Prop} {ad : Nat → Nat} {cy : Nat → ClassId} (hC : zC p m c cX12_plan 6 s args wzX12_plan RX12 meth (some .int))  {res : zSt × Int32} {H : Heap} {locs : List Loc} {σ : zSt} {ls : Array Slot} {x1 : Int32} {x2 : Int32} {x3 : Int32} {s0 : Int32} (hI : zI st D (tM cy) (wM ad cy σ) A s H locs) (hl : lv_has ls 6 [(0, .ref (ad 0)), (1, .int x1), (2, .int x2), (3, .int x3)]) (hf : fX12_plan_36  σ x1 x2 x3 s0 = some res) : W p l e rmX12_plan s m args below meth c H locs 0 0 (zQi below args s D (tM cy) (wM ad cy) A res) (F0 m 36 ls [.int s0]) := by
  have hx := hC.1
  have hb := hC.2.1
  unfold fX12_plan_36 at hf
  refine lv_istore (lv' := [(4, .int s0), (0, .ref (ad 0)), (1, .int x1), (2, .int x2), (3, .int x3)]) hx hb dX12_plan_36 hl (by decide) rfl (fun ls hl => ?_)
  refine lv_aload_n hx hb dX12_plan_38 rfl (lv_at hl 1 rfl) ?_
  refine lv_iload_n hx hb dX12_plan_39 rfl (lv_at hl 2 rfl) ?_
  refine lv_iload hx hb dX12_plan_40 (lv_at hl 0 rfl) ?_
  refine lv_icmp_lt (tgt := 71) hx hb dX12_plan_42 (by decide) (fun q => ?_) (fun q => ?_)
  · replace hf := zif_t q hf
    exact bX12_plan_71 hC  hI (lv_sub hl [1, 2, 3, 4] rfl) hf
  replace hf := zif_f q hf
  refine lv_iload_n hx hb dX12_plan_45 rfl (lv_at hl 2 rfl) ?_
  refine lv_if_lt (tgt := 71) hx hb dX12_plan_46 (by decide) (fun q => ?_) (fun q => ?_)
  · replace hf := zif_t q hf
    exact bX12_plan_71 hC  hI (lv_sub hl [1, 2, 3, 4] rfl) hf
  replace hf := zif_f q hf
  refine lv_iload_n hx hb dX12_plan_49 rfl (lv_at hl 3 rfl) ?_
  refine lv_i2l (v := x2.toInt64) hx hb dX12_plan_50 rfl ?_
  refine lv_lconst (v := 0) hx hb dX12_plan_51 (by decide) ?_
  refine lv_lconst (v := 1) hx hb dX12_plan_52 (by decide) ?_
  obtain ⟨σ10, v11, g10, hf⟩ := zbi_use hf
  refine z_callSi (As := [.long (x2.toInt64), .long 0, .long 1]) (rest := [.ref (ad 0)]) hC hI (cX12_within_met st l D ad cy σ (x2.toInt64) 0 1 _ g10) (zgS zw11_18 zw11_19 zw1_5 zw11_20) rfl ⟨rfl, rfl⟩ 3 hdX12_within ⟨Nat.le_of_ble_eq_true rfl, Nat.le_of_ble_eq_true rfl⟩ rfl hl rfl (Nat.le_of_ble_eq_true rfl) dX12_plan_53 ⟨Nat.zero_le _, Nat.zero_le _⟩ (fun H locs hI => ?_)
  refine lv_if_eq (tgt := 71) hx hb dX12_plan_56 (by decide) (fun q => ?_) (fun q => ?_)
  · replace hf := zif_t q hf
    exact bX12_plan_71 hC  hI (lv_sub hl [1, 2, 3, 4] rfl) hf
  replace hf := zif_f q hf
  refine lv_iload_n hx hb dX12_plan_59 rfl (lv_at hl 4 rfl) ?_
  refine lv_i2l (v := x3.toInt64) hx hb dX12_plan_60 rfl ?_
  refine lv_lconst (v := 0) hx hb dX12_plan_61 (by decide) ?_
  refine lv_ldc2 (v := 63) hx hb hC.2.2.2.1 (hC.2.2.2.2.1 _ (List.mem_cons_of_mem _ zw67_18)) dX12_plan_62 ?_
  obtain ⟨σ12, v13, g12, hf⟩ := zbi_use hf
  refine z_callSi (As := [.long (x3.toInt64), .long 0, .long 63]) (rest := [.ref (ad 0)]) hC hI (cX12_within_met st l D ad cy σ10 (x3.toInt64) 0 63 _ g12) (zgS zw11_18 zw11_19 zw1_5 zw11_20) rfl ⟨rfl, rfl⟩ 3 hdX12_within ⟨Nat.le_of_ble_eq_true rfl, Nat.le_of_ble_eq_true rfl⟩ rfl hl rfl (Nat.le_of_ble_eq_true rfl) dX12_plan_65 ⟨Nat.zero_le _, Nat.zero_le _⟩ (fun H locs hI => ?_)
  refine lv_if_ne (tgt := 75) hx hb dX12_plan_68 (by decide) (fun q => ?_) (fun q => ?_)
  · replace hf := zif_f q hf
    refine lv_iconst (v := 0) hx hb dX12_plan_75 (by decide) ?_
    exact bX12_plan_76 hC  hI (lv_sub hl [1, 2, 3, 4] rfl) hf
  replace hf := zif_t q hf
  exact bX12_plan_71 hC  hI (lv_sub hl [1, 2, 3, 4] rfl) hf
set_option maxRecDepth 20000 in
set_option maxHeartbeats 4000000 in
theorem bX12_plan {st : Nat → Nat} {p : Program} {l : Launch} {e : Env} {s : State} {m : MethodId} {args : Array Value} {below : List Frame} {meth : Method} {c : Code} {D : va_G} {A : Nat → Prop} {ad : Nat → Nat} {cy : Nat → ClassId} (hC : zC p m c cX12_plan 6 s args wzX12_plan RX12 meth (some .int))  {res : zSt × Int32} {H : Heap} {locs : List Loc} {σ : zSt} {ls : Array Slot} {x1 : Int32} {x2 : Int32} {x3 : Int32} (hI : zI st D (tM cy) (wM ad cy σ) A s H locs) (hl : lv_has ls 6 [(0, .ref (ad 0)), (1, .int x1), (2, .int x2), (3, .int x3)]) (hf : fX12_plan  σ x1 x2 x3 = some res) : W p l e rmX12_plan s m args below meth c H locs 0 0 (zQi below args s D (tM cy) (wM ad cy) A res) (F0 m 0 ls []) := by
  have hx := hC.1
  have hb := hC.2.1
  unfold fX12_plan at hf
  refine lv_aload_n hx hb dX12_plan_0 rfl (lv_at hl 0 rfl) ?_
  refine z_get hC hI hinX12_plan_X120 0 (wM_e0 ad cy σ) rfl 10 (by decide) (List.mem_cons_of_mem _ zw9_7) rfl dX12_plan_1 ?_
  refine lv_sipush (v := 171) hx hb dX12_plan_4 (by decide) ?_
  obtain ⟨q, hf⟩ := zck_use hf
  refine z_iald hC hI 3 2 (wM_e3 ad cy σ) (tM_t3 cy) q dX12_plan_7 ?_
  refine lv_if_ne (tgt := 15) hx hb dX12_plan_8 (by decide) (fun q => ?_) (fun q => ?_)
  · replace hf := zif_f q hf
    refine lv_aload_n hx hb dX12_plan_15 rfl (lv_at hl 0 rfl) ?_
    refine z_get hC hI hinX12_plan_X120 0 (wM_e0 ad cy σ) rfl 10 (by decide) (List.mem_cons_of_mem _ zw9_7) rfl dX12_plan_16 ?_
    refine lv_sipush (v := 280) hx hb dX12_plan_19 (by decide) ?_
    refine lv_iconst (v := 3) hx hb dX12_plan_22 (by decide) ?_
    refine lv_aload_n hx hb dX12_plan_23 rfl (lv_at hl 0 rfl) ?_
    refine z_get hC hI hinX12_plan_X120 0 (wM_e0 ad cy σ) rfl 10 (by decide) (List.mem_cons_of_mem _ zw9_7) rfl dX12_plan_24 ?_
    refine lv_sipush (v := 171) hx hb dX12_plan_27 (by decide) ?_
    obtain ⟨q, hf⟩ := zck_use hf
    refine z_iald hC hI 3 2 (wM_e3 ad cy σ) (tM_t3 cy) q dX12_plan_30 ?_
    refine lv_iconst (v := 1) hx hb dX12_plan_31 (by decide) ?_
    refine lv_isub hx hb dX12_plan_32 ?_
    refine lv_imul hx hb dX12_plan_33 ?_
    refine lv_iadd hx hb dX12_plan_34 ?_
    obtain ⟨q, hf⟩ := zck_use hf
    refine z_iald hC hI 3 2 (wM_e3 ad cy σ) (tM_t3 cy) q dX12_plan_35 ?_
    exact bX12_plan_36 hC  hI hl hf
  replace hf := zif_t q hf
  refine lv_iconst (v := 0) hx hb dX12_plan_11 (by decide) ?_
  refine lv_goto (tgt := 36) hx hb dX12_plan_12 (by decide) ?_
  exact bX12_plan_36 hC  hI hl hf
set_option maxRecDepth 20000 in
theorem cX12_plan_met (st : Nat → Nat) (l : Launch) (D : va_G) (ad : Nat → Nat) (cy : Nat → ClassId) (σ : zSt) (x1 : Int32) (x2 : Int32) (x3 : Int32) (res : zSt × Int32) (hf : fX12_plan σ x1 x2 x3 = some res) (sz : Nat) : zMi st l yX12_plan wzX12_plan rmX12_plan [.ref (ad 0), .int x1, .int x2, .int x3] D (tM cy) (wM ad cy) sz σ res :=
  zMi.of (cc := cX12_plan) (maxL := 6) (ret := (some .int)) (by decide) rfl (Nat.le_of_ble_eq_true rfl) (fun p e s m args below meth c hC A hI ls hl => bX12_plan hC hI hl hf)
theorem hdX12_plan : yX12_plan.cls = RX12 ∧ yX12_plan.cls ≠ "java/lang/invoke/MethodHandle" ∧ yX12_plan.cls ≠ "java/lang/invoke/VarHandle" ∧ (parseMethodDescriptor yX12_plan.desc).map (fun d => d.parameters.length) = some 3 := by decide +kernel
noncomputable def rmX12_say : Room := { frames := 4, cells := 0, slots := 0, locals := 117 }
noncomputable def wzX12_say : List Cond := .code yX12_say cX12_say 3 none :: wsL_law
theorem hinX12_say_X120 : ∀ w ∈ wsX120, w ∈ wzX12_say := fun w h => List.mem_cons_of_mem _ (inlX12 w h)
noncomputable def fX12_say_2_body (k2 : zSt → Nat → Int32 → Option (zSt)) (σ : zSt) (n1 : Nat) (x2 : Int32) : Option (zSt) :=
  zck (decide (n1 < zNK)) (if (zkN n1) ≤ x2 then some σ else
  zck (decide (n1 < zNK)) (zck (zin x2 (zkL n1)) (
  zck (zin (zgi σ 0 39) 40) (zbv (zsi σ 26 ((zgi σ 0 39).toNatClampNeg) (zkC n1 x2.toNatClampNeg)) (fun σ1 =>
  zbv (zsi σ1 0 39 ((zgi σ1 0 39) + 1)) (fun σ2 =>
  zbv (x2 + 1) (fun v3 =>
  k2 σ2 n1 v3)))))))
noncomputable def fX12_say_2  : Nat → zSt → Nat → Int32 → Option (zSt)
  | 0, _, _, _ => none
  | n + 1, σ, n1, x2 => fX12_say_2_body (fX12_say_2  n) σ n1 x2
noncomputable def fX12_say  (σ : zSt) (n1 : Nat) : Option (zSt) :=
  fX12_say_2 zfuel σ n1 0
set_option maxRecDepth 20000 in
set_option maxHeartbeats 4000000 in
theorem bX12_say_2_body {st : Nat → Nat} {p : Program} {l : Launch} {e : Env} {s : State} {m : MethodId} {args : Array Value} {below : List Frame} {meth : Method} {c : Code} {D : va_G} {A : Nat → Prop} {ad : Nat → Nat} {cy : Nat → ClassId} (hC : zC p m c cX12_say 3 s args wzX12_say RX12 meth none) {k2 : zSt → Nat → Int32 → Option (zSt)} {res : zSt} (hk2 : ∀ (H : Heap) (locs : List Loc) (σ : zSt) (ls : Array Slot) (n1 : Nat) (x2 : Int32), zI st D (tM cy) (wM ad cy σ) A s H locs → lv_has ls 3 [(0, .ref (ad 0)), (1, .ref (st (100 + n1))), (2, .int x2)] → k2 σ n1 x2 = some res → W p l e rmX12_say s m args below meth c H locs 0 0 (zQu below args s D (tM cy) (wM ad cy) A res) (F0 m 2 ls [])) {H : Heap} {locs : List Loc} {σ : zSt} {ls : Array Slot} {n1 : Nat} {x2 : Int32} (hI : zI st D (tM cy) (wM ad cy σ) A s H locs) (hl : lv_has ls 3 [(0, .ref (ad 0)), (1, .ref (st (100 + n1))), (2, .int x2)]) (hf : fX12_say_2_body k2 σ n1 x2 = some res) : W p l e rmX12_say s m args below meth c H locs 0 0 (zQu below args s D (tM cy) (wM ad cy) A res) (F0 m 2 ls []) := by
  have hx := hC.1
  have hb := hC.2.1
  unfold fX12_say_2_body at hf
  refine lv_iload_n hx hb dX12_say_2 rfl (lv_at hl 2 rfl) ?_
  refine lv_aload_n hx hb dX12_say_3 rfl (lv_at hl 1 rfl) ?_
  obtain ⟨q, hf⟩ := zck_use hf
  refine z_callKi (As := []) (rest := [.int x2]) hC hI (cJ0_length_met st l D (tM cy) (wM ad cy) σ n1 (of_decide_eq_true q)) (zgV zw75_3 zw70_22 zw70_23 zw62_13 zw71_0) rfl ⟨rfl, rfl⟩ 0 hdJ0_length ⟨Nat.le_of_ble_eq_true rfl, Nat.le_of_ble_eq_true rfl⟩ (of_decide_eq_true q) rfl rfl hl rfl (Nat.le_of_ble_eq_true rfl) dX12_say_4 ⟨Nat.zero_le _, Nat.zero_le _⟩ (fun H locs hI => ?_)
  refine lv_icmp_ge (tgt := 40) hx hb dX12_say_7 (by decide) (fun q => ?_) (fun q => ?_)
  · replace hf := zif_t q hf
    exact z_return hC hI hf dX12_say_40
  replace hf := zif_f q hf
  refine lv_aload_n hx hb dX12_say_10 rfl (lv_at hl 0 rfl) ?_
  refine z_get hC hI hinX12_say_X120 0 (wM_e0 ad cy σ) rfl 38 (by decide) (List.mem_cons_of_mem _ zw10_9) rfl dX12_say_11 ?_
  refine lv_aload_n hx hb dX12_say_14 rfl (lv_at hl 0 rfl) ?_
  refine z_get hC hI hinX12_say_X120 0 (wM_e0 ad cy σ) rfl 39 (by decide) (List.mem_cons_of_mem _ zw74_10) rfl dX12_say_15 ?_
  refine lv_aload_n hx hb dX12_say_18 rfl (lv_at hl 1 rfl) ?_
  refine lv_iload_n hx hb dX12_say_19 rfl (lv_at hl 2 rfl) ?_
  obtain ⟨q0, hf⟩ := zck_use hf
  obtain ⟨q, hf⟩ := zck_use hf
  refine z_callKi (As := [.int x2]) (rest := [.int (zgi σ 0 39), .ref (ad 26)]) hC hI (cJ0_charAt_met st l D (tM cy) (wM ad cy) σ n1 (of_decide_eq_true q0) x2 q) (zgV zw62_10 zw62_11 zw62_12 zw62_13 zw62_14) rfl ⟨rfl, rfl⟩ 1 hdJ0_charAt ⟨Nat.le_of_ble_eq_true rfl, Nat.le_of_ble_eq_true rfl⟩ (of_decide_eq_true q0) rfl rfl hl rfl (Nat.le_of_ble_eq_true rfl) dX12_say_20 ⟨Nat.zero_le _, Nat.zero_le _⟩ (fun H locs hI => ?_)
  obtain ⟨q, hf⟩ := zck_use hf
  obtain ⟨σ1, eσ1⟩ : ∃ z, z = zsi σ 26 ((zgi σ 0 39).toNatClampNeg) (zkC n1 x2.toNatClampNeg) := ⟨_, rfl⟩
  replace hf := zbv_use eσ1 hf
  refine z_iast hC hI 26 25 (wM_e26 ad cy σ) (tM_t26 cy) q ((wM_s26 ad cy σ _ _).trans (congrArg (wM ad cy) eσ1.symm)) dX12_say_23 (fun H locs hI => ?_)
  refine lv_aload_n hx hb dX12_say_24 rfl (lv_at hl 0 rfl) ?_
  refine lv_dup hx hb dX12_say_25 rfl ?_
  refine z_get hC hI hinX12_say_X120 0 (wM_e0 ad cy σ1) rfl 39 (by decide) (List.mem_cons_of_mem _ zw74_10) rfl dX12_say_26 ?_
  refine lv_iconst (v := 1) hx hb dX12_say_29 (by decide) ?_
  refine lv_iadd hx hb dX12_say_30 ?_
  obtain ⟨σ2, eσ2⟩ : ∃ z, z = zsi σ1 0 39 ((zgi σ1 0 39) + 1) := ⟨_, rfl⟩
  replace hf := zbv_use eσ2 hf
  refine z_put hC hI hinX12_say_X120 tyX12_ok nmX12 0 (wM_e0 ad cy σ1) rfl 39 (by decide) (List.mem_cons_of_mem _ zw74_10) rfl rfl rfl (Nat.le_of_ble_eq_true rfl) ((wM_s0_39 ad cy σ1 ((zgi σ1 0 39) + 1)).trans (congrArg (wM ad cy) eσ2.symm)) dX12_say_31 (fun H locs hI => ?_)
  obtain ⟨v3, ev3⟩ : ∃ z : Int32, z = x2 + 1 := ⟨_, rfl⟩
  replace hf := zbv_use ev3 hf
  refine lv_iinc (v := v3) (lv' := [(2, .int v3), (0, .ref (ad 0)), (1, .ref (st (100 + n1)))]) hx hb dX12_say_34 hl (k := 2) rfl (by rw [ev3]; rfl) (by decide) rfl (fun ls hl => ?_)
  refine lv_goto (tgt := 2) hx hb dX12_say_37 (by decide) ?_
  exact hk2 _ _ _ _ _ _ hI (lv_sub hl [1, 2, 0] rfl) hf
theorem blX12_say_2 {st : Nat → Nat} {p : Program} {l : Launch} {e : Env} {s : State} {m : MethodId} {args : Array Value} {below : List Frame} {meth : Method} {c : Code} {D : va_G} {A : Nat → Prop} {ad : Nat → Nat} {cy : Nat → ClassId} (hC : zC p m c cX12_say 3 s args wzX12_say RX12 meth none)  {res : zSt} : ∀ (n : Nat) (H : Heap) (locs : List Loc) (σ : zSt) (ls : Array Slot) (n1 : Nat) (x2 : Int32), zI st D (tM cy) (wM ad cy σ) A s H locs → lv_has ls 3 [(0, .ref (ad 0)), (1, .ref (st (100 + n1))), (2, .int x2)] → fX12_say_2  n σ n1 x2 = some res → W p l e rmX12_say s m args below meth c H locs 0 0 (zQu below args s D (tM cy) (wM ad cy) A res) (F0 m 2 ls []) := by
  intro n
  induction n with
  | zero => intro H locs σ ls n1 x2 hI hl hf; cases hf
  | succ n ih => intro H locs σ ls n1 x2 hI hl hf; exact bX12_say_2_body hC ih hI hl hf
set_option maxRecDepth 20000 in
set_option maxHeartbeats 4000000 in
theorem bX12_say {st : Nat → Nat} {p : Program} {l : Launch} {e : Env} {s : State} {m : MethodId} {args : Array Value} {below : List Frame} {meth : Method} {c : Code} {D : va_G} {A : Nat → Prop} {ad : Nat → Nat} {cy : Nat → ClassId} (hC : zC p m c cX12_say 3 s args wzX12_say RX12 meth none)  {res : zSt} {H : Heap} {locs : List Loc} {σ : zSt} {ls : Array Slot} {n1 : Nat} (hI : zI st D (tM cy) (wM ad cy σ) A s H locs) (hl : lv_has ls 3 [(0, .ref (ad 0)), (1, .ref (st (100 + n1)))]) (hf : fX12_say  σ n1 = some res) : W p l e rmX12_say s m args below meth c H locs 0 0 (zQu below args s D (tM cy) (wM ad cy) A res) (F0 m 0 ls []) := by
  have hx := hC.1
  have hb := hC.2.1
  unfold fX12_say at hf
  refine lv_iconst (v := 0) hx hb dX12_say_0 (by decide) ?_
  refine lv_istore_n (lv' := [(2, .int 0), (0, .ref (ad 0)), (1, .ref (st (100 + n1)))]) hx hb dX12_say_1 rfl hl (by decide) rfl (fun ls hl => ?_)
  exact blX12_say_2 hC  zfuel _ _ _ _ _ _ hI (lv_sub hl [1, 2, 0] rfl) hf
set_option maxRecDepth 20000 in
theorem cX12_say_met (st : Nat → Nat) (l : Launch) (D : va_G) (ad : Nat → Nat) (cy : Nat → ClassId) (σ : zSt) (n1 : Nat) (res : zSt) (hf : fX12_say σ n1 = some res) (sz : Nat) : zMu st l yX12_say wzX12_say rmX12_say [.ref (ad 0), .ref (st (100 + n1))] D (tM cy) (wM ad cy) sz σ res :=
  zMu.of (cc := cX12_say) (maxL := 3) (ret := none) (by decide) rfl (Nat.le_of_ble_eq_true rfl) (fun p e s m args below meth c hC A hI ls hl => bX12_say hC hI hl hf)
theorem hdX12_say : yX12_say.cls = RX12 ∧ yX12_say.cls ≠ "java/lang/invoke/MethodHandle" ∧ yX12_say.cls ≠ "java/lang/invoke/VarHandle" ∧ (parseMethodDescriptor yX12_say.desc).map (fun d => d.parameters.length) = some 1 := by decide +kernel
end ZJN0
section ZJN1
noncomputable def kn_cX12_hex : Nat := 0xb1c5ffa7ff0384ca01b56004ca01b4592a4f640a1060041561100b00a760041530100b00a20a100415ca01b42a6000b42a04367e0f107a681d071b3d009b1d3e64041c
theorem zk_cX12_hex : zkd cX12_hex.data.toList kn_cX12_hex = true := by decide +kernel
theorem zn_cX12_hex : cX12_hex.data.toList.length = 67 := by decide +kernel
theorem dX12_hex_0 : decode cX12_hex 0 = .ok (.iload_n 2, 1) := zo_28 (zkb zk_cX12_hex zn_cX12_hex rfl)
theorem dX12_hex_1 : decode cX12_hex 1 = .ok (.iconst 1, 1) := zo_4 (zkb zk_cX12_hex zn_cX12_hex rfl)
theorem dX12_hex_2 : decode cX12_hex 2 = .ok (.isub, 1) := zo_100 (zkb zk_cX12_hex zn_cX12_hex rfl)
theorem dX12_hex_3 : decode cX12_hex 3 = .ok (.istore_n 3, 1) := zo_62 (zkb zk_cX12_hex zn_cX12_hex rfl)
theorem dX12_hex_4 : decode cX12_hex 4 = .ok (.iload_n 3, 1) := zo_29 (zkb zk_cX12_hex zn_cX12_hex rfl)
theorem dX12_hex_5 : decode cX12_hex 5 = .ok (.ifCond .lt 61, 3) := zo_155 (b1 := 0) (b2 := 61) (zkb3 zk_cX12_hex zn_cX12_hex rfl) rfl
theorem dX12_hex_8 : decode cX12_hex 8 = .ok (.iload_n 1, 1) := zo_27 (zkb zk_cX12_hex zn_cX12_hex rfl)
theorem dX12_hex_9 : decode cX12_hex 9 = .ok (.iconst 4, 1) := zo_7 (zkb zk_cX12_hex zn_cX12_hex rfl)
theorem dX12_hex_10 : decode cX12_hex 10 = .ok (.iload_n 3, 1) := zo_29 (zkb zk_cX12_hex zn_cX12_hex rfl)
theorem dX12_hex_11 : decode cX12_hex 11 = .ok (.imul, 1) := zo_104 (zkb zk_cX12_hex zn_cX12_hex rfl)
theorem dX12_hex_12 : decode cX12_hex 12 = .ok (.ishr, 1) := zo_122 (zkb zk_cX12_hex zn_cX12_hex rfl)
theorem dX12_hex_13 : decode cX12_hex 13 = .ok (.bipush 15, 2) := zo_16 (b1 := 15) (zkb2 zk_cX12_hex zn_cX12_hex rfl) rfl
theorem dX12_hex_15 : decode cX12_hex 15 = .ok (.iand, 1) := zo_126 (zkb zk_cX12_hex zn_cX12_hex rfl)
theorem dX12_hex_16 : decode cX12_hex 16 = .ok (.istore 4, 2) := zo_54 (b1 := 4) (zkb2 zk_cX12_hex zn_cX12_hex rfl)
theorem dX12_hex_18 : decode cX12_hex 18 = .ok (.aload_n 0, 1) := zo_42 (zkb zk_cX12_hex zn_cX12_hex rfl)
theorem dX12_hex_19 : decode cX12_hex 19 = .ok (.getfield 96, 3) := zo_180 (b1 := 0) (b2 := 96) (zkb3 zk_cX12_hex zn_cX12_hex rfl) rfl
theorem dX12_hex_22 : decode cX12_hex 22 = .ok (.aload_n 0, 1) := zo_42 (zkb zk_cX12_hex zn_cX12_hex rfl)
theorem dX12_hex_23 : decode cX12_hex 23 = .ok (.getfield 458, 3) := zo_180 (b1 := 1) (b2 := 202) (zkb3 zk_cX12_hex zn_cX12_hex rfl) rfl
theorem dX12_hex_26 : decode cX12_hex 26 = .ok (.iload 4, 2) := zo_21 (b1 := 4) (zkb2 zk_cX12_hex zn_cX12_hex rfl)
theorem dX12_hex_28 : decode cX12_hex 28 = .ok (.bipush 10, 2) := zo_16 (b1 := 10) (zkb2 zk_cX12_hex zn_cX12_hex rfl) rfl
theorem dX12_hex_30 : decode cX12_hex 30 = .ok (.if_icmp .ge 11, 3) := zo_162 (b1 := 0) (b2 := 11) (zkb3 zk_cX12_hex zn_cX12_hex rfl) rfl
theorem dX12_hex_33 : decode cX12_hex 33 = .ok (.bipush 48, 2) := zo_16 (b1 := 48) (zkb2 zk_cX12_hex zn_cX12_hex rfl) rfl
theorem dX12_hex_35 : decode cX12_hex 35 = .ok (.iload 4, 2) := zo_21 (b1 := 4) (zkb2 zk_cX12_hex zn_cX12_hex rfl)
theorem dX12_hex_37 : decode cX12_hex 37 = .ok (.iadd, 1) := zo_96 (zkb zk_cX12_hex zn_cX12_hex rfl)
theorem dX12_hex_38 : decode cX12_hex 38 = .ok (.goto 11, 3) := zo_167 (b1 := 0) (b2 := 11) (zkb3 zk_cX12_hex zn_cX12_hex rfl) rfl
theorem dX12_hex_41 : decode cX12_hex 41 = .ok (.bipush 97, 2) := zo_16 (b1 := 97) (zkb2 zk_cX12_hex zn_cX12_hex rfl) rfl
theorem dX12_hex_43 : decode cX12_hex 43 = .ok (.iload 4, 2) := zo_21 (b1 := 4) (zkb2 zk_cX12_hex zn_cX12_hex rfl)
theorem dX12_hex_45 : decode cX12_hex 45 = .ok (.iadd, 1) := zo_96 (zkb zk_cX12_hex zn_cX12_hex rfl)
theorem dX12_hex_46 : decode cX12_hex 46 = .ok (.bipush 10, 2) := zo_16 (b1 := 10) (zkb2 zk_cX12_hex zn_cX12_hex rfl) rfl
theorem dX12_hex_48 : decode cX12_hex 48 = .ok (.isub, 1) := zo_100 (zkb zk_cX12_hex zn_cX12_hex rfl)
theorem dX12_hex_49 : decode cX12_hex 49 = .ok (.iastore, 1) := zo_79 (zkb zk_cX12_hex zn_cX12_hex rfl)
theorem dX12_hex_50 : decode cX12_hex 50 = .ok (.aload_n 0, 1) := zo_42 (zkb zk_cX12_hex zn_cX12_hex rfl)
theorem dX12_hex_51 : decode cX12_hex 51 = .ok (.dup, 1) := zo_89 (zkb zk_cX12_hex zn_cX12_hex rfl)
theorem dX12_hex_52 : decode cX12_hex 52 = .ok (.getfield 458, 3) := zo_180 (b1 := 1) (b2 := 202) (zkb3 zk_cX12_hex zn_cX12_hex rfl) rfl
theorem dX12_hex_55 : decode cX12_hex 55 = .ok (.iconst 1, 1) := zo_4 (zkb zk_cX12_hex zn_cX12_hex rfl)
theorem dX12_hex_56 : decode cX12_hex 56 = .ok (.iadd, 1) := zo_96 (zkb zk_cX12_hex zn_cX12_hex rfl)
theorem dX12_hex_57 : decode cX12_hex 57 = .ok (.putfield 458, 3) := zo_181 (b1 := 1) (b2 := 202) (zkb3 zk_cX12_hex zn_cX12_hex rfl) rfl
theorem dX12_hex_60 : decode cX12_hex 60 = .ok (.iinc 3 (-1), 3) := zo_132 (b1 := 3) (b2 := 255) (zkb3 zk_cX12_hex zn_cX12_hex rfl) rfl
theorem dX12_hex_63 : decode cX12_hex 63 = .ok (.goto (-59), 3) := zo_167 (b1 := 255) (b2 := 197) (zkb3 zk_cX12_hex zn_cX12_hex rfl) rfl
theorem dX12_hex_66 : decode cX12_hex 66 = .ok (.return_, 1) := zo_177 (zkb zk_cX12_hex zn_cX12_hex rfl)
noncomputable def kn_cX12_taken : Nat := 0xac1b2102b560042102b4592a3ca600b62102b42a2a
theorem zk_cX12_taken : zkd cX12_taken.data.toList kn_cX12_taken = true := by decide +kernel
theorem zn_cX12_taken : cX12_taken.data.toList.length = 21 := by decide +kernel
theorem dX12_taken_0 : decode cX12_taken 0 = .ok (.aload_n 0, 1) := zo_42 (zkb zk_cX12_taken zn_cX12_taken rfl)
theorem dX12_taken_1 : decode cX12_taken 1 = .ok (.aload_n 0, 1) := zo_42 (zkb zk_cX12_taken zn_cX12_taken rfl)
theorem dX12_taken_2 : decode cX12_taken 2 = .ok (.getfield 545, 3) := zo_180 (b1 := 2) (b2 := 33) (zkb3 zk_cX12_taken zn_cX12_taken rfl) rfl
theorem dX12_taken_5 : decode cX12_taken 5 = .ok (.invokevirtual 166, 3) := zo_182 (b1 := 0) (b2 := 166) (zkb3 zk_cX12_taken zn_cX12_taken rfl) rfl
theorem dX12_taken_8 : decode cX12_taken 8 = .ok (.istore_n 1, 1) := zo_60 (zkb zk_cX12_taken zn_cX12_taken rfl)
theorem dX12_taken_9 : decode cX12_taken 9 = .ok (.aload_n 0, 1) := zo_42 (zkb zk_cX12_taken zn_cX12_taken rfl)
theorem dX12_taken_10 : decode cX12_taken 10 = .ok (.dup, 1) := zo_89 (zkb zk_cX12_taken zn_cX12_taken rfl)
theorem dX12_taken_11 : decode cX12_taken 11 = .ok (.getfield 545, 3) := zo_180 (b1 := 2) (b2 := 33) (zkb3 zk_cX12_taken zn_cX12_taken rfl) rfl
theorem dX12_taken_14 : decode cX12_taken 14 = .ok (.iconst 1, 1) := zo_4 (zkb zk_cX12_taken zn_cX12_taken rfl)
theorem dX12_taken_15 : decode cX12_taken 15 = .ok (.iadd, 1) := zo_96 (zkb zk_cX12_taken zn_cX12_taken rfl)
theorem dX12_taken_16 : decode cX12_taken 16 = .ok (.putfield 545, 3) := zo_181 (b1 := 2) (b2 := 33) (zkb3 zk_cX12_taken zn_cX12_taken rfl) rfl
theorem dX12_taken_19 : decode cX12_taken 19 = .ok (.iload_n 1, 1) := zo_27 (zkb zk_cX12_taken zn_cX12_taken rfl)
theorem dX12_taken_20 : decode cX12_taken 20 = .ok (.ireturn, 1) := zo_172 (zkb zk_cX12_taken zn_cX12_taken rfl)
noncomputable def kn_cX12_takenWord : Nat := 0xac807808102402b62a1b3c2402b62a
theorem zk_cX12_takenWord : zkd cX12_takenWord.data.toList kn_cX12_takenWord = true := by decide +kernel
theorem zn_cX12_takenWord : cX12_takenWord.data.toList.length = 15 := by decide +kernel
theorem dX12_takenWord_0 : decode cX12_takenWord 0 = .ok (.aload_n 0, 1) := zo_42 (zkb zk_cX12_takenWord zn_cX12_takenWord rfl)
theorem dX12_takenWord_1 : decode cX12_takenWord 1 = .ok (.invokevirtual 548, 3) := zo_182 (b1 := 2) (b2 := 36) (zkb3 zk_cX12_takenWord zn_cX12_takenWord rfl) rfl
theorem dX12_takenWord_4 : decode cX12_takenWord 4 = .ok (.istore_n 1, 1) := zo_60 (zkb zk_cX12_takenWord zn_cX12_takenWord rfl)
theorem dX12_takenWord_5 : decode cX12_takenWord 5 = .ok (.iload_n 1, 1) := zo_27 (zkb zk_cX12_takenWord zn_cX12_takenWord rfl)
theorem dX12_takenWord_6 : decode cX12_takenWord 6 = .ok (.aload_n 0, 1) := zo_42 (zkb zk_cX12_takenWord zn_cX12_takenWord rfl)
theorem dX12_takenWord_7 : decode cX12_takenWord 7 = .ok (.invokevirtual 548, 3) := zo_182 (b1 := 2) (b2 := 36) (zkb3 zk_cX12_takenWord zn_cX12_takenWord rfl) rfl
theorem dX12_takenWord_10 : decode cX12_takenWord 10 = .ok (.bipush 8, 2) := zo_16 (b1 := 8) (zkb2 zk_cX12_takenWord zn_cX12_takenWord rfl) rfl
theorem dX12_takenWord_12 : decode cX12_takenWord 12 = .ok (.ishl, 1) := zo_120 (zkb zk_cX12_takenWord zn_cX12_takenWord rfl)
theorem dX12_takenWord_13 : decode cX12_takenWord 13 = .ok (.ior, 1) := zo_128 (zkb zk_cX12_takenWord zn_cX12_takenWord rfl)
theorem dX12_takenWord_14 : decode cX12_takenWord 14 = .ok (.ireturn, 1) := zo_172 (zkb zk_cX12_takenWord zn_cX12_takenWord rfl)
noncomputable def kn_cX12_sayHl : Nat := 0xb12f02b62d02130600a72b02130900a0042702b42a1400a72a021309009a2702b42a2a
theorem zk_cX12_sayHl : zkd cX12_sayHl.data.toList kn_cX12_sayHl = true := by decide +kernel
theorem zn_cX12_sayHl : cX12_sayHl.data.toList.length = 35 := by decide +kernel
theorem dX12_sayHl_0 : decode cX12_sayHl 0 = .ok (.aload_n 0, 1) := zo_42 (zkb zk_cX12_sayHl zn_cX12_sayHl rfl)
theorem dX12_sayHl_1 : decode cX12_sayHl 1 = .ok (.aload_n 0, 1) := zo_42 (zkb zk_cX12_sayHl zn_cX12_sayHl rfl)
theorem dX12_sayHl_2 : decode cX12_sayHl 2 = .ok (.getfield 551, 3) := zo_180 (b1 := 2) (b2 := 39) (zkb3 zk_cX12_sayHl zn_cX12_sayHl rfl) rfl
theorem dX12_sayHl_5 : decode cX12_sayHl 5 = .ok (.ifCond .ne 9, 3) := zo_154 (b1 := 0) (b2 := 9) (zkb3 zk_cX12_sayHl zn_cX12_sayHl rfl) rfl
theorem dX12_sayHl_8 : decode cX12_sayHl 8 = .ok (.ldc_w 554, 3) := zo_19 (b1 := 2) (b2 := 42) (zkb3 zk_cX12_sayHl zn_cX12_sayHl rfl) rfl
theorem dX12_sayHl_11 : decode cX12_sayHl 11 = .ok (.goto 20, 3) := zo_167 (b1 := 0) (b2 := 20) (zkb3 zk_cX12_sayHl zn_cX12_sayHl rfl) rfl
theorem dX12_sayHl_14 : decode cX12_sayHl 14 = .ok (.aload_n 0, 1) := zo_42 (zkb zk_cX12_sayHl zn_cX12_sayHl rfl)
theorem dX12_sayHl_15 : decode cX12_sayHl 15 = .ok (.getfield 551, 3) := zo_180 (b1 := 2) (b2 := 39) (zkb3 zk_cX12_sayHl zn_cX12_sayHl rfl) rfl
theorem dX12_sayHl_18 : decode cX12_sayHl 18 = .ok (.iconst 1, 1) := zo_4 (zkb zk_cX12_sayHl zn_cX12_sayHl rfl)
theorem dX12_sayHl_19 : decode cX12_sayHl 19 = .ok (.if_icmp .ne 9, 3) := zo_160 (b1 := 0) (b2 := 9) (zkb3 zk_cX12_sayHl zn_cX12_sayHl rfl) rfl
theorem dX12_sayHl_22 : decode cX12_sayHl 22 = .ok (.ldc_w 555, 3) := zo_19 (b1 := 2) (b2 := 43) (zkb3 zk_cX12_sayHl zn_cX12_sayHl rfl) rfl
theorem dX12_sayHl_25 : decode cX12_sayHl 25 = .ok (.goto 6, 3) := zo_167 (b1 := 0) (b2 := 6) (zkb3 zk_cX12_sayHl zn_cX12_sayHl rfl) rfl
theorem dX12_sayHl_28 : decode cX12_sayHl 28 = .ok (.ldc_w 557, 3) := zo_19 (b1 := 2) (b2 := 45) (zkb3 zk_cX12_sayHl zn_cX12_sayHl rfl) rfl
theorem dX12_sayHl_31 : decode cX12_sayHl 31 = .ok (.invokevirtual 559, 3) := zo_182 (b1 := 2) (b2 := 47) (zkb3 zk_cX12_sayHl zn_cX12_sayHl rfl) rfl
theorem dX12_sayHl_34 : decode cX12_sayHl 34 = .ok (.return_, 1) := zo_177 (zkb zk_cX12_sayHl zn_cX12_sayHl rfl)
noncomputable def kn_cX12_sayPlace : Nat := 0xb12f02b64602132a4302b6053c02b42a0700a7743c02b42a0b009c3c02b42a2a2f02b64102130600a73f021309009c3c02b42a2a2f02b63a02130600a73802130900a0042702b42a2ab12f02b63602132a0b009a3302b42a
theorem zk_cX12_sayPlace : zkd cX12_sayPlace.data.toList kn_cX12_sayPlace = true := by decide +kernel
theorem zn_cX12_sayPlace : cX12_sayPlace.data.toList.length = 88 := by decide +kernel
theorem dX12_sayPlace_0 : decode cX12_sayPlace 0 = .ok (.aload_n 0, 1) := zo_42 (zkb zk_cX12_sayPlace zn_cX12_sayPlace rfl)
theorem dX12_sayPlace_1 : decode cX12_sayPlace 1 = .ok (.getfield 563, 3) := zo_180 (b1 := 2) (b2 := 51) (zkb3 zk_cX12_sayPlace zn_cX12_sayPlace rfl) rfl
theorem dX12_sayPlace_4 : decode cX12_sayPlace 4 = .ok (.ifCond .ne 11, 3) := zo_154 (b1 := 0) (b2 := 11) (zkb3 zk_cX12_sayPlace zn_cX12_sayPlace rfl) rfl
theorem dX12_sayPlace_7 : decode cX12_sayPlace 7 = .ok (.aload_n 0, 1) := zo_42 (zkb zk_cX12_sayPlace zn_cX12_sayPlace rfl)
theorem dX12_sayPlace_8 : decode cX12_sayPlace 8 = .ok (.ldc_w 566, 3) := zo_19 (b1 := 2) (b2 := 54) (zkb3 zk_cX12_sayPlace zn_cX12_sayPlace rfl) rfl
theorem dX12_sayPlace_11 : decode cX12_sayPlace 11 = .ok (.invokevirtual 559, 3) := zo_182 (b1 := 2) (b2 := 47) (zkb3 zk_cX12_sayPlace zn_cX12_sayPlace rfl) rfl
theorem dX12_sayPlace_14 : decode cX12_sayPlace 14 = .ok (.return_, 1) := zo_177 (zkb zk_cX12_sayPlace zn_cX12_sayPlace rfl)
theorem dX12_sayPlace_15 : decode cX12_sayPlace 15 = .ok (.aload_n 0, 1) := zo_42 (zkb zk_cX12_sayPlace zn_cX12_sayPlace rfl)
theorem dX12_sayPlace_16 : decode cX12_sayPlace 16 = .ok (.aload_n 0, 1) := zo_42 (zkb zk_cX12_sayPlace zn_cX12_sayPlace rfl)
theorem dX12_sayPlace_17 : decode cX12_sayPlace 17 = .ok (.getfield 551, 3) := zo_180 (b1 := 2) (b2 := 39) (zkb3 zk_cX12_sayPlace zn_cX12_sayPlace rfl) rfl
theorem dX12_sayPlace_20 : decode cX12_sayPlace 20 = .ok (.iconst 1, 1) := zo_4 (zkb zk_cX12_sayPlace zn_cX12_sayPlace rfl)
theorem dX12_sayPlace_21 : decode cX12_sayPlace 21 = .ok (.if_icmp .ne 9, 3) := zo_160 (b1 := 0) (b2 := 9) (zkb3 zk_cX12_sayPlace zn_cX12_sayPlace rfl) rfl
theorem dX12_sayPlace_24 : decode cX12_sayPlace 24 = .ok (.ldc_w 568, 3) := zo_19 (b1 := 2) (b2 := 56) (zkb3 zk_cX12_sayPlace zn_cX12_sayPlace rfl) rfl
theorem dX12_sayPlace_27 : decode cX12_sayPlace 27 = .ok (.goto 6, 3) := zo_167 (b1 := 0) (b2 := 6) (zkb3 zk_cX12_sayPlace zn_cX12_sayPlace rfl) rfl
theorem dX12_sayPlace_30 : decode cX12_sayPlace 30 = .ok (.ldc_w 570, 3) := zo_19 (b1 := 2) (b2 := 58) (zkb3 zk_cX12_sayPlace zn_cX12_sayPlace rfl) rfl
theorem dX12_sayPlace_33 : decode cX12_sayPlace 33 = .ok (.invokevirtual 559, 3) := zo_182 (b1 := 2) (b2 := 47) (zkb3 zk_cX12_sayPlace zn_cX12_sayPlace rfl) rfl
theorem dX12_sayPlace_36 : decode cX12_sayPlace 36 = .ok (.aload_n 0, 1) := zo_42 (zkb zk_cX12_sayPlace zn_cX12_sayPlace rfl)
theorem dX12_sayPlace_37 : decode cX12_sayPlace 37 = .ok (.aload_n 0, 1) := zo_42 (zkb zk_cX12_sayPlace zn_cX12_sayPlace rfl)
theorem dX12_sayPlace_38 : decode cX12_sayPlace 38 = .ok (.getfield 572, 3) := zo_180 (b1 := 2) (b2 := 60) (zkb3 zk_cX12_sayPlace zn_cX12_sayPlace rfl) rfl
theorem dX12_sayPlace_41 : decode cX12_sayPlace 41 = .ok (.ifCond .ge 9, 3) := zo_156 (b1 := 0) (b2 := 9) (zkb3 zk_cX12_sayPlace zn_cX12_sayPlace rfl) rfl
theorem dX12_sayPlace_44 : decode cX12_sayPlace 44 = .ok (.ldc_w 575, 3) := zo_19 (b1 := 2) (b2 := 63) (zkb3 zk_cX12_sayPlace zn_cX12_sayPlace rfl) rfl
theorem dX12_sayPlace_47 : decode cX12_sayPlace 47 = .ok (.goto 6, 3) := zo_167 (b1 := 0) (b2 := 6) (zkb3 zk_cX12_sayPlace zn_cX12_sayPlace rfl) rfl
theorem dX12_sayPlace_50 : decode cX12_sayPlace 50 = .ok (.ldc_w 577, 3) := zo_19 (b1 := 2) (b2 := 65) (zkb3 zk_cX12_sayPlace zn_cX12_sayPlace rfl) rfl
theorem dX12_sayPlace_53 : decode cX12_sayPlace 53 = .ok (.invokevirtual 559, 3) := zo_182 (b1 := 2) (b2 := 47) (zkb3 zk_cX12_sayPlace zn_cX12_sayPlace rfl) rfl
theorem dX12_sayPlace_56 : decode cX12_sayPlace 56 = .ok (.aload_n 0, 1) := zo_42 (zkb zk_cX12_sayPlace zn_cX12_sayPlace rfl)
theorem dX12_sayPlace_57 : decode cX12_sayPlace 57 = .ok (.aload_n 0, 1) := zo_42 (zkb zk_cX12_sayPlace zn_cX12_sayPlace rfl)
theorem dX12_sayPlace_58 : decode cX12_sayPlace 58 = .ok (.getfield 572, 3) := zo_180 (b1 := 2) (b2 := 60) (zkb3 zk_cX12_sayPlace zn_cX12_sayPlace rfl) rfl
theorem dX12_sayPlace_61 : decode cX12_sayPlace 61 = .ok (.ifCond .ge 11, 3) := zo_156 (b1 := 0) (b2 := 11) (zkb3 zk_cX12_sayPlace zn_cX12_sayPlace rfl) rfl
theorem dX12_sayPlace_64 : decode cX12_sayPlace 64 = .ok (.aload_n 0, 1) := zo_42 (zkb zk_cX12_sayPlace zn_cX12_sayPlace rfl)
theorem dX12_sayPlace_65 : decode cX12_sayPlace 65 = .ok (.getfield 572, 3) := zo_180 (b1 := 2) (b2 := 60) (zkb3 zk_cX12_sayPlace zn_cX12_sayPlace rfl) rfl
theorem dX12_sayPlace_68 : decode cX12_sayPlace 68 = .ok (.ineg, 1) := zo_116 (zkb zk_cX12_sayPlace zn_cX12_sayPlace rfl)
theorem dX12_sayPlace_69 : decode cX12_sayPlace 69 = .ok (.goto 7, 3) := zo_167 (b1 := 0) (b2 := 7) (zkb3 zk_cX12_sayPlace zn_cX12_sayPlace rfl) rfl
theorem dX12_sayPlace_72 : decode cX12_sayPlace 72 = .ok (.aload_n 0, 1) := zo_42 (zkb zk_cX12_sayPlace zn_cX12_sayPlace rfl)
theorem dX12_sayPlace_73 : decode cX12_sayPlace 73 = .ok (.getfield 572, 3) := zo_180 (b1 := 2) (b2 := 60) (zkb3 zk_cX12_sayPlace zn_cX12_sayPlace rfl) rfl
theorem dX12_sayPlace_76 : decode cX12_sayPlace 76 = .ok (.iconst 2, 1) := zo_5 (zkb zk_cX12_sayPlace zn_cX12_sayPlace rfl)
theorem dX12_sayPlace_77 : decode cX12_sayPlace 77 = .ok (.invokevirtual 579, 3) := zo_182 (b1 := 2) (b2 := 67) (zkb3 zk_cX12_sayPlace zn_cX12_sayPlace rfl) rfl
theorem dX12_sayPlace_80 : decode cX12_sayPlace 80 = .ok (.aload_n 0, 1) := zo_42 (zkb zk_cX12_sayPlace zn_cX12_sayPlace rfl)
theorem dX12_sayPlace_81 : decode cX12_sayPlace 81 = .ok (.ldc_w 582, 3) := zo_19 (b1 := 2) (b2 := 70) (zkb3 zk_cX12_sayPlace zn_cX12_sayPlace rfl) rfl
theorem dX12_sayPlace_84 : decode cX12_sayPlace 84 = .ok (.invokevirtual 559, 3) := zo_182 (b1 := 2) (b2 := 47) (zkb3 zk_cX12_sayPlace zn_cX12_sayPlace rfl) rfl
theorem dX12_sayPlace_87 : decode cX12_sayPlace 87 = .ok (.return_, 1) := zo_177 (zkb zk_cX12_sayPlace zn_cX12_sayPlace rfl)
noncomputable def kn_cX12_sayR : Nat := 0xb12f02b65a02130600a75802130900a0081b1100a75602130900a0071b1c00a75402130900a0061b2700a75202130900a0051b3200a75002130900a0041b3d00a74e021309009a1b2a4b02b62a0700a0081b08009f071b11009a3302b42a18009e2702b42ab14802b62a0800a006101b
theorem zk_cX12_sayR : zkd cX12_sayR.data.toList kn_cX12_sayR = true := by decide +kernel
theorem zn_cX12_sayR : cX12_sayR.data.toList.length = 112 := by decide +kernel
theorem dX12_sayR_0 : decode cX12_sayR 0 = .ok (.iload_n 1, 1) := zo_27 (zkb zk_cX12_sayR zn_cX12_sayR rfl)
theorem dX12_sayR_1 : decode cX12_sayR 1 = .ok (.bipush 6, 2) := zo_16 (b1 := 6) (zkb2 zk_cX12_sayR zn_cX12_sayR rfl) rfl
theorem dX12_sayR_3 : decode cX12_sayR 3 = .ok (.if_icmp .ne 8, 3) := zo_160 (b1 := 0) (b2 := 8) (zkb3 zk_cX12_sayR zn_cX12_sayR rfl) rfl
theorem dX12_sayR_6 : decode cX12_sayR 6 = .ok (.aload_n 0, 1) := zo_42 (zkb zk_cX12_sayR zn_cX12_sayR rfl)
theorem dX12_sayR_7 : decode cX12_sayR 7 = .ok (.invokevirtual 584, 3) := zo_182 (b1 := 2) (b2 := 72) (zkb3 zk_cX12_sayR zn_cX12_sayR rfl) rfl
theorem dX12_sayR_10 : decode cX12_sayR 10 = .ok (.return_, 1) := zo_177 (zkb zk_cX12_sayR zn_cX12_sayR rfl)
theorem dX12_sayR_11 : decode cX12_sayR 11 = .ok (.aload_n 0, 1) := zo_42 (zkb zk_cX12_sayR zn_cX12_sayR rfl)
theorem dX12_sayR_12 : decode cX12_sayR 12 = .ok (.getfield 551, 3) := zo_180 (b1 := 2) (b2 := 39) (zkb3 zk_cX12_sayR zn_cX12_sayR rfl) rfl
theorem dX12_sayR_15 : decode cX12_sayR 15 = .ok (.ifCond .le 24, 3) := zo_158 (b1 := 0) (b2 := 24) (zkb3 zk_cX12_sayR zn_cX12_sayR rfl) rfl
theorem dX12_sayR_18 : decode cX12_sayR 18 = .ok (.aload_n 0, 1) := zo_42 (zkb zk_cX12_sayR zn_cX12_sayR rfl)
theorem dX12_sayR_19 : decode cX12_sayR 19 = .ok (.getfield 563, 3) := zo_180 (b1 := 2) (b2 := 51) (zkb3 zk_cX12_sayR zn_cX12_sayR rfl) rfl
theorem dX12_sayR_22 : decode cX12_sayR 22 = .ok (.ifCond .ne 17, 3) := zo_154 (b1 := 0) (b2 := 17) (zkb3 zk_cX12_sayR zn_cX12_sayR rfl) rfl
theorem dX12_sayR_25 : decode cX12_sayR 25 = .ok (.iload_n 1, 1) := zo_27 (zkb zk_cX12_sayR zn_cX12_sayR rfl)
theorem dX12_sayR_26 : decode cX12_sayR 26 = .ok (.iconst 4, 1) := zo_7 (zkb zk_cX12_sayR zn_cX12_sayR rfl)
theorem dX12_sayR_27 : decode cX12_sayR 27 = .ok (.if_icmp .eq 8, 3) := zo_159 (b1 := 0) (b2 := 8) (zkb3 zk_cX12_sayR zn_cX12_sayR rfl) rfl
theorem dX12_sayR_30 : decode cX12_sayR 30 = .ok (.iload_n 1, 1) := zo_27 (zkb zk_cX12_sayR zn_cX12_sayR rfl)
theorem dX12_sayR_31 : decode cX12_sayR 31 = .ok (.iconst 5, 1) := zo_8 (zkb zk_cX12_sayR zn_cX12_sayR rfl)
theorem dX12_sayR_32 : decode cX12_sayR 32 = .ok (.if_icmp .ne 7, 3) := zo_160 (b1 := 0) (b2 := 7) (zkb3 zk_cX12_sayR zn_cX12_sayR rfl) rfl
theorem dX12_sayR_35 : decode cX12_sayR 35 = .ok (.aload_n 0, 1) := zo_42 (zkb zk_cX12_sayR zn_cX12_sayR rfl)
theorem dX12_sayR_36 : decode cX12_sayR 36 = .ok (.invokevirtual 587, 3) := zo_182 (b1 := 2) (b2 := 75) (zkb3 zk_cX12_sayR zn_cX12_sayR rfl) rfl
theorem dX12_sayR_39 : decode cX12_sayR 39 = .ok (.aload_n 0, 1) := zo_42 (zkb zk_cX12_sayR zn_cX12_sayR rfl)
theorem dX12_sayR_40 : decode cX12_sayR 40 = .ok (.iload_n 1, 1) := zo_27 (zkb zk_cX12_sayR zn_cX12_sayR rfl)
theorem dX12_sayR_41 : decode cX12_sayR 41 = .ok (.ifCond .ne 9, 3) := zo_154 (b1 := 0) (b2 := 9) (zkb3 zk_cX12_sayR zn_cX12_sayR rfl) rfl
theorem dX12_sayR_44 : decode cX12_sayR 44 = .ok (.ldc_w 590, 3) := zo_19 (b1 := 2) (b2 := 78) (zkb3 zk_cX12_sayR zn_cX12_sayR rfl) rfl
theorem dX12_sayR_47 : decode cX12_sayR 47 = .ok (.goto 61, 3) := zo_167 (b1 := 0) (b2 := 61) (zkb3 zk_cX12_sayR zn_cX12_sayR rfl) rfl
theorem dX12_sayR_50 : decode cX12_sayR 50 = .ok (.iload_n 1, 1) := zo_27 (zkb zk_cX12_sayR zn_cX12_sayR rfl)
theorem dX12_sayR_51 : decode cX12_sayR 51 = .ok (.iconst 1, 1) := zo_4 (zkb zk_cX12_sayR zn_cX12_sayR rfl)
theorem dX12_sayR_52 : decode cX12_sayR 52 = .ok (.if_icmp .ne 9, 3) := zo_160 (b1 := 0) (b2 := 9) (zkb3 zk_cX12_sayR zn_cX12_sayR rfl) rfl
theorem dX12_sayR_55 : decode cX12_sayR 55 = .ok (.ldc_w 592, 3) := zo_19 (b1 := 2) (b2 := 80) (zkb3 zk_cX12_sayR zn_cX12_sayR rfl) rfl
theorem dX12_sayR_58 : decode cX12_sayR 58 = .ok (.goto 50, 3) := zo_167 (b1 := 0) (b2 := 50) (zkb3 zk_cX12_sayR zn_cX12_sayR rfl) rfl
theorem dX12_sayR_61 : decode cX12_sayR 61 = .ok (.iload_n 1, 1) := zo_27 (zkb zk_cX12_sayR zn_cX12_sayR rfl)
theorem dX12_sayR_62 : decode cX12_sayR 62 = .ok (.iconst 2, 1) := zo_5 (zkb zk_cX12_sayR zn_cX12_sayR rfl)
theorem dX12_sayR_63 : decode cX12_sayR 63 = .ok (.if_icmp .ne 9, 3) := zo_160 (b1 := 0) (b2 := 9) (zkb3 zk_cX12_sayR zn_cX12_sayR rfl) rfl
theorem dX12_sayR_66 : decode cX12_sayR 66 = .ok (.ldc_w 594, 3) := zo_19 (b1 := 2) (b2 := 82) (zkb3 zk_cX12_sayR zn_cX12_sayR rfl) rfl
theorem dX12_sayR_69 : decode cX12_sayR 69 = .ok (.goto 39, 3) := zo_167 (b1 := 0) (b2 := 39) (zkb3 zk_cX12_sayR zn_cX12_sayR rfl) rfl
theorem dX12_sayR_72 : decode cX12_sayR 72 = .ok (.iload_n 1, 1) := zo_27 (zkb zk_cX12_sayR zn_cX12_sayR rfl)
theorem dX12_sayR_73 : decode cX12_sayR 73 = .ok (.iconst 3, 1) := zo_6 (zkb zk_cX12_sayR zn_cX12_sayR rfl)
theorem dX12_sayR_74 : decode cX12_sayR 74 = .ok (.if_icmp .ne 9, 3) := zo_160 (b1 := 0) (b2 := 9) (zkb3 zk_cX12_sayR zn_cX12_sayR rfl) rfl
theorem dX12_sayR_77 : decode cX12_sayR 77 = .ok (.ldc_w 596, 3) := zo_19 (b1 := 2) (b2 := 84) (zkb3 zk_cX12_sayR zn_cX12_sayR rfl) rfl
theorem dX12_sayR_80 : decode cX12_sayR 80 = .ok (.goto 28, 3) := zo_167 (b1 := 0) (b2 := 28) (zkb3 zk_cX12_sayR zn_cX12_sayR rfl) rfl
theorem dX12_sayR_83 : decode cX12_sayR 83 = .ok (.iload_n 1, 1) := zo_27 (zkb zk_cX12_sayR zn_cX12_sayR rfl)
theorem dX12_sayR_84 : decode cX12_sayR 84 = .ok (.iconst 4, 1) := zo_7 (zkb zk_cX12_sayR zn_cX12_sayR rfl)
theorem dX12_sayR_85 : decode cX12_sayR 85 = .ok (.if_icmp .ne 9, 3) := zo_160 (b1 := 0) (b2 := 9) (zkb3 zk_cX12_sayR zn_cX12_sayR rfl) rfl
theorem dX12_sayR_88 : decode cX12_sayR 88 = .ok (.ldc_w 598, 3) := zo_19 (b1 := 2) (b2 := 86) (zkb3 zk_cX12_sayR zn_cX12_sayR rfl) rfl
theorem dX12_sayR_91 : decode cX12_sayR 91 = .ok (.goto 17, 3) := zo_167 (b1 := 0) (b2 := 17) (zkb3 zk_cX12_sayR zn_cX12_sayR rfl) rfl
theorem dX12_sayR_94 : decode cX12_sayR 94 = .ok (.iload_n 1, 1) := zo_27 (zkb zk_cX12_sayR zn_cX12_sayR rfl)
theorem dX12_sayR_95 : decode cX12_sayR 95 = .ok (.iconst 5, 1) := zo_8 (zkb zk_cX12_sayR zn_cX12_sayR rfl)
theorem dX12_sayR_96 : decode cX12_sayR 96 = .ok (.if_icmp .ne 9, 3) := zo_160 (b1 := 0) (b2 := 9) (zkb3 zk_cX12_sayR zn_cX12_sayR rfl) rfl
theorem dX12_sayR_99 : decode cX12_sayR 99 = .ok (.ldc_w 600, 3) := zo_19 (b1 := 2) (b2 := 88) (zkb3 zk_cX12_sayR zn_cX12_sayR rfl) rfl
theorem dX12_sayR_102 : decode cX12_sayR 102 = .ok (.goto 6, 3) := zo_167 (b1 := 0) (b2 := 6) (zkb3 zk_cX12_sayR zn_cX12_sayR rfl) rfl
theorem dX12_sayR_105 : decode cX12_sayR 105 = .ok (.ldc_w 602, 3) := zo_19 (b1 := 2) (b2 := 90) (zkb3 zk_cX12_sayR zn_cX12_sayR rfl) rfl
theorem dX12_sayR_108 : decode cX12_sayR 108 = .ok (.invokevirtual 559, 3) := zo_182 (b1 := 2) (b2 := 47) (zkb3 zk_cX12_sayR zn_cX12_sayR rfl) rfl
theorem dX12_sayR_111 : decode cX12_sayR 111 = .ok (.return_, 1) := zo_177 (zkb zk_cX12_sayR zn_cX12_sayR rfl)
noncomputable def kn_cX12_sayRp : Nat := 0xb12f02b66202130600a76002130900991c1000a75e02130900a0041b1b00a75c021309009a1b2a2900a74b02b62a0a00a0051b
theorem zk_cX12_sayRp : zkd cX12_sayRp.data.toList kn_cX12_sayRp = true := by decide +kernel
theorem zn_cX12_sayRp : cX12_sayRp.data.toList.length = 51 := by decide +kernel
theorem dX12_sayRp_0 : decode cX12_sayRp 0 = .ok (.iload_n 1, 1) := zo_27 (zkb zk_cX12_sayRp zn_cX12_sayRp rfl)
theorem dX12_sayRp_1 : decode cX12_sayRp 1 = .ok (.iconst 2, 1) := zo_5 (zkb zk_cX12_sayRp zn_cX12_sayRp rfl)
theorem dX12_sayRp_2 : decode cX12_sayRp 2 = .ok (.if_icmp .ne 10, 3) := zo_160 (b1 := 0) (b2 := 10) (zkb3 zk_cX12_sayRp zn_cX12_sayRp rfl) rfl
theorem dX12_sayRp_5 : decode cX12_sayRp 5 = .ok (.aload_n 0, 1) := zo_42 (zkb zk_cX12_sayRp zn_cX12_sayRp rfl)
theorem dX12_sayRp_6 : decode cX12_sayRp 6 = .ok (.invokevirtual 587, 3) := zo_182 (b1 := 2) (b2 := 75) (zkb3 zk_cX12_sayRp zn_cX12_sayRp rfl) rfl
theorem dX12_sayRp_9 : decode cX12_sayRp 9 = .ok (.goto 41, 3) := zo_167 (b1 := 0) (b2 := 41) (zkb3 zk_cX12_sayRp zn_cX12_sayRp rfl) rfl
theorem dX12_sayRp_12 : decode cX12_sayRp 12 = .ok (.aload_n 0, 1) := zo_42 (zkb zk_cX12_sayRp zn_cX12_sayRp rfl)
theorem dX12_sayRp_13 : decode cX12_sayRp 13 = .ok (.iload_n 1, 1) := zo_27 (zkb zk_cX12_sayRp zn_cX12_sayRp rfl)
theorem dX12_sayRp_14 : decode cX12_sayRp 14 = .ok (.ifCond .ne 9, 3) := zo_154 (b1 := 0) (b2 := 9) (zkb3 zk_cX12_sayRp zn_cX12_sayRp rfl) rfl
theorem dX12_sayRp_17 : decode cX12_sayRp 17 = .ok (.ldc_w 604, 3) := zo_19 (b1 := 2) (b2 := 92) (zkb3 zk_cX12_sayRp zn_cX12_sayRp rfl) rfl
theorem dX12_sayRp_20 : decode cX12_sayRp 20 = .ok (.goto 27, 3) := zo_167 (b1 := 0) (b2 := 27) (zkb3 zk_cX12_sayRp zn_cX12_sayRp rfl) rfl
theorem dX12_sayRp_23 : decode cX12_sayRp 23 = .ok (.iload_n 1, 1) := zo_27 (zkb zk_cX12_sayRp zn_cX12_sayRp rfl)
theorem dX12_sayRp_24 : decode cX12_sayRp 24 = .ok (.iconst 1, 1) := zo_4 (zkb zk_cX12_sayRp zn_cX12_sayRp rfl)
theorem dX12_sayRp_25 : decode cX12_sayRp 25 = .ok (.if_icmp .ne 9, 3) := zo_160 (b1 := 0) (b2 := 9) (zkb3 zk_cX12_sayRp zn_cX12_sayRp rfl) rfl
theorem dX12_sayRp_28 : decode cX12_sayRp 28 = .ok (.ldc_w 606, 3) := zo_19 (b1 := 2) (b2 := 94) (zkb3 zk_cX12_sayRp zn_cX12_sayRp rfl) rfl
theorem dX12_sayRp_31 : decode cX12_sayRp 31 = .ok (.goto 16, 3) := zo_167 (b1 := 0) (b2 := 16) (zkb3 zk_cX12_sayRp zn_cX12_sayRp rfl) rfl
theorem dX12_sayRp_34 : decode cX12_sayRp 34 = .ok (.iload_n 2, 1) := zo_28 (zkb zk_cX12_sayRp zn_cX12_sayRp rfl)
theorem dX12_sayRp_35 : decode cX12_sayRp 35 = .ok (.ifCond .eq 9, 3) := zo_153 (b1 := 0) (b2 := 9) (zkb3 zk_cX12_sayRp zn_cX12_sayRp rfl) rfl
theorem dX12_sayRp_38 : decode cX12_sayRp 38 = .ok (.ldc_w 608, 3) := zo_19 (b1 := 2) (b2 := 96) (zkb3 zk_cX12_sayRp zn_cX12_sayRp rfl) rfl
theorem dX12_sayRp_41 : decode cX12_sayRp 41 = .ok (.goto 6, 3) := zo_167 (b1 := 0) (b2 := 6) (zkb3 zk_cX12_sayRp zn_cX12_sayRp rfl) rfl
theorem dX12_sayRp_44 : decode cX12_sayRp 44 = .ok (.ldc_w 610, 3) := zo_19 (b1 := 2) (b2 := 98) (zkb3 zk_cX12_sayRp zn_cX12_sayRp rfl) rfl
theorem dX12_sayRp_47 : decode cX12_sayRp 47 = .ok (.invokevirtual 559, 3) := zo_182 (b1 := 2) (b2 := 47) (zkb3 zk_cX12_sayRp zn_cX12_sayRp rfl) rfl
theorem dX12_sayRp_50 : decode cX12_sayRp 50 = .ok (.return_, 1) := zo_177 (zkb zk_cX12_sayRp zn_cX12_sayRp rfl)
noncomputable def kn_cX12_sayCc : Nat := 0xb12f02b67002130600a76e02130900a006101b1200a76c02130900a0081b1d00a76a02130900a0071b2800a75002130900a0061b3300a76802130900a0051b3e00a76602130900a0041b4900a764021309009a1b2a
theorem zk_cX12_sayCc : zkd cX12_sayCc.data.toList kn_cX12_sayCc = true := by decide +kernel
theorem zn_cX12_sayCc : cX12_sayCc.data.toList.length = 85 := by decide +kernel
theorem dX12_sayCc_0 : decode cX12_sayCc 0 = .ok (.aload_n 0, 1) := zo_42 (zkb zk_cX12_sayCc zn_cX12_sayCc rfl)
theorem dX12_sayCc_1 : decode cX12_sayCc 1 = .ok (.iload_n 1, 1) := zo_27 (zkb zk_cX12_sayCc zn_cX12_sayCc rfl)
theorem dX12_sayCc_2 : decode cX12_sayCc 2 = .ok (.ifCond .ne 9, 3) := zo_154 (b1 := 0) (b2 := 9) (zkb3 zk_cX12_sayCc zn_cX12_sayCc rfl) rfl
theorem dX12_sayCc_5 : decode cX12_sayCc 5 = .ok (.ldc_w 612, 3) := zo_19 (b1 := 2) (b2 := 100) (zkb3 zk_cX12_sayCc zn_cX12_sayCc rfl) rfl
theorem dX12_sayCc_8 : decode cX12_sayCc 8 = .ok (.goto 73, 3) := zo_167 (b1 := 0) (b2 := 73) (zkb3 zk_cX12_sayCc zn_cX12_sayCc rfl) rfl
theorem dX12_sayCc_11 : decode cX12_sayCc 11 = .ok (.iload_n 1, 1) := zo_27 (zkb zk_cX12_sayCc zn_cX12_sayCc rfl)
theorem dX12_sayCc_12 : decode cX12_sayCc 12 = .ok (.iconst 1, 1) := zo_4 (zkb zk_cX12_sayCc zn_cX12_sayCc rfl)
theorem dX12_sayCc_13 : decode cX12_sayCc 13 = .ok (.if_icmp .ne 9, 3) := zo_160 (b1 := 0) (b2 := 9) (zkb3 zk_cX12_sayCc zn_cX12_sayCc rfl) rfl
theorem dX12_sayCc_16 : decode cX12_sayCc 16 = .ok (.ldc_w 614, 3) := zo_19 (b1 := 2) (b2 := 102) (zkb3 zk_cX12_sayCc zn_cX12_sayCc rfl) rfl
theorem dX12_sayCc_19 : decode cX12_sayCc 19 = .ok (.goto 62, 3) := zo_167 (b1 := 0) (b2 := 62) (zkb3 zk_cX12_sayCc zn_cX12_sayCc rfl) rfl
theorem dX12_sayCc_22 : decode cX12_sayCc 22 = .ok (.iload_n 1, 1) := zo_27 (zkb zk_cX12_sayCc zn_cX12_sayCc rfl)
theorem dX12_sayCc_23 : decode cX12_sayCc 23 = .ok (.iconst 2, 1) := zo_5 (zkb zk_cX12_sayCc zn_cX12_sayCc rfl)
theorem dX12_sayCc_24 : decode cX12_sayCc 24 = .ok (.if_icmp .ne 9, 3) := zo_160 (b1 := 0) (b2 := 9) (zkb3 zk_cX12_sayCc zn_cX12_sayCc rfl) rfl
theorem dX12_sayCc_27 : decode cX12_sayCc 27 = .ok (.ldc_w 616, 3) := zo_19 (b1 := 2) (b2 := 104) (zkb3 zk_cX12_sayCc zn_cX12_sayCc rfl) rfl
theorem dX12_sayCc_30 : decode cX12_sayCc 30 = .ok (.goto 51, 3) := zo_167 (b1 := 0) (b2 := 51) (zkb3 zk_cX12_sayCc zn_cX12_sayCc rfl) rfl
theorem dX12_sayCc_33 : decode cX12_sayCc 33 = .ok (.iload_n 1, 1) := zo_27 (zkb zk_cX12_sayCc zn_cX12_sayCc rfl)
theorem dX12_sayCc_34 : decode cX12_sayCc 34 = .ok (.iconst 3, 1) := zo_6 (zkb zk_cX12_sayCc zn_cX12_sayCc rfl)
theorem dX12_sayCc_35 : decode cX12_sayCc 35 = .ok (.if_icmp .ne 9, 3) := zo_160 (b1 := 0) (b2 := 9) (zkb3 zk_cX12_sayCc zn_cX12_sayCc rfl) rfl
theorem dX12_sayCc_38 : decode cX12_sayCc 38 = .ok (.ldc_w 592, 3) := zo_19 (b1 := 2) (b2 := 80) (zkb3 zk_cX12_sayCc zn_cX12_sayCc rfl) rfl
theorem dX12_sayCc_41 : decode cX12_sayCc 41 = .ok (.goto 40, 3) := zo_167 (b1 := 0) (b2 := 40) (zkb3 zk_cX12_sayCc zn_cX12_sayCc rfl) rfl
theorem dX12_sayCc_44 : decode cX12_sayCc 44 = .ok (.iload_n 1, 1) := zo_27 (zkb zk_cX12_sayCc zn_cX12_sayCc rfl)
theorem dX12_sayCc_45 : decode cX12_sayCc 45 = .ok (.iconst 4, 1) := zo_7 (zkb zk_cX12_sayCc zn_cX12_sayCc rfl)
theorem dX12_sayCc_46 : decode cX12_sayCc 46 = .ok (.if_icmp .ne 9, 3) := zo_160 (b1 := 0) (b2 := 9) (zkb3 zk_cX12_sayCc zn_cX12_sayCc rfl) rfl
theorem dX12_sayCc_49 : decode cX12_sayCc 49 = .ok (.ldc_w 618, 3) := zo_19 (b1 := 2) (b2 := 106) (zkb3 zk_cX12_sayCc zn_cX12_sayCc rfl) rfl
theorem dX12_sayCc_52 : decode cX12_sayCc 52 = .ok (.goto 29, 3) := zo_167 (b1 := 0) (b2 := 29) (zkb3 zk_cX12_sayCc zn_cX12_sayCc rfl) rfl
theorem dX12_sayCc_55 : decode cX12_sayCc 55 = .ok (.iload_n 1, 1) := zo_27 (zkb zk_cX12_sayCc zn_cX12_sayCc rfl)
theorem dX12_sayCc_56 : decode cX12_sayCc 56 = .ok (.iconst 5, 1) := zo_8 (zkb zk_cX12_sayCc zn_cX12_sayCc rfl)
theorem dX12_sayCc_57 : decode cX12_sayCc 57 = .ok (.if_icmp .ne 9, 3) := zo_160 (b1 := 0) (b2 := 9) (zkb3 zk_cX12_sayCc zn_cX12_sayCc rfl) rfl
theorem dX12_sayCc_60 : decode cX12_sayCc 60 = .ok (.ldc_w 620, 3) := zo_19 (b1 := 2) (b2 := 108) (zkb3 zk_cX12_sayCc zn_cX12_sayCc rfl) rfl
theorem dX12_sayCc_63 : decode cX12_sayCc 63 = .ok (.goto 18, 3) := zo_167 (b1 := 0) (b2 := 18) (zkb3 zk_cX12_sayCc zn_cX12_sayCc rfl) rfl
theorem dX12_sayCc_66 : decode cX12_sayCc 66 = .ok (.iload_n 1, 1) := zo_27 (zkb zk_cX12_sayCc zn_cX12_sayCc rfl)
theorem dX12_sayCc_67 : decode cX12_sayCc 67 = .ok (.bipush 6, 2) := zo_16 (b1 := 6) (zkb2 zk_cX12_sayCc zn_cX12_sayCc rfl) rfl
theorem dX12_sayCc_69 : decode cX12_sayCc 69 = .ok (.if_icmp .ne 9, 3) := zo_160 (b1 := 0) (b2 := 9) (zkb3 zk_cX12_sayCc zn_cX12_sayCc rfl) rfl
theorem dX12_sayCc_72 : decode cX12_sayCc 72 = .ok (.ldc_w 622, 3) := zo_19 (b1 := 2) (b2 := 110) (zkb3 zk_cX12_sayCc zn_cX12_sayCc rfl) rfl
theorem dX12_sayCc_75 : decode cX12_sayCc 75 = .ok (.goto 6, 3) := zo_167 (b1 := 0) (b2 := 6) (zkb3 zk_cX12_sayCc zn_cX12_sayCc rfl) rfl
theorem dX12_sayCc_78 : decode cX12_sayCc 78 = .ok (.ldc_w 624, 3) := zo_19 (b1 := 2) (b2 := 112) (zkb3 zk_cX12_sayCc zn_cX12_sayCc rfl) rfl
theorem dX12_sayCc_81 : decode cX12_sayCc 81 = .ok (.invokevirtual 559, 3) := zo_182 (b1 := 2) (b2 := 47) (zkb3 zk_cX12_sayCc zn_cX12_sayCc rfl) rfl
theorem dX12_sayCc_84 : decode cX12_sayCc 84 = .ok (.return_, 1) := zo_177 (zkb zk_cX12_sayCc zn_cX12_sayCc rfl)
noncomputable def kn_cX12_sayPlaced : Nat := 0xb12f02b64602132a4302b6071b2a2f02b67102132a
theorem zk_cX12_sayPlaced : zkd cX12_sayPlaced.data.toList kn_cX12_sayPlaced = true := by decide +kernel
theorem zn_cX12_sayPlaced : cX12_sayPlaced.data.toList.length = 21 := by decide +kernel
theorem dX12_sayPlaced_0 : decode cX12_sayPlaced 0 = .ok (.aload_n 0, 1) := zo_42 (zkb zk_cX12_sayPlaced zn_cX12_sayPlaced rfl)
theorem dX12_sayPlaced_1 : decode cX12_sayPlaced 1 = .ok (.ldc_w 625, 3) := zo_19 (b1 := 2) (b2 := 113) (zkb3 zk_cX12_sayPlaced zn_cX12_sayPlaced rfl) rfl
theorem dX12_sayPlaced_4 : decode cX12_sayPlaced 4 = .ok (.invokevirtual 559, 3) := zo_182 (b1 := 2) (b2 := 47) (zkb3 zk_cX12_sayPlaced zn_cX12_sayPlaced rfl) rfl
theorem dX12_sayPlaced_7 : decode cX12_sayPlaced 7 = .ok (.aload_n 0, 1) := zo_42 (zkb zk_cX12_sayPlaced zn_cX12_sayPlaced rfl)
theorem dX12_sayPlaced_8 : decode cX12_sayPlaced 8 = .ok (.iload_n 1, 1) := zo_27 (zkb zk_cX12_sayPlaced zn_cX12_sayPlaced rfl)
theorem dX12_sayPlaced_9 : decode cX12_sayPlaced 9 = .ok (.iconst 4, 1) := zo_7 (zkb zk_cX12_sayPlaced zn_cX12_sayPlaced rfl)
theorem dX12_sayPlaced_10 : decode cX12_sayPlaced 10 = .ok (.invokevirtual 579, 3) := zo_182 (b1 := 2) (b2 := 67) (zkb3 zk_cX12_sayPlaced zn_cX12_sayPlaced rfl) rfl
theorem dX12_sayPlaced_13 : decode cX12_sayPlaced 13 = .ok (.aload_n 0, 1) := zo_42 (zkb zk_cX12_sayPlaced zn_cX12_sayPlaced rfl)
theorem dX12_sayPlaced_14 : decode cX12_sayPlaced 14 = .ok (.ldc_w 582, 3) := zo_19 (b1 := 2) (b2 := 70) (zkb3 zk_cX12_sayPlaced zn_cX12_sayPlaced rfl) rfl
theorem dX12_sayPlaced_17 : decode cX12_sayPlaced 17 = .ok (.invokevirtual 559, 3) := zo_182 (b1 := 2) (b2 := 47) (zkb3 zk_cX12_sayPlaced zn_cX12_sayPlaced rfl) rfl
theorem dX12_sayPlaced_20 : decode cX12_sayPlaced 20 = .ok (.return_, 1) := zo_177 (zkb zk_cX12_sayPlaced zn_cX12_sayPlaced rfl)
noncomputable def kn_cX12_sayJump : Nat := 0xb14302b6077e8f12601b2102b42a2a3cf700b82402b62a
theorem zk_cX12_sayJump : zkd cX12_sayJump.data.toList kn_cX12_sayJump = true := by decide +kernel
theorem zn_cX12_sayJump : cX12_sayJump.data.toList.length = 23 := by decide +kernel
theorem dX12_sayJump_0 : decode cX12_sayJump 0 = .ok (.aload_n 0, 1) := zo_42 (zkb zk_cX12_sayJump zn_cX12_sayJump rfl)
theorem dX12_sayJump_1 : decode cX12_sayJump 1 = .ok (.invokevirtual 548, 3) := zo_182 (b1 := 2) (b2 := 36) (zkb3 zk_cX12_sayJump zn_cX12_sayJump rfl) rfl
theorem dX12_sayJump_4 : decode cX12_sayJump 4 = .ok (.invokestatic 247, 3) := zo_184 (b1 := 0) (b2 := 247) (zkb3 zk_cX12_sayJump zn_cX12_sayJump rfl) rfl
theorem dX12_sayJump_7 : decode cX12_sayJump 7 = .ok (.istore_n 1, 1) := zo_60 (zkb zk_cX12_sayJump zn_cX12_sayJump rfl)
theorem dX12_sayJump_8 : decode cX12_sayJump 8 = .ok (.aload_n 0, 1) := zo_42 (zkb zk_cX12_sayJump zn_cX12_sayJump rfl)
theorem dX12_sayJump_9 : decode cX12_sayJump 9 = .ok (.aload_n 0, 1) := zo_42 (zkb zk_cX12_sayJump zn_cX12_sayJump rfl)
theorem dX12_sayJump_10 : decode cX12_sayJump 10 = .ok (.getfield 545, 3) := zo_180 (b1 := 2) (b2 := 33) (zkb3 zk_cX12_sayJump zn_cX12_sayJump rfl) rfl
theorem dX12_sayJump_13 : decode cX12_sayJump 13 = .ok (.iload_n 1, 1) := zo_27 (zkb zk_cX12_sayJump zn_cX12_sayJump rfl)
theorem dX12_sayJump_14 : decode cX12_sayJump 14 = .ok (.iadd, 1) := zo_96 (zkb zk_cX12_sayJump zn_cX12_sayJump rfl)
theorem dX12_sayJump_15 : decode cX12_sayJump 15 = .ok (.ldc 143, 2) := zo_18 (b1 := 143) (zkb2 zk_cX12_sayJump zn_cX12_sayJump rfl)
theorem dX12_sayJump_17 : decode cX12_sayJump 17 = .ok (.iand, 1) := zo_126 (zkb zk_cX12_sayJump zn_cX12_sayJump rfl)
theorem dX12_sayJump_18 : decode cX12_sayJump 18 = .ok (.iconst 4, 1) := zo_7 (zkb zk_cX12_sayJump zn_cX12_sayJump rfl)
theorem dX12_sayJump_19 : decode cX12_sayJump 19 = .ok (.invokevirtual 579, 3) := zo_182 (b1 := 2) (b2 := 67) (zkb3 zk_cX12_sayJump zn_cX12_sayJump rfl) rfl
theorem dX12_sayJump_22 : decode cX12_sayJump 22 = .ok (.return_, 1) := zo_177 (zkb zk_cX12_sayJump zn_cX12_sayJump rfl)
noncomputable def kn_cX12_sayDo : Nat := 0xb12f02b68102130600a77f02130900a006101b1200a77d02130900a0081b1d00a77b02130900a0071b2800a77902130900a0061b3300a77702130900a0051b3e00a77502130900a0041b4900a773021309009a1b2a
theorem zk_cX12_sayDo : zkd cX12_sayDo.data.toList kn_cX12_sayDo = true := by decide +kernel
theorem zn_cX12_sayDo : cX12_sayDo.data.toList.length = 85 := by decide +kernel
theorem dX12_sayDo_0 : decode cX12_sayDo 0 = .ok (.aload_n 0, 1) := zo_42 (zkb zk_cX12_sayDo zn_cX12_sayDo rfl)
theorem dX12_sayDo_1 : decode cX12_sayDo 1 = .ok (.iload_n 1, 1) := zo_27 (zkb zk_cX12_sayDo zn_cX12_sayDo rfl)
theorem dX12_sayDo_2 : decode cX12_sayDo 2 = .ok (.ifCond .ne 9, 3) := zo_154 (b1 := 0) (b2 := 9) (zkb3 zk_cX12_sayDo zn_cX12_sayDo rfl) rfl
theorem dX12_sayDo_5 : decode cX12_sayDo 5 = .ok (.ldc_w 627, 3) := zo_19 (b1 := 2) (b2 := 115) (zkb3 zk_cX12_sayDo zn_cX12_sayDo rfl) rfl
theorem dX12_sayDo_8 : decode cX12_sayDo 8 = .ok (.goto 73, 3) := zo_167 (b1 := 0) (b2 := 73) (zkb3 zk_cX12_sayDo zn_cX12_sayDo rfl) rfl
theorem dX12_sayDo_11 : decode cX12_sayDo 11 = .ok (.iload_n 1, 1) := zo_27 (zkb zk_cX12_sayDo zn_cX12_sayDo rfl)
theorem dX12_sayDo_12 : decode cX12_sayDo 12 = .ok (.iconst 1, 1) := zo_4 (zkb zk_cX12_sayDo zn_cX12_sayDo rfl)
theorem dX12_sayDo_13 : decode cX12_sayDo 13 = .ok (.if_icmp .ne 9, 3) := zo_160 (b1 := 0) (b2 := 9) (zkb3 zk_cX12_sayDo zn_cX12_sayDo rfl) rfl
theorem dX12_sayDo_16 : decode cX12_sayDo 16 = .ok (.ldc_w 629, 3) := zo_19 (b1 := 2) (b2 := 117) (zkb3 zk_cX12_sayDo zn_cX12_sayDo rfl) rfl
theorem dX12_sayDo_19 : decode cX12_sayDo 19 = .ok (.goto 62, 3) := zo_167 (b1 := 0) (b2 := 62) (zkb3 zk_cX12_sayDo zn_cX12_sayDo rfl) rfl
theorem dX12_sayDo_22 : decode cX12_sayDo 22 = .ok (.iload_n 1, 1) := zo_27 (zkb zk_cX12_sayDo zn_cX12_sayDo rfl)
theorem dX12_sayDo_23 : decode cX12_sayDo 23 = .ok (.iconst 2, 1) := zo_5 (zkb zk_cX12_sayDo zn_cX12_sayDo rfl)
theorem dX12_sayDo_24 : decode cX12_sayDo 24 = .ok (.if_icmp .ne 9, 3) := zo_160 (b1 := 0) (b2 := 9) (zkb3 zk_cX12_sayDo zn_cX12_sayDo rfl) rfl
theorem dX12_sayDo_27 : decode cX12_sayDo 27 = .ok (.ldc_w 631, 3) := zo_19 (b1 := 2) (b2 := 119) (zkb3 zk_cX12_sayDo zn_cX12_sayDo rfl) rfl
theorem dX12_sayDo_30 : decode cX12_sayDo 30 = .ok (.goto 51, 3) := zo_167 (b1 := 0) (b2 := 51) (zkb3 zk_cX12_sayDo zn_cX12_sayDo rfl) rfl
theorem dX12_sayDo_33 : decode cX12_sayDo 33 = .ok (.iload_n 1, 1) := zo_27 (zkb zk_cX12_sayDo zn_cX12_sayDo rfl)
theorem dX12_sayDo_34 : decode cX12_sayDo 34 = .ok (.iconst 3, 1) := zo_6 (zkb zk_cX12_sayDo zn_cX12_sayDo rfl)
theorem dX12_sayDo_35 : decode cX12_sayDo 35 = .ok (.if_icmp .ne 9, 3) := zo_160 (b1 := 0) (b2 := 9) (zkb3 zk_cX12_sayDo zn_cX12_sayDo rfl) rfl
theorem dX12_sayDo_38 : decode cX12_sayDo 38 = .ok (.ldc_w 633, 3) := zo_19 (b1 := 2) (b2 := 121) (zkb3 zk_cX12_sayDo zn_cX12_sayDo rfl) rfl
theorem dX12_sayDo_41 : decode cX12_sayDo 41 = .ok (.goto 40, 3) := zo_167 (b1 := 0) (b2 := 40) (zkb3 zk_cX12_sayDo zn_cX12_sayDo rfl) rfl
theorem dX12_sayDo_44 : decode cX12_sayDo 44 = .ok (.iload_n 1, 1) := zo_27 (zkb zk_cX12_sayDo zn_cX12_sayDo rfl)
theorem dX12_sayDo_45 : decode cX12_sayDo 45 = .ok (.iconst 4, 1) := zo_7 (zkb zk_cX12_sayDo zn_cX12_sayDo rfl)
theorem dX12_sayDo_46 : decode cX12_sayDo 46 = .ok (.if_icmp .ne 9, 3) := zo_160 (b1 := 0) (b2 := 9) (zkb3 zk_cX12_sayDo zn_cX12_sayDo rfl) rfl
theorem dX12_sayDo_49 : decode cX12_sayDo 49 = .ok (.ldc_w 635, 3) := zo_19 (b1 := 2) (b2 := 123) (zkb3 zk_cX12_sayDo zn_cX12_sayDo rfl) rfl
theorem dX12_sayDo_52 : decode cX12_sayDo 52 = .ok (.goto 29, 3) := zo_167 (b1 := 0) (b2 := 29) (zkb3 zk_cX12_sayDo zn_cX12_sayDo rfl) rfl
theorem dX12_sayDo_55 : decode cX12_sayDo 55 = .ok (.iload_n 1, 1) := zo_27 (zkb zk_cX12_sayDo zn_cX12_sayDo rfl)
theorem dX12_sayDo_56 : decode cX12_sayDo 56 = .ok (.iconst 5, 1) := zo_8 (zkb zk_cX12_sayDo zn_cX12_sayDo rfl)
theorem dX12_sayDo_57 : decode cX12_sayDo 57 = .ok (.if_icmp .ne 9, 3) := zo_160 (b1 := 0) (b2 := 9) (zkb3 zk_cX12_sayDo zn_cX12_sayDo rfl) rfl
theorem dX12_sayDo_60 : decode cX12_sayDo 60 = .ok (.ldc_w 637, 3) := zo_19 (b1 := 2) (b2 := 125) (zkb3 zk_cX12_sayDo zn_cX12_sayDo rfl) rfl
theorem dX12_sayDo_63 : decode cX12_sayDo 63 = .ok (.goto 18, 3) := zo_167 (b1 := 0) (b2 := 18) (zkb3 zk_cX12_sayDo zn_cX12_sayDo rfl) rfl
theorem dX12_sayDo_66 : decode cX12_sayDo 66 = .ok (.iload_n 1, 1) := zo_27 (zkb zk_cX12_sayDo zn_cX12_sayDo rfl)
theorem dX12_sayDo_67 : decode cX12_sayDo 67 = .ok (.bipush 6, 2) := zo_16 (b1 := 6) (zkb2 zk_cX12_sayDo zn_cX12_sayDo rfl) rfl
theorem dX12_sayDo_69 : decode cX12_sayDo 69 = .ok (.if_icmp .ne 9, 3) := zo_160 (b1 := 0) (b2 := 9) (zkb3 zk_cX12_sayDo zn_cX12_sayDo rfl) rfl
theorem dX12_sayDo_72 : decode cX12_sayDo 72 = .ok (.ldc_w 639, 3) := zo_19 (b1 := 2) (b2 := 127) (zkb3 zk_cX12_sayDo zn_cX12_sayDo rfl) rfl
theorem dX12_sayDo_75 : decode cX12_sayDo 75 = .ok (.goto 6, 3) := zo_167 (b1 := 0) (b2 := 6) (zkb3 zk_cX12_sayDo zn_cX12_sayDo rfl) rfl
theorem dX12_sayDo_78 : decode cX12_sayDo 78 = .ok (.ldc_w 641, 3) := zo_19 (b1 := 2) (b2 := 129) (zkb3 zk_cX12_sayDo zn_cX12_sayDo rfl) rfl
theorem dX12_sayDo_81 : decode cX12_sayDo 81 = .ok (.invokevirtual 559, 3) := zo_182 (b1 := 2) (b2 := 47) (zkb3 zk_cX12_sayDo zn_cX12_sayDo rfl) rfl
theorem dX12_sayDo_84 : decode cX12_sayDo 84 = .ok (.return_, 1) := zo_177 (zkb zk_cX12_sayDo zn_cX12_sayDo rfl)
noncomputable def kn_cX12_sayPrefixed : Nat := 0xb18c02b61c2a3c02b5f700b82402b62a2a0e00993302b42a3302b5030400a7040700a0061004150e00a00505151000a076101c0900a0061004150a009f06101d1600a004051529009f06101d0900a2071004151000a406041516009a05152ab19302b670081006152a2f02b69102132ab10400a0061070081006150d009f047a061006158602b68006107ef8001106152a06362402b62a3302b5042a3c02b5f700b82402b62a2a4b00a0cb00111c05367a06101c04367e07101c3e7e07107a061c2702b51b2a2102b560042102b4592ab12f02b68f02132a0b00a0fd00111c0a009fed00111c11009fdd00111c3da600b62102b42a2a
theorem zk_cX12_sayPrefixed : zkd cX12_sayPrefixed.data.toList kn_cX12_sayPrefixed = true := by decide +kernel
theorem zn_cX12_sayPrefixed : cX12_sayPrefixed.data.toList.length = 246 := by decide +kernel
theorem dX12_sayPrefixed_0 : decode cX12_sayPrefixed 0 = .ok (.aload_n 0, 1) := zo_42 (zkb zk_cX12_sayPrefixed zn_cX12_sayPrefixed rfl)
theorem dX12_sayPrefixed_1 : decode cX12_sayPrefixed 1 = .ok (.aload_n 0, 1) := zo_42 (zkb zk_cX12_sayPrefixed zn_cX12_sayPrefixed rfl)
theorem dX12_sayPrefixed_2 : decode cX12_sayPrefixed 2 = .ok (.getfield 545, 3) := zo_180 (b1 := 2) (b2 := 33) (zkb3 zk_cX12_sayPrefixed zn_cX12_sayPrefixed rfl) rfl
theorem dX12_sayPrefixed_5 : decode cX12_sayPrefixed 5 = .ok (.invokevirtual 166, 3) := zo_182 (b1 := 0) (b2 := 166) (zkb3 zk_cX12_sayPrefixed zn_cX12_sayPrefixed rfl) rfl
theorem dX12_sayPrefixed_8 : decode cX12_sayPrefixed 8 = .ok (.istore_n 2, 1) := zo_61 (zkb zk_cX12_sayPrefixed zn_cX12_sayPrefixed rfl)
theorem dX12_sayPrefixed_9 : decode cX12_sayPrefixed 9 = .ok (.iload_n 2, 1) := zo_28 (zkb zk_cX12_sayPrefixed zn_cX12_sayPrefixed rfl)
theorem dX12_sayPrefixed_10 : decode cX12_sayPrefixed 10 = .ok (.sipush 221, 3) := zo_17 (b1 := 0) (b2 := 221) (zkb3 zk_cX12_sayPrefixed zn_cX12_sayPrefixed rfl) rfl
theorem dX12_sayPrefixed_13 : decode cX12_sayPrefixed 13 = .ok (.if_icmp .eq 17, 3) := zo_159 (b1 := 0) (b2 := 17) (zkb3 zk_cX12_sayPrefixed zn_cX12_sayPrefixed rfl) rfl
theorem dX12_sayPrefixed_16 : decode cX12_sayPrefixed 16 = .ok (.iload_n 2, 1) := zo_28 (zkb zk_cX12_sayPrefixed zn_cX12_sayPrefixed rfl)
theorem dX12_sayPrefixed_17 : decode cX12_sayPrefixed 17 = .ok (.sipush 237, 3) := zo_17 (b1 := 0) (b2 := 237) (zkb3 zk_cX12_sayPrefixed zn_cX12_sayPrefixed rfl) rfl
theorem dX12_sayPrefixed_20 : decode cX12_sayPrefixed 20 = .ok (.if_icmp .eq 10, 3) := zo_159 (b1 := 0) (b2 := 10) (zkb3 zk_cX12_sayPrefixed zn_cX12_sayPrefixed rfl) rfl
theorem dX12_sayPrefixed_23 : decode cX12_sayPrefixed 23 = .ok (.iload_n 2, 1) := zo_28 (zkb zk_cX12_sayPrefixed zn_cX12_sayPrefixed rfl)
theorem dX12_sayPrefixed_24 : decode cX12_sayPrefixed 24 = .ok (.sipush 253, 3) := zo_17 (b1 := 0) (b2 := 253) (zkb3 zk_cX12_sayPrefixed zn_cX12_sayPrefixed rfl) rfl
theorem dX12_sayPrefixed_27 : decode cX12_sayPrefixed 27 = .ok (.if_icmp .ne 11, 3) := zo_160 (b1 := 0) (b2 := 11) (zkb3 zk_cX12_sayPrefixed zn_cX12_sayPrefixed rfl) rfl
theorem dX12_sayPrefixed_30 : decode cX12_sayPrefixed 30 = .ok (.aload_n 0, 1) := zo_42 (zkb zk_cX12_sayPrefixed zn_cX12_sayPrefixed rfl)
theorem dX12_sayPrefixed_31 : decode cX12_sayPrefixed 31 = .ok (.ldc_w 655, 3) := zo_19 (b1 := 2) (b2 := 143) (zkb3 zk_cX12_sayPrefixed zn_cX12_sayPrefixed rfl) rfl
theorem dX12_sayPrefixed_34 : decode cX12_sayPrefixed 34 = .ok (.invokevirtual 559, 3) := zo_182 (b1 := 2) (b2 := 47) (zkb3 zk_cX12_sayPrefixed zn_cX12_sayPrefixed rfl) rfl
theorem dX12_sayPrefixed_37 : decode cX12_sayPrefixed 37 = .ok (.return_, 1) := zo_177 (zkb zk_cX12_sayPrefixed zn_cX12_sayPrefixed rfl)
theorem dX12_sayPrefixed_38 : decode cX12_sayPrefixed 38 = .ok (.aload_n 0, 1) := zo_42 (zkb zk_cX12_sayPrefixed zn_cX12_sayPrefixed rfl)
theorem dX12_sayPrefixed_39 : decode cX12_sayPrefixed 39 = .ok (.dup, 1) := zo_89 (zkb zk_cX12_sayPrefixed zn_cX12_sayPrefixed rfl)
theorem dX12_sayPrefixed_40 : decode cX12_sayPrefixed 40 = .ok (.getfield 545, 3) := zo_180 (b1 := 2) (b2 := 33) (zkb3 zk_cX12_sayPrefixed zn_cX12_sayPrefixed rfl) rfl
theorem dX12_sayPrefixed_43 : decode cX12_sayPrefixed 43 = .ok (.iconst 1, 1) := zo_4 (zkb zk_cX12_sayPrefixed zn_cX12_sayPrefixed rfl)
theorem dX12_sayPrefixed_44 : decode cX12_sayPrefixed 44 = .ok (.iadd, 1) := zo_96 (zkb zk_cX12_sayPrefixed zn_cX12_sayPrefixed rfl)
theorem dX12_sayPrefixed_45 : decode cX12_sayPrefixed 45 = .ok (.putfield 545, 3) := zo_181 (b1 := 2) (b2 := 33) (zkb3 zk_cX12_sayPrefixed zn_cX12_sayPrefixed rfl) rfl
theorem dX12_sayPrefixed_48 : decode cX12_sayPrefixed 48 = .ok (.aload_n 0, 1) := zo_42 (zkb zk_cX12_sayPrefixed zn_cX12_sayPrefixed rfl)
theorem dX12_sayPrefixed_49 : decode cX12_sayPrefixed 49 = .ok (.iload_n 1, 1) := zo_27 (zkb zk_cX12_sayPrefixed zn_cX12_sayPrefixed rfl)
theorem dX12_sayPrefixed_50 : decode cX12_sayPrefixed 50 = .ok (.putfield 551, 3) := zo_181 (b1 := 2) (b2 := 39) (zkb3 zk_cX12_sayPrefixed zn_cX12_sayPrefixed rfl) rfl
theorem dX12_sayPrefixed_53 : decode cX12_sayPrefixed 53 = .ok (.iload_n 2, 1) := zo_28 (zkb zk_cX12_sayPrefixed zn_cX12_sayPrefixed rfl)
theorem dX12_sayPrefixed_54 : decode cX12_sayPrefixed 54 = .ok (.iconst 3, 1) := zo_6 (zkb zk_cX12_sayPrefixed zn_cX12_sayPrefixed rfl)
theorem dX12_sayPrefixed_55 : decode cX12_sayPrefixed 55 = .ok (.ishr, 1) := zo_122 (zkb zk_cX12_sayPrefixed zn_cX12_sayPrefixed rfl)
theorem dX12_sayPrefixed_56 : decode cX12_sayPrefixed 56 = .ok (.bipush 7, 2) := zo_16 (b1 := 7) (zkb2 zk_cX12_sayPrefixed zn_cX12_sayPrefixed rfl) rfl
theorem dX12_sayPrefixed_58 : decode cX12_sayPrefixed 58 = .ok (.iand, 1) := zo_126 (zkb zk_cX12_sayPrefixed zn_cX12_sayPrefixed rfl)
theorem dX12_sayPrefixed_59 : decode cX12_sayPrefixed 59 = .ok (.istore_n 3, 1) := zo_62 (zkb zk_cX12_sayPrefixed zn_cX12_sayPrefixed rfl)
theorem dX12_sayPrefixed_60 : decode cX12_sayPrefixed 60 = .ok (.iload_n 2, 1) := zo_28 (zkb zk_cX12_sayPrefixed zn_cX12_sayPrefixed rfl)
theorem dX12_sayPrefixed_61 : decode cX12_sayPrefixed 61 = .ok (.bipush 7, 2) := zo_16 (b1 := 7) (zkb2 zk_cX12_sayPrefixed zn_cX12_sayPrefixed rfl) rfl
theorem dX12_sayPrefixed_63 : decode cX12_sayPrefixed 63 = .ok (.iand, 1) := zo_126 (zkb zk_cX12_sayPrefixed zn_cX12_sayPrefixed rfl)
theorem dX12_sayPrefixed_64 : decode cX12_sayPrefixed 64 = .ok (.istore 4, 2) := zo_54 (b1 := 4) (zkb2 zk_cX12_sayPrefixed zn_cX12_sayPrefixed rfl)
theorem dX12_sayPrefixed_66 : decode cX12_sayPrefixed 66 = .ok (.iload_n 2, 1) := zo_28 (zkb zk_cX12_sayPrefixed zn_cX12_sayPrefixed rfl)
theorem dX12_sayPrefixed_67 : decode cX12_sayPrefixed 67 = .ok (.bipush 6, 2) := zo_16 (b1 := 6) (zkb2 zk_cX12_sayPrefixed zn_cX12_sayPrefixed rfl) rfl
theorem dX12_sayPrefixed_69 : decode cX12_sayPrefixed 69 = .ok (.ishr, 1) := zo_122 (zkb zk_cX12_sayPrefixed zn_cX12_sayPrefixed rfl)
theorem dX12_sayPrefixed_70 : decode cX12_sayPrefixed 70 = .ok (.istore 5, 2) := zo_54 (b1 := 5) (zkb2 zk_cX12_sayPrefixed zn_cX12_sayPrefixed rfl)
theorem dX12_sayPrefixed_72 : decode cX12_sayPrefixed 72 = .ok (.iload_n 2, 1) := zo_28 (zkb zk_cX12_sayPrefixed zn_cX12_sayPrefixed rfl)
theorem dX12_sayPrefixed_73 : decode cX12_sayPrefixed 73 = .ok (.sipush 203, 3) := zo_17 (b1 := 0) (b2 := 203) (zkb3 zk_cX12_sayPrefixed zn_cX12_sayPrefixed rfl) rfl
theorem dX12_sayPrefixed_76 : decode cX12_sayPrefixed 76 = .ok (.if_icmp .ne 75, 3) := zo_160 (b1 := 0) (b2 := 75) (zkb3 zk_cX12_sayPrefixed zn_cX12_sayPrefixed rfl) rfl
theorem dX12_sayPrefixed_79 : decode cX12_sayPrefixed 79 = .ok (.aload_n 0, 1) := zo_42 (zkb zk_cX12_sayPrefixed zn_cX12_sayPrefixed rfl)
theorem dX12_sayPrefixed_80 : decode cX12_sayPrefixed 80 = .ok (.aload_n 0, 1) := zo_42 (zkb zk_cX12_sayPrefixed zn_cX12_sayPrefixed rfl)
theorem dX12_sayPrefixed_81 : decode cX12_sayPrefixed 81 = .ok (.invokevirtual 548, 3) := zo_182 (b1 := 2) (b2 := 36) (zkb3 zk_cX12_sayPrefixed zn_cX12_sayPrefixed rfl) rfl
theorem dX12_sayPrefixed_84 : decode cX12_sayPrefixed 84 = .ok (.invokestatic 247, 3) := zo_184 (b1 := 0) (b2 := 247) (zkb3 zk_cX12_sayPrefixed zn_cX12_sayPrefixed rfl) rfl
theorem dX12_sayPrefixed_87 : decode cX12_sayPrefixed 87 = .ok (.putfield 572, 3) := zo_181 (b1 := 2) (b2 := 60) (zkb3 zk_cX12_sayPrefixed zn_cX12_sayPrefixed rfl) rfl
theorem dX12_sayPrefixed_90 : decode cX12_sayPrefixed 90 = .ok (.aload_n 0, 1) := zo_42 (zkb zk_cX12_sayPrefixed zn_cX12_sayPrefixed rfl)
theorem dX12_sayPrefixed_91 : decode cX12_sayPrefixed 91 = .ok (.iconst 1, 1) := zo_4 (zkb zk_cX12_sayPrefixed zn_cX12_sayPrefixed rfl)
theorem dX12_sayPrefixed_92 : decode cX12_sayPrefixed 92 = .ok (.putfield 563, 3) := zo_181 (b1 := 2) (b2 := 51) (zkb3 zk_cX12_sayPrefixed zn_cX12_sayPrefixed rfl) rfl
theorem dX12_sayPrefixed_95 : decode cX12_sayPrefixed 95 = .ok (.aload_n 0, 1) := zo_42 (zkb zk_cX12_sayPrefixed zn_cX12_sayPrefixed rfl)
theorem dX12_sayPrefixed_96 : decode cX12_sayPrefixed 96 = .ok (.invokevirtual 548, 3) := zo_182 (b1 := 2) (b2 := 36) (zkb3 zk_cX12_sayPrefixed zn_cX12_sayPrefixed rfl) rfl
theorem dX12_sayPrefixed_99 : decode cX12_sayPrefixed 99 = .ok (.istore 6, 2) := zo_54 (b1 := 6) (zkb2 zk_cX12_sayPrefixed zn_cX12_sayPrefixed rfl)
theorem dX12_sayPrefixed_101 : decode cX12_sayPrefixed 101 = .ok (.aload_n 0, 1) := zo_42 (zkb zk_cX12_sayPrefixed zn_cX12_sayPrefixed rfl)
theorem dX12_sayPrefixed_102 : decode cX12_sayPrefixed 102 = .ok (.iload 6, 2) := zo_21 (b1 := 6) (zkb2 zk_cX12_sayPrefixed zn_cX12_sayPrefixed rfl)
theorem dX12_sayPrefixed_104 : decode cX12_sayPrefixed 104 = .ok (.sipush 248, 3) := zo_17 (b1 := 0) (b2 := 248) (zkb3 zk_cX12_sayPrefixed zn_cX12_sayPrefixed rfl) rfl
theorem dX12_sayPrefixed_107 : decode cX12_sayPrefixed 107 = .ok (.iand, 1) := zo_126 (zkb zk_cX12_sayPrefixed zn_cX12_sayPrefixed rfl)
theorem dX12_sayPrefixed_108 : decode cX12_sayPrefixed 108 = .ok (.bipush 6, 2) := zo_16 (b1 := 6) (zkb2 zk_cX12_sayPrefixed zn_cX12_sayPrefixed rfl) rfl
theorem dX12_sayPrefixed_110 : decode cX12_sayPrefixed 110 = .ok (.ior, 1) := zo_128 (zkb zk_cX12_sayPrefixed zn_cX12_sayPrefixed rfl)
theorem dX12_sayPrefixed_111 : decode cX12_sayPrefixed 111 = .ok (.invokevirtual 646, 3) := zo_182 (b1 := 2) (b2 := 134) (zkb3 zk_cX12_sayPrefixed zn_cX12_sayPrefixed rfl) rfl
theorem dX12_sayPrefixed_114 : decode cX12_sayPrefixed 114 = .ok (.iload 6, 2) := zo_21 (b1 := 6) (zkb2 zk_cX12_sayPrefixed zn_cX12_sayPrefixed rfl)
theorem dX12_sayPrefixed_116 : decode cX12_sayPrefixed 116 = .ok (.bipush 6, 2) := zo_16 (b1 := 6) (zkb2 zk_cX12_sayPrefixed zn_cX12_sayPrefixed rfl) rfl
theorem dX12_sayPrefixed_118 : decode cX12_sayPrefixed 118 = .ok (.ishr, 1) := zo_122 (zkb zk_cX12_sayPrefixed zn_cX12_sayPrefixed rfl)
theorem dX12_sayPrefixed_119 : decode cX12_sayPrefixed 119 = .ok (.iconst 1, 1) := zo_4 (zkb zk_cX12_sayPrefixed zn_cX12_sayPrefixed rfl)
theorem dX12_sayPrefixed_120 : decode cX12_sayPrefixed 120 = .ok (.if_icmp .eq 13, 3) := zo_159 (b1 := 0) (b2 := 13) (zkb3 zk_cX12_sayPrefixed zn_cX12_sayPrefixed rfl) rfl
theorem dX12_sayPrefixed_123 : decode cX12_sayPrefixed 123 = .ok (.iload 6, 2) := zo_21 (b1 := 6) (zkb2 zk_cX12_sayPrefixed zn_cX12_sayPrefixed rfl)
theorem dX12_sayPrefixed_125 : decode cX12_sayPrefixed 125 = .ok (.bipush 8, 2) := zo_16 (b1 := 8) (zkb2 zk_cX12_sayPrefixed zn_cX12_sayPrefixed rfl) rfl
theorem dX12_sayPrefixed_127 : decode cX12_sayPrefixed 127 = .ok (.irem, 1) := zo_112 (zkb zk_cX12_sayPrefixed zn_cX12_sayPrefixed rfl)
theorem dX12_sayPrefixed_128 : decode cX12_sayPrefixed 128 = .ok (.bipush 6, 2) := zo_16 (b1 := 6) (zkb2 zk_cX12_sayPrefixed zn_cX12_sayPrefixed rfl) rfl
theorem dX12_sayPrefixed_130 : decode cX12_sayPrefixed 130 = .ok (.if_icmp .ne 4, 3) := zo_160 (b1 := 0) (b2 := 4) (zkb3 zk_cX12_sayPrefixed zn_cX12_sayPrefixed rfl) rfl
theorem dX12_sayPrefixed_133 : decode cX12_sayPrefixed 133 = .ok (.return_, 1) := zo_177 (zkb zk_cX12_sayPrefixed zn_cX12_sayPrefixed rfl)
theorem dX12_sayPrefixed_134 : decode cX12_sayPrefixed 134 = .ok (.aload_n 0, 1) := zo_42 (zkb zk_cX12_sayPrefixed zn_cX12_sayPrefixed rfl)
theorem dX12_sayPrefixed_135 : decode cX12_sayPrefixed 135 = .ok (.ldc_w 657, 3) := zo_19 (b1 := 2) (b2 := 145) (zkb3 zk_cX12_sayPrefixed zn_cX12_sayPrefixed rfl) rfl
theorem dX12_sayPrefixed_138 : decode cX12_sayPrefixed 138 = .ok (.invokevirtual 559, 3) := zo_182 (b1 := 2) (b2 := 47) (zkb3 zk_cX12_sayPrefixed zn_cX12_sayPrefixed rfl) rfl
theorem dX12_sayPrefixed_141 : decode cX12_sayPrefixed 141 = .ok (.aload_n 0, 1) := zo_42 (zkb zk_cX12_sayPrefixed zn_cX12_sayPrefixed rfl)
theorem dX12_sayPrefixed_142 : decode cX12_sayPrefixed 142 = .ok (.iload 6, 2) := zo_21 (b1 := 6) (zkb2 zk_cX12_sayPrefixed zn_cX12_sayPrefixed rfl)
theorem dX12_sayPrefixed_144 : decode cX12_sayPrefixed 144 = .ok (.bipush 8, 2) := zo_16 (b1 := 8) (zkb2 zk_cX12_sayPrefixed zn_cX12_sayPrefixed rfl) rfl
theorem dX12_sayPrefixed_146 : decode cX12_sayPrefixed 146 = .ok (.irem, 1) := zo_112 (zkb zk_cX12_sayPrefixed zn_cX12_sayPrefixed rfl)
theorem dX12_sayPrefixed_147 : decode cX12_sayPrefixed 147 = .ok (.invokevirtual 659, 3) := zo_182 (b1 := 2) (b2 := 147) (zkb3 zk_cX12_sayPrefixed zn_cX12_sayPrefixed rfl) rfl
theorem dX12_sayPrefixed_150 : decode cX12_sayPrefixed 150 = .ok (.return_, 1) := zo_177 (zkb zk_cX12_sayPrefixed zn_cX12_sayPrefixed rfl)
theorem dX12_sayPrefixed_151 : decode cX12_sayPrefixed 151 = .ok (.aload_n 0, 1) := zo_42 (zkb zk_cX12_sayPrefixed zn_cX12_sayPrefixed rfl)
theorem dX12_sayPrefixed_152 : decode cX12_sayPrefixed 152 = .ok (.iload 5, 2) := zo_21 (b1 := 5) (zkb2 zk_cX12_sayPrefixed zn_cX12_sayPrefixed rfl)
theorem dX12_sayPrefixed_154 : decode cX12_sayPrefixed 154 = .ok (.ifCond .ne 22, 3) := zo_154 (b1 := 0) (b2 := 22) (zkb3 zk_cX12_sayPrefixed zn_cX12_sayPrefixed rfl) rfl
theorem dX12_sayPrefixed_157 : decode cX12_sayPrefixed 157 = .ok (.iload 4, 2) := zo_21 (b1 := 4) (zkb2 zk_cX12_sayPrefixed zn_cX12_sayPrefixed rfl)
theorem dX12_sayPrefixed_159 : decode cX12_sayPrefixed 159 = .ok (.iconst 3, 1) := zo_6 (zkb zk_cX12_sayPrefixed zn_cX12_sayPrefixed rfl)
theorem dX12_sayPrefixed_160 : decode cX12_sayPrefixed 160 = .ok (.if_icmp .le 16, 3) := zo_164 (b1 := 0) (b2 := 16) (zkb3 zk_cX12_sayPrefixed zn_cX12_sayPrefixed rfl) rfl
theorem dX12_sayPrefixed_163 : decode cX12_sayPrefixed 163 = .ok (.iload 4, 2) := zo_21 (b1 := 4) (zkb2 zk_cX12_sayPrefixed zn_cX12_sayPrefixed rfl)
theorem dX12_sayPrefixed_165 : decode cX12_sayPrefixed 165 = .ok (.bipush 7, 2) := zo_16 (b1 := 7) (zkb2 zk_cX12_sayPrefixed zn_cX12_sayPrefixed rfl) rfl
theorem dX12_sayPrefixed_167 : decode cX12_sayPrefixed 167 = .ok (.if_icmp .ge 9, 3) := zo_162 (b1 := 0) (b2 := 9) (zkb3 zk_cX12_sayPrefixed zn_cX12_sayPrefixed rfl) rfl
theorem dX12_sayPrefixed_170 : decode cX12_sayPrefixed 170 = .ok (.iload_n 3, 1) := zo_29 (zkb zk_cX12_sayPrefixed zn_cX12_sayPrefixed rfl)
theorem dX12_sayPrefixed_171 : decode cX12_sayPrefixed 171 = .ok (.bipush 6, 2) := zo_16 (b1 := 6) (zkb2 zk_cX12_sayPrefixed zn_cX12_sayPrefixed rfl) rfl
theorem dX12_sayPrefixed_173 : decode cX12_sayPrefixed 173 = .ok (.if_icmp .eq 41, 3) := zo_159 (b1 := 0) (b2 := 41) (zkb3 zk_cX12_sayPrefixed zn_cX12_sayPrefixed rfl) rfl
theorem dX12_sayPrefixed_176 : decode cX12_sayPrefixed 176 = .ok (.iload 5, 2) := zo_21 (b1 := 5) (zkb2 zk_cX12_sayPrefixed zn_cX12_sayPrefixed rfl)
theorem dX12_sayPrefixed_178 : decode cX12_sayPrefixed 178 = .ok (.iconst 1, 1) := zo_4 (zkb zk_cX12_sayPrefixed zn_cX12_sayPrefixed rfl)
theorem dX12_sayPrefixed_179 : decode cX12_sayPrefixed 179 = .ok (.if_icmp .ne 22, 3) := zo_160 (b1 := 0) (b2 := 22) (zkb3 zk_cX12_sayPrefixed zn_cX12_sayPrefixed rfl) rfl
theorem dX12_sayPrefixed_182 : decode cX12_sayPrefixed 182 = .ok (.iload_n 3, 1) := zo_29 (zkb zk_cX12_sayPrefixed zn_cX12_sayPrefixed rfl)
theorem dX12_sayPrefixed_183 : decode cX12_sayPrefixed 183 = .ok (.bipush 6, 2) := zo_16 (b1 := 6) (zkb2 zk_cX12_sayPrefixed zn_cX12_sayPrefixed rfl) rfl
theorem dX12_sayPrefixed_185 : decode cX12_sayPrefixed 185 = .ok (.if_icmp .eq 10, 3) := zo_159 (b1 := 0) (b2 := 10) (zkb3 zk_cX12_sayPrefixed zn_cX12_sayPrefixed rfl) rfl
theorem dX12_sayPrefixed_188 : decode cX12_sayPrefixed 188 = .ok (.iload 4, 2) := zo_21 (b1 := 4) (zkb2 zk_cX12_sayPrefixed zn_cX12_sayPrefixed rfl)
theorem dX12_sayPrefixed_190 : decode cX12_sayPrefixed 190 = .ok (.bipush 6, 2) := zo_16 (b1 := 6) (zkb2 zk_cX12_sayPrefixed zn_cX12_sayPrefixed rfl) rfl
theorem dX12_sayPrefixed_192 : decode cX12_sayPrefixed 192 = .ok (.if_icmp .ne 9, 3) := zo_160 (b1 := 0) (b2 := 9) (zkb3 zk_cX12_sayPrefixed zn_cX12_sayPrefixed rfl) rfl
theorem dX12_sayPrefixed_195 : decode cX12_sayPrefixed 195 = .ok (.iload_n 2, 1) := zo_28 (zkb zk_cX12_sayPrefixed zn_cX12_sayPrefixed rfl)
theorem dX12_sayPrefixed_196 : decode cX12_sayPrefixed 196 = .ok (.bipush 118, 2) := zo_16 (b1 := 118) (zkb2 zk_cX12_sayPrefixed zn_cX12_sayPrefixed rfl) rfl
theorem dX12_sayPrefixed_198 : decode cX12_sayPrefixed 198 = .ok (.if_icmp .ne 16, 3) := zo_160 (b1 := 0) (b2 := 16) (zkb3 zk_cX12_sayPrefixed zn_cX12_sayPrefixed rfl) rfl
theorem dX12_sayPrefixed_201 : decode cX12_sayPrefixed 201 = .ok (.iload 5, 2) := zo_21 (b1 := 5) (zkb2 zk_cX12_sayPrefixed zn_cX12_sayPrefixed rfl)
theorem dX12_sayPrefixed_203 : decode cX12_sayPrefixed 203 = .ok (.iconst 2, 1) := zo_5 (zkb zk_cX12_sayPrefixed zn_cX12_sayPrefixed rfl)
theorem dX12_sayPrefixed_204 : decode cX12_sayPrefixed 204 = .ok (.if_icmp .ne 14, 3) := zo_160 (b1 := 0) (b2 := 14) (zkb3 zk_cX12_sayPrefixed zn_cX12_sayPrefixed rfl) rfl
theorem dX12_sayPrefixed_207 : decode cX12_sayPrefixed 207 = .ok (.iload 4, 2) := zo_21 (b1 := 4) (zkb2 zk_cX12_sayPrefixed zn_cX12_sayPrefixed rfl)
theorem dX12_sayPrefixed_209 : decode cX12_sayPrefixed 209 = .ok (.bipush 6, 2) := zo_16 (b1 := 6) (zkb2 zk_cX12_sayPrefixed zn_cX12_sayPrefixed rfl) rfl
theorem dX12_sayPrefixed_211 : decode cX12_sayPrefixed 211 = .ok (.if_icmp .ne 7, 3) := zo_160 (b1 := 0) (b2 := 7) (zkb3 zk_cX12_sayPrefixed zn_cX12_sayPrefixed rfl) rfl
theorem dX12_sayPrefixed_214 : decode cX12_sayPrefixed 214 = .ok (.iconst 1, 1) := zo_4 (zkb zk_cX12_sayPrefixed zn_cX12_sayPrefixed rfl)
theorem dX12_sayPrefixed_215 : decode cX12_sayPrefixed 215 = .ok (.goto 4, 3) := zo_167 (b1 := 0) (b2 := 4) (zkb3 zk_cX12_sayPrefixed zn_cX12_sayPrefixed rfl) rfl
theorem dX12_sayPrefixed_218 : decode cX12_sayPrefixed 218 = .ok (.iconst 0, 1) := zo_3 (zkb zk_cX12_sayPrefixed zn_cX12_sayPrefixed rfl)
theorem dX12_sayPrefixed_219 : decode cX12_sayPrefixed 219 = .ok (.putfield 563, 3) := zo_181 (b1 := 2) (b2 := 51) (zkb3 zk_cX12_sayPrefixed zn_cX12_sayPrefixed rfl) rfl
theorem dX12_sayPrefixed_222 : decode cX12_sayPrefixed 222 = .ok (.aload_n 0, 1) := zo_42 (zkb zk_cX12_sayPrefixed zn_cX12_sayPrefixed rfl)
theorem dX12_sayPrefixed_223 : decode cX12_sayPrefixed 223 = .ok (.getfield 563, 3) := zo_180 (b1 := 2) (b2 := 51) (zkb3 zk_cX12_sayPrefixed zn_cX12_sayPrefixed rfl) rfl
theorem dX12_sayPrefixed_226 : decode cX12_sayPrefixed 226 = .ok (.ifCond .eq 14, 3) := zo_153 (b1 := 0) (b2 := 14) (zkb3 zk_cX12_sayPrefixed zn_cX12_sayPrefixed rfl) rfl
theorem dX12_sayPrefixed_229 : decode cX12_sayPrefixed 229 = .ok (.aload_n 0, 1) := zo_42 (zkb zk_cX12_sayPrefixed zn_cX12_sayPrefixed rfl)
theorem dX12_sayPrefixed_230 : decode cX12_sayPrefixed 230 = .ok (.aload_n 0, 1) := zo_42 (zkb zk_cX12_sayPrefixed zn_cX12_sayPrefixed rfl)
theorem dX12_sayPrefixed_231 : decode cX12_sayPrefixed 231 = .ok (.invokevirtual 548, 3) := zo_182 (b1 := 2) (b2 := 36) (zkb3 zk_cX12_sayPrefixed zn_cX12_sayPrefixed rfl) rfl
theorem dX12_sayPrefixed_234 : decode cX12_sayPrefixed 234 = .ok (.invokestatic 247, 3) := zo_184 (b1 := 0) (b2 := 247) (zkb3 zk_cX12_sayPrefixed zn_cX12_sayPrefixed rfl) rfl
theorem dX12_sayPrefixed_237 : decode cX12_sayPrefixed 237 = .ok (.putfield 572, 3) := zo_181 (b1 := 2) (b2 := 60) (zkb3 zk_cX12_sayPrefixed zn_cX12_sayPrefixed rfl) rfl
theorem dX12_sayPrefixed_240 : decode cX12_sayPrefixed 240 = .ok (.aload_n 0, 1) := zo_42 (zkb zk_cX12_sayPrefixed zn_cX12_sayPrefixed rfl)
theorem dX12_sayPrefixed_241 : decode cX12_sayPrefixed 241 = .ok (.iload_n 2, 1) := zo_28 (zkb zk_cX12_sayPrefixed zn_cX12_sayPrefixed rfl)
theorem dX12_sayPrefixed_242 : decode cX12_sayPrefixed 242 = .ok (.invokevirtual 652, 3) := zo_182 (b1 := 2) (b2 := 140) (zkb3 zk_cX12_sayPrefixed zn_cX12_sayPrefixed rfl) rfl
theorem dX12_sayPrefixed_245 : decode cX12_sayPrefixed 245 = .ok (.return_, 1) := zo_177 (zkb zk_cX12_sayPrefixed zn_cX12_sayPrefixed rfl)
noncomputable def kn_cX12_sayTurn : Nat := 0xb19302b67e07101b2a2f02b69102132a4302b6041c2a2f02b6aa02130600a7a802130900a2c000111b1300a7a602130900a28000111b2a3100a72f02b6a402130600a7a202130900a006101c1200a7a002130900a0081c1d00a79e02130900a0071c2800a79c02130900a0061c3300a79a02130900a0051c3e00a79802130900a0041c4900a796021309009a1c2a5a00a240101b3d7e07107a061b
theorem zk_cX12_sayTurn : zkd cX12_sayTurn.data.toList kn_cX12_sayTurn = true := by decide +kernel
theorem zn_cX12_sayTurn : cX12_sayTurn.data.toList.length = 155 := by decide +kernel
theorem dX12_sayTurn_0 : decode cX12_sayTurn 0 = .ok (.iload_n 1, 1) := zo_27 (zkb zk_cX12_sayTurn zn_cX12_sayTurn rfl)
theorem dX12_sayTurn_1 : decode cX12_sayTurn 1 = .ok (.iconst 3, 1) := zo_6 (zkb zk_cX12_sayTurn zn_cX12_sayTurn rfl)
theorem dX12_sayTurn_2 : decode cX12_sayTurn 2 = .ok (.ishr, 1) := zo_122 (zkb zk_cX12_sayTurn zn_cX12_sayTurn rfl)
theorem dX12_sayTurn_3 : decode cX12_sayTurn 3 = .ok (.bipush 7, 2) := zo_16 (b1 := 7) (zkb2 zk_cX12_sayTurn zn_cX12_sayTurn rfl) rfl
theorem dX12_sayTurn_5 : decode cX12_sayTurn 5 = .ok (.iand, 1) := zo_126 (zkb zk_cX12_sayTurn zn_cX12_sayTurn rfl)
theorem dX12_sayTurn_6 : decode cX12_sayTurn 6 = .ok (.istore_n 2, 1) := zo_61 (zkb zk_cX12_sayTurn zn_cX12_sayTurn rfl)
theorem dX12_sayTurn_7 : decode cX12_sayTurn 7 = .ok (.iload_n 1, 1) := zo_27 (zkb zk_cX12_sayTurn zn_cX12_sayTurn rfl)
theorem dX12_sayTurn_8 : decode cX12_sayTurn 8 = .ok (.bipush 64, 2) := zo_16 (b1 := 64) (zkb2 zk_cX12_sayTurn zn_cX12_sayTurn rfl) rfl
theorem dX12_sayTurn_10 : decode cX12_sayTurn 10 = .ok (.if_icmp .ge 90, 3) := zo_162 (b1 := 0) (b2 := 90) (zkb3 zk_cX12_sayTurn zn_cX12_sayTurn rfl) rfl
theorem dX12_sayTurn_13 : decode cX12_sayTurn 13 = .ok (.aload_n 0, 1) := zo_42 (zkb zk_cX12_sayTurn zn_cX12_sayTurn rfl)
theorem dX12_sayTurn_14 : decode cX12_sayTurn 14 = .ok (.iload_n 2, 1) := zo_28 (zkb zk_cX12_sayTurn zn_cX12_sayTurn rfl)
theorem dX12_sayTurn_15 : decode cX12_sayTurn 15 = .ok (.ifCond .ne 9, 3) := zo_154 (b1 := 0) (b2 := 9) (zkb3 zk_cX12_sayTurn zn_cX12_sayTurn rfl) rfl
theorem dX12_sayTurn_18 : decode cX12_sayTurn 18 = .ok (.ldc_w 662, 3) := zo_19 (b1 := 2) (b2 := 150) (zkb3 zk_cX12_sayTurn zn_cX12_sayTurn rfl) rfl
theorem dX12_sayTurn_21 : decode cX12_sayTurn 21 = .ok (.goto 73, 3) := zo_167 (b1 := 0) (b2 := 73) (zkb3 zk_cX12_sayTurn zn_cX12_sayTurn rfl) rfl
theorem dX12_sayTurn_24 : decode cX12_sayTurn 24 = .ok (.iload_n 2, 1) := zo_28 (zkb zk_cX12_sayTurn zn_cX12_sayTurn rfl)
theorem dX12_sayTurn_25 : decode cX12_sayTurn 25 = .ok (.iconst 1, 1) := zo_4 (zkb zk_cX12_sayTurn zn_cX12_sayTurn rfl)
theorem dX12_sayTurn_26 : decode cX12_sayTurn 26 = .ok (.if_icmp .ne 9, 3) := zo_160 (b1 := 0) (b2 := 9) (zkb3 zk_cX12_sayTurn zn_cX12_sayTurn rfl) rfl
theorem dX12_sayTurn_29 : decode cX12_sayTurn 29 = .ok (.ldc_w 664, 3) := zo_19 (b1 := 2) (b2 := 152) (zkb3 zk_cX12_sayTurn zn_cX12_sayTurn rfl) rfl
theorem dX12_sayTurn_32 : decode cX12_sayTurn 32 = .ok (.goto 62, 3) := zo_167 (b1 := 0) (b2 := 62) (zkb3 zk_cX12_sayTurn zn_cX12_sayTurn rfl) rfl
theorem dX12_sayTurn_35 : decode cX12_sayTurn 35 = .ok (.iload_n 2, 1) := zo_28 (zkb zk_cX12_sayTurn zn_cX12_sayTurn rfl)
theorem dX12_sayTurn_36 : decode cX12_sayTurn 36 = .ok (.iconst 2, 1) := zo_5 (zkb zk_cX12_sayTurn zn_cX12_sayTurn rfl)
theorem dX12_sayTurn_37 : decode cX12_sayTurn 37 = .ok (.if_icmp .ne 9, 3) := zo_160 (b1 := 0) (b2 := 9) (zkb3 zk_cX12_sayTurn zn_cX12_sayTurn rfl) rfl
theorem dX12_sayTurn_40 : decode cX12_sayTurn 40 = .ok (.ldc_w 666, 3) := zo_19 (b1 := 2) (b2 := 154) (zkb3 zk_cX12_sayTurn zn_cX12_sayTurn rfl) rfl
theorem dX12_sayTurn_43 : decode cX12_sayTurn 43 = .ok (.goto 51, 3) := zo_167 (b1 := 0) (b2 := 51) (zkb3 zk_cX12_sayTurn zn_cX12_sayTurn rfl) rfl
theorem dX12_sayTurn_46 : decode cX12_sayTurn 46 = .ok (.iload_n 2, 1) := zo_28 (zkb zk_cX12_sayTurn zn_cX12_sayTurn rfl)
theorem dX12_sayTurn_47 : decode cX12_sayTurn 47 = .ok (.iconst 3, 1) := zo_6 (zkb zk_cX12_sayTurn zn_cX12_sayTurn rfl)
theorem dX12_sayTurn_48 : decode cX12_sayTurn 48 = .ok (.if_icmp .ne 9, 3) := zo_160 (b1 := 0) (b2 := 9) (zkb3 zk_cX12_sayTurn zn_cX12_sayTurn rfl) rfl
theorem dX12_sayTurn_51 : decode cX12_sayTurn 51 = .ok (.ldc_w 668, 3) := zo_19 (b1 := 2) (b2 := 156) (zkb3 zk_cX12_sayTurn zn_cX12_sayTurn rfl) rfl
theorem dX12_sayTurn_54 : decode cX12_sayTurn 54 = .ok (.goto 40, 3) := zo_167 (b1 := 0) (b2 := 40) (zkb3 zk_cX12_sayTurn zn_cX12_sayTurn rfl) rfl
theorem dX12_sayTurn_57 : decode cX12_sayTurn 57 = .ok (.iload_n 2, 1) := zo_28 (zkb zk_cX12_sayTurn zn_cX12_sayTurn rfl)
theorem dX12_sayTurn_58 : decode cX12_sayTurn 58 = .ok (.iconst 4, 1) := zo_7 (zkb zk_cX12_sayTurn zn_cX12_sayTurn rfl)
theorem dX12_sayTurn_59 : decode cX12_sayTurn 59 = .ok (.if_icmp .ne 9, 3) := zo_160 (b1 := 0) (b2 := 9) (zkb3 zk_cX12_sayTurn zn_cX12_sayTurn rfl) rfl
theorem dX12_sayTurn_62 : decode cX12_sayTurn 62 = .ok (.ldc_w 670, 3) := zo_19 (b1 := 2) (b2 := 158) (zkb3 zk_cX12_sayTurn zn_cX12_sayTurn rfl) rfl
theorem dX12_sayTurn_65 : decode cX12_sayTurn 65 = .ok (.goto 29, 3) := zo_167 (b1 := 0) (b2 := 29) (zkb3 zk_cX12_sayTurn zn_cX12_sayTurn rfl) rfl
theorem dX12_sayTurn_68 : decode cX12_sayTurn 68 = .ok (.iload_n 2, 1) := zo_28 (zkb zk_cX12_sayTurn zn_cX12_sayTurn rfl)
theorem dX12_sayTurn_69 : decode cX12_sayTurn 69 = .ok (.iconst 5, 1) := zo_8 (zkb zk_cX12_sayTurn zn_cX12_sayTurn rfl)
theorem dX12_sayTurn_70 : decode cX12_sayTurn 70 = .ok (.if_icmp .ne 9, 3) := zo_160 (b1 := 0) (b2 := 9) (zkb3 zk_cX12_sayTurn zn_cX12_sayTurn rfl) rfl
theorem dX12_sayTurn_73 : decode cX12_sayTurn 73 = .ok (.ldc_w 672, 3) := zo_19 (b1 := 2) (b2 := 160) (zkb3 zk_cX12_sayTurn zn_cX12_sayTurn rfl) rfl
theorem dX12_sayTurn_76 : decode cX12_sayTurn 76 = .ok (.goto 18, 3) := zo_167 (b1 := 0) (b2 := 18) (zkb3 zk_cX12_sayTurn zn_cX12_sayTurn rfl) rfl
theorem dX12_sayTurn_79 : decode cX12_sayTurn 79 = .ok (.iload_n 2, 1) := zo_28 (zkb zk_cX12_sayTurn zn_cX12_sayTurn rfl)
theorem dX12_sayTurn_80 : decode cX12_sayTurn 80 = .ok (.bipush 6, 2) := zo_16 (b1 := 6) (zkb2 zk_cX12_sayTurn zn_cX12_sayTurn rfl) rfl
theorem dX12_sayTurn_82 : decode cX12_sayTurn 82 = .ok (.if_icmp .ne 9, 3) := zo_160 (b1 := 0) (b2 := 9) (zkb3 zk_cX12_sayTurn zn_cX12_sayTurn rfl) rfl
theorem dX12_sayTurn_85 : decode cX12_sayTurn 85 = .ok (.ldc_w 674, 3) := zo_19 (b1 := 2) (b2 := 162) (zkb3 zk_cX12_sayTurn zn_cX12_sayTurn rfl) rfl
theorem dX12_sayTurn_88 : decode cX12_sayTurn 88 = .ok (.goto 6, 3) := zo_167 (b1 := 0) (b2 := 6) (zkb3 zk_cX12_sayTurn zn_cX12_sayTurn rfl) rfl
theorem dX12_sayTurn_91 : decode cX12_sayTurn 91 = .ok (.ldc_w 676, 3) := zo_19 (b1 := 2) (b2 := 164) (zkb3 zk_cX12_sayTurn zn_cX12_sayTurn rfl) rfl
theorem dX12_sayTurn_94 : decode cX12_sayTurn 94 = .ok (.invokevirtual 559, 3) := zo_182 (b1 := 2) (b2 := 47) (zkb3 zk_cX12_sayTurn zn_cX12_sayTurn rfl) rfl
theorem dX12_sayTurn_97 : decode cX12_sayTurn 97 = .ok (.goto 49, 3) := zo_167 (b1 := 0) (b2 := 49) (zkb3 zk_cX12_sayTurn zn_cX12_sayTurn rfl) rfl
theorem dX12_sayTurn_100 : decode cX12_sayTurn 100 = .ok (.aload_n 0, 1) := zo_42 (zkb zk_cX12_sayTurn zn_cX12_sayTurn rfl)
theorem dX12_sayTurn_101 : decode cX12_sayTurn 101 = .ok (.iload_n 1, 1) := zo_27 (zkb zk_cX12_sayTurn zn_cX12_sayTurn rfl)
theorem dX12_sayTurn_102 : decode cX12_sayTurn 102 = .ok (.sipush 128, 3) := zo_17 (b1 := 0) (b2 := 128) (zkb3 zk_cX12_sayTurn zn_cX12_sayTurn rfl) rfl
theorem dX12_sayTurn_105 : decode cX12_sayTurn 105 = .ok (.if_icmp .ge 9, 3) := zo_162 (b1 := 0) (b2 := 9) (zkb3 zk_cX12_sayTurn zn_cX12_sayTurn rfl) rfl
theorem dX12_sayTurn_108 : decode cX12_sayTurn 108 = .ok (.ldc_w 678, 3) := zo_19 (b1 := 2) (b2 := 166) (zkb3 zk_cX12_sayTurn zn_cX12_sayTurn rfl) rfl
theorem dX12_sayTurn_111 : decode cX12_sayTurn 111 = .ok (.goto 19, 3) := zo_167 (b1 := 0) (b2 := 19) (zkb3 zk_cX12_sayTurn zn_cX12_sayTurn rfl) rfl
theorem dX12_sayTurn_114 : decode cX12_sayTurn 114 = .ok (.iload_n 1, 1) := zo_27 (zkb zk_cX12_sayTurn zn_cX12_sayTurn rfl)
theorem dX12_sayTurn_115 : decode cX12_sayTurn 115 = .ok (.sipush 192, 3) := zo_17 (b1 := 0) (b2 := 192) (zkb3 zk_cX12_sayTurn zn_cX12_sayTurn rfl) rfl
theorem dX12_sayTurn_118 : decode cX12_sayTurn 118 = .ok (.if_icmp .ge 9, 3) := zo_162 (b1 := 0) (b2 := 9) (zkb3 zk_cX12_sayTurn zn_cX12_sayTurn rfl) rfl
theorem dX12_sayTurn_121 : decode cX12_sayTurn 121 = .ok (.ldc_w 680, 3) := zo_19 (b1 := 2) (b2 := 168) (zkb3 zk_cX12_sayTurn zn_cX12_sayTurn rfl) rfl
theorem dX12_sayTurn_124 : decode cX12_sayTurn 124 = .ok (.goto 6, 3) := zo_167 (b1 := 0) (b2 := 6) (zkb3 zk_cX12_sayTurn zn_cX12_sayTurn rfl) rfl
theorem dX12_sayTurn_127 : decode cX12_sayTurn 127 = .ok (.ldc_w 682, 3) := zo_19 (b1 := 2) (b2 := 170) (zkb3 zk_cX12_sayTurn zn_cX12_sayTurn rfl) rfl
theorem dX12_sayTurn_130 : decode cX12_sayTurn 130 = .ok (.invokevirtual 559, 3) := zo_182 (b1 := 2) (b2 := 47) (zkb3 zk_cX12_sayTurn zn_cX12_sayTurn rfl) rfl
theorem dX12_sayTurn_133 : decode cX12_sayTurn 133 = .ok (.aload_n 0, 1) := zo_42 (zkb zk_cX12_sayTurn zn_cX12_sayTurn rfl)
theorem dX12_sayTurn_134 : decode cX12_sayTurn 134 = .ok (.iload_n 2, 1) := zo_28 (zkb zk_cX12_sayTurn zn_cX12_sayTurn rfl)
theorem dX12_sayTurn_135 : decode cX12_sayTurn 135 = .ok (.iconst 1, 1) := zo_4 (zkb zk_cX12_sayTurn zn_cX12_sayTurn rfl)
theorem dX12_sayTurn_136 : decode cX12_sayTurn 136 = .ok (.invokevirtual 579, 3) := zo_182 (b1 := 2) (b2 := 67) (zkb3 zk_cX12_sayTurn zn_cX12_sayTurn rfl) rfl
theorem dX12_sayTurn_139 : decode cX12_sayTurn 139 = .ok (.aload_n 0, 1) := zo_42 (zkb zk_cX12_sayTurn zn_cX12_sayTurn rfl)
theorem dX12_sayTurn_140 : decode cX12_sayTurn 140 = .ok (.ldc_w 657, 3) := zo_19 (b1 := 2) (b2 := 145) (zkb3 zk_cX12_sayTurn zn_cX12_sayTurn rfl) rfl
theorem dX12_sayTurn_143 : decode cX12_sayTurn 143 = .ok (.invokevirtual 559, 3) := zo_182 (b1 := 2) (b2 := 47) (zkb3 zk_cX12_sayTurn zn_cX12_sayTurn rfl) rfl
theorem dX12_sayTurn_146 : decode cX12_sayTurn 146 = .ok (.aload_n 0, 1) := zo_42 (zkb zk_cX12_sayTurn zn_cX12_sayTurn rfl)
theorem dX12_sayTurn_147 : decode cX12_sayTurn 147 = .ok (.iload_n 1, 1) := zo_27 (zkb zk_cX12_sayTurn zn_cX12_sayTurn rfl)
theorem dX12_sayTurn_148 : decode cX12_sayTurn 148 = .ok (.bipush 7, 2) := zo_16 (b1 := 7) (zkb2 zk_cX12_sayTurn zn_cX12_sayTurn rfl) rfl
theorem dX12_sayTurn_150 : decode cX12_sayTurn 150 = .ok (.iand, 1) := zo_126 (zkb zk_cX12_sayTurn zn_cX12_sayTurn rfl)
theorem dX12_sayTurn_151 : decode cX12_sayTurn 151 = .ok (.invokevirtual 659, 3) := zo_182 (b1 := 2) (b2 := 147) (zkb3 zk_cX12_sayTurn zn_cX12_sayTurn rfl) rfl
theorem dX12_sayTurn_154 : decode cX12_sayTurn 154 = .ok (.return_, 1) := zo_177 (zkb zk_cX12_sayTurn zn_cX12_sayTurn rfl)
noncomputable def kn_cX12_sayPlain : Nat := 0xb1bc02b61d1c2a0900a7b902b61d1c2a0c00a2071d1700a79302b61d2ab602b61c2a1000a2c000111b2b00a79302b61d2a2f02b69102132a9302b61c2a2f02b6b402132a1e00a28000111b4d00a72f02b6b202132a0d00a076101b5d00a7af02b61d1c2a0c00a240101b6c00a7ac02b61d1c2a0c00a2071d1100a240101b3e7e07101b3d7e07107a061b
theorem zk_cX12_sayPlain : zkd cX12_sayPlain.data.toList kn_cX12_sayPlain = true := by decide +kernel
theorem zn_cX12_sayPlain : cX12_sayPlain.data.toList.length = 138 := by decide +kernel
theorem dX12_sayPlain_0 : decode cX12_sayPlain 0 = .ok (.iload_n 1, 1) := zo_27 (zkb zk_cX12_sayPlain zn_cX12_sayPlain rfl)
theorem dX12_sayPlain_1 : decode cX12_sayPlain 1 = .ok (.iconst 3, 1) := zo_6 (zkb zk_cX12_sayPlain zn_cX12_sayPlain rfl)
theorem dX12_sayPlain_2 : decode cX12_sayPlain 2 = .ok (.ishr, 1) := zo_122 (zkb zk_cX12_sayPlain zn_cX12_sayPlain rfl)
theorem dX12_sayPlain_3 : decode cX12_sayPlain 3 = .ok (.bipush 7, 2) := zo_16 (b1 := 7) (zkb2 zk_cX12_sayPlain zn_cX12_sayPlain rfl) rfl
theorem dX12_sayPlain_5 : decode cX12_sayPlain 5 = .ok (.iand, 1) := zo_126 (zkb zk_cX12_sayPlain zn_cX12_sayPlain rfl)
theorem dX12_sayPlain_6 : decode cX12_sayPlain 6 = .ok (.istore_n 2, 1) := zo_61 (zkb zk_cX12_sayPlain zn_cX12_sayPlain rfl)
theorem dX12_sayPlain_7 : decode cX12_sayPlain 7 = .ok (.iload_n 1, 1) := zo_27 (zkb zk_cX12_sayPlain zn_cX12_sayPlain rfl)
theorem dX12_sayPlain_8 : decode cX12_sayPlain 8 = .ok (.bipush 7, 2) := zo_16 (b1 := 7) (zkb2 zk_cX12_sayPlain zn_cX12_sayPlain rfl) rfl
theorem dX12_sayPlain_10 : decode cX12_sayPlain 10 = .ok (.iand, 1) := zo_126 (zkb zk_cX12_sayPlain zn_cX12_sayPlain rfl)
theorem dX12_sayPlain_11 : decode cX12_sayPlain 11 = .ok (.istore_n 3, 1) := zo_62 (zkb zk_cX12_sayPlain zn_cX12_sayPlain rfl)
theorem dX12_sayPlain_12 : decode cX12_sayPlain 12 = .ok (.iload_n 1, 1) := zo_27 (zkb zk_cX12_sayPlain zn_cX12_sayPlain rfl)
theorem dX12_sayPlain_13 : decode cX12_sayPlain 13 = .ok (.bipush 64, 2) := zo_16 (b1 := 64) (zkb2 zk_cX12_sayPlain zn_cX12_sayPlain rfl) rfl
theorem dX12_sayPlain_15 : decode cX12_sayPlain 15 = .ok (.if_icmp .ge 17, 3) := zo_162 (b1 := 0) (b2 := 17) (zkb3 zk_cX12_sayPlain zn_cX12_sayPlain rfl) rfl
theorem dX12_sayPlain_18 : decode cX12_sayPlain 18 = .ok (.iload_n 3, 1) := zo_29 (zkb zk_cX12_sayPlain zn_cX12_sayPlain rfl)
theorem dX12_sayPlain_19 : decode cX12_sayPlain 19 = .ok (.iconst 4, 1) := zo_7 (zkb zk_cX12_sayPlain zn_cX12_sayPlain rfl)
theorem dX12_sayPlain_20 : decode cX12_sayPlain 20 = .ok (.if_icmp .ge 12, 3) := zo_162 (b1 := 0) (b2 := 12) (zkb3 zk_cX12_sayPlain zn_cX12_sayPlain rfl) rfl
theorem dX12_sayPlain_23 : decode cX12_sayPlain 23 = .ok (.aload_n 0, 1) := zo_42 (zkb zk_cX12_sayPlain zn_cX12_sayPlain rfl)
theorem dX12_sayPlain_24 : decode cX12_sayPlain 24 = .ok (.iload_n 2, 1) := zo_28 (zkb zk_cX12_sayPlain zn_cX12_sayPlain rfl)
theorem dX12_sayPlain_25 : decode cX12_sayPlain 25 = .ok (.iload_n 3, 1) := zo_29 (zkb zk_cX12_sayPlain zn_cX12_sayPlain rfl)
theorem dX12_sayPlain_26 : decode cX12_sayPlain 26 = .ok (.invokevirtual 684, 3) := zo_182 (b1 := 2) (b2 := 172) (zkb3 zk_cX12_sayPlain zn_cX12_sayPlain rfl) rfl
theorem dX12_sayPlain_29 : decode cX12_sayPlain 29 = .ok (.goto 108, 3) := zo_167 (b1 := 0) (b2 := 108) (zkb3 zk_cX12_sayPlain zn_cX12_sayPlain rfl) rfl
theorem dX12_sayPlain_32 : decode cX12_sayPlain 32 = .ok (.iload_n 1, 1) := zo_27 (zkb zk_cX12_sayPlain zn_cX12_sayPlain rfl)
theorem dX12_sayPlain_33 : decode cX12_sayPlain 33 = .ok (.bipush 64, 2) := zo_16 (b1 := 64) (zkb2 zk_cX12_sayPlain zn_cX12_sayPlain rfl) rfl
theorem dX12_sayPlain_35 : decode cX12_sayPlain 35 = .ok (.if_icmp .ge 12, 3) := zo_162 (b1 := 0) (b2 := 12) (zkb3 zk_cX12_sayPlain zn_cX12_sayPlain rfl) rfl
theorem dX12_sayPlain_38 : decode cX12_sayPlain 38 = .ok (.aload_n 0, 1) := zo_42 (zkb zk_cX12_sayPlain zn_cX12_sayPlain rfl)
theorem dX12_sayPlain_39 : decode cX12_sayPlain 39 = .ok (.iload_n 2, 1) := zo_28 (zkb zk_cX12_sayPlain zn_cX12_sayPlain rfl)
theorem dX12_sayPlain_40 : decode cX12_sayPlain 40 = .ok (.iload_n 3, 1) := zo_29 (zkb zk_cX12_sayPlain zn_cX12_sayPlain rfl)
theorem dX12_sayPlain_41 : decode cX12_sayPlain 41 = .ok (.invokevirtual 687, 3) := zo_182 (b1 := 2) (b2 := 175) (zkb3 zk_cX12_sayPlain zn_cX12_sayPlain rfl) rfl
theorem dX12_sayPlain_44 : decode cX12_sayPlain 44 = .ok (.goto 93, 3) := zo_167 (b1 := 0) (b2 := 93) (zkb3 zk_cX12_sayPlain zn_cX12_sayPlain rfl) rfl
theorem dX12_sayPlain_47 : decode cX12_sayPlain 47 = .ok (.iload_n 1, 1) := zo_27 (zkb zk_cX12_sayPlain zn_cX12_sayPlain rfl)
theorem dX12_sayPlain_48 : decode cX12_sayPlain 48 = .ok (.bipush 118, 2) := zo_16 (b1 := 118) (zkb2 zk_cX12_sayPlain zn_cX12_sayPlain rfl) rfl
theorem dX12_sayPlain_50 : decode cX12_sayPlain 50 = .ok (.if_icmp .ne 13, 3) := zo_160 (b1 := 0) (b2 := 13) (zkb3 zk_cX12_sayPlain zn_cX12_sayPlain rfl) rfl
theorem dX12_sayPlain_53 : decode cX12_sayPlain 53 = .ok (.aload_n 0, 1) := zo_42 (zkb zk_cX12_sayPlain zn_cX12_sayPlain rfl)
theorem dX12_sayPlain_54 : decode cX12_sayPlain 54 = .ok (.ldc_w 690, 3) := zo_19 (b1 := 2) (b2 := 178) (zkb3 zk_cX12_sayPlain zn_cX12_sayPlain rfl) rfl
theorem dX12_sayPlain_57 : decode cX12_sayPlain 57 = .ok (.invokevirtual 559, 3) := zo_182 (b1 := 2) (b2 := 47) (zkb3 zk_cX12_sayPlain zn_cX12_sayPlain rfl) rfl
theorem dX12_sayPlain_60 : decode cX12_sayPlain 60 = .ok (.goto 77, 3) := zo_167 (b1 := 0) (b2 := 77) (zkb3 zk_cX12_sayPlain zn_cX12_sayPlain rfl) rfl
theorem dX12_sayPlain_63 : decode cX12_sayPlain 63 = .ok (.iload_n 1, 1) := zo_27 (zkb zk_cX12_sayPlain zn_cX12_sayPlain rfl)
theorem dX12_sayPlain_64 : decode cX12_sayPlain 64 = .ok (.sipush 128, 3) := zo_17 (b1 := 0) (b2 := 128) (zkb3 zk_cX12_sayPlain zn_cX12_sayPlain rfl) rfl
theorem dX12_sayPlain_67 : decode cX12_sayPlain 67 = .ok (.if_icmp .ge 30, 3) := zo_162 (b1 := 0) (b2 := 30) (zkb3 zk_cX12_sayPlain zn_cX12_sayPlain rfl) rfl
theorem dX12_sayPlain_70 : decode cX12_sayPlain 70 = .ok (.aload_n 0, 1) := zo_42 (zkb zk_cX12_sayPlain zn_cX12_sayPlain rfl)
theorem dX12_sayPlain_71 : decode cX12_sayPlain 71 = .ok (.ldc_w 692, 3) := zo_19 (b1 := 2) (b2 := 180) (zkb3 zk_cX12_sayPlain zn_cX12_sayPlain rfl) rfl
theorem dX12_sayPlain_74 : decode cX12_sayPlain 74 = .ok (.invokevirtual 559, 3) := zo_182 (b1 := 2) (b2 := 47) (zkb3 zk_cX12_sayPlain zn_cX12_sayPlain rfl) rfl
theorem dX12_sayPlain_77 : decode cX12_sayPlain 77 = .ok (.aload_n 0, 1) := zo_42 (zkb zk_cX12_sayPlain zn_cX12_sayPlain rfl)
theorem dX12_sayPlain_78 : decode cX12_sayPlain 78 = .ok (.iload_n 2, 1) := zo_28 (zkb zk_cX12_sayPlain zn_cX12_sayPlain rfl)
theorem dX12_sayPlain_79 : decode cX12_sayPlain 79 = .ok (.invokevirtual 659, 3) := zo_182 (b1 := 2) (b2 := 147) (zkb3 zk_cX12_sayPlain zn_cX12_sayPlain rfl) rfl
theorem dX12_sayPlain_82 : decode cX12_sayPlain 82 = .ok (.aload_n 0, 1) := zo_42 (zkb zk_cX12_sayPlain zn_cX12_sayPlain rfl)
theorem dX12_sayPlain_83 : decode cX12_sayPlain 83 = .ok (.ldc_w 657, 3) := zo_19 (b1 := 2) (b2 := 145) (zkb3 zk_cX12_sayPlain zn_cX12_sayPlain rfl) rfl
theorem dX12_sayPlain_86 : decode cX12_sayPlain 86 = .ok (.invokevirtual 559, 3) := zo_182 (b1 := 2) (b2 := 47) (zkb3 zk_cX12_sayPlain zn_cX12_sayPlain rfl) rfl
theorem dX12_sayPlain_89 : decode cX12_sayPlain 89 = .ok (.aload_n 0, 1) := zo_42 (zkb zk_cX12_sayPlain zn_cX12_sayPlain rfl)
theorem dX12_sayPlain_90 : decode cX12_sayPlain 90 = .ok (.iload_n 3, 1) := zo_29 (zkb zk_cX12_sayPlain zn_cX12_sayPlain rfl)
theorem dX12_sayPlain_91 : decode cX12_sayPlain 91 = .ok (.invokevirtual 659, 3) := zo_182 (b1 := 2) (b2 := 147) (zkb3 zk_cX12_sayPlain zn_cX12_sayPlain rfl) rfl
theorem dX12_sayPlain_94 : decode cX12_sayPlain 94 = .ok (.goto 43, 3) := zo_167 (b1 := 0) (b2 := 43) (zkb3 zk_cX12_sayPlain zn_cX12_sayPlain rfl) rfl
theorem dX12_sayPlain_97 : decode cX12_sayPlain 97 = .ok (.iload_n 1, 1) := zo_27 (zkb zk_cX12_sayPlain zn_cX12_sayPlain rfl)
theorem dX12_sayPlain_98 : decode cX12_sayPlain 98 = .ok (.sipush 192, 3) := zo_17 (b1 := 0) (b2 := 192) (zkb3 zk_cX12_sayPlain zn_cX12_sayPlain rfl) rfl
theorem dX12_sayPlain_101 : decode cX12_sayPlain 101 = .ok (.if_icmp .ge 16, 3) := zo_162 (b1 := 0) (b2 := 16) (zkb3 zk_cX12_sayPlain zn_cX12_sayPlain rfl) rfl
theorem dX12_sayPlain_104 : decode cX12_sayPlain 104 = .ok (.aload_n 0, 1) := zo_42 (zkb zk_cX12_sayPlain zn_cX12_sayPlain rfl)
theorem dX12_sayPlain_105 : decode cX12_sayPlain 105 = .ok (.iload_n 2, 1) := zo_28 (zkb zk_cX12_sayPlain zn_cX12_sayPlain rfl)
theorem dX12_sayPlain_106 : decode cX12_sayPlain 106 = .ok (.invokevirtual 694, 3) := zo_182 (b1 := 2) (b2 := 182) (zkb3 zk_cX12_sayPlain zn_cX12_sayPlain rfl) rfl
theorem dX12_sayPlain_109 : decode cX12_sayPlain 109 = .ok (.aload_n 0, 1) := zo_42 (zkb zk_cX12_sayPlain zn_cX12_sayPlain rfl)
theorem dX12_sayPlain_110 : decode cX12_sayPlain 110 = .ok (.iload_n 3, 1) := zo_29 (zkb zk_cX12_sayPlain zn_cX12_sayPlain rfl)
theorem dX12_sayPlain_111 : decode cX12_sayPlain 111 = .ok (.invokevirtual 659, 3) := zo_182 (b1 := 2) (b2 := 147) (zkb3 zk_cX12_sayPlain zn_cX12_sayPlain rfl) rfl
theorem dX12_sayPlain_114 : decode cX12_sayPlain 114 = .ok (.goto 23, 3) := zo_167 (b1 := 0) (b2 := 23) (zkb3 zk_cX12_sayPlain zn_cX12_sayPlain rfl) rfl
theorem dX12_sayPlain_117 : decode cX12_sayPlain 117 = .ok (.iload_n 3, 1) := zo_29 (zkb zk_cX12_sayPlain zn_cX12_sayPlain rfl)
theorem dX12_sayPlain_118 : decode cX12_sayPlain 118 = .ok (.iconst 4, 1) := zo_7 (zkb zk_cX12_sayPlain zn_cX12_sayPlain rfl)
theorem dX12_sayPlain_119 : decode cX12_sayPlain 119 = .ok (.if_icmp .ge 12, 3) := zo_162 (b1 := 0) (b2 := 12) (zkb3 zk_cX12_sayPlain zn_cX12_sayPlain rfl) rfl
theorem dX12_sayPlain_122 : decode cX12_sayPlain 122 = .ok (.aload_n 0, 1) := zo_42 (zkb zk_cX12_sayPlain zn_cX12_sayPlain rfl)
theorem dX12_sayPlain_123 : decode cX12_sayPlain 123 = .ok (.iload_n 2, 1) := zo_28 (zkb zk_cX12_sayPlain zn_cX12_sayPlain rfl)
theorem dX12_sayPlain_124 : decode cX12_sayPlain 124 = .ok (.iload_n 3, 1) := zo_29 (zkb zk_cX12_sayPlain zn_cX12_sayPlain rfl)
theorem dX12_sayPlain_125 : decode cX12_sayPlain 125 = .ok (.invokevirtual 697, 3) := zo_182 (b1 := 2) (b2 := 185) (zkb3 zk_cX12_sayPlain zn_cX12_sayPlain rfl) rfl
theorem dX12_sayPlain_128 : decode cX12_sayPlain 128 = .ok (.goto 9, 3) := zo_167 (b1 := 0) (b2 := 9) (zkb3 zk_cX12_sayPlain zn_cX12_sayPlain rfl) rfl
theorem dX12_sayPlain_131 : decode cX12_sayPlain 131 = .ok (.aload_n 0, 1) := zo_42 (zkb zk_cX12_sayPlain zn_cX12_sayPlain rfl)
theorem dX12_sayPlain_132 : decode cX12_sayPlain 132 = .ok (.iload_n 2, 1) := zo_28 (zkb zk_cX12_sayPlain zn_cX12_sayPlain rfl)
theorem dX12_sayPlain_133 : decode cX12_sayPlain 133 = .ok (.iload_n 3, 1) := zo_29 (zkb zk_cX12_sayPlain zn_cX12_sayPlain rfl)
theorem dX12_sayPlain_134 : decode cX12_sayPlain 134 = .ok (.invokevirtual 700, 3) := zo_182 (b1 := 2) (b2 := 188) (zkb3 zk_cX12_sayPlain zn_cX12_sayPlain rfl) rfl
theorem dX12_sayPlain_137 : decode cX12_sayPlain 137 = .ok (.return_, 1) := zo_177 (zkb zk_cX12_sayPlain zn_cX12_sayPlain rfl)
noncomputable def kn_cX12_sayZero : Nat := 0xb12f02b65a02132a0a00a74b02b62a0a00a0051d2f02b69102132ab10400990415d902b6ce02b62a2a0b00a72f02b6d702130600a7d5021309009a1d2a1700a2051d2f02b69102132a2f02b65a02132a0a00a74b02b62a0a00a0051d1d009904152f02b6b402132a6a00a7cb02b6031d2a2f02b6d302130600a7d1021309009904152a1e00a0061c8a00a74302b607ce02b62a2a9600a7cb02b6031d2a0c009904152f02b69102132acb02b6031d2a0900a74b02b62a0a009904152f02b6b402130600a773021309009904152a4800a0041cd400a7c802b62adb00a4041b2f02b69102132ac502b664071b2a1100a4061b2f02b6c302130600a7c102130900a0051b1100a7bf02130900a0041b1c00a78f021309009a1b2a49009a1c0436030400a7040700a00470051b3e7a041b
theorem zk_cX12_sayZero : zkd cX12_sayZero.data.toList kn_cX12_sayZero = true := by decide +kernel
theorem zn_cX12_sayZero : cX12_sayZero.data.toList.length = 302 := by decide +kernel
theorem dX12_sayZero_0 : decode cX12_sayZero 0 = .ok (.iload_n 1, 1) := zo_27 (zkb zk_cX12_sayZero zn_cX12_sayZero rfl)
theorem dX12_sayZero_1 : decode cX12_sayZero 1 = .ok (.iconst 1, 1) := zo_4 (zkb zk_cX12_sayZero zn_cX12_sayZero rfl)
theorem dX12_sayZero_2 : decode cX12_sayZero 2 = .ok (.ishr, 1) := zo_122 (zkb zk_cX12_sayZero zn_cX12_sayZero rfl)
theorem dX12_sayZero_3 : decode cX12_sayZero 3 = .ok (.istore_n 3, 1) := zo_62 (zkb zk_cX12_sayZero zn_cX12_sayZero rfl)
theorem dX12_sayZero_4 : decode cX12_sayZero 4 = .ok (.iload_n 1, 1) := zo_27 (zkb zk_cX12_sayZero zn_cX12_sayZero rfl)
theorem dX12_sayZero_5 : decode cX12_sayZero 5 = .ok (.iconst 2, 1) := zo_5 (zkb zk_cX12_sayZero zn_cX12_sayZero rfl)
theorem dX12_sayZero_6 : decode cX12_sayZero 6 = .ok (.irem, 1) := zo_112 (zkb zk_cX12_sayZero zn_cX12_sayZero rfl)
theorem dX12_sayZero_7 : decode cX12_sayZero 7 = .ok (.iconst 1, 1) := zo_4 (zkb zk_cX12_sayZero zn_cX12_sayZero rfl)
theorem dX12_sayZero_8 : decode cX12_sayZero 8 = .ok (.if_icmp .ne 7, 3) := zo_160 (b1 := 0) (b2 := 7) (zkb3 zk_cX12_sayZero zn_cX12_sayZero rfl) rfl
theorem dX12_sayZero_11 : decode cX12_sayZero 11 = .ok (.iconst 1, 1) := zo_4 (zkb zk_cX12_sayZero zn_cX12_sayZero rfl)
theorem dX12_sayZero_12 : decode cX12_sayZero 12 = .ok (.goto 4, 3) := zo_167 (b1 := 0) (b2 := 4) (zkb3 zk_cX12_sayZero zn_cX12_sayZero rfl) rfl
theorem dX12_sayZero_15 : decode cX12_sayZero 15 = .ok (.iconst 0, 1) := zo_3 (zkb zk_cX12_sayZero zn_cX12_sayZero rfl)
theorem dX12_sayZero_16 : decode cX12_sayZero 16 = .ok (.istore 4, 2) := zo_54 (b1 := 4) (zkb2 zk_cX12_sayZero zn_cX12_sayZero rfl)
theorem dX12_sayZero_18 : decode cX12_sayZero 18 = .ok (.iload_n 2, 1) := zo_28 (zkb zk_cX12_sayZero zn_cX12_sayZero rfl)
theorem dX12_sayZero_19 : decode cX12_sayZero 19 = .ok (.ifCond .ne 73, 3) := zo_154 (b1 := 0) (b2 := 73) (zkb3 zk_cX12_sayZero zn_cX12_sayZero rfl) rfl
theorem dX12_sayZero_22 : decode cX12_sayZero 22 = .ok (.aload_n 0, 1) := zo_42 (zkb zk_cX12_sayZero zn_cX12_sayZero rfl)
theorem dX12_sayZero_23 : decode cX12_sayZero 23 = .ok (.iload_n 1, 1) := zo_27 (zkb zk_cX12_sayZero zn_cX12_sayZero rfl)
theorem dX12_sayZero_24 : decode cX12_sayZero 24 = .ok (.ifCond .ne 9, 3) := zo_154 (b1 := 0) (b2 := 9) (zkb3 zk_cX12_sayZero zn_cX12_sayZero rfl) rfl
theorem dX12_sayZero_27 : decode cX12_sayZero 27 = .ok (.ldc_w 655, 3) := zo_19 (b1 := 2) (b2 := 143) (zkb3 zk_cX12_sayZero zn_cX12_sayZero rfl) rfl
theorem dX12_sayZero_30 : decode cX12_sayZero 30 = .ok (.goto 28, 3) := zo_167 (b1 := 0) (b2 := 28) (zkb3 zk_cX12_sayZero zn_cX12_sayZero rfl) rfl
theorem dX12_sayZero_33 : decode cX12_sayZero 33 = .ok (.iload_n 1, 1) := zo_27 (zkb zk_cX12_sayZero zn_cX12_sayZero rfl)
theorem dX12_sayZero_34 : decode cX12_sayZero 34 = .ok (.iconst 1, 1) := zo_4 (zkb zk_cX12_sayZero zn_cX12_sayZero rfl)
theorem dX12_sayZero_35 : decode cX12_sayZero 35 = .ok (.if_icmp .ne 9, 3) := zo_160 (b1 := 0) (b2 := 9) (zkb3 zk_cX12_sayZero zn_cX12_sayZero rfl) rfl
theorem dX12_sayZero_38 : decode cX12_sayZero 38 = .ok (.ldc_w 703, 3) := zo_19 (b1 := 2) (b2 := 191) (zkb3 zk_cX12_sayZero zn_cX12_sayZero rfl) rfl
theorem dX12_sayZero_41 : decode cX12_sayZero 41 = .ok (.goto 17, 3) := zo_167 (b1 := 0) (b2 := 17) (zkb3 zk_cX12_sayZero zn_cX12_sayZero rfl) rfl
theorem dX12_sayZero_44 : decode cX12_sayZero 44 = .ok (.iload_n 1, 1) := zo_27 (zkb zk_cX12_sayZero zn_cX12_sayZero rfl)
theorem dX12_sayZero_45 : decode cX12_sayZero 45 = .ok (.iconst 2, 1) := zo_5 (zkb zk_cX12_sayZero zn_cX12_sayZero rfl)
theorem dX12_sayZero_46 : decode cX12_sayZero 46 = .ok (.if_icmp .ne 9, 3) := zo_160 (b1 := 0) (b2 := 9) (zkb3 zk_cX12_sayZero zn_cX12_sayZero rfl) rfl
theorem dX12_sayZero_49 : decode cX12_sayZero 49 = .ok (.ldc_w 705, 3) := zo_19 (b1 := 2) (b2 := 193) (zkb3 zk_cX12_sayZero zn_cX12_sayZero rfl) rfl
theorem dX12_sayZero_52 : decode cX12_sayZero 52 = .ok (.goto 6, 3) := zo_167 (b1 := 0) (b2 := 6) (zkb3 zk_cX12_sayZero zn_cX12_sayZero rfl) rfl
theorem dX12_sayZero_55 : decode cX12_sayZero 55 = .ok (.ldc_w 707, 3) := zo_19 (b1 := 2) (b2 := 195) (zkb3 zk_cX12_sayZero zn_cX12_sayZero rfl) rfl
theorem dX12_sayZero_58 : decode cX12_sayZero 58 = .ok (.invokevirtual 559, 3) := zo_182 (b1 := 2) (b2 := 47) (zkb3 zk_cX12_sayZero zn_cX12_sayZero rfl) rfl
theorem dX12_sayZero_61 : decode cX12_sayZero 61 = .ok (.iload_n 1, 1) := zo_27 (zkb zk_cX12_sayZero zn_cX12_sayZero rfl)
theorem dX12_sayZero_62 : decode cX12_sayZero 62 = .ok (.iconst 3, 1) := zo_6 (zkb zk_cX12_sayZero zn_cX12_sayZero rfl)
theorem dX12_sayZero_63 : decode cX12_sayZero 63 = .ok (.if_icmp .le 17, 3) := zo_164 (b1 := 0) (b2 := 17) (zkb3 zk_cX12_sayZero zn_cX12_sayZero rfl) rfl
theorem dX12_sayZero_66 : decode cX12_sayZero 66 = .ok (.aload_n 0, 1) := zo_42 (zkb zk_cX12_sayZero zn_cX12_sayZero rfl)
theorem dX12_sayZero_67 : decode cX12_sayZero 67 = .ok (.iload_n 1, 1) := zo_27 (zkb zk_cX12_sayZero zn_cX12_sayZero rfl)
theorem dX12_sayZero_68 : decode cX12_sayZero 68 = .ok (.iconst 4, 1) := zo_7 (zkb zk_cX12_sayZero zn_cX12_sayZero rfl)
theorem dX12_sayZero_69 : decode cX12_sayZero 69 = .ok (.isub, 1) := zo_100 (zkb zk_cX12_sayZero zn_cX12_sayZero rfl)
theorem dX12_sayZero_70 : decode cX12_sayZero 70 = .ok (.invokevirtual 709, 3) := zo_182 (b1 := 2) (b2 := 197) (zkb3 zk_cX12_sayZero zn_cX12_sayZero rfl) rfl
theorem dX12_sayZero_73 : decode cX12_sayZero 73 = .ok (.aload_n 0, 1) := zo_42 (zkb zk_cX12_sayZero zn_cX12_sayZero rfl)
theorem dX12_sayZero_74 : decode cX12_sayZero 74 = .ok (.ldc_w 657, 3) := zo_19 (b1 := 2) (b2 := 145) (zkb3 zk_cX12_sayZero zn_cX12_sayZero rfl) rfl
theorem dX12_sayZero_77 : decode cX12_sayZero 77 = .ok (.invokevirtual 559, 3) := zo_182 (b1 := 2) (b2 := 47) (zkb3 zk_cX12_sayZero zn_cX12_sayZero rfl) rfl
theorem dX12_sayZero_80 : decode cX12_sayZero 80 = .ok (.iload_n 1, 1) := zo_27 (zkb zk_cX12_sayZero zn_cX12_sayZero rfl)
theorem dX12_sayZero_81 : decode cX12_sayZero 81 = .ok (.iconst 1, 1) := zo_4 (zkb zk_cX12_sayZero zn_cX12_sayZero rfl)
theorem dX12_sayZero_82 : decode cX12_sayZero 82 = .ok (.if_icmp .le 219, 3) := zo_164 (b1 := 0) (b2 := 219) (zkb3 zk_cX12_sayZero zn_cX12_sayZero rfl) rfl
theorem dX12_sayZero_85 : decode cX12_sayZero 85 = .ok (.aload_n 0, 1) := zo_42 (zkb zk_cX12_sayZero zn_cX12_sayZero rfl)
theorem dX12_sayZero_86 : decode cX12_sayZero 86 = .ok (.invokevirtual 712, 3) := zo_182 (b1 := 2) (b2 := 200) (zkb3 zk_cX12_sayZero zn_cX12_sayZero rfl) rfl
theorem dX12_sayZero_89 : decode cX12_sayZero 89 = .ok (.goto 212, 3) := zo_167 (b1 := 0) (b2 := 212) (zkb3 zk_cX12_sayZero zn_cX12_sayZero rfl) rfl
theorem dX12_sayZero_92 : decode cX12_sayZero 92 = .ok (.iload_n 2, 1) := zo_28 (zkb zk_cX12_sayZero zn_cX12_sayZero rfl)
theorem dX12_sayZero_93 : decode cX12_sayZero 93 = .ok (.iconst 1, 1) := zo_4 (zkb zk_cX12_sayZero zn_cX12_sayZero rfl)
theorem dX12_sayZero_94 : decode cX12_sayZero 94 = .ok (.if_icmp .ne 72, 3) := zo_160 (b1 := 0) (b2 := 72) (zkb3 zk_cX12_sayZero zn_cX12_sayZero rfl) rfl
theorem dX12_sayZero_97 : decode cX12_sayZero 97 = .ok (.aload_n 0, 1) := zo_42 (zkb zk_cX12_sayZero zn_cX12_sayZero rfl)
theorem dX12_sayZero_98 : decode cX12_sayZero 98 = .ok (.iload 4, 2) := zo_21 (b1 := 4) (zkb2 zk_cX12_sayZero zn_cX12_sayZero rfl)
theorem dX12_sayZero_100 : decode cX12_sayZero 100 = .ok (.ifCond .eq 9, 3) := zo_153 (b1 := 0) (b2 := 9) (zkb3 zk_cX12_sayZero zn_cX12_sayZero rfl) rfl
theorem dX12_sayZero_103 : decode cX12_sayZero 103 = .ok (.ldc_w 627, 3) := zo_19 (b1 := 2) (b2 := 115) (zkb3 zk_cX12_sayZero zn_cX12_sayZero rfl) rfl
theorem dX12_sayZero_106 : decode cX12_sayZero 106 = .ok (.goto 6, 3) := zo_167 (b1 := 0) (b2 := 6) (zkb3 zk_cX12_sayZero zn_cX12_sayZero rfl) rfl
theorem dX12_sayZero_109 : decode cX12_sayZero 109 = .ok (.ldc_w 692, 3) := zo_19 (b1 := 2) (b2 := 180) (zkb3 zk_cX12_sayZero zn_cX12_sayZero rfl) rfl
theorem dX12_sayZero_112 : decode cX12_sayZero 112 = .ok (.invokevirtual 559, 3) := zo_182 (b1 := 2) (b2 := 47) (zkb3 zk_cX12_sayZero zn_cX12_sayZero rfl) rfl
theorem dX12_sayZero_115 : decode cX12_sayZero 115 = .ok (.iload 4, 2) := zo_21 (b1 := 4) (zkb2 zk_cX12_sayZero zn_cX12_sayZero rfl)
theorem dX12_sayZero_117 : decode cX12_sayZero 117 = .ok (.ifCond .eq 10, 3) := zo_153 (b1 := 0) (b2 := 10) (zkb3 zk_cX12_sayZero zn_cX12_sayZero rfl) rfl
theorem dX12_sayZero_120 : decode cX12_sayZero 120 = .ok (.aload_n 0, 1) := zo_42 (zkb zk_cX12_sayZero zn_cX12_sayZero rfl)
theorem dX12_sayZero_121 : decode cX12_sayZero 121 = .ok (.invokevirtual 587, 3) := zo_182 (b1 := 2) (b2 := 75) (zkb3 zk_cX12_sayZero zn_cX12_sayZero rfl) rfl
theorem dX12_sayZero_124 : decode cX12_sayZero 124 = .ok (.goto 9, 3) := zo_167 (b1 := 0) (b2 := 9) (zkb3 zk_cX12_sayZero zn_cX12_sayZero rfl) rfl
theorem dX12_sayZero_127 : decode cX12_sayZero 127 = .ok (.aload_n 0, 1) := zo_42 (zkb zk_cX12_sayZero zn_cX12_sayZero rfl)
theorem dX12_sayZero_128 : decode cX12_sayZero 128 = .ok (.iload_n 3, 1) := zo_29 (zkb zk_cX12_sayZero zn_cX12_sayZero rfl)
theorem dX12_sayZero_129 : decode cX12_sayZero 129 = .ok (.iconst 0, 1) := zo_3 (zkb zk_cX12_sayZero zn_cX12_sayZero rfl)
theorem dX12_sayZero_130 : decode cX12_sayZero 130 = .ok (.invokevirtual 715, 3) := zo_182 (b1 := 2) (b2 := 203) (zkb3 zk_cX12_sayZero zn_cX12_sayZero rfl) rfl
theorem dX12_sayZero_133 : decode cX12_sayZero 133 = .ok (.aload_n 0, 1) := zo_42 (zkb zk_cX12_sayZero zn_cX12_sayZero rfl)
theorem dX12_sayZero_134 : decode cX12_sayZero 134 = .ok (.ldc_w 657, 3) := zo_19 (b1 := 2) (b2 := 145) (zkb3 zk_cX12_sayZero zn_cX12_sayZero rfl) rfl
theorem dX12_sayZero_137 : decode cX12_sayZero 137 = .ok (.invokevirtual 559, 3) := zo_182 (b1 := 2) (b2 := 47) (zkb3 zk_cX12_sayZero zn_cX12_sayZero rfl) rfl
theorem dX12_sayZero_140 : decode cX12_sayZero 140 = .ok (.iload 4, 2) := zo_21 (b1 := 4) (zkb2 zk_cX12_sayZero zn_cX12_sayZero rfl)
theorem dX12_sayZero_142 : decode cX12_sayZero 142 = .ok (.ifCond .eq 12, 3) := zo_153 (b1 := 0) (b2 := 12) (zkb3 zk_cX12_sayZero zn_cX12_sayZero rfl) rfl
theorem dX12_sayZero_145 : decode cX12_sayZero 145 = .ok (.aload_n 0, 1) := zo_42 (zkb zk_cX12_sayZero zn_cX12_sayZero rfl)
theorem dX12_sayZero_146 : decode cX12_sayZero 146 = .ok (.iload_n 3, 1) := zo_29 (zkb zk_cX12_sayZero zn_cX12_sayZero rfl)
theorem dX12_sayZero_147 : decode cX12_sayZero 147 = .ok (.iconst 0, 1) := zo_3 (zkb zk_cX12_sayZero zn_cX12_sayZero rfl)
theorem dX12_sayZero_148 : decode cX12_sayZero 148 = .ok (.invokevirtual 715, 3) := zo_182 (b1 := 2) (b2 := 203) (zkb3 zk_cX12_sayZero zn_cX12_sayZero rfl) rfl
theorem dX12_sayZero_151 : decode cX12_sayZero 151 = .ok (.goto 150, 3) := zo_167 (b1 := 0) (b2 := 150) (zkb3 zk_cX12_sayZero zn_cX12_sayZero rfl) rfl
theorem dX12_sayZero_154 : decode cX12_sayZero 154 = .ok (.aload_n 0, 1) := zo_42 (zkb zk_cX12_sayZero zn_cX12_sayZero rfl)
theorem dX12_sayZero_155 : decode cX12_sayZero 155 = .ok (.aload_n 0, 1) := zo_42 (zkb zk_cX12_sayZero zn_cX12_sayZero rfl)
theorem dX12_sayZero_156 : decode cX12_sayZero 156 = .ok (.invokevirtual 718, 3) := zo_182 (b1 := 2) (b2 := 206) (zkb3 zk_cX12_sayZero zn_cX12_sayZero rfl) rfl
theorem dX12_sayZero_159 : decode cX12_sayZero 159 = .ok (.iconst 4, 1) := zo_7 (zkb zk_cX12_sayZero zn_cX12_sayZero rfl)
theorem dX12_sayZero_160 : decode cX12_sayZero 160 = .ok (.invokevirtual 579, 3) := zo_182 (b1 := 2) (b2 := 67) (zkb3 zk_cX12_sayZero zn_cX12_sayZero rfl) rfl
theorem dX12_sayZero_163 : decode cX12_sayZero 163 = .ok (.goto 138, 3) := zo_167 (b1 := 0) (b2 := 138) (zkb3 zk_cX12_sayZero zn_cX12_sayZero rfl) rfl
theorem dX12_sayZero_166 : decode cX12_sayZero 166 = .ok (.iload_n 2, 1) := zo_28 (zkb zk_cX12_sayZero zn_cX12_sayZero rfl)
theorem dX12_sayZero_167 : decode cX12_sayZero 167 = .ok (.iconst 3, 1) := zo_6 (zkb zk_cX12_sayZero zn_cX12_sayZero rfl)
theorem dX12_sayZero_168 : decode cX12_sayZero 168 = .ok (.if_icmp .ne 30, 3) := zo_160 (b1 := 0) (b2 := 30) (zkb3 zk_cX12_sayZero zn_cX12_sayZero rfl) rfl
theorem dX12_sayZero_171 : decode cX12_sayZero 171 = .ok (.aload_n 0, 1) := zo_42 (zkb zk_cX12_sayZero zn_cX12_sayZero rfl)
theorem dX12_sayZero_172 : decode cX12_sayZero 172 = .ok (.iload 4, 2) := zo_21 (b1 := 4) (zkb2 zk_cX12_sayZero zn_cX12_sayZero rfl)
theorem dX12_sayZero_174 : decode cX12_sayZero 174 = .ok (.ifCond .eq 9, 3) := zo_153 (b1 := 0) (b2 := 9) (zkb3 zk_cX12_sayZero zn_cX12_sayZero rfl) rfl
theorem dX12_sayZero_177 : decode cX12_sayZero 177 = .ok (.ldc_w 721, 3) := zo_19 (b1 := 2) (b2 := 209) (zkb3 zk_cX12_sayZero zn_cX12_sayZero rfl) rfl
theorem dX12_sayZero_180 : decode cX12_sayZero 180 = .ok (.goto 6, 3) := zo_167 (b1 := 0) (b2 := 6) (zkb3 zk_cX12_sayZero zn_cX12_sayZero rfl) rfl
theorem dX12_sayZero_183 : decode cX12_sayZero 183 = .ok (.ldc_w 723, 3) := zo_19 (b1 := 2) (b2 := 211) (zkb3 zk_cX12_sayZero zn_cX12_sayZero rfl) rfl
theorem dX12_sayZero_186 : decode cX12_sayZero 186 = .ok (.invokevirtual 559, 3) := zo_182 (b1 := 2) (b2 := 47) (zkb3 zk_cX12_sayZero zn_cX12_sayZero rfl) rfl
theorem dX12_sayZero_189 : decode cX12_sayZero 189 = .ok (.aload_n 0, 1) := zo_42 (zkb zk_cX12_sayZero zn_cX12_sayZero rfl)
theorem dX12_sayZero_190 : decode cX12_sayZero 190 = .ok (.iload_n 3, 1) := zo_29 (zkb zk_cX12_sayZero zn_cX12_sayZero rfl)
theorem dX12_sayZero_191 : decode cX12_sayZero 191 = .ok (.iconst 0, 1) := zo_3 (zkb zk_cX12_sayZero zn_cX12_sayZero rfl)
theorem dX12_sayZero_192 : decode cX12_sayZero 192 = .ok (.invokevirtual 715, 3) := zo_182 (b1 := 2) (b2 := 203) (zkb3 zk_cX12_sayZero zn_cX12_sayZero rfl) rfl
theorem dX12_sayZero_195 : decode cX12_sayZero 195 = .ok (.goto 106, 3) := zo_167 (b1 := 0) (b2 := 106) (zkb3 zk_cX12_sayZero zn_cX12_sayZero rfl) rfl
theorem dX12_sayZero_198 : decode cX12_sayZero 198 = .ok (.aload_n 0, 1) := zo_42 (zkb zk_cX12_sayZero zn_cX12_sayZero rfl)
theorem dX12_sayZero_199 : decode cX12_sayZero 199 = .ok (.ldc_w 692, 3) := zo_19 (b1 := 2) (b2 := 180) (zkb3 zk_cX12_sayZero zn_cX12_sayZero rfl) rfl
theorem dX12_sayZero_202 : decode cX12_sayZero 202 = .ok (.invokevirtual 559, 3) := zo_182 (b1 := 2) (b2 := 47) (zkb3 zk_cX12_sayZero zn_cX12_sayZero rfl) rfl
theorem dX12_sayZero_205 : decode cX12_sayZero 205 = .ok (.iload 4, 2) := zo_21 (b1 := 4) (zkb2 zk_cX12_sayZero zn_cX12_sayZero rfl)
theorem dX12_sayZero_207 : decode cX12_sayZero 207 = .ok (.ifCond .eq 29, 3) := zo_153 (b1 := 0) (b2 := 29) (zkb3 zk_cX12_sayZero zn_cX12_sayZero rfl) rfl
theorem dX12_sayZero_210 : decode cX12_sayZero 210 = .ok (.iload_n 3, 1) := zo_29 (zkb zk_cX12_sayZero zn_cX12_sayZero rfl)
theorem dX12_sayZero_211 : decode cX12_sayZero 211 = .ok (.iconst 2, 1) := zo_5 (zkb zk_cX12_sayZero zn_cX12_sayZero rfl)
theorem dX12_sayZero_212 : decode cX12_sayZero 212 = .ok (.if_icmp .ne 10, 3) := zo_160 (b1 := 0) (b2 := 10) (zkb3 zk_cX12_sayZero zn_cX12_sayZero rfl) rfl
theorem dX12_sayZero_215 : decode cX12_sayZero 215 = .ok (.aload_n 0, 1) := zo_42 (zkb zk_cX12_sayZero zn_cX12_sayZero rfl)
theorem dX12_sayZero_216 : decode cX12_sayZero 216 = .ok (.invokevirtual 587, 3) := zo_182 (b1 := 2) (b2 := 75) (zkb3 zk_cX12_sayZero zn_cX12_sayZero rfl) rfl
theorem dX12_sayZero_219 : decode cX12_sayZero 219 = .ok (.goto 10, 3) := zo_167 (b1 := 0) (b2 := 10) (zkb3 zk_cX12_sayZero zn_cX12_sayZero rfl) rfl
theorem dX12_sayZero_222 : decode cX12_sayZero 222 = .ok (.aload_n 0, 1) := zo_42 (zkb zk_cX12_sayZero zn_cX12_sayZero rfl)
theorem dX12_sayZero_223 : decode cX12_sayZero 223 = .ok (.ldc_w 602, 3) := zo_19 (b1 := 2) (b2 := 90) (zkb3 zk_cX12_sayZero zn_cX12_sayZero rfl) rfl
theorem dX12_sayZero_226 : decode cX12_sayZero 226 = .ok (.invokevirtual 559, 3) := zo_182 (b1 := 2) (b2 := 47) (zkb3 zk_cX12_sayZero zn_cX12_sayZero rfl) rfl
theorem dX12_sayZero_229 : decode cX12_sayZero 229 = .ok (.aload_n 0, 1) := zo_42 (zkb zk_cX12_sayZero zn_cX12_sayZero rfl)
theorem dX12_sayZero_230 : decode cX12_sayZero 230 = .ok (.ldc_w 657, 3) := zo_19 (b1 := 2) (b2 := 145) (zkb3 zk_cX12_sayZero zn_cX12_sayZero rfl) rfl
theorem dX12_sayZero_233 : decode cX12_sayZero 233 = .ok (.invokevirtual 559, 3) := zo_182 (b1 := 2) (b2 := 47) (zkb3 zk_cX12_sayZero zn_cX12_sayZero rfl) rfl
theorem dX12_sayZero_236 : decode cX12_sayZero 236 = .ok (.iload_n 3, 1) := zo_29 (zkb zk_cX12_sayZero zn_cX12_sayZero rfl)
theorem dX12_sayZero_237 : decode cX12_sayZero 237 = .ok (.iconst 2, 1) := zo_5 (zkb zk_cX12_sayZero zn_cX12_sayZero rfl)
theorem dX12_sayZero_238 : decode cX12_sayZero 238 = .ok (.if_icmp .ge 23, 3) := zo_162 (b1 := 0) (b2 := 23) (zkb3 zk_cX12_sayZero zn_cX12_sayZero rfl) rfl
theorem dX12_sayZero_241 : decode cX12_sayZero 241 = .ok (.aload_n 0, 1) := zo_42 (zkb zk_cX12_sayZero zn_cX12_sayZero rfl)
theorem dX12_sayZero_242 : decode cX12_sayZero 242 = .ok (.iload_n 3, 1) := zo_29 (zkb zk_cX12_sayZero zn_cX12_sayZero rfl)
theorem dX12_sayZero_243 : decode cX12_sayZero 243 = .ok (.ifCond .ne 9, 3) := zo_154 (b1 := 0) (b2 := 9) (zkb3 zk_cX12_sayZero zn_cX12_sayZero rfl) rfl
theorem dX12_sayZero_246 : decode cX12_sayZero 246 = .ok (.ldc_w 725, 3) := zo_19 (b1 := 2) (b2 := 213) (zkb3 zk_cX12_sayZero zn_cX12_sayZero rfl) rfl
theorem dX12_sayZero_249 : decode cX12_sayZero 249 = .ok (.goto 6, 3) := zo_167 (b1 := 0) (b2 := 6) (zkb3 zk_cX12_sayZero zn_cX12_sayZero rfl) rfl
theorem dX12_sayZero_252 : decode cX12_sayZero 252 = .ok (.ldc_w 727, 3) := zo_19 (b1 := 2) (b2 := 215) (zkb3 zk_cX12_sayZero zn_cX12_sayZero rfl) rfl
theorem dX12_sayZero_255 : decode cX12_sayZero 255 = .ok (.invokevirtual 559, 3) := zo_182 (b1 := 2) (b2 := 47) (zkb3 zk_cX12_sayZero zn_cX12_sayZero rfl) rfl
theorem dX12_sayZero_258 : decode cX12_sayZero 258 = .ok (.goto 11, 3) := zo_167 (b1 := 0) (b2 := 11) (zkb3 zk_cX12_sayZero zn_cX12_sayZero rfl) rfl
theorem dX12_sayZero_261 : decode cX12_sayZero 261 = .ok (.aload_n 0, 1) := zo_42 (zkb zk_cX12_sayZero zn_cX12_sayZero rfl)
theorem dX12_sayZero_262 : decode cX12_sayZero 262 = .ok (.aload_n 0, 1) := zo_42 (zkb zk_cX12_sayZero zn_cX12_sayZero rfl)
theorem dX12_sayZero_263 : decode cX12_sayZero 263 = .ok (.invokevirtual 718, 3) := zo_182 (b1 := 2) (b2 := 206) (zkb3 zk_cX12_sayZero zn_cX12_sayZero rfl) rfl
theorem dX12_sayZero_266 : decode cX12_sayZero 266 = .ok (.invokevirtual 729, 3) := zo_182 (b1 := 2) (b2 := 217) (zkb3 zk_cX12_sayZero zn_cX12_sayZero rfl) rfl
theorem dX12_sayZero_269 : decode cX12_sayZero 269 = .ok (.iload 4, 2) := zo_21 (b1 := 4) (zkb2 zk_cX12_sayZero zn_cX12_sayZero rfl)
theorem dX12_sayZero_271 : decode cX12_sayZero 271 = .ok (.ifCond .eq 4, 3) := zo_153 (b1 := 0) (b2 := 4) (zkb3 zk_cX12_sayZero zn_cX12_sayZero rfl) rfl
theorem dX12_sayZero_274 : decode cX12_sayZero 274 = .ok (.return_, 1) := zo_177 (zkb zk_cX12_sayZero zn_cX12_sayZero rfl)
theorem dX12_sayZero_275 : decode cX12_sayZero 275 = .ok (.aload_n 0, 1) := zo_42 (zkb zk_cX12_sayZero zn_cX12_sayZero rfl)
theorem dX12_sayZero_276 : decode cX12_sayZero 276 = .ok (.ldc_w 657, 3) := zo_19 (b1 := 2) (b2 := 145) (zkb3 zk_cX12_sayZero zn_cX12_sayZero rfl) rfl
theorem dX12_sayZero_279 : decode cX12_sayZero 279 = .ok (.invokevirtual 559, 3) := zo_182 (b1 := 2) (b2 := 47) (zkb3 zk_cX12_sayZero zn_cX12_sayZero rfl) rfl
theorem dX12_sayZero_282 : decode cX12_sayZero 282 = .ok (.iload_n 3, 1) := zo_29 (zkb zk_cX12_sayZero zn_cX12_sayZero rfl)
theorem dX12_sayZero_283 : decode cX12_sayZero 283 = .ok (.iconst 2, 1) := zo_5 (zkb zk_cX12_sayZero zn_cX12_sayZero rfl)
theorem dX12_sayZero_284 : decode cX12_sayZero 284 = .ok (.if_icmp .ne 10, 3) := zo_160 (b1 := 0) (b2 := 10) (zkb3 zk_cX12_sayZero zn_cX12_sayZero rfl) rfl
theorem dX12_sayZero_287 : decode cX12_sayZero 287 = .ok (.aload_n 0, 1) := zo_42 (zkb zk_cX12_sayZero zn_cX12_sayZero rfl)
theorem dX12_sayZero_288 : decode cX12_sayZero 288 = .ok (.invokevirtual 587, 3) := zo_182 (b1 := 2) (b2 := 75) (zkb3 zk_cX12_sayZero zn_cX12_sayZero rfl) rfl
theorem dX12_sayZero_291 : decode cX12_sayZero 291 = .ok (.goto 10, 3) := zo_167 (b1 := 0) (b2 := 10) (zkb3 zk_cX12_sayZero zn_cX12_sayZero rfl) rfl
theorem dX12_sayZero_294 : decode cX12_sayZero 294 = .ok (.aload_n 0, 1) := zo_42 (zkb zk_cX12_sayZero zn_cX12_sayZero rfl)
theorem dX12_sayZero_295 : decode cX12_sayZero 295 = .ok (.ldc_w 602, 3) := zo_19 (b1 := 2) (b2 := 90) (zkb3 zk_cX12_sayZero zn_cX12_sayZero rfl) rfl
theorem dX12_sayZero_298 : decode cX12_sayZero 298 = .ok (.invokevirtual 559, 3) := zo_182 (b1 := 2) (b2 := 47) (zkb3 zk_cX12_sayZero zn_cX12_sayZero rfl) rfl
theorem dX12_sayZero_301 : decode cX12_sayZero 301 = .ok (.return_, 1) := zo_177 (zkb zk_cX12_sayZero zn_cX12_sayZero rfl)
noncomputable def kn_cX12_saySingle : Nat := 0xb14302b6052402b62a2a2f02b69102132ab10400a206101c9302b61b2a2f02b6b402130600a7d102130900a0081c1100a7d302130900a0071c2ab12f02b6ea02130600a7e802130900a006101b1200a7e602130900a0081b1d00a7e402130900a0071b2800a7e202130900a0061b3300a7e002130900a0051b3e00a7de02130900a0041b4900a7dc021309009a1b2a5800a007101c
theorem zk_cX12_saySingle : zkd cX12_saySingle.data.toList kn_cX12_saySingle = true := by decide +kernel
theorem zn_cX12_saySingle : cX12_saySingle.data.toList.length = 149 := by decide +kernel
theorem dX12_saySingle_0 : decode cX12_saySingle 0 = .ok (.iload_n 2, 1) := zo_28 (zkb zk_cX12_saySingle zn_cX12_saySingle rfl)
theorem dX12_saySingle_1 : decode cX12_saySingle 1 = .ok (.bipush 7, 2) := zo_16 (b1 := 7) (zkb2 zk_cX12_saySingle zn_cX12_saySingle rfl) rfl
theorem dX12_saySingle_3 : decode cX12_saySingle 3 = .ok (.if_icmp .ne 88, 3) := zo_160 (b1 := 0) (b2 := 88) (zkb3 zk_cX12_saySingle zn_cX12_saySingle rfl) rfl
theorem dX12_saySingle_6 : decode cX12_saySingle 6 = .ok (.aload_n 0, 1) := zo_42 (zkb zk_cX12_saySingle zn_cX12_saySingle rfl)
theorem dX12_saySingle_7 : decode cX12_saySingle 7 = .ok (.iload_n 1, 1) := zo_27 (zkb zk_cX12_saySingle zn_cX12_saySingle rfl)
theorem dX12_saySingle_8 : decode cX12_saySingle 8 = .ok (.ifCond .ne 9, 3) := zo_154 (b1 := 0) (b2 := 9) (zkb3 zk_cX12_saySingle zn_cX12_saySingle rfl) rfl
theorem dX12_saySingle_11 : decode cX12_saySingle 11 = .ok (.ldc_w 732, 3) := zo_19 (b1 := 2) (b2 := 220) (zkb3 zk_cX12_saySingle zn_cX12_saySingle rfl) rfl
theorem dX12_saySingle_14 : decode cX12_saySingle 14 = .ok (.goto 73, 3) := zo_167 (b1 := 0) (b2 := 73) (zkb3 zk_cX12_saySingle zn_cX12_saySingle rfl) rfl
theorem dX12_saySingle_17 : decode cX12_saySingle 17 = .ok (.iload_n 1, 1) := zo_27 (zkb zk_cX12_saySingle zn_cX12_saySingle rfl)
theorem dX12_saySingle_18 : decode cX12_saySingle 18 = .ok (.iconst 1, 1) := zo_4 (zkb zk_cX12_saySingle zn_cX12_saySingle rfl)
theorem dX12_saySingle_19 : decode cX12_saySingle 19 = .ok (.if_icmp .ne 9, 3) := zo_160 (b1 := 0) (b2 := 9) (zkb3 zk_cX12_saySingle zn_cX12_saySingle rfl) rfl
theorem dX12_saySingle_22 : decode cX12_saySingle 22 = .ok (.ldc_w 734, 3) := zo_19 (b1 := 2) (b2 := 222) (zkb3 zk_cX12_saySingle zn_cX12_saySingle rfl) rfl
theorem dX12_saySingle_25 : decode cX12_saySingle 25 = .ok (.goto 62, 3) := zo_167 (b1 := 0) (b2 := 62) (zkb3 zk_cX12_saySingle zn_cX12_saySingle rfl) rfl
theorem dX12_saySingle_28 : decode cX12_saySingle 28 = .ok (.iload_n 1, 1) := zo_27 (zkb zk_cX12_saySingle zn_cX12_saySingle rfl)
theorem dX12_saySingle_29 : decode cX12_saySingle 29 = .ok (.iconst 2, 1) := zo_5 (zkb zk_cX12_saySingle zn_cX12_saySingle rfl)
theorem dX12_saySingle_30 : decode cX12_saySingle 30 = .ok (.if_icmp .ne 9, 3) := zo_160 (b1 := 0) (b2 := 9) (zkb3 zk_cX12_saySingle zn_cX12_saySingle rfl) rfl
theorem dX12_saySingle_33 : decode cX12_saySingle 33 = .ok (.ldc_w 736, 3) := zo_19 (b1 := 2) (b2 := 224) (zkb3 zk_cX12_saySingle zn_cX12_saySingle rfl) rfl
theorem dX12_saySingle_36 : decode cX12_saySingle 36 = .ok (.goto 51, 3) := zo_167 (b1 := 0) (b2 := 51) (zkb3 zk_cX12_saySingle zn_cX12_saySingle rfl) rfl
theorem dX12_saySingle_39 : decode cX12_saySingle 39 = .ok (.iload_n 1, 1) := zo_27 (zkb zk_cX12_saySingle zn_cX12_saySingle rfl)
theorem dX12_saySingle_40 : decode cX12_saySingle 40 = .ok (.iconst 3, 1) := zo_6 (zkb zk_cX12_saySingle zn_cX12_saySingle rfl)
theorem dX12_saySingle_41 : decode cX12_saySingle 41 = .ok (.if_icmp .ne 9, 3) := zo_160 (b1 := 0) (b2 := 9) (zkb3 zk_cX12_saySingle zn_cX12_saySingle rfl) rfl
theorem dX12_saySingle_44 : decode cX12_saySingle 44 = .ok (.ldc_w 738, 3) := zo_19 (b1 := 2) (b2 := 226) (zkb3 zk_cX12_saySingle zn_cX12_saySingle rfl) rfl
theorem dX12_saySingle_47 : decode cX12_saySingle 47 = .ok (.goto 40, 3) := zo_167 (b1 := 0) (b2 := 40) (zkb3 zk_cX12_saySingle zn_cX12_saySingle rfl) rfl
theorem dX12_saySingle_50 : decode cX12_saySingle 50 = .ok (.iload_n 1, 1) := zo_27 (zkb zk_cX12_saySingle zn_cX12_saySingle rfl)
theorem dX12_saySingle_51 : decode cX12_saySingle 51 = .ok (.iconst 4, 1) := zo_7 (zkb zk_cX12_saySingle zn_cX12_saySingle rfl)
theorem dX12_saySingle_52 : decode cX12_saySingle 52 = .ok (.if_icmp .ne 9, 3) := zo_160 (b1 := 0) (b2 := 9) (zkb3 zk_cX12_saySingle zn_cX12_saySingle rfl) rfl
theorem dX12_saySingle_55 : decode cX12_saySingle 55 = .ok (.ldc_w 740, 3) := zo_19 (b1 := 2) (b2 := 228) (zkb3 zk_cX12_saySingle zn_cX12_saySingle rfl) rfl
theorem dX12_saySingle_58 : decode cX12_saySingle 58 = .ok (.goto 29, 3) := zo_167 (b1 := 0) (b2 := 29) (zkb3 zk_cX12_saySingle zn_cX12_saySingle rfl) rfl
theorem dX12_saySingle_61 : decode cX12_saySingle 61 = .ok (.iload_n 1, 1) := zo_27 (zkb zk_cX12_saySingle zn_cX12_saySingle rfl)
theorem dX12_saySingle_62 : decode cX12_saySingle 62 = .ok (.iconst 5, 1) := zo_8 (zkb zk_cX12_saySingle zn_cX12_saySingle rfl)
theorem dX12_saySingle_63 : decode cX12_saySingle 63 = .ok (.if_icmp .ne 9, 3) := zo_160 (b1 := 0) (b2 := 9) (zkb3 zk_cX12_saySingle zn_cX12_saySingle rfl) rfl
theorem dX12_saySingle_66 : decode cX12_saySingle 66 = .ok (.ldc_w 742, 3) := zo_19 (b1 := 2) (b2 := 230) (zkb3 zk_cX12_saySingle zn_cX12_saySingle rfl) rfl
theorem dX12_saySingle_69 : decode cX12_saySingle 69 = .ok (.goto 18, 3) := zo_167 (b1 := 0) (b2 := 18) (zkb3 zk_cX12_saySingle zn_cX12_saySingle rfl) rfl
theorem dX12_saySingle_72 : decode cX12_saySingle 72 = .ok (.iload_n 1, 1) := zo_27 (zkb zk_cX12_saySingle zn_cX12_saySingle rfl)
theorem dX12_saySingle_73 : decode cX12_saySingle 73 = .ok (.bipush 6, 2) := zo_16 (b1 := 6) (zkb2 zk_cX12_saySingle zn_cX12_saySingle rfl) rfl
theorem dX12_saySingle_75 : decode cX12_saySingle 75 = .ok (.if_icmp .ne 9, 3) := zo_160 (b1 := 0) (b2 := 9) (zkb3 zk_cX12_saySingle zn_cX12_saySingle rfl) rfl
theorem dX12_saySingle_78 : decode cX12_saySingle 78 = .ok (.ldc_w 744, 3) := zo_19 (b1 := 2) (b2 := 232) (zkb3 zk_cX12_saySingle zn_cX12_saySingle rfl) rfl
theorem dX12_saySingle_81 : decode cX12_saySingle 81 = .ok (.goto 6, 3) := zo_167 (b1 := 0) (b2 := 6) (zkb3 zk_cX12_saySingle zn_cX12_saySingle rfl) rfl
theorem dX12_saySingle_84 : decode cX12_saySingle 84 = .ok (.ldc_w 746, 3) := zo_19 (b1 := 2) (b2 := 234) (zkb3 zk_cX12_saySingle zn_cX12_saySingle rfl) rfl
theorem dX12_saySingle_87 : decode cX12_saySingle 87 = .ok (.invokevirtual 559, 3) := zo_182 (b1 := 2) (b2 := 47) (zkb3 zk_cX12_saySingle zn_cX12_saySingle rfl) rfl
theorem dX12_saySingle_90 : decode cX12_saySingle 90 = .ok (.return_, 1) := zo_177 (zkb zk_cX12_saySingle zn_cX12_saySingle rfl)
theorem dX12_saySingle_91 : decode cX12_saySingle 91 = .ok (.aload_n 0, 1) := zo_42 (zkb zk_cX12_saySingle zn_cX12_saySingle rfl)
theorem dX12_saySingle_92 : decode cX12_saySingle 92 = .ok (.iload_n 2, 1) := zo_28 (zkb zk_cX12_saySingle zn_cX12_saySingle rfl)
theorem dX12_saySingle_93 : decode cX12_saySingle 93 = .ok (.iconst 4, 1) := zo_7 (zkb zk_cX12_saySingle zn_cX12_saySingle rfl)
theorem dX12_saySingle_94 : decode cX12_saySingle 94 = .ok (.if_icmp .ne 9, 3) := zo_160 (b1 := 0) (b2 := 9) (zkb3 zk_cX12_saySingle zn_cX12_saySingle rfl) rfl
theorem dX12_saySingle_97 : decode cX12_saySingle 97 = .ok (.ldc_w 723, 3) := zo_19 (b1 := 2) (b2 := 211) (zkb3 zk_cX12_saySingle zn_cX12_saySingle rfl) rfl
theorem dX12_saySingle_100 : decode cX12_saySingle 100 = .ok (.goto 17, 3) := zo_167 (b1 := 0) (b2 := 17) (zkb3 zk_cX12_saySingle zn_cX12_saySingle rfl) rfl
theorem dX12_saySingle_103 : decode cX12_saySingle 103 = .ok (.iload_n 2, 1) := zo_28 (zkb zk_cX12_saySingle zn_cX12_saySingle rfl)
theorem dX12_saySingle_104 : decode cX12_saySingle 104 = .ok (.iconst 5, 1) := zo_8 (zkb zk_cX12_saySingle zn_cX12_saySingle rfl)
theorem dX12_saySingle_105 : decode cX12_saySingle 105 = .ok (.if_icmp .ne 9, 3) := zo_160 (b1 := 0) (b2 := 9) (zkb3 zk_cX12_saySingle zn_cX12_saySingle rfl) rfl
theorem dX12_saySingle_108 : decode cX12_saySingle 108 = .ok (.ldc_w 721, 3) := zo_19 (b1 := 2) (b2 := 209) (zkb3 zk_cX12_saySingle zn_cX12_saySingle rfl) rfl
theorem dX12_saySingle_111 : decode cX12_saySingle 111 = .ok (.goto 6, 3) := zo_167 (b1 := 0) (b2 := 6) (zkb3 zk_cX12_saySingle zn_cX12_saySingle rfl) rfl
theorem dX12_saySingle_114 : decode cX12_saySingle 114 = .ok (.ldc_w 692, 3) := zo_19 (b1 := 2) (b2 := 180) (zkb3 zk_cX12_saySingle zn_cX12_saySingle rfl) rfl
theorem dX12_saySingle_117 : decode cX12_saySingle 117 = .ok (.invokevirtual 559, 3) := zo_182 (b1 := 2) (b2 := 47) (zkb3 zk_cX12_saySingle zn_cX12_saySingle rfl) rfl
theorem dX12_saySingle_120 : decode cX12_saySingle 120 = .ok (.aload_n 0, 1) := zo_42 (zkb zk_cX12_saySingle zn_cX12_saySingle rfl)
theorem dX12_saySingle_121 : decode cX12_saySingle 121 = .ok (.iload_n 1, 1) := zo_27 (zkb zk_cX12_saySingle zn_cX12_saySingle rfl)
theorem dX12_saySingle_122 : decode cX12_saySingle 122 = .ok (.invokevirtual 659, 3) := zo_182 (b1 := 2) (b2 := 147) (zkb3 zk_cX12_saySingle zn_cX12_saySingle rfl) rfl
theorem dX12_saySingle_125 : decode cX12_saySingle 125 = .ok (.iload_n 2, 1) := zo_28 (zkb zk_cX12_saySingle zn_cX12_saySingle rfl)
theorem dX12_saySingle_126 : decode cX12_saySingle 126 = .ok (.bipush 6, 2) := zo_16 (b1 := 6) (zkb2 zk_cX12_saySingle zn_cX12_saySingle rfl) rfl
theorem dX12_saySingle_128 : decode cX12_saySingle 128 = .ok (.if_icmp .ge 4, 3) := zo_162 (b1 := 0) (b2 := 4) (zkb3 zk_cX12_saySingle zn_cX12_saySingle rfl) rfl
theorem dX12_saySingle_131 : decode cX12_saySingle 131 = .ok (.return_, 1) := zo_177 (zkb zk_cX12_saySingle zn_cX12_saySingle rfl)
theorem dX12_saySingle_132 : decode cX12_saySingle 132 = .ok (.aload_n 0, 1) := zo_42 (zkb zk_cX12_saySingle zn_cX12_saySingle rfl)
theorem dX12_saySingle_133 : decode cX12_saySingle 133 = .ok (.ldc_w 657, 3) := zo_19 (b1 := 2) (b2 := 145) (zkb3 zk_cX12_saySingle zn_cX12_saySingle rfl) rfl
theorem dX12_saySingle_136 : decode cX12_saySingle 136 = .ok (.invokevirtual 559, 3) := zo_182 (b1 := 2) (b2 := 47) (zkb3 zk_cX12_saySingle zn_cX12_saySingle rfl) rfl
theorem dX12_saySingle_139 : decode cX12_saySingle 139 = .ok (.aload_n 0, 1) := zo_42 (zkb zk_cX12_saySingle zn_cX12_saySingle rfl)
theorem dX12_saySingle_140 : decode cX12_saySingle 140 = .ok (.aload_n 0, 1) := zo_42 (zkb zk_cX12_saySingle zn_cX12_saySingle rfl)
theorem dX12_saySingle_141 : decode cX12_saySingle 141 = .ok (.invokevirtual 548, 3) := zo_182 (b1 := 2) (b2 := 36) (zkb3 zk_cX12_saySingle zn_cX12_saySingle rfl) rfl
theorem dX12_saySingle_144 : decode cX12_saySingle 144 = .ok (.iconst 2, 1) := zo_5 (zkb zk_cX12_saySingle zn_cX12_saySingle rfl)
theorem dX12_saySingle_145 : decode cX12_saySingle 145 = .ok (.invokevirtual 579, 3) := zo_182 (b1 := 2) (b2 := 67) (zkb3 zk_cX12_saySingle zn_cX12_saySingle rfl) rfl
theorem dX12_saySingle_148 : decode cX12_saySingle 148 = .ok (.return_, 1) := zo_177 (zkb zk_cX12_saySingle zn_cX12_saySingle rfl)
noncomputable def kn_cX12_sayThree : Nat := 0xb14b02b62a0700a0071b2f02b60603130600a70403130900a006101b1200a70203130900a0081b1d00a70003130900a0071b2a3500a72f02b64602130600a7fe02130900a0051b2a4302b6052402b62a2a2f02b6fc02130600a7fa02130900a0051b2a3300a2071b6a00a74302b607ce02b62a2a2f02b69102132ac502b61b2a0f00a0051c2f02b6f802132a27009a1b07009f051c9700a72f02b64602132aa100a0051d4b02b62a0700a4041d2f02b6f602130600a7f402130900a0051d1100a7f202130900a0041d1c00a7f0021309009a1d2a4200a0041cdb00a7cb02b6041d2a2f02b6ee02132a13009a70051b1900a0041cf600a7c502b61b2a2f02b6ec02132a12009a1c3e7a041b
theorem zk_cX12_sayThree : zkd cX12_sayThree.data.toList kn_cX12_sayThree = true := by decide +kernel
theorem zn_cX12_sayThree : cX12_sayThree.data.toList.length = 267 := by decide +kernel
theorem dX12_sayThree_0 : decode cX12_sayThree 0 = .ok (.iload_n 1, 1) := zo_27 (zkb zk_cX12_sayThree zn_cX12_sayThree rfl)
theorem dX12_sayThree_1 : decode cX12_sayThree 1 = .ok (.iconst 1, 1) := zo_4 (zkb zk_cX12_sayThree zn_cX12_sayThree rfl)
theorem dX12_sayThree_2 : decode cX12_sayThree 2 = .ok (.ishr, 1) := zo_122 (zkb zk_cX12_sayThree zn_cX12_sayThree rfl)
theorem dX12_sayThree_3 : decode cX12_sayThree 3 = .ok (.istore_n 3, 1) := zo_62 (zkb zk_cX12_sayThree zn_cX12_sayThree rfl)
theorem dX12_sayThree_4 : decode cX12_sayThree 4 = .ok (.iload_n 2, 1) := zo_28 (zkb zk_cX12_sayThree zn_cX12_sayThree rfl)
theorem dX12_sayThree_5 : decode cX12_sayThree 5 = .ok (.ifCond .ne 18, 3) := zo_154 (b1 := 0) (b2 := 18) (zkb3 zk_cX12_sayThree zn_cX12_sayThree rfl) rfl
theorem dX12_sayThree_8 : decode cX12_sayThree 8 = .ok (.aload_n 0, 1) := zo_42 (zkb zk_cX12_sayThree zn_cX12_sayThree rfl)
theorem dX12_sayThree_9 : decode cX12_sayThree 9 = .ok (.ldc_w 748, 3) := zo_19 (b1 := 2) (b2 := 236) (zkb3 zk_cX12_sayThree zn_cX12_sayThree rfl) rfl
theorem dX12_sayThree_12 : decode cX12_sayThree 12 = .ok (.invokevirtual 559, 3) := zo_182 (b1 := 2) (b2 := 47) (zkb3 zk_cX12_sayThree zn_cX12_sayThree rfl) rfl
theorem dX12_sayThree_15 : decode cX12_sayThree 15 = .ok (.aload_n 0, 1) := zo_42 (zkb zk_cX12_sayThree zn_cX12_sayThree rfl)
theorem dX12_sayThree_16 : decode cX12_sayThree 16 = .ok (.iload_n 1, 1) := zo_27 (zkb zk_cX12_sayThree zn_cX12_sayThree rfl)
theorem dX12_sayThree_17 : decode cX12_sayThree 17 = .ok (.invokevirtual 709, 3) := zo_182 (b1 := 2) (b2 := 197) (zkb3 zk_cX12_sayThree zn_cX12_sayThree rfl) rfl
theorem dX12_sayThree_20 : decode cX12_sayThree 20 = .ok (.goto 246, 3) := zo_167 (b1 := 0) (b2 := 246) (zkb3 zk_cX12_sayThree zn_cX12_sayThree rfl) rfl
theorem dX12_sayThree_23 : decode cX12_sayThree 23 = .ok (.iload_n 2, 1) := zo_28 (zkb zk_cX12_sayThree zn_cX12_sayThree rfl)
theorem dX12_sayThree_24 : decode cX12_sayThree 24 = .ok (.iconst 1, 1) := zo_4 (zkb zk_cX12_sayThree zn_cX12_sayThree rfl)
theorem dX12_sayThree_25 : decode cX12_sayThree 25 = .ok (.if_icmp .ne 25, 3) := zo_160 (b1 := 0) (b2 := 25) (zkb3 zk_cX12_sayThree zn_cX12_sayThree rfl) rfl
theorem dX12_sayThree_28 : decode cX12_sayThree 28 = .ok (.iload_n 1, 1) := zo_27 (zkb zk_cX12_sayThree zn_cX12_sayThree rfl)
theorem dX12_sayThree_29 : decode cX12_sayThree 29 = .ok (.iconst 2, 1) := zo_5 (zkb zk_cX12_sayThree zn_cX12_sayThree rfl)
theorem dX12_sayThree_30 : decode cX12_sayThree 30 = .ok (.irem, 1) := zo_112 (zkb zk_cX12_sayThree zn_cX12_sayThree rfl)
theorem dX12_sayThree_31 : decode cX12_sayThree 31 = .ok (.ifCond .ne 19, 3) := zo_154 (b1 := 0) (b2 := 19) (zkb3 zk_cX12_sayThree zn_cX12_sayThree rfl) rfl
theorem dX12_sayThree_34 : decode cX12_sayThree 34 = .ok (.aload_n 0, 1) := zo_42 (zkb zk_cX12_sayThree zn_cX12_sayThree rfl)
theorem dX12_sayThree_35 : decode cX12_sayThree 35 = .ok (.ldc_w 750, 3) := zo_19 (b1 := 2) (b2 := 238) (zkb3 zk_cX12_sayThree zn_cX12_sayThree rfl) rfl
theorem dX12_sayThree_38 : decode cX12_sayThree 38 = .ok (.invokevirtual 559, 3) := zo_182 (b1 := 2) (b2 := 47) (zkb3 zk_cX12_sayThree zn_cX12_sayThree rfl) rfl
theorem dX12_sayThree_41 : decode cX12_sayThree 41 = .ok (.aload_n 0, 1) := zo_42 (zkb zk_cX12_sayThree zn_cX12_sayThree rfl)
theorem dX12_sayThree_42 : decode cX12_sayThree 42 = .ok (.iload_n 3, 1) := zo_29 (zkb zk_cX12_sayThree zn_cX12_sayThree rfl)
theorem dX12_sayThree_43 : decode cX12_sayThree 43 = .ok (.iconst 1, 1) := zo_4 (zkb zk_cX12_sayThree zn_cX12_sayThree rfl)
theorem dX12_sayThree_44 : decode cX12_sayThree 44 = .ok (.invokevirtual 715, 3) := zo_182 (b1 := 2) (b2 := 203) (zkb3 zk_cX12_sayThree zn_cX12_sayThree rfl) rfl
theorem dX12_sayThree_47 : decode cX12_sayThree 47 = .ok (.goto 219, 3) := zo_167 (b1 := 0) (b2 := 219) (zkb3 zk_cX12_sayThree zn_cX12_sayThree rfl) rfl
theorem dX12_sayThree_50 : decode cX12_sayThree 50 = .ok (.iload_n 2, 1) := zo_28 (zkb zk_cX12_sayThree zn_cX12_sayThree rfl)
theorem dX12_sayThree_51 : decode cX12_sayThree 51 = .ok (.iconst 1, 1) := zo_4 (zkb zk_cX12_sayThree zn_cX12_sayThree rfl)
theorem dX12_sayThree_52 : decode cX12_sayThree 52 = .ok (.if_icmp .ne 66, 3) := zo_160 (b1 := 0) (b2 := 66) (zkb3 zk_cX12_sayThree zn_cX12_sayThree rfl) rfl
theorem dX12_sayThree_55 : decode cX12_sayThree 55 = .ok (.aload_n 0, 1) := zo_42 (zkb zk_cX12_sayThree zn_cX12_sayThree rfl)
theorem dX12_sayThree_56 : decode cX12_sayThree 56 = .ok (.iload_n 3, 1) := zo_29 (zkb zk_cX12_sayThree zn_cX12_sayThree rfl)
theorem dX12_sayThree_57 : decode cX12_sayThree 57 = .ok (.ifCond .ne 9, 3) := zo_154 (b1 := 0) (b2 := 9) (zkb3 zk_cX12_sayThree zn_cX12_sayThree rfl) rfl
theorem dX12_sayThree_60 : decode cX12_sayThree 60 = .ok (.ldc_w 752, 3) := zo_19 (b1 := 2) (b2 := 240) (zkb3 zk_cX12_sayThree zn_cX12_sayThree rfl) rfl
theorem dX12_sayThree_63 : decode cX12_sayThree 63 = .ok (.goto 28, 3) := zo_167 (b1 := 0) (b2 := 28) (zkb3 zk_cX12_sayThree zn_cX12_sayThree rfl) rfl
theorem dX12_sayThree_66 : decode cX12_sayThree 66 = .ok (.iload_n 3, 1) := zo_29 (zkb zk_cX12_sayThree zn_cX12_sayThree rfl)
theorem dX12_sayThree_67 : decode cX12_sayThree 67 = .ok (.iconst 1, 1) := zo_4 (zkb zk_cX12_sayThree zn_cX12_sayThree rfl)
theorem dX12_sayThree_68 : decode cX12_sayThree 68 = .ok (.if_icmp .ne 9, 3) := zo_160 (b1 := 0) (b2 := 9) (zkb3 zk_cX12_sayThree zn_cX12_sayThree rfl) rfl
theorem dX12_sayThree_71 : decode cX12_sayThree 71 = .ok (.ldc_w 754, 3) := zo_19 (b1 := 2) (b2 := 242) (zkb3 zk_cX12_sayThree zn_cX12_sayThree rfl) rfl
theorem dX12_sayThree_74 : decode cX12_sayThree 74 = .ok (.goto 17, 3) := zo_167 (b1 := 0) (b2 := 17) (zkb3 zk_cX12_sayThree zn_cX12_sayThree rfl) rfl
theorem dX12_sayThree_77 : decode cX12_sayThree 77 = .ok (.iload_n 3, 1) := zo_29 (zkb zk_cX12_sayThree zn_cX12_sayThree rfl)
theorem dX12_sayThree_78 : decode cX12_sayThree 78 = .ok (.iconst 2, 1) := zo_5 (zkb zk_cX12_sayThree zn_cX12_sayThree rfl)
theorem dX12_sayThree_79 : decode cX12_sayThree 79 = .ok (.if_icmp .ne 9, 3) := zo_160 (b1 := 0) (b2 := 9) (zkb3 zk_cX12_sayThree zn_cX12_sayThree rfl) rfl
theorem dX12_sayThree_82 : decode cX12_sayThree 82 = .ok (.ldc_w 756, 3) := zo_19 (b1 := 2) (b2 := 244) (zkb3 zk_cX12_sayThree zn_cX12_sayThree rfl) rfl
theorem dX12_sayThree_85 : decode cX12_sayThree 85 = .ok (.goto 6, 3) := zo_167 (b1 := 0) (b2 := 6) (zkb3 zk_cX12_sayThree zn_cX12_sayThree rfl) rfl
theorem dX12_sayThree_88 : decode cX12_sayThree 88 = .ok (.ldc_w 758, 3) := zo_19 (b1 := 2) (b2 := 246) (zkb3 zk_cX12_sayThree zn_cX12_sayThree rfl) rfl
theorem dX12_sayThree_91 : decode cX12_sayThree 91 = .ok (.invokevirtual 559, 3) := zo_182 (b1 := 2) (b2 := 47) (zkb3 zk_cX12_sayThree zn_cX12_sayThree rfl) rfl
theorem dX12_sayThree_94 : decode cX12_sayThree 94 = .ok (.iload_n 3, 1) := zo_29 (zkb zk_cX12_sayThree zn_cX12_sayThree rfl)
theorem dX12_sayThree_95 : decode cX12_sayThree 95 = .ok (.iconst 1, 1) := zo_4 (zkb zk_cX12_sayThree zn_cX12_sayThree rfl)
theorem dX12_sayThree_96 : decode cX12_sayThree 96 = .ok (.if_icmp .le 7, 3) := zo_164 (b1 := 0) (b2 := 7) (zkb3 zk_cX12_sayThree zn_cX12_sayThree rfl) rfl
theorem dX12_sayThree_99 : decode cX12_sayThree 99 = .ok (.aload_n 0, 1) := zo_42 (zkb zk_cX12_sayThree zn_cX12_sayThree rfl)
theorem dX12_sayThree_100 : decode cX12_sayThree 100 = .ok (.invokevirtual 587, 3) := zo_182 (b1 := 2) (b2 := 75) (zkb3 zk_cX12_sayThree zn_cX12_sayThree rfl) rfl
theorem dX12_sayThree_103 : decode cX12_sayThree 103 = .ok (.iload_n 3, 1) := zo_29 (zkb zk_cX12_sayThree zn_cX12_sayThree rfl)
theorem dX12_sayThree_104 : decode cX12_sayThree 104 = .ok (.iconst 2, 1) := zo_5 (zkb zk_cX12_sayThree zn_cX12_sayThree rfl)
theorem dX12_sayThree_105 : decode cX12_sayThree 105 = .ok (.if_icmp .ne 161, 3) := zo_160 (b1 := 0) (b2 := 161) (zkb3 zk_cX12_sayThree zn_cX12_sayThree rfl) rfl
theorem dX12_sayThree_108 : decode cX12_sayThree 108 = .ok (.aload_n 0, 1) := zo_42 (zkb zk_cX12_sayThree zn_cX12_sayThree rfl)
theorem dX12_sayThree_109 : decode cX12_sayThree 109 = .ok (.ldc_w 582, 3) := zo_19 (b1 := 2) (b2 := 70) (zkb3 zk_cX12_sayThree zn_cX12_sayThree rfl) rfl
theorem dX12_sayThree_112 : decode cX12_sayThree 112 = .ok (.invokevirtual 559, 3) := zo_182 (b1 := 2) (b2 := 47) (zkb3 zk_cX12_sayThree zn_cX12_sayThree rfl) rfl
theorem dX12_sayThree_115 : decode cX12_sayThree 115 = .ok (.goto 151, 3) := zo_167 (b1 := 0) (b2 := 151) (zkb3 zk_cX12_sayThree zn_cX12_sayThree rfl) rfl
theorem dX12_sayThree_118 : decode cX12_sayThree 118 = .ok (.iload_n 2, 1) := zo_28 (zkb zk_cX12_sayThree zn_cX12_sayThree rfl)
theorem dX12_sayThree_119 : decode cX12_sayThree 119 = .ok (.iconst 2, 1) := zo_5 (zkb zk_cX12_sayThree zn_cX12_sayThree rfl)
theorem dX12_sayThree_120 : decode cX12_sayThree 120 = .ok (.if_icmp .eq 7, 3) := zo_159 (b1 := 0) (b2 := 7) (zkb3 zk_cX12_sayThree zn_cX12_sayThree rfl) rfl
theorem dX12_sayThree_123 : decode cX12_sayThree 123 = .ok (.iload_n 1, 1) := zo_27 (zkb zk_cX12_sayThree zn_cX12_sayThree rfl)
theorem dX12_sayThree_124 : decode cX12_sayThree 124 = .ok (.ifCond .ne 39, 3) := zo_154 (b1 := 0) (b2 := 39) (zkb3 zk_cX12_sayThree zn_cX12_sayThree rfl) rfl
theorem dX12_sayThree_127 : decode cX12_sayThree 127 = .ok (.aload_n 0, 1) := zo_42 (zkb zk_cX12_sayThree zn_cX12_sayThree rfl)
theorem dX12_sayThree_128 : decode cX12_sayThree 128 = .ok (.ldc_w 760, 3) := zo_19 (b1 := 2) (b2 := 248) (zkb3 zk_cX12_sayThree zn_cX12_sayThree rfl) rfl
theorem dX12_sayThree_131 : decode cX12_sayThree 131 = .ok (.invokevirtual 559, 3) := zo_182 (b1 := 2) (b2 := 47) (zkb3 zk_cX12_sayThree zn_cX12_sayThree rfl) rfl
theorem dX12_sayThree_134 : decode cX12_sayThree 134 = .ok (.iload_n 2, 1) := zo_28 (zkb zk_cX12_sayThree zn_cX12_sayThree rfl)
theorem dX12_sayThree_135 : decode cX12_sayThree 135 = .ok (.iconst 2, 1) := zo_5 (zkb zk_cX12_sayThree zn_cX12_sayThree rfl)
theorem dX12_sayThree_136 : decode cX12_sayThree 136 = .ok (.if_icmp .ne 15, 3) := zo_160 (b1 := 0) (b2 := 15) (zkb3 zk_cX12_sayThree zn_cX12_sayThree rfl) rfl
theorem dX12_sayThree_139 : decode cX12_sayThree 139 = .ok (.aload_n 0, 1) := zo_42 (zkb zk_cX12_sayThree zn_cX12_sayThree rfl)
theorem dX12_sayThree_140 : decode cX12_sayThree 140 = .ok (.iload_n 1, 1) := zo_27 (zkb zk_cX12_sayThree zn_cX12_sayThree rfl)
theorem dX12_sayThree_141 : decode cX12_sayThree 141 = .ok (.invokevirtual 709, 3) := zo_182 (b1 := 2) (b2 := 197) (zkb3 zk_cX12_sayThree zn_cX12_sayThree rfl) rfl
theorem dX12_sayThree_144 : decode cX12_sayThree 144 = .ok (.aload_n 0, 1) := zo_42 (zkb zk_cX12_sayThree zn_cX12_sayThree rfl)
theorem dX12_sayThree_145 : decode cX12_sayThree 145 = .ok (.ldc_w 657, 3) := zo_19 (b1 := 2) (b2 := 145) (zkb3 zk_cX12_sayThree zn_cX12_sayThree rfl) rfl
theorem dX12_sayThree_148 : decode cX12_sayThree 148 = .ok (.invokevirtual 559, 3) := zo_182 (b1 := 2) (b2 := 47) (zkb3 zk_cX12_sayThree zn_cX12_sayThree rfl) rfl
theorem dX12_sayThree_151 : decode cX12_sayThree 151 = .ok (.aload_n 0, 1) := zo_42 (zkb zk_cX12_sayThree zn_cX12_sayThree rfl)
theorem dX12_sayThree_152 : decode cX12_sayThree 152 = .ok (.aload_n 0, 1) := zo_42 (zkb zk_cX12_sayThree zn_cX12_sayThree rfl)
theorem dX12_sayThree_153 : decode cX12_sayThree 153 = .ok (.invokevirtual 718, 3) := zo_182 (b1 := 2) (b2 := 206) (zkb3 zk_cX12_sayThree zn_cX12_sayThree rfl) rfl
theorem dX12_sayThree_156 : decode cX12_sayThree 156 = .ok (.iconst 4, 1) := zo_7 (zkb zk_cX12_sayThree zn_cX12_sayThree rfl)
theorem dX12_sayThree_157 : decode cX12_sayThree 157 = .ok (.invokevirtual 579, 3) := zo_182 (b1 := 2) (b2 := 67) (zkb3 zk_cX12_sayThree zn_cX12_sayThree rfl) rfl
theorem dX12_sayThree_160 : decode cX12_sayThree 160 = .ok (.goto 106, 3) := zo_167 (b1 := 0) (b2 := 106) (zkb3 zk_cX12_sayThree zn_cX12_sayThree rfl) rfl
theorem dX12_sayThree_163 : decode cX12_sayThree 163 = .ok (.iload_n 1, 1) := zo_27 (zkb zk_cX12_sayThree zn_cX12_sayThree rfl)
theorem dX12_sayThree_164 : decode cX12_sayThree 164 = .ok (.iconst 4, 1) := zo_7 (zkb zk_cX12_sayThree zn_cX12_sayThree rfl)
theorem dX12_sayThree_165 : decode cX12_sayThree 165 = .ok (.if_icmp .ge 51, 3) := zo_162 (b1 := 0) (b2 := 51) (zkb3 zk_cX12_sayThree zn_cX12_sayThree rfl) rfl
theorem dX12_sayThree_168 : decode cX12_sayThree 168 = .ok (.aload_n 0, 1) := zo_42 (zkb zk_cX12_sayThree zn_cX12_sayThree rfl)
theorem dX12_sayThree_169 : decode cX12_sayThree 169 = .ok (.iload_n 1, 1) := zo_27 (zkb zk_cX12_sayThree zn_cX12_sayThree rfl)
theorem dX12_sayThree_170 : decode cX12_sayThree 170 = .ok (.iconst 2, 1) := zo_5 (zkb zk_cX12_sayThree zn_cX12_sayThree rfl)
theorem dX12_sayThree_171 : decode cX12_sayThree 171 = .ok (.if_icmp .ne 9, 3) := zo_160 (b1 := 0) (b2 := 9) (zkb3 zk_cX12_sayThree zn_cX12_sayThree rfl) rfl
theorem dX12_sayThree_174 : decode cX12_sayThree 174 = .ok (.ldc_w 762, 3) := zo_19 (b1 := 2) (b2 := 250) (zkb3 zk_cX12_sayThree zn_cX12_sayThree rfl) rfl
theorem dX12_sayThree_177 : decode cX12_sayThree 177 = .ok (.goto 6, 3) := zo_167 (b1 := 0) (b2 := 6) (zkb3 zk_cX12_sayThree zn_cX12_sayThree rfl) rfl
theorem dX12_sayThree_180 : decode cX12_sayThree 180 = .ok (.ldc_w 764, 3) := zo_19 (b1 := 2) (b2 := 252) (zkb3 zk_cX12_sayThree zn_cX12_sayThree rfl) rfl
theorem dX12_sayThree_183 : decode cX12_sayThree 183 = .ok (.invokevirtual 559, 3) := zo_182 (b1 := 2) (b2 := 47) (zkb3 zk_cX12_sayThree zn_cX12_sayThree rfl) rfl
theorem dX12_sayThree_186 : decode cX12_sayThree 186 = .ok (.aload_n 0, 1) := zo_42 (zkb zk_cX12_sayThree zn_cX12_sayThree rfl)
theorem dX12_sayThree_187 : decode cX12_sayThree 187 = .ok (.aload_n 0, 1) := zo_42 (zkb zk_cX12_sayThree zn_cX12_sayThree rfl)
theorem dX12_sayThree_188 : decode cX12_sayThree 188 = .ok (.invokevirtual 548, 3) := zo_182 (b1 := 2) (b2 := 36) (zkb3 zk_cX12_sayThree zn_cX12_sayThree rfl) rfl
theorem dX12_sayThree_191 : decode cX12_sayThree 191 = .ok (.iconst 2, 1) := zo_5 (zkb zk_cX12_sayThree zn_cX12_sayThree rfl)
theorem dX12_sayThree_192 : decode cX12_sayThree 192 = .ok (.invokevirtual 579, 3) := zo_182 (b1 := 2) (b2 := 67) (zkb3 zk_cX12_sayThree zn_cX12_sayThree rfl) rfl
theorem dX12_sayThree_195 : decode cX12_sayThree 195 = .ok (.aload_n 0, 1) := zo_42 (zkb zk_cX12_sayThree zn_cX12_sayThree rfl)
theorem dX12_sayThree_196 : decode cX12_sayThree 196 = .ok (.iload_n 1, 1) := zo_27 (zkb zk_cX12_sayThree zn_cX12_sayThree rfl)
theorem dX12_sayThree_197 : decode cX12_sayThree 197 = .ok (.iconst 2, 1) := zo_5 (zkb zk_cX12_sayThree zn_cX12_sayThree rfl)
theorem dX12_sayThree_198 : decode cX12_sayThree 198 = .ok (.if_icmp .ne 9, 3) := zo_160 (b1 := 0) (b2 := 9) (zkb3 zk_cX12_sayThree zn_cX12_sayThree rfl) rfl
theorem dX12_sayThree_201 : decode cX12_sayThree 201 = .ok (.ldc_w 766, 3) := zo_19 (b1 := 2) (b2 := 254) (zkb3 zk_cX12_sayThree zn_cX12_sayThree rfl) rfl
theorem dX12_sayThree_204 : decode cX12_sayThree 204 = .ok (.goto 6, 3) := zo_167 (b1 := 0) (b2 := 6) (zkb3 zk_cX12_sayThree zn_cX12_sayThree rfl) rfl
theorem dX12_sayThree_207 : decode cX12_sayThree 207 = .ok (.ldc_w 582, 3) := zo_19 (b1 := 2) (b2 := 70) (zkb3 zk_cX12_sayThree zn_cX12_sayThree rfl) rfl
theorem dX12_sayThree_210 : decode cX12_sayThree 210 = .ok (.invokevirtual 559, 3) := zo_182 (b1 := 2) (b2 := 47) (zkb3 zk_cX12_sayThree zn_cX12_sayThree rfl) rfl
theorem dX12_sayThree_213 : decode cX12_sayThree 213 = .ok (.goto 53, 3) := zo_167 (b1 := 0) (b2 := 53) (zkb3 zk_cX12_sayThree zn_cX12_sayThree rfl) rfl
theorem dX12_sayThree_216 : decode cX12_sayThree 216 = .ok (.aload_n 0, 1) := zo_42 (zkb zk_cX12_sayThree zn_cX12_sayThree rfl)
theorem dX12_sayThree_217 : decode cX12_sayThree 217 = .ok (.iload_n 1, 1) := zo_27 (zkb zk_cX12_sayThree zn_cX12_sayThree rfl)
theorem dX12_sayThree_218 : decode cX12_sayThree 218 = .ok (.iconst 4, 1) := zo_7 (zkb zk_cX12_sayThree zn_cX12_sayThree rfl)
theorem dX12_sayThree_219 : decode cX12_sayThree 219 = .ok (.if_icmp .ne 9, 3) := zo_160 (b1 := 0) (b2 := 9) (zkb3 zk_cX12_sayThree zn_cX12_sayThree rfl) rfl
theorem dX12_sayThree_222 : decode cX12_sayThree 222 = .ok (.ldc_w 768, 3) := zo_19 (b1 := 3) (b2 := 0) (zkb3 zk_cX12_sayThree zn_cX12_sayThree rfl) rfl
theorem dX12_sayThree_225 : decode cX12_sayThree 225 = .ok (.goto 29, 3) := zo_167 (b1 := 0) (b2 := 29) (zkb3 zk_cX12_sayThree zn_cX12_sayThree rfl) rfl
theorem dX12_sayThree_228 : decode cX12_sayThree 228 = .ok (.iload_n 1, 1) := zo_27 (zkb zk_cX12_sayThree zn_cX12_sayThree rfl)
theorem dX12_sayThree_229 : decode cX12_sayThree 229 = .ok (.iconst 5, 1) := zo_8 (zkb zk_cX12_sayThree zn_cX12_sayThree rfl)
theorem dX12_sayThree_230 : decode cX12_sayThree 230 = .ok (.if_icmp .ne 9, 3) := zo_160 (b1 := 0) (b2 := 9) (zkb3 zk_cX12_sayThree zn_cX12_sayThree rfl) rfl
theorem dX12_sayThree_233 : decode cX12_sayThree 233 = .ok (.ldc_w 770, 3) := zo_19 (b1 := 3) (b2 := 2) (zkb3 zk_cX12_sayThree zn_cX12_sayThree rfl) rfl
theorem dX12_sayThree_236 : decode cX12_sayThree 236 = .ok (.goto 18, 3) := zo_167 (b1 := 0) (b2 := 18) (zkb3 zk_cX12_sayThree zn_cX12_sayThree rfl) rfl
theorem dX12_sayThree_239 : decode cX12_sayThree 239 = .ok (.iload_n 1, 1) := zo_27 (zkb zk_cX12_sayThree zn_cX12_sayThree rfl)
theorem dX12_sayThree_240 : decode cX12_sayThree 240 = .ok (.bipush 6, 2) := zo_16 (b1 := 6) (zkb2 zk_cX12_sayThree zn_cX12_sayThree rfl) rfl
theorem dX12_sayThree_242 : decode cX12_sayThree 242 = .ok (.if_icmp .ne 9, 3) := zo_160 (b1 := 0) (b2 := 9) (zkb3 zk_cX12_sayThree zn_cX12_sayThree rfl) rfl
theorem dX12_sayThree_245 : decode cX12_sayThree 245 = .ok (.ldc_w 772, 3) := zo_19 (b1 := 3) (b2 := 4) (zkb3 zk_cX12_sayThree zn_cX12_sayThree rfl) rfl
theorem dX12_sayThree_248 : decode cX12_sayThree 248 = .ok (.goto 6, 3) := zo_167 (b1 := 0) (b2 := 6) (zkb3 zk_cX12_sayThree zn_cX12_sayThree rfl) rfl
theorem dX12_sayThree_251 : decode cX12_sayThree 251 = .ok (.ldc_w 774, 3) := zo_19 (b1 := 3) (b2 := 6) (zkb3 zk_cX12_sayThree zn_cX12_sayThree rfl) rfl
theorem dX12_sayThree_254 : decode cX12_sayThree 254 = .ok (.invokevirtual 559, 3) := zo_182 (b1 := 2) (b2 := 47) (zkb3 zk_cX12_sayThree zn_cX12_sayThree rfl) rfl
theorem dX12_sayThree_257 : decode cX12_sayThree 257 = .ok (.iload_n 1, 1) := zo_27 (zkb zk_cX12_sayThree zn_cX12_sayThree rfl)
theorem dX12_sayThree_258 : decode cX12_sayThree 258 = .ok (.iconst 4, 1) := zo_7 (zkb zk_cX12_sayThree zn_cX12_sayThree rfl)
theorem dX12_sayThree_259 : decode cX12_sayThree 259 = .ok (.if_icmp .ne 7, 3) := zo_160 (b1 := 0) (b2 := 7) (zkb3 zk_cX12_sayThree zn_cX12_sayThree rfl) rfl
theorem dX12_sayThree_262 : decode cX12_sayThree 262 = .ok (.aload_n 0, 1) := zo_42 (zkb zk_cX12_sayThree zn_cX12_sayThree rfl)
theorem dX12_sayThree_263 : decode cX12_sayThree 263 = .ok (.invokevirtual 587, 3) := zo_182 (b1 := 2) (b2 := 75) (zkb3 zk_cX12_sayThree zn_cX12_sayThree rfl) rfl
theorem dX12_sayThree_266 : decode cX12_sayThree 266 = .ok (.return_, 1) := zo_177 (zkb zk_cX12_sayThree zn_cX12_sayThree rfl)
noncomputable def kn_cX12_sayLast : Nat := 0xb14302b605681b08102a2f02b60c03132a1300a74302b6052402b62a2ab602b61b2a1400a006101c2a00a7cb02b6041d2a2f02b60a03132a1300a0081c3f00a74302b607ce02b62a2a2f02b69102132ac502b61b2a0f00a0071c2f02b60803132a2700a0041b2c00a0081c0d009f071c3e7a041b
theorem zk_cX12_sayLast : zkd cX12_sayLast.data.toList kn_cX12_sayLast = true := by decide +kernel
theorem zn_cX12_sayLast : cX12_sayLast.data.toList.length = 116 := by decide +kernel
theorem dX12_sayLast_0 : decode cX12_sayLast 0 = .ok (.iload_n 1, 1) := zo_27 (zkb zk_cX12_sayLast zn_cX12_sayLast rfl)
theorem dX12_sayLast_1 : decode cX12_sayLast 1 = .ok (.iconst 1, 1) := zo_4 (zkb zk_cX12_sayLast zn_cX12_sayLast rfl)
theorem dX12_sayLast_2 : decode cX12_sayLast 2 = .ok (.ishr, 1) := zo_122 (zkb zk_cX12_sayLast zn_cX12_sayLast rfl)
theorem dX12_sayLast_3 : decode cX12_sayLast 3 = .ok (.istore_n 3, 1) := zo_62 (zkb zk_cX12_sayLast zn_cX12_sayLast rfl)
theorem dX12_sayLast_4 : decode cX12_sayLast 4 = .ok (.iload_n 2, 1) := zo_28 (zkb zk_cX12_sayLast zn_cX12_sayLast rfl)
theorem dX12_sayLast_5 : decode cX12_sayLast 5 = .ok (.iconst 4, 1) := zo_7 (zkb zk_cX12_sayLast zn_cX12_sayLast rfl)
theorem dX12_sayLast_6 : decode cX12_sayLast 6 = .ok (.if_icmp .eq 13, 3) := zo_159 (b1 := 0) (b2 := 13) (zkb3 zk_cX12_sayLast zn_cX12_sayLast rfl) rfl
theorem dX12_sayLast_9 : decode cX12_sayLast 9 = .ok (.iload_n 2, 1) := zo_28 (zkb zk_cX12_sayLast zn_cX12_sayLast rfl)
theorem dX12_sayLast_10 : decode cX12_sayLast 10 = .ok (.iconst 5, 1) := zo_8 (zkb zk_cX12_sayLast zn_cX12_sayLast rfl)
theorem dX12_sayLast_11 : decode cX12_sayLast 11 = .ok (.if_icmp .ne 44, 3) := zo_160 (b1 := 0) (b2 := 44) (zkb3 zk_cX12_sayLast zn_cX12_sayLast rfl) rfl
theorem dX12_sayLast_14 : decode cX12_sayLast 14 = .ok (.iload_n 1, 1) := zo_27 (zkb zk_cX12_sayLast zn_cX12_sayLast rfl)
theorem dX12_sayLast_15 : decode cX12_sayLast 15 = .ok (.iconst 1, 1) := zo_4 (zkb zk_cX12_sayLast zn_cX12_sayLast rfl)
theorem dX12_sayLast_16 : decode cX12_sayLast 16 = .ok (.if_icmp .ne 39, 3) := zo_160 (b1 := 0) (b2 := 39) (zkb3 zk_cX12_sayLast zn_cX12_sayLast rfl) rfl
theorem dX12_sayLast_19 : decode cX12_sayLast 19 = .ok (.aload_n 0, 1) := zo_42 (zkb zk_cX12_sayLast zn_cX12_sayLast rfl)
theorem dX12_sayLast_20 : decode cX12_sayLast 20 = .ok (.ldc_w 776, 3) := zo_19 (b1 := 3) (b2 := 8) (zkb3 zk_cX12_sayLast zn_cX12_sayLast rfl) rfl
theorem dX12_sayLast_23 : decode cX12_sayLast 23 = .ok (.invokevirtual 559, 3) := zo_182 (b1 := 2) (b2 := 47) (zkb3 zk_cX12_sayLast zn_cX12_sayLast rfl) rfl
theorem dX12_sayLast_26 : decode cX12_sayLast 26 = .ok (.iload_n 2, 1) := zo_28 (zkb zk_cX12_sayLast zn_cX12_sayLast rfl)
theorem dX12_sayLast_27 : decode cX12_sayLast 27 = .ok (.iconst 4, 1) := zo_7 (zkb zk_cX12_sayLast zn_cX12_sayLast rfl)
theorem dX12_sayLast_28 : decode cX12_sayLast 28 = .ok (.if_icmp .ne 15, 3) := zo_160 (b1 := 0) (b2 := 15) (zkb3 zk_cX12_sayLast zn_cX12_sayLast rfl) rfl
theorem dX12_sayLast_31 : decode cX12_sayLast 31 = .ok (.aload_n 0, 1) := zo_42 (zkb zk_cX12_sayLast zn_cX12_sayLast rfl)
theorem dX12_sayLast_32 : decode cX12_sayLast 32 = .ok (.iload_n 1, 1) := zo_27 (zkb zk_cX12_sayLast zn_cX12_sayLast rfl)
theorem dX12_sayLast_33 : decode cX12_sayLast 33 = .ok (.invokevirtual 709, 3) := zo_182 (b1 := 2) (b2 := 197) (zkb3 zk_cX12_sayLast zn_cX12_sayLast rfl) rfl
theorem dX12_sayLast_36 : decode cX12_sayLast 36 = .ok (.aload_n 0, 1) := zo_42 (zkb zk_cX12_sayLast zn_cX12_sayLast rfl)
theorem dX12_sayLast_37 : decode cX12_sayLast 37 = .ok (.ldc_w 657, 3) := zo_19 (b1 := 2) (b2 := 145) (zkb3 zk_cX12_sayLast zn_cX12_sayLast rfl) rfl
theorem dX12_sayLast_40 : decode cX12_sayLast 40 = .ok (.invokevirtual 559, 3) := zo_182 (b1 := 2) (b2 := 47) (zkb3 zk_cX12_sayLast zn_cX12_sayLast rfl) rfl
theorem dX12_sayLast_43 : decode cX12_sayLast 43 = .ok (.aload_n 0, 1) := zo_42 (zkb zk_cX12_sayLast zn_cX12_sayLast rfl)
theorem dX12_sayLast_44 : decode cX12_sayLast 44 = .ok (.aload_n 0, 1) := zo_42 (zkb zk_cX12_sayLast zn_cX12_sayLast rfl)
theorem dX12_sayLast_45 : decode cX12_sayLast 45 = .ok (.invokevirtual 718, 3) := zo_182 (b1 := 2) (b2 := 206) (zkb3 zk_cX12_sayLast zn_cX12_sayLast rfl) rfl
theorem dX12_sayLast_48 : decode cX12_sayLast 48 = .ok (.iconst 4, 1) := zo_7 (zkb zk_cX12_sayLast zn_cX12_sayLast rfl)
theorem dX12_sayLast_49 : decode cX12_sayLast 49 = .ok (.invokevirtual 579, 3) := zo_182 (b1 := 2) (b2 := 67) (zkb3 zk_cX12_sayLast zn_cX12_sayLast rfl) rfl
theorem dX12_sayLast_52 : decode cX12_sayLast 52 = .ok (.goto 63, 3) := zo_167 (b1 := 0) (b2 := 63) (zkb3 zk_cX12_sayLast zn_cX12_sayLast rfl) rfl
theorem dX12_sayLast_55 : decode cX12_sayLast 55 = .ok (.iload_n 2, 1) := zo_28 (zkb zk_cX12_sayLast zn_cX12_sayLast rfl)
theorem dX12_sayLast_56 : decode cX12_sayLast 56 = .ok (.iconst 5, 1) := zo_8 (zkb zk_cX12_sayLast zn_cX12_sayLast rfl)
theorem dX12_sayLast_57 : decode cX12_sayLast 57 = .ok (.if_icmp .ne 19, 3) := zo_160 (b1 := 0) (b2 := 19) (zkb3 zk_cX12_sayLast zn_cX12_sayLast rfl) rfl
theorem dX12_sayLast_60 : decode cX12_sayLast 60 = .ok (.aload_n 0, 1) := zo_42 (zkb zk_cX12_sayLast zn_cX12_sayLast rfl)
theorem dX12_sayLast_61 : decode cX12_sayLast 61 = .ok (.ldc_w 778, 3) := zo_19 (b1 := 3) (b2 := 10) (zkb3 zk_cX12_sayLast zn_cX12_sayLast rfl) rfl
theorem dX12_sayLast_64 : decode cX12_sayLast 64 = .ok (.invokevirtual 559, 3) := zo_182 (b1 := 2) (b2 := 47) (zkb3 zk_cX12_sayLast zn_cX12_sayLast rfl) rfl
theorem dX12_sayLast_67 : decode cX12_sayLast 67 = .ok (.aload_n 0, 1) := zo_42 (zkb zk_cX12_sayLast zn_cX12_sayLast rfl)
theorem dX12_sayLast_68 : decode cX12_sayLast 68 = .ok (.iload_n 3, 1) := zo_29 (zkb zk_cX12_sayLast zn_cX12_sayLast rfl)
theorem dX12_sayLast_69 : decode cX12_sayLast 69 = .ok (.iconst 1, 1) := zo_4 (zkb zk_cX12_sayLast zn_cX12_sayLast rfl)
theorem dX12_sayLast_70 : decode cX12_sayLast 70 = .ok (.invokevirtual 715, 3) := zo_182 (b1 := 2) (b2 := 203) (zkb3 zk_cX12_sayLast zn_cX12_sayLast rfl) rfl
theorem dX12_sayLast_73 : decode cX12_sayLast 73 = .ok (.goto 42, 3) := zo_167 (b1 := 0) (b2 := 42) (zkb3 zk_cX12_sayLast zn_cX12_sayLast rfl) rfl
theorem dX12_sayLast_76 : decode cX12_sayLast 76 = .ok (.iload_n 2, 1) := zo_28 (zkb zk_cX12_sayLast zn_cX12_sayLast rfl)
theorem dX12_sayLast_77 : decode cX12_sayLast 77 = .ok (.bipush 6, 2) := zo_16 (b1 := 6) (zkb2 zk_cX12_sayLast zn_cX12_sayLast rfl) rfl
theorem dX12_sayLast_79 : decode cX12_sayLast 79 = .ok (.if_icmp .ne 20, 3) := zo_160 (b1 := 0) (b2 := 20) (zkb3 zk_cX12_sayLast zn_cX12_sayLast rfl) rfl
theorem dX12_sayLast_82 : decode cX12_sayLast 82 = .ok (.aload_n 0, 1) := zo_42 (zkb zk_cX12_sayLast zn_cX12_sayLast rfl)
theorem dX12_sayLast_83 : decode cX12_sayLast 83 = .ok (.iload_n 1, 1) := zo_27 (zkb zk_cX12_sayLast zn_cX12_sayLast rfl)
theorem dX12_sayLast_84 : decode cX12_sayLast 84 = .ok (.invokevirtual 694, 3) := zo_182 (b1 := 2) (b2 := 182) (zkb3 zk_cX12_sayLast zn_cX12_sayLast rfl) rfl
theorem dX12_sayLast_87 : decode cX12_sayLast 87 = .ok (.aload_n 0, 1) := zo_42 (zkb zk_cX12_sayLast zn_cX12_sayLast rfl)
theorem dX12_sayLast_88 : decode cX12_sayLast 88 = .ok (.aload_n 0, 1) := zo_42 (zkb zk_cX12_sayLast zn_cX12_sayLast rfl)
theorem dX12_sayLast_89 : decode cX12_sayLast 89 = .ok (.invokevirtual 548, 3) := zo_182 (b1 := 2) (b2 := 36) (zkb3 zk_cX12_sayLast zn_cX12_sayLast rfl) rfl
theorem dX12_sayLast_92 : decode cX12_sayLast 92 = .ok (.iconst 2, 1) := zo_5 (zkb zk_cX12_sayLast zn_cX12_sayLast rfl)
theorem dX12_sayLast_93 : decode cX12_sayLast 93 = .ok (.invokevirtual 579, 3) := zo_182 (b1 := 2) (b2 := 67) (zkb3 zk_cX12_sayLast zn_cX12_sayLast rfl) rfl
theorem dX12_sayLast_96 : decode cX12_sayLast 96 = .ok (.goto 19, 3) := zo_167 (b1 := 0) (b2 := 19) (zkb3 zk_cX12_sayLast zn_cX12_sayLast rfl) rfl
theorem dX12_sayLast_99 : decode cX12_sayLast 99 = .ok (.aload_n 0, 1) := zo_42 (zkb zk_cX12_sayLast zn_cX12_sayLast rfl)
theorem dX12_sayLast_100 : decode cX12_sayLast 100 = .ok (.ldc_w 780, 3) := zo_19 (b1 := 3) (b2 := 12) (zkb3 zk_cX12_sayLast zn_cX12_sayLast rfl) rfl
theorem dX12_sayLast_103 : decode cX12_sayLast 103 = .ok (.invokevirtual 559, 3) := zo_182 (b1 := 2) (b2 := 47) (zkb3 zk_cX12_sayLast zn_cX12_sayLast rfl) rfl
theorem dX12_sayLast_106 : decode cX12_sayLast 106 = .ok (.aload_n 0, 1) := zo_42 (zkb zk_cX12_sayLast zn_cX12_sayLast rfl)
theorem dX12_sayLast_107 : decode cX12_sayLast 107 = .ok (.bipush 8, 2) := zo_16 (b1 := 8) (zkb2 zk_cX12_sayLast zn_cX12_sayLast rfl) rfl
theorem dX12_sayLast_109 : decode cX12_sayLast 109 = .ok (.iload_n 1, 1) := zo_27 (zkb zk_cX12_sayLast zn_cX12_sayLast rfl)
theorem dX12_sayLast_110 : decode cX12_sayLast 110 = .ok (.imul, 1) := zo_104 (zkb zk_cX12_sayLast zn_cX12_sayLast rfl)
theorem dX12_sayLast_111 : decode cX12_sayLast 111 = .ok (.iconst 2, 1) := zo_5 (zkb zk_cX12_sayLast zn_cX12_sayLast rfl)
theorem dX12_sayLast_112 : decode cX12_sayLast 112 = .ok (.invokevirtual 579, 3) := zo_182 (b1 := 2) (b2 := 67) (zkb3 zk_cX12_sayLast zn_cX12_sayLast rfl) rfl
theorem dX12_sayLast_115 : decode cX12_sayLast 115 = .ok (.return_, 1) := zo_177 (zkb zk_cX12_sayLast zn_cX12_sayLast rfl)
noncomputable def kn_cX12_sayOdd : Nat := 0xb12f02b68f02130600a74003130900a0081b1100a73e03130900a0071b1c00a73c03130900a0061b2700a73a03130900a0051b3200a73803130900a0041b3d00a736031309009a1b2a4b00a72f02b63403130600a73203130900a00570071b1300a73003130900a20570071b2a2700a006101c7500a72f02b62e03130600a72c03130900a0041b2a1800a0081c8f00a72f02b62a03132a0d00a0071c
theorem zk_cX12_sayOdd : zkd cX12_sayOdd.data.toList kn_cX12_sayOdd = true := by decide +kernel
theorem zn_cX12_sayOdd : cX12_sayOdd.data.toList.length = 156 := by decide +kernel
theorem dX12_sayOdd_0 : decode cX12_sayOdd 0 = .ok (.iload_n 2, 1) := zo_28 (zkb zk_cX12_sayOdd zn_cX12_sayOdd rfl)
theorem dX12_sayOdd_1 : decode cX12_sayOdd 1 = .ok (.iconst 4, 1) := zo_7 (zkb zk_cX12_sayOdd zn_cX12_sayOdd rfl)
theorem dX12_sayOdd_2 : decode cX12_sayOdd 2 = .ok (.if_icmp .ne 13, 3) := zo_160 (b1 := 0) (b2 := 13) (zkb3 zk_cX12_sayOdd zn_cX12_sayOdd rfl) rfl
theorem dX12_sayOdd_5 : decode cX12_sayOdd 5 = .ok (.aload_n 0, 1) := zo_42 (zkb zk_cX12_sayOdd zn_cX12_sayOdd rfl)
theorem dX12_sayOdd_6 : decode cX12_sayOdd 6 = .ok (.ldc_w 810, 3) := zo_19 (b1 := 3) (b2 := 42) (zkb3 zk_cX12_sayOdd zn_cX12_sayOdd rfl) rfl
theorem dX12_sayOdd_9 : decode cX12_sayOdd 9 = .ok (.invokevirtual 559, 3) := zo_182 (b1 := 2) (b2 := 47) (zkb3 zk_cX12_sayOdd zn_cX12_sayOdd rfl) rfl
theorem dX12_sayOdd_12 : decode cX12_sayOdd 12 = .ok (.goto 143, 3) := zo_167 (b1 := 0) (b2 := 143) (zkb3 zk_cX12_sayOdd zn_cX12_sayOdd rfl) rfl
theorem dX12_sayOdd_15 : decode cX12_sayOdd 15 = .ok (.iload_n 2, 1) := zo_28 (zkb zk_cX12_sayOdd zn_cX12_sayOdd rfl)
theorem dX12_sayOdd_16 : decode cX12_sayOdd 16 = .ok (.iconst 5, 1) := zo_8 (zkb zk_cX12_sayOdd zn_cX12_sayOdd rfl)
theorem dX12_sayOdd_17 : decode cX12_sayOdd 17 = .ok (.if_icmp .ne 24, 3) := zo_160 (b1 := 0) (b2 := 24) (zkb3 zk_cX12_sayOdd zn_cX12_sayOdd rfl) rfl
theorem dX12_sayOdd_20 : decode cX12_sayOdd 20 = .ok (.aload_n 0, 1) := zo_42 (zkb zk_cX12_sayOdd zn_cX12_sayOdd rfl)
theorem dX12_sayOdd_21 : decode cX12_sayOdd 21 = .ok (.iload_n 1, 1) := zo_27 (zkb zk_cX12_sayOdd zn_cX12_sayOdd rfl)
theorem dX12_sayOdd_22 : decode cX12_sayOdd 22 = .ok (.iconst 1, 1) := zo_4 (zkb zk_cX12_sayOdd zn_cX12_sayOdd rfl)
theorem dX12_sayOdd_23 : decode cX12_sayOdd 23 = .ok (.if_icmp .ne 9, 3) := zo_160 (b1 := 0) (b2 := 9) (zkb3 zk_cX12_sayOdd zn_cX12_sayOdd rfl) rfl
theorem dX12_sayOdd_26 : decode cX12_sayOdd 26 = .ok (.ldc_w 812, 3) := zo_19 (b1 := 3) (b2 := 44) (zkb3 zk_cX12_sayOdd zn_cX12_sayOdd rfl) rfl
theorem dX12_sayOdd_29 : decode cX12_sayOdd 29 = .ok (.goto 6, 3) := zo_167 (b1 := 0) (b2 := 6) (zkb3 zk_cX12_sayOdd zn_cX12_sayOdd rfl) rfl
theorem dX12_sayOdd_32 : decode cX12_sayOdd 32 = .ok (.ldc_w 814, 3) := zo_19 (b1 := 3) (b2 := 46) (zkb3 zk_cX12_sayOdd zn_cX12_sayOdd rfl) rfl
theorem dX12_sayOdd_35 : decode cX12_sayOdd 35 = .ok (.invokevirtual 559, 3) := zo_182 (b1 := 2) (b2 := 47) (zkb3 zk_cX12_sayOdd zn_cX12_sayOdd rfl) rfl
theorem dX12_sayOdd_38 : decode cX12_sayOdd 38 = .ok (.goto 117, 3) := zo_167 (b1 := 0) (b2 := 117) (zkb3 zk_cX12_sayOdd zn_cX12_sayOdd rfl) rfl
theorem dX12_sayOdd_41 : decode cX12_sayOdd 41 = .ok (.iload_n 2, 1) := zo_28 (zkb zk_cX12_sayOdd zn_cX12_sayOdd rfl)
theorem dX12_sayOdd_42 : decode cX12_sayOdd 42 = .ok (.bipush 6, 2) := zo_16 (b1 := 6) (zkb2 zk_cX12_sayOdd zn_cX12_sayOdd rfl) rfl
theorem dX12_sayOdd_44 : decode cX12_sayOdd 44 = .ok (.if_icmp .ne 39, 3) := zo_160 (b1 := 0) (b2 := 39) (zkb3 zk_cX12_sayOdd zn_cX12_sayOdd rfl) rfl
theorem dX12_sayOdd_47 : decode cX12_sayOdd 47 = .ok (.aload_n 0, 1) := zo_42 (zkb zk_cX12_sayOdd zn_cX12_sayOdd rfl)
theorem dX12_sayOdd_48 : decode cX12_sayOdd 48 = .ok (.iload_n 1, 1) := zo_27 (zkb zk_cX12_sayOdd zn_cX12_sayOdd rfl)
theorem dX12_sayOdd_49 : decode cX12_sayOdd 49 = .ok (.iconst 4, 1) := zo_7 (zkb zk_cX12_sayOdd zn_cX12_sayOdd rfl)
theorem dX12_sayOdd_50 : decode cX12_sayOdd 50 = .ok (.irem, 1) := zo_112 (zkb zk_cX12_sayOdd zn_cX12_sayOdd rfl)
theorem dX12_sayOdd_51 : decode cX12_sayOdd 51 = .ok (.iconst 2, 1) := zo_5 (zkb zk_cX12_sayOdd zn_cX12_sayOdd rfl)
theorem dX12_sayOdd_52 : decode cX12_sayOdd 52 = .ok (.if_icmp .ge 9, 3) := zo_162 (b1 := 0) (b2 := 9) (zkb3 zk_cX12_sayOdd zn_cX12_sayOdd rfl) rfl
theorem dX12_sayOdd_55 : decode cX12_sayOdd 55 = .ok (.ldc_w 816, 3) := zo_19 (b1 := 3) (b2 := 48) (zkb3 zk_cX12_sayOdd zn_cX12_sayOdd rfl) rfl
theorem dX12_sayOdd_58 : decode cX12_sayOdd 58 = .ok (.goto 19, 3) := zo_167 (b1 := 0) (b2 := 19) (zkb3 zk_cX12_sayOdd zn_cX12_sayOdd rfl) rfl
theorem dX12_sayOdd_61 : decode cX12_sayOdd 61 = .ok (.iload_n 1, 1) := zo_27 (zkb zk_cX12_sayOdd zn_cX12_sayOdd rfl)
theorem dX12_sayOdd_62 : decode cX12_sayOdd 62 = .ok (.iconst 4, 1) := zo_7 (zkb zk_cX12_sayOdd zn_cX12_sayOdd rfl)
theorem dX12_sayOdd_63 : decode cX12_sayOdd 63 = .ok (.irem, 1) := zo_112 (zkb zk_cX12_sayOdd zn_cX12_sayOdd rfl)
theorem dX12_sayOdd_64 : decode cX12_sayOdd 64 = .ok (.iconst 2, 1) := zo_5 (zkb zk_cX12_sayOdd zn_cX12_sayOdd rfl)
theorem dX12_sayOdd_65 : decode cX12_sayOdd 65 = .ok (.if_icmp .ne 9, 3) := zo_160 (b1 := 0) (b2 := 9) (zkb3 zk_cX12_sayOdd zn_cX12_sayOdd rfl) rfl
theorem dX12_sayOdd_68 : decode cX12_sayOdd 68 = .ok (.ldc_w 818, 3) := zo_19 (b1 := 3) (b2 := 50) (zkb3 zk_cX12_sayOdd zn_cX12_sayOdd rfl) rfl
theorem dX12_sayOdd_71 : decode cX12_sayOdd 71 = .ok (.goto 6, 3) := zo_167 (b1 := 0) (b2 := 6) (zkb3 zk_cX12_sayOdd zn_cX12_sayOdd rfl) rfl
theorem dX12_sayOdd_74 : decode cX12_sayOdd 74 = .ok (.ldc_w 820, 3) := zo_19 (b1 := 3) (b2 := 52) (zkb3 zk_cX12_sayOdd zn_cX12_sayOdd rfl) rfl
theorem dX12_sayOdd_77 : decode cX12_sayOdd 77 = .ok (.invokevirtual 559, 3) := zo_182 (b1 := 2) (b2 := 47) (zkb3 zk_cX12_sayOdd zn_cX12_sayOdd rfl) rfl
theorem dX12_sayOdd_80 : decode cX12_sayOdd 80 = .ok (.goto 75, 3) := zo_167 (b1 := 0) (b2 := 75) (zkb3 zk_cX12_sayOdd zn_cX12_sayOdd rfl) rfl
theorem dX12_sayOdd_83 : decode cX12_sayOdd 83 = .ok (.aload_n 0, 1) := zo_42 (zkb zk_cX12_sayOdd zn_cX12_sayOdd rfl)
theorem dX12_sayOdd_84 : decode cX12_sayOdd 84 = .ok (.iload_n 1, 1) := zo_27 (zkb zk_cX12_sayOdd zn_cX12_sayOdd rfl)
theorem dX12_sayOdd_85 : decode cX12_sayOdd 85 = .ok (.ifCond .ne 9, 3) := zo_154 (b1 := 0) (b2 := 9) (zkb3 zk_cX12_sayOdd zn_cX12_sayOdd rfl) rfl
theorem dX12_sayOdd_88 : decode cX12_sayOdd 88 = .ok (.ldc_w 822, 3) := zo_19 (b1 := 3) (b2 := 54) (zkb3 zk_cX12_sayOdd zn_cX12_sayOdd rfl) rfl
theorem dX12_sayOdd_91 : decode cX12_sayOdd 91 = .ok (.goto 61, 3) := zo_167 (b1 := 0) (b2 := 61) (zkb3 zk_cX12_sayOdd zn_cX12_sayOdd rfl) rfl
theorem dX12_sayOdd_94 : decode cX12_sayOdd 94 = .ok (.iload_n 1, 1) := zo_27 (zkb zk_cX12_sayOdd zn_cX12_sayOdd rfl)
theorem dX12_sayOdd_95 : decode cX12_sayOdd 95 = .ok (.iconst 1, 1) := zo_4 (zkb zk_cX12_sayOdd zn_cX12_sayOdd rfl)
theorem dX12_sayOdd_96 : decode cX12_sayOdd 96 = .ok (.if_icmp .ne 9, 3) := zo_160 (b1 := 0) (b2 := 9) (zkb3 zk_cX12_sayOdd zn_cX12_sayOdd rfl) rfl
theorem dX12_sayOdd_99 : decode cX12_sayOdd 99 = .ok (.ldc_w 824, 3) := zo_19 (b1 := 3) (b2 := 56) (zkb3 zk_cX12_sayOdd zn_cX12_sayOdd rfl) rfl
theorem dX12_sayOdd_102 : decode cX12_sayOdd 102 = .ok (.goto 50, 3) := zo_167 (b1 := 0) (b2 := 50) (zkb3 zk_cX12_sayOdd zn_cX12_sayOdd rfl) rfl
theorem dX12_sayOdd_105 : decode cX12_sayOdd 105 = .ok (.iload_n 1, 1) := zo_27 (zkb zk_cX12_sayOdd zn_cX12_sayOdd rfl)
theorem dX12_sayOdd_106 : decode cX12_sayOdd 106 = .ok (.iconst 2, 1) := zo_5 (zkb zk_cX12_sayOdd zn_cX12_sayOdd rfl)
theorem dX12_sayOdd_107 : decode cX12_sayOdd 107 = .ok (.if_icmp .ne 9, 3) := zo_160 (b1 := 0) (b2 := 9) (zkb3 zk_cX12_sayOdd zn_cX12_sayOdd rfl) rfl
theorem dX12_sayOdd_110 : decode cX12_sayOdd 110 = .ok (.ldc_w 826, 3) := zo_19 (b1 := 3) (b2 := 58) (zkb3 zk_cX12_sayOdd zn_cX12_sayOdd rfl) rfl
theorem dX12_sayOdd_113 : decode cX12_sayOdd 113 = .ok (.goto 39, 3) := zo_167 (b1 := 0) (b2 := 39) (zkb3 zk_cX12_sayOdd zn_cX12_sayOdd rfl) rfl
theorem dX12_sayOdd_116 : decode cX12_sayOdd 116 = .ok (.iload_n 1, 1) := zo_27 (zkb zk_cX12_sayOdd zn_cX12_sayOdd rfl)
theorem dX12_sayOdd_117 : decode cX12_sayOdd 117 = .ok (.iconst 3, 1) := zo_6 (zkb zk_cX12_sayOdd zn_cX12_sayOdd rfl)
theorem dX12_sayOdd_118 : decode cX12_sayOdd 118 = .ok (.if_icmp .ne 9, 3) := zo_160 (b1 := 0) (b2 := 9) (zkb3 zk_cX12_sayOdd zn_cX12_sayOdd rfl) rfl
theorem dX12_sayOdd_121 : decode cX12_sayOdd 121 = .ok (.ldc_w 828, 3) := zo_19 (b1 := 3) (b2 := 60) (zkb3 zk_cX12_sayOdd zn_cX12_sayOdd rfl) rfl
theorem dX12_sayOdd_124 : decode cX12_sayOdd 124 = .ok (.goto 28, 3) := zo_167 (b1 := 0) (b2 := 28) (zkb3 zk_cX12_sayOdd zn_cX12_sayOdd rfl) rfl
theorem dX12_sayOdd_127 : decode cX12_sayOdd 127 = .ok (.iload_n 1, 1) := zo_27 (zkb zk_cX12_sayOdd zn_cX12_sayOdd rfl)
theorem dX12_sayOdd_128 : decode cX12_sayOdd 128 = .ok (.iconst 4, 1) := zo_7 (zkb zk_cX12_sayOdd zn_cX12_sayOdd rfl)
theorem dX12_sayOdd_129 : decode cX12_sayOdd 129 = .ok (.if_icmp .ne 9, 3) := zo_160 (b1 := 0) (b2 := 9) (zkb3 zk_cX12_sayOdd zn_cX12_sayOdd rfl) rfl
theorem dX12_sayOdd_132 : decode cX12_sayOdd 132 = .ok (.ldc_w 830, 3) := zo_19 (b1 := 3) (b2 := 62) (zkb3 zk_cX12_sayOdd zn_cX12_sayOdd rfl) rfl
theorem dX12_sayOdd_135 : decode cX12_sayOdd 135 = .ok (.goto 17, 3) := zo_167 (b1 := 0) (b2 := 17) (zkb3 zk_cX12_sayOdd zn_cX12_sayOdd rfl) rfl
theorem dX12_sayOdd_138 : decode cX12_sayOdd 138 = .ok (.iload_n 1, 1) := zo_27 (zkb zk_cX12_sayOdd zn_cX12_sayOdd rfl)
theorem dX12_sayOdd_139 : decode cX12_sayOdd 139 = .ok (.iconst 5, 1) := zo_8 (zkb zk_cX12_sayOdd zn_cX12_sayOdd rfl)
theorem dX12_sayOdd_140 : decode cX12_sayOdd 140 = .ok (.if_icmp .ne 9, 3) := zo_160 (b1 := 0) (b2 := 9) (zkb3 zk_cX12_sayOdd zn_cX12_sayOdd rfl) rfl
theorem dX12_sayOdd_143 : decode cX12_sayOdd 143 = .ok (.ldc_w 832, 3) := zo_19 (b1 := 3) (b2 := 64) (zkb3 zk_cX12_sayOdd zn_cX12_sayOdd rfl) rfl
theorem dX12_sayOdd_146 : decode cX12_sayOdd 146 = .ok (.goto 6, 3) := zo_167 (b1 := 0) (b2 := 6) (zkb3 zk_cX12_sayOdd zn_cX12_sayOdd rfl) rfl
theorem dX12_sayOdd_149 : decode cX12_sayOdd 149 = .ok (.ldc_w 655, 3) := zo_19 (b1 := 2) (b2 := 143) (zkb3 zk_cX12_sayOdd zn_cX12_sayOdd rfl) rfl
theorem dX12_sayOdd_152 : decode cX12_sayOdd 152 = .ok (.invokevirtual 559, 3) := zo_182 (b1 := 2) (b2 := 47) (zkb3 zk_cX12_sayOdd zn_cX12_sayOdd rfl) rfl
theorem dX12_sayOdd_155 : decode cX12_sayOdd 155 = .ok (.return_, 1) := zo_177 (zkb zk_cX12_sayOdd zn_cX12_sayOdd rfl)
noncomputable def rmX12_hex : Room := { frames := 0, cells := 0, slots := 0, locals := 0 }
noncomputable def wzX12_hex : List Cond := .code yX12_hex cX12_hex 5 none :: wsL_law
theorem hinX12_hex_X120 : ∀ w ∈ wsX120, w ∈ wzX12_hex := fun w h => List.mem_cons_of_mem _ (inlX12 w h)
noncomputable def fX12_hex_49 (k4 : zSt → Int32 → Int32 → Option (zSt)) (σ : zSt) (x1 : Int32) (x3 : Int32) (s0 : Int32) (s1 : Int32) : Option (zSt) :=
  zck (zin s1 40) (zbv (zsi σ 26 (s1.toNatClampNeg) s0) (fun σ1 =>
  zbv (zsi σ1 0 39 ((zgi σ1 0 39) + 1)) (fun σ2 =>
  zbv (x3 + (-1)) (fun v3 =>
  k4 σ2 x1 v3))))
noncomputable def fX12_hex_4_body (k4 : zSt → Int32 → Int32 → Option (zSt)) (σ : zSt) (x1 : Int32) (x3 : Int32) : Option (zSt) :=
  if x3 < 0 then some σ else
  zbv ((x1 >>> ((4 * x3) &&& 31)) &&& 15) (fun v4 =>
  if 10 ≤ v4 then fX12_hex_49 k4 σ x1 x3 ((97 + v4) - 10) (zgi σ 0 39) else
  fX12_hex_49 k4 σ x1 x3 (48 + v4) (zgi σ 0 39))
noncomputable def fX12_hex_4  : Nat → zSt → Int32 → Int32 → Option (zSt)
  | 0, _, _, _ => none
  | n + 1, σ, x1, x3 => fX12_hex_4_body (fX12_hex_4  n) σ x1 x3
noncomputable def fX12_hex  (σ : zSt) (x1 : Int32) (x2 : Int32) : Option (zSt) :=
  zbv (x2 - 1) (fun v5 =>
  fX12_hex_4 zfuel σ x1 v5)
set_option maxRecDepth 20000 in
set_option maxHeartbeats 4000000 in
theorem bX12_hex_49 {st : Nat → Nat} {p : Program} {l : Launch} {e : Env} {s : State} {m : MethodId} {args : Array Value} {below : List Frame} {meth : Method} {c : Code} {D : va_G} {A : Nat → Prop} {ad : Nat → Nat} {cy : Nat → ClassId} (hC : zC p m c cX12_hex 5 s args wzX12_hex RX12 meth none) {k4 : zSt → Int32 → Int32 → Option (zSt)} {res : zSt} (hk4 : ∀ (H : Heap) (locs : List Loc) (σ : zSt) (ls : Array Slot) (x1 : Int32) (x3 : Int32), zI st D (tM cy) (wM ad cy σ) A s H locs → lv_has ls 5 [(0, .ref (ad 0)), (1, .int x1), (3, .int x3)] → k4 σ x1 x3 = some res → W p l e rmX12_hex s m args below meth c H locs 0 0 (zQu below args s D (tM cy) (wM ad cy) A res) (F0 m 4 ls [])) {H : Heap} {locs : List Loc} {σ : zSt} {ls : Array Slot} {x1 : Int32} {x3 : Int32} {s0 : Int32} {s1 : Int32} (hI : zI st D (tM cy) (wM ad cy σ) A s H locs) (hl : lv_has ls 5 [(0, .ref (ad 0)), (1, .int x1), (3, .int x3)]) (hf : fX12_hex_49 k4 σ x1 x3 s0 s1 = some res) : W p l e rmX12_hex s m args below meth c H locs 0 0 (zQu below args s D (tM cy) (wM ad cy) A res) (F0 m 49 ls [.int s0, .int s1, .ref (ad 26)]) := by
  have hx := hC.1
  have hb := hC.2.1
  unfold fX12_hex_49 at hf
  obtain ⟨q, hf⟩ := zck_use hf
  obtain ⟨σ1, eσ1⟩ : ∃ z, z = zsi σ 26 (s1.toNatClampNeg) s0 := ⟨_, rfl⟩
  replace hf := zbv_use eσ1 hf
  refine z_iast hC hI 26 25 (wM_e26 ad cy σ) (tM_t26 cy) q ((wM_s26 ad cy σ _ _).trans (congrArg (wM ad cy) eσ1.symm)) dX12_hex_49 (fun H locs hI => ?_)
  refine lv_aload_n hx hb dX12_hex_50 rfl (lv_at hl 0 rfl) ?_
  refine lv_dup hx hb dX12_hex_51 rfl ?_
  refine z_get hC hI hinX12_hex_X120 0 (wM_e0 ad cy σ1) rfl 39 (by decide) (List.mem_cons_of_mem _ zw74_10) rfl dX12_hex_52 ?_
  refine lv_iconst (v := 1) hx hb dX12_hex_55 (by decide) ?_
  refine lv_iadd hx hb dX12_hex_56 ?_
  obtain ⟨σ2, eσ2⟩ : ∃ z, z = zsi σ1 0 39 ((zgi σ1 0 39) + 1) := ⟨_, rfl⟩
  replace hf := zbv_use eσ2 hf
  refine z_put hC hI hinX12_hex_X120 tyX12_ok nmX12 0 (wM_e0 ad cy σ1) rfl 39 (by decide) (List.mem_cons_of_mem _ zw74_10) rfl rfl rfl (Nat.le_of_ble_eq_true rfl) ((wM_s0_39 ad cy σ1 ((zgi σ1 0 39) + 1)).trans (congrArg (wM ad cy) eσ2.symm)) dX12_hex_57 (fun H locs hI => ?_)
  obtain ⟨v3, ev3⟩ : ∃ z : Int32, z = x3 + (-1) := ⟨_, rfl⟩
  replace hf := zbv_use ev3 hf
  refine lv_iinc (v := v3) (lv' := [(3, .int v3), (0, .ref (ad 0)), (1, .int x1)]) hx hb dX12_hex_60 hl (k := 2) rfl (by rw [ev3]; rfl) (by decide) rfl (fun ls hl => ?_)
  refine lv_goto (tgt := 4) hx hb dX12_hex_63 (by decide) ?_
  exact hk4 _ _ _ _ _ _ hI (lv_sub hl [1, 2, 0] rfl) hf
set_option maxRecDepth 20000 in
set_option maxHeartbeats 4000000 in
theorem bX12_hex_4_body {st : Nat → Nat} {p : Program} {l : Launch} {e : Env} {s : State} {m : MethodId} {args : Array Value} {below : List Frame} {meth : Method} {c : Code} {D : va_G} {A : Nat → Prop} {ad : Nat → Nat} {cy : Nat → ClassId} (hC : zC p m c cX12_hex 5 s args wzX12_hex RX12 meth none) {k4 : zSt → Int32 → Int32 → Option (zSt)} {res : zSt} (hk4 : ∀ (H : Heap) (locs : List Loc) (σ : zSt) (ls : Array Slot) (x1 : Int32) (x3 : Int32), zI st D (tM cy) (wM ad cy σ) A s H locs → lv_has ls 5 [(0, .ref (ad 0)), (1, .int x1), (3, .int x3)] → k4 σ x1 x3 = some res → W p l e rmX12_hex s m args below meth c H locs 0 0 (zQu below args s D (tM cy) (wM ad cy) A res) (F0 m 4 ls [])) {H : Heap} {locs : List Loc} {σ : zSt} {ls : Array Slot} {x1 : Int32} {x3 : Int32} (hI : zI st D (tM cy) (wM ad cy σ) A s H locs) (hl : lv_has ls 5 [(0, .ref (ad 0)), (1, .int x1), (3, .int x3)]) (hf : fX12_hex_4_body k4 σ x1 x3 = some res) : W p l e rmX12_hex s m args below meth c H locs 0 0 (zQu below args s D (tM cy) (wM ad cy) A res) (F0 m 4 ls []) := by
  have hx := hC.1
  have hb := hC.2.1
  unfold fX12_hex_4_body at hf
  refine lv_iload_n hx hb dX12_hex_4 rfl (lv_at hl 2 rfl) ?_
  refine lv_if_lt (tgt := 66) hx hb dX12_hex_5 (by decide) (fun q => ?_) (fun q => ?_)
  · replace hf := zif_t q hf
    exact z_return hC hI hf dX12_hex_66
  replace hf := zif_f q hf
  refine lv_iload_n hx hb dX12_hex_8 rfl (lv_at hl 1 rfl) ?_
  refine lv_iconst (v := 4) hx hb dX12_hex_9 (by decide) ?_
  refine lv_iload_n hx hb dX12_hex_10 rfl (lv_at hl 2 rfl) ?_
  refine lv_imul hx hb dX12_hex_11 ?_
  refine lv_ishr hx hb dX12_hex_12 ?_
  refine lv_bipush (v := 15) hx hb dX12_hex_13 (by decide) ?_
  refine lv_iand hx hb dX12_hex_15 ?_
  refine lv_topi (fun v4 ev4 => ?_)
  replace hf := zbv_use ev4 hf
  refine lv_istore (lv' := [(4, .int v4), (0, .ref (ad 0)), (1, .int x1), (3, .int x3)]) hx hb dX12_hex_16 hl (by decide) rfl (fun ls hl => ?_)
  refine lv_aload_n hx hb dX12_hex_18 rfl (lv_at hl 1 rfl) ?_
  refine z_get hC hI hinX12_hex_X120 0 (wM_e0 ad cy σ) rfl 38 (by decide) (List.mem_cons_of_mem _ zw10_9) rfl dX12_hex_19 ?_
  refine lv_aload_n hx hb dX12_hex_22 rfl (lv_at hl 1 rfl) ?_
  refine z_get hC hI hinX12_hex_X120 0 (wM_e0 ad cy σ) rfl 39 (by decide) (List.mem_cons_of_mem _ zw74_10) rfl dX12_hex_23 ?_
  refine lv_iload hx hb dX12_hex_26 (lv_at hl 0 rfl) ?_
  refine lv_bipush (v := 10) hx hb dX12_hex_28 (by decide) ?_
  refine lv_icmp_ge (tgt := 41) hx hb dX12_hex_30 (by decide) (fun q => ?_) (fun q => ?_)
  · replace hf := zif_t q hf
    refine lv_bipush (v := 97) hx hb dX12_hex_41 (by decide) ?_
    refine lv_iload hx hb dX12_hex_43 (lv_at hl 0 rfl) ?_
    refine lv_iadd hx hb dX12_hex_45 ?_
    refine lv_bipush (v := 10) hx hb dX12_hex_46 (by decide) ?_
    refine lv_isub hx hb dX12_hex_48 ?_
    exact bX12_hex_49 hC hk4 hI (lv_sub hl [1, 2, 3] rfl) hf
  replace hf := zif_f q hf
  refine lv_bipush (v := 48) hx hb dX12_hex_33 (by decide) ?_
  refine lv_iload hx hb dX12_hex_35 (lv_at hl 0 rfl) ?_
  refine lv_iadd hx hb dX12_hex_37 ?_
  refine lv_goto (tgt := 49) hx hb dX12_hex_38 (by decide) ?_
  exact bX12_hex_49 hC hk4 hI (lv_sub hl [1, 2, 3] rfl) hf
theorem blX12_hex_4 {st : Nat → Nat} {p : Program} {l : Launch} {e : Env} {s : State} {m : MethodId} {args : Array Value} {below : List Frame} {meth : Method} {c : Code} {D : va_G} {A : Nat → Prop} {ad : Nat → Nat} {cy : Nat → ClassId} (hC : zC p m c cX12_hex 5 s args wzX12_hex RX12 meth none)  {res : zSt} : ∀ (n : Nat) (H : Heap) (locs : List Loc) (σ : zSt) (ls : Array Slot) (x1 : Int32) (x3 : Int32), zI st D (tM cy) (wM ad cy σ) A s H locs → lv_has ls 5 [(0, .ref (ad 0)), (1, .int x1), (3, .int x3)] → fX12_hex_4  n σ x1 x3 = some res → W p l e rmX12_hex s m args below meth c H locs 0 0 (zQu below args s D (tM cy) (wM ad cy) A res) (F0 m 4 ls []) := by
  intro n
  induction n with
  | zero => intro H locs σ ls x1 x3 hI hl hf; cases hf
  | succ n ih => intro H locs σ ls x1 x3 hI hl hf; exact bX12_hex_4_body hC ih hI hl hf
set_option maxRecDepth 20000 in
set_option maxHeartbeats 4000000 in
theorem bX12_hex {st : Nat → Nat} {p : Program} {l : Launch} {e : Env} {s : State} {m : MethodId} {args : Array Value} {below : List Frame} {meth : Method} {c : Code} {D : va_G} {A : Nat → Prop} {ad : Nat → Nat} {cy : Nat → ClassId} (hC : zC p m c cX12_hex 5 s args wzX12_hex RX12 meth none)  {res : zSt} {H : Heap} {locs : List Loc} {σ : zSt} {ls : Array Slot} {x1 : Int32} {x2 : Int32} (hI : zI st D (tM cy) (wM ad cy σ) A s H locs) (hl : lv_has ls 5 [(0, .ref (ad 0)), (1, .int x1), (2, .int x2)]) (hf : fX12_hex  σ x1 x2 = some res) : W p l e rmX12_hex s m args below meth c H locs 0 0 (zQu below args s D (tM cy) (wM ad cy) A res) (F0 m 0 ls []) := by
  have hx := hC.1
  have hb := hC.2.1
  unfold fX12_hex at hf
  refine lv_iload_n hx hb dX12_hex_0 rfl (lv_at hl 2 rfl) ?_
  refine lv_iconst (v := 1) hx hb dX12_hex_1 (by decide) ?_
  refine lv_isub hx hb dX12_hex_2 ?_
  refine lv_topi (fun v5 ev5 => ?_)
  replace hf := zbv_use ev5 hf
  refine lv_istore_n (lv' := [(3, .int v5), (0, .ref (ad 0)), (1, .int x1), (2, .int x2)]) hx hb dX12_hex_3 rfl hl (by decide) rfl (fun ls hl => ?_)
  exact blX12_hex_4 hC  zfuel _ _ _ _ _ _ hI (lv_sub hl [1, 2, 0] rfl) hf
set_option maxRecDepth 20000 in
theorem cX12_hex_met (st : Nat → Nat) (l : Launch) (D : va_G) (ad : Nat → Nat) (cy : Nat → ClassId) (σ : zSt) (x1 : Int32) (x2 : Int32) (res : zSt) (hf : fX12_hex σ x1 x2 = some res) (sz : Nat) : zMu st l yX12_hex wzX12_hex rmX12_hex [.ref (ad 0), .int x1, .int x2] D (tM cy) (wM ad cy) sz σ res :=
  zMu.of (cc := cX12_hex) (maxL := 5) (ret := none) (by decide) rfl (Nat.le_of_ble_eq_true rfl) (fun p e s m args below meth c hC A hI ls hl => bX12_hex hC hI hl hf)
theorem hdX12_hex : yX12_hex.cls = RX12 ∧ yX12_hex.cls ≠ "java/lang/invoke/MethodHandle" ∧ yX12_hex.cls ≠ "java/lang/invoke/VarHandle" ∧ (parseMethodDescriptor yX12_hex.desc).map (fun d => d.parameters.length) = some 2 := by decide +kernel
noncomputable def rmX12_taken : Room := { frames := 2, cells := 0, slots := 0, locals := 44 }
noncomputable def wzX12_taken : List Cond := .code yX12_taken cX12_taken 2 (some .int) :: wsL_law
theorem hinX12_taken_X120 : ∀ w ∈ wsX120, w ∈ wzX12_taken := fun w h => List.mem_cons_of_mem _ (inlX12 w h)
noncomputable def fX12_taken  (σ : zSt)  : Option (zSt × Int32) :=
  zbi (fX12_read σ (zgi σ 0 40)) (fun σ1 v2 =>
  zbv (zsi σ1 0 40 ((zgi σ1 0 40) + 1)) (fun σ3 =>
  some (σ3, v2)))
set_option maxRecDepth 20000 in
set_option maxHeartbeats 4000000 in
theorem bX12_taken {st : Nat → Nat} {p : Program} {l : Launch} {e : Env} {s : State} {m : MethodId} {args : Array Value} {below : List Frame} {meth : Method} {c : Code} {D : va_G} {A : Nat → Prop} {ad : Nat → Nat} {cy : Nat → ClassId} (hC : zC p m c cX12_taken 2 s args wzX12_taken RX12 meth (some .int))  {res : zSt × Int32} {H : Heap} {locs : List Loc} {σ : zSt} {ls : Array Slot}  (hI : zI st D (tM cy) (wM ad cy σ) A s H locs) (hl : lv_has ls 2 [(0, .ref (ad 0))]) (hf : fX12_taken  σ  = some res) : W p l e rmX12_taken s m args below meth c H locs 0 0 (zQi below args s D (tM cy) (wM ad cy) A res) (F0 m 0 ls []) := by
  have hx := hC.1
  have hb := hC.2.1
  unfold fX12_taken at hf
  refine lv_aload_n hx hb dX12_taken_0 rfl (lv_at hl 0 rfl) ?_
  refine lv_aload_n hx hb dX12_taken_1 rfl (lv_at hl 0 rfl) ?_
  refine z_get hC hI hinX12_taken_X120 0 (wM_e0 ad cy σ) rfl 40 (by decide) (List.mem_cons_of_mem _ zw74_11) rfl dX12_taken_2 ?_
  obtain ⟨σ1, v2, g1, hf⟩ := zbi_use hf
  refine z_callVi (As := [.int (zgi σ 0 40)]) (rest := []) hC hI (cX12_read_met st l D ad cy σ (zgi σ 0 40) _ g1) (zgV zw49_8 zw49_9 zw49_10 zw1_5 zw49_11) rfl ⟨rfl, rfl⟩ 1 hdX12_read ⟨Nat.le_of_ble_eq_true rfl, Nat.le_of_ble_eq_true rfl⟩ rfl rfl (wM_e0 ad cy σ) rfl hl rfl (Nat.le_of_ble_eq_true rfl) dX12_taken_5 ⟨Nat.zero_le _, Nat.zero_le _⟩ (fun H locs hI => ?_)
  refine lv_istore_n (lv' := [(1, .int v2), (0, .ref (ad 0))]) hx hb dX12_taken_8 rfl hl (by decide) rfl (fun ls hl => ?_)
  refine lv_aload_n hx hb dX12_taken_9 rfl (lv_at hl 1 rfl) ?_
  refine lv_dup hx hb dX12_taken_10 rfl ?_
  refine z_get hC hI hinX12_taken_X120 0 (wM_e0 ad cy σ1) rfl 40 (by decide) (List.mem_cons_of_mem _ zw74_11) rfl dX12_taken_11 ?_
  refine lv_iconst (v := 1) hx hb dX12_taken_14 (by decide) ?_
  refine lv_iadd hx hb dX12_taken_15 ?_
  obtain ⟨σ3, eσ3⟩ : ∃ z, z = zsi σ1 0 40 ((zgi σ1 0 40) + 1) := ⟨_, rfl⟩
  replace hf := zbv_use eσ3 hf
  refine z_put hC hI hinX12_taken_X120 tyX12_ok nmX12 0 (wM_e0 ad cy σ1) rfl 40 (by decide) (List.mem_cons_of_mem _ zw74_11) rfl rfl rfl (Nat.le_of_ble_eq_true rfl) ((wM_s0_40 ad cy σ1 ((zgi σ1 0 40) + 1)).trans (congrArg (wM ad cy) eσ3.symm)) dX12_taken_16 (fun H locs hI => ?_)
  refine lv_iload_n hx hb dX12_taken_19 rfl (lv_at hl 0 rfl) ?_
  exact z_ireturn hC hI hf dX12_taken_20
set_option maxRecDepth 20000 in
theorem cX12_taken_met (st : Nat → Nat) (l : Launch) (D : va_G) (ad : Nat → Nat) (cy : Nat → ClassId) (σ : zSt)  (res : zSt × Int32) (hf : fX12_taken σ  = some res) (sz : Nat) : zMi st l yX12_taken wzX12_taken rmX12_taken [.ref (ad 0)] D (tM cy) (wM ad cy) sz σ res :=
  zMi.of (cc := cX12_taken) (maxL := 2) (ret := (some .int)) (by decide) rfl (Nat.le_of_ble_eq_true rfl) (fun p e s m args below meth c hC A hI ls hl => bX12_taken hC hI hl hf)
theorem hdX12_taken : yX12_taken.cls = RX12 ∧ yX12_taken.cls ≠ "java/lang/invoke/MethodHandle" ∧ yX12_taken.cls ≠ "java/lang/invoke/VarHandle" ∧ (parseMethodDescriptor yX12_taken.desc).map (fun d => d.parameters.length) = some 0 := by decide +kernel
noncomputable def rmX12_takenWord : Room := { frames := 3, cells := 0, slots := 0, locals := 65 }
noncomputable def wzX12_takenWord : List Cond := .code yX12_takenWord cX12_takenWord 2 (some .int) :: wsL_law
noncomputable def fX12_takenWord  (σ : zSt)  : Option (zSt × Int32) :=
  zbi (fX12_taken σ ) (fun σ1 v2 =>
  zbi (fX12_taken σ1 ) (fun σ3 v4 =>
  some (σ3, v2 ||| (v4 <<< ((8 : Int32) &&& 31)))))
set_option maxRecDepth 20000 in
set_option maxHeartbeats 4000000 in
theorem bX12_takenWord {st : Nat → Nat} {p : Program} {l : Launch} {e : Env} {s : State} {m : MethodId} {args : Array Value} {below : List Frame} {meth : Method} {c : Code} {D : va_G} {A : Nat → Prop} {ad : Nat → Nat} {cy : Nat → ClassId} (hC : zC p m c cX12_takenWord 2 s args wzX12_takenWord RX12 meth (some .int))  {res : zSt × Int32} {H : Heap} {locs : List Loc} {σ : zSt} {ls : Array Slot}  (hI : zI st D (tM cy) (wM ad cy σ) A s H locs) (hl : lv_has ls 2 [(0, .ref (ad 0))]) (hf : fX12_takenWord  σ  = some res) : W p l e rmX12_takenWord s m args below meth c H locs 0 0 (zQi below args s D (tM cy) (wM ad cy) A res) (F0 m 0 ls []) := by
  have hx := hC.1
  have hb := hC.2.1
  unfold fX12_takenWord at hf
  refine lv_aload_n hx hb dX12_takenWord_0 rfl (lv_at hl 0 rfl) ?_
  obtain ⟨σ1, v2, g1, hf⟩ := zbi_use hf
  refine z_callVi (As := []) (rest := []) hC hI (cX12_taken_met st l D ad cy σ  _ g1) (zgV zw74_14 zw74_15 zw74_16 zw1_5 zw74_17) rfl ⟨rfl, rfl⟩ 0 hdX12_taken ⟨Nat.le_of_ble_eq_true rfl, Nat.le_of_ble_eq_true rfl⟩ rfl rfl (wM_e0 ad cy σ) rfl hl rfl (Nat.le_of_ble_eq_true rfl) dX12_takenWord_1 ⟨Nat.zero_le _, Nat.zero_le _⟩ (fun H locs hI => ?_)
  refine lv_istore_n (lv' := [(1, .int v2), (0, .ref (ad 0))]) hx hb dX12_takenWord_4 rfl hl (by decide) rfl (fun ls hl => ?_)
  refine lv_iload_n hx hb dX12_takenWord_5 rfl (lv_at hl 0 rfl) ?_
  refine lv_aload_n hx hb dX12_takenWord_6 rfl (lv_at hl 1 rfl) ?_
  obtain ⟨σ3, v4, g3, hf⟩ := zbi_use hf
  refine z_callVi (As := []) (rest := [.int v2]) hC hI (cX12_taken_met st l D ad cy σ1  _ g3) (zgV zw74_14 zw74_15 zw74_16 zw1_5 zw74_17) rfl ⟨rfl, rfl⟩ 0 hdX12_taken ⟨Nat.le_of_ble_eq_true rfl, Nat.le_of_ble_eq_true rfl⟩ rfl rfl (wM_e0 ad cy σ1) rfl hl rfl (Nat.le_of_ble_eq_true rfl) dX12_takenWord_7 ⟨Nat.zero_le _, Nat.zero_le _⟩ (fun H locs hI => ?_)
  refine lv_bipush (v := 8) hx hb dX12_takenWord_10 (by decide) ?_
  refine lv_ishl hx hb dX12_takenWord_12 ?_
  refine lv_ior hx hb dX12_takenWord_13 ?_
  exact z_ireturn hC hI hf dX12_takenWord_14
set_option maxRecDepth 20000 in
theorem cX12_takenWord_met (st : Nat → Nat) (l : Launch) (D : va_G) (ad : Nat → Nat) (cy : Nat → ClassId) (σ : zSt)  (res : zSt × Int32) (hf : fX12_takenWord σ  = some res) (sz : Nat) : zMi st l yX12_takenWord wzX12_takenWord rmX12_takenWord [.ref (ad 0)] D (tM cy) (wM ad cy) sz σ res :=
  zMi.of (cc := cX12_takenWord) (maxL := 2) (ret := (some .int)) (by decide) rfl (Nat.le_of_ble_eq_true rfl) (fun p e s m args below meth c hC A hI ls hl => bX12_takenWord hC hI hl hf)
theorem hdX12_takenWord : yX12_takenWord.cls = RX12 ∧ yX12_takenWord.cls ≠ "java/lang/invoke/MethodHandle" ∧ yX12_takenWord.cls ≠ "java/lang/invoke/VarHandle" ∧ (parseMethodDescriptor yX12_takenWord.desc).map (fun d => d.parameters.length) = some 0 := by decide +kernel
noncomputable def rmX12_sayHl : Room := { frames := 5, cells := 0, slots := 0, locals := 139 }
noncomputable def wzX12_sayHl : List Cond := .code yX12_sayHl cX12_sayHl 1 none :: wsL_law
theorem hinX12_sayHl_X120 : ∀ w ∈ wsX120, w ∈ wzX12_sayHl := fun w h => List.mem_cons_of_mem _ (inlX12 w h)
noncomputable def fX12_sayHl_31  (σ : zSt) (s0 : Nat) : Option (zSt) :=
  zbu (fX12_say σ s0) (fun σ1 =>
  some σ1)
noncomputable def fX12_sayHl  (σ : zSt)  : Option (zSt) :=
  if (zgi σ 0 41) = 0 then fX12_sayHl_31 σ 90 else
  if (zgi σ 0 41) = 1 then fX12_sayHl_31 σ 91 else
  fX12_sayHl_31 σ 92
set_option maxRecDepth 20000 in
set_option maxHeartbeats 4000000 in
theorem bX12_sayHl_31 {st : Nat → Nat} {p : Program} {l : Launch} {e : Env} {s : State} {m : MethodId} {args : Array Value} {below : List Frame} {meth : Method} {c : Code} {D : va_G} {A : Nat → Prop} {ad : Nat → Nat} {cy : Nat → ClassId} (hC : zC p m c cX12_sayHl 1 s args wzX12_sayHl RX12 meth none)  {res : zSt} {H : Heap} {locs : List Loc} {σ : zSt} {ls : Array Slot} {s0 : Nat} (hI : zI st D (tM cy) (wM ad cy σ) A s H locs) (hl : lv_has ls 1 []) (hf : fX12_sayHl_31  σ s0 = some res) : W p l e rmX12_sayHl s m args below meth c H locs 0 0 (zQu below args s D (tM cy) (wM ad cy) A res) (F0 m 31 ls [.ref (st (100 + s0)), .ref (ad 0)]) := by
  have hx := hC.1
  have hb := hC.2.1
  unfold fX12_sayHl_31 at hf
  obtain ⟨σ1, g1, hf⟩ := zbu_use hf
  refine z_callVu (As := [.ref (st (100 + s0))]) (rest := []) hC hI (cX12_say_met st l D ad cy σ s0 _ g1) (zgV zw74_23 zw75_0 zw75_1 zw1_5 zw75_2) rfl ⟨rfl, rfl⟩ 1 hdX12_say ⟨Nat.le_of_ble_eq_true rfl, Nat.le_of_ble_eq_true rfl⟩ rfl rfl (wM_e0 ad cy σ) rfl hl rfl (Nat.le_of_ble_eq_true rfl) dX12_sayHl_31 ⟨Nat.zero_le _, Nat.zero_le _⟩ (fun H locs hI => ?_)
  exact z_return hC hI hf dX12_sayHl_34
set_option maxRecDepth 20000 in
set_option maxHeartbeats 4000000 in
theorem bX12_sayHl {st : Nat → Nat} {p : Program} {l : Launch} {e : Env} {s : State} {m : MethodId} {args : Array Value} {below : List Frame} {meth : Method} {c : Code} {D : va_G} {A : Nat → Prop} {ad : Nat → Nat} {cy : Nat → ClassId} (hC : zC p m c cX12_sayHl 1 s args wzX12_sayHl RX12 meth none)  {res : zSt} {H : Heap} {locs : List Loc} {σ : zSt} {ls : Array Slot}  (hI : zI st D (tM cy) (wM ad cy σ) A s H locs) (hl : lv_has ls 1 [(0, .ref (ad 0))]) (hf : fX12_sayHl  σ  = some res) : W p l e rmX12_sayHl s m args below meth c H locs 0 0 (zQu below args s D (tM cy) (wM ad cy) A res) (F0 m 0 ls []) := by
  have hx := hC.1
  have hb := hC.2.1
  unfold fX12_sayHl at hf
  refine lv_aload_n hx hb dX12_sayHl_0 rfl (lv_at hl 0 rfl) ?_
  refine lv_aload_n hx hb dX12_sayHl_1 rfl (lv_at hl 0 rfl) ?_
  refine z_get hC hI hinX12_sayHl_X120 0 (wM_e0 ad cy σ) rfl 41 (by decide) (List.mem_cons_of_mem _ zw74_12) rfl dX12_sayHl_2 ?_
  refine lv_if_ne (tgt := 14) hx hb dX12_sayHl_5 (by decide) (fun q => ?_) (fun q => ?_)
  · replace hf := zif_f q hf
    refine lv_aload_n hx hb dX12_sayHl_14 rfl (lv_at hl 0 rfl) ?_
    refine z_get hC hI hinX12_sayHl_X120 0 (wM_e0 ad cy σ) rfl 41 (by decide) (List.mem_cons_of_mem _ zw74_12) rfl dX12_sayHl_15 ?_
    refine lv_iconst (v := 1) hx hb dX12_sayHl_18 (by decide) ?_
    refine lv_icmp_ne (tgt := 28) hx hb dX12_sayHl_19 (by decide) (fun q => ?_) (fun q => ?_)
    · replace hf := zif_f q hf
      refine z_ldcSW hC hI 92 (by decide) rfl rfl dX12_sayHl_28 ?_
      exact bX12_sayHl_31 hC  hI (lv_sub hl [] rfl) hf
    replace hf := zif_t q hf
    refine z_ldcSW hC hI 91 (by decide) rfl rfl dX12_sayHl_22 ?_
    refine lv_goto (tgt := 31) hx hb dX12_sayHl_25 (by decide) ?_
    exact bX12_sayHl_31 hC  hI (lv_sub hl [] rfl) hf
  replace hf := zif_t q hf
  refine z_ldcSW hC hI 90 (by decide) rfl rfl dX12_sayHl_8 ?_
  refine lv_goto (tgt := 31) hx hb dX12_sayHl_11 (by decide) ?_
  exact bX12_sayHl_31 hC  hI (lv_sub hl [] rfl) hf
set_option maxRecDepth 20000 in
theorem cX12_sayHl_met (st : Nat → Nat) (l : Launch) (D : va_G) (ad : Nat → Nat) (cy : Nat → ClassId) (σ : zSt)  (res : zSt) (hf : fX12_sayHl σ  = some res) (sz : Nat) : zMu st l yX12_sayHl wzX12_sayHl rmX12_sayHl [.ref (ad 0)] D (tM cy) (wM ad cy) sz σ res :=
  zMu.of (cc := cX12_sayHl) (maxL := 1) (ret := none) (by decide) rfl (Nat.le_of_ble_eq_true rfl) (fun p e s m args below meth c hC A hI ls hl => bX12_sayHl hC hI hl hf)
theorem hdX12_sayHl : yX12_sayHl.cls = RX12 ∧ yX12_sayHl.cls ≠ "java/lang/invoke/MethodHandle" ∧ yX12_sayHl.cls ≠ "java/lang/invoke/VarHandle" ∧ (parseMethodDescriptor yX12_sayHl.desc).map (fun d => d.parameters.length) = some 0 := by decide +kernel
noncomputable def rmX12_sayPlace : Room := { frames := 5, cells := 0, slots := 0, locals := 139 }
noncomputable def wzX12_sayPlace : List Cond := .code yX12_sayPlace cX12_sayPlace 1 none :: wsL_law
theorem hinX12_sayPlace_X120 : ∀ w ∈ wsX120, w ∈ wzX12_sayPlace := fun w h => List.mem_cons_of_mem _ (inlX12 w h)
noncomputable def fX12_sayPlace_76  (σ : zSt) (s0 : Int32) : Option (zSt) :=
  zbu (fX12_hex σ s0 2) (fun σ1 =>
  zbu (fX12_say σ1 89) (fun σ2 =>
  some σ2))
noncomputable def fX12_sayPlace_53  (σ : zSt) (s0 : Nat) : Option (zSt) :=
  zbu (fX12_say σ s0) (fun σ3 =>
  if 0 ≤ (zgi σ3 0 43) then fX12_sayPlace_76 σ3 (zgi σ3 0 43) else
  fX12_sayPlace_76 σ3 (-(zgi σ3 0 43)))
noncomputable def fX12_sayPlace_33  (σ : zSt) (s0 : Nat) : Option (zSt) :=
  zbu (fX12_say σ s0) (fun σ4 =>
  if 0 ≤ (zgi σ4 0 43) then fX12_sayPlace_53 σ4 88 else
  fX12_sayPlace_53 σ4 87)
noncomputable def fX12_sayPlace  (σ : zSt)  : Option (zSt) :=
  if (zgi σ 0 42) = 0 then zbu (fX12_say σ 84) (fun σ5 =>
  some σ5) else
  if (zgi σ 0 41) = 1 then fX12_sayPlace_33 σ 85 else
  fX12_sayPlace_33 σ 86
set_option maxRecDepth 20000 in
set_option maxHeartbeats 4000000 in
theorem bX12_sayPlace_76 {st : Nat → Nat} {p : Program} {l : Launch} {e : Env} {s : State} {m : MethodId} {args : Array Value} {below : List Frame} {meth : Method} {c : Code} {D : va_G} {A : Nat → Prop} {ad : Nat → Nat} {cy : Nat → ClassId} (hC : zC p m c cX12_sayPlace 1 s args wzX12_sayPlace RX12 meth none)  {res : zSt} {H : Heap} {locs : List Loc} {σ : zSt} {ls : Array Slot} {s0 : Int32} (hI : zI st D (tM cy) (wM ad cy σ) A s H locs) (hl : lv_has ls 1 [(0, .ref (ad 0))]) (hf : fX12_sayPlace_76  σ s0 = some res) : W p l e rmX12_sayPlace s m args below meth c H locs 0 0 (zQu below args s D (tM cy) (wM ad cy) A res) (F0 m 76 ls [.int s0, .ref (ad 0)]) := by
  have hx := hC.1
  have hb := hC.2.1
  unfold fX12_sayPlace_76 at hf
  refine lv_iconst (v := 2) hx hb dX12_sayPlace_76 (by decide) ?_
  obtain ⟨σ1, g1, hf⟩ := zbu_use hf
  refine z_callVu (As := [.int s0, .int 2]) (rest := []) hC hI (cX12_hex_met st l D ad cy σ s0 2 _ g1) (zgV zw75_8 zw75_9 zw75_10 zw1_5 zw75_11) rfl ⟨rfl, rfl⟩ 2 hdX12_hex ⟨Nat.le_of_ble_eq_true rfl, Nat.le_of_ble_eq_true rfl⟩ rfl rfl (wM_e0 ad cy σ) rfl hl rfl (Nat.le_of_ble_eq_true rfl) dX12_sayPlace_77 ⟨Nat.zero_le _, Nat.zero_le _⟩ (fun H locs hI => ?_)
  refine lv_aload_n hx hb dX12_sayPlace_80 rfl (lv_at hl 0 rfl) ?_
  refine z_ldcSW hC hI 89 (by decide) rfl rfl dX12_sayPlace_81 ?_
  obtain ⟨σ2, g2, hf⟩ := zbu_use hf
  refine z_callVu (As := [.ref (st (100 + 89))]) (rest := []) hC hI (cX12_say_met st l D ad cy σ1 89 _ g2) (zgV zw74_23 zw75_0 zw75_1 zw1_5 zw75_2) rfl ⟨rfl, rfl⟩ 1 hdX12_say ⟨Nat.le_of_ble_eq_true rfl, Nat.le_of_ble_eq_true rfl⟩ rfl rfl (wM_e0 ad cy σ1) rfl hl rfl (Nat.le_of_ble_eq_true rfl) dX12_sayPlace_84 ⟨Nat.zero_le _, Nat.zero_le _⟩ (fun H locs hI => ?_)
  exact z_return hC hI hf dX12_sayPlace_87
set_option maxRecDepth 20000 in
set_option maxHeartbeats 4000000 in
theorem bX12_sayPlace_53 {st : Nat → Nat} {p : Program} {l : Launch} {e : Env} {s : State} {m : MethodId} {args : Array Value} {below : List Frame} {meth : Method} {c : Code} {D : va_G} {A : Nat → Prop} {ad : Nat → Nat} {cy : Nat → ClassId} (hC : zC p m c cX12_sayPlace 1 s args wzX12_sayPlace RX12 meth none)  {res : zSt} {H : Heap} {locs : List Loc} {σ : zSt} {ls : Array Slot} {s0 : Nat} (hI : zI st D (tM cy) (wM ad cy σ) A s H locs) (hl : lv_has ls 1 [(0, .ref (ad 0))]) (hf : fX12_sayPlace_53  σ s0 = some res) : W p l e rmX12_sayPlace s m args below meth c H locs 0 0 (zQu below args s D (tM cy) (wM ad cy) A res) (F0 m 53 ls [.ref (st (100 + s0)), .ref (ad 0)]) := by
  have hx := hC.1
  have hb := hC.2.1
  unfold fX12_sayPlace_53 at hf
  obtain ⟨σ3, g3, hf⟩ := zbu_use hf
  refine z_callVu (As := [.ref (st (100 + s0))]) (rest := []) hC hI (cX12_say_met st l D ad cy σ s0 _ g3) (zgV zw74_23 zw75_0 zw75_1 zw1_5 zw75_2) rfl ⟨rfl, rfl⟩ 1 hdX12_say ⟨Nat.le_of_ble_eq_true rfl, Nat.le_of_ble_eq_true rfl⟩ rfl rfl (wM_e0 ad cy σ) rfl hl rfl (Nat.le_of_ble_eq_true rfl) dX12_sayPlace_53 ⟨Nat.zero_le _, Nat.zero_le _⟩ (fun H locs hI => ?_)
  refine lv_aload_n hx hb dX12_sayPlace_56 rfl (lv_at hl 0 rfl) ?_
  refine lv_aload_n hx hb dX12_sayPlace_57 rfl (lv_at hl 0 rfl) ?_
  refine z_get hC hI hinX12_sayPlace_X120 0 (wM_e0 ad cy σ3) rfl 43 (by decide) (List.mem_cons_of_mem _ zw74_22) rfl dX12_sayPlace_58 ?_
  refine lv_if_ge (tgt := 72) hx hb dX12_sayPlace_61 (by decide) (fun q => ?_) (fun q => ?_)
  · replace hf := zif_t q hf
    refine lv_aload_n hx hb dX12_sayPlace_72 rfl (lv_at hl 0 rfl) ?_
    refine z_get hC hI hinX12_sayPlace_X120 0 (wM_e0 ad cy σ3) rfl 43 (by decide) (List.mem_cons_of_mem _ zw74_22) rfl dX12_sayPlace_73 ?_
    exact bX12_sayPlace_76 hC  hI hl hf
  replace hf := zif_f q hf
  refine lv_aload_n hx hb dX12_sayPlace_64 rfl (lv_at hl 0 rfl) ?_
  refine z_get hC hI hinX12_sayPlace_X120 0 (wM_e0 ad cy σ3) rfl 43 (by decide) (List.mem_cons_of_mem _ zw74_22) rfl dX12_sayPlace_65 ?_
  refine lv_ineg hx hb dX12_sayPlace_68 ?_
  refine lv_goto (tgt := 76) hx hb dX12_sayPlace_69 (by decide) ?_
  exact bX12_sayPlace_76 hC  hI hl hf
set_option maxRecDepth 20000 in
set_option maxHeartbeats 4000000 in
theorem bX12_sayPlace_33 {st : Nat → Nat} {p : Program} {l : Launch} {e : Env} {s : State} {m : MethodId} {args : Array Value} {below : List Frame} {meth : Method} {c : Code} {D : va_G} {A : Nat → Prop} {ad : Nat → Nat} {cy : Nat → ClassId} (hC : zC p m c cX12_sayPlace 1 s args wzX12_sayPlace RX12 meth none)  {res : zSt} {H : Heap} {locs : List Loc} {σ : zSt} {ls : Array Slot} {s0 : Nat} (hI : zI st D (tM cy) (wM ad cy σ) A s H locs) (hl : lv_has ls 1 [(0, .ref (ad 0))]) (hf : fX12_sayPlace_33  σ s0 = some res) : W p l e rmX12_sayPlace s m args below meth c H locs 0 0 (zQu below args s D (tM cy) (wM ad cy) A res) (F0 m 33 ls [.ref (st (100 + s0)), .ref (ad 0)]) := by
  have hx := hC.1
  have hb := hC.2.1
  unfold fX12_sayPlace_33 at hf
  obtain ⟨σ4, g4, hf⟩ := zbu_use hf
  refine z_callVu (As := [.ref (st (100 + s0))]) (rest := []) hC hI (cX12_say_met st l D ad cy σ s0 _ g4) (zgV zw74_23 zw75_0 zw75_1 zw1_5 zw75_2) rfl ⟨rfl, rfl⟩ 1 hdX12_say ⟨Nat.le_of_ble_eq_true rfl, Nat.le_of_ble_eq_true rfl⟩ rfl rfl (wM_e0 ad cy σ) rfl hl rfl (Nat.le_of_ble_eq_true rfl) dX12_sayPlace_33 ⟨Nat.zero_le _, Nat.zero_le _⟩ (fun H locs hI => ?_)
  refine lv_aload_n hx hb dX12_sayPlace_36 rfl (lv_at hl 0 rfl) ?_
  refine lv_aload_n hx hb dX12_sayPlace_37 rfl (lv_at hl 0 rfl) ?_
  refine z_get hC hI hinX12_sayPlace_X120 0 (wM_e0 ad cy σ4) rfl 43 (by decide) (List.mem_cons_of_mem _ zw74_22) rfl dX12_sayPlace_38 ?_
  refine lv_if_ge (tgt := 50) hx hb dX12_sayPlace_41 (by decide) (fun q => ?_) (fun q => ?_)
  · replace hf := zif_t q hf
    refine z_ldcSW hC hI 88 (by decide) rfl rfl dX12_sayPlace_50 ?_
    exact bX12_sayPlace_53 hC  hI hl hf
  replace hf := zif_f q hf
  refine z_ldcSW hC hI 87 (by decide) rfl rfl dX12_sayPlace_44 ?_
  refine lv_goto (tgt := 53) hx hb dX12_sayPlace_47 (by decide) ?_
  exact bX12_sayPlace_53 hC  hI hl hf
set_option maxRecDepth 20000 in
set_option maxHeartbeats 4000000 in
theorem bX12_sayPlace {st : Nat → Nat} {p : Program} {l : Launch} {e : Env} {s : State} {m : MethodId} {args : Array Value} {below : List Frame} {meth : Method} {c : Code} {D : va_G} {A : Nat → Prop} {ad : Nat → Nat} {cy : Nat → ClassId} (hC : zC p m c cX12_sayPlace 1 s args wzX12_sayPlace RX12 meth none)  {res : zSt} {H : Heap} {locs : List Loc} {σ : zSt} {ls : Array Slot}  (hI : zI st D (tM cy) (wM ad cy σ) A s H locs) (hl : lv_has ls 1 [(0, .ref (ad 0))]) (hf : fX12_sayPlace  σ  = some res) : W p l e rmX12_sayPlace s m args below meth c H locs 0 0 (zQu below args s D (tM cy) (wM ad cy) A res) (F0 m 0 ls []) := by
  have hx := hC.1
  have hb := hC.2.1
  unfold fX12_sayPlace at hf
  refine lv_aload_n hx hb dX12_sayPlace_0 rfl (lv_at hl 0 rfl) ?_
  refine z_get hC hI hinX12_sayPlace_X120 0 (wM_e0 ad cy σ) rfl 42 (by decide) (List.mem_cons_of_mem _ zw74_13) rfl dX12_sayPlace_1 ?_
  refine lv_if_ne (tgt := 15) hx hb dX12_sayPlace_4 (by decide) (fun q => ?_) (fun q => ?_)
  · replace hf := zif_f q hf
    refine lv_aload_n hx hb dX12_sayPlace_15 rfl (lv_at hl 0 rfl) ?_
    refine lv_aload_n hx hb dX12_sayPlace_16 rfl (lv_at hl 0 rfl) ?_
    refine z_get hC hI hinX12_sayPlace_X120 0 (wM_e0 ad cy σ) rfl 41 (by decide) (List.mem_cons_of_mem _ zw74_12) rfl dX12_sayPlace_17 ?_
    refine lv_iconst (v := 1) hx hb dX12_sayPlace_20 (by decide) ?_
    refine lv_icmp_ne (tgt := 30) hx hb dX12_sayPlace_21 (by decide) (fun q => ?_) (fun q => ?_)
    · replace hf := zif_f q hf
      refine z_ldcSW hC hI 86 (by decide) rfl rfl dX12_sayPlace_30 ?_
      exact bX12_sayPlace_33 hC  hI hl hf
    replace hf := zif_t q hf
    refine z_ldcSW hC hI 85 (by decide) rfl rfl dX12_sayPlace_24 ?_
    refine lv_goto (tgt := 33) hx hb dX12_sayPlace_27 (by decide) ?_
    exact bX12_sayPlace_33 hC  hI hl hf
  replace hf := zif_t q hf
  refine lv_aload_n hx hb dX12_sayPlace_7 rfl (lv_at hl 0 rfl) ?_
  refine z_ldcSW hC hI 84 (by decide) rfl rfl dX12_sayPlace_8 ?_
  obtain ⟨σ5, g5, hf⟩ := zbu_use hf
  refine z_callVu (As := [.ref (st (100 + 84))]) (rest := []) hC hI (cX12_say_met st l D ad cy σ 84 _ g5) (zgV zw74_23 zw75_0 zw75_1 zw1_5 zw75_2) rfl ⟨rfl, rfl⟩ 1 hdX12_say ⟨Nat.le_of_ble_eq_true rfl, Nat.le_of_ble_eq_true rfl⟩ rfl rfl (wM_e0 ad cy σ) rfl hl rfl (Nat.le_of_ble_eq_true rfl) dX12_sayPlace_11 ⟨Nat.zero_le _, Nat.zero_le _⟩ (fun H locs hI => ?_)
  exact z_return hC hI hf dX12_sayPlace_14
set_option maxRecDepth 20000 in
theorem cX12_sayPlace_met (st : Nat → Nat) (l : Launch) (D : va_G) (ad : Nat → Nat) (cy : Nat → ClassId) (σ : zSt)  (res : zSt) (hf : fX12_sayPlace σ  = some res) (sz : Nat) : zMu st l yX12_sayPlace wzX12_sayPlace rmX12_sayPlace [.ref (ad 0)] D (tM cy) (wM ad cy) sz σ res :=
  zMu.of (cc := cX12_sayPlace) (maxL := 1) (ret := none) (by decide) rfl (Nat.le_of_ble_eq_true rfl) (fun p e s m args below meth c hC A hI ls hl => bX12_sayPlace hC hI hl hf)
theorem hdX12_sayPlace : yX12_sayPlace.cls = RX12 ∧ yX12_sayPlace.cls ≠ "java/lang/invoke/MethodHandle" ∧ yX12_sayPlace.cls ≠ "java/lang/invoke/VarHandle" ∧ (parseMethodDescriptor yX12_sayPlace.desc).map (fun d => d.parameters.length) = some 0 := by decide +kernel
noncomputable def rmX12_sayR : Room := { frames := 6, cells := 0, slots := 0, locals := 159 }
noncomputable def wzX12_sayR : List Cond := .code yX12_sayR cX12_sayR 2 none :: wsL_law
theorem hinX12_sayR_X120 : ∀ w ∈ wsX120, w ∈ wzX12_sayR := fun w h => List.mem_cons_of_mem _ (inlX12 w h)
noncomputable def fX12_sayR_108  (σ : zSt) (s0 : Nat) : Option (zSt) :=
  zbu (fX12_say σ s0) (fun σ1 =>
  some σ1)
noncomputable def fX12_sayR_39  (σ : zSt) (x1 : Int32) : Option (zSt) :=
  if x1 = 0 then fX12_sayR_108 σ 93 else
  if x1 = 1 then fX12_sayR_108 σ 94 else
  if x1 = 2 then fX12_sayR_108 σ 95 else
  if x1 = 3 then fX12_sayR_108 σ 96 else
  if x1 = 4 then fX12_sayR_108 σ 97 else
  if x1 = 5 then fX12_sayR_108 σ 98 else
  fX12_sayR_108 σ 99
noncomputable def fX12_sayR_35  (σ : zSt) (x1 : Int32) : Option (zSt) :=
  zbu (fX12_sayHl σ ) (fun σ2 =>
  fX12_sayR_39 σ2 x1)
noncomputable def fX12_sayR  (σ : zSt) (x1 : Int32) : Option (zSt) :=
  if x1 = 6 then zbu (fX12_sayPlace σ ) (fun σ3 =>
  some σ3) else
  if (zgi σ 0 41) ≤ 0 then fX12_sayR_39 σ x1 else
  if (zgi σ 0 42) = 0 then if x1 = 4 then fX12_sayR_35 σ x1 else
  if x1 = 5 then fX12_sayR_35 σ x1 else
  fX12_sayR_39 σ x1 else
  fX12_sayR_39 σ x1
set_option maxRecDepth 20000 in
set_option maxHeartbeats 4000000 in
theorem bX12_sayR_108 {st : Nat → Nat} {p : Program} {l : Launch} {e : Env} {s : State} {m : MethodId} {args : Array Value} {below : List Frame} {meth : Method} {c : Code} {D : va_G} {A : Nat → Prop} {ad : Nat → Nat} {cy : Nat → ClassId} (hC : zC p m c cX12_sayR 2 s args wzX12_sayR RX12 meth none)  {res : zSt} {H : Heap} {locs : List Loc} {σ : zSt} {ls : Array Slot} {s0 : Nat} (hI : zI st D (tM cy) (wM ad cy σ) A s H locs) (hl : lv_has ls 2 []) (hf : fX12_sayR_108  σ s0 = some res) : W p l e rmX12_sayR s m args below meth c H locs 0 0 (zQu below args s D (tM cy) (wM ad cy) A res) (F0 m 108 ls [.ref (st (100 + s0)), .ref (ad 0)]) := by
  have hx := hC.1
  have hb := hC.2.1
  unfold fX12_sayR_108 at hf
  obtain ⟨σ1, g1, hf⟩ := zbu_use hf
  refine z_callVu (As := [.ref (st (100 + s0))]) (rest := []) hC hI (cX12_say_met st l D ad cy σ s0 _ g1) (zgV zw74_23 zw75_0 zw75_1 zw1_5 zw75_2) rfl ⟨rfl, rfl⟩ 1 hdX12_say ⟨Nat.le_of_ble_eq_true rfl, Nat.le_of_ble_eq_true rfl⟩ rfl rfl (wM_e0 ad cy σ) rfl hl rfl (Nat.le_of_ble_eq_true rfl) dX12_sayR_108 ⟨Nat.zero_le _, Nat.zero_le _⟩ (fun H locs hI => ?_)
  exact z_return hC hI hf dX12_sayR_111
set_option maxRecDepth 20000 in
set_option maxHeartbeats 4000000 in
theorem bX12_sayR_39 {st : Nat → Nat} {p : Program} {l : Launch} {e : Env} {s : State} {m : MethodId} {args : Array Value} {below : List Frame} {meth : Method} {c : Code} {D : va_G} {A : Nat → Prop} {ad : Nat → Nat} {cy : Nat → ClassId} (hC : zC p m c cX12_sayR 2 s args wzX12_sayR RX12 meth none)  {res : zSt} {H : Heap} {locs : List Loc} {σ : zSt} {ls : Array Slot} {x1 : Int32} (hI : zI st D (tM cy) (wM ad cy σ) A s H locs) (hl : lv_has ls 2 [(0, .ref (ad 0)), (1, .int x1)]) (hf : fX12_sayR_39  σ x1 = some res) : W p l e rmX12_sayR s m args below meth c H locs 0 0 (zQu below args s D (tM cy) (wM ad cy) A res) (F0 m 39 ls []) := by
  have hx := hC.1
  have hb := hC.2.1
  unfold fX12_sayR_39 at hf
  refine lv_aload_n hx hb dX12_sayR_39 rfl (lv_at hl 0 rfl) ?_
  refine lv_iload_n hx hb dX12_sayR_40 rfl (lv_at hl 1 rfl) ?_
  refine lv_if_ne (tgt := 50) hx hb dX12_sayR_41 (by decide) (fun q => ?_) (fun q => ?_)
  · replace hf := zif_f q hf
    refine lv_iload_n hx hb dX12_sayR_50 rfl (lv_at hl 1 rfl) ?_
    refine lv_iconst (v := 1) hx hb dX12_sayR_51 (by decide) ?_
    refine lv_icmp_ne (tgt := 61) hx hb dX12_sayR_52 (by decide) (fun q => ?_) (fun q => ?_)
    · replace hf := zif_f q hf
      refine lv_iload_n hx hb dX12_sayR_61 rfl (lv_at hl 1 rfl) ?_
      refine lv_iconst (v := 2) hx hb dX12_sayR_62 (by decide) ?_
      refine lv_icmp_ne (tgt := 72) hx hb dX12_sayR_63 (by decide) (fun q => ?_) (fun q => ?_)
      · replace hf := zif_f q hf
        refine lv_iload_n hx hb dX12_sayR_72 rfl (lv_at hl 1 rfl) ?_
        refine lv_iconst (v := 3) hx hb dX12_sayR_73 (by decide) ?_
        refine lv_icmp_ne (tgt := 83) hx hb dX12_sayR_74 (by decide) (fun q => ?_) (fun q => ?_)
        · replace hf := zif_f q hf
          refine lv_iload_n hx hb dX12_sayR_83 rfl (lv_at hl 1 rfl) ?_
          refine lv_iconst (v := 4) hx hb dX12_sayR_84 (by decide) ?_
          refine lv_icmp_ne (tgt := 94) hx hb dX12_sayR_85 (by decide) (fun q => ?_) (fun q => ?_)
          · replace hf := zif_f q hf
            refine lv_iload_n hx hb dX12_sayR_94 rfl (lv_at hl 1 rfl) ?_
            refine lv_iconst (v := 5) hx hb dX12_sayR_95 (by decide) ?_
            refine lv_icmp_ne (tgt := 105) hx hb dX12_sayR_96 (by decide) (fun q => ?_) (fun q => ?_)
            · replace hf := zif_f q hf
              refine z_ldcSW hC hI 99 (by decide) rfl rfl dX12_sayR_105 ?_
              exact bX12_sayR_108 hC  hI (lv_sub hl [] rfl) hf
            replace hf := zif_t q hf
            refine z_ldcSW hC hI 98 (by decide) rfl rfl dX12_sayR_99 ?_
            refine lv_goto (tgt := 108) hx hb dX12_sayR_102 (by decide) ?_
            exact bX12_sayR_108 hC  hI (lv_sub hl [] rfl) hf
          replace hf := zif_t q hf
          refine z_ldcSW hC hI 97 (by decide) rfl rfl dX12_sayR_88 ?_
          refine lv_goto (tgt := 108) hx hb dX12_sayR_91 (by decide) ?_
          exact bX12_sayR_108 hC  hI (lv_sub hl [] rfl) hf
        replace hf := zif_t q hf
        refine z_ldcSW hC hI 96 (by decide) rfl rfl dX12_sayR_77 ?_
        refine lv_goto (tgt := 108) hx hb dX12_sayR_80 (by decide) ?_
        exact bX12_sayR_108 hC  hI (lv_sub hl [] rfl) hf
      replace hf := zif_t q hf
      refine z_ldcSW hC hI 95 (by decide) rfl rfl dX12_sayR_66 ?_
      refine lv_goto (tgt := 108) hx hb dX12_sayR_69 (by decide) ?_
      exact bX12_sayR_108 hC  hI (lv_sub hl [] rfl) hf
    replace hf := zif_t q hf
    refine z_ldcSW hC hI 94 (by decide) rfl rfl dX12_sayR_55 ?_
    refine lv_goto (tgt := 108) hx hb dX12_sayR_58 (by decide) ?_
    exact bX12_sayR_108 hC  hI (lv_sub hl [] rfl) hf
  replace hf := zif_t q hf
  refine z_ldcSW hC hI 93 (by decide) rfl rfl dX12_sayR_44 ?_
  refine lv_goto (tgt := 108) hx hb dX12_sayR_47 (by decide) ?_
  exact bX12_sayR_108 hC  hI (lv_sub hl [] rfl) hf
set_option maxRecDepth 20000 in
set_option maxHeartbeats 4000000 in
theorem bX12_sayR_35 {st : Nat → Nat} {p : Program} {l : Launch} {e : Env} {s : State} {m : MethodId} {args : Array Value} {below : List Frame} {meth : Method} {c : Code} {D : va_G} {A : Nat → Prop} {ad : Nat → Nat} {cy : Nat → ClassId} (hC : zC p m c cX12_sayR 2 s args wzX12_sayR RX12 meth none)  {res : zSt} {H : Heap} {locs : List Loc} {σ : zSt} {ls : Array Slot} {x1 : Int32} (hI : zI st D (tM cy) (wM ad cy σ) A s H locs) (hl : lv_has ls 2 [(0, .ref (ad 0)), (1, .int x1)]) (hf : fX12_sayR_35  σ x1 = some res) : W p l e rmX12_sayR s m args below meth c H locs 0 0 (zQu below args s D (tM cy) (wM ad cy) A res) (F0 m 35 ls []) := by
  have hx := hC.1
  have hb := hC.2.1
  unfold fX12_sayR_35 at hf
  refine lv_aload_n hx hb dX12_sayR_35 rfl (lv_at hl 0 rfl) ?_
  obtain ⟨σ2, g2, hf⟩ := zbu_use hf
  refine z_callVu (As := []) (rest := []) hC hI (cX12_sayHl_met st l D ad cy σ  _ g2) (zgV zw75_20 zw75_21 zw75_22 zw1_5 zw75_23) rfl ⟨rfl, rfl⟩ 0 hdX12_sayHl ⟨Nat.le_of_ble_eq_true rfl, Nat.le_of_ble_eq_true rfl⟩ rfl rfl (wM_e0 ad cy σ) rfl hl rfl (Nat.le_of_ble_eq_true rfl) dX12_sayR_36 ⟨Nat.zero_le _, Nat.zero_le _⟩ (fun H locs hI => ?_)
  exact bX12_sayR_39 hC  hI hl hf
set_option maxRecDepth 20000 in
set_option maxHeartbeats 4000000 in
theorem bX12_sayR {st : Nat → Nat} {p : Program} {l : Launch} {e : Env} {s : State} {m : MethodId} {args : Array Value} {below : List Frame} {meth : Method} {c : Code} {D : va_G} {A : Nat → Prop} {ad : Nat → Nat} {cy : Nat → ClassId} (hC : zC p m c cX12_sayR 2 s args wzX12_sayR RX12 meth none)  {res : zSt} {H : Heap} {locs : List Loc} {σ : zSt} {ls : Array Slot} {x1 : Int32} (hI : zI st D (tM cy) (wM ad cy σ) A s H locs) (hl : lv_has ls 2 [(0, .ref (ad 0)), (1, .int x1)]) (hf : fX12_sayR  σ x1 = some res) : W p l e rmX12_sayR s m args below meth c H locs 0 0 (zQu below args s D (tM cy) (wM ad cy) A res) (F0 m 0 ls []) := by
  have hx := hC.1
  have hb := hC.2.1
  unfold fX12_sayR at hf
  refine lv_iload_n hx hb dX12_sayR_0 rfl (lv_at hl 1 rfl) ?_
  refine lv_bipush (v := 6) hx hb dX12_sayR_1 (by decide) ?_
  refine lv_icmp_ne (tgt := 11) hx hb dX12_sayR_3 (by decide) (fun q => ?_) (fun q => ?_)
  · replace hf := zif_f q hf
    refine lv_aload_n hx hb dX12_sayR_11 rfl (lv_at hl 0 rfl) ?_
    refine z_get hC hI hinX12_sayR_X120 0 (wM_e0 ad cy σ) rfl 41 (by decide) (List.mem_cons_of_mem _ zw74_12) rfl dX12_sayR_12 ?_
    refine lv_if_le (tgt := 39) hx hb dX12_sayR_15 (by decide) (fun q => ?_) (fun q => ?_)
    · replace hf := zif_t q hf
      exact bX12_sayR_39 hC  hI hl hf
    replace hf := zif_f q hf
    refine lv_aload_n hx hb dX12_sayR_18 rfl (lv_at hl 0 rfl) ?_
    refine z_get hC hI hinX12_sayR_X120 0 (wM_e0 ad cy σ) rfl 42 (by decide) (List.mem_cons_of_mem _ zw74_13) rfl dX12_sayR_19 ?_
    refine lv_if_ne (tgt := 39) hx hb dX12_sayR_22 (by decide) (fun q => ?_) (fun q => ?_)
    · replace hf := zif_f q hf
      exact bX12_sayR_39 hC  hI hl hf
    replace hf := zif_t q hf
    refine lv_iload_n hx hb dX12_sayR_25 rfl (lv_at hl 1 rfl) ?_
    refine lv_iconst (v := 4) hx hb dX12_sayR_26 (by decide) ?_
    refine lv_icmp_eq (tgt := 35) hx hb dX12_sayR_27 (by decide) (fun q => ?_) (fun q => ?_)
    · replace hf := zif_t q hf
      exact bX12_sayR_35 hC  hI hl hf
    replace hf := zif_f q hf
    refine lv_iload_n hx hb dX12_sayR_30 rfl (lv_at hl 1 rfl) ?_
    refine lv_iconst (v := 5) hx hb dX12_sayR_31 (by decide) ?_
    refine lv_icmp_ne (tgt := 39) hx hb dX12_sayR_32 (by decide) (fun q => ?_) (fun q => ?_)
    · replace hf := zif_f q hf
      exact bX12_sayR_39 hC  hI hl hf
    replace hf := zif_t q hf
    exact bX12_sayR_35 hC  hI hl hf
  replace hf := zif_t q hf
  refine lv_aload_n hx hb dX12_sayR_6 rfl (lv_at hl 0 rfl) ?_
  obtain ⟨σ3, g3, hf⟩ := zbu_use hf
  refine z_callVu (As := []) (rest := []) hC hI (cX12_sayPlace_met st l D ad cy σ  _ g3) (zgV zw75_16 zw75_17 zw75_18 zw1_5 zw75_19) rfl ⟨rfl, rfl⟩ 0 hdX12_sayPlace ⟨Nat.le_of_ble_eq_true rfl, Nat.le_of_ble_eq_true rfl⟩ rfl rfl (wM_e0 ad cy σ) rfl hl rfl (Nat.le_of_ble_eq_true rfl) dX12_sayR_7 ⟨Nat.zero_le _, Nat.zero_le _⟩ (fun H locs hI => ?_)
  exact z_return hC hI hf dX12_sayR_10
set_option maxRecDepth 20000 in
theorem cX12_sayR_met (st : Nat → Nat) (l : Launch) (D : va_G) (ad : Nat → Nat) (cy : Nat → ClassId) (σ : zSt) (x1 : Int32) (res : zSt) (hf : fX12_sayR σ x1 = some res) (sz : Nat) : zMu st l yX12_sayR wzX12_sayR rmX12_sayR [.ref (ad 0), .int x1] D (tM cy) (wM ad cy) sz σ res :=
  zMu.of (cc := cX12_sayR) (maxL := 2) (ret := none) (by decide) rfl (Nat.le_of_ble_eq_true rfl) (fun p e s m args below meth c hC A hI ls hl => bX12_sayR hC hI hl hf)
theorem hdX12_sayR : yX12_sayR.cls = RX12 ∧ yX12_sayR.cls ≠ "java/lang/invoke/MethodHandle" ∧ yX12_sayR.cls ≠ "java/lang/invoke/VarHandle" ∧ (parseMethodDescriptor yX12_sayR.desc).map (fun d => d.parameters.length) = some 1 := by decide +kernel
noncomputable def rmX12_sayRp : Room := { frames := 6, cells := 0, slots := 0, locals := 159 }
noncomputable def wzX12_sayRp : List Cond := .code yX12_sayRp cX12_sayRp 3 none :: wsL_law
noncomputable def fX12_sayRp_50  (σ : zSt)  : Option (zSt) :=
  some σ
noncomputable def fX12_sayRp_47  (σ : zSt) (s0 : Nat) : Option (zSt) :=
  zbu (fX12_say σ s0) (fun σ1 =>
  fX12_sayRp_50 σ1)
noncomputable def fX12_sayRp  (σ : zSt) (x1 : Int32) (x2 : Int32) : Option (zSt) :=
  if x1 = 2 then zbu (fX12_sayHl σ ) (fun σ2 =>
  fX12_sayRp_50 σ2) else
  if x1 = 0 then fX12_sayRp_47 σ 112 else
  if x1 = 1 then fX12_sayRp_47 σ 113 else
  if x2 = 0 then fX12_sayRp_47 σ 115 else
  fX12_sayRp_47 σ 114
set_option maxRecDepth 20000 in
set_option maxHeartbeats 4000000 in
theorem bX12_sayRp_50 {st : Nat → Nat} {p : Program} {l : Launch} {e : Env} {s : State} {m : MethodId} {args : Array Value} {below : List Frame} {meth : Method} {c : Code} {D : va_G} {A : Nat → Prop} {ad : Nat → Nat} {cy : Nat → ClassId} (hC : zC p m c cX12_sayRp 3 s args wzX12_sayRp RX12 meth none)  {res : zSt} {H : Heap} {locs : List Loc} {σ : zSt} {ls : Array Slot}  (hI : zI st D (tM cy) (wM ad cy σ) A s H locs) (hl : lv_has ls 3 []) (hf : fX12_sayRp_50  σ  = some res) : W p l e rmX12_sayRp s m args below meth c H locs 0 0 (zQu below args s D (tM cy) (wM ad cy) A res) (F0 m 50 ls []) := by
  have hx := hC.1
  have hb := hC.2.1
  unfold fX12_sayRp_50 at hf
  exact z_return hC hI hf dX12_sayRp_50
set_option maxRecDepth 20000 in
set_option maxHeartbeats 4000000 in
theorem bX12_sayRp_47 {st : Nat → Nat} {p : Program} {l : Launch} {e : Env} {s : State} {m : MethodId} {args : Array Value} {below : List Frame} {meth : Method} {c : Code} {D : va_G} {A : Nat → Prop} {ad : Nat → Nat} {cy : Nat → ClassId} (hC : zC p m c cX12_sayRp 3 s args wzX12_sayRp RX12 meth none)  {res : zSt} {H : Heap} {locs : List Loc} {σ : zSt} {ls : Array Slot} {s0 : Nat} (hI : zI st D (tM cy) (wM ad cy σ) A s H locs) (hl : lv_has ls 3 []) (hf : fX12_sayRp_47  σ s0 = some res) : W p l e rmX12_sayRp s m args below meth c H locs 0 0 (zQu below args s D (tM cy) (wM ad cy) A res) (F0 m 47 ls [.ref (st (100 + s0)), .ref (ad 0)]) := by
  have hx := hC.1
  have hb := hC.2.1
  unfold fX12_sayRp_47 at hf
  obtain ⟨σ1, g1, hf⟩ := zbu_use hf
  refine z_callVu (As := [.ref (st (100 + s0))]) (rest := []) hC hI (cX12_say_met st l D ad cy σ s0 _ g1) (zgV zw74_23 zw75_0 zw75_1 zw1_5 zw75_2) rfl ⟨rfl, rfl⟩ 1 hdX12_say ⟨Nat.le_of_ble_eq_true rfl, Nat.le_of_ble_eq_true rfl⟩ rfl rfl (wM_e0 ad cy σ) rfl hl rfl (Nat.le_of_ble_eq_true rfl) dX12_sayRp_47 ⟨Nat.zero_le _, Nat.zero_le _⟩ (fun H locs hI => ?_)
  exact bX12_sayRp_50 hC  hI hl hf
set_option maxRecDepth 20000 in
set_option maxHeartbeats 4000000 in
theorem bX12_sayRp {st : Nat → Nat} {p : Program} {l : Launch} {e : Env} {s : State} {m : MethodId} {args : Array Value} {below : List Frame} {meth : Method} {c : Code} {D : va_G} {A : Nat → Prop} {ad : Nat → Nat} {cy : Nat → ClassId} (hC : zC p m c cX12_sayRp 3 s args wzX12_sayRp RX12 meth none)  {res : zSt} {H : Heap} {locs : List Loc} {σ : zSt} {ls : Array Slot} {x1 : Int32} {x2 : Int32} (hI : zI st D (tM cy) (wM ad cy σ) A s H locs) (hl : lv_has ls 3 [(0, .ref (ad 0)), (1, .int x1), (2, .int x2)]) (hf : fX12_sayRp  σ x1 x2 = some res) : W p l e rmX12_sayRp s m args below meth c H locs 0 0 (zQu below args s D (tM cy) (wM ad cy) A res) (F0 m 0 ls []) := by
  have hx := hC.1
  have hb := hC.2.1
  unfold fX12_sayRp at hf
  refine lv_iload_n hx hb dX12_sayRp_0 rfl (lv_at hl 1 rfl) ?_
  refine lv_iconst (v := 2) hx hb dX12_sayRp_1 (by decide) ?_
  refine lv_icmp_ne (tgt := 12) hx hb dX12_sayRp_2 (by decide) (fun q => ?_) (fun q => ?_)
  · replace hf := zif_f q hf
    refine lv_aload_n hx hb dX12_sayRp_12 rfl (lv_at hl 0 rfl) ?_
    refine lv_iload_n hx hb dX12_sayRp_13 rfl (lv_at hl 1 rfl) ?_
    refine lv_if_ne (tgt := 23) hx hb dX12_sayRp_14 (by decide) (fun q => ?_) (fun q => ?_)
    · replace hf := zif_f q hf
      refine lv_iload_n hx hb dX12_sayRp_23 rfl (lv_at hl 1 rfl) ?_
      refine lv_iconst (v := 1) hx hb dX12_sayRp_24 (by decide) ?_
      refine lv_icmp_ne (tgt := 34) hx hb dX12_sayRp_25 (by decide) (fun q => ?_) (fun q => ?_)
      · replace hf := zif_f q hf
        refine lv_iload_n hx hb dX12_sayRp_34 rfl (lv_at hl 2 rfl) ?_
        refine lv_if_eq (tgt := 44) hx hb dX12_sayRp_35 (by decide) (fun q => ?_) (fun q => ?_)
        · replace hf := zif_t q hf
          refine z_ldcSW hC hI 115 (by decide) rfl rfl dX12_sayRp_44 ?_
          exact bX12_sayRp_47 hC  hI (lv_sub hl [] rfl) hf
        replace hf := zif_f q hf
        refine z_ldcSW hC hI 114 (by decide) rfl rfl dX12_sayRp_38 ?_
        refine lv_goto (tgt := 47) hx hb dX12_sayRp_41 (by decide) ?_
        exact bX12_sayRp_47 hC  hI (lv_sub hl [] rfl) hf
      replace hf := zif_t q hf
      refine z_ldcSW hC hI 113 (by decide) rfl rfl dX12_sayRp_28 ?_
      refine lv_goto (tgt := 47) hx hb dX12_sayRp_31 (by decide) ?_
      exact bX12_sayRp_47 hC  hI (lv_sub hl [] rfl) hf
    replace hf := zif_t q hf
    refine z_ldcSW hC hI 112 (by decide) rfl rfl dX12_sayRp_17 ?_
    refine lv_goto (tgt := 47) hx hb dX12_sayRp_20 (by decide) ?_
    exact bX12_sayRp_47 hC  hI (lv_sub hl [] rfl) hf
  replace hf := zif_t q hf
  refine lv_aload_n hx hb dX12_sayRp_5 rfl (lv_at hl 0 rfl) ?_
  obtain ⟨σ2, g2, hf⟩ := zbu_use hf
  refine z_callVu (As := []) (rest := []) hC hI (cX12_sayHl_met st l D ad cy σ  _ g2) (zgV zw75_20 zw75_21 zw75_22 zw1_5 zw75_23) rfl ⟨rfl, rfl⟩ 0 hdX12_sayHl ⟨Nat.le_of_ble_eq_true rfl, Nat.le_of_ble_eq_true rfl⟩ rfl rfl (wM_e0 ad cy σ) rfl hl rfl (Nat.le_of_ble_eq_true rfl) dX12_sayRp_6 ⟨Nat.zero_le _, Nat.zero_le _⟩ (fun H locs hI => ?_)
  refine lv_goto (tgt := 50) hx hb dX12_sayRp_9 (by decide) ?_
  exact bX12_sayRp_50 hC  hI (lv_sub hl [] rfl) hf
set_option maxRecDepth 20000 in
theorem cX12_sayRp_met (st : Nat → Nat) (l : Launch) (D : va_G) (ad : Nat → Nat) (cy : Nat → ClassId) (σ : zSt) (x1 : Int32) (x2 : Int32) (res : zSt) (hf : fX12_sayRp σ x1 x2 = some res) (sz : Nat) : zMu st l yX12_sayRp wzX12_sayRp rmX12_sayRp [.ref (ad 0), .int x1, .int x2] D (tM cy) (wM ad cy) sz σ res :=
  zMu.of (cc := cX12_sayRp) (maxL := 3) (ret := none) (by decide) rfl (Nat.le_of_ble_eq_true rfl) (fun p e s m args below meth c hC A hI ls hl => bX12_sayRp hC hI hl hf)
theorem hdX12_sayRp : yX12_sayRp.cls = RX12 ∧ yX12_sayRp.cls ≠ "java/lang/invoke/MethodHandle" ∧ yX12_sayRp.cls ≠ "java/lang/invoke/VarHandle" ∧ (parseMethodDescriptor yX12_sayRp.desc).map (fun d => d.parameters.length) = some 2 := by decide +kernel
noncomputable def rmX12_sayCc : Room := { frames := 5, cells := 0, slots := 0, locals := 139 }
noncomputable def wzX12_sayCc : List Cond := .code yX12_sayCc cX12_sayCc 2 none :: wsL_law
noncomputable def fX12_sayCc_81  (σ : zSt) (s0 : Nat) : Option (zSt) :=
  zbu (fX12_say σ s0) (fun σ1 =>
  some σ1)
noncomputable def fX12_sayCc  (σ : zSt) (x1 : Int32) : Option (zSt) :=
  if x1 = 0 then fX12_sayCc_81 σ 103 else
  if x1 = 1 then fX12_sayCc_81 σ 104 else
  if x1 = 2 then fX12_sayCc_81 σ 105 else
  if x1 = 3 then fX12_sayCc_81 σ 94 else
  if x1 = 4 then fX12_sayCc_81 σ 106 else
  if x1 = 5 then fX12_sayCc_81 σ 107 else
  if x1 = 6 then fX12_sayCc_81 σ 108 else
  fX12_sayCc_81 σ 109
set_option maxRecDepth 20000 in
set_option maxHeartbeats 4000000 in
theorem bX12_sayCc_81 {st : Nat → Nat} {p : Program} {l : Launch} {e : Env} {s : State} {m : MethodId} {args : Array Value} {below : List Frame} {meth : Method} {c : Code} {D : va_G} {A : Nat → Prop} {ad : Nat → Nat} {cy : Nat → ClassId} (hC : zC p m c cX12_sayCc 2 s args wzX12_sayCc RX12 meth none)  {res : zSt} {H : Heap} {locs : List Loc} {σ : zSt} {ls : Array Slot} {s0 : Nat} (hI : zI st D (tM cy) (wM ad cy σ) A s H locs) (hl : lv_has ls 2 []) (hf : fX12_sayCc_81  σ s0 = some res) : W p l e rmX12_sayCc s m args below meth c H locs 0 0 (zQu below args s D (tM cy) (wM ad cy) A res) (F0 m 81 ls [.ref (st (100 + s0)), .ref (ad 0)]) := by
  have hx := hC.1
  have hb := hC.2.1
  unfold fX12_sayCc_81 at hf
  obtain ⟨σ1, g1, hf⟩ := zbu_use hf
  refine z_callVu (As := [.ref (st (100 + s0))]) (rest := []) hC hI (cX12_say_met st l D ad cy σ s0 _ g1) (zgV zw74_23 zw75_0 zw75_1 zw1_5 zw75_2) rfl ⟨rfl, rfl⟩ 1 hdX12_say ⟨Nat.le_of_ble_eq_true rfl, Nat.le_of_ble_eq_true rfl⟩ rfl rfl (wM_e0 ad cy σ) rfl hl rfl (Nat.le_of_ble_eq_true rfl) dX12_sayCc_81 ⟨Nat.zero_le _, Nat.zero_le _⟩ (fun H locs hI => ?_)
  exact z_return hC hI hf dX12_sayCc_84
set_option maxRecDepth 20000 in
set_option maxHeartbeats 4000000 in
theorem bX12_sayCc {st : Nat → Nat} {p : Program} {l : Launch} {e : Env} {s : State} {m : MethodId} {args : Array Value} {below : List Frame} {meth : Method} {c : Code} {D : va_G} {A : Nat → Prop} {ad : Nat → Nat} {cy : Nat → ClassId} (hC : zC p m c cX12_sayCc 2 s args wzX12_sayCc RX12 meth none)  {res : zSt} {H : Heap} {locs : List Loc} {σ : zSt} {ls : Array Slot} {x1 : Int32} (hI : zI st D (tM cy) (wM ad cy σ) A s H locs) (hl : lv_has ls 2 [(0, .ref (ad 0)), (1, .int x1)]) (hf : fX12_sayCc  σ x1 = some res) : W p l e rmX12_sayCc s m args below meth c H locs 0 0 (zQu below args s D (tM cy) (wM ad cy) A res) (F0 m 0 ls []) := by
  have hx := hC.1
  have hb := hC.2.1
  unfold fX12_sayCc at hf
  refine lv_aload_n hx hb dX12_sayCc_0 rfl (lv_at hl 0 rfl) ?_
  refine lv_iload_n hx hb dX12_sayCc_1 rfl (lv_at hl 1 rfl) ?_
  refine lv_if_ne (tgt := 11) hx hb dX12_sayCc_2 (by decide) (fun q => ?_) (fun q => ?_)
  · replace hf := zif_f q hf
    refine lv_iload_n hx hb dX12_sayCc_11 rfl (lv_at hl 1 rfl) ?_
    refine lv_iconst (v := 1) hx hb dX12_sayCc_12 (by decide) ?_
    refine lv_icmp_ne (tgt := 22) hx hb dX12_sayCc_13 (by decide) (fun q => ?_) (fun q => ?_)
    · replace hf := zif_f q hf
      refine lv_iload_n hx hb dX12_sayCc_22 rfl (lv_at hl 1 rfl) ?_
      refine lv_iconst (v := 2) hx hb dX12_sayCc_23 (by decide) ?_
      refine lv_icmp_ne (tgt := 33) hx hb dX12_sayCc_24 (by decide) (fun q => ?_) (fun q => ?_)
      · replace hf := zif_f q hf
        refine lv_iload_n hx hb dX12_sayCc_33 rfl (lv_at hl 1 rfl) ?_
        refine lv_iconst (v := 3) hx hb dX12_sayCc_34 (by decide) ?_
        refine lv_icmp_ne (tgt := 44) hx hb dX12_sayCc_35 (by decide) (fun q => ?_) (fun q => ?_)
        · replace hf := zif_f q hf
          refine lv_iload_n hx hb dX12_sayCc_44 rfl (lv_at hl 1 rfl) ?_
          refine lv_iconst (v := 4) hx hb dX12_sayCc_45 (by decide) ?_
          refine lv_icmp_ne (tgt := 55) hx hb dX12_sayCc_46 (by decide) (fun q => ?_) (fun q => ?_)
          · replace hf := zif_f q hf
            refine lv_iload_n hx hb dX12_sayCc_55 rfl (lv_at hl 1 rfl) ?_
            refine lv_iconst (v := 5) hx hb dX12_sayCc_56 (by decide) ?_
            refine lv_icmp_ne (tgt := 66) hx hb dX12_sayCc_57 (by decide) (fun q => ?_) (fun q => ?_)
            · replace hf := zif_f q hf
              refine lv_iload_n hx hb dX12_sayCc_66 rfl (lv_at hl 1 rfl) ?_
              refine lv_bipush (v := 6) hx hb dX12_sayCc_67 (by decide) ?_
              refine lv_icmp_ne (tgt := 78) hx hb dX12_sayCc_69 (by decide) (fun q => ?_) (fun q => ?_)
              · replace hf := zif_f q hf
                refine z_ldcSW hC hI 109 (by decide) rfl rfl dX12_sayCc_78 ?_
                exact bX12_sayCc_81 hC  hI (lv_sub hl [] rfl) hf
              replace hf := zif_t q hf
              refine z_ldcSW hC hI 108 (by decide) rfl rfl dX12_sayCc_72 ?_
              refine lv_goto (tgt := 81) hx hb dX12_sayCc_75 (by decide) ?_
              exact bX12_sayCc_81 hC  hI (lv_sub hl [] rfl) hf
            replace hf := zif_t q hf
            refine z_ldcSW hC hI 107 (by decide) rfl rfl dX12_sayCc_60 ?_
            refine lv_goto (tgt := 81) hx hb dX12_sayCc_63 (by decide) ?_
            exact bX12_sayCc_81 hC  hI (lv_sub hl [] rfl) hf
          replace hf := zif_t q hf
          refine z_ldcSW hC hI 106 (by decide) rfl rfl dX12_sayCc_49 ?_
          refine lv_goto (tgt := 81) hx hb dX12_sayCc_52 (by decide) ?_
          exact bX12_sayCc_81 hC  hI (lv_sub hl [] rfl) hf
        replace hf := zif_t q hf
        refine z_ldcSW hC hI 94 (by decide) rfl rfl dX12_sayCc_38 ?_
        refine lv_goto (tgt := 81) hx hb dX12_sayCc_41 (by decide) ?_
        exact bX12_sayCc_81 hC  hI (lv_sub hl [] rfl) hf
      replace hf := zif_t q hf
      refine z_ldcSW hC hI 105 (by decide) rfl rfl dX12_sayCc_27 ?_
      refine lv_goto (tgt := 81) hx hb dX12_sayCc_30 (by decide) ?_
      exact bX12_sayCc_81 hC  hI (lv_sub hl [] rfl) hf
    replace hf := zif_t q hf
    refine z_ldcSW hC hI 104 (by decide) rfl rfl dX12_sayCc_16 ?_
    refine lv_goto (tgt := 81) hx hb dX12_sayCc_19 (by decide) ?_
    exact bX12_sayCc_81 hC  hI (lv_sub hl [] rfl) hf
  replace hf := zif_t q hf
  refine z_ldcSW hC hI 103 (by decide) rfl rfl dX12_sayCc_5 ?_
  refine lv_goto (tgt := 81) hx hb dX12_sayCc_8 (by decide) ?_
  exact bX12_sayCc_81 hC  hI (lv_sub hl [] rfl) hf
set_option maxRecDepth 20000 in
theorem cX12_sayCc_met (st : Nat → Nat) (l : Launch) (D : va_G) (ad : Nat → Nat) (cy : Nat → ClassId) (σ : zSt) (x1 : Int32) (res : zSt) (hf : fX12_sayCc σ x1 = some res) (sz : Nat) : zMu st l yX12_sayCc wzX12_sayCc rmX12_sayCc [.ref (ad 0), .int x1] D (tM cy) (wM ad cy) sz σ res :=
  zMu.of (cc := cX12_sayCc) (maxL := 2) (ret := none) (by decide) rfl (Nat.le_of_ble_eq_true rfl) (fun p e s m args below meth c hC A hI ls hl => bX12_sayCc hC hI hl hf)
theorem hdX12_sayCc : yX12_sayCc.cls = RX12 ∧ yX12_sayCc.cls ≠ "java/lang/invoke/MethodHandle" ∧ yX12_sayCc.cls ≠ "java/lang/invoke/VarHandle" ∧ (parseMethodDescriptor yX12_sayCc.desc).map (fun d => d.parameters.length) = some 1 := by decide +kernel
noncomputable def rmX12_sayPlaced : Room := { frames := 5, cells := 0, slots := 0, locals := 139 }
noncomputable def wzX12_sayPlaced : List Cond := .code yX12_sayPlaced cX12_sayPlaced 2 none :: wsL_law
noncomputable def fX12_sayPlaced  (σ : zSt) (x1 : Int32) : Option (zSt) :=
  zbu (fX12_say σ 120) (fun σ1 =>
  zbu (fX12_hex σ1 x1 4) (fun σ2 =>
  zbu (fX12_say σ2 89) (fun σ3 =>
  some σ3)))
set_option maxRecDepth 20000 in
set_option maxHeartbeats 4000000 in
theorem bX12_sayPlaced {st : Nat → Nat} {p : Program} {l : Launch} {e : Env} {s : State} {m : MethodId} {args : Array Value} {below : List Frame} {meth : Method} {c : Code} {D : va_G} {A : Nat → Prop} {ad : Nat → Nat} {cy : Nat → ClassId} (hC : zC p m c cX12_sayPlaced 2 s args wzX12_sayPlaced RX12 meth none)  {res : zSt} {H : Heap} {locs : List Loc} {σ : zSt} {ls : Array Slot} {x1 : Int32} (hI : zI st D (tM cy) (wM ad cy σ) A s H locs) (hl : lv_has ls 2 [(0, .ref (ad 0)), (1, .int x1)]) (hf : fX12_sayPlaced  σ x1 = some res) : W p l e rmX12_sayPlaced s m args below meth c H locs 0 0 (zQu below args s D (tM cy) (wM ad cy) A res) (F0 m 0 ls []) := by
  have hx := hC.1
  have hb := hC.2.1
  unfold fX12_sayPlaced at hf
  refine lv_aload_n hx hb dX12_sayPlaced_0 rfl (lv_at hl 0 rfl) ?_
  refine z_ldcSW hC hI 120 (by decide) rfl rfl dX12_sayPlaced_1 ?_
  obtain ⟨σ1, g1, hf⟩ := zbu_use hf
  refine z_callVu (As := [.ref (st (100 + 120))]) (rest := []) hC hI (cX12_say_met st l D ad cy σ 120 _ g1) (zgV zw74_23 zw75_0 zw75_1 zw1_5 zw75_2) rfl ⟨rfl, rfl⟩ 1 hdX12_say ⟨Nat.le_of_ble_eq_true rfl, Nat.le_of_ble_eq_true rfl⟩ rfl rfl (wM_e0 ad cy σ) rfl hl rfl (Nat.le_of_ble_eq_true rfl) dX12_sayPlaced_4 ⟨Nat.zero_le _, Nat.zero_le _⟩ (fun H locs hI => ?_)
  refine lv_aload_n hx hb dX12_sayPlaced_7 rfl (lv_at hl 0 rfl) ?_
  refine lv_iload_n hx hb dX12_sayPlaced_8 rfl (lv_at hl 1 rfl) ?_
  refine lv_iconst (v := 4) hx hb dX12_sayPlaced_9 (by decide) ?_
  obtain ⟨σ2, g2, hf⟩ := zbu_use hf
  refine z_callVu (As := [.int x1, .int 4]) (rest := []) hC hI (cX12_hex_met st l D ad cy σ1 x1 4 _ g2) (zgV zw75_8 zw75_9 zw75_10 zw1_5 zw75_11) rfl ⟨rfl, rfl⟩ 2 hdX12_hex ⟨Nat.le_of_ble_eq_true rfl, Nat.le_of_ble_eq_true rfl⟩ rfl rfl (wM_e0 ad cy σ1) rfl hl rfl (Nat.le_of_ble_eq_true rfl) dX12_sayPlaced_10 ⟨Nat.zero_le _, Nat.zero_le _⟩ (fun H locs hI => ?_)
  refine lv_aload_n hx hb dX12_sayPlaced_13 rfl (lv_at hl 0 rfl) ?_
  refine z_ldcSW hC hI 89 (by decide) rfl rfl dX12_sayPlaced_14 ?_
  obtain ⟨σ3, g3, hf⟩ := zbu_use hf
  refine z_callVu (As := [.ref (st (100 + 89))]) (rest := []) hC hI (cX12_say_met st l D ad cy σ2 89 _ g3) (zgV zw74_23 zw75_0 zw75_1 zw1_5 zw75_2) rfl ⟨rfl, rfl⟩ 1 hdX12_say ⟨Nat.le_of_ble_eq_true rfl, Nat.le_of_ble_eq_true rfl⟩ rfl rfl (wM_e0 ad cy σ2) rfl hl rfl (Nat.le_of_ble_eq_true rfl) dX12_sayPlaced_17 ⟨Nat.zero_le _, Nat.zero_le _⟩ (fun H locs hI => ?_)
  exact z_return hC hI hf dX12_sayPlaced_20
set_option maxRecDepth 20000 in
theorem cX12_sayPlaced_met (st : Nat → Nat) (l : Launch) (D : va_G) (ad : Nat → Nat) (cy : Nat → ClassId) (σ : zSt) (x1 : Int32) (res : zSt) (hf : fX12_sayPlaced σ x1 = some res) (sz : Nat) : zMu st l yX12_sayPlaced wzX12_sayPlaced rmX12_sayPlaced [.ref (ad 0), .int x1] D (tM cy) (wM ad cy) sz σ res :=
  zMu.of (cc := cX12_sayPlaced) (maxL := 2) (ret := none) (by decide) rfl (Nat.le_of_ble_eq_true rfl) (fun p e s m args below meth c hC A hI ls hl => bX12_sayPlaced hC hI hl hf)
theorem hdX12_sayPlaced : yX12_sayPlaced.cls = RX12 ∧ yX12_sayPlaced.cls ≠ "java/lang/invoke/MethodHandle" ∧ yX12_sayPlaced.cls ≠ "java/lang/invoke/VarHandle" ∧ (parseMethodDescriptor yX12_sayPlaced.desc).map (fun d => d.parameters.length) = some 1 := by decide +kernel
noncomputable def rmX12_sayJump : Room := { frames := 3, cells := 0, slots := 0, locals := 65 }
noncomputable def wzX12_sayJump : List Cond := .code yX12_sayJump cX12_sayJump 2 none :: wsL_law
theorem hinX12_sayJump_X120 : ∀ w ∈ wsX120, w ∈ wzX12_sayJump := fun w h => List.mem_cons_of_mem _ (inlX12 w h)
noncomputable def fX12_sayJump  (σ : zSt)  : Option (zSt) :=
  zbi (fX12_taken σ ) (fun σ1 v2 =>
  zbi (fX12_signed σ1 v2) (fun σ3 v4 =>
  zbu (fX12_hex σ3 (((zgi σ3 0 40) + v4) &&& 65535) 4) (fun σ5 =>
  some σ5)))
set_option maxRecDepth 20000 in
set_option maxHeartbeats 4000000 in
theorem bX12_sayJump {st : Nat → Nat} {p : Program} {l : Launch} {e : Env} {s : State} {m : MethodId} {args : Array Value} {below : List Frame} {meth : Method} {c : Code} {D : va_G} {A : Nat → Prop} {ad : Nat → Nat} {cy : Nat → ClassId} (hC : zC p m c cX12_sayJump 2 s args wzX12_sayJump RX12 meth none)  {res : zSt} {H : Heap} {locs : List Loc} {σ : zSt} {ls : Array Slot}  (hI : zI st D (tM cy) (wM ad cy σ) A s H locs) (hl : lv_has ls 2 [(0, .ref (ad 0))]) (hf : fX12_sayJump  σ  = some res) : W p l e rmX12_sayJump s m args below meth c H locs 0 0 (zQu below args s D (tM cy) (wM ad cy) A res) (F0 m 0 ls []) := by
  have hx := hC.1
  have hb := hC.2.1
  unfold fX12_sayJump at hf
  refine lv_aload_n hx hb dX12_sayJump_0 rfl (lv_at hl 0 rfl) ?_
  obtain ⟨σ1, v2, g1, hf⟩ := zbi_use hf
  refine z_callVi (As := []) (rest := []) hC hI (cX12_taken_met st l D ad cy σ  _ g1) (zgV zw74_14 zw74_15 zw74_16 zw1_5 zw74_17) rfl ⟨rfl, rfl⟩ 0 hdX12_taken ⟨Nat.le_of_ble_eq_true rfl, Nat.le_of_ble_eq_true rfl⟩ rfl rfl (wM_e0 ad cy σ) rfl hl rfl (Nat.le_of_ble_eq_true rfl) dX12_sayJump_1 ⟨Nat.zero_le _, Nat.zero_le _⟩ (fun H locs hI => ?_)
  obtain ⟨σ3, v4, g3, hf⟩ := zbi_use hf
  refine z_callSi (As := [.int v2]) (rest := []) hC hI (cX12_signed_met st l D ad cy σ1 v2 _ g3) (zgS zw50_18 zw50_19 zw1_5 zw50_20) rfl ⟨rfl, rfl⟩ 1 hdX12_signed ⟨Nat.le_of_ble_eq_true rfl, Nat.le_of_ble_eq_true rfl⟩ rfl hl rfl (Nat.le_of_ble_eq_true rfl) dX12_sayJump_4 ⟨Nat.zero_le _, Nat.zero_le _⟩ (fun H locs hI => ?_)
  refine lv_istore_n (lv' := [(1, .int v4), (0, .ref (ad 0))]) hx hb dX12_sayJump_7 rfl hl (by decide) rfl (fun ls hl => ?_)
  refine lv_aload_n hx hb dX12_sayJump_8 rfl (lv_at hl 1 rfl) ?_
  refine lv_aload_n hx hb dX12_sayJump_9 rfl (lv_at hl 1 rfl) ?_
  refine z_get hC hI hinX12_sayJump_X120 0 (wM_e0 ad cy σ3) rfl 40 (by decide) (List.mem_cons_of_mem _ zw74_11) rfl dX12_sayJump_10 ?_
  refine lv_iload_n hx hb dX12_sayJump_13 rfl (lv_at hl 0 rfl) ?_
  refine lv_iadd hx hb dX12_sayJump_14 ?_
  refine lv_ldc (v := 65535) hx hb hC.2.2.2.1 (hC.2.2.2.2.1 _ (List.mem_cons_of_mem _ zw16_11)) dX12_sayJump_15 ?_
  refine lv_iand hx hb dX12_sayJump_17 ?_
  refine lv_iconst (v := 4) hx hb dX12_sayJump_18 (by decide) ?_
  obtain ⟨σ5, g5, hf⟩ := zbu_use hf
  refine z_callVu (As := [.int (((zgi σ3 0 40) + v4) &&& 65535), .int 4]) (rest := []) hC hI (cX12_hex_met st l D ad cy σ3 (((zgi σ3 0 40) + v4) &&& 65535) 4 _ g5) (zgV zw75_8 zw75_9 zw75_10 zw1_5 zw75_11) rfl ⟨rfl, rfl⟩ 2 hdX12_hex ⟨Nat.le_of_ble_eq_true rfl, Nat.le_of_ble_eq_true rfl⟩ rfl rfl (wM_e0 ad cy σ3) rfl hl rfl (Nat.le_of_ble_eq_true rfl) dX12_sayJump_19 ⟨Nat.zero_le _, Nat.zero_le _⟩ (fun H locs hI => ?_)
  exact z_return hC hI hf dX12_sayJump_22
set_option maxRecDepth 20000 in
theorem cX12_sayJump_met (st : Nat → Nat) (l : Launch) (D : va_G) (ad : Nat → Nat) (cy : Nat → ClassId) (σ : zSt)  (res : zSt) (hf : fX12_sayJump σ  = some res) (sz : Nat) : zMu st l yX12_sayJump wzX12_sayJump rmX12_sayJump [.ref (ad 0)] D (tM cy) (wM ad cy) sz σ res :=
  zMu.of (cc := cX12_sayJump) (maxL := 2) (ret := none) (by decide) rfl (Nat.le_of_ble_eq_true rfl) (fun p e s m args below meth c hC A hI ls hl => bX12_sayJump hC hI hl hf)
theorem hdX12_sayJump : yX12_sayJump.cls = RX12 ∧ yX12_sayJump.cls ≠ "java/lang/invoke/MethodHandle" ∧ yX12_sayJump.cls ≠ "java/lang/invoke/VarHandle" ∧ (parseMethodDescriptor yX12_sayJump.desc).map (fun d => d.parameters.length) = some 0 := by decide +kernel
noncomputable def rmX12_sayDo : Room := { frames := 5, cells := 0, slots := 0, locals := 139 }
noncomputable def wzX12_sayDo : List Cond := .code yX12_sayDo cX12_sayDo 2 none :: wsL_law
noncomputable def fX12_sayDo_81  (σ : zSt) (s0 : Nat) : Option (zSt) :=
  zbu (fX12_say σ s0) (fun σ1 =>
  some σ1)
noncomputable def fX12_sayDo  (σ : zSt) (x1 : Int32) : Option (zSt) :=
  if x1 = 0 then fX12_sayDo_81 σ 110 else
  if x1 = 1 then fX12_sayDo_81 σ 130 else
  if x1 = 2 then fX12_sayDo_81 σ 131 else
  if x1 = 3 then fX12_sayDo_81 σ 132 else
  if x1 = 4 then fX12_sayDo_81 σ 133 else
  if x1 = 5 then fX12_sayDo_81 σ 134 else
  if x1 = 6 then fX12_sayDo_81 σ 135 else
  fX12_sayDo_81 σ 136
set_option maxRecDepth 20000 in
set_option maxHeartbeats 4000000 in
theorem bX12_sayDo_81 {st : Nat → Nat} {p : Program} {l : Launch} {e : Env} {s : State} {m : MethodId} {args : Array Value} {below : List Frame} {meth : Method} {c : Code} {D : va_G} {A : Nat → Prop} {ad : Nat → Nat} {cy : Nat → ClassId} (hC : zC p m c cX12_sayDo 2 s args wzX12_sayDo RX12 meth none)  {res : zSt} {H : Heap} {locs : List Loc} {σ : zSt} {ls : Array Slot} {s0 : Nat} (hI : zI st D (tM cy) (wM ad cy σ) A s H locs) (hl : lv_has ls 2 []) (hf : fX12_sayDo_81  σ s0 = some res) : W p l e rmX12_sayDo s m args below meth c H locs 0 0 (zQu below args s D (tM cy) (wM ad cy) A res) (F0 m 81 ls [.ref (st (100 + s0)), .ref (ad 0)]) := by
  have hx := hC.1
  have hb := hC.2.1
  unfold fX12_sayDo_81 at hf
  obtain ⟨σ1, g1, hf⟩ := zbu_use hf
  refine z_callVu (As := [.ref (st (100 + s0))]) (rest := []) hC hI (cX12_say_met st l D ad cy σ s0 _ g1) (zgV zw74_23 zw75_0 zw75_1 zw1_5 zw75_2) rfl ⟨rfl, rfl⟩ 1 hdX12_say ⟨Nat.le_of_ble_eq_true rfl, Nat.le_of_ble_eq_true rfl⟩ rfl rfl (wM_e0 ad cy σ) rfl hl rfl (Nat.le_of_ble_eq_true rfl) dX12_sayDo_81 ⟨Nat.zero_le _, Nat.zero_le _⟩ (fun H locs hI => ?_)
  exact z_return hC hI hf dX12_sayDo_84
set_option maxRecDepth 20000 in
set_option maxHeartbeats 4000000 in
theorem bX12_sayDo {st : Nat → Nat} {p : Program} {l : Launch} {e : Env} {s : State} {m : MethodId} {args : Array Value} {below : List Frame} {meth : Method} {c : Code} {D : va_G} {A : Nat → Prop} {ad : Nat → Nat} {cy : Nat → ClassId} (hC : zC p m c cX12_sayDo 2 s args wzX12_sayDo RX12 meth none)  {res : zSt} {H : Heap} {locs : List Loc} {σ : zSt} {ls : Array Slot} {x1 : Int32} (hI : zI st D (tM cy) (wM ad cy σ) A s H locs) (hl : lv_has ls 2 [(0, .ref (ad 0)), (1, .int x1)]) (hf : fX12_sayDo  σ x1 = some res) : W p l e rmX12_sayDo s m args below meth c H locs 0 0 (zQu below args s D (tM cy) (wM ad cy) A res) (F0 m 0 ls []) := by
  have hx := hC.1
  have hb := hC.2.1
  unfold fX12_sayDo at hf
  refine lv_aload_n hx hb dX12_sayDo_0 rfl (lv_at hl 0 rfl) ?_
  refine lv_iload_n hx hb dX12_sayDo_1 rfl (lv_at hl 1 rfl) ?_
  refine lv_if_ne (tgt := 11) hx hb dX12_sayDo_2 (by decide) (fun q => ?_) (fun q => ?_)
  · replace hf := zif_f q hf
    refine lv_iload_n hx hb dX12_sayDo_11 rfl (lv_at hl 1 rfl) ?_
    refine lv_iconst (v := 1) hx hb dX12_sayDo_12 (by decide) ?_
    refine lv_icmp_ne (tgt := 22) hx hb dX12_sayDo_13 (by decide) (fun q => ?_) (fun q => ?_)
    · replace hf := zif_f q hf
      refine lv_iload_n hx hb dX12_sayDo_22 rfl (lv_at hl 1 rfl) ?_
      refine lv_iconst (v := 2) hx hb dX12_sayDo_23 (by decide) ?_
      refine lv_icmp_ne (tgt := 33) hx hb dX12_sayDo_24 (by decide) (fun q => ?_) (fun q => ?_)
      · replace hf := zif_f q hf
        refine lv_iload_n hx hb dX12_sayDo_33 rfl (lv_at hl 1 rfl) ?_
        refine lv_iconst (v := 3) hx hb dX12_sayDo_34 (by decide) ?_
        refine lv_icmp_ne (tgt := 44) hx hb dX12_sayDo_35 (by decide) (fun q => ?_) (fun q => ?_)
        · replace hf := zif_f q hf
          refine lv_iload_n hx hb dX12_sayDo_44 rfl (lv_at hl 1 rfl) ?_
          refine lv_iconst (v := 4) hx hb dX12_sayDo_45 (by decide) ?_
          refine lv_icmp_ne (tgt := 55) hx hb dX12_sayDo_46 (by decide) (fun q => ?_) (fun q => ?_)
          · replace hf := zif_f q hf
            refine lv_iload_n hx hb dX12_sayDo_55 rfl (lv_at hl 1 rfl) ?_
            refine lv_iconst (v := 5) hx hb dX12_sayDo_56 (by decide) ?_
            refine lv_icmp_ne (tgt := 66) hx hb dX12_sayDo_57 (by decide) (fun q => ?_) (fun q => ?_)
            · replace hf := zif_f q hf
              refine lv_iload_n hx hb dX12_sayDo_66 rfl (lv_at hl 1 rfl) ?_
              refine lv_bipush (v := 6) hx hb dX12_sayDo_67 (by decide) ?_
              refine lv_icmp_ne (tgt := 78) hx hb dX12_sayDo_69 (by decide) (fun q => ?_) (fun q => ?_)
              · replace hf := zif_f q hf
                refine z_ldcSW hC hI 136 (by decide) rfl rfl dX12_sayDo_78 ?_
                exact bX12_sayDo_81 hC  hI (lv_sub hl [] rfl) hf
              replace hf := zif_t q hf
              refine z_ldcSW hC hI 135 (by decide) rfl rfl dX12_sayDo_72 ?_
              refine lv_goto (tgt := 81) hx hb dX12_sayDo_75 (by decide) ?_
              exact bX12_sayDo_81 hC  hI (lv_sub hl [] rfl) hf
            replace hf := zif_t q hf
            refine z_ldcSW hC hI 134 (by decide) rfl rfl dX12_sayDo_60 ?_
            refine lv_goto (tgt := 81) hx hb dX12_sayDo_63 (by decide) ?_
            exact bX12_sayDo_81 hC  hI (lv_sub hl [] rfl) hf
          replace hf := zif_t q hf
          refine z_ldcSW hC hI 133 (by decide) rfl rfl dX12_sayDo_49 ?_
          refine lv_goto (tgt := 81) hx hb dX12_sayDo_52 (by decide) ?_
          exact bX12_sayDo_81 hC  hI (lv_sub hl [] rfl) hf
        replace hf := zif_t q hf
        refine z_ldcSW hC hI 132 (by decide) rfl rfl dX12_sayDo_38 ?_
        refine lv_goto (tgt := 81) hx hb dX12_sayDo_41 (by decide) ?_
        exact bX12_sayDo_81 hC  hI (lv_sub hl [] rfl) hf
      replace hf := zif_t q hf
      refine z_ldcSW hC hI 131 (by decide) rfl rfl dX12_sayDo_27 ?_
      refine lv_goto (tgt := 81) hx hb dX12_sayDo_30 (by decide) ?_
      exact bX12_sayDo_81 hC  hI (lv_sub hl [] rfl) hf
    replace hf := zif_t q hf
    refine z_ldcSW hC hI 130 (by decide) rfl rfl dX12_sayDo_16 ?_
    refine lv_goto (tgt := 81) hx hb dX12_sayDo_19 (by decide) ?_
    exact bX12_sayDo_81 hC  hI (lv_sub hl [] rfl) hf
  replace hf := zif_t q hf
  refine z_ldcSW hC hI 110 (by decide) rfl rfl dX12_sayDo_5 ?_
  refine lv_goto (tgt := 81) hx hb dX12_sayDo_8 (by decide) ?_
  exact bX12_sayDo_81 hC  hI (lv_sub hl [] rfl) hf
set_option maxRecDepth 20000 in
theorem cX12_sayDo_met (st : Nat → Nat) (l : Launch) (D : va_G) (ad : Nat → Nat) (cy : Nat → ClassId) (σ : zSt) (x1 : Int32) (res : zSt) (hf : fX12_sayDo σ x1 = some res) (sz : Nat) : zMu st l yX12_sayDo wzX12_sayDo rmX12_sayDo [.ref (ad 0), .int x1] D (tM cy) (wM ad cy) sz σ res :=
  zMu.of (cc := cX12_sayDo) (maxL := 2) (ret := none) (by decide) rfl (Nat.le_of_ble_eq_true rfl) (fun p e s m args below meth c hC A hI ls hl => bX12_sayDo hC hI hl hf)
theorem hdX12_sayDo : yX12_sayDo.cls = RX12 ∧ yX12_sayDo.cls ≠ "java/lang/invoke/MethodHandle" ∧ yX12_sayDo.cls ≠ "java/lang/invoke/VarHandle" ∧ (parseMethodDescriptor yX12_sayDo.desc).map (fun d => d.parameters.length) = some 1 := by decide +kernel
noncomputable def rmX12_sayTurn : Room := { frames := 7, cells := 0, slots := 0, locals := 180 }
noncomputable def wzX12_sayTurn : List Cond := .code yX12_sayTurn cX12_sayTurn 3 none :: wsL_law
noncomputable def fX12_sayTurn_146  (σ : zSt) (x1 : Int32) : Option (zSt) :=
  zbu (fX12_sayR σ (x1 &&& 7)) (fun σ1 =>
  some σ1)
noncomputable def fX12_sayTurn_94  (σ : zSt) (x1 : Int32) (s0 : Nat) : Option (zSt) :=
  zbu (fX12_say σ s0) (fun σ2 =>
  fX12_sayTurn_146 σ2 x1)
noncomputable def fX12_sayTurn_130  (σ : zSt) (x1 : Int32) (x2 : Int32) (s0 : Nat) : Option (zSt) :=
  zbu (fX12_say σ s0) (fun σ3 =>
  zbu (fX12_hex σ3 x2 1) (fun σ4 =>
  zbu (fX12_say σ4 83) (fun σ5 =>
  fX12_sayTurn_146 σ5 x1)))
noncomputable def fX12_sayTurn  (σ : zSt) (x1 : Int32) : Option (zSt) :=
  zbv ((x1 >>> ((3 : Int32) &&& 31)) &&& 7) (fun v6 =>
  if 64 ≤ x1 then if 128 ≤ x1 then if 192 ≤ x1 then fX12_sayTurn_130 σ x1 v6 82 else
  fX12_sayTurn_130 σ x1 v6 81 else
  fX12_sayTurn_130 σ x1 v6 80 else
  if v6 = 0 then fX12_sayTurn_94 σ x1 72 else
  if v6 = 1 then fX12_sayTurn_94 σ x1 73 else
  if v6 = 2 then fX12_sayTurn_94 σ x1 74 else
  if v6 = 3 then fX12_sayTurn_94 σ x1 75 else
  if v6 = 4 then fX12_sayTurn_94 σ x1 76 else
  if v6 = 5 then fX12_sayTurn_94 σ x1 77 else
  if v6 = 6 then fX12_sayTurn_94 σ x1 78 else
  fX12_sayTurn_94 σ x1 79)
set_option maxRecDepth 20000 in
set_option maxHeartbeats 4000000 in
theorem bX12_sayTurn_146 {st : Nat → Nat} {p : Program} {l : Launch} {e : Env} {s : State} {m : MethodId} {args : Array Value} {below : List Frame} {meth : Method} {c : Code} {D : va_G} {A : Nat → Prop} {ad : Nat → Nat} {cy : Nat → ClassId} (hC : zC p m c cX12_sayTurn 3 s args wzX12_sayTurn RX12 meth none)  {res : zSt} {H : Heap} {locs : List Loc} {σ : zSt} {ls : Array Slot} {x1 : Int32} (hI : zI st D (tM cy) (wM ad cy σ) A s H locs) (hl : lv_has ls 3 [(0, .ref (ad 0)), (1, .int x1)]) (hf : fX12_sayTurn_146  σ x1 = some res) : W p l e rmX12_sayTurn s m args below meth c H locs 0 0 (zQu below args s D (tM cy) (wM ad cy) A res) (F0 m 146 ls []) := by
  have hx := hC.1
  have hb := hC.2.1
  unfold fX12_sayTurn_146 at hf
  refine lv_aload_n hx hb dX12_sayTurn_146 rfl (lv_at hl 0 rfl) ?_
  refine lv_iload_n hx hb dX12_sayTurn_147 rfl (lv_at hl 1 rfl) ?_
  refine lv_bipush (v := 7) hx hb dX12_sayTurn_148 (by decide) ?_
  refine lv_iand hx hb dX12_sayTurn_150 ?_
  obtain ⟨σ1, g1, hf⟩ := zbu_use hf
  refine z_callVu (As := [.int (x1 &&& 7)]) (rest := []) hC hI (cX12_sayR_met st l D ad cy σ (x1 &&& 7) _ g1) (zgV zw75_12 zw75_13 zw75_14 zw1_5 zw75_15) rfl ⟨rfl, rfl⟩ 1 hdX12_sayR ⟨Nat.le_of_ble_eq_true rfl, Nat.le_of_ble_eq_true rfl⟩ rfl rfl (wM_e0 ad cy σ) rfl hl rfl (Nat.le_of_ble_eq_true rfl) dX12_sayTurn_151 ⟨Nat.zero_le _, Nat.zero_le _⟩ (fun H locs hI => ?_)
  exact z_return hC hI hf dX12_sayTurn_154
set_option maxRecDepth 20000 in
set_option maxHeartbeats 4000000 in
theorem bX12_sayTurn_94 {st : Nat → Nat} {p : Program} {l : Launch} {e : Env} {s : State} {m : MethodId} {args : Array Value} {below : List Frame} {meth : Method} {c : Code} {D : va_G} {A : Nat → Prop} {ad : Nat → Nat} {cy : Nat → ClassId} (hC : zC p m c cX12_sayTurn 3 s args wzX12_sayTurn RX12 meth none)  {res : zSt} {H : Heap} {locs : List Loc} {σ : zSt} {ls : Array Slot} {x1 : Int32} {s0 : Nat} (hI : zI st D (tM cy) (wM ad cy σ) A s H locs) (hl : lv_has ls 3 [(0, .ref (ad 0)), (1, .int x1)]) (hf : fX12_sayTurn_94  σ x1 s0 = some res) : W p l e rmX12_sayTurn s m args below meth c H locs 0 0 (zQu below args s D (tM cy) (wM ad cy) A res) (F0 m 94 ls [.ref (st (100 + s0)), .ref (ad 0)]) := by
  have hx := hC.1
  have hb := hC.2.1
  unfold fX12_sayTurn_94 at hf
  obtain ⟨σ2, g2, hf⟩ := zbu_use hf
  refine z_callVu (As := [.ref (st (100 + s0))]) (rest := []) hC hI (cX12_say_met st l D ad cy σ s0 _ g2) (zgV zw74_23 zw75_0 zw75_1 zw1_5 zw75_2) rfl ⟨rfl, rfl⟩ 1 hdX12_say ⟨Nat.le_of_ble_eq_true rfl, Nat.le_of_ble_eq_true rfl⟩ rfl rfl (wM_e0 ad cy σ) rfl hl rfl (Nat.le_of_ble_eq_true rfl) dX12_sayTurn_94 ⟨Nat.zero_le _, Nat.zero_le _⟩ (fun H locs hI => ?_)
  refine lv_goto (tgt := 146) hx hb dX12_sayTurn_97 (by decide) ?_
  exact bX12_sayTurn_146 hC  hI hl hf
set_option maxRecDepth 20000 in
set_option maxHeartbeats 4000000 in
theorem bX12_sayTurn_130 {st : Nat → Nat} {p : Program} {l : Launch} {e : Env} {s : State} {m : MethodId} {args : Array Value} {below : List Frame} {meth : Method} {c : Code} {D : va_G} {A : Nat → Prop} {ad : Nat → Nat} {cy : Nat → ClassId} (hC : zC p m c cX12_sayTurn 3 s args wzX12_sayTurn RX12 meth none)  {res : zSt} {H : Heap} {locs : List Loc} {σ : zSt} {ls : Array Slot} {x1 : Int32} {x2 : Int32} {s0 : Nat} (hI : zI st D (tM cy) (wM ad cy σ) A s H locs) (hl : lv_has ls 3 [(0, .ref (ad 0)), (1, .int x1), (2, .int x2)]) (hf : fX12_sayTurn_130  σ x1 x2 s0 = some res) : W p l e rmX12_sayTurn s m args below meth c H locs 0 0 (zQu below args s D (tM cy) (wM ad cy) A res) (F0 m 130 ls [.ref (st (100 + s0)), .ref (ad 0)]) := by
  have hx := hC.1
  have hb := hC.2.1
  unfold fX12_sayTurn_130 at hf
  obtain ⟨σ3, g3, hf⟩ := zbu_use hf
  refine z_callVu (As := [.ref (st (100 + s0))]) (rest := []) hC hI (cX12_say_met st l D ad cy σ s0 _ g3) (zgV zw74_23 zw75_0 zw75_1 zw1_5 zw75_2) rfl ⟨rfl, rfl⟩ 1 hdX12_say ⟨Nat.le_of_ble_eq_true rfl, Nat.le_of_ble_eq_true rfl⟩ rfl rfl (wM_e0 ad cy σ) rfl hl rfl (Nat.le_of_ble_eq_true rfl) dX12_sayTurn_130 ⟨Nat.zero_le _, Nat.zero_le _⟩ (fun H locs hI => ?_)
  refine lv_aload_n hx hb dX12_sayTurn_133 rfl (lv_at hl 0 rfl) ?_
  refine lv_iload_n hx hb dX12_sayTurn_134 rfl (lv_at hl 2 rfl) ?_
  refine lv_iconst (v := 1) hx hb dX12_sayTurn_135 (by decide) ?_
  obtain ⟨σ4, g4, hf⟩ := zbu_use hf
  refine z_callVu (As := [.int x2, .int 1]) (rest := []) hC hI (cX12_hex_met st l D ad cy σ3 x2 1 _ g4) (zgV zw75_8 zw75_9 zw75_10 zw1_5 zw75_11) rfl ⟨rfl, rfl⟩ 2 hdX12_hex ⟨Nat.le_of_ble_eq_true rfl, Nat.le_of_ble_eq_true rfl⟩ rfl rfl (wM_e0 ad cy σ3) rfl hl rfl (Nat.le_of_ble_eq_true rfl) dX12_sayTurn_136 ⟨Nat.zero_le _, Nat.zero_le _⟩ (fun H locs hI => ?_)
  refine lv_aload_n hx hb dX12_sayTurn_139 rfl (lv_at hl 0 rfl) ?_
  refine z_ldcSW hC hI 83 (by decide) rfl rfl dX12_sayTurn_140 ?_
  obtain ⟨σ5, g5, hf⟩ := zbu_use hf
  refine z_callVu (As := [.ref (st (100 + 83))]) (rest := []) hC hI (cX12_say_met st l D ad cy σ4 83 _ g5) (zgV zw74_23 zw75_0 zw75_1 zw1_5 zw75_2) rfl ⟨rfl, rfl⟩ 1 hdX12_say ⟨Nat.le_of_ble_eq_true rfl, Nat.le_of_ble_eq_true rfl⟩ rfl rfl (wM_e0 ad cy σ4) rfl hl rfl (Nat.le_of_ble_eq_true rfl) dX12_sayTurn_143 ⟨Nat.zero_le _, Nat.zero_le _⟩ (fun H locs hI => ?_)
  exact bX12_sayTurn_146 hC  hI (lv_sub hl [0, 1] rfl) hf
set_option maxRecDepth 20000 in
set_option maxHeartbeats 4000000 in
theorem bX12_sayTurn {st : Nat → Nat} {p : Program} {l : Launch} {e : Env} {s : State} {m : MethodId} {args : Array Value} {below : List Frame} {meth : Method} {c : Code} {D : va_G} {A : Nat → Prop} {ad : Nat → Nat} {cy : Nat → ClassId} (hC : zC p m c cX12_sayTurn 3 s args wzX12_sayTurn RX12 meth none)  {res : zSt} {H : Heap} {locs : List Loc} {σ : zSt} {ls : Array Slot} {x1 : Int32} (hI : zI st D (tM cy) (wM ad cy σ) A s H locs) (hl : lv_has ls 3 [(0, .ref (ad 0)), (1, .int x1)]) (hf : fX12_sayTurn  σ x1 = some res) : W p l e rmX12_sayTurn s m args below meth c H locs 0 0 (zQu below args s D (tM cy) (wM ad cy) A res) (F0 m 0 ls []) := by
  have hx := hC.1
  have hb := hC.2.1
  unfold fX12_sayTurn at hf
  refine lv_iload_n hx hb dX12_sayTurn_0 rfl (lv_at hl 1 rfl) ?_
  refine lv_iconst (v := 3) hx hb dX12_sayTurn_1 (by decide) ?_
  refine lv_ishr hx hb dX12_sayTurn_2 ?_
  refine lv_bipush (v := 7) hx hb dX12_sayTurn_3 (by decide) ?_
  refine lv_iand hx hb dX12_sayTurn_5 ?_
  refine lv_topi (fun v6 ev6 => ?_)
  replace hf := zbv_use ev6 hf
  refine lv_istore_n (lv' := [(2, .int v6), (0, .ref (ad 0)), (1, .int x1)]) hx hb dX12_sayTurn_6 rfl hl (by decide) rfl (fun ls hl => ?_)
  refine lv_iload_n hx hb dX12_sayTurn_7 rfl (lv_at hl 2 rfl) ?_
  refine lv_bipush (v := 64) hx hb dX12_sayTurn_8 (by decide) ?_
  refine lv_icmp_ge (tgt := 100) hx hb dX12_sayTurn_10 (by decide) (fun q => ?_) (fun q => ?_)
  · replace hf := zif_t q hf
    refine lv_aload_n hx hb dX12_sayTurn_100 rfl (lv_at hl 1 rfl) ?_
    refine lv_iload_n hx hb dX12_sayTurn_101 rfl (lv_at hl 2 rfl) ?_
    refine lv_sipush (v := 128) hx hb dX12_sayTurn_102 (by decide) ?_
    refine lv_icmp_ge (tgt := 114) hx hb dX12_sayTurn_105 (by decide) (fun q => ?_) (fun q => ?_)
    · replace hf := zif_t q hf
      refine lv_iload_n hx hb dX12_sayTurn_114 rfl (lv_at hl 2 rfl) ?_
      refine lv_sipush (v := 192) hx hb dX12_sayTurn_115 (by decide) ?_
      refine lv_icmp_ge (tgt := 127) hx hb dX12_sayTurn_118 (by decide) (fun q => ?_) (fun q => ?_)
      · replace hf := zif_t q hf
        refine z_ldcSW hC hI 82 (by decide) rfl rfl dX12_sayTurn_127 ?_
        exact bX12_sayTurn_130 hC  hI (lv_sub hl [1, 2, 0] rfl) hf
      replace hf := zif_f q hf
      refine z_ldcSW hC hI 81 (by decide) rfl rfl dX12_sayTurn_121 ?_
      refine lv_goto (tgt := 130) hx hb dX12_sayTurn_124 (by decide) ?_
      exact bX12_sayTurn_130 hC  hI (lv_sub hl [1, 2, 0] rfl) hf
    replace hf := zif_f q hf
    refine z_ldcSW hC hI 80 (by decide) rfl rfl dX12_sayTurn_108 ?_
    refine lv_goto (tgt := 130) hx hb dX12_sayTurn_111 (by decide) ?_
    exact bX12_sayTurn_130 hC  hI (lv_sub hl [1, 2, 0] rfl) hf
  replace hf := zif_f q hf
  refine lv_aload_n hx hb dX12_sayTurn_13 rfl (lv_at hl 1 rfl) ?_
  refine lv_iload_n hx hb dX12_sayTurn_14 rfl (lv_at hl 0 rfl) ?_
  refine lv_if_ne (tgt := 24) hx hb dX12_sayTurn_15 (by decide) (fun q => ?_) (fun q => ?_)
  · replace hf := zif_f q hf
    refine lv_iload_n hx hb dX12_sayTurn_24 rfl (lv_at hl 0 rfl) ?_
    refine lv_iconst (v := 1) hx hb dX12_sayTurn_25 (by decide) ?_
    refine lv_icmp_ne (tgt := 35) hx hb dX12_sayTurn_26 (by decide) (fun q => ?_) (fun q => ?_)
    · replace hf := zif_f q hf
      refine lv_iload_n hx hb dX12_sayTurn_35 rfl (lv_at hl 0 rfl) ?_
      refine lv_iconst (v := 2) hx hb dX12_sayTurn_36 (by decide) ?_
      refine lv_icmp_ne (tgt := 46) hx hb dX12_sayTurn_37 (by decide) (fun q => ?_) (fun q => ?_)
      · replace hf := zif_f q hf
        refine lv_iload_n hx hb dX12_sayTurn_46 rfl (lv_at hl 0 rfl) ?_
        refine lv_iconst (v := 3) hx hb dX12_sayTurn_47 (by decide) ?_
        refine lv_icmp_ne (tgt := 57) hx hb dX12_sayTurn_48 (by decide) (fun q => ?_) (fun q => ?_)
        · replace hf := zif_f q hf
          refine lv_iload_n hx hb dX12_sayTurn_57 rfl (lv_at hl 0 rfl) ?_
          refine lv_iconst (v := 4) hx hb dX12_sayTurn_58 (by decide) ?_
          refine lv_icmp_ne (tgt := 68) hx hb dX12_sayTurn_59 (by decide) (fun q => ?_) (fun q => ?_)
          · replace hf := zif_f q hf
            refine lv_iload_n hx hb dX12_sayTurn_68 rfl (lv_at hl 0 rfl) ?_
            refine lv_iconst (v := 5) hx hb dX12_sayTurn_69 (by decide) ?_
            refine lv_icmp_ne (tgt := 79) hx hb dX12_sayTurn_70 (by decide) (fun q => ?_) (fun q => ?_)
            · replace hf := zif_f q hf
              refine lv_iload_n hx hb dX12_sayTurn_79 rfl (lv_at hl 0 rfl) ?_
              refine lv_bipush (v := 6) hx hb dX12_sayTurn_80 (by decide) ?_
              refine lv_icmp_ne (tgt := 91) hx hb dX12_sayTurn_82 (by decide) (fun q => ?_) (fun q => ?_)
              · replace hf := zif_f q hf
                refine z_ldcSW hC hI 79 (by decide) rfl rfl dX12_sayTurn_91 ?_
                exact bX12_sayTurn_94 hC  hI (lv_sub hl [1, 2] rfl) hf
              replace hf := zif_t q hf
              refine z_ldcSW hC hI 78 (by decide) rfl rfl dX12_sayTurn_85 ?_
              refine lv_goto (tgt := 94) hx hb dX12_sayTurn_88 (by decide) ?_
              exact bX12_sayTurn_94 hC  hI (lv_sub hl [1, 2] rfl) hf
            replace hf := zif_t q hf
            refine z_ldcSW hC hI 77 (by decide) rfl rfl dX12_sayTurn_73 ?_
            refine lv_goto (tgt := 94) hx hb dX12_sayTurn_76 (by decide) ?_
            exact bX12_sayTurn_94 hC  hI (lv_sub hl [1, 2] rfl) hf
          replace hf := zif_t q hf
          refine z_ldcSW hC hI 76 (by decide) rfl rfl dX12_sayTurn_62 ?_
          refine lv_goto (tgt := 94) hx hb dX12_sayTurn_65 (by decide) ?_
          exact bX12_sayTurn_94 hC  hI (lv_sub hl [1, 2] rfl) hf
        replace hf := zif_t q hf
        refine z_ldcSW hC hI 75 (by decide) rfl rfl dX12_sayTurn_51 ?_
        refine lv_goto (tgt := 94) hx hb dX12_sayTurn_54 (by decide) ?_
        exact bX12_sayTurn_94 hC  hI (lv_sub hl [1, 2] rfl) hf
      replace hf := zif_t q hf
      refine z_ldcSW hC hI 74 (by decide) rfl rfl dX12_sayTurn_40 ?_
      refine lv_goto (tgt := 94) hx hb dX12_sayTurn_43 (by decide) ?_
      exact bX12_sayTurn_94 hC  hI (lv_sub hl [1, 2] rfl) hf
    replace hf := zif_t q hf
    refine z_ldcSW hC hI 73 (by decide) rfl rfl dX12_sayTurn_29 ?_
    refine lv_goto (tgt := 94) hx hb dX12_sayTurn_32 (by decide) ?_
    exact bX12_sayTurn_94 hC  hI (lv_sub hl [1, 2] rfl) hf
  replace hf := zif_t q hf
  refine z_ldcSW hC hI 72 (by decide) rfl rfl dX12_sayTurn_18 ?_
  refine lv_goto (tgt := 94) hx hb dX12_sayTurn_21 (by decide) ?_
  exact bX12_sayTurn_94 hC  hI (lv_sub hl [1, 2] rfl) hf
set_option maxRecDepth 20000 in
theorem cX12_sayTurn_met (st : Nat → Nat) (l : Launch) (D : va_G) (ad : Nat → Nat) (cy : Nat → ClassId) (σ : zSt) (x1 : Int32) (res : zSt) (hf : fX12_sayTurn σ x1 = some res) (sz : Nat) : zMu st l yX12_sayTurn wzX12_sayTurn rmX12_sayTurn [.ref (ad 0), .int x1] D (tM cy) (wM ad cy) sz σ res :=
  zMu.of (cc := cX12_sayTurn) (maxL := 3) (ret := none) (by decide) rfl (Nat.le_of_ble_eq_true rfl) (fun p e s m args below meth c hC A hI ls hl => bX12_sayTurn hC hI hl hf)
theorem hdX12_sayTurn : yX12_sayTurn.cls = RX12 ∧ yX12_sayTurn.cls ≠ "java/lang/invoke/MethodHandle" ∧ yX12_sayTurn.cls ≠ "java/lang/invoke/VarHandle" ∧ (parseMethodDescriptor yX12_sayTurn.desc).map (fun d => d.parameters.length) = some 1 := by decide +kernel
noncomputable def rmX12_sayZero : Room := { frames := 7, cells := 0, slots := 0, locals := 181 }
noncomputable def wzX12_sayZero : List Cond := .code yX12_sayZero cX12_sayZero 5 none :: wsL_law
noncomputable def fX12_sayZero_301  (σ : zSt)  : Option (zSt) :=
  some σ
noncomputable def fX12_sayZero_80  (σ : zSt) (x1 : Int32) : Option (zSt) :=
  if x1 ≤ 1 then fX12_sayZero_301 σ else
  zbu (fX12_sayJump σ ) (fun σ1 =>
  fX12_sayZero_301 σ1)
noncomputable def fX12_sayZero_58  (σ : zSt) (x1 : Int32) (s0 : Nat) : Option (zSt) :=
  zbu (fX12_say σ s0) (fun σ2 =>
  if x1 ≤ 3 then fX12_sayZero_80 σ2 x1 else
  zbu (fX12_sayCc σ2 (x1 - 4)) (fun σ3 =>
  zbu (fX12_say σ3 83) (fun σ4 =>
  fX12_sayZero_80 σ4 x1)))
noncomputable def fX12_sayZero_133  (σ : zSt) (x3 : Int32) (x4 : Int32) : Option (zSt) :=
  zbu (fX12_say σ 83) (fun σ5 =>
  if x4 = 0 then zbi (fX12_takenWord σ5 ) (fun σ6 v7 =>
  zbu (fX12_hex σ6 v7 4) (fun σ8 =>
  fX12_sayZero_301 σ8)) else
  zbu (fX12_sayRp σ5 x3 0) (fun σ9 =>
  fX12_sayZero_301 σ9))
noncomputable def fX12_sayZero_112  (σ : zSt) (x3 : Int32) (x4 : Int32) (s0 : Nat) : Option (zSt) :=
  zbu (fX12_say σ s0) (fun σ10 =>
  if x4 = 0 then zbu (fX12_sayRp σ10 x3 0) (fun σ11 =>
  fX12_sayZero_133 σ11 x3 x4) else
  zbu (fX12_sayHl σ10 ) (fun σ12 =>
  fX12_sayZero_133 σ12 x3 x4))
noncomputable def fX12_sayZero_186  (σ : zSt) (x3 : Int32) (s0 : Nat) : Option (zSt) :=
  zbu (fX12_say σ s0) (fun σ13 =>
  zbu (fX12_sayRp σ13 x3 0) (fun σ14 =>
  fX12_sayZero_301 σ14))
noncomputable def fX12_sayZero_269  (σ : zSt) (x3 : Int32) (x4 : Int32) : Option (zSt) :=
  if x4 = 0 then zbu (fX12_say σ 83) (fun σ15 =>
  if x3 = 2 then zbu (fX12_sayHl σ15 ) (fun σ17 =>
  fX12_sayZero_301 σ17) else
  zbu (fX12_say σ15 99) (fun σ16 =>
  fX12_sayZero_301 σ16)) else
  some σ
noncomputable def fX12_sayZero_255  (σ : zSt) (x3 : Int32) (x4 : Int32) (s0 : Nat) : Option (zSt) :=
  zbu (fX12_say σ s0) (fun σ18 =>
  fX12_sayZero_269 σ18 x3 x4)
noncomputable def fX12_sayZero_236  (σ : zSt) (x3 : Int32) (x4 : Int32) : Option (zSt) :=
  if 2 ≤ x3 then zbi (fX12_takenWord σ ) (fun σ19 v20 =>
  zbu (fX12_sayPlaced σ19 v20) (fun σ21 =>
  fX12_sayZero_269 σ21 x3 x4)) else
  if x3 = 0 then fX12_sayZero_255 σ x3 x4 118 else
  fX12_sayZero_255 σ x3 x4 119
noncomputable def fX12_sayZero_229  (σ : zSt) (x3 : Int32) (x4 : Int32) : Option (zSt) :=
  zbu (fX12_say σ 83) (fun σ22 =>
  fX12_sayZero_236 σ22 x3 x4)
noncomputable def fX12_sayZero_16  (σ : zSt) (x1 : Int32) (x2 : Int32) (x3 : Int32) (s0 : Int32) : Option (zSt) :=
  if x2 = 0 then if x1 = 0 then fX12_sayZero_58 σ x1 71 else
  if x1 = 1 then fX12_sayZero_58 σ x1 100 else
  if x1 = 2 then fX12_sayZero_58 σ x1 101 else
  fX12_sayZero_58 σ x1 102 else
  if x2 = 1 then if s0 = 0 then fX12_sayZero_112 σ x3 s0 111 else
  fX12_sayZero_112 σ x3 s0 110 else
  if x2 = 3 then if s0 = 0 then fX12_sayZero_186 σ x3 117 else
  fX12_sayZero_186 σ x3 116 else
  zbu (fX12_say σ 111) (fun σ23 =>
  if s0 = 0 then fX12_sayZero_236 σ23 x3 s0 else
  if x3 = 2 then zbu (fX12_sayHl σ23 ) (fun σ25 =>
  fX12_sayZero_229 σ25 x3 s0) else
  zbu (fX12_say σ23 99) (fun σ24 =>
  fX12_sayZero_229 σ24 x3 s0))
noncomputable def fX12_sayZero  (σ : zSt) (x1 : Int32) (x2 : Int32) : Option (zSt) :=
  zbv (x1 >>> ((1 : Int32) &&& 31)) (fun v26 =>
  zck (decide (¬ 2 = 0)) (
  if (zrem x1 2) = 1 then fX12_sayZero_16 σ x1 x2 v26 1 else
  fX12_sayZero_16 σ x1 x2 v26 0))
set_option maxRecDepth 20000 in
set_option maxHeartbeats 4000000 in
theorem bX12_sayZero_301 {st : Nat → Nat} {p : Program} {l : Launch} {e : Env} {s : State} {m : MethodId} {args : Array Value} {below : List Frame} {meth : Method} {c : Code} {D : va_G} {A : Nat → Prop} {ad : Nat → Nat} {cy : Nat → ClassId} (hC : zC p m c cX12_sayZero 5 s args wzX12_sayZero RX12 meth none)  {res : zSt} {H : Heap} {locs : List Loc} {σ : zSt} {ls : Array Slot}  (hI : zI st D (tM cy) (wM ad cy σ) A s H locs) (hl : lv_has ls 5 []) (hf : fX12_sayZero_301  σ  = some res) : W p l e rmX12_sayZero s m args below meth c H locs 0 0 (zQu below args s D (tM cy) (wM ad cy) A res) (F0 m 301 ls []) := by
  have hx := hC.1
  have hb := hC.2.1
  unfold fX12_sayZero_301 at hf
  exact z_return hC hI hf dX12_sayZero_301
set_option maxRecDepth 20000 in
set_option maxHeartbeats 4000000 in
theorem bX12_sayZero_80 {st : Nat → Nat} {p : Program} {l : Launch} {e : Env} {s : State} {m : MethodId} {args : Array Value} {below : List Frame} {meth : Method} {c : Code} {D : va_G} {A : Nat → Prop} {ad : Nat → Nat} {cy : Nat → ClassId} (hC : zC p m c cX12_sayZero 5 s args wzX12_sayZero RX12 meth none)  {res : zSt} {H : Heap} {locs : List Loc} {σ : zSt} {ls : Array Slot} {x1 : Int32} (hI : zI st D (tM cy) (wM ad cy σ) A s H locs) (hl : lv_has ls 5 [(0, .ref (ad 0)), (1, .int x1)]) (hf : fX12_sayZero_80  σ x1 = some res) : W p l e rmX12_sayZero s m args below meth c H locs 0 0 (zQu below args s D (tM cy) (wM ad cy) A res) (F0 m 80 ls []) := by
  have hx := hC.1
  have hb := hC.2.1
  unfold fX12_sayZero_80 at hf
  refine lv_iload_n hx hb dX12_sayZero_80 rfl (lv_at hl 1 rfl) ?_
  refine lv_iconst (v := 1) hx hb dX12_sayZero_81 (by decide) ?_
  refine lv_icmp_le (tgt := 301) hx hb dX12_sayZero_82 (by decide) (fun q => ?_) (fun q => ?_)
  · replace hf := zif_t q hf
    exact bX12_sayZero_301 hC  hI (lv_sub hl [] rfl) hf
  replace hf := zif_f q hf
  refine lv_aload_n hx hb dX12_sayZero_85 rfl (lv_at hl 0 rfl) ?_
  obtain ⟨σ1, g1, hf⟩ := zbu_use hf
  refine z_callVu (As := []) (rest := []) hC hI (cX12_sayJump_met st l D ad cy σ  _ g1) (zgV zw76_12 zw76_13 zw76_14 zw1_5 zw76_15) rfl ⟨rfl, rfl⟩ 0 hdX12_sayJump ⟨Nat.le_of_ble_eq_true rfl, Nat.le_of_ble_eq_true rfl⟩ rfl rfl (wM_e0 ad cy σ) rfl hl rfl (Nat.le_of_ble_eq_true rfl) dX12_sayZero_86 ⟨Nat.zero_le _, Nat.zero_le _⟩ (fun H locs hI => ?_)
  refine lv_goto (tgt := 301) hx hb dX12_sayZero_89 (by decide) ?_
  exact bX12_sayZero_301 hC  hI (lv_sub hl [] rfl) hf
set_option maxRecDepth 20000 in
set_option maxHeartbeats 4000000 in
theorem bX12_sayZero_58 {st : Nat → Nat} {p : Program} {l : Launch} {e : Env} {s : State} {m : MethodId} {args : Array Value} {below : List Frame} {meth : Method} {c : Code} {D : va_G} {A : Nat → Prop} {ad : Nat → Nat} {cy : Nat → ClassId} (hC : zC p m c cX12_sayZero 5 s args wzX12_sayZero RX12 meth none)  {res : zSt} {H : Heap} {locs : List Loc} {σ : zSt} {ls : Array Slot} {x1 : Int32} {s0 : Nat} (hI : zI st D (tM cy) (wM ad cy σ) A s H locs) (hl : lv_has ls 5 [(0, .ref (ad 0)), (1, .int x1)]) (hf : fX12_sayZero_58  σ x1 s0 = some res) : W p l e rmX12_sayZero s m args below meth c H locs 0 0 (zQu below args s D (tM cy) (wM ad cy) A res) (F0 m 58 ls [.ref (st (100 + s0)), .ref (ad 0)]) := by
  have hx := hC.1
  have hb := hC.2.1
  unfold fX12_sayZero_58 at hf
  obtain ⟨σ2, g2, hf⟩ := zbu_use hf
  refine z_callVu (As := [.ref (st (100 + s0))]) (rest := []) hC hI (cX12_say_met st l D ad cy σ s0 _ g2) (zgV zw74_23 zw75_0 zw75_1 zw1_5 zw75_2) rfl ⟨rfl, rfl⟩ 1 hdX12_say ⟨Nat.le_of_ble_eq_true rfl, Nat.le_of_ble_eq_true rfl⟩ rfl rfl (wM_e0 ad cy σ) rfl hl rfl (Nat.le_of_ble_eq_true rfl) dX12_sayZero_58 ⟨Nat.zero_le _, Nat.zero_le _⟩ (fun H locs hI => ?_)
  refine lv_iload_n hx hb dX12_sayZero_61 rfl (lv_at hl 1 rfl) ?_
  refine lv_iconst (v := 3) hx hb dX12_sayZero_62 (by decide) ?_
  refine lv_icmp_le (tgt := 80) hx hb dX12_sayZero_63 (by decide) (fun q => ?_) (fun q => ?_)
  · replace hf := zif_t q hf
    exact bX12_sayZero_80 hC  hI hl hf
  replace hf := zif_f q hf
  refine lv_aload_n hx hb dX12_sayZero_66 rfl (lv_at hl 0 rfl) ?_
  refine lv_iload_n hx hb dX12_sayZero_67 rfl (lv_at hl 1 rfl) ?_
  refine lv_iconst (v := 4) hx hb dX12_sayZero_68 (by decide) ?_
  refine lv_isub hx hb dX12_sayZero_69 ?_
  obtain ⟨σ3, g3, hf⟩ := zbu_use hf
  refine z_callVu (As := [.int (x1 - 4)]) (rest := []) hC hI (cX12_sayCc_met st l D ad cy σ2 (x1 - 4) _ g3) (zgV zw76_8 zw76_9 zw76_10 zw1_5 zw76_11) rfl ⟨rfl, rfl⟩ 1 hdX12_sayCc ⟨Nat.le_of_ble_eq_true rfl, Nat.le_of_ble_eq_true rfl⟩ rfl rfl (wM_e0 ad cy σ2) rfl hl rfl (Nat.le_of_ble_eq_true rfl) dX12_sayZero_70 ⟨Nat.zero_le _, Nat.zero_le _⟩ (fun H locs hI => ?_)
  refine lv_aload_n hx hb dX12_sayZero_73 rfl (lv_at hl 0 rfl) ?_
  refine z_ldcSW hC hI 83 (by decide) rfl rfl dX12_sayZero_74 ?_
  obtain ⟨σ4, g4, hf⟩ := zbu_use hf
  refine z_callVu (As := [.ref (st (100 + 83))]) (rest := []) hC hI (cX12_say_met st l D ad cy σ3 83 _ g4) (zgV zw74_23 zw75_0 zw75_1 zw1_5 zw75_2) rfl ⟨rfl, rfl⟩ 1 hdX12_say ⟨Nat.le_of_ble_eq_true rfl, Nat.le_of_ble_eq_true rfl⟩ rfl rfl (wM_e0 ad cy σ3) rfl hl rfl (Nat.le_of_ble_eq_true rfl) dX12_sayZero_77 ⟨Nat.zero_le _, Nat.zero_le _⟩ (fun H locs hI => ?_)
  exact bX12_sayZero_80 hC  hI hl hf
set_option maxRecDepth 20000 in
set_option maxHeartbeats 4000000 in
theorem bX12_sayZero_133 {st : Nat → Nat} {p : Program} {l : Launch} {e : Env} {s : State} {m : MethodId} {args : Array Value} {below : List Frame} {meth : Method} {c : Code} {D : va_G} {A : Nat → Prop} {ad : Nat → Nat} {cy : Nat → ClassId} (hC : zC p m c cX12_sayZero 5 s args wzX12_sayZero RX12 meth none)  {res : zSt} {H : Heap} {locs : List Loc} {σ : zSt} {ls : Array Slot} {x3 : Int32} {x4 : Int32} (hI : zI st D (tM cy) (wM ad cy σ) A s H locs) (hl : lv_has ls 5 [(0, .ref (ad 0)), (3, .int x3), (4, .int x4)]) (hf : fX12_sayZero_133  σ x3 x4 = some res) : W p l e rmX12_sayZero s m args below meth c H locs 0 0 (zQu below args s D (tM cy) (wM ad cy) A res) (F0 m 133 ls []) := by
  have hx := hC.1
  have hb := hC.2.1
  unfold fX12_sayZero_133 at hf
  refine lv_aload_n hx hb dX12_sayZero_133 rfl (lv_at hl 0 rfl) ?_
  refine z_ldcSW hC hI 83 (by decide) rfl rfl dX12_sayZero_134 ?_
  obtain ⟨σ5, g5, hf⟩ := zbu_use hf
  refine z_callVu (As := [.ref (st (100 + 83))]) (rest := []) hC hI (cX12_say_met st l D ad cy σ 83 _ g5) (zgV zw74_23 zw75_0 zw75_1 zw1_5 zw75_2) rfl ⟨rfl, rfl⟩ 1 hdX12_say ⟨Nat.le_of_ble_eq_true rfl, Nat.le_of_ble_eq_true rfl⟩ rfl rfl (wM_e0 ad cy σ) rfl hl rfl (Nat.le_of_ble_eq_true rfl) dX12_sayZero_137 ⟨Nat.zero_le _, Nat.zero_le _⟩ (fun H locs hI => ?_)
  refine lv_iload hx hb dX12_sayZero_140 (lv_at hl 2 rfl) ?_
  refine lv_if_eq (tgt := 154) hx hb dX12_sayZero_142 (by decide) (fun q => ?_) (fun q => ?_)
  · replace hf := zif_t q hf
    refine lv_aload_n hx hb dX12_sayZero_154 rfl (lv_at hl 0 rfl) ?_
    refine lv_aload_n hx hb dX12_sayZero_155 rfl (lv_at hl 0 rfl) ?_
    obtain ⟨σ6, v7, g6, hf⟩ := zbi_use hf
    refine z_callVi (As := []) (rest := [.ref (ad 0)]) hC hI (cX12_takenWord_met st l D ad cy σ5  _ g6) (zgV zw76_20 zw76_21 zw76_22 zw1_5 zw76_23) rfl ⟨rfl, rfl⟩ 0 hdX12_takenWord ⟨Nat.le_of_ble_eq_true rfl, Nat.le_of_ble_eq_true rfl⟩ rfl rfl (wM_e0 ad cy σ5) rfl hl rfl (Nat.le_of_ble_eq_true rfl) dX12_sayZero_156 ⟨Nat.zero_le _, Nat.zero_le _⟩ (fun H locs hI => ?_)
    refine lv_iconst (v := 4) hx hb dX12_sayZero_159 (by decide) ?_
    obtain ⟨σ8, g8, hf⟩ := zbu_use hf
    refine z_callVu (As := [.int v7, .int 4]) (rest := []) hC hI (cX12_hex_met st l D ad cy σ6 v7 4 _ g8) (zgV zw75_8 zw75_9 zw75_10 zw1_5 zw75_11) rfl ⟨rfl, rfl⟩ 2 hdX12_hex ⟨Nat.le_of_ble_eq_true rfl, Nat.le_of_ble_eq_true rfl⟩ rfl rfl (wM_e0 ad cy σ6) rfl hl rfl (Nat.le_of_ble_eq_true rfl) dX12_sayZero_160 ⟨Nat.zero_le _, Nat.zero_le _⟩ (fun H locs hI => ?_)
    refine lv_goto (tgt := 301) hx hb dX12_sayZero_163 (by decide) ?_
    exact bX12_sayZero_301 hC  hI (lv_sub hl [] rfl) hf
  replace hf := zif_f q hf
  refine lv_aload_n hx hb dX12_sayZero_145 rfl (lv_at hl 0 rfl) ?_
  refine lv_iload_n hx hb dX12_sayZero_146 rfl (lv_at hl 1 rfl) ?_
  refine lv_iconst (v := 0) hx hb dX12_sayZero_147 (by decide) ?_
  obtain ⟨σ9, g9, hf⟩ := zbu_use hf
  refine z_callVu (As := [.int x3, .int 0]) (rest := []) hC hI (cX12_sayRp_met st l D ad cy σ5 x3 0 _ g9) (zgV zw76_16 zw76_17 zw76_18 zw1_5 zw76_19) rfl ⟨rfl, rfl⟩ 2 hdX12_sayRp ⟨Nat.le_of_ble_eq_true rfl, Nat.le_of_ble_eq_true rfl⟩ rfl rfl (wM_e0 ad cy σ5) rfl hl rfl (Nat.le_of_ble_eq_true rfl) dX12_sayZero_148 ⟨Nat.zero_le _, Nat.zero_le _⟩ (fun H locs hI => ?_)
  refine lv_goto (tgt := 301) hx hb dX12_sayZero_151 (by decide) ?_
  exact bX12_sayZero_301 hC  hI (lv_sub hl [] rfl) hf
set_option maxRecDepth 20000 in
set_option maxHeartbeats 4000000 in
theorem bX12_sayZero_112 {st : Nat → Nat} {p : Program} {l : Launch} {e : Env} {s : State} {m : MethodId} {args : Array Value} {below : List Frame} {meth : Method} {c : Code} {D : va_G} {A : Nat → Prop} {ad : Nat → Nat} {cy : Nat → ClassId} (hC : zC p m c cX12_sayZero 5 s args wzX12_sayZero RX12 meth none)  {res : zSt} {H : Heap} {locs : List Loc} {σ : zSt} {ls : Array Slot} {x3 : Int32} {x4 : Int32} {s0 : Nat} (hI : zI st D (tM cy) (wM ad cy σ) A s H locs) (hl : lv_has ls 5 [(0, .ref (ad 0)), (3, .int x3), (4, .int x4)]) (hf : fX12_sayZero_112  σ x3 x4 s0 = some res) : W p l e rmX12_sayZero s m args below meth c H locs 0 0 (zQu below args s D (tM cy) (wM ad cy) A res) (F0 m 112 ls [.ref (st (100 + s0)), .ref (ad 0)]) := by
  have hx := hC.1
  have hb := hC.2.1
  unfold fX12_sayZero_112 at hf
  obtain ⟨σ10, g10, hf⟩ := zbu_use hf
  refine z_callVu (As := [.ref (st (100 + s0))]) (rest := []) hC hI (cX12_say_met st l D ad cy σ s0 _ g10) (zgV zw74_23 zw75_0 zw75_1 zw1_5 zw75_2) rfl ⟨rfl, rfl⟩ 1 hdX12_say ⟨Nat.le_of_ble_eq_true rfl, Nat.le_of_ble_eq_true rfl⟩ rfl rfl (wM_e0 ad cy σ) rfl hl rfl (Nat.le_of_ble_eq_true rfl) dX12_sayZero_112 ⟨Nat.zero_le _, Nat.zero_le _⟩ (fun H locs hI => ?_)
  refine lv_iload hx hb dX12_sayZero_115 (lv_at hl 2 rfl) ?_
  refine lv_if_eq (tgt := 127) hx hb dX12_sayZero_117 (by decide) (fun q => ?_) (fun q => ?_)
  · replace hf := zif_t q hf
    refine lv_aload_n hx hb dX12_sayZero_127 rfl (lv_at hl 0 rfl) ?_
    refine lv_iload_n hx hb dX12_sayZero_128 rfl (lv_at hl 1 rfl) ?_
    refine lv_iconst (v := 0) hx hb dX12_sayZero_129 (by decide) ?_
    obtain ⟨σ11, g11, hf⟩ := zbu_use hf
    refine z_callVu (As := [.int x3, .int 0]) (rest := []) hC hI (cX12_sayRp_met st l D ad cy σ10 x3 0 _ g11) (zgV zw76_16 zw76_17 zw76_18 zw1_5 zw76_19) rfl ⟨rfl, rfl⟩ 2 hdX12_sayRp ⟨Nat.le_of_ble_eq_true rfl, Nat.le_of_ble_eq_true rfl⟩ rfl rfl (wM_e0 ad cy σ10) rfl hl rfl (Nat.le_of_ble_eq_true rfl) dX12_sayZero_130 ⟨Nat.zero_le _, Nat.zero_le _⟩ (fun H locs hI => ?_)
    exact bX12_sayZero_133 hC  hI hl hf
  replace hf := zif_f q hf
  refine lv_aload_n hx hb dX12_sayZero_120 rfl (lv_at hl 0 rfl) ?_
  obtain ⟨σ12, g12, hf⟩ := zbu_use hf
  refine z_callVu (As := []) (rest := []) hC hI (cX12_sayHl_met st l D ad cy σ10  _ g12) (zgV zw75_20 zw75_21 zw75_22 zw1_5 zw75_23) rfl ⟨rfl, rfl⟩ 0 hdX12_sayHl ⟨Nat.le_of_ble_eq_true rfl, Nat.le_of_ble_eq_true rfl⟩ rfl rfl (wM_e0 ad cy σ10) rfl hl rfl (Nat.le_of_ble_eq_true rfl) dX12_sayZero_121 ⟨Nat.zero_le _, Nat.zero_le _⟩ (fun H locs hI => ?_)
  refine lv_goto (tgt := 133) hx hb dX12_sayZero_124 (by decide) ?_
  exact bX12_sayZero_133 hC  hI hl hf
set_option maxRecDepth 20000 in
set_option maxHeartbeats 4000000 in
theorem bX12_sayZero_186 {st : Nat → Nat} {p : Program} {l : Launch} {e : Env} {s : State} {m : MethodId} {args : Array Value} {below : List Frame} {meth : Method} {c : Code} {D : va_G} {A : Nat → Prop} {ad : Nat → Nat} {cy : Nat → ClassId} (hC : zC p m c cX12_sayZero 5 s args wzX12_sayZero RX12 meth none)  {res : zSt} {H : Heap} {locs : List Loc} {σ : zSt} {ls : Array Slot} {x3 : Int32} {s0 : Nat} (hI : zI st D (tM cy) (wM ad cy σ) A s H locs) (hl : lv_has ls 5 [(0, .ref (ad 0)), (3, .int x3)]) (hf : fX12_sayZero_186  σ x3 s0 = some res) : W p l e rmX12_sayZero s m args below meth c H locs 0 0 (zQu below args s D (tM cy) (wM ad cy) A res) (F0 m 186 ls [.ref (st (100 + s0)), .ref (ad 0)]) := by
  have hx := hC.1
  have hb := hC.2.1
  unfold fX12_sayZero_186 at hf
  obtain ⟨σ13, g13, hf⟩ := zbu_use hf
  refine z_callVu (As := [.ref (st (100 + s0))]) (rest := []) hC hI (cX12_say_met st l D ad cy σ s0 _ g13) (zgV zw74_23 zw75_0 zw75_1 zw1_5 zw75_2) rfl ⟨rfl, rfl⟩ 1 hdX12_say ⟨Nat.le_of_ble_eq_true rfl, Nat.le_of_ble_eq_true rfl⟩ rfl rfl (wM_e0 ad cy σ) rfl hl rfl (Nat.le_of_ble_eq_true rfl) dX12_sayZero_186 ⟨Nat.zero_le _, Nat.zero_le _⟩ (fun H locs hI => ?_)
  refine lv_aload_n hx hb dX12_sayZero_189 rfl (lv_at hl 0 rfl) ?_
  refine lv_iload_n hx hb dX12_sayZero_190 rfl (lv_at hl 1 rfl) ?_
  refine lv_iconst (v := 0) hx hb dX12_sayZero_191 (by decide) ?_
  obtain ⟨σ14, g14, hf⟩ := zbu_use hf
  refine z_callVu (As := [.int x3, .int 0]) (rest := []) hC hI (cX12_sayRp_met st l D ad cy σ13 x3 0 _ g14) (zgV zw76_16 zw76_17 zw76_18 zw1_5 zw76_19) rfl ⟨rfl, rfl⟩ 2 hdX12_sayRp ⟨Nat.le_of_ble_eq_true rfl, Nat.le_of_ble_eq_true rfl⟩ rfl rfl (wM_e0 ad cy σ13) rfl hl rfl (Nat.le_of_ble_eq_true rfl) dX12_sayZero_192 ⟨Nat.zero_le _, Nat.zero_le _⟩ (fun H locs hI => ?_)
  refine lv_goto (tgt := 301) hx hb dX12_sayZero_195 (by decide) ?_
  exact bX12_sayZero_301 hC  hI (lv_sub hl [] rfl) hf
set_option maxRecDepth 20000 in
set_option maxHeartbeats 4000000 in
theorem bX12_sayZero_269 {st : Nat → Nat} {p : Program} {l : Launch} {e : Env} {s : State} {m : MethodId} {args : Array Value} {below : List Frame} {meth : Method} {c : Code} {D : va_G} {A : Nat → Prop} {ad : Nat → Nat} {cy : Nat → ClassId} (hC : zC p m c cX12_sayZero 5 s args wzX12_sayZero RX12 meth none)  {res : zSt} {H : Heap} {locs : List Loc} {σ : zSt} {ls : Array Slot} {x3 : Int32} {x4 : Int32} (hI : zI st D (tM cy) (wM ad cy σ) A s H locs) (hl : lv_has ls 5 [(0, .ref (ad 0)), (3, .int x3), (4, .int x4)]) (hf : fX12_sayZero_269  σ x3 x4 = some res) : W p l e rmX12_sayZero s m args below meth c H locs 0 0 (zQu below args s D (tM cy) (wM ad cy) A res) (F0 m 269 ls []) := by
  have hx := hC.1
  have hb := hC.2.1
  unfold fX12_sayZero_269 at hf
  refine lv_iload hx hb dX12_sayZero_269 (lv_at hl 2 rfl) ?_
  refine lv_if_eq (tgt := 275) hx hb dX12_sayZero_271 (by decide) (fun q => ?_) (fun q => ?_)
  · replace hf := zif_t q hf
    refine lv_aload_n hx hb dX12_sayZero_275 rfl (lv_at hl 0 rfl) ?_
    refine z_ldcSW hC hI 83 (by decide) rfl rfl dX12_sayZero_276 ?_
    obtain ⟨σ15, g15, hf⟩ := zbu_use hf
    refine z_callVu (As := [.ref (st (100 + 83))]) (rest := []) hC hI (cX12_say_met st l D ad cy σ 83 _ g15) (zgV zw74_23 zw75_0 zw75_1 zw1_5 zw75_2) rfl ⟨rfl, rfl⟩ 1 hdX12_say ⟨Nat.le_of_ble_eq_true rfl, Nat.le_of_ble_eq_true rfl⟩ rfl rfl (wM_e0 ad cy σ) rfl hl rfl (Nat.le_of_ble_eq_true rfl) dX12_sayZero_279 ⟨Nat.zero_le _, Nat.zero_le _⟩ (fun H locs hI => ?_)
    refine lv_iload_n hx hb dX12_sayZero_282 rfl (lv_at hl 1 rfl) ?_
    refine lv_iconst (v := 2) hx hb dX12_sayZero_283 (by decide) ?_
    refine lv_icmp_ne (tgt := 294) hx hb dX12_sayZero_284 (by decide) (fun q => ?_) (fun q => ?_)
    · replace hf := zif_f q hf
      refine lv_aload_n hx hb dX12_sayZero_294 rfl (lv_at hl 0 rfl) ?_
      refine z_ldcSW hC hI 99 (by decide) rfl rfl dX12_sayZero_295 ?_
      obtain ⟨σ16, g16, hf⟩ := zbu_use hf
      refine z_callVu (As := [.ref (st (100 + 99))]) (rest := []) hC hI (cX12_say_met st l D ad cy σ15 99 _ g16) (zgV zw74_23 zw75_0 zw75_1 zw1_5 zw75_2) rfl ⟨rfl, rfl⟩ 1 hdX12_say ⟨Nat.le_of_ble_eq_true rfl, Nat.le_of_ble_eq_true rfl⟩ rfl rfl (wM_e0 ad cy σ15) rfl hl rfl (Nat.le_of_ble_eq_true rfl) dX12_sayZero_298 ⟨Nat.zero_le _, Nat.zero_le _⟩ (fun H locs hI => ?_)
      exact bX12_sayZero_301 hC  hI (lv_sub hl [] rfl) hf
    replace hf := zif_t q hf
    refine lv_aload_n hx hb dX12_sayZero_287 rfl (lv_at hl 0 rfl) ?_
    obtain ⟨σ17, g17, hf⟩ := zbu_use hf
    refine z_callVu (As := []) (rest := []) hC hI (cX12_sayHl_met st l D ad cy σ15  _ g17) (zgV zw75_20 zw75_21 zw75_22 zw1_5 zw75_23) rfl ⟨rfl, rfl⟩ 0 hdX12_sayHl ⟨Nat.le_of_ble_eq_true rfl, Nat.le_of_ble_eq_true rfl⟩ rfl rfl (wM_e0 ad cy σ15) rfl hl rfl (Nat.le_of_ble_eq_true rfl) dX12_sayZero_288 ⟨Nat.zero_le _, Nat.zero_le _⟩ (fun H locs hI => ?_)
    refine lv_goto (tgt := 301) hx hb dX12_sayZero_291 (by decide) ?_
    exact bX12_sayZero_301 hC  hI (lv_sub hl [] rfl) hf
  replace hf := zif_f q hf
  exact z_return hC hI hf dX12_sayZero_274
set_option maxRecDepth 20000 in
set_option maxHeartbeats 4000000 in
theorem bX12_sayZero_255 {st : Nat → Nat} {p : Program} {l : Launch} {e : Env} {s : State} {m : MethodId} {args : Array Value} {below : List Frame} {meth : Method} {c : Code} {D : va_G} {A : Nat → Prop} {ad : Nat → Nat} {cy : Nat → ClassId} (hC : zC p m c cX12_sayZero 5 s args wzX12_sayZero RX12 meth none)  {res : zSt} {H : Heap} {locs : List Loc} {σ : zSt} {ls : Array Slot} {x3 : Int32} {x4 : Int32} {s0 : Nat} (hI : zI st D (tM cy) (wM ad cy σ) A s H locs) (hl : lv_has ls 5 [(0, .ref (ad 0)), (3, .int x3), (4, .int x4)]) (hf : fX12_sayZero_255  σ x3 x4 s0 = some res) : W p l e rmX12_sayZero s m args below meth c H locs 0 0 (zQu below args s D (tM cy) (wM ad cy) A res) (F0 m 255 ls [.ref (st (100 + s0)), .ref (ad 0)]) := by
  have hx := hC.1
  have hb := hC.2.1
  unfold fX12_sayZero_255 at hf
  obtain ⟨σ18, g18, hf⟩ := zbu_use hf
  refine z_callVu (As := [.ref (st (100 + s0))]) (rest := []) hC hI (cX12_say_met st l D ad cy σ s0 _ g18) (zgV zw74_23 zw75_0 zw75_1 zw1_5 zw75_2) rfl ⟨rfl, rfl⟩ 1 hdX12_say ⟨Nat.le_of_ble_eq_true rfl, Nat.le_of_ble_eq_true rfl⟩ rfl rfl (wM_e0 ad cy σ) rfl hl rfl (Nat.le_of_ble_eq_true rfl) dX12_sayZero_255 ⟨Nat.zero_le _, Nat.zero_le _⟩ (fun H locs hI => ?_)
  refine lv_goto (tgt := 269) hx hb dX12_sayZero_258 (by decide) ?_
  exact bX12_sayZero_269 hC  hI hl hf
set_option maxRecDepth 20000 in
set_option maxHeartbeats 4000000 in
theorem bX12_sayZero_236 {st : Nat → Nat} {p : Program} {l : Launch} {e : Env} {s : State} {m : MethodId} {args : Array Value} {below : List Frame} {meth : Method} {c : Code} {D : va_G} {A : Nat → Prop} {ad : Nat → Nat} {cy : Nat → ClassId} (hC : zC p m c cX12_sayZero 5 s args wzX12_sayZero RX12 meth none)  {res : zSt} {H : Heap} {locs : List Loc} {σ : zSt} {ls : Array Slot} {x3 : Int32} {x4 : Int32} (hI : zI st D (tM cy) (wM ad cy σ) A s H locs) (hl : lv_has ls 5 [(0, .ref (ad 0)), (3, .int x3), (4, .int x4)]) (hf : fX12_sayZero_236  σ x3 x4 = some res) : W p l e rmX12_sayZero s m args below meth c H locs 0 0 (zQu below args s D (tM cy) (wM ad cy) A res) (F0 m 236 ls []) := by
  have hx := hC.1
  have hb := hC.2.1
  unfold fX12_sayZero_236 at hf
  refine lv_iload_n hx hb dX12_sayZero_236 rfl (lv_at hl 1 rfl) ?_
  refine lv_iconst (v := 2) hx hb dX12_sayZero_237 (by decide) ?_
  refine lv_icmp_ge (tgt := 261) hx hb dX12_sayZero_238 (by decide) (fun q => ?_) (fun q => ?_)
  · replace hf := zif_t q hf
    refine lv_aload_n hx hb dX12_sayZero_261 rfl (lv_at hl 0 rfl) ?_
    refine lv_aload_n hx hb dX12_sayZero_262 rfl (lv_at hl 0 rfl) ?_
    obtain ⟨σ19, v20, g19, hf⟩ := zbi_use hf
    refine z_callVi (As := []) (rest := [.ref (ad 0)]) hC hI (cX12_takenWord_met st l D ad cy σ  _ g19) (zgV zw76_20 zw76_21 zw76_22 zw1_5 zw76_23) rfl ⟨rfl, rfl⟩ 0 hdX12_takenWord ⟨Nat.le_of_ble_eq_true rfl, Nat.le_of_ble_eq_true rfl⟩ rfl rfl (wM_e0 ad cy σ) rfl hl rfl (Nat.le_of_ble_eq_true rfl) dX12_sayZero_263 ⟨Nat.zero_le _, Nat.zero_le _⟩ (fun H locs hI => ?_)
    obtain ⟨σ21, g21, hf⟩ := zbu_use hf
    refine z_callVu (As := [.int v20]) (rest := []) hC hI (cX12_sayPlaced_met st l D ad cy σ19 v20 _ g21) (zgV zw77_0 zw77_1 zw77_2 zw1_5 zw77_3) rfl ⟨rfl, rfl⟩ 1 hdX12_sayPlaced ⟨Nat.le_of_ble_eq_true rfl, Nat.le_of_ble_eq_true rfl⟩ rfl rfl (wM_e0 ad cy σ19) rfl hl rfl (Nat.le_of_ble_eq_true rfl) dX12_sayZero_266 ⟨Nat.zero_le _, Nat.zero_le _⟩ (fun H locs hI => ?_)
    exact bX12_sayZero_269 hC  hI hl hf
  replace hf := zif_f q hf
  refine lv_aload_n hx hb dX12_sayZero_241 rfl (lv_at hl 0 rfl) ?_
  refine lv_iload_n hx hb dX12_sayZero_242 rfl (lv_at hl 1 rfl) ?_
  refine lv_if_ne (tgt := 252) hx hb dX12_sayZero_243 (by decide) (fun q => ?_) (fun q => ?_)
  · replace hf := zif_f q hf
    refine z_ldcSW hC hI 119 (by decide) rfl rfl dX12_sayZero_252 ?_
    exact bX12_sayZero_255 hC  hI hl hf
  replace hf := zif_t q hf
  refine z_ldcSW hC hI 118 (by decide) rfl rfl dX12_sayZero_246 ?_
  refine lv_goto (tgt := 255) hx hb dX12_sayZero_249 (by decide) ?_
  exact bX12_sayZero_255 hC  hI hl hf
set_option maxRecDepth 20000 in
set_option maxHeartbeats 4000000 in
theorem bX12_sayZero_229 {st : Nat → Nat} {p : Program} {l : Launch} {e : Env} {s : State} {m : MethodId} {args : Array Value} {below : List Frame} {meth : Method} {c : Code} {D : va_G} {A : Nat → Prop} {ad : Nat → Nat} {cy : Nat → ClassId} (hC : zC p m c cX12_sayZero 5 s args wzX12_sayZero RX12 meth none)  {res : zSt} {H : Heap} {locs : List Loc} {σ : zSt} {ls : Array Slot} {x3 : Int32} {x4 : Int32} (hI : zI st D (tM cy) (wM ad cy σ) A s H locs) (hl : lv_has ls 5 [(0, .ref (ad 0)), (3, .int x3), (4, .int x4)]) (hf : fX12_sayZero_229  σ x3 x4 = some res) : W p l e rmX12_sayZero s m args below meth c H locs 0 0 (zQu below args s D (tM cy) (wM ad cy) A res) (F0 m 229 ls []) := by
  have hx := hC.1
  have hb := hC.2.1
  unfold fX12_sayZero_229 at hf
  refine lv_aload_n hx hb dX12_sayZero_229 rfl (lv_at hl 0 rfl) ?_
  refine z_ldcSW hC hI 83 (by decide) rfl rfl dX12_sayZero_230 ?_
  obtain ⟨σ22, g22, hf⟩ := zbu_use hf
  refine z_callVu (As := [.ref (st (100 + 83))]) (rest := []) hC hI (cX12_say_met st l D ad cy σ 83 _ g22) (zgV zw74_23 zw75_0 zw75_1 zw1_5 zw75_2) rfl ⟨rfl, rfl⟩ 1 hdX12_say ⟨Nat.le_of_ble_eq_true rfl, Nat.le_of_ble_eq_true rfl⟩ rfl rfl (wM_e0 ad cy σ) rfl hl rfl (Nat.le_of_ble_eq_true rfl) dX12_sayZero_233 ⟨Nat.zero_le _, Nat.zero_le _⟩ (fun H locs hI => ?_)
  exact bX12_sayZero_236 hC  hI hl hf
set_option maxRecDepth 20000 in
set_option maxHeartbeats 4000000 in
theorem bX12_sayZero_16 {st : Nat → Nat} {p : Program} {l : Launch} {e : Env} {s : State} {m : MethodId} {args : Array Value} {below : List Frame} {meth : Method} {c : Code} {D : va_G} {A : Nat → Prop} {ad : Nat → Nat} {cy : Nat → ClassId} (hC : zC p m c cX12_sayZero 5 s args wzX12_sayZero RX12 meth none)  {res : zSt} {H : Heap} {locs : List Loc} {σ : zSt} {ls : Array Slot} {x1 : Int32} {x2 : Int32} {x3 : Int32} {s0 : Int32} (hI : zI st D (tM cy) (wM ad cy σ) A s H locs) (hl : lv_has ls 5 [(0, .ref (ad 0)), (1, .int x1), (2, .int x2), (3, .int x3)]) (hf : fX12_sayZero_16  σ x1 x2 x3 s0 = some res) : W p l e rmX12_sayZero s m args below meth c H locs 0 0 (zQu below args s D (tM cy) (wM ad cy) A res) (F0 m 16 ls [.int s0]) := by
  have hx := hC.1
  have hb := hC.2.1
  unfold fX12_sayZero_16 at hf
  refine lv_istore (lv' := [(4, .int s0), (0, .ref (ad 0)), (1, .int x1), (2, .int x2), (3, .int x3)]) hx hb dX12_sayZero_16 hl (by decide) rfl (fun ls hl => ?_)
  refine lv_iload_n hx hb dX12_sayZero_18 rfl (lv_at hl 3 rfl) ?_
  refine lv_if_ne (tgt := 92) hx hb dX12_sayZero_19 (by decide) (fun q => ?_) (fun q => ?_)
  · replace hf := zif_f q hf
    refine lv_iload_n hx hb dX12_sayZero_92 rfl (lv_at hl 3 rfl) ?_
    refine lv_iconst (v := 1) hx hb dX12_sayZero_93 (by decide) ?_
    refine lv_icmp_ne (tgt := 166) hx hb dX12_sayZero_94 (by decide) (fun q => ?_) (fun q => ?_)
    · replace hf := zif_f q hf
      refine lv_iload_n hx hb dX12_sayZero_166 rfl (lv_at hl 3 rfl) ?_
      refine lv_iconst (v := 3) hx hb dX12_sayZero_167 (by decide) ?_
      refine lv_icmp_ne (tgt := 198) hx hb dX12_sayZero_168 (by decide) (fun q => ?_) (fun q => ?_)
      · replace hf := zif_f q hf
        refine lv_aload_n hx hb dX12_sayZero_198 rfl (lv_at hl 1 rfl) ?_
        refine z_ldcSW hC hI 111 (by decide) rfl rfl dX12_sayZero_199 ?_
        obtain ⟨σ23, g23, hf⟩ := zbu_use hf
        refine z_callVu (As := [.ref (st (100 + 111))]) (rest := []) hC hI (cX12_say_met st l D ad cy σ 111 _ g23) (zgV zw74_23 zw75_0 zw75_1 zw1_5 zw75_2) rfl ⟨rfl, rfl⟩ 1 hdX12_say ⟨Nat.le_of_ble_eq_true rfl, Nat.le_of_ble_eq_true rfl⟩ rfl rfl (wM_e0 ad cy σ) rfl hl rfl (Nat.le_of_ble_eq_true rfl) dX12_sayZero_202 ⟨Nat.zero_le _, Nat.zero_le _⟩ (fun H locs hI => ?_)
        refine lv_iload hx hb dX12_sayZero_205 (lv_at hl 0 rfl) ?_
        refine lv_if_eq (tgt := 236) hx hb dX12_sayZero_207 (by decide) (fun q => ?_) (fun q => ?_)
        · replace hf := zif_t q hf
          exact bX12_sayZero_236 hC  hI (lv_sub hl [1, 4, 0] rfl) hf
        replace hf := zif_f q hf
        refine lv_iload_n hx hb dX12_sayZero_210 rfl (lv_at hl 4 rfl) ?_
        refine lv_iconst (v := 2) hx hb dX12_sayZero_211 (by decide) ?_
        refine lv_icmp_ne (tgt := 222) hx hb dX12_sayZero_212 (by decide) (fun q => ?_) (fun q => ?_)
        · replace hf := zif_f q hf
          refine lv_aload_n hx hb dX12_sayZero_222 rfl (lv_at hl 1 rfl) ?_
          refine z_ldcSW hC hI 99 (by decide) rfl rfl dX12_sayZero_223 ?_
          obtain ⟨σ24, g24, hf⟩ := zbu_use hf
          refine z_callVu (As := [.ref (st (100 + 99))]) (rest := []) hC hI (cX12_say_met st l D ad cy σ23 99 _ g24) (zgV zw74_23 zw75_0 zw75_1 zw1_5 zw75_2) rfl ⟨rfl, rfl⟩ 1 hdX12_say ⟨Nat.le_of_ble_eq_true rfl, Nat.le_of_ble_eq_true rfl⟩ rfl rfl (wM_e0 ad cy σ23) rfl hl rfl (Nat.le_of_ble_eq_true rfl) dX12_sayZero_226 ⟨Nat.zero_le _, Nat.zero_le _⟩ (fun H locs hI => ?_)
          exact bX12_sayZero_229 hC  hI (lv_sub hl [1, 4, 0] rfl) hf
        replace hf := zif_t q hf
        refine lv_aload_n hx hb dX12_sayZero_215 rfl (lv_at hl 1 rfl) ?_
        obtain ⟨σ25, g25, hf⟩ := zbu_use hf
        refine z_callVu (As := []) (rest := []) hC hI (cX12_sayHl_met st l D ad cy σ23  _ g25) (zgV zw75_20 zw75_21 zw75_22 zw1_5 zw75_23) rfl ⟨rfl, rfl⟩ 0 hdX12_sayHl ⟨Nat.le_of_ble_eq_true rfl, Nat.le_of_ble_eq_true rfl⟩ rfl rfl (wM_e0 ad cy σ23) rfl hl rfl (Nat.le_of_ble_eq_true rfl) dX12_sayZero_216 ⟨Nat.zero_le _, Nat.zero_le _⟩ (fun H locs hI => ?_)
        refine lv_goto (tgt := 229) hx hb dX12_sayZero_219 (by decide) ?_
        exact bX12_sayZero_229 hC  hI (lv_sub hl [1, 4, 0] rfl) hf
      replace hf := zif_t q hf
      refine lv_aload_n hx hb dX12_sayZero_171 rfl (lv_at hl 1 rfl) ?_
      refine lv_iload hx hb dX12_sayZero_172 (lv_at hl 0 rfl) ?_
      refine lv_if_eq (tgt := 183) hx hb dX12_sayZero_174 (by decide) (fun q => ?_) (fun q => ?_)
      · replace hf := zif_t q hf
        refine z_ldcSW hC hI 117 (by decide) rfl rfl dX12_sayZero_183 ?_
        exact bX12_sayZero_186 hC  hI (lv_sub hl [1, 4] rfl) hf
      replace hf := zif_f q hf
      refine z_ldcSW hC hI 116 (by decide) rfl rfl dX12_sayZero_177 ?_
      refine lv_goto (tgt := 186) hx hb dX12_sayZero_180 (by decide) ?_
      exact bX12_sayZero_186 hC  hI (lv_sub hl [1, 4] rfl) hf
    replace hf := zif_t q hf
    refine lv_aload_n hx hb dX12_sayZero_97 rfl (lv_at hl 1 rfl) ?_
    refine lv_iload hx hb dX12_sayZero_98 (lv_at hl 0 rfl) ?_
    refine lv_if_eq (tgt := 109) hx hb dX12_sayZero_100 (by decide) (fun q => ?_) (fun q => ?_)
    · replace hf := zif_t q hf
      refine z_ldcSW hC hI 111 (by decide) rfl rfl dX12_sayZero_109 ?_
      exact bX12_sayZero_112 hC  hI (lv_sub hl [1, 4, 0] rfl) hf
    replace hf := zif_f q hf
    refine z_ldcSW hC hI 110 (by decide) rfl rfl dX12_sayZero_103 ?_
    refine lv_goto (tgt := 112) hx hb dX12_sayZero_106 (by decide) ?_
    exact bX12_sayZero_112 hC  hI (lv_sub hl [1, 4, 0] rfl) hf
  replace hf := zif_t q hf
  refine lv_aload_n hx hb dX12_sayZero_22 rfl (lv_at hl 1 rfl) ?_
  refine lv_iload_n hx hb dX12_sayZero_23 rfl (lv_at hl 2 rfl) ?_
  refine lv_if_ne (tgt := 33) hx hb dX12_sayZero_24 (by decide) (fun q => ?_) (fun q => ?_)
  · replace hf := zif_f q hf
    refine lv_iload_n hx hb dX12_sayZero_33 rfl (lv_at hl 2 rfl) ?_
    refine lv_iconst (v := 1) hx hb dX12_sayZero_34 (by decide) ?_
    refine lv_icmp_ne (tgt := 44) hx hb dX12_sayZero_35 (by decide) (fun q => ?_) (fun q => ?_)
    · replace hf := zif_f q hf
      refine lv_iload_n hx hb dX12_sayZero_44 rfl (lv_at hl 2 rfl) ?_
      refine lv_iconst (v := 2) hx hb dX12_sayZero_45 (by decide) ?_
      refine lv_icmp_ne (tgt := 55) hx hb dX12_sayZero_46 (by decide) (fun q => ?_) (fun q => ?_)
      · replace hf := zif_f q hf
        refine z_ldcSW hC hI 102 (by decide) rfl rfl dX12_sayZero_55 ?_
        exact bX12_sayZero_58 hC  hI (lv_sub hl [1, 2] rfl) hf
      replace hf := zif_t q hf
      refine z_ldcSW hC hI 101 (by decide) rfl rfl dX12_sayZero_49 ?_
      refine lv_goto (tgt := 58) hx hb dX12_sayZero_52 (by decide) ?_
      exact bX12_sayZero_58 hC  hI (lv_sub hl [1, 2] rfl) hf
    replace hf := zif_t q hf
    refine z_ldcSW hC hI 100 (by decide) rfl rfl dX12_sayZero_38 ?_
    refine lv_goto (tgt := 58) hx hb dX12_sayZero_41 (by decide) ?_
    exact bX12_sayZero_58 hC  hI (lv_sub hl [1, 2] rfl) hf
  replace hf := zif_t q hf
  refine z_ldcSW hC hI 71 (by decide) rfl rfl dX12_sayZero_27 ?_
  refine lv_goto (tgt := 58) hx hb dX12_sayZero_30 (by decide) ?_
  exact bX12_sayZero_58 hC  hI (lv_sub hl [1, 2] rfl) hf
set_option maxRecDepth 20000 in
set_option maxHeartbeats 4000000 in
theorem bX12_sayZero {st : Nat → Nat} {p : Program} {l : Launch} {e : Env} {s : State} {m : MethodId} {args : Array Value} {below : List Frame} {meth : Method} {c : Code} {D : va_G} {A : Nat → Prop} {ad : Nat → Nat} {cy : Nat → ClassId} (hC : zC p m c cX12_sayZero 5 s args wzX12_sayZero RX12 meth none)  {res : zSt} {H : Heap} {locs : List Loc} {σ : zSt} {ls : Array Slot} {x1 : Int32} {x2 : Int32} (hI : zI st D (tM cy) (wM ad cy σ) A s H locs) (hl : lv_has ls 5 [(0, .ref (ad 0)), (1, .int x1), (2, .int x2)]) (hf : fX12_sayZero  σ x1 x2 = some res) : W p l e rmX12_sayZero s m args below meth c H locs 0 0 (zQu below args s D (tM cy) (wM ad cy) A res) (F0 m 0 ls []) := by
  have hx := hC.1
  have hb := hC.2.1
  unfold fX12_sayZero at hf
  refine lv_iload_n hx hb dX12_sayZero_0 rfl (lv_at hl 1 rfl) ?_
  refine lv_iconst (v := 1) hx hb dX12_sayZero_1 (by decide) ?_
  refine lv_ishr hx hb dX12_sayZero_2 ?_
  refine lv_topi (fun v26 ev26 => ?_)
  replace hf := zbv_use ev26 hf
  refine lv_istore_n (lv' := [(3, .int v26), (0, .ref (ad 0)), (1, .int x1), (2, .int x2)]) hx hb dX12_sayZero_3 rfl hl (by decide) rfl (fun ls hl => ?_)
  refine lv_iload_n hx hb dX12_sayZero_4 rfl (lv_at hl 2 rfl) ?_
  refine lv_iconst (v := 2) hx hb dX12_sayZero_5 (by decide) ?_
  obtain ⟨q, hf⟩ := zck_use hf
  refine z_irem hx hb dX12_sayZero_6 (of_decide_eq_true q) ?_
  refine lv_iconst (v := 1) hx hb dX12_sayZero_7 (by decide) ?_
  refine lv_icmp_ne (tgt := 15) hx hb dX12_sayZero_8 (by decide) (fun q => ?_) (fun q => ?_)
  · replace hf := zif_f q hf
    refine lv_iconst (v := 0) hx hb dX12_sayZero_15 (by decide) ?_
    exact bX12_sayZero_16 hC  hI (lv_sub hl [1, 2, 3, 0] rfl) hf
  replace hf := zif_t q hf
  refine lv_iconst (v := 1) hx hb dX12_sayZero_11 (by decide) ?_
  refine lv_goto (tgt := 16) hx hb dX12_sayZero_12 (by decide) ?_
  exact bX12_sayZero_16 hC  hI (lv_sub hl [1, 2, 3, 0] rfl) hf
set_option maxRecDepth 20000 in
theorem cX12_sayZero_met (st : Nat → Nat) (l : Launch) (D : va_G) (ad : Nat → Nat) (cy : Nat → ClassId) (σ : zSt) (x1 : Int32) (x2 : Int32) (res : zSt) (hf : fX12_sayZero σ x1 x2 = some res) (sz : Nat) : zMu st l yX12_sayZero wzX12_sayZero rmX12_sayZero [.ref (ad 0), .int x1, .int x2] D (tM cy) (wM ad cy) sz σ res :=
  zMu.of (cc := cX12_sayZero) (maxL := 5) (ret := none) (by decide) rfl (Nat.le_of_ble_eq_true rfl) (fun p e s m args below meth c hC A hI ls hl => bX12_sayZero hC hI hl hf)
theorem hdX12_sayZero : yX12_sayZero.cls = RX12 ∧ yX12_sayZero.cls ≠ "java/lang/invoke/MethodHandle" ∧ yX12_sayZero.cls ≠ "java/lang/invoke/VarHandle" ∧ (parseMethodDescriptor yX12_sayZero.desc).map (fun d => d.parameters.length) = some 2 := by decide +kernel
noncomputable def rmX12_saySingle : Room := { frames := 7, cells := 0, slots := 0, locals := 180 }
noncomputable def wzX12_saySingle : List Cond := .code yX12_saySingle cX12_saySingle 3 none :: wsL_law
noncomputable def fX12_saySingle_87  (σ : zSt) (s0 : Nat) : Option (zSt) :=
  zbu (fX12_say σ s0) (fun σ1 =>
  some σ1)
noncomputable def fX12_saySingle_117  (σ : zSt) (x1 : Int32) (x2 : Int32) (s0 : Nat) : Option (zSt) :=
  zbu (fX12_say σ s0) (fun σ2 =>
  zbu (fX12_sayR σ2 x1) (fun σ3 =>
  if 6 ≤ x2 then zbu (fX12_say σ3 83) (fun σ4 =>
  zbi (fX12_taken σ4 ) (fun σ5 v6 =>
  zbu (fX12_hex σ5 v6 2) (fun σ7 =>
  some σ7))) else
  some σ3))
noncomputable def fX12_saySingle  (σ : zSt) (x1 : Int32) (x2 : Int32) : Option (zSt) :=
  if x2 = 7 then if x1 = 0 then fX12_saySingle_87 σ 121 else
  if x1 = 1 then fX12_saySingle_87 σ 122 else
  if x1 = 2 then fX12_saySingle_87 σ 123 else
  if x1 = 3 then fX12_saySingle_87 σ 124 else
  if x1 = 4 then fX12_saySingle_87 σ 125 else
  if x1 = 5 then fX12_saySingle_87 σ 126 else
  if x1 = 6 then fX12_saySingle_87 σ 127 else
  fX12_saySingle_87 σ 128 else
  if x2 = 4 then fX12_saySingle_117 σ x1 x2 117 else
  if x2 = 5 then fX12_saySingle_117 σ x1 x2 116 else
  fX12_saySingle_117 σ x1 x2 111
set_option maxRecDepth 20000 in
set_option maxHeartbeats 4000000 in
theorem bX12_saySingle_87 {st : Nat → Nat} {p : Program} {l : Launch} {e : Env} {s : State} {m : MethodId} {args : Array Value} {below : List Frame} {meth : Method} {c : Code} {D : va_G} {A : Nat → Prop} {ad : Nat → Nat} {cy : Nat → ClassId} (hC : zC p m c cX12_saySingle 3 s args wzX12_saySingle RX12 meth none)  {res : zSt} {H : Heap} {locs : List Loc} {σ : zSt} {ls : Array Slot} {s0 : Nat} (hI : zI st D (tM cy) (wM ad cy σ) A s H locs) (hl : lv_has ls 3 []) (hf : fX12_saySingle_87  σ s0 = some res) : W p l e rmX12_saySingle s m args below meth c H locs 0 0 (zQu below args s D (tM cy) (wM ad cy) A res) (F0 m 87 ls [.ref (st (100 + s0)), .ref (ad 0)]) := by
  have hx := hC.1
  have hb := hC.2.1
  unfold fX12_saySingle_87 at hf
  obtain ⟨σ1, g1, hf⟩ := zbu_use hf
  refine z_callVu (As := [.ref (st (100 + s0))]) (rest := []) hC hI (cX12_say_met st l D ad cy σ s0 _ g1) (zgV zw74_23 zw75_0 zw75_1 zw1_5 zw75_2) rfl ⟨rfl, rfl⟩ 1 hdX12_say ⟨Nat.le_of_ble_eq_true rfl, Nat.le_of_ble_eq_true rfl⟩ rfl rfl (wM_e0 ad cy σ) rfl hl rfl (Nat.le_of_ble_eq_true rfl) dX12_saySingle_87 ⟨Nat.zero_le _, Nat.zero_le _⟩ (fun H locs hI => ?_)
  exact z_return hC hI hf dX12_saySingle_90
set_option maxRecDepth 20000 in
set_option maxHeartbeats 4000000 in
theorem bX12_saySingle_117 {st : Nat → Nat} {p : Program} {l : Launch} {e : Env} {s : State} {m : MethodId} {args : Array Value} {below : List Frame} {meth : Method} {c : Code} {D : va_G} {A : Nat → Prop} {ad : Nat → Nat} {cy : Nat → ClassId} (hC : zC p m c cX12_saySingle 3 s args wzX12_saySingle RX12 meth none)  {res : zSt} {H : Heap} {locs : List Loc} {σ : zSt} {ls : Array Slot} {x1 : Int32} {x2 : Int32} {s0 : Nat} (hI : zI st D (tM cy) (wM ad cy σ) A s H locs) (hl : lv_has ls 3 [(0, .ref (ad 0)), (1, .int x1), (2, .int x2)]) (hf : fX12_saySingle_117  σ x1 x2 s0 = some res) : W p l e rmX12_saySingle s m args below meth c H locs 0 0 (zQu below args s D (tM cy) (wM ad cy) A res) (F0 m 117 ls [.ref (st (100 + s0)), .ref (ad 0)]) := by
  have hx := hC.1
  have hb := hC.2.1
  unfold fX12_saySingle_117 at hf
  obtain ⟨σ2, g2, hf⟩ := zbu_use hf
  refine z_callVu (As := [.ref (st (100 + s0))]) (rest := []) hC hI (cX12_say_met st l D ad cy σ s0 _ g2) (zgV zw74_23 zw75_0 zw75_1 zw1_5 zw75_2) rfl ⟨rfl, rfl⟩ 1 hdX12_say ⟨Nat.le_of_ble_eq_true rfl, Nat.le_of_ble_eq_true rfl⟩ rfl rfl (wM_e0 ad cy σ) rfl hl rfl (Nat.le_of_ble_eq_true rfl) dX12_saySingle_117 ⟨Nat.zero_le _, Nat.zero_le _⟩ (fun H locs hI => ?_)
  refine lv_aload_n hx hb dX12_saySingle_120 rfl (lv_at hl 0 rfl) ?_
  refine lv_iload_n hx hb dX12_saySingle_121 rfl (lv_at hl 1 rfl) ?_
  obtain ⟨σ3, g3, hf⟩ := zbu_use hf
  refine z_callVu (As := [.int x1]) (rest := []) hC hI (cX12_sayR_met st l D ad cy σ2 x1 _ g3) (zgV zw75_12 zw75_13 zw75_14 zw1_5 zw75_15) rfl ⟨rfl, rfl⟩ 1 hdX12_sayR ⟨Nat.le_of_ble_eq_true rfl, Nat.le_of_ble_eq_true rfl⟩ rfl rfl (wM_e0 ad cy σ2) rfl hl rfl (Nat.le_of_ble_eq_true rfl) dX12_saySingle_122 ⟨Nat.zero_le _, Nat.zero_le _⟩ (fun H locs hI => ?_)
  refine lv_iload_n hx hb dX12_saySingle_125 rfl (lv_at hl 2 rfl) ?_
  refine lv_bipush (v := 6) hx hb dX12_saySingle_126 (by decide) ?_
  refine lv_icmp_ge (tgt := 132) hx hb dX12_saySingle_128 (by decide) (fun q => ?_) (fun q => ?_)
  · replace hf := zif_t q hf
    refine lv_aload_n hx hb dX12_saySingle_132 rfl (lv_at hl 0 rfl) ?_
    refine z_ldcSW hC hI 83 (by decide) rfl rfl dX12_saySingle_133 ?_
    obtain ⟨σ4, g4, hf⟩ := zbu_use hf
    refine z_callVu (As := [.ref (st (100 + 83))]) (rest := []) hC hI (cX12_say_met st l D ad cy σ3 83 _ g4) (zgV zw74_23 zw75_0 zw75_1 zw1_5 zw75_2) rfl ⟨rfl, rfl⟩ 1 hdX12_say ⟨Nat.le_of_ble_eq_true rfl, Nat.le_of_ble_eq_true rfl⟩ rfl rfl (wM_e0 ad cy σ3) rfl hl rfl (Nat.le_of_ble_eq_true rfl) dX12_saySingle_136 ⟨Nat.zero_le _, Nat.zero_le _⟩ (fun H locs hI => ?_)
    refine lv_aload_n hx hb dX12_saySingle_139 rfl (lv_at hl 0 rfl) ?_
    refine lv_aload_n hx hb dX12_saySingle_140 rfl (lv_at hl 0 rfl) ?_
    obtain ⟨σ5, v6, g5, hf⟩ := zbi_use hf
    refine z_callVi (As := []) (rest := [.ref (ad 0)]) hC hI (cX12_taken_met st l D ad cy σ4  _ g5) (zgV zw74_14 zw74_15 zw74_16 zw1_5 zw74_17) rfl ⟨rfl, rfl⟩ 0 hdX12_taken ⟨Nat.le_of_ble_eq_true rfl, Nat.le_of_ble_eq_true rfl⟩ rfl rfl (wM_e0 ad cy σ4) rfl hl rfl (Nat.le_of_ble_eq_true rfl) dX12_saySingle_141 ⟨Nat.zero_le _, Nat.zero_le _⟩ (fun H locs hI => ?_)
    refine lv_iconst (v := 2) hx hb dX12_saySingle_144 (by decide) ?_
    obtain ⟨σ7, g7, hf⟩ := zbu_use hf
    refine z_callVu (As := [.int v6, .int 2]) (rest := []) hC hI (cX12_hex_met st l D ad cy σ5 v6 2 _ g7) (zgV zw75_8 zw75_9 zw75_10 zw1_5 zw75_11) rfl ⟨rfl, rfl⟩ 2 hdX12_hex ⟨Nat.le_of_ble_eq_true rfl, Nat.le_of_ble_eq_true rfl⟩ rfl rfl (wM_e0 ad cy σ5) rfl hl rfl (Nat.le_of_ble_eq_true rfl) dX12_saySingle_145 ⟨Nat.zero_le _, Nat.zero_le _⟩ (fun H locs hI => ?_)
    exact z_return hC hI hf dX12_saySingle_148
  replace hf := zif_f q hf
  exact z_return hC hI hf dX12_saySingle_131
set_option maxRecDepth 20000 in
set_option maxHeartbeats 4000000 in
theorem bX12_saySingle {st : Nat → Nat} {p : Program} {l : Launch} {e : Env} {s : State} {m : MethodId} {args : Array Value} {below : List Frame} {meth : Method} {c : Code} {D : va_G} {A : Nat → Prop} {ad : Nat → Nat} {cy : Nat → ClassId} (hC : zC p m c cX12_saySingle 3 s args wzX12_saySingle RX12 meth none)  {res : zSt} {H : Heap} {locs : List Loc} {σ : zSt} {ls : Array Slot} {x1 : Int32} {x2 : Int32} (hI : zI st D (tM cy) (wM ad cy σ) A s H locs) (hl : lv_has ls 3 [(0, .ref (ad 0)), (1, .int x1), (2, .int x2)]) (hf : fX12_saySingle  σ x1 x2 = some res) : W p l e rmX12_saySingle s m args below meth c H locs 0 0 (zQu below args s D (tM cy) (wM ad cy) A res) (F0 m 0 ls []) := by
  have hx := hC.1
  have hb := hC.2.1
  unfold fX12_saySingle at hf
  refine lv_iload_n hx hb dX12_saySingle_0 rfl (lv_at hl 2 rfl) ?_
  refine lv_bipush (v := 7) hx hb dX12_saySingle_1 (by decide) ?_
  refine lv_icmp_ne (tgt := 91) hx hb dX12_saySingle_3 (by decide) (fun q => ?_) (fun q => ?_)
  · replace hf := zif_f q hf
    refine lv_aload_n hx hb dX12_saySingle_91 rfl (lv_at hl 0 rfl) ?_
    refine lv_iload_n hx hb dX12_saySingle_92 rfl (lv_at hl 2 rfl) ?_
    refine lv_iconst (v := 4) hx hb dX12_saySingle_93 (by decide) ?_
    refine lv_icmp_ne (tgt := 103) hx hb dX12_saySingle_94 (by decide) (fun q => ?_) (fun q => ?_)
    · replace hf := zif_f q hf
      refine lv_iload_n hx hb dX12_saySingle_103 rfl (lv_at hl 2 rfl) ?_
      refine lv_iconst (v := 5) hx hb dX12_saySingle_104 (by decide) ?_
      refine lv_icmp_ne (tgt := 114) hx hb dX12_saySingle_105 (by decide) (fun q => ?_) (fun q => ?_)
      · replace hf := zif_f q hf
        refine z_ldcSW hC hI 111 (by decide) rfl rfl dX12_saySingle_114 ?_
        exact bX12_saySingle_117 hC  hI hl hf
      replace hf := zif_t q hf
      refine z_ldcSW hC hI 116 (by decide) rfl rfl dX12_saySingle_108 ?_
      refine lv_goto (tgt := 117) hx hb dX12_saySingle_111 (by decide) ?_
      exact bX12_saySingle_117 hC  hI hl hf
    replace hf := zif_t q hf
    refine z_ldcSW hC hI 117 (by decide) rfl rfl dX12_saySingle_97 ?_
    refine lv_goto (tgt := 117) hx hb dX12_saySingle_100 (by decide) ?_
    exact bX12_saySingle_117 hC  hI hl hf
  replace hf := zif_t q hf
  refine lv_aload_n hx hb dX12_saySingle_6 rfl (lv_at hl 0 rfl) ?_
  refine lv_iload_n hx hb dX12_saySingle_7 rfl (lv_at hl 1 rfl) ?_
  refine lv_if_ne (tgt := 17) hx hb dX12_saySingle_8 (by decide) (fun q => ?_) (fun q => ?_)
  · replace hf := zif_f q hf
    refine lv_iload_n hx hb dX12_saySingle_17 rfl (lv_at hl 1 rfl) ?_
    refine lv_iconst (v := 1) hx hb dX12_saySingle_18 (by decide) ?_
    refine lv_icmp_ne (tgt := 28) hx hb dX12_saySingle_19 (by decide) (fun q => ?_) (fun q => ?_)
    · replace hf := zif_f q hf
      refine lv_iload_n hx hb dX12_saySingle_28 rfl (lv_at hl 1 rfl) ?_
      refine lv_iconst (v := 2) hx hb dX12_saySingle_29 (by decide) ?_
      refine lv_icmp_ne (tgt := 39) hx hb dX12_saySingle_30 (by decide) (fun q => ?_) (fun q => ?_)
      · replace hf := zif_f q hf
        refine lv_iload_n hx hb dX12_saySingle_39 rfl (lv_at hl 1 rfl) ?_
        refine lv_iconst (v := 3) hx hb dX12_saySingle_40 (by decide) ?_
        refine lv_icmp_ne (tgt := 50) hx hb dX12_saySingle_41 (by decide) (fun q => ?_) (fun q => ?_)
        · replace hf := zif_f q hf
          refine lv_iload_n hx hb dX12_saySingle_50 rfl (lv_at hl 1 rfl) ?_
          refine lv_iconst (v := 4) hx hb dX12_saySingle_51 (by decide) ?_
          refine lv_icmp_ne (tgt := 61) hx hb dX12_saySingle_52 (by decide) (fun q => ?_) (fun q => ?_)
          · replace hf := zif_f q hf
            refine lv_iload_n hx hb dX12_saySingle_61 rfl (lv_at hl 1 rfl) ?_
            refine lv_iconst (v := 5) hx hb dX12_saySingle_62 (by decide) ?_
            refine lv_icmp_ne (tgt := 72) hx hb dX12_saySingle_63 (by decide) (fun q => ?_) (fun q => ?_)
            · replace hf := zif_f q hf
              refine lv_iload_n hx hb dX12_saySingle_72 rfl (lv_at hl 1 rfl) ?_
              refine lv_bipush (v := 6) hx hb dX12_saySingle_73 (by decide) ?_
              refine lv_icmp_ne (tgt := 84) hx hb dX12_saySingle_75 (by decide) (fun q => ?_) (fun q => ?_)
              · replace hf := zif_f q hf
                refine z_ldcSW hC hI 128 (by decide) rfl rfl dX12_saySingle_84 ?_
                exact bX12_saySingle_87 hC  hI (lv_sub hl [] rfl) hf
              replace hf := zif_t q hf
              refine z_ldcSW hC hI 127 (by decide) rfl rfl dX12_saySingle_78 ?_
              refine lv_goto (tgt := 87) hx hb dX12_saySingle_81 (by decide) ?_
              exact bX12_saySingle_87 hC  hI (lv_sub hl [] rfl) hf
            replace hf := zif_t q hf
            refine z_ldcSW hC hI 126 (by decide) rfl rfl dX12_saySingle_66 ?_
            refine lv_goto (tgt := 87) hx hb dX12_saySingle_69 (by decide) ?_
            exact bX12_saySingle_87 hC  hI (lv_sub hl [] rfl) hf
          replace hf := zif_t q hf
          refine z_ldcSW hC hI 125 (by decide) rfl rfl dX12_saySingle_55 ?_
          refine lv_goto (tgt := 87) hx hb dX12_saySingle_58 (by decide) ?_
          exact bX12_saySingle_87 hC  hI (lv_sub hl [] rfl) hf
        replace hf := zif_t q hf
        refine z_ldcSW hC hI 124 (by decide) rfl rfl dX12_saySingle_44 ?_
        refine lv_goto (tgt := 87) hx hb dX12_saySingle_47 (by decide) ?_
        exact bX12_saySingle_87 hC  hI (lv_sub hl [] rfl) hf
      replace hf := zif_t q hf
      refine z_ldcSW hC hI 123 (by decide) rfl rfl dX12_saySingle_33 ?_
      refine lv_goto (tgt := 87) hx hb dX12_saySingle_36 (by decide) ?_
      exact bX12_saySingle_87 hC  hI (lv_sub hl [] rfl) hf
    replace hf := zif_t q hf
    refine z_ldcSW hC hI 122 (by decide) rfl rfl dX12_saySingle_22 ?_
    refine lv_goto (tgt := 87) hx hb dX12_saySingle_25 (by decide) ?_
    exact bX12_saySingle_87 hC  hI (lv_sub hl [] rfl) hf
  replace hf := zif_t q hf
  refine z_ldcSW hC hI 121 (by decide) rfl rfl dX12_saySingle_11 ?_
  refine lv_goto (tgt := 87) hx hb dX12_saySingle_14 (by decide) ?_
  exact bX12_saySingle_87 hC  hI (lv_sub hl [] rfl) hf
set_option maxRecDepth 20000 in
theorem cX12_saySingle_met (st : Nat → Nat) (l : Launch) (D : va_G) (ad : Nat → Nat) (cy : Nat → ClassId) (σ : zSt) (x1 : Int32) (x2 : Int32) (res : zSt) (hf : fX12_saySingle σ x1 x2 = some res) (sz : Nat) : zMu st l yX12_saySingle wzX12_saySingle rmX12_saySingle [.ref (ad 0), .int x1, .int x2] D (tM cy) (wM ad cy) sz σ res :=
  zMu.of (cc := cX12_saySingle) (maxL := 3) (ret := none) (by decide) rfl (Nat.le_of_ble_eq_true rfl) (fun p e s m args below meth c hC A hI ls hl => bX12_saySingle hC hI hl hf)
theorem hdX12_saySingle : yX12_saySingle.cls = RX12 ∧ yX12_saySingle.cls ≠ "java/lang/invoke/MethodHandle" ∧ yX12_saySingle.cls ≠ "java/lang/invoke/VarHandle" ∧ (parseMethodDescriptor yX12_saySingle.desc).map (fun d => d.parameters.length) = some 2 := by decide +kernel
noncomputable def rmX12_sayThree : Room := { frames := 7, cells := 0, slots := 0, locals := 181 }
noncomputable def wzX12_sayThree : List Cond := .code yX12_sayThree cX12_sayThree 4 none :: wsL_law
noncomputable def fX12_sayThree_266  (σ : zSt)  : Option (zSt) :=
  some σ
noncomputable def fX12_sayThree_103  (σ : zSt) (x3 : Int32) : Option (zSt) :=
  if x3 = 2 then zbu (fX12_say σ 89) (fun σ1 =>
  fX12_sayThree_266 σ1) else
  fX12_sayThree_266 σ
noncomputable def fX12_sayThree_91  (σ : zSt) (x3 : Int32) (s0 : Nat) : Option (zSt) :=
  zbu (fX12_say σ s0) (fun σ2 =>
  if x3 ≤ 1 then fX12_sayThree_103 σ2 x3 else
  zbu (fX12_sayHl σ2 ) (fun σ3 =>
  fX12_sayThree_103 σ3 x3))
noncomputable def fX12_sayThree_151  (σ : zSt)  : Option (zSt) :=
  zbi (fX12_takenWord σ ) (fun σ4 v5 =>
  zbu (fX12_hex σ4 v5 4) (fun σ6 =>
  fX12_sayThree_266 σ6))
noncomputable def fX12_sayThree_127  (σ : zSt) (x1 : Int32) (x2 : Int32) : Option (zSt) :=
  zbu (fX12_say σ 143) (fun σ7 =>
  if x2 = 2 then zbu (fX12_sayCc σ7 x1) (fun σ8 =>
  zbu (fX12_say σ8 83) (fun σ9 =>
  fX12_sayThree_151 σ9)) else
  fX12_sayThree_151 σ7)
noncomputable def fX12_sayThree_210  (σ : zSt) (s0 : Nat) : Option (zSt) :=
  zbu (fX12_say σ s0) (fun σ10 =>
  fX12_sayThree_266 σ10)
noncomputable def fX12_sayThree_183  (σ : zSt) (x1 : Int32) (s0 : Nat) : Option (zSt) :=
  zbu (fX12_say σ s0) (fun σ11 =>
  zbi (fX12_taken σ11 ) (fun σ12 v13 =>
  zbu (fX12_hex σ12 v13 2) (fun σ14 =>
  if x1 = 2 then fX12_sayThree_210 σ14 146 else
  fX12_sayThree_210 σ14 89)))
noncomputable def fX12_sayThree_254  (σ : zSt) (x1 : Int32) (s0 : Nat) : Option (zSt) :=
  zbu (fX12_say σ s0) (fun σ15 =>
  if x1 = 4 then zbu (fX12_sayHl σ15 ) (fun σ16 =>
  fX12_sayThree_266 σ16) else
  fX12_sayThree_266 σ15)
noncomputable def fX12_sayThree_50  (σ : zSt) (x1 : Int32) (x2 : Int32) (x3 : Int32) : Option (zSt) :=
  if x2 = 1 then if x3 = 0 then fX12_sayThree_91 σ x3 139 else
  if x3 = 1 then fX12_sayThree_91 σ x3 140 else
  if x3 = 2 then fX12_sayThree_91 σ x3 141 else
  fX12_sayThree_91 σ x3 142 else
  if x2 = 2 then fX12_sayThree_127 σ x1 x2 else
  if x1 = 0 then fX12_sayThree_127 σ x1 x2 else
  if 4 ≤ x1 then if x1 = 4 then fX12_sayThree_254 σ x1 147 else
  if x1 = 5 then fX12_sayThree_254 σ x1 148 else
  if x1 = 6 then fX12_sayThree_254 σ x1 149 else
  fX12_sayThree_254 σ x1 150 else
  if x1 = 2 then fX12_sayThree_183 σ x1 144 else
  fX12_sayThree_183 σ x1 145
noncomputable def fX12_sayThree  (σ : zSt) (x1 : Int32) (x2 : Int32) : Option (zSt) :=
  zbv (x1 >>> ((1 : Int32) &&& 31)) (fun v17 =>
  if x2 = 0 then zbu (fX12_say σ 137) (fun σ20 =>
  zbu (fX12_sayCc σ20 x1) (fun σ21 =>
  fX12_sayThree_266 σ21)) else
  if x2 = 1 then zck (decide (¬ 2 = 0)) (
  if (zrem x1 2) = 0 then zbu (fX12_say σ 138) (fun σ18 =>
  zbu (fX12_sayRp σ18 v17 1) (fun σ19 =>
  fX12_sayThree_266 σ19)) else
  fX12_sayThree_50 σ x1 x2 v17) else
  fX12_sayThree_50 σ x1 x2 v17)
set_option maxRecDepth 20000 in
set_option maxHeartbeats 4000000 in
theorem bX12_sayThree_266 {st : Nat → Nat} {p : Program} {l : Launch} {e : Env} {s : State} {m : MethodId} {args : Array Value} {below : List Frame} {meth : Method} {c : Code} {D : va_G} {A : Nat → Prop} {ad : Nat → Nat} {cy : Nat → ClassId} (hC : zC p m c cX12_sayThree 4 s args wzX12_sayThree RX12 meth none)  {res : zSt} {H : Heap} {locs : List Loc} {σ : zSt} {ls : Array Slot}  (hI : zI st D (tM cy) (wM ad cy σ) A s H locs) (hl : lv_has ls 4 []) (hf : fX12_sayThree_266  σ  = some res) : W p l e rmX12_sayThree s m args below meth c H locs 0 0 (zQu below args s D (tM cy) (wM ad cy) A res) (F0 m 266 ls []) := by
  have hx := hC.1
  have hb := hC.2.1
  unfold fX12_sayThree_266 at hf
  exact z_return hC hI hf dX12_sayThree_266
set_option maxRecDepth 20000 in
set_option maxHeartbeats 4000000 in
theorem bX12_sayThree_103 {st : Nat → Nat} {p : Program} {l : Launch} {e : Env} {s : State} {m : MethodId} {args : Array Value} {below : List Frame} {meth : Method} {c : Code} {D : va_G} {A : Nat → Prop} {ad : Nat → Nat} {cy : Nat → ClassId} (hC : zC p m c cX12_sayThree 4 s args wzX12_sayThree RX12 meth none)  {res : zSt} {H : Heap} {locs : List Loc} {σ : zSt} {ls : Array Slot} {x3 : Int32} (hI : zI st D (tM cy) (wM ad cy σ) A s H locs) (hl : lv_has ls 4 [(0, .ref (ad 0)), (3, .int x3)]) (hf : fX12_sayThree_103  σ x3 = some res) : W p l e rmX12_sayThree s m args below meth c H locs 0 0 (zQu below args s D (tM cy) (wM ad cy) A res) (F0 m 103 ls []) := by
  have hx := hC.1
  have hb := hC.2.1
  unfold fX12_sayThree_103 at hf
  refine lv_iload_n hx hb dX12_sayThree_103 rfl (lv_at hl 1 rfl) ?_
  refine lv_iconst (v := 2) hx hb dX12_sayThree_104 (by decide) ?_
  refine lv_icmp_ne (tgt := 266) hx hb dX12_sayThree_105 (by decide) (fun q => ?_) (fun q => ?_)
  · replace hf := zif_f q hf
    exact bX12_sayThree_266 hC  hI (lv_sub hl [] rfl) hf
  replace hf := zif_t q hf
  refine lv_aload_n hx hb dX12_sayThree_108 rfl (lv_at hl 0 rfl) ?_
  refine z_ldcSW hC hI 89 (by decide) rfl rfl dX12_sayThree_109 ?_
  obtain ⟨σ1, g1, hf⟩ := zbu_use hf
  refine z_callVu (As := [.ref (st (100 + 89))]) (rest := []) hC hI (cX12_say_met st l D ad cy σ 89 _ g1) (zgV zw74_23 zw75_0 zw75_1 zw1_5 zw75_2) rfl ⟨rfl, rfl⟩ 1 hdX12_say ⟨Nat.le_of_ble_eq_true rfl, Nat.le_of_ble_eq_true rfl⟩ rfl rfl (wM_e0 ad cy σ) rfl hl rfl (Nat.le_of_ble_eq_true rfl) dX12_sayThree_112 ⟨Nat.zero_le _, Nat.zero_le _⟩ (fun H locs hI => ?_)
  refine lv_goto (tgt := 266) hx hb dX12_sayThree_115 (by decide) ?_
  exact bX12_sayThree_266 hC  hI (lv_sub hl [] rfl) hf
set_option maxRecDepth 20000 in
set_option maxHeartbeats 4000000 in
theorem bX12_sayThree_91 {st : Nat → Nat} {p : Program} {l : Launch} {e : Env} {s : State} {m : MethodId} {args : Array Value} {below : List Frame} {meth : Method} {c : Code} {D : va_G} {A : Nat → Prop} {ad : Nat → Nat} {cy : Nat → ClassId} (hC : zC p m c cX12_sayThree 4 s args wzX12_sayThree RX12 meth none)  {res : zSt} {H : Heap} {locs : List Loc} {σ : zSt} {ls : Array Slot} {x3 : Int32} {s0 : Nat} (hI : zI st D (tM cy) (wM ad cy σ) A s H locs) (hl : lv_has ls 4 [(0, .ref (ad 0)), (3, .int x3)]) (hf : fX12_sayThree_91  σ x3 s0 = some res) : W p l e rmX12_sayThree s m args below meth c H locs 0 0 (zQu below args s D (tM cy) (wM ad cy) A res) (F0 m 91 ls [.ref (st (100 + s0)), .ref (ad 0)]) := by
  have hx := hC.1
  have hb := hC.2.1
  unfold fX12_sayThree_91 at hf
  obtain ⟨σ2, g2, hf⟩ := zbu_use hf
  refine z_callVu (As := [.ref (st (100 + s0))]) (rest := []) hC hI (cX12_say_met st l D ad cy σ s0 _ g2) (zgV zw74_23 zw75_0 zw75_1 zw1_5 zw75_2) rfl ⟨rfl, rfl⟩ 1 hdX12_say ⟨Nat.le_of_ble_eq_true rfl, Nat.le_of_ble_eq_true rfl⟩ rfl rfl (wM_e0 ad cy σ) rfl hl rfl (Nat.le_of_ble_eq_true rfl) dX12_sayThree_91 ⟨Nat.zero_le _, Nat.zero_le _⟩ (fun H locs hI => ?_)
  refine lv_iload_n hx hb dX12_sayThree_94 rfl (lv_at hl 1 rfl) ?_
  refine lv_iconst (v := 1) hx hb dX12_sayThree_95 (by decide) ?_
  refine lv_icmp_le (tgt := 103) hx hb dX12_sayThree_96 (by decide) (fun q => ?_) (fun q => ?_)
  · replace hf := zif_t q hf
    exact bX12_sayThree_103 hC  hI hl hf
  replace hf := zif_f q hf
  refine lv_aload_n hx hb dX12_sayThree_99 rfl (lv_at hl 0 rfl) ?_
  obtain ⟨σ3, g3, hf⟩ := zbu_use hf
  refine z_callVu (As := []) (rest := []) hC hI (cX12_sayHl_met st l D ad cy σ2  _ g3) (zgV zw75_20 zw75_21 zw75_22 zw1_5 zw75_23) rfl ⟨rfl, rfl⟩ 0 hdX12_sayHl ⟨Nat.le_of_ble_eq_true rfl, Nat.le_of_ble_eq_true rfl⟩ rfl rfl (wM_e0 ad cy σ2) rfl hl rfl (Nat.le_of_ble_eq_true rfl) dX12_sayThree_100 ⟨Nat.zero_le _, Nat.zero_le _⟩ (fun H locs hI => ?_)
  exact bX12_sayThree_103 hC  hI hl hf
set_option maxRecDepth 20000 in
set_option maxHeartbeats 4000000 in
theorem bX12_sayThree_151 {st : Nat → Nat} {p : Program} {l : Launch} {e : Env} {s : State} {m : MethodId} {args : Array Value} {below : List Frame} {meth : Method} {c : Code} {D : va_G} {A : Nat → Prop} {ad : Nat → Nat} {cy : Nat → ClassId} (hC : zC p m c cX12_sayThree 4 s args wzX12_sayThree RX12 meth none)  {res : zSt} {H : Heap} {locs : List Loc} {σ : zSt} {ls : Array Slot}  (hI : zI st D (tM cy) (wM ad cy σ) A s H locs) (hl : lv_has ls 4 [(0, .ref (ad 0))]) (hf : fX12_sayThree_151  σ  = some res) : W p l e rmX12_sayThree s m args below meth c H locs 0 0 (zQu below args s D (tM cy) (wM ad cy) A res) (F0 m 151 ls []) := by
  have hx := hC.1
  have hb := hC.2.1
  unfold fX12_sayThree_151 at hf
  refine lv_aload_n hx hb dX12_sayThree_151 rfl (lv_at hl 0 rfl) ?_
  refine lv_aload_n hx hb dX12_sayThree_152 rfl (lv_at hl 0 rfl) ?_
  obtain ⟨σ4, v5, g4, hf⟩ := zbi_use hf
  refine z_callVi (As := []) (rest := [.ref (ad 0)]) hC hI (cX12_takenWord_met st l D ad cy σ  _ g4) (zgV zw76_20 zw76_21 zw76_22 zw1_5 zw76_23) rfl ⟨rfl, rfl⟩ 0 hdX12_takenWord ⟨Nat.le_of_ble_eq_true rfl, Nat.le_of_ble_eq_true rfl⟩ rfl rfl (wM_e0 ad cy σ) rfl hl rfl (Nat.le_of_ble_eq_true rfl) dX12_sayThree_153 ⟨Nat.zero_le _, Nat.zero_le _⟩ (fun H locs hI => ?_)
  refine lv_iconst (v := 4) hx hb dX12_sayThree_156 (by decide) ?_
  obtain ⟨σ6, g6, hf⟩ := zbu_use hf
  refine z_callVu (As := [.int v5, .int 4]) (rest := []) hC hI (cX12_hex_met st l D ad cy σ4 v5 4 _ g6) (zgV zw75_8 zw75_9 zw75_10 zw1_5 zw75_11) rfl ⟨rfl, rfl⟩ 2 hdX12_hex ⟨Nat.le_of_ble_eq_true rfl, Nat.le_of_ble_eq_true rfl⟩ rfl rfl (wM_e0 ad cy σ4) rfl hl rfl (Nat.le_of_ble_eq_true rfl) dX12_sayThree_157 ⟨Nat.zero_le _, Nat.zero_le _⟩ (fun H locs hI => ?_)
  refine lv_goto (tgt := 266) hx hb dX12_sayThree_160 (by decide) ?_
  exact bX12_sayThree_266 hC  hI (lv_sub hl [] rfl) hf
set_option maxRecDepth 20000 in
set_option maxHeartbeats 4000000 in
theorem bX12_sayThree_127 {st : Nat → Nat} {p : Program} {l : Launch} {e : Env} {s : State} {m : MethodId} {args : Array Value} {below : List Frame} {meth : Method} {c : Code} {D : va_G} {A : Nat → Prop} {ad : Nat → Nat} {cy : Nat → ClassId} (hC : zC p m c cX12_sayThree 4 s args wzX12_sayThree RX12 meth none)  {res : zSt} {H : Heap} {locs : List Loc} {σ : zSt} {ls : Array Slot} {x1 : Int32} {x2 : Int32} (hI : zI st D (tM cy) (wM ad cy σ) A s H locs) (hl : lv_has ls 4 [(0, .ref (ad 0)), (1, .int x1), (2, .int x2)]) (hf : fX12_sayThree_127  σ x1 x2 = some res) : W p l e rmX12_sayThree s m args below meth c H locs 0 0 (zQu below args s D (tM cy) (wM ad cy) A res) (F0 m 127 ls []) := by
  have hx := hC.1
  have hb := hC.2.1
  unfold fX12_sayThree_127 at hf
  refine lv_aload_n hx hb dX12_sayThree_127 rfl (lv_at hl 0 rfl) ?_
  refine z_ldcSW hC hI 143 (by decide) rfl rfl dX12_sayThree_128 ?_
  obtain ⟨σ7, g7, hf⟩ := zbu_use hf
  refine z_callVu (As := [.ref (st (100 + 143))]) (rest := []) hC hI (cX12_say_met st l D ad cy σ 143 _ g7) (zgV zw74_23 zw75_0 zw75_1 zw1_5 zw75_2) rfl ⟨rfl, rfl⟩ 1 hdX12_say ⟨Nat.le_of_ble_eq_true rfl, Nat.le_of_ble_eq_true rfl⟩ rfl rfl (wM_e0 ad cy σ) rfl hl rfl (Nat.le_of_ble_eq_true rfl) dX12_sayThree_131 ⟨Nat.zero_le _, Nat.zero_le _⟩ (fun H locs hI => ?_)
  refine lv_iload_n hx hb dX12_sayThree_134 rfl (lv_at hl 2 rfl) ?_
  refine lv_iconst (v := 2) hx hb dX12_sayThree_135 (by decide) ?_
  refine lv_icmp_ne (tgt := 151) hx hb dX12_sayThree_136 (by decide) (fun q => ?_) (fun q => ?_)
  · replace hf := zif_f q hf
    exact bX12_sayThree_151 hC  hI (lv_sub hl [0] rfl) hf
  replace hf := zif_t q hf
  refine lv_aload_n hx hb dX12_sayThree_139 rfl (lv_at hl 0 rfl) ?_
  refine lv_iload_n hx hb dX12_sayThree_140 rfl (lv_at hl 1 rfl) ?_
  obtain ⟨σ8, g8, hf⟩ := zbu_use hf
  refine z_callVu (As := [.int x1]) (rest := []) hC hI (cX12_sayCc_met st l D ad cy σ7 x1 _ g8) (zgV zw76_8 zw76_9 zw76_10 zw1_5 zw76_11) rfl ⟨rfl, rfl⟩ 1 hdX12_sayCc ⟨Nat.le_of_ble_eq_true rfl, Nat.le_of_ble_eq_true rfl⟩ rfl rfl (wM_e0 ad cy σ7) rfl hl rfl (Nat.le_of_ble_eq_true rfl) dX12_sayThree_141 ⟨Nat.zero_le _, Nat.zero_le _⟩ (fun H locs hI => ?_)
  refine lv_aload_n hx hb dX12_sayThree_144 rfl (lv_at hl 0 rfl) ?_
  refine z_ldcSW hC hI 83 (by decide) rfl rfl dX12_sayThree_145 ?_
  obtain ⟨σ9, g9, hf⟩ := zbu_use hf
  refine z_callVu (As := [.ref (st (100 + 83))]) (rest := []) hC hI (cX12_say_met st l D ad cy σ8 83 _ g9) (zgV zw74_23 zw75_0 zw75_1 zw1_5 zw75_2) rfl ⟨rfl, rfl⟩ 1 hdX12_say ⟨Nat.le_of_ble_eq_true rfl, Nat.le_of_ble_eq_true rfl⟩ rfl rfl (wM_e0 ad cy σ8) rfl hl rfl (Nat.le_of_ble_eq_true rfl) dX12_sayThree_148 ⟨Nat.zero_le _, Nat.zero_le _⟩ (fun H locs hI => ?_)
  exact bX12_sayThree_151 hC  hI (lv_sub hl [0] rfl) hf
set_option maxRecDepth 20000 in
set_option maxHeartbeats 4000000 in
theorem bX12_sayThree_210 {st : Nat → Nat} {p : Program} {l : Launch} {e : Env} {s : State} {m : MethodId} {args : Array Value} {below : List Frame} {meth : Method} {c : Code} {D : va_G} {A : Nat → Prop} {ad : Nat → Nat} {cy : Nat → ClassId} (hC : zC p m c cX12_sayThree 4 s args wzX12_sayThree RX12 meth none)  {res : zSt} {H : Heap} {locs : List Loc} {σ : zSt} {ls : Array Slot} {s0 : Nat} (hI : zI st D (tM cy) (wM ad cy σ) A s H locs) (hl : lv_has ls 4 []) (hf : fX12_sayThree_210  σ s0 = some res) : W p l e rmX12_sayThree s m args below meth c H locs 0 0 (zQu below args s D (tM cy) (wM ad cy) A res) (F0 m 210 ls [.ref (st (100 + s0)), .ref (ad 0)]) := by
  have hx := hC.1
  have hb := hC.2.1
  unfold fX12_sayThree_210 at hf
  obtain ⟨σ10, g10, hf⟩ := zbu_use hf
  refine z_callVu (As := [.ref (st (100 + s0))]) (rest := []) hC hI (cX12_say_met st l D ad cy σ s0 _ g10) (zgV zw74_23 zw75_0 zw75_1 zw1_5 zw75_2) rfl ⟨rfl, rfl⟩ 1 hdX12_say ⟨Nat.le_of_ble_eq_true rfl, Nat.le_of_ble_eq_true rfl⟩ rfl rfl (wM_e0 ad cy σ) rfl hl rfl (Nat.le_of_ble_eq_true rfl) dX12_sayThree_210 ⟨Nat.zero_le _, Nat.zero_le _⟩ (fun H locs hI => ?_)
  refine lv_goto (tgt := 266) hx hb dX12_sayThree_213 (by decide) ?_
  exact bX12_sayThree_266 hC  hI hl hf
set_option maxRecDepth 20000 in
set_option maxHeartbeats 4000000 in
theorem bX12_sayThree_183 {st : Nat → Nat} {p : Program} {l : Launch} {e : Env} {s : State} {m : MethodId} {args : Array Value} {below : List Frame} {meth : Method} {c : Code} {D : va_G} {A : Nat → Prop} {ad : Nat → Nat} {cy : Nat → ClassId} (hC : zC p m c cX12_sayThree 4 s args wzX12_sayThree RX12 meth none)  {res : zSt} {H : Heap} {locs : List Loc} {σ : zSt} {ls : Array Slot} {x1 : Int32} {s0 : Nat} (hI : zI st D (tM cy) (wM ad cy σ) A s H locs) (hl : lv_has ls 4 [(0, .ref (ad 0)), (1, .int x1)]) (hf : fX12_sayThree_183  σ x1 s0 = some res) : W p l e rmX12_sayThree s m args below meth c H locs 0 0 (zQu below args s D (tM cy) (wM ad cy) A res) (F0 m 183 ls [.ref (st (100 + s0)), .ref (ad 0)]) := by
  have hx := hC.1
  have hb := hC.2.1
  unfold fX12_sayThree_183 at hf
  obtain ⟨σ11, g11, hf⟩ := zbu_use hf
  refine z_callVu (As := [.ref (st (100 + s0))]) (rest := []) hC hI (cX12_say_met st l D ad cy σ s0 _ g11) (zgV zw74_23 zw75_0 zw75_1 zw1_5 zw75_2) rfl ⟨rfl, rfl⟩ 1 hdX12_say ⟨Nat.le_of_ble_eq_true rfl, Nat.le_of_ble_eq_true rfl⟩ rfl rfl (wM_e0 ad cy σ) rfl hl rfl (Nat.le_of_ble_eq_true rfl) dX12_sayThree_183 ⟨Nat.zero_le _, Nat.zero_le _⟩ (fun H locs hI => ?_)
  refine lv_aload_n hx hb dX12_sayThree_186 rfl (lv_at hl 0 rfl) ?_
  refine lv_aload_n hx hb dX12_sayThree_187 rfl (lv_at hl 0 rfl) ?_
  obtain ⟨σ12, v13, g12, hf⟩ := zbi_use hf
  refine z_callVi (As := []) (rest := [.ref (ad 0)]) hC hI (cX12_taken_met st l D ad cy σ11  _ g12) (zgV zw74_14 zw74_15 zw74_16 zw1_5 zw74_17) rfl ⟨rfl, rfl⟩ 0 hdX12_taken ⟨Nat.le_of_ble_eq_true rfl, Nat.le_of_ble_eq_true rfl⟩ rfl rfl (wM_e0 ad cy σ11) rfl hl rfl (Nat.le_of_ble_eq_true rfl) dX12_sayThree_188 ⟨Nat.zero_le _, Nat.zero_le _⟩ (fun H locs hI => ?_)
  refine lv_iconst (v := 2) hx hb dX12_sayThree_191 (by decide) ?_
  obtain ⟨σ14, g14, hf⟩ := zbu_use hf
  refine z_callVu (As := [.int v13, .int 2]) (rest := []) hC hI (cX12_hex_met st l D ad cy σ12 v13 2 _ g14) (zgV zw75_8 zw75_9 zw75_10 zw1_5 zw75_11) rfl ⟨rfl, rfl⟩ 2 hdX12_hex ⟨Nat.le_of_ble_eq_true rfl, Nat.le_of_ble_eq_true rfl⟩ rfl rfl (wM_e0 ad cy σ12) rfl hl rfl (Nat.le_of_ble_eq_true rfl) dX12_sayThree_192 ⟨Nat.zero_le _, Nat.zero_le _⟩ (fun H locs hI => ?_)
  refine lv_aload_n hx hb dX12_sayThree_195 rfl (lv_at hl 0 rfl) ?_
  refine lv_iload_n hx hb dX12_sayThree_196 rfl (lv_at hl 1 rfl) ?_
  refine lv_iconst (v := 2) hx hb dX12_sayThree_197 (by decide) ?_
  refine lv_icmp_ne (tgt := 207) hx hb dX12_sayThree_198 (by decide) (fun q => ?_) (fun q => ?_)
  · replace hf := zif_f q hf
    refine z_ldcSW hC hI 89 (by decide) rfl rfl dX12_sayThree_207 ?_
    exact bX12_sayThree_210 hC  hI (lv_sub hl [] rfl) hf
  replace hf := zif_t q hf
  refine z_ldcSW hC hI 146 (by decide) rfl rfl dX12_sayThree_201 ?_
  refine lv_goto (tgt := 210) hx hb dX12_sayThree_204 (by decide) ?_
  exact bX12_sayThree_210 hC  hI (lv_sub hl [] rfl) hf
set_option maxRecDepth 20000 in
set_option maxHeartbeats 4000000 in
theorem bX12_sayThree_254 {st : Nat → Nat} {p : Program} {l : Launch} {e : Env} {s : State} {m : MethodId} {args : Array Value} {below : List Frame} {meth : Method} {c : Code} {D : va_G} {A : Nat → Prop} {ad : Nat → Nat} {cy : Nat → ClassId} (hC : zC p m c cX12_sayThree 4 s args wzX12_sayThree RX12 meth none)  {res : zSt} {H : Heap} {locs : List Loc} {σ : zSt} {ls : Array Slot} {x1 : Int32} {s0 : Nat} (hI : zI st D (tM cy) (wM ad cy σ) A s H locs) (hl : lv_has ls 4 [(0, .ref (ad 0)), (1, .int x1)]) (hf : fX12_sayThree_254  σ x1 s0 = some res) : W p l e rmX12_sayThree s m args below meth c H locs 0 0 (zQu below args s D (tM cy) (wM ad cy) A res) (F0 m 254 ls [.ref (st (100 + s0)), .ref (ad 0)]) := by
  have hx := hC.1
  have hb := hC.2.1
  unfold fX12_sayThree_254 at hf
  obtain ⟨σ15, g15, hf⟩ := zbu_use hf
  refine z_callVu (As := [.ref (st (100 + s0))]) (rest := []) hC hI (cX12_say_met st l D ad cy σ s0 _ g15) (zgV zw74_23 zw75_0 zw75_1 zw1_5 zw75_2) rfl ⟨rfl, rfl⟩ 1 hdX12_say ⟨Nat.le_of_ble_eq_true rfl, Nat.le_of_ble_eq_true rfl⟩ rfl rfl (wM_e0 ad cy σ) rfl hl rfl (Nat.le_of_ble_eq_true rfl) dX12_sayThree_254 ⟨Nat.zero_le _, Nat.zero_le _⟩ (fun H locs hI => ?_)
  refine lv_iload_n hx hb dX12_sayThree_257 rfl (lv_at hl 1 rfl) ?_
  refine lv_iconst (v := 4) hx hb dX12_sayThree_258 (by decide) ?_
  refine lv_icmp_ne (tgt := 266) hx hb dX12_sayThree_259 (by decide) (fun q => ?_) (fun q => ?_)
  · replace hf := zif_f q hf
    exact bX12_sayThree_266 hC  hI (lv_sub hl [] rfl) hf
  replace hf := zif_t q hf
  refine lv_aload_n hx hb dX12_sayThree_262 rfl (lv_at hl 0 rfl) ?_
  obtain ⟨σ16, g16, hf⟩ := zbu_use hf
  refine z_callVu (As := []) (rest := []) hC hI (cX12_sayHl_met st l D ad cy σ15  _ g16) (zgV zw75_20 zw75_21 zw75_22 zw1_5 zw75_23) rfl ⟨rfl, rfl⟩ 0 hdX12_sayHl ⟨Nat.le_of_ble_eq_true rfl, Nat.le_of_ble_eq_true rfl⟩ rfl rfl (wM_e0 ad cy σ15) rfl hl rfl (Nat.le_of_ble_eq_true rfl) dX12_sayThree_263 ⟨Nat.zero_le _, Nat.zero_le _⟩ (fun H locs hI => ?_)
  exact bX12_sayThree_266 hC  hI (lv_sub hl [] rfl) hf
set_option maxRecDepth 20000 in
set_option maxHeartbeats 4000000 in
theorem bX12_sayThree_50 {st : Nat → Nat} {p : Program} {l : Launch} {e : Env} {s : State} {m : MethodId} {args : Array Value} {below : List Frame} {meth : Method} {c : Code} {D : va_G} {A : Nat → Prop} {ad : Nat → Nat} {cy : Nat → ClassId} (hC : zC p m c cX12_sayThree 4 s args wzX12_sayThree RX12 meth none)  {res : zSt} {H : Heap} {locs : List Loc} {σ : zSt} {ls : Array Slot} {x1 : Int32} {x2 : Int32} {x3 : Int32} (hI : zI st D (tM cy) (wM ad cy σ) A s H locs) (hl : lv_has ls 4 [(0, .ref (ad 0)), (1, .int x1), (2, .int x2), (3, .int x3)]) (hf : fX12_sayThree_50  σ x1 x2 x3 = some res) : W p l e rmX12_sayThree s m args below meth c H locs 0 0 (zQu below args s D (tM cy) (wM ad cy) A res) (F0 m 50 ls []) := by
  have hx := hC.1
  have hb := hC.2.1
  unfold fX12_sayThree_50 at hf
  refine lv_iload_n hx hb dX12_sayThree_50 rfl (lv_at hl 2 rfl) ?_
  refine lv_iconst (v := 1) hx hb dX12_sayThree_51 (by decide) ?_
  refine lv_icmp_ne (tgt := 118) hx hb dX12_sayThree_52 (by decide) (fun q => ?_) (fun q => ?_)
  · replace hf := zif_f q hf
    refine lv_iload_n hx hb dX12_sayThree_118 rfl (lv_at hl 2 rfl) ?_
    refine lv_iconst (v := 2) hx hb dX12_sayThree_119 (by decide) ?_
    refine lv_icmp_eq (tgt := 127) hx hb dX12_sayThree_120 (by decide) (fun q => ?_) (fun q => ?_)
    · replace hf := zif_t q hf
      exact bX12_sayThree_127 hC  hI (lv_sub hl [0, 1, 2] rfl) hf
    replace hf := zif_f q hf
    refine lv_iload_n hx hb dX12_sayThree_123 rfl (lv_at hl 1 rfl) ?_
    refine lv_if_ne (tgt := 163) hx hb dX12_sayThree_124 (by decide) (fun q => ?_) (fun q => ?_)
    · replace hf := zif_f q hf
      refine lv_iload_n hx hb dX12_sayThree_163 rfl (lv_at hl 1 rfl) ?_
      refine lv_iconst (v := 4) hx hb dX12_sayThree_164 (by decide) ?_
      refine lv_icmp_ge (tgt := 216) hx hb dX12_sayThree_165 (by decide) (fun q => ?_) (fun q => ?_)
      · replace hf := zif_t q hf
        refine lv_aload_n hx hb dX12_sayThree_216 rfl (lv_at hl 0 rfl) ?_
        refine lv_iload_n hx hb dX12_sayThree_217 rfl (lv_at hl 1 rfl) ?_
        refine lv_iconst (v := 4) hx hb dX12_sayThree_218 (by decide) ?_
        refine lv_icmp_ne (tgt := 228) hx hb dX12_sayThree_219 (by decide) (fun q => ?_) (fun q => ?_)
        · replace hf := zif_f q hf
          refine lv_iload_n hx hb dX12_sayThree_228 rfl (lv_at hl 1 rfl) ?_
          refine lv_iconst (v := 5) hx hb dX12_sayThree_229 (by decide) ?_
          refine lv_icmp_ne (tgt := 239) hx hb dX12_sayThree_230 (by decide) (fun q => ?_) (fun q => ?_)
          · replace hf := zif_f q hf
            refine lv_iload_n hx hb dX12_sayThree_239 rfl (lv_at hl 1 rfl) ?_
            refine lv_bipush (v := 6) hx hb dX12_sayThree_240 (by decide) ?_
            refine lv_icmp_ne (tgt := 251) hx hb dX12_sayThree_242 (by decide) (fun q => ?_) (fun q => ?_)
            · replace hf := zif_f q hf
              refine z_ldcSW hC hI 150 (by decide) rfl rfl dX12_sayThree_251 ?_
              exact bX12_sayThree_254 hC  hI (lv_sub hl [0, 1] rfl) hf
            replace hf := zif_t q hf
            refine z_ldcSW hC hI 149 (by decide) rfl rfl dX12_sayThree_245 ?_
            refine lv_goto (tgt := 254) hx hb dX12_sayThree_248 (by decide) ?_
            exact bX12_sayThree_254 hC  hI (lv_sub hl [0, 1] rfl) hf
          replace hf := zif_t q hf
          refine z_ldcSW hC hI 148 (by decide) rfl rfl dX12_sayThree_233 ?_
          refine lv_goto (tgt := 254) hx hb dX12_sayThree_236 (by decide) ?_
          exact bX12_sayThree_254 hC  hI (lv_sub hl [0, 1] rfl) hf
        replace hf := zif_t q hf
        refine z_ldcSW hC hI 147 (by decide) rfl rfl dX12_sayThree_222 ?_
        refine lv_goto (tgt := 254) hx hb dX12_sayThree_225 (by decide) ?_
        exact bX12_sayThree_254 hC  hI (lv_sub hl [0, 1] rfl) hf
      replace hf := zif_f q hf
      refine lv_aload_n hx hb dX12_sayThree_168 rfl (lv_at hl 0 rfl) ?_
      refine lv_iload_n hx hb dX12_sayThree_169 rfl (lv_at hl 1 rfl) ?_
      refine lv_iconst (v := 2) hx hb dX12_sayThree_170 (by decide) ?_
      refine lv_icmp_ne (tgt := 180) hx hb dX12_sayThree_171 (by decide) (fun q => ?_) (fun q => ?_)
      · replace hf := zif_f q hf
        refine z_ldcSW hC hI 145 (by decide) rfl rfl dX12_sayThree_180 ?_
        exact bX12_sayThree_183 hC  hI (lv_sub hl [0, 1] rfl) hf
      replace hf := zif_t q hf
      refine z_ldcSW hC hI 144 (by decide) rfl rfl dX12_sayThree_174 ?_
      refine lv_goto (tgt := 183) hx hb dX12_sayThree_177 (by decide) ?_
      exact bX12_sayThree_183 hC  hI (lv_sub hl [0, 1] rfl) hf
    replace hf := zif_t q hf
    exact bX12_sayThree_127 hC  hI (lv_sub hl [0, 1, 2] rfl) hf
  replace hf := zif_t q hf
  refine lv_aload_n hx hb dX12_sayThree_55 rfl (lv_at hl 0 rfl) ?_
  refine lv_iload_n hx hb dX12_sayThree_56 rfl (lv_at hl 3 rfl) ?_
  refine lv_if_ne (tgt := 66) hx hb dX12_sayThree_57 (by decide) (fun q => ?_) (fun q => ?_)
  · replace hf := zif_f q hf
    refine lv_iload_n hx hb dX12_sayThree_66 rfl (lv_at hl 3 rfl) ?_
    refine lv_iconst (v := 1) hx hb dX12_sayThree_67 (by decide) ?_
    refine lv_icmp_ne (tgt := 77) hx hb dX12_sayThree_68 (by decide) (fun q => ?_) (fun q => ?_)
    · replace hf := zif_f q hf
      refine lv_iload_n hx hb dX12_sayThree_77 rfl (lv_at hl 3 rfl) ?_
      refine lv_iconst (v := 2) hx hb dX12_sayThree_78 (by decide) ?_
      refine lv_icmp_ne (tgt := 88) hx hb dX12_sayThree_79 (by decide) (fun q => ?_) (fun q => ?_)
      · replace hf := zif_f q hf
        refine z_ldcSW hC hI 142 (by decide) rfl rfl dX12_sayThree_88 ?_
        exact bX12_sayThree_91 hC  hI (lv_sub hl [0, 3] rfl) hf
      replace hf := zif_t q hf
      refine z_ldcSW hC hI 141 (by decide) rfl rfl dX12_sayThree_82 ?_
      refine lv_goto (tgt := 91) hx hb dX12_sayThree_85 (by decide) ?_
      exact bX12_sayThree_91 hC  hI (lv_sub hl [0, 3] rfl) hf
    replace hf := zif_t q hf
    refine z_ldcSW hC hI 140 (by decide) rfl rfl dX12_sayThree_71 ?_
    refine lv_goto (tgt := 91) hx hb dX12_sayThree_74 (by decide) ?_
    exact bX12_sayThree_91 hC  hI (lv_sub hl [0, 3] rfl) hf
  replace hf := zif_t q hf
  refine z_ldcSW hC hI 139 (by decide) rfl rfl dX12_sayThree_60 ?_
  refine lv_goto (tgt := 91) hx hb dX12_sayThree_63 (by decide) ?_
  exact bX12_sayThree_91 hC  hI (lv_sub hl [0, 3] rfl) hf
set_option maxRecDepth 20000 in
set_option maxHeartbeats 4000000 in
theorem bX12_sayThree {st : Nat → Nat} {p : Program} {l : Launch} {e : Env} {s : State} {m : MethodId} {args : Array Value} {below : List Frame} {meth : Method} {c : Code} {D : va_G} {A : Nat → Prop} {ad : Nat → Nat} {cy : Nat → ClassId} (hC : zC p m c cX12_sayThree 4 s args wzX12_sayThree RX12 meth none)  {res : zSt} {H : Heap} {locs : List Loc} {σ : zSt} {ls : Array Slot} {x1 : Int32} {x2 : Int32} (hI : zI st D (tM cy) (wM ad cy σ) A s H locs) (hl : lv_has ls 4 [(0, .ref (ad 0)), (1, .int x1), (2, .int x2)]) (hf : fX12_sayThree  σ x1 x2 = some res) : W p l e rmX12_sayThree s m args below meth c H locs 0 0 (zQu below args s D (tM cy) (wM ad cy) A res) (F0 m 0 ls []) := by
  have hx := hC.1
  have hb := hC.2.1
  unfold fX12_sayThree at hf
  refine lv_iload_n hx hb dX12_sayThree_0 rfl (lv_at hl 1 rfl) ?_
  refine lv_iconst (v := 1) hx hb dX12_sayThree_1 (by decide) ?_
  refine lv_ishr hx hb dX12_sayThree_2 ?_
  refine lv_topi (fun v17 ev17 => ?_)
  replace hf := zbv_use ev17 hf
  refine lv_istore_n (lv' := [(3, .int v17), (0, .ref (ad 0)), (1, .int x1), (2, .int x2)]) hx hb dX12_sayThree_3 rfl hl (by decide) rfl (fun ls hl => ?_)
  refine lv_iload_n hx hb dX12_sayThree_4 rfl (lv_at hl 3 rfl) ?_
  refine lv_if_ne (tgt := 23) hx hb dX12_sayThree_5 (by decide) (fun q => ?_) (fun q => ?_)
  · replace hf := zif_f q hf
    refine lv_iload_n hx hb dX12_sayThree_23 rfl (lv_at hl 3 rfl) ?_
    refine lv_iconst (v := 1) hx hb dX12_sayThree_24 (by decide) ?_
    refine lv_icmp_ne (tgt := 50) hx hb dX12_sayThree_25 (by decide) (fun q => ?_) (fun q => ?_)
    · replace hf := zif_f q hf
      exact bX12_sayThree_50 hC  hI (lv_sub hl [1, 2, 3, 0] rfl) hf
    replace hf := zif_t q hf
    refine lv_iload_n hx hb dX12_sayThree_28 rfl (lv_at hl 2 rfl) ?_
    refine lv_iconst (v := 2) hx hb dX12_sayThree_29 (by decide) ?_
    obtain ⟨q, hf⟩ := zck_use hf
    refine z_irem hx hb dX12_sayThree_30 (of_decide_eq_true q) ?_
    refine lv_if_ne (tgt := 50) hx hb dX12_sayThree_31 (by decide) (fun q => ?_) (fun q => ?_)
    · replace hf := zif_f q hf
      exact bX12_sayThree_50 hC  hI (lv_sub hl [1, 2, 3, 0] rfl) hf
    replace hf := zif_t q hf
    refine lv_aload_n hx hb dX12_sayThree_34 rfl (lv_at hl 1 rfl) ?_
    refine z_ldcSW hC hI 138 (by decide) rfl rfl dX12_sayThree_35 ?_
    obtain ⟨σ18, g18, hf⟩ := zbu_use hf
    refine z_callVu (As := [.ref (st (100 + 138))]) (rest := []) hC hI (cX12_say_met st l D ad cy σ 138 _ g18) (zgV zw74_23 zw75_0 zw75_1 zw1_5 zw75_2) rfl ⟨rfl, rfl⟩ 1 hdX12_say ⟨Nat.le_of_ble_eq_true rfl, Nat.le_of_ble_eq_true rfl⟩ rfl rfl (wM_e0 ad cy σ) rfl hl rfl (Nat.le_of_ble_eq_true rfl) dX12_sayThree_38 ⟨Nat.zero_le _, Nat.zero_le _⟩ (fun H locs hI => ?_)
    refine lv_aload_n hx hb dX12_sayThree_41 rfl (lv_at hl 1 rfl) ?_
    refine lv_iload_n hx hb dX12_sayThree_42 rfl (lv_at hl 0 rfl) ?_
    refine lv_iconst (v := 1) hx hb dX12_sayThree_43 (by decide) ?_
    obtain ⟨σ19, g19, hf⟩ := zbu_use hf
    refine z_callVu (As := [.int v17, .int 1]) (rest := []) hC hI (cX12_sayRp_met st l D ad cy σ18 v17 1 _ g19) (zgV zw76_16 zw76_17 zw76_18 zw1_5 zw76_19) rfl ⟨rfl, rfl⟩ 2 hdX12_sayRp ⟨Nat.le_of_ble_eq_true rfl, Nat.le_of_ble_eq_true rfl⟩ rfl rfl (wM_e0 ad cy σ18) rfl hl rfl (Nat.le_of_ble_eq_true rfl) dX12_sayThree_44 ⟨Nat.zero_le _, Nat.zero_le _⟩ (fun H locs hI => ?_)
    refine lv_goto (tgt := 266) hx hb dX12_sayThree_47 (by decide) ?_
    exact bX12_sayThree_266 hC  hI (lv_sub hl [] rfl) hf
  replace hf := zif_t q hf
  refine lv_aload_n hx hb dX12_sayThree_8 rfl (lv_at hl 1 rfl) ?_
  refine z_ldcSW hC hI 137 (by decide) rfl rfl dX12_sayThree_9 ?_
  obtain ⟨σ20, g20, hf⟩ := zbu_use hf
  refine z_callVu (As := [.ref (st (100 + 137))]) (rest := []) hC hI (cX12_say_met st l D ad cy σ 137 _ g20) (zgV zw74_23 zw75_0 zw75_1 zw1_5 zw75_2) rfl ⟨rfl, rfl⟩ 1 hdX12_say ⟨Nat.le_of_ble_eq_true rfl, Nat.le_of_ble_eq_true rfl⟩ rfl rfl (wM_e0 ad cy σ) rfl hl rfl (Nat.le_of_ble_eq_true rfl) dX12_sayThree_12 ⟨Nat.zero_le _, Nat.zero_le _⟩ (fun H locs hI => ?_)
  refine lv_aload_n hx hb dX12_sayThree_15 rfl (lv_at hl 1 rfl) ?_
  refine lv_iload_n hx hb dX12_sayThree_16 rfl (lv_at hl 2 rfl) ?_
  obtain ⟨σ21, g21, hf⟩ := zbu_use hf
  refine z_callVu (As := [.int x1]) (rest := []) hC hI (cX12_sayCc_met st l D ad cy σ20 x1 _ g21) (zgV zw76_8 zw76_9 zw76_10 zw1_5 zw76_11) rfl ⟨rfl, rfl⟩ 1 hdX12_sayCc ⟨Nat.le_of_ble_eq_true rfl, Nat.le_of_ble_eq_true rfl⟩ rfl rfl (wM_e0 ad cy σ20) rfl hl rfl (Nat.le_of_ble_eq_true rfl) dX12_sayThree_17 ⟨Nat.zero_le _, Nat.zero_le _⟩ (fun H locs hI => ?_)
  refine lv_goto (tgt := 266) hx hb dX12_sayThree_20 (by decide) ?_
  exact bX12_sayThree_266 hC  hI (lv_sub hl [] rfl) hf
set_option maxRecDepth 20000 in
theorem cX12_sayThree_met (st : Nat → Nat) (l : Launch) (D : va_G) (ad : Nat → Nat) (cy : Nat → ClassId) (σ : zSt) (x1 : Int32) (x2 : Int32) (res : zSt) (hf : fX12_sayThree σ x1 x2 = some res) (sz : Nat) : zMu st l yX12_sayThree wzX12_sayThree rmX12_sayThree [.ref (ad 0), .int x1, .int x2] D (tM cy) (wM ad cy) sz σ res :=
  zMu.of (cc := cX12_sayThree) (maxL := 4) (ret := none) (by decide) rfl (Nat.le_of_ble_eq_true rfl) (fun p e s m args below meth c hC A hI ls hl => bX12_sayThree hC hI hl hf)
theorem hdX12_sayThree : yX12_sayThree.cls = RX12 ∧ yX12_sayThree.cls ≠ "java/lang/invoke/MethodHandle" ∧ yX12_sayThree.cls ≠ "java/lang/invoke/VarHandle" ∧ (parseMethodDescriptor yX12_sayThree.desc).map (fun d => d.parameters.length) = some 2 := by decide +kernel
noncomputable def rmX12_sayLast : Room := { frames := 7, cells := 0, slots := 0, locals := 181 }
noncomputable def wzX12_sayLast : List Cond := .code yX12_sayLast cX12_sayLast 4 none :: wsL_law
noncomputable def fX12_sayLast_115  (σ : zSt)  : Option (zSt) :=
  some σ
noncomputable def fX12_sayLast_43  (σ : zSt)  : Option (zSt) :=
  zbi (fX12_takenWord σ ) (fun σ1 v2 =>
  zbu (fX12_hex σ1 v2 4) (fun σ3 =>
  fX12_sayLast_115 σ3))
noncomputable def fX12_sayLast_19  (σ : zSt) (x1 : Int32) (x2 : Int32) : Option (zSt) :=
  zbu (fX12_say σ 151) (fun σ4 =>
  if x2 = 4 then zbu (fX12_sayCc σ4 x1) (fun σ5 =>
  zbu (fX12_say σ5 83) (fun σ6 =>
  fX12_sayLast_43 σ6)) else
  fX12_sayLast_43 σ4)
noncomputable def fX12_sayLast_55  (σ : zSt) (x1 : Int32) (x2 : Int32) (x3 : Int32) : Option (zSt) :=
  if x2 = 5 then zbu (fX12_say σ 152) (fun σ13 =>
  zbu (fX12_sayRp σ13 x3 1) (fun σ14 =>
  fX12_sayLast_115 σ14)) else
  if x2 = 6 then zbu (fX12_sayDo σ x1) (fun σ9 =>
  zbi (fX12_taken σ9 ) (fun σ10 v11 =>
  zbu (fX12_hex σ10 v11 2) (fun σ12 =>
  fX12_sayLast_115 σ12))) else
  zbu (fX12_say σ 153) (fun σ7 =>
  zbu (fX12_hex σ7 (8 * x1) 2) (fun σ8 =>
  fX12_sayLast_115 σ8))
noncomputable def fX12_sayLast  (σ : zSt) (x1 : Int32) (x2 : Int32) : Option (zSt) :=
  zbv (x1 >>> ((1 : Int32) &&& 31)) (fun v15 =>
  if x2 = 4 then fX12_sayLast_19 σ x1 x2 else
  if x2 = 5 then if x1 = 1 then fX12_sayLast_19 σ x1 x2 else
  fX12_sayLast_55 σ x1 x2 v15 else
  fX12_sayLast_55 σ x1 x2 v15)
set_option maxRecDepth 20000 in
set_option maxHeartbeats 4000000 in
theorem bX12_sayLast_115 {st : Nat → Nat} {p : Program} {l : Launch} {e : Env} {s : State} {m : MethodId} {args : Array Value} {below : List Frame} {meth : Method} {c : Code} {D : va_G} {A : Nat → Prop} {ad : Nat → Nat} {cy : Nat → ClassId} (hC : zC p m c cX12_sayLast 4 s args wzX12_sayLast RX12 meth none)  {res : zSt} {H : Heap} {locs : List Loc} {σ : zSt} {ls : Array Slot}  (hI : zI st D (tM cy) (wM ad cy σ) A s H locs) (hl : lv_has ls 4 []) (hf : fX12_sayLast_115  σ  = some res) : W p l e rmX12_sayLast s m args below meth c H locs 0 0 (zQu below args s D (tM cy) (wM ad cy) A res) (F0 m 115 ls []) := by
  have hx := hC.1
  have hb := hC.2.1
  unfold fX12_sayLast_115 at hf
  exact z_return hC hI hf dX12_sayLast_115
set_option maxRecDepth 20000 in
set_option maxHeartbeats 4000000 in
theorem bX12_sayLast_43 {st : Nat → Nat} {p : Program} {l : Launch} {e : Env} {s : State} {m : MethodId} {args : Array Value} {below : List Frame} {meth : Method} {c : Code} {D : va_G} {A : Nat → Prop} {ad : Nat → Nat} {cy : Nat → ClassId} (hC : zC p m c cX12_sayLast 4 s args wzX12_sayLast RX12 meth none)  {res : zSt} {H : Heap} {locs : List Loc} {σ : zSt} {ls : Array Slot}  (hI : zI st D (tM cy) (wM ad cy σ) A s H locs) (hl : lv_has ls 4 [(0, .ref (ad 0))]) (hf : fX12_sayLast_43  σ  = some res) : W p l e rmX12_sayLast s m args below meth c H locs 0 0 (zQu below args s D (tM cy) (wM ad cy) A res) (F0 m 43 ls []) := by
  have hx := hC.1
  have hb := hC.2.1
  unfold fX12_sayLast_43 at hf
  refine lv_aload_n hx hb dX12_sayLast_43 rfl (lv_at hl 0 rfl) ?_
  refine lv_aload_n hx hb dX12_sayLast_44 rfl (lv_at hl 0 rfl) ?_
  obtain ⟨σ1, v2, g1, hf⟩ := zbi_use hf
  refine z_callVi (As := []) (rest := [.ref (ad 0)]) hC hI (cX12_takenWord_met st l D ad cy σ  _ g1) (zgV zw76_20 zw76_21 zw76_22 zw1_5 zw76_23) rfl ⟨rfl, rfl⟩ 0 hdX12_takenWord ⟨Nat.le_of_ble_eq_true rfl, Nat.le_of_ble_eq_true rfl⟩ rfl rfl (wM_e0 ad cy σ) rfl hl rfl (Nat.le_of_ble_eq_true rfl) dX12_sayLast_45 ⟨Nat.zero_le _, Nat.zero_le _⟩ (fun H locs hI => ?_)
  refine lv_iconst (v := 4) hx hb dX12_sayLast_48 (by decide) ?_
  obtain ⟨σ3, g3, hf⟩ := zbu_use hf
  refine z_callVu (As := [.int v2, .int 4]) (rest := []) hC hI (cX12_hex_met st l D ad cy σ1 v2 4 _ g3) (zgV zw75_8 zw75_9 zw75_10 zw1_5 zw75_11) rfl ⟨rfl, rfl⟩ 2 hdX12_hex ⟨Nat.le_of_ble_eq_true rfl, Nat.le_of_ble_eq_true rfl⟩ rfl rfl (wM_e0 ad cy σ1) rfl hl rfl (Nat.le_of_ble_eq_true rfl) dX12_sayLast_49 ⟨Nat.zero_le _, Nat.zero_le _⟩ (fun H locs hI => ?_)
  refine lv_goto (tgt := 115) hx hb dX12_sayLast_52 (by decide) ?_
  exact bX12_sayLast_115 hC  hI (lv_sub hl [] rfl) hf
set_option maxRecDepth 20000 in
set_option maxHeartbeats 4000000 in
theorem bX12_sayLast_19 {st : Nat → Nat} {p : Program} {l : Launch} {e : Env} {s : State} {m : MethodId} {args : Array Value} {below : List Frame} {meth : Method} {c : Code} {D : va_G} {A : Nat → Prop} {ad : Nat → Nat} {cy : Nat → ClassId} (hC : zC p m c cX12_sayLast 4 s args wzX12_sayLast RX12 meth none)  {res : zSt} {H : Heap} {locs : List Loc} {σ : zSt} {ls : Array Slot} {x1 : Int32} {x2 : Int32} (hI : zI st D (tM cy) (wM ad cy σ) A s H locs) (hl : lv_has ls 4 [(0, .ref (ad 0)), (1, .int x1), (2, .int x2)]) (hf : fX12_sayLast_19  σ x1 x2 = some res) : W p l e rmX12_sayLast s m args below meth c H locs 0 0 (zQu below args s D (tM cy) (wM ad cy) A res) (F0 m 19 ls []) := by
  have hx := hC.1
  have hb := hC.2.1
  unfold fX12_sayLast_19 at hf
  refine lv_aload_n hx hb dX12_sayLast_19 rfl (lv_at hl 0 rfl) ?_
  refine z_ldcSW hC hI 151 (by decide) rfl rfl dX12_sayLast_20 ?_
  obtain ⟨σ4, g4, hf⟩ := zbu_use hf
  refine z_callVu (As := [.ref (st (100 + 151))]) (rest := []) hC hI (cX12_say_met st l D ad cy σ 151 _ g4) (zgV zw74_23 zw75_0 zw75_1 zw1_5 zw75_2) rfl ⟨rfl, rfl⟩ 1 hdX12_say ⟨Nat.le_of_ble_eq_true rfl, Nat.le_of_ble_eq_true rfl⟩ rfl rfl (wM_e0 ad cy σ) rfl hl rfl (Nat.le_of_ble_eq_true rfl) dX12_sayLast_23 ⟨Nat.zero_le _, Nat.zero_le _⟩ (fun H locs hI => ?_)
  refine lv_iload_n hx hb dX12_sayLast_26 rfl (lv_at hl 2 rfl) ?_
  refine lv_iconst (v := 4) hx hb dX12_sayLast_27 (by decide) ?_
  refine lv_icmp_ne (tgt := 43) hx hb dX12_sayLast_28 (by decide) (fun q => ?_) (fun q => ?_)
  · replace hf := zif_f q hf
    exact bX12_sayLast_43 hC  hI (lv_sub hl [0] rfl) hf
  replace hf := zif_t q hf
  refine lv_aload_n hx hb dX12_sayLast_31 rfl (lv_at hl 0 rfl) ?_
  refine lv_iload_n hx hb dX12_sayLast_32 rfl (lv_at hl 1 rfl) ?_
  obtain ⟨σ5, g5, hf⟩ := zbu_use hf
  refine z_callVu (As := [.int x1]) (rest := []) hC hI (cX12_sayCc_met st l D ad cy σ4 x1 _ g5) (zgV zw76_8 zw76_9 zw76_10 zw1_5 zw76_11) rfl ⟨rfl, rfl⟩ 1 hdX12_sayCc ⟨Nat.le_of_ble_eq_true rfl, Nat.le_of_ble_eq_true rfl⟩ rfl rfl (wM_e0 ad cy σ4) rfl hl rfl (Nat.le_of_ble_eq_true rfl) dX12_sayLast_33 ⟨Nat.zero_le _, Nat.zero_le _⟩ (fun H locs hI => ?_)
  refine lv_aload_n hx hb dX12_sayLast_36 rfl (lv_at hl 0 rfl) ?_
  refine z_ldcSW hC hI 83 (by decide) rfl rfl dX12_sayLast_37 ?_
  obtain ⟨σ6, g6, hf⟩ := zbu_use hf
  refine z_callVu (As := [.ref (st (100 + 83))]) (rest := []) hC hI (cX12_say_met st l D ad cy σ5 83 _ g6) (zgV zw74_23 zw75_0 zw75_1 zw1_5 zw75_2) rfl ⟨rfl, rfl⟩ 1 hdX12_say ⟨Nat.le_of_ble_eq_true rfl, Nat.le_of_ble_eq_true rfl⟩ rfl rfl (wM_e0 ad cy σ5) rfl hl rfl (Nat.le_of_ble_eq_true rfl) dX12_sayLast_40 ⟨Nat.zero_le _, Nat.zero_le _⟩ (fun H locs hI => ?_)
  exact bX12_sayLast_43 hC  hI (lv_sub hl [0] rfl) hf
set_option maxRecDepth 20000 in
set_option maxHeartbeats 4000000 in
theorem bX12_sayLast_55 {st : Nat → Nat} {p : Program} {l : Launch} {e : Env} {s : State} {m : MethodId} {args : Array Value} {below : List Frame} {meth : Method} {c : Code} {D : va_G} {A : Nat → Prop} {ad : Nat → Nat} {cy : Nat → ClassId} (hC : zC p m c cX12_sayLast 4 s args wzX12_sayLast RX12 meth none)  {res : zSt} {H : Heap} {locs : List Loc} {σ : zSt} {ls : Array Slot} {x1 : Int32} {x2 : Int32} {x3 : Int32} (hI : zI st D (tM cy) (wM ad cy σ) A s H locs) (hl : lv_has ls 4 [(0, .ref (ad 0)), (1, .int x1), (2, .int x2), (3, .int x3)]) (hf : fX12_sayLast_55  σ x1 x2 x3 = some res) : W p l e rmX12_sayLast s m args below meth c H locs 0 0 (zQu below args s D (tM cy) (wM ad cy) A res) (F0 m 55 ls []) := by
  have hx := hC.1
  have hb := hC.2.1
  unfold fX12_sayLast_55 at hf
  refine lv_iload_n hx hb dX12_sayLast_55 rfl (lv_at hl 2 rfl) ?_
  refine lv_iconst (v := 5) hx hb dX12_sayLast_56 (by decide) ?_
  refine lv_icmp_ne (tgt := 76) hx hb dX12_sayLast_57 (by decide) (fun q => ?_) (fun q => ?_)
  · replace hf := zif_f q hf
    refine lv_iload_n hx hb dX12_sayLast_76 rfl (lv_at hl 2 rfl) ?_
    refine lv_bipush (v := 6) hx hb dX12_sayLast_77 (by decide) ?_
    refine lv_icmp_ne (tgt := 99) hx hb dX12_sayLast_79 (by decide) (fun q => ?_) (fun q => ?_)
    · replace hf := zif_f q hf
      refine lv_aload_n hx hb dX12_sayLast_99 rfl (lv_at hl 0 rfl) ?_
      refine z_ldcSW hC hI 153 (by decide) rfl rfl dX12_sayLast_100 ?_
      obtain ⟨σ7, g7, hf⟩ := zbu_use hf
      refine z_callVu (As := [.ref (st (100 + 153))]) (rest := []) hC hI (cX12_say_met st l D ad cy σ 153 _ g7) (zgV zw74_23 zw75_0 zw75_1 zw1_5 zw75_2) rfl ⟨rfl, rfl⟩ 1 hdX12_say ⟨Nat.le_of_ble_eq_true rfl, Nat.le_of_ble_eq_true rfl⟩ rfl rfl (wM_e0 ad cy σ) rfl hl rfl (Nat.le_of_ble_eq_true rfl) dX12_sayLast_103 ⟨Nat.zero_le _, Nat.zero_le _⟩ (fun H locs hI => ?_)
      refine lv_aload_n hx hb dX12_sayLast_106 rfl (lv_at hl 0 rfl) ?_
      refine lv_bipush (v := 8) hx hb dX12_sayLast_107 (by decide) ?_
      refine lv_iload_n hx hb dX12_sayLast_109 rfl (lv_at hl 1 rfl) ?_
      refine lv_imul hx hb dX12_sayLast_110 ?_
      refine lv_iconst (v := 2) hx hb dX12_sayLast_111 (by decide) ?_
      obtain ⟨σ8, g8, hf⟩ := zbu_use hf
      refine z_callVu (As := [.int (8 * x1), .int 2]) (rest := []) hC hI (cX12_hex_met st l D ad cy σ7 (8 * x1) 2 _ g8) (zgV zw75_8 zw75_9 zw75_10 zw1_5 zw75_11) rfl ⟨rfl, rfl⟩ 2 hdX12_hex ⟨Nat.le_of_ble_eq_true rfl, Nat.le_of_ble_eq_true rfl⟩ rfl rfl (wM_e0 ad cy σ7) rfl hl rfl (Nat.le_of_ble_eq_true rfl) dX12_sayLast_112 ⟨Nat.zero_le _, Nat.zero_le _⟩ (fun H locs hI => ?_)
      exact bX12_sayLast_115 hC  hI (lv_sub hl [] rfl) hf
    replace hf := zif_t q hf
    refine lv_aload_n hx hb dX12_sayLast_82 rfl (lv_at hl 0 rfl) ?_
    refine lv_iload_n hx hb dX12_sayLast_83 rfl (lv_at hl 1 rfl) ?_
    obtain ⟨σ9, g9, hf⟩ := zbu_use hf
    refine z_callVu (As := [.int x1]) (rest := []) hC hI (cX12_sayDo_met st l D ad cy σ x1 _ g9) (zgV zw77_8 zw77_9 zw77_10 zw1_5 zw77_11) rfl ⟨rfl, rfl⟩ 1 hdX12_sayDo ⟨Nat.le_of_ble_eq_true rfl, Nat.le_of_ble_eq_true rfl⟩ rfl rfl (wM_e0 ad cy σ) rfl hl rfl (Nat.le_of_ble_eq_true rfl) dX12_sayLast_84 ⟨Nat.zero_le _, Nat.zero_le _⟩ (fun H locs hI => ?_)
    refine lv_aload_n hx hb dX12_sayLast_87 rfl (lv_at hl 0 rfl) ?_
    refine lv_aload_n hx hb dX12_sayLast_88 rfl (lv_at hl 0 rfl) ?_
    obtain ⟨σ10, v11, g10, hf⟩ := zbi_use hf
    refine z_callVi (As := []) (rest := [.ref (ad 0)]) hC hI (cX12_taken_met st l D ad cy σ9  _ g10) (zgV zw74_14 zw74_15 zw74_16 zw1_5 zw74_17) rfl ⟨rfl, rfl⟩ 0 hdX12_taken ⟨Nat.le_of_ble_eq_true rfl, Nat.le_of_ble_eq_true rfl⟩ rfl rfl (wM_e0 ad cy σ9) rfl hl rfl (Nat.le_of_ble_eq_true rfl) dX12_sayLast_89 ⟨Nat.zero_le _, Nat.zero_le _⟩ (fun H locs hI => ?_)
    refine lv_iconst (v := 2) hx hb dX12_sayLast_92 (by decide) ?_
    obtain ⟨σ12, g12, hf⟩ := zbu_use hf
    refine z_callVu (As := [.int v11, .int 2]) (rest := []) hC hI (cX12_hex_met st l D ad cy σ10 v11 2 _ g12) (zgV zw75_8 zw75_9 zw75_10 zw1_5 zw75_11) rfl ⟨rfl, rfl⟩ 2 hdX12_hex ⟨Nat.le_of_ble_eq_true rfl, Nat.le_of_ble_eq_true rfl⟩ rfl rfl (wM_e0 ad cy σ10) rfl hl rfl (Nat.le_of_ble_eq_true rfl) dX12_sayLast_93 ⟨Nat.zero_le _, Nat.zero_le _⟩ (fun H locs hI => ?_)
    refine lv_goto (tgt := 115) hx hb dX12_sayLast_96 (by decide) ?_
    exact bX12_sayLast_115 hC  hI (lv_sub hl [] rfl) hf
  replace hf := zif_t q hf
  refine lv_aload_n hx hb dX12_sayLast_60 rfl (lv_at hl 0 rfl) ?_
  refine z_ldcSW hC hI 152 (by decide) rfl rfl dX12_sayLast_61 ?_
  obtain ⟨σ13, g13, hf⟩ := zbu_use hf
  refine z_callVu (As := [.ref (st (100 + 152))]) (rest := []) hC hI (cX12_say_met st l D ad cy σ 152 _ g13) (zgV zw74_23 zw75_0 zw75_1 zw1_5 zw75_2) rfl ⟨rfl, rfl⟩ 1 hdX12_say ⟨Nat.le_of_ble_eq_true rfl, Nat.le_of_ble_eq_true rfl⟩ rfl rfl (wM_e0 ad cy σ) rfl hl rfl (Nat.le_of_ble_eq_true rfl) dX12_sayLast_64 ⟨Nat.zero_le _, Nat.zero_le _⟩ (fun H locs hI => ?_)
  refine lv_aload_n hx hb dX12_sayLast_67 rfl (lv_at hl 0 rfl) ?_
  refine lv_iload_n hx hb dX12_sayLast_68 rfl (lv_at hl 3 rfl) ?_
  refine lv_iconst (v := 1) hx hb dX12_sayLast_69 (by decide) ?_
  obtain ⟨σ14, g14, hf⟩ := zbu_use hf
  refine z_callVu (As := [.int x3, .int 1]) (rest := []) hC hI (cX12_sayRp_met st l D ad cy σ13 x3 1 _ g14) (zgV zw76_16 zw76_17 zw76_18 zw1_5 zw76_19) rfl ⟨rfl, rfl⟩ 2 hdX12_sayRp ⟨Nat.le_of_ble_eq_true rfl, Nat.le_of_ble_eq_true rfl⟩ rfl rfl (wM_e0 ad cy σ13) rfl hl rfl (Nat.le_of_ble_eq_true rfl) dX12_sayLast_70 ⟨Nat.zero_le _, Nat.zero_le _⟩ (fun H locs hI => ?_)
  refine lv_goto (tgt := 115) hx hb dX12_sayLast_73 (by decide) ?_
  exact bX12_sayLast_115 hC  hI (lv_sub hl [] rfl) hf
set_option maxRecDepth 20000 in
set_option maxHeartbeats 4000000 in
theorem bX12_sayLast {st : Nat → Nat} {p : Program} {l : Launch} {e : Env} {s : State} {m : MethodId} {args : Array Value} {below : List Frame} {meth : Method} {c : Code} {D : va_G} {A : Nat → Prop} {ad : Nat → Nat} {cy : Nat → ClassId} (hC : zC p m c cX12_sayLast 4 s args wzX12_sayLast RX12 meth none)  {res : zSt} {H : Heap} {locs : List Loc} {σ : zSt} {ls : Array Slot} {x1 : Int32} {x2 : Int32} (hI : zI st D (tM cy) (wM ad cy σ) A s H locs) (hl : lv_has ls 4 [(0, .ref (ad 0)), (1, .int x1), (2, .int x2)]) (hf : fX12_sayLast  σ x1 x2 = some res) : W p l e rmX12_sayLast s m args below meth c H locs 0 0 (zQu below args s D (tM cy) (wM ad cy) A res) (F0 m 0 ls []) := by
  have hx := hC.1
  have hb := hC.2.1
  unfold fX12_sayLast at hf
  refine lv_iload_n hx hb dX12_sayLast_0 rfl (lv_at hl 1 rfl) ?_
  refine lv_iconst (v := 1) hx hb dX12_sayLast_1 (by decide) ?_
  refine lv_ishr hx hb dX12_sayLast_2 ?_
  refine lv_topi (fun v15 ev15 => ?_)
  replace hf := zbv_use ev15 hf
  refine lv_istore_n (lv' := [(3, .int v15), (0, .ref (ad 0)), (1, .int x1), (2, .int x2)]) hx hb dX12_sayLast_3 rfl hl (by decide) rfl (fun ls hl => ?_)
  refine lv_iload_n hx hb dX12_sayLast_4 rfl (lv_at hl 3 rfl) ?_
  refine lv_iconst (v := 4) hx hb dX12_sayLast_5 (by decide) ?_
  refine lv_icmp_eq (tgt := 19) hx hb dX12_sayLast_6 (by decide) (fun q => ?_) (fun q => ?_)
  · replace hf := zif_t q hf
    exact bX12_sayLast_19 hC  hI (lv_sub hl [1, 2, 3] rfl) hf
  replace hf := zif_f q hf
  refine lv_iload_n hx hb dX12_sayLast_9 rfl (lv_at hl 3 rfl) ?_
  refine lv_iconst (v := 5) hx hb dX12_sayLast_10 (by decide) ?_
  refine lv_icmp_ne (tgt := 55) hx hb dX12_sayLast_11 (by decide) (fun q => ?_) (fun q => ?_)
  · replace hf := zif_f q hf
    exact bX12_sayLast_55 hC  hI (lv_sub hl [1, 2, 3, 0] rfl) hf
  replace hf := zif_t q hf
  refine lv_iload_n hx hb dX12_sayLast_14 rfl (lv_at hl 2 rfl) ?_
  refine lv_iconst (v := 1) hx hb dX12_sayLast_15 (by decide) ?_
  refine lv_icmp_ne (tgt := 55) hx hb dX12_sayLast_16 (by decide) (fun q => ?_) (fun q => ?_)
  · replace hf := zif_f q hf
    exact bX12_sayLast_55 hC  hI (lv_sub hl [1, 2, 3, 0] rfl) hf
  replace hf := zif_t q hf
  exact bX12_sayLast_19 hC  hI (lv_sub hl [1, 2, 3] rfl) hf
set_option maxRecDepth 20000 in
theorem cX12_sayLast_met (st : Nat → Nat) (l : Launch) (D : va_G) (ad : Nat → Nat) (cy : Nat → ClassId) (σ : zSt) (x1 : Int32) (x2 : Int32) (res : zSt) (hf : fX12_sayLast σ x1 x2 = some res) (sz : Nat) : zMu st l yX12_sayLast wzX12_sayLast rmX12_sayLast [.ref (ad 0), .int x1, .int x2] D (tM cy) (wM ad cy) sz σ res :=
  zMu.of (cc := cX12_sayLast) (maxL := 4) (ret := none) (by decide) rfl (Nat.le_of_ble_eq_true rfl) (fun p e s m args below meth c hC A hI ls hl => bX12_sayLast hC hI hl hf)
theorem hdX12_sayLast : yX12_sayLast.cls = RX12 ∧ yX12_sayLast.cls ≠ "java/lang/invoke/MethodHandle" ∧ yX12_sayLast.cls ≠ "java/lang/invoke/VarHandle" ∧ (parseMethodDescriptor yX12_sayLast.desc).map (fun d => d.parameters.length) = some 2 := by decide +kernel
noncomputable def rmX12_sayPlain : Room := { frames := 8, cells := 0, slots := 0, locals := 205 }
noncomputable def wzX12_sayPlain : List Cond := .code yX12_sayPlain cX12_sayPlain 4 none :: wsL_law
noncomputable def fX12_sayPlain_137  (σ : zSt)  : Option (zSt) :=
  some σ
noncomputable def fX12_sayPlain_32  (σ : zSt) (x1 : Int32) (x2 : Int32) (x3 : Int32) : Option (zSt) :=
  if 64 ≤ x1 then if x1 = 118 then zbu (fX12_say σ 129) (fun σ9 =>
  fX12_sayPlain_137 σ9) else
  if 128 ≤ x1 then if 192 ≤ x1 then if 4 ≤ x3 then zbu (fX12_sayLast σ x2 x3) (fun σ1 =>
  fX12_sayPlain_137 σ1) else
  zbu (fX12_sayThree σ x2 x3) (fun σ2 =>
  fX12_sayPlain_137 σ2) else
  zbu (fX12_sayDo σ x2) (fun σ3 =>
  zbu (fX12_sayR σ3 x3) (fun σ4 =>
  fX12_sayPlain_137 σ4)) else
  zbu (fX12_say σ 111) (fun σ5 =>
  zbu (fX12_sayR σ5 x2) (fun σ6 =>
  zbu (fX12_say σ6 83) (fun σ7 =>
  zbu (fX12_sayR σ7 x3) (fun σ8 =>
  fX12_sayPlain_137 σ8)))) else
  zbu (fX12_saySingle σ x2 x3) (fun σ10 =>
  fX12_sayPlain_137 σ10)
noncomputable def fX12_sayPlain  (σ : zSt) (x1 : Int32) : Option (zSt) :=
  zbv ((x1 >>> ((3 : Int32) &&& 31)) &&& 7) (fun v11 =>
  zbv (x1 &&& 7) (fun v12 =>
  if 64 ≤ x1 then fX12_sayPlain_32 σ x1 v11 v12 else
  if 4 ≤ v12 then fX12_sayPlain_32 σ x1 v11 v12 else
  zbu (fX12_sayZero σ v11 v12) (fun σ13 =>
  fX12_sayPlain_137 σ13)))
set_option maxRecDepth 20000 in
set_option maxHeartbeats 4000000 in
theorem bX12_sayPlain_137 {st : Nat → Nat} {p : Program} {l : Launch} {e : Env} {s : State} {m : MethodId} {args : Array Value} {below : List Frame} {meth : Method} {c : Code} {D : va_G} {A : Nat → Prop} {ad : Nat → Nat} {cy : Nat → ClassId} (hC : zC p m c cX12_sayPlain 4 s args wzX12_sayPlain RX12 meth none)  {res : zSt} {H : Heap} {locs : List Loc} {σ : zSt} {ls : Array Slot}  (hI : zI st D (tM cy) (wM ad cy σ) A s H locs) (hl : lv_has ls 4 []) (hf : fX12_sayPlain_137  σ  = some res) : W p l e rmX12_sayPlain s m args below meth c H locs 0 0 (zQu below args s D (tM cy) (wM ad cy) A res) (F0 m 137 ls []) := by
  have hx := hC.1
  have hb := hC.2.1
  unfold fX12_sayPlain_137 at hf
  exact z_return hC hI hf dX12_sayPlain_137
set_option maxRecDepth 20000 in
set_option maxHeartbeats 4000000 in
theorem bX12_sayPlain_32 {st : Nat → Nat} {p : Program} {l : Launch} {e : Env} {s : State} {m : MethodId} {args : Array Value} {below : List Frame} {meth : Method} {c : Code} {D : va_G} {A : Nat → Prop} {ad : Nat → Nat} {cy : Nat → ClassId} (hC : zC p m c cX12_sayPlain 4 s args wzX12_sayPlain RX12 meth none)  {res : zSt} {H : Heap} {locs : List Loc} {σ : zSt} {ls : Array Slot} {x1 : Int32} {x2 : Int32} {x3 : Int32} (hI : zI st D (tM cy) (wM ad cy σ) A s H locs) (hl : lv_has ls 4 [(0, .ref (ad 0)), (1, .int x1), (2, .int x2), (3, .int x3)]) (hf : fX12_sayPlain_32  σ x1 x2 x3 = some res) : W p l e rmX12_sayPlain s m args below meth c H locs 0 0 (zQu below args s D (tM cy) (wM ad cy) A res) (F0 m 32 ls []) := by
  have hx := hC.1
  have hb := hC.2.1
  unfold fX12_sayPlain_32 at hf
  refine lv_iload_n hx hb dX12_sayPlain_32 rfl (lv_at hl 1 rfl) ?_
  refine lv_bipush (v := 64) hx hb dX12_sayPlain_33 (by decide) ?_
  refine lv_icmp_ge (tgt := 47) hx hb dX12_sayPlain_35 (by decide) (fun q => ?_) (fun q => ?_)
  · replace hf := zif_t q hf
    refine lv_iload_n hx hb dX12_sayPlain_47 rfl (lv_at hl 1 rfl) ?_
    refine lv_bipush (v := 118) hx hb dX12_sayPlain_48 (by decide) ?_
    refine lv_icmp_ne (tgt := 63) hx hb dX12_sayPlain_50 (by decide) (fun q => ?_) (fun q => ?_)
    · replace hf := zif_f q hf
      refine lv_iload_n hx hb dX12_sayPlain_63 rfl (lv_at hl 1 rfl) ?_
      refine lv_sipush (v := 128) hx hb dX12_sayPlain_64 (by decide) ?_
      refine lv_icmp_ge (tgt := 97) hx hb dX12_sayPlain_67 (by decide) (fun q => ?_) (fun q => ?_)
      · replace hf := zif_t q hf
        refine lv_iload_n hx hb dX12_sayPlain_97 rfl (lv_at hl 1 rfl) ?_
        refine lv_sipush (v := 192) hx hb dX12_sayPlain_98 (by decide) ?_
        refine lv_icmp_ge (tgt := 117) hx hb dX12_sayPlain_101 (by decide) (fun q => ?_) (fun q => ?_)
        · replace hf := zif_t q hf
          refine lv_iload_n hx hb dX12_sayPlain_117 rfl (lv_at hl 3 rfl) ?_
          refine lv_iconst (v := 4) hx hb dX12_sayPlain_118 (by decide) ?_
          refine lv_icmp_ge (tgt := 131) hx hb dX12_sayPlain_119 (by decide) (fun q => ?_) (fun q => ?_)
          · replace hf := zif_t q hf
            refine lv_aload_n hx hb dX12_sayPlain_131 rfl (lv_at hl 0 rfl) ?_
            refine lv_iload_n hx hb dX12_sayPlain_132 rfl (lv_at hl 2 rfl) ?_
            refine lv_iload_n hx hb dX12_sayPlain_133 rfl (lv_at hl 3 rfl) ?_
            obtain ⟨σ1, g1, hf⟩ := zbu_use hf
            refine z_callVu (As := [.int x2, .int x3]) (rest := []) hC hI (cX12_sayLast_met st l D ad cy σ x2 x3 _ g1) (zgV zw77_16 zw77_17 zw77_18 zw1_5 zw77_19) rfl ⟨rfl, rfl⟩ 2 hdX12_sayLast ⟨Nat.le_of_ble_eq_true rfl, Nat.le_of_ble_eq_true rfl⟩ rfl rfl (wM_e0 ad cy σ) rfl hl rfl (Nat.le_of_ble_eq_true rfl) dX12_sayPlain_134 ⟨Nat.zero_le _, Nat.zero_le _⟩ (fun H locs hI => ?_)
            exact bX12_sayPlain_137 hC  hI (lv_sub hl [] rfl) hf
          replace hf := zif_f q hf
          refine lv_aload_n hx hb dX12_sayPlain_122 rfl (lv_at hl 0 rfl) ?_
          refine lv_iload_n hx hb dX12_sayPlain_123 rfl (lv_at hl 2 rfl) ?_
          refine lv_iload_n hx hb dX12_sayPlain_124 rfl (lv_at hl 3 rfl) ?_
          obtain ⟨σ2, g2, hf⟩ := zbu_use hf
          refine z_callVu (As := [.int x2, .int x3]) (rest := []) hC hI (cX12_sayThree_met st l D ad cy σ x2 x3 _ g2) (zgV zw77_12 zw77_13 zw77_14 zw1_5 zw77_15) rfl ⟨rfl, rfl⟩ 2 hdX12_sayThree ⟨Nat.le_of_ble_eq_true rfl, Nat.le_of_ble_eq_true rfl⟩ rfl rfl (wM_e0 ad cy σ) rfl hl rfl (Nat.le_of_ble_eq_true rfl) dX12_sayPlain_125 ⟨Nat.zero_le _, Nat.zero_le _⟩ (fun H locs hI => ?_)
          refine lv_goto (tgt := 137) hx hb dX12_sayPlain_128 (by decide) ?_
          exact bX12_sayPlain_137 hC  hI (lv_sub hl [] rfl) hf
        replace hf := zif_f q hf
        refine lv_aload_n hx hb dX12_sayPlain_104 rfl (lv_at hl 0 rfl) ?_
        refine lv_iload_n hx hb dX12_sayPlain_105 rfl (lv_at hl 2 rfl) ?_
        obtain ⟨σ3, g3, hf⟩ := zbu_use hf
        refine z_callVu (As := [.int x2]) (rest := []) hC hI (cX12_sayDo_met st l D ad cy σ x2 _ g3) (zgV zw77_8 zw77_9 zw77_10 zw1_5 zw77_11) rfl ⟨rfl, rfl⟩ 1 hdX12_sayDo ⟨Nat.le_of_ble_eq_true rfl, Nat.le_of_ble_eq_true rfl⟩ rfl rfl (wM_e0 ad cy σ) rfl hl rfl (Nat.le_of_ble_eq_true rfl) dX12_sayPlain_106 ⟨Nat.zero_le _, Nat.zero_le _⟩ (fun H locs hI => ?_)
        refine lv_aload_n hx hb dX12_sayPlain_109 rfl (lv_at hl 0 rfl) ?_
        refine lv_iload_n hx hb dX12_sayPlain_110 rfl (lv_at hl 3 rfl) ?_
        obtain ⟨σ4, g4, hf⟩ := zbu_use hf
        refine z_callVu (As := [.int x3]) (rest := []) hC hI (cX12_sayR_met st l D ad cy σ3 x3 _ g4) (zgV zw75_12 zw75_13 zw75_14 zw1_5 zw75_15) rfl ⟨rfl, rfl⟩ 1 hdX12_sayR ⟨Nat.le_of_ble_eq_true rfl, Nat.le_of_ble_eq_true rfl⟩ rfl rfl (wM_e0 ad cy σ3) rfl hl rfl (Nat.le_of_ble_eq_true rfl) dX12_sayPlain_111 ⟨Nat.zero_le _, Nat.zero_le _⟩ (fun H locs hI => ?_)
        refine lv_goto (tgt := 137) hx hb dX12_sayPlain_114 (by decide) ?_
        exact bX12_sayPlain_137 hC  hI (lv_sub hl [] rfl) hf
      replace hf := zif_f q hf
      refine lv_aload_n hx hb dX12_sayPlain_70 rfl (lv_at hl 0 rfl) ?_
      refine z_ldcSW hC hI 111 (by decide) rfl rfl dX12_sayPlain_71 ?_
      obtain ⟨σ5, g5, hf⟩ := zbu_use hf
      refine z_callVu (As := [.ref (st (100 + 111))]) (rest := []) hC hI (cX12_say_met st l D ad cy σ 111 _ g5) (zgV zw74_23 zw75_0 zw75_1 zw1_5 zw75_2) rfl ⟨rfl, rfl⟩ 1 hdX12_say ⟨Nat.le_of_ble_eq_true rfl, Nat.le_of_ble_eq_true rfl⟩ rfl rfl (wM_e0 ad cy σ) rfl hl rfl (Nat.le_of_ble_eq_true rfl) dX12_sayPlain_74 ⟨Nat.zero_le _, Nat.zero_le _⟩ (fun H locs hI => ?_)
      refine lv_aload_n hx hb dX12_sayPlain_77 rfl (lv_at hl 0 rfl) ?_
      refine lv_iload_n hx hb dX12_sayPlain_78 rfl (lv_at hl 2 rfl) ?_
      obtain ⟨σ6, g6, hf⟩ := zbu_use hf
      refine z_callVu (As := [.int x2]) (rest := []) hC hI (cX12_sayR_met st l D ad cy σ5 x2 _ g6) (zgV zw75_12 zw75_13 zw75_14 zw1_5 zw75_15) rfl ⟨rfl, rfl⟩ 1 hdX12_sayR ⟨Nat.le_of_ble_eq_true rfl, Nat.le_of_ble_eq_true rfl⟩ rfl rfl (wM_e0 ad cy σ5) rfl hl rfl (Nat.le_of_ble_eq_true rfl) dX12_sayPlain_79 ⟨Nat.zero_le _, Nat.zero_le _⟩ (fun H locs hI => ?_)
      refine lv_aload_n hx hb dX12_sayPlain_82 rfl (lv_at hl 0 rfl) ?_
      refine z_ldcSW hC hI 83 (by decide) rfl rfl dX12_sayPlain_83 ?_
      obtain ⟨σ7, g7, hf⟩ := zbu_use hf
      refine z_callVu (As := [.ref (st (100 + 83))]) (rest := []) hC hI (cX12_say_met st l D ad cy σ6 83 _ g7) (zgV zw74_23 zw75_0 zw75_1 zw1_5 zw75_2) rfl ⟨rfl, rfl⟩ 1 hdX12_say ⟨Nat.le_of_ble_eq_true rfl, Nat.le_of_ble_eq_true rfl⟩ rfl rfl (wM_e0 ad cy σ6) rfl hl rfl (Nat.le_of_ble_eq_true rfl) dX12_sayPlain_86 ⟨Nat.zero_le _, Nat.zero_le _⟩ (fun H locs hI => ?_)
      refine lv_aload_n hx hb dX12_sayPlain_89 rfl (lv_at hl 0 rfl) ?_
      refine lv_iload_n hx hb dX12_sayPlain_90 rfl (lv_at hl 3 rfl) ?_
      obtain ⟨σ8, g8, hf⟩ := zbu_use hf
      refine z_callVu (As := [.int x3]) (rest := []) hC hI (cX12_sayR_met st l D ad cy σ7 x3 _ g8) (zgV zw75_12 zw75_13 zw75_14 zw1_5 zw75_15) rfl ⟨rfl, rfl⟩ 1 hdX12_sayR ⟨Nat.le_of_ble_eq_true rfl, Nat.le_of_ble_eq_true rfl⟩ rfl rfl (wM_e0 ad cy σ7) rfl hl rfl (Nat.le_of_ble_eq_true rfl) dX12_sayPlain_91 ⟨Nat.zero_le _, Nat.zero_le _⟩ (fun H locs hI => ?_)
      refine lv_goto (tgt := 137) hx hb dX12_sayPlain_94 (by decide) ?_
      exact bX12_sayPlain_137 hC  hI (lv_sub hl [] rfl) hf
    replace hf := zif_t q hf
    refine lv_aload_n hx hb dX12_sayPlain_53 rfl (lv_at hl 0 rfl) ?_
    refine z_ldcSW hC hI 129 (by decide) rfl rfl dX12_sayPlain_54 ?_
    obtain ⟨σ9, g9, hf⟩ := zbu_use hf
    refine z_callVu (As := [.ref (st (100 + 129))]) (rest := []) hC hI (cX12_say_met st l D ad cy σ 129 _ g9) (zgV zw74_23 zw75_0 zw75_1 zw1_5 zw75_2) rfl ⟨rfl, rfl⟩ 1 hdX12_say ⟨Nat.le_of_ble_eq_true rfl, Nat.le_of_ble_eq_true rfl⟩ rfl rfl (wM_e0 ad cy σ) rfl hl rfl (Nat.le_of_ble_eq_true rfl) dX12_sayPlain_57 ⟨Nat.zero_le _, Nat.zero_le _⟩ (fun H locs hI => ?_)
    refine lv_goto (tgt := 137) hx hb dX12_sayPlain_60 (by decide) ?_
    exact bX12_sayPlain_137 hC  hI (lv_sub hl [] rfl) hf
  replace hf := zif_f q hf
  refine lv_aload_n hx hb dX12_sayPlain_38 rfl (lv_at hl 0 rfl) ?_
  refine lv_iload_n hx hb dX12_sayPlain_39 rfl (lv_at hl 2 rfl) ?_
  refine lv_iload_n hx hb dX12_sayPlain_40 rfl (lv_at hl 3 rfl) ?_
  obtain ⟨σ10, g10, hf⟩ := zbu_use hf
  refine z_callVu (As := [.int x2, .int x3]) (rest := []) hC hI (cX12_saySingle_met st l D ad cy σ x2 x3 _ g10) (zgV zw77_4 zw77_5 zw77_6 zw1_5 zw77_7) rfl ⟨rfl, rfl⟩ 2 hdX12_saySingle ⟨Nat.le_of_ble_eq_true rfl, Nat.le_of_ble_eq_true rfl⟩ rfl rfl (wM_e0 ad cy σ) rfl hl rfl (Nat.le_of_ble_eq_true rfl) dX12_sayPlain_41 ⟨Nat.zero_le _, Nat.zero_le _⟩ (fun H locs hI => ?_)
  refine lv_goto (tgt := 137) hx hb dX12_sayPlain_44 (by decide) ?_
  exact bX12_sayPlain_137 hC  hI (lv_sub hl [] rfl) hf
set_option maxRecDepth 20000 in
set_option maxHeartbeats 4000000 in
theorem bX12_sayPlain {st : Nat → Nat} {p : Program} {l : Launch} {e : Env} {s : State} {m : MethodId} {args : Array Value} {below : List Frame} {meth : Method} {c : Code} {D : va_G} {A : Nat → Prop} {ad : Nat → Nat} {cy : Nat → ClassId} (hC : zC p m c cX12_sayPlain 4 s args wzX12_sayPlain RX12 meth none)  {res : zSt} {H : Heap} {locs : List Loc} {σ : zSt} {ls : Array Slot} {x1 : Int32} (hI : zI st D (tM cy) (wM ad cy σ) A s H locs) (hl : lv_has ls 4 [(0, .ref (ad 0)), (1, .int x1)]) (hf : fX12_sayPlain  σ x1 = some res) : W p l e rmX12_sayPlain s m args below meth c H locs 0 0 (zQu below args s D (tM cy) (wM ad cy) A res) (F0 m 0 ls []) := by
  have hx := hC.1
  have hb := hC.2.1
  unfold fX12_sayPlain at hf
  refine lv_iload_n hx hb dX12_sayPlain_0 rfl (lv_at hl 1 rfl) ?_
  refine lv_iconst (v := 3) hx hb dX12_sayPlain_1 (by decide) ?_
  refine lv_ishr hx hb dX12_sayPlain_2 ?_
  refine lv_bipush (v := 7) hx hb dX12_sayPlain_3 (by decide) ?_
  refine lv_iand hx hb dX12_sayPlain_5 ?_
  refine lv_topi (fun v11 ev11 => ?_)
  replace hf := zbv_use ev11 hf
  refine lv_istore_n (lv' := [(2, .int v11), (0, .ref (ad 0)), (1, .int x1)]) hx hb dX12_sayPlain_6 rfl hl (by decide) rfl (fun ls hl => ?_)
  refine lv_iload_n hx hb dX12_sayPlain_7 rfl (lv_at hl 2 rfl) ?_
  refine lv_bipush (v := 7) hx hb dX12_sayPlain_8 (by decide) ?_
  refine lv_iand hx hb dX12_sayPlain_10 ?_
  refine lv_topi (fun v12 ev12 => ?_)
  replace hf := zbv_use ev12 hf
  refine lv_istore_n (lv' := [(3, .int v12), (2, .int v11), (0, .ref (ad 0)), (1, .int x1)]) hx hb dX12_sayPlain_11 rfl hl (by decide) rfl (fun ls hl => ?_)
  refine lv_iload_n hx hb dX12_sayPlain_12 rfl (lv_at hl 3 rfl) ?_
  refine lv_bipush (v := 64) hx hb dX12_sayPlain_13 (by decide) ?_
  refine lv_icmp_ge (tgt := 32) hx hb dX12_sayPlain_15 (by decide) (fun q => ?_) (fun q => ?_)
  · replace hf := zif_t q hf
    exact bX12_sayPlain_32 hC  hI (lv_sub hl [2, 3, 1, 0] rfl) hf
  replace hf := zif_f q hf
  refine lv_iload_n hx hb dX12_sayPlain_18 rfl (lv_at hl 0 rfl) ?_
  refine lv_iconst (v := 4) hx hb dX12_sayPlain_19 (by decide) ?_
  refine lv_icmp_ge (tgt := 32) hx hb dX12_sayPlain_20 (by decide) (fun q => ?_) (fun q => ?_)
  · replace hf := zif_t q hf
    exact bX12_sayPlain_32 hC  hI (lv_sub hl [2, 3, 1, 0] rfl) hf
  replace hf := zif_f q hf
  refine lv_aload_n hx hb dX12_sayPlain_23 rfl (lv_at hl 2 rfl) ?_
  refine lv_iload_n hx hb dX12_sayPlain_24 rfl (lv_at hl 1 rfl) ?_
  refine lv_iload_n hx hb dX12_sayPlain_25 rfl (lv_at hl 0 rfl) ?_
  obtain ⟨σ13, g13, hf⟩ := zbu_use hf
  refine z_callVu (As := [.int v11, .int v12]) (rest := []) hC hI (cX12_sayZero_met st l D ad cy σ v11 v12 _ g13) (zgV zw76_4 zw76_5 zw76_6 zw1_5 zw76_7) rfl ⟨rfl, rfl⟩ 2 hdX12_sayZero ⟨Nat.le_of_ble_eq_true rfl, Nat.le_of_ble_eq_true rfl⟩ rfl rfl (wM_e0 ad cy σ) rfl hl rfl (Nat.le_of_ble_eq_true rfl) dX12_sayPlain_26 ⟨Nat.zero_le _, Nat.zero_le _⟩ (fun H locs hI => ?_)
  refine lv_goto (tgt := 137) hx hb dX12_sayPlain_29 (by decide) ?_
  exact bX12_sayPlain_137 hC  hI (lv_sub hl [] rfl) hf
set_option maxRecDepth 20000 in
theorem cX12_sayPlain_met (st : Nat → Nat) (l : Launch) (D : va_G) (ad : Nat → Nat) (cy : Nat → ClassId) (σ : zSt) (x1 : Int32) (res : zSt) (hf : fX12_sayPlain σ x1 = some res) (sz : Nat) : zMu st l yX12_sayPlain wzX12_sayPlain rmX12_sayPlain [.ref (ad 0), .int x1] D (tM cy) (wM ad cy) sz σ res :=
  zMu.of (cc := cX12_sayPlain) (maxL := 4) (ret := none) (by decide) rfl (Nat.le_of_ble_eq_true rfl) (fun p e s m args below meth c hC A hI ls hl => bX12_sayPlain hC hI hl hf)
theorem hdX12_sayPlain : yX12_sayPlain.cls = RX12 ∧ yX12_sayPlain.cls ≠ "java/lang/invoke/MethodHandle" ∧ yX12_sayPlain.cls ≠ "java/lang/invoke/VarHandle" ∧ (parseMethodDescriptor yX12_sayPlain.desc).map (fun d => d.parameters.length) = some 1 := by decide +kernel
noncomputable def rmX12_sayPrefixed : Room := { frames := 9, cells := 0, slots := 0, locals := 228 }
noncomputable def wzX12_sayPrefixed : List Cond := .code yX12_sayPrefixed cX12_sayPrefixed 7 none :: wsL_law
theorem hinX12_sayPrefixed_X120 : ∀ w ∈ wsX120, w ∈ wzX12_sayPrefixed := fun w h => List.mem_cons_of_mem _ (inlX12 w h)
noncomputable def fX12_sayPrefixed_30  (σ : zSt)  : Option (zSt) :=
  zbu (fX12_say σ 71) (fun σ1 =>
  some σ1)
noncomputable def fX12_sayPrefixed_133  (σ : zSt)  : Option (zSt) :=
  some σ
noncomputable def fX12_sayPrefixed_240  (σ : zSt) (x2 : Int32) : Option (zSt) :=
  zbu (fX12_sayPlain σ x2) (fun σ2 =>
  some σ2)
noncomputable def fX12_sayPrefixed_219  (σ : zSt) (x2 : Int32) (s0 : Int32) : Option (zSt) :=
  zck (zbo s0) (zbv (zsi σ 0 42 s0) (fun σ3 =>
  if (zgi σ3 0 42) = 0 then fX12_sayPrefixed_240 σ3 x2 else
  zbi (fX12_taken σ3 ) (fun σ4 v5 =>
  zbi (fX12_signed σ4 v5) (fun σ6 v7 =>
  zbv (zsi σ6 0 43 v7) (fun σ8 =>
  fX12_sayPrefixed_240 σ8 x2)))))
noncomputable def fX12_sayPrefixed_218  (σ : zSt) (x2 : Int32) : Option (zSt) :=
  fX12_sayPrefixed_219 σ x2 0
noncomputable def fX12_sayPrefixed_214  (σ : zSt) (x2 : Int32) : Option (zSt) :=
  fX12_sayPrefixed_219 σ x2 1
noncomputable def fX12_sayPrefixed_201  (σ : zSt) (x2 : Int32) (x4 : Int32) (x5 : Int32) : Option (zSt) :=
  if x5 = 2 then if x4 = 6 then fX12_sayPrefixed_214 σ x2 else
  fX12_sayPrefixed_218 σ x2 else
  fX12_sayPrefixed_218 σ x2
noncomputable def fX12_sayPrefixed_195  (σ : zSt) (x2 : Int32) (x4 : Int32) (x5 : Int32) : Option (zSt) :=
  if x2 = 118 then fX12_sayPrefixed_201 σ x2 x4 x5 else
  fX12_sayPrefixed_214 σ x2
noncomputable def fX12_sayPrefixed_176  (σ : zSt) (x2 : Int32) (x3 : Int32) (x4 : Int32) (x5 : Int32) : Option (zSt) :=
  if x5 = 1 then if x3 = 6 then fX12_sayPrefixed_195 σ x2 x4 x5 else
  if x4 = 6 then fX12_sayPrefixed_195 σ x2 x4 x5 else
  fX12_sayPrefixed_201 σ x2 x4 x5 else
  fX12_sayPrefixed_201 σ x2 x4 x5
noncomputable def fX12_sayPrefixed  (σ : zSt) (x1 : Int32) : Option (zSt) :=
  zbi (fX12_read σ (zgi σ 0 40)) (fun σ9 v10 =>
  if v10 = 221 then fX12_sayPrefixed_30 σ9 else
  if v10 = 237 then fX12_sayPrefixed_30 σ9 else
  if v10 = 253 then fX12_sayPrefixed_30 σ9 else
  zbv (zsi σ9 0 40 ((zgi σ9 0 40) + 1)) (fun σ11 =>
  zbv (zsi σ11 0 41 x1) (fun σ12 =>
  zbv ((v10 >>> ((3 : Int32) &&& 31)) &&& 7) (fun v13 =>
  zbv (v10 &&& 7) (fun v14 =>
  zbv (v10 >>> ((6 : Int32) &&& 31)) (fun v15 =>
  if v10 = 203 then zbi (fX12_taken σ12 ) (fun σ16 v17 =>
  zbi (fX12_signed σ16 v17) (fun σ18 v19 =>
  zbv (zsi σ18 0 43 v19) (fun σ20 =>
  zck (zbo 1) (zbv (zsi σ20 0 42 1) (fun σ21 =>
  zbi (fX12_taken σ21 ) (fun σ22 v23 =>
  zbu (fX12_sayTurn σ22 ((v23 &&& 248) ||| 6)) (fun σ24 =>
  if (v23 >>> ((6 : Int32) &&& 31)) = 1 then fX12_sayPrefixed_133 σ24 else
  zck (decide (¬ 8 = 0)) (
  if (zrem v23 8) = 6 then fX12_sayPrefixed_133 σ24 else
  zbu (fX12_say σ24 83) (fun σ25 =>
  zck (decide (¬ 8 = 0)) (
  zbu (fX12_sayR σ25 (zrem v23 8)) (fun σ26 =>
  some σ26))))))))))) else
  if v15 = 0 then if v14 ≤ 3 then fX12_sayPrefixed_176 σ12 v10 v13 v14 v15 else
  if 7 ≤ v14 then fX12_sayPrefixed_176 σ12 v10 v13 v14 v15 else
  if v13 = 6 then fX12_sayPrefixed_214 σ12 v10 else
  fX12_sayPrefixed_176 σ12 v10 v13 v14 v15 else
  fX12_sayPrefixed_176 σ12 v10 v13 v14 v15))))))
set_option maxRecDepth 20000 in
set_option maxHeartbeats 4000000 in
theorem bX12_sayPrefixed_30 {st : Nat → Nat} {p : Program} {l : Launch} {e : Env} {s : State} {m : MethodId} {args : Array Value} {below : List Frame} {meth : Method} {c : Code} {D : va_G} {A : Nat → Prop} {ad : Nat → Nat} {cy : Nat → ClassId} (hC : zC p m c cX12_sayPrefixed 7 s args wzX12_sayPrefixed RX12 meth none)  {res : zSt} {H : Heap} {locs : List Loc} {σ : zSt} {ls : Array Slot}  (hI : zI st D (tM cy) (wM ad cy σ) A s H locs) (hl : lv_has ls 7 [(0, .ref (ad 0))]) (hf : fX12_sayPrefixed_30  σ  = some res) : W p l e rmX12_sayPrefixed s m args below meth c H locs 0 0 (zQu below args s D (tM cy) (wM ad cy) A res) (F0 m 30 ls []) := by
  have hx := hC.1
  have hb := hC.2.1
  unfold fX12_sayPrefixed_30 at hf
  refine lv_aload_n hx hb dX12_sayPrefixed_30 rfl (lv_at hl 0 rfl) ?_
  refine z_ldcSW hC hI 71 (by decide) rfl rfl dX12_sayPrefixed_31 ?_
  obtain ⟨σ1, g1, hf⟩ := zbu_use hf
  refine z_callVu (As := [.ref (st (100 + 71))]) (rest := []) hC hI (cX12_say_met st l D ad cy σ 71 _ g1) (zgV zw74_23 zw75_0 zw75_1 zw1_5 zw75_2) rfl ⟨rfl, rfl⟩ 1 hdX12_say ⟨Nat.le_of_ble_eq_true rfl, Nat.le_of_ble_eq_true rfl⟩ rfl rfl (wM_e0 ad cy σ) rfl hl rfl (Nat.le_of_ble_eq_true rfl) dX12_sayPrefixed_34 ⟨Nat.zero_le _, Nat.zero_le _⟩ (fun H locs hI => ?_)
  exact z_return hC hI hf dX12_sayPrefixed_37
set_option maxRecDepth 20000 in
set_option maxHeartbeats 4000000 in
theorem bX12_sayPrefixed_133 {st : Nat → Nat} {p : Program} {l : Launch} {e : Env} {s : State} {m : MethodId} {args : Array Value} {below : List Frame} {meth : Method} {c : Code} {D : va_G} {A : Nat → Prop} {ad : Nat → Nat} {cy : Nat → ClassId} (hC : zC p m c cX12_sayPrefixed 7 s args wzX12_sayPrefixed RX12 meth none)  {res : zSt} {H : Heap} {locs : List Loc} {σ : zSt} {ls : Array Slot}  (hI : zI st D (tM cy) (wM ad cy σ) A s H locs) (hl : lv_has ls 7 []) (hf : fX12_sayPrefixed_133  σ  = some res) : W p l e rmX12_sayPrefixed s m args below meth c H locs 0 0 (zQu below args s D (tM cy) (wM ad cy) A res) (F0 m 133 ls []) := by
  have hx := hC.1
  have hb := hC.2.1
  unfold fX12_sayPrefixed_133 at hf
  exact z_return hC hI hf dX12_sayPrefixed_133
set_option maxRecDepth 20000 in
set_option maxHeartbeats 4000000 in
theorem bX12_sayPrefixed_240 {st : Nat → Nat} {p : Program} {l : Launch} {e : Env} {s : State} {m : MethodId} {args : Array Value} {below : List Frame} {meth : Method} {c : Code} {D : va_G} {A : Nat → Prop} {ad : Nat → Nat} {cy : Nat → ClassId} (hC : zC p m c cX12_sayPrefixed 7 s args wzX12_sayPrefixed RX12 meth none)  {res : zSt} {H : Heap} {locs : List Loc} {σ : zSt} {ls : Array Slot} {x2 : Int32} (hI : zI st D (tM cy) (wM ad cy σ) A s H locs) (hl : lv_has ls 7 [(0, .ref (ad 0)), (2, .int x2)]) (hf : fX12_sayPrefixed_240  σ x2 = some res) : W p l e rmX12_sayPrefixed s m args below meth c H locs 0 0 (zQu below args s D (tM cy) (wM ad cy) A res) (F0 m 240 ls []) := by
  have hx := hC.1
  have hb := hC.2.1
  unfold fX12_sayPrefixed_240 at hf
  refine lv_aload_n hx hb dX12_sayPrefixed_240 rfl (lv_at hl 0 rfl) ?_
  refine lv_iload_n hx hb dX12_sayPrefixed_241 rfl (lv_at hl 1 rfl) ?_
  obtain ⟨σ2, g2, hf⟩ := zbu_use hf
  refine z_callVu (As := [.int x2]) (rest := []) hC hI (cX12_sayPlain_met st l D ad cy σ x2 _ g2) (zgV zw76_0 zw76_1 zw76_2 zw1_5 zw76_3) rfl ⟨rfl, rfl⟩ 1 hdX12_sayPlain ⟨Nat.le_of_ble_eq_true rfl, Nat.le_of_ble_eq_true rfl⟩ rfl rfl (wM_e0 ad cy σ) rfl hl rfl (Nat.le_of_ble_eq_true rfl) dX12_sayPrefixed_242 ⟨Nat.zero_le _, Nat.zero_le _⟩ (fun H locs hI => ?_)
  exact z_return hC hI hf dX12_sayPrefixed_245
set_option maxRecDepth 20000 in
set_option maxHeartbeats 4000000 in
theorem bX12_sayPrefixed_219 {st : Nat → Nat} {p : Program} {l : Launch} {e : Env} {s : State} {m : MethodId} {args : Array Value} {below : List Frame} {meth : Method} {c : Code} {D : va_G} {A : Nat → Prop} {ad : Nat → Nat} {cy : Nat → ClassId} (hC : zC p m c cX12_sayPrefixed 7 s args wzX12_sayPrefixed RX12 meth none)  {res : zSt} {H : Heap} {locs : List Loc} {σ : zSt} {ls : Array Slot} {x2 : Int32} {s0 : Int32} (hI : zI st D (tM cy) (wM ad cy σ) A s H locs) (hl : lv_has ls 7 [(0, .ref (ad 0)), (2, .int x2)]) (hf : fX12_sayPrefixed_219  σ x2 s0 = some res) : W p l e rmX12_sayPrefixed s m args below meth c H locs 0 0 (zQu below args s D (tM cy) (wM ad cy) A res) (F0 m 219 ls [.int s0, .ref (ad 0)]) := by
  have hx := hC.1
  have hb := hC.2.1
  unfold fX12_sayPrefixed_219 at hf
  obtain ⟨q, hf⟩ := zck_use hf
  obtain ⟨σ3, eσ3⟩ : ∃ z, z = zsi σ 0 42 s0 := ⟨_, rfl⟩
  replace hf := zbv_use eσ3 hf
  refine z_put hC hI hinX12_sayPrefixed_X120 tyX12_ok nmX12 0 (wM_e0 ad cy σ) rfl 42 (by decide) (List.mem_cons_of_mem _ zw74_13) rfl (zbo_n q) (zbo_f q) (Nat.le_of_ble_eq_true rfl) ((wM_s0_42 ad cy σ s0).trans (congrArg (wM ad cy) eσ3.symm)) dX12_sayPrefixed_219 (fun H locs hI => ?_)
  refine lv_aload_n hx hb dX12_sayPrefixed_222 rfl (lv_at hl 0 rfl) ?_
  refine z_get hC hI hinX12_sayPrefixed_X120 0 (wM_e0 ad cy σ3) rfl 42 (by decide) (List.mem_cons_of_mem _ zw74_13) rfl dX12_sayPrefixed_223 ?_
  refine lv_if_eq (tgt := 240) hx hb dX12_sayPrefixed_226 (by decide) (fun q => ?_) (fun q => ?_)
  · replace hf := zif_t q hf
    exact bX12_sayPrefixed_240 hC  hI hl hf
  replace hf := zif_f q hf
  refine lv_aload_n hx hb dX12_sayPrefixed_229 rfl (lv_at hl 0 rfl) ?_
  refine lv_aload_n hx hb dX12_sayPrefixed_230 rfl (lv_at hl 0 rfl) ?_
  obtain ⟨σ4, v5, g4, hf⟩ := zbi_use hf
  refine z_callVi (As := []) (rest := [.ref (ad 0)]) hC hI (cX12_taken_met st l D ad cy σ3  _ g4) (zgV zw74_14 zw74_15 zw74_16 zw1_5 zw74_17) rfl ⟨rfl, rfl⟩ 0 hdX12_taken ⟨Nat.le_of_ble_eq_true rfl, Nat.le_of_ble_eq_true rfl⟩ rfl rfl (wM_e0 ad cy σ3) rfl hl rfl (Nat.le_of_ble_eq_true rfl) dX12_sayPrefixed_231 ⟨Nat.zero_le _, Nat.zero_le _⟩ (fun H locs hI => ?_)
  obtain ⟨σ6, v7, g6, hf⟩ := zbi_use hf
  refine z_callSi (As := [.int v5]) (rest := [.ref (ad 0)]) hC hI (cX12_signed_met st l D ad cy σ4 v5 _ g6) (zgS zw50_18 zw50_19 zw1_5 zw50_20) rfl ⟨rfl, rfl⟩ 1 hdX12_signed ⟨Nat.le_of_ble_eq_true rfl, Nat.le_of_ble_eq_true rfl⟩ rfl hl rfl (Nat.le_of_ble_eq_true rfl) dX12_sayPrefixed_234 ⟨Nat.zero_le _, Nat.zero_le _⟩ (fun H locs hI => ?_)
  obtain ⟨σ8, eσ8⟩ : ∃ z, z = zsi σ6 0 43 v7 := ⟨_, rfl⟩
  replace hf := zbv_use eσ8 hf
  refine z_put hC hI hinX12_sayPrefixed_X120 tyX12_ok nmX12 0 (wM_e0 ad cy σ6) rfl 43 (by decide) (List.mem_cons_of_mem _ zw74_22) rfl rfl rfl (Nat.le_of_ble_eq_true rfl) ((wM_s0_43 ad cy σ6 v7).trans (congrArg (wM ad cy) eσ8.symm)) dX12_sayPrefixed_237 (fun H locs hI => ?_)
  exact bX12_sayPrefixed_240 hC  hI hl hf
set_option maxRecDepth 20000 in
set_option maxHeartbeats 4000000 in
theorem bX12_sayPrefixed_218 {st : Nat → Nat} {p : Program} {l : Launch} {e : Env} {s : State} {m : MethodId} {args : Array Value} {below : List Frame} {meth : Method} {c : Code} {D : va_G} {A : Nat → Prop} {ad : Nat → Nat} {cy : Nat → ClassId} (hC : zC p m c cX12_sayPrefixed 7 s args wzX12_sayPrefixed RX12 meth none)  {res : zSt} {H : Heap} {locs : List Loc} {σ : zSt} {ls : Array Slot} {x2 : Int32} (hI : zI st D (tM cy) (wM ad cy σ) A s H locs) (hl : lv_has ls 7 [(0, .ref (ad 0)), (2, .int x2)]) (hf : fX12_sayPrefixed_218  σ x2 = some res) : W p l e rmX12_sayPrefixed s m args below meth c H locs 0 0 (zQu below args s D (tM cy) (wM ad cy) A res) (F0 m 218 ls [.ref (ad 0)]) := by
  have hx := hC.1
  have hb := hC.2.1
  unfold fX12_sayPrefixed_218 at hf
  refine lv_iconst (v := 0) hx hb dX12_sayPrefixed_218 (by decide) ?_
  exact bX12_sayPrefixed_219 hC  hI hl hf
set_option maxRecDepth 20000 in
set_option maxHeartbeats 4000000 in
theorem bX12_sayPrefixed_214 {st : Nat → Nat} {p : Program} {l : Launch} {e : Env} {s : State} {m : MethodId} {args : Array Value} {below : List Frame} {meth : Method} {c : Code} {D : va_G} {A : Nat → Prop} {ad : Nat → Nat} {cy : Nat → ClassId} (hC : zC p m c cX12_sayPrefixed 7 s args wzX12_sayPrefixed RX12 meth none)  {res : zSt} {H : Heap} {locs : List Loc} {σ : zSt} {ls : Array Slot} {x2 : Int32} (hI : zI st D (tM cy) (wM ad cy σ) A s H locs) (hl : lv_has ls 7 [(0, .ref (ad 0)), (2, .int x2)]) (hf : fX12_sayPrefixed_214  σ x2 = some res) : W p l e rmX12_sayPrefixed s m args below meth c H locs 0 0 (zQu below args s D (tM cy) (wM ad cy) A res) (F0 m 214 ls [.ref (ad 0)]) := by
  have hx := hC.1
  have hb := hC.2.1
  unfold fX12_sayPrefixed_214 at hf
  refine lv_iconst (v := 1) hx hb dX12_sayPrefixed_214 (by decide) ?_
  refine lv_goto (tgt := 219) hx hb dX12_sayPrefixed_215 (by decide) ?_
  exact bX12_sayPrefixed_219 hC  hI hl hf
set_option maxRecDepth 20000 in
set_option maxHeartbeats 4000000 in
theorem bX12_sayPrefixed_201 {st : Nat → Nat} {p : Program} {l : Launch} {e : Env} {s : State} {m : MethodId} {args : Array Value} {below : List Frame} {meth : Method} {c : Code} {D : va_G} {A : Nat → Prop} {ad : Nat → Nat} {cy : Nat → ClassId} (hC : zC p m c cX12_sayPrefixed 7 s args wzX12_sayPrefixed RX12 meth none)  {res : zSt} {H : Heap} {locs : List Loc} {σ : zSt} {ls : Array Slot} {x2 : Int32} {x4 : Int32} {x5 : Int32} (hI : zI st D (tM cy) (wM ad cy σ) A s H locs) (hl : lv_has ls 7 [(0, .ref (ad 0)), (2, .int x2), (4, .int x4), (5, .int x5)]) (hf : fX12_sayPrefixed_201  σ x2 x4 x5 = some res) : W p l e rmX12_sayPrefixed s m args below meth c H locs 0 0 (zQu below args s D (tM cy) (wM ad cy) A res) (F0 m 201 ls [.ref (ad 0)]) := by
  have hx := hC.1
  have hb := hC.2.1
  unfold fX12_sayPrefixed_201 at hf
  refine lv_iload hx hb dX12_sayPrefixed_201 (lv_at hl 3 rfl) ?_
  refine lv_iconst (v := 2) hx hb dX12_sayPrefixed_203 (by decide) ?_
  refine lv_icmp_ne (tgt := 218) hx hb dX12_sayPrefixed_204 (by decide) (fun q => ?_) (fun q => ?_)
  · replace hf := zif_f q hf
    exact bX12_sayPrefixed_218 hC  hI (lv_sub hl [0, 1] rfl) hf
  replace hf := zif_t q hf
  refine lv_iload hx hb dX12_sayPrefixed_207 (lv_at hl 2 rfl) ?_
  refine lv_bipush (v := 6) hx hb dX12_sayPrefixed_209 (by decide) ?_
  refine lv_icmp_ne (tgt := 218) hx hb dX12_sayPrefixed_211 (by decide) (fun q => ?_) (fun q => ?_)
  · replace hf := zif_f q hf
    exact bX12_sayPrefixed_218 hC  hI (lv_sub hl [0, 1] rfl) hf
  replace hf := zif_t q hf
  exact bX12_sayPrefixed_214 hC  hI (lv_sub hl [0, 1] rfl) hf
set_option maxRecDepth 20000 in
set_option maxHeartbeats 4000000 in
theorem bX12_sayPrefixed_195 {st : Nat → Nat} {p : Program} {l : Launch} {e : Env} {s : State} {m : MethodId} {args : Array Value} {below : List Frame} {meth : Method} {c : Code} {D : va_G} {A : Nat → Prop} {ad : Nat → Nat} {cy : Nat → ClassId} (hC : zC p m c cX12_sayPrefixed 7 s args wzX12_sayPrefixed RX12 meth none)  {res : zSt} {H : Heap} {locs : List Loc} {σ : zSt} {ls : Array Slot} {x2 : Int32} {x4 : Int32} {x5 : Int32} (hI : zI st D (tM cy) (wM ad cy σ) A s H locs) (hl : lv_has ls 7 [(0, .ref (ad 0)), (2, .int x2), (4, .int x4), (5, .int x5)]) (hf : fX12_sayPrefixed_195  σ x2 x4 x5 = some res) : W p l e rmX12_sayPrefixed s m args below meth c H locs 0 0 (zQu below args s D (tM cy) (wM ad cy) A res) (F0 m 195 ls [.ref (ad 0)]) := by
  have hx := hC.1
  have hb := hC.2.1
  unfold fX12_sayPrefixed_195 at hf
  refine lv_iload_n hx hb dX12_sayPrefixed_195 rfl (lv_at hl 1 rfl) ?_
  refine lv_bipush (v := 118) hx hb dX12_sayPrefixed_196 (by decide) ?_
  refine lv_icmp_ne (tgt := 214) hx hb dX12_sayPrefixed_198 (by decide) (fun q => ?_) (fun q => ?_)
  · replace hf := zif_f q hf
    exact bX12_sayPrefixed_214 hC  hI (lv_sub hl [0, 1] rfl) hf
  replace hf := zif_t q hf
  exact bX12_sayPrefixed_201 hC  hI hl hf
set_option maxRecDepth 20000 in
set_option maxHeartbeats 4000000 in
theorem bX12_sayPrefixed_176 {st : Nat → Nat} {p : Program} {l : Launch} {e : Env} {s : State} {m : MethodId} {args : Array Value} {below : List Frame} {meth : Method} {c : Code} {D : va_G} {A : Nat → Prop} {ad : Nat → Nat} {cy : Nat → ClassId} (hC : zC p m c cX12_sayPrefixed 7 s args wzX12_sayPrefixed RX12 meth none)  {res : zSt} {H : Heap} {locs : List Loc} {σ : zSt} {ls : Array Slot} {x2 : Int32} {x3 : Int32} {x4 : Int32} {x5 : Int32} (hI : zI st D (tM cy) (wM ad cy σ) A s H locs) (hl : lv_has ls 7 [(0, .ref (ad 0)), (2, .int x2), (3, .int x3), (4, .int x4), (5, .int x5)]) (hf : fX12_sayPrefixed_176  σ x2 x3 x4 x5 = some res) : W p l e rmX12_sayPrefixed s m args below meth c H locs 0 0 (zQu below args s D (tM cy) (wM ad cy) A res) (F0 m 176 ls [.ref (ad 0)]) := by
  have hx := hC.1
  have hb := hC.2.1
  unfold fX12_sayPrefixed_176 at hf
  refine lv_iload hx hb dX12_sayPrefixed_176 (lv_at hl 4 rfl) ?_
  refine lv_iconst (v := 1) hx hb dX12_sayPrefixed_178 (by decide) ?_
  refine lv_icmp_ne (tgt := 201) hx hb dX12_sayPrefixed_179 (by decide) (fun q => ?_) (fun q => ?_)
  · replace hf := zif_f q hf
    exact bX12_sayPrefixed_201 hC  hI (lv_sub hl [0, 1, 3, 4] rfl) hf
  replace hf := zif_t q hf
  refine lv_iload_n hx hb dX12_sayPrefixed_182 rfl (lv_at hl 2 rfl) ?_
  refine lv_bipush (v := 6) hx hb dX12_sayPrefixed_183 (by decide) ?_
  refine lv_icmp_eq (tgt := 195) hx hb dX12_sayPrefixed_185 (by decide) (fun q => ?_) (fun q => ?_)
  · replace hf := zif_t q hf
    exact bX12_sayPrefixed_195 hC  hI (lv_sub hl [0, 1, 3, 4] rfl) hf
  replace hf := zif_f q hf
  refine lv_iload hx hb dX12_sayPrefixed_188 (lv_at hl 3 rfl) ?_
  refine lv_bipush (v := 6) hx hb dX12_sayPrefixed_190 (by decide) ?_
  refine lv_icmp_ne (tgt := 201) hx hb dX12_sayPrefixed_192 (by decide) (fun q => ?_) (fun q => ?_)
  · replace hf := zif_f q hf
    exact bX12_sayPrefixed_201 hC  hI (lv_sub hl [0, 1, 3, 4] rfl) hf
  replace hf := zif_t q hf
  exact bX12_sayPrefixed_195 hC  hI (lv_sub hl [0, 1, 3, 4] rfl) hf
set_option maxRecDepth 20000 in
set_option maxHeartbeats 4000000 in
theorem bX12_sayPrefixed {st : Nat → Nat} {p : Program} {l : Launch} {e : Env} {s : State} {m : MethodId} {args : Array Value} {below : List Frame} {meth : Method} {c : Code} {D : va_G} {A : Nat → Prop} {ad : Nat → Nat} {cy : Nat → ClassId} (hC : zC p m c cX12_sayPrefixed 7 s args wzX12_sayPrefixed RX12 meth none)  {res : zSt} {H : Heap} {locs : List Loc} {σ : zSt} {ls : Array Slot} {x1 : Int32} (hI : zI st D (tM cy) (wM ad cy σ) A s H locs) (hl : lv_has ls 7 [(0, .ref (ad 0)), (1, .int x1)]) (hf : fX12_sayPrefixed  σ x1 = some res) : W p l e rmX12_sayPrefixed s m args below meth c H locs 0 0 (zQu below args s D (tM cy) (wM ad cy) A res) (F0 m 0 ls []) := by
  have hx := hC.1
  have hb := hC.2.1
  unfold fX12_sayPrefixed at hf
  refine lv_aload_n hx hb dX12_sayPrefixed_0 rfl (lv_at hl 0 rfl) ?_
  refine lv_aload_n hx hb dX12_sayPrefixed_1 rfl (lv_at hl 0 rfl) ?_
  refine z_get hC hI hinX12_sayPrefixed_X120 0 (wM_e0 ad cy σ) rfl 40 (by decide) (List.mem_cons_of_mem _ zw74_11) rfl dX12_sayPrefixed_2 ?_
  obtain ⟨σ9, v10, g9, hf⟩ := zbi_use hf
  refine z_callVi (As := [.int (zgi σ 0 40)]) (rest := []) hC hI (cX12_read_met st l D ad cy σ (zgi σ 0 40) _ g9) (zgV zw49_8 zw49_9 zw49_10 zw1_5 zw49_11) rfl ⟨rfl, rfl⟩ 1 hdX12_read ⟨Nat.le_of_ble_eq_true rfl, Nat.le_of_ble_eq_true rfl⟩ rfl rfl (wM_e0 ad cy σ) rfl hl rfl (Nat.le_of_ble_eq_true rfl) dX12_sayPrefixed_5 ⟨Nat.zero_le _, Nat.zero_le _⟩ (fun H locs hI => ?_)
  refine lv_istore_n (lv' := [(2, .int v10), (0, .ref (ad 0)), (1, .int x1)]) hx hb dX12_sayPrefixed_8 rfl hl (by decide) rfl (fun ls hl => ?_)
  refine lv_iload_n hx hb dX12_sayPrefixed_9 rfl (lv_at hl 0 rfl) ?_
  refine lv_sipush (v := 221) hx hb dX12_sayPrefixed_10 (by decide) ?_
  refine lv_icmp_eq (tgt := 30) hx hb dX12_sayPrefixed_13 (by decide) (fun q => ?_) (fun q => ?_)
  · replace hf := zif_t q hf
    exact bX12_sayPrefixed_30 hC  hI (lv_sub hl [1] rfl) hf
  replace hf := zif_f q hf
  refine lv_iload_n hx hb dX12_sayPrefixed_16 rfl (lv_at hl 0 rfl) ?_
  refine lv_sipush (v := 237) hx hb dX12_sayPrefixed_17 (by decide) ?_
  refine lv_icmp_eq (tgt := 30) hx hb dX12_sayPrefixed_20 (by decide) (fun q => ?_) (fun q => ?_)
  · replace hf := zif_t q hf
    exact bX12_sayPrefixed_30 hC  hI (lv_sub hl [1] rfl) hf
  replace hf := zif_f q hf
  refine lv_iload_n hx hb dX12_sayPrefixed_23 rfl (lv_at hl 0 rfl) ?_
  refine lv_sipush (v := 253) hx hb dX12_sayPrefixed_24 (by decide) ?_
  refine lv_icmp_ne (tgt := 38) hx hb dX12_sayPrefixed_27 (by decide) (fun q => ?_) (fun q => ?_)
  · replace hf := zif_f q hf
    refine lv_aload_n hx hb dX12_sayPrefixed_38 rfl (lv_at hl 1 rfl) ?_
    refine lv_dup hx hb dX12_sayPrefixed_39 rfl ?_
    refine z_get hC hI hinX12_sayPrefixed_X120 0 (wM_e0 ad cy σ9) rfl 40 (by decide) (List.mem_cons_of_mem _ zw74_11) rfl dX12_sayPrefixed_40 ?_
    refine lv_iconst (v := 1) hx hb dX12_sayPrefixed_43 (by decide) ?_
    refine lv_iadd hx hb dX12_sayPrefixed_44 ?_
    obtain ⟨σ11, eσ11⟩ : ∃ z, z = zsi σ9 0 40 ((zgi σ9 0 40) + 1) := ⟨_, rfl⟩
    replace hf := zbv_use eσ11 hf
    refine z_put hC hI hinX12_sayPrefixed_X120 tyX12_ok nmX12 0 (wM_e0 ad cy σ9) rfl 40 (by decide) (List.mem_cons_of_mem _ zw74_11) rfl rfl rfl (Nat.le_of_ble_eq_true rfl) ((wM_s0_40 ad cy σ9 ((zgi σ9 0 40) + 1)).trans (congrArg (wM ad cy) eσ11.symm)) dX12_sayPrefixed_45 (fun H locs hI => ?_)
    refine lv_aload_n hx hb dX12_sayPrefixed_48 rfl (lv_at hl 1 rfl) ?_
    refine lv_iload_n hx hb dX12_sayPrefixed_49 rfl (lv_at hl 2 rfl) ?_
    obtain ⟨σ12, eσ12⟩ : ∃ z, z = zsi σ11 0 41 x1 := ⟨_, rfl⟩
    replace hf := zbv_use eσ12 hf
    refine z_put hC hI hinX12_sayPrefixed_X120 tyX12_ok nmX12 0 (wM_e0 ad cy σ11) rfl 41 (by decide) (List.mem_cons_of_mem _ zw74_12) rfl rfl rfl (Nat.le_of_ble_eq_true rfl) ((wM_s0_41 ad cy σ11 x1).trans (congrArg (wM ad cy) eσ12.symm)) dX12_sayPrefixed_50 (fun H locs hI => ?_)
    refine lv_iload_n hx hb dX12_sayPrefixed_53 rfl (lv_at hl 0 rfl) ?_
    refine lv_iconst (v := 3) hx hb dX12_sayPrefixed_54 (by decide) ?_
    refine lv_ishr hx hb dX12_sayPrefixed_55 ?_
    refine lv_bipush (v := 7) hx hb dX12_sayPrefixed_56 (by decide) ?_
    refine lv_iand hx hb dX12_sayPrefixed_58 ?_
    refine lv_topi (fun v13 ev13 => ?_)
    replace hf := zbv_use ev13 hf
    refine lv_istore_n (lv' := [(3, .int v13), (2, .int v10), (0, .ref (ad 0)), (1, .int x1)]) hx hb dX12_sayPrefixed_59 rfl hl (by decide) rfl (fun ls hl => ?_)
    refine lv_iload_n hx hb dX12_sayPrefixed_60 rfl (lv_at hl 1 rfl) ?_
    refine lv_bipush (v := 7) hx hb dX12_sayPrefixed_61 (by decide) ?_
    refine lv_iand hx hb dX12_sayPrefixed_63 ?_
    refine lv_topi (fun v14 ev14 => ?_)
    replace hf := zbv_use ev14 hf
    refine lv_istore (lv' := [(4, .int v14), (3, .int v13), (2, .int v10), (0, .ref (ad 0)), (1, .int x1)]) hx hb dX12_sayPrefixed_64 hl (by decide) rfl (fun ls hl => ?_)
    refine lv_iload_n hx hb dX12_sayPrefixed_66 rfl (lv_at hl 2 rfl) ?_
    refine lv_bipush (v := 6) hx hb dX12_sayPrefixed_67 (by decide) ?_
    refine lv_ishr hx hb dX12_sayPrefixed_69 ?_
    refine lv_topi (fun v15 ev15 => ?_)
    replace hf := zbv_use ev15 hf
    refine lv_istore (lv' := [(5, .int v15), (4, .int v14), (3, .int v13), (2, .int v10), (0, .ref (ad 0)), (1, .int x1)]) hx hb dX12_sayPrefixed_70 hl (by decide) rfl (fun ls hl => ?_)
    refine lv_iload_n hx hb dX12_sayPrefixed_72 rfl (lv_at hl 3 rfl) ?_
    refine lv_sipush (v := 203) hx hb dX12_sayPrefixed_73 (by decide) ?_
    refine lv_icmp_ne (tgt := 151) hx hb dX12_sayPrefixed_76 (by decide) (fun q => ?_) (fun q => ?_)
    · replace hf := zif_f q hf
      refine lv_aload_n hx hb dX12_sayPrefixed_151 rfl (lv_at hl 4 rfl) ?_
      refine lv_iload hx hb dX12_sayPrefixed_152 (lv_at hl 0 rfl) ?_
      refine lv_if_ne (tgt := 176) hx hb dX12_sayPrefixed_154 (by decide) (fun q => ?_) (fun q => ?_)
      · replace hf := zif_f q hf
        exact bX12_sayPrefixed_176 hC  hI (lv_sub hl [4, 3, 2, 1, 0] rfl) hf
      replace hf := zif_t q hf
      refine lv_iload hx hb dX12_sayPrefixed_157 (lv_at hl 1 rfl) ?_
      refine lv_iconst (v := 3) hx hb dX12_sayPrefixed_159 (by decide) ?_
      refine lv_icmp_le (tgt := 176) hx hb dX12_sayPrefixed_160 (by decide) (fun q => ?_) (fun q => ?_)
      · replace hf := zif_t q hf
        exact bX12_sayPrefixed_176 hC  hI (lv_sub hl [4, 3, 2, 1, 0] rfl) hf
      replace hf := zif_f q hf
      refine lv_iload hx hb dX12_sayPrefixed_163 (lv_at hl 1 rfl) ?_
      refine lv_bipush (v := 7) hx hb dX12_sayPrefixed_165 (by decide) ?_
      refine lv_icmp_ge (tgt := 176) hx hb dX12_sayPrefixed_167 (by decide) (fun q => ?_) (fun q => ?_)
      · replace hf := zif_t q hf
        exact bX12_sayPrefixed_176 hC  hI (lv_sub hl [4, 3, 2, 1, 0] rfl) hf
      replace hf := zif_f q hf
      refine lv_iload_n hx hb dX12_sayPrefixed_170 rfl (lv_at hl 2 rfl) ?_
      refine lv_bipush (v := 6) hx hb dX12_sayPrefixed_171 (by decide) ?_
      refine lv_icmp_eq (tgt := 214) hx hb dX12_sayPrefixed_173 (by decide) (fun q => ?_) (fun q => ?_)
      · replace hf := zif_t q hf
        exact bX12_sayPrefixed_214 hC  hI (lv_sub hl [4, 3] rfl) hf
      replace hf := zif_f q hf
      exact bX12_sayPrefixed_176 hC  hI (lv_sub hl [4, 3, 2, 1, 0] rfl) hf
    replace hf := zif_t q hf
    refine lv_aload_n hx hb dX12_sayPrefixed_79 rfl (lv_at hl 4 rfl) ?_
    refine lv_aload_n hx hb dX12_sayPrefixed_80 rfl (lv_at hl 4 rfl) ?_
    obtain ⟨σ16, v17, g16, hf⟩ := zbi_use hf
    refine z_callVi (As := []) (rest := [.ref (ad 0)]) hC hI (cX12_taken_met st l D ad cy σ12  _ g16) (zgV zw74_14 zw74_15 zw74_16 zw1_5 zw74_17) rfl ⟨rfl, rfl⟩ 0 hdX12_taken ⟨Nat.le_of_ble_eq_true rfl, Nat.le_of_ble_eq_true rfl⟩ rfl rfl (wM_e0 ad cy σ12) rfl hl rfl (Nat.le_of_ble_eq_true rfl) dX12_sayPrefixed_81 ⟨Nat.zero_le _, Nat.zero_le _⟩ (fun H locs hI => ?_)
    obtain ⟨σ18, v19, g18, hf⟩ := zbi_use hf
    refine z_callSi (As := [.int v17]) (rest := [.ref (ad 0)]) hC hI (cX12_signed_met st l D ad cy σ16 v17 _ g18) (zgS zw50_18 zw50_19 zw1_5 zw50_20) rfl ⟨rfl, rfl⟩ 1 hdX12_signed ⟨Nat.le_of_ble_eq_true rfl, Nat.le_of_ble_eq_true rfl⟩ rfl hl rfl (Nat.le_of_ble_eq_true rfl) dX12_sayPrefixed_84 ⟨Nat.zero_le _, Nat.zero_le _⟩ (fun H locs hI => ?_)
    obtain ⟨σ20, eσ20⟩ : ∃ z, z = zsi σ18 0 43 v19 := ⟨_, rfl⟩
    replace hf := zbv_use eσ20 hf
    refine z_put hC hI hinX12_sayPrefixed_X120 tyX12_ok nmX12 0 (wM_e0 ad cy σ18) rfl 43 (by decide) (List.mem_cons_of_mem _ zw74_22) rfl rfl rfl (Nat.le_of_ble_eq_true rfl) ((wM_s0_43 ad cy σ18 v19).trans (congrArg (wM ad cy) eσ20.symm)) dX12_sayPrefixed_87 (fun H locs hI => ?_)
    refine lv_aload_n hx hb dX12_sayPrefixed_90 rfl (lv_at hl 4 rfl) ?_
    refine lv_iconst (v := 1) hx hb dX12_sayPrefixed_91 (by decide) ?_
    obtain ⟨q, hf⟩ := zck_use hf
    obtain ⟨σ21, eσ21⟩ : ∃ z, z = zsi σ20 0 42 1 := ⟨_, rfl⟩
    replace hf := zbv_use eσ21 hf
    refine z_put hC hI hinX12_sayPrefixed_X120 tyX12_ok nmX12 0 (wM_e0 ad cy σ20) rfl 42 (by decide) (List.mem_cons_of_mem _ zw74_13) rfl (zbo_n q) (zbo_f q) (Nat.le_of_ble_eq_true rfl) ((wM_s0_42 ad cy σ20 1).trans (congrArg (wM ad cy) eσ21.symm)) dX12_sayPrefixed_92 (fun H locs hI => ?_)
    refine lv_aload_n hx hb dX12_sayPrefixed_95 rfl (lv_at hl 4 rfl) ?_
    obtain ⟨σ22, v23, g22, hf⟩ := zbi_use hf
    refine z_callVi (As := []) (rest := []) hC hI (cX12_taken_met st l D ad cy σ21  _ g22) (zgV zw74_14 zw74_15 zw74_16 zw1_5 zw74_17) rfl ⟨rfl, rfl⟩ 0 hdX12_taken ⟨Nat.le_of_ble_eq_true rfl, Nat.le_of_ble_eq_true rfl⟩ rfl rfl (wM_e0 ad cy σ21) rfl hl rfl (Nat.le_of_ble_eq_true rfl) dX12_sayPrefixed_96 ⟨Nat.zero_le _, Nat.zero_le _⟩ (fun H locs hI => ?_)
    refine lv_istore (lv' := [(6, .int v23), (5, .int v15), (4, .int v14), (3, .int v13), (2, .int v10), (0, .ref (ad 0)), (1, .int x1)]) hx hb dX12_sayPrefixed_99 hl (by decide) rfl (fun ls hl => ?_)
    refine lv_aload_n hx hb dX12_sayPrefixed_101 rfl (lv_at hl 5 rfl) ?_
    refine lv_iload hx hb dX12_sayPrefixed_102 (lv_at hl 0 rfl) ?_
    refine lv_sipush (v := 248) hx hb dX12_sayPrefixed_104 (by decide) ?_
    refine lv_iand hx hb dX12_sayPrefixed_107 ?_
    refine lv_bipush (v := 6) hx hb dX12_sayPrefixed_108 (by decide) ?_
    refine lv_ior hx hb dX12_sayPrefixed_110 ?_
    obtain ⟨σ24, g24, hf⟩ := zbu_use hf
    refine z_callVu (As := [.int ((v23 &&& 248) ||| 6)]) (rest := []) hC hI (cX12_sayTurn_met st l D ad cy σ22 ((v23 &&& 248) ||| 6) _ g24) (zgV zw75_4 zw75_5 zw75_6 zw1_5 zw75_7) rfl ⟨rfl, rfl⟩ 1 hdX12_sayTurn ⟨Nat.le_of_ble_eq_true rfl, Nat.le_of_ble_eq_true rfl⟩ rfl rfl (wM_e0 ad cy σ22) rfl hl rfl (Nat.le_of_ble_eq_true rfl) dX12_sayPrefixed_111 ⟨Nat.zero_le _, Nat.zero_le _⟩ (fun H locs hI => ?_)
    refine lv_iload hx hb dX12_sayPrefixed_114 (lv_at hl 0 rfl) ?_
    refine lv_bipush (v := 6) hx hb dX12_sayPrefixed_116 (by decide) ?_
    refine lv_ishr hx hb dX12_sayPrefixed_118 ?_
    refine lv_iconst (v := 1) hx hb dX12_sayPrefixed_119 (by decide) ?_
    refine lv_icmp_eq (tgt := 133) hx hb dX12_sayPrefixed_120 (by decide) (fun q => ?_) (fun q => ?_)
    · replace hf := zif_t q hf
      exact bX12_sayPrefixed_133 hC  hI (lv_sub hl [] rfl) hf
    replace hf := zif_f q hf
    refine lv_iload hx hb dX12_sayPrefixed_123 (lv_at hl 0 rfl) ?_
    refine lv_bipush (v := 8) hx hb dX12_sayPrefixed_125 (by decide) ?_
    obtain ⟨q, hf⟩ := zck_use hf
    refine z_irem hx hb dX12_sayPrefixed_127 (of_decide_eq_true q) ?_
    refine lv_bipush (v := 6) hx hb dX12_sayPrefixed_128 (by decide) ?_
    refine lv_icmp_ne (tgt := 134) hx hb dX12_sayPrefixed_130 (by decide) (fun q => ?_) (fun q => ?_)
    · replace hf := zif_f q hf
      refine lv_aload_n hx hb dX12_sayPrefixed_134 rfl (lv_at hl 5 rfl) ?_
      refine z_ldcSW hC hI 83 (by decide) rfl rfl dX12_sayPrefixed_135 ?_
      obtain ⟨σ25, g25, hf⟩ := zbu_use hf
      refine z_callVu (As := [.ref (st (100 + 83))]) (rest := []) hC hI (cX12_say_met st l D ad cy σ24 83 _ g25) (zgV zw74_23 zw75_0 zw75_1 zw1_5 zw75_2) rfl ⟨rfl, rfl⟩ 1 hdX12_say ⟨Nat.le_of_ble_eq_true rfl, Nat.le_of_ble_eq_true rfl⟩ rfl rfl (wM_e0 ad cy σ24) rfl hl rfl (Nat.le_of_ble_eq_true rfl) dX12_sayPrefixed_138 ⟨Nat.zero_le _, Nat.zero_le _⟩ (fun H locs hI => ?_)
      refine lv_aload_n hx hb dX12_sayPrefixed_141 rfl (lv_at hl 5 rfl) ?_
      refine lv_iload hx hb dX12_sayPrefixed_142 (lv_at hl 0 rfl) ?_
      refine lv_bipush (v := 8) hx hb dX12_sayPrefixed_144 (by decide) ?_
      obtain ⟨q, hf⟩ := zck_use hf
      refine z_irem hx hb dX12_sayPrefixed_146 (of_decide_eq_true q) ?_
      obtain ⟨σ26, g26, hf⟩ := zbu_use hf
      refine z_callVu (As := [.int (zrem v23 8)]) (rest := []) hC hI (cX12_sayR_met st l D ad cy σ25 (zrem v23 8) _ g26) (zgV zw75_12 zw75_13 zw75_14 zw1_5 zw75_15) rfl ⟨rfl, rfl⟩ 1 hdX12_sayR ⟨Nat.le_of_ble_eq_true rfl, Nat.le_of_ble_eq_true rfl⟩ rfl rfl (wM_e0 ad cy σ25) rfl hl rfl (Nat.le_of_ble_eq_true rfl) dX12_sayPrefixed_147 ⟨Nat.zero_le _, Nat.zero_le _⟩ (fun H locs hI => ?_)
      exact z_return hC hI hf dX12_sayPrefixed_150
    replace hf := zif_t q hf
    exact bX12_sayPrefixed_133 hC  hI (lv_sub hl [] rfl) hf
  replace hf := zif_t q hf
  exact bX12_sayPrefixed_30 hC  hI (lv_sub hl [1] rfl) hf
set_option maxRecDepth 20000 in
theorem cX12_sayPrefixed_met (st : Nat → Nat) (l : Launch) (D : va_G) (ad : Nat → Nat) (cy : Nat → ClassId) (σ : zSt) (x1 : Int32) (res : zSt) (hf : fX12_sayPrefixed σ x1 = some res) (sz : Nat) : zMu st l yX12_sayPrefixed wzX12_sayPrefixed rmX12_sayPrefixed [.ref (ad 0), .int x1] D (tM cy) (wM ad cy) sz σ res :=
  zMu.of (cc := cX12_sayPrefixed) (maxL := 7) (ret := none) (by decide) rfl (Nat.le_of_ble_eq_true rfl) (fun p e s m args below meth c hC A hI ls hl => bX12_sayPrefixed hC hI hl hf)
theorem hdX12_sayPrefixed : yX12_sayPrefixed.cls = RX12 ∧ yX12_sayPrefixed.cls ≠ "java/lang/invoke/MethodHandle" ∧ yX12_sayPrefixed.cls ≠ "java/lang/invoke/VarHandle" ∧ (parseMethodDescriptor yX12_sayPrefixed.desc).map (fun d => d.parameters.length) = some 1 := by decide +kernel
noncomputable def rmX12_sayOdd : Room := { frames := 5, cells := 0, slots := 0, locals := 139 }
noncomputable def wzX12_sayOdd : List Cond := .code yX12_sayOdd cX12_sayOdd 3 none :: wsL_law
noncomputable def fX12_sayOdd_155  (σ : zSt)  : Option (zSt) :=
  some σ
noncomputable def fX12_sayOdd_35  (σ : zSt) (s0 : Nat) : Option (zSt) :=
  zbu (fX12_say σ s0) (fun σ1 =>
  fX12_sayOdd_155 σ1)
noncomputable def fX12_sayOdd_77  (σ : zSt) (s0 : Nat) : Option (zSt) :=
  zbu (fX12_say σ s0) (fun σ2 =>
  fX12_sayOdd_155 σ2)
noncomputable def fX12_sayOdd_152  (σ : zSt) (s0 : Nat) : Option (zSt) :=
  zbu (fX12_say σ s0) (fun σ3 =>
  fX12_sayOdd_155 σ3)
noncomputable def fX12_sayOdd  (σ : zSt) (x1 : Int32) (x2 : Int32) : Option (zSt) :=
  if x2 = 4 then zbu (fX12_say σ 167) (fun σ4 =>
  fX12_sayOdd_155 σ4) else
  if x2 = 5 then if x1 = 1 then fX12_sayOdd_35 σ 168 else
  fX12_sayOdd_35 σ 169 else
  if x2 = 6 then zck (decide (¬ 4 = 0)) (
  if 2 ≤ (zrem x1 4) then zck (decide (¬ 4 = 0)) (
  if (zrem x1 4) = 2 then fX12_sayOdd_77 σ 171 else
  fX12_sayOdd_77 σ 172) else
  fX12_sayOdd_77 σ 170) else
  if x1 = 0 then fX12_sayOdd_152 σ 173 else
  if x1 = 1 then fX12_sayOdd_152 σ 174 else
  if x1 = 2 then fX12_sayOdd_152 σ 175 else
  if x1 = 3 then fX12_sayOdd_152 σ 176 else
  if x1 = 4 then fX12_sayOdd_152 σ 177 else
  if x1 = 5 then fX12_sayOdd_152 σ 178 else
  fX12_sayOdd_152 σ 71
set_option maxRecDepth 20000 in
set_option maxHeartbeats 4000000 in
theorem bX12_sayOdd_155 {st : Nat → Nat} {p : Program} {l : Launch} {e : Env} {s : State} {m : MethodId} {args : Array Value} {below : List Frame} {meth : Method} {c : Code} {D : va_G} {A : Nat → Prop} {ad : Nat → Nat} {cy : Nat → ClassId} (hC : zC p m c cX12_sayOdd 3 s args wzX12_sayOdd RX12 meth none)  {res : zSt} {H : Heap} {locs : List Loc} {σ : zSt} {ls : Array Slot}  (hI : zI st D (tM cy) (wM ad cy σ) A s H locs) (hl : lv_has ls 3 []) (hf : fX12_sayOdd_155  σ  = some res) : W p l e rmX12_sayOdd s m args below meth c H locs 0 0 (zQu below args s D (tM cy) (wM ad cy) A res) (F0 m 155 ls []) := by
  have hx := hC.1
  have hb := hC.2.1
  unfold fX12_sayOdd_155 at hf
  exact z_return hC hI hf dX12_sayOdd_155
set_option maxRecDepth 20000 in
set_option maxHeartbeats 4000000 in
theorem bX12_sayOdd_35 {st : Nat → Nat} {p : Program} {l : Launch} {e : Env} {s : State} {m : MethodId} {args : Array Value} {below : List Frame} {meth : Method} {c : Code} {D : va_G} {A : Nat → Prop} {ad : Nat → Nat} {cy : Nat → ClassId} (hC : zC p m c cX12_sayOdd 3 s args wzX12_sayOdd RX12 meth none)  {res : zSt} {H : Heap} {locs : List Loc} {σ : zSt} {ls : Array Slot} {s0 : Nat} (hI : zI st D (tM cy) (wM ad cy σ) A s H locs) (hl : lv_has ls 3 []) (hf : fX12_sayOdd_35  σ s0 = some res) : W p l e rmX12_sayOdd s m args below meth c H locs 0 0 (zQu below args s D (tM cy) (wM ad cy) A res) (F0 m 35 ls [.ref (st (100 + s0)), .ref (ad 0)]) := by
  have hx := hC.1
  have hb := hC.2.1
  unfold fX12_sayOdd_35 at hf
  obtain ⟨σ1, g1, hf⟩ := zbu_use hf
  refine z_callVu (As := [.ref (st (100 + s0))]) (rest := []) hC hI (cX12_say_met st l D ad cy σ s0 _ g1) (zgV zw74_23 zw75_0 zw75_1 zw1_5 zw75_2) rfl ⟨rfl, rfl⟩ 1 hdX12_say ⟨Nat.le_of_ble_eq_true rfl, Nat.le_of_ble_eq_true rfl⟩ rfl rfl (wM_e0 ad cy σ) rfl hl rfl (Nat.le_of_ble_eq_true rfl) dX12_sayOdd_35 ⟨Nat.zero_le _, Nat.zero_le _⟩ (fun H locs hI => ?_)
  refine lv_goto (tgt := 155) hx hb dX12_sayOdd_38 (by decide) ?_
  exact bX12_sayOdd_155 hC  hI hl hf
set_option maxRecDepth 20000 in
set_option maxHeartbeats 4000000 in
theorem bX12_sayOdd_77 {st : Nat → Nat} {p : Program} {l : Launch} {e : Env} {s : State} {m : MethodId} {args : Array Value} {below : List Frame} {meth : Method} {c : Code} {D : va_G} {A : Nat → Prop} {ad : Nat → Nat} {cy : Nat → ClassId} (hC : zC p m c cX12_sayOdd 3 s args wzX12_sayOdd RX12 meth none)  {res : zSt} {H : Heap} {locs : List Loc} {σ : zSt} {ls : Array Slot} {s0 : Nat} (hI : zI st D (tM cy) (wM ad cy σ) A s H locs) (hl : lv_has ls 3 []) (hf : fX12_sayOdd_77  σ s0 = some res) : W p l e rmX12_sayOdd s m args below meth c H locs 0 0 (zQu below args s D (tM cy) (wM ad cy) A res) (F0 m 77 ls [.ref (st (100 + s0)), .ref (ad 0)]) := by
  have hx := hC.1
  have hb := hC.2.1
  unfold fX12_sayOdd_77 at hf
  obtain ⟨σ2, g2, hf⟩ := zbu_use hf
  refine z_callVu (As := [.ref (st (100 + s0))]) (rest := []) hC hI (cX12_say_met st l D ad cy σ s0 _ g2) (zgV zw74_23 zw75_0 zw75_1 zw1_5 zw75_2) rfl ⟨rfl, rfl⟩ 1 hdX12_say ⟨Nat.le_of_ble_eq_true rfl, Nat.le_of_ble_eq_true rfl⟩ rfl rfl (wM_e0 ad cy σ) rfl hl rfl (Nat.le_of_ble_eq_true rfl) dX12_sayOdd_77 ⟨Nat.zero_le _, Nat.zero_le _⟩ (fun H locs hI => ?_)
  refine lv_goto (tgt := 155) hx hb dX12_sayOdd_80 (by decide) ?_
  exact bX12_sayOdd_155 hC  hI hl hf
set_option maxRecDepth 20000 in
set_option maxHeartbeats 4000000 in
theorem bX12_sayOdd_152 {st : Nat → Nat} {p : Program} {l : Launch} {e : Env} {s : State} {m : MethodId} {args : Array Value} {below : List Frame} {meth : Method} {c : Code} {D : va_G} {A : Nat → Prop} {ad : Nat → Nat} {cy : Nat → ClassId} (hC : zC p m c cX12_sayOdd 3 s args wzX12_sayOdd RX12 meth none)  {res : zSt} {H : Heap} {locs : List Loc} {σ : zSt} {ls : Array Slot} {s0 : Nat} (hI : zI st D (tM cy) (wM ad cy σ) A s H locs) (hl : lv_has ls 3 []) (hf : fX12_sayOdd_152  σ s0 = some res) : W p l e rmX12_sayOdd s m args below meth c H locs 0 0 (zQu below args s D (tM cy) (wM ad cy) A res) (F0 m 152 ls [.ref (st (100 + s0)), .ref (ad 0)]) := by
  have hx := hC.1
  have hb := hC.2.1
  unfold fX12_sayOdd_152 at hf
  obtain ⟨σ3, g3, hf⟩ := zbu_use hf
  refine z_callVu (As := [.ref (st (100 + s0))]) (rest := []) hC hI (cX12_say_met st l D ad cy σ s0 _ g3) (zgV zw74_23 zw75_0 zw75_1 zw1_5 zw75_2) rfl ⟨rfl, rfl⟩ 1 hdX12_say ⟨Nat.le_of_ble_eq_true rfl, Nat.le_of_ble_eq_true rfl⟩ rfl rfl (wM_e0 ad cy σ) rfl hl rfl (Nat.le_of_ble_eq_true rfl) dX12_sayOdd_152 ⟨Nat.zero_le _, Nat.zero_le _⟩ (fun H locs hI => ?_)
  exact bX12_sayOdd_155 hC  hI hl hf
set_option maxRecDepth 20000 in
set_option maxHeartbeats 4000000 in
theorem bX12_sayOdd {st : Nat → Nat} {p : Program} {l : Launch} {e : Env} {s : State} {m : MethodId} {args : Array Value} {below : List Frame} {meth : Method} {c : Code} {D : va_G} {A : Nat → Prop} {ad : Nat → Nat} {cy : Nat → ClassId} (hC : zC p m c cX12_sayOdd 3 s args wzX12_sayOdd RX12 meth none)  {res : zSt} {H : Heap} {locs : List Loc} {σ : zSt} {ls : Array Slot} {x1 : Int32} {x2 : Int32} (hI : zI st D (tM cy) (wM ad cy σ) A s H locs) (hl : lv_has ls 3 [(0, .ref (ad 0)), (1, .int x1), (2, .int x2)]) (hf : fX12_sayOdd  σ x1 x2 = some res) : W p l e rmX12_sayOdd s m args below meth c H locs 0 0 (zQu below args s D (tM cy) (wM ad cy) A res) (F0 m 0 ls []) := by
  have hx := hC.1
  have hb := hC.2.1
  unfold fX12_sayOdd at hf
  refine lv_iload_n hx hb dX12_sayOdd_0 rfl (lv_at hl 2 rfl) ?_
  refine lv_iconst (v := 4) hx hb dX12_sayOdd_1 (by decide) ?_
  refine lv_icmp_ne (tgt := 15) hx hb dX12_sayOdd_2 (by decide) (fun q => ?_) (fun q => ?_)
  · replace hf := zif_f q hf
    refine lv_iload_n hx hb dX12_sayOdd_15 rfl (lv_at hl 2 rfl) ?_
    refine lv_iconst (v := 5) hx hb dX12_sayOdd_16 (by decide) ?_
    refine lv_icmp_ne (tgt := 41) hx hb dX12_sayOdd_17 (by decide) (fun q => ?_) (fun q => ?_)
    · replace hf := zif_f q hf
      refine lv_iload_n hx hb dX12_sayOdd_41 rfl (lv_at hl 2 rfl) ?_
      refine lv_bipush (v := 6) hx hb dX12_sayOdd_42 (by decide) ?_
      refine lv_icmp_ne (tgt := 83) hx hb dX12_sayOdd_44 (by decide) (fun q => ?_) (fun q => ?_)
      · replace hf := zif_f q hf
        refine lv_aload_n hx hb dX12_sayOdd_83 rfl (lv_at hl 0 rfl) ?_
        refine lv_iload_n hx hb dX12_sayOdd_84 rfl (lv_at hl 1 rfl) ?_
        refine lv_if_ne (tgt := 94) hx hb dX12_sayOdd_85 (by decide) (fun q => ?_) (fun q => ?_)
        · replace hf := zif_f q hf
          refine lv_iload_n hx hb dX12_sayOdd_94 rfl (lv_at hl 1 rfl) ?_
          refine lv_iconst (v := 1) hx hb dX12_sayOdd_95 (by decide) ?_
          refine lv_icmp_ne (tgt := 105) hx hb dX12_sayOdd_96 (by decide) (fun q => ?_) (fun q => ?_)
          · replace hf := zif_f q hf
            refine lv_iload_n hx hb dX12_sayOdd_105 rfl (lv_at hl 1 rfl) ?_
            refine lv_iconst (v := 2) hx hb dX12_sayOdd_106 (by decide) ?_
            refine lv_icmp_ne (tgt := 116) hx hb dX12_sayOdd_107 (by decide) (fun q => ?_) (fun q => ?_)
            · replace hf := zif_f q hf
              refine lv_iload_n hx hb dX12_sayOdd_116 rfl (lv_at hl 1 rfl) ?_
              refine lv_iconst (v := 3) hx hb dX12_sayOdd_117 (by decide) ?_
              refine lv_icmp_ne (tgt := 127) hx hb dX12_sayOdd_118 (by decide) (fun q => ?_) (fun q => ?_)
              · replace hf := zif_f q hf
                refine lv_iload_n hx hb dX12_sayOdd_127 rfl (lv_at hl 1 rfl) ?_
                refine lv_iconst (v := 4) hx hb dX12_sayOdd_128 (by decide) ?_
                refine lv_icmp_ne (tgt := 138) hx hb dX12_sayOdd_129 (by decide) (fun q => ?_) (fun q => ?_)
                · replace hf := zif_f q hf
                  refine lv_iload_n hx hb dX12_sayOdd_138 rfl (lv_at hl 1 rfl) ?_
                  refine lv_iconst (v := 5) hx hb dX12_sayOdd_139 (by decide) ?_
                  refine lv_icmp_ne (tgt := 149) hx hb dX12_sayOdd_140 (by decide) (fun q => ?_) (fun q => ?_)
                  · replace hf := zif_f q hf
                    refine z_ldcSW hC hI 71 (by decide) rfl rfl dX12_sayOdd_149 ?_
                    exact bX12_sayOdd_152 hC  hI (lv_sub hl [] rfl) hf
                  replace hf := zif_t q hf
                  refine z_ldcSW hC hI 178 (by decide) rfl rfl dX12_sayOdd_143 ?_
                  refine lv_goto (tgt := 152) hx hb dX12_sayOdd_146 (by decide) ?_
                  exact bX12_sayOdd_152 hC  hI (lv_sub hl [] rfl) hf
                replace hf := zif_t q hf
                refine z_ldcSW hC hI 177 (by decide) rfl rfl dX12_sayOdd_132 ?_
                refine lv_goto (tgt := 152) hx hb dX12_sayOdd_135 (by decide) ?_
                exact bX12_sayOdd_152 hC  hI (lv_sub hl [] rfl) hf
              replace hf := zif_t q hf
              refine z_ldcSW hC hI 176 (by decide) rfl rfl dX12_sayOdd_121 ?_
              refine lv_goto (tgt := 152) hx hb dX12_sayOdd_124 (by decide) ?_
              exact bX12_sayOdd_152 hC  hI (lv_sub hl [] rfl) hf
            replace hf := zif_t q hf
            refine z_ldcSW hC hI 175 (by decide) rfl rfl dX12_sayOdd_110 ?_
            refine lv_goto (tgt := 152) hx hb dX12_sayOdd_113 (by decide) ?_
            exact bX12_sayOdd_152 hC  hI (lv_sub hl [] rfl) hf
          replace hf := zif_t q hf
          refine z_ldcSW hC hI 174 (by decide) rfl rfl dX12_sayOdd_99 ?_
          refine lv_goto (tgt := 152) hx hb dX12_sayOdd_102 (by decide) ?_
          exact bX12_sayOdd_152 hC  hI (lv_sub hl [] rfl) hf
        replace hf := zif_t q hf
        refine z_ldcSW hC hI 173 (by decide) rfl rfl dX12_sayOdd_88 ?_
        refine lv_goto (tgt := 152) hx hb dX12_sayOdd_91 (by decide) ?_
        exact bX12_sayOdd_152 hC  hI (lv_sub hl [] rfl) hf
      replace hf := zif_t q hf
      refine lv_aload_n hx hb dX12_sayOdd_47 rfl (lv_at hl 0 rfl) ?_
      refine lv_iload_n hx hb dX12_sayOdd_48 rfl (lv_at hl 1 rfl) ?_
      refine lv_iconst (v := 4) hx hb dX12_sayOdd_49 (by decide) ?_
      obtain ⟨q, hf⟩ := zck_use hf
      refine z_irem hx hb dX12_sayOdd_50 (of_decide_eq_true q) ?_
      refine lv_iconst (v := 2) hx hb dX12_sayOdd_51 (by decide) ?_
      refine lv_icmp_ge (tgt := 61) hx hb dX12_sayOdd_52 (by decide) (fun q => ?_) (fun q => ?_)
      · replace hf := zif_t q hf
        refine lv_iload_n hx hb dX12_sayOdd_61 rfl (lv_at hl 1 rfl) ?_
        refine lv_iconst (v := 4) hx hb dX12_sayOdd_62 (by decide) ?_
        obtain ⟨q, hf⟩ := zck_use hf
        refine z_irem hx hb dX12_sayOdd_63 (of_decide_eq_true q) ?_
        refine lv_iconst (v := 2) hx hb dX12_sayOdd_64 (by decide) ?_
        refine lv_icmp_ne (tgt := 74) hx hb dX12_sayOdd_65 (by decide) (fun q => ?_) (fun q => ?_)
        · replace hf := zif_f q hf
          refine z_ldcSW hC hI 172 (by decide) rfl rfl dX12_sayOdd_74 ?_
          exact bX12_sayOdd_77 hC  hI (lv_sub hl [] rfl) hf
        replace hf := zif_t q hf
        refine z_ldcSW hC hI 171 (by decide) rfl rfl dX12_sayOdd_68 ?_
        refine lv_goto (tgt := 77) hx hb dX12_sayOdd_71 (by decide) ?_
        exact bX12_sayOdd_77 hC  hI (lv_sub hl [] rfl) hf
      replace hf := zif_f q hf
      refine z_ldcSW hC hI 170 (by decide) rfl rfl dX12_sayOdd_55 ?_
      refine lv_goto (tgt := 77) hx hb dX12_sayOdd_58 (by decide) ?_
      exact bX12_sayOdd_77 hC  hI (lv_sub hl [] rfl) hf
    replace hf := zif_t q hf
    refine lv_aload_n hx hb dX12_sayOdd_20 rfl (lv_at hl 0 rfl) ?_
    refine lv_iload_n hx hb dX12_sayOdd_21 rfl (lv_at hl 1 rfl) ?_
    refine lv_iconst (v := 1) hx hb dX12_sayOdd_22 (by decide) ?_
    refine lv_icmp_ne (tgt := 32) hx hb dX12_sayOdd_23 (by decide) (fun q => ?_) (fun q => ?_)
    · replace hf := zif_f q hf
      refine z_ldcSW hC hI 169 (by decide) rfl rfl dX12_sayOdd_32 ?_
      exact bX12_sayOdd_35 hC  hI (lv_sub hl [] rfl) hf
    replace hf := zif_t q hf
    refine z_ldcSW hC hI 168 (by decide) rfl rfl dX12_sayOdd_26 ?_
    refine lv_goto (tgt := 35) hx hb dX12_sayOdd_29 (by decide) ?_
    exact bX12_sayOdd_35 hC  hI (lv_sub hl [] rfl) hf
  replace hf := zif_t q hf
  refine lv_aload_n hx hb dX12_sayOdd_5 rfl (lv_at hl 0 rfl) ?_
  refine z_ldcSW hC hI 167 (by decide) rfl rfl dX12_sayOdd_6 ?_
  obtain ⟨σ4, g4, hf⟩ := zbu_use hf
  refine z_callVu (As := [.ref (st (100 + 167))]) (rest := []) hC hI (cX12_say_met st l D ad cy σ 167 _ g4) (zgV zw74_23 zw75_0 zw75_1 zw1_5 zw75_2) rfl ⟨rfl, rfl⟩ 1 hdX12_say ⟨Nat.le_of_ble_eq_true rfl, Nat.le_of_ble_eq_true rfl⟩ rfl rfl (wM_e0 ad cy σ) rfl hl rfl (Nat.le_of_ble_eq_true rfl) dX12_sayOdd_9 ⟨Nat.zero_le _, Nat.zero_le _⟩ (fun H locs hI => ?_)
  refine lv_goto (tgt := 155) hx hb dX12_sayOdd_12 (by decide) ?_
  exact bX12_sayOdd_155 hC  hI (lv_sub hl [] rfl) hf
set_option maxRecDepth 20000 in
theorem cX12_sayOdd_met (st : Nat → Nat) (l : Launch) (D : va_G) (ad : Nat → Nat) (cy : Nat → ClassId) (σ : zSt) (x1 : Int32) (x2 : Int32) (res : zSt) (hf : fX12_sayOdd σ x1 x2 = some res) (sz : Nat) : zMu st l yX12_sayOdd wzX12_sayOdd rmX12_sayOdd [.ref (ad 0), .int x1, .int x2] D (tM cy) (wM ad cy) sz σ res :=
  zMu.of (cc := cX12_sayOdd) (maxL := 3) (ret := none) (by decide) rfl (Nat.le_of_ble_eq_true rfl) (fun p e s m args below meth c hC A hI ls hl => bX12_sayOdd hC hI hl hf)
theorem hdX12_sayOdd : yX12_sayOdd.cls = RX12 ∧ yX12_sayOdd.cls ≠ "java/lang/invoke/MethodHandle" ∧ yX12_sayOdd.cls ≠ "java/lang/invoke/VarHandle" ∧ (parseMethodDescriptor yX12_sayOdd.desc).map (fun d => d.parameters.length) = some 2 := by decide +kernel
end ZJN1
section ZJN2
noncomputable def kn_cX12_tell : Nat := 0xac641c2102b42a8c02b61d2a0800a78902b62402b62a2a0e00a0ed00111d1a00a78602b62402b62a2a0e00a0cb00111d2c00a78302b6050400a7040700a0dd00111d2a1600a0fd00111d0a009fdd00111d3e2402b62a3d2102b42a3302b5032a2702b5032a2102b57e8f121b2aca01b5032a6900b5032a
theorem zk_cX12_tell : zkd cX12_tell.data.toList kn_cX12_tell = true := by decide +kernel
theorem zn_cX12_tell : cX12_tell.data.toList.length = 119 := by decide +kernel
theorem dX12_tell_0 : decode cX12_tell 0 = .ok (.aload_n 0, 1) := zo_42 (zkb zk_cX12_tell zn_cX12_tell rfl)
theorem dX12_tell_1 : decode cX12_tell 1 = .ok (.iconst 0, 1) := zo_3 (zkb zk_cX12_tell zn_cX12_tell rfl)
theorem dX12_tell_2 : decode cX12_tell 2 = .ok (.putfield 105, 3) := zo_181 (b1 := 0) (b2 := 105) (zkb3 zk_cX12_tell zn_cX12_tell rfl) rfl
theorem dX12_tell_5 : decode cX12_tell 5 = .ok (.aload_n 0, 1) := zo_42 (zkb zk_cX12_tell zn_cX12_tell rfl)
theorem dX12_tell_6 : decode cX12_tell 6 = .ok (.iconst 0, 1) := zo_3 (zkb zk_cX12_tell zn_cX12_tell rfl)
theorem dX12_tell_7 : decode cX12_tell 7 = .ok (.putfield 458, 3) := zo_181 (b1 := 1) (b2 := 202) (zkb3 zk_cX12_tell zn_cX12_tell rfl) rfl
theorem dX12_tell_10 : decode cX12_tell 10 = .ok (.aload_n 0, 1) := zo_42 (zkb zk_cX12_tell zn_cX12_tell rfl)
theorem dX12_tell_11 : decode cX12_tell 11 = .ok (.iload_n 1, 1) := zo_27 (zkb zk_cX12_tell zn_cX12_tell rfl)
theorem dX12_tell_12 : decode cX12_tell 12 = .ok (.ldc 143, 2) := zo_18 (b1 := 143) (zkb2 zk_cX12_tell zn_cX12_tell rfl)
theorem dX12_tell_14 : decode cX12_tell 14 = .ok (.iand, 1) := zo_126 (zkb zk_cX12_tell zn_cX12_tell rfl)
theorem dX12_tell_15 : decode cX12_tell 15 = .ok (.putfield 545, 3) := zo_181 (b1 := 2) (b2 := 33) (zkb3 zk_cX12_tell zn_cX12_tell rfl) rfl
theorem dX12_tell_18 : decode cX12_tell 18 = .ok (.aload_n 0, 1) := zo_42 (zkb zk_cX12_tell zn_cX12_tell rfl)
theorem dX12_tell_19 : decode cX12_tell 19 = .ok (.iconst 0, 1) := zo_3 (zkb zk_cX12_tell zn_cX12_tell rfl)
theorem dX12_tell_20 : decode cX12_tell 20 = .ok (.putfield 551, 3) := zo_181 (b1 := 2) (b2 := 39) (zkb3 zk_cX12_tell zn_cX12_tell rfl) rfl
theorem dX12_tell_23 : decode cX12_tell 23 = .ok (.aload_n 0, 1) := zo_42 (zkb zk_cX12_tell zn_cX12_tell rfl)
theorem dX12_tell_24 : decode cX12_tell 24 = .ok (.iconst 0, 1) := zo_3 (zkb zk_cX12_tell zn_cX12_tell rfl)
theorem dX12_tell_25 : decode cX12_tell 25 = .ok (.putfield 563, 3) := zo_181 (b1 := 2) (b2 := 51) (zkb3 zk_cX12_tell zn_cX12_tell rfl) rfl
theorem dX12_tell_28 : decode cX12_tell 28 = .ok (.aload_n 0, 1) := zo_42 (zkb zk_cX12_tell zn_cX12_tell rfl)
theorem dX12_tell_29 : decode cX12_tell 29 = .ok (.getfield 545, 3) := zo_180 (b1 := 2) (b2 := 33) (zkb3 zk_cX12_tell zn_cX12_tell rfl) rfl
theorem dX12_tell_32 : decode cX12_tell 32 = .ok (.istore_n 2, 1) := zo_61 (zkb zk_cX12_tell zn_cX12_tell rfl)
theorem dX12_tell_33 : decode cX12_tell 33 = .ok (.aload_n 0, 1) := zo_42 (zkb zk_cX12_tell zn_cX12_tell rfl)
theorem dX12_tell_34 : decode cX12_tell 34 = .ok (.invokevirtual 548, 3) := zo_182 (b1 := 2) (b2 := 36) (zkb3 zk_cX12_tell zn_cX12_tell rfl) rfl
theorem dX12_tell_37 : decode cX12_tell 37 = .ok (.istore_n 3, 1) := zo_62 (zkb zk_cX12_tell zn_cX12_tell rfl)
theorem dX12_tell_38 : decode cX12_tell 38 = .ok (.iload_n 3, 1) := zo_29 (zkb zk_cX12_tell zn_cX12_tell rfl)
theorem dX12_tell_39 : decode cX12_tell 39 = .ok (.sipush 221, 3) := zo_17 (b1 := 0) (b2 := 221) (zkb3 zk_cX12_tell zn_cX12_tell rfl) rfl
theorem dX12_tell_42 : decode cX12_tell 42 = .ok (.if_icmp .eq 10, 3) := zo_159 (b1 := 0) (b2 := 10) (zkb3 zk_cX12_tell zn_cX12_tell rfl) rfl
theorem dX12_tell_45 : decode cX12_tell 45 = .ok (.iload_n 3, 1) := zo_29 (zkb zk_cX12_tell zn_cX12_tell rfl)
theorem dX12_tell_46 : decode cX12_tell 46 = .ok (.sipush 253, 3) := zo_17 (b1 := 0) (b2 := 253) (zkb3 zk_cX12_tell zn_cX12_tell rfl) rfl
theorem dX12_tell_49 : decode cX12_tell 49 = .ok (.if_icmp .ne 22, 3) := zo_160 (b1 := 0) (b2 := 22) (zkb3 zk_cX12_tell zn_cX12_tell rfl) rfl
theorem dX12_tell_52 : decode cX12_tell 52 = .ok (.aload_n 0, 1) := zo_42 (zkb zk_cX12_tell zn_cX12_tell rfl)
theorem dX12_tell_53 : decode cX12_tell 53 = .ok (.iload_n 3, 1) := zo_29 (zkb zk_cX12_tell zn_cX12_tell rfl)
theorem dX12_tell_54 : decode cX12_tell 54 = .ok (.sipush 221, 3) := zo_17 (b1 := 0) (b2 := 221) (zkb3 zk_cX12_tell zn_cX12_tell rfl) rfl
theorem dX12_tell_57 : decode cX12_tell 57 = .ok (.if_icmp .ne 7, 3) := zo_160 (b1 := 0) (b2 := 7) (zkb3 zk_cX12_tell zn_cX12_tell rfl) rfl
theorem dX12_tell_60 : decode cX12_tell 60 = .ok (.iconst 1, 1) := zo_4 (zkb zk_cX12_tell zn_cX12_tell rfl)
theorem dX12_tell_61 : decode cX12_tell 61 = .ok (.goto 4, 3) := zo_167 (b1 := 0) (b2 := 4) (zkb3 zk_cX12_tell zn_cX12_tell rfl) rfl
theorem dX12_tell_64 : decode cX12_tell 64 = .ok (.iconst 2, 1) := zo_5 (zkb zk_cX12_tell zn_cX12_tell rfl)
theorem dX12_tell_65 : decode cX12_tell 65 = .ok (.invokevirtual 643, 3) := zo_182 (b1 := 2) (b2 := 131) (zkb3 zk_cX12_tell zn_cX12_tell rfl) rfl
theorem dX12_tell_68 : decode cX12_tell 68 = .ok (.goto 44, 3) := zo_167 (b1 := 0) (b2 := 44) (zkb3 zk_cX12_tell zn_cX12_tell rfl) rfl
theorem dX12_tell_71 : decode cX12_tell 71 = .ok (.iload_n 3, 1) := zo_29 (zkb zk_cX12_tell zn_cX12_tell rfl)
theorem dX12_tell_72 : decode cX12_tell 72 = .ok (.sipush 203, 3) := zo_17 (b1 := 0) (b2 := 203) (zkb3 zk_cX12_tell zn_cX12_tell rfl) rfl
theorem dX12_tell_75 : decode cX12_tell 75 = .ok (.if_icmp .ne 14, 3) := zo_160 (b1 := 0) (b2 := 14) (zkb3 zk_cX12_tell zn_cX12_tell rfl) rfl
theorem dX12_tell_78 : decode cX12_tell 78 = .ok (.aload_n 0, 1) := zo_42 (zkb zk_cX12_tell zn_cX12_tell rfl)
theorem dX12_tell_79 : decode cX12_tell 79 = .ok (.aload_n 0, 1) := zo_42 (zkb zk_cX12_tell zn_cX12_tell rfl)
theorem dX12_tell_80 : decode cX12_tell 80 = .ok (.invokevirtual 548, 3) := zo_182 (b1 := 2) (b2 := 36) (zkb3 zk_cX12_tell zn_cX12_tell rfl) rfl
theorem dX12_tell_83 : decode cX12_tell 83 = .ok (.invokevirtual 646, 3) := zo_182 (b1 := 2) (b2 := 134) (zkb3 zk_cX12_tell zn_cX12_tell rfl) rfl
theorem dX12_tell_86 : decode cX12_tell 86 = .ok (.goto 26, 3) := zo_167 (b1 := 0) (b2 := 26) (zkb3 zk_cX12_tell zn_cX12_tell rfl) rfl
theorem dX12_tell_89 : decode cX12_tell 89 = .ok (.iload_n 3, 1) := zo_29 (zkb zk_cX12_tell zn_cX12_tell rfl)
theorem dX12_tell_90 : decode cX12_tell 90 = .ok (.sipush 237, 3) := zo_17 (b1 := 0) (b2 := 237) (zkb3 zk_cX12_tell zn_cX12_tell rfl) rfl
theorem dX12_tell_93 : decode cX12_tell 93 = .ok (.if_icmp .ne 14, 3) := zo_160 (b1 := 0) (b2 := 14) (zkb3 zk_cX12_tell zn_cX12_tell rfl) rfl
theorem dX12_tell_96 : decode cX12_tell 96 = .ok (.aload_n 0, 1) := zo_42 (zkb zk_cX12_tell zn_cX12_tell rfl)
theorem dX12_tell_97 : decode cX12_tell 97 = .ok (.aload_n 0, 1) := zo_42 (zkb zk_cX12_tell zn_cX12_tell rfl)
theorem dX12_tell_98 : decode cX12_tell 98 = .ok (.invokevirtual 548, 3) := zo_182 (b1 := 2) (b2 := 36) (zkb3 zk_cX12_tell zn_cX12_tell rfl) rfl
theorem dX12_tell_101 : decode cX12_tell 101 = .ok (.invokevirtual 649, 3) := zo_182 (b1 := 2) (b2 := 137) (zkb3 zk_cX12_tell zn_cX12_tell rfl) rfl
theorem dX12_tell_104 : decode cX12_tell 104 = .ok (.goto 8, 3) := zo_167 (b1 := 0) (b2 := 8) (zkb3 zk_cX12_tell zn_cX12_tell rfl) rfl
theorem dX12_tell_107 : decode cX12_tell 107 = .ok (.aload_n 0, 1) := zo_42 (zkb zk_cX12_tell zn_cX12_tell rfl)
theorem dX12_tell_108 : decode cX12_tell 108 = .ok (.iload_n 3, 1) := zo_29 (zkb zk_cX12_tell zn_cX12_tell rfl)
theorem dX12_tell_109 : decode cX12_tell 109 = .ok (.invokevirtual 652, 3) := zo_182 (b1 := 2) (b2 := 140) (zkb3 zk_cX12_tell zn_cX12_tell rfl) rfl
theorem dX12_tell_112 : decode cX12_tell 112 = .ok (.aload_n 0, 1) := zo_42 (zkb zk_cX12_tell zn_cX12_tell rfl)
theorem dX12_tell_113 : decode cX12_tell 113 = .ok (.getfield 545, 3) := zo_180 (b1 := 2) (b2 := 33) (zkb3 zk_cX12_tell zn_cX12_tell rfl) rfl
theorem dX12_tell_116 : decode cX12_tell 116 = .ok (.iload_n 2, 1) := zo_28 (zkb zk_cX12_tell zn_cX12_tell rfl)
theorem dX12_tell_117 : decode cX12_tell 117 = .ok (.isub, 1) := zo_100 (zkb zk_cX12_tell zn_cX12_tell rfl)
theorem dX12_tell_118 : decode cX12_tell 118 = .ok (.ireturn, 1) := zo_172 (zkb zk_cX12_tell zn_cX12_tell rfl)
noncomputable def kn_cX12_sayMore : Nat := 0xb12703b61d1c2a0900a7d902b605152a0900a7cb02b6037a041c2a0e009a70051c2f02b69102132acb02b6037a041c2a0b00a7d902b605152a0c009a70051c0536ce02b62a2f02b6b402132a4800a0061d5300a7cb02b6037a041c2a2f02b62503130600a723031309009a70051c2a2100a0051d7600a79302b61c2a7e00a72f02b62103132a0d00a006101c2f02b61f03132a2200a0041d9a00a72f02b61d03132a2f02b69102132a9302b61c2a0f009f06101c2f02b61b03132a26009a1dc100a72f02b68f02132a0d009f040415d100a72f02b61a03132adb00a4081c2f02b65202130600a718031309009a70051c2a2f02b61603130600a71403130900a206101c1200a71203130900a0051d1d00a71003130900a0041d2800a70e031309009a1d2a5800a2071d5d00a4061c6200a005041504367a06101b3e7e07101b3d7e07107a061b
theorem zk_cX12_sayMore : zkd cX12_sayMore.data.toList kn_cX12_sayMore = true := by decide +kernel
theorem zn_cX12_sayMore : cX12_sayMore.data.toList.length = 326 := by decide +kernel
theorem dX12_sayMore_0 : decode cX12_sayMore 0 = .ok (.iload_n 1, 1) := zo_27 (zkb zk_cX12_sayMore zn_cX12_sayMore rfl)
theorem dX12_sayMore_1 : decode cX12_sayMore 1 = .ok (.iconst 3, 1) := zo_6 (zkb zk_cX12_sayMore zn_cX12_sayMore rfl)
theorem dX12_sayMore_2 : decode cX12_sayMore 2 = .ok (.ishr, 1) := zo_122 (zkb zk_cX12_sayMore zn_cX12_sayMore rfl)
theorem dX12_sayMore_3 : decode cX12_sayMore 3 = .ok (.bipush 7, 2) := zo_16 (b1 := 7) (zkb2 zk_cX12_sayMore zn_cX12_sayMore rfl) rfl
theorem dX12_sayMore_5 : decode cX12_sayMore 5 = .ok (.iand, 1) := zo_126 (zkb zk_cX12_sayMore zn_cX12_sayMore rfl)
theorem dX12_sayMore_6 : decode cX12_sayMore 6 = .ok (.istore_n 2, 1) := zo_61 (zkb zk_cX12_sayMore zn_cX12_sayMore rfl)
theorem dX12_sayMore_7 : decode cX12_sayMore 7 = .ok (.iload_n 1, 1) := zo_27 (zkb zk_cX12_sayMore zn_cX12_sayMore rfl)
theorem dX12_sayMore_8 : decode cX12_sayMore 8 = .ok (.bipush 7, 2) := zo_16 (b1 := 7) (zkb2 zk_cX12_sayMore zn_cX12_sayMore rfl) rfl
theorem dX12_sayMore_10 : decode cX12_sayMore 10 = .ok (.iand, 1) := zo_126 (zkb zk_cX12_sayMore zn_cX12_sayMore rfl)
theorem dX12_sayMore_11 : decode cX12_sayMore 11 = .ok (.istore_n 3, 1) := zo_62 (zkb zk_cX12_sayMore zn_cX12_sayMore rfl)
theorem dX12_sayMore_12 : decode cX12_sayMore 12 = .ok (.iload_n 1, 1) := zo_27 (zkb zk_cX12_sayMore zn_cX12_sayMore rfl)
theorem dX12_sayMore_13 : decode cX12_sayMore 13 = .ok (.bipush 6, 2) := zo_16 (b1 := 6) (zkb2 zk_cX12_sayMore zn_cX12_sayMore rfl) rfl
theorem dX12_sayMore_15 : decode cX12_sayMore 15 = .ok (.ishr, 1) := zo_122 (zkb zk_cX12_sayMore zn_cX12_sayMore rfl)
theorem dX12_sayMore_16 : decode cX12_sayMore 16 = .ok (.istore 4, 2) := zo_54 (b1 := 4) (zkb2 zk_cX12_sayMore zn_cX12_sayMore rfl)
theorem dX12_sayMore_18 : decode cX12_sayMore 18 = .ok (.iload 4, 2) := zo_21 (b1 := 4) (zkb2 zk_cX12_sayMore zn_cX12_sayMore rfl)
theorem dX12_sayMore_20 : decode cX12_sayMore 20 = .ok (.iconst 2, 1) := zo_5 (zkb zk_cX12_sayMore zn_cX12_sayMore rfl)
theorem dX12_sayMore_21 : decode cX12_sayMore 21 = .ok (.if_icmp .ne 98, 3) := zo_160 (b1 := 0) (b2 := 98) (zkb3 zk_cX12_sayMore zn_cX12_sayMore rfl) rfl
theorem dX12_sayMore_24 : decode cX12_sayMore 24 = .ok (.iload_n 2, 1) := zo_28 (zkb zk_cX12_sayMore zn_cX12_sayMore rfl)
theorem dX12_sayMore_25 : decode cX12_sayMore 25 = .ok (.iconst 3, 1) := zo_6 (zkb zk_cX12_sayMore zn_cX12_sayMore rfl)
theorem dX12_sayMore_26 : decode cX12_sayMore 26 = .ok (.if_icmp .le 93, 3) := zo_164 (b1 := 0) (b2 := 93) (zkb3 zk_cX12_sayMore zn_cX12_sayMore rfl) rfl
theorem dX12_sayMore_29 : decode cX12_sayMore 29 = .ok (.iload_n 3, 1) := zo_29 (zkb zk_cX12_sayMore zn_cX12_sayMore rfl)
theorem dX12_sayMore_30 : decode cX12_sayMore 30 = .ok (.iconst 4, 1) := zo_7 (zkb zk_cX12_sayMore zn_cX12_sayMore rfl)
theorem dX12_sayMore_31 : decode cX12_sayMore 31 = .ok (.if_icmp .ge 88, 3) := zo_162 (b1 := 0) (b2 := 88) (zkb3 zk_cX12_sayMore zn_cX12_sayMore rfl) rfl
theorem dX12_sayMore_34 : decode cX12_sayMore 34 = .ok (.aload_n 0, 1) := zo_42 (zkb zk_cX12_sayMore zn_cX12_sayMore rfl)
theorem dX12_sayMore_35 : decode cX12_sayMore 35 = .ok (.iload_n 3, 1) := zo_29 (zkb zk_cX12_sayMore zn_cX12_sayMore rfl)
theorem dX12_sayMore_36 : decode cX12_sayMore 36 = .ok (.ifCond .ne 9, 3) := zo_154 (b1 := 0) (b2 := 9) (zkb3 zk_cX12_sayMore zn_cX12_sayMore rfl) rfl
theorem dX12_sayMore_39 : decode cX12_sayMore 39 = .ok (.ldc_w 782, 3) := zo_19 (b1 := 3) (b2 := 14) (zkb3 zk_cX12_sayMore zn_cX12_sayMore rfl) rfl
theorem dX12_sayMore_42 : decode cX12_sayMore 42 = .ok (.goto 40, 3) := zo_167 (b1 := 0) (b2 := 40) (zkb3 zk_cX12_sayMore zn_cX12_sayMore rfl) rfl
theorem dX12_sayMore_45 : decode cX12_sayMore 45 = .ok (.iload_n 3, 1) := zo_29 (zkb zk_cX12_sayMore zn_cX12_sayMore rfl)
theorem dX12_sayMore_46 : decode cX12_sayMore 46 = .ok (.iconst 1, 1) := zo_4 (zkb zk_cX12_sayMore zn_cX12_sayMore rfl)
theorem dX12_sayMore_47 : decode cX12_sayMore 47 = .ok (.if_icmp .ne 9, 3) := zo_160 (b1 := 0) (b2 := 9) (zkb3 zk_cX12_sayMore zn_cX12_sayMore rfl) rfl
theorem dX12_sayMore_50 : decode cX12_sayMore 50 = .ok (.ldc_w 784, 3) := zo_19 (b1 := 3) (b2 := 16) (zkb3 zk_cX12_sayMore zn_cX12_sayMore rfl) rfl
theorem dX12_sayMore_53 : decode cX12_sayMore 53 = .ok (.goto 29, 3) := zo_167 (b1 := 0) (b2 := 29) (zkb3 zk_cX12_sayMore zn_cX12_sayMore rfl) rfl
theorem dX12_sayMore_56 : decode cX12_sayMore 56 = .ok (.iload_n 3, 1) := zo_29 (zkb zk_cX12_sayMore zn_cX12_sayMore rfl)
theorem dX12_sayMore_57 : decode cX12_sayMore 57 = .ok (.iconst 2, 1) := zo_5 (zkb zk_cX12_sayMore zn_cX12_sayMore rfl)
theorem dX12_sayMore_58 : decode cX12_sayMore 58 = .ok (.if_icmp .ne 9, 3) := zo_160 (b1 := 0) (b2 := 9) (zkb3 zk_cX12_sayMore zn_cX12_sayMore rfl) rfl
theorem dX12_sayMore_61 : decode cX12_sayMore 61 = .ok (.ldc_w 786, 3) := zo_19 (b1 := 3) (b2 := 18) (zkb3 zk_cX12_sayMore zn_cX12_sayMore rfl) rfl
theorem dX12_sayMore_64 : decode cX12_sayMore 64 = .ok (.goto 18, 3) := zo_167 (b1 := 0) (b2 := 18) (zkb3 zk_cX12_sayMore zn_cX12_sayMore rfl) rfl
theorem dX12_sayMore_67 : decode cX12_sayMore 67 = .ok (.iload_n 2, 1) := zo_28 (zkb zk_cX12_sayMore zn_cX12_sayMore rfl)
theorem dX12_sayMore_68 : decode cX12_sayMore 68 = .ok (.bipush 6, 2) := zo_16 (b1 := 6) (zkb2 zk_cX12_sayMore zn_cX12_sayMore rfl) rfl
theorem dX12_sayMore_70 : decode cX12_sayMore 70 = .ok (.if_icmp .ge 9, 3) := zo_162 (b1 := 0) (b2 := 9) (zkb3 zk_cX12_sayMore zn_cX12_sayMore rfl) rfl
theorem dX12_sayMore_73 : decode cX12_sayMore 73 = .ok (.ldc_w 788, 3) := zo_19 (b1 := 3) (b2 := 20) (zkb3 zk_cX12_sayMore zn_cX12_sayMore rfl) rfl
theorem dX12_sayMore_76 : decode cX12_sayMore 76 = .ok (.goto 6, 3) := zo_167 (b1 := 0) (b2 := 6) (zkb3 zk_cX12_sayMore zn_cX12_sayMore rfl) rfl
theorem dX12_sayMore_79 : decode cX12_sayMore 79 = .ok (.ldc_w 790, 3) := zo_19 (b1 := 3) (b2 := 22) (zkb3 zk_cX12_sayMore zn_cX12_sayMore rfl) rfl
theorem dX12_sayMore_82 : decode cX12_sayMore 82 = .ok (.invokevirtual 559, 3) := zo_182 (b1 := 2) (b2 := 47) (zkb3 zk_cX12_sayMore zn_cX12_sayMore rfl) rfl
theorem dX12_sayMore_85 : decode cX12_sayMore 85 = .ok (.aload_n 0, 1) := zo_42 (zkb zk_cX12_sayMore zn_cX12_sayMore rfl)
theorem dX12_sayMore_86 : decode cX12_sayMore 86 = .ok (.iload_n 2, 1) := zo_28 (zkb zk_cX12_sayMore zn_cX12_sayMore rfl)
theorem dX12_sayMore_87 : decode cX12_sayMore 87 = .ok (.iconst 2, 1) := zo_5 (zkb zk_cX12_sayMore zn_cX12_sayMore rfl)
theorem dX12_sayMore_88 : decode cX12_sayMore 88 = .ok (.irem, 1) := zo_112 (zkb zk_cX12_sayMore zn_cX12_sayMore rfl)
theorem dX12_sayMore_89 : decode cX12_sayMore 89 = .ok (.ifCond .ne 9, 3) := zo_154 (b1 := 0) (b2 := 9) (zkb3 zk_cX12_sayMore zn_cX12_sayMore rfl) rfl
theorem dX12_sayMore_92 : decode cX12_sayMore 92 = .ok (.ldc_w 792, 3) := zo_19 (b1 := 3) (b2 := 24) (zkb3 zk_cX12_sayMore zn_cX12_sayMore rfl) rfl
theorem dX12_sayMore_95 : decode cX12_sayMore 95 = .ok (.goto 6, 3) := zo_167 (b1 := 0) (b2 := 6) (zkb3 zk_cX12_sayMore zn_cX12_sayMore rfl) rfl
theorem dX12_sayMore_98 : decode cX12_sayMore 98 = .ok (.ldc_w 594, 3) := zo_19 (b1 := 2) (b2 := 82) (zkb3 zk_cX12_sayMore zn_cX12_sayMore rfl) rfl
theorem dX12_sayMore_101 : decode cX12_sayMore 101 = .ok (.invokevirtual 559, 3) := zo_182 (b1 := 2) (b2 := 47) (zkb3 zk_cX12_sayMore zn_cX12_sayMore rfl) rfl
theorem dX12_sayMore_104 : decode cX12_sayMore 104 = .ok (.iload_n 2, 1) := zo_28 (zkb zk_cX12_sayMore zn_cX12_sayMore rfl)
theorem dX12_sayMore_105 : decode cX12_sayMore 105 = .ok (.iconst 5, 1) := zo_8 (zkb zk_cX12_sayMore zn_cX12_sayMore rfl)
theorem dX12_sayMore_106 : decode cX12_sayMore 106 = .ok (.if_icmp .le 219, 3) := zo_164 (b1 := 0) (b2 := 219) (zkb3 zk_cX12_sayMore zn_cX12_sayMore rfl) rfl
theorem dX12_sayMore_109 : decode cX12_sayMore 109 = .ok (.aload_n 0, 1) := zo_42 (zkb zk_cX12_sayMore zn_cX12_sayMore rfl)
theorem dX12_sayMore_110 : decode cX12_sayMore 110 = .ok (.ldc_w 794, 3) := zo_19 (b1 := 3) (b2 := 26) (zkb3 zk_cX12_sayMore zn_cX12_sayMore rfl) rfl
theorem dX12_sayMore_113 : decode cX12_sayMore 113 = .ok (.invokevirtual 559, 3) := zo_182 (b1 := 2) (b2 := 47) (zkb3 zk_cX12_sayMore zn_cX12_sayMore rfl) rfl
theorem dX12_sayMore_116 : decode cX12_sayMore 116 = .ok (.goto 209, 3) := zo_167 (b1 := 0) (b2 := 209) (zkb3 zk_cX12_sayMore zn_cX12_sayMore rfl) rfl
theorem dX12_sayMore_119 : decode cX12_sayMore 119 = .ok (.iload 4, 2) := zo_21 (b1 := 4) (zkb2 zk_cX12_sayMore zn_cX12_sayMore rfl)
theorem dX12_sayMore_121 : decode cX12_sayMore 121 = .ok (.iconst 1, 1) := zo_4 (zkb zk_cX12_sayMore zn_cX12_sayMore rfl)
theorem dX12_sayMore_122 : decode cX12_sayMore 122 = .ok (.if_icmp .eq 13, 3) := zo_159 (b1 := 0) (b2 := 13) (zkb3 zk_cX12_sayMore zn_cX12_sayMore rfl) rfl
theorem dX12_sayMore_125 : decode cX12_sayMore 125 = .ok (.aload_n 0, 1) := zo_42 (zkb zk_cX12_sayMore zn_cX12_sayMore rfl)
theorem dX12_sayMore_126 : decode cX12_sayMore 126 = .ok (.ldc_w 655, 3) := zo_19 (b1 := 2) (b2 := 143) (zkb3 zk_cX12_sayMore zn_cX12_sayMore rfl) rfl
theorem dX12_sayMore_129 : decode cX12_sayMore 129 = .ok (.invokevirtual 559, 3) := zo_182 (b1 := 2) (b2 := 47) (zkb3 zk_cX12_sayMore zn_cX12_sayMore rfl) rfl
theorem dX12_sayMore_132 : decode cX12_sayMore 132 = .ok (.goto 193, 3) := zo_167 (b1 := 0) (b2 := 193) (zkb3 zk_cX12_sayMore zn_cX12_sayMore rfl) rfl
theorem dX12_sayMore_135 : decode cX12_sayMore 135 = .ok (.iload_n 3, 1) := zo_29 (zkb zk_cX12_sayMore zn_cX12_sayMore rfl)
theorem dX12_sayMore_136 : decode cX12_sayMore 136 = .ok (.ifCond .ne 38, 3) := zo_154 (b1 := 0) (b2 := 38) (zkb3 zk_cX12_sayMore zn_cX12_sayMore rfl) rfl
theorem dX12_sayMore_139 : decode cX12_sayMore 139 = .ok (.aload_n 0, 1) := zo_42 (zkb zk_cX12_sayMore zn_cX12_sayMore rfl)
theorem dX12_sayMore_140 : decode cX12_sayMore 140 = .ok (.ldc_w 795, 3) := zo_19 (b1 := 3) (b2 := 27) (zkb3 zk_cX12_sayMore zn_cX12_sayMore rfl) rfl
theorem dX12_sayMore_143 : decode cX12_sayMore 143 = .ok (.invokevirtual 559, 3) := zo_182 (b1 := 2) (b2 := 47) (zkb3 zk_cX12_sayMore zn_cX12_sayMore rfl) rfl
theorem dX12_sayMore_146 : decode cX12_sayMore 146 = .ok (.iload_n 2, 1) := zo_28 (zkb zk_cX12_sayMore zn_cX12_sayMore rfl)
theorem dX12_sayMore_147 : decode cX12_sayMore 147 = .ok (.bipush 6, 2) := zo_16 (b1 := 6) (zkb2 zk_cX12_sayMore zn_cX12_sayMore rfl) rfl
theorem dX12_sayMore_149 : decode cX12_sayMore 149 = .ok (.if_icmp .eq 15, 3) := zo_159 (b1 := 0) (b2 := 15) (zkb3 zk_cX12_sayMore zn_cX12_sayMore rfl) rfl
theorem dX12_sayMore_152 : decode cX12_sayMore 152 = .ok (.aload_n 0, 1) := zo_42 (zkb zk_cX12_sayMore zn_cX12_sayMore rfl)
theorem dX12_sayMore_153 : decode cX12_sayMore 153 = .ok (.iload_n 2, 1) := zo_28 (zkb zk_cX12_sayMore zn_cX12_sayMore rfl)
theorem dX12_sayMore_154 : decode cX12_sayMore 154 = .ok (.invokevirtual 659, 3) := zo_182 (b1 := 2) (b2 := 147) (zkb3 zk_cX12_sayMore zn_cX12_sayMore rfl) rfl
theorem dX12_sayMore_157 : decode cX12_sayMore 157 = .ok (.aload_n 0, 1) := zo_42 (zkb zk_cX12_sayMore zn_cX12_sayMore rfl)
theorem dX12_sayMore_158 : decode cX12_sayMore 158 = .ok (.ldc_w 657, 3) := zo_19 (b1 := 2) (b2 := 145) (zkb3 zk_cX12_sayMore zn_cX12_sayMore rfl) rfl
theorem dX12_sayMore_161 : decode cX12_sayMore 161 = .ok (.invokevirtual 559, 3) := zo_182 (b1 := 2) (b2 := 47) (zkb3 zk_cX12_sayMore zn_cX12_sayMore rfl) rfl
theorem dX12_sayMore_164 : decode cX12_sayMore 164 = .ok (.aload_n 0, 1) := zo_42 (zkb zk_cX12_sayMore zn_cX12_sayMore rfl)
theorem dX12_sayMore_165 : decode cX12_sayMore 165 = .ok (.ldc_w 797, 3) := zo_19 (b1 := 3) (b2 := 29) (zkb3 zk_cX12_sayMore zn_cX12_sayMore rfl) rfl
theorem dX12_sayMore_168 : decode cX12_sayMore 168 = .ok (.invokevirtual 559, 3) := zo_182 (b1 := 2) (b2 := 47) (zkb3 zk_cX12_sayMore zn_cX12_sayMore rfl) rfl
theorem dX12_sayMore_171 : decode cX12_sayMore 171 = .ok (.goto 154, 3) := zo_167 (b1 := 0) (b2 := 154) (zkb3 zk_cX12_sayMore zn_cX12_sayMore rfl) rfl
theorem dX12_sayMore_174 : decode cX12_sayMore 174 = .ok (.iload_n 3, 1) := zo_29 (zkb zk_cX12_sayMore zn_cX12_sayMore rfl)
theorem dX12_sayMore_175 : decode cX12_sayMore 175 = .ok (.iconst 1, 1) := zo_4 (zkb zk_cX12_sayMore zn_cX12_sayMore rfl)
theorem dX12_sayMore_176 : decode cX12_sayMore 176 = .ok (.if_icmp .ne 34, 3) := zo_160 (b1 := 0) (b2 := 34) (zkb3 zk_cX12_sayMore zn_cX12_sayMore rfl) rfl
theorem dX12_sayMore_179 : decode cX12_sayMore 179 = .ok (.aload_n 0, 1) := zo_42 (zkb zk_cX12_sayMore zn_cX12_sayMore rfl)
theorem dX12_sayMore_180 : decode cX12_sayMore 180 = .ok (.ldc_w 799, 3) := zo_19 (b1 := 3) (b2 := 31) (zkb3 zk_cX12_sayMore zn_cX12_sayMore rfl) rfl
theorem dX12_sayMore_183 : decode cX12_sayMore 183 = .ok (.invokevirtual 559, 3) := zo_182 (b1 := 2) (b2 := 47) (zkb3 zk_cX12_sayMore zn_cX12_sayMore rfl) rfl
theorem dX12_sayMore_186 : decode cX12_sayMore 186 = .ok (.iload_n 2, 1) := zo_28 (zkb zk_cX12_sayMore zn_cX12_sayMore rfl)
theorem dX12_sayMore_187 : decode cX12_sayMore 187 = .ok (.bipush 6, 2) := zo_16 (b1 := 6) (zkb2 zk_cX12_sayMore zn_cX12_sayMore rfl) rfl
theorem dX12_sayMore_189 : decode cX12_sayMore 189 = .ok (.if_icmp .ne 13, 3) := zo_160 (b1 := 0) (b2 := 13) (zkb3 zk_cX12_sayMore zn_cX12_sayMore rfl) rfl
theorem dX12_sayMore_192 : decode cX12_sayMore 192 = .ok (.aload_n 0, 1) := zo_42 (zkb zk_cX12_sayMore zn_cX12_sayMore rfl)
theorem dX12_sayMore_193 : decode cX12_sayMore 193 = .ok (.ldc_w 801, 3) := zo_19 (b1 := 3) (b2 := 33) (zkb3 zk_cX12_sayMore zn_cX12_sayMore rfl) rfl
theorem dX12_sayMore_196 : decode cX12_sayMore 196 = .ok (.invokevirtual 559, 3) := zo_182 (b1 := 2) (b2 := 47) (zkb3 zk_cX12_sayMore zn_cX12_sayMore rfl) rfl
theorem dX12_sayMore_199 : decode cX12_sayMore 199 = .ok (.goto 126, 3) := zo_167 (b1 := 0) (b2 := 126) (zkb3 zk_cX12_sayMore zn_cX12_sayMore rfl) rfl
theorem dX12_sayMore_202 : decode cX12_sayMore 202 = .ok (.aload_n 0, 1) := zo_42 (zkb zk_cX12_sayMore zn_cX12_sayMore rfl)
theorem dX12_sayMore_203 : decode cX12_sayMore 203 = .ok (.iload_n 2, 1) := zo_28 (zkb zk_cX12_sayMore zn_cX12_sayMore rfl)
theorem dX12_sayMore_204 : decode cX12_sayMore 204 = .ok (.invokevirtual 659, 3) := zo_182 (b1 := 2) (b2 := 147) (zkb3 zk_cX12_sayMore zn_cX12_sayMore rfl) rfl
theorem dX12_sayMore_207 : decode cX12_sayMore 207 = .ok (.goto 118, 3) := zo_167 (b1 := 0) (b2 := 118) (zkb3 zk_cX12_sayMore zn_cX12_sayMore rfl) rfl
theorem dX12_sayMore_210 : decode cX12_sayMore 210 = .ok (.iload_n 3, 1) := zo_29 (zkb zk_cX12_sayMore zn_cX12_sayMore rfl)
theorem dX12_sayMore_211 : decode cX12_sayMore 211 = .ok (.iconst 2, 1) := zo_5 (zkb zk_cX12_sayMore zn_cX12_sayMore rfl)
theorem dX12_sayMore_212 : decode cX12_sayMore 212 = .ok (.if_icmp .ne 33, 3) := zo_160 (b1 := 0) (b2 := 33) (zkb3 zk_cX12_sayMore zn_cX12_sayMore rfl) rfl
theorem dX12_sayMore_215 : decode cX12_sayMore 215 = .ok (.aload_n 0, 1) := zo_42 (zkb zk_cX12_sayMore zn_cX12_sayMore rfl)
theorem dX12_sayMore_216 : decode cX12_sayMore 216 = .ok (.iload_n 2, 1) := zo_28 (zkb zk_cX12_sayMore zn_cX12_sayMore rfl)
theorem dX12_sayMore_217 : decode cX12_sayMore 217 = .ok (.iconst 2, 1) := zo_5 (zkb zk_cX12_sayMore zn_cX12_sayMore rfl)
theorem dX12_sayMore_218 : decode cX12_sayMore 218 = .ok (.irem, 1) := zo_112 (zkb zk_cX12_sayMore zn_cX12_sayMore rfl)
theorem dX12_sayMore_219 : decode cX12_sayMore 219 = .ok (.ifCond .ne 9, 3) := zo_154 (b1 := 0) (b2 := 9) (zkb3 zk_cX12_sayMore zn_cX12_sayMore rfl) rfl
theorem dX12_sayMore_222 : decode cX12_sayMore 222 = .ok (.ldc_w 803, 3) := zo_19 (b1 := 3) (b2 := 35) (zkb3 zk_cX12_sayMore zn_cX12_sayMore rfl) rfl
theorem dX12_sayMore_225 : decode cX12_sayMore 225 = .ok (.goto 6, 3) := zo_167 (b1 := 0) (b2 := 6) (zkb3 zk_cX12_sayMore zn_cX12_sayMore rfl) rfl
theorem dX12_sayMore_228 : decode cX12_sayMore 228 = .ok (.ldc_w 805, 3) := zo_19 (b1 := 3) (b2 := 37) (zkb3 zk_cX12_sayMore zn_cX12_sayMore rfl) rfl
theorem dX12_sayMore_231 : decode cX12_sayMore 231 = .ok (.invokevirtual 559, 3) := zo_182 (b1 := 2) (b2 := 47) (zkb3 zk_cX12_sayMore zn_cX12_sayMore rfl) rfl
theorem dX12_sayMore_234 : decode cX12_sayMore 234 = .ok (.aload_n 0, 1) := zo_42 (zkb zk_cX12_sayMore zn_cX12_sayMore rfl)
theorem dX12_sayMore_235 : decode cX12_sayMore 235 = .ok (.iload_n 2, 1) := zo_28 (zkb zk_cX12_sayMore zn_cX12_sayMore rfl)
theorem dX12_sayMore_236 : decode cX12_sayMore 236 = .ok (.iconst 1, 1) := zo_4 (zkb zk_cX12_sayMore zn_cX12_sayMore rfl)
theorem dX12_sayMore_237 : decode cX12_sayMore 237 = .ok (.ishr, 1) := zo_122 (zkb zk_cX12_sayMore zn_cX12_sayMore rfl)
theorem dX12_sayMore_238 : decode cX12_sayMore 238 = .ok (.iconst 0, 1) := zo_3 (zkb zk_cX12_sayMore zn_cX12_sayMore rfl)
theorem dX12_sayMore_239 : decode cX12_sayMore 239 = .ok (.invokevirtual 715, 3) := zo_182 (b1 := 2) (b2 := 203) (zkb3 zk_cX12_sayMore zn_cX12_sayMore rfl) rfl
theorem dX12_sayMore_242 : decode cX12_sayMore 242 = .ok (.goto 83, 3) := zo_167 (b1 := 0) (b2 := 83) (zkb3 zk_cX12_sayMore zn_cX12_sayMore rfl) rfl
theorem dX12_sayMore_245 : decode cX12_sayMore 245 = .ok (.iload_n 3, 1) := zo_29 (zkb zk_cX12_sayMore zn_cX12_sayMore rfl)
theorem dX12_sayMore_246 : decode cX12_sayMore 246 = .ok (.iconst 3, 1) := zo_6 (zkb zk_cX12_sayMore zn_cX12_sayMore rfl)
theorem dX12_sayMore_247 : decode cX12_sayMore 247 = .ok (.if_icmp .ne 72, 3) := zo_160 (b1 := 0) (b2 := 72) (zkb3 zk_cX12_sayMore zn_cX12_sayMore rfl) rfl
theorem dX12_sayMore_250 : decode cX12_sayMore 250 = .ok (.aload_n 0, 1) := zo_42 (zkb zk_cX12_sayMore zn_cX12_sayMore rfl)
theorem dX12_sayMore_251 : decode cX12_sayMore 251 = .ok (.ldc_w 692, 3) := zo_19 (b1 := 2) (b2 := 180) (zkb3 zk_cX12_sayMore zn_cX12_sayMore rfl) rfl
theorem dX12_sayMore_254 : decode cX12_sayMore 254 = .ok (.invokevirtual 559, 3) := zo_182 (b1 := 2) (b2 := 47) (zkb3 zk_cX12_sayMore zn_cX12_sayMore rfl) rfl
theorem dX12_sayMore_257 : decode cX12_sayMore 257 = .ok (.aload_n 0, 1) := zo_42 (zkb zk_cX12_sayMore zn_cX12_sayMore rfl)
theorem dX12_sayMore_258 : decode cX12_sayMore 258 = .ok (.invokevirtual 718, 3) := zo_182 (b1 := 2) (b2 := 206) (zkb3 zk_cX12_sayMore zn_cX12_sayMore rfl) rfl
theorem dX12_sayMore_261 : decode cX12_sayMore 261 = .ok (.istore 5, 2) := zo_54 (b1 := 5) (zkb2 zk_cX12_sayMore zn_cX12_sayMore rfl)
theorem dX12_sayMore_263 : decode cX12_sayMore 263 = .ok (.iload_n 2, 1) := zo_28 (zkb zk_cX12_sayMore zn_cX12_sayMore rfl)
theorem dX12_sayMore_264 : decode cX12_sayMore 264 = .ok (.iconst 2, 1) := zo_5 (zkb zk_cX12_sayMore zn_cX12_sayMore rfl)
theorem dX12_sayMore_265 : decode cX12_sayMore 265 = .ok (.irem, 1) := zo_112 (zkb zk_cX12_sayMore zn_cX12_sayMore rfl)
theorem dX12_sayMore_266 : decode cX12_sayMore 266 = .ok (.ifCond .ne 12, 3) := zo_154 (b1 := 0) (b2 := 12) (zkb3 zk_cX12_sayMore zn_cX12_sayMore rfl) rfl
theorem dX12_sayMore_269 : decode cX12_sayMore 269 = .ok (.aload_n 0, 1) := zo_42 (zkb zk_cX12_sayMore zn_cX12_sayMore rfl)
theorem dX12_sayMore_270 : decode cX12_sayMore 270 = .ok (.iload 5, 2) := zo_21 (b1 := 5) (zkb2 zk_cX12_sayMore zn_cX12_sayMore rfl)
theorem dX12_sayMore_272 : decode cX12_sayMore 272 = .ok (.invokevirtual 729, 3) := zo_182 (b1 := 2) (b2 := 217) (zkb3 zk_cX12_sayMore zn_cX12_sayMore rfl) rfl
theorem dX12_sayMore_275 : decode cX12_sayMore 275 = .ok (.goto 11, 3) := zo_167 (b1 := 0) (b2 := 11) (zkb3 zk_cX12_sayMore zn_cX12_sayMore rfl) rfl
theorem dX12_sayMore_278 : decode cX12_sayMore 278 = .ok (.aload_n 0, 1) := zo_42 (zkb zk_cX12_sayMore zn_cX12_sayMore rfl)
theorem dX12_sayMore_279 : decode cX12_sayMore 279 = .ok (.iload_n 2, 1) := zo_28 (zkb zk_cX12_sayMore zn_cX12_sayMore rfl)
theorem dX12_sayMore_280 : decode cX12_sayMore 280 = .ok (.iconst 1, 1) := zo_4 (zkb zk_cX12_sayMore zn_cX12_sayMore rfl)
theorem dX12_sayMore_281 : decode cX12_sayMore 281 = .ok (.ishr, 1) := zo_122 (zkb zk_cX12_sayMore zn_cX12_sayMore rfl)
theorem dX12_sayMore_282 : decode cX12_sayMore 282 = .ok (.iconst 0, 1) := zo_3 (zkb zk_cX12_sayMore zn_cX12_sayMore rfl)
theorem dX12_sayMore_283 : decode cX12_sayMore 283 = .ok (.invokevirtual 715, 3) := zo_182 (b1 := 2) (b2 := 203) (zkb3 zk_cX12_sayMore zn_cX12_sayMore rfl) rfl
theorem dX12_sayMore_286 : decode cX12_sayMore 286 = .ok (.aload_n 0, 1) := zo_42 (zkb zk_cX12_sayMore zn_cX12_sayMore rfl)
theorem dX12_sayMore_287 : decode cX12_sayMore 287 = .ok (.ldc_w 657, 3) := zo_19 (b1 := 2) (b2 := 145) (zkb3 zk_cX12_sayMore zn_cX12_sayMore rfl) rfl
theorem dX12_sayMore_290 : decode cX12_sayMore 290 = .ok (.invokevirtual 559, 3) := zo_182 (b1 := 2) (b2 := 47) (zkb3 zk_cX12_sayMore zn_cX12_sayMore rfl) rfl
theorem dX12_sayMore_293 : decode cX12_sayMore 293 = .ok (.iload_n 2, 1) := zo_28 (zkb zk_cX12_sayMore zn_cX12_sayMore rfl)
theorem dX12_sayMore_294 : decode cX12_sayMore 294 = .ok (.iconst 2, 1) := zo_5 (zkb zk_cX12_sayMore zn_cX12_sayMore rfl)
theorem dX12_sayMore_295 : decode cX12_sayMore 295 = .ok (.irem, 1) := zo_112 (zkb zk_cX12_sayMore zn_cX12_sayMore rfl)
theorem dX12_sayMore_296 : decode cX12_sayMore 296 = .ok (.ifCond .ne 14, 3) := zo_154 (b1 := 0) (b2 := 14) (zkb3 zk_cX12_sayMore zn_cX12_sayMore rfl) rfl
theorem dX12_sayMore_299 : decode cX12_sayMore 299 = .ok (.aload_n 0, 1) := zo_42 (zkb zk_cX12_sayMore zn_cX12_sayMore rfl)
theorem dX12_sayMore_300 : decode cX12_sayMore 300 = .ok (.iload_n 2, 1) := zo_28 (zkb zk_cX12_sayMore zn_cX12_sayMore rfl)
theorem dX12_sayMore_301 : decode cX12_sayMore 301 = .ok (.iconst 1, 1) := zo_4 (zkb zk_cX12_sayMore zn_cX12_sayMore rfl)
theorem dX12_sayMore_302 : decode cX12_sayMore 302 = .ok (.ishr, 1) := zo_122 (zkb zk_cX12_sayMore zn_cX12_sayMore rfl)
theorem dX12_sayMore_303 : decode cX12_sayMore 303 = .ok (.iconst 0, 1) := zo_3 (zkb zk_cX12_sayMore zn_cX12_sayMore rfl)
theorem dX12_sayMore_304 : decode cX12_sayMore 304 = .ok (.invokevirtual 715, 3) := zo_182 (b1 := 2) (b2 := 203) (zkb3 zk_cX12_sayMore zn_cX12_sayMore rfl) rfl
theorem dX12_sayMore_307 : decode cX12_sayMore 307 = .ok (.goto 9, 3) := zo_167 (b1 := 0) (b2 := 9) (zkb3 zk_cX12_sayMore zn_cX12_sayMore rfl) rfl
theorem dX12_sayMore_310 : decode cX12_sayMore 310 = .ok (.aload_n 0, 1) := zo_42 (zkb zk_cX12_sayMore zn_cX12_sayMore rfl)
theorem dX12_sayMore_311 : decode cX12_sayMore 311 = .ok (.iload 5, 2) := zo_21 (b1 := 5) (zkb2 zk_cX12_sayMore zn_cX12_sayMore rfl)
theorem dX12_sayMore_313 : decode cX12_sayMore 313 = .ok (.invokevirtual 729, 3) := zo_182 (b1 := 2) (b2 := 217) (zkb3 zk_cX12_sayMore zn_cX12_sayMore rfl) rfl
theorem dX12_sayMore_316 : decode cX12_sayMore 316 = .ok (.goto 9, 3) := zo_167 (b1 := 0) (b2 := 9) (zkb3 zk_cX12_sayMore zn_cX12_sayMore rfl) rfl
theorem dX12_sayMore_319 : decode cX12_sayMore 319 = .ok (.aload_n 0, 1) := zo_42 (zkb zk_cX12_sayMore zn_cX12_sayMore rfl)
theorem dX12_sayMore_320 : decode cX12_sayMore 320 = .ok (.iload_n 2, 1) := zo_28 (zkb zk_cX12_sayMore zn_cX12_sayMore rfl)
theorem dX12_sayMore_321 : decode cX12_sayMore 321 = .ok (.iload_n 3, 1) := zo_29 (zkb zk_cX12_sayMore zn_cX12_sayMore rfl)
theorem dX12_sayMore_322 : decode cX12_sayMore 322 = .ok (.invokevirtual 807, 3) := zo_182 (b1 := 3) (b2 := 39) (zkb3 zk_cX12_sayMore zn_cX12_sayMore rfl) rfl
theorem dX12_sayMore_325 : decode cX12_sayMore 325 = .ok (.return_, 1) := zo_177 (zkb zk_cX12_sayMore zn_cX12_sayMore rfl)
noncomputable def kn_cX12_text : Nat := 0xad20d9ffa7ff0484418185030400a72e6004151b6000b42a0f00a2ca01b42a6004151b7908102028009b0415043607104109ad090500997200b604030400a70407009a6e00b8856404ca01b42a09851b2a
theorem zk_cX12_text : zkd cX12_text.data.toList kn_cX12_text = true := by decide +kernel
theorem zn_cX12_text : cX12_text.data.toList.length = 81 := by decide +kernel
theorem dX12_text_0 : decode cX12_text 0 = .ok (.aload_n 0, 1) := zo_42 (zkb zk_cX12_text zn_cX12_text rfl)
theorem dX12_text_1 : decode cX12_text 1 = .ok (.iload_n 1, 1) := zo_27 (zkb zk_cX12_text zn_cX12_text rfl)
theorem dX12_text_2 : decode cX12_text 2 = .ok (.i2l, 1) := zo_133 (zkb zk_cX12_text zn_cX12_text rfl)
theorem dX12_text_3 : decode cX12_text 3 = .ok (.lconst 0, 1) := zo_9 (zkb zk_cX12_text zn_cX12_text rfl)
theorem dX12_text_4 : decode cX12_text 4 = .ok (.aload_n 0, 1) := zo_42 (zkb zk_cX12_text zn_cX12_text rfl)
theorem dX12_text_5 : decode cX12_text 5 = .ok (.getfield 458, 3) := zo_180 (b1 := 1) (b2 := 202) (zkb3 zk_cX12_text zn_cX12_text rfl) rfl
theorem dX12_text_8 : decode cX12_text 8 = .ok (.iconst 1, 1) := zo_4 (zkb zk_cX12_text zn_cX12_text rfl)
theorem dX12_text_9 : decode cX12_text 9 = .ok (.isub, 1) := zo_100 (zkb zk_cX12_text zn_cX12_text rfl)
theorem dX12_text_10 : decode cX12_text 10 = .ok (.i2l, 1) := zo_133 (zkb zk_cX12_text zn_cX12_text rfl)
theorem dX12_text_11 : decode cX12_text 11 = .ok (.invokestatic 110, 3) := zo_184 (b1 := 0) (b2 := 110) (zkb3 zk_cX12_text zn_cX12_text rfl) rfl
theorem dX12_text_14 : decode cX12_text 14 = .ok (.ifCond .ne 7, 3) := zo_154 (b1 := 0) (b2 := 7) (zkb3 zk_cX12_text zn_cX12_text rfl) rfl
theorem dX12_text_17 : decode cX12_text 17 = .ok (.iconst 1, 1) := zo_4 (zkb zk_cX12_text zn_cX12_text rfl)
theorem dX12_text_18 : decode cX12_text 18 = .ok (.goto 4, 3) := zo_167 (b1 := 0) (b2 := 4) (zkb3 zk_cX12_text zn_cX12_text rfl) rfl
theorem dX12_text_21 : decode cX12_text 21 = .ok (.iconst 0, 1) := zo_3 (zkb zk_cX12_text zn_cX12_text rfl)
theorem dX12_text_22 : decode cX12_text 22 = .ok (.iconst 1, 1) := zo_4 (zkb zk_cX12_text zn_cX12_text rfl)
theorem dX12_text_23 : decode cX12_text 23 = .ok (.invokevirtual 114, 3) := zo_182 (b1 := 0) (b2 := 114) (zkb3 zk_cX12_text zn_cX12_text rfl) rfl
theorem dX12_text_26 : decode cX12_text 26 = .ok (.ifCond .eq 5, 3) := zo_153 (b1 := 0) (b2 := 5) (zkb3 zk_cX12_text zn_cX12_text rfl) rfl
theorem dX12_text_29 : decode cX12_text 29 = .ok (.lconst 0, 1) := zo_9 (zkb zk_cX12_text zn_cX12_text rfl)
theorem dX12_text_30 : decode cX12_text 30 = .ok (.lreturn, 1) := zo_173 (zkb zk_cX12_text zn_cX12_text rfl)
theorem dX12_text_31 : decode cX12_text 31 = .ok (.lconst 0, 1) := zo_9 (zkb zk_cX12_text zn_cX12_text rfl)
theorem dX12_text_32 : decode cX12_text 32 = .ok (.lstore_n 2, 1) := zo_65 (zkb zk_cX12_text zn_cX12_text rfl)
theorem dX12_text_33 : decode cX12_text 33 = .ok (.bipush 7, 2) := zo_16 (b1 := 7) (zkb2 zk_cX12_text zn_cX12_text rfl) rfl
theorem dX12_text_35 : decode cX12_text 35 = .ok (.istore 4, 2) := zo_54 (b1 := 4) (zkb2 zk_cX12_text zn_cX12_text rfl)
theorem dX12_text_37 : decode cX12_text 37 = .ok (.iload 4, 2) := zo_21 (b1 := 4) (zkb2 zk_cX12_text zn_cX12_text rfl)
theorem dX12_text_39 : decode cX12_text 39 = .ok (.ifCond .lt 40, 3) := zo_155 (b1 := 0) (b2 := 40) (zkb3 zk_cX12_text zn_cX12_text rfl) rfl
theorem dX12_text_42 : decode cX12_text 42 = .ok (.lload_n 2, 1) := zo_32 (zkb zk_cX12_text zn_cX12_text rfl)
theorem dX12_text_43 : decode cX12_text 43 = .ok (.bipush 8, 2) := zo_16 (b1 := 8) (zkb2 zk_cX12_text zn_cX12_text rfl) rfl
theorem dX12_text_45 : decode cX12_text 45 = .ok (.lshl, 1) := zo_121 (zkb zk_cX12_text zn_cX12_text rfl)
theorem dX12_text_46 : decode cX12_text 46 = .ok (.iload_n 1, 1) := zo_27 (zkb zk_cX12_text zn_cX12_text rfl)
theorem dX12_text_47 : decode cX12_text 47 = .ok (.iload 4, 2) := zo_21 (b1 := 4) (zkb2 zk_cX12_text zn_cX12_text rfl)
theorem dX12_text_49 : decode cX12_text 49 = .ok (.iadd, 1) := zo_96 (zkb zk_cX12_text zn_cX12_text rfl)
theorem dX12_text_50 : decode cX12_text 50 = .ok (.aload_n 0, 1) := zo_42 (zkb zk_cX12_text zn_cX12_text rfl)
theorem dX12_text_51 : decode cX12_text 51 = .ok (.getfield 458, 3) := zo_180 (b1 := 1) (b2 := 202) (zkb3 zk_cX12_text zn_cX12_text rfl) rfl
theorem dX12_text_54 : decode cX12_text 54 = .ok (.if_icmp .ge 15, 3) := zo_162 (b1 := 0) (b2 := 15) (zkb3 zk_cX12_text zn_cX12_text rfl) rfl
theorem dX12_text_57 : decode cX12_text 57 = .ok (.aload_n 0, 1) := zo_42 (zkb zk_cX12_text zn_cX12_text rfl)
theorem dX12_text_58 : decode cX12_text 58 = .ok (.getfield 96, 3) := zo_180 (b1 := 0) (b2 := 96) (zkb3 zk_cX12_text zn_cX12_text rfl) rfl
theorem dX12_text_61 : decode cX12_text 61 = .ok (.iload_n 1, 1) := zo_27 (zkb zk_cX12_text zn_cX12_text rfl)
theorem dX12_text_62 : decode cX12_text 62 = .ok (.iload 4, 2) := zo_21 (b1 := 4) (zkb2 zk_cX12_text zn_cX12_text rfl)
theorem dX12_text_64 : decode cX12_text 64 = .ok (.iadd, 1) := zo_96 (zkb zk_cX12_text zn_cX12_text rfl)
theorem dX12_text_65 : decode cX12_text 65 = .ok (.iaload, 1) := zo_46 (zkb zk_cX12_text zn_cX12_text rfl)
theorem dX12_text_66 : decode cX12_text 66 = .ok (.goto 4, 3) := zo_167 (b1 := 0) (b2 := 4) (zkb3 zk_cX12_text zn_cX12_text rfl) rfl
theorem dX12_text_69 : decode cX12_text 69 = .ok (.iconst 0, 1) := zo_3 (zkb zk_cX12_text zn_cX12_text rfl)
theorem dX12_text_70 : decode cX12_text 70 = .ok (.i2l, 1) := zo_133 (zkb zk_cX12_text zn_cX12_text rfl)
theorem dX12_text_71 : decode cX12_text 71 = .ok (.lor, 1) := zo_129 (zkb zk_cX12_text zn_cX12_text rfl)
theorem dX12_text_72 : decode cX12_text 72 = .ok (.lstore_n 2, 1) := zo_65 (zkb zk_cX12_text zn_cX12_text rfl)
theorem dX12_text_73 : decode cX12_text 73 = .ok (.iinc 4 (-1), 3) := zo_132 (b1 := 4) (b2 := 255) (zkb3 zk_cX12_text zn_cX12_text rfl) rfl
theorem dX12_text_76 : decode cX12_text 76 = .ok (.goto (-39), 3) := zo_167 (b1 := 255) (b2 := 217) (zkb3 zk_cX12_text zn_cX12_text rfl) rfl
theorem dX12_text_79 : decode cX12_text 79 = .ok (.lload_n 2, 1) := zo_32 (zkb zk_cX12_text zn_cX12_text rfl)
theorem dX12_text_80 : decode cX12_text 80 = .ok (.lreturn, 1) := zo_173 (zkb zk_cX12_text zn_cX12_text rfl)
noncomputable def rmX12_sayMore : Room := { frames := 7, cells := 0, slots := 0, locals := 181 }
noncomputable def wzX12_sayMore : List Cond := .code yX12_sayMore cX12_sayMore 6 none :: wsL_law
noncomputable def fX12_sayMore_325  (σ : zSt)  : Option (zSt) :=
  some σ
noncomputable def fX12_sayMore_164  (σ : zSt)  : Option (zSt) :=
  zbu (fX12_say σ 162) (fun σ1 =>
  fX12_sayMore_325 σ1)
noncomputable def fX12_sayMore_231  (σ : zSt) (x2 : Int32) (s0 : Nat) : Option (zSt) :=
  zbu (fX12_say σ s0) (fun σ2 =>
  zbu (fX12_sayRp σ2 (x2 >>> ((1 : Int32) &&& 31)) 0) (fun σ3 =>
  fX12_sayMore_325 σ3))
noncomputable def fX12_sayMore_316  (σ : zSt)  : Option (zSt) :=
  fX12_sayMore_325 σ
noncomputable def fX12_sayMore_286  (σ : zSt) (x2 : Int32) (x5 : Int32) : Option (zSt) :=
  zbu (fX12_say σ 83) (fun σ4 =>
  zck (decide (¬ 2 = 0)) (
  if (zrem x2 2) = 0 then zbu (fX12_sayRp σ4 (x2 >>> ((1 : Int32) &&& 31)) 0) (fun σ6 =>
  fX12_sayMore_316 σ6) else
  zbu (fX12_sayPlaced σ4 x5) (fun σ5 =>
  fX12_sayMore_316 σ5)))
noncomputable def fX12_sayMore_119  (σ : zSt) (x2 : Int32) (x3 : Int32) (x4 : Int32) : Option (zSt) :=
  if x4 = 1 then if x3 = 0 then zbu (fX12_say σ 161) (fun σ16 =>
  if x2 = 6 then fX12_sayMore_164 σ16 else
  zbu (fX12_sayR σ16 x2) (fun σ17 =>
  zbu (fX12_say σ17 83) (fun σ18 =>
  fX12_sayMore_164 σ18))) else
  if x3 = 1 then zbu (fX12_say σ 163) (fun σ13 =>
  if x2 = 6 then zbu (fX12_say σ13 164) (fun σ15 =>
  fX12_sayMore_325 σ15) else
  zbu (fX12_sayR σ13 x2) (fun σ14 =>
  fX12_sayMore_325 σ14)) else
  if x3 = 2 then zck (decide (¬ 2 = 0)) (
  if (zrem x2 2) = 0 then fX12_sayMore_231 σ x2 165 else
  fX12_sayMore_231 σ x2 166) else
  if x3 = 3 then zbu (fX12_say σ 111) (fun σ8 =>
  zbi (fX12_takenWord σ8 ) (fun σ9 v10 =>
  zck (decide (¬ 2 = 0)) (
  if (zrem x2 2) = 0 then zbu (fX12_sayPlaced σ9 v10) (fun σ12 =>
  fX12_sayMore_286 σ12 x2 v10) else
  zbu (fX12_sayRp σ9 (x2 >>> ((1 : Int32) &&& 31)) 0) (fun σ11 =>
  fX12_sayMore_286 σ11 x2 v10)))) else
  zbu (fX12_sayOdd σ x2 x3) (fun σ7 =>
  fX12_sayMore_325 σ7) else
  zbu (fX12_say σ 71) (fun σ19 =>
  fX12_sayMore_325 σ19)
noncomputable def fX12_sayMore_101  (σ : zSt) (x2 : Int32) (s0 : Nat) : Option (zSt) :=
  zbu (fX12_say σ s0) (fun σ20 =>
  if x2 ≤ 5 then fX12_sayMore_325 σ20 else
  zbu (fX12_say σ20 160) (fun σ21 =>
  fX12_sayMore_325 σ21))
noncomputable def fX12_sayMore_82  (σ : zSt) (x2 : Int32) (s0 : Nat) : Option (zSt) :=
  zbu (fX12_say σ s0) (fun σ22 =>
  zck (decide (¬ 2 = 0)) (
  if (zrem x2 2) = 0 then fX12_sayMore_101 σ22 x2 159 else
  fX12_sayMore_101 σ22 x2 95))
noncomputable def fX12_sayMore  (σ : zSt) (x1 : Int32) : Option (zSt) :=
  zbv ((x1 >>> ((3 : Int32) &&& 31)) &&& 7) (fun v23 =>
  zbv (x1 &&& 7) (fun v24 =>
  zbv (x1 >>> ((6 : Int32) &&& 31)) (fun v25 =>
  if v25 = 2 then if v23 ≤ 3 then fX12_sayMore_119 σ v23 v24 v25 else
  if 4 ≤ v24 then fX12_sayMore_119 σ v23 v24 v25 else
  if v24 = 0 then fX12_sayMore_82 σ v23 154 else
  if v24 = 1 then fX12_sayMore_82 σ v23 155 else
  if v24 = 2 then fX12_sayMore_82 σ v23 156 else
  if 6 ≤ v23 then fX12_sayMore_82 σ v23 158 else
  fX12_sayMore_82 σ v23 157 else
  fX12_sayMore_119 σ v23 v24 v25)))
set_option maxRecDepth 20000 in
set_option maxHeartbeats 4000000 in
theorem bX12_sayMore_325 {st : Nat → Nat} {p : Program} {l : Launch} {e : Env} {s : State} {m : MethodId} {args : Array Value} {below : List Frame} {meth : Method} {c : Code} {D : va_G} {A : Nat → Prop} {ad : Nat → Nat} {cy : Nat → ClassId} (hC : zC p m c cX12_sayMore 6 s args wzX12_sayMore RX12 meth none)  {res : zSt} {H : Heap} {locs : List Loc} {σ : zSt} {ls : Array Slot}  (hI : zI st D (tM cy) (wM ad cy σ) A s H locs) (hl : lv_has ls 6 []) (hf : fX12_sayMore_325  σ  = some res) : W p l e rmX12_sayMore s m args below meth c H locs 0 0 (zQu below args s D (tM cy) (wM ad cy) A res) (F0 m 325 ls []) := by
  have hx := hC.1
  have hb := hC.2.1
  unfold fX12_sayMore_325 at hf
  exact z_return hC hI hf dX12_sayMore_325
set_option maxRecDepth 20000 in
set_option maxHeartbeats 4000000 in
theorem bX12_sayMore_164 {st : Nat → Nat} {p : Program} {l : Launch} {e : Env} {s : State} {m : MethodId} {args : Array Value} {below : List Frame} {meth : Method} {c : Code} {D : va_G} {A : Nat → Prop} {ad : Nat → Nat} {cy : Nat → ClassId} (hC : zC p m c cX12_sayMore 6 s args wzX12_sayMore RX12 meth none)  {res : zSt} {H : Heap} {locs : List Loc} {σ : zSt} {ls : Array Slot}  (hI : zI st D (tM cy) (wM ad cy σ) A s H locs) (hl : lv_has ls 6 [(0, .ref (ad 0))]) (hf : fX12_sayMore_164  σ  = some res) : W p l e rmX12_sayMore s m args below meth c H locs 0 0 (zQu below args s D (tM cy) (wM ad cy) A res) (F0 m 164 ls []) := by
  have hx := hC.1
  have hb := hC.2.1
  unfold fX12_sayMore_164 at hf
  refine lv_aload_n hx hb dX12_sayMore_164 rfl (lv_at hl 0 rfl) ?_
  refine z_ldcSW hC hI 162 (by decide) rfl rfl dX12_sayMore_165 ?_
  obtain ⟨σ1, g1, hf⟩ := zbu_use hf
  refine z_callVu (As := [.ref (st (100 + 162))]) (rest := []) hC hI (cX12_say_met st l D ad cy σ 162 _ g1) (zgV zw74_23 zw75_0 zw75_1 zw1_5 zw75_2) rfl ⟨rfl, rfl⟩ 1 hdX12_say ⟨Nat.le_of_ble_eq_true rfl, Nat.le_of_ble_eq_true rfl⟩ rfl rfl (wM_e0 ad cy σ) rfl hl rfl (Nat.le_of_ble_eq_true rfl) dX12_sayMore_168 ⟨Nat.zero_le _, Nat.zero_le _⟩ (fun H locs hI => ?_)
  refine lv_goto (tgt := 325) hx hb dX12_sayMore_171 (by decide) ?_
  exact bX12_sayMore_325 hC  hI (lv_sub hl [] rfl) hf
set_option maxRecDepth 20000 in
set_option maxHeartbeats 4000000 in
theorem bX12_sayMore_231 {st : Nat → Nat} {p : Program} {l : Launch} {e : Env} {s : State} {m : MethodId} {args : Array Value} {below : List Frame} {meth : Method} {c : Code} {D : va_G} {A : Nat → Prop} {ad : Nat → Nat} {cy : Nat → ClassId} (hC : zC p m c cX12_sayMore 6 s args wzX12_sayMore RX12 meth none)  {res : zSt} {H : Heap} {locs : List Loc} {σ : zSt} {ls : Array Slot} {x2 : Int32} {s0 : Nat} (hI : zI st D (tM cy) (wM ad cy σ) A s H locs) (hl : lv_has ls 6 [(0, .ref (ad 0)), (2, .int x2)]) (hf : fX12_sayMore_231  σ x2 s0 = some res) : W p l e rmX12_sayMore s m args below meth c H locs 0 0 (zQu below args s D (tM cy) (wM ad cy) A res) (F0 m 231 ls [.ref (st (100 + s0)), .ref (ad 0)]) := by
  have hx := hC.1
  have hb := hC.2.1
  unfold fX12_sayMore_231 at hf
  obtain ⟨σ2, g2, hf⟩ := zbu_use hf
  refine z_callVu (As := [.ref (st (100 + s0))]) (rest := []) hC hI (cX12_say_met st l D ad cy σ s0 _ g2) (zgV zw74_23 zw75_0 zw75_1 zw1_5 zw75_2) rfl ⟨rfl, rfl⟩ 1 hdX12_say ⟨Nat.le_of_ble_eq_true rfl, Nat.le_of_ble_eq_true rfl⟩ rfl rfl (wM_e0 ad cy σ) rfl hl rfl (Nat.le_of_ble_eq_true rfl) dX12_sayMore_231 ⟨Nat.zero_le _, Nat.zero_le _⟩ (fun H locs hI => ?_)
  refine lv_aload_n hx hb dX12_sayMore_234 rfl (lv_at hl 0 rfl) ?_
  refine lv_iload_n hx hb dX12_sayMore_235 rfl (lv_at hl 1 rfl) ?_
  refine lv_iconst (v := 1) hx hb dX12_sayMore_236 (by decide) ?_
  refine lv_ishr hx hb dX12_sayMore_237 ?_
  refine lv_iconst (v := 0) hx hb dX12_sayMore_238 (by decide) ?_
  obtain ⟨σ3, g3, hf⟩ := zbu_use hf
  refine z_callVu (As := [.int (x2 >>> ((1 : Int32) &&& 31)), .int 0]) (rest := []) hC hI (cX12_sayRp_met st l D ad cy σ2 (x2 >>> ((1 : Int32) &&& 31)) 0 _ g3) (zgV zw76_16 zw76_17 zw76_18 zw1_5 zw76_19) rfl ⟨rfl, rfl⟩ 2 hdX12_sayRp ⟨Nat.le_of_ble_eq_true rfl, Nat.le_of_ble_eq_true rfl⟩ rfl rfl (wM_e0 ad cy σ2) rfl hl rfl (Nat.le_of_ble_eq_true rfl) dX12_sayMore_239 ⟨Nat.zero_le _, Nat.zero_le _⟩ (fun H locs hI => ?_)
  refine lv_goto (tgt := 325) hx hb dX12_sayMore_242 (by decide) ?_
  exact bX12_sayMore_325 hC  hI (lv_sub hl [] rfl) hf
set_option maxRecDepth 20000 in
set_option maxHeartbeats 4000000 in
theorem bX12_sayMore_316 {st : Nat → Nat} {p : Program} {l : Launch} {e : Env} {s : State} {m : MethodId} {args : Array Value} {below : List Frame} {meth : Method} {c : Code} {D : va_G} {A : Nat → Prop} {ad : Nat → Nat} {cy : Nat → ClassId} (hC : zC p m c cX12_sayMore 6 s args wzX12_sayMore RX12 meth none)  {res : zSt} {H : Heap} {locs : List Loc} {σ : zSt} {ls : Array Slot}  (hI : zI st D (tM cy) (wM ad cy σ) A s H locs) (hl : lv_has ls 6 []) (hf : fX12_sayMore_316  σ  = some res) : W p l e rmX12_sayMore s m args below meth c H locs 0 0 (zQu below args s D (tM cy) (wM ad cy) A res) (F0 m 316 ls []) := by
  have hx := hC.1
  have hb := hC.2.1
  unfold fX12_sayMore_316 at hf
  refine lv_goto (tgt := 325) hx hb dX12_sayMore_316 (by decide) ?_
  exact bX12_sayMore_325 hC  hI hl hf
set_option maxRecDepth 20000 in
set_option maxHeartbeats 4000000 in
theorem bX12_sayMore_286 {st : Nat → Nat} {p : Program} {l : Launch} {e : Env} {s : State} {m : MethodId} {args : Array Value} {below : List Frame} {meth : Method} {c : Code} {D : va_G} {A : Nat → Prop} {ad : Nat → Nat} {cy : Nat → ClassId} (hC : zC p m c cX12_sayMore 6 s args wzX12_sayMore RX12 meth none)  {res : zSt} {H : Heap} {locs : List Loc} {σ : zSt} {ls : Array Slot} {x2 : Int32} {x5 : Int32} (hI : zI st D (tM cy) (wM ad cy σ) A s H locs) (hl : lv_has ls 6 [(0, .ref (ad 0)), (2, .int x2), (5, .int x5)]) (hf : fX12_sayMore_286  σ x2 x5 = some res) : W p l e rmX12_sayMore s m args below meth c H locs 0 0 (zQu below args s D (tM cy) (wM ad cy) A res) (F0 m 286 ls []) := by
  have hx := hC.1
  have hb := hC.2.1
  unfold fX12_sayMore_286 at hf
  refine lv_aload_n hx hb dX12_sayMore_286 rfl (lv_at hl 0 rfl) ?_
  refine z_ldcSW hC hI 83 (by decide) rfl rfl dX12_sayMore_287 ?_
  obtain ⟨σ4, g4, hf⟩ := zbu_use hf
  refine z_callVu (As := [.ref (st (100 + 83))]) (rest := []) hC hI (cX12_say_met st l D ad cy σ 83 _ g4) (zgV zw74_23 zw75_0 zw75_1 zw1_5 zw75_2) rfl ⟨rfl, rfl⟩ 1 hdX12_say ⟨Nat.le_of_ble_eq_true rfl, Nat.le_of_ble_eq_true rfl⟩ rfl rfl (wM_e0 ad cy σ) rfl hl rfl (Nat.le_of_ble_eq_true rfl) dX12_sayMore_290 ⟨Nat.zero_le _, Nat.zero_le _⟩ (fun H locs hI => ?_)
  refine lv_iload_n hx hb dX12_sayMore_293 rfl (lv_at hl 1 rfl) ?_
  refine lv_iconst (v := 2) hx hb dX12_sayMore_294 (by decide) ?_
  obtain ⟨q, hf⟩ := zck_use hf
  refine z_irem hx hb dX12_sayMore_295 (of_decide_eq_true q) ?_
  refine lv_if_ne (tgt := 310) hx hb dX12_sayMore_296 (by decide) (fun q => ?_) (fun q => ?_)
  · replace hf := zif_f q hf
    refine lv_aload_n hx hb dX12_sayMore_310 rfl (lv_at hl 0 rfl) ?_
    refine lv_iload hx hb dX12_sayMore_311 (lv_at hl 2 rfl) ?_
    obtain ⟨σ5, g5, hf⟩ := zbu_use hf
    refine z_callVu (As := [.int x5]) (rest := []) hC hI (cX12_sayPlaced_met st l D ad cy σ4 x5 _ g5) (zgV zw77_0 zw77_1 zw77_2 zw1_5 zw77_3) rfl ⟨rfl, rfl⟩ 1 hdX12_sayPlaced ⟨Nat.le_of_ble_eq_true rfl, Nat.le_of_ble_eq_true rfl⟩ rfl rfl (wM_e0 ad cy σ4) rfl hl rfl (Nat.le_of_ble_eq_true rfl) dX12_sayMore_313 ⟨Nat.zero_le _, Nat.zero_le _⟩ (fun H locs hI => ?_)
    exact bX12_sayMore_316 hC  hI (lv_sub hl [] rfl) hf
  replace hf := zif_t q hf
  refine lv_aload_n hx hb dX12_sayMore_299 rfl (lv_at hl 0 rfl) ?_
  refine lv_iload_n hx hb dX12_sayMore_300 rfl (lv_at hl 1 rfl) ?_
  refine lv_iconst (v := 1) hx hb dX12_sayMore_301 (by decide) ?_
  refine lv_ishr hx hb dX12_sayMore_302 ?_
  refine lv_iconst (v := 0) hx hb dX12_sayMore_303 (by decide) ?_
  obtain ⟨σ6, g6, hf⟩ := zbu_use hf
  refine z_callVu (As := [.int (x2 >>> ((1 : Int32) &&& 31)), .int 0]) (rest := []) hC hI (cX12_sayRp_met st l D ad cy σ4 (x2 >>> ((1 : Int32) &&& 31)) 0 _ g6) (zgV zw76_16 zw76_17 zw76_18 zw1_5 zw76_19) rfl ⟨rfl, rfl⟩ 2 hdX12_sayRp ⟨Nat.le_of_ble_eq_true rfl, Nat.le_of_ble_eq_true rfl⟩ rfl rfl (wM_e0 ad cy σ4) rfl hl rfl (Nat.le_of_ble_eq_true rfl) dX12_sayMore_304 ⟨Nat.zero_le _, Nat.zero_le _⟩ (fun H locs hI => ?_)
  refine lv_goto (tgt := 316) hx hb dX12_sayMore_307 (by decide) ?_
  exact bX12_sayMore_316 hC  hI (lv_sub hl [] rfl) hf
set_option maxRecDepth 20000 in
set_option maxHeartbeats 4000000 in
theorem bX12_sayMore_119 {st : Nat → Nat} {p : Program} {l : Launch} {e : Env} {s : State} {m : MethodId} {args : Array Value} {below : List Frame} {meth : Method} {c : Code} {D : va_G} {A : Nat → Prop} {ad : Nat → Nat} {cy : Nat → ClassId} (hC : zC p m c cX12_sayMore 6 s args wzX12_sayMore RX12 meth none)  {res : zSt} {H : Heap} {locs : List Loc} {σ : zSt} {ls : Array Slot} {x2 : Int32} {x3 : Int32} {x4 : Int32} (hI : zI st D (tM cy) (wM ad cy σ) A s H locs) (hl : lv_has ls 6 [(0, .ref (ad 0)), (2, .int x2), (3, .int x3), (4, .int x4)]) (hf : fX12_sayMore_119  σ x2 x3 x4 = some res) : W p l e rmX12_sayMore s m args below meth c H locs 0 0 (zQu below args s D (tM cy) (wM ad cy) A res) (F0 m 119 ls []) := by
  have hx := hC.1
  have hb := hC.2.1
  unfold fX12_sayMore_119 at hf
  refine lv_iload hx hb dX12_sayMore_119 (lv_at hl 3 rfl) ?_
  refine lv_iconst (v := 1) hx hb dX12_sayMore_121 (by decide) ?_
  refine lv_icmp_eq (tgt := 135) hx hb dX12_sayMore_122 (by decide) (fun q => ?_) (fun q => ?_)
  · replace hf := zif_t q hf
    refine lv_iload_n hx hb dX12_sayMore_135 rfl (lv_at hl 2 rfl) ?_
    refine lv_if_ne (tgt := 174) hx hb dX12_sayMore_136 (by decide) (fun q => ?_) (fun q => ?_)
    · replace hf := zif_f q hf
      refine lv_iload_n hx hb dX12_sayMore_174 rfl (lv_at hl 2 rfl) ?_
      refine lv_iconst (v := 1) hx hb dX12_sayMore_175 (by decide) ?_
      refine lv_icmp_ne (tgt := 210) hx hb dX12_sayMore_176 (by decide) (fun q => ?_) (fun q => ?_)
      · replace hf := zif_f q hf
        refine lv_iload_n hx hb dX12_sayMore_210 rfl (lv_at hl 2 rfl) ?_
        refine lv_iconst (v := 2) hx hb dX12_sayMore_211 (by decide) ?_
        refine lv_icmp_ne (tgt := 245) hx hb dX12_sayMore_212 (by decide) (fun q => ?_) (fun q => ?_)
        · replace hf := zif_f q hf
          refine lv_iload_n hx hb dX12_sayMore_245 rfl (lv_at hl 2 rfl) ?_
          refine lv_iconst (v := 3) hx hb dX12_sayMore_246 (by decide) ?_
          refine lv_icmp_ne (tgt := 319) hx hb dX12_sayMore_247 (by decide) (fun q => ?_) (fun q => ?_)
          · replace hf := zif_f q hf
            refine lv_aload_n hx hb dX12_sayMore_319 rfl (lv_at hl 0 rfl) ?_
            refine lv_iload_n hx hb dX12_sayMore_320 rfl (lv_at hl 1 rfl) ?_
            refine lv_iload_n hx hb dX12_sayMore_321 rfl (lv_at hl 2 rfl) ?_
            obtain ⟨σ7, g7, hf⟩ := zbu_use hf
            refine z_callVu (As := [.int x2, .int x3]) (rest := []) hC hI (cX12_sayOdd_met st l D ad cy σ x2 x3 _ g7) (zgV zw78_0 zw78_1 zw78_2 zw1_5 zw78_3) rfl ⟨rfl, rfl⟩ 2 hdX12_sayOdd ⟨Nat.le_of_ble_eq_true rfl, Nat.le_of_ble_eq_true rfl⟩ rfl rfl (wM_e0 ad cy σ) rfl hl rfl (Nat.le_of_ble_eq_true rfl) dX12_sayMore_322 ⟨Nat.zero_le _, Nat.zero_le _⟩ (fun H locs hI => ?_)
            exact bX12_sayMore_325 hC  hI (lv_sub hl [] rfl) hf
          replace hf := zif_t q hf
          refine lv_aload_n hx hb dX12_sayMore_250 rfl (lv_at hl 0 rfl) ?_
          refine z_ldcSW hC hI 111 (by decide) rfl rfl dX12_sayMore_251 ?_
          obtain ⟨σ8, g8, hf⟩ := zbu_use hf
          refine z_callVu (As := [.ref (st (100 + 111))]) (rest := []) hC hI (cX12_say_met st l D ad cy σ 111 _ g8) (zgV zw74_23 zw75_0 zw75_1 zw1_5 zw75_2) rfl ⟨rfl, rfl⟩ 1 hdX12_say ⟨Nat.le_of_ble_eq_true rfl, Nat.le_of_ble_eq_true rfl⟩ rfl rfl (wM_e0 ad cy σ) rfl hl rfl (Nat.le_of_ble_eq_true rfl) dX12_sayMore_254 ⟨Nat.zero_le _, Nat.zero_le _⟩ (fun H locs hI => ?_)
          refine lv_aload_n hx hb dX12_sayMore_257 rfl (lv_at hl 0 rfl) ?_
          obtain ⟨σ9, v10, g9, hf⟩ := zbi_use hf
          refine z_callVi (As := []) (rest := []) hC hI (cX12_takenWord_met st l D ad cy σ8  _ g9) (zgV zw76_20 zw76_21 zw76_22 zw1_5 zw76_23) rfl ⟨rfl, rfl⟩ 0 hdX12_takenWord ⟨Nat.le_of_ble_eq_true rfl, Nat.le_of_ble_eq_true rfl⟩ rfl rfl (wM_e0 ad cy σ8) rfl hl rfl (Nat.le_of_ble_eq_true rfl) dX12_sayMore_258 ⟨Nat.zero_le _, Nat.zero_le _⟩ (fun H locs hI => ?_)
          refine lv_istore (lv' := [(5, .int v10), (0, .ref (ad 0)), (2, .int x2), (3, .int x3), (4, .int x4)]) hx hb dX12_sayMore_261 hl (by decide) rfl (fun ls hl => ?_)
          refine lv_iload_n hx hb dX12_sayMore_263 rfl (lv_at hl 2 rfl) ?_
          refine lv_iconst (v := 2) hx hb dX12_sayMore_264 (by decide) ?_
          obtain ⟨q, hf⟩ := zck_use hf
          refine z_irem hx hb dX12_sayMore_265 (of_decide_eq_true q) ?_
          refine lv_if_ne (tgt := 278) hx hb dX12_sayMore_266 (by decide) (fun q => ?_) (fun q => ?_)
          · replace hf := zif_f q hf
            refine lv_aload_n hx hb dX12_sayMore_278 rfl (lv_at hl 1 rfl) ?_
            refine lv_iload_n hx hb dX12_sayMore_279 rfl (lv_at hl 2 rfl) ?_
            refine lv_iconst (v := 1) hx hb dX12_sayMore_280 (by decide) ?_
            refine lv_ishr hx hb dX12_sayMore_281 ?_
            refine lv_iconst (v := 0) hx hb dX12_sayMore_282 (by decide) ?_
            obtain ⟨σ11, g11, hf⟩ := zbu_use hf
            refine z_callVu (As := [.int (x2 >>> ((1 : Int32) &&& 31)), .int 0]) (rest := []) hC hI (cX12_sayRp_met st l D ad cy σ9 (x2 >>> ((1 : Int32) &&& 31)) 0 _ g11) (zgV zw76_16 zw76_17 zw76_18 zw1_5 zw76_19) rfl ⟨rfl, rfl⟩ 2 hdX12_sayRp ⟨Nat.le_of_ble_eq_true rfl, Nat.le_of_ble_eq_true rfl⟩ rfl rfl (wM_e0 ad cy σ9) rfl hl rfl (Nat.le_of_ble_eq_true rfl) dX12_sayMore_283 ⟨Nat.zero_le _, Nat.zero_le _⟩ (fun H locs hI => ?_)
            exact bX12_sayMore_286 hC  hI (lv_sub hl [1, 2, 0] rfl) hf
          replace hf := zif_t q hf
          refine lv_aload_n hx hb dX12_sayMore_269 rfl (lv_at hl 1 rfl) ?_
          refine lv_iload hx hb dX12_sayMore_270 (lv_at hl 0 rfl) ?_
          obtain ⟨σ12, g12, hf⟩ := zbu_use hf
          refine z_callVu (As := [.int v10]) (rest := []) hC hI (cX12_sayPlaced_met st l D ad cy σ9 v10 _ g12) (zgV zw77_0 zw77_1 zw77_2 zw1_5 zw77_3) rfl ⟨rfl, rfl⟩ 1 hdX12_sayPlaced ⟨Nat.le_of_ble_eq_true rfl, Nat.le_of_ble_eq_true rfl⟩ rfl rfl (wM_e0 ad cy σ9) rfl hl rfl (Nat.le_of_ble_eq_true rfl) dX12_sayMore_272 ⟨Nat.zero_le _, Nat.zero_le _⟩ (fun H locs hI => ?_)
          refine lv_goto (tgt := 286) hx hb dX12_sayMore_275 (by decide) ?_
          exact bX12_sayMore_286 hC  hI (lv_sub hl [1, 2, 0] rfl) hf
        replace hf := zif_t q hf
        refine lv_aload_n hx hb dX12_sayMore_215 rfl (lv_at hl 0 rfl) ?_
        refine lv_iload_n hx hb dX12_sayMore_216 rfl (lv_at hl 1 rfl) ?_
        refine lv_iconst (v := 2) hx hb dX12_sayMore_217 (by decide) ?_
        obtain ⟨q, hf⟩ := zck_use hf
        refine z_irem hx hb dX12_sayMore_218 (of_decide_eq_true q) ?_
        refine lv_if_ne (tgt := 228) hx hb dX12_sayMore_219 (by decide) (fun q => ?_) (fun q => ?_)
        · replace hf := zif_f q hf
          refine z_ldcSW hC hI 166 (by decide) rfl rfl dX12_sayMore_228 ?_
          exact bX12_sayMore_231 hC  hI (lv_sub hl [0, 1] rfl) hf
        replace hf := zif_t q hf
        refine z_ldcSW hC hI 165 (by decide) rfl rfl dX12_sayMore_222 ?_
        refine lv_goto (tgt := 231) hx hb dX12_sayMore_225 (by decide) ?_
        exact bX12_sayMore_231 hC  hI (lv_sub hl [0, 1] rfl) hf
      replace hf := zif_t q hf
      refine lv_aload_n hx hb dX12_sayMore_179 rfl (lv_at hl 0 rfl) ?_
      refine z_ldcSW hC hI 163 (by decide) rfl rfl dX12_sayMore_180 ?_
      obtain ⟨σ13, g13, hf⟩ := zbu_use hf
      refine z_callVu (As := [.ref (st (100 + 163))]) (rest := []) hC hI (cX12_say_met st l D ad cy σ 163 _ g13) (zgV zw74_23 zw75_0 zw75_1 zw1_5 zw75_2) rfl ⟨rfl, rfl⟩ 1 hdX12_say ⟨Nat.le_of_ble_eq_true rfl, Nat.le_of_ble_eq_true rfl⟩ rfl rfl (wM_e0 ad cy σ) rfl hl rfl (Nat.le_of_ble_eq_true rfl) dX12_sayMore_183 ⟨Nat.zero_le _, Nat.zero_le _⟩ (fun H locs hI => ?_)
      refine lv_iload_n hx hb dX12_sayMore_186 rfl (lv_at hl 1 rfl) ?_
      refine lv_bipush (v := 6) hx hb dX12_sayMore_187 (by decide) ?_
      refine lv_icmp_ne (tgt := 202) hx hb dX12_sayMore_189 (by decide) (fun q => ?_) (fun q => ?_)
      · replace hf := zif_f q hf
        refine lv_aload_n hx hb dX12_sayMore_202 rfl (lv_at hl 0 rfl) ?_
        refine lv_iload_n hx hb dX12_sayMore_203 rfl (lv_at hl 1 rfl) ?_
        obtain ⟨σ14, g14, hf⟩ := zbu_use hf
        refine z_callVu (As := [.int x2]) (rest := []) hC hI (cX12_sayR_met st l D ad cy σ13 x2 _ g14) (zgV zw75_12 zw75_13 zw75_14 zw1_5 zw75_15) rfl ⟨rfl, rfl⟩ 1 hdX12_sayR ⟨Nat.le_of_ble_eq_true rfl, Nat.le_of_ble_eq_true rfl⟩ rfl rfl (wM_e0 ad cy σ13) rfl hl rfl (Nat.le_of_ble_eq_true rfl) dX12_sayMore_204 ⟨Nat.zero_le _, Nat.zero_le _⟩ (fun H locs hI => ?_)
        refine lv_goto (tgt := 325) hx hb dX12_sayMore_207 (by decide) ?_
        exact bX12_sayMore_325 hC  hI (lv_sub hl [] rfl) hf
      replace hf := zif_t q hf
      refine lv_aload_n hx hb dX12_sayMore_192 rfl (lv_at hl 0 rfl) ?_
      refine z_ldcSW hC hI 164 (by decide) rfl rfl dX12_sayMore_193 ?_
      obtain ⟨σ15, g15, hf⟩ := zbu_use hf
      refine z_callVu (As := [.ref (st (100 + 164))]) (rest := []) hC hI (cX12_say_met st l D ad cy σ13 164 _ g15) (zgV zw74_23 zw75_0 zw75_1 zw1_5 zw75_2) rfl ⟨rfl, rfl⟩ 1 hdX12_say ⟨Nat.le_of_ble_eq_true rfl, Nat.le_of_ble_eq_true rfl⟩ rfl rfl (wM_e0 ad cy σ13) rfl hl rfl (Nat.le_of_ble_eq_true rfl) dX12_sayMore_196 ⟨Nat.zero_le _, Nat.zero_le _⟩ (fun H locs hI => ?_)
      refine lv_goto (tgt := 325) hx hb dX12_sayMore_199 (by decide) ?_
      exact bX12_sayMore_325 hC  hI (lv_sub hl [] rfl) hf
    replace hf := zif_t q hf
    refine lv_aload_n hx hb dX12_sayMore_139 rfl (lv_at hl 0 rfl) ?_
    refine z_ldcSW hC hI 161 (by decide) rfl rfl dX12_sayMore_140 ?_
    obtain ⟨σ16, g16, hf⟩ := zbu_use hf
    refine z_callVu (As := [.ref (st (100 + 161))]) (rest := []) hC hI (cX12_say_met st l D ad cy σ 161 _ g16) (zgV zw74_23 zw75_0 zw75_1 zw1_5 zw75_2) rfl ⟨rfl, rfl⟩ 1 hdX12_say ⟨Nat.le_of_ble_eq_true rfl, Nat.le_of_ble_eq_true rfl⟩ rfl rfl (wM_e0 ad cy σ) rfl hl rfl (Nat.le_of_ble_eq_true rfl) dX12_sayMore_143 ⟨Nat.zero_le _, Nat.zero_le _⟩ (fun H locs hI => ?_)
    refine lv_iload_n hx hb dX12_sayMore_146 rfl (lv_at hl 1 rfl) ?_
    refine lv_bipush (v := 6) hx hb dX12_sayMore_147 (by decide) ?_
    refine lv_icmp_eq (tgt := 164) hx hb dX12_sayMore_149 (by decide) (fun q => ?_) (fun q => ?_)
    · replace hf := zif_t q hf
      exact bX12_sayMore_164 hC  hI (lv_sub hl [0] rfl) hf
    replace hf := zif_f q hf
    refine lv_aload_n hx hb dX12_sayMore_152 rfl (lv_at hl 0 rfl) ?_
    refine lv_iload_n hx hb dX12_sayMore_153 rfl (lv_at hl 1 rfl) ?_
    obtain ⟨σ17, g17, hf⟩ := zbu_use hf
    refine z_callVu (As := [.int x2]) (rest := []) hC hI (cX12_sayR_met st l D ad cy σ16 x2 _ g17) (zgV zw75_12 zw75_13 zw75_14 zw1_5 zw75_15) rfl ⟨rfl, rfl⟩ 1 hdX12_sayR ⟨Nat.le_of_ble_eq_true rfl, Nat.le_of_ble_eq_true rfl⟩ rfl rfl (wM_e0 ad cy σ16) rfl hl rfl (Nat.le_of_ble_eq_true rfl) dX12_sayMore_154 ⟨Nat.zero_le _, Nat.zero_le _⟩ (fun H locs hI => ?_)
    refine lv_aload_n hx hb dX12_sayMore_157 rfl (lv_at hl 0 rfl) ?_
    refine z_ldcSW hC hI 83 (by decide) rfl rfl dX12_sayMore_158 ?_
    obtain ⟨σ18, g18, hf⟩ := zbu_use hf
    refine z_callVu (As := [.ref (st (100 + 83))]) (rest := []) hC hI (cX12_say_met st l D ad cy σ17 83 _ g18) (zgV zw74_23 zw75_0 zw75_1 zw1_5 zw75_2) rfl ⟨rfl, rfl⟩ 1 hdX12_say ⟨Nat.le_of_ble_eq_true rfl, Nat.le_of_ble_eq_true rfl⟩ rfl rfl (wM_e0 ad cy σ17) rfl hl rfl (Nat.le_of_ble_eq_true rfl) dX12_sayMore_161 ⟨Nat.zero_le _, Nat.zero_le _⟩ (fun H locs hI => ?_)
    exact bX12_sayMore_164 hC  hI (lv_sub hl [0] rfl) hf
  replace hf := zif_f q hf
  refine lv_aload_n hx hb dX12_sayMore_125 rfl (lv_at hl 0 rfl) ?_
  refine z_ldcSW hC hI 71 (by decide) rfl rfl dX12_sayMore_126 ?_
  obtain ⟨σ19, g19, hf⟩ := zbu_use hf
  refine z_callVu (As := [.ref (st (100 + 71))]) (rest := []) hC hI (cX12_say_met st l D ad cy σ 71 _ g19) (zgV zw74_23 zw75_0 zw75_1 zw1_5 zw75_2) rfl ⟨rfl, rfl⟩ 1 hdX12_say ⟨Nat.le_of_ble_eq_true rfl, Nat.le_of_ble_eq_true rfl⟩ rfl rfl (wM_e0 ad cy σ) rfl hl rfl (Nat.le_of_ble_eq_true rfl) dX12_sayMore_129 ⟨Nat.zero_le _, Nat.zero_le _⟩ (fun H locs hI => ?_)
  refine lv_goto (tgt := 325) hx hb dX12_sayMore_132 (by decide) ?_
  exact bX12_sayMore_325 hC  hI (lv_sub hl [] rfl) hf
set_option maxRecDepth 20000 in
set_option maxHeartbeats 4000000 in
theorem bX12_sayMore_101 {st : Nat → Nat} {p : Program} {l : Launch} {e : Env} {s : State} {m : MethodId} {args : Array Value} {below : List Frame} {meth : Method} {c : Code} {D : va_G} {A : Nat → Prop} {ad : Nat → Nat} {cy : Nat → ClassId} (hC : zC p m c cX12_sayMore 6 s args wzX12_sayMore RX12 meth none)  {res : zSt} {H : Heap} {locs : List Loc} {σ : zSt} {ls : Array Slot} {x2 : Int32} {s0 : Nat} (hI : zI st D (tM cy) (wM ad cy σ) A s H locs) (hl : lv_has ls 6 [(0, .ref (ad 0)), (2, .int x2)]) (hf : fX12_sayMore_101  σ x2 s0 = some res) : W p l e rmX12_sayMore s m args below meth c H locs 0 0 (zQu below args s D (tM cy) (wM ad cy) A res) (F0 m 101 ls [.ref (st (100 + s0)), .ref (ad 0)]) := by
  have hx := hC.1
  have hb := hC.2.1
  unfold fX12_sayMore_101 at hf
  obtain ⟨σ20, g20, hf⟩ := zbu_use hf
  refine z_callVu (As := [.ref (st (100 + s0))]) (rest := []) hC hI (cX12_say_met st l D ad cy σ s0 _ g20) (zgV zw74_23 zw75_0 zw75_1 zw1_5 zw75_2) rfl ⟨rfl, rfl⟩ 1 hdX12_say ⟨Nat.le_of_ble_eq_true rfl, Nat.le_of_ble_eq_true rfl⟩ rfl rfl (wM_e0 ad cy σ) rfl hl rfl (Nat.le_of_ble_eq_true rfl) dX12_sayMore_101 ⟨Nat.zero_le _, Nat.zero_le _⟩ (fun H locs hI => ?_)
  refine lv_iload_n hx hb dX12_sayMore_104 rfl (lv_at hl 1 rfl) ?_
  refine lv_iconst (v := 5) hx hb dX12_sayMore_105 (by decide) ?_
  refine lv_icmp_le (tgt := 325) hx hb dX12_sayMore_106 (by decide) (fun q => ?_) (fun q => ?_)
  · replace hf := zif_t q hf
    exact bX12_sayMore_325 hC  hI (lv_sub hl [] rfl) hf
  replace hf := zif_f q hf
  refine lv_aload_n hx hb dX12_sayMore_109 rfl (lv_at hl 0 rfl) ?_
  refine z_ldcSW hC hI 160 (by decide) rfl rfl dX12_sayMore_110 ?_
  obtain ⟨σ21, g21, hf⟩ := zbu_use hf
  refine z_callVu (As := [.ref (st (100 + 160))]) (rest := []) hC hI (cX12_say_met st l D ad cy σ20 160 _ g21) (zgV zw74_23 zw75_0 zw75_1 zw1_5 zw75_2) rfl ⟨rfl, rfl⟩ 1 hdX12_say ⟨Nat.le_of_ble_eq_true rfl, Nat.le_of_ble_eq_true rfl⟩ rfl rfl (wM_e0 ad cy σ20) rfl hl rfl (Nat.le_of_ble_eq_true rfl) dX12_sayMore_113 ⟨Nat.zero_le _, Nat.zero_le _⟩ (fun H locs hI => ?_)
  refine lv_goto (tgt := 325) hx hb dX12_sayMore_116 (by decide) ?_
  exact bX12_sayMore_325 hC  hI (lv_sub hl [] rfl) hf
set_option maxRecDepth 20000 in
set_option maxHeartbeats 4000000 in
theorem bX12_sayMore_82 {st : Nat → Nat} {p : Program} {l : Launch} {e : Env} {s : State} {m : MethodId} {args : Array Value} {below : List Frame} {meth : Method} {c : Code} {D : va_G} {A : Nat → Prop} {ad : Nat → Nat} {cy : Nat → ClassId} (hC : zC p m c cX12_sayMore 6 s args wzX12_sayMore RX12 meth none)  {res : zSt} {H : Heap} {locs : List Loc} {σ : zSt} {ls : Array Slot} {x2 : Int32} {s0 : Nat} (hI : zI st D (tM cy) (wM ad cy σ) A s H locs) (hl : lv_has ls 6 [(0, .ref (ad 0)), (2, .int x2)]) (hf : fX12_sayMore_82  σ x2 s0 = some res) : W p l e rmX12_sayMore s m args below meth c H locs 0 0 (zQu below args s D (tM cy) (wM ad cy) A res) (F0 m 82 ls [.ref (st (100 + s0)), .ref (ad 0)]) := by
  have hx := hC.1
  have hb := hC.2.1
  unfold fX12_sayMore_82 at hf
  obtain ⟨σ22, g22, hf⟩ := zbu_use hf
  refine z_callVu (As := [.ref (st (100 + s0))]) (rest := []) hC hI (cX12_say_met st l D ad cy σ s0 _ g22) (zgV zw74_23 zw75_0 zw75_1 zw1_5 zw75_2) rfl ⟨rfl, rfl⟩ 1 hdX12_say ⟨Nat.le_of_ble_eq_true rfl, Nat.le_of_ble_eq_true rfl⟩ rfl rfl (wM_e0 ad cy σ) rfl hl rfl (Nat.le_of_ble_eq_true rfl) dX12_sayMore_82 ⟨Nat.zero_le _, Nat.zero_le _⟩ (fun H locs hI => ?_)
  refine lv_aload_n hx hb dX12_sayMore_85 rfl (lv_at hl 0 rfl) ?_
  refine lv_iload_n hx hb dX12_sayMore_86 rfl (lv_at hl 1 rfl) ?_
  refine lv_iconst (v := 2) hx hb dX12_sayMore_87 (by decide) ?_
  obtain ⟨q, hf⟩ := zck_use hf
  refine z_irem hx hb dX12_sayMore_88 (of_decide_eq_true q) ?_
  refine lv_if_ne (tgt := 98) hx hb dX12_sayMore_89 (by decide) (fun q => ?_) (fun q => ?_)
  · replace hf := zif_f q hf
    refine z_ldcSW hC hI 95 (by decide) rfl rfl dX12_sayMore_98 ?_
    exact bX12_sayMore_101 hC  hI hl hf
  replace hf := zif_t q hf
  refine z_ldcSW hC hI 159 (by decide) rfl rfl dX12_sayMore_92 ?_
  refine lv_goto (tgt := 101) hx hb dX12_sayMore_95 (by decide) ?_
  exact bX12_sayMore_101 hC  hI hl hf
set_option maxRecDepth 20000 in
set_option maxHeartbeats 4000000 in
theorem bX12_sayMore {st : Nat → Nat} {p : Program} {l : Launch} {e : Env} {s : State} {m : MethodId} {args : Array Value} {below : List Frame} {meth : Method} {c : Code} {D : va_G} {A : Nat → Prop} {ad : Nat → Nat} {cy : Nat → ClassId} (hC : zC p m c cX12_sayMore 6 s args wzX12_sayMore RX12 meth none)  {res : zSt} {H : Heap} {locs : List Loc} {σ : zSt} {ls : Array Slot} {x1 : Int32} (hI : zI st D (tM cy) (wM ad cy σ) A s H locs) (hl : lv_has ls 6 [(0, .ref (ad 0)), (1, .int x1)]) (hf : fX12_sayMore  σ x1 = some res) : W p l e rmX12_sayMore s m args below meth c H locs 0 0 (zQu below args s D (tM cy) (wM ad cy) A res) (F0 m 0 ls []) := by
  have hx := hC.1
  have hb := hC.2.1
  unfold fX12_sayMore at hf
  refine lv_iload_n hx hb dX12_sayMore_0 rfl (lv_at hl 1 rfl) ?_
  refine lv_iconst (v := 3) hx hb dX12_sayMore_1 (by decide) ?_
  refine lv_ishr hx hb dX12_sayMore_2 ?_
  refine lv_bipush (v := 7) hx hb dX12_sayMore_3 (by decide) ?_
  refine lv_iand hx hb dX12_sayMore_5 ?_
  refine lv_topi (fun v23 ev23 => ?_)
  replace hf := zbv_use ev23 hf
  refine lv_istore_n (lv' := [(2, .int v23), (0, .ref (ad 0)), (1, .int x1)]) hx hb dX12_sayMore_6 rfl hl (by decide) rfl (fun ls hl => ?_)
  refine lv_iload_n hx hb dX12_sayMore_7 rfl (lv_at hl 2 rfl) ?_
  refine lv_bipush (v := 7) hx hb dX12_sayMore_8 (by decide) ?_
  refine lv_iand hx hb dX12_sayMore_10 ?_
  refine lv_topi (fun v24 ev24 => ?_)
  replace hf := zbv_use ev24 hf
  refine lv_istore_n (lv' := [(3, .int v24), (2, .int v23), (0, .ref (ad 0)), (1, .int x1)]) hx hb dX12_sayMore_11 rfl hl (by decide) rfl (fun ls hl => ?_)
  refine lv_iload_n hx hb dX12_sayMore_12 rfl (lv_at hl 3 rfl) ?_
  refine lv_bipush (v := 6) hx hb dX12_sayMore_13 (by decide) ?_
  refine lv_ishr hx hb dX12_sayMore_15 ?_
  refine lv_topi (fun v25 ev25 => ?_)
  replace hf := zbv_use ev25 hf
  refine lv_istore (lv' := [(4, .int v25), (3, .int v24), (2, .int v23), (0, .ref (ad 0)), (1, .int x1)]) hx hb dX12_sayMore_16 hl (by decide) rfl (fun ls hl => ?_)
  refine lv_iload hx hb dX12_sayMore_18 (lv_at hl 0 rfl) ?_
  refine lv_iconst (v := 2) hx hb dX12_sayMore_20 (by decide) ?_
  refine lv_icmp_ne (tgt := 119) hx hb dX12_sayMore_21 (by decide) (fun q => ?_) (fun q => ?_)
  · replace hf := zif_f q hf
    exact bX12_sayMore_119 hC  hI (lv_sub hl [3, 2, 1, 0] rfl) hf
  replace hf := zif_t q hf
  refine lv_iload_n hx hb dX12_sayMore_24 rfl (lv_at hl 2 rfl) ?_
  refine lv_iconst (v := 3) hx hb dX12_sayMore_25 (by decide) ?_
  refine lv_icmp_le (tgt := 119) hx hb dX12_sayMore_26 (by decide) (fun q => ?_) (fun q => ?_)
  · replace hf := zif_t q hf
    exact bX12_sayMore_119 hC  hI (lv_sub hl [3, 2, 1, 0] rfl) hf
  replace hf := zif_f q hf
  refine lv_iload_n hx hb dX12_sayMore_29 rfl (lv_at hl 1 rfl) ?_
  refine lv_iconst (v := 4) hx hb dX12_sayMore_30 (by decide) ?_
  refine lv_icmp_ge (tgt := 119) hx hb dX12_sayMore_31 (by decide) (fun q => ?_) (fun q => ?_)
  · replace hf := zif_t q hf
    exact bX12_sayMore_119 hC  hI (lv_sub hl [3, 2, 1, 0] rfl) hf
  replace hf := zif_f q hf
  refine lv_aload_n hx hb dX12_sayMore_34 rfl (lv_at hl 3 rfl) ?_
  refine lv_iload_n hx hb dX12_sayMore_35 rfl (lv_at hl 1 rfl) ?_
  refine lv_if_ne (tgt := 45) hx hb dX12_sayMore_36 (by decide) (fun q => ?_) (fun q => ?_)
  · replace hf := zif_f q hf
    refine lv_iload_n hx hb dX12_sayMore_45 rfl (lv_at hl 1 rfl) ?_
    refine lv_iconst (v := 1) hx hb dX12_sayMore_46 (by decide) ?_
    refine lv_icmp_ne (tgt := 56) hx hb dX12_sayMore_47 (by decide) (fun q => ?_) (fun q => ?_)
    · replace hf := zif_f q hf
      refine lv_iload_n hx hb dX12_sayMore_56 rfl (lv_at hl 1 rfl) ?_
      refine lv_iconst (v := 2) hx hb dX12_sayMore_57 (by decide) ?_
      refine lv_icmp_ne (tgt := 67) hx hb dX12_sayMore_58 (by decide) (fun q => ?_) (fun q => ?_)
      · replace hf := zif_f q hf
        refine lv_iload_n hx hb dX12_sayMore_67 rfl (lv_at hl 2 rfl) ?_
        refine lv_bipush (v := 6) hx hb dX12_sayMore_68 (by decide) ?_
        refine lv_icmp_ge (tgt := 79) hx hb dX12_sayMore_70 (by decide) (fun q => ?_) (fun q => ?_)
        · replace hf := zif_t q hf
          refine z_ldcSW hC hI 158 (by decide) rfl rfl dX12_sayMore_79 ?_
          exact bX12_sayMore_82 hC  hI (lv_sub hl [3, 2] rfl) hf
        replace hf := zif_f q hf
        refine z_ldcSW hC hI 157 (by decide) rfl rfl dX12_sayMore_73 ?_
        refine lv_goto (tgt := 82) hx hb dX12_sayMore_76 (by decide) ?_
        exact bX12_sayMore_82 hC  hI (lv_sub hl [3, 2] rfl) hf
      replace hf := zif_t q hf
      refine z_ldcSW hC hI 156 (by decide) rfl rfl dX12_sayMore_61 ?_
      refine lv_goto (tgt := 82) hx hb dX12_sayMore_64 (by decide) ?_
      exact bX12_sayMore_82 hC  hI (lv_sub hl [3, 2] rfl) hf
    replace hf := zif_t q hf
    refine z_ldcSW hC hI 155 (by decide) rfl rfl dX12_sayMore_50 ?_
    refine lv_goto (tgt := 82) hx hb dX12_sayMore_53 (by decide) ?_
    exact bX12_sayMore_82 hC  hI (lv_sub hl [3, 2] rfl) hf
  replace hf := zif_t q hf
  refine z_ldcSW hC hI 154 (by decide) rfl rfl dX12_sayMore_39 ?_
  refine lv_goto (tgt := 82) hx hb dX12_sayMore_42 (by decide) ?_
  exact bX12_sayMore_82 hC  hI (lv_sub hl [3, 2] rfl) hf
set_option maxRecDepth 20000 in
theorem cX12_sayMore_met (st : Nat → Nat) (l : Launch) (D : va_G) (ad : Nat → Nat) (cy : Nat → ClassId) (σ : zSt) (x1 : Int32) (res : zSt) (hf : fX12_sayMore σ x1 = some res) (sz : Nat) : zMu st l yX12_sayMore wzX12_sayMore rmX12_sayMore [.ref (ad 0), .int x1] D (tM cy) (wM ad cy) sz σ res :=
  zMu.of (cc := cX12_sayMore) (maxL := 6) (ret := none) (by decide) rfl (Nat.le_of_ble_eq_true rfl) (fun p e s m args below meth c hC A hI ls hl => bX12_sayMore hC hI hl hf)
theorem hdX12_sayMore : yX12_sayMore.cls = RX12 ∧ yX12_sayMore.cls ≠ "java/lang/invoke/MethodHandle" ∧ yX12_sayMore.cls ≠ "java/lang/invoke/VarHandle" ∧ (parseMethodDescriptor yX12_sayMore.desc).map (fun d => d.parameters.length) = some 1 := by decide +kernel
noncomputable def rmX12_tell : Room := { frames := 10, cells := 0, slots := 0, locals := 254 }
noncomputable def wzX12_tell : List Cond := .code yX12_tell cX12_tell 4 (some .int) :: wsL_law
theorem hinX12_tell_X120 : ∀ w ∈ wsX120, w ∈ wzX12_tell := fun w h => List.mem_cons_of_mem _ (inlX12 w h)
noncomputable def fX12_tell_112  (σ : zSt) (x2 : Int32) : Option (zSt × Int32) :=
  some (σ, (zgi σ 0 40) - x2)
noncomputable def fX12_tell_65  (σ : zSt) (x2 : Int32) (s0 : Int32) : Option (zSt × Int32) :=
  zbu (fX12_sayPrefixed σ s0) (fun σ1 =>
  fX12_tell_112 σ1 x2)
noncomputable def fX12_tell_52  (σ : zSt) (x2 : Int32) (x3 : Int32) : Option (zSt × Int32) :=
  if x3 = 221 then fX12_tell_65 σ x2 1 else
  fX12_tell_65 σ x2 2
noncomputable def fX12_tell  (σ : zSt) (x1 : Int32) : Option (zSt × Int32) :=
  zbv (zsi σ 0 0 0) (fun σ2 =>
  zbv (zsi σ2 0 39 0) (fun σ3 =>
  zbv (zsi σ3 0 40 (x1 &&& 65535)) (fun σ4 =>
  zbv (zsi σ4 0 41 0) (fun σ5 =>
  zck (zbo 0) (zbv (zsi σ5 0 42 0) (fun σ6 =>
  zbv (zgi σ6 0 40) (fun v7 =>
  zbi (fX12_taken σ6 ) (fun σ8 v9 =>
  if v9 = 221 then fX12_tell_52 σ8 v7 v9 else
  if v9 = 253 then fX12_tell_52 σ8 v7 v9 else
  if v9 = 203 then zbi (fX12_taken σ8 ) (fun σ14 v15 =>
  zbu (fX12_sayTurn σ14 v15) (fun σ16 =>
  fX12_tell_112 σ16 v7)) else
  if v9 = 237 then zbi (fX12_taken σ8 ) (fun σ11 v12 =>
  zbu (fX12_sayMore σ11 v12) (fun σ13 =>
  fX12_tell_112 σ13 v7)) else
  zbu (fX12_sayPlain σ8 v9) (fun σ10 =>
  fX12_tell_112 σ10 v7)))))))))
set_option maxRecDepth 20000 in
set_option maxHeartbeats 4000000 in
theorem bX12_tell_112 {st : Nat → Nat} {p : Program} {l : Launch} {e : Env} {s : State} {m : MethodId} {args : Array Value} {below : List Frame} {meth : Method} {c : Code} {D : va_G} {A : Nat → Prop} {ad : Nat → Nat} {cy : Nat → ClassId} (hC : zC p m c cX12_tell 4 s args wzX12_tell RX12 meth (some .int))  {res : zSt × Int32} {H : Heap} {locs : List Loc} {σ : zSt} {ls : Array Slot} {x2 : Int32} (hI : zI st D (tM cy) (wM ad cy σ) A s H locs) (hl : lv_has ls 4 [(0, .ref (ad 0)), (2, .int x2)]) (hf : fX12_tell_112  σ x2 = some res) : W p l e rmX12_tell s m args below meth c H locs 0 0 (zQi below args s D (tM cy) (wM ad cy) A res) (F0 m 112 ls []) := by
  have hx := hC.1
  have hb := hC.2.1
  unfold fX12_tell_112 at hf
  refine lv_aload_n hx hb dX12_tell_112 rfl (lv_at hl 0 rfl) ?_
  refine z_get hC hI hinX12_tell_X120 0 (wM_e0 ad cy σ) rfl 40 (by decide) (List.mem_cons_of_mem _ zw74_11) rfl dX12_tell_113 ?_
  refine lv_iload_n hx hb dX12_tell_116 rfl (lv_at hl 1 rfl) ?_
  refine lv_isub hx hb dX12_tell_117 ?_
  exact z_ireturn hC hI hf dX12_tell_118
set_option maxRecDepth 20000 in
set_option maxHeartbeats 4000000 in
theorem bX12_tell_65 {st : Nat → Nat} {p : Program} {l : Launch} {e : Env} {s : State} {m : MethodId} {args : Array Value} {below : List Frame} {meth : Method} {c : Code} {D : va_G} {A : Nat → Prop} {ad : Nat → Nat} {cy : Nat → ClassId} (hC : zC p m c cX12_tell 4 s args wzX12_tell RX12 meth (some .int))  {res : zSt × Int32} {H : Heap} {locs : List Loc} {σ : zSt} {ls : Array Slot} {x2 : Int32} {s0 : Int32} (hI : zI st D (tM cy) (wM ad cy σ) A s H locs) (hl : lv_has ls 4 [(0, .ref (ad 0)), (2, .int x2)]) (hf : fX12_tell_65  σ x2 s0 = some res) : W p l e rmX12_tell s m args below meth c H locs 0 0 (zQi below args s D (tM cy) (wM ad cy) A res) (F0 m 65 ls [.int s0, .ref (ad 0)]) := by
  have hx := hC.1
  have hb := hC.2.1
  unfold fX12_tell_65 at hf
  obtain ⟨σ1, g1, hf⟩ := zbu_use hf
  refine z_callVu (As := [.int s0]) (rest := []) hC hI (cX12_sayPrefixed_met st l D ad cy σ s0 _ g1) (zgV zw74_18 zw74_19 zw74_20 zw1_5 zw74_21) rfl ⟨rfl, rfl⟩ 1 hdX12_sayPrefixed ⟨Nat.le_of_ble_eq_true rfl, Nat.le_of_ble_eq_true rfl⟩ rfl rfl (wM_e0 ad cy σ) rfl hl rfl (Nat.le_of_ble_eq_true rfl) dX12_tell_65 ⟨Nat.zero_le _, Nat.zero_le _⟩ (fun H locs hI => ?_)
  refine lv_goto (tgt := 112) hx hb dX12_tell_68 (by decide) ?_
  exact bX12_tell_112 hC  hI hl hf
set_option maxRecDepth 20000 in
set_option maxHeartbeats 4000000 in
theorem bX12_tell_52 {st : Nat → Nat} {p : Program} {l : Launch} {e : Env} {s : State} {m : MethodId} {args : Array Value} {below : List Frame} {meth : Method} {c : Code} {D : va_G} {A : Nat → Prop} {ad : Nat → Nat} {cy : Nat → ClassId} (hC : zC p m c cX12_tell 4 s args wzX12_tell RX12 meth (some .int))  {res : zSt × Int32} {H : Heap} {locs : List Loc} {σ : zSt} {ls : Array Slot} {x2 : Int32} {x3 : Int32} (hI : zI st D (tM cy) (wM ad cy σ) A s H locs) (hl : lv_has ls 4 [(0, .ref (ad 0)), (2, .int x2), (3, .int x3)]) (hf : fX12_tell_52  σ x2 x3 = some res) : W p l e rmX12_tell s m args below meth c H locs 0 0 (zQi below args s D (tM cy) (wM ad cy) A res) (F0 m 52 ls []) := by
  have hx := hC.1
  have hb := hC.2.1
  unfold fX12_tell_52 at hf
  refine lv_aload_n hx hb dX12_tell_52 rfl (lv_at hl 0 rfl) ?_
  refine lv_iload_n hx hb dX12_tell_53 rfl (lv_at hl 2 rfl) ?_
  refine lv_sipush (v := 221) hx hb dX12_tell_54 (by decide) ?_
  refine lv_icmp_ne (tgt := 64) hx hb dX12_tell_57 (by decide) (fun q => ?_) (fun q => ?_)
  · replace hf := zif_f q hf
    refine lv_iconst (v := 2) hx hb dX12_tell_64 (by decide) ?_
    exact bX12_tell_65 hC  hI (lv_sub hl [0, 1] rfl) hf
  replace hf := zif_t q hf
  refine lv_iconst (v := 1) hx hb dX12_tell_60 (by decide) ?_
  refine lv_goto (tgt := 65) hx hb dX12_tell_61 (by decide) ?_
  exact bX12_tell_65 hC  hI (lv_sub hl [0, 1] rfl) hf
set_option maxRecDepth 20000 in
set_option maxHeartbeats 4000000 in
theorem bX12_tell {st : Nat → Nat} {p : Program} {l : Launch} {e : Env} {s : State} {m : MethodId} {args : Array Value} {below : List Frame} {meth : Method} {c : Code} {D : va_G} {A : Nat → Prop} {ad : Nat → Nat} {cy : Nat → ClassId} (hC : zC p m c cX12_tell 4 s args wzX12_tell RX12 meth (some .int))  {res : zSt × Int32} {H : Heap} {locs : List Loc} {σ : zSt} {ls : Array Slot} {x1 : Int32} (hI : zI st D (tM cy) (wM ad cy σ) A s H locs) (hl : lv_has ls 4 [(0, .ref (ad 0)), (1, .int x1)]) (hf : fX12_tell  σ x1 = some res) : W p l e rmX12_tell s m args below meth c H locs 0 0 (zQi below args s D (tM cy) (wM ad cy) A res) (F0 m 0 ls []) := by
  have hx := hC.1
  have hb := hC.2.1
  unfold fX12_tell at hf
  refine lv_aload_n hx hb dX12_tell_0 rfl (lv_at hl 0 rfl) ?_
  refine lv_iconst (v := 0) hx hb dX12_tell_1 (by decide) ?_
  obtain ⟨σ2, eσ2⟩ : ∃ z, z = zsi σ 0 0 0 := ⟨_, rfl⟩
  replace hf := zbv_use eσ2 hf
  refine z_put hC hI hinX12_tell_X120 tyX12_ok nmX12 0 (wM_e0 ad cy σ) rfl 0 (by decide) (List.mem_cons_of_mem _ zw12_1) rfl rfl rfl (Nat.le_of_ble_eq_true rfl) ((wM_s0_0 ad cy σ 0).trans (congrArg (wM ad cy) eσ2.symm)) dX12_tell_2 (fun H locs hI => ?_)
  refine lv_aload_n hx hb dX12_tell_5 rfl (lv_at hl 0 rfl) ?_
  refine lv_iconst (v := 0) hx hb dX12_tell_6 (by decide) ?_
  obtain ⟨σ3, eσ3⟩ : ∃ z, z = zsi σ2 0 39 0 := ⟨_, rfl⟩
  replace hf := zbv_use eσ3 hf
  refine z_put hC hI hinX12_tell_X120 tyX12_ok nmX12 0 (wM_e0 ad cy σ2) rfl 39 (by decide) (List.mem_cons_of_mem _ zw74_10) rfl rfl rfl (Nat.le_of_ble_eq_true rfl) ((wM_s0_39 ad cy σ2 0).trans (congrArg (wM ad cy) eσ3.symm)) dX12_tell_7 (fun H locs hI => ?_)
  refine lv_aload_n hx hb dX12_tell_10 rfl (lv_at hl 0 rfl) ?_
  refine lv_iload_n hx hb dX12_tell_11 rfl (lv_at hl 1 rfl) ?_
  refine lv_ldc (v := 65535) hx hb hC.2.2.2.1 (hC.2.2.2.2.1 _ (List.mem_cons_of_mem _ zw16_11)) dX12_tell_12 ?_
  refine lv_iand hx hb dX12_tell_14 ?_
  obtain ⟨σ4, eσ4⟩ : ∃ z, z = zsi σ3 0 40 (x1 &&& 65535) := ⟨_, rfl⟩
  replace hf := zbv_use eσ4 hf
  refine z_put hC hI hinX12_tell_X120 tyX12_ok nmX12 0 (wM_e0 ad cy σ3) rfl 40 (by decide) (List.mem_cons_of_mem _ zw74_11) rfl rfl rfl (Nat.le_of_ble_eq_true rfl) ((wM_s0_40 ad cy σ3 (x1 &&& 65535)).trans (congrArg (wM ad cy) eσ4.symm)) dX12_tell_15 (fun H locs hI => ?_)
  refine lv_aload_n hx hb dX12_tell_18 rfl (lv_at hl 0 rfl) ?_
  refine lv_iconst (v := 0) hx hb dX12_tell_19 (by decide) ?_
  obtain ⟨σ5, eσ5⟩ : ∃ z, z = zsi σ4 0 41 0 := ⟨_, rfl⟩
  replace hf := zbv_use eσ5 hf
  refine z_put hC hI hinX12_tell_X120 tyX12_ok nmX12 0 (wM_e0 ad cy σ4) rfl 41 (by decide) (List.mem_cons_of_mem _ zw74_12) rfl rfl rfl (Nat.le_of_ble_eq_true rfl) ((wM_s0_41 ad cy σ4 0).trans (congrArg (wM ad cy) eσ5.symm)) dX12_tell_20 (fun H locs hI => ?_)
  refine lv_aload_n hx hb dX12_tell_23 rfl (lv_at hl 0 rfl) ?_
  refine lv_iconst (v := 0) hx hb dX12_tell_24 (by decide) ?_
  obtain ⟨q, hf⟩ := zck_use hf
  obtain ⟨σ6, eσ6⟩ : ∃ z, z = zsi σ5 0 42 0 := ⟨_, rfl⟩
  replace hf := zbv_use eσ6 hf
  refine z_put hC hI hinX12_tell_X120 tyX12_ok nmX12 0 (wM_e0 ad cy σ5) rfl 42 (by decide) (List.mem_cons_of_mem _ zw74_13) rfl (zbo_n q) (zbo_f q) (Nat.le_of_ble_eq_true rfl) ((wM_s0_42 ad cy σ5 0).trans (congrArg (wM ad cy) eσ6.symm)) dX12_tell_25 (fun H locs hI => ?_)
  refine lv_aload_n hx hb dX12_tell_28 rfl (lv_at hl 0 rfl) ?_
  refine z_get hC hI hinX12_tell_X120 0 (wM_e0 ad cy σ6) rfl 40 (by decide) (List.mem_cons_of_mem _ zw74_11) rfl dX12_tell_29 ?_
  refine lv_topi (fun v7 ev7 => ?_)
  replace hf := zbv_use ev7 hf
  refine lv_istore_n (lv' := [(2, .int v7), (0, .ref (ad 0)), (1, .int x1)]) hx hb dX12_tell_32 rfl hl (by decide) rfl (fun ls hl => ?_)
  refine lv_aload_n hx hb dX12_tell_33 rfl (lv_at hl 1 rfl) ?_
  obtain ⟨σ8, v9, g8, hf⟩ := zbi_use hf
  refine z_callVi (As := []) (rest := []) hC hI (cX12_taken_met st l D ad cy σ6  _ g8) (zgV zw74_14 zw74_15 zw74_16 zw1_5 zw74_17) rfl ⟨rfl, rfl⟩ 0 hdX12_taken ⟨Nat.le_of_ble_eq_true rfl, Nat.le_of_ble_eq_true rfl⟩ rfl rfl (wM_e0 ad cy σ6) rfl hl rfl (Nat.le_of_ble_eq_true rfl) dX12_tell_34 ⟨Nat.zero_le _, Nat.zero_le _⟩ (fun H locs hI => ?_)
  refine lv_istore_n (lv' := [(3, .int v9), (2, .int v7), (0, .ref (ad 0)), (1, .int x1)]) hx hb dX12_tell_37 rfl hl (by decide) rfl (fun ls hl => ?_)
  refine lv_iload_n hx hb dX12_tell_38 rfl (lv_at hl 0 rfl) ?_
  refine lv_sipush (v := 221) hx hb dX12_tell_39 (by decide) ?_
  refine lv_icmp_eq (tgt := 52) hx hb dX12_tell_42 (by decide) (fun q => ?_) (fun q => ?_)
  · replace hf := zif_t q hf
    exact bX12_tell_52 hC  hI (lv_sub hl [2, 1, 0] rfl) hf
  replace hf := zif_f q hf
  refine lv_iload_n hx hb dX12_tell_45 rfl (lv_at hl 0 rfl) ?_
  refine lv_sipush (v := 253) hx hb dX12_tell_46 (by decide) ?_
  refine lv_icmp_ne (tgt := 71) hx hb dX12_tell_49 (by decide) (fun q => ?_) (fun q => ?_)
  · replace hf := zif_f q hf
    refine lv_iload_n hx hb dX12_tell_71 rfl (lv_at hl 0 rfl) ?_
    refine lv_sipush (v := 203) hx hb dX12_tell_72 (by decide) ?_
    refine lv_icmp_ne (tgt := 89) hx hb dX12_tell_75 (by decide) (fun q => ?_) (fun q => ?_)
    · replace hf := zif_f q hf
      refine lv_iload_n hx hb dX12_tell_89 rfl (lv_at hl 0 rfl) ?_
      refine lv_sipush (v := 237) hx hb dX12_tell_90 (by decide) ?_
      refine lv_icmp_ne (tgt := 107) hx hb dX12_tell_93 (by decide) (fun q => ?_) (fun q => ?_)
      · replace hf := zif_f q hf
        refine lv_aload_n hx hb dX12_tell_107 rfl (lv_at hl 2 rfl) ?_
        refine lv_iload_n hx hb dX12_tell_108 rfl (lv_at hl 0 rfl) ?_
        obtain ⟨σ10, g10, hf⟩ := zbu_use hf
        refine z_callVu (As := [.int v9]) (rest := []) hC hI (cX12_sayPlain_met st l D ad cy σ8 v9 _ g10) (zgV zw76_0 zw76_1 zw76_2 zw1_5 zw76_3) rfl ⟨rfl, rfl⟩ 1 hdX12_sayPlain ⟨Nat.le_of_ble_eq_true rfl, Nat.le_of_ble_eq_true rfl⟩ rfl rfl (wM_e0 ad cy σ8) rfl hl rfl (Nat.le_of_ble_eq_true rfl) dX12_tell_109 ⟨Nat.zero_le _, Nat.zero_le _⟩ (fun H locs hI => ?_)
        exact bX12_tell_112 hC  hI (lv_sub hl [2, 1] rfl) hf
      replace hf := zif_t q hf
      refine lv_aload_n hx hb dX12_tell_96 rfl (lv_at hl 2 rfl) ?_
      refine lv_aload_n hx hb dX12_tell_97 rfl (lv_at hl 2 rfl) ?_
      obtain ⟨σ11, v12, g11, hf⟩ := zbi_use hf
      refine z_callVi (As := []) (rest := [.ref (ad 0)]) hC hI (cX12_taken_met st l D ad cy σ8  _ g11) (zgV zw74_14 zw74_15 zw74_16 zw1_5 zw74_17) rfl ⟨rfl, rfl⟩ 0 hdX12_taken ⟨Nat.le_of_ble_eq_true rfl, Nat.le_of_ble_eq_true rfl⟩ rfl rfl (wM_e0 ad cy σ8) rfl hl rfl (Nat.le_of_ble_eq_true rfl) dX12_tell_98 ⟨Nat.zero_le _, Nat.zero_le _⟩ (fun H locs hI => ?_)
      obtain ⟨σ13, g13, hf⟩ := zbu_use hf
      refine z_callVu (As := [.int v12]) (rest := []) hC hI (cX12_sayMore_met st l D ad cy σ11 v12 _ g13) (zgV zw77_20 zw77_21 zw77_22 zw1_5 zw77_23) rfl ⟨rfl, rfl⟩ 1 hdX12_sayMore ⟨Nat.le_of_ble_eq_true rfl, Nat.le_of_ble_eq_true rfl⟩ rfl rfl (wM_e0 ad cy σ11) rfl hl rfl (Nat.le_of_ble_eq_true rfl) dX12_tell_101 ⟨Nat.zero_le _, Nat.zero_le _⟩ (fun H locs hI => ?_)
      refine lv_goto (tgt := 112) hx hb dX12_tell_104 (by decide) ?_
      exact bX12_tell_112 hC  hI (lv_sub hl [2, 1] rfl) hf
    replace hf := zif_t q hf
    refine lv_aload_n hx hb dX12_tell_78 rfl (lv_at hl 2 rfl) ?_
    refine lv_aload_n hx hb dX12_tell_79 rfl (lv_at hl 2 rfl) ?_
    obtain ⟨σ14, v15, g14, hf⟩ := zbi_use hf
    refine z_callVi (As := []) (rest := [.ref (ad 0)]) hC hI (cX12_taken_met st l D ad cy σ8  _ g14) (zgV zw74_14 zw74_15 zw74_16 zw1_5 zw74_17) rfl ⟨rfl, rfl⟩ 0 hdX12_taken ⟨Nat.le_of_ble_eq_true rfl, Nat.le_of_ble_eq_true rfl⟩ rfl rfl (wM_e0 ad cy σ8) rfl hl rfl (Nat.le_of_ble_eq_true rfl) dX12_tell_80 ⟨Nat.zero_le _, Nat.zero_le _⟩ (fun H locs hI => ?_)
    obtain ⟨σ16, g16, hf⟩ := zbu_use hf
    refine z_callVu (As := [.int v15]) (rest := []) hC hI (cX12_sayTurn_met st l D ad cy σ14 v15 _ g16) (zgV zw75_4 zw75_5 zw75_6 zw1_5 zw75_7) rfl ⟨rfl, rfl⟩ 1 hdX12_sayTurn ⟨Nat.le_of_ble_eq_true rfl, Nat.le_of_ble_eq_true rfl⟩ rfl rfl (wM_e0 ad cy σ14) rfl hl rfl (Nat.le_of_ble_eq_true rfl) dX12_tell_83 ⟨Nat.zero_le _, Nat.zero_le _⟩ (fun H locs hI => ?_)
    refine lv_goto (tgt := 112) hx hb dX12_tell_86 (by decide) ?_
    exact bX12_tell_112 hC  hI (lv_sub hl [2, 1] rfl) hf
  replace hf := zif_t q hf
  exact bX12_tell_52 hC  hI (lv_sub hl [2, 1, 0] rfl) hf
set_option maxRecDepth 20000 in
theorem cX12_tell_met (st : Nat → Nat) (l : Launch) (D : va_G) (ad : Nat → Nat) (cy : Nat → ClassId) (σ : zSt) (x1 : Int32) (res : zSt × Int32) (hf : fX12_tell σ x1 = some res) (sz : Nat) : zMi st l yX12_tell wzX12_tell rmX12_tell [.ref (ad 0), .int x1] D (tM cy) (wM ad cy) sz σ res :=
  zMi.of (cc := cX12_tell) (maxL := 4) (ret := (some .int)) (by decide) rfl (Nat.le_of_ble_eq_true rfl) (fun p e s m args below meth c hC A hI ls hl => bX12_tell hC hI hl hf)
theorem hdX12_tell : yX12_tell.cls = RX12 ∧ yX12_tell.cls ≠ "java/lang/invoke/MethodHandle" ∧ yX12_tell.cls ≠ "java/lang/invoke/VarHandle" ∧ (parseMethodDescriptor yX12_tell.desc).map (fun d => d.parameters.length) = some 1 := by decide +kernel
noncomputable def rmX12_text : Room := { frames := 1, cells := 0, slots := 0, locals := 25 }
noncomputable def wzX12_text : List Cond := .code yX12_text cX12_text 5 (some .long) :: wsL_law
theorem hinX12_text_X120 : ∀ w ∈ wsX120, w ∈ wzX12_text := fun w h => List.mem_cons_of_mem _ (inlX12 w h)
noncomputable def fX12_text_70 (k37 : zSt → Int32 → Int64 → Int32 → Option (zSt × Int64)) (σ : zSt) (x1 : Int32) (x4 : Int32) (s0 : Int32) (s1 : Int64) : Option (zSt × Int64) :=
  zbv (s1 ||| (s0.toInt64)) (fun v1 =>
  zbv (x4 + (-1)) (fun v2 =>
  k37 σ x1 v1 v2))
noncomputable def fX12_text_37_body (k37 : zSt → Int32 → Int64 → Int32 → Option (zSt × Int64)) (σ : zSt) (x1 : Int32) (x2 : Int64) (x4 : Int32) : Option (zSt × Int64) :=
  if x4 < 0 then some (σ, x2) else
  if (zgi σ 0 39) ≤ (x1 + x4) then fX12_text_70 k37 σ x1 x4 0 (zlshl x2 8) else
  zck (zin (x1 + x4) 40) (
  fX12_text_70 k37 σ x1 x4 (zgi σ 26 (x1 + x4).toNatClampNeg) (zlshl x2 8))
noncomputable def fX12_text_37  : Nat → zSt → Int32 → Int64 → Int32 → Option (zSt × Int64)
  | 0, _, _, _, _ => none
  | n + 1, σ, x1, x2, x4 => fX12_text_37_body (fX12_text_37  n) σ x1 x2 x4
noncomputable def fX12_text_22  (σ : zSt) (x1 : Int32) (s0 : Int32) : Option (zSt × Int64) :=
  zbi (fX12_fails σ s0 1) (fun σ3 v4 =>
  if v4 = 0 then fX12_text_37 zfuel σ3 x1 0 7 else
  some (σ3, 0))
noncomputable def fX12_text  (σ : zSt) (x1 : Int32) : Option (zSt × Int64) :=
  zbi (fX12_within σ (x1.toInt64) 0 (((zgi σ 0 39) - 1).toInt64)) (fun σ5 v6 =>
  if v6 = 0 then fX12_text_22 σ5 x1 1 else
  fX12_text_22 σ5 x1 0)
set_option maxRecDepth 20000 in
set_option maxHeartbeats 4000000 in
theorem bX12_text_70 {st : Nat → Nat} {p : Program} {l : Launch} {e : Env} {s : State} {m : MethodId} {args : Array Value} {below : List Frame} {meth : Method} {c : Code} {D : va_G} {A : Nat → Prop} {ad : Nat → Nat} {cy : Nat → ClassId} (hC : zC p m c cX12_text 5 s args wzX12_text RX12 meth (some .long)) {k37 : zSt → Int32 → Int64 → Int32 → Option (zSt × Int64)} {res : zSt × Int64} (hk37 : ∀ (H : Heap) (locs : List Loc) (σ : zSt) (ls : Array Slot) (x1 : Int32) (x2 : Int64) (x4 : Int32), zI st D (tM cy) (wM ad cy σ) A s H locs → lv_has ls 5 [(0, .ref (ad 0)), (1, .int x1), (2, .long x2), (4, .int x4)] → k37 σ x1 x2 x4 = some res → W p l e rmX12_text s m args below meth c H locs 0 0 (zQl below args s D (tM cy) (wM ad cy) A res) (F0 m 37 ls [])) {H : Heap} {locs : List Loc} {σ : zSt} {ls : Array Slot} {x1 : Int32} {x4 : Int32} {s0 : Int32} {s1 : Int64} (hI : zI st D (tM cy) (wM ad cy σ) A s H locs) (hl : lv_has ls 5 [(0, .ref (ad 0)), (1, .int x1), (4, .int x4)]) (hf : fX12_text_70 k37 σ x1 x4 s0 s1 = some res) : W p l e rmX12_text s m args below meth c H locs 0 0 (zQl below args s D (tM cy) (wM ad cy) A res) (F0 m 70 ls [.int s0, .long s1]) := by
  have hx := hC.1
  have hb := hC.2.1
  unfold fX12_text_70 at hf
  refine lv_i2l (v := s0.toInt64) hx hb dX12_text_70 rfl ?_
  refine lv_lor hx hb dX12_text_71 ?_
  refine lv_topl (fun v1 ev1 => ?_)
  replace hf := zbv_use ev1 hf
  refine lv_lstore_n (lv' := [(2, .long v1), (0, .ref (ad 0)), (1, .int x1), (4, .int x4)]) hx hb dX12_text_72 rfl hl (by decide) rfl (fun ls hl => ?_)
  obtain ⟨v2, ev2⟩ : ∃ z : Int32, z = x4 + (-1) := ⟨_, rfl⟩
  replace hf := zbv_use ev2 hf
  refine lv_iinc (v := v2) (lv' := [(4, .int v2), (2, .long v1), (0, .ref (ad 0)), (1, .int x1)]) hx hb dX12_text_73 hl (k := 3) rfl (by rw [ev2]; rfl) (by decide) rfl (fun ls hl => ?_)
  refine lv_goto (tgt := 37) hx hb dX12_text_76 (by decide) ?_
  exact hk37 _ _ _ _ _ _ _ hI (lv_sub hl [2, 3, 1, 0] rfl) hf
set_option maxRecDepth 20000 in
set_option maxHeartbeats 4000000 in
theorem bX12_text_37_body {st : Nat → Nat} {p : Program} {l : Launch} {e : Env} {s : State} {m : MethodId} {args : Array Value} {below : List Frame} {meth : Method} {c : Code} {D : va_G} {A : Nat → Prop} {ad : Nat → Nat} {cy : Nat → ClassId} (hC : zC p m c cX12_text 5 s args wzX12_text RX12 meth (some .long)) {k37 : zSt → Int32 → Int64 → Int32 → Option (zSt × Int64)} {res : zSt × Int64} (hk37 : ∀ (H : Heap) (locs : List Loc) (σ : zSt) (ls : Array Slot) (x1 : Int32) (x2 : Int64) (x4 : Int32), zI st D (tM cy) (wM ad cy σ) A s H locs → lv_has ls 5 [(0, .ref (ad 0)), (1, .int x1), (2, .long x2), (4, .int x4)] → k37 σ x1 x2 x4 = some res → W p l e rmX12_text s m args below meth c H locs 0 0 (zQl below args s D (tM cy) (wM ad cy) A res) (F0 m 37 ls [])) {H : Heap} {locs : List Loc} {σ : zSt} {ls : Array Slot} {x1 : Int32} {x2 : Int64} {x4 : Int32} (hI : zI st D (tM cy) (wM ad cy σ) A s H locs) (hl : lv_has ls 5 [(0, .ref (ad 0)), (1, .int x1), (2, .long x2), (4, .int x4)]) (hf : fX12_text_37_body k37 σ x1 x2 x4 = some res) : W p l e rmX12_text s m args below meth c H locs 0 0 (zQl below args s D (tM cy) (wM ad cy) A res) (F0 m 37 ls []) := by
  have hx := hC.1
  have hb := hC.2.1
  unfold fX12_text_37_body at hf
  refine lv_iload hx hb dX12_text_37 (lv_at hl 3 rfl) ?_
  refine lv_if_lt (tgt := 79) hx hb dX12_text_39 (by decide) (fun q => ?_) (fun q => ?_)
  · replace hf := zif_t q hf
    refine lv_lload_n hx hb dX12_text_79 rfl (lv_at hl 2 rfl) ?_
    exact z_lreturn hC hI hf dX12_text_80
  replace hf := zif_f q hf
  refine lv_lload_n hx hb dX12_text_42 rfl (lv_at hl 2 rfl) ?_
  refine lv_bipush (v := 8) hx hb dX12_text_43 (by decide) ?_
  refine lv_lshl (v := zlshl x2 8) hx hb dX12_text_45 rfl ?_
  refine lv_iload_n hx hb dX12_text_46 rfl (lv_at hl 1 rfl) ?_
  refine lv_iload hx hb dX12_text_47 (lv_at hl 3 rfl) ?_
  refine lv_iadd hx hb dX12_text_49 ?_
  refine lv_aload_n hx hb dX12_text_50 rfl (lv_at hl 0 rfl) ?_
  refine z_get hC hI hinX12_text_X120 0 (wM_e0 ad cy σ) rfl 39 (by decide) (List.mem_cons_of_mem _ zw74_10) rfl dX12_text_51 ?_
  refine lv_icmp_ge (tgt := 69) hx hb dX12_text_54 (by decide) (fun q => ?_) (fun q => ?_)
  · replace hf := zif_t q hf
    refine lv_iconst (v := 0) hx hb dX12_text_69 (by decide) ?_
    exact bX12_text_70 hC hk37 hI (lv_sub hl [0, 1, 3] rfl) hf
  replace hf := zif_f q hf
  refine lv_aload_n hx hb dX12_text_57 rfl (lv_at hl 0 rfl) ?_
  refine z_get hC hI hinX12_text_X120 0 (wM_e0 ad cy σ) rfl 38 (by decide) (List.mem_cons_of_mem _ zw10_9) rfl dX12_text_58 ?_
  refine lv_iload_n hx hb dX12_text_61 rfl (lv_at hl 1 rfl) ?_
  refine lv_iload hx hb dX12_text_62 (lv_at hl 3 rfl) ?_
  refine lv_iadd hx hb dX12_text_64 ?_
  obtain ⟨q, hf⟩ := zck_use hf
  refine z_iald hC hI 26 25 (wM_e26 ad cy σ) (tM_t26 cy) q dX12_text_65 ?_
  refine lv_goto (tgt := 70) hx hb dX12_text_66 (by decide) ?_
  exact bX12_text_70 hC hk37 hI (lv_sub hl [0, 1, 3] rfl) hf
theorem blX12_text_37 {st : Nat → Nat} {p : Program} {l : Launch} {e : Env} {s : State} {m : MethodId} {args : Array Value} {below : List Frame} {meth : Method} {c : Code} {D : va_G} {A : Nat → Prop} {ad : Nat → Nat} {cy : Nat → ClassId} (hC : zC p m c cX12_text 5 s args wzX12_text RX12 meth (some .long))  {res : zSt × Int64} : ∀ (n : Nat) (H : Heap) (locs : List Loc) (σ : zSt) (ls : Array Slot) (x1 : Int32) (x2 : Int64) (x4 : Int32), zI st D (tM cy) (wM ad cy σ) A s H locs → lv_has ls 5 [(0, .ref (ad 0)), (1, .int x1), (2, .long x2), (4, .int x4)] → fX12_text_37  n σ x1 x2 x4 = some res → W p l e rmX12_text s m args below meth c H locs 0 0 (zQl below args s D (tM cy) (wM ad cy) A res) (F0 m 37 ls []) := by
  intro n
  induction n with
  | zero => intro H locs σ ls x1 x2 x4 hI hl hf; cases hf
  | succ n ih => intro H locs σ ls x1 x2 x4 hI hl hf; exact bX12_text_37_body hC ih hI hl hf
set_option maxRecDepth 20000 in
set_option maxHeartbeats 4000000 in
theorem bX12_text_22 {st : Nat → Nat} {p : Program} {l : Launch} {e : Env} {s : State} {m : MethodId} {args : Array Value} {below : List Frame} {meth : Method} {c : Code} {D : va_G} {A : Nat → Prop} {ad : Nat → Nat} {cy : Nat → ClassId} (hC : zC p m c cX12_text 5 s args wzX12_text RX12 meth (some .long))  {res : zSt × Int64} {H : Heap} {locs : List Loc} {σ : zSt} {ls : Array Slot} {x1 : Int32} {s0 : Int32} (hI : zI st D (tM cy) (wM ad cy σ) A s H locs) (hl : lv_has ls 5 [(0, .ref (ad 0)), (1, .int x1)]) (hf : fX12_text_22  σ x1 s0 = some res) : W p l e rmX12_text s m args below meth c H locs 0 0 (zQl below args s D (tM cy) (wM ad cy) A res) (F0 m 22 ls [.int s0, .ref (ad 0)]) := by
  have hx := hC.1
  have hb := hC.2.1
  unfold fX12_text_22 at hf
  refine lv_iconst (v := 1) hx hb dX12_text_22 (by decide) ?_
  obtain ⟨σ3, v4, g3, hf⟩ := zbi_use hf
  refine z_callVi (As := [.int s0, .int 1]) (rest := []) hC hI (cX12_fails_met st l D ad cy σ s0 1 _ g3) (zgV zw11_21 zw11_22 zw11_23 zw1_5 zw12_0) rfl ⟨rfl, rfl⟩ 2 hdX12_fails ⟨Nat.le_of_ble_eq_true rfl, Nat.le_of_ble_eq_true rfl⟩ rfl rfl (wM_e0 ad cy σ) rfl hl rfl (Nat.le_of_ble_eq_true rfl) dX12_text_23 ⟨Nat.zero_le _, Nat.zero_le _⟩ (fun H locs hI => ?_)
  refine lv_if_eq (tgt := 31) hx hb dX12_text_26 (by decide) (fun q => ?_) (fun q => ?_)
  · replace hf := zif_t q hf
    refine lv_lconst (v := 0) hx hb dX12_text_31 (by decide) ?_
    refine lv_lstore_n (lv' := [(2, .long 0), (0, .ref (ad 0)), (1, .int x1)]) hx hb dX12_text_32 rfl hl (by decide) rfl (fun ls hl => ?_)
    refine lv_bipush (v := 7) hx hb dX12_text_33 (by decide) ?_
    refine lv_istore (lv' := [(4, .int 7), (2, .long 0), (0, .ref (ad 0)), (1, .int x1)]) hx hb dX12_text_35 hl (by decide) rfl (fun ls hl => ?_)
    exact blX12_text_37 hC  zfuel _ _ _ _ _ _ _ hI (lv_sub hl [2, 3, 1, 0] rfl) hf
  replace hf := zif_f q hf
  refine lv_lconst (v := 0) hx hb dX12_text_29 (by decide) ?_
  exact z_lreturn hC hI hf dX12_text_30
set_option maxRecDepth 20000 in
set_option maxHeartbeats 4000000 in
theorem bX12_text {st : Nat → Nat} {p : Program} {l : Launch} {e : Env} {s : State} {m : MethodId} {args : Array Value} {below : List Frame} {meth : Method} {c : Code} {D : va_G} {A : Nat → Prop} {ad : Nat → Nat} {cy : Nat → ClassId} (hC : zC p m c cX12_text 5 s args wzX12_text RX12 meth (some .long))  {res : zSt × Int64} {H : Heap} {locs : List Loc} {σ : zSt} {ls : Array Slot} {x1 : Int32} (hI : zI st D (tM cy) (wM ad cy σ) A s H locs) (hl : lv_has ls 5 [(0, .ref (ad 0)), (1, .int x1)]) (hf : fX12_text  σ x1 = some res) : W p l e rmX12_text s m args below meth c H locs 0 0 (zQl below args s D (tM cy) (wM ad cy) A res) (F0 m 0 ls []) := by
  have hx := hC.1
  have hb := hC.2.1
  unfold fX12_text at hf
  refine lv_aload_n hx hb dX12_text_0 rfl (lv_at hl 0 rfl) ?_
  refine lv_iload_n hx hb dX12_text_1 rfl (lv_at hl 1 rfl) ?_
  refine lv_i2l (v := x1.toInt64) hx hb dX12_text_2 rfl ?_
  refine lv_lconst (v := 0) hx hb dX12_text_3 (by decide) ?_
  refine lv_aload_n hx hb dX12_text_4 rfl (lv_at hl 0 rfl) ?_
  refine z_get hC hI hinX12_text_X120 0 (wM_e0 ad cy σ) rfl 39 (by decide) (List.mem_cons_of_mem _ zw74_10) rfl dX12_text_5 ?_
  refine lv_iconst (v := 1) hx hb dX12_text_8 (by decide) ?_
  refine lv_isub hx hb dX12_text_9 ?_
  refine lv_i2l (v := ((zgi σ 0 39) - 1).toInt64) hx hb dX12_text_10 rfl ?_
  obtain ⟨σ5, v6, g5, hf⟩ := zbi_use hf
  refine z_callSi (As := [.long (x1.toInt64), .long 0, .long (((zgi σ 0 39) - 1).toInt64)]) (rest := [.ref (ad 0)]) hC hI (cX12_within_met st l D ad cy σ (x1.toInt64) 0 (((zgi σ 0 39) - 1).toInt64) _ g5) (zgS zw11_18 zw11_19 zw1_5 zw11_20) rfl ⟨rfl, rfl⟩ 3 hdX12_within ⟨Nat.le_of_ble_eq_true rfl, Nat.le_of_ble_eq_true rfl⟩ rfl hl rfl (Nat.le_of_ble_eq_true rfl) dX12_text_11 ⟨Nat.zero_le _, Nat.zero_le _⟩ (fun H locs hI => ?_)
  refine lv_if_ne (tgt := 21) hx hb dX12_text_14 (by decide) (fun q => ?_) (fun q => ?_)
  · replace hf := zif_f q hf
    refine lv_iconst (v := 0) hx hb dX12_text_21 (by decide) ?_
    exact bX12_text_22 hC  hI hl hf
  replace hf := zif_t q hf
  refine lv_iconst (v := 1) hx hb dX12_text_17 (by decide) ?_
  refine lv_goto (tgt := 22) hx hb dX12_text_18 (by decide) ?_
  exact bX12_text_22 hC  hI hl hf
set_option maxRecDepth 20000 in
theorem cX12_text_met (st : Nat → Nat) (l : Launch) (D : va_G) (ad : Nat → Nat) (cy : Nat → ClassId) (σ : zSt) (x1 : Int32) (res : zSt × Int64) (hf : fX12_text σ x1 = some res) (sz : Nat) : zMl st l yX12_text wzX12_text rmX12_text [.ref (ad 0), .int x1] D (tM cy) (wM ad cy) sz σ res :=
  zMl.of (cc := cX12_text) (maxL := 5) (ret := (some .long)) (by decide) rfl (Nat.le_of_ble_eq_true rfl) (fun p e s m args below meth c hC A hI ls hl => bX12_text hC hI hl hf)
theorem hdX12_text : yX12_text.cls = RX12 ∧ yX12_text.cls ≠ "java/lang/invoke/MethodHandle" ∧ yX12_text.cls ≠ "java/lang/invoke/VarHandle" ∧ (parseMethodDescriptor yX12_text.desc).map (fun d => d.parameters.length) = some 1 := by decide +kernel
end ZJN2
