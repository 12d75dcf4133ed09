def kn_cX12_sound : Nat := 0xac2e601b45101600b42a0c00a72e22101600b42a0d00a012101bac030500997200b604030400a70407009a6e00b8ba011409851b2a
theorem zk_cX12_sound : zkd cX12_sound.data.toList kn_cX12_sound = true := by decide +kernel
theorem zn_cX12_sound : cX12_sound.data.toList.length = 53 := by decide +kernel
theorem dX12_sound_0 : decode cX12_sound 0 = .ok (.aload_n 0, 1) := zo_42 (zkb zk_cX12_sound zn_cX12_sound (by decide +kernel))
theorem dX12_sound_1 : decode cX12_sound 1 = .ok (.iload_n 1, 1) := zo_27 (zkb zk_cX12_sound zn_cX12_sound (by decide +kernel))
theorem dX12_sound_2 : decode cX12_sound 2 = .ok (.i2l, 1) := zo_133 (zkb zk_cX12_sound zn_cX12_sound (by decide +kernel))
theorem dX12_sound_3 : decode cX12_sound 3 = .ok (.lconst 0, 1) := zo_9 (zkb zk_cX12_sound zn_cX12_sound (by decide +kernel))
theorem dX12_sound_4 : decode cX12_sound 4 = .ok (.ldc2_w 442, 3) := by decide +kernel
theorem dX12_sound_7 : decode cX12_sound 7 = .ok (.invokestatic 110, 3) := zo_184 (b1 := 0) (b2 := 110) (zkb3 zk_cX12_sound zn_cX12_sound (by decide +kernel)) rfl
theorem dX12_sound_10 : decode cX12_sound 10 = .ok (.ifCond .ne 7, 3) := zo_154 (b1 := 0) (b2 := 7) (zkb3 zk_cX12_sound zn_cX12_sound (by decide +kernel)) rfl
theorem dX12_sound_13 : decode cX12_sound 13 = .ok (.iconst 1, 1) := zo_4 (zkb zk_cX12_sound zn_cX12_sound (by decide +kernel))
theorem dX12_sound_14 : decode cX12_sound 14 = .ok (.goto 4, 3) := zo_167 (b1 := 0) (b2 := 4) (zkb3 zk_cX12_sound zn_cX12_sound (by decide +kernel)) rfl
theorem dX12_sound_17 : decode cX12_sound 17 = .ok (.iconst 0, 1) := zo_3 (zkb zk_cX12_sound zn_cX12_sound (by decide +kernel))
theorem dX12_sound_18 : decode cX12_sound 18 = .ok (.iconst 1, 1) := zo_4 (zkb zk_cX12_sound zn_cX12_sound (by decide +kernel))
theorem dX12_sound_19 : decode cX12_sound 19 = .ok (.invokevirtual 114, 3) := zo_182 (b1 := 0) (b2 := 114) (zkb3 zk_cX12_sound zn_cX12_sound (by decide +kernel)) rfl
theorem dX12_sound_22 : decode cX12_sound 22 = .ok (.ifCond .eq 5, 3) := zo_153 (b1 := 0) (b2 := 5) (zkb3 zk_cX12_sound zn_cX12_sound (by decide +kernel)) rfl
theorem dX12_sound_25 : decode cX12_sound 25 = .ok (.iconst 0, 1) := zo_3 (zkb zk_cX12_sound zn_cX12_sound (by decide +kernel))
theorem dX12_sound_26 : decode cX12_sound 26 = .ok (.ireturn, 1) := zo_172 (zkb zk_cX12_sound zn_cX12_sound (by decide +kernel))
theorem dX12_sound_27 : decode cX12_sound 27 = .ok (.iload_n 1, 1) := zo_27 (zkb zk_cX12_sound zn_cX12_sound (by decide +kernel))
theorem dX12_sound_28 : decode cX12_sound 28 = .ok (.bipush 18, 2) := zo_16 (b1 := 18) (zkb2 zk_cX12_sound zn_cX12_sound (by decide +kernel)) rfl
theorem dX12_sound_30 : decode cX12_sound 30 = .ok (.if_icmp .ne 13, 3) := zo_160 (b1 := 0) (b2 := 13) (zkb3 zk_cX12_sound zn_cX12_sound (by decide +kernel)) rfl
theorem dX12_sound_33 : decode cX12_sound 33 = .ok (.aload_n 0, 1) := zo_42 (zkb zk_cX12_sound zn_cX12_sound (by decide +kernel))
theorem dX12_sound_34 : decode cX12_sound 34 = .ok (.getfield 22, 3) := zo_180 (b1 := 0) (b2 := 22) (zkb3 zk_cX12_sound zn_cX12_sound (by decide +kernel)) rfl
theorem dX12_sound_37 : decode cX12_sound 37 = .ok (.bipush 34, 2) := zo_16 (b1 := 34) (zkb2 zk_cX12_sound zn_cX12_sound (by decide +kernel)) rfl
theorem dX12_sound_39 : decode cX12_sound 39 = .ok (.iaload, 1) := zo_46 (zkb zk_cX12_sound zn_cX12_sound (by decide +kernel))
theorem dX12_sound_40 : decode cX12_sound 40 = .ok (.goto 12, 3) := zo_167 (b1 := 0) (b2 := 12) (zkb3 zk_cX12_sound zn_cX12_sound (by decide +kernel)) rfl
theorem dX12_sound_43 : decode cX12_sound 43 = .ok (.aload_n 0, 1) := zo_42 (zkb zk_cX12_sound zn_cX12_sound (by decide +kernel))
theorem dX12_sound_44 : decode cX12_sound 44 = .ok (.getfield 22, 3) := zo_180 (b1 := 0) (b2 := 22) (zkb3 zk_cX12_sound zn_cX12_sound (by decide +kernel)) rfl
theorem dX12_sound_47 : decode cX12_sound 47 = .ok (.bipush 69, 2) := zo_16 (b1 := 69) (zkb2 zk_cX12_sound zn_cX12_sound (by decide +kernel)) rfl
theorem dX12_sound_49 : decode cX12_sound 49 = .ok (.iload_n 1, 1) := zo_27 (zkb zk_cX12_sound zn_cX12_sound (by decide +kernel))
theorem dX12_sound_50 : decode cX12_sound 50 = .ok (.iadd, 1) := zo_96 (zkb zk_cX12_sound zn_cX12_sound (by decide +kernel))
theorem dX12_sound_51 : decode cX12_sound 51 = .ok (.iaload, 1) := zo_46 (zkb zk_cX12_sound zn_cX12_sound (by decide +kernel))
theorem dX12_sound_52 : decode cX12_sound 52 = .ok (.ireturn, 1) := zo_172 (zkb zk_cX12_sound zn_cX12_sound (by decide +kernel))
def kn_cX12_reset : Nat := 0xb16600b62a6900b5032a
theorem zk_cX12_reset : zkd cX12_reset.data.toList kn_cX12_reset = true := by decide +kernel
theorem zn_cX12_reset : cX12_reset.data.toList.length = 10 := by decide +kernel
theorem dX12_reset_0 : decode cX12_reset 0 = .ok (.aload_n 0, 1) := zo_42 (zkb zk_cX12_reset zn_cX12_reset (by decide +kernel))
theorem dX12_reset_1 : decode cX12_reset 1 = .ok (.iconst 0, 1) := zo_3 (zkb zk_cX12_reset zn_cX12_reset (by decide +kernel))
theorem dX12_reset_2 : decode cX12_reset 2 = .ok (.putfield 105, 3) := zo_181 (b1 := 0) (b2 := 105) (zkb3 zk_cX12_reset zn_cX12_reset (by decide +kernel)) rfl
theorem dX12_reset_5 : decode cX12_reset 5 = .ok (.aload_n 0, 1) := zo_42 (zkb zk_cX12_reset zn_cX12_reset (by decide +kernel))
theorem dX12_reset_6 : decode cX12_reset 6 = .ok (.invokevirtual 102, 3) := zo_182 (b1 := 0) (b2 := 102) (zkb3 zk_cX12_reset zn_cX12_reset (by decide +kernel)) rfl
theorem dX12_reset_9 : decode cX12_reset 9 = .ok (.return_, 1) := zo_177 (zkb zk_cX12_reset zn_cX12_reset (by decide +kernel))
def kn_cX12_pause : Nat := 0xac044f041c101600b42aac030500a0056300b42a6900b5032a
theorem zk_cX12_pause : zkd cX12_pause.data.toList kn_cX12_pause = true := by decide +kernel
theorem zn_cX12_pause : cX12_pause.data.toList.length = 25 := by decide +kernel
theorem dX12_pause_0 : decode cX12_pause 0 = .ok (.aload_n 0, 1) := zo_42 (zkb zk_cX12_pause zn_cX12_pause (by decide +kernel))
theorem dX12_pause_1 : decode cX12_pause 1 = .ok (.iconst 0, 1) := zo_3 (zkb zk_cX12_pause zn_cX12_pause (by decide +kernel))
theorem dX12_pause_2 : decode cX12_pause 2 = .ok (.putfield 105, 3) := zo_181 (b1 := 0) (b2 := 105) (zkb3 zk_cX12_pause zn_cX12_pause (by decide +kernel)) rfl
theorem dX12_pause_5 : decode cX12_pause 5 = .ok (.aload_n 0, 1) := zo_42 (zkb zk_cX12_pause zn_cX12_pause (by decide +kernel))
theorem dX12_pause_6 : decode cX12_pause 6 = .ok (.getfield 99, 3) := zo_180 (b1 := 0) (b2 := 99) (zkb3 zk_cX12_pause zn_cX12_pause (by decide +kernel)) rfl
theorem dX12_pause_9 : decode cX12_pause 9 = .ok (.iconst 2, 1) := zo_5 (zkb zk_cX12_pause zn_cX12_pause (by decide +kernel))
theorem dX12_pause_10 : decode cX12_pause 10 = .ok (.if_icmp .ne 5, 3) := zo_160 (b1 := 0) (b2 := 5) (zkb3 zk_cX12_pause zn_cX12_pause (by decide +kernel)) rfl
theorem dX12_pause_13 : decode cX12_pause 13 = .ok (.iconst 0, 1) := zo_3 (zkb zk_cX12_pause zn_cX12_pause (by decide +kernel))
theorem dX12_pause_14 : decode cX12_pause 14 = .ok (.ireturn, 1) := zo_172 (zkb zk_cX12_pause zn_cX12_pause (by decide +kernel))
theorem dX12_pause_15 : decode cX12_pause 15 = .ok (.aload_n 0, 1) := zo_42 (zkb zk_cX12_pause zn_cX12_pause (by decide +kernel))
theorem dX12_pause_16 : decode cX12_pause 16 = .ok (.getfield 22, 3) := zo_180 (b1 := 0) (b2 := 22) (zkb3 zk_cX12_pause zn_cX12_pause (by decide +kernel)) rfl
theorem dX12_pause_19 : decode cX12_pause 19 = .ok (.bipush 28, 2) := zo_16 (b1 := 28) (zkb2 zk_cX12_pause zn_cX12_pause (by decide +kernel)) rfl
theorem dX12_pause_21 : decode cX12_pause 21 = .ok (.iconst 1, 1) := zo_4 (zkb zk_cX12_pause zn_cX12_pause (by decide +kernel))
theorem dX12_pause_22 : decode cX12_pause 22 = .ok (.iastore, 1) := zo_79 (zkb zk_cX12_pause zn_cX12_pause (by decide +kernel))
theorem dX12_pause_23 : decode cX12_pause 23 = .ok (.iconst 1, 1) := zo_4 (zkb zk_cX12_pause zn_cX12_pause (by decide +kernel))
theorem dX12_pause_24 : decode cX12_pause 24 = .ok (.ireturn, 1) := zo_172 (zkb zk_cX12_pause zn_cX12_pause (by decide +kernel))
def kn_cX12_press : Nat := 0xb14f1c601b2a101600b42ab10400997200b604030400a70407009a6e00b8bc011409851c0f00996e00b80a09851b2a
theorem zk_cX12_press : zkd cX12_press.data.toList kn_cX12_press = true := by decide +kernel
theorem zn_cX12_press : cX12_press.data.toList.length = 47 := by decide +kernel
theorem dX12_press_0 : decode cX12_press 0 = .ok (.aload_n 0, 1) := zo_42 (zkb zk_cX12_press zn_cX12_press (by decide +kernel))
theorem dX12_press_1 : decode cX12_press 1 = .ok (.iload_n 1, 1) := zo_27 (zkb zk_cX12_press zn_cX12_press (by decide +kernel))
theorem dX12_press_2 : decode cX12_press 2 = .ok (.i2l, 1) := zo_133 (zkb zk_cX12_press zn_cX12_press (by decide +kernel))
theorem dX12_press_3 : decode cX12_press 3 = .ok (.lconst 0, 1) := zo_9 (zkb zk_cX12_press zn_cX12_press (by decide +kernel))
theorem dX12_press_4 : decode cX12_press 4 = .ok (.lconst 1, 1) := zo_10 (zkb zk_cX12_press zn_cX12_press (by decide +kernel))
theorem dX12_press_5 : decode cX12_press 5 = .ok (.invokestatic 110, 3) := zo_184 (b1 := 0) (b2 := 110) (zkb3 zk_cX12_press zn_cX12_press (by decide +kernel)) rfl
theorem dX12_press_8 : decode cX12_press 8 = .ok (.ifCond .eq 15, 3) := zo_153 (b1 := 0) (b2 := 15) (zkb3 zk_cX12_press zn_cX12_press (by decide +kernel)) rfl
theorem dX12_press_11 : decode cX12_press 11 = .ok (.iload_n 2, 1) := zo_28 (zkb zk_cX12_press zn_cX12_press (by decide +kernel))
theorem dX12_press_12 : decode cX12_press 12 = .ok (.i2l, 1) := zo_133 (zkb zk_cX12_press zn_cX12_press (by decide +kernel))
theorem dX12_press_13 : decode cX12_press 13 = .ok (.lconst 0, 1) := zo_9 (zkb zk_cX12_press zn_cX12_press (by decide +kernel))
theorem dX12_press_14 : decode cX12_press 14 = .ok (.ldc2_w 444, 3) := by decide +kernel
theorem dX12_press_17 : decode cX12_press 17 = .ok (.invokestatic 110, 3) := zo_184 (b1 := 0) (b2 := 110) (zkb3 zk_cX12_press zn_cX12_press (by decide +kernel)) rfl
theorem dX12_press_20 : decode cX12_press 20 = .ok (.ifCond .ne 7, 3) := zo_154 (b1 := 0) (b2 := 7) (zkb3 zk_cX12_press zn_cX12_press (by decide +kernel)) rfl
theorem dX12_press_23 : decode cX12_press 23 = .ok (.iconst 1, 1) := zo_4 (zkb zk_cX12_press zn_cX12_press (by decide +kernel))
theorem dX12_press_24 : decode cX12_press 24 = .ok (.goto 4, 3) := zo_167 (b1 := 0) (b2 := 4) (zkb3 zk_cX12_press zn_cX12_press (by decide +kernel)) rfl
theorem dX12_press_27 : decode cX12_press 27 = .ok (.iconst 0, 1) := zo_3 (zkb zk_cX12_press zn_cX12_press (by decide +kernel))
theorem dX12_press_28 : decode cX12_press 28 = .ok (.iconst 1, 1) := zo_4 (zkb zk_cX12_press zn_cX12_press (by decide +kernel))
theorem dX12_press_29 : decode cX12_press 29 = .ok (.invokevirtual 114, 3) := zo_182 (b1 := 0) (b2 := 114) (zkb3 zk_cX12_press zn_cX12_press (by decide +kernel)) rfl
theorem dX12_press_32 : decode cX12_press 32 = .ok (.ifCond .eq 4, 3) := zo_153 (b1 := 0) (b2 := 4) (zkb3 zk_cX12_press zn_cX12_press (by decide +kernel)) rfl
theorem dX12_press_35 : decode cX12_press 35 = .ok (.return_, 1) := zo_177 (zkb zk_cX12_press zn_cX12_press (by decide +kernel))
theorem dX12_press_36 : decode cX12_press 36 = .ok (.aload_n 0, 1) := zo_42 (zkb zk_cX12_press zn_cX12_press (by decide +kernel))
theorem dX12_press_37 : decode cX12_press 37 = .ok (.getfield 22, 3) := zo_180 (b1 := 0) (b2 := 22) (zkb3 zk_cX12_press zn_cX12_press (by decide +kernel)) rfl
theorem dX12_press_40 : decode cX12_press 40 = .ok (.bipush 42, 2) := zo_16 (b1 := 42) (zkb2 zk_cX12_press zn_cX12_press (by decide +kernel)) rfl
theorem dX12_press_42 : decode cX12_press 42 = .ok (.iload_n 1, 1) := zo_27 (zkb zk_cX12_press zn_cX12_press (by decide +kernel))
theorem dX12_press_43 : decode cX12_press 43 = .ok (.iadd, 1) := zo_96 (zkb zk_cX12_press zn_cX12_press (by decide +kernel))
theorem dX12_press_44 : decode cX12_press 44 = .ok (.iload_n 2, 1) := zo_28 (zkb zk_cX12_press zn_cX12_press (by decide +kernel))
theorem dX12_press_45 : decode cX12_press 45 = .ok (.iastore, 1) := zo_79 (zkb zk_cX12_press zn_cX12_press (by decide +kernel))
theorem dX12_press_46 : decode cX12_press 46 = .ok (.return_, 1) := zo_177 (zkb zk_cX12_press zn_cX12_press (by decide +kernel))
def kn_cX12_start : Nat := 0xb14f030400a7040700991b2c101600b42a6900b5032a
theorem zk_cX12_start : zkd cX12_start.data.toList kn_cX12_start = true := by decide +kernel
theorem zn_cX12_start : cX12_start.data.toList.length = 22 := by decide +kernel
theorem dX12_start_0 : decode cX12_start 0 = .ok (.aload_n 0, 1) := zo_42 (zkb zk_cX12_start zn_cX12_start (by decide +kernel))
theorem dX12_start_1 : decode cX12_start 1 = .ok (.iconst 0, 1) := zo_3 (zkb zk_cX12_start zn_cX12_start (by decide +kernel))
theorem dX12_start_2 : decode cX12_start 2 = .ok (.putfield 105, 3) := zo_181 (b1 := 0) (b2 := 105) (zkb3 zk_cX12_start zn_cX12_start (by decide +kernel)) rfl
theorem dX12_start_5 : decode cX12_start 5 = .ok (.aload_n 0, 1) := zo_42 (zkb zk_cX12_start zn_cX12_start (by decide +kernel))
theorem dX12_start_6 : decode cX12_start 6 = .ok (.getfield 22, 3) := zo_180 (b1 := 0) (b2 := 22) (zkb3 zk_cX12_start zn_cX12_start (by decide +kernel)) rfl
theorem dX12_start_9 : decode cX12_start 9 = .ok (.bipush 44, 2) := zo_16 (b1 := 44) (zkb2 zk_cX12_start zn_cX12_start (by decide +kernel)) rfl
theorem dX12_start_11 : decode cX12_start 11 = .ok (.iload_n 1, 1) := zo_27 (zkb zk_cX12_start zn_cX12_start (by decide +kernel))
theorem dX12_start_12 : decode cX12_start 12 = .ok (.ifCond .eq 7, 3) := zo_153 (b1 := 0) (b2 := 7) (zkb3 zk_cX12_start zn_cX12_start (by decide +kernel)) rfl
theorem dX12_start_15 : decode cX12_start 15 = .ok (.iconst 1, 1) := zo_4 (zkb zk_cX12_start zn_cX12_start (by decide +kernel))
theorem dX12_start_16 : decode cX12_start 16 = .ok (.goto 4, 3) := zo_167 (b1 := 0) (b2 := 4) (zkb3 zk_cX12_start zn_cX12_start (by decide +kernel)) rfl
theorem dX12_start_19 : decode cX12_start 19 = .ok (.iconst 0, 1) := zo_3 (zkb zk_cX12_start zn_cX12_start (by decide +kernel))
theorem dX12_start_20 : decode cX12_start 20 = .ok (.iastore, 1) := zo_79 (zkb zk_cX12_start zn_cX12_start (by decide +kernel))
theorem dX12_start_21 : decode cX12_start 21 = .ok (.return_, 1) := zo_177 (zkb zk_cX12_start zn_cX12_start (by decide +kernel))
def kn_cX12_line : Nat := 0xb14f5301b62a23101600b42a0e00a0044c01b61b2a17009a1d4f030400a7040700991c601b2d101600b42a3e4c01b61b2ab10400997200b604030400a70407009a6e00b80a09851b2a
theorem zk_cX12_line : zkd cX12_line.data.toList kn_cX12_line = true := by decide +kernel
theorem zn_cX12_line : cX12_line.data.toList.length = 73 := by decide +kernel
theorem dX12_line_0 : decode cX12_line 0 = .ok (.aload_n 0, 1) := zo_42 (zkb zk_cX12_line zn_cX12_line (by decide +kernel))
theorem dX12_line_1 : decode cX12_line 1 = .ok (.iload_n 1, 1) := zo_27 (zkb zk_cX12_line zn_cX12_line (by decide +kernel))
theorem dX12_line_2 : decode cX12_line 2 = .ok (.i2l, 1) := zo_133 (zkb zk_cX12_line zn_cX12_line (by decide +kernel))
theorem dX12_line_3 : decode cX12_line 3 = .ok (.lconst 0, 1) := zo_9 (zkb zk_cX12_line zn_cX12_line (by decide +kernel))
theorem dX12_line_4 : decode cX12_line 4 = .ok (.lconst 1, 1) := zo_10 (zkb zk_cX12_line zn_cX12_line (by decide +kernel))
theorem dX12_line_5 : decode cX12_line 5 = .ok (.invokestatic 110, 3) := zo_184 (b1 := 0) (b2 := 110) (zkb3 zk_cX12_line zn_cX12_line (by decide +kernel)) rfl
theorem dX12_line_8 : decode cX12_line 8 = .ok (.ifCond .ne 7, 3) := zo_154 (b1 := 0) (b2 := 7) (zkb3 zk_cX12_line zn_cX12_line (by decide +kernel)) rfl
theorem dX12_line_11 : decode cX12_line 11 = .ok (.iconst 1, 1) := zo_4 (zkb zk_cX12_line zn_cX12_line (by decide +kernel))
theorem dX12_line_12 : decode cX12_line 12 = .ok (.goto 4, 3) := zo_167 (b1 := 0) (b2 := 4) (zkb3 zk_cX12_line zn_cX12_line (by decide +kernel)) rfl
theorem dX12_line_15 : decode cX12_line 15 = .ok (.iconst 0, 1) := zo_3 (zkb zk_cX12_line zn_cX12_line (by decide +kernel))
theorem dX12_line_16 : decode cX12_line 16 = .ok (.iconst 1, 1) := zo_4 (zkb zk_cX12_line zn_cX12_line (by decide +kernel))
theorem dX12_line_17 : decode cX12_line 17 = .ok (.invokevirtual 114, 3) := zo_182 (b1 := 0) (b2 := 114) (zkb3 zk_cX12_line zn_cX12_line (by decide +kernel)) rfl
theorem dX12_line_20 : decode cX12_line 20 = .ok (.ifCond .eq 4, 3) := zo_153 (b1 := 0) (b2 := 4) (zkb3 zk_cX12_line zn_cX12_line (by decide +kernel)) rfl
theorem dX12_line_23 : decode cX12_line 23 = .ok (.return_, 1) := zo_177 (zkb zk_cX12_line zn_cX12_line (by decide +kernel))
theorem dX12_line_24 : decode cX12_line 24 = .ok (.aload_n 0, 1) := zo_42 (zkb zk_cX12_line zn_cX12_line (by decide +kernel))
theorem dX12_line_25 : decode cX12_line 25 = .ok (.iload_n 1, 1) := zo_27 (zkb zk_cX12_line zn_cX12_line (by decide +kernel))
theorem dX12_line_26 : decode cX12_line 26 = .ok (.invokevirtual 332, 3) := zo_182 (b1 := 1) (b2 := 76) (zkb3 zk_cX12_line zn_cX12_line (by decide +kernel)) rfl
theorem dX12_line_29 : decode cX12_line 29 = .ok (.istore_n 3, 1) := zo_62 (zkb zk_cX12_line zn_cX12_line (by decide +kernel))
theorem dX12_line_30 : decode cX12_line 30 = .ok (.aload_n 0, 1) := zo_42 (zkb zk_cX12_line zn_cX12_line (by decide +kernel))
theorem dX12_line_31 : decode cX12_line 31 = .ok (.getfield 22, 3) := zo_180 (b1 := 0) (b2 := 22) (zkb3 zk_cX12_line zn_cX12_line (by decide +kernel)) rfl
theorem dX12_line_34 : decode cX12_line 34 = .ok (.bipush 45, 2) := zo_16 (b1 := 45) (zkb2 zk_cX12_line zn_cX12_line (by decide +kernel)) rfl
theorem dX12_line_36 : decode cX12_line 36 = .ok (.iload_n 1, 1) := zo_27 (zkb zk_cX12_line zn_cX12_line (by decide +kernel))
theorem dX12_line_37 : decode cX12_line 37 = .ok (.iadd, 1) := zo_96 (zkb zk_cX12_line zn_cX12_line (by decide +kernel))
theorem dX12_line_38 : decode cX12_line 38 = .ok (.iload_n 2, 1) := zo_28 (zkb zk_cX12_line zn_cX12_line (by decide +kernel))
theorem dX12_line_39 : decode cX12_line 39 = .ok (.ifCond .eq 7, 3) := zo_153 (b1 := 0) (b2 := 7) (zkb3 zk_cX12_line zn_cX12_line (by decide +kernel)) rfl
theorem dX12_line_42 : decode cX12_line 42 = .ok (.iconst 1, 1) := zo_4 (zkb zk_cX12_line zn_cX12_line (by decide +kernel))
theorem dX12_line_43 : decode cX12_line 43 = .ok (.goto 4, 3) := zo_167 (b1 := 0) (b2 := 4) (zkb3 zk_cX12_line zn_cX12_line (by decide +kernel)) rfl
theorem dX12_line_46 : decode cX12_line 46 = .ok (.iconst 0, 1) := zo_3 (zkb zk_cX12_line zn_cX12_line (by decide +kernel))
theorem dX12_line_47 : decode cX12_line 47 = .ok (.iastore, 1) := zo_79 (zkb zk_cX12_line zn_cX12_line (by decide +kernel))
theorem dX12_line_48 : decode cX12_line 48 = .ok (.iload_n 3, 1) := zo_29 (zkb zk_cX12_line zn_cX12_line (by decide +kernel))
theorem dX12_line_49 : decode cX12_line 49 = .ok (.ifCond .ne 23, 3) := zo_154 (b1 := 0) (b2 := 23) (zkb3 zk_cX12_line zn_cX12_line (by decide +kernel)) rfl
theorem dX12_line_52 : decode cX12_line 52 = .ok (.aload_n 0, 1) := zo_42 (zkb zk_cX12_line zn_cX12_line (by decide +kernel))
theorem dX12_line_53 : decode cX12_line 53 = .ok (.iload_n 1, 1) := zo_27 (zkb zk_cX12_line zn_cX12_line (by decide +kernel))
theorem dX12_line_54 : decode cX12_line 54 = .ok (.invokevirtual 332, 3) := zo_182 (b1 := 1) (b2 := 76) (zkb3 zk_cX12_line zn_cX12_line (by decide +kernel)) rfl
theorem dX12_line_57 : decode cX12_line 57 = .ok (.iconst 1, 1) := zo_4 (zkb zk_cX12_line zn_cX12_line (by decide +kernel))
theorem dX12_line_58 : decode cX12_line 58 = .ok (.if_icmp .ne 14, 3) := zo_160 (b1 := 0) (b2 := 14) (zkb3 zk_cX12_line zn_cX12_line (by decide +kernel)) rfl
theorem dX12_line_61 : decode cX12_line 61 = .ok (.aload_n 0, 1) := zo_42 (zkb zk_cX12_line zn_cX12_line (by decide +kernel))
theorem dX12_line_62 : decode cX12_line 62 = .ok (.getfield 22, 3) := zo_180 (b1 := 0) (b2 := 22) (zkb3 zk_cX12_line zn_cX12_line (by decide +kernel)) rfl
theorem dX12_line_65 : decode cX12_line 65 = .ok (.bipush 35, 2) := zo_16 (b1 := 35) (zkb2 zk_cX12_line zn_cX12_line (by decide +kernel)) rfl
theorem dX12_line_67 : decode cX12_line 67 = .ok (.aload_n 0, 1) := zo_42 (zkb zk_cX12_line zn_cX12_line (by decide +kernel))
theorem dX12_line_68 : decode cX12_line 68 = .ok (.invokevirtual 339, 3) := zo_182 (b1 := 1) (b2 := 83) (zkb3 zk_cX12_line zn_cX12_line (by decide +kernel)) rfl
theorem dX12_line_71 : decode cX12_line 71 = .ok (.iastore, 1) := zo_79 (zkb zk_cX12_line zn_cX12_line (by decide +kernel))
theorem dX12_line_72 : decode cX12_line 72 = .ok (.return_, 1) := zo_177 (zkb zk_cX12_line zn_cX12_line (by decide +kernel))
def kn_cX12_stop : Nat := 0xac2e59101600b42a4f64042e5c59101600b42a4f2e602e59101600b42a59101600b42a60041559101600b42aefffa701048409009f1b2e60041559101600b42a0436043e00991d42009a1c4f1b602e59101600b42a59101600b42a4f60042e5c59101600b42a1e009a1d2200991cac030500997200b605030400a7040700a008102e59101600b42a13009a1d1700991c2a24009a7200b604030400a70407009a6e00b8be011409851b2a3e8301b61b2a
theorem zk_cX12_stop : zkd cX12_stop.data.toList kn_cX12_stop = true := by decide +kernel
theorem zn_cX12_stop : cX12_stop.data.toList.length = 176 := by decide +kernel
theorem dX12_stop_0 : decode cX12_stop 0 = .ok (.aload_n 0, 1) := zo_42 (zkb zk_cX12_stop zn_cX12_stop (by decide +kernel))
theorem dX12_stop_1 : decode cX12_stop 1 = .ok (.iload_n 1, 1) := zo_27 (zkb zk_cX12_stop zn_cX12_stop (by decide +kernel))
theorem dX12_stop_2 : decode cX12_stop 2 = .ok (.invokevirtual 387, 3) := zo_182 (b1 := 1) (b2 := 131) (zkb3 zk_cX12_stop zn_cX12_stop (by decide +kernel)) rfl
theorem dX12_stop_5 : decode cX12_stop 5 = .ok (.istore_n 3, 1) := zo_62 (zkb zk_cX12_stop zn_cX12_stop (by decide +kernel))
theorem dX12_stop_6 : decode cX12_stop 6 = .ok (.aload_n 0, 1) := zo_42 (zkb zk_cX12_stop zn_cX12_stop (by decide +kernel))
theorem dX12_stop_7 : decode cX12_stop 7 = .ok (.iload_n 1, 1) := zo_27 (zkb zk_cX12_stop zn_cX12_stop (by decide +kernel))
theorem dX12_stop_8 : decode cX12_stop 8 = .ok (.i2l, 1) := zo_133 (zkb zk_cX12_stop zn_cX12_stop (by decide +kernel))
theorem dX12_stop_9 : decode cX12_stop 9 = .ok (.lconst 0, 1) := zo_9 (zkb zk_cX12_stop zn_cX12_stop (by decide +kernel))
theorem dX12_stop_10 : decode cX12_stop 10 = .ok (.ldc2_w 446, 3) := by decide +kernel
theorem dX12_stop_13 : decode cX12_stop 13 = .ok (.invokestatic 110, 3) := zo_184 (b1 := 0) (b2 := 110) (zkb3 zk_cX12_stop zn_cX12_stop (by decide +kernel)) rfl
theorem dX12_stop_16 : decode cX12_stop 16 = .ok (.ifCond .ne 7, 3) := zo_154 (b1 := 0) (b2 := 7) (zkb3 zk_cX12_stop zn_cX12_stop (by decide +kernel)) rfl
theorem dX12_stop_19 : decode cX12_stop 19 = .ok (.iconst 1, 1) := zo_4 (zkb zk_cX12_stop zn_cX12_stop (by decide +kernel))
theorem dX12_stop_20 : decode cX12_stop 20 = .ok (.goto 4, 3) := zo_167 (b1 := 0) (b2 := 4) (zkb3 zk_cX12_stop zn_cX12_stop (by decide +kernel)) rfl
theorem dX12_stop_23 : decode cX12_stop 23 = .ok (.iconst 0, 1) := zo_3 (zkb zk_cX12_stop zn_cX12_stop (by decide +kernel))
theorem dX12_stop_24 : decode cX12_stop 24 = .ok (.iconst 1, 1) := zo_4 (zkb zk_cX12_stop zn_cX12_stop (by decide +kernel))
theorem dX12_stop_25 : decode cX12_stop 25 = .ok (.invokevirtual 114, 3) := zo_182 (b1 := 0) (b2 := 114) (zkb3 zk_cX12_stop zn_cX12_stop (by decide +kernel)) rfl
theorem dX12_stop_28 : decode cX12_stop 28 = .ok (.ifCond .ne 36, 3) := zo_154 (b1 := 0) (b2 := 36) (zkb3 zk_cX12_stop zn_cX12_stop (by decide +kernel)) rfl
theorem dX12_stop_31 : decode cX12_stop 31 = .ok (.aload_n 0, 1) := zo_42 (zkb zk_cX12_stop zn_cX12_stop (by decide +kernel))
theorem dX12_stop_32 : decode cX12_stop 32 = .ok (.iload_n 2, 1) := zo_28 (zkb zk_cX12_stop zn_cX12_stop (by decide +kernel))
theorem dX12_stop_33 : decode cX12_stop 33 = .ok (.ifCond .eq 23, 3) := zo_153 (b1 := 0) (b2 := 23) (zkb3 zk_cX12_stop zn_cX12_stop (by decide +kernel)) rfl
theorem dX12_stop_36 : decode cX12_stop 36 = .ok (.iload_n 3, 1) := zo_29 (zkb zk_cX12_stop zn_cX12_stop (by decide +kernel))
theorem dX12_stop_37 : decode cX12_stop 37 = .ok (.ifCond .ne 19, 3) := zo_154 (b1 := 0) (b2 := 19) (zkb3 zk_cX12_stop zn_cX12_stop (by decide +kernel)) rfl
theorem dX12_stop_40 : decode cX12_stop 40 = .ok (.aload_n 0, 1) := zo_42 (zkb zk_cX12_stop zn_cX12_stop (by decide +kernel))
theorem dX12_stop_41 : decode cX12_stop 41 = .ok (.getfield 22, 3) := zo_180 (b1 := 0) (b2 := 22) (zkb3 zk_cX12_stop zn_cX12_stop (by decide +kernel)) rfl
theorem dX12_stop_44 : decode cX12_stop 44 = .ok (.bipush 89, 2) := zo_16 (b1 := 89) (zkb2 zk_cX12_stop zn_cX12_stop (by decide +kernel)) rfl
theorem dX12_stop_46 : decode cX12_stop 46 = .ok (.iaload, 1) := zo_46 (zkb zk_cX12_stop zn_cX12_stop (by decide +kernel))
theorem dX12_stop_47 : decode cX12_stop 47 = .ok (.bipush 8, 2) := zo_16 (b1 := 8) (zkb2 zk_cX12_stop zn_cX12_stop (by decide +kernel)) rfl
theorem dX12_stop_49 : decode cX12_stop 49 = .ok (.if_icmp .ne 7, 3) := zo_160 (b1 := 0) (b2 := 7) (zkb3 zk_cX12_stop zn_cX12_stop (by decide +kernel)) rfl
theorem dX12_stop_52 : decode cX12_stop 52 = .ok (.iconst 1, 1) := zo_4 (zkb zk_cX12_stop zn_cX12_stop (by decide +kernel))
theorem dX12_stop_53 : decode cX12_stop 53 = .ok (.goto 4, 3) := zo_167 (b1 := 0) (b2 := 4) (zkb3 zk_cX12_stop zn_cX12_stop (by decide +kernel)) rfl
theorem dX12_stop_56 : decode cX12_stop 56 = .ok (.iconst 0, 1) := zo_3 (zkb zk_cX12_stop zn_cX12_stop (by decide +kernel))
theorem dX12_stop_57 : decode cX12_stop 57 = .ok (.iconst 2, 1) := zo_5 (zkb zk_cX12_stop zn_cX12_stop (by decide +kernel))
theorem dX12_stop_58 : decode cX12_stop 58 = .ok (.invokevirtual 114, 3) := zo_182 (b1 := 0) (b2 := 114) (zkb3 zk_cX12_stop zn_cX12_stop (by decide +kernel)) rfl
theorem dX12_stop_61 : decode cX12_stop 61 = .ok (.ifCond .eq 5, 3) := zo_153 (b1 := 0) (b2 := 5) (zkb3 zk_cX12_stop zn_cX12_stop (by decide +kernel)) rfl
theorem dX12_stop_64 : decode cX12_stop 64 = .ok (.iconst 0, 1) := zo_3 (zkb zk_cX12_stop zn_cX12_stop (by decide +kernel))
theorem dX12_stop_65 : decode cX12_stop 65 = .ok (.ireturn, 1) := zo_172 (zkb zk_cX12_stop zn_cX12_stop (by decide +kernel))
theorem dX12_stop_66 : decode cX12_stop 66 = .ok (.iload_n 2, 1) := zo_28 (zkb zk_cX12_stop zn_cX12_stop (by decide +kernel))
theorem dX12_stop_67 : decode cX12_stop 67 = .ok (.ifCond .eq 34, 3) := zo_153 (b1 := 0) (b2 := 34) (zkb3 zk_cX12_stop zn_cX12_stop (by decide +kernel)) rfl
theorem dX12_stop_70 : decode cX12_stop 70 = .ok (.iload_n 3, 1) := zo_29 (zkb zk_cX12_stop zn_cX12_stop (by decide +kernel))
theorem dX12_stop_71 : decode cX12_stop 71 = .ok (.ifCond .ne 30, 3) := zo_154 (b1 := 0) (b2 := 30) (zkb3 zk_cX12_stop zn_cX12_stop (by decide +kernel)) rfl
theorem dX12_stop_74 : decode cX12_stop 74 = .ok (.aload_n 0, 1) := zo_42 (zkb zk_cX12_stop zn_cX12_stop (by decide +kernel))
theorem dX12_stop_75 : decode cX12_stop 75 = .ok (.getfield 22, 3) := zo_180 (b1 := 0) (b2 := 22) (zkb3 zk_cX12_stop zn_cX12_stop (by decide +kernel)) rfl
theorem dX12_stop_78 : decode cX12_stop 78 = .ok (.bipush 89, 2) := zo_16 (b1 := 89) (zkb2 zk_cX12_stop zn_cX12_stop (by decide +kernel)) rfl
theorem dX12_stop_80 : decode cX12_stop 80 = .ok (.dup2, 1) := zo_92 (zkb zk_cX12_stop zn_cX12_stop (by decide +kernel))
theorem dX12_stop_81 : decode cX12_stop 81 = .ok (.iaload, 1) := zo_46 (zkb zk_cX12_stop zn_cX12_stop (by decide +kernel))
theorem dX12_stop_82 : decode cX12_stop 82 = .ok (.iconst 1, 1) := zo_4 (zkb zk_cX12_stop zn_cX12_stop (by decide +kernel))
theorem dX12_stop_83 : decode cX12_stop 83 = .ok (.iadd, 1) := zo_96 (zkb zk_cX12_stop zn_cX12_stop (by decide +kernel))
theorem dX12_stop_84 : decode cX12_stop 84 = .ok (.iastore, 1) := zo_79 (zkb zk_cX12_stop zn_cX12_stop (by decide +kernel))
theorem dX12_stop_85 : decode cX12_stop 85 = .ok (.aload_n 0, 1) := zo_42 (zkb zk_cX12_stop zn_cX12_stop (by decide +kernel))
theorem dX12_stop_86 : decode cX12_stop 86 = .ok (.getfield 22, 3) := zo_180 (b1 := 0) (b2 := 22) (zkb3 zk_cX12_stop zn_cX12_stop (by decide +kernel)) rfl
theorem dX12_stop_89 : decode cX12_stop 89 = .ok (.bipush 89, 2) := zo_16 (b1 := 89) (zkb2 zk_cX12_stop zn_cX12_stop (by decide +kernel)) rfl
theorem dX12_stop_91 : decode cX12_stop 91 = .ok (.aload_n 0, 1) := zo_42 (zkb zk_cX12_stop zn_cX12_stop (by decide +kernel))
theorem dX12_stop_92 : decode cX12_stop 92 = .ok (.getfield 22, 3) := zo_180 (b1 := 0) (b2 := 22) (zkb3 zk_cX12_stop zn_cX12_stop (by decide +kernel)) rfl
theorem dX12_stop_95 : decode cX12_stop 95 = .ok (.bipush 89, 2) := zo_16 (b1 := 89) (zkb2 zk_cX12_stop zn_cX12_stop (by decide +kernel)) rfl
theorem dX12_stop_97 : decode cX12_stop 97 = .ok (.iaload, 1) := zo_46 (zkb zk_cX12_stop zn_cX12_stop (by decide +kernel))
theorem dX12_stop_98 : decode cX12_stop 98 = .ok (.iadd, 1) := zo_96 (zkb zk_cX12_stop zn_cX12_stop (by decide +kernel))
theorem dX12_stop_99 : decode cX12_stop 99 = .ok (.iload_n 1, 1) := zo_27 (zkb zk_cX12_stop zn_cX12_stop (by decide +kernel))
theorem dX12_stop_100 : decode cX12_stop 100 = .ok (.iastore, 1) := zo_79 (zkb zk_cX12_stop zn_cX12_stop (by decide +kernel))
theorem dX12_stop_101 : decode cX12_stop 101 = .ok (.iload_n 2, 1) := zo_28 (zkb zk_cX12_stop zn_cX12_stop (by decide +kernel))
theorem dX12_stop_102 : decode cX12_stop 102 = .ok (.ifCond .ne 66, 3) := zo_154 (b1 := 0) (b2 := 66) (zkb3 zk_cX12_stop zn_cX12_stop (by decide +kernel)) rfl
theorem dX12_stop_105 : decode cX12_stop 105 = .ok (.iload_n 3, 1) := zo_29 (zkb zk_cX12_stop zn_cX12_stop (by decide +kernel))
theorem dX12_stop_106 : decode cX12_stop 106 = .ok (.ifCond .eq 62, 3) := zo_153 (b1 := 0) (b2 := 62) (zkb3 zk_cX12_stop zn_cX12_stop (by decide +kernel)) rfl
theorem dX12_stop_109 : decode cX12_stop 109 = .ok (.iconst 1, 1) := zo_4 (zkb zk_cX12_stop zn_cX12_stop (by decide +kernel))
theorem dX12_stop_110 : decode cX12_stop 110 = .ok (.istore 4, 2) := zo_54 (b1 := 4) (zkb2 zk_cX12_stop zn_cX12_stop (by decide +kernel))
theorem dX12_stop_112 : decode cX12_stop 112 = .ok (.aload_n 0, 1) := zo_42 (zkb zk_cX12_stop zn_cX12_stop (by decide +kernel))
theorem dX12_stop_113 : decode cX12_stop 113 = .ok (.getfield 22, 3) := zo_180 (b1 := 0) (b2 := 22) (zkb3 zk_cX12_stop zn_cX12_stop (by decide +kernel)) rfl
theorem dX12_stop_116 : decode cX12_stop 116 = .ok (.bipush 89, 2) := zo_16 (b1 := 89) (zkb2 zk_cX12_stop zn_cX12_stop (by decide +kernel)) rfl
theorem dX12_stop_118 : decode cX12_stop 118 = .ok (.iload 4, 2) := zo_21 (b1 := 4) (zkb2 zk_cX12_stop zn_cX12_stop (by decide +kernel))
theorem dX12_stop_120 : decode cX12_stop 120 = .ok (.iadd, 1) := zo_96 (zkb zk_cX12_stop zn_cX12_stop (by decide +kernel))
theorem dX12_stop_121 : decode cX12_stop 121 = .ok (.iaload, 1) := zo_46 (zkb zk_cX12_stop zn_cX12_stop (by decide +kernel))
theorem dX12_stop_122 : decode cX12_stop 122 = .ok (.iload_n 1, 1) := zo_27 (zkb zk_cX12_stop zn_cX12_stop (by decide +kernel))
theorem dX12_stop_123 : decode cX12_stop 123 = .ok (.if_icmp .eq 9, 3) := zo_159 (b1 := 0) (b2 := 9) (zkb3 zk_cX12_stop zn_cX12_stop (by decide +kernel)) rfl
theorem dX12_stop_126 : decode cX12_stop 126 = .ok (.iinc 4 1, 3) := zo_132 (b1 := 4) (b2 := 1) (zkb3 zk_cX12_stop zn_cX12_stop (by decide +kernel)) rfl
theorem dX12_stop_129 : decode cX12_stop 129 = .ok (.goto (-17), 3) := zo_167 (b1 := 255) (b2 := 239) (zkb3 zk_cX12_stop zn_cX12_stop (by decide +kernel)) rfl
theorem dX12_stop_132 : decode cX12_stop 132 = .ok (.aload_n 0, 1) := zo_42 (zkb zk_cX12_stop zn_cX12_stop (by decide +kernel))
theorem dX12_stop_133 : decode cX12_stop 133 = .ok (.getfield 22, 3) := zo_180 (b1 := 0) (b2 := 22) (zkb3 zk_cX12_stop zn_cX12_stop (by decide +kernel)) rfl
theorem dX12_stop_136 : decode cX12_stop 136 = .ok (.bipush 89, 2) := zo_16 (b1 := 89) (zkb2 zk_cX12_stop zn_cX12_stop (by decide +kernel)) rfl
theorem dX12_stop_138 : decode cX12_stop 138 = .ok (.iload 4, 2) := zo_21 (b1 := 4) (zkb2 zk_cX12_stop zn_cX12_stop (by decide +kernel))
theorem dX12_stop_140 : decode cX12_stop 140 = .ok (.iadd, 1) := zo_96 (zkb zk_cX12_stop zn_cX12_stop (by decide +kernel))
theorem dX12_stop_141 : decode cX12_stop 141 = .ok (.aload_n 0, 1) := zo_42 (zkb zk_cX12_stop zn_cX12_stop (by decide +kernel))
theorem dX12_stop_142 : decode cX12_stop 142 = .ok (.getfield 22, 3) := zo_180 (b1 := 0) (b2 := 22) (zkb3 zk_cX12_stop zn_cX12_stop (by decide +kernel)) rfl
theorem dX12_stop_145 : decode cX12_stop 145 = .ok (.bipush 89, 2) := zo_16 (b1 := 89) (zkb2 zk_cX12_stop zn_cX12_stop (by decide +kernel)) rfl
theorem dX12_stop_147 : decode cX12_stop 147 = .ok (.aload_n 0, 1) := zo_42 (zkb zk_cX12_stop zn_cX12_stop (by decide +kernel))
theorem dX12_stop_148 : decode cX12_stop 148 = .ok (.getfield 22, 3) := zo_180 (b1 := 0) (b2 := 22) (zkb3 zk_cX12_stop zn_cX12_stop (by decide +kernel)) rfl
theorem dX12_stop_151 : decode cX12_stop 151 = .ok (.bipush 89, 2) := zo_16 (b1 := 89) (zkb2 zk_cX12_stop zn_cX12_stop (by decide +kernel)) rfl
theorem dX12_stop_153 : decode cX12_stop 153 = .ok (.iaload, 1) := zo_46 (zkb zk_cX12_stop zn_cX12_stop (by decide +kernel))
theorem dX12_stop_154 : decode cX12_stop 154 = .ok (.iadd, 1) := zo_96 (zkb zk_cX12_stop zn_cX12_stop (by decide +kernel))
theorem dX12_stop_155 : decode cX12_stop 155 = .ok (.iaload, 1) := zo_46 (zkb zk_cX12_stop zn_cX12_stop (by decide +kernel))
theorem dX12_stop_156 : decode cX12_stop 156 = .ok (.iastore, 1) := zo_79 (zkb zk_cX12_stop zn_cX12_stop (by decide +kernel))
theorem dX12_stop_157 : decode cX12_stop 157 = .ok (.aload_n 0, 1) := zo_42 (zkb zk_cX12_stop zn_cX12_stop (by decide +kernel))
theorem dX12_stop_158 : decode cX12_stop 158 = .ok (.getfield 22, 3) := zo_180 (b1 := 0) (b2 := 22) (zkb3 zk_cX12_stop zn_cX12_stop (by decide +kernel)) rfl
theorem dX12_stop_161 : decode cX12_stop 161 = .ok (.bipush 89, 2) := zo_16 (b1 := 89) (zkb2 zk_cX12_stop zn_cX12_stop (by decide +kernel)) rfl
theorem dX12_stop_163 : decode cX12_stop 163 = .ok (.dup2, 1) := zo_92 (zkb zk_cX12_stop zn_cX12_stop (by decide +kernel))
theorem dX12_stop_164 : decode cX12_stop 164 = .ok (.iaload, 1) := zo_46 (zkb zk_cX12_stop zn_cX12_stop (by decide +kernel))
theorem dX12_stop_165 : decode cX12_stop 165 = .ok (.iconst 1, 1) := zo_4 (zkb zk_cX12_stop zn_cX12_stop (by decide +kernel))
theorem dX12_stop_166 : decode cX12_stop 166 = .ok (.isub, 1) := zo_100 (zkb zk_cX12_stop zn_cX12_stop (by decide +kernel))
theorem dX12_stop_167 : decode cX12_stop 167 = .ok (.iastore, 1) := zo_79 (zkb zk_cX12_stop zn_cX12_stop (by decide +kernel))
theorem dX12_stop_168 : decode cX12_stop 168 = .ok (.aload_n 0, 1) := zo_42 (zkb zk_cX12_stop zn_cX12_stop (by decide +kernel))
theorem dX12_stop_169 : decode cX12_stop 169 = .ok (.getfield 22, 3) := zo_180 (b1 := 0) (b2 := 22) (zkb3 zk_cX12_stop zn_cX12_stop (by decide +kernel)) rfl
theorem dX12_stop_172 : decode cX12_stop 172 = .ok (.bipush 89, 2) := zo_16 (b1 := 89) (zkb2 zk_cX12_stop zn_cX12_stop (by decide +kernel)) rfl
theorem dX12_stop_174 : decode cX12_stop 174 = .ok (.iaload, 1) := zo_46 (zkb zk_cX12_stop zn_cX12_stop (by decide +kernel))
theorem dX12_stop_175 : decode cX12_stop 175 = .ok (.ireturn, 1) := zo_172 (zkb zk_cX12_stop zn_cX12_stop (by decide +kernel))
def kn_cX12_save : Nat := 0xb1deffa7010184502f1b3200b42a1b4d00b42a502f1b2f00b42a1b4a00b42a2100a20010111b3c03ebffa70101844f2e1b2c00b42a1b4700b42a1500a22b121b3c03ebffa701018454331b2800b42a1b4400b42a1500a240101b3c03eaffa701018454331b2500b42a1b4100b42a1500a20040111b3c03ebffa701018454331b2200b42a1b3e00b42a1500a221121b3c03eaffa701018454331b1e00b42a1b3b00b42a1500a20020111b3c03ecffa7010184502f1b1a00b42a1b3800b42a1500a2081b3c03eaffa70101844f2e1b1600b42a1b3500b42a1500a21804111b3c039000b5042a6900b5032a
theorem zk_cX12_save : zkd cX12_save.data.toList kn_cX12_save = true := by decide +kernel
theorem zn_cX12_save : cX12_save.data.toList.length = 234 := by decide +kernel
theorem dX12_save_0 : decode cX12_save 0 = .ok (.aload_n 0, 1) := zo_42 (zkb zk_cX12_save zn_cX12_save (by decide +kernel))
theorem dX12_save_1 : decode cX12_save 1 = .ok (.iconst 0, 1) := zo_3 (zkb zk_cX12_save zn_cX12_save (by decide +kernel))
theorem dX12_save_2 : decode cX12_save 2 = .ok (.putfield 105, 3) := zo_181 (b1 := 0) (b2 := 105) (zkb3 zk_cX12_save zn_cX12_save (by decide +kernel)) rfl
theorem dX12_save_5 : decode cX12_save 5 = .ok (.aload_n 0, 1) := zo_42 (zkb zk_cX12_save zn_cX12_save (by decide +kernel))
theorem dX12_save_6 : decode cX12_save 6 = .ok (.iconst 1, 1) := zo_4 (zkb zk_cX12_save zn_cX12_save (by decide +kernel))
theorem dX12_save_7 : decode cX12_save 7 = .ok (.putfield 144, 3) := zo_181 (b1 := 0) (b2 := 144) (zkb3 zk_cX12_save zn_cX12_save (by decide +kernel)) rfl
theorem dX12_save_10 : decode cX12_save 10 = .ok (.iconst 0, 1) := zo_3 (zkb zk_cX12_save zn_cX12_save (by decide +kernel))
theorem dX12_save_11 : decode cX12_save 11 = .ok (.istore_n 1, 1) := zo_60 (zkb zk_cX12_save zn_cX12_save (by decide +kernel))
theorem dX12_save_12 : decode cX12_save 12 = .ok (.iload_n 1, 1) := zo_27 (zkb zk_cX12_save zn_cX12_save (by decide +kernel))
theorem dX12_save_13 : decode cX12_save 13 = .ok (.sipush 1048, 3) := zo_17 (b1 := 4) (b2 := 24) (zkb3 zk_cX12_save zn_cX12_save (by decide +kernel)) rfl
theorem dX12_save_16 : decode cX12_save 16 = .ok (.if_icmp .ge 21, 3) := zo_162 (b1 := 0) (b2 := 21) (zkb3 zk_cX12_save zn_cX12_save (by decide +kernel)) rfl
theorem dX12_save_19 : decode cX12_save 19 = .ok (.aload_n 0, 1) := zo_42 (zkb zk_cX12_save zn_cX12_save (by decide +kernel))
theorem dX12_save_20 : decode cX12_save 20 = .ok (.getfield 53, 3) := zo_180 (b1 := 0) (b2 := 53) (zkb3 zk_cX12_save zn_cX12_save (by decide +kernel)) rfl
theorem dX12_save_23 : decode cX12_save 23 = .ok (.iload_n 1, 1) := zo_27 (zkb zk_cX12_save zn_cX12_save (by decide +kernel))
theorem dX12_save_24 : decode cX12_save 24 = .ok (.aload_n 0, 1) := zo_42 (zkb zk_cX12_save zn_cX12_save (by decide +kernel))
theorem dX12_save_25 : decode cX12_save 25 = .ok (.getfield 22, 3) := zo_180 (b1 := 0) (b2 := 22) (zkb3 zk_cX12_save zn_cX12_save (by decide +kernel)) rfl
theorem dX12_save_28 : decode cX12_save 28 = .ok (.iload_n 1, 1) := zo_27 (zkb zk_cX12_save zn_cX12_save (by decide +kernel))
theorem dX12_save_29 : decode cX12_save 29 = .ok (.iaload, 1) := zo_46 (zkb zk_cX12_save zn_cX12_save (by decide +kernel))
theorem dX12_save_30 : decode cX12_save 30 = .ok (.iastore, 1) := zo_79 (zkb zk_cX12_save zn_cX12_save (by decide +kernel))
theorem dX12_save_31 : decode cX12_save 31 = .ok (.iinc 1 1, 3) := zo_132 (b1 := 1) (b2 := 1) (zkb3 zk_cX12_save zn_cX12_save (by decide +kernel)) rfl
theorem dX12_save_34 : decode cX12_save 34 = .ok (.goto (-22), 3) := zo_167 (b1 := 255) (b2 := 234) (zkb3 zk_cX12_save zn_cX12_save (by decide +kernel)) rfl
theorem dX12_save_37 : decode cX12_save 37 = .ok (.iconst 0, 1) := zo_3 (zkb zk_cX12_save zn_cX12_save (by decide +kernel))
theorem dX12_save_38 : decode cX12_save 38 = .ok (.istore_n 1, 1) := zo_60 (zkb zk_cX12_save zn_cX12_save (by decide +kernel))
theorem dX12_save_39 : decode cX12_save 39 = .ok (.iload_n 1, 1) := zo_27 (zkb zk_cX12_save zn_cX12_save (by decide +kernel))
theorem dX12_save_40 : decode cX12_save 40 = .ok (.iconst 5, 1) := zo_8 (zkb zk_cX12_save zn_cX12_save (by decide +kernel))
theorem dX12_save_41 : decode cX12_save 41 = .ok (.if_icmp .ge 21, 3) := zo_162 (b1 := 0) (b2 := 21) (zkb3 zk_cX12_save zn_cX12_save (by decide +kernel)) rfl
theorem dX12_save_44 : decode cX12_save 44 = .ok (.aload_n 0, 1) := zo_42 (zkb zk_cX12_save zn_cX12_save (by decide +kernel))
theorem dX12_save_45 : decode cX12_save 45 = .ok (.getfield 56, 3) := zo_180 (b1 := 0) (b2 := 56) (zkb3 zk_cX12_save zn_cX12_save (by decide +kernel)) rfl
theorem dX12_save_48 : decode cX12_save 48 = .ok (.iload_n 1, 1) := zo_27 (zkb zk_cX12_save zn_cX12_save (by decide +kernel))
theorem dX12_save_49 : decode cX12_save 49 = .ok (.aload_n 0, 1) := zo_42 (zkb zk_cX12_save zn_cX12_save (by decide +kernel))
theorem dX12_save_50 : decode cX12_save 50 = .ok (.getfield 26, 3) := zo_180 (b1 := 0) (b2 := 26) (zkb3 zk_cX12_save zn_cX12_save (by decide +kernel)) rfl
theorem dX12_save_53 : decode cX12_save 53 = .ok (.iload_n 1, 1) := zo_27 (zkb zk_cX12_save zn_cX12_save (by decide +kernel))
theorem dX12_save_54 : decode cX12_save 54 = .ok (.laload, 1) := zo_47 (zkb zk_cX12_save zn_cX12_save (by decide +kernel))
theorem dX12_save_55 : decode cX12_save 55 = .ok (.lastore, 1) := zo_80 (zkb zk_cX12_save zn_cX12_save (by decide +kernel))
theorem dX12_save_56 : decode cX12_save 56 = .ok (.iinc 1 1, 3) := zo_132 (b1 := 1) (b2 := 1) (zkb3 zk_cX12_save zn_cX12_save (by decide +kernel)) rfl
theorem dX12_save_59 : decode cX12_save 59 = .ok (.goto (-20), 3) := zo_167 (b1 := 255) (b2 := 236) (zkb3 zk_cX12_save zn_cX12_save (by decide +kernel)) rfl
theorem dX12_save_62 : decode cX12_save 62 = .ok (.iconst 0, 1) := zo_3 (zkb zk_cX12_save zn_cX12_save (by decide +kernel))
theorem dX12_save_63 : decode cX12_save 63 = .ok (.istore_n 1, 1) := zo_60 (zkb zk_cX12_save zn_cX12_save (by decide +kernel))
theorem dX12_save_64 : decode cX12_save 64 = .ok (.iload_n 1, 1) := zo_27 (zkb zk_cX12_save zn_cX12_save (by decide +kernel))
theorem dX12_save_65 : decode cX12_save 65 = .ok (.sipush 8192, 3) := zo_17 (b1 := 32) (b2 := 0) (zkb3 zk_cX12_save zn_cX12_save (by decide +kernel)) rfl
theorem dX12_save_68 : decode cX12_save 68 = .ok (.if_icmp .ge 21, 3) := zo_162 (b1 := 0) (b2 := 21) (zkb3 zk_cX12_save zn_cX12_save (by decide +kernel)) rfl
theorem dX12_save_71 : decode cX12_save 71 = .ok (.aload_n 0, 1) := zo_42 (zkb zk_cX12_save zn_cX12_save (by decide +kernel))
theorem dX12_save_72 : decode cX12_save 72 = .ok (.getfield 59, 3) := zo_180 (b1 := 0) (b2 := 59) (zkb3 zk_cX12_save zn_cX12_save (by decide +kernel)) rfl
theorem dX12_save_75 : decode cX12_save 75 = .ok (.iload_n 1, 1) := zo_27 (zkb zk_cX12_save zn_cX12_save (by decide +kernel))
theorem dX12_save_76 : decode cX12_save 76 = .ok (.aload_n 0, 1) := zo_42 (zkb zk_cX12_save zn_cX12_save (by decide +kernel))
theorem dX12_save_77 : decode cX12_save 77 = .ok (.getfield 30, 3) := zo_180 (b1 := 0) (b2 := 30) (zkb3 zk_cX12_save zn_cX12_save (by decide +kernel)) rfl
theorem dX12_save_80 : decode cX12_save 80 = .ok (.iload_n 1, 1) := zo_27 (zkb zk_cX12_save zn_cX12_save (by decide +kernel))
theorem dX12_save_81 : decode cX12_save 81 = .ok (.baload, 1) := zo_51 (zkb zk_cX12_save zn_cX12_save (by decide +kernel))
theorem dX12_save_82 : decode cX12_save 82 = .ok (.bastore, 1) := zo_84 (zkb zk_cX12_save zn_cX12_save (by decide +kernel))
theorem dX12_save_83 : decode cX12_save 83 = .ok (.iinc 1 1, 3) := zo_132 (b1 := 1) (b2 := 1) (zkb3 zk_cX12_save zn_cX12_save (by decide +kernel)) rfl
theorem dX12_save_86 : decode cX12_save 86 = .ok (.goto (-22), 3) := zo_167 (b1 := 255) (b2 := 234) (zkb3 zk_cX12_save zn_cX12_save (by decide +kernel)) rfl
theorem dX12_save_89 : decode cX12_save 89 = .ok (.iconst 0, 1) := zo_3 (zkb zk_cX12_save zn_cX12_save (by decide +kernel))
theorem dX12_save_90 : decode cX12_save 90 = .ok (.istore_n 1, 1) := zo_60 (zkb zk_cX12_save zn_cX12_save (by decide +kernel))
theorem dX12_save_91 : decode cX12_save 91 = .ok (.iload_n 1, 1) := zo_27 (zkb zk_cX12_save zn_cX12_save (by decide +kernel))
theorem dX12_save_92 : decode cX12_save 92 = .ok (.ldc 33, 2) := zo_18 (b1 := 33) (zkb2 zk_cX12_save zn_cX12_save (by decide +kernel))
theorem dX12_save_94 : decode cX12_save 94 = .ok (.if_icmp .ge 21, 3) := zo_162 (b1 := 0) (b2 := 21) (zkb3 zk_cX12_save zn_cX12_save (by decide +kernel)) rfl
theorem dX12_save_97 : decode cX12_save 97 = .ok (.aload_n 0, 1) := zo_42 (zkb zk_cX12_save zn_cX12_save (by decide +kernel))
theorem dX12_save_98 : decode cX12_save 98 = .ok (.getfield 62, 3) := zo_180 (b1 := 0) (b2 := 62) (zkb3 zk_cX12_save zn_cX12_save (by decide +kernel)) rfl
theorem dX12_save_101 : decode cX12_save 101 = .ok (.iload_n 1, 1) := zo_27 (zkb zk_cX12_save zn_cX12_save (by decide +kernel))
theorem dX12_save_102 : decode cX12_save 102 = .ok (.aload_n 0, 1) := zo_42 (zkb zk_cX12_save zn_cX12_save (by decide +kernel))
theorem dX12_save_103 : decode cX12_save 103 = .ok (.getfield 34, 3) := zo_180 (b1 := 0) (b2 := 34) (zkb3 zk_cX12_save zn_cX12_save (by decide +kernel)) rfl
theorem dX12_save_106 : decode cX12_save 106 = .ok (.iload_n 1, 1) := zo_27 (zkb zk_cX12_save zn_cX12_save (by decide +kernel))
theorem dX12_save_107 : decode cX12_save 107 = .ok (.baload, 1) := zo_51 (zkb zk_cX12_save zn_cX12_save (by decide +kernel))
theorem dX12_save_108 : decode cX12_save 108 = .ok (.bastore, 1) := zo_84 (zkb zk_cX12_save zn_cX12_save (by decide +kernel))
theorem dX12_save_109 : decode cX12_save 109 = .ok (.iinc 1 1, 3) := zo_132 (b1 := 1) (b2 := 1) (zkb3 zk_cX12_save zn_cX12_save (by decide +kernel)) rfl
theorem dX12_save_112 : decode cX12_save 112 = .ok (.goto (-21), 3) := zo_167 (b1 := 255) (b2 := 235) (zkb3 zk_cX12_save zn_cX12_save (by decide +kernel)) rfl
theorem dX12_save_115 : decode cX12_save 115 = .ok (.iconst 0, 1) := zo_3 (zkb zk_cX12_save zn_cX12_save (by decide +kernel))
theorem dX12_save_116 : decode cX12_save 116 = .ok (.istore_n 1, 1) := zo_60 (zkb zk_cX12_save zn_cX12_save (by decide +kernel))
theorem dX12_save_117 : decode cX12_save 117 = .ok (.iload_n 1, 1) := zo_27 (zkb zk_cX12_save zn_cX12_save (by decide +kernel))
theorem dX12_save_118 : decode cX12_save 118 = .ok (.sipush 16384, 3) := zo_17 (b1 := 64) (b2 := 0) (zkb3 zk_cX12_save zn_cX12_save (by decide +kernel)) rfl
theorem dX12_save_121 : decode cX12_save 121 = .ok (.if_icmp .ge 21, 3) := zo_162 (b1 := 0) (b2 := 21) (zkb3 zk_cX12_save zn_cX12_save (by decide +kernel)) rfl
theorem dX12_save_124 : decode cX12_save 124 = .ok (.aload_n 0, 1) := zo_42 (zkb zk_cX12_save zn_cX12_save (by decide +kernel))
theorem dX12_save_125 : decode cX12_save 125 = .ok (.getfield 65, 3) := zo_180 (b1 := 0) (b2 := 65) (zkb3 zk_cX12_save zn_cX12_save (by decide +kernel)) rfl
theorem dX12_save_128 : decode cX12_save 128 = .ok (.iload_n 1, 1) := zo_27 (zkb zk_cX12_save zn_cX12_save (by decide +kernel))
theorem dX12_save_129 : decode cX12_save 129 = .ok (.aload_n 0, 1) := zo_42 (zkb zk_cX12_save zn_cX12_save (by decide +kernel))
theorem dX12_save_130 : decode cX12_save 130 = .ok (.getfield 37, 3) := zo_180 (b1 := 0) (b2 := 37) (zkb3 zk_cX12_save zn_cX12_save (by decide +kernel)) rfl
theorem dX12_save_133 : decode cX12_save 133 = .ok (.iload_n 1, 1) := zo_27 (zkb zk_cX12_save zn_cX12_save (by decide +kernel))
theorem dX12_save_134 : decode cX12_save 134 = .ok (.baload, 1) := zo_51 (zkb zk_cX12_save zn_cX12_save (by decide +kernel))
theorem dX12_save_135 : decode cX12_save 135 = .ok (.bastore, 1) := zo_84 (zkb zk_cX12_save zn_cX12_save (by decide +kernel))
theorem dX12_save_136 : decode cX12_save 136 = .ok (.iinc 1 1, 3) := zo_132 (b1 := 1) (b2 := 1) (zkb3 zk_cX12_save zn_cX12_save (by decide +kernel)) rfl
theorem dX12_save_139 : decode cX12_save 139 = .ok (.goto (-22), 3) := zo_167 (b1 := 255) (b2 := 234) (zkb3 zk_cX12_save zn_cX12_save (by decide +kernel)) rfl
theorem dX12_save_142 : decode cX12_save 142 = .ok (.iconst 0, 1) := zo_3 (zkb zk_cX12_save zn_cX12_save (by decide +kernel))
theorem dX12_save_143 : decode cX12_save 143 = .ok (.istore_n 1, 1) := zo_60 (zkb zk_cX12_save zn_cX12_save (by decide +kernel))
theorem dX12_save_144 : decode cX12_save 144 = .ok (.iload_n 1, 1) := zo_27 (zkb zk_cX12_save zn_cX12_save (by decide +kernel))
theorem dX12_save_145 : decode cX12_save 145 = .ok (.bipush 64, 2) := zo_16 (b1 := 64) (zkb2 zk_cX12_save zn_cX12_save (by decide +kernel)) rfl
theorem dX12_save_147 : decode cX12_save 147 = .ok (.if_icmp .ge 21, 3) := zo_162 (b1 := 0) (b2 := 21) (zkb3 zk_cX12_save zn_cX12_save (by decide +kernel)) rfl
theorem dX12_save_150 : decode cX12_save 150 = .ok (.aload_n 0, 1) := zo_42 (zkb zk_cX12_save zn_cX12_save (by decide +kernel))
theorem dX12_save_151 : decode cX12_save 151 = .ok (.getfield 68, 3) := zo_180 (b1 := 0) (b2 := 68) (zkb3 zk_cX12_save zn_cX12_save (by decide +kernel)) rfl
theorem dX12_save_154 : decode cX12_save 154 = .ok (.iload_n 1, 1) := zo_27 (zkb zk_cX12_save zn_cX12_save (by decide +kernel))
theorem dX12_save_155 : decode cX12_save 155 = .ok (.aload_n 0, 1) := zo_42 (zkb zk_cX12_save zn_cX12_save (by decide +kernel))
theorem dX12_save_156 : decode cX12_save 156 = .ok (.getfield 40, 3) := zo_180 (b1 := 0) (b2 := 40) (zkb3 zk_cX12_save zn_cX12_save (by decide +kernel)) rfl
theorem dX12_save_159 : decode cX12_save 159 = .ok (.iload_n 1, 1) := zo_27 (zkb zk_cX12_save zn_cX12_save (by decide +kernel))
theorem dX12_save_160 : decode cX12_save 160 = .ok (.baload, 1) := zo_51 (zkb zk_cX12_save zn_cX12_save (by decide +kernel))
theorem dX12_save_161 : decode cX12_save 161 = .ok (.bastore, 1) := zo_84 (zkb zk_cX12_save zn_cX12_save (by decide +kernel))
theorem dX12_save_162 : decode cX12_save 162 = .ok (.iinc 1 1, 3) := zo_132 (b1 := 1) (b2 := 1) (zkb3 zk_cX12_save zn_cX12_save (by decide +kernel)) rfl
theorem dX12_save_165 : decode cX12_save 165 = .ok (.goto (-21), 3) := zo_167 (b1 := 255) (b2 := 235) (zkb3 zk_cX12_save zn_cX12_save (by decide +kernel)) rfl
theorem dX12_save_168 : decode cX12_save 168 = .ok (.iconst 0, 1) := zo_3 (zkb zk_cX12_save zn_cX12_save (by decide +kernel))
theorem dX12_save_169 : decode cX12_save 169 = .ok (.istore_n 1, 1) := zo_60 (zkb zk_cX12_save zn_cX12_save (by decide +kernel))
theorem dX12_save_170 : decode cX12_save 170 = .ok (.iload_n 1, 1) := zo_27 (zkb zk_cX12_save zn_cX12_save (by decide +kernel))
theorem dX12_save_171 : decode cX12_save 171 = .ok (.ldc 43, 2) := zo_18 (b1 := 43) (zkb2 zk_cX12_save zn_cX12_save (by decide +kernel))
theorem dX12_save_173 : decode cX12_save 173 = .ok (.if_icmp .ge 21, 3) := zo_162 (b1 := 0) (b2 := 21) (zkb3 zk_cX12_save zn_cX12_save (by decide +kernel)) rfl
theorem dX12_save_176 : decode cX12_save 176 = .ok (.aload_n 0, 1) := zo_42 (zkb zk_cX12_save zn_cX12_save (by decide +kernel))
theorem dX12_save_177 : decode cX12_save 177 = .ok (.getfield 71, 3) := zo_180 (b1 := 0) (b2 := 71) (zkb3 zk_cX12_save zn_cX12_save (by decide +kernel)) rfl
theorem dX12_save_180 : decode cX12_save 180 = .ok (.iload_n 1, 1) := zo_27 (zkb zk_cX12_save zn_cX12_save (by decide +kernel))
theorem dX12_save_181 : decode cX12_save 181 = .ok (.aload_n 0, 1) := zo_42 (zkb zk_cX12_save zn_cX12_save (by decide +kernel))
theorem dX12_save_182 : decode cX12_save 182 = .ok (.getfield 44, 3) := zo_180 (b1 := 0) (b2 := 44) (zkb3 zk_cX12_save zn_cX12_save (by decide +kernel)) rfl
theorem dX12_save_185 : decode cX12_save 185 = .ok (.iload_n 1, 1) := zo_27 (zkb zk_cX12_save zn_cX12_save (by decide +kernel))
theorem dX12_save_186 : decode cX12_save 186 = .ok (.iaload, 1) := zo_46 (zkb zk_cX12_save zn_cX12_save (by decide +kernel))
theorem dX12_save_187 : decode cX12_save 187 = .ok (.iastore, 1) := zo_79 (zkb zk_cX12_save zn_cX12_save (by decide +kernel))
theorem dX12_save_188 : decode cX12_save 188 = .ok (.iinc 1 1, 3) := zo_132 (b1 := 1) (b2 := 1) (zkb3 zk_cX12_save zn_cX12_save (by decide +kernel)) rfl
theorem dX12_save_191 : decode cX12_save 191 = .ok (.goto (-21), 3) := zo_167 (b1 := 255) (b2 := 235) (zkb3 zk_cX12_save zn_cX12_save (by decide +kernel)) rfl
theorem dX12_save_194 : decode cX12_save 194 = .ok (.iconst 0, 1) := zo_3 (zkb zk_cX12_save zn_cX12_save (by decide +kernel))
theorem dX12_save_195 : decode cX12_save 195 = .ok (.istore_n 1, 1) := zo_60 (zkb zk_cX12_save zn_cX12_save (by decide +kernel))
theorem dX12_save_196 : decode cX12_save 196 = .ok (.iload_n 1, 1) := zo_27 (zkb zk_cX12_save zn_cX12_save (by decide +kernel))
theorem dX12_save_197 : decode cX12_save 197 = .ok (.sipush 4096, 3) := zo_17 (b1 := 16) (b2 := 0) (zkb3 zk_cX12_save zn_cX12_save (by decide +kernel)) rfl
theorem dX12_save_200 : decode cX12_save 200 = .ok (.if_icmp .ge 33, 3) := zo_162 (b1 := 0) (b2 := 33) (zkb3 zk_cX12_save zn_cX12_save (by decide +kernel)) rfl
theorem dX12_save_203 : decode cX12_save 203 = .ok (.aload_n 0, 1) := zo_42 (zkb zk_cX12_save zn_cX12_save (by decide +kernel))
theorem dX12_save_204 : decode cX12_save 204 = .ok (.getfield 74, 3) := zo_180 (b1 := 0) (b2 := 74) (zkb3 zk_cX12_save zn_cX12_save (by decide +kernel)) rfl
theorem dX12_save_207 : decode cX12_save 207 = .ok (.iload_n 1, 1) := zo_27 (zkb zk_cX12_save zn_cX12_save (by decide +kernel))
theorem dX12_save_208 : decode cX12_save 208 = .ok (.aload_n 0, 1) := zo_42 (zkb zk_cX12_save zn_cX12_save (by decide +kernel))
theorem dX12_save_209 : decode cX12_save 209 = .ok (.getfield 47, 3) := zo_180 (b1 := 0) (b2 := 47) (zkb3 zk_cX12_save zn_cX12_save (by decide +kernel)) rfl
theorem dX12_save_212 : decode cX12_save 212 = .ok (.iload_n 1, 1) := zo_27 (zkb zk_cX12_save zn_cX12_save (by decide +kernel))
theorem dX12_save_213 : decode cX12_save 213 = .ok (.laload, 1) := zo_47 (zkb zk_cX12_save zn_cX12_save (by decide +kernel))
theorem dX12_save_214 : decode cX12_save 214 = .ok (.lastore, 1) := zo_80 (zkb zk_cX12_save zn_cX12_save (by decide +kernel))
theorem dX12_save_215 : decode cX12_save 215 = .ok (.aload_n 0, 1) := zo_42 (zkb zk_cX12_save zn_cX12_save (by decide +kernel))
theorem dX12_save_216 : decode cX12_save 216 = .ok (.getfield 77, 3) := zo_180 (b1 := 0) (b2 := 77) (zkb3 zk_cX12_save zn_cX12_save (by decide +kernel)) rfl
theorem dX12_save_219 : decode cX12_save 219 = .ok (.iload_n 1, 1) := zo_27 (zkb zk_cX12_save zn_cX12_save (by decide +kernel))
theorem dX12_save_220 : decode cX12_save 220 = .ok (.aload_n 0, 1) := zo_42 (zkb zk_cX12_save zn_cX12_save (by decide +kernel))
theorem dX12_save_221 : decode cX12_save 221 = .ok (.getfield 50, 3) := zo_180 (b1 := 0) (b2 := 50) (zkb3 zk_cX12_save zn_cX12_save (by decide +kernel)) rfl
theorem dX12_save_224 : decode cX12_save 224 = .ok (.iload_n 1, 1) := zo_27 (zkb zk_cX12_save zn_cX12_save (by decide +kernel))
theorem dX12_save_225 : decode cX12_save 225 = .ok (.laload, 1) := zo_47 (zkb zk_cX12_save zn_cX12_save (by decide +kernel))
theorem dX12_save_226 : decode cX12_save 226 = .ok (.lastore, 1) := zo_80 (zkb zk_cX12_save zn_cX12_save (by decide +kernel))
theorem dX12_save_227 : decode cX12_save 227 = .ok (.iinc 1 1, 3) := zo_132 (b1 := 1) (b2 := 1) (zkb3 zk_cX12_save zn_cX12_save (by decide +kernel)) rfl
theorem dX12_save_230 : decode cX12_save 230 = .ok (.goto (-34), 3) := zo_167 (b1 := 255) (b2 := 222) (zkb3 zk_cX12_save zn_cX12_save (by decide +kernel)) rfl
theorem dX12_save_233 : decode cX12_save 233 = .ok (.return_, 1) := zo_177 (zkb zk_cX12_save zn_cX12_save (by decide +kernel))
def kn_cX12_restore : Nat := 0xb1deffa7010184502f1b4d00b42a1b3200b42a502f1b4a00b42a1b2f00b42a2100a20010111b3c03ebffa70101844f2e1b4700b42a1b2c00b42a1500a22b121b3c03ebffa701018454331b4400b42a1b2800b42a1500a240101b3c03eaffa701018454331b4100b42a1b2500b42a1500a20040111b3c03ebffa701018454331b3e00b42a1b2200b42a1500a221121b3c03eaffa701018454331b3b00b42a1b1e00b42a1500a20020111b3c03ecffa7010184502f1b3800b42a1b1a00b42a1500a2081b3c03eaffa70101844f2e1b3500b42a1b1600b42a1500a21804111b3c03b10400997200b604030400a70407009a9000b42a2a
theorem zk_cX12_restore : zkd cX12_restore.data.toList kn_cX12_restore = true := by decide +kernel
theorem zn_cX12_restore : cX12_restore.data.toList.length = 245 := by decide +kernel
theorem dX12_restore_0 : decode cX12_restore 0 = .ok (.aload_n 0, 1) := zo_42 (zkb zk_cX12_restore zn_cX12_restore (by decide +kernel))
theorem dX12_restore_1 : decode cX12_restore 1 = .ok (.aload_n 0, 1) := zo_42 (zkb zk_cX12_restore zn_cX12_restore (by decide +kernel))
theorem dX12_restore_2 : decode cX12_restore 2 = .ok (.getfield 144, 3) := zo_180 (b1 := 0) (b2 := 144) (zkb3 zk_cX12_restore zn_cX12_restore (by decide +kernel)) rfl
theorem dX12_restore_5 : decode cX12_restore 5 = .ok (.ifCond .ne 7, 3) := zo_154 (b1 := 0) (b2 := 7) (zkb3 zk_cX12_restore zn_cX12_restore (by decide +kernel)) rfl
theorem dX12_restore_8 : decode cX12_restore 8 = .ok (.iconst 1, 1) := zo_4 (zkb zk_cX12_restore zn_cX12_restore (by decide +kernel))
theorem dX12_restore_9 : decode cX12_restore 9 = .ok (.goto 4, 3) := zo_167 (b1 := 0) (b2 := 4) (zkb3 zk_cX12_restore zn_cX12_restore (by decide +kernel)) rfl
theorem dX12_restore_12 : decode cX12_restore 12 = .ok (.iconst 0, 1) := zo_3 (zkb zk_cX12_restore zn_cX12_restore (by decide +kernel))
theorem dX12_restore_13 : decode cX12_restore 13 = .ok (.iconst 1, 1) := zo_4 (zkb zk_cX12_restore zn_cX12_restore (by decide +kernel))
theorem dX12_restore_14 : decode cX12_restore 14 = .ok (.invokevirtual 114, 3) := zo_182 (b1 := 0) (b2 := 114) (zkb3 zk_cX12_restore zn_cX12_restore (by decide +kernel)) rfl
theorem dX12_restore_17 : decode cX12_restore 17 = .ok (.ifCond .eq 4, 3) := zo_153 (b1 := 0) (b2 := 4) (zkb3 zk_cX12_restore zn_cX12_restore (by decide +kernel)) rfl
theorem dX12_restore_20 : decode cX12_restore 20 = .ok (.return_, 1) := zo_177 (zkb zk_cX12_restore zn_cX12_restore (by decide +kernel))
theorem dX12_restore_21 : decode cX12_restore 21 = .ok (.iconst 0, 1) := zo_3 (zkb zk_cX12_restore zn_cX12_restore (by decide +kernel))
theorem dX12_restore_22 : decode cX12_restore 22 = .ok (.istore_n 1, 1) := zo_60 (zkb zk_cX12_restore zn_cX12_restore (by decide +kernel))
theorem dX12_restore_23 : decode cX12_restore 23 = .ok (.iload_n 1, 1) := zo_27 (zkb zk_cX12_restore zn_cX12_restore (by decide +kernel))
theorem dX12_restore_24 : decode cX12_restore 24 = .ok (.sipush 1048, 3) := zo_17 (b1 := 4) (b2 := 24) (zkb3 zk_cX12_restore zn_cX12_restore (by decide +kernel)) rfl
theorem dX12_restore_27 : decode cX12_restore 27 = .ok (.if_icmp .ge 21, 3) := zo_162 (b1 := 0) (b2 := 21) (zkb3 zk_cX12_restore zn_cX12_restore (by decide +kernel)) rfl
theorem dX12_restore_30 : decode cX12_restore 30 = .ok (.aload_n 0, 1) := zo_42 (zkb zk_cX12_restore zn_cX12_restore (by decide +kernel))
theorem dX12_restore_31 : decode cX12_restore 31 = .ok (.getfield 22, 3) := zo_180 (b1 := 0) (b2 := 22) (zkb3 zk_cX12_restore zn_cX12_restore (by decide +kernel)) rfl
theorem dX12_restore_34 : decode cX12_restore 34 = .ok (.iload_n 1, 1) := zo_27 (zkb zk_cX12_restore zn_cX12_restore (by decide +kernel))
theorem dX12_restore_35 : decode cX12_restore 35 = .ok (.aload_n 0, 1) := zo_42 (zkb zk_cX12_restore zn_cX12_restore (by decide +kernel))
theorem dX12_restore_36 : decode cX12_restore 36 = .ok (.getfield 53, 3) := zo_180 (b1 := 0) (b2 := 53) (zkb3 zk_cX12_restore zn_cX12_restore (by decide +kernel)) rfl
theorem dX12_restore_39 : decode cX12_restore 39 = .ok (.iload_n 1, 1) := zo_27 (zkb zk_cX12_restore zn_cX12_restore (by decide +kernel))
theorem dX12_restore_40 : decode cX12_restore 40 = .ok (.iaload, 1) := zo_46 (zkb zk_cX12_restore zn_cX12_restore (by decide +kernel))
theorem dX12_restore_41 : decode cX12_restore 41 = .ok (.iastore, 1) := zo_79 (zkb zk_cX12_restore zn_cX12_restore (by decide +kernel))
theorem dX12_restore_42 : decode cX12_restore 42 = .ok (.iinc 1 1, 3) := zo_132 (b1 := 1) (b2 := 1) (zkb3 zk_cX12_restore zn_cX12_restore (by decide +kernel)) rfl
theorem dX12_restore_45 : decode cX12_restore 45 = .ok (.goto (-22), 3) := zo_167 (b1 := 255) (b2 := 234) (zkb3 zk_cX12_restore zn_cX12_restore (by decide +kernel)) rfl
theorem dX12_restore_48 : decode cX12_restore 48 = .ok (.iconst 0, 1) := zo_3 (zkb zk_cX12_restore zn_cX12_restore (by decide +kernel))
theorem dX12_restore_49 : decode cX12_restore 49 = .ok (.istore_n 1, 1) := zo_60 (zkb zk_cX12_restore zn_cX12_restore (by decide +kernel))
theorem dX12_restore_50 : decode cX12_restore 50 = .ok (.iload_n 1, 1) := zo_27 (zkb zk_cX12_restore zn_cX12_restore (by decide +kernel))
theorem dX12_restore_51 : decode cX12_restore 51 = .ok (.iconst 5, 1) := zo_8 (zkb zk_cX12_restore zn_cX12_restore (by decide +kernel))
theorem dX12_restore_52 : decode cX12_restore 52 = .ok (.if_icmp .ge 21, 3) := zo_162 (b1 := 0) (b2 := 21) (zkb3 zk_cX12_restore zn_cX12_restore (by decide +kernel)) rfl
theorem dX12_restore_55 : decode cX12_restore 55 = .ok (.aload_n 0, 1) := zo_42 (zkb zk_cX12_restore zn_cX12_restore (by decide +kernel))
theorem dX12_restore_56 : decode cX12_restore 56 = .ok (.getfield 26, 3) := zo_180 (b1 := 0) (b2 := 26) (zkb3 zk_cX12_restore zn_cX12_restore (by decide +kernel)) rfl
theorem dX12_restore_59 : decode cX12_restore 59 = .ok (.iload_n 1, 1) := zo_27 (zkb zk_cX12_restore zn_cX12_restore (by decide +kernel))
theorem dX12_restore_60 : decode cX12_restore 60 = .ok (.aload_n 0, 1) := zo_42 (zkb zk_cX12_restore zn_cX12_restore (by decide +kernel))
theorem dX12_restore_61 : decode cX12_restore 61 = .ok (.getfield 56, 3) := zo_180 (b1 := 0) (b2 := 56) (zkb3 zk_cX12_restore zn_cX12_restore (by decide +kernel)) rfl
theorem dX12_restore_64 : decode cX12_restore 64 = .ok (.iload_n 1, 1) := zo_27 (zkb zk_cX12_restore zn_cX12_restore (by decide +kernel))
theorem dX12_restore_65 : decode cX12_restore 65 = .ok (.laload, 1) := zo_47 (zkb zk_cX12_restore zn_cX12_restore (by decide +kernel))
theorem dX12_restore_66 : decode cX12_restore 66 = .ok (.lastore, 1) := zo_80 (zkb zk_cX12_restore zn_cX12_restore (by decide +kernel))
theorem dX12_restore_67 : decode cX12_restore 67 = .ok (.iinc 1 1, 3) := zo_132 (b1 := 1) (b2 := 1) (zkb3 zk_cX12_restore zn_cX12_restore (by decide +kernel)) rfl
theorem dX12_restore_70 : decode cX12_restore 70 = .ok (.goto (-20), 3) := zo_167 (b1 := 255) (b2 := 236) (zkb3 zk_cX12_restore zn_cX12_restore (by decide +kernel)) rfl
theorem dX12_restore_73 : decode cX12_restore 73 = .ok (.iconst 0, 1) := zo_3 (zkb zk_cX12_restore zn_cX12_restore (by decide +kernel))
theorem dX12_restore_74 : decode cX12_restore 74 = .ok (.istore_n 1, 1) := zo_60 (zkb zk_cX12_restore zn_cX12_restore (by decide +kernel))
theorem dX12_restore_75 : decode cX12_restore 75 = .ok (.iload_n 1, 1) := zo_27 (zkb zk_cX12_restore zn_cX12_restore (by decide +kernel))
theorem dX12_restore_76 : decode cX12_restore 76 = .ok (.sipush 8192, 3) := zo_17 (b1 := 32) (b2 := 0) (zkb3 zk_cX12_restore zn_cX12_restore (by decide +kernel)) rfl
theorem dX12_restore_79 : decode cX12_restore 79 = .ok (.if_icmp .ge 21, 3) := zo_162 (b1 := 0) (b2 := 21) (zkb3 zk_cX12_restore zn_cX12_restore (by decide +kernel)) rfl
theorem dX12_restore_82 : decode cX12_restore 82 = .ok (.aload_n 0, 1) := zo_42 (zkb zk_cX12_restore zn_cX12_restore (by decide +kernel))
theorem dX12_restore_83 : decode cX12_restore 83 = .ok (.getfield 30, 3) := zo_180 (b1 := 0) (b2 := 30) (zkb3 zk_cX12_restore zn_cX12_restore (by decide +kernel)) rfl
theorem dX12_restore_86 : decode cX12_restore 86 = .ok (.iload_n 1, 1) := zo_27 (zkb zk_cX12_restore zn_cX12_restore (by decide +kernel))
theorem dX12_restore_87 : decode cX12_restore 87 = .ok (.aload_n 0, 1) := zo_42 (zkb zk_cX12_restore zn_cX12_restore (by decide +kernel))
theorem dX12_restore_88 : decode cX12_restore 88 = .ok (.getfield 59, 3) := zo_180 (b1 := 0) (b2 := 59) (zkb3 zk_cX12_restore zn_cX12_restore (by decide +kernel)) rfl
theorem dX12_restore_91 : decode cX12_restore 91 = .ok (.iload_n 1, 1) := zo_27 (zkb zk_cX12_restore zn_cX12_restore (by decide +kernel))
theorem dX12_restore_92 : decode cX12_restore 92 = .ok (.baload, 1) := zo_51 (zkb zk_cX12_restore zn_cX12_restore (by decide +kernel))
theorem dX12_restore_93 : decode cX12_restore 93 = .ok (.bastore, 1) := zo_84 (zkb zk_cX12_restore zn_cX12_restore (by decide +kernel))
theorem dX12_restore_94 : decode cX12_restore 94 = .ok (.iinc 1 1, 3) := zo_132 (b1 := 1) (b2 := 1) (zkb3 zk_cX12_restore zn_cX12_restore (by decide +kernel)) rfl
theorem dX12_restore_97 : decode cX12_restore 97 = .ok (.goto (-22), 3) := zo_167 (b1 := 255) (b2 := 234) (zkb3 zk_cX12_restore zn_cX12_restore (by decide +kernel)) rfl
theorem dX12_restore_100 : decode cX12_restore 100 = .ok (.iconst 0, 1) := zo_3 (zkb zk_cX12_restore zn_cX12_restore (by decide +kernel))
theorem dX12_restore_101 : decode cX12_restore 101 = .ok (.istore_n 1, 1) := zo_60 (zkb zk_cX12_restore zn_cX12_restore (by decide +kernel))
theorem dX12_restore_102 : decode cX12_restore 102 = .ok (.iload_n 1, 1) := zo_27 (zkb zk_cX12_restore zn_cX12_restore (by decide +kernel))
theorem dX12_restore_103 : decode cX12_restore 103 = .ok (.ldc 33, 2) := zo_18 (b1 := 33) (zkb2 zk_cX12_restore zn_cX12_restore (by decide +kernel))
theorem dX12_restore_105 : decode cX12_restore 105 = .ok (.if_icmp .ge 21, 3) := zo_162 (b1 := 0) (b2 := 21) (zkb3 zk_cX12_restore zn_cX12_restore (by decide +kernel)) rfl
theorem dX12_restore_108 : decode cX12_restore 108 = .ok (.aload_n 0, 1) := zo_42 (zkb zk_cX12_restore zn_cX12_restore (by decide +kernel))
theorem dX12_restore_109 : decode cX12_restore 109 = .ok (.getfield 34, 3) := zo_180 (b1 := 0) (b2 := 34) (zkb3 zk_cX12_restore zn_cX12_restore (by decide +kernel)) rfl
theorem dX12_restore_112 : decode cX12_restore 112 = .ok (.iload_n 1, 1) := zo_27 (zkb zk_cX12_restore zn_cX12_restore (by decide +kernel))
theorem dX12_restore_113 : decode cX12_restore 113 = .ok (.aload_n 0, 1) := zo_42 (zkb zk_cX12_restore zn_cX12_restore (by decide +kernel))
theorem dX12_restore_114 : decode cX12_restore 114 = .ok (.getfield 62, 3) := zo_180 (b1 := 0) (b2 := 62) (zkb3 zk_cX12_restore zn_cX12_restore (by decide +kernel)) rfl
theorem dX12_restore_117 : decode cX12_restore 117 = .ok (.iload_n 1, 1) := zo_27 (zkb zk_cX12_restore zn_cX12_restore (by decide +kernel))
theorem dX12_restore_118 : decode cX12_restore 118 = .ok (.baload, 1) := zo_51 (zkb zk_cX12_restore zn_cX12_restore (by decide +kernel))
theorem dX12_restore_119 : decode cX12_restore 119 = .ok (.bastore, 1) := zo_84 (zkb zk_cX12_restore zn_cX12_restore (by decide +kernel))
theorem dX12_restore_120 : decode cX12_restore 120 = .ok (.iinc 1 1, 3) := zo_132 (b1 := 1) (b2 := 1) (zkb3 zk_cX12_restore zn_cX12_restore (by decide +kernel)) rfl
theorem dX12_restore_123 : decode cX12_restore 123 = .ok (.goto (-21), 3) := zo_167 (b1 := 255) (b2 := 235) (zkb3 zk_cX12_restore zn_cX12_restore (by decide +kernel)) rfl
theorem dX12_restore_126 : decode cX12_restore 126 = .ok (.iconst 0, 1) := zo_3 (zkb zk_cX12_restore zn_cX12_restore (by decide +kernel))
theorem dX12_restore_127 : decode cX12_restore 127 = .ok (.istore_n 1, 1) := zo_60 (zkb zk_cX12_restore zn_cX12_restore (by decide +kernel))
theorem dX12_restore_128 : decode cX12_restore 128 = .ok (.iload_n 1, 1) := zo_27 (zkb zk_cX12_restore zn_cX12_restore (by decide +kernel))
theorem dX12_restore_129 : decode cX12_restore 129 = .ok (.sipush 16384, 3) := zo_17 (b1 := 64) (b2 := 0) (zkb3 zk_cX12_restore zn_cX12_restore (by decide +kernel)) rfl
theorem dX12_restore_132 : decode cX12_restore 132 = .ok (.if_icmp .ge 21, 3) := zo_162 (b1 := 0) (b2 := 21) (zkb3 zk_cX12_restore zn_cX12_restore (by decide +kernel)) rfl
theorem dX12_restore_135 : decode cX12_restore 135 = .ok (.aload_n 0, 1) := zo_42 (zkb zk_cX12_restore zn_cX12_restore (by decide +kernel))
theorem dX12_restore_136 : decode cX12_restore 136 = .ok (.getfield 37, 3) := zo_180 (b1 := 0) (b2 := 37) (zkb3 zk_cX12_restore zn_cX12_restore (by decide +kernel)) rfl
theorem dX12_restore_139 : decode cX12_restore 139 = .ok (.iload_n 1, 1) := zo_27 (zkb zk_cX12_restore zn_cX12_restore (by decide +kernel))
theorem dX12_restore_140 : decode cX12_restore 140 = .ok (.aload_n 0, 1) := zo_42 (zkb zk_cX12_restore zn_cX12_restore (by decide +kernel))
theorem dX12_restore_141 : decode cX12_restore 141 = .ok (.getfield 65, 3) := zo_180 (b1 := 0) (b2 := 65) (zkb3 zk_cX12_restore zn_cX12_restore (by decide +kernel)) rfl
theorem dX12_restore_144 : decode cX12_restore 144 = .ok (.iload_n 1, 1) := zo_27 (zkb zk_cX12_restore zn_cX12_restore (by decide +kernel))
theorem dX12_restore_145 : decode cX12_restore 145 = .ok (.baload, 1) := zo_51 (zkb zk_cX12_restore zn_cX12_restore (by decide +kernel))
theorem dX12_restore_146 : decode cX12_restore 146 = .ok (.bastore, 1) := zo_84 (zkb zk_cX12_restore zn_cX12_restore (by decide +kernel))
theorem dX12_restore_147 : decode cX12_restore 147 = .ok (.iinc 1 1, 3) := zo_132 (b1 := 1) (b2 := 1) (zkb3 zk_cX12_restore zn_cX12_restore (by decide +kernel)) rfl
theorem dX12_restore_150 : decode cX12_restore 150 = .ok (.goto (-22), 3) := zo_167 (b1 := 255) (b2 := 234) (zkb3 zk_cX12_restore zn_cX12_restore (by decide +kernel)) rfl
theorem dX12_restore_153 : decode cX12_restore 153 = .ok (.iconst 0, 1) := zo_3 (zkb zk_cX12_restore zn_cX12_restore (by decide +kernel))
theorem dX12_restore_154 : decode cX12_restore 154 = .ok (.istore_n 1, 1) := zo_60 (zkb zk_cX12_restore zn_cX12_restore (by decide +kernel))
theorem dX12_restore_155 : decode cX12_restore 155 = .ok (.iload_n 1, 1) := zo_27 (zkb zk_cX12_restore zn_cX12_restore (by decide +kernel))
theorem dX12_restore_156 : decode cX12_restore 156 = .ok (.bipush 64, 2) := zo_16 (b1 := 64) (zkb2 zk_cX12_restore zn_cX12_restore (by decide +kernel)) rfl
theorem dX12_restore_158 : decode cX12_restore 158 = .ok (.if_icmp .ge 21, 3) := zo_162 (b1 := 0) (b2 := 21) (zkb3 zk_cX12_restore zn_cX12_restore (by decide +kernel)) rfl
theorem dX12_restore_161 : decode cX12_restore 161 = .ok (.aload_n 0, 1) := zo_42 (zkb zk_cX12_restore zn_cX12_restore (by decide +kernel))
theorem dX12_restore_162 : decode cX12_restore 162 = .ok (.getfield 40, 3) := zo_180 (b1 := 0) (b2 := 40) (zkb3 zk_cX12_restore zn_cX12_restore (by decide +kernel)) rfl
theorem dX12_restore_165 : decode cX12_restore 165 = .ok (.iload_n 1, 1) := zo_27 (zkb zk_cX12_restore zn_cX12_restore (by decide +kernel))
theorem dX12_restore_166 : decode cX12_restore 166 = .ok (.aload_n 0, 1) := zo_42 (zkb zk_cX12_restore zn_cX12_restore (by decide +kernel))
theorem dX12_restore_167 : decode cX12_restore 167 = .ok (.getfield 68, 3) := zo_180 (b1 := 0) (b2 := 68) (zkb3 zk_cX12_restore zn_cX12_restore (by decide +kernel)) rfl
theorem dX12_restore_170 : decode cX12_restore 170 = .ok (.iload_n 1, 1) := zo_27 (zkb zk_cX12_restore zn_cX12_restore (by decide +kernel))
theorem dX12_restore_171 : decode cX12_restore 171 = .ok (.baload, 1) := zo_51 (zkb zk_cX12_restore zn_cX12_restore (by decide +kernel))
theorem dX12_restore_172 : decode cX12_restore 172 = .ok (.bastore, 1) := zo_84 (zkb zk_cX12_restore zn_cX12_restore (by decide +kernel))
theorem dX12_restore_173 : decode cX12_restore 173 = .ok (.iinc 1 1, 3) := zo_132 (b1 := 1) (b2 := 1) (zkb3 zk_cX12_restore zn_cX12_restore (by decide +kernel)) rfl
theorem dX12_restore_176 : decode cX12_restore 176 = .ok (.goto (-21), 3) := zo_167 (b1 := 255) (b2 := 235) (zkb3 zk_cX12_restore zn_cX12_restore (by decide +kernel)) rfl
theorem dX12_restore_179 : decode cX12_restore 179 = .ok (.iconst 0, 1) := zo_3 (zkb zk_cX12_restore zn_cX12_restore (by decide +kernel))
theorem dX12_restore_180 : decode cX12_restore 180 = .ok (.istore_n 1, 1) := zo_60 (zkb zk_cX12_restore zn_cX12_restore (by decide +kernel))
theorem dX12_restore_181 : decode cX12_restore 181 = .ok (.iload_n 1, 1) := zo_27 (zkb zk_cX12_restore zn_cX12_restore (by decide +kernel))
theorem dX12_restore_182 : decode cX12_restore 182 = .ok (.ldc 43, 2) := zo_18 (b1 := 43) (zkb2 zk_cX12_restore zn_cX12_restore (by decide +kernel))
theorem dX12_restore_184 : decode cX12_restore 184 = .ok (.if_icmp .ge 21, 3) := zo_162 (b1 := 0) (b2 := 21) (zkb3 zk_cX12_restore zn_cX12_restore (by decide +kernel)) rfl
theorem dX12_restore_187 : decode cX12_restore 187 = .ok (.aload_n 0, 1) := zo_42 (zkb zk_cX12_restore zn_cX12_restore (by decide +kernel))
theorem dX12_restore_188 : decode cX12_restore 188 = .ok (.getfield 44, 3) := zo_180 (b1 := 0) (b2 := 44) (zkb3 zk_cX12_restore zn_cX12_restore (by decide +kernel)) rfl
theorem dX12_restore_191 : decode cX12_restore 191 = .ok (.iload_n 1, 1) := zo_27 (zkb zk_cX12_restore zn_cX12_restore (by decide +kernel))
theorem dX12_restore_192 : decode cX12_restore 192 = .ok (.aload_n 0, 1) := zo_42 (zkb zk_cX12_restore zn_cX12_restore (by decide +kernel))
theorem dX12_restore_193 : decode cX12_restore 193 = .ok (.getfield 71, 3) := zo_180 (b1 := 0) (b2 := 71) (zkb3 zk_cX12_restore zn_cX12_restore (by decide +kernel)) rfl
theorem dX12_restore_196 : decode cX12_restore 196 = .ok (.iload_n 1, 1) := zo_27 (zkb zk_cX12_restore zn_cX12_restore (by decide +kernel))
theorem dX12_restore_197 : decode cX12_restore 197 = .ok (.iaload, 1) := zo_46 (zkb zk_cX12_restore zn_cX12_restore (by decide +kernel))
theorem dX12_restore_198 : decode cX12_restore 198 = .ok (.iastore, 1) := zo_79 (zkb zk_cX12_restore zn_cX12_restore (by decide +kernel))
theorem dX12_restore_199 : decode cX12_restore 199 = .ok (.iinc 1 1, 3) := zo_132 (b1 := 1) (b2 := 1) (zkb3 zk_cX12_restore zn_cX12_restore (by decide +kernel)) rfl
theorem dX12_restore_202 : decode cX12_restore 202 = .ok (.goto (-21), 3) := zo_167 (b1 := 255) (b2 := 235) (zkb3 zk_cX12_restore zn_cX12_restore (by decide +kernel)) rfl
theorem dX12_restore_205 : decode cX12_restore 205 = .ok (.iconst 0, 1) := zo_3 (zkb zk_cX12_restore zn_cX12_restore (by decide +kernel))
theorem dX12_restore_206 : decode cX12_restore 206 = .ok (.istore_n 1, 1) := zo_60 (zkb zk_cX12_restore zn_cX12_restore (by decide +kernel))
theorem dX12_restore_207 : decode cX12_restore 207 = .ok (.iload_n 1, 1) := zo_27 (zkb zk_cX12_restore zn_cX12_restore (by decide +kernel))
theorem dX12_restore_208 : decode cX12_restore 208 = .ok (.sipush 4096, 3) := zo_17 (b1 := 16) (b2 := 0) (zkb3 zk_cX12_restore zn_cX12_restore (by decide +kernel)) rfl
theorem dX12_restore_211 : decode cX12_restore 211 = .ok (.if_icmp .ge 33, 3) := zo_162 (b1 := 0) (b2 := 33) (zkb3 zk_cX12_restore zn_cX12_restore (by decide +kernel)) rfl
theorem dX12_restore_214 : decode cX12_restore 214 = .ok (.aload_n 0, 1) := zo_42 (zkb zk_cX12_restore zn_cX12_restore (by decide +kernel))
theorem dX12_restore_215 : decode cX12_restore 215 = .ok (.getfield 47, 3) := zo_180 (b1 := 0) (b2 := 47) (zkb3 zk_cX12_restore zn_cX12_restore (by decide +kernel)) rfl
theorem dX12_restore_218 : decode cX12_restore 218 = .ok (.iload_n 1, 1) := zo_27 (zkb zk_cX12_restore zn_cX12_restore (by decide +kernel))
theorem dX12_restore_219 : decode cX12_restore 219 = .ok (.aload_n 0, 1) := zo_42 (zkb zk_cX12_restore zn_cX12_restore (by decide +kernel))
theorem dX12_restore_220 : decode cX12_restore 220 = .ok (.getfield 74, 3) := zo_180 (b1 := 0) (b2 := 74) (zkb3 zk_cX12_restore zn_cX12_restore (by decide +kernel)) rfl
theorem dX12_restore_223 : decode cX12_restore 223 = .ok (.iload_n 1, 1) := zo_27 (zkb zk_cX12_restore zn_cX12_restore (by decide +kernel))
theorem dX12_restore_224 : decode cX12_restore 224 = .ok (.laload, 1) := zo_47 (zkb zk_cX12_restore zn_cX12_restore (by decide +kernel))
theorem dX12_restore_225 : decode cX12_restore 225 = .ok (.lastore, 1) := zo_80 (zkb zk_cX12_restore zn_cX12_restore (by decide +kernel))
theorem dX12_restore_226 : decode cX12_restore 226 = .ok (.aload_n 0, 1) := zo_42 (zkb zk_cX12_restore zn_cX12_restore (by decide +kernel))
theorem dX12_restore_227 : decode cX12_restore 227 = .ok (.getfield 50, 3) := zo_180 (b1 := 0) (b2 := 50) (zkb3 zk_cX12_restore zn_cX12_restore (by decide +kernel)) rfl
theorem dX12_restore_230 : decode cX12_restore 230 = .ok (.iload_n 1, 1) := zo_27 (zkb zk_cX12_restore zn_cX12_restore (by decide +kernel))
theorem dX12_restore_231 : decode cX12_restore 231 = .ok (.aload_n 0, 1) := zo_42 (zkb zk_cX12_restore zn_cX12_restore (by decide +kernel))
theorem dX12_restore_232 : decode cX12_restore 232 = .ok (.getfield 77, 3) := zo_180 (b1 := 0) (b2 := 77) (zkb3 zk_cX12_restore zn_cX12_restore (by decide +kernel)) rfl
theorem dX12_restore_235 : decode cX12_restore 235 = .ok (.iload_n 1, 1) := zo_27 (zkb zk_cX12_restore zn_cX12_restore (by decide +kernel))
theorem dX12_restore_236 : decode cX12_restore 236 = .ok (.laload, 1) := zo_47 (zkb zk_cX12_restore zn_cX12_restore (by decide +kernel))
theorem dX12_restore_237 : decode cX12_restore 237 = .ok (.lastore, 1) := zo_80 (zkb zk_cX12_restore zn_cX12_restore (by decide +kernel))
theorem dX12_restore_238 : decode cX12_restore 238 = .ok (.iinc 1 1, 3) := zo_132 (b1 := 1) (b2 := 1) (zkb3 zk_cX12_restore zn_cX12_restore (by decide +kernel)) rfl
theorem dX12_restore_241 : decode cX12_restore 241 = .ok (.goto (-34), 3) := zo_167 (b1 := 255) (b2 := 222) (zkb3 zk_cX12_restore zn_cX12_restore (by decide +kernel)) rfl
theorem dX12_restore_244 : decode cX12_restore 244 = .ok (.return_, 1) := zo_177 (zkb zk_cX12_restore zn_cX12_restore (by decide +kernel))
def kn_cX12_register : Nat := 0xac2e1b1600b42a0900a7030700997200b604030400a70407009a6e00b8c0011409851b2a
theorem zk_cX12_register : zkd cX12_register.data.toList kn_cX12_register = true := by decide +kernel
theorem zn_cX12_register : cX12_register.data.toList.length = 36 := by decide +kernel
theorem dX12_register_0 : decode cX12_register 0 = .ok (.aload_n 0, 1) := zo_42 (zkb zk_cX12_register zn_cX12_register (by decide +kernel))
theorem dX12_register_1 : decode cX12_register 1 = .ok (.iload_n 1, 1) := zo_27 (zkb zk_cX12_register zn_cX12_register (by decide +kernel))
theorem dX12_register_2 : decode cX12_register 2 = .ok (.i2l, 1) := zo_133 (zkb zk_cX12_register zn_cX12_register (by decide +kernel))
theorem dX12_register_3 : decode cX12_register 3 = .ok (.lconst 0, 1) := zo_9 (zkb zk_cX12_register zn_cX12_register (by decide +kernel))
theorem dX12_register_4 : decode cX12_register 4 = .ok (.ldc2_w 448, 3) := by decide +kernel
theorem dX12_register_7 : decode cX12_register 7 = .ok (.invokestatic 110, 3) := zo_184 (b1 := 0) (b2 := 110) (zkb3 zk_cX12_register zn_cX12_register (by decide +kernel)) rfl
theorem dX12_register_10 : decode cX12_register 10 = .ok (.ifCond .ne 7, 3) := zo_154 (b1 := 0) (b2 := 7) (zkb3 zk_cX12_register zn_cX12_register (by decide +kernel)) rfl
theorem dX12_register_13 : decode cX12_register 13 = .ok (.iconst 1, 1) := zo_4 (zkb zk_cX12_register zn_cX12_register (by decide +kernel))
theorem dX12_register_14 : decode cX12_register 14 = .ok (.goto 4, 3) := zo_167 (b1 := 0) (b2 := 4) (zkb3 zk_cX12_register zn_cX12_register (by decide +kernel)) rfl
theorem dX12_register_17 : decode cX12_register 17 = .ok (.iconst 0, 1) := zo_3 (zkb zk_cX12_register zn_cX12_register (by decide +kernel))
theorem dX12_register_18 : decode cX12_register 18 = .ok (.iconst 1, 1) := zo_4 (zkb zk_cX12_register zn_cX12_register (by decide +kernel))
theorem dX12_register_19 : decode cX12_register 19 = .ok (.invokevirtual 114, 3) := zo_182 (b1 := 0) (b2 := 114) (zkb3 zk_cX12_register zn_cX12_register (by decide +kernel)) rfl
theorem dX12_register_22 : decode cX12_register 22 = .ok (.ifCond .eq 7, 3) := zo_153 (b1 := 0) (b2 := 7) (zkb3 zk_cX12_register zn_cX12_register (by decide +kernel)) rfl
theorem dX12_register_25 : decode cX12_register 25 = .ok (.iconst 0, 1) := zo_3 (zkb zk_cX12_register zn_cX12_register (by decide +kernel))
theorem dX12_register_26 : decode cX12_register 26 = .ok (.goto 9, 3) := zo_167 (b1 := 0) (b2 := 9) (zkb3 zk_cX12_register zn_cX12_register (by decide +kernel)) rfl
theorem dX12_register_29 : decode cX12_register 29 = .ok (.aload_n 0, 1) := zo_42 (zkb zk_cX12_register zn_cX12_register (by decide +kernel))
theorem dX12_register_30 : decode cX12_register 30 = .ok (.getfield 22, 3) := zo_180 (b1 := 0) (b2 := 22) (zkb3 zk_cX12_register zn_cX12_register (by decide +kernel)) rfl
theorem dX12_register_33 : decode cX12_register 33 = .ok (.iload_n 1, 1) := zo_27 (zkb zk_cX12_register zn_cX12_register (by decide +kernel))
theorem dX12_register_34 : decode cX12_register 34 = .ok (.iaload, 1) := zo_46 (zkb zk_cX12_register zn_cX12_register (by decide +kernel))
theorem dX12_register_35 : decode cX12_register 35 = .ok (.ireturn, 1) := zo_172 (zkb zk_cX12_register zn_cX12_register (by decide +kernel))
def kn_cX12_set : Nat := 0xb14f7e041c0600a77eff00111c0b00a316101b1400a77e8f121c0a00a314101b2100a77eff00111c0b00a210101b1b1600b42a3500a74f7e061c0600a7050700a0067e061c1b1600b42a1a00a019101bb10400997200b604030400a70407009a6e00b8c2011409851b2a
theorem zk_cX12_set : zkd cX12_set.data.toList kn_cX12_set = true := by decide +kernel
theorem zn_cX12_set : cX12_set.data.toList.length = 106 := by decide +kernel
theorem dX12_set_0 : decode cX12_set 0 = .ok (.aload_n 0, 1) := zo_42 (zkb zk_cX12_set zn_cX12_set (by decide +kernel))
theorem dX12_set_1 : decode cX12_set 1 = .ok (.iload_n 1, 1) := zo_27 (zkb zk_cX12_set zn_cX12_set (by decide +kernel))
theorem dX12_set_2 : decode cX12_set 2 = .ok (.i2l, 1) := zo_133 (zkb zk_cX12_set zn_cX12_set (by decide +kernel))
theorem dX12_set_3 : decode cX12_set 3 = .ok (.lconst 0, 1) := zo_9 (zkb zk_cX12_set zn_cX12_set (by decide +kernel))
theorem dX12_set_4 : decode cX12_set 4 = .ok (.ldc2_w 450, 3) := by decide +kernel
theorem dX12_set_7 : decode cX12_set 7 = .ok (.invokestatic 110, 3) := zo_184 (b1 := 0) (b2 := 110) (zkb3 zk_cX12_set zn_cX12_set (by decide +kernel)) rfl
theorem dX12_set_10 : decode cX12_set 10 = .ok (.ifCond .ne 7, 3) := zo_154 (b1 := 0) (b2 := 7) (zkb3 zk_cX12_set zn_cX12_set (by decide +kernel)) rfl
theorem dX12_set_13 : decode cX12_set 13 = .ok (.iconst 1, 1) := zo_4 (zkb zk_cX12_set zn_cX12_set (by decide +kernel))
theorem dX12_set_14 : decode cX12_set 14 = .ok (.goto 4, 3) := zo_167 (b1 := 0) (b2 := 4) (zkb3 zk_cX12_set zn_cX12_set (by decide +kernel)) rfl
theorem dX12_set_17 : decode cX12_set 17 = .ok (.iconst 0, 1) := zo_3 (zkb zk_cX12_set zn_cX12_set (by decide +kernel))
theorem dX12_set_18 : decode cX12_set 18 = .ok (.iconst 1, 1) := zo_4 (zkb zk_cX12_set zn_cX12_set (by decide +kernel))
theorem dX12_set_19 : decode cX12_set 19 = .ok (.invokevirtual 114, 3) := zo_182 (b1 := 0) (b2 := 114) (zkb3 zk_cX12_set zn_cX12_set (by decide +kernel)) rfl
theorem dX12_set_22 : decode cX12_set 22 = .ok (.ifCond .eq 4, 3) := zo_153 (b1 := 0) (b2 := 4) (zkb3 zk_cX12_set zn_cX12_set (by decide +kernel)) rfl
theorem dX12_set_25 : decode cX12_set 25 = .ok (.return_, 1) := zo_177 (zkb zk_cX12_set zn_cX12_set (by decide +kernel))
theorem dX12_set_26 : decode cX12_set 26 = .ok (.iload_n 1, 1) := zo_27 (zkb zk_cX12_set zn_cX12_set (by decide +kernel))
theorem dX12_set_27 : decode cX12_set 27 = .ok (.bipush 25, 2) := zo_16 (b1 := 25) (zkb2 zk_cX12_set zn_cX12_set (by decide +kernel)) rfl
theorem dX12_set_29 : decode cX12_set 29 = .ok (.if_icmp .ne 26, 3) := zo_160 (b1 := 0) (b2 := 26) (zkb3 zk_cX12_set zn_cX12_set (by decide +kernel)) rfl
theorem dX12_set_32 : decode cX12_set 32 = .ok (.aload_n 0, 1) := zo_42 (zkb zk_cX12_set zn_cX12_set (by decide +kernel))
theorem dX12_set_33 : decode cX12_set 33 = .ok (.getfield 22, 3) := zo_180 (b1 := 0) (b2 := 22) (zkb3 zk_cX12_set zn_cX12_set (by decide +kernel)) rfl
theorem dX12_set_36 : decode cX12_set 36 = .ok (.iload_n 1, 1) := zo_27 (zkb zk_cX12_set zn_cX12_set (by decide +kernel))
theorem dX12_set_37 : decode cX12_set 37 = .ok (.iload_n 2, 1) := zo_28 (zkb zk_cX12_set zn_cX12_set (by decide +kernel))
theorem dX12_set_38 : decode cX12_set 38 = .ok (.iconst 3, 1) := zo_6 (zkb zk_cX12_set zn_cX12_set (by decide +kernel))
theorem dX12_set_39 : decode cX12_set 39 = .ok (.iand, 1) := zo_126 (zkb zk_cX12_set zn_cX12_set (by decide +kernel))
theorem dX12_set_40 : decode cX12_set 40 = .ok (.iconst 3, 1) := zo_6 (zkb zk_cX12_set zn_cX12_set (by decide +kernel))
theorem dX12_set_41 : decode cX12_set 41 = .ok (.if_icmp .ne 7, 3) := zo_160 (b1 := 0) (b2 := 7) (zkb3 zk_cX12_set zn_cX12_set (by decide +kernel)) rfl
theorem dX12_set_44 : decode cX12_set 44 = .ok (.iconst 2, 1) := zo_5 (zkb zk_cX12_set zn_cX12_set (by decide +kernel))
theorem dX12_set_45 : decode cX12_set 45 = .ok (.goto 6, 3) := zo_167 (b1 := 0) (b2 := 6) (zkb3 zk_cX12_set zn_cX12_set (by decide +kernel)) rfl
theorem dX12_set_48 : decode cX12_set 48 = .ok (.iload_n 2, 1) := zo_28 (zkb zk_cX12_set zn_cX12_set (by decide +kernel))
theorem dX12_set_49 : decode cX12_set 49 = .ok (.iconst 3, 1) := zo_6 (zkb zk_cX12_set zn_cX12_set (by decide +kernel))
theorem dX12_set_50 : decode cX12_set 50 = .ok (.iand, 1) := zo_126 (zkb zk_cX12_set zn_cX12_set (by decide +kernel))
theorem dX12_set_51 : decode cX12_set 51 = .ok (.iastore, 1) := zo_79 (zkb zk_cX12_set zn_cX12_set (by decide +kernel))
theorem dX12_set_52 : decode cX12_set 52 = .ok (.goto 53, 3) := zo_167 (b1 := 0) (b2 := 53) (zkb3 zk_cX12_set zn_cX12_set (by decide +kernel)) rfl
theorem dX12_set_55 : decode cX12_set 55 = .ok (.aload_n 0, 1) := zo_42 (zkb zk_cX12_set zn_cX12_set (by decide +kernel))
theorem dX12_set_56 : decode cX12_set 56 = .ok (.getfield 22, 3) := zo_180 (b1 := 0) (b2 := 22) (zkb3 zk_cX12_set zn_cX12_set (by decide +kernel)) rfl
theorem dX12_set_59 : decode cX12_set 59 = .ok (.iload_n 1, 1) := zo_27 (zkb zk_cX12_set zn_cX12_set (by decide +kernel))
theorem dX12_set_60 : decode cX12_set 60 = .ok (.iload_n 1, 1) := zo_27 (zkb zk_cX12_set zn_cX12_set (by decide +kernel))
theorem dX12_set_61 : decode cX12_set 61 = .ok (.bipush 16, 2) := zo_16 (b1 := 16) (zkb2 zk_cX12_set zn_cX12_set (by decide +kernel)) rfl
theorem dX12_set_63 : decode cX12_set 63 = .ok (.if_icmp .ge 11, 3) := zo_162 (b1 := 0) (b2 := 11) (zkb3 zk_cX12_set zn_cX12_set (by decide +kernel)) rfl
theorem dX12_set_66 : decode cX12_set 66 = .ok (.iload_n 2, 1) := zo_28 (zkb zk_cX12_set zn_cX12_set (by decide +kernel))
theorem dX12_set_67 : decode cX12_set 67 = .ok (.sipush 255, 3) := zo_17 (b1 := 0) (b2 := 255) (zkb3 zk_cX12_set zn_cX12_set (by decide +kernel)) rfl
theorem dX12_set_70 : decode cX12_set 70 = .ok (.iand, 1) := zo_126 (zkb zk_cX12_set zn_cX12_set (by decide +kernel))
theorem dX12_set_71 : decode cX12_set 71 = .ok (.goto 33, 3) := zo_167 (b1 := 0) (b2 := 33) (zkb3 zk_cX12_set zn_cX12_set (by decide +kernel)) rfl
theorem dX12_set_74 : decode cX12_set 74 = .ok (.iload_n 1, 1) := zo_27 (zkb zk_cX12_set zn_cX12_set (by decide +kernel))
theorem dX12_set_75 : decode cX12_set 75 = .ok (.bipush 20, 2) := zo_16 (b1 := 20) (zkb2 zk_cX12_set zn_cX12_set (by decide +kernel)) rfl
theorem dX12_set_77 : decode cX12_set 77 = .ok (.if_icmp .gt 10, 3) := zo_163 (b1 := 0) (b2 := 10) (zkb3 zk_cX12_set zn_cX12_set (by decide +kernel)) rfl
theorem dX12_set_80 : decode cX12_set 80 = .ok (.iload_n 2, 1) := zo_28 (zkb zk_cX12_set zn_cX12_set (by decide +kernel))
theorem dX12_set_81 : decode cX12_set 81 = .ok (.ldc 143, 2) := zo_18 (b1 := 143) (zkb2 zk_cX12_set zn_cX12_set (by decide +kernel))
theorem dX12_set_83 : decode cX12_set 83 = .ok (.iand, 1) := zo_126 (zkb zk_cX12_set zn_cX12_set (by decide +kernel))
theorem dX12_set_84 : decode cX12_set 84 = .ok (.goto 20, 3) := zo_167 (b1 := 0) (b2 := 20) (zkb3 zk_cX12_set zn_cX12_set (by decide +kernel)) rfl
theorem dX12_set_87 : decode cX12_set 87 = .ok (.iload_n 1, 1) := zo_27 (zkb zk_cX12_set zn_cX12_set (by decide +kernel))
theorem dX12_set_88 : decode cX12_set 88 = .ok (.bipush 22, 2) := zo_16 (b1 := 22) (zkb2 zk_cX12_set zn_cX12_set (by decide +kernel)) rfl
theorem dX12_set_90 : decode cX12_set 90 = .ok (.if_icmp .gt 11, 3) := zo_163 (b1 := 0) (b2 := 11) (zkb3 zk_cX12_set zn_cX12_set (by decide +kernel)) rfl
theorem dX12_set_93 : decode cX12_set 93 = .ok (.iload_n 2, 1) := zo_28 (zkb zk_cX12_set zn_cX12_set (by decide +kernel))
theorem dX12_set_94 : decode cX12_set 94 = .ok (.sipush 255, 3) := zo_17 (b1 := 0) (b2 := 255) (zkb3 zk_cX12_set zn_cX12_set (by decide +kernel)) rfl
theorem dX12_set_97 : decode cX12_set 97 = .ok (.iand, 1) := zo_126 (zkb zk_cX12_set zn_cX12_set (by decide +kernel))
theorem dX12_set_98 : decode cX12_set 98 = .ok (.goto 6, 3) := zo_167 (b1 := 0) (b2 := 6) (zkb3 zk_cX12_set zn_cX12_set (by decide +kernel)) rfl
theorem dX12_set_101 : decode cX12_set 101 = .ok (.iload_n 2, 1) := zo_28 (zkb zk_cX12_set zn_cX12_set (by decide +kernel))
theorem dX12_set_102 : decode cX12_set 102 = .ok (.iconst 1, 1) := zo_4 (zkb zk_cX12_set zn_cX12_set (by decide +kernel))
theorem dX12_set_103 : decode cX12_set 103 = .ok (.iand, 1) := zo_126 (zkb zk_cX12_set zn_cX12_set (by decide +kernel))
theorem dX12_set_104 : decode cX12_set 104 = .ok (.iastore, 1) := zo_79 (zkb zk_cX12_set zn_cX12_set (by decide +kernel))
theorem dX12_set_105 : decode cX12_set 105 = .ok (.return_, 1) := zo_177 (zkb zk_cX12_set zn_cX12_set (by decide +kernel))
def kn_cX12_peek : Nat := 0xaca600b61b2a6900b5032a
theorem zk_cX12_peek : zkd cX12_peek.data.toList kn_cX12_peek = true := by decide +kernel
theorem zn_cX12_peek : cX12_peek.data.toList.length = 11 := by decide +kernel
theorem dX12_peek_0 : decode cX12_peek 0 = .ok (.aload_n 0, 1) := zo_42 (zkb zk_cX12_peek zn_cX12_peek (by decide +kernel))
theorem dX12_peek_1 : decode cX12_peek 1 = .ok (.iconst 0, 1) := zo_3 (zkb zk_cX12_peek zn_cX12_peek (by decide +kernel))
theorem dX12_peek_2 : decode cX12_peek 2 = .ok (.putfield 105, 3) := zo_181 (b1 := 0) (b2 := 105) (zkb3 zk_cX12_peek zn_cX12_peek (by decide +kernel)) rfl
theorem dX12_peek_5 : decode cX12_peek 5 = .ok (.aload_n 0, 1) := zo_42 (zkb zk_cX12_peek zn_cX12_peek (by decide +kernel))
theorem dX12_peek_6 : decode cX12_peek 6 = .ok (.iload_n 1, 1) := zo_27 (zkb zk_cX12_peek zn_cX12_peek (by decide +kernel))
theorem dX12_peek_7 : decode cX12_peek 7 = .ok (.invokevirtual 166, 3) := zo_182 (b1 := 0) (b2 := 166) (zkb3 zk_cX12_peek zn_cX12_peek (by decide +kernel)) rfl
theorem dX12_peek_10 : decode cX12_peek 10 = .ok (.ireturn, 1) := zo_172 (zkb zk_cX12_peek zn_cX12_peek (by decide +kernel))
def kn_cX12_poke : Nat := 0xb1a900b61c1b2a6900b5032a
theorem zk_cX12_poke : zkd cX12_poke.data.toList kn_cX12_poke = true := by decide +kernel
theorem zn_cX12_poke : cX12_poke.data.toList.length = 12 := by decide +kernel
theorem dX12_poke_0 : decode cX12_poke 0 = .ok (.aload_n 0, 1) := zo_42 (zkb zk_cX12_poke zn_cX12_poke (by decide +kernel))
theorem dX12_poke_1 : decode cX12_poke 1 = .ok (.iconst 0, 1) := zo_3 (zkb zk_cX12_poke zn_cX12_poke (by decide +kernel))
theorem dX12_poke_2 : decode cX12_poke 2 = .ok (.putfield 105, 3) := zo_181 (b1 := 0) (b2 := 105) (zkb3 zk_cX12_poke zn_cX12_poke (by decide +kernel)) rfl
theorem dX12_poke_5 : decode cX12_poke 5 = .ok (.aload_n 0, 1) := zo_42 (zkb zk_cX12_poke zn_cX12_poke (by decide +kernel))
theorem dX12_poke_6 : decode cX12_poke 6 = .ok (.iload_n 1, 1) := zo_27 (zkb zk_cX12_poke zn_cX12_poke (by decide +kernel))
theorem dX12_poke_7 : decode cX12_poke 7 = .ok (.iload_n 2, 1) := zo_28 (zkb zk_cX12_poke zn_cX12_poke (by decide +kernel))
theorem dX12_poke_8 : decode cX12_poke 8 = .ok (.invokevirtual 169, 3) := zo_182 (b1 := 0) (b2 := 169) (zkb3 zk_cX12_poke zn_cX12_poke (by decide +kernel)) rfl
theorem dX12_poke_11 : decode cX12_poke 11 = .ok (.return_, 1) := zo_177 (zkb zk_cX12_poke zn_cX12_poke (by decide +kernel))
def kn_cX12_in : Nat := 0xac2801b67eff00111b2a6900b5032a
theorem zk_cX12_in : zkd cX12_in.data.toList kn_cX12_in = true := by decide +kernel
theorem zn_cX12_in : cX12_in.data.toList.length = 15 := by decide +kernel
theorem dX12_in_0 : decode cX12_in 0 = .ok (.aload_n 0, 1) := zo_42 (zkb zk_cX12_in zn_cX12_in (by decide +kernel))
theorem dX12_in_1 : decode cX12_in 1 = .ok (.iconst 0, 1) := zo_3 (zkb zk_cX12_in zn_cX12_in (by decide +kernel))
theorem dX12_in_2 : decode cX12_in 2 = .ok (.putfield 105, 3) := zo_181 (b1 := 0) (b2 := 105) (zkb3 zk_cX12_in zn_cX12_in (by decide +kernel)) rfl
theorem dX12_in_5 : decode cX12_in 5 = .ok (.aload_n 0, 1) := zo_42 (zkb zk_cX12_in zn_cX12_in (by decide +kernel))
theorem dX12_in_6 : decode cX12_in 6 = .ok (.iload_n 1, 1) := zo_27 (zkb zk_cX12_in zn_cX12_in (by decide +kernel))
theorem dX12_in_7 : decode cX12_in 7 = .ok (.sipush 255, 3) := zo_17 (b1 := 0) (b2 := 255) (zkb3 zk_cX12_in zn_cX12_in (by decide +kernel)) rfl
theorem dX12_in_10 : decode cX12_in 10 = .ok (.iand, 1) := zo_126 (zkb zk_cX12_in zn_cX12_in (by decide +kernel))
theorem dX12_in_11 : decode cX12_in 11 = .ok (.invokevirtual 296, 3) := zo_182 (b1 := 1) (b2 := 40) (zkb3 zk_cX12_in zn_cX12_in (by decide +kernel)) rfl
theorem dX12_in_14 : decode cX12_in 14 = .ok (.ireturn, 1) := zo_172 (zkb zk_cX12_in zn_cX12_in (by decide +kernel))
def kn_cX12_out : Nat := 0xb12501b67eff00111c7eff00111b2a6900b5032a
theorem zk_cX12_out : zkd cX12_out.data.toList kn_cX12_out = true := by decide +kernel
theorem zn_cX12_out : cX12_out.data.toList.length = 20 := by decide +kernel
theorem dX12_out_0 : decode cX12_out 0 = .ok (.aload_n 0, 1) := zo_42 (zkb zk_cX12_out zn_cX12_out (by decide +kernel))
theorem dX12_out_1 : decode cX12_out 1 = .ok (.iconst 0, 1) := zo_3 (zkb zk_cX12_out zn_cX12_out (by decide +kernel))
theorem dX12_out_2 : decode cX12_out 2 = .ok (.putfield 105, 3) := zo_181 (b1 := 0) (b2 := 105) (zkb3 zk_cX12_out zn_cX12_out (by decide +kernel)) rfl
theorem dX12_out_5 : decode cX12_out 5 = .ok (.aload_n 0, 1) := zo_42 (zkb zk_cX12_out zn_cX12_out (by decide +kernel))
theorem dX12_out_6 : decode cX12_out 6 = .ok (.iload_n 1, 1) := zo_27 (zkb zk_cX12_out zn_cX12_out (by decide +kernel))
theorem dX12_out_7 : decode cX12_out 7 = .ok (.sipush 255, 3) := zo_17 (b1 := 0) (b2 := 255) (zkb3 zk_cX12_out zn_cX12_out (by decide +kernel)) rfl
theorem dX12_out_10 : decode cX12_out 10 = .ok (.iand, 1) := zo_126 (zkb zk_cX12_out zn_cX12_out (by decide +kernel))
theorem dX12_out_11 : decode cX12_out 11 = .ok (.iload_n 2, 1) := zo_28 (zkb zk_cX12_out zn_cX12_out (by decide +kernel))
theorem dX12_out_12 : decode cX12_out 12 = .ok (.sipush 255, 3) := zo_17 (b1 := 0) (b2 := 255) (zkb3 zk_cX12_out zn_cX12_out (by decide +kernel)) rfl
theorem dX12_out_15 : decode cX12_out 15 = .ok (.iand, 1) := zo_126 (zkb zk_cX12_out zn_cX12_out (by decide +kernel))
theorem dX12_out_16 : decode cX12_out 16 = .ok (.invokevirtual 293, 3) := zo_182 (b1 := 1) (b2 := 37) (zkb3 zk_cX12_out zn_cX12_out (by decide +kernel)) rfl
theorem dX12_out_19 : decode cX12_out 19 = .ok (.return_, 1) := zo_177 (zkb zk_cX12_out zn_cX12_out (by decide +kernel))
def kn_cX12_battery : Nat := 0xac7eff0011331b2200b42a0d00a7030700997200b604030400a70407009a6e00b8c4011409851b2a
theorem zk_cX12_battery : zkd cX12_battery.data.toList kn_cX12_battery = true := by decide +kernel
theorem zn_cX12_battery : cX12_battery.data.toList.length = 40 := by decide +kernel
theorem dX12_battery_0 : decode cX12_battery 0 = .ok (.aload_n 0, 1) := zo_42 (zkb zk_cX12_battery zn_cX12_battery (by decide +kernel))
theorem dX12_battery_1 : decode cX12_battery 1 = .ok (.iload_n 1, 1) := zo_27 (zkb zk_cX12_battery zn_cX12_battery (by decide +kernel))
theorem dX12_battery_2 : decode cX12_battery 2 = .ok (.i2l, 1) := zo_133 (zkb zk_cX12_battery zn_cX12_battery (by decide +kernel))
theorem dX12_battery_3 : decode cX12_battery 3 = .ok (.lconst 0, 1) := zo_9 (zkb zk_cX12_battery zn_cX12_battery (by decide +kernel))
theorem dX12_battery_4 : decode cX12_battery 4 = .ok (.ldc2_w 452, 3) := by decide +kernel
theorem dX12_battery_7 : decode cX12_battery 7 = .ok (.invokestatic 110, 3) := zo_184 (b1 := 0) (b2 := 110) (zkb3 zk_cX12_battery zn_cX12_battery (by decide +kernel)) rfl
theorem dX12_battery_10 : decode cX12_battery 10 = .ok (.ifCond .ne 7, 3) := zo_154 (b1 := 0) (b2 := 7) (zkb3 zk_cX12_battery zn_cX12_battery (by decide +kernel)) rfl
theorem dX12_battery_13 : decode cX12_battery 13 = .ok (.iconst 1, 1) := zo_4 (zkb zk_cX12_battery zn_cX12_battery (by decide +kernel))
theorem dX12_battery_14 : decode cX12_battery 14 = .ok (.goto 4, 3) := zo_167 (b1 := 0) (b2 := 4) (zkb3 zk_cX12_battery zn_cX12_battery (by decide +kernel)) rfl
theorem dX12_battery_17 : decode cX12_battery 17 = .ok (.iconst 0, 1) := zo_3 (zkb zk_cX12_battery zn_cX12_battery (by decide +kernel))
theorem dX12_battery_18 : decode cX12_battery 18 = .ok (.iconst 1, 1) := zo_4 (zkb zk_cX12_battery zn_cX12_battery (by decide +kernel))
theorem dX12_battery_19 : decode cX12_battery 19 = .ok (.invokevirtual 114, 3) := zo_182 (b1 := 0) (b2 := 114) (zkb3 zk_cX12_battery zn_cX12_battery (by decide +kernel)) rfl
theorem dX12_battery_22 : decode cX12_battery 22 = .ok (.ifCond .eq 7, 3) := zo_153 (b1 := 0) (b2 := 7) (zkb3 zk_cX12_battery zn_cX12_battery (by decide +kernel)) rfl
theorem dX12_battery_25 : decode cX12_battery 25 = .ok (.iconst 0, 1) := zo_3 (zkb zk_cX12_battery zn_cX12_battery (by decide +kernel))
theorem dX12_battery_26 : decode cX12_battery 26 = .ok (.goto 13, 3) := zo_167 (b1 := 0) (b2 := 13) (zkb3 zk_cX12_battery zn_cX12_battery (by decide +kernel)) rfl
theorem dX12_battery_29 : decode cX12_battery 29 = .ok (.aload_n 0, 1) := zo_42 (zkb zk_cX12_battery zn_cX12_battery (by decide +kernel))
theorem dX12_battery_30 : decode cX12_battery 30 = .ok (.getfield 34, 3) := zo_180 (b1 := 0) (b2 := 34) (zkb3 zk_cX12_battery zn_cX12_battery (by decide +kernel)) rfl
theorem dX12_battery_33 : decode cX12_battery 33 = .ok (.iload_n 1, 1) := zo_27 (zkb zk_cX12_battery zn_cX12_battery (by decide +kernel))
theorem dX12_battery_34 : decode cX12_battery 34 = .ok (.baload, 1) := zo_51 (zkb zk_cX12_battery zn_cX12_battery (by decide +kernel))
theorem dX12_battery_35 : decode cX12_battery 35 = .ok (.sipush 255, 3) := zo_17 (b1 := 0) (b2 := 255) (zkb3 zk_cX12_battery zn_cX12_battery (by decide +kernel)) rfl
theorem dX12_battery_38 : decode cX12_battery 38 = .ok (.iand, 1) := zo_126 (zkb zk_cX12_battery zn_cX12_battery (by decide +kernel))
theorem dX12_battery_39 : decode cX12_battery 39 = .ok (.ireturn, 1) := zo_172 (zkb zk_cX12_battery zn_cX12_battery (by decide +kernel))
def kn_cX12_wipe : Nat := 0xb1f0ffa701018454031b2200b42a1000a221121b3c036900b5032a
theorem zk_cX12_wipe : zkd cX12_wipe.data.toList kn_cX12_wipe = true := by decide +kernel
theorem zn_cX12_wipe : cX12_wipe.data.toList.length = 27 := by decide +kernel
theorem dX12_wipe_0 : decode cX12_wipe 0 = .ok (.aload_n 0, 1) := zo_42 (zkb zk_cX12_wipe zn_cX12_wipe (by decide +kernel))
theorem dX12_wipe_1 : decode cX12_wipe 1 = .ok (.iconst 0, 1) := zo_3 (zkb zk_cX12_wipe zn_cX12_wipe (by decide +kernel))
theorem dX12_wipe_2 : decode cX12_wipe 2 = .ok (.putfield 105, 3) := zo_181 (b1 := 0) (b2 := 105) (zkb3 zk_cX12_wipe zn_cX12_wipe (by decide +kernel)) rfl
theorem dX12_wipe_5 : decode cX12_wipe 5 = .ok (.iconst 0, 1) := zo_3 (zkb zk_cX12_wipe zn_cX12_wipe (by decide +kernel))
theorem dX12_wipe_6 : decode cX12_wipe 6 = .ok (.istore_n 1, 1) := zo_60 (zkb zk_cX12_wipe zn_cX12_wipe (by decide +kernel))
theorem dX12_wipe_7 : decode cX12_wipe 7 = .ok (.iload_n 1, 1) := zo_27 (zkb zk_cX12_wipe zn_cX12_wipe (by decide +kernel))
theorem dX12_wipe_8 : decode cX12_wipe 8 = .ok (.ldc 33, 2) := zo_18 (b1 := 33) (zkb2 zk_cX12_wipe zn_cX12_wipe (by decide +kernel))
theorem dX12_wipe_10 : decode cX12_wipe 10 = .ok (.if_icmp .ge 16, 3) := zo_162 (b1 := 0) (b2 := 16) (zkb3 zk_cX12_wipe zn_cX12_wipe (by decide +kernel)) rfl
theorem dX12_wipe_13 : decode cX12_wipe 13 = .ok (.aload_n 0, 1) := zo_42 (zkb zk_cX12_wipe zn_cX12_wipe (by decide +kernel))
theorem dX12_wipe_14 : decode cX12_wipe 14 = .ok (.getfield 34, 3) := zo_180 (b1 := 0) (b2 := 34) (zkb3 zk_cX12_wipe zn_cX12_wipe (by decide +kernel)) rfl
theorem dX12_wipe_17 : decode cX12_wipe 17 = .ok (.iload_n 1, 1) := zo_27 (zkb zk_cX12_wipe zn_cX12_wipe (by decide +kernel))
theorem dX12_wipe_18 : decode cX12_wipe 18 = .ok (.iconst 0, 1) := zo_3 (zkb zk_cX12_wipe zn_cX12_wipe (by decide +kernel))
theorem dX12_wipe_19 : decode cX12_wipe 19 = .ok (.bastore, 1) := zo_84 (zkb zk_cX12_wipe zn_cX12_wipe (by decide +kernel))
theorem dX12_wipe_20 : decode cX12_wipe 20 = .ok (.iinc 1 1, 3) := zo_132 (b1 := 1) (b2 := 1) (zkb3 zk_cX12_wipe zn_cX12_wipe (by decide +kernel)) rfl
theorem dX12_wipe_23 : decode cX12_wipe 23 = .ok (.goto (-16), 3) := zo_167 (b1 := 255) (b2 := 240) (zkb3 zk_cX12_wipe zn_cX12_wipe (by decide +kernel)) rfl
theorem dX12_wipe_26 : decode cX12_wipe 26 = .ok (.return_, 1) := zo_177 (zkb zk_cX12_wipe zn_cX12_wipe (by decide +kernel))
def kn_cX12_video : Nat := 0xad20e9ffa7ff04844181859101b66004151b2a7908102018009b04150436071041096900b5032a
theorem zk_cX12_video : zkd cX12_video.data.toList kn_cX12_video = true := by decide +kernel
theorem zn_cX12_video : cX12_video.data.toList.length = 39 := by decide +kernel
theorem dX12_video_0 : decode cX12_video 0 = .ok (.aload_n 0, 1) := zo_42 (zkb zk_cX12_video zn_cX12_video (by decide +kernel))
theorem dX12_video_1 : decode cX12_video 1 = .ok (.iconst 0, 1) := zo_3 (zkb zk_cX12_video zn_cX12_video (by decide +kernel))
theorem dX12_video_2 : decode cX12_video 2 = .ok (.putfield 105, 3) := zo_181 (b1 := 0) (b2 := 105) (zkb3 zk_cX12_video zn_cX12_video (by decide +kernel)) rfl
theorem dX12_video_5 : decode cX12_video 5 = .ok (.lconst 0, 1) := zo_9 (zkb zk_cX12_video zn_cX12_video (by decide +kernel))
theorem dX12_video_6 : decode cX12_video 6 = .ok (.lstore_n 2, 1) := zo_65 (zkb zk_cX12_video zn_cX12_video (by decide +kernel))
theorem dX12_video_7 : decode cX12_video 7 = .ok (.bipush 7, 2) := zo_16 (b1 := 7) (zkb2 zk_cX12_video zn_cX12_video (by decide +kernel)) rfl
theorem dX12_video_9 : decode cX12_video 9 = .ok (.istore 4, 2) := zo_54 (b1 := 4) (zkb2 zk_cX12_video zn_cX12_video (by decide +kernel))
theorem dX12_video_11 : decode cX12_video 11 = .ok (.iload 4, 2) := zo_21 (b1 := 4) (zkb2 zk_cX12_video zn_cX12_video (by decide +kernel))
theorem dX12_video_13 : decode cX12_video 13 = .ok (.ifCond .lt 24, 3) := zo_155 (b1 := 0) (b2 := 24) (zkb3 zk_cX12_video zn_cX12_video (by decide +kernel)) rfl
theorem dX12_video_16 : decode cX12_video 16 = .ok (.lload_n 2, 1) := zo_32 (zkb zk_cX12_video zn_cX12_video (by decide +kernel))
theorem dX12_video_17 : decode cX12_video 17 = .ok (.bipush 8, 2) := zo_16 (b1 := 8) (zkb2 zk_cX12_video zn_cX12_video (by decide +kernel)) rfl
theorem dX12_video_19 : decode cX12_video 19 = .ok (.lshl, 1) := zo_121 (zkb zk_cX12_video zn_cX12_video (by decide +kernel))
theorem dX12_video_20 : decode cX12_video 20 = .ok (.aload_n 0, 1) := zo_42 (zkb zk_cX12_video zn_cX12_video (by decide +kernel))
theorem dX12_video_21 : decode cX12_video 21 = .ok (.iload_n 1, 1) := zo_27 (zkb zk_cX12_video zn_cX12_video (by decide +kernel))
theorem dX12_video_22 : decode cX12_video 22 = .ok (.iload 4, 2) := zo_21 (b1 := 4) (zkb2 zk_cX12_video zn_cX12_video (by decide +kernel))
theorem dX12_video_24 : decode cX12_video 24 = .ok (.iadd, 1) := zo_96 (zkb zk_cX12_video zn_cX12_video (by decide +kernel))
theorem dX12_video_25 : decode cX12_video 25 = .ok (.invokevirtual 401, 3) := zo_182 (b1 := 1) (b2 := 145) (zkb3 zk_cX12_video zn_cX12_video (by decide +kernel)) rfl
theorem dX12_video_28 : decode cX12_video 28 = .ok (.i2l, 1) := zo_133 (zkb zk_cX12_video zn_cX12_video (by decide +kernel))
theorem dX12_video_29 : decode cX12_video 29 = .ok (.lor, 1) := zo_129 (zkb zk_cX12_video zn_cX12_video (by decide +kernel))
theorem dX12_video_30 : decode cX12_video 30 = .ok (.lstore_n 2, 1) := zo_65 (zkb zk_cX12_video zn_cX12_video (by decide +kernel))
theorem dX12_video_31 : decode cX12_video 31 = .ok (.iinc 4 (-1), 3) := zo_132 (b1 := 4) (b2 := 255) (zkb3 zk_cX12_video zn_cX12_video (by decide +kernel)) rfl
theorem dX12_video_34 : decode cX12_video 34 = .ok (.goto (-23), 3) := zo_167 (b1 := 255) (b2 := 233) (zkb3 zk_cX12_video zn_cX12_video (by decide +kernel)) rfl
theorem dX12_video_37 : decode cX12_video 37 = .ok (.lload_n 2, 1) := zo_32 (zkb zk_cX12_video zn_cX12_video (by decide +kernel))
theorem dX12_video_38 : decode cX12_video 38 = .ok (.lreturn, 1) := zo_173 (zkb zk_cX12_video zn_cX12_video (by decide +kernel))
def kn_cX12_chip : Nat := 0xac4301b62aac5301b62aac9701b62aac8e01b62aac2e43101600b42aac2e42101600b42aac2e41101600b42aac2e40101600b42aac030400a7040700996801b62a65000000600000005b000000530000004b000000430000003b0000002e00000018000000110000006a00000000aa1bac2e601b2f101600b42a0d00a211101bac7eff0011336420101b2800b42a1100a41f101bac030500997200b604030400a70407009a6e00b8c60114630114851b15009a6e00b8c2011409851b2a
theorem zk_cX12_chip : zkd cX12_chip.data.toList kn_cX12_chip = true := by decide +kernel
theorem zn_cX12_chip : cX12_chip.data.toList.length = 189 := by decide +kernel
theorem dX12_chip_0 : decode cX12_chip 0 = .ok (.aload_n 0, 1) := zo_42 (zkb zk_cX12_chip zn_cX12_chip (by decide +kernel))
theorem dX12_chip_1 : decode cX12_chip 1 = .ok (.iload_n 1, 1) := zo_27 (zkb zk_cX12_chip zn_cX12_chip (by decide +kernel))
theorem dX12_chip_2 : decode cX12_chip 2 = .ok (.i2l, 1) := zo_133 (zkb zk_cX12_chip zn_cX12_chip (by decide +kernel))
theorem dX12_chip_3 : decode cX12_chip 3 = .ok (.lconst 0, 1) := zo_9 (zkb zk_cX12_chip zn_cX12_chip (by decide +kernel))
theorem dX12_chip_4 : decode cX12_chip 4 = .ok (.ldc2_w 450, 3) := by decide +kernel
theorem dX12_chip_7 : decode cX12_chip 7 = .ok (.invokestatic 110, 3) := zo_184 (b1 := 0) (b2 := 110) (zkb3 zk_cX12_chip zn_cX12_chip (by decide +kernel)) rfl
theorem dX12_chip_10 : decode cX12_chip 10 = .ok (.ifCond .ne 21, 3) := zo_154 (b1 := 0) (b2 := 21) (zkb3 zk_cX12_chip zn_cX12_chip (by decide +kernel)) rfl
theorem dX12_chip_13 : decode cX12_chip 13 = .ok (.iload_n 1, 1) := zo_27 (zkb zk_cX12_chip zn_cX12_chip (by decide +kernel))
theorem dX12_chip_14 : decode cX12_chip 14 = .ok (.i2l, 1) := zo_133 (zkb zk_cX12_chip zn_cX12_chip (by decide +kernel))
theorem dX12_chip_15 : decode cX12_chip 15 = .ok (.ldc2_w 355, 3) := by decide +kernel
theorem dX12_chip_18 : decode cX12_chip 18 = .ok (.ldc2_w 454, 3) := by decide +kernel
theorem dX12_chip_21 : decode cX12_chip 21 = .ok (.invokestatic 110, 3) := zo_184 (b1 := 0) (b2 := 110) (zkb3 zk_cX12_chip zn_cX12_chip (by decide +kernel)) rfl
theorem dX12_chip_24 : decode cX12_chip 24 = .ok (.ifCond .ne 7, 3) := zo_154 (b1 := 0) (b2 := 7) (zkb3 zk_cX12_chip zn_cX12_chip (by decide +kernel)) rfl
theorem dX12_chip_27 : decode cX12_chip 27 = .ok (.iconst 1, 1) := zo_4 (zkb zk_cX12_chip zn_cX12_chip (by decide +kernel))
theorem dX12_chip_28 : decode cX12_chip 28 = .ok (.goto 4, 3) := zo_167 (b1 := 0) (b2 := 4) (zkb3 zk_cX12_chip zn_cX12_chip (by decide +kernel)) rfl
theorem dX12_chip_31 : decode cX12_chip 31 = .ok (.iconst 0, 1) := zo_3 (zkb zk_cX12_chip zn_cX12_chip (by decide +kernel))
theorem dX12_chip_32 : decode cX12_chip 32 = .ok (.iconst 1, 1) := zo_4 (zkb zk_cX12_chip zn_cX12_chip (by decide +kernel))
theorem dX12_chip_33 : decode cX12_chip 33 = .ok (.invokevirtual 114, 3) := zo_182 (b1 := 0) (b2 := 114) (zkb3 zk_cX12_chip zn_cX12_chip (by decide +kernel)) rfl
theorem dX12_chip_36 : decode cX12_chip 36 = .ok (.ifCond .eq 5, 3) := zo_153 (b1 := 0) (b2 := 5) (zkb3 zk_cX12_chip zn_cX12_chip (by decide +kernel)) rfl
theorem dX12_chip_39 : decode cX12_chip 39 = .ok (.iconst 0, 1) := zo_3 (zkb zk_cX12_chip zn_cX12_chip (by decide +kernel))
theorem dX12_chip_40 : decode cX12_chip 40 = .ok (.ireturn, 1) := zo_172 (zkb zk_cX12_chip zn_cX12_chip (by decide +kernel))
theorem dX12_chip_41 : decode cX12_chip 41 = .ok (.iload_n 1, 1) := zo_27 (zkb zk_cX12_chip zn_cX12_chip (by decide +kernel))
theorem dX12_chip_42 : decode cX12_chip 42 = .ok (.bipush 31, 2) := zo_16 (b1 := 31) (zkb2 zk_cX12_chip zn_cX12_chip (by decide +kernel)) rfl
theorem dX12_chip_44 : decode cX12_chip 44 = .ok (.if_icmp .le 17, 3) := zo_164 (b1 := 0) (b2 := 17) (zkb3 zk_cX12_chip zn_cX12_chip (by decide +kernel)) rfl
theorem dX12_chip_47 : decode cX12_chip 47 = .ok (.aload_n 0, 1) := zo_42 (zkb zk_cX12_chip zn_cX12_chip (by decide +kernel))
theorem dX12_chip_48 : decode cX12_chip 48 = .ok (.getfield 40, 3) := zo_180 (b1 := 0) (b2 := 40) (zkb3 zk_cX12_chip zn_cX12_chip (by decide +kernel)) rfl
theorem dX12_chip_51 : decode cX12_chip 51 = .ok (.iload_n 1, 1) := zo_27 (zkb zk_cX12_chip zn_cX12_chip (by decide +kernel))
theorem dX12_chip_52 : decode cX12_chip 52 = .ok (.bipush 32, 2) := zo_16 (b1 := 32) (zkb2 zk_cX12_chip zn_cX12_chip (by decide +kernel)) rfl
theorem dX12_chip_54 : decode cX12_chip 54 = .ok (.isub, 1) := zo_100 (zkb zk_cX12_chip zn_cX12_chip (by decide +kernel))
theorem dX12_chip_55 : decode cX12_chip 55 = .ok (.baload, 1) := zo_51 (zkb zk_cX12_chip zn_cX12_chip (by decide +kernel))
theorem dX12_chip_56 : decode cX12_chip 56 = .ok (.sipush 255, 3) := zo_17 (b1 := 0) (b2 := 255) (zkb3 zk_cX12_chip zn_cX12_chip (by decide +kernel)) rfl
theorem dX12_chip_59 : decode cX12_chip 59 = .ok (.iand, 1) := zo_126 (zkb zk_cX12_chip zn_cX12_chip (by decide +kernel))
theorem dX12_chip_60 : decode cX12_chip 60 = .ok (.ireturn, 1) := zo_172 (zkb zk_cX12_chip zn_cX12_chip (by decide +kernel))
theorem dX12_chip_61 : decode cX12_chip 61 = .ok (.iload_n 1, 1) := zo_27 (zkb zk_cX12_chip zn_cX12_chip (by decide +kernel))
theorem dX12_chip_62 : decode cX12_chip 62 = .ok (.bipush 17, 2) := zo_16 (b1 := 17) (zkb2 zk_cX12_chip zn_cX12_chip (by decide +kernel)) rfl
theorem dX12_chip_64 : decode cX12_chip 64 = .ok (.if_icmp .ge 13, 3) := zo_162 (b1 := 0) (b2 := 13) (zkb3 zk_cX12_chip zn_cX12_chip (by decide +kernel)) rfl
theorem dX12_chip_67 : decode cX12_chip 67 = .ok (.aload_n 0, 1) := zo_42 (zkb zk_cX12_chip zn_cX12_chip (by decide +kernel))
theorem dX12_chip_68 : decode cX12_chip 68 = .ok (.getfield 22, 3) := zo_180 (b1 := 0) (b2 := 22) (zkb3 zk_cX12_chip zn_cX12_chip (by decide +kernel)) rfl
theorem dX12_chip_71 : decode cX12_chip 71 = .ok (.bipush 47, 2) := zo_16 (b1 := 47) (zkb2 zk_cX12_chip zn_cX12_chip (by decide +kernel)) rfl
theorem dX12_chip_73 : decode cX12_chip 73 = .ok (.iload_n 1, 1) := zo_27 (zkb zk_cX12_chip zn_cX12_chip (by decide +kernel))
theorem dX12_chip_74 : decode cX12_chip 74 = .ok (.iadd, 1) := zo_96 (zkb zk_cX12_chip zn_cX12_chip (by decide +kernel))
theorem dX12_chip_75 : decode cX12_chip 75 = .ok (.iaload, 1) := zo_46 (zkb zk_cX12_chip zn_cX12_chip (by decide +kernel))
theorem dX12_chip_76 : decode cX12_chip 76 = .ok (.ireturn, 1) := zo_172 (zkb zk_cX12_chip zn_cX12_chip (by decide +kernel))
theorem dX12_chip_77 : decode cX12_chip 77 = .ok (.iload_n 1, 1) := zo_27 (zkb zk_cX12_chip zn_cX12_chip (by decide +kernel))
theorem dX12_chip_78 : decode cX12_chip 78 = .ok (.tableswitch 106 17 24 #[46, 59, 67, 75, 83, 91, 96, 101], 46) := by decide +kernel
theorem dX12_chip_124 : decode cX12_chip 124 = .ok (.aload_n 0, 1) := zo_42 (zkb zk_cX12_chip zn_cX12_chip (by decide +kernel))
theorem dX12_chip_125 : decode cX12_chip 125 = .ok (.invokevirtual 360, 3) := zo_182 (b1 := 1) (b2 := 104) (zkb3 zk_cX12_chip zn_cX12_chip (by decide +kernel)) rfl
theorem dX12_chip_128 : decode cX12_chip 128 = .ok (.ifCond .eq 7, 3) := zo_153 (b1 := 0) (b2 := 7) (zkb3 zk_cX12_chip zn_cX12_chip (by decide +kernel)) rfl
theorem dX12_chip_131 : decode cX12_chip 131 = .ok (.iconst 1, 1) := zo_4 (zkb zk_cX12_chip zn_cX12_chip (by decide +kernel))
theorem dX12_chip_132 : decode cX12_chip 132 = .ok (.goto 4, 3) := zo_167 (b1 := 0) (b2 := 4) (zkb3 zk_cX12_chip zn_cX12_chip (by decide +kernel)) rfl
theorem dX12_chip_135 : decode cX12_chip 135 = .ok (.iconst 0, 1) := zo_3 (zkb zk_cX12_chip zn_cX12_chip (by decide +kernel))
theorem dX12_chip_136 : decode cX12_chip 136 = .ok (.ireturn, 1) := zo_172 (zkb zk_cX12_chip zn_cX12_chip (by decide +kernel))
theorem dX12_chip_137 : decode cX12_chip 137 = .ok (.aload_n 0, 1) := zo_42 (zkb zk_cX12_chip zn_cX12_chip (by decide +kernel))
theorem dX12_chip_138 : decode cX12_chip 138 = .ok (.getfield 22, 3) := zo_180 (b1 := 0) (b2 := 22) (zkb3 zk_cX12_chip zn_cX12_chip (by decide +kernel)) rfl
theorem dX12_chip_141 : decode cX12_chip 141 = .ok (.bipush 64, 2) := zo_16 (b1 := 64) (zkb2 zk_cX12_chip zn_cX12_chip (by decide +kernel)) rfl
theorem dX12_chip_143 : decode cX12_chip 143 = .ok (.iaload, 1) := zo_46 (zkb zk_cX12_chip zn_cX12_chip (by decide +kernel))
theorem dX12_chip_144 : decode cX12_chip 144 = .ok (.ireturn, 1) := zo_172 (zkb zk_cX12_chip zn_cX12_chip (by decide +kernel))
theorem dX12_chip_145 : decode cX12_chip 145 = .ok (.aload_n 0, 1) := zo_42 (zkb zk_cX12_chip zn_cX12_chip (by decide +kernel))
theorem dX12_chip_146 : decode cX12_chip 146 = .ok (.getfield 22, 3) := zo_180 (b1 := 0) (b2 := 22) (zkb3 zk_cX12_chip zn_cX12_chip (by decide +kernel)) rfl
theorem dX12_chip_149 : decode cX12_chip 149 = .ok (.bipush 65, 2) := zo_16 (b1 := 65) (zkb2 zk_cX12_chip zn_cX12_chip (by decide +kernel)) rfl
theorem dX12_chip_151 : decode cX12_chip 151 = .ok (.iaload, 1) := zo_46 (zkb zk_cX12_chip zn_cX12_chip (by decide +kernel))
theorem dX12_chip_152 : decode cX12_chip 152 = .ok (.ireturn, 1) := zo_172 (zkb zk_cX12_chip zn_cX12_chip (by decide +kernel))
theorem dX12_chip_153 : decode cX12_chip 153 = .ok (.aload_n 0, 1) := zo_42 (zkb zk_cX12_chip zn_cX12_chip (by decide +kernel))
theorem dX12_chip_154 : decode cX12_chip 154 = .ok (.getfield 22, 3) := zo_180 (b1 := 0) (b2 := 22) (zkb3 zk_cX12_chip zn_cX12_chip (by decide +kernel)) rfl
theorem dX12_chip_157 : decode cX12_chip 157 = .ok (.bipush 66, 2) := zo_16 (b1 := 66) (zkb2 zk_cX12_chip zn_cX12_chip (by decide +kernel)) rfl
theorem dX12_chip_159 : decode cX12_chip 159 = .ok (.iaload, 1) := zo_46 (zkb zk_cX12_chip zn_cX12_chip (by decide +kernel))
theorem dX12_chip_160 : decode cX12_chip 160 = .ok (.ireturn, 1) := zo_172 (zkb zk_cX12_chip zn_cX12_chip (by decide +kernel))
theorem dX12_chip_161 : decode cX12_chip 161 = .ok (.aload_n 0, 1) := zo_42 (zkb zk_cX12_chip zn_cX12_chip (by decide +kernel))
theorem dX12_chip_162 : decode cX12_chip 162 = .ok (.getfield 22, 3) := zo_180 (b1 := 0) (b2 := 22) (zkb3 zk_cX12_chip zn_cX12_chip (by decide +kernel)) rfl
theorem dX12_chip_165 : decode cX12_chip 165 = .ok (.bipush 67, 2) := zo_16 (b1 := 67) (zkb2 zk_cX12_chip zn_cX12_chip (by decide +kernel)) rfl
theorem dX12_chip_167 : decode cX12_chip 167 = .ok (.iaload, 1) := zo_46 (zkb zk_cX12_chip zn_cX12_chip (by decide +kernel))
theorem dX12_chip_168 : decode cX12_chip 168 = .ok (.ireturn, 1) := zo_172 (zkb zk_cX12_chip zn_cX12_chip (by decide +kernel))
theorem dX12_chip_169 : decode cX12_chip 169 = .ok (.aload_n 0, 1) := zo_42 (zkb zk_cX12_chip zn_cX12_chip (by decide +kernel))
theorem dX12_chip_170 : decode cX12_chip 170 = .ok (.invokevirtual 398, 3) := zo_182 (b1 := 1) (b2 := 142) (zkb3 zk_cX12_chip zn_cX12_chip (by decide +kernel)) rfl
theorem dX12_chip_173 : decode cX12_chip 173 = .ok (.ireturn, 1) := zo_172 (zkb zk_cX12_chip zn_cX12_chip (by decide +kernel))
theorem dX12_chip_174 : decode cX12_chip 174 = .ok (.aload_n 0, 1) := zo_42 (zkb zk_cX12_chip zn_cX12_chip (by decide +kernel))
theorem dX12_chip_175 : decode cX12_chip 175 = .ok (.invokevirtual 407, 3) := zo_182 (b1 := 1) (b2 := 151) (zkb3 zk_cX12_chip zn_cX12_chip (by decide +kernel)) rfl
theorem dX12_chip_178 : decode cX12_chip 178 = .ok (.ireturn, 1) := zo_172 (zkb zk_cX12_chip zn_cX12_chip (by decide +kernel))
theorem dX12_chip_179 : decode cX12_chip 179 = .ok (.aload_n 0, 1) := zo_42 (zkb zk_cX12_chip zn_cX12_chip (by decide +kernel))
theorem dX12_chip_180 : decode cX12_chip 180 = .ok (.invokevirtual 339, 3) := zo_182 (b1 := 1) (b2 := 83) (zkb3 zk_cX12_chip zn_cX12_chip (by decide +kernel)) rfl
theorem dX12_chip_183 : decode cX12_chip 183 = .ok (.ireturn, 1) := zo_172 (zkb zk_cX12_chip zn_cX12_chip (by decide +kernel))
theorem dX12_chip_184 : decode cX12_chip 184 = .ok (.aload_n 0, 1) := zo_42 (zkb zk_cX12_chip zn_cX12_chip (by decide +kernel))
theorem dX12_chip_185 : decode cX12_chip 185 = .ok (.invokevirtual 323, 3) := zo_182 (b1 := 1) (b2 := 67) (zkb3 zk_cX12_chip zn_cX12_chip (by decide +kernel)) rfl
theorem dX12_chip_188 : decode cX12_chip 188 = .ok (.ireturn, 1) := zo_172 (zkb zk_cX12_chip zn_cX12_chip (by decide +kernel))
def kn_cX12_trace : Nat := 0xac2e887163011465851b650a5f01b42a5000b42a1600a70207009b945f01b42a851b0d00996e00b8c8011409851b6900b5032a
theorem zk_cX12_trace : zkd cX12_trace.data.toList kn_cX12_trace = true := by decide +kernel
theorem zn_cX12_trace : cX12_trace.data.toList.length = 51 := by decide +kernel
theorem dX12_trace_0 : decode cX12_trace 0 = .ok (.aload_n 0, 1) := zo_42 (zkb zk_cX12_trace zn_cX12_trace (by decide +kernel))
theorem dX12_trace_1 : decode cX12_trace 1 = .ok (.iconst 0, 1) := zo_3 (zkb zk_cX12_trace zn_cX12_trace (by decide +kernel))
theorem dX12_trace_2 : decode cX12_trace 2 = .ok (.putfield 105, 3) := zo_181 (b1 := 0) (b2 := 105) (zkb3 zk_cX12_trace zn_cX12_trace (by decide +kernel)) rfl
theorem dX12_trace_5 : decode cX12_trace 5 = .ok (.iload_n 1, 1) := zo_27 (zkb zk_cX12_trace zn_cX12_trace (by decide +kernel))
theorem dX12_trace_6 : decode cX12_trace 6 = .ok (.i2l, 1) := zo_133 (zkb zk_cX12_trace zn_cX12_trace (by decide +kernel))
theorem dX12_trace_7 : decode cX12_trace 7 = .ok (.lconst 0, 1) := zo_9 (zkb zk_cX12_trace zn_cX12_trace (by decide +kernel))
theorem dX12_trace_8 : decode cX12_trace 8 = .ok (.ldc2_w 456, 3) := by decide +kernel
theorem dX12_trace_11 : decode cX12_trace 11 = .ok (.invokestatic 110, 3) := zo_184 (b1 := 0) (b2 := 110) (zkb3 zk_cX12_trace zn_cX12_trace (by decide +kernel)) rfl
theorem dX12_trace_14 : decode cX12_trace 14 = .ok (.ifCond .eq 13, 3) := zo_153 (b1 := 0) (b2 := 13) (zkb3 zk_cX12_trace zn_cX12_trace (by decide +kernel)) rfl
theorem dX12_trace_17 : decode cX12_trace 17 = .ok (.iload_n 1, 1) := zo_27 (zkb zk_cX12_trace zn_cX12_trace (by decide +kernel))
theorem dX12_trace_18 : decode cX12_trace 18 = .ok (.i2l, 1) := zo_133 (zkb zk_cX12_trace zn_cX12_trace (by decide +kernel))
theorem dX12_trace_19 : decode cX12_trace 19 = .ok (.aload_n 0, 1) := zo_42 (zkb zk_cX12_trace zn_cX12_trace (by decide +kernel))
theorem dX12_trace_20 : decode cX12_trace 20 = .ok (.getfield 351, 3) := zo_180 (b1 := 1) (b2 := 95) (zkb3 zk_cX12_trace zn_cX12_trace (by decide +kernel)) rfl
theorem dX12_trace_23 : decode cX12_trace 23 = .ok (.lcmp, 1) := zo_148 (zkb zk_cX12_trace zn_cX12_trace (by decide +kernel))
theorem dX12_trace_24 : decode cX12_trace 24 = .ok (.ifCond .lt 7, 3) := zo_155 (b1 := 0) (b2 := 7) (zkb3 zk_cX12_trace zn_cX12_trace (by decide +kernel)) rfl
theorem dX12_trace_27 : decode cX12_trace 27 = .ok (.iconst (-1), 1) := zo_2 (zkb zk_cX12_trace zn_cX12_trace (by decide +kernel))
theorem dX12_trace_28 : decode cX12_trace 28 = .ok (.goto 22, 3) := zo_167 (b1 := 0) (b2 := 22) (zkb3 zk_cX12_trace zn_cX12_trace (by decide +kernel)) rfl
theorem dX12_trace_31 : decode cX12_trace 31 = .ok (.aload_n 0, 1) := zo_42 (zkb zk_cX12_trace zn_cX12_trace (by decide +kernel))
theorem dX12_trace_32 : decode cX12_trace 32 = .ok (.getfield 80, 3) := zo_180 (b1 := 0) (b2 := 80) (zkb3 zk_cX12_trace zn_cX12_trace (by decide +kernel)) rfl
theorem dX12_trace_35 : decode cX12_trace 35 = .ok (.aload_n 0, 1) := zo_42 (zkb zk_cX12_trace zn_cX12_trace (by decide +kernel))
theorem dX12_trace_36 : decode cX12_trace 36 = .ok (.getfield 351, 3) := zo_180 (b1 := 1) (b2 := 95) (zkb3 zk_cX12_trace zn_cX12_trace (by decide +kernel)) rfl
theorem dX12_trace_39 : decode cX12_trace 39 = .ok (.lconst 1, 1) := zo_10 (zkb zk_cX12_trace zn_cX12_trace (by decide +kernel))
theorem dX12_trace_40 : decode cX12_trace 40 = .ok (.lsub, 1) := zo_101 (zkb zk_cX12_trace zn_cX12_trace (by decide +kernel))
theorem dX12_trace_41 : decode cX12_trace 41 = .ok (.iload_n 1, 1) := zo_27 (zkb zk_cX12_trace zn_cX12_trace (by decide +kernel))
theorem dX12_trace_42 : decode cX12_trace 42 = .ok (.i2l, 1) := zo_133 (zkb zk_cX12_trace zn_cX12_trace (by decide +kernel))
theorem dX12_trace_43 : decode cX12_trace 43 = .ok (.lsub, 1) := zo_101 (zkb zk_cX12_trace zn_cX12_trace (by decide +kernel))
theorem dX12_trace_44 : decode cX12_trace 44 = .ok (.ldc2_w 355, 3) := by decide +kernel
theorem dX12_trace_47 : decode cX12_trace 47 = .ok (.lrem, 1) := zo_113 (zkb zk_cX12_trace zn_cX12_trace (by decide +kernel))
theorem dX12_trace_48 : decode cX12_trace 48 = .ok (.l2i, 1) := zo_136 (zkb zk_cX12_trace zn_cX12_trace (by decide +kernel))
theorem dX12_trace_49 : decode cX12_trace 49 = .ok (.iaload, 1) := zo_46 (zkb zk_cX12_trace zn_cX12_trace (by decide +kernel))
theorem dX12_trace_50 : decode cX12_trace 50 = .ok (.ireturn, 1) := zo_172 (zkb zk_cX12_trace zn_cX12_trace (by decide +kernel))
def kn_cX12_look : Nat := 0xad85ca01b42aad852ea900111600b42aad852eab00111600b42aad090400a70a0700999000b42aad852e21101600b42aad852e23101600b42aad852e1c101600b42aad852e640910601b1d101600b42aad852e20101600b42aad857900b42aad852e59101600b42aad857600b42aad2f061a00b42aad852e57101600b42aad2f1b1a00b42acd000000c3000000b6000000ad000000a40000009b0000008d0000008d0000008d000000840000007e000000750000006f000000680000005f0000005800000058000000580000001100000000000000d7000000000000aa1bad090500997200b604030400a70407009a6e00b8ba011409851b2a
theorem zk_cX12_look : zkd cX12_look.data.toList kn_cX12_look = true := by decide +kernel
theorem zn_cX12_look : cX12_look.data.toList.length = 249 := by decide +kernel
theorem dX12_look_0 : decode cX12_look 0 = .ok (.aload_n 0, 1) := zo_42 (zkb zk_cX12_look zn_cX12_look (by decide +kernel))
theorem dX12_look_1 : decode cX12_look 1 = .ok (.iload_n 1, 1) := zo_27 (zkb zk_cX12_look zn_cX12_look (by decide +kernel))
theorem dX12_look_2 : decode cX12_look 2 = .ok (.i2l, 1) := zo_133 (zkb zk_cX12_look zn_cX12_look (by decide +kernel))
theorem dX12_look_3 : decode cX12_look 3 = .ok (.lconst 0, 1) := zo_9 (zkb zk_cX12_look zn_cX12_look (by decide +kernel))
theorem dX12_look_4 : decode cX12_look 4 = .ok (.ldc2_w 442, 3) := by decide +kernel
theorem dX12_look_7 : decode cX12_look 7 = .ok (.invokestatic 110, 3) := zo_184 (b1 := 0) (b2 := 110) (zkb3 zk_cX12_look zn_cX12_look (by decide +kernel)) rfl
theorem dX12_look_10 : decode cX12_look 10 = .ok (.ifCond .ne 7, 3) := zo_154 (b1 := 0) (b2 := 7) (zkb3 zk_cX12_look zn_cX12_look (by decide +kernel)) rfl
theorem dX12_look_13 : decode cX12_look 13 = .ok (.iconst 1, 1) := zo_4 (zkb zk_cX12_look zn_cX12_look (by decide +kernel))
theorem dX12_look_14 : decode cX12_look 14 = .ok (.goto 4, 3) := zo_167 (b1 := 0) (b2 := 4) (zkb3 zk_cX12_look zn_cX12_look (by decide +kernel)) rfl
theorem dX12_look_17 : decode cX12_look 17 = .ok (.iconst 0, 1) := zo_3 (zkb zk_cX12_look zn_cX12_look (by decide +kernel))
theorem dX12_look_18 : decode cX12_look 18 = .ok (.iconst 1, 1) := zo_4 (zkb zk_cX12_look zn_cX12_look (by decide +kernel))
theorem dX12_look_19 : decode cX12_look 19 = .ok (.invokevirtual 114, 3) := zo_182 (b1 := 0) (b2 := 114) (zkb3 zk_cX12_look zn_cX12_look (by decide +kernel)) rfl
theorem dX12_look_22 : decode cX12_look 22 = .ok (.ifCond .eq 5, 3) := zo_153 (b1 := 0) (b2 := 5) (zkb3 zk_cX12_look zn_cX12_look (by decide +kernel)) rfl
theorem dX12_look_25 : decode cX12_look 25 = .ok (.lconst 0, 1) := zo_9 (zkb zk_cX12_look zn_cX12_look (by decide +kernel))
theorem dX12_look_26 : decode cX12_look 26 = .ok (.lreturn, 1) := zo_173 (zkb zk_cX12_look zn_cX12_look (by decide +kernel))
theorem dX12_look_27 : decode cX12_look 27 = .ok (.iload_n 1, 1) := zo_27 (zkb zk_cX12_look zn_cX12_look (by decide +kernel))
theorem dX12_look_28 : decode cX12_look 28 = .ok (.tableswitch 215 0 17 #[88, 88, 88, 95, 104, 111, 117, 126, 132, 141, 141, 141, 155, 164, 173, 182, 195, 205], 88) := by decide +kernel
theorem dX12_look_116 : decode cX12_look 116 = .ok (.aload_n 0, 1) := zo_42 (zkb zk_cX12_look zn_cX12_look (by decide +kernel))
theorem dX12_look_117 : decode cX12_look 117 = .ok (.getfield 26, 3) := zo_180 (b1 := 0) (b2 := 26) (zkb3 zk_cX12_look zn_cX12_look (by decide +kernel)) rfl
theorem dX12_look_120 : decode cX12_look 120 = .ok (.iload_n 1, 1) := zo_27 (zkb zk_cX12_look zn_cX12_look (by decide +kernel))
theorem dX12_look_121 : decode cX12_look 121 = .ok (.laload, 1) := zo_47 (zkb zk_cX12_look zn_cX12_look (by decide +kernel))
theorem dX12_look_122 : decode cX12_look 122 = .ok (.lreturn, 1) := zo_173 (zkb zk_cX12_look zn_cX12_look (by decide +kernel))
theorem dX12_look_123 : decode cX12_look 123 = .ok (.aload_n 0, 1) := zo_42 (zkb zk_cX12_look zn_cX12_look (by decide +kernel))
theorem dX12_look_124 : decode cX12_look 124 = .ok (.getfield 22, 3) := zo_180 (b1 := 0) (b2 := 22) (zkb3 zk_cX12_look zn_cX12_look (by decide +kernel)) rfl
theorem dX12_look_127 : decode cX12_look 127 = .ok (.bipush 87, 2) := zo_16 (b1 := 87) (zkb2 zk_cX12_look zn_cX12_look (by decide +kernel)) rfl
theorem dX12_look_129 : decode cX12_look 129 = .ok (.iaload, 1) := zo_46 (zkb zk_cX12_look zn_cX12_look (by decide +kernel))
theorem dX12_look_130 : decode cX12_look 130 = .ok (.i2l, 1) := zo_133 (zkb zk_cX12_look zn_cX12_look (by decide +kernel))
theorem dX12_look_131 : decode cX12_look 131 = .ok (.lreturn, 1) := zo_173 (zkb zk_cX12_look zn_cX12_look (by decide +kernel))
theorem dX12_look_132 : decode cX12_look 132 = .ok (.aload_n 0, 1) := zo_42 (zkb zk_cX12_look zn_cX12_look (by decide +kernel))
theorem dX12_look_133 : decode cX12_look 133 = .ok (.getfield 26, 3) := zo_180 (b1 := 0) (b2 := 26) (zkb3 zk_cX12_look zn_cX12_look (by decide +kernel)) rfl
theorem dX12_look_136 : decode cX12_look 136 = .ok (.iconst 3, 1) := zo_6 (zkb zk_cX12_look zn_cX12_look (by decide +kernel))
theorem dX12_look_137 : decode cX12_look 137 = .ok (.laload, 1) := zo_47 (zkb zk_cX12_look zn_cX12_look (by decide +kernel))
theorem dX12_look_138 : decode cX12_look 138 = .ok (.lreturn, 1) := zo_173 (zkb zk_cX12_look zn_cX12_look (by decide +kernel))
theorem dX12_look_139 : decode cX12_look 139 = .ok (.aload_n 0, 1) := zo_42 (zkb zk_cX12_look zn_cX12_look (by decide +kernel))
theorem dX12_look_140 : decode cX12_look 140 = .ok (.getfield 118, 3) := zo_180 (b1 := 0) (b2 := 118) (zkb3 zk_cX12_look zn_cX12_look (by decide +kernel)) rfl
theorem dX12_look_143 : decode cX12_look 143 = .ok (.i2l, 1) := zo_133 (zkb zk_cX12_look zn_cX12_look (by decide +kernel))
theorem dX12_look_144 : decode cX12_look 144 = .ok (.lreturn, 1) := zo_173 (zkb zk_cX12_look zn_cX12_look (by decide +kernel))
theorem dX12_look_145 : decode cX12_look 145 = .ok (.aload_n 0, 1) := zo_42 (zkb zk_cX12_look zn_cX12_look (by decide +kernel))
theorem dX12_look_146 : decode cX12_look 146 = .ok (.getfield 22, 3) := zo_180 (b1 := 0) (b2 := 22) (zkb3 zk_cX12_look zn_cX12_look (by decide +kernel)) rfl
theorem dX12_look_149 : decode cX12_look 149 = .ok (.bipush 89, 2) := zo_16 (b1 := 89) (zkb2 zk_cX12_look zn_cX12_look (by decide +kernel)) rfl
theorem dX12_look_151 : decode cX12_look 151 = .ok (.iaload, 1) := zo_46 (zkb zk_cX12_look zn_cX12_look (by decide +kernel))
theorem dX12_look_152 : decode cX12_look 152 = .ok (.i2l, 1) := zo_133 (zkb zk_cX12_look zn_cX12_look (by decide +kernel))
theorem dX12_look_153 : decode cX12_look 153 = .ok (.lreturn, 1) := zo_173 (zkb zk_cX12_look zn_cX12_look (by decide +kernel))
theorem dX12_look_154 : decode cX12_look 154 = .ok (.aload_n 0, 1) := zo_42 (zkb zk_cX12_look zn_cX12_look (by decide +kernel))
theorem dX12_look_155 : decode cX12_look 155 = .ok (.getfield 121, 3) := zo_180 (b1 := 0) (b2 := 121) (zkb3 zk_cX12_look zn_cX12_look (by decide +kernel)) rfl
theorem dX12_look_158 : decode cX12_look 158 = .ok (.i2l, 1) := zo_133 (zkb zk_cX12_look zn_cX12_look (by decide +kernel))
theorem dX12_look_159 : decode cX12_look 159 = .ok (.lreturn, 1) := zo_173 (zkb zk_cX12_look zn_cX12_look (by decide +kernel))
theorem dX12_look_160 : decode cX12_look 160 = .ok (.aload_n 0, 1) := zo_42 (zkb zk_cX12_look zn_cX12_look (by decide +kernel))
theorem dX12_look_161 : decode cX12_look 161 = .ok (.getfield 22, 3) := zo_180 (b1 := 0) (b2 := 22) (zkb3 zk_cX12_look zn_cX12_look (by decide +kernel)) rfl
theorem dX12_look_164 : decode cX12_look 164 = .ok (.bipush 32, 2) := zo_16 (b1 := 32) (zkb2 zk_cX12_look zn_cX12_look (by decide +kernel)) rfl
theorem dX12_look_166 : decode cX12_look 166 = .ok (.iaload, 1) := zo_46 (zkb zk_cX12_look zn_cX12_look (by decide +kernel))
theorem dX12_look_167 : decode cX12_look 167 = .ok (.i2l, 1) := zo_133 (zkb zk_cX12_look zn_cX12_look (by decide +kernel))
theorem dX12_look_168 : decode cX12_look 168 = .ok (.lreturn, 1) := zo_173 (zkb zk_cX12_look zn_cX12_look (by decide +kernel))
theorem dX12_look_169 : decode cX12_look 169 = .ok (.aload_n 0, 1) := zo_42 (zkb zk_cX12_look zn_cX12_look (by decide +kernel))
theorem dX12_look_170 : decode cX12_look 170 = .ok (.getfield 22, 3) := zo_180 (b1 := 0) (b2 := 22) (zkb3 zk_cX12_look zn_cX12_look (by decide +kernel)) rfl
theorem dX12_look_173 : decode cX12_look 173 = .ok (.bipush 29, 2) := zo_16 (b1 := 29) (zkb2 zk_cX12_look zn_cX12_look (by decide +kernel)) rfl
theorem dX12_look_175 : decode cX12_look 175 = .ok (.iload_n 1, 1) := zo_27 (zkb zk_cX12_look zn_cX12_look (by decide +kernel))
theorem dX12_look_176 : decode cX12_look 176 = .ok (.iadd, 1) := zo_96 (zkb zk_cX12_look zn_cX12_look (by decide +kernel))
theorem dX12_look_177 : decode cX12_look 177 = .ok (.bipush 9, 2) := zo_16 (b1 := 9) (zkb2 zk_cX12_look zn_cX12_look (by decide +kernel)) rfl
theorem dX12_look_179 : decode cX12_look 179 = .ok (.isub, 1) := zo_100 (zkb zk_cX12_look zn_cX12_look (by decide +kernel))
theorem dX12_look_180 : decode cX12_look 180 = .ok (.iaload, 1) := zo_46 (zkb zk_cX12_look zn_cX12_look (by decide +kernel))
theorem dX12_look_181 : decode cX12_look 181 = .ok (.i2l, 1) := zo_133 (zkb zk_cX12_look zn_cX12_look (by decide +kernel))
theorem dX12_look_182 : decode cX12_look 182 = .ok (.lreturn, 1) := zo_173 (zkb zk_cX12_look zn_cX12_look (by decide +kernel))
theorem dX12_look_183 : decode cX12_look 183 = .ok (.aload_n 0, 1) := zo_42 (zkb zk_cX12_look zn_cX12_look (by decide +kernel))
theorem dX12_look_184 : decode cX12_look 184 = .ok (.getfield 22, 3) := zo_180 (b1 := 0) (b2 := 22) (zkb3 zk_cX12_look zn_cX12_look (by decide +kernel)) rfl
theorem dX12_look_187 : decode cX12_look 187 = .ok (.bipush 28, 2) := zo_16 (b1 := 28) (zkb2 zk_cX12_look zn_cX12_look (by decide +kernel)) rfl
theorem dX12_look_189 : decode cX12_look 189 = .ok (.iaload, 1) := zo_46 (zkb zk_cX12_look zn_cX12_look (by decide +kernel))
theorem dX12_look_190 : decode cX12_look 190 = .ok (.i2l, 1) := zo_133 (zkb zk_cX12_look zn_cX12_look (by decide +kernel))
theorem dX12_look_191 : decode cX12_look 191 = .ok (.lreturn, 1) := zo_173 (zkb zk_cX12_look zn_cX12_look (by decide +kernel))
theorem dX12_look_192 : decode cX12_look 192 = .ok (.aload_n 0, 1) := zo_42 (zkb zk_cX12_look zn_cX12_look (by decide +kernel))
theorem dX12_look_193 : decode cX12_look 193 = .ok (.getfield 22, 3) := zo_180 (b1 := 0) (b2 := 22) (zkb3 zk_cX12_look zn_cX12_look (by decide +kernel)) rfl
theorem dX12_look_196 : decode cX12_look 196 = .ok (.bipush 35, 2) := zo_16 (b1 := 35) (zkb2 zk_cX12_look zn_cX12_look (by decide +kernel)) rfl
theorem dX12_look_198 : decode cX12_look 198 = .ok (.iaload, 1) := zo_46 (zkb zk_cX12_look zn_cX12_look (by decide +kernel))
theorem dX12_look_199 : decode cX12_look 199 = .ok (.i2l, 1) := zo_133 (zkb zk_cX12_look zn_cX12_look (by decide +kernel))
theorem dX12_look_200 : decode cX12_look 200 = .ok (.lreturn, 1) := zo_173 (zkb zk_cX12_look zn_cX12_look (by decide +kernel))
theorem dX12_look_201 : decode cX12_look 201 = .ok (.aload_n 0, 1) := zo_42 (zkb zk_cX12_look zn_cX12_look (by decide +kernel))
theorem dX12_look_202 : decode cX12_look 202 = .ok (.getfield 22, 3) := zo_180 (b1 := 0) (b2 := 22) (zkb3 zk_cX12_look zn_cX12_look (by decide +kernel)) rfl
theorem dX12_look_205 : decode cX12_look 205 = .ok (.bipush 33, 2) := zo_16 (b1 := 33) (zkb2 zk_cX12_look zn_cX12_look (by decide +kernel)) rfl
theorem dX12_look_207 : decode cX12_look 207 = .ok (.iaload, 1) := zo_46 (zkb zk_cX12_look zn_cX12_look (by decide +kernel))
theorem dX12_look_208 : decode cX12_look 208 = .ok (.i2l, 1) := zo_133 (zkb zk_cX12_look zn_cX12_look (by decide +kernel))
theorem dX12_look_209 : decode cX12_look 209 = .ok (.lreturn, 1) := zo_173 (zkb zk_cX12_look zn_cX12_look (by decide +kernel))
theorem dX12_look_210 : decode cX12_look 210 = .ok (.aload_n 0, 1) := zo_42 (zkb zk_cX12_look zn_cX12_look (by decide +kernel))
theorem dX12_look_211 : decode cX12_look 211 = .ok (.getfield 144, 3) := zo_180 (b1 := 0) (b2 := 144) (zkb3 zk_cX12_look zn_cX12_look (by decide +kernel)) rfl
theorem dX12_look_214 : decode cX12_look 214 = .ok (.ifCond .eq 7, 3) := zo_153 (b1 := 0) (b2 := 7) (zkb3 zk_cX12_look zn_cX12_look (by decide +kernel)) rfl
theorem dX12_look_217 : decode cX12_look 217 = .ok (.lconst 1, 1) := zo_10 (zkb zk_cX12_look zn_cX12_look (by decide +kernel))
theorem dX12_look_218 : decode cX12_look 218 = .ok (.goto 4, 3) := zo_167 (b1 := 0) (b2 := 4) (zkb3 zk_cX12_look zn_cX12_look (by decide +kernel)) rfl
theorem dX12_look_221 : decode cX12_look 221 = .ok (.lconst 0, 1) := zo_9 (zkb zk_cX12_look zn_cX12_look (by decide +kernel))
theorem dX12_look_222 : decode cX12_look 222 = .ok (.lreturn, 1) := zo_173 (zkb zk_cX12_look zn_cX12_look (by decide +kernel))
theorem dX12_look_223 : decode cX12_look 223 = .ok (.aload_n 0, 1) := zo_42 (zkb zk_cX12_look zn_cX12_look (by decide +kernel))
theorem dX12_look_224 : decode cX12_look 224 = .ok (.getfield 22, 3) := zo_180 (b1 := 0) (b2 := 22) (zkb3 zk_cX12_look zn_cX12_look (by decide +kernel)) rfl
theorem dX12_look_227 : decode cX12_look 227 = .ok (.sipush 171, 3) := zo_17 (b1 := 0) (b2 := 171) (zkb3 zk_cX12_look zn_cX12_look (by decide +kernel)) rfl
theorem dX12_look_230 : decode cX12_look 230 = .ok (.iaload, 1) := zo_46 (zkb zk_cX12_look zn_cX12_look (by decide +kernel))
theorem dX12_look_231 : decode cX12_look 231 = .ok (.i2l, 1) := zo_133 (zkb zk_cX12_look zn_cX12_look (by decide +kernel))
theorem dX12_look_232 : decode cX12_look 232 = .ok (.lreturn, 1) := zo_173 (zkb zk_cX12_look zn_cX12_look (by decide +kernel))
theorem dX12_look_233 : decode cX12_look 233 = .ok (.aload_n 0, 1) := zo_42 (zkb zk_cX12_look zn_cX12_look (by decide +kernel))
theorem dX12_look_234 : decode cX12_look 234 = .ok (.getfield 22, 3) := zo_180 (b1 := 0) (b2 := 22) (zkb3 zk_cX12_look zn_cX12_look (by decide +kernel)) rfl
theorem dX12_look_237 : decode cX12_look 237 = .ok (.sipush 169, 3) := zo_17 (b1 := 0) (b2 := 169) (zkb3 zk_cX12_look zn_cX12_look (by decide +kernel)) rfl
theorem dX12_look_240 : decode cX12_look 240 = .ok (.iaload, 1) := zo_46 (zkb zk_cX12_look zn_cX12_look (by decide +kernel))
theorem dX12_look_241 : decode cX12_look 241 = .ok (.i2l, 1) := zo_133 (zkb zk_cX12_look zn_cX12_look (by decide +kernel))
theorem dX12_look_242 : decode cX12_look 242 = .ok (.lreturn, 1) := zo_173 (zkb zk_cX12_look zn_cX12_look (by decide +kernel))
theorem dX12_look_243 : decode cX12_look 243 = .ok (.aload_n 0, 1) := zo_42 (zkb zk_cX12_look zn_cX12_look (by decide +kernel))
theorem dX12_look_244 : decode cX12_look 244 = .ok (.getfield 458, 3) := zo_180 (b1 := 1) (b2 := 202) (zkb3 zk_cX12_look zn_cX12_look (by decide +kernel)) rfl
theorem dX12_look_247 : decode cX12_look 247 = .ok (.i2l, 1) := zo_133 (zkb zk_cX12_look zn_cX12_look (by decide +kernel))
theorem dX12_look_248 : decode cX12_look 248 = .ok (.lreturn, 1) := zo_173 (zkb zk_cX12_look zn_cX12_look (by decide +kernel))
def kn_cX12_mix : Nat := 0xad1f4f64042e5ca900111600b42a4f7000101160042eaa00111600b42aaa00111600b42a402f2eaa00111600b42a3200b42aad090500997200b604030400a70407009a2ea900111600b42a2a
theorem zk_cX12_mix : zkd cX12_mix.data.toList kn_cX12_mix = true := by decide +kernel
theorem zn_cX12_mix : cX12_mix.data.toList.length = 76 := by decide +kernel
theorem dX12_mix_0 : decode cX12_mix 0 = .ok (.aload_n 0, 1) := zo_42 (zkb zk_cX12_mix zn_cX12_mix (by decide +kernel))
theorem dX12_mix_1 : decode cX12_mix 1 = .ok (.aload_n 0, 1) := zo_42 (zkb zk_cX12_mix zn_cX12_mix (by decide +kernel))
theorem dX12_mix_2 : decode cX12_mix 2 = .ok (.getfield 22, 3) := zo_180 (b1 := 0) (b2 := 22) (zkb3 zk_cX12_mix zn_cX12_mix (by decide +kernel)) rfl
theorem dX12_mix_5 : decode cX12_mix 5 = .ok (.sipush 169, 3) := zo_17 (b1 := 0) (b2 := 169) (zkb3 zk_cX12_mix zn_cX12_mix (by decide +kernel)) rfl
theorem dX12_mix_8 : decode cX12_mix 8 = .ok (.iaload, 1) := zo_46 (zkb zk_cX12_mix zn_cX12_mix (by decide +kernel))
theorem dX12_mix_9 : decode cX12_mix 9 = .ok (.ifCond .ne 7, 3) := zo_154 (b1 := 0) (b2 := 7) (zkb3 zk_cX12_mix zn_cX12_mix (by decide +kernel)) rfl
theorem dX12_mix_12 : decode cX12_mix 12 = .ok (.iconst 1, 1) := zo_4 (zkb zk_cX12_mix zn_cX12_mix (by decide +kernel))
theorem dX12_mix_13 : decode cX12_mix 13 = .ok (.goto 4, 3) := zo_167 (b1 := 0) (b2 := 4) (zkb3 zk_cX12_mix zn_cX12_mix (by decide +kernel)) rfl
theorem dX12_mix_16 : decode cX12_mix 16 = .ok (.iconst 0, 1) := zo_3 (zkb zk_cX12_mix zn_cX12_mix (by decide +kernel))
theorem dX12_mix_17 : decode cX12_mix 17 = .ok (.iconst 1, 1) := zo_4 (zkb zk_cX12_mix zn_cX12_mix (by decide +kernel))
theorem dX12_mix_18 : decode cX12_mix 18 = .ok (.invokevirtual 114, 3) := zo_182 (b1 := 0) (b2 := 114) (zkb3 zk_cX12_mix zn_cX12_mix (by decide +kernel)) rfl
theorem dX12_mix_21 : decode cX12_mix 21 = .ok (.ifCond .eq 5, 3) := zo_153 (b1 := 0) (b2 := 5) (zkb3 zk_cX12_mix zn_cX12_mix (by decide +kernel)) rfl
theorem dX12_mix_24 : decode cX12_mix 24 = .ok (.lconst 0, 1) := zo_9 (zkb zk_cX12_mix zn_cX12_mix (by decide +kernel))
theorem dX12_mix_25 : decode cX12_mix 25 = .ok (.lreturn, 1) := zo_173 (zkb zk_cX12_mix zn_cX12_mix (by decide +kernel))
theorem dX12_mix_26 : decode cX12_mix 26 = .ok (.aload_n 0, 1) := zo_42 (zkb zk_cX12_mix zn_cX12_mix (by decide +kernel))
theorem dX12_mix_27 : decode cX12_mix 27 = .ok (.getfield 50, 3) := zo_180 (b1 := 0) (b2 := 50) (zkb3 zk_cX12_mix zn_cX12_mix (by decide +kernel)) rfl
theorem dX12_mix_30 : decode cX12_mix 30 = .ok (.aload_n 0, 1) := zo_42 (zkb zk_cX12_mix zn_cX12_mix (by decide +kernel))
theorem dX12_mix_31 : decode cX12_mix 31 = .ok (.getfield 22, 3) := zo_180 (b1 := 0) (b2 := 22) (zkb3 zk_cX12_mix zn_cX12_mix (by decide +kernel)) rfl
theorem dX12_mix_34 : decode cX12_mix 34 = .ok (.sipush 170, 3) := zo_17 (b1 := 0) (b2 := 170) (zkb3 zk_cX12_mix zn_cX12_mix (by decide +kernel)) rfl
theorem dX12_mix_37 : decode cX12_mix 37 = .ok (.iaload, 1) := zo_46 (zkb zk_cX12_mix zn_cX12_mix (by decide +kernel))
theorem dX12_mix_38 : decode cX12_mix 38 = .ok (.laload, 1) := zo_47 (zkb zk_cX12_mix zn_cX12_mix (by decide +kernel))
theorem dX12_mix_39 : decode cX12_mix 39 = .ok (.lstore_n 1, 1) := zo_64 (zkb zk_cX12_mix zn_cX12_mix (by decide +kernel))
theorem dX12_mix_40 : decode cX12_mix 40 = .ok (.aload_n 0, 1) := zo_42 (zkb zk_cX12_mix zn_cX12_mix (by decide +kernel))
theorem dX12_mix_41 : decode cX12_mix 41 = .ok (.getfield 22, 3) := zo_180 (b1 := 0) (b2 := 22) (zkb3 zk_cX12_mix zn_cX12_mix (by decide +kernel)) rfl
theorem dX12_mix_44 : decode cX12_mix 44 = .ok (.sipush 170, 3) := zo_17 (b1 := 0) (b2 := 170) (zkb3 zk_cX12_mix zn_cX12_mix (by decide +kernel)) rfl
theorem dX12_mix_47 : decode cX12_mix 47 = .ok (.aload_n 0, 1) := zo_42 (zkb zk_cX12_mix zn_cX12_mix (by decide +kernel))
theorem dX12_mix_48 : decode cX12_mix 48 = .ok (.getfield 22, 3) := zo_180 (b1 := 0) (b2 := 22) (zkb3 zk_cX12_mix zn_cX12_mix (by decide +kernel)) rfl
theorem dX12_mix_51 : decode cX12_mix 51 = .ok (.sipush 170, 3) := zo_17 (b1 := 0) (b2 := 170) (zkb3 zk_cX12_mix zn_cX12_mix (by decide +kernel)) rfl
theorem dX12_mix_54 : decode cX12_mix 54 = .ok (.iaload, 1) := zo_46 (zkb zk_cX12_mix zn_cX12_mix (by decide +kernel))
theorem dX12_mix_55 : decode cX12_mix 55 = .ok (.iconst 1, 1) := zo_4 (zkb zk_cX12_mix zn_cX12_mix (by decide +kernel))
theorem dX12_mix_56 : decode cX12_mix 56 = .ok (.iadd, 1) := zo_96 (zkb zk_cX12_mix zn_cX12_mix (by decide +kernel))
theorem dX12_mix_57 : decode cX12_mix 57 = .ok (.sipush 4096, 3) := zo_17 (b1 := 16) (b2 := 0) (zkb3 zk_cX12_mix zn_cX12_mix (by decide +kernel)) rfl
theorem dX12_mix_60 : decode cX12_mix 60 = .ok (.irem, 1) := zo_112 (zkb zk_cX12_mix zn_cX12_mix (by decide +kernel))
theorem dX12_mix_61 : decode cX12_mix 61 = .ok (.iastore, 1) := zo_79 (zkb zk_cX12_mix zn_cX12_mix (by decide +kernel))
theorem dX12_mix_62 : decode cX12_mix 62 = .ok (.aload_n 0, 1) := zo_42 (zkb zk_cX12_mix zn_cX12_mix (by decide +kernel))
theorem dX12_mix_63 : decode cX12_mix 63 = .ok (.getfield 22, 3) := zo_180 (b1 := 0) (b2 := 22) (zkb3 zk_cX12_mix zn_cX12_mix (by decide +kernel)) rfl
theorem dX12_mix_66 : decode cX12_mix 66 = .ok (.sipush 169, 3) := zo_17 (b1 := 0) (b2 := 169) (zkb3 zk_cX12_mix zn_cX12_mix (by decide +kernel)) rfl
theorem dX12_mix_69 : decode cX12_mix 69 = .ok (.dup2, 1) := zo_92 (zkb zk_cX12_mix zn_cX12_mix (by decide +kernel))
theorem dX12_mix_70 : decode cX12_mix 70 = .ok (.iaload, 1) := zo_46 (zkb zk_cX12_mix zn_cX12_mix (by decide +kernel))
theorem dX12_mix_71 : decode cX12_mix 71 = .ok (.iconst 1, 1) := zo_4 (zkb zk_cX12_mix zn_cX12_mix (by decide +kernel))
theorem dX12_mix_72 : decode cX12_mix 72 = .ok (.isub, 1) := zo_100 (zkb zk_cX12_mix zn_cX12_mix (by decide +kernel))
theorem dX12_mix_73 : decode cX12_mix 73 = .ok (.iastore, 1) := zo_79 (zkb zk_cX12_mix zn_cX12_mix (by decide +kernel))
theorem dX12_mix_74 : decode cX12_mix 74 = .ok (.lload_n 1, 1) := zo_31 (zkb zk_cX12_mix zn_cX12_mix (by decide +kernel))
theorem dX12_mix_75 : decode cX12_mix 75 = .ok (.lreturn, 1) := zo_173 (zkb zk_cX12_mix zn_cX12_mix (by decide +kernel))
def kn_cX12_wave : Nat := 0xac2e607008101b60686c0810648000111b0610ac00111600b42aac2ea500111600b42a0c00a043101bac8871b801142f071a00b42a0f00a042101bac2ea400111600b42a0c00a041101bac2ea300111600b42a0c00a040101baccd01b61b2a0900a240101bac030500997200b604030400a7040700a106107008101b0c00996e00b81c02141a0214851b1e009a6e00b818021409851b2a
theorem zk_cX12_wave : zkd cX12_wave.data.toList kn_cX12_wave = true := by decide +kernel
theorem zn_cX12_wave : cX12_wave.data.toList.length = 151 := by decide +kernel
theorem dX12_wave_0 : decode cX12_wave 0 = .ok (.aload_n 0, 1) := zo_42 (zkb zk_cX12_wave zn_cX12_wave (by decide +kernel))
theorem dX12_wave_1 : decode cX12_wave 1 = .ok (.iload_n 1, 1) := zo_27 (zkb zk_cX12_wave zn_cX12_wave (by decide +kernel))
theorem dX12_wave_2 : decode cX12_wave 2 = .ok (.i2l, 1) := zo_133 (zkb zk_cX12_wave zn_cX12_wave (by decide +kernel))
theorem dX12_wave_3 : decode cX12_wave 3 = .ok (.lconst 0, 1) := zo_9 (zkb zk_cX12_wave zn_cX12_wave (by decide +kernel))
theorem dX12_wave_4 : decode cX12_wave 4 = .ok (.ldc2_w 536, 3) := by decide +kernel
theorem dX12_wave_7 : decode cX12_wave 7 = .ok (.invokestatic 110, 3) := zo_184 (b1 := 0) (b2 := 110) (zkb3 zk_cX12_wave zn_cX12_wave (by decide +kernel)) rfl
theorem dX12_wave_10 : decode cX12_wave 10 = .ok (.ifCond .ne 30, 3) := zo_154 (b1 := 0) (b2 := 30) (zkb3 zk_cX12_wave zn_cX12_wave (by decide +kernel)) rfl
theorem dX12_wave_13 : decode cX12_wave 13 = .ok (.iload_n 1, 1) := zo_27 (zkb zk_cX12_wave zn_cX12_wave (by decide +kernel))
theorem dX12_wave_14 : decode cX12_wave 14 = .ok (.i2l, 1) := zo_133 (zkb zk_cX12_wave zn_cX12_wave (by decide +kernel))
theorem dX12_wave_15 : decode cX12_wave 15 = .ok (.ldc2_w 538, 3) := by decide +kernel
theorem dX12_wave_18 : decode cX12_wave 18 = .ok (.ldc2_w 540, 3) := by decide +kernel
theorem dX12_wave_21 : decode cX12_wave 21 = .ok (.invokestatic 110, 3) := zo_184 (b1 := 0) (b2 := 110) (zkb3 zk_cX12_wave zn_cX12_wave (by decide +kernel)) rfl
theorem dX12_wave_24 : decode cX12_wave 24 = .ok (.ifCond .eq 12, 3) := zo_153 (b1 := 0) (b2 := 12) (zkb3 zk_cX12_wave zn_cX12_wave (by decide +kernel)) rfl
theorem dX12_wave_27 : decode cX12_wave 27 = .ok (.iload_n 1, 1) := zo_27 (zkb zk_cX12_wave zn_cX12_wave (by decide +kernel))
theorem dX12_wave_28 : decode cX12_wave 28 = .ok (.bipush 8, 2) := zo_16 (b1 := 8) (zkb2 zk_cX12_wave zn_cX12_wave (by decide +kernel)) rfl
theorem dX12_wave_30 : decode cX12_wave 30 = .ok (.irem, 1) := zo_112 (zkb zk_cX12_wave zn_cX12_wave (by decide +kernel))
theorem dX12_wave_31 : decode cX12_wave 31 = .ok (.bipush 6, 2) := zo_16 (b1 := 6) (zkb2 zk_cX12_wave zn_cX12_wave (by decide +kernel)) rfl
theorem dX12_wave_33 : decode cX12_wave 33 = .ok (.if_icmp .lt 7, 3) := zo_161 (b1 := 0) (b2 := 7) (zkb3 zk_cX12_wave zn_cX12_wave (by decide +kernel)) rfl
theorem dX12_wave_36 : decode cX12_wave 36 = .ok (.iconst 1, 1) := zo_4 (zkb zk_cX12_wave zn_cX12_wave (by decide +kernel))
theorem dX12_wave_37 : decode cX12_wave 37 = .ok (.goto 4, 3) := zo_167 (b1 := 0) (b2 := 4) (zkb3 zk_cX12_wave zn_cX12_wave (by decide +kernel)) rfl
theorem dX12_wave_40 : decode cX12_wave 40 = .ok (.iconst 0, 1) := zo_3 (zkb zk_cX12_wave zn_cX12_wave (by decide +kernel))
theorem dX12_wave_41 : decode cX12_wave 41 = .ok (.iconst 1, 1) := zo_4 (zkb zk_cX12_wave zn_cX12_wave (by decide +kernel))
theorem dX12_wave_42 : decode cX12_wave 42 = .ok (.invokevirtual 114, 3) := zo_182 (b1 := 0) (b2 := 114) (zkb3 zk_cX12_wave zn_cX12_wave (by decide +kernel)) rfl
theorem dX12_wave_45 : decode cX12_wave 45 = .ok (.ifCond .eq 5, 3) := zo_153 (b1 := 0) (b2 := 5) (zkb3 zk_cX12_wave zn_cX12_wave (by decide +kernel)) rfl
theorem dX12_wave_48 : decode cX12_wave 48 = .ok (.iconst 0, 1) := zo_3 (zkb zk_cX12_wave zn_cX12_wave (by decide +kernel))
theorem dX12_wave_49 : decode cX12_wave 49 = .ok (.ireturn, 1) := zo_172 (zkb zk_cX12_wave zn_cX12_wave (by decide +kernel))
theorem dX12_wave_50 : decode cX12_wave 50 = .ok (.iload_n 1, 1) := zo_27 (zkb zk_cX12_wave zn_cX12_wave (by decide +kernel))
theorem dX12_wave_51 : decode cX12_wave 51 = .ok (.bipush 64, 2) := zo_16 (b1 := 64) (zkb2 zk_cX12_wave zn_cX12_wave (by decide +kernel)) rfl
theorem dX12_wave_53 : decode cX12_wave 53 = .ok (.if_icmp .ge 9, 3) := zo_162 (b1 := 0) (b2 := 9) (zkb3 zk_cX12_wave zn_cX12_wave (by decide +kernel)) rfl
theorem dX12_wave_56 : decode cX12_wave 56 = .ok (.aload_n 0, 1) := zo_42 (zkb zk_cX12_wave zn_cX12_wave (by decide +kernel))
theorem dX12_wave_57 : decode cX12_wave 57 = .ok (.iload_n 1, 1) := zo_27 (zkb zk_cX12_wave zn_cX12_wave (by decide +kernel))
theorem dX12_wave_58 : decode cX12_wave 58 = .ok (.invokevirtual 461, 3) := zo_182 (b1 := 1) (b2 := 205) (zkb3 zk_cX12_wave zn_cX12_wave (by decide +kernel)) rfl
theorem dX12_wave_61 : decode cX12_wave 61 = .ok (.ireturn, 1) := zo_172 (zkb zk_cX12_wave zn_cX12_wave (by decide +kernel))
theorem dX12_wave_62 : decode cX12_wave 62 = .ok (.iload_n 1, 1) := zo_27 (zkb zk_cX12_wave zn_cX12_wave (by decide +kernel))
theorem dX12_wave_63 : decode cX12_wave 63 = .ok (.bipush 64, 2) := zo_16 (b1 := 64) (zkb2 zk_cX12_wave zn_cX12_wave (by decide +kernel)) rfl
theorem dX12_wave_65 : decode cX12_wave 65 = .ok (.if_icmp .ne 12, 3) := zo_160 (b1 := 0) (b2 := 12) (zkb3 zk_cX12_wave zn_cX12_wave (by decide +kernel)) rfl
theorem dX12_wave_68 : decode cX12_wave 68 = .ok (.aload_n 0, 1) := zo_42 (zkb zk_cX12_wave zn_cX12_wave (by decide +kernel))
theorem dX12_wave_69 : decode cX12_wave 69 = .ok (.getfield 22, 3) := zo_180 (b1 := 0) (b2 := 22) (zkb3 zk_cX12_wave zn_cX12_wave (by decide +kernel)) rfl
theorem dX12_wave_72 : decode cX12_wave 72 = .ok (.sipush 163, 3) := zo_17 (b1 := 0) (b2 := 163) (zkb3 zk_cX12_wave zn_cX12_wave (by decide +kernel)) rfl
theorem dX12_wave_75 : decode cX12_wave 75 = .ok (.iaload, 1) := zo_46 (zkb zk_cX12_wave zn_cX12_wave (by decide +kernel))
theorem dX12_wave_76 : decode cX12_wave 76 = .ok (.ireturn, 1) := zo_172 (zkb zk_cX12_wave zn_cX12_wave (by decide +kernel))
theorem dX12_wave_77 : decode cX12_wave 77 = .ok (.iload_n 1, 1) := zo_27 (zkb zk_cX12_wave zn_cX12_wave (by decide +kernel))
theorem dX12_wave_78 : decode cX12_wave 78 = .ok (.bipush 65, 2) := zo_16 (b1 := 65) (zkb2 zk_cX12_wave zn_cX12_wave (by decide +kernel)) rfl
theorem dX12_wave_80 : decode cX12_wave 80 = .ok (.if_icmp .ne 12, 3) := zo_160 (b1 := 0) (b2 := 12) (zkb3 zk_cX12_wave zn_cX12_wave (by decide +kernel)) rfl
theorem dX12_wave_83 : decode cX12_wave 83 = .ok (.aload_n 0, 1) := zo_42 (zkb zk_cX12_wave zn_cX12_wave (by decide +kernel))
theorem dX12_wave_84 : decode cX12_wave 84 = .ok (.getfield 22, 3) := zo_180 (b1 := 0) (b2 := 22) (zkb3 zk_cX12_wave zn_cX12_wave (by decide +kernel)) rfl
theorem dX12_wave_87 : decode cX12_wave 87 = .ok (.sipush 164, 3) := zo_17 (b1 := 0) (b2 := 164) (zkb3 zk_cX12_wave zn_cX12_wave (by decide +kernel)) rfl
theorem dX12_wave_90 : decode cX12_wave 90 = .ok (.iaload, 1) := zo_46 (zkb zk_cX12_wave zn_cX12_wave (by decide +kernel))
theorem dX12_wave_91 : decode cX12_wave 91 = .ok (.ireturn, 1) := zo_172 (zkb zk_cX12_wave zn_cX12_wave (by decide +kernel))
theorem dX12_wave_92 : decode cX12_wave 92 = .ok (.iload_n 1, 1) := zo_27 (zkb zk_cX12_wave zn_cX12_wave (by decide +kernel))
theorem dX12_wave_93 : decode cX12_wave 93 = .ok (.bipush 66, 2) := zo_16 (b1 := 66) (zkb2 zk_cX12_wave zn_cX12_wave (by decide +kernel)) rfl
theorem dX12_wave_95 : decode cX12_wave 95 = .ok (.if_icmp .ne 15, 3) := zo_160 (b1 := 0) (b2 := 15) (zkb3 zk_cX12_wave zn_cX12_wave (by decide +kernel)) rfl
theorem dX12_wave_98 : decode cX12_wave 98 = .ok (.aload_n 0, 1) := zo_42 (zkb zk_cX12_wave zn_cX12_wave (by decide +kernel))
theorem dX12_wave_99 : decode cX12_wave 99 = .ok (.getfield 26, 3) := zo_180 (b1 := 0) (b2 := 26) (zkb3 zk_cX12_wave zn_cX12_wave (by decide +kernel)) rfl
theorem dX12_wave_102 : decode cX12_wave 102 = .ok (.iconst 4, 1) := zo_7 (zkb zk_cX12_wave zn_cX12_wave (by decide +kernel))
theorem dX12_wave_103 : decode cX12_wave 103 = .ok (.laload, 1) := zo_47 (zkb zk_cX12_wave zn_cX12_wave (by decide +kernel))
theorem dX12_wave_104 : decode cX12_wave 104 = .ok (.ldc2_w 440, 3) := by decide +kernel
theorem dX12_wave_107 : decode cX12_wave 107 = .ok (.lrem, 1) := zo_113 (zkb zk_cX12_wave zn_cX12_wave (by decide +kernel))
theorem dX12_wave_108 : decode cX12_wave 108 = .ok (.l2i, 1) := zo_136 (zkb zk_cX12_wave zn_cX12_wave (by decide +kernel))
theorem dX12_wave_109 : decode cX12_wave 109 = .ok (.ireturn, 1) := zo_172 (zkb zk_cX12_wave zn_cX12_wave (by decide +kernel))
theorem dX12_wave_110 : decode cX12_wave 110 = .ok (.iload_n 1, 1) := zo_27 (zkb zk_cX12_wave zn_cX12_wave (by decide +kernel))
theorem dX12_wave_111 : decode cX12_wave 111 = .ok (.bipush 67, 2) := zo_16 (b1 := 67) (zkb2 zk_cX12_wave zn_cX12_wave (by decide +kernel)) rfl
theorem dX12_wave_113 : decode cX12_wave 113 = .ok (.if_icmp .ne 12, 3) := zo_160 (b1 := 0) (b2 := 12) (zkb3 zk_cX12_wave zn_cX12_wave (by decide +kernel)) rfl
theorem dX12_wave_116 : decode cX12_wave 116 = .ok (.aload_n 0, 1) := zo_42 (zkb zk_cX12_wave zn_cX12_wave (by decide +kernel))
theorem dX12_wave_117 : decode cX12_wave 117 = .ok (.getfield 22, 3) := zo_180 (b1 := 0) (b2 := 22) (zkb3 zk_cX12_wave zn_cX12_wave (by decide +kernel)) rfl
theorem dX12_wave_120 : decode cX12_wave 120 = .ok (.sipush 165, 3) := zo_17 (b1 := 0) (b2 := 165) (zkb3 zk_cX12_wave zn_cX12_wave (by decide +kernel)) rfl
theorem dX12_wave_123 : decode cX12_wave 123 = .ok (.iaload, 1) := zo_46 (zkb zk_cX12_wave zn_cX12_wave (by decide +kernel))
theorem dX12_wave_124 : decode cX12_wave 124 = .ok (.ireturn, 1) := zo_172 (zkb zk_cX12_wave zn_cX12_wave (by decide +kernel))
theorem dX12_wave_125 : decode cX12_wave 125 = .ok (.aload_n 0, 1) := zo_42 (zkb zk_cX12_wave zn_cX12_wave (by decide +kernel))
theorem dX12_wave_126 : decode cX12_wave 126 = .ok (.getfield 22, 3) := zo_180 (b1 := 0) (b2 := 22) (zkb3 zk_cX12_wave zn_cX12_wave (by decide +kernel)) rfl
theorem dX12_wave_129 : decode cX12_wave 129 = .ok (.sipush 172, 3) := zo_17 (b1 := 0) (b2 := 172) (zkb3 zk_cX12_wave zn_cX12_wave (by decide +kernel)) rfl
theorem dX12_wave_132 : decode cX12_wave 132 = .ok (.bipush 6, 2) := zo_16 (b1 := 6) (zkb2 zk_cX12_wave zn_cX12_wave (by decide +kernel)) rfl
theorem dX12_wave_134 : decode cX12_wave 134 = .ok (.iload_n 1, 1) := zo_27 (zkb zk_cX12_wave zn_cX12_wave (by decide +kernel))
theorem dX12_wave_135 : decode cX12_wave 135 = .ok (.sipush 128, 3) := zo_17 (b1 := 0) (b2 := 128) (zkb3 zk_cX12_wave zn_cX12_wave (by decide +kernel)) rfl
theorem dX12_wave_138 : decode cX12_wave 138 = .ok (.isub, 1) := zo_100 (zkb zk_cX12_wave zn_cX12_wave (by decide +kernel))
theorem dX12_wave_139 : decode cX12_wave 139 = .ok (.bipush 8, 2) := zo_16 (b1 := 8) (zkb2 zk_cX12_wave zn_cX12_wave (by decide +kernel)) rfl
theorem dX12_wave_141 : decode cX12_wave 141 = .ok (.idiv, 1) := zo_108 (zkb zk_cX12_wave zn_cX12_wave (by decide +kernel))
theorem dX12_wave_142 : decode cX12_wave 142 = .ok (.imul, 1) := zo_104 (zkb zk_cX12_wave zn_cX12_wave (by decide +kernel))
theorem dX12_wave_143 : decode cX12_wave 143 = .ok (.iadd, 1) := zo_96 (zkb zk_cX12_wave zn_cX12_wave (by decide +kernel))
theorem dX12_wave_144 : decode cX12_wave 144 = .ok (.iload_n 1, 1) := zo_27 (zkb zk_cX12_wave zn_cX12_wave (by decide +kernel))
theorem dX12_wave_145 : decode cX12_wave 145 = .ok (.bipush 8, 2) := zo_16 (b1 := 8) (zkb2 zk_cX12_wave zn_cX12_wave (by decide +kernel)) rfl
theorem dX12_wave_147 : decode cX12_wave 147 = .ok (.irem, 1) := zo_112 (zkb zk_cX12_wave zn_cX12_wave (by decide +kernel))
theorem dX12_wave_148 : decode cX12_wave 148 = .ok (.iadd, 1) := zo_96 (zkb zk_cX12_wave zn_cX12_wave (by decide +kernel))
theorem dX12_wave_149 : decode cX12_wave 149 = .ok (.iaload, 1) := zo_46 (zkb zk_cX12_wave zn_cX12_wave (by decide +kernel))
theorem dX12_wave_150 : decode cX12_wave 150 = .ok (.ireturn, 1) := zo_172 (zkb zk_cX12_wave zn_cX12_wave (by decide +kernel))
def kn_cX12_plan : Nat := 0xac2eab00111600b42a4f60042e5cab00111600b42a4f1d600505151600b42a4f1c600405151600b42a4f1b05151600b42a053660682eab00111600b42a06180111ac030500997200b605030400a7040700a00001112eab00111600b42a2a1e009a7200b604030400a70407009a6e00b8bc011409851d0f00996e00b80a09851c19009b1b1d00a104151b2a04362e606864042eab00111600b42a061801111600b42a1800a70307009a2eab00111600b42a
theorem zk_cX12_plan : zkd cX12_plan.data.toList kn_cX12_plan = true := by decide +kernel
theorem zn_cX12_plan : cX12_plan.data.toList.length = 177 := by decide +kernel
theorem dX12_plan_0 : decode cX12_plan 0 = .ok (.aload_n 0, 1) := zo_42 (zkb zk_cX12_plan zn_cX12_plan (by decide +kernel))
theorem dX12_plan_1 : decode cX12_plan 1 = .ok (.getfield 22, 3) := zo_180 (b1 := 0) (b2 := 22) (zkb3 zk_cX12_plan zn_cX12_plan (by decide +kernel)) rfl
theorem dX12_plan_4 : decode cX12_plan 4 = .ok (.sipush 171, 3) := zo_17 (b1 := 0) (b2 := 171) (zkb3 zk_cX12_plan zn_cX12_plan (by decide +kernel)) rfl
theorem dX12_plan_7 : decode cX12_plan 7 = .ok (.iaload, 1) := zo_46 (zkb zk_cX12_plan zn_cX12_plan (by decide +kernel))
theorem dX12_plan_8 : decode cX12_plan 8 = .ok (.ifCond .ne 7, 3) := zo_154 (b1 := 0) (b2 := 7) (zkb3 zk_cX12_plan zn_cX12_plan (by decide +kernel)) rfl
theorem dX12_plan_11 : decode cX12_plan 11 = .ok (.iconst 0, 1) := zo_3 (zkb zk_cX12_plan zn_cX12_plan (by decide +kernel))
theorem dX12_plan_12 : decode cX12_plan 12 = .ok (.goto 24, 3) := zo_167 (b1 := 0) (b2 := 24) (zkb3 zk_cX12_plan zn_cX12_plan (by decide +kernel)) rfl
theorem dX12_plan_15 : decode cX12_plan 15 = .ok (.aload_n 0, 1) := zo_42 (zkb zk_cX12_plan zn_cX12_plan (by decide +kernel))
theorem dX12_plan_16 : decode cX12_plan 16 = .ok (.getfield 22, 3) := zo_180 (b1 := 0) (b2 := 22) (zkb3 zk_cX12_plan zn_cX12_plan (by decide +kernel)) rfl
theorem dX12_plan_19 : decode cX12_plan 19 = .ok (.sipush 280, 3) := zo_17 (b1 := 1) (b2 := 24) (zkb3 zk_cX12_plan zn_cX12_plan (by decide +kernel)) rfl
theorem dX12_plan_22 : decode cX12_plan 22 = .ok (.iconst 3, 1) := zo_6 (zkb zk_cX12_plan zn_cX12_plan (by decide +kernel))
theorem dX12_plan_23 : decode cX12_plan 23 = .ok (.aload_n 0, 1) := zo_42 (zkb zk_cX12_plan zn_cX12_plan (by decide +kernel))
theorem dX12_plan_24 : decode cX12_plan 24 = .ok (.getfield 22, 3) := zo_180 (b1 := 0) (b2 := 22) (zkb3 zk_cX12_plan zn_cX12_plan (by decide +kernel)) rfl
theorem dX12_plan_27 : decode cX12_plan 27 = .ok (.sipush 171, 3) := zo_17 (b1 := 0) (b2 := 171) (zkb3 zk_cX12_plan zn_cX12_plan (by decide +kernel)) rfl
theorem dX12_plan_30 : decode cX12_plan 30 = .ok (.iaload, 1) := zo_46 (zkb zk_cX12_plan zn_cX12_plan (by decide +kernel))
theorem dX12_plan_31 : decode cX12_plan 31 = .ok (.iconst 1, 1) := zo_4 (zkb zk_cX12_plan zn_cX12_plan (by decide +kernel))
theorem dX12_plan_32 : decode cX12_plan 32 = .ok (.isub, 1) := zo_100 (zkb zk_cX12_plan zn_cX12_plan (by decide +kernel))
theorem dX12_plan_33 : decode cX12_plan 33 = .ok (.imul, 1) := zo_104 (zkb zk_cX12_plan zn_cX12_plan (by decide +kernel))
theorem dX12_plan_34 : decode cX12_plan 34 = .ok (.iadd, 1) := zo_96 (zkb zk_cX12_plan zn_cX12_plan (by decide +kernel))
theorem dX12_plan_35 : decode cX12_plan 35 = .ok (.iaload, 1) := zo_46 (zkb zk_cX12_plan zn_cX12_plan (by decide +kernel))
theorem dX12_plan_36 : decode cX12_plan 36 = .ok (.istore 4, 2) := zo_54 (b1 := 4) (zkb2 zk_cX12_plan zn_cX12_plan (by decide +kernel))
theorem dX12_plan_38 : decode cX12_plan 38 = .ok (.aload_n 0, 1) := zo_42 (zkb zk_cX12_plan zn_cX12_plan (by decide +kernel))
theorem dX12_plan_39 : decode cX12_plan 39 = .ok (.iload_n 1, 1) := zo_27 (zkb zk_cX12_plan zn_cX12_plan (by decide +kernel))
theorem dX12_plan_40 : decode cX12_plan 40 = .ok (.iload 4, 2) := zo_21 (b1 := 4) (zkb2 zk_cX12_plan zn_cX12_plan (by decide +kernel))
theorem dX12_plan_42 : decode cX12_plan 42 = .ok (.if_icmp .lt 29, 3) := zo_161 (b1 := 0) (b2 := 29) (zkb3 zk_cX12_plan zn_cX12_plan (by decide +kernel)) rfl
theorem dX12_plan_45 : decode cX12_plan 45 = .ok (.iload_n 1, 1) := zo_27 (zkb zk_cX12_plan zn_cX12_plan (by decide +kernel))
theorem dX12_plan_46 : decode cX12_plan 46 = .ok (.ifCond .lt 25, 3) := zo_155 (b1 := 0) (b2 := 25) (zkb3 zk_cX12_plan zn_cX12_plan (by decide +kernel)) rfl
theorem dX12_plan_49 : decode cX12_plan 49 = .ok (.iload_n 2, 1) := zo_28 (zkb zk_cX12_plan zn_cX12_plan (by decide +kernel))
theorem dX12_plan_50 : decode cX12_plan 50 = .ok (.i2l, 1) := zo_133 (zkb zk_cX12_plan zn_cX12_plan (by decide +kernel))
theorem dX12_plan_51 : decode cX12_plan 51 = .ok (.lconst 0, 1) := zo_9 (zkb zk_cX12_plan zn_cX12_plan (by decide +kernel))
theorem dX12_plan_52 : decode cX12_plan 52 = .ok (.lconst 1, 1) := zo_10 (zkb zk_cX12_plan zn_cX12_plan (by decide +kernel))
theorem dX12_plan_53 : decode cX12_plan 53 = .ok (.invokestatic 110, 3) := zo_184 (b1 := 0) (b2 := 110) (zkb3 zk_cX12_plan zn_cX12_plan (by decide +kernel)) rfl
theorem dX12_plan_56 : decode cX12_plan 56 = .ok (.ifCond .eq 15, 3) := zo_153 (b1 := 0) (b2 := 15) (zkb3 zk_cX12_plan zn_cX12_plan (by decide +kernel)) rfl
theorem dX12_plan_59 : decode cX12_plan 59 = .ok (.iload_n 3, 1) := zo_29 (zkb zk_cX12_plan zn_cX12_plan (by decide +kernel))
theorem dX12_plan_60 : decode cX12_plan 60 = .ok (.i2l, 1) := zo_133 (zkb zk_cX12_plan zn_cX12_plan (by decide +kernel))
theorem dX12_plan_61 : decode cX12_plan 61 = .ok (.lconst 0, 1) := zo_9 (zkb zk_cX12_plan zn_cX12_plan (by decide +kernel))
theorem dX12_plan_62 : decode cX12_plan 62 = .ok (.ldc2_w 444, 3) := by decide +kernel
theorem dX12_plan_65 : decode cX12_plan 65 = .ok (.invokestatic 110, 3) := zo_184 (b1 := 0) (b2 := 110) (zkb3 zk_cX12_plan zn_cX12_plan (by decide +kernel)) rfl
theorem dX12_plan_68 : decode cX12_plan 68 = .ok (.ifCond .ne 7, 3) := zo_154 (b1 := 0) (b2 := 7) (zkb3 zk_cX12_plan zn_cX12_plan (by decide +kernel)) rfl
theorem dX12_plan_71 : decode cX12_plan 71 = .ok (.iconst 1, 1) := zo_4 (zkb zk_cX12_plan zn_cX12_plan (by decide +kernel))
theorem dX12_plan_72 : decode cX12_plan 72 = .ok (.goto 4, 3) := zo_167 (b1 := 0) (b2 := 4) (zkb3 zk_cX12_plan zn_cX12_plan (by decide +kernel)) rfl
theorem dX12_plan_75 : decode cX12_plan 75 = .ok (.iconst 0, 1) := zo_3 (zkb zk_cX12_plan zn_cX12_plan (by decide +kernel))
theorem dX12_plan_76 : decode cX12_plan 76 = .ok (.iconst 1, 1) := zo_4 (zkb zk_cX12_plan zn_cX12_plan (by decide +kernel))
theorem dX12_plan_77 : decode cX12_plan 77 = .ok (.invokevirtual 114, 3) := zo_182 (b1 := 0) (b2 := 114) (zkb3 zk_cX12_plan zn_cX12_plan (by decide +kernel)) rfl
theorem dX12_plan_80 : decode cX12_plan 80 = .ok (.ifCond .ne 30, 3) := zo_154 (b1 := 0) (b2 := 30) (zkb3 zk_cX12_plan zn_cX12_plan (by decide +kernel)) rfl
theorem dX12_plan_83 : decode cX12_plan 83 = .ok (.aload_n 0, 1) := zo_42 (zkb zk_cX12_plan zn_cX12_plan (by decide +kernel))
theorem dX12_plan_84 : decode cX12_plan 84 = .ok (.aload_n 0, 1) := zo_42 (zkb zk_cX12_plan zn_cX12_plan (by decide +kernel))
theorem dX12_plan_85 : decode cX12_plan 85 = .ok (.getfield 22, 3) := zo_180 (b1 := 0) (b2 := 22) (zkb3 zk_cX12_plan zn_cX12_plan (by decide +kernel)) rfl
theorem dX12_plan_88 : decode cX12_plan 88 = .ok (.sipush 171, 3) := zo_17 (b1 := 0) (b2 := 171) (zkb3 zk_cX12_plan zn_cX12_plan (by decide +kernel)) rfl
theorem dX12_plan_91 : decode cX12_plan 91 = .ok (.iaload, 1) := zo_46 (zkb zk_cX12_plan zn_cX12_plan (by decide +kernel))
theorem dX12_plan_92 : decode cX12_plan 92 = .ok (.sipush 256, 3) := zo_17 (b1 := 1) (b2 := 0) (zkb3 zk_cX12_plan zn_cX12_plan (by decide +kernel)) rfl
theorem dX12_plan_95 : decode cX12_plan 95 = .ok (.if_icmp .ne 7, 3) := zo_160 (b1 := 0) (b2 := 7) (zkb3 zk_cX12_plan zn_cX12_plan (by decide +kernel)) rfl
theorem dX12_plan_98 : decode cX12_plan 98 = .ok (.iconst 1, 1) := zo_4 (zkb zk_cX12_plan zn_cX12_plan (by decide +kernel))
theorem dX12_plan_99 : decode cX12_plan 99 = .ok (.goto 4, 3) := zo_167 (b1 := 0) (b2 := 4) (zkb3 zk_cX12_plan zn_cX12_plan (by decide +kernel)) rfl
theorem dX12_plan_102 : decode cX12_plan 102 = .ok (.iconst 0, 1) := zo_3 (zkb zk_cX12_plan zn_cX12_plan (by decide +kernel))
theorem dX12_plan_103 : decode cX12_plan 103 = .ok (.iconst 2, 1) := zo_5 (zkb zk_cX12_plan zn_cX12_plan (by decide +kernel))
theorem dX12_plan_104 : decode cX12_plan 104 = .ok (.invokevirtual 114, 3) := zo_182 (b1 := 0) (b2 := 114) (zkb3 zk_cX12_plan zn_cX12_plan (by decide +kernel)) rfl
theorem dX12_plan_107 : decode cX12_plan 107 = .ok (.ifCond .eq 5, 3) := zo_153 (b1 := 0) (b2 := 5) (zkb3 zk_cX12_plan zn_cX12_plan (by decide +kernel)) rfl
theorem dX12_plan_110 : decode cX12_plan 110 = .ok (.iconst 0, 1) := zo_3 (zkb zk_cX12_plan zn_cX12_plan (by decide +kernel))
theorem dX12_plan_111 : decode cX12_plan 111 = .ok (.ireturn, 1) := zo_172 (zkb zk_cX12_plan zn_cX12_plan (by decide +kernel))
theorem dX12_plan_112 : decode cX12_plan 112 = .ok (.sipush 280, 3) := zo_17 (b1 := 1) (b2 := 24) (zkb3 zk_cX12_plan zn_cX12_plan (by decide +kernel)) rfl
theorem dX12_plan_115 : decode cX12_plan 115 = .ok (.iconst 3, 1) := zo_6 (zkb zk_cX12_plan zn_cX12_plan (by decide +kernel))
theorem dX12_plan_116 : decode cX12_plan 116 = .ok (.aload_n 0, 1) := zo_42 (zkb zk_cX12_plan zn_cX12_plan (by decide +kernel))
theorem dX12_plan_117 : decode cX12_plan 117 = .ok (.getfield 22, 3) := zo_180 (b1 := 0) (b2 := 22) (zkb3 zk_cX12_plan zn_cX12_plan (by decide +kernel)) rfl
theorem dX12_plan_120 : decode cX12_plan 120 = .ok (.sipush 171, 3) := zo_17 (b1 := 0) (b2 := 171) (zkb3 zk_cX12_plan zn_cX12_plan (by decide +kernel)) rfl
theorem dX12_plan_123 : decode cX12_plan 123 = .ok (.iaload, 1) := zo_46 (zkb zk_cX12_plan zn_cX12_plan (by decide +kernel))
theorem dX12_plan_124 : decode cX12_plan 124 = .ok (.imul, 1) := zo_104 (zkb zk_cX12_plan zn_cX12_plan (by decide +kernel))
theorem dX12_plan_125 : decode cX12_plan 125 = .ok (.iadd, 1) := zo_96 (zkb zk_cX12_plan zn_cX12_plan (by decide +kernel))
theorem dX12_plan_126 : decode cX12_plan 126 = .ok (.istore 5, 2) := zo_54 (b1 := 5) (zkb2 zk_cX12_plan zn_cX12_plan (by decide +kernel))
theorem dX12_plan_128 : decode cX12_plan 128 = .ok (.aload_n 0, 1) := zo_42 (zkb zk_cX12_plan zn_cX12_plan (by decide +kernel))
theorem dX12_plan_129 : decode cX12_plan 129 = .ok (.getfield 22, 3) := zo_180 (b1 := 0) (b2 := 22) (zkb3 zk_cX12_plan zn_cX12_plan (by decide +kernel)) rfl
theorem dX12_plan_132 : decode cX12_plan 132 = .ok (.iload 5, 2) := zo_21 (b1 := 5) (zkb2 zk_cX12_plan zn_cX12_plan (by decide +kernel))
theorem dX12_plan_134 : decode cX12_plan 134 = .ok (.iload_n 1, 1) := zo_27 (zkb zk_cX12_plan zn_cX12_plan (by decide +kernel))
theorem dX12_plan_135 : decode cX12_plan 135 = .ok (.iastore, 1) := zo_79 (zkb zk_cX12_plan zn_cX12_plan (by decide +kernel))
theorem dX12_plan_136 : decode cX12_plan 136 = .ok (.aload_n 0, 1) := zo_42 (zkb zk_cX12_plan zn_cX12_plan (by decide +kernel))
theorem dX12_plan_137 : decode cX12_plan 137 = .ok (.getfield 22, 3) := zo_180 (b1 := 0) (b2 := 22) (zkb3 zk_cX12_plan zn_cX12_plan (by decide +kernel)) rfl
theorem dX12_plan_140 : decode cX12_plan 140 = .ok (.iload 5, 2) := zo_21 (b1 := 5) (zkb2 zk_cX12_plan zn_cX12_plan (by decide +kernel))
theorem dX12_plan_142 : decode cX12_plan 142 = .ok (.iconst 1, 1) := zo_4 (zkb zk_cX12_plan zn_cX12_plan (by decide +kernel))
theorem dX12_plan_143 : decode cX12_plan 143 = .ok (.iadd, 1) := zo_96 (zkb zk_cX12_plan zn_cX12_plan (by decide +kernel))
theorem dX12_plan_144 : decode cX12_plan 144 = .ok (.iload_n 2, 1) := zo_28 (zkb zk_cX12_plan zn_cX12_plan (by decide +kernel))
theorem dX12_plan_145 : decode cX12_plan 145 = .ok (.iastore, 1) := zo_79 (zkb zk_cX12_plan zn_cX12_plan (by decide +kernel))
theorem dX12_plan_146 : decode cX12_plan 146 = .ok (.aload_n 0, 1) := zo_42 (zkb zk_cX12_plan zn_cX12_plan (by decide +kernel))
theorem dX12_plan_147 : decode cX12_plan 147 = .ok (.getfield 22, 3) := zo_180 (b1 := 0) (b2 := 22) (zkb3 zk_cX12_plan zn_cX12_plan (by decide +kernel)) rfl
theorem dX12_plan_150 : decode cX12_plan 150 = .ok (.iload 5, 2) := zo_21 (b1 := 5) (zkb2 zk_cX12_plan zn_cX12_plan (by decide +kernel))
theorem dX12_plan_152 : decode cX12_plan 152 = .ok (.iconst 2, 1) := zo_5 (zkb zk_cX12_plan zn_cX12_plan (by decide +kernel))
theorem dX12_plan_153 : decode cX12_plan 153 = .ok (.iadd, 1) := zo_96 (zkb zk_cX12_plan zn_cX12_plan (by decide +kernel))
theorem dX12_plan_154 : decode cX12_plan 154 = .ok (.iload_n 3, 1) := zo_29 (zkb zk_cX12_plan zn_cX12_plan (by decide +kernel))
theorem dX12_plan_155 : decode cX12_plan 155 = .ok (.iastore, 1) := zo_79 (zkb zk_cX12_plan zn_cX12_plan (by decide +kernel))
theorem dX12_plan_156 : decode cX12_plan 156 = .ok (.aload_n 0, 1) := zo_42 (zkb zk_cX12_plan zn_cX12_plan (by decide +kernel))
theorem dX12_plan_157 : decode cX12_plan 157 = .ok (.getfield 22, 3) := zo_180 (b1 := 0) (b2 := 22) (zkb3 zk_cX12_plan zn_cX12_plan (by decide +kernel)) rfl
theorem dX12_plan_160 : decode cX12_plan 160 = .ok (.sipush 171, 3) := zo_17 (b1 := 0) (b2 := 171) (zkb3 zk_cX12_plan zn_cX12_plan (by decide +kernel)) rfl
theorem dX12_plan_163 : decode cX12_plan 163 = .ok (.dup2, 1) := zo_92 (zkb zk_cX12_plan zn_cX12_plan (by decide +kernel))
theorem dX12_plan_164 : decode cX12_plan 164 = .ok (.iaload, 1) := zo_46 (zkb zk_cX12_plan zn_cX12_plan (by decide +kernel))
theorem dX12_plan_165 : decode cX12_plan 165 = .ok (.iconst 1, 1) := zo_4 (zkb zk_cX12_plan zn_cX12_plan (by decide +kernel))
theorem dX12_plan_166 : decode cX12_plan 166 = .ok (.iadd, 1) := zo_96 (zkb zk_cX12_plan zn_cX12_plan (by decide +kernel))
theorem dX12_plan_167 : decode cX12_plan 167 = .ok (.iastore, 1) := zo_79 (zkb zk_cX12_plan zn_cX12_plan (by decide +kernel))
theorem dX12_plan_168 : decode cX12_plan 168 = .ok (.aload_n 0, 1) := zo_42 (zkb zk_cX12_plan zn_cX12_plan (by decide +kernel))
theorem dX12_plan_169 : decode cX12_plan 169 = .ok (.getfield 22, 3) := zo_180 (b1 := 0) (b2 := 22) (zkb3 zk_cX12_plan zn_cX12_plan (by decide +kernel)) rfl
theorem dX12_plan_172 : decode cX12_plan 172 = .ok (.sipush 171, 3) := zo_17 (b1 := 0) (b2 := 171) (zkb3 zk_cX12_plan zn_cX12_plan (by decide +kernel)) rfl
theorem dX12_plan_175 : decode cX12_plan 175 = .ok (.iaload, 1) := zo_46 (zkb zk_cX12_plan zn_cX12_plan (by decide +kernel))
theorem dX12_plan_176 : decode cX12_plan 176 = .ok (.ireturn, 1) := zo_172 (zkb zk_cX12_plan zn_cX12_plan (by decide +kernel))
def kn_cX12_say : Nat := 0xb1ddffa7010284ca01b56004ca01b4592a4fd501b61c2bca01b42a6000b42a2100a21e02b62b1c3d03
theorem zk_cX12_say : zkd cX12_say.data.toList kn_cX12_say = true := by decide +kernel
theorem zn_cX12_say : cX12_say.data.toList.length = 41 := by decide +kernel
theorem dX12_say_0 : decode cX12_say 0 = .ok (.iconst 0, 1) := zo_3 (zkb zk_cX12_say zn_cX12_say (by decide +kernel))
theorem dX12_say_1 : decode cX12_say 1 = .ok (.istore_n 2, 1) := zo_61 (zkb zk_cX12_say zn_cX12_say (by decide +kernel))
theorem dX12_say_2 : decode cX12_say 2 = .ok (.iload_n 2, 1) := zo_28 (zkb zk_cX12_say zn_cX12_say (by decide +kernel))
theorem dX12_say_3 : decode cX12_say 3 = .ok (.aload_n 1, 1) := zo_43 (zkb zk_cX12_say zn_cX12_say (by decide +kernel))
theorem dX12_say_4 : decode cX12_say 4 = .ok (.invokevirtual 542, 3) := zo_182 (b1 := 2) (b2 := 30) (zkb3 zk_cX12_say zn_cX12_say (by decide +kernel)) rfl
theorem dX12_say_7 : decode cX12_say 7 = .ok (.if_icmp .ge 33, 3) := zo_162 (b1 := 0) (b2 := 33) (zkb3 zk_cX12_say zn_cX12_say (by decide +kernel)) rfl
theorem dX12_say_10 : decode cX12_say 10 = .ok (.aload_n 0, 1) := zo_42 (zkb zk_cX12_say zn_cX12_say (by decide +kernel))
theorem dX12_say_11 : decode cX12_say 11 = .ok (.getfield 96, 3) := zo_180 (b1 := 0) (b2 := 96) (zkb3 zk_cX12_say zn_cX12_say (by decide +kernel)) rfl
theorem dX12_say_14 : decode cX12_say 14 = .ok (.aload_n 0, 1) := zo_42 (zkb zk_cX12_say zn_cX12_say (by decide +kernel))
theorem dX12_say_15 : decode cX12_say 15 = .ok (.getfield 458, 3) := zo_180 (b1 := 1) (b2 := 202) (zkb3 zk_cX12_say zn_cX12_say (by decide +kernel)) rfl
theorem dX12_say_18 : decode cX12_say 18 = .ok (.aload_n 1, 1) := zo_43 (zkb zk_cX12_say zn_cX12_say (by decide +kernel))
theorem dX12_say_19 : decode cX12_say 19 = .ok (.iload_n 2, 1) := zo_28 (zkb zk_cX12_say zn_cX12_say (by decide +kernel))
theorem dX12_say_20 : decode cX12_say 20 = .ok (.invokevirtual 469, 3) := zo_182 (b1 := 1) (b2 := 213) (zkb3 zk_cX12_say zn_cX12_say (by decide +kernel)) rfl
theorem dX12_say_23 : decode cX12_say 23 = .ok (.iastore, 1) := zo_79 (zkb zk_cX12_say zn_cX12_say (by decide +kernel))
theorem dX12_say_24 : decode cX12_say 24 = .ok (.aload_n 0, 1) := zo_42 (zkb zk_cX12_say zn_cX12_say (by decide +kernel))
theorem dX12_say_25 : decode cX12_say 25 = .ok (.dup, 1) := zo_89 (zkb zk_cX12_say zn_cX12_say (by decide +kernel))
theorem dX12_say_26 : decode cX12_say 26 = .ok (.getfield 458, 3) := zo_180 (b1 := 1) (b2 := 202) (zkb3 zk_cX12_say zn_cX12_say (by decide +kernel)) rfl
theorem dX12_say_29 : decode cX12_say 29 = .ok (.iconst 1, 1) := zo_4 (zkb zk_cX12_say zn_cX12_say (by decide +kernel))
theorem dX12_say_30 : decode cX12_say 30 = .ok (.iadd, 1) := zo_96 (zkb zk_cX12_say zn_cX12_say (by decide +kernel))
theorem dX12_say_31 : decode cX12_say 31 = .ok (.putfield 458, 3) := zo_181 (b1 := 1) (b2 := 202) (zkb3 zk_cX12_say zn_cX12_say (by decide +kernel)) rfl
theorem dX12_say_34 : decode cX12_say 34 = .ok (.iinc 2 1, 3) := zo_132 (b1 := 2) (b2 := 1) (zkb3 zk_cX12_say zn_cX12_say (by decide +kernel)) rfl
theorem dX12_say_37 : decode cX12_say 37 = .ok (.goto (-35), 3) := zo_167 (b1 := 255) (b2 := 221) (zkb3 zk_cX12_say zn_cX12_say (by decide +kernel)) rfl
theorem dX12_say_40 : decode cX12_say 40 = .ok (.return_, 1) := zo_177 (zkb zk_cX12_say zn_cX12_say (by decide +kernel))
def rmX12_sound : Room := { frames := 1, cells := 0, slots := 0, locals := 25 }
def wzX12_sound : List Cond := .code yX12_sound cX12_sound 2 (some .int) :: wsL_law
theorem hinX12_sound_X120 : ∀ w ∈ wsX120, w ∈ wzX12_sound := fun w h => List.mem_cons_of_mem _ (inlX12 w h)
def fX12_sound_52  (σ : zSt) (s0 : Int32) : Option (zSt × Int32) :=
  some (σ, s0)
def fX12_sound_18  (σ : zSt) (x1 : Int32) (s0 : Int32) : Option (zSt × Int32) :=
  zbi (fX12_fails σ s0 1) (fun σ1 v2 =>
  if v2 = 0 then if x1 = 18 then zck (zin 34 1048) (
  fX12_sound_52 σ1 (zgi σ1 3 (34 : Int32).toNatClampNeg)) else
  zck (zin (69 + x1) 1048) (
  fX12_sound_52 σ1 (zgi σ1 3 (69 + x1).toNatClampNeg)) else
  some (σ1, 0))
def fX12_sound  (σ : zSt) (x1 : Int32) : Option (zSt × Int32) :=
  zbi (fX12_within σ (x1.toInt64) 0 18) (fun σ3 v4 =>
  if v4 = 0 then fX12_sound_18 σ3 x1 1 else
  fX12_sound_18 σ3 x1 0)
set_option maxRecDepth 20000 in
set_option maxHeartbeats 4000000 in
theorem bX12_sound_52 {st : Nat → Nat} {p : Program} {l : Launch} {e : Env} {s : State} {m : MethodId} {args : Array Value} {below : List Frame} {meth : Method} {c : Code} {D : va_G} {A : Nat → Prop} {ad : Nat → Nat} {cy : Nat → ClassId} (hC : zC p m c cX12_sound 2 s args wzX12_sound RX12 meth (some .int))  {res : zSt × Int32} {H : Heap} {locs : List Loc} {σ : zSt} {ls : Array Slot} {s0 : Int32} (hI : zI st D (tM cy) (wM ad cy σ) A s H locs) (hl : lv_has ls 2 []) (hf : fX12_sound_52  σ s0 = some res) : W p l e rmX12_sound s m args below meth c H locs 0 0 (zQi below args s D (tM cy) (wM ad cy) A res) (F0 m 52 ls [.int s0]) := by
  have hx := hC.1
  have hb := hC.2.1
  unfold fX12_sound_52 at hf
  exact z_ireturn hC hI hf dX12_sound_52
set_option maxRecDepth 20000 in
set_option maxHeartbeats 4000000 in
theorem bX12_sound_18 {st : Nat → Nat} {p : Program} {l : Launch} {e : Env} {s : State} {m : MethodId} {args : Array Value} {below : List Frame} {meth : Method} {c : Code} {D : va_G} {A : Nat → Prop} {ad : Nat → Nat} {cy : Nat → ClassId} (hC : zC p m c cX12_sound 2 s args wzX12_sound RX12 meth (some .int))  {res : zSt × Int32} {H : Heap} {locs : List Loc} {σ : zSt} {ls : Array Slot} {x1 : Int32} {s0 : Int32} (hI : zI st D (tM cy) (wM ad cy σ) A s H locs) (hl : lv_has ls 2 [(0, .ref (ad 0)), (1, .int x1)]) (hf : fX12_sound_18  σ x1 s0 = some res) : W p l e rmX12_sound s m args below meth c H locs 0 0 (zQi below args s D (tM cy) (wM ad cy) A res) (F0 m 18 ls [.int s0, .ref (ad 0)]) := by
  have hx := hC.1
  have hb := hC.2.1
  unfold fX12_sound_18 at hf
  refine lv_iconst (v := 1) hx hb dX12_sound_18 (by decide) ?_
  obtain ⟨σ1, v2, g1, hf⟩ := zbi_use hf
  refine z_callVi (As := [.int s0, .int 1]) (rest := []) hC hI (cX12_fails_met st l D ad cy σ s0 1 _ g1) (zgV zw11_21 zw11_22 zw11_23 zw1_5 zw12_0) rfl ⟨rfl, rfl⟩ 2 hdX12_fails ⟨Nat.le_of_ble_eq_true rfl, Nat.le_of_ble_eq_true rfl⟩ rfl rfl (wM_e0 ad cy σ) rfl hl rfl (Nat.le_of_ble_eq_true rfl) dX12_sound_19 ⟨Nat.zero_le _, Nat.zero_le _⟩ (fun H locs hI => ?_)
  refine lv_if_eq (tgt := 27) hx hb dX12_sound_22 (by decide) (fun q => ?_) (fun q => ?_)
  · replace hf := zif_t q hf
    refine lv_iload_n hx hb dX12_sound_27 rfl (lv_at hl 1 rfl) ?_
    refine lv_bipush (v := 18) hx hb dX12_sound_28 (by decide) ?_
    refine lv_icmp_ne (tgt := 43) hx hb dX12_sound_30 (by decide) (fun q => ?_) (fun q => ?_)
    · replace hf := zif_f q hf
      refine lv_aload_n hx hb dX12_sound_43 rfl (lv_at hl 0 rfl) ?_
      refine z_get hC hI hinX12_sound_X120 0 (wM_e0 ad cy σ1) rfl 10 (by decide) (List.mem_cons_of_mem _ zw9_7) rfl dX12_sound_44 ?_
      refine lv_bipush (v := 69) hx hb dX12_sound_47 (by decide) ?_
      refine lv_iload_n hx hb dX12_sound_49 rfl (lv_at hl 1 rfl) ?_
      refine lv_iadd hx hb dX12_sound_50 ?_
      obtain ⟨q, hf⟩ := zck_use hf
      refine z_iald hC hI 3 2 (wM_e3 ad cy σ1) (tM_t3 cy) q dX12_sound_51 ?_
      exact bX12_sound_52 hC  hI (lv_sub hl [] rfl) hf
    replace hf := zif_t q hf
    refine lv_aload_n hx hb dX12_sound_33 rfl (lv_at hl 0 rfl) ?_
    refine z_get hC hI hinX12_sound_X120 0 (wM_e0 ad cy σ1) rfl 10 (by decide) (List.mem_cons_of_mem _ zw9_7) rfl dX12_sound_34 ?_
    refine lv_bipush (v := 34) hx hb dX12_sound_37 (by decide) ?_
    obtain ⟨q, hf⟩ := zck_use hf
    refine z_iald hC hI 3 2 (wM_e3 ad cy σ1) (tM_t3 cy) q dX12_sound_39 ?_
    refine lv_goto (tgt := 52) hx hb dX12_sound_40 (by decide) ?_
    exact bX12_sound_52 hC  hI (lv_sub hl [] rfl) hf
  replace hf := zif_f q hf
  refine lv_iconst (v := 0) hx hb dX12_sound_25 (by decide) ?_
  exact z_ireturn hC hI hf dX12_sound_26
set_option maxRecDepth 20000 in
set_option maxHeartbeats 4000000 in
theorem bX12_sound {st : Nat → Nat} {p : Program} {l : Launch} {e : Env} {s : State} {m : MethodId} {args : Array Value} {below : List Frame} {meth : Method} {c : Code} {D : va_G} {A : Nat → Prop} {ad : Nat → Nat} {cy : Nat → ClassId} (hC : zC p m c cX12_sound 2 s args wzX12_sound RX12 meth (some .int))  {res : zSt × Int32} {H : Heap} {locs : List Loc} {σ : zSt} {ls : Array Slot} {x1 : Int32} (hI : zI st D (tM cy) (wM ad cy σ) A s H locs) (hl : lv_has ls 2 [(0, .ref (ad 0)), (1, .int x1)]) (hf : fX12_sound  σ x1 = some res) : W p l e rmX12_sound s m args below meth c H locs 0 0 (zQi below args s D (tM cy) (wM ad cy) A res) (F0 m 0 ls []) := by
  have hx := hC.1
  have hb := hC.2.1
  unfold fX12_sound at hf
  refine lv_aload_n hx hb dX12_sound_0 rfl (lv_at hl 0 rfl) ?_
  refine lv_iload_n hx hb dX12_sound_1 rfl (lv_at hl 1 rfl) ?_
  refine lv_i2l (v := x1.toInt64) hx hb dX12_sound_2 rfl ?_
  refine lv_lconst (v := 0) hx hb dX12_sound_3 (by decide) ?_
  refine lv_ldc2 (v := 18) hx hb hC.2.2.2.1 (hC.2.2.2.2.1 _ (List.mem_cons_of_mem _ zw94_16)) dX12_sound_4 ?_
  obtain ⟨σ3, v4, g3, hf⟩ := zbi_use hf
  refine z_callSi (As := [.long (x1.toInt64), .long 0, .long 18]) (rest := [.ref (ad 0)]) hC hI (cX12_within_met st l D ad cy σ (x1.toInt64) 0 18 _ g3) (zgS zw11_18 zw11_19 zw1_5 zw11_20) rfl ⟨rfl, rfl⟩ 3 hdX12_within ⟨Nat.le_of_ble_eq_true rfl, Nat.le_of_ble_eq_true rfl⟩ rfl hl rfl (Nat.le_of_ble_eq_true rfl) dX12_sound_7 ⟨Nat.zero_le _, Nat.zero_le _⟩ (fun H locs hI => ?_)
  refine lv_if_ne (tgt := 17) hx hb dX12_sound_10 (by decide) (fun q => ?_) (fun q => ?_)
  · replace hf := zif_f q hf
    refine lv_iconst (v := 0) hx hb dX12_sound_17 (by decide) ?_
    exact bX12_sound_18 hC  hI hl hf
  replace hf := zif_t q hf
  refine lv_iconst (v := 1) hx hb dX12_sound_13 (by decide) ?_
  refine lv_goto (tgt := 18) hx hb dX12_sound_14 (by decide) ?_
  exact bX12_sound_18 hC  hI hl hf
set_option maxRecDepth 20000 in
theorem cX12_sound_met (st : Nat → Nat) (l : Launch) (D : va_G) (ad : Nat → Nat) (cy : Nat → ClassId) (σ : zSt) (x1 : Int32) (res : zSt × Int32) (hf : fX12_sound σ x1 = some res) (sz : Nat) : zMi st l yX12_sound wzX12_sound rmX12_sound [.ref (ad 0), .int x1] D (tM cy) (wM ad cy) sz σ res :=
  zMi.of (cc := cX12_sound) (maxL := 2) (ret := (some .int)) (by decide) rfl (Nat.le_of_ble_eq_true rfl) (fun p e s m args below meth c hC A hI ls hl => bX12_sound hC hI hl hf)
theorem hdX12_sound : yX12_sound.cls = RX12 ∧ yX12_sound.cls ≠ "java/lang/invoke/MethodHandle" ∧ yX12_sound.cls ≠ "java/lang/invoke/VarHandle" ∧ (parseMethodDescriptor yX12_sound.desc).map (fun d => d.parameters.length) = some 1 := by decide +kernel
def rmX12_reset : Room := { frames := 1, cells := 0, slots := 0, locals := 21 }
def wzX12_reset : List Cond := .code yX12_reset cX12_reset 1 none :: wsL_law
theorem hinX12_reset_X120 : ∀ w ∈ wsX120, w ∈ wzX12_reset := fun w h => List.mem_cons_of_mem _ (inlX12 w h)
def fX12_reset  (σ : zSt)  : Option (zSt) :=
  zbv (zsi σ 0 0 0) (fun σ1 =>
  zbu (fX12_anew σ1 ) (fun σ2 =>
  some σ2))
set_option maxRecDepth 20000 in
set_option maxHeartbeats 4000000 in
theorem bX12_reset {st : Nat → Nat} {p : Program} {l : Launch} {e : Env} {s : State} {m : MethodId} {args : Array Value} {below : List Frame} {meth : Method} {c : Code} {D : va_G} {A : Nat → Prop} {ad : Nat → Nat} {cy : Nat → ClassId} (hC : zC p m c cX12_reset 1 s args wzX12_reset RX12 meth none)  {res : zSt} {H : Heap} {locs : List Loc} {σ : zSt} {ls : Array Slot}  (hI : zI st D (tM cy) (wM ad cy σ) A s H locs) (hl : lv_has ls 1 [(0, .ref (ad 0))]) (hf : fX12_reset  σ  = some res) : W p l e rmX12_reset s m args below meth c H locs 0 0 (zQu below args s D (tM cy) (wM ad cy) A res) (F0 m 0 ls []) := by
  have hx := hC.1
  have hb := hC.2.1
  unfold fX12_reset at hf
  refine lv_aload_n hx hb dX12_reset_0 rfl (lv_at hl 0 rfl) ?_
  refine lv_iconst (v := 0) hx hb dX12_reset_1 (by decide) ?_
  obtain ⟨σ1, eσ1⟩ : ∃ z, z = zsi σ 0 0 0 := ⟨_, rfl⟩
  replace hf := zbv_use eσ1 hf
  refine z_put hC hI hinX12_reset_X120 tyX12_ok nmX12 0 (wM_e0 ad cy σ) rfl 0 (by decide) (List.mem_cons_of_mem _ zw12_1) rfl rfl rfl (Nat.le_of_ble_eq_true rfl) ((wM_s0_0 ad cy σ 0).trans (congrArg (wM ad cy) eσ1.symm)) dX12_reset_2 (fun H locs hI => ?_)
  refine lv_aload_n hx hb dX12_reset_5 rfl (lv_at hl 0 rfl) ?_
  obtain ⟨σ2, g2, hf⟩ := zbu_use hf
  refine z_callVu (As := []) (rest := []) hC hI (cX12_anew_met st l D ad cy σ1  _ g2) (zgV zw10_11 zw10_12 zw10_13 zw1_5 zw10_14) rfl ⟨rfl, rfl⟩ 0 hdX12_anew ⟨Nat.le_of_ble_eq_true rfl, Nat.le_of_ble_eq_true rfl⟩ rfl rfl (wM_e0 ad cy σ1) rfl hl rfl (Nat.le_of_ble_eq_true rfl) dX12_reset_6 ⟨Nat.zero_le _, Nat.zero_le _⟩ (fun H locs hI => ?_)
  exact z_return hC hI hf dX12_reset_9
set_option maxRecDepth 20000 in
theorem cX12_reset_met (st : Nat → Nat) (l : Launch) (D : va_G) (ad : Nat → Nat) (cy : Nat → ClassId) (σ : zSt)  (res : zSt) (hf : fX12_reset σ  = some res) (sz : Nat) : zMu st l yX12_reset wzX12_reset rmX12_reset [.ref (ad 0)] D (tM cy) (wM ad cy) sz σ res :=
  zMu.of (cc := cX12_reset) (maxL := 1) (ret := none) (by decide) rfl (Nat.le_of_ble_eq_true rfl) (fun p e s m args below meth c hC A hI ls hl => bX12_reset hC hI hl hf)
theorem hdX12_reset : yX12_reset.cls = RX12 ∧ yX12_reset.cls ≠ "java/lang/invoke/MethodHandle" ∧ yX12_reset.cls ≠ "java/lang/invoke/VarHandle" ∧ (parseMethodDescriptor yX12_reset.desc).map (fun d => d.parameters.length) = some 0 := by decide +kernel
def rmX12_pause : Room := { frames := 0, cells := 0, slots := 0, locals := 0 }
def wzX12_pause : List Cond := .code yX12_pause cX12_pause 1 (some .boolean) :: wsL_law
theorem hinX12_pause_X120 : ∀ w ∈ wsX120, w ∈ wzX12_pause := fun w h => List.mem_cons_of_mem _ (inlX12 w h)
def fX12_pause  (σ : zSt)  : Option (zSt × Int32) :=
  zbv (zsi σ 0 0 0) (fun σ1 =>
  if (zgi σ1 0 3) = 2 then zck (zbo 0) (some (σ1, 0)) else
  zck (zin 28 1048) (zbv (zsi σ1 3 ((28 : Int32).toNatClampNeg) 1) (fun σ2 =>
  zck (zbo 1) (some (σ2, 1)))))
set_option maxRecDepth 20000 in
set_option maxHeartbeats 4000000 in
theorem bX12_pause {st : Nat → Nat} {p : Program} {l : Launch} {e : Env} {s : State} {m : MethodId} {args : Array Value} {below : List Frame} {meth : Method} {c : Code} {D : va_G} {A : Nat → Prop} {ad : Nat → Nat} {cy : Nat → ClassId} (hC : zC p m c cX12_pause 1 s args wzX12_pause RX12 meth (some .boolean))  {res : zSt × Int32} {H : Heap} {locs : List Loc} {σ : zSt} {ls : Array Slot}  (hI : zI st D (tM cy) (wM ad cy σ) A s H locs) (hl : lv_has ls 1 [(0, .ref (ad 0))]) (hf : fX12_pause  σ  = some res) : W p l e rmX12_pause s m args below meth c H locs 0 0 (zQi below args s D (tM cy) (wM ad cy) A res) (F0 m 0 ls []) := by
  have hx := hC.1
  have hb := hC.2.1
  unfold fX12_pause at hf
  refine lv_aload_n hx hb dX12_pause_0 rfl (lv_at hl 0 rfl) ?_
  refine lv_iconst (v := 0) hx hb dX12_pause_1 (by decide) ?_
  obtain ⟨σ1, eσ1⟩ : ∃ z, z = zsi σ 0 0 0 := ⟨_, rfl⟩
  replace hf := zbv_use eσ1 hf
  refine z_put hC hI hinX12_pause_X120 tyX12_ok nmX12 0 (wM_e0 ad cy σ) rfl 0 (by decide) (List.mem_cons_of_mem _ zw12_1) rfl rfl rfl (Nat.le_of_ble_eq_true rfl) ((wM_s0_0 ad cy σ 0).trans (congrArg (wM ad cy) eσ1.symm)) dX12_pause_2 (fun H locs hI => ?_)
  refine lv_aload_n hx hb dX12_pause_5 rfl (lv_at hl 0 rfl) ?_
  refine z_get hC hI hinX12_pause_X120 0 (wM_e0 ad cy σ1) rfl 3 (by decide) (List.mem_cons_of_mem _ zw10_10) rfl dX12_pause_6 ?_
  refine lv_iconst (v := 2) hx hb dX12_pause_9 (by decide) ?_
  refine lv_icmp_ne (tgt := 15) hx hb dX12_pause_10 (by decide) (fun q => ?_) (fun q => ?_)
  · replace hf := zif_f q hf
    refine lv_aload_n hx hb dX12_pause_15 rfl (lv_at hl 0 rfl) ?_
    refine z_get hC hI hinX12_pause_X120 0 (wM_e0 ad cy σ1) rfl 10 (by decide) (List.mem_cons_of_mem _ zw9_7) rfl dX12_pause_16 ?_
    refine lv_bipush (v := 28) hx hb dX12_pause_19 (by decide) ?_
    refine lv_iconst (v := 1) hx hb dX12_pause_21 (by decide) ?_
    obtain ⟨q, hf⟩ := zck_use hf
    obtain ⟨σ2, eσ2⟩ : ∃ z, z = zsi σ1 3 ((28 : Int32).toNatClampNeg) 1 := ⟨_, rfl⟩
    replace hf := zbv_use eσ2 hf
    refine z_iast hC hI 3 2 (wM_e3 ad cy σ1) (tM_t3 cy) q ((wM_s3 ad cy σ1 _ _).trans (congrArg (wM ad cy) eσ2.symm)) dX12_pause_22 (fun H locs hI => ?_)
    refine lv_iconst (v := 1) hx hb dX12_pause_23 (by decide) ?_
    obtain ⟨q, hf⟩ := zck_use hf
    exact z_zreturn hC hI (zbo_n q) hf dX12_pause_24
  replace hf := zif_t q hf
  refine lv_iconst (v := 0) hx hb dX12_pause_13 (by decide) ?_
  obtain ⟨q, hf⟩ := zck_use hf
  exact z_zreturn hC hI (zbo_n q) hf dX12_pause_14
set_option maxRecDepth 20000 in
theorem cX12_pause_met (st : Nat → Nat) (l : Launch) (D : va_G) (ad : Nat → Nat) (cy : Nat → ClassId) (σ : zSt)  (res : zSt × Int32) (hf : fX12_pause σ  = some res) (sz : Nat) : zMi st l yX12_pause wzX12_pause rmX12_pause [.ref (ad 0)] D (tM cy) (wM ad cy) sz σ res :=
  zMi.of (cc := cX12_pause) (maxL := 1) (ret := (some .boolean)) (by decide) rfl (Nat.le_of_ble_eq_true rfl) (fun p e s m args below meth c hC A hI ls hl => bX12_pause hC hI hl hf)
theorem hdX12_pause : yX12_pause.cls = RX12 ∧ yX12_pause.cls ≠ "java/lang/invoke/MethodHandle" ∧ yX12_pause.cls ≠ "java/lang/invoke/VarHandle" ∧ (parseMethodDescriptor yX12_pause.desc).map (fun d => d.parameters.length) = some 0 := by decide +kernel
def rmX12_press : Room := { frames := 1, cells := 0, slots := 0, locals := 25 }
def wzX12_press : List Cond := .code yX12_press cX12_press 3 none :: wsL_law
theorem hinX12_press_X120 : ∀ w ∈ wsX120, w ∈ wzX12_press := fun w h => List.mem_cons_of_mem _ (inlX12 w h)
def fX12_press_28  (σ : zSt) (x1 : Int32) (x2 : Int32) (s0 : Int32) : Option (zSt) :=
  zbi (fX12_fails σ s0 1) (fun σ1 v2 =>
  if v2 = 0 then zck (zin (42 + x1) 1048) (zbv (zsi σ1 3 ((42 + x1).toNatClampNeg) x2) (fun σ3 =>
  some σ3)) else
  some σ1)
def fX12_press_23  (σ : zSt) (x1 : Int32) (x2 : Int32) : Option (zSt) :=
  fX12_press_28 σ x1 x2 1
def fX12_press  (σ : zSt) (x1 : Int32) (x2 : Int32) : Option (zSt) :=
  zbi (fX12_within σ (x1.toInt64) 0 1) (fun σ4 v5 =>
  if v5 = 0 then fX12_press_23 σ4 x1 x2 else
  zbi (fX12_within σ4 (x2.toInt64) 0 63) (fun σ6 v7 =>
  if v7 = 0 then fX12_press_23 σ6 x1 x2 else
  fX12_press_28 σ6 x1 x2 0))
set_option maxRecDepth 20000 in
set_option maxHeartbeats 4000000 in
theorem bX12_press_28 {st : Nat → Nat} {p : Program} {l : Launch} {e : Env} {s : State} {m : MethodId} {args : Array Value} {below : List Frame} {meth : Method} {c : Code} {D : va_G} {A : Nat → Prop} {ad : Nat → Nat} {cy : Nat → ClassId} (hC : zC p m c cX12_press 3 s args wzX12_press RX12 meth none)  {res : zSt} {H : Heap} {locs : List Loc} {σ : zSt} {ls : Array Slot} {x1 : Int32} {x2 : Int32} {s0 : Int32} (hI : zI st D (tM cy) (wM ad cy σ) A s H locs) (hl : lv_has ls 3 [(0, .ref (ad 0)), (1, .int x1), (2, .int x2)]) (hf : fX12_press_28  σ x1 x2 s0 = some res) : W p l e rmX12_press s m args below meth c H locs 0 0 (zQu below args s D (tM cy) (wM ad cy) A res) (F0 m 28 ls [.int s0, .ref (ad 0)]) := by
  have hx := hC.1
  have hb := hC.2.1
  unfold fX12_press_28 at hf
  refine lv_iconst (v := 1) hx hb dX12_press_28 (by decide) ?_
  obtain ⟨σ1, v2, g1, hf⟩ := zbi_use hf
  refine z_callVi (As := [.int s0, .int 1]) (rest := []) hC hI (cX12_fails_met st l D ad cy σ s0 1 _ g1) (zgV zw11_21 zw11_22 zw11_23 zw1_5 zw12_0) rfl ⟨rfl, rfl⟩ 2 hdX12_fails ⟨Nat.le_of_ble_eq_true rfl, Nat.le_of_ble_eq_true rfl⟩ rfl rfl (wM_e0 ad cy σ) rfl hl rfl (Nat.le_of_ble_eq_true rfl) dX12_press_29 ⟨Nat.zero_le _, Nat.zero_le _⟩ (fun H locs hI => ?_)
  refine lv_if_eq (tgt := 36) hx hb dX12_press_32 (by decide) (fun q => ?_) (fun q => ?_)
  · replace hf := zif_t q hf
    refine lv_aload_n hx hb dX12_press_36 rfl (lv_at hl 0 rfl) ?_
    refine z_get hC hI hinX12_press_X120 0 (wM_e0 ad cy σ1) rfl 10 (by decide) (List.mem_cons_of_mem _ zw9_7) rfl dX12_press_37 ?_
    refine lv_bipush (v := 42) hx hb dX12_press_40 (by decide) ?_
    refine lv_iload_n hx hb dX12_press_42 rfl (lv_at hl 1 rfl) ?_
    refine lv_iadd hx hb dX12_press_43 ?_
    refine lv_iload_n hx hb dX12_press_44 rfl (lv_at hl 2 rfl) ?_
    obtain ⟨q, hf⟩ := zck_use hf
    obtain ⟨σ3, eσ3⟩ : ∃ z, z = zsi σ1 3 ((42 + x1).toNatClampNeg) x2 := ⟨_, rfl⟩
    replace hf := zbv_use eσ3 hf
    refine z_iast hC hI 3 2 (wM_e3 ad cy σ1) (tM_t3 cy) q ((wM_s3 ad cy σ1 _ _).trans (congrArg (wM ad cy) eσ3.symm)) dX12_press_45 (fun H locs hI => ?_)
    exact z_return hC hI hf dX12_press_46
  replace hf := zif_f q hf
  exact z_return hC hI hf dX12_press_35
set_option maxRecDepth 20000 in
set_option maxHeartbeats 4000000 in
theorem bX12_press_23 {st : Nat → Nat} {p : Program} {l : Launch} {e : Env} {s : State} {m : MethodId} {args : Array Value} {below : List Frame} {meth : Method} {c : Code} {D : va_G} {A : Nat → Prop} {ad : Nat → Nat} {cy : Nat → ClassId} (hC : zC p m c cX12_press 3 s args wzX12_press RX12 meth none)  {res : zSt} {H : Heap} {locs : List Loc} {σ : zSt} {ls : Array Slot} {x1 : Int32} {x2 : Int32} (hI : zI st D (tM cy) (wM ad cy σ) A s H locs) (hl : lv_has ls 3 [(0, .ref (ad 0)), (1, .int x1), (2, .int x2)]) (hf : fX12_press_23  σ x1 x2 = some res) : W p l e rmX12_press s m args below meth c H locs 0 0 (zQu below args s D (tM cy) (wM ad cy) A res) (F0 m 23 ls [.ref (ad 0)]) := by
  have hx := hC.1
  have hb := hC.2.1
  unfold fX12_press_23 at hf
  refine lv_iconst (v := 1) hx hb dX12_press_23 (by decide) ?_
  refine lv_goto (tgt := 28) hx hb dX12_press_24 (by decide) ?_
  exact bX12_press_28 hC  hI hl hf
set_option maxRecDepth 20000 in
set_option maxHeartbeats 4000000 in
theorem bX12_press {st : Nat → Nat} {p : Program} {l : Launch} {e : Env} {s : State} {m : MethodId} {args : Array Value} {below : List Frame} {meth : Method} {c : Code} {D : va_G} {A : Nat → Prop} {ad : Nat → Nat} {cy : Nat → ClassId} (hC : zC p m c cX12_press 3 s args wzX12_press RX12 meth none)  {res : zSt} {H : Heap} {locs : List Loc} {σ : zSt} {ls : Array Slot} {x1 : Int32} {x2 : Int32} (hI : zI st D (tM cy) (wM ad cy σ) A s H locs) (hl : lv_has ls 3 [(0, .ref (ad 0)), (1, .int x1), (2, .int x2)]) (hf : fX12_press  σ x1 x2 = some res) : W p l e rmX12_press s m args below meth c H locs 0 0 (zQu below args s D (tM cy) (wM ad cy) A res) (F0 m 0 ls []) := by
  have hx := hC.1
  have hb := hC.2.1
  unfold fX12_press at hf
  refine lv_aload_n hx hb dX12_press_0 rfl (lv_at hl 0 rfl) ?_
  refine lv_iload_n hx hb dX12_press_1 rfl (lv_at hl 1 rfl) ?_
  refine lv_i2l (v := x1.toInt64) hx hb dX12_press_2 rfl ?_
  refine lv_lconst (v := 0) hx hb dX12_press_3 (by decide) ?_
  refine lv_lconst (v := 1) hx hb dX12_press_4 (by decide) ?_
  obtain ⟨σ4, v5, g4, hf⟩ := zbi_use hf
  refine z_callSi (As := [.long (x1.toInt64), .long 0, .long 1]) (rest := [.ref (ad 0)]) hC hI (cX12_within_met st l D ad cy σ (x1.toInt64) 0 1 _ g4) (zgS zw11_18 zw11_19 zw1_5 zw11_20) rfl ⟨rfl, rfl⟩ 3 hdX12_within ⟨Nat.le_of_ble_eq_true rfl, Nat.le_of_ble_eq_true rfl⟩ rfl hl rfl (Nat.le_of_ble_eq_true rfl) dX12_press_5 ⟨Nat.zero_le _, Nat.zero_le _⟩ (fun H locs hI => ?_)
  refine lv_if_eq (tgt := 23) hx hb dX12_press_8 (by decide) (fun q => ?_) (fun q => ?_)
  · replace hf := zif_t q hf
    exact bX12_press_23 hC  hI hl hf
  replace hf := zif_f q hf
  refine lv_iload_n hx hb dX12_press_11 rfl (lv_at hl 2 rfl) ?_
  refine lv_i2l (v := x2.toInt64) hx hb dX12_press_12 rfl ?_
  refine lv_lconst (v := 0) hx hb dX12_press_13 (by decide) ?_
  refine lv_ldc2 (v := 63) hx hb hC.2.2.2.1 (hC.2.2.2.2.1 _ (List.mem_cons_of_mem _ zw67_18)) dX12_press_14 ?_
  obtain ⟨σ6, v7, g6, hf⟩ := zbi_use hf
  refine z_callSi (As := [.long (x2.toInt64), .long 0, .long 63]) (rest := [.ref (ad 0)]) hC hI (cX12_within_met st l D ad cy σ4 (x2.toInt64) 0 63 _ g6) (zgS zw11_18 zw11_19 zw1_5 zw11_20) rfl ⟨rfl, rfl⟩ 3 hdX12_within ⟨Nat.le_of_ble_eq_true rfl, Nat.le_of_ble_eq_true rfl⟩ rfl hl rfl (Nat.le_of_ble_eq_true rfl) dX12_press_17 ⟨Nat.zero_le _, Nat.zero_le _⟩ (fun H locs hI => ?_)
  refine lv_if_ne (tgt := 27) hx hb dX12_press_20 (by decide) (fun q => ?_) (fun q => ?_)
  · replace hf := zif_f q hf
    refine lv_iconst (v := 0) hx hb dX12_press_27 (by decide) ?_
    exact bX12_press_28 hC  hI hl hf
  replace hf := zif_t q hf
  exact bX12_press_23 hC  hI hl hf
set_option maxRecDepth 20000 in
theorem cX12_press_met (st : Nat → Nat) (l : Launch) (D : va_G) (ad : Nat → Nat) (cy : Nat → ClassId) (σ : zSt) (x1 : Int32) (x2 : Int32) (res : zSt) (hf : fX12_press σ x1 x2 = some res) (sz : Nat) : zMu st l yX12_press wzX12_press rmX12_press [.ref (ad 0), .int x1, .int x2] D (tM cy) (wM ad cy) sz σ res :=
  zMu.of (cc := cX12_press) (maxL := 3) (ret := none) (by decide) rfl (Nat.le_of_ble_eq_true rfl) (fun p e s m args below meth c hC A hI ls hl => bX12_press hC hI hl hf)
theorem hdX12_press : yX12_press.cls = RX12 ∧ yX12_press.cls ≠ "java/lang/invoke/MethodHandle" ∧ yX12_press.cls ≠ "java/lang/invoke/VarHandle" ∧ (parseMethodDescriptor yX12_press.desc).map (fun d => d.parameters.length) = some 2 := by decide +kernel
def rmX12_start : Room := { frames := 0, cells := 0, slots := 0, locals := 0 }
def wzX12_start : List Cond := .code yX12_start cX12_start 2 none :: wsL_law
theorem hinX12_start_X120 : ∀ w ∈ wsX120, w ∈ wzX12_start := fun w h => List.mem_cons_of_mem _ (inlX12 w h)
def fX12_start_20  (σ : zSt) (s0 : Int32) (s1 : Int32) : Option (zSt) :=
  zck (zin s1 1048) (zbv (zsi σ 3 (s1.toNatClampNeg) s0) (fun σ1 =>
  some σ1))
def fX12_start  (σ : zSt) (x1 : Int32) : Option (zSt) :=
  zbv (zsi σ 0 0 0) (fun σ2 =>
  if x1 = 0 then fX12_start_20 σ2 0 44 else
  fX12_start_20 σ2 1 44)
set_option maxRecDepth 20000 in
set_option maxHeartbeats 4000000 in
theorem bX12_start_20 {st : Nat → Nat} {p : Program} {l : Launch} {e : Env} {s : State} {m : MethodId} {args : Array Value} {below : List Frame} {meth : Method} {c : Code} {D : va_G} {A : Nat → Prop} {ad : Nat → Nat} {cy : Nat → ClassId} (hC : zC p m c cX12_start 2 s args wzX12_start RX12 meth none)  {res : zSt} {H : Heap} {locs : List Loc} {σ : zSt} {ls : Array Slot} {s0 : Int32} {s1 : Int32} (hI : zI st D (tM cy) (wM ad cy σ) A s H locs) (hl : lv_has ls 2 []) (hf : fX12_start_20  σ s0 s1 = some res) : W p l e rmX12_start s m args below meth c H locs 0 0 (zQu below args s D (tM cy) (wM ad cy) A res) (F0 m 20 ls [.int s0, .int s1, .ref (ad 3)]) := by
  have hx := hC.1
  have hb := hC.2.1
  unfold fX12_start_20 at hf
  obtain ⟨q, hf⟩ := zck_use hf
  obtain ⟨σ1, eσ1⟩ : ∃ z, z = zsi σ 3 (s1.toNatClampNeg) s0 := ⟨_, rfl⟩
  replace hf := zbv_use eσ1 hf
  refine z_iast hC hI 3 2 (wM_e3 ad cy σ) (tM_t3 cy) q ((wM_s3 ad cy σ _ _).trans (congrArg (wM ad cy) eσ1.symm)) dX12_start_20 (fun H locs hI => ?_)
  exact z_return hC hI hf dX12_start_21
set_option maxRecDepth 20000 in
set_option maxHeartbeats 4000000 in
theorem bX12_start {st : Nat → Nat} {p : Program} {l : Launch} {e : Env} {s : State} {m : MethodId} {args : Array Value} {below : List Frame} {meth : Method} {c : Code} {D : va_G} {A : Nat → Prop} {ad : Nat → Nat} {cy : Nat → ClassId} (hC : zC p m c cX12_start 2 s args wzX12_start RX12 meth none)  {res : zSt} {H : Heap} {locs : List Loc} {σ : zSt} {ls : Array Slot} {x1 : Int32} (hI : zI st D (tM cy) (wM ad cy σ) A s H locs) (hl : lv_has ls 2 [(0, .ref (ad 0)), (1, .int x1)]) (hf : fX12_start  σ x1 = some res) : W p l e rmX12_start s m args below meth c H locs 0 0 (zQu below args s D (tM cy) (wM ad cy) A res) (F0 m 0 ls []) := by
  have hx := hC.1
  have hb := hC.2.1
  unfold fX12_start at hf
  refine lv_aload_n hx hb dX12_start_0 rfl (lv_at hl 0 rfl) ?_
  refine lv_iconst (v := 0) hx hb dX12_start_1 (by decide) ?_
  obtain ⟨σ2, eσ2⟩ : ∃ z, z = zsi σ 0 0 0 := ⟨_, rfl⟩
  replace hf := zbv_use eσ2 hf
  refine z_put hC hI hinX12_start_X120 tyX12_ok nmX12 0 (wM_e0 ad cy σ) rfl 0 (by decide) (List.mem_cons_of_mem _ zw12_1) rfl rfl rfl (Nat.le_of_ble_eq_true rfl) ((wM_s0_0 ad cy σ 0).trans (congrArg (wM ad cy) eσ2.symm)) dX12_start_2 (fun H locs hI => ?_)
  refine lv_aload_n hx hb dX12_start_5 rfl (lv_at hl 0 rfl) ?_
  refine z_get hC hI hinX12_start_X120 0 (wM_e0 ad cy σ2) rfl 10 (by decide) (List.mem_cons_of_mem _ zw9_7) rfl dX12_start_6 ?_
  refine lv_bipush (v := 44) hx hb dX12_start_9 (by decide) ?_
  refine lv_iload_n hx hb dX12_start_11 rfl (lv_at hl 1 rfl) ?_
  refine lv_if_eq (tgt := 19) hx hb dX12_start_12 (by decide) (fun q => ?_) (fun q => ?_)
  · replace hf := zif_t q hf
    refine lv_iconst (v := 0) hx hb dX12_start_19 (by decide) ?_
    exact bX12_start_20 hC  hI (lv_sub hl [] rfl) hf
  replace hf := zif_f q hf
  refine lv_iconst (v := 1) hx hb dX12_start_15 (by decide) ?_
  refine lv_goto (tgt := 20) hx hb dX12_start_16 (by decide) ?_
  exact bX12_start_20 hC  hI (lv_sub hl [] rfl) hf
set_option maxRecDepth 20000 in
theorem cX12_start_met (st : Nat → Nat) (l : Launch) (D : va_G) (ad : Nat → Nat) (cy : Nat → ClassId) (σ : zSt) (x1 : Int32) (res : zSt) (hf : fX12_start σ x1 = some res) (sz : Nat) : zMu st l yX12_start wzX12_start rmX12_start [.ref (ad 0), .int x1] D (tM cy) (wM ad cy) sz σ res :=
  zMu.of (cc := cX12_start) (maxL := 2) (ret := none) (by decide) rfl (Nat.le_of_ble_eq_true rfl) (fun p e s m args below meth c hC A hI ls hl => bX12_start hC hI hl hf)
theorem hdX12_start : yX12_start.cls = RX12 ∧ yX12_start.cls ≠ "java/lang/invoke/MethodHandle" ∧ yX12_start.cls ≠ "java/lang/invoke/VarHandle" ∧ (parseMethodDescriptor yX12_start.desc).map (fun d => d.parameters.length) = some 1 := by decide +kernel
def rmX12_line : Room := { frames := 1, cells := 0, slots := 0, locals := 25 }
def wzX12_line : List Cond := .code yX12_line cX12_line 4 none :: wsL_law
theorem hinX12_line_X120 : ∀ w ∈ wsX120, w ∈ wzX12_line := fun w h => List.mem_cons_of_mem _ (inlX12 w h)
def fX12_line_72  (σ : zSt)  : Option (zSt) :=
  some σ
def fX12_line_47  (σ : zSt) (x1 : Int32) (x3 : Int32) (s0 : Int32) (s1 : Int32) : Option (zSt) :=
  zck (zin s1 1048) (zbv (zsi σ 3 (s1.toNatClampNeg) s0) (fun σ1 =>
  if x3 = 0 then zbi (fX12_lineAt σ1 x1) (fun σ2 v3 =>
  if v3 = 1 then zbi (fX12_hCount σ2 ) (fun σ4 v5 =>
  zck (zin 35 1048) (zbv (zsi σ4 3 ((35 : Int32).toNatClampNeg) v5) (fun σ6 =>
  fX12_line_72 σ6))) else
  fX12_line_72 σ2) else
  fX12_line_72 σ1))
def fX12_line_16  (σ : zSt) (x1 : Int32) (x2 : Int32) (s0 : Int32) : Option (zSt) :=
  zbi (fX12_fails σ s0 1) (fun σ7 v8 =>
  if v8 = 0 then zbi (fX12_lineAt σ7 x1) (fun σ9 v10 =>
  if x2 = 0 then fX12_line_47 σ9 x1 v10 0 (45 + x1) else
  fX12_line_47 σ9 x1 v10 1 (45 + x1)) else
  some σ7)
def fX12_line  (σ : zSt) (x1 : Int32) (x2 : Int32) : Option (zSt) :=
  zbi (fX12_within σ (x1.toInt64) 0 1) (fun σ11 v12 =>
  if v12 = 0 then fX12_line_16 σ11 x1 x2 1 else
  fX12_line_16 σ11 x1 x2 0)
set_option maxRecDepth 20000 in
set_option maxHeartbeats 4000000 in
theorem bX12_line_72 {st : Nat → Nat} {p : Program} {l : Launch} {e : Env} {s : State} {m : MethodId} {args : Array Value} {below : List Frame} {meth : Method} {c : Code} {D : va_G} {A : Nat → Prop} {ad : Nat → Nat} {cy : Nat → ClassId} (hC : zC p m c cX12_line 4 s args wzX12_line RX12 meth none)  {res : zSt} {H : Heap} {locs : List Loc} {σ : zSt} {ls : Array Slot}  (hI : zI st D (tM cy) (wM ad cy σ) A s H locs) (hl : lv_has ls 4 []) (hf : fX12_line_72  σ  = some res) : W p l e rmX12_line s m args below meth c H locs 0 0 (zQu below args s D (tM cy) (wM ad cy) A res) (F0 m 72 ls []) := by
  have hx := hC.1
  have hb := hC.2.1
  unfold fX12_line_72 at hf
  exact z_return hC hI hf dX12_line_72
set_option maxRecDepth 20000 in
set_option maxHeartbeats 4000000 in
theorem bX12_line_47 {st : Nat → Nat} {p : Program} {l : Launch} {e : Env} {s : State} {m : MethodId} {args : Array Value} {below : List Frame} {meth : Method} {c : Code} {D : va_G} {A : Nat → Prop} {ad : Nat → Nat} {cy : Nat → ClassId} (hC : zC p m c cX12_line 4 s args wzX12_line RX12 meth none)  {res : zSt} {H : Heap} {locs : List Loc} {σ : zSt} {ls : Array Slot} {x1 : Int32} {x3 : Int32} {s0 : Int32} {s1 : Int32} (hI : zI st D (tM cy) (wM ad cy σ) A s H locs) (hl : lv_has ls 4 [(0, .ref (ad 0)), (1, .int x1), (3, .int x3)]) (hf : fX12_line_47  σ x1 x3 s0 s1 = some res) : W p l e rmX12_line s m args below meth c H locs 0 0 (zQu below args s D (tM cy) (wM ad cy) A res) (F0 m 47 ls [.int s0, .int s1, .ref (ad 3)]) := by
  have hx := hC.1
  have hb := hC.2.1
  unfold fX12_line_47 at hf
  obtain ⟨q, hf⟩ := zck_use hf
  obtain ⟨σ1, eσ1⟩ : ∃ z, z = zsi σ 3 (s1.toNatClampNeg) s0 := ⟨_, rfl⟩
  replace hf := zbv_use eσ1 hf
  refine z_iast hC hI 3 2 (wM_e3 ad cy σ) (tM_t3 cy) q ((wM_s3 ad cy σ _ _).trans (congrArg (wM ad cy) eσ1.symm)) dX12_line_47 (fun H locs hI => ?_)
  refine lv_iload_n hx hb dX12_line_48 rfl (lv_at hl 2 rfl) ?_
  refine lv_if_ne (tgt := 72) hx hb dX12_line_49 (by decide) (fun q => ?_) (fun q => ?_)
  · replace hf := zif_f q hf
    exact bX12_line_72 hC  hI (lv_sub hl [] rfl) hf
  replace hf := zif_t q hf
  refine lv_aload_n hx hb dX12_line_52 rfl (lv_at hl 0 rfl) ?_
  refine lv_iload_n hx hb dX12_line_53 rfl (lv_at hl 1 rfl) ?_
  obtain ⟨σ2, v3, g2, hf⟩ := zbi_use hf
  refine z_callVi (As := [.int x1]) (rest := []) hC hI (cX12_lineAt_met st l D ad cy σ1 x1 _ g2) (zgV zw55_14 zw55_15 zw55_16 zw1_5 zw55_17) rfl ⟨rfl, rfl⟩ 1 hdX12_lineAt ⟨Nat.le_of_ble_eq_true rfl, Nat.le_of_ble_eq_true rfl⟩ rfl rfl (wM_e0 ad cy σ1) rfl hl rfl (Nat.le_of_ble_eq_true rfl) dX12_line_54 ⟨Nat.zero_le _, Nat.zero_le _⟩ (fun H locs hI => ?_)
  refine lv_iconst (v := 1) hx hb dX12_line_57 (by decide) ?_
  refine lv_icmp_ne (tgt := 72) hx hb dX12_line_58 (by decide) (fun q => ?_) (fun q => ?_)
  · replace hf := zif_f q hf
    exact bX12_line_72 hC  hI (lv_sub hl [] rfl) hf
  replace hf := zif_t q hf
  refine lv_aload_n hx hb dX12_line_61 rfl (lv_at hl 0 rfl) ?_
  refine z_get hC hI hinX12_line_X120 0 (wM_e0 ad cy σ2) rfl 10 (by decide) (List.mem_cons_of_mem _ zw9_7) rfl dX12_line_62 ?_
  refine lv_bipush (v := 35) hx hb dX12_line_65 (by decide) ?_
  refine lv_aload_n hx hb dX12_line_67 rfl (lv_at hl 0 rfl) ?_
  obtain ⟨σ4, v5, g4, hf⟩ := zbi_use hf
  refine z_callVi (As := []) (rest := [.int 35, .ref (ad 3)]) hC hI (cX12_hCount_met st l D ad cy σ2  _ g4) (zgV zw55_18 zw55_19 zw55_20 zw1_5 zw55_21) rfl ⟨rfl, rfl⟩ 0 hdX12_hCount ⟨Nat.le_of_ble_eq_true rfl, Nat.le_of_ble_eq_true rfl⟩ rfl rfl (wM_e0 ad cy σ2) rfl hl rfl (Nat.le_of_ble_eq_true rfl) dX12_line_68 ⟨Nat.zero_le _, Nat.zero_le _⟩ (fun H locs hI => ?_)
  obtain ⟨q, hf⟩ := zck_use hf
  obtain ⟨σ6, eσ6⟩ : ∃ z, z = zsi σ4 3 ((35 : Int32).toNatClampNeg) v5 := ⟨_, rfl⟩
  replace hf := zbv_use eσ6 hf
  refine z_iast hC hI 3 2 (wM_e3 ad cy σ4) (tM_t3 cy) q ((wM_s3 ad cy σ4 _ _).trans (congrArg (wM ad cy) eσ6.symm)) dX12_line_71 (fun H locs hI => ?_)
  exact bX12_line_72 hC  hI (lv_sub hl [] rfl) hf
set_option maxRecDepth 20000 in
set_option maxHeartbeats 4000000 in
theorem bX12_line_16 {st : Nat → Nat} {p : Program} {l : Launch} {e : Env} {s : State} {m : MethodId} {args : Array Value} {below : List Frame} {meth : Method} {c : Code} {D : va_G} {A : Nat → Prop} {ad : Nat → Nat} {cy : Nat → ClassId} (hC : zC p m c cX12_line 4 s args wzX12_line RX12 meth none)  {res : zSt} {H : Heap} {locs : List Loc} {σ : zSt} {ls : Array Slot} {x1 : Int32} {x2 : Int32} {s0 : Int32} (hI : zI st D (tM cy) (wM ad cy σ) A s H locs) (hl : lv_has ls 4 [(0, .ref (ad 0)), (1, .int x1), (2, .int x2)]) (hf : fX12_line_16  σ x1 x2 s0 = some res) : W p l e rmX12_line s m args below meth c H locs 0 0 (zQu below args s D (tM cy) (wM ad cy) A res) (F0 m 16 ls [.int s0, .ref (ad 0)]) := by
  have hx := hC.1
  have hb := hC.2.1
  unfold fX12_line_16 at hf
  refine lv_iconst (v := 1) hx hb dX12_line_16 (by decide) ?_
  obtain ⟨σ7, v8, g7, hf⟩ := zbi_use hf
  refine z_callVi (As := [.int s0, .int 1]) (rest := []) hC hI (cX12_fails_met st l D ad cy σ s0 1 _ g7) (zgV zw11_21 zw11_22 zw11_23 zw1_5 zw12_0) rfl ⟨rfl, rfl⟩ 2 hdX12_fails ⟨Nat.le_of_ble_eq_true rfl, Nat.le_of_ble_eq_true rfl⟩ rfl rfl (wM_e0 ad cy σ) rfl hl rfl (Nat.le_of_ble_eq_true rfl) dX12_line_17 ⟨Nat.zero_le _, Nat.zero_le _⟩ (fun H locs hI => ?_)
  refine lv_if_eq (tgt := 24) hx hb dX12_line_20 (by decide) (fun q => ?_) (fun q => ?_)
  · replace hf := zif_t q hf
    refine lv_aload_n hx hb dX12_line_24 rfl (lv_at hl 0 rfl) ?_
    refine lv_iload_n hx hb dX12_line_25 rfl (lv_at hl 1 rfl) ?_
    obtain ⟨σ9, v10, g9, hf⟩ := zbi_use hf
    refine z_callVi (As := [.int x1]) (rest := []) hC hI (cX12_lineAt_met st l D ad cy σ7 x1 _ g9) (zgV zw55_14 zw55_15 zw55_16 zw1_5 zw55_17) rfl ⟨rfl, rfl⟩ 1 hdX12_lineAt ⟨Nat.le_of_ble_eq_true rfl, Nat.le_of_ble_eq_true rfl⟩ rfl rfl (wM_e0 ad cy σ7) rfl hl rfl (Nat.le_of_ble_eq_true rfl) dX12_line_26 ⟨Nat.zero_le _, Nat.zero_le _⟩ (fun H locs hI => ?_)
    refine lv_istore_n (lv' := [(3, .int v10), (0, .ref (ad 0)), (1, .int x1), (2, .int x2)]) hx hb dX12_line_29 rfl hl (by decide) rfl (fun ls hl => ?_)
    refine lv_aload_n hx hb dX12_line_30 rfl (lv_at hl 1 rfl) ?_
    refine z_get hC hI hinX12_line_X120 0 (wM_e0 ad cy σ9) rfl 10 (by decide) (List.mem_cons_of_mem _ zw9_7) rfl dX12_line_31 ?_
    refine lv_bipush (v := 45) hx hb dX12_line_34 (by decide) ?_
    refine lv_iload_n hx hb dX12_line_36 rfl (lv_at hl 2 rfl) ?_
    refine lv_iadd hx hb dX12_line_37 ?_
    refine lv_iload_n hx hb dX12_line_38 rfl (lv_at hl 3 rfl) ?_
    refine lv_if_eq (tgt := 46) hx hb dX12_line_39 (by decide) (fun q => ?_) (fun q => ?_)
    · replace hf := zif_t q hf
      refine lv_iconst (v := 0) hx hb dX12_line_46 (by decide) ?_
      exact bX12_line_47 hC  hI (lv_sub hl [1, 2, 0] rfl) hf
    replace hf := zif_f q hf
    refine lv_iconst (v := 1) hx hb dX12_line_42 (by decide) ?_
    refine lv_goto (tgt := 47) hx hb dX12_line_43 (by decide) ?_
    exact bX12_line_47 hC  hI (lv_sub hl [1, 2, 0] rfl) hf
  replace hf := zif_f q hf
  exact z_return hC hI hf dX12_line_23
set_option maxRecDepth 20000 in
set_option maxHeartbeats 4000000 in
theorem bX12_line {st : Nat → Nat} {p : Program} {l : Launch} {e : Env} {s : State} {m : MethodId} {args : Array Value} {below : List Frame} {meth : Method} {c : Code} {D : va_G} {A : Nat → Prop} {ad : Nat → Nat} {cy : Nat → ClassId} (hC : zC p m c cX12_line 4 s args wzX12_line RX12 meth none)  {res : zSt} {H : Heap} {locs : List Loc} {σ : zSt} {ls : Array Slot} {x1 : Int32} {x2 : Int32} (hI : zI st D (tM cy) (wM ad cy σ) A s H locs) (hl : lv_has ls 4 [(0, .ref (ad 0)), (1, .int x1), (2, .int x2)]) (hf : fX12_line  σ x1 x2 = some res) : W p l e rmX12_line s m args below meth c H locs 0 0 (zQu below args s D (tM cy) (wM ad cy) A res) (F0 m 0 ls []) := by
  have hx := hC.1
  have hb := hC.2.1
  unfold fX12_line at hf
  refine lv_aload_n hx hb dX12_line_0 rfl (lv_at hl 0 rfl) ?_
  refine lv_iload_n hx hb dX12_line_1 rfl (lv_at hl 1 rfl) ?_
  refine lv_i2l (v := x1.toInt64) hx hb dX12_line_2 rfl ?_
  refine lv_lconst (v := 0) hx hb dX12_line_3 (by decide) ?_
  refine lv_lconst (v := 1) hx hb dX12_line_4 (by decide) ?_
  obtain ⟨σ11, v12, g11, hf⟩ := zbi_use hf
  refine z_callSi (As := [.long (x1.toInt64), .long 0, .long 1]) (rest := [.ref (ad 0)]) hC hI (cX12_within_met st l D ad cy σ (x1.toInt64) 0 1 _ g11) (zgS zw11_18 zw11_19 zw1_5 zw11_20) rfl ⟨rfl, rfl⟩ 3 hdX12_within ⟨Nat.le_of_ble_eq_true rfl, Nat.le_of_ble_eq_true rfl⟩ rfl hl rfl (Nat.le_of_ble_eq_true rfl) dX12_line_5 ⟨Nat.zero_le _, Nat.zero_le _⟩ (fun H locs hI => ?_)
  refine lv_if_ne (tgt := 15) hx hb dX12_line_8 (by decide) (fun q => ?_) (fun q => ?_)
  · replace hf := zif_f q hf
    refine lv_iconst (v := 0) hx hb dX12_line_15 (by decide) ?_
    exact bX12_line_16 hC  hI hl hf
  replace hf := zif_t q hf
  refine lv_iconst (v := 1) hx hb dX12_line_11 (by decide) ?_
  refine lv_goto (tgt := 16) hx hb dX12_line_12 (by decide) ?_
  exact bX12_line_16 hC  hI hl hf
set_option maxRecDepth 20000 in
theorem cX12_line_met (st : Nat → Nat) (l : Launch) (D : va_G) (ad : Nat → Nat) (cy : Nat → ClassId) (σ : zSt) (x1 : Int32) (x2 : Int32) (res : zSt) (hf : fX12_line σ x1 x2 = some res) (sz : Nat) : zMu st l yX12_line wzX12_line rmX12_line [.ref (ad 0), .int x1, .int x2] D (tM cy) (wM ad cy) sz σ res :=
  zMu.of (cc := cX12_line) (maxL := 4) (ret := none) (by decide) rfl (Nat.le_of_ble_eq_true rfl) (fun p e s m args below meth c hC A hI ls hl => bX12_line hC hI hl hf)
theorem hdX12_line : yX12_line.cls = RX12 ∧ yX12_line.cls ≠ "java/lang/invoke/MethodHandle" ∧ yX12_line.cls ≠ "java/lang/invoke/VarHandle" ∧ (parseMethodDescriptor yX12_line.desc).map (fun d => d.parameters.length) = some 2 := by decide +kernel
def rmX12_stop : Room := { frames := 1, cells := 0, slots := 0, locals := 25 }
def wzX12_stop : List Cond := .code yX12_stop cX12_stop 5 (some .int) :: wsL_law
theorem hinX12_stop_X120 : ∀ w ∈ wsX120, w ∈ wzX12_stop := fun w h => List.mem_cons_of_mem _ (inlX12 w h)
def fX12_stop_64  (σ : zSt)  : Option (zSt × Int32) :=
  some (σ, 0)
def fX12_stop_168  (σ : zSt)  : Option (zSt × Int32) :=
  zck (zin 89 1048) (
  some (σ, zgi σ 3 (89 : Int32).toNatClampNeg))
def fX12_stop_112_body (k112 : zSt → Int32 → Int32 → Option (zSt × Int32)) (σ : zSt) (x1 : Int32) (x4 : Int32) : Option (zSt × Int32) :=
  zck (zin (89 + x4) 1048) (
  if (zgi σ 3 (89 + x4).toNatClampNeg) = x1 then zck (zin 89 1048) (
  zck (zin (89 + (zgi σ 3 (89 : Int32).toNatClampNeg)) 1048) (
  zck (zin (89 + x4) 1048) (zbv (zsi σ 3 ((89 + x4).toNatClampNeg) (zgi σ 3 (89 + (zgi σ 3 (89 : Int32).toNatClampNeg)).toNatClampNeg)) (fun σ1 =>
  zck (zin 89 1048) (
  zck (zin 89 1048) (zbv (zsi σ1 3 ((89 : Int32).toNatClampNeg) ((zgi σ1 3 (89 : Int32).toNatClampNeg) - 1)) (fun σ2 =>
  fX12_stop_168 σ2))))))) else
  zbv (x4 + 1) (fun v3 =>
  k112 σ x1 v3))
def fX12_stop_112  : Nat → zSt → Int32 → Int32 → Option (zSt × Int32)
  | 0, _, _, _ => none
  | n + 1, σ, x1, x4 => fX12_stop_112_body (fX12_stop_112  n) σ x1 x4
def fX12_stop_101  (σ : zSt) (x1 : Int32) (x2 : Int32) (x3 : Int32) : Option (zSt × Int32) :=
  if x2 = 0 then if x3 = 0 then fX12_stop_168 σ else
  fX12_stop_112 zfuel σ x1 1 else
  fX12_stop_168 σ
def fX12_stop_57  (σ : zSt) (x1 : Int32) (x2 : Int32) (x3 : Int32) (s0 : Int32) : Option (zSt × Int32) :=
  zbi (fX12_fails σ s0 2) (fun σ4 v5 =>
  if v5 = 0 then if x2 = 0 then fX12_stop_101 σ4 x1 x2 x3 else
  if x3 = 0 then zck (zin 89 1048) (
  zck (zin 89 1048) (zbv (zsi σ4 3 ((89 : Int32).toNatClampNeg) ((zgi σ4 3 (89 : Int32).toNatClampNeg) + 1)) (fun σ6 =>
  zck (zin 89 1048) (
  zck (zin (89 + (zgi σ6 3 (89 : Int32).toNatClampNeg)) 1048) (zbv (zsi σ6 3 ((89 + (zgi σ6 3 (89 : Int32).toNatClampNeg)).toNatClampNeg) x1) (fun σ7 =>
  fX12_stop_101 σ7 x1 x2 x3)))))) else
  fX12_stop_101 σ4 x1 x2 x3 else
  fX12_stop_64 σ4)
def fX12_stop_56  (σ : zSt) (x1 : Int32) (x2 : Int32) (x3 : Int32) : Option (zSt × Int32) :=
  fX12_stop_57 σ x1 x2 x3 0
def fX12_stop_24  (σ : zSt) (x1 : Int32) (x2 : Int32) (x3 : Int32) (s0 : Int32) : Option (zSt × Int32) :=
  zbi (fX12_fails σ s0 1) (fun σ8 v9 =>
  if v9 = 0 then if x2 = 0 then fX12_stop_56 σ8 x1 x2 x3 else
  if x3 = 0 then zck (zin 89 1048) (
  if (zgi σ8 3 (89 : Int32).toNatClampNeg) = 8 then fX12_stop_57 σ8 x1 x2 x3 1 else
  fX12_stop_56 σ8 x1 x2 x3) else
  fX12_stop_56 σ8 x1 x2 x3 else
  fX12_stop_64 σ8)
def fX12_stop  (σ : zSt) (x1 : Int32) (x2 : Int32) : Option (zSt × Int32) :=
  zbi (fX12_isStop σ x1) (fun σ10 v11 =>
  zbi (fX12_within σ10 (x1.toInt64) 0 65535) (fun σ12 v13 =>
  if v13 = 0 then fX12_stop_24 σ12 x1 x2 v11 1 else
  fX12_stop_24 σ12 x1 x2 v11 0))
set_option maxRecDepth 20000 in
set_option maxHeartbeats 4000000 in
theorem bX12_stop_64 {st : Nat → Nat} {p : Program} {l : Launch} {e : Env} {s : State} {m : MethodId} {args : Array Value} {below : List Frame} {meth : Method} {c : Code} {D : va_G} {A : Nat → Prop} {ad : Nat → Nat} {cy : Nat → ClassId} (hC : zC p m c cX12_stop 5 s args wzX12_stop RX12 meth (some .int))  {res : zSt × Int32} {H : Heap} {locs : List Loc} {σ : zSt} {ls : Array Slot}  (hI : zI st D (tM cy) (wM ad cy σ) A s H locs) (hl : lv_has ls 5 []) (hf : fX12_stop_64  σ  = some res) : W p l e rmX12_stop s m args below meth c H locs 0 0 (zQi below args s D (tM cy) (wM ad cy) A res) (F0 m 64 ls []) := by
  have hx := hC.1
  have hb := hC.2.1
  unfold fX12_stop_64 at hf
  refine lv_iconst (v := 0) hx hb dX12_stop_64 (by decide) ?_
  exact z_ireturn hC hI hf dX12_stop_65
set_option maxRecDepth 20000 in
set_option maxHeartbeats 4000000 in
theorem bX12_stop_168 {st : Nat → Nat} {p : Program} {l : Launch} {e : Env} {s : State} {m : MethodId} {args : Array Value} {below : List Frame} {meth : Method} {c : Code} {D : va_G} {A : Nat → Prop} {ad : Nat → Nat} {cy : Nat → ClassId} (hC : zC p m c cX12_stop 5 s args wzX12_stop RX12 meth (some .int))  {res : zSt × Int32} {H : Heap} {locs : List Loc} {σ : zSt} {ls : Array Slot}  (hI : zI st D (tM cy) (wM ad cy σ) A s H locs) (hl : lv_has ls 5 [(0, .ref (ad 0))]) (hf : fX12_stop_168  σ  = some res) : W p l e rmX12_stop s m args below meth c H locs 0 0 (zQi below args s D (tM cy) (wM ad cy) A res) (F0 m 168 ls []) := by
  have hx := hC.1
  have hb := hC.2.1
  unfold fX12_stop_168 at hf
  refine lv_aload_n hx hb dX12_stop_168 rfl (lv_at hl 0 rfl) ?_
  refine z_get hC hI hinX12_stop_X120 0 (wM_e0 ad cy σ) rfl 10 (by decide) (List.mem_cons_of_mem _ zw9_7) rfl dX12_stop_169 ?_
  refine lv_bipush (v := 89) hx hb dX12_stop_172 (by decide) ?_
  obtain ⟨q, hf⟩ := zck_use hf
  refine z_iald hC hI 3 2 (wM_e3 ad cy σ) (tM_t3 cy) q dX12_stop_174 ?_
  exact z_ireturn hC hI hf dX12_stop_175
set_option maxRecDepth 20000 in
set_option maxHeartbeats 4000000 in
theorem bX12_stop_112_body {st : Nat → Nat} {p : Program} {l : Launch} {e : Env} {s : State} {m : MethodId} {args : Array Value} {below : List Frame} {meth : Method} {c : Code} {D : va_G} {A : Nat → Prop} {ad : Nat → Nat} {cy : Nat → ClassId} (hC : zC p m c cX12_stop 5 s args wzX12_stop RX12 meth (some .int)) {k112 : zSt → Int32 → Int32 → Option (zSt × Int32)} {res : zSt × Int32} (hk112 : ∀ (H : Heap) (locs : List Loc) (σ : zSt) (ls : Array Slot) (x1 : Int32) (x4 : Int32), zI st D (tM cy) (wM ad cy σ) A s H locs → lv_has ls 5 [(0, .ref (ad 0)), (1, .int x1), (4, .int x4)] → k112 σ x1 x4 = some res → W p l e rmX12_stop s m args below meth c H locs 0 0 (zQi below args s D (tM cy) (wM ad cy) A res) (F0 m 112 ls [])) {H : Heap} {locs : List Loc} {σ : zSt} {ls : Array Slot} {x1 : Int32} {x4 : Int32} (hI : zI st D (tM cy) (wM ad cy σ) A s H locs) (hl : lv_has ls 5 [(0, .ref (ad 0)), (1, .int x1), (4, .int x4)]) (hf : fX12_stop_112_body k112 σ x1 x4 = some res) : W p l e rmX12_stop s m args below meth c H locs 0 0 (zQi below args s D (tM cy) (wM ad cy) A res) (F0 m 112 ls []) := by
  have hx := hC.1
  have hb := hC.2.1
  unfold fX12_stop_112_body at hf
  refine lv_aload_n hx hb dX12_stop_112 rfl (lv_at hl 0 rfl) ?_
  refine z_get hC hI hinX12_stop_X120 0 (wM_e0 ad cy σ) rfl 10 (by decide) (List.mem_cons_of_mem _ zw9_7) rfl dX12_stop_113 ?_
  refine lv_bipush (v := 89) hx hb dX12_stop_116 (by decide) ?_
  refine lv_iload hx hb dX12_stop_118 (lv_at hl 2 rfl) ?_
  refine lv_iadd hx hb dX12_stop_120 ?_
  obtain ⟨q, hf⟩ := zck_use hf
  refine z_iald hC hI 3 2 (wM_e3 ad cy σ) (tM_t3 cy) q dX12_stop_121 ?_
  refine lv_iload_n hx hb dX12_stop_122 rfl (lv_at hl 1 rfl) ?_
  refine lv_icmp_eq (tgt := 132) hx hb dX12_stop_123 (by decide) (fun q => ?_) (fun q => ?_)
  · replace hf := zif_t q hf
    refine lv_aload_n hx hb dX12_stop_132 rfl (lv_at hl 0 rfl) ?_
    refine z_get hC hI hinX12_stop_X120 0 (wM_e0 ad cy σ) rfl 10 (by decide) (List.mem_cons_of_mem _ zw9_7) rfl dX12_stop_133 ?_
    refine lv_bipush (v := 89) hx hb dX12_stop_136 (by decide) ?_
    refine lv_iload hx hb dX12_stop_138 (lv_at hl 2 rfl) ?_
    refine lv_iadd hx hb dX12_stop_140 ?_
    refine lv_aload_n hx hb dX12_stop_141 rfl (lv_at hl 0 rfl) ?_
    refine z_get hC hI hinX12_stop_X120 0 (wM_e0 ad cy σ) rfl 10 (by decide) (List.mem_cons_of_mem _ zw9_7) rfl dX12_stop_142 ?_
    refine lv_bipush (v := 89) hx hb dX12_stop_145 (by decide) ?_
    refine lv_aload_n hx hb dX12_stop_147 rfl (lv_at hl 0 rfl) ?_
    refine z_get hC hI hinX12_stop_X120 0 (wM_e0 ad cy σ) rfl 10 (by decide) (List.mem_cons_of_mem _ zw9_7) rfl dX12_stop_148 ?_
    refine lv_bipush (v := 89) hx hb dX12_stop_151 (by decide) ?_
    obtain ⟨q, hf⟩ := zck_use hf
    refine z_iald hC hI 3 2 (wM_e3 ad cy σ) (tM_t3 cy) q dX12_stop_153 ?_
    refine lv_iadd hx hb dX12_stop_154 ?_
    obtain ⟨q, hf⟩ := zck_use hf
    refine z_iald hC hI 3 2 (wM_e3 ad cy σ) (tM_t3 cy) q dX12_stop_155 ?_
    obtain ⟨q, hf⟩ := zck_use hf
    obtain ⟨σ1, eσ1⟩ : ∃ z, z = zsi σ 3 ((89 + x4).toNatClampNeg) (zgi σ 3 (89 + (zgi σ 3 (89 : Int32).toNatClampNeg)).toNatClampNeg) := ⟨_, rfl⟩
    replace hf := zbv_use eσ1 hf
    refine z_iast hC hI 3 2 (wM_e3 ad cy σ) (tM_t3 cy) q ((wM_s3 ad cy σ _ _).trans (congrArg (wM ad cy) eσ1.symm)) dX12_stop_156 (fun H locs hI => ?_)
    refine lv_aload_n hx hb dX12_stop_157 rfl (lv_at hl 0 rfl) ?_
    refine z_get hC hI hinX12_stop_X120 0 (wM_e0 ad cy σ1) rfl 10 (by decide) (List.mem_cons_of_mem _ zw9_7) rfl dX12_stop_158 ?_
    refine lv_bipush (v := 89) hx hb dX12_stop_161 (by decide) ?_
    refine lv_dup2_11 hx hb dX12_stop_163 rfl rfl ?_
    obtain ⟨q, hf⟩ := zck_use hf
    refine z_iald hC hI 3 2 (wM_e3 ad cy σ1) (tM_t3 cy) q dX12_stop_164 ?_
    refine lv_iconst (v := 1) hx hb dX12_stop_165 (by decide) ?_
    refine lv_isub hx hb dX12_stop_166 ?_
    obtain ⟨q, hf⟩ := zck_use hf
    obtain ⟨σ2, eσ2⟩ : ∃ z, z = zsi σ1 3 ((89 : Int32).toNatClampNeg) ((zgi σ1 3 (89 : Int32).toNatClampNeg) - 1) := ⟨_, rfl⟩
    replace hf := zbv_use eσ2 hf
    refine z_iast hC hI 3 2 (wM_e3 ad cy σ1) (tM_t3 cy) q ((wM_s3 ad cy σ1 _ _).trans (congrArg (wM ad cy) eσ2.symm)) dX12_stop_167 (fun H locs hI => ?_)
    exact bX12_stop_168 hC  hI (lv_sub hl [0] rfl) hf
  replace hf := zif_f q hf
  obtain ⟨v3, ev3⟩ : ∃ z : Int32, z = x4 + 1 := ⟨_, rfl⟩
  replace hf := zbv_use ev3 hf
  refine lv_iinc (v := v3) (lv' := [(4, .int v3), (0, .ref (ad 0)), (1, .int x1)]) hx hb dX12_stop_126 hl (k := 2) rfl (by rw [ev3]; rfl) (by decide) rfl (fun ls hl => ?_)
  refine lv_goto (tgt := 112) hx hb dX12_stop_129 (by decide) ?_
  exact hk112 _ _ _ _ _ _ hI (lv_sub hl [1, 2, 0] rfl) hf
theorem blX12_stop_112 {st : Nat → Nat} {p : Program} {l : Launch} {e : Env} {s : State} {m : MethodId} {args : Array Value} {below : List Frame} {meth : Method} {c : Code} {D : va_G} {A : Nat → Prop} {ad : Nat → Nat} {cy : Nat → ClassId} (hC : zC p m c cX12_stop 5 s args wzX12_stop RX12 meth (some .int))  {res : zSt × Int32} : ∀ (n : Nat) (H : Heap) (locs : List Loc) (σ : zSt) (ls : Array Slot) (x1 : Int32) (x4 : Int32), zI st D (tM cy) (wM ad cy σ) A s H locs → lv_has ls 5 [(0, .ref (ad 0)), (1, .int x1), (4, .int x4)] → fX12_stop_112  n σ x1 x4 = some res → W p l e rmX12_stop s m args below meth c H locs 0 0 (zQi below args s D (tM cy) (wM ad cy) A res) (F0 m 112 ls []) := by
  intro n
  induction n with
  | zero => intro H locs σ ls x1 x4 hI hl hf; cases hf
  | succ n ih => intro H locs σ ls x1 x4 hI hl hf; exact bX12_stop_112_body hC ih hI hl hf
set_option maxRecDepth 20000 in
set_option maxHeartbeats 4000000 in
theorem bX12_stop_101 {st : Nat → Nat} {p : Program} {l : Launch} {e : Env} {s : State} {m : MethodId} {args : Array Value} {below : List Frame} {meth : Method} {c : Code} {D : va_G} {A : Nat → Prop} {ad : Nat → Nat} {cy : Nat → ClassId} (hC : zC p m c cX12_stop 5 s args wzX12_stop RX12 meth (some .int))  {res : zSt × Int32} {H : Heap} {locs : List Loc} {σ : zSt} {ls : Array Slot} {x1 : Int32} {x2 : Int32} {x3 : Int32} (hI : zI st D (tM cy) (wM ad cy σ) A s H locs) (hl : lv_has ls 5 [(0, .ref (ad 0)), (1, .int x1), (2, .int x2), (3, .int x3)]) (hf : fX12_stop_101  σ x1 x2 x3 = some res) : W p l e rmX12_stop s m args below meth c H locs 0 0 (zQi below args s D (tM cy) (wM ad cy) A res) (F0 m 101 ls []) := by
  have hx := hC.1
  have hb := hC.2.1
  unfold fX12_stop_101 at hf
  refine lv_iload_n hx hb dX12_stop_101 rfl (lv_at hl 2 rfl) ?_
  refine lv_if_ne (tgt := 168) hx hb dX12_stop_102 (by decide) (fun q => ?_) (fun q => ?_)
  · replace hf := zif_f q hf
    exact bX12_stop_168 hC  hI (lv_sub hl [0] rfl) hf
  replace hf := zif_t q hf
  refine lv_iload_n hx hb dX12_stop_105 rfl (lv_at hl 3 rfl) ?_
  refine lv_if_eq (tgt := 168) hx hb dX12_stop_106 (by decide) (fun q => ?_) (fun q => ?_)
  · replace hf := zif_t q hf
    exact bX12_stop_168 hC  hI (lv_sub hl [0] rfl) hf
  replace hf := zif_f q hf
  refine lv_iconst (v := 1) hx hb dX12_stop_109 (by decide) ?_
  refine lv_istore (lv' := [(4, .int 1), (0, .ref (ad 0)), (1, .int x1), (2, .int x2), (3, .int x3)]) hx hb dX12_stop_110 hl (by decide) rfl (fun ls hl => ?_)
  exact blX12_stop_112 hC  zfuel _ _ _ _ _ _ hI (lv_sub hl [1, 2, 0] rfl) hf
set_option maxRecDepth 20000 in
set_option maxHeartbeats 4000000 in
theorem bX12_stop_57 {st : Nat → Nat} {p : Program} {l : Launch} {e : Env} {s : State} {m : MethodId} {args : Array Value} {below : List Frame} {meth : Method} {c : Code} {D : va_G} {A : Nat → Prop} {ad : Nat → Nat} {cy : Nat → ClassId} (hC : zC p m c cX12_stop 5 s args wzX12_stop RX12 meth (some .int))  {res : zSt × Int32} {H : Heap} {locs : List Loc} {σ : zSt} {ls : Array Slot} {x1 : Int32} {x2 : Int32} {x3 : Int32} {s0 : Int32} (hI : zI st D (tM cy) (wM ad cy σ) A s H locs) (hl : lv_has ls 5 [(0, .ref (ad 0)), (1, .int x1), (2, .int x2), (3, .int x3)]) (hf : fX12_stop_57  σ x1 x2 x3 s0 = some res) : W p l e rmX12_stop s m args below meth c H locs 0 0 (zQi below args s D (tM cy) (wM ad cy) A res) (F0 m 57 ls [.int s0, .ref (ad 0)]) := by
  have hx := hC.1
  have hb := hC.2.1
  unfold fX12_stop_57 at hf
  refine lv_iconst (v := 2) hx hb dX12_stop_57 (by decide) ?_
  obtain ⟨σ4, v5, g4, hf⟩ := zbi_use hf
  refine z_callVi (As := [.int s0, .int 2]) (rest := []) hC hI (cX12_fails_met st l D ad cy σ s0 2 _ g4) (zgV zw11_21 zw11_22 zw11_23 zw1_5 zw12_0) rfl ⟨rfl, rfl⟩ 2 hdX12_fails ⟨Nat.le_of_ble_eq_true rfl, Nat.le_of_ble_eq_true rfl⟩ rfl rfl (wM_e0 ad cy σ) rfl hl rfl (Nat.le_of_ble_eq_true rfl) dX12_stop_58 ⟨Nat.zero_le _, Nat.zero_le _⟩ (fun H locs hI => ?_)
  refine lv_if_eq (tgt := 66) hx hb dX12_stop_61 (by decide) (fun q => ?_) (fun q => ?_)
  · replace hf := zif_t q hf
    refine lv_iload_n hx hb dX12_stop_66 rfl (lv_at hl 2 rfl) ?_
    refine lv_if_eq (tgt := 101) hx hb dX12_stop_67 (by decide) (fun q => ?_) (fun q => ?_)
    · replace hf := zif_t q hf
      exact bX12_stop_101 hC  hI hl hf
    replace hf := zif_f q hf
    refine lv_iload_n hx hb dX12_stop_70 rfl (lv_at hl 3 rfl) ?_
    refine lv_if_ne (tgt := 101) hx hb dX12_stop_71 (by decide) (fun q => ?_) (fun q => ?_)
    · replace hf := zif_f q hf
      exact bX12_stop_101 hC  hI hl hf
    replace hf := zif_t q hf
    refine lv_aload_n hx hb dX12_stop_74 rfl (lv_at hl 0 rfl) ?_
    refine z_get hC hI hinX12_stop_X120 0 (wM_e0 ad cy σ4) rfl 10 (by decide) (List.mem_cons_of_mem _ zw9_7) rfl dX12_stop_75 ?_
    refine lv_bipush (v := 89) hx hb dX12_stop_78 (by decide) ?_
    refine lv_dup2_11 hx hb dX12_stop_80 rfl rfl ?_
    obtain ⟨q, hf⟩ := zck_use hf
    refine z_iald hC hI 3 2 (wM_e3 ad cy σ4) (tM_t3 cy) q dX12_stop_81 ?_
    refine lv_iconst (v := 1) hx hb dX12_stop_82 (by decide) ?_
    refine lv_iadd hx hb dX12_stop_83 ?_
    obtain ⟨q, hf⟩ := zck_use hf
    obtain ⟨σ6, eσ6⟩ : ∃ z, z = zsi σ4 3 ((89 : Int32).toNatClampNeg) ((zgi σ4 3 (89 : Int32).toNatClampNeg) + 1) := ⟨_, rfl⟩
    replace hf := zbv_use eσ6 hf
    refine z_iast hC hI 3 2 (wM_e3 ad cy σ4) (tM_t3 cy) q ((wM_s3 ad cy σ4 _ _).trans (congrArg (wM ad cy) eσ6.symm)) dX12_stop_84 (fun H locs hI => ?_)
    refine lv_aload_n hx hb dX12_stop_85 rfl (lv_at hl 0 rfl) ?_
    refine z_get hC hI hinX12_stop_X120 0 (wM_e0 ad cy σ6) rfl 10 (by decide) (List.mem_cons_of_mem _ zw9_7) rfl dX12_stop_86 ?_
    refine lv_bipush (v := 89) hx hb dX12_stop_89 (by decide) ?_
    refine lv_aload_n hx hb dX12_stop_91 rfl (lv_at hl 0 rfl) ?_
    refine z_get hC hI hinX12_stop_X120 0 (wM_e0 ad cy σ6) rfl 10 (by decide) (List.mem_cons_of_mem _ zw9_7) rfl dX12_stop_92 ?_
    refine lv_bipush (v := 89) hx hb dX12_stop_95 (by decide) ?_
    obtain ⟨q, hf⟩ := zck_use hf
    refine z_iald hC hI 3 2 (wM_e3 ad cy σ6) (tM_t3 cy) q dX12_stop_97 ?_
    refine lv_iadd hx hb dX12_stop_98 ?_
    refine lv_iload_n hx hb dX12_stop_99 rfl (lv_at hl 1 rfl) ?_
    obtain ⟨q, hf⟩ := zck_use hf
    obtain ⟨σ7, eσ7⟩ : ∃ z, z = zsi σ6 3 ((89 + (zgi σ6 3 (89 : Int32).toNatClampNeg)).toNatClampNeg) x1 := ⟨_, rfl⟩
    replace hf := zbv_use eσ7 hf
    refine z_iast hC hI 3 2 (wM_e3 ad cy σ6) (tM_t3 cy) q ((wM_s3 ad cy σ6 _ _).trans (congrArg (wM ad cy) eσ7.symm)) dX12_stop_100 (fun H locs hI => ?_)
    exact bX12_stop_101 hC  hI hl hf
  replace hf := zif_f q hf
  exact bX12_stop_64 hC  hI (lv_sub hl [] rfl) hf
set_option maxRecDepth 20000 in
set_option maxHeartbeats 4000000 in
theorem bX12_stop_56 {st : Nat → Nat} {p : Program} {l : Launch} {e : Env} {s : State} {m : MethodId} {args : Array Value} {below : List Frame} {meth : Method} {c : Code} {D : va_G} {A : Nat → Prop} {ad : Nat → Nat} {cy : Nat → ClassId} (hC : zC p m c cX12_stop 5 s args wzX12_stop RX12 meth (some .int))  {res : zSt × Int32} {H : Heap} {locs : List Loc} {σ : zSt} {ls : Array Slot} {x1 : Int32} {x2 : Int32} {x3 : Int32} (hI : zI st D (tM cy) (wM ad cy σ) A s H locs) (hl : lv_has ls 5 [(0, .ref (ad 0)), (1, .int x1), (2, .int x2), (3, .int x3)]) (hf : fX12_stop_56  σ x1 x2 x3 = some res) : W p l e rmX12_stop s m args below meth c H locs 0 0 (zQi below args s D (tM cy) (wM ad cy) A res) (F0 m 56 ls [.ref (ad 0)]) := by
  have hx := hC.1
  have hb := hC.2.1
  unfold fX12_stop_56 at hf
  refine lv_iconst (v := 0) hx hb dX12_stop_56 (by decide) ?_
  exact bX12_stop_57 hC  hI hl hf
set_option maxRecDepth 20000 in
set_option maxHeartbeats 4000000 in
theorem bX12_stop_24 {st : Nat → Nat} {p : Program} {l : Launch} {e : Env} {s : State} {m : MethodId} {args : Array Value} {below : List Frame} {meth : Method} {c : Code} {D : va_G} {A : Nat → Prop} {ad : Nat → Nat} {cy : Nat → ClassId} (hC : zC p m c cX12_stop 5 s args wzX12_stop RX12 meth (some .int))  {res : zSt × Int32} {H : Heap} {locs : List Loc} {σ : zSt} {ls : Array Slot} {x1 : Int32} {x2 : Int32} {x3 : Int32} {s0 : Int32} (hI : zI st D (tM cy) (wM ad cy σ) A s H locs) (hl : lv_has ls 5 [(0, .ref (ad 0)), (1, .int x1), (2, .int x2), (3, .int x3)]) (hf : fX12_stop_24  σ x1 x2 x3 s0 = some res) : W p l e rmX12_stop s m args below meth c H locs 0 0 (zQi below args s D (tM cy) (wM ad cy) A res) (F0 m 24 ls [.int s0, .ref (ad 0)]) := by
  have hx := hC.1
  have hb := hC.2.1
  unfold fX12_stop_24 at hf
  refine lv_iconst (v := 1) hx hb dX12_stop_24 (by decide) ?_
  obtain ⟨σ8, v9, g8, hf⟩ := zbi_use hf
  refine z_callVi (As := [.int s0, .int 1]) (rest := []) hC hI (cX12_fails_met st l D ad cy σ s0 1 _ g8) (zgV zw11_21 zw11_22 zw11_23 zw1_5 zw12_0) rfl ⟨rfl, rfl⟩ 2 hdX12_fails ⟨Nat.le_of_ble_eq_true rfl, Nat.le_of_ble_eq_true rfl⟩ rfl rfl (wM_e0 ad cy σ) rfl hl rfl (Nat.le_of_ble_eq_true rfl) dX12_stop_25 ⟨Nat.zero_le _, Nat.zero_le _⟩ (fun H locs hI => ?_)
  refine lv_if_ne (tgt := 64) hx hb dX12_stop_28 (by decide) (fun q => ?_) (fun q => ?_)
  · replace hf := zif_f q hf
    exact bX12_stop_64 hC  hI (lv_sub hl [] rfl) hf
  replace hf := zif_t q hf
  refine lv_aload_n hx hb dX12_stop_31 rfl (lv_at hl 0 rfl) ?_
  refine lv_iload_n hx hb dX12_stop_32 rfl (lv_at hl 2 rfl) ?_
  refine lv_if_eq (tgt := 56) hx hb dX12_stop_33 (by decide) (fun q => ?_) (fun q => ?_)
  · replace hf := zif_t q hf
    exact bX12_stop_56 hC  hI hl hf
  replace hf := zif_f q hf
  refine lv_iload_n hx hb dX12_stop_36 rfl (lv_at hl 3 rfl) ?_
  refine lv_if_ne (tgt := 56) hx hb dX12_stop_37 (by decide) (fun q => ?_) (fun q => ?_)
  · replace hf := zif_f q hf
    exact bX12_stop_56 hC  hI hl hf
  replace hf := zif_t q hf
  refine lv_aload_n hx hb dX12_stop_40 rfl (lv_at hl 0 rfl) ?_
  refine z_get hC hI hinX12_stop_X120 0 (wM_e0 ad cy σ8) rfl 10 (by decide) (List.mem_cons_of_mem _ zw9_7) rfl dX12_stop_41 ?_
  refine lv_bipush (v := 89) hx hb dX12_stop_44 (by decide) ?_
  obtain ⟨q, hf⟩ := zck_use hf
  refine z_iald hC hI 3 2 (wM_e3 ad cy σ8) (tM_t3 cy) q dX12_stop_46 ?_
  refine lv_bipush (v := 8) hx hb dX12_stop_47 (by decide) ?_
  refine lv_icmp_ne (tgt := 56) hx hb dX12_stop_49 (by decide) (fun q => ?_) (fun q => ?_)
  · replace hf := zif_f q hf
    exact bX12_stop_56 hC  hI hl hf
  replace hf := zif_t q hf
  refine lv_iconst (v := 1) hx hb dX12_stop_52 (by decide) ?_
  refine lv_goto (tgt := 57) hx hb dX12_stop_53 (by decide) ?_
  exact bX12_stop_57 hC  hI hl hf
set_option maxRecDepth 20000 in
set_option maxHeartbeats 4000000 in
theorem bX12_stop {st : Nat → Nat} {p : Program} {l : Launch} {e : Env} {s : State} {m : MethodId} {args : Array Value} {below : List Frame} {meth : Method} {c : Code} {D : va_G} {A : Nat → Prop} {ad : Nat → Nat} {cy : Nat → ClassId} (hC : zC p m c cX12_stop 5 s args wzX12_stop RX12 meth (some .int))  {res : zSt × Int32} {H : Heap} {locs : List Loc} {σ : zSt} {ls : Array Slot} {x1 : Int32} {x2 : Int32} (hI : zI st D (tM cy) (wM ad cy σ) A s H locs) (hl : lv_has ls 5 [(0, .ref (ad 0)), (1, .int x1), (2, .int x2)]) (hf : fX12_stop  σ x1 x2 = some res) : W p l e rmX12_stop s m args below meth c H locs 0 0 (zQi below args s D (tM cy) (wM ad cy) A res) (F0 m 0 ls []) := by
  have hx := hC.1
  have hb := hC.2.1
  unfold fX12_stop at hf
  refine lv_aload_n hx hb dX12_stop_0 rfl (lv_at hl 0 rfl) ?_
  refine lv_iload_n hx hb dX12_stop_1 rfl (lv_at hl 1 rfl) ?_
  obtain ⟨σ10, v11, g10, hf⟩ := zbi_use hf
  refine z_callVi (As := [.int x1]) (rest := []) hC hI (cX12_isStop_met st l D ad cy σ x1 _ g10) (zgV zw47_0 zw47_1 zw47_2 zw1_5 zw47_3) rfl ⟨rfl, rfl⟩ 1 hdX12_isStop ⟨Nat.le_of_ble_eq_true rfl, Nat.le_of_ble_eq_true rfl⟩ rfl rfl (wM_e0 ad cy σ) rfl hl rfl (Nat.le_of_ble_eq_true rfl) dX12_stop_2 ⟨Nat.zero_le _, Nat.zero_le _⟩ (fun H locs hI => ?_)
  refine lv_istore_n (lv' := [(3, .int v11), (0, .ref (ad 0)), (1, .int x1), (2, .int x2)]) hx hb dX12_stop_5 rfl hl (by decide) rfl (fun ls hl => ?_)
  refine lv_aload_n hx hb dX12_stop_6 rfl (lv_at hl 1 rfl) ?_
  refine lv_iload_n hx hb dX12_stop_7 rfl (lv_at hl 2 rfl) ?_
  refine lv_i2l (v := x1.toInt64) hx hb dX12_stop_8 rfl ?_
  refine lv_lconst (v := 0) hx hb dX12_stop_9 (by decide) ?_
  refine lv_ldc2 (v := 65535) hx hb hC.2.2.2.1 (hC.2.2.2.2.1 _ (List.mem_cons_of_mem _ zw79_20)) dX12_stop_10 ?_
  obtain ⟨σ12, v13, g12, hf⟩ := zbi_use hf
  refine z_callSi (As := [.long (x1.toInt64), .long 0, .long 65535]) (rest := [.ref (ad 0)]) hC hI (cX12_within_met st l D ad cy σ10 (x1.toInt64) 0 65535 _ g12) (zgS zw11_18 zw11_19 zw1_5 zw11_20) rfl ⟨rfl, rfl⟩ 3 hdX12_within ⟨Nat.le_of_ble_eq_true rfl, Nat.le_of_ble_eq_true rfl⟩ rfl hl rfl (Nat.le_of_ble_eq_true rfl) dX12_stop_13 ⟨Nat.zero_le _, Nat.zero_le _⟩ (fun H locs hI => ?_)
  refine lv_if_ne (tgt := 23) hx hb dX12_stop_16 (by decide) (fun q => ?_) (fun q => ?_)
  · replace hf := zif_f q hf
    refine lv_iconst (v := 0) hx hb dX12_stop_23 (by decide) ?_
    exact bX12_stop_24 hC  hI (lv_sub hl [1, 2, 3, 0] rfl) hf
  replace hf := zif_t q hf
  refine lv_iconst (v := 1) hx hb dX12_stop_19 (by decide) ?_
  refine lv_goto (tgt := 24) hx hb dX12_stop_20 (by decide) ?_
  exact bX12_stop_24 hC  hI (lv_sub hl [1, 2, 3, 0] rfl) hf
set_option maxRecDepth 20000 in
theorem cX12_stop_met (st : Nat → Nat) (l : Launch) (D : va_G) (ad : Nat → Nat) (cy : Nat → ClassId) (σ : zSt) (x1 : Int32) (x2 : Int32) (res : zSt × Int32) (hf : fX12_stop σ x1 x2 = some res) (sz : Nat) : zMi st l yX12_stop wzX12_stop rmX12_stop [.ref (ad 0), .int x1, .int x2] D (tM cy) (wM ad cy) sz σ res :=
  zMi.of (cc := cX12_stop) (maxL := 5) (ret := (some .int)) (by decide) rfl (Nat.le_of_ble_eq_true rfl) (fun p e s m args below meth c hC A hI ls hl => bX12_stop hC hI hl hf)
theorem hdX12_stop : yX12_stop.cls = RX12 ∧ yX12_stop.cls ≠ "java/lang/invoke/MethodHandle" ∧ yX12_stop.cls ≠ "java/lang/invoke/VarHandle" ∧ (parseMethodDescriptor yX12_stop.desc).map (fun d => d.parameters.length) = some 2 := by decide +kernel
def rmX12_save : Room := { frames := 0, cells := 0, slots := 0, locals := 0 }
def wzX12_save : List Cond := .code yX12_save cX12_save 2 none :: wsL_law
theorem hinX12_save_X120 : ∀ w ∈ wsX120, w ∈ wzX12_save := fun w h => List.mem_cons_of_mem _ (inlX12 w h)
def fX12_save_196_body (k196 : zSt → Int32 → Option (zSt)) (σ : zSt) (x1 : Int32) : Option (zSt) :=
  if 4096 ≤ x1 then some σ else
  zck (zin x1 4096) (
  zck (zin x1 4096) (zbv (zsl σ 19 (x1.toNatClampNeg) (zgl σ 10 x1.toNatClampNeg)) (fun σ1 =>
  zck (zin x1 4096) (
  zck (zin x1 4096) (zbv (zsl σ1 20 (x1.toNatClampNeg) (zgl σ1 11 x1.toNatClampNeg)) (fun σ2 =>
  zbv (x1 + 1) (fun v3 =>
  k196 σ2 v3)))))))
def fX12_save_196  : Nat → zSt → Int32 → Option (zSt)
  | 0, _, _ => none
  | n + 1, σ, x1 => fX12_save_196_body (fX12_save_196  n) σ x1
def fX12_save_170_body (k170 : zSt → Int32 → Option (zSt)) (σ : zSt) (x1 : Int32) : Option (zSt) :=
  if 61440 ≤ x1 then fX12_save_196 zfuel σ 0 else
  zck (zin x1 61440) (
  zck (zin x1 61440) (zbv (zsi σ 18 (x1.toNatClampNeg) (zgi σ 9 x1.toNatClampNeg)) (fun σ4 =>
  zbv (x1 + 1) (fun v5 =>
  k170 σ4 v5))))
def fX12_save_170  : Nat → zSt → Int32 → Option (zSt)
  | 0, _, _ => none
  | n + 1, σ, x1 => fX12_save_170_body (fX12_save_170  n) σ x1
def fX12_save_144_body (k144 : zSt → Int32 → Option (zSt)) (σ : zSt) (x1 : Int32) : Option (zSt) :=
  if 64 ≤ x1 then fX12_save_170 zfuel σ 0 else
  zck (zin x1 64) (
  zck (zin x1 64) (zbv (zsi σ 17 (x1.toNatClampNeg) (vp_nar .byte (zgi σ 8 x1.toNatClampNeg))) (fun σ6 =>
  zbv (x1 + 1) (fun v7 =>
  k144 σ6 v7))))
def fX12_save_144  : Nat → zSt → Int32 → Option (zSt)
  | 0, _, _ => none
  | n + 1, σ, x1 => fX12_save_144_body (fX12_save_144  n) σ x1
def fX12_save_117_body (k117 : zSt → Int32 → Option (zSt)) (σ : zSt) (x1 : Int32) : Option (zSt) :=
  if 16384 ≤ x1 then fX12_save_144 zfuel σ 0 else
  zck (zin x1 16384) (
  zck (zin x1 16384) (zbv (zsi σ 16 (x1.toNatClampNeg) (vp_nar .byte (zgi σ 7 x1.toNatClampNeg))) (fun σ8 =>
  zbv (x1 + 1) (fun v9 =>
  k117 σ8 v9))))
def fX12_save_117  : Nat → zSt → Int32 → Option (zSt)
  | 0, _, _ => none
  | n + 1, σ, x1 => fX12_save_117_body (fX12_save_117  n) σ x1
def fX12_save_91_body (k91 : zSt → Int32 → Option (zSt)) (σ : zSt) (x1 : Int32) : Option (zSt) :=
  if 32768 ≤ x1 then fX12_save_117 zfuel σ 0 else
  zck (zin x1 32768) (
  zck (zin x1 32768) (zbv (zsi σ 15 (x1.toNatClampNeg) (vp_nar .byte (zgi σ 6 x1.toNatClampNeg))) (fun σ10 =>
  zbv (x1 + 1) (fun v11 =>
  k91 σ10 v11))))
def fX12_save_91  : Nat → zSt → Int32 → Option (zSt)
  | 0, _, _ => none
  | n + 1, σ, x1 => fX12_save_91_body (fX12_save_91  n) σ x1
def fX12_save_64_body (k64 : zSt → Int32 → Option (zSt)) (σ : zSt) (x1 : Int32) : Option (zSt) :=
  if 8192 ≤ x1 then fX12_save_91 zfuel σ 0 else
  zck (zin x1 8192) (
  zck (zin x1 8192) (zbv (zsi σ 14 (x1.toNatClampNeg) (vp_nar .byte (zgi σ 5 x1.toNatClampNeg))) (fun σ12 =>
  zbv (x1 + 1) (fun v13 =>
  k64 σ12 v13))))
def fX12_save_64  : Nat → zSt → Int32 → Option (zSt)
  | 0, _, _ => none
  | n + 1, σ, x1 => fX12_save_64_body (fX12_save_64  n) σ x1
def fX12_save_39_body (k39 : zSt → Int32 → Option (zSt)) (σ : zSt) (x1 : Int32) : Option (zSt) :=
  if 5 ≤ x1 then fX12_save_64 zfuel σ 0 else
  zck (zin x1 5) (
  zck (zin x1 5) (zbv (zsl σ 13 (x1.toNatClampNeg) (zgl σ 4 x1.toNatClampNeg)) (fun σ14 =>
  zbv (x1 + 1) (fun v15 =>
  k39 σ14 v15))))
def fX12_save_39  : Nat → zSt → Int32 → Option (zSt)
  | 0, _, _ => none
  | n + 1, σ, x1 => fX12_save_39_body (fX12_save_39  n) σ x1
def fX12_save_12_body (k12 : zSt → Int32 → Option (zSt)) (σ : zSt) (x1 : Int32) : Option (zSt) :=
  if 1048 ≤ x1 then fX12_save_39 zfuel σ 0 else
  zck (zin x1 1048) (
  zck (zin x1 1048) (zbv (zsi σ 12 (x1.toNatClampNeg) (zgi σ 3 x1.toNatClampNeg)) (fun σ16 =>
  zbv (x1 + 1) (fun v17 =>
  k12 σ16 v17))))
def fX12_save_12  : Nat → zSt → Int32 → Option (zSt)
  | 0, _, _ => none
  | n + 1, σ, x1 => fX12_save_12_body (fX12_save_12  n) σ x1
def fX12_save  (σ : zSt)  : Option (zSt) :=
  zbv (zsi σ 0 0 0) (fun σ18 =>
  zck (zbo 1) (zbv (zsi σ18 0 19 1) (fun σ19 =>
  fX12_save_12 zfuel σ19 0)))
set_option maxRecDepth 20000 in
set_option maxHeartbeats 4000000 in
theorem bX12_save_196_body {st : Nat → Nat} {p : Program} {l : Launch} {e : Env} {s : State} {m : MethodId} {args : Array Value} {below : List Frame} {meth : Method} {c : Code} {D : va_G} {A : Nat → Prop} {ad : Nat → Nat} {cy : Nat → ClassId} (hC : zC p m c cX12_save 2 s args wzX12_save RX12 meth none) {k196 : zSt → Int32 → Option (zSt)} {res : zSt} (hk196 : ∀ (H : Heap) (locs : List Loc) (σ : zSt) (ls : Array Slot) (x1 : Int32), zI st D (tM cy) (wM ad cy σ) A s H locs → lv_has ls 2 [(0, .ref (ad 0)), (1, .int x1)] → k196 σ x1 = some res → W p l e rmX12_save s m args below meth c H locs 0 0 (zQu below args s D (tM cy) (wM ad cy) A res) (F0 m 196 ls [])) {H : Heap} {locs : List Loc} {σ : zSt} {ls : Array Slot} {x1 : Int32} (hI : zI st D (tM cy) (wM ad cy σ) A s H locs) (hl : lv_has ls 2 [(0, .ref (ad 0)), (1, .int x1)]) (hf : fX12_save_196_body k196 σ x1 = some res) : W p l e rmX12_save s m args below meth c H locs 0 0 (zQu below args s D (tM cy) (wM ad cy) A res) (F0 m 196 ls []) := by
  have hx := hC.1
  have hb := hC.2.1
  unfold fX12_save_196_body at hf
  refine lv_iload_n hx hb dX12_save_196 rfl (lv_at hl 1 rfl) ?_
  refine lv_sipush (v := 4096) hx hb dX12_save_197 (by decide) ?_
  refine lv_icmp_ge (tgt := 233) hx hb dX12_save_200 (by decide) (fun q => ?_) (fun q => ?_)
  · replace hf := zif_t q hf
    exact z_return hC hI hf dX12_save_233
  replace hf := zif_f q hf
  refine lv_aload_n hx hb dX12_save_203 rfl (lv_at hl 0 rfl) ?_
  refine z_get hC hI hinX12_save_X120 0 (wM_e0 ad cy σ) rfl 27 (by decide) (List.mem_cons_of_mem _ zw10_1) rfl dX12_save_204 ?_
  refine lv_iload_n hx hb dX12_save_207 rfl (lv_at hl 1 rfl) ?_
  refine lv_aload_n hx hb dX12_save_208 rfl (lv_at hl 0 rfl) ?_
  refine z_get hC hI hinX12_save_X120 0 (wM_e0 ad cy σ) rfl 17 (by decide) (List.mem_cons_of_mem _ zw9_16) rfl dX12_save_209 ?_
  refine lv_iload_n hx hb dX12_save_212 rfl (lv_at hl 1 rfl) ?_
  obtain ⟨q, hf⟩ := zck_use hf
  refine z_lald hC hI 10 9 (wM_e10 ad cy σ) (tM_t10 cy) q dX12_save_213 ?_
  obtain ⟨q, hf⟩ := zck_use hf
  obtain ⟨σ1, eσ1⟩ : ∃ z, z = zsl σ 19 (x1.toNatClampNeg) (zgl σ 10 x1.toNatClampNeg) := ⟨_, rfl⟩
  replace hf := zbv_use eσ1 hf
  refine z_last hC hI 19 18 (wM_e19 ad cy σ) (tM_t19 cy) q ((wM_s19 ad cy σ _ _).trans (congrArg (wM ad cy) eσ1.symm)) dX12_save_214 (fun H locs hI => ?_)
  refine lv_aload_n hx hb dX12_save_215 rfl (lv_at hl 0 rfl) ?_
  refine z_get hC hI hinX12_save_X120 0 (wM_e0 ad cy σ1) rfl 28 (by decide) (List.mem_cons_of_mem _ zw10_2) rfl dX12_save_216 ?_
  refine lv_iload_n hx hb dX12_save_219 rfl (lv_at hl 1 rfl) ?_
  refine lv_aload_n hx hb dX12_save_220 rfl (lv_at hl 0 rfl) ?_
  refine z_get hC hI hinX12_save_X120 0 (wM_e0 ad cy σ1) rfl 18 (by decide) (List.mem_cons_of_mem _ zw9_17) rfl dX12_save_221 ?_
  refine lv_iload_n hx hb dX12_save_224 rfl (lv_at hl 1 rfl) ?_
  obtain ⟨q, hf⟩ := zck_use hf
  refine z_lald hC hI 11 10 (wM_e11 ad cy σ1) (tM_t11 cy) q dX12_save_225 ?_
  obtain ⟨q, hf⟩ := zck_use hf
  obtain ⟨σ2, eσ2⟩ : ∃ z, z = zsl σ1 20 (x1.toNatClampNeg) (zgl σ1 11 x1.toNatClampNeg) := ⟨_, rfl⟩
  replace hf := zbv_use eσ2 hf
  refine z_last hC hI 20 19 (wM_e20 ad cy σ1) (tM_t20 cy) q ((wM_s20 ad cy σ1 _ _).trans (congrArg (wM ad cy) eσ2.symm)) dX12_save_226 (fun H locs hI => ?_)
  obtain ⟨v3, ev3⟩ : ∃ z : Int32, z = x1 + 1 := ⟨_, rfl⟩
  replace hf := zbv_use ev3 hf
  refine lv_iinc (v := v3) (lv' := [(1, .int v3), (0, .ref (ad 0))]) hx hb dX12_save_227 hl (k := 1) rfl (by rw [ev3]; rfl) (by decide) rfl (fun ls hl => ?_)
  refine lv_goto (tgt := 196) hx hb dX12_save_230 (by decide) ?_
  exact hk196 _ _ _ _ _ hI (lv_sub hl [1, 0] rfl) hf
theorem blX12_save_196 {st : Nat → Nat} {p : Program} {l : Launch} {e : Env} {s : State} {m : MethodId} {args : Array Value} {below : List Frame} {meth : Method} {c : Code} {D : va_G} {A : Nat → Prop} {ad : Nat → Nat} {cy : Nat → ClassId} (hC : zC p m c cX12_save 2 s args wzX12_save RX12 meth none)  {res : zSt} : ∀ (n : Nat) (H : Heap) (locs : List Loc) (σ : zSt) (ls : Array Slot) (x1 : Int32), zI st D (tM cy) (wM ad cy σ) A s H locs → lv_has ls 2 [(0, .ref (ad 0)), (1, .int x1)] → fX12_save_196  n σ x1 = some res → W p l e rmX12_save s m args below meth c H locs 0 0 (zQu below args s D (tM cy) (wM ad cy) A res) (F0 m 196 ls []) := by
  intro n
  induction n with
  | zero => intro H locs σ ls x1 hI hl hf; cases hf
  | succ n ih => intro H locs σ ls x1 hI hl hf; exact bX12_save_196_body hC ih hI hl hf
set_option maxRecDepth 20000 in
set_option maxHeartbeats 4000000 in
theorem bX12_save_170_body {st : Nat → Nat} {p : Program} {l : Launch} {e : Env} {s : State} {m : MethodId} {args : Array Value} {below : List Frame} {meth : Method} {c : Code} {D : va_G} {A : Nat → Prop} {ad : Nat → Nat} {cy : Nat → ClassId} (hC : zC p m c cX12_save 2 s args wzX12_save RX12 meth none) {k170 : zSt → Int32 → Option (zSt)} {res : zSt} (hk170 : ∀ (H : Heap) (locs : List Loc) (σ : zSt) (ls : Array Slot) (x1 : Int32), zI st D (tM cy) (wM ad cy σ) A s H locs → lv_has ls 2 [(0, .ref (ad 0)), (1, .int x1)] → k170 σ x1 = some res → W p l e rmX12_save s m args below meth c H locs 0 0 (zQu below args s D (tM cy) (wM ad cy) A res) (F0 m 170 ls [])) {H : Heap} {locs : List Loc} {σ : zSt} {ls : Array Slot} {x1 : Int32} (hI : zI st D (tM cy) (wM ad cy σ) A s H locs) (hl : lv_has ls 2 [(0, .ref (ad 0)), (1, .int x1)]) (hf : fX12_save_170_body k170 σ x1 = some res) : W p l e rmX12_save s m args below meth c H locs 0 0 (zQu below args s D (tM cy) (wM ad cy) A res) (F0 m 170 ls []) := by
  have hx := hC.1
  have hb := hC.2.1
  unfold fX12_save_170_body at hf
  refine lv_iload_n hx hb dX12_save_170 rfl (lv_at hl 1 rfl) ?_
  refine lv_ldc (v := 61440) hx hb hC.2.2.2.1 (hC.2.2.2.2.1 _ (List.mem_cons_of_mem _ zw9_14)) dX12_save_171 ?_
  refine lv_icmp_ge (tgt := 194) hx hb dX12_save_173 (by decide) (fun q => ?_) (fun q => ?_)
  · replace hf := zif_t q hf
    refine lv_iconst (v := 0) hx hb dX12_save_194 (by decide) ?_
    refine lv_istore_n (lv' := [(1, .int 0), (0, .ref (ad 0))]) hx hb dX12_save_195 rfl hl (by decide) rfl (fun ls hl => ?_)
    exact blX12_save_196 hC  zfuel _ _ _ _ _ hI (lv_sub hl [1, 0] rfl) hf
  replace hf := zif_f q hf
  refine lv_aload_n hx hb dX12_save_176 rfl (lv_at hl 0 rfl) ?_
  refine z_get hC hI hinX12_save_X120 0 (wM_e0 ad cy σ) rfl 26 (by decide) (List.mem_cons_of_mem _ zw10_0) rfl dX12_save_177 ?_
  refine lv_iload_n hx hb dX12_save_180 rfl (lv_at hl 1 rfl) ?_
  refine lv_aload_n hx hb dX12_save_181 rfl (lv_at hl 0 rfl) ?_
  refine z_get hC hI hinX12_save_X120 0 (wM_e0 ad cy σ) rfl 16 (by decide) (List.mem_cons_of_mem _ zw9_15) rfl dX12_save_182 ?_
  refine lv_iload_n hx hb dX12_save_185 rfl (lv_at hl 1 rfl) ?_
  obtain ⟨q, hf⟩ := zck_use hf
  refine z_iald hC hI 9 8 (wM_e9 ad cy σ) (tM_t9 cy) q dX12_save_186 ?_
  obtain ⟨q, hf⟩ := zck_use hf
  obtain ⟨σ4, eσ4⟩ : ∃ z, z = zsi σ 18 (x1.toNatClampNeg) (zgi σ 9 x1.toNatClampNeg) := ⟨_, rfl⟩
  replace hf := zbv_use eσ4 hf
  refine z_iast hC hI 18 17 (wM_e18 ad cy σ) (tM_t18 cy) q ((wM_s18 ad cy σ _ _).trans (congrArg (wM ad cy) eσ4.symm)) dX12_save_187 (fun H locs hI => ?_)
  obtain ⟨v5, ev5⟩ : ∃ z : Int32, z = x1 + 1 := ⟨_, rfl⟩
  replace hf := zbv_use ev5 hf
  refine lv_iinc (v := v5) (lv' := [(1, .int v5), (0, .ref (ad 0))]) hx hb dX12_save_188 hl (k := 1) rfl (by rw [ev5]; rfl) (by decide) rfl (fun ls hl => ?_)
  refine lv_goto (tgt := 170) hx hb dX12_save_191 (by decide) ?_
  exact hk170 _ _ _ _ _ hI (lv_sub hl [1, 0] rfl) hf
theorem blX12_save_170 {st : Nat → Nat} {p : Program} {l : Launch} {e : Env} {s : State} {m : MethodId} {args : Array Value} {below : List Frame} {meth : Method} {c : Code} {D : va_G} {A : Nat → Prop} {ad : Nat → Nat} {cy : Nat → ClassId} (hC : zC p m c cX12_save 2 s args wzX12_save RX12 meth none)  {res : zSt} : ∀ (n : Nat) (H : Heap) (locs : List Loc) (σ : zSt) (ls : Array Slot) (x1 : Int32), zI st D (tM cy) (wM ad cy σ) A s H locs → lv_has ls 2 [(0, .ref (ad 0)), (1, .int x1)] → fX12_save_170  n σ x1 = some res → W p l e rmX12_save s m args below meth c H locs 0 0 (zQu below args s D (tM cy) (wM ad cy) A res) (F0 m 170 ls []) := by
  intro n
  induction n with
  | zero => intro H locs σ ls x1 hI hl hf; cases hf
  | succ n ih => intro H locs σ ls x1 hI hl hf; exact bX12_save_170_body hC ih hI hl hf
set_option maxRecDepth 20000 in
set_option maxHeartbeats 4000000 in
theorem bX12_save_144_body {st : Nat → Nat} {p : Program} {l : Launch} {e : Env} {s : State} {m : MethodId} {args : Array Value} {below : List Frame} {meth : Method} {c : Code} {D : va_G} {A : Nat → Prop} {ad : Nat → Nat} {cy : Nat → ClassId} (hC : zC p m c cX12_save 2 s args wzX12_save RX12 meth none) {k144 : zSt → Int32 → Option (zSt)} {res : zSt} (hk144 : ∀ (H : Heap) (locs : List Loc) (σ : zSt) (ls : Array Slot) (x1 : Int32), zI st D (tM cy) (wM ad cy σ) A s H locs → lv_has ls 2 [(0, .ref (ad 0)), (1, .int x1)] → k144 σ x1 = some res → W p l e rmX12_save s m args below meth c H locs 0 0 (zQu below args s D (tM cy) (wM ad cy) A res) (F0 m 144 ls [])) {H : Heap} {locs : List Loc} {σ : zSt} {ls : Array Slot} {x1 : Int32} (hI : zI st D (tM cy) (wM ad cy σ) A s H locs) (hl : lv_has ls 2 [(0, .ref (ad 0)), (1, .int x1)]) (hf : fX12_save_144_body k144 σ x1 = some res) : W p l e rmX12_save s m args below meth c H locs 0 0 (zQu below args s D (tM cy) (wM ad cy) A res) (F0 m 144 ls []) := by
  have hx := hC.1
  have hb := hC.2.1
  unfold fX12_save_144_body at hf
  refine lv_iload_n hx hb dX12_save_144 rfl (lv_at hl 1 rfl) ?_
  refine lv_bipush (v := 64) hx hb dX12_save_145 (by decide) ?_
  refine lv_icmp_ge (tgt := 168) hx hb dX12_save_147 (by decide) (fun q => ?_) (fun q => ?_)
  · replace hf := zif_t q hf
    refine lv_iconst (v := 0) hx hb dX12_save_168 (by decide) ?_
    refine lv_istore_n (lv' := [(1, .int 0), (0, .ref (ad 0))]) hx hb dX12_save_169 rfl hl (by decide) rfl (fun ls hl => ?_)
    exact blX12_save_170 hC  zfuel _ _ _ _ _ hI (lv_sub hl [1, 0] rfl) hf
  replace hf := zif_f q hf
  refine lv_aload_n hx hb dX12_save_150 rfl (lv_at hl 0 rfl) ?_
  refine z_get hC hI hinX12_save_X120 0 (wM_e0 ad cy σ) rfl 25 (by decide) (List.mem_cons_of_mem _ zw9_23) rfl dX12_save_151 ?_
  refine lv_iload_n hx hb dX12_save_154 rfl (lv_at hl 1 rfl) ?_
  refine lv_aload_n hx hb dX12_save_155 rfl (lv_at hl 0 rfl) ?_
  refine z_get hC hI hinX12_save_X120 0 (wM_e0 ad cy σ) rfl 15 (by decide) (List.mem_cons_of_mem _ zw9_13) rfl dX12_save_156 ?_
  refine lv_iload_n hx hb dX12_save_159 rfl (lv_at hl 1 rfl) ?_
  obtain ⟨q, hf⟩ := zck_use hf
  refine z_bald hC hI 8 7 (wM_e8 ad cy σ) (tM_t8 cy) q dX12_save_160 ?_
  obtain ⟨q, hf⟩ := zck_use hf
  obtain ⟨σ6, eσ6⟩ : ∃ z, z = zsi σ 17 (x1.toNatClampNeg) (vp_nar .byte (zgi σ 8 x1.toNatClampNeg)) := ⟨_, rfl⟩
  replace hf := zbv_use eσ6 hf
  refine z_bast hC hI 17 16 (wM_e17 ad cy σ) (tM_t17 cy) q ((wM_s17 ad cy σ _ _).trans (congrArg (wM ad cy) eσ6.symm)) dX12_save_161 (fun H locs hI => ?_)
  obtain ⟨v7, ev7⟩ : ∃ z : Int32, z = x1 + 1 := ⟨_, rfl⟩
  replace hf := zbv_use ev7 hf
  refine lv_iinc (v := v7) (lv' := [(1, .int v7), (0, .ref (ad 0))]) hx hb dX12_save_162 hl (k := 1) rfl (by rw [ev7]; rfl) (by decide) rfl (fun ls hl => ?_)
  refine lv_goto (tgt := 144) hx hb dX12_save_165 (by decide) ?_
  exact hk144 _ _ _ _ _ hI (lv_sub hl [1, 0] rfl) hf
theorem blX12_save_144 {st : Nat → Nat} {p : Program} {l : Launch} {e : Env} {s : State} {m : MethodId} {args : Array Value} {below : List Frame} {meth : Method} {c : Code} {D : va_G} {A : Nat → Prop} {ad : Nat → Nat} {cy : Nat → ClassId} (hC : zC p m c cX12_save 2 s args wzX12_save RX12 meth none)  {res : zSt} : ∀ (n : Nat) (H : Heap) (locs : List Loc) (σ : zSt) (ls : Array Slot) (x1 : Int32), zI st D (tM cy) (wM ad cy σ) A s H locs → lv_has ls 2 [(0, .ref (ad 0)), (1, .int x1)] → fX12_save_144  n σ x1 = some res → W p l e rmX12_save s m args below meth c H locs 0 0 (zQu below args s D (tM cy) (wM ad cy) A res) (F0 m 144 ls []) := by
  intro n
  induction n with
  | zero => intro H locs σ ls x1 hI hl hf; cases hf
  | succ n ih => intro H locs σ ls x1 hI hl hf; exact bX12_save_144_body hC ih hI hl hf
set_option maxRecDepth 20000 in
set_option maxHeartbeats 4000000 in
theorem bX12_save_117_body {st : Nat → Nat} {p : Program} {l : Launch} {e : Env} {s : State} {m : MethodId} {args : Array Value} {below : List Frame} {meth : Method} {c : Code} {D : va_G} {A : Nat → Prop} {ad : Nat → Nat} {cy : Nat → ClassId} (hC : zC p m c cX12_save 2 s args wzX12_save RX12 meth none) {k117 : zSt → Int32 → Option (zSt)} {res : zSt} (hk117 : ∀ (H : Heap) (locs : List Loc) (σ : zSt) (ls : Array Slot) (x1 : Int32), zI st D (tM cy) (wM ad cy σ) A s H locs → lv_has ls 2 [(0, .ref (ad 0)), (1, .int x1)] → k117 σ x1 = some res → W p l e rmX12_save s m args below meth c H locs 0 0 (zQu below args s D (tM cy) (wM ad cy) A res) (F0 m 117 ls [])) {H : Heap} {locs : List Loc} {σ : zSt} {ls : Array Slot} {x1 : Int32} (hI : zI st D (tM cy) (wM ad cy σ) A s H locs) (hl : lv_has ls 2 [(0, .ref (ad 0)), (1, .int x1)]) (hf : fX12_save_117_body k117 σ x1 = some res) : W p l e rmX12_save s m args below meth c H locs 0 0 (zQu below args s D (tM cy) (wM ad cy) A res) (F0 m 117 ls []) := by
  have hx := hC.1
  have hb := hC.2.1
  unfold fX12_save_117_body at hf
  refine lv_iload_n hx hb dX12_save_117 rfl (lv_at hl 1 rfl) ?_
  refine lv_sipush (v := 16384) hx hb dX12_save_118 (by decide) ?_
  refine lv_icmp_ge (tgt := 142) hx hb dX12_save_121 (by decide) (fun q => ?_) (fun q => ?_)
  · replace hf := zif_t q hf
    refine lv_iconst (v := 0) hx hb dX12_save_142 (by decide) ?_
    refine lv_istore_n (lv' := [(1, .int 0), (0, .ref (ad 0))]) hx hb dX12_save_143 rfl hl (by decide) rfl (fun ls hl => ?_)
    exact blX12_save_144 hC  zfuel _ _ _ _ _ hI (lv_sub hl [1, 0] rfl) hf
  replace hf := zif_f q hf
  refine lv_aload_n hx hb dX12_save_124 rfl (lv_at hl 0 rfl) ?_
  refine z_get hC hI hinX12_save_X120 0 (wM_e0 ad cy σ) rfl 24 (by decide) (List.mem_cons_of_mem _ zw9_22) rfl dX12_save_125 ?_
  refine lv_iload_n hx hb dX12_save_128 rfl (lv_at hl 1 rfl) ?_
  refine lv_aload_n hx hb dX12_save_129 rfl (lv_at hl 0 rfl) ?_
  refine z_get hC hI hinX12_save_X120 0 (wM_e0 ad cy σ) rfl 14 (by decide) (List.mem_cons_of_mem _ zw9_12) rfl dX12_save_130 ?_
  refine lv_iload_n hx hb dX12_save_133 rfl (lv_at hl 1 rfl) ?_
  obtain ⟨q, hf⟩ := zck_use hf
  refine z_bald hC hI 7 6 (wM_e7 ad cy σ) (tM_t7 cy) q dX12_save_134 ?_
  obtain ⟨q, hf⟩ := zck_use hf
  obtain ⟨σ8, eσ8⟩ : ∃ z, z = zsi σ 16 (x1.toNatClampNeg) (vp_nar .byte (zgi σ 7 x1.toNatClampNeg)) := ⟨_, rfl⟩
  replace hf := zbv_use eσ8 hf
  refine z_bast hC hI 16 15 (wM_e16 ad cy σ) (tM_t16 cy) q ((wM_s16 ad cy σ _ _).trans (congrArg (wM ad cy) eσ8.symm)) dX12_save_135 (fun H locs hI => ?_)
  obtain ⟨v9, ev9⟩ : ∃ z : Int32, z = x1 + 1 := ⟨_, rfl⟩
  replace hf := zbv_use ev9 hf
  refine lv_iinc (v := v9) (lv' := [(1, .int v9), (0, .ref (ad 0))]) hx hb dX12_save_136 hl (k := 1) rfl (by rw [ev9]; rfl) (by decide) rfl (fun ls hl => ?_)
  refine lv_goto (tgt := 117) hx hb dX12_save_139 (by decide) ?_
  exact hk117 _ _ _ _ _ hI (lv_sub hl [1, 0] rfl) hf
theorem blX12_save_117 {st : Nat → Nat} {p : Program} {l : Launch} {e : Env} {s : State} {m : MethodId} {args : Array Value} {below : List Frame} {meth : Method} {c : Code} {D : va_G} {A : Nat → Prop} {ad : Nat → Nat} {cy : Nat → ClassId} (hC : zC p m c cX12_save 2 s args wzX12_save RX12 meth none)  {res : zSt} : ∀ (n : Nat) (H : Heap) (locs : List Loc) (σ : zSt) (ls : Array Slot) (x1 : Int32), zI st D (tM cy) (wM ad cy σ) A s H locs → lv_has ls 2 [(0, .ref (ad 0)), (1, .int x1)] → fX12_save_117  n σ x1 = some res → W p l e rmX12_save s m args below meth c H locs 0 0 (zQu below args s D (tM cy) (wM ad cy) A res) (F0 m 117 ls []) := by
  intro n
  induction n with
  | zero => intro H locs σ ls x1 hI hl hf; cases hf
  | succ n ih => intro H locs σ ls x1 hI hl hf; exact bX12_save_117_body hC ih hI hl hf
set_option maxRecDepth 20000 in
set_option maxHeartbeats 4000000 in
theorem bX12_save_91_body {st : Nat → Nat} {p : Program} {l : Launch} {e : Env} {s : State} {m : MethodId} {args : Array Value} {below : List Frame} {meth : Method} {c : Code} {D : va_G} {A : Nat → Prop} {ad : Nat → Nat} {cy : Nat → ClassId} (hC : zC p m c cX12_save 2 s args wzX12_save RX12 meth none) {k91 : zSt → Int32 → Option (zSt)} {res : zSt} (hk91 : ∀ (H : Heap) (locs : List Loc) (σ : zSt) (ls : Array Slot) (x1 : Int32), zI st D (tM cy) (wM ad cy σ) A s H locs → lv_has ls 2 [(0, .ref (ad 0)), (1, .int x1)] → k91 σ x1 = some res → W p l e rmX12_save s m args below meth c H locs 0 0 (zQu below args s D (tM cy) (wM ad cy) A res) (F0 m 91 ls [])) {H : Heap} {locs : List Loc} {σ : zSt} {ls : Array Slot} {x1 : Int32} (hI : zI st D (tM cy) (wM ad cy σ) A s H locs) (hl : lv_has ls 2 [(0, .ref (ad 0)), (1, .int x1)]) (hf : fX12_save_91_body k91 σ x1 = some res) : W p l e rmX12_save s m args below meth c H locs 0 0 (zQu below args s D (tM cy) (wM ad cy) A res) (F0 m 91 ls []) := by
  have hx := hC.1
  have hb := hC.2.1
  unfold fX12_save_91_body at hf
  refine lv_iload_n hx hb dX12_save_91 rfl (lv_at hl 1 rfl) ?_
  refine lv_ldc (v := 32768) hx hb hC.2.2.2.1 (hC.2.2.2.2.1 _ (List.mem_cons_of_mem _ zw9_10)) dX12_save_92 ?_
  refine lv_icmp_ge (tgt := 115) hx hb dX12_save_94 (by decide) (fun q => ?_) (fun q => ?_)
  · replace hf := zif_t q hf
    refine lv_iconst (v := 0) hx hb dX12_save_115 (by decide) ?_
    refine lv_istore_n (lv' := [(1, .int 0), (0, .ref (ad 0))]) hx hb dX12_save_116 rfl hl (by decide) rfl (fun ls hl => ?_)
    exact blX12_save_117 hC  zfuel _ _ _ _ _ hI (lv_sub hl [1, 0] rfl) hf
  replace hf := zif_f q hf
  refine lv_aload_n hx hb dX12_save_97 rfl (lv_at hl 0 rfl) ?_
  refine z_get hC hI hinX12_save_X120 0 (wM_e0 ad cy σ) rfl 23 (by decide) (List.mem_cons_of_mem _ zw9_21) rfl dX12_save_98 ?_
  refine lv_iload_n hx hb dX12_save_101 rfl (lv_at hl 1 rfl) ?_
  refine lv_aload_n hx hb dX12_save_102 rfl (lv_at hl 0 rfl) ?_
  refine z_get hC hI hinX12_save_X120 0 (wM_e0 ad cy σ) rfl 13 (by decide) (List.mem_cons_of_mem _ zw9_11) rfl dX12_save_103 ?_
  refine lv_iload_n hx hb dX12_save_106 rfl (lv_at hl 1 rfl) ?_
  obtain ⟨q, hf⟩ := zck_use hf
  refine z_bald hC hI 6 5 (wM_e6 ad cy σ) (tM_t6 cy) q dX12_save_107 ?_
  obtain ⟨q, hf⟩ := zck_use hf
  obtain ⟨σ10, eσ10⟩ : ∃ z, z = zsi σ 15 (x1.toNatClampNeg) (vp_nar .byte (zgi σ 6 x1.toNatClampNeg)) := ⟨_, rfl⟩
  replace hf := zbv_use eσ10 hf
  refine z_bast hC hI 15 14 (wM_e15 ad cy σ) (tM_t15 cy) q ((wM_s15 ad cy σ _ _).trans (congrArg (wM ad cy) eσ10.symm)) dX12_save_108 (fun H locs hI => ?_)
  obtain ⟨v11, ev11⟩ : ∃ z : Int32, z = x1 + 1 := ⟨_, rfl⟩
  replace hf := zbv_use ev11 hf
  refine lv_iinc (v := v11) (lv' := [(1, .int v11), (0, .ref (ad 0))]) hx hb dX12_save_109 hl (k := 1) rfl (by rw [ev11]; rfl) (by decide) rfl (fun ls hl => ?_)
  refine lv_goto (tgt := 91) hx hb dX12_save_112 (by decide) ?_
  exact hk91 _ _ _ _ _ hI (lv_sub hl [1, 0] rfl) hf
theorem blX12_save_91 {st : Nat → Nat} {p : Program} {l : Launch} {e : Env} {s : State} {m : MethodId} {args : Array Value} {below : List Frame} {meth : Method} {c : Code} {D : va_G} {A : Nat → Prop} {ad : Nat → Nat} {cy : Nat → ClassId} (hC : zC p m c cX12_save 2 s args wzX12_save RX12 meth none)  {res : zSt} : ∀ (n : Nat) (H : Heap) (locs : List Loc) (σ : zSt) (ls : Array Slot) (x1 : Int32), zI st D (tM cy) (wM ad cy σ) A s H locs → lv_has ls 2 [(0, .ref (ad 0)), (1, .int x1)] → fX12_save_91  n σ x1 = some res → W p l e rmX12_save s m args below meth c H locs 0 0 (zQu below args s D (tM cy) (wM ad cy) A res) (F0 m 91 ls []) := by
  intro n
  induction n with
  | zero => intro H locs σ ls x1 hI hl hf; cases hf
  | succ n ih => intro H locs σ ls x1 hI hl hf; exact bX12_save_91_body hC ih hI hl hf
set_option maxRecDepth 20000 in
set_option maxHeartbeats 4000000 in
theorem bX12_save_64_body {st : Nat → Nat} {p : Program} {l : Launch} {e : Env} {s : State} {m : MethodId} {args : Array Value} {below : List Frame} {meth : Method} {c : Code} {D : va_G} {A : Nat → Prop} {ad : Nat → Nat} {cy : Nat → ClassId} (hC : zC p m c cX12_save 2 s args wzX12_save RX12 meth none) {k64 : zSt → Int32 → Option (zSt)} {res : zSt} (hk64 : ∀ (H : Heap) (locs : List Loc) (σ : zSt) (ls : Array Slot) (x1 : Int32), zI st D (tM cy) (wM ad cy σ) A s H locs → lv_has ls 2 [(0, .ref (ad 0)), (1, .int x1)] → k64 σ x1 = some res → W p l e rmX12_save s m args below meth c H locs 0 0 (zQu below args s D (tM cy) (wM ad cy) A res) (F0 m 64 ls [])) {H : Heap} {locs : List Loc} {σ : zSt} {ls : Array Slot} {x1 : Int32} (hI : zI st D (tM cy) (wM ad cy σ) A s H locs) (hl : lv_has ls 2 [(0, .ref (ad 0)), (1, .int x1)]) (hf : fX12_save_64_body k64 σ x1 = some res) : W p l e rmX12_save s m args below meth c H locs 0 0 (zQu below args s D (tM cy) (wM ad cy) A res) (F0 m 64 ls []) := by
  have hx := hC.1
  have hb := hC.2.1
  unfold fX12_save_64_body at hf
  refine lv_iload_n hx hb dX12_save_64 rfl (lv_at hl 1 rfl) ?_
  refine lv_sipush (v := 8192) hx hb dX12_save_65 (by decide) ?_
  refine lv_icmp_ge (tgt := 89) hx hb dX12_save_68 (by decide) (fun q => ?_) (fun q => ?_)
  · replace hf := zif_t q hf
    refine lv_iconst (v := 0) hx hb dX12_save_89 (by decide) ?_
    refine lv_istore_n (lv' := [(1, .int 0), (0, .ref (ad 0))]) hx hb dX12_save_90 rfl hl (by decide) rfl (fun ls hl => ?_)
    exact blX12_save_91 hC  zfuel _ _ _ _ _ hI (lv_sub hl [1, 0] rfl) hf
  replace hf := zif_f q hf
  refine lv_aload_n hx hb dX12_save_71 rfl (lv_at hl 0 rfl) ?_
  refine z_get hC hI hinX12_save_X120 0 (wM_e0 ad cy σ) rfl 22 (by decide) (List.mem_cons_of_mem _ zw9_20) rfl dX12_save_72 ?_
  refine lv_iload_n hx hb dX12_save_75 rfl (lv_at hl 1 rfl) ?_
  refine lv_aload_n hx hb dX12_save_76 rfl (lv_at hl 0 rfl) ?_
  refine z_get hC hI hinX12_save_X120 0 (wM_e0 ad cy σ) rfl 12 (by decide) (List.mem_cons_of_mem _ zw9_9) rfl dX12_save_77 ?_
  refine lv_iload_n hx hb dX12_save_80 rfl (lv_at hl 1 rfl) ?_
  obtain ⟨q, hf⟩ := zck_use hf
  refine z_bald hC hI 5 4 (wM_e5 ad cy σ) (tM_t5 cy) q dX12_save_81 ?_
  obtain ⟨q, hf⟩ := zck_use hf
  obtain ⟨σ12, eσ12⟩ : ∃ z, z = zsi σ 14 (x1.toNatClampNeg) (vp_nar .byte (zgi σ 5 x1.toNatClampNeg)) := ⟨_, rfl⟩
  replace hf := zbv_use eσ12 hf
  refine z_bast hC hI 14 13 (wM_e14 ad cy σ) (tM_t14 cy) q ((wM_s14 ad cy σ _ _).trans (congrArg (wM ad cy) eσ12.symm)) dX12_save_82 (fun H locs hI => ?_)
  obtain ⟨v13, ev13⟩ : ∃ z : Int32, z = x1 + 1 := ⟨_, rfl⟩
  replace hf := zbv_use ev13 hf
  refine lv_iinc (v := v13) (lv' := [(1, .int v13), (0, .ref (ad 0))]) hx hb dX12_save_83 hl (k := 1) rfl (by rw [ev13]; rfl) (by decide) rfl (fun ls hl => ?_)
  refine lv_goto (tgt := 64) hx hb dX12_save_86 (by decide) ?_
  exact hk64 _ _ _ _ _ hI (lv_sub hl [1, 0] rfl) hf
theorem blX12_save_64 {st : Nat → Nat} {p : Program} {l : Launch} {e : Env} {s : State} {m : MethodId} {args : Array Value} {below : List Frame} {meth : Method} {c : Code} {D : va_G} {A : Nat → Prop} {ad : Nat → Nat} {cy : Nat → ClassId} (hC : zC p m c cX12_save 2 s args wzX12_save RX12 meth none)  {res : zSt} : ∀ (n : Nat) (H : Heap) (locs : List Loc) (σ : zSt) (ls : Array Slot) (x1 : Int32), zI st D (tM cy) (wM ad cy σ) A s H locs → lv_has ls 2 [(0, .ref (ad 0)), (1, .int x1)] → fX12_save_64  n σ x1 = some res → W p l e rmX12_save s m args below meth c H locs 0 0 (zQu below args s D (tM cy) (wM ad cy) A res) (F0 m 64 ls []) := by
  intro n
  induction n with
  | zero => intro H locs σ ls x1 hI hl hf; cases hf
  | succ n ih => intro H locs σ ls x1 hI hl hf; exact bX12_save_64_body hC ih hI hl hf
set_option maxRecDepth 20000 in
set_option maxHeartbeats 4000000 in
theorem bX12_save_39_body {st : Nat → Nat} {p : Program} {l : Launch} {e : Env} {s : State} {m : MethodId} {args : Array Value} {below : List Frame} {meth : Method} {c : Code} {D : va_G} {A : Nat → Prop} {ad : Nat → Nat} {cy : Nat → ClassId} (hC : zC p m c cX12_save 2 s args wzX12_save RX12 meth none) {k39 : zSt → Int32 → Option (zSt)} {res : zSt} (hk39 : ∀ (H : Heap) (locs : List Loc) (σ : zSt) (ls : Array Slot) (x1 : Int32), zI st D (tM cy) (wM ad cy σ) A s H locs → lv_has ls 2 [(0, .ref (ad 0)), (1, .int x1)] → k39 σ x1 = some res → W p l e rmX12_save s m args below meth c H locs 0 0 (zQu below args s D (tM cy) (wM ad cy) A res) (F0 m 39 ls [])) {H : Heap} {locs : List Loc} {σ : zSt} {ls : Array Slot} {x1 : Int32} (hI : zI st D (tM cy) (wM ad cy σ) A s H locs) (hl : lv_has ls 2 [(0, .ref (ad 0)), (1, .int x1)]) (hf : fX12_save_39_body k39 σ x1 = some res) : W p l e rmX12_save s m args below meth c H locs 0 0 (zQu below args s D (tM cy) (wM ad cy) A res) (F0 m 39 ls []) := by
  have hx := hC.1
  have hb := hC.2.1
  unfold fX12_save_39_body at hf
  refine lv_iload_n hx hb dX12_save_39 rfl (lv_at hl 1 rfl) ?_
  refine lv_iconst (v := 5) hx hb dX12_save_40 (by decide) ?_
  refine lv_icmp_ge (tgt := 62) hx hb dX12_save_41 (by decide) (fun q => ?_) (fun q => ?_)
  · replace hf := zif_t q hf
    refine lv_iconst (v := 0) hx hb dX12_save_62 (by decide) ?_
    refine lv_istore_n (lv' := [(1, .int 0), (0, .ref (ad 0))]) hx hb dX12_save_63 rfl hl (by decide) rfl (fun ls hl => ?_)
    exact blX12_save_64 hC  zfuel _ _ _ _ _ hI (lv_sub hl [1, 0] rfl) hf
  replace hf := zif_f q hf
  refine lv_aload_n hx hb dX12_save_44 rfl (lv_at hl 0 rfl) ?_
  refine z_get hC hI hinX12_save_X120 0 (wM_e0 ad cy σ) rfl 21 (by decide) (List.mem_cons_of_mem _ zw9_19) rfl dX12_save_45 ?_
  refine lv_iload_n hx hb dX12_save_48 rfl (lv_at hl 1 rfl) ?_
  refine lv_aload_n hx hb dX12_save_49 rfl (lv_at hl 0 rfl) ?_
  refine z_get hC hI hinX12_save_X120 0 (wM_e0 ad cy σ) rfl 11 (by decide) (List.mem_cons_of_mem _ zw9_8) rfl dX12_save_50 ?_
  refine lv_iload_n hx hb dX12_save_53 rfl (lv_at hl 1 rfl) ?_
  obtain ⟨q, hf⟩ := zck_use hf
  refine z_lald hC hI 4 3 (wM_e4 ad cy σ) (tM_t4 cy) q dX12_save_54 ?_
  obtain ⟨q, hf⟩ := zck_use hf
  obtain ⟨σ14, eσ14⟩ : ∃ z, z = zsl σ 13 (x1.toNatClampNeg) (zgl σ 4 x1.toNatClampNeg) := ⟨_, rfl⟩
  replace hf := zbv_use eσ14 hf
  refine z_last hC hI 13 12 (wM_e13 ad cy σ) (tM_t13 cy) q ((wM_s13 ad cy σ _ _).trans (congrArg (wM ad cy) eσ14.symm)) dX12_save_55 (fun H locs hI => ?_)
  obtain ⟨v15, ev15⟩ : ∃ z : Int32, z = x1 + 1 := ⟨_, rfl⟩
  replace hf := zbv_use ev15 hf
  refine lv_iinc (v := v15) (lv' := [(1, .int v15), (0, .ref (ad 0))]) hx hb dX12_save_56 hl (k := 1) rfl (by rw [ev15]; rfl) (by decide) rfl (fun ls hl => ?_)
  refine lv_goto (tgt := 39) hx hb dX12_save_59 (by decide) ?_
  exact hk39 _ _ _ _ _ hI (lv_sub hl [1, 0] rfl) hf
theorem blX12_save_39 {st : Nat → Nat} {p : Program} {l : Launch} {e : Env} {s : State} {m : MethodId} {args : Array Value} {below : List Frame} {meth : Method} {c : Code} {D : va_G} {A : Nat → Prop} {ad : Nat → Nat} {cy : Nat → ClassId} (hC : zC p m c cX12_save 2 s args wzX12_save RX12 meth none)  {res : zSt} : ∀ (n : Nat) (H : Heap) (locs : List Loc) (σ : zSt) (ls : Array Slot) (x1 : Int32), zI st D (tM cy) (wM ad cy σ) A s H locs → lv_has ls 2 [(0, .ref (ad 0)), (1, .int x1)] → fX12_save_39  n σ x1 = some res → W p l e rmX12_save s m args below meth c H locs 0 0 (zQu below args s D (tM cy) (wM ad cy) A res) (F0 m 39 ls []) := by
  intro n
  induction n with
  | zero => intro H locs σ ls x1 hI hl hf; cases hf
  | succ n ih => intro H locs σ ls x1 hI hl hf; exact bX12_save_39_body hC ih hI hl hf
set_option maxRecDepth 20000 in
set_option maxHeartbeats 4000000 in
theorem bX12_save_12_body {st : Nat → Nat} {p : Program} {l : Launch} {e : Env} {s : State} {m : MethodId} {args : Array Value} {below : List Frame} {meth : Method} {c : Code} {D : va_G} {A : Nat → Prop} {ad : Nat → Nat} {cy : Nat → ClassId} (hC : zC p m c cX12_save 2 s args wzX12_save RX12 meth none) {k12 : zSt → Int32 → Option (zSt)} {res : zSt} (hk12 : ∀ (H : Heap) (locs : List Loc) (σ : zSt) (ls : Array Slot) (x1 : Int32), zI st D (tM cy) (wM ad cy σ) A s H locs → lv_has ls 2 [(0, .ref (ad 0)), (1, .int x1)] → k12 σ x1 = some res → W p l e rmX12_save s m args below meth c H locs 0 0 (zQu below args s D (tM cy) (wM ad cy) A res) (F0 m 12 ls [])) {H : Heap} {locs : List Loc} {σ : zSt} {ls : Array Slot} {x1 : Int32} (hI : zI st D (tM cy) (wM ad cy σ) A s H locs) (hl : lv_has ls 2 [(0, .ref (ad 0)), (1, .int x1)]) (hf : fX12_save_12_body k12 σ x1 = some res) : W p l e rmX12_save s m args below meth c H locs 0 0 (zQu below args s D (tM cy) (wM ad cy) A res) (F0 m 12 ls []) := by
  have hx := hC.1
  have hb := hC.2.1
  unfold fX12_save_12_body at hf
  refine lv_iload_n hx hb dX12_save_12 rfl (lv_at hl 1 rfl) ?_
  refine lv_sipush (v := 1048) hx hb dX12_save_13 (by decide) ?_
  refine lv_icmp_ge (tgt := 37) hx hb dX12_save_16 (by decide) (fun q => ?_) (fun q => ?_)
  · replace hf := zif_t q hf
    refine lv_iconst (v := 0) hx hb dX12_save_37 (by decide) ?_
    refine lv_istore_n (lv' := [(1, .int 0), (0, .ref (ad 0))]) hx hb dX12_save_38 rfl hl (by decide) rfl (fun ls hl => ?_)
    exact blX12_save_39 hC  zfuel _ _ _ _ _ hI (lv_sub hl [1, 0] rfl) hf
  replace hf := zif_f q hf
  refine lv_aload_n hx hb dX12_save_19 rfl (lv_at hl 0 rfl) ?_
  refine z_get hC hI hinX12_save_X120 0 (wM_e0 ad cy σ) rfl 20 (by decide) (List.mem_cons_of_mem _ zw9_18) rfl dX12_save_20 ?_
  refine lv_iload_n hx hb dX12_save_23 rfl (lv_at hl 1 rfl) ?_
  refine lv_aload_n hx hb dX12_save_24 rfl (lv_at hl 0 rfl) ?_
  refine z_get hC hI hinX12_save_X120 0 (wM_e0 ad cy σ) rfl 10 (by decide) (List.mem_cons_of_mem _ zw9_7) rfl dX12_save_25 ?_
  refine lv_iload_n hx hb dX12_save_28 rfl (lv_at hl 1 rfl) ?_
  obtain ⟨q, hf⟩ := zck_use hf
  refine z_iald hC hI 3 2 (wM_e3 ad cy σ) (tM_t3 cy) q dX12_save_29 ?_
  obtain ⟨q, hf⟩ := zck_use hf
  obtain ⟨σ16, eσ16⟩ : ∃ z, z = zsi σ 12 (x1.toNatClampNeg) (zgi σ 3 x1.toNatClampNeg) := ⟨_, rfl⟩
  replace hf := zbv_use eσ16 hf
  refine z_iast hC hI 12 11 (wM_e12 ad cy σ) (tM_t12 cy) q ((wM_s12 ad cy σ _ _).trans (congrArg (wM ad cy) eσ16.symm)) dX12_save_30 (fun H locs hI => ?_)
  obtain ⟨v17, ev17⟩ : ∃ z : Int32, z = x1 + 1 := ⟨_, rfl⟩
  replace hf := zbv_use ev17 hf
  refine lv_iinc (v := v17) (lv' := [(1, .int v17), (0, .ref (ad 0))]) hx hb dX12_save_31 hl (k := 1) rfl (by rw [ev17]; rfl) (by decide) rfl (fun ls hl => ?_)
  refine lv_goto (tgt := 12) hx hb dX12_save_34 (by decide) ?_
  exact hk12 _ _ _ _ _ hI (lv_sub hl [1, 0] rfl) hf
theorem blX12_save_12 {st : Nat → Nat} {p : Program} {l : Launch} {e : Env} {s : State} {m : MethodId} {args : Array Value} {below : List Frame} {meth : Method} {c : Code} {D : va_G} {A : Nat → Prop} {ad : Nat → Nat} {cy : Nat → ClassId} (hC : zC p m c cX12_save 2 s args wzX12_save RX12 meth none)  {res : zSt} : ∀ (n : Nat) (H : Heap) (locs : List Loc) (σ : zSt) (ls : Array Slot) (x1 : Int32), zI st D (tM cy) (wM ad cy σ) A s H locs → lv_has ls 2 [(0, .ref (ad 0)), (1, .int x1)] → fX12_save_12  n σ x1 = some res → W p l e rmX12_save s m args below meth c H locs 0 0 (zQu below args s D (tM cy) (wM ad cy) A res) (F0 m 12 ls []) := by
  intro n
  induction n with
  | zero => intro H locs σ ls x1 hI hl hf; cases hf
  | succ n ih => intro H locs σ ls x1 hI hl hf; exact bX12_save_12_body hC ih hI hl hf
set_option maxRecDepth 20000 in
set_option maxHeartbeats 4000000 in
theorem bX12_save {st : Nat → Nat} {p : Program} {l : Launch} {e : Env} {s : State} {m : MethodId} {args : Array Value} {below : List Frame} {meth : Method} {c : Code} {D : va_G} {A : Nat → Prop} {ad : Nat → Nat} {cy : Nat → ClassId} (hC : zC p m c cX12_save 2 s args wzX12_save RX12 meth none)  {res : zSt} {H : Heap} {locs : List Loc} {σ : zSt} {ls : Array Slot}  (hI : zI st D (tM cy) (wM ad cy σ) A s H locs) (hl : lv_has ls 2 [(0, .ref (ad 0))]) (hf : fX12_save  σ  = some res) : W p l e rmX12_save s m args below meth c H locs 0 0 (zQu below args s D (tM cy) (wM ad cy) A res) (F0 m 0 ls []) := by
  have hx := hC.1
  have hb := hC.2.1
  unfold fX12_save at hf
  refine lv_aload_n hx hb dX12_save_0 rfl (lv_at hl 0 rfl) ?_
  refine lv_iconst (v := 0) hx hb dX12_save_1 (by decide) ?_
  obtain ⟨σ18, eσ18⟩ : ∃ z, z = zsi σ 0 0 0 := ⟨_, rfl⟩
  replace hf := zbv_use eσ18 hf
  refine z_put hC hI hinX12_save_X120 tyX12_ok nmX12 0 (wM_e0 ad cy σ) rfl 0 (by decide) (List.mem_cons_of_mem _ zw12_1) rfl rfl rfl (Nat.le_of_ble_eq_true rfl) ((wM_s0_0 ad cy σ 0).trans (congrArg (wM ad cy) eσ18.symm)) dX12_save_2 (fun H locs hI => ?_)
  refine lv_aload_n hx hb dX12_save_5 rfl (lv_at hl 0 rfl) ?_
  refine lv_iconst (v := 1) hx hb dX12_save_6 (by decide) ?_
  obtain ⟨q, hf⟩ := zck_use hf
  obtain ⟨σ19, eσ19⟩ : ∃ z, z = zsi σ18 0 19 1 := ⟨_, rfl⟩
  replace hf := zbv_use eσ19 hf
  refine z_put hC hI hinX12_save_X120 tyX12_ok nmX12 0 (wM_e0 ad cy σ18) rfl 19 (by decide) (List.mem_cons_of_mem _ zw16_12) rfl (zbo_n q) (zbo_f q) (Nat.le_of_ble_eq_true rfl) ((wM_s0_19 ad cy σ18 1).trans (congrArg (wM ad cy) eσ19.symm)) dX12_save_7 (fun H locs hI => ?_)
  refine lv_iconst (v := 0) hx hb dX12_save_10 (by decide) ?_
  refine lv_istore_n (lv' := [(1, .int 0), (0, .ref (ad 0))]) hx hb dX12_save_11 rfl hl (by decide) rfl (fun ls hl => ?_)
  exact blX12_save_12 hC  zfuel _ _ _ _ _ hI (lv_sub hl [1, 0] rfl) hf
set_option maxRecDepth 20000 in
theorem cX12_save_met (st : Nat → Nat) (l : Launch) (D : va_G) (ad : Nat → Nat) (cy : Nat → ClassId) (σ : zSt)  (res : zSt) (hf : fX12_save σ  = some res) (sz : Nat) : zMu st l yX12_save wzX12_save rmX12_save [.ref (ad 0)] D (tM cy) (wM ad cy) sz σ res :=
  zMu.of (cc := cX12_save) (maxL := 2) (ret := none) (by decide) rfl (Nat.le_of_ble_eq_true rfl) (fun p e s m args below meth c hC A hI ls hl => bX12_save hC hI hl hf)
theorem hdX12_save : yX12_save.cls = RX12 ∧ yX12_save.cls ≠ "java/lang/invoke/MethodHandle" ∧ yX12_save.cls ≠ "java/lang/invoke/VarHandle" ∧ (parseMethodDescriptor yX12_save.desc).map (fun d => d.parameters.length) = some 0 := by decide +kernel
def rmX12_restore : Room := { frames := 1, cells := 0, slots := 0, locals := 22 }
def wzX12_restore : List Cond := .code yX12_restore cX12_restore 2 none :: wsL_law
theorem hinX12_restore_X120 : ∀ w ∈ wsX120, w ∈ wzX12_restore := fun w h => List.mem_cons_of_mem _ (inlX12 w h)
def fX12_restore_207_body (k207 : zSt → Int32 → Option (zSt)) (σ : zSt) (x1 : Int32) : Option (zSt) :=
  if 4096 ≤ x1 then some σ else
  zck (zin x1 4096) (
  zck (zin x1 4096) (zbv (zsl σ 10 (x1.toNatClampNeg) (zgl σ 19 x1.toNatClampNeg)) (fun σ1 =>
  zck (zin x1 4096) (
  zck (zin x1 4096) (zbv (zsl σ1 11 (x1.toNatClampNeg) (zgl σ1 20 x1.toNatClampNeg)) (fun σ2 =>
  zbv (x1 + 1) (fun v3 =>
  k207 σ2 v3)))))))
def fX12_restore_207  : Nat → zSt → Int32 → Option (zSt)
  | 0, _, _ => none
  | n + 1, σ, x1 => fX12_restore_207_body (fX12_restore_207  n) σ x1
def fX12_restore_181_body (k181 : zSt → Int32 → Option (zSt)) (σ : zSt) (x1 : Int32) : Option (zSt) :=
  if 61440 ≤ x1 then fX12_restore_207 zfuel σ 0 else
  zck (zin x1 61440) (
  zck (zin x1 61440) (zbv (zsi σ 9 (x1.toNatClampNeg) (zgi σ 18 x1.toNatClampNeg)) (fun σ4 =>
  zbv (x1 + 1) (fun v5 =>
  k181 σ4 v5))))
def fX12_restore_181  : Nat → zSt → Int32 → Option (zSt)
  | 0, _, _ => none
  | n + 1, σ, x1 => fX12_restore_181_body (fX12_restore_181  n) σ x1
def fX12_restore_155_body (k155 : zSt → Int32 → Option (zSt)) (σ : zSt) (x1 : Int32) : Option (zSt) :=
  if 64 ≤ x1 then fX12_restore_181 zfuel σ 0 else
  zck (zin x1 64) (
  zck (zin x1 64) (zbv (zsi σ 8 (x1.toNatClampNeg) (vp_nar .byte (zgi σ 17 x1.toNatClampNeg))) (fun σ6 =>
  zbv (x1 + 1) (fun v7 =>
  k155 σ6 v7))))
def fX12_restore_155  : Nat → zSt → Int32 → Option (zSt)
  | 0, _, _ => none
  | n + 1, σ, x1 => fX12_restore_155_body (fX12_restore_155  n) σ x1
def fX12_restore_128_body (k128 : zSt → Int32 → Option (zSt)) (σ : zSt) (x1 : Int32) : Option (zSt) :=
  if 16384 ≤ x1 then fX12_restore_155 zfuel σ 0 else
  zck (zin x1 16384) (
  zck (zin x1 16384) (zbv (zsi σ 7 (x1.toNatClampNeg) (vp_nar .byte (zgi σ 16 x1.toNatClampNeg))) (fun σ8 =>
  zbv (x1 + 1) (fun v9 =>
  k128 σ8 v9))))
def fX12_restore_128  : Nat → zSt → Int32 → Option (zSt)
  | 0, _, _ => none
  | n + 1, σ, x1 => fX12_restore_128_body (fX12_restore_128  n) σ x1
def fX12_restore_102_body (k102 : zSt → Int32 → Option (zSt)) (σ : zSt) (x1 : Int32) : Option (zSt) :=
  if 32768 ≤ x1 then fX12_restore_128 zfuel σ 0 else
  zck (zin x1 32768) (
  zck (zin x1 32768) (zbv (zsi σ 6 (x1.toNatClampNeg) (vp_nar .byte (zgi σ 15 x1.toNatClampNeg))) (fun σ10 =>
  zbv (x1 + 1) (fun v11 =>
  k102 σ10 v11))))
def fX12_restore_102  : Nat → zSt → Int32 → Option (zSt)
  | 0, _, _ => none
  | n + 1, σ, x1 => fX12_restore_102_body (fX12_restore_102  n) σ x1
def fX12_restore_75_body (k75 : zSt → Int32 → Option (zSt)) (σ : zSt) (x1 : Int32) : Option (zSt) :=
  if 8192 ≤ x1 then fX12_restore_102 zfuel σ 0 else
  zck (zin x1 8192) (
  zck (zin x1 8192) (zbv (zsi σ 5 (x1.toNatClampNeg) (vp_nar .byte (zgi σ 14 x1.toNatClampNeg))) (fun σ12 =>
  zbv (x1 + 1) (fun v13 =>
  k75 σ12 v13))))
def fX12_restore_75  : Nat → zSt → Int32 → Option (zSt)
  | 0, _, _ => none
  | n + 1, σ, x1 => fX12_restore_75_body (fX12_restore_75  n) σ x1
def fX12_restore_50_body (k50 : zSt → Int32 → Option (zSt)) (σ : zSt) (x1 : Int32) : Option (zSt) :=
  if 5 ≤ x1 then fX12_restore_75 zfuel σ 0 else
  zck (zin x1 5) (
  zck (zin x1 5) (zbv (zsl σ 4 (x1.toNatClampNeg) (zgl σ 13 x1.toNatClampNeg)) (fun σ14 =>
  zbv (x1 + 1) (fun v15 =>
  k50 σ14 v15))))
def fX12_restore_50  : Nat → zSt → Int32 → Option (zSt)
  | 0, _, _ => none
  | n + 1, σ, x1 => fX12_restore_50_body (fX12_restore_50  n) σ x1
def fX12_restore_23_body (k23 : zSt → Int32 → Option (zSt)) (σ : zSt) (x1 : Int32) : Option (zSt) :=
  if 1048 ≤ x1 then fX12_restore_50 zfuel σ 0 else
  zck (zin x1 1048) (
  zck (zin x1 1048) (zbv (zsi σ 3 (x1.toNatClampNeg) (zgi σ 12 x1.toNatClampNeg)) (fun σ16 =>
  zbv (x1 + 1) (fun v17 =>
  k23 σ16 v17))))
def fX12_restore_23  : Nat → zSt → Int32 → Option (zSt)
  | 0, _, _ => none
  | n + 1, σ, x1 => fX12_restore_23_body (fX12_restore_23  n) σ x1
def fX12_restore_13  (σ : zSt) (s0 : Int32) : Option (zSt) :=
  zbi (fX12_fails σ s0 1) (fun σ18 v19 =>
  if v19 = 0 then fX12_restore_23 zfuel σ18 0 else
  some σ18)
def fX12_restore  (σ : zSt)  : Option (zSt) :=
  if (zgi σ 0 19) = 0 then fX12_restore_13 σ 1 else
  fX12_restore_13 σ 0
set_option maxRecDepth 20000 in
set_option maxHeartbeats 4000000 in
theorem bX12_restore_207_body {st : Nat → Nat} {p : Program} {l : Launch} {e : Env} {s : State} {m : MethodId} {args : Array Value} {below : List Frame} {meth : Method} {c : Code} {D : va_G} {A : Nat → Prop} {ad : Nat → Nat} {cy : Nat → ClassId} (hC : zC p m c cX12_restore 2 s args wzX12_restore RX12 meth none) {k207 : zSt → Int32 → Option (zSt)} {res : zSt} (hk207 : ∀ (H : Heap) (locs : List Loc) (σ : zSt) (ls : Array Slot) (x1 : Int32), zI st D (tM cy) (wM ad cy σ) A s H locs → lv_has ls 2 [(0, .ref (ad 0)), (1, .int x1)] → k207 σ x1 = some res → W p l e rmX12_restore s m args below meth c H locs 0 0 (zQu below args s D (tM cy) (wM ad cy) A res) (F0 m 207 ls [])) {H : Heap} {locs : List Loc} {σ : zSt} {ls : Array Slot} {x1 : Int32} (hI : zI st D (tM cy) (wM ad cy σ) A s H locs) (hl : lv_has ls 2 [(0, .ref (ad 0)), (1, .int x1)]) (hf : fX12_restore_207_body k207 σ x1 = some res) : W p l e rmX12_restore s m args below meth c H locs 0 0 (zQu below args s D (tM cy) (wM ad cy) A res) (F0 m 207 ls []) := by
  have hx := hC.1
  have hb := hC.2.1
  unfold fX12_restore_207_body at hf
  refine lv_iload_n hx hb dX12_restore_207 rfl (lv_at hl 1 rfl) ?_
  refine lv_sipush (v := 4096) hx hb dX12_restore_208 (by decide) ?_
  refine lv_icmp_ge (tgt := 244) hx hb dX12_restore_211 (by decide) (fun q => ?_) (fun q => ?_)
  · replace hf := zif_t q hf
    exact z_return hC hI hf dX12_restore_244
  replace hf := zif_f q hf
  refine lv_aload_n hx hb dX12_restore_214 rfl (lv_at hl 0 rfl) ?_
  refine z_get hC hI hinX12_restore_X120 0 (wM_e0 ad cy σ) rfl 17 (by decide) (List.mem_cons_of_mem _ zw9_16) rfl dX12_restore_215 ?_
  refine lv_iload_n hx hb dX12_restore_218 rfl (lv_at hl 1 rfl) ?_
  refine lv_aload_n hx hb dX12_restore_219 rfl (lv_at hl 0 rfl) ?_
  refine z_get hC hI hinX12_restore_X120 0 (wM_e0 ad cy σ) rfl 27 (by decide) (List.mem_cons_of_mem _ zw10_1) rfl dX12_restore_220 ?_
  refine lv_iload_n hx hb dX12_restore_223 rfl (lv_at hl 1 rfl) ?_
  obtain ⟨q, hf⟩ := zck_use hf
  refine z_lald hC hI 19 18 (wM_e19 ad cy σ) (tM_t19 cy) q dX12_restore_224 ?_
  obtain ⟨q, hf⟩ := zck_use hf
  obtain ⟨σ1, eσ1⟩ : ∃ z, z = zsl σ 10 (x1.toNatClampNeg) (zgl σ 19 x1.toNatClampNeg) := ⟨_, rfl⟩
  replace hf := zbv_use eσ1 hf
  refine z_last hC hI 10 9 (wM_e10 ad cy σ) (tM_t10 cy) q ((wM_s10 ad cy σ _ _).trans (congrArg (wM ad cy) eσ1.symm)) dX12_restore_225 (fun H locs hI => ?_)
  refine lv_aload_n hx hb dX12_restore_226 rfl (lv_at hl 0 rfl) ?_
  refine z_get hC hI hinX12_restore_X120 0 (wM_e0 ad cy σ1) rfl 18 (by decide) (List.mem_cons_of_mem _ zw9_17) rfl dX12_restore_227 ?_
  refine lv_iload_n hx hb dX12_restore_230 rfl (lv_at hl 1 rfl) ?_
  refine lv_aload_n hx hb dX12_restore_231 rfl (lv_at hl 0 rfl) ?_
  refine z_get hC hI hinX12_restore_X120 0 (wM_e0 ad cy σ1) rfl 28 (by decide) (List.mem_cons_of_mem _ zw10_2) rfl dX12_restore_232 ?_
  refine lv_iload_n hx hb dX12_restore_235 rfl (lv_at hl 1 rfl) ?_
  obtain ⟨q, hf⟩ := zck_use hf
  refine z_lald hC hI 20 19 (wM_e20 ad cy σ1) (tM_t20 cy) q dX12_restore_236 ?_
  obtain ⟨q, hf⟩ := zck_use hf
  obtain ⟨σ2, eσ2⟩ : ∃ z, z = zsl σ1 11 (x1.toNatClampNeg) (zgl σ1 20 x1.toNatClampNeg) := ⟨_, rfl⟩
  replace hf := zbv_use eσ2 hf
  refine z_last hC hI 11 10 (wM_e11 ad cy σ1) (tM_t11 cy) q ((wM_s11 ad cy σ1 _ _).trans (congrArg (wM ad cy) eσ2.symm)) dX12_restore_237 (fun H locs hI => ?_)
  obtain ⟨v3, ev3⟩ : ∃ z : Int32, z = x1 + 1 := ⟨_, rfl⟩
  replace hf := zbv_use ev3 hf
  refine lv_iinc (v := v3) (lv' := [(1, .int v3), (0, .ref (ad 0))]) hx hb dX12_restore_238 hl (k := 1) rfl (by rw [ev3]; rfl) (by decide) rfl (fun ls hl => ?_)
  refine lv_goto (tgt := 207) hx hb dX12_restore_241 (by decide) ?_
  exact hk207 _ _ _ _ _ hI (lv_sub hl [1, 0] rfl) hf
theorem blX12_restore_207 {st : Nat → Nat} {p : Program} {l : Launch} {e : Env} {s : State} {m : MethodId} {args : Array Value} {below : List Frame} {meth : Method} {c : Code} {D : va_G} {A : Nat → Prop} {ad : Nat → Nat} {cy : Nat → ClassId} (hC : zC p m c cX12_restore 2 s args wzX12_restore RX12 meth none)  {res : zSt} : ∀ (n : Nat) (H : Heap) (locs : List Loc) (σ : zSt) (ls : Array Slot) (x1 : Int32), zI st D (tM cy) (wM ad cy σ) A s H locs → lv_has ls 2 [(0, .ref (ad 0)), (1, .int x1)] → fX12_restore_207  n σ x1 = some res → W p l e rmX12_restore s m args below meth c H locs 0 0 (zQu below args s D (tM cy) (wM ad cy) A res) (F0 m 207 ls []) := by
  intro n
  induction n with
  | zero => intro H locs σ ls x1 hI hl hf; cases hf
  | succ n ih => intro H locs σ ls x1 hI hl hf; exact bX12_restore_207_body hC ih hI hl hf
set_option maxRecDepth 20000 in
set_option maxHeartbeats 4000000 in
theorem bX12_restore_181_body {st : Nat → Nat} {p : Program} {l : Launch} {e : Env} {s : State} {m : MethodId} {args : Array Value} {below : List Frame} {meth : Method} {c : Code} {D : va_G} {A : Nat → Prop} {ad : Nat → Nat} {cy : Nat → ClassId} (hC : zC p m c cX12_restore 2 s args wzX12_restore RX12 meth none) {k181 : zSt → Int32 → Option (zSt)} {res : zSt} (hk181 : ∀ (H : Heap) (locs : List Loc) (σ : zSt) (ls : Array Slot) (x1 : Int32), zI st D (tM cy) (wM ad cy σ) A s H locs → lv_has ls 2 [(0, .ref (ad 0)), (1, .int x1)] → k181 σ x1 = some res → W p l e rmX12_restore s m args below meth c H locs 0 0 (zQu below args s D (tM cy) (wM ad cy) A res) (F0 m 181 ls [])) {H : Heap} {locs : List Loc} {σ : zSt} {ls : Array Slot} {x1 : Int32} (hI : zI st D (tM cy) (wM ad cy σ) A s H locs) (hl : lv_has ls 2 [(0, .ref (ad 0)), (1, .int x1)]) (hf : fX12_restore_181_body k181 σ x1 = some res) : W p l e rmX12_restore s m args below meth c H locs 0 0 (zQu below args s D (tM cy) (wM ad cy) A res) (F0 m 181 ls []) := by
  have hx := hC.1
  have hb := hC.2.1
  unfold fX12_restore_181_body at hf
  refine lv_iload_n hx hb dX12_restore_181 rfl (lv_at hl 1 rfl) ?_
  refine lv_ldc (v := 61440) hx hb hC.2.2.2.1 (hC.2.2.2.2.1 _ (List.mem_cons_of_mem _ zw9_14)) dX12_restore_182 ?_
  refine lv_icmp_ge (tgt := 205) hx hb dX12_restore_184 (by decide) (fun q => ?_) (fun q => ?_)
  · replace hf := zif_t q hf
    refine lv_iconst (v := 0) hx hb dX12_restore_205 (by decide) ?_
    refine lv_istore_n (lv' := [(1, .int 0), (0, .ref (ad 0))]) hx hb dX12_restore_206 rfl hl (by decide) rfl (fun ls hl => ?_)
    exact blX12_restore_207 hC  zfuel _ _ _ _ _ hI (lv_sub hl [1, 0] rfl) hf
  replace hf := zif_f q hf
  refine lv_aload_n hx hb dX12_restore_187 rfl (lv_at hl 0 rfl) ?_
  refine z_get hC hI hinX12_restore_X120 0 (wM_e0 ad cy σ) rfl 16 (by decide) (List.mem_cons_of_mem _ zw9_15) rfl dX12_restore_188 ?_
  refine lv_iload_n hx hb dX12_restore_191 rfl (lv_at hl 1 rfl) ?_
  refine lv_aload_n hx hb dX12_restore_192 rfl (lv_at hl 0 rfl) ?_
  refine z_get hC hI hinX12_restore_X120 0 (wM_e0 ad cy σ) rfl 26 (by decide) (List.mem_cons_of_mem _ zw10_0) rfl dX12_restore_193 ?_
  refine lv_iload_n hx hb dX12_restore_196 rfl (lv_at hl 1 rfl) ?_
  obtain ⟨q, hf⟩ := zck_use hf
  refine z_iald hC hI 18 17 (wM_e18 ad cy σ) (tM_t18 cy) q dX12_restore_197 ?_
  obtain ⟨q, hf⟩ := zck_use hf
  obtain ⟨σ4, eσ4⟩ : ∃ z, z = zsi σ 9 (x1.toNatClampNeg) (zgi σ 18 x1.toNatClampNeg) := ⟨_, rfl⟩
  replace hf := zbv_use eσ4 hf
  refine z_iast hC hI 9 8 (wM_e9 ad cy σ) (tM_t9 cy) q ((wM_s9 ad cy σ _ _).trans (congrArg (wM ad cy) eσ4.symm)) dX12_restore_198 (fun H locs hI => ?_)
  obtain ⟨v5, ev5⟩ : ∃ z : Int32, z = x1 + 1 := ⟨_, rfl⟩
  replace hf := zbv_use ev5 hf
  refine lv_iinc (v := v5) (lv' := [(1, .int v5), (0, .ref (ad 0))]) hx hb dX12_restore_199 hl (k := 1) rfl (by rw [ev5]; rfl) (by decide) rfl (fun ls hl => ?_)
  refine lv_goto (tgt := 181) hx hb dX12_restore_202 (by decide) ?_
  exact hk181 _ _ _ _ _ hI (lv_sub hl [1, 0] rfl) hf
theorem blX12_restore_181 {st : Nat → Nat} {p : Program} {l : Launch} {e : Env} {s : State} {m : MethodId} {args : Array Value} {below : List Frame} {meth : Method} {c : Code} {D : va_G} {A : Nat → Prop} {ad : Nat → Nat} {cy : Nat → ClassId} (hC : zC p m c cX12_restore 2 s args wzX12_restore RX12 meth none)  {res : zSt} : ∀ (n : Nat) (H : Heap) (locs : List Loc) (σ : zSt) (ls : Array Slot) (x1 : Int32), zI st D (tM cy) (wM ad cy σ) A s H locs → lv_has ls 2 [(0, .ref (ad 0)), (1, .int x1)] → fX12_restore_181  n σ x1 = some res → W p l e rmX12_restore s m args below meth c H locs 0 0 (zQu below args s D (tM cy) (wM ad cy) A res) (F0 m 181 ls []) := by
  intro n
  induction n with
  | zero => intro H locs σ ls x1 hI hl hf; cases hf
  | succ n ih => intro H locs σ ls x1 hI hl hf; exact bX12_restore_181_body hC ih hI hl hf
set_option maxRecDepth 20000 in
set_option maxHeartbeats 4000000 in
theorem bX12_restore_155_body {st : Nat → Nat} {p : Program} {l : Launch} {e : Env} {s : State} {m : MethodId} {args : Array Value} {below : List Frame} {meth : Method} {c : Code} {D : va_G} {A : Nat → Prop} {ad : Nat → Nat} {cy : Nat → ClassId} (hC : zC p m c cX12_restore 2 s args wzX12_restore RX12 meth none) {k155 : zSt → Int32 → Option (zSt)} {res : zSt} (hk155 : ∀ (H : Heap) (locs : List Loc) (σ : zSt) (ls : Array Slot) (x1 : Int32), zI st D (tM cy) (wM ad cy σ) A s H locs → lv_has ls 2 [(0, .ref (ad 0)), (1, .int x1)] → k155 σ x1 = some res → W p l e rmX12_restore s m args below meth c H locs 0 0 (zQu below args s D (tM cy) (wM ad cy) A res) (F0 m 155 ls [])) {H : Heap} {locs : List Loc} {σ : zSt} {ls : Array Slot} {x1 : Int32} (hI : zI st D (tM cy) (wM ad cy σ) A s H locs) (hl : lv_has ls 2 [(0, .ref (ad 0)), (1, .int x1)]) (hf : fX12_restore_155_body k155 σ x1 = some res) : W p l e rmX12_restore s m args below meth c H locs 0 0 (zQu below args s D (tM cy) (wM ad cy) A res) (F0 m 155 ls []) := by
  have hx := hC.1
  have hb := hC.2.1
  unfold fX12_restore_155_body at hf
  refine lv_iload_n hx hb dX12_restore_155 rfl (lv_at hl 1 rfl) ?_
  refine lv_bipush (v := 64) hx hb dX12_restore_156 (by decide) ?_
  refine lv_icmp_ge (tgt := 179) hx hb dX12_restore_158 (by decide) (fun q => ?_) (fun q => ?_)
  · replace hf := zif_t q hf
    refine lv_iconst (v := 0) hx hb dX12_restore_179 (by decide) ?_
    refine lv_istore_n (lv' := [(1, .int 0), (0, .ref (ad 0))]) hx hb dX12_restore_180 rfl hl (by decide) rfl (fun ls hl => ?_)
    exact blX12_restore_181 hC  zfuel _ _ _ _ _ hI (lv_sub hl [1, 0] rfl) hf
  replace hf := zif_f q hf
  refine lv_aload_n hx hb dX12_restore_161 rfl (lv_at hl 0 rfl) ?_
  refine z_get hC hI hinX12_restore_X120 0 (wM_e0 ad cy σ) rfl 15 (by decide) (List.mem_cons_of_mem _ zw9_13) rfl dX12_restore_162 ?_
  refine lv_iload_n hx hb dX12_restore_165 rfl (lv_at hl 1 rfl) ?_
  refine lv_aload_n hx hb dX12_restore_166 rfl (lv_at hl 0 rfl) ?_
  refine z_get hC hI hinX12_restore_X120 0 (wM_e0 ad cy σ) rfl 25 (by decide) (List.mem_cons_of_mem _ zw9_23) rfl dX12_restore_167 ?_
  refine lv_iload_n hx hb dX12_restore_170 rfl (lv_at hl 1 rfl) ?_
  obtain ⟨q, hf⟩ := zck_use hf
  refine z_bald hC hI 17 16 (wM_e17 ad cy σ) (tM_t17 cy) q dX12_restore_171 ?_
  obtain ⟨q, hf⟩ := zck_use hf
  obtain ⟨σ6, eσ6⟩ : ∃ z, z = zsi σ 8 (x1.toNatClampNeg) (vp_nar .byte (zgi σ 17 x1.toNatClampNeg)) := ⟨_, rfl⟩
  replace hf := zbv_use eσ6 hf
  refine z_bast hC hI 8 7 (wM_e8 ad cy σ) (tM_t8 cy) q ((wM_s8 ad cy σ _ _).trans (congrArg (wM ad cy) eσ6.symm)) dX12_restore_172 (fun H locs hI => ?_)
  obtain ⟨v7, ev7⟩ : ∃ z : Int32, z = x1 + 1 := ⟨_, rfl⟩
  replace hf := zbv_use ev7 hf
  refine lv_iinc (v := v7) (lv' := [(1, .int v7), (0, .ref (ad 0))]) hx hb dX12_restore_173 hl (k := 1) rfl (by rw [ev7]; rfl) (by decide) rfl (fun ls hl => ?_)
  refine lv_goto (tgt := 155) hx hb dX12_restore_176 (by decide) ?_
  exact hk155 _ _ _ _ _ hI (lv_sub hl [1, 0] rfl) hf
theorem blX12_restore_155 {st : Nat → Nat} {p : Program} {l : Launch} {e : Env} {s : State} {m : MethodId} {args : Array Value} {below : List Frame} {meth : Method} {c : Code} {D : va_G} {A : Nat → Prop} {ad : Nat → Nat} {cy : Nat → ClassId} (hC : zC p m c cX12_restore 2 s args wzX12_restore RX12 meth none)  {res : zSt} : ∀ (n : Nat) (H : Heap) (locs : List Loc) (σ : zSt) (ls : Array Slot) (x1 : Int32), zI st D (tM cy) (wM ad cy σ) A s H locs → lv_has ls 2 [(0, .ref (ad 0)), (1, .int x1)] → fX12_restore_155  n σ x1 = some res → W p l e rmX12_restore s m args below meth c H locs 0 0 (zQu below args s D (tM cy) (wM ad cy) A res) (F0 m 155 ls []) := by
  intro n
  induction n with
  | zero => intro H locs σ ls x1 hI hl hf; cases hf
  | succ n ih => intro H locs σ ls x1 hI hl hf; exact bX12_restore_155_body hC ih hI hl hf
set_option maxRecDepth 20000 in
set_option maxHeartbeats 4000000 in
theorem bX12_restore_128_body {st : Nat → Nat} {p : Program} {l : Launch} {e : Env} {s : State} {m : MethodId} {args : Array Value} {below : List Frame} {meth : Method} {c : Code} {D : va_G} {A : Nat → Prop} {ad : Nat → Nat} {cy : Nat → ClassId} (hC : zC p m c cX12_restore 2 s args wzX12_restore RX12 meth none) {k128 : zSt → Int32 → Option (zSt)} {res : zSt} (hk128 : ∀ (H : Heap) (locs : List Loc) (σ : zSt) (ls : Array Slot) (x1 : Int32), zI st D (tM cy) (wM ad cy σ) A s H locs → lv_has ls 2 [(0, .ref (ad 0)), (1, .int x1)] → k128 σ x1 = some res → W p l e rmX12_restore s m args below meth c H locs 0 0 (zQu below args s D (tM cy) (wM ad cy) A res) (F0 m 128 ls [])) {H : Heap} {locs : List Loc} {σ : zSt} {ls : Array Slot} {x1 : Int32} (hI : zI st D (tM cy) (wM ad cy σ) A s H locs) (hl : lv_has ls 2 [(0, .ref (ad 0)), (1, .int x1)]) (hf : fX12_restore_128_body k128 σ x1 = some res) : W p l e rmX12_restore s m args below meth c H locs 0 0 (zQu below args s D (tM cy) (wM ad cy) A res) (F0 m 128 ls []) := by
  have hx := hC.1
  have hb := hC.2.1
  unfold fX12_restore_128_body at hf
  refine lv_iload_n hx hb dX12_restore_128 rfl (lv_at hl 1 rfl) ?_
  refine lv_sipush (v := 16384) hx hb dX12_restore_129 (by decide) ?_
  refine lv_icmp_ge (tgt := 153) hx hb dX12_restore_132 (by decide) (fun q => ?_) (fun q => ?_)
  · replace hf := zif_t q hf
    refine lv_iconst (v := 0) hx hb dX12_restore_153 (by decide) ?_
    refine lv_istore_n (lv' := [(1, .int 0), (0, .ref (ad 0))]) hx hb dX12_restore_154 rfl hl (by decide) rfl (fun ls hl => ?_)
    exact blX12_restore_155 hC  zfuel _ _ _ _ _ hI (lv_sub hl [1, 0] rfl) hf
  replace hf := zif_f q hf
  refine lv_aload_n hx hb dX12_restore_135 rfl (lv_at hl 0 rfl) ?_
  refine z_get hC hI hinX12_restore_X120 0 (wM_e0 ad cy σ) rfl 14 (by decide) (List.mem_cons_of_mem _ zw9_12) rfl dX12_restore_136 ?_
  refine lv_iload_n hx hb dX12_restore_139 rfl (lv_at hl 1 rfl) ?_
  refine lv_aload_n hx hb dX12_restore_140 rfl (lv_at hl 0 rfl) ?_
  refine z_get hC hI hinX12_restore_X120 0 (wM_e0 ad cy σ) rfl 24 (by decide) (List.mem_cons_of_mem _ zw9_22) rfl dX12_restore_141 ?_
  refine lv_iload_n hx hb dX12_restore_144 rfl (lv_at hl 1 rfl) ?_
  obtain ⟨q, hf⟩ := zck_use hf
  refine z_bald hC hI 16 15 (wM_e16 ad cy σ) (tM_t16 cy) q dX12_restore_145 ?_
  obtain ⟨q, hf⟩ := zck_use hf
  obtain ⟨σ8, eσ8⟩ : ∃ z, z = zsi σ 7 (x1.toNatClampNeg) (vp_nar .byte (zgi σ 16 x1.toNatClampNeg)) := ⟨_, rfl⟩
  replace hf := zbv_use eσ8 hf
  refine z_bast hC hI 7 6 (wM_e7 ad cy σ) (tM_t7 cy) q ((wM_s7 ad cy σ _ _).trans (congrArg (wM ad cy) eσ8.symm)) dX12_restore_146 (fun H locs hI => ?_)
  obtain ⟨v9, ev9⟩ : ∃ z : Int32, z = x1 + 1 := ⟨_, rfl⟩
  replace hf := zbv_use ev9 hf
  refine lv_iinc (v := v9) (lv' := [(1, .int v9), (0, .ref (ad 0))]) hx hb dX12_restore_147 hl (k := 1) rfl (by rw [ev9]; rfl) (by decide) rfl (fun ls hl => ?_)
  refine lv_goto (tgt := 128) hx hb dX12_restore_150 (by decide) ?_
  exact hk128 _ _ _ _ _ hI (lv_sub hl [1, 0] rfl) hf
theorem blX12_restore_128 {st : Nat → Nat} {p : Program} {l : Launch} {e : Env} {s : State} {m : MethodId} {args : Array Value} {below : List Frame} {meth : Method} {c : Code} {D : va_G} {A : Nat → Prop} {ad : Nat → Nat} {cy : Nat → ClassId} (hC : zC p m c cX12_restore 2 s args wzX12_restore RX12 meth none)  {res : zSt} : ∀ (n : Nat) (H : Heap) (locs : List Loc) (σ : zSt) (ls : Array Slot) (x1 : Int32), zI st D (tM cy) (wM ad cy σ) A s H locs → lv_has ls 2 [(0, .ref (ad 0)), (1, .int x1)] → fX12_restore_128  n σ x1 = some res → W p l e rmX12_restore s m args below meth c H locs 0 0 (zQu below args s D (tM cy) (wM ad cy) A res) (F0 m 128 ls []) := by
  intro n
  induction n with
  | zero => intro H locs σ ls x1 hI hl hf; cases hf
  | succ n ih => intro H locs σ ls x1 hI hl hf; exact bX12_restore_128_body hC ih hI hl hf
set_option maxRecDepth 20000 in
set_option maxHeartbeats 4000000 in
theorem bX12_restore_102_body {st : Nat → Nat} {p : Program} {l : Launch} {e : Env} {s : State} {m : MethodId} {args : Array Value} {below : List Frame} {meth : Method} {c : Code} {D : va_G} {A : Nat → Prop} {ad : Nat → Nat} {cy : Nat → ClassId} (hC : zC p m c cX12_restore 2 s args wzX12_restore RX12 meth none) {k102 : zSt → Int32 → Option (zSt)} {res : zSt} (hk102 : ∀ (H : Heap) (locs : List Loc) (σ : zSt) (ls : Array Slot) (x1 : Int32), zI st D (tM cy) (wM ad cy σ) A s H locs → lv_has ls 2 [(0, .ref (ad 0)), (1, .int x1)] → k102 σ x1 = some res → W p l e rmX12_restore s m args below meth c H locs 0 0 (zQu below args s D (tM cy) (wM ad cy) A res) (F0 m 102 ls [])) {H : Heap} {locs : List Loc} {σ : zSt} {ls : Array Slot} {x1 : Int32} (hI : zI st D (tM cy) (wM ad cy σ) A s H locs) (hl : lv_has ls 2 [(0, .ref (ad 0)), (1, .int x1)]) (hf : fX12_restore_102_body k102 σ x1 = some res) : W p l e rmX12_restore s m args below meth c H locs 0 0 (zQu below args s D (tM cy) (wM ad cy) A res) (F0 m 102 ls []) := by
  have hx := hC.1
  have hb := hC.2.1
  unfold fX12_restore_102_body at hf
  refine lv_iload_n hx hb dX12_restore_102 rfl (lv_at hl 1 rfl) ?_
  refine lv_ldc (v := 32768) hx hb hC.2.2.2.1 (hC.2.2.2.2.1 _ (List.mem_cons_of_mem _ zw9_10)) dX12_restore_103 ?_
  refine lv_icmp_ge (tgt := 126) hx hb dX12_restore_105 (by decide) (fun q => ?_) (fun q => ?_)
  · replace hf := zif_t q hf
    refine lv_iconst (v := 0) hx hb dX12_restore_126 (by decide) ?_
    refine lv_istore_n (lv' := [(1, .int 0), (0, .ref (ad 0))]) hx hb dX12_restore_127 rfl hl (by decide) rfl (fun ls hl => ?_)
    exact blX12_restore_128 hC  zfuel _ _ _ _ _ hI (lv_sub hl [1, 0] rfl) hf
  replace hf := zif_f q hf
  refine lv_aload_n hx hb dX12_restore_108 rfl (lv_at hl 0 rfl) ?_
  refine z_get hC hI hinX12_restore_X120 0 (wM_e0 ad cy σ) rfl 13 (by decide) (List.mem_cons_of_mem _ zw9_11) rfl dX12_restore_109 ?_
  refine lv_iload_n hx hb dX12_restore_112 rfl (lv_at hl 1 rfl) ?_
  refine lv_aload_n hx hb dX12_restore_113 rfl (lv_at hl 0 rfl) ?_
  refine z_get hC hI hinX12_restore_X120 0 (wM_e0 ad cy σ) rfl 23 (by decide) (List.mem_cons_of_mem _ zw9_21) rfl dX12_restore_114 ?_
  refine lv_iload_n hx hb dX12_restore_117 rfl (lv_at hl 1 rfl) ?_
  obtain ⟨q, hf⟩ := zck_use hf
  refine z_bald hC hI 15 14 (wM_e15 ad cy σ) (tM_t15 cy) q dX12_restore_118 ?_
  obtain ⟨q, hf⟩ := zck_use hf
  obtain ⟨σ10, eσ10⟩ : ∃ z, z = zsi σ 6 (x1.toNatClampNeg) (vp_nar .byte (zgi σ 15 x1.toNatClampNeg)) := ⟨_, rfl⟩
  replace hf := zbv_use eσ10 hf
  refine z_bast hC hI 6 5 (wM_e6 ad cy σ) (tM_t6 cy) q ((wM_s6 ad cy σ _ _).trans (congrArg (wM ad cy) eσ10.symm)) dX12_restore_119 (fun H locs hI => ?_)
  obtain ⟨v11, ev11⟩ : ∃ z : Int32, z = x1 + 1 := ⟨_, rfl⟩
  replace hf := zbv_use ev11 hf
  refine lv_iinc (v := v11) (lv' := [(1, .int v11), (0, .ref (ad 0))]) hx hb dX12_restore_120 hl (k := 1) rfl (by rw [ev11]; rfl) (by decide) rfl (fun ls hl => ?_)
  refine lv_goto (tgt := 102) hx hb dX12_restore_123 (by decide) ?_
  exact hk102 _ _ _ _ _ hI (lv_sub hl [1, 0] rfl) hf
theorem blX12_restore_102 {st : Nat → Nat} {p : Program} {l : Launch} {e : Env} {s : State} {m : MethodId} {args : Array Value} {below : List Frame} {meth : Method} {c : Code} {D : va_G} {A : Nat → Prop} {ad : Nat → Nat} {cy : Nat → ClassId} (hC : zC p m c cX12_restore 2 s args wzX12_restore RX12 meth none)  {res : zSt} : ∀ (n : Nat) (H : Heap) (locs : List Loc) (σ : zSt) (ls : Array Slot) (x1 : Int32), zI st D (tM cy) (wM ad cy σ) A s H locs → lv_has ls 2 [(0, .ref (ad 0)), (1, .int x1)] → fX12_restore_102  n σ x1 = some res → W p l e rmX12_restore s m args below meth c H locs 0 0 (zQu below args s D (tM cy) (wM ad cy) A res) (F0 m 102 ls []) := by
  intro n
  induction n with
  | zero => intro H locs σ ls x1 hI hl hf; cases hf
  | succ n ih => intro H locs σ ls x1 hI hl hf; exact bX12_restore_102_body hC ih hI hl hf
set_option maxRecDepth 20000 in
set_option maxHeartbeats 4000000 in
theorem bX12_restore_75_body {st : Nat → Nat} {p : Program} {l : Launch} {e : Env} {s : State} {m : MethodId} {args : Array Value} {below : List Frame} {meth : Method} {c : Code} {D : va_G} {A : Nat → Prop} {ad : Nat → Nat} {cy : Nat → ClassId} (hC : zC p m c cX12_restore 2 s args wzX12_restore RX12 meth none) {k75 : zSt → Int32 → Option (zSt)} {res : zSt} (hk75 : ∀ (H : Heap) (locs : List Loc) (σ : zSt) (ls : Array Slot) (x1 : Int32), zI st D (tM cy) (wM ad cy σ) A s H locs → lv_has ls 2 [(0, .ref (ad 0)), (1, .int x1)] → k75 σ x1 = some res → W p l e rmX12_restore s m args below meth c H locs 0 0 (zQu below args s D (tM cy) (wM ad cy) A res) (F0 m 75 ls [])) {H : Heap} {locs : List Loc} {σ : zSt} {ls : Array Slot} {x1 : Int32} (hI : zI st D (tM cy) (wM ad cy σ) A s H locs) (hl : lv_has ls 2 [(0, .ref (ad 0)), (1, .int x1)]) (hf : fX12_restore_75_body k75 σ x1 = some res) : W p l e rmX12_restore s m args below meth c H locs 0 0 (zQu below args s D (tM cy) (wM ad cy) A res) (F0 m 75 ls []) := by
  have hx := hC.1
  have hb := hC.2.1
  unfold fX12_restore_75_body at hf
  refine lv_iload_n hx hb dX12_restore_75 rfl (lv_at hl 1 rfl) ?_
  refine lv_sipush (v := 8192) hx hb dX12_restore_76 (by decide) ?_
  refine lv_icmp_ge (tgt := 100) hx hb dX12_restore_79 (by decide) (fun q => ?_) (fun q => ?_)
  · replace hf := zif_t q hf
    refine lv_iconst (v := 0) hx hb dX12_restore_100 (by decide) ?_
    refine lv_istore_n (lv' := [(1, .int 0), (0, .ref (ad 0))]) hx hb dX12_restore_101 rfl hl (by decide) rfl (fun ls hl => ?_)
    exact blX12_restore_102 hC  zfuel _ _ _ _ _ hI (lv_sub hl [1, 0] rfl) hf
  replace hf := zif_f q hf
  refine lv_aload_n hx hb dX12_restore_82 rfl (lv_at hl 0 rfl) ?_
  refine z_get hC hI hinX12_restore_X120 0 (wM_e0 ad cy σ) rfl 12 (by decide) (List.mem_cons_of_mem _ zw9_9) rfl dX12_restore_83 ?_
  refine lv_iload_n hx hb dX12_restore_86 rfl (lv_at hl 1 rfl) ?_
  refine lv_aload_n hx hb dX12_restore_87 rfl (lv_at hl 0 rfl) ?_
  refine z_get hC hI hinX12_restore_X120 0 (wM_e0 ad cy σ) rfl 22 (by decide) (List.mem_cons_of_mem _ zw9_20) rfl dX12_restore_88 ?_
  refine lv_iload_n hx hb dX12_restore_91 rfl (lv_at hl 1 rfl) ?_
  obtain ⟨q, hf⟩ := zck_use hf
  refine z_bald hC hI 14 13 (wM_e14 ad cy σ) (tM_t14 cy) q dX12_restore_92 ?_
  obtain ⟨q, hf⟩ := zck_use hf
  obtain ⟨σ12, eσ12⟩ : ∃ z, z = zsi σ 5 (x1.toNatClampNeg) (vp_nar .byte (zgi σ 14 x1.toNatClampNeg)) := ⟨_, rfl⟩
  replace hf := zbv_use eσ12 hf
  refine z_bast hC hI 5 4 (wM_e5 ad cy σ) (tM_t5 cy) q ((wM_s5 ad cy σ _ _).trans (congrArg (wM ad cy) eσ12.symm)) dX12_restore_93 (fun H locs hI => ?_)
  obtain ⟨v13, ev13⟩ : ∃ z : Int32, z = x1 + 1 := ⟨_, rfl⟩
  replace hf := zbv_use ev13 hf
  refine lv_iinc (v := v13) (lv' := [(1, .int v13), (0, .ref (ad 0))]) hx hb dX12_restore_94 hl (k := 1) rfl (by rw [ev13]; rfl) (by decide) rfl (fun ls hl => ?_)
  refine lv_goto (tgt := 75) hx hb dX12_restore_97 (by decide) ?_
  exact hk75 _ _ _ _ _ hI (lv_sub hl [1, 0] rfl) hf
theorem blX12_restore_75 {st : Nat → Nat} {p : Program} {l : Launch} {e : Env} {s : State} {m : MethodId} {args : Array Value} {below : List Frame} {meth : Method} {c : Code} {D : va_G} {A : Nat → Prop} {ad : Nat → Nat} {cy : Nat → ClassId} (hC : zC p m c cX12_restore 2 s args wzX12_restore RX12 meth none)  {res : zSt} : ∀ (n : Nat) (H : Heap) (locs : List Loc) (σ : zSt) (ls : Array Slot) (x1 : Int32), zI st D (tM cy) (wM ad cy σ) A s H locs → lv_has ls 2 [(0, .ref (ad 0)), (1, .int x1)] → fX12_restore_75  n σ x1 = some res → W p l e rmX12_restore s m args below meth c H locs 0 0 (zQu below args s D (tM cy) (wM ad cy) A res) (F0 m 75 ls []) := by
  intro n
  induction n with
  | zero => intro H locs σ ls x1 hI hl hf; cases hf
  | succ n ih => intro H locs σ ls x1 hI hl hf; exact bX12_restore_75_body hC ih hI hl hf
set_option maxRecDepth 20000 in
set_option maxHeartbeats 4000000 in
theorem bX12_restore_50_body {st : Nat → Nat} {p : Program} {l : Launch} {e : Env} {s : State} {m : MethodId} {args : Array Value} {below : List Frame} {meth : Method} {c : Code} {D : va_G} {A : Nat → Prop} {ad : Nat → Nat} {cy : Nat → ClassId} (hC : zC p m c cX12_restore 2 s args wzX12_restore RX12 meth none) {k50 : zSt → Int32 → Option (zSt)} {res : zSt} (hk50 : ∀ (H : Heap) (locs : List Loc) (σ : zSt) (ls : Array Slot) (x1 : Int32), zI st D (tM cy) (wM ad cy σ) A s H locs → lv_has ls 2 [(0, .ref (ad 0)), (1, .int x1)] → k50 σ x1 = some res → W p l e rmX12_restore s m args below meth c H locs 0 0 (zQu below args s D (tM cy) (wM ad cy) A res) (F0 m 50 ls [])) {H : Heap} {locs : List Loc} {σ : zSt} {ls : Array Slot} {x1 : Int32} (hI : zI st D (tM cy) (wM ad cy σ) A s H locs) (hl : lv_has ls 2 [(0, .ref (ad 0)), (1, .int x1)]) (hf : fX12_restore_50_body k50 σ x1 = some res) : W p l e rmX12_restore s m args below meth c H locs 0 0 (zQu below args s D (tM cy) (wM ad cy) A res) (F0 m 50 ls []) := by
  have hx := hC.1
  have hb := hC.2.1
  unfold fX12_restore_50_body at hf
  refine lv_iload_n hx hb dX12_restore_50 rfl (lv_at hl 1 rfl) ?_
  refine lv_iconst (v := 5) hx hb dX12_restore_51 (by decide) ?_
  refine lv_icmp_ge (tgt := 73) hx hb dX12_restore_52 (by decide) (fun q => ?_) (fun q => ?_)
  · replace hf := zif_t q hf
    refine lv_iconst (v := 0) hx hb dX12_restore_73 (by decide) ?_
    refine lv_istore_n (lv' := [(1, .int 0), (0, .ref (ad 0))]) hx hb dX12_restore_74 rfl hl (by decide) rfl (fun ls hl => ?_)
    exact blX12_restore_75 hC  zfuel _ _ _ _ _ hI (lv_sub hl [1, 0] rfl) hf
  replace hf := zif_f q hf
  refine lv_aload_n hx hb dX12_restore_55 rfl (lv_at hl 0 rfl) ?_
  refine z_get hC hI hinX12_restore_X120 0 (wM_e0 ad cy σ) rfl 11 (by decide) (List.mem_cons_of_mem _ zw9_8) rfl dX12_restore_56 ?_
  refine lv_iload_n hx hb dX12_restore_59 rfl (lv_at hl 1 rfl) ?_
  refine lv_aload_n hx hb dX12_restore_60 rfl (lv_at hl 0 rfl) ?_
  refine z_get hC hI hinX12_restore_X120 0 (wM_e0 ad cy σ) rfl 21 (by decide) (List.mem_cons_of_mem _ zw9_19) rfl dX12_restore_61 ?_
  refine lv_iload_n hx hb dX12_restore_64 rfl (lv_at hl 1 rfl) ?_
  obtain ⟨q, hf⟩ := zck_use hf
  refine z_lald hC hI 13 12 (wM_e13 ad cy σ) (tM_t13 cy) q dX12_restore_65 ?_
  obtain ⟨q, hf⟩ := zck_use hf
  obtain ⟨σ14, eσ14⟩ : ∃ z, z = zsl σ 4 (x1.toNatClampNeg) (zgl σ 13 x1.toNatClampNeg) := ⟨_, rfl⟩
  replace hf := zbv_use eσ14 hf
  refine z_last hC hI 4 3 (wM_e4 ad cy σ) (tM_t4 cy) q ((wM_s4 ad cy σ _ _).trans (congrArg (wM ad cy) eσ14.symm)) dX12_restore_66 (fun H locs hI => ?_)
  obtain ⟨v15, ev15⟩ : ∃ z : Int32, z = x1 + 1 := ⟨_, rfl⟩
  replace hf := zbv_use ev15 hf
  refine lv_iinc (v := v15) (lv' := [(1, .int v15), (0, .ref (ad 0))]) hx hb dX12_restore_67 hl (k := 1) rfl (by rw [ev15]; rfl) (by decide) rfl (fun ls hl => ?_)
  refine lv_goto (tgt := 50) hx hb dX12_restore_70 (by decide) ?_
  exact hk50 _ _ _ _ _ hI (lv_sub hl [1, 0] rfl) hf
theorem blX12_restore_50 {st : Nat → Nat} {p : Program} {l : Launch} {e : Env} {s : State} {m : MethodId} {args : Array Value} {below : List Frame} {meth : Method} {c : Code} {D : va_G} {A : Nat → Prop} {ad : Nat → Nat} {cy : Nat → ClassId} (hC : zC p m c cX12_restore 2 s args wzX12_restore RX12 meth none)  {res : zSt} : ∀ (n : Nat) (H : Heap) (locs : List Loc) (σ : zSt) (ls : Array Slot) (x1 : Int32), zI st D (tM cy) (wM ad cy σ) A s H locs → lv_has ls 2 [(0, .ref (ad 0)), (1, .int x1)] → fX12_restore_50  n σ x1 = some res → W p l e rmX12_restore s m args below meth c H locs 0 0 (zQu below args s D (tM cy) (wM ad cy) A res) (F0 m 50 ls []) := by
  intro n
  induction n with
  | zero => intro H locs σ ls x1 hI hl hf; cases hf
  | succ n ih => intro H locs σ ls x1 hI hl hf; exact bX12_restore_50_body hC ih hI hl hf
set_option maxRecDepth 20000 in
set_option maxHeartbeats 4000000 in
theorem bX12_restore_23_body {st : Nat → Nat} {p : Program} {l : Launch} {e : Env} {s : State} {m : MethodId} {args : Array Value} {below : List Frame} {meth : Method} {c : Code} {D : va_G} {A : Nat → Prop} {ad : Nat → Nat} {cy : Nat → ClassId} (hC : zC p m c cX12_restore 2 s args wzX12_restore RX12 meth none) {k23 : zSt → Int32 → Option (zSt)} {res : zSt} (hk23 : ∀ (H : Heap) (locs : List Loc) (σ : zSt) (ls : Array Slot) (x1 : Int32), zI st D (tM cy) (wM ad cy σ) A s H locs → lv_has ls 2 [(0, .ref (ad 0)), (1, .int x1)] → k23 σ x1 = some res → W p l e rmX12_restore s m args below meth c H locs 0 0 (zQu below args s D (tM cy) (wM ad cy) A res) (F0 m 23 ls [])) {H : Heap} {locs : List Loc} {σ : zSt} {ls : Array Slot} {x1 : Int32} (hI : zI st D (tM cy) (wM ad cy σ) A s H locs) (hl : lv_has ls 2 [(0, .ref (ad 0)), (1, .int x1)]) (hf : fX12_restore_23_body k23 σ x1 = some res) : W p l e rmX12_restore s m args below meth c H locs 0 0 (zQu below args s D (tM cy) (wM ad cy) A res) (F0 m 23 ls []) := by
  have hx := hC.1
  have hb := hC.2.1
  unfold fX12_restore_23_body at hf
  refine lv_iload_n hx hb dX12_restore_23 rfl (lv_at hl 1 rfl) ?_
  refine lv_sipush (v := 1048) hx hb dX12_restore_24 (by decide) ?_
  refine lv_icmp_ge (tgt := 48) hx hb dX12_restore_27 (by decide) (fun q => ?_) (fun q => ?_)
  · replace hf := zif_t q hf
    refine lv_iconst (v := 0) hx hb dX12_restore_48 (by decide) ?_
    refine lv_istore_n (lv' := [(1, .int 0), (0, .ref (ad 0))]) hx hb dX12_restore_49 rfl hl (by decide) rfl (fun ls hl => ?_)
    exact blX12_restore_50 hC  zfuel _ _ _ _ _ hI (lv_sub hl [1, 0] rfl) hf
  replace hf := zif_f q hf
  refine lv_aload_n hx hb dX12_restore_30 rfl (lv_at hl 0 rfl) ?_
  refine z_get hC hI hinX12_restore_X120 0 (wM_e0 ad cy σ) rfl 10 (by decide) (List.mem_cons_of_mem _ zw9_7) rfl dX12_restore_31 ?_
  refine lv_iload_n hx hb dX12_restore_34 rfl (lv_at hl 1 rfl) ?_
  refine lv_aload_n hx hb dX12_restore_35 rfl (lv_at hl 0 rfl) ?_
  refine z_get hC hI hinX12_restore_X120 0 (wM_e0 ad cy σ) rfl 20 (by decide) (List.mem_cons_of_mem _ zw9_18) rfl dX12_restore_36 ?_
  refine lv_iload_n hx hb dX12_restore_39 rfl (lv_at hl 1 rfl) ?_
  obtain ⟨q, hf⟩ := zck_use hf
  refine z_iald hC hI 12 11 (wM_e12 ad cy σ) (tM_t12 cy) q dX12_restore_40 ?_
  obtain ⟨q, hf⟩ := zck_use hf
  obtain ⟨σ16, eσ16⟩ : ∃ z, z = zsi σ 3 (x1.toNatClampNeg) (zgi σ 12 x1.toNatClampNeg) := ⟨_, rfl⟩
  replace hf := zbv_use eσ16 hf
  refine z_iast hC hI 3 2 (wM_e3 ad cy σ) (tM_t3 cy) q ((wM_s3 ad cy σ _ _).trans (congrArg (wM ad cy) eσ16.symm)) dX12_restore_41 (fun H locs hI => ?_)
  obtain ⟨v17, ev17⟩ : ∃ z : Int32, z = x1 + 1 := ⟨_, rfl⟩
  replace hf := zbv_use ev17 hf
  refine lv_iinc (v := v17) (lv' := [(1, .int v17), (0, .ref (ad 0))]) hx hb dX12_restore_42 hl (k := 1) rfl (by rw [ev17]; rfl) (by decide) rfl (fun ls hl => ?_)
  refine lv_goto (tgt := 23) hx hb dX12_restore_45 (by decide) ?_
  exact hk23 _ _ _ _ _ hI (lv_sub hl [1, 0] rfl) hf
theorem blX12_restore_23 {st : Nat → Nat} {p : Program} {l : Launch} {e : Env} {s : State} {m : MethodId} {args : Array Value} {below : List Frame} {meth : Method} {c : Code} {D : va_G} {A : Nat → Prop} {ad : Nat → Nat} {cy : Nat → ClassId} (hC : zC p m c cX12_restore 2 s args wzX12_restore RX12 meth none)  {res : zSt} : ∀ (n : Nat) (H : Heap) (locs : List Loc) (σ : zSt) (ls : Array Slot) (x1 : Int32), zI st D (tM cy) (wM ad cy σ) A s H locs → lv_has ls 2 [(0, .ref (ad 0)), (1, .int x1)] → fX12_restore_23  n σ x1 = some res → W p l e rmX12_restore s m args below meth c H locs 0 0 (zQu below args s D (tM cy) (wM ad cy) A res) (F0 m 23 ls []) := by
  intro n
  induction n with
  | zero => intro H locs σ ls x1 hI hl hf; cases hf
  | succ n ih => intro H locs σ ls x1 hI hl hf; exact bX12_restore_23_body hC ih hI hl hf
set_option maxRecDepth 20000 in
set_option maxHeartbeats 4000000 in
theorem bX12_restore_13 {st : Nat → Nat} {p : Program} {l : Launch} {e : Env} {s : State} {m : MethodId} {args : Array Value} {below : List Frame} {meth : Method} {c : Code} {D : va_G} {A : Nat → Prop} {ad : Nat → Nat} {cy : Nat → ClassId} (hC : zC p m c cX12_restore 2 s args wzX12_restore RX12 meth none)  {res : zSt} {H : Heap} {locs : List Loc} {σ : zSt} {ls : Array Slot} {s0 : Int32} (hI : zI st D (tM cy) (wM ad cy σ) A s H locs) (hl : lv_has ls 2 [(0, .ref (ad 0))]) (hf : fX12_restore_13  σ s0 = some res) : W p l e rmX12_restore s m args below meth c H locs 0 0 (zQu below args s D (tM cy) (wM ad cy) A res) (F0 m 13 ls [.int s0, .ref (ad 0)]) := by
  have hx := hC.1
  have hb := hC.2.1
  unfold fX12_restore_13 at hf
  refine lv_iconst (v := 1) hx hb dX12_restore_13 (by decide) ?_
  obtain ⟨σ18, v19, g18, hf⟩ := zbi_use hf
  refine z_callVi (As := [.int s0, .int 1]) (rest := []) hC hI (cX12_fails_met st l D ad cy σ s0 1 _ g18) (zgV zw11_21 zw11_22 zw11_23 zw1_5 zw12_0) rfl ⟨rfl, rfl⟩ 2 hdX12_fails ⟨Nat.le_of_ble_eq_true rfl, Nat.le_of_ble_eq_true rfl⟩ rfl rfl (wM_e0 ad cy σ) rfl hl rfl (Nat.le_of_ble_eq_true rfl) dX12_restore_14 ⟨Nat.zero_le _, Nat.zero_le _⟩ (fun H locs hI => ?_)
  refine lv_if_eq (tgt := 21) hx hb dX12_restore_17 (by decide) (fun q => ?_) (fun q => ?_)
  · replace hf := zif_t q hf
    refine lv_iconst (v := 0) hx hb dX12_restore_21 (by decide) ?_
    refine lv_istore_n (lv' := [(1, .int 0), (0, .ref (ad 0))]) hx hb dX12_restore_22 rfl hl (by decide) rfl (fun ls hl => ?_)
    exact blX12_restore_23 hC  zfuel _ _ _ _ _ hI (lv_sub hl [1, 0] rfl) hf
  replace hf := zif_f q hf
  exact z_return hC hI hf dX12_restore_20
set_option maxRecDepth 20000 in
set_option maxHeartbeats 4000000 in
theorem bX12_restore {st : Nat → Nat} {p : Program} {l : Launch} {e : Env} {s : State} {m : MethodId} {args : Array Value} {below : List Frame} {meth : Method} {c : Code} {D : va_G} {A : Nat → Prop} {ad : Nat → Nat} {cy : Nat → ClassId} (hC : zC p m c cX12_restore 2 s args wzX12_restore RX12 meth none)  {res : zSt} {H : Heap} {locs : List Loc} {σ : zSt} {ls : Array Slot}  (hI : zI st D (tM cy) (wM ad cy σ) A s H locs) (hl : lv_has ls 2 [(0, .ref (ad 0))]) (hf : fX12_restore  σ  = some res) : W p l e rmX12_restore s m args below meth c H locs 0 0 (zQu below args s D (tM cy) (wM ad cy) A res) (F0 m 0 ls []) := by
  have hx := hC.1
  have hb := hC.2.1
  unfold fX12_restore at hf
  refine lv_aload_n hx hb dX12_restore_0 rfl (lv_at hl 0 rfl) ?_
  refine lv_aload_n hx hb dX12_restore_1 rfl (lv_at hl 0 rfl) ?_
  refine z_get hC hI hinX12_restore_X120 0 (wM_e0 ad cy σ) rfl 19 (by decide) (List.mem_cons_of_mem _ zw16_12) rfl dX12_restore_2 ?_
  refine lv_if_ne (tgt := 12) hx hb dX12_restore_5 (by decide) (fun q => ?_) (fun q => ?_)
  · replace hf := zif_f q hf
    refine lv_iconst (v := 0) hx hb dX12_restore_12 (by decide) ?_
    exact bX12_restore_13 hC  hI hl hf
  replace hf := zif_t q hf
  refine lv_iconst (v := 1) hx hb dX12_restore_8 (by decide) ?_
  refine lv_goto (tgt := 13) hx hb dX12_restore_9 (by decide) ?_
  exact bX12_restore_13 hC  hI hl hf
set_option maxRecDepth 20000 in
theorem cX12_restore_met (st : Nat → Nat) (l : Launch) (D : va_G) (ad : Nat → Nat) (cy : Nat → ClassId) (σ : zSt)  (res : zSt) (hf : fX12_restore σ  = some res) (sz : Nat) : zMu st l yX12_restore wzX12_restore rmX12_restore [.ref (ad 0)] D (tM cy) (wM ad cy) sz σ res :=
  zMu.of (cc := cX12_restore) (maxL := 2) (ret := none) (by decide) rfl (Nat.le_of_ble_eq_true rfl) (fun p e s m args below meth c hC A hI ls hl => bX12_restore hC hI hl hf)
theorem hdX12_restore : yX12_restore.cls = RX12 ∧ yX12_restore.cls ≠ "java/lang/invoke/MethodHandle" ∧ yX12_restore.cls ≠ "java/lang/invoke/VarHandle" ∧ (parseMethodDescriptor yX12_restore.desc).map (fun d => d.parameters.length) = some 0 := by decide +kernel
def rmX12_register : Room := { frames := 1, cells := 0, slots := 0, locals := 25 }
def wzX12_register : List Cond := .code yX12_register cX12_register 2 (some .int) :: wsL_law
theorem hinX12_register_X120 : ∀ w ∈ wsX120, w ∈ wzX12_register := fun w h => List.mem_cons_of_mem _ (inlX12 w h)
def fX12_register_35  (σ : zSt) (s0 : Int32) : Option (zSt × Int32) :=
  some (σ, s0)
def fX12_register_18  (σ : zSt) (x1 : Int32) (s0 : Int32) : Option (zSt × Int32) :=
  zbi (fX12_fails σ s0 1) (fun σ1 v2 =>
  if v2 = 0 then zck (zin x1 1048) (
  fX12_register_35 σ1 (zgi σ1 3 x1.toNatClampNeg)) else
  fX12_register_35 σ1 0)
def fX12_register  (σ : zSt) (x1 : Int32) : Option (zSt × Int32) :=
  zbi (fX12_within σ (x1.toInt64) 0 26) (fun σ3 v4 =>
  if v4 = 0 then fX12_register_18 σ3 x1 1 else
  fX12_register_18 σ3 x1 0)
set_option maxRecDepth 20000 in
set_option maxHeartbeats 4000000 in
theorem bX12_register_35 {st : Nat → Nat} {p : Program} {l : Launch} {e : Env} {s : State} {m : MethodId} {args : Array Value} {below : List Frame} {meth : Method} {c : Code} {D : va_G} {A : Nat → Prop} {ad : Nat → Nat} {cy : Nat → ClassId} (hC : zC p m c cX12_register 2 s args wzX12_register RX12 meth (some .int))  {res : zSt × Int32} {H : Heap} {locs : List Loc} {σ : zSt} {ls : Array Slot} {s0 : Int32} (hI : zI st D (tM cy) (wM ad cy σ) A s H locs) (hl : lv_has ls 2 []) (hf : fX12_register_35  σ s0 = some res) : W p l e rmX12_register s m args below meth c H locs 0 0 (zQi below args s D (tM cy) (wM ad cy) A res) (F0 m 35 ls [.int s0]) := by
  have hx := hC.1
  have hb := hC.2.1
  unfold fX12_register_35 at hf
  exact z_ireturn hC hI hf dX12_register_35
set_option maxRecDepth 20000 in
set_option maxHeartbeats 4000000 in
theorem bX12_register_18 {st : Nat → Nat} {p : Program} {l : Launch} {e : Env} {s : State} {m : MethodId} {args : Array Value} {below : List Frame} {meth : Method} {c : Code} {D : va_G} {A : Nat → Prop} {ad : Nat → Nat} {cy : Nat → ClassId} (hC : zC p m c cX12_register 2 s args wzX12_register RX12 meth (some .int))  {res : zSt × Int32} {H : Heap} {locs : List Loc} {σ : zSt} {ls : Array Slot} {x1 : Int32} {s0 : Int32} (hI : zI st D (tM cy) (wM ad cy σ) A s H locs) (hl : lv_has ls 2 [(0, .ref (ad 0)), (1, .int x1)]) (hf : fX12_register_18  σ x1 s0 = some res) : W p l e rmX12_register s m args below meth c H locs 0 0 (zQi below args s D (tM cy) (wM ad cy) A res) (F0 m 18 ls [.int s0, .ref (ad 0)]) := by
  have hx := hC.1
  have hb := hC.2.1
  unfold fX12_register_18 at hf
  refine lv_iconst (v := 1) hx hb dX12_register_18 (by decide) ?_
  obtain ⟨σ1, v2, g1, hf⟩ := zbi_use hf
  refine z_callVi (As := [.int s0, .int 1]) (rest := []) hC hI (cX12_fails_met st l D ad cy σ s0 1 _ g1) (zgV zw11_21 zw11_22 zw11_23 zw1_5 zw12_0) rfl ⟨rfl, rfl⟩ 2 hdX12_fails ⟨Nat.le_of_ble_eq_true rfl, Nat.le_of_ble_eq_true rfl⟩ rfl rfl (wM_e0 ad cy σ) rfl hl rfl (Nat.le_of_ble_eq_true rfl) dX12_register_19 ⟨Nat.zero_le _, Nat.zero_le _⟩ (fun H locs hI => ?_)
  refine lv_if_eq (tgt := 29) hx hb dX12_register_22 (by decide) (fun q => ?_) (fun q => ?_)
  · replace hf := zif_t q hf
    refine lv_aload_n hx hb dX12_register_29 rfl (lv_at hl 0 rfl) ?_
    refine z_get hC hI hinX12_register_X120 0 (wM_e0 ad cy σ1) rfl 10 (by decide) (List.mem_cons_of_mem _ zw9_7) rfl dX12_register_30 ?_
    refine lv_iload_n hx hb dX12_register_33 rfl (lv_at hl 1 rfl) ?_
    obtain ⟨q, hf⟩ := zck_use hf
    refine z_iald hC hI 3 2 (wM_e3 ad cy σ1) (tM_t3 cy) q dX12_register_34 ?_
    exact bX12_register_35 hC  hI (lv_sub hl [] rfl) hf
  replace hf := zif_f q hf
  refine lv_iconst (v := 0) hx hb dX12_register_25 (by decide) ?_
  refine lv_goto (tgt := 35) hx hb dX12_register_26 (by decide) ?_
  exact bX12_register_35 hC  hI (lv_sub hl [] rfl) hf
set_option maxRecDepth 20000 in
set_option maxHeartbeats 4000000 in
theorem bX12_register {st : Nat → Nat} {p : Program} {l : Launch} {e : Env} {s : State} {m : MethodId} {args : Array Value} {below : List Frame} {meth : Method} {c : Code} {D : va_G} {A : Nat → Prop} {ad : Nat → Nat} {cy : Nat → ClassId} (hC : zC p m c cX12_register 2 s args wzX12_register RX12 meth (some .int))  {res : zSt × Int32} {H : Heap} {locs : List Loc} {σ : zSt} {ls : Array Slot} {x1 : Int32} (hI : zI st D (tM cy) (wM ad cy σ) A s H locs) (hl : lv_has ls 2 [(0, .ref (ad 0)), (1, .int x1)]) (hf : fX12_register  σ x1 = some res) : W p l e rmX12_register s m args below meth c H locs 0 0 (zQi below args s D (tM cy) (wM ad cy) A res) (F0 m 0 ls []) := by
  have hx := hC.1
  have hb := hC.2.1
  unfold fX12_register at hf
  refine lv_aload_n hx hb dX12_register_0 rfl (lv_at hl 0 rfl) ?_
  refine lv_iload_n hx hb dX12_register_1 rfl (lv_at hl 1 rfl) ?_
  refine lv_i2l (v := x1.toInt64) hx hb dX12_register_2 rfl ?_
  refine lv_lconst (v := 0) hx hb dX12_register_3 (by decide) ?_
  refine lv_ldc2 (v := 26) hx hb hC.2.2.2.1 (hC.2.2.2.2.1 _ (List.mem_cons_of_mem _ zw85_3)) dX12_register_4 ?_
  obtain ⟨σ3, v4, g3, hf⟩ := zbi_use hf
  refine z_callSi (As := [.long (x1.toInt64), .long 0, .long 26]) (rest := [.ref (ad 0)]) hC hI (cX12_within_met st l D ad cy σ (x1.toInt64) 0 26 _ g3) (zgS zw11_18 zw11_19 zw1_5 zw11_20) rfl ⟨rfl, rfl⟩ 3 hdX12_within ⟨Nat.le_of_ble_eq_true rfl, Nat.le_of_ble_eq_true rfl⟩ rfl hl rfl (Nat.le_of_ble_eq_true rfl) dX12_register_7 ⟨Nat.zero_le _, Nat.zero_le _⟩ (fun H locs hI => ?_)
  refine lv_if_ne (tgt := 17) hx hb dX12_register_10 (by decide) (fun q => ?_) (fun q => ?_)
  · replace hf := zif_f q hf
    refine lv_iconst (v := 0) hx hb dX12_register_17 (by decide) ?_
    exact bX12_register_18 hC  hI hl hf
  replace hf := zif_t q hf
  refine lv_iconst (v := 1) hx hb dX12_register_13 (by decide) ?_
  refine lv_goto (tgt := 18) hx hb dX12_register_14 (by decide) ?_
  exact bX12_register_18 hC  hI hl hf
set_option maxRecDepth 20000 in
theorem cX12_register_met (st : Nat → Nat) (l : Launch) (D : va_G) (ad : Nat → Nat) (cy : Nat → ClassId) (σ : zSt) (x1 : Int32) (res : zSt × Int32) (hf : fX12_register σ x1 = some res) (sz : Nat) : zMi st l yX12_register wzX12_register rmX12_register [.ref (ad 0), .int x1] D (tM cy) (wM ad cy) sz σ res :=
  zMi.of (cc := cX12_register) (maxL := 2) (ret := (some .int)) (by decide) rfl (Nat.le_of_ble_eq_true rfl) (fun p e s m args below meth c hC A hI ls hl => bX12_register hC hI hl hf)
theorem hdX12_register : yX12_register.cls = RX12 ∧ yX12_register.cls ≠ "java/lang/invoke/MethodHandle" ∧ yX12_register.cls ≠ "java/lang/invoke/VarHandle" ∧ (parseMethodDescriptor yX12_register.desc).map (fun d => d.parameters.length) = some 1 := by decide +kernel
def rmX12_set : Room := { frames := 1, cells := 0, slots := 0, locals := 25 }
def wzX12_set : List Cond := .code yX12_set cX12_set 3 none :: wsL_law
theorem hinX12_set_X120 : ∀ w ∈ wsX120, w ∈ wzX12_set := fun w h => List.mem_cons_of_mem _ (inlX12 w h)
def fX12_set_105  (σ : zSt)  : Option (zSt) :=
  some σ
def fX12_set_51  (σ : zSt) (s0 : Int32) (s1 : Int32) : Option (zSt) :=
  zck (zin s1 1048) (zbv (zsi σ 3 (s1.toNatClampNeg) s0) (fun σ1 =>
  fX12_set_105 σ1))
def fX12_set_104  (σ : zSt) (s0 : Int32) (s1 : Int32) : Option (zSt) :=
  zck (zin s1 1048) (zbv (zsi σ 3 (s1.toNatClampNeg) s0) (fun σ2 =>
  fX12_set_105 σ2))
def fX12_set_18  (σ : zSt) (x1 : Int32) (x2 : Int32) (s0 : Int32) : Option (zSt) :=
  zbi (fX12_fails σ s0 1) (fun σ3 v4 =>
  if v4 = 0 then if x1 = 25 then if (x2 &&& 3) = 3 then fX12_set_51 σ3 2 x1 else
  fX12_set_51 σ3 (x2 &&& 3) x1 else
  if 16 ≤ x1 then if 20 < x1 then if 22 < x1 then fX12_set_104 σ3 (x2 &&& 1) x1 else
  fX12_set_104 σ3 (x2 &&& 255) x1 else
  fX12_set_104 σ3 (x2 &&& 65535) x1 else
  fX12_set_104 σ3 (x2 &&& 255) x1 else
  some σ3)
def fX12_set  (σ : zSt) (x1 : Int32) (x2 : Int32) : Option (zSt) :=
  zbi (fX12_within σ (x1.toInt64) 0 25) (fun σ5 v6 =>
  if v6 = 0 then fX12_set_18 σ5 x1 x2 1 else
  fX12_set_18 σ5 x1 x2 0)
set_option maxRecDepth 20000 in
set_option maxHeartbeats 4000000 in
theorem bX12_set_105 {st : Nat → Nat} {p : Program} {l : Launch} {e : Env} {s : State} {m : MethodId} {args : Array Value} {below : List Frame} {meth : Method} {c : Code} {D : va_G} {A : Nat → Prop} {ad : Nat → Nat} {cy : Nat → ClassId} (hC : zC p m c cX12_set 3 s args wzX12_set RX12 meth none)  {res : zSt} {H : Heap} {locs : List Loc} {σ : zSt} {ls : Array Slot}  (hI : zI st D (tM cy) (wM ad cy σ) A s H locs) (hl : lv_has ls 3 []) (hf : fX12_set_105  σ  = some res) : W p l e rmX12_set s m args below meth c H locs 0 0 (zQu below args s D (tM cy) (wM ad cy) A res) (F0 m 105 ls []) := by
  have hx := hC.1
  have hb := hC.2.1
  unfold fX12_set_105 at hf
  exact z_return hC hI hf dX12_set_105
set_option maxRecDepth 20000 in
set_option maxHeartbeats 4000000 in
theorem bX12_set_51 {st : Nat → Nat} {p : Program} {l : Launch} {e : Env} {s : State} {m : MethodId} {args : Array Value} {below : List Frame} {meth : Method} {c : Code} {D : va_G} {A : Nat → Prop} {ad : Nat → Nat} {cy : Nat → ClassId} (hC : zC p m c cX12_set 3 s args wzX12_set RX12 meth none)  {res : zSt} {H : Heap} {locs : List Loc} {σ : zSt} {ls : Array Slot} {s0 : Int32} {s1 : Int32} (hI : zI st D (tM cy) (wM ad cy σ) A s H locs) (hl : lv_has ls 3 []) (hf : fX12_set_51  σ s0 s1 = some res) : W p l e rmX12_set s m args below meth c H locs 0 0 (zQu below args s D (tM cy) (wM ad cy) A res) (F0 m 51 ls [.int s0, .int s1, .ref (ad 3)]) := by
  have hx := hC.1
  have hb := hC.2.1
  unfold fX12_set_51 at hf
  obtain ⟨q, hf⟩ := zck_use hf
  obtain ⟨σ1, eσ1⟩ : ∃ z, z = zsi σ 3 (s1.toNatClampNeg) s0 := ⟨_, rfl⟩
  replace hf := zbv_use eσ1 hf
  refine z_iast hC hI 3 2 (wM_e3 ad cy σ) (tM_t3 cy) q ((wM_s3 ad cy σ _ _).trans (congrArg (wM ad cy) eσ1.symm)) dX12_set_51 (fun H locs hI => ?_)
  refine lv_goto (tgt := 105) hx hb dX12_set_52 (by decide) ?_
  exact bX12_set_105 hC  hI hl hf
set_option maxRecDepth 20000 in
set_option maxHeartbeats 4000000 in
theorem bX12_set_104 {st : Nat → Nat} {p : Program} {l : Launch} {e : Env} {s : State} {m : MethodId} {args : Array Value} {below : List Frame} {meth : Method} {c : Code} {D : va_G} {A : Nat → Prop} {ad : Nat → Nat} {cy : Nat → ClassId} (hC : zC p m c cX12_set 3 s args wzX12_set RX12 meth none)  {res : zSt} {H : Heap} {locs : List Loc} {σ : zSt} {ls : Array Slot} {s0 : Int32} {s1 : Int32} (hI : zI st D (tM cy) (wM ad cy σ) A s H locs) (hl : lv_has ls 3 []) (hf : fX12_set_104  σ s0 s1 = some res) : W p l e rmX12_set s m args below meth c H locs 0 0 (zQu below args s D (tM cy) (wM ad cy) A res) (F0 m 104 ls [.int s0, .int s1, .ref (ad 3)]) := by
  have hx := hC.1
  have hb := hC.2.1
  unfold fX12_set_104 at hf
  obtain ⟨q, hf⟩ := zck_use hf
  obtain ⟨σ2, eσ2⟩ : ∃ z, z = zsi σ 3 (s1.toNatClampNeg) s0 := ⟨_, rfl⟩
  replace hf := zbv_use eσ2 hf
  refine z_iast hC hI 3 2 (wM_e3 ad cy σ) (tM_t3 cy) q ((wM_s3 ad cy σ _ _).trans (congrArg (wM ad cy) eσ2.symm)) dX12_set_104 (fun H locs hI => ?_)
  exact bX12_set_105 hC  hI hl hf
set_option maxRecDepth 20000 in
set_option maxHeartbeats 4000000 in
theorem bX12_set_18 {st : Nat → Nat} {p : Program} {l : Launch} {e : Env} {s : State} {m : MethodId} {args : Array Value} {below : List Frame} {meth : Method} {c : Code} {D : va_G} {A : Nat → Prop} {ad : Nat → Nat} {cy : Nat → ClassId} (hC : zC p m c cX12_set 3 s args wzX12_set RX12 meth none)  {res : zSt} {H : Heap} {locs : List Loc} {σ : zSt} {ls : Array Slot} {x1 : Int32} {x2 : Int32} {s0 : Int32} (hI : zI st D (tM cy) (wM ad cy σ) A s H locs) (hl : lv_has ls 3 [(0, .ref (ad 0)), (1, .int x1), (2, .int x2)]) (hf : fX12_set_18  σ x1 x2 s0 = some res) : W p l e rmX12_set s m args below meth c H locs 0 0 (zQu below args s D (tM cy) (wM ad cy) A res) (F0 m 18 ls [.int s0, .ref (ad 0)]) := by
  have hx := hC.1
  have hb := hC.2.1
  unfold fX12_set_18 at hf
  refine lv_iconst (v := 1) hx hb dX12_set_18 (by decide) ?_
  obtain ⟨σ3, v4, g3, hf⟩ := zbi_use hf
  refine z_callVi (As := [.int s0, .int 1]) (rest := []) hC hI (cX12_fails_met st l D ad cy σ s0 1 _ g3) (zgV zw11_21 zw11_22 zw11_23 zw1_5 zw12_0) rfl ⟨rfl, rfl⟩ 2 hdX12_fails ⟨Nat.le_of_ble_eq_true rfl, Nat.le_of_ble_eq_true rfl⟩ rfl rfl (wM_e0 ad cy σ) rfl hl rfl (Nat.le_of_ble_eq_true rfl) dX12_set_19 ⟨Nat.zero_le _, Nat.zero_le _⟩ (fun H locs hI => ?_)
  refine lv_if_eq (tgt := 26) hx hb dX12_set_22 (by decide) (fun q => ?_) (fun q => ?_)
  · replace hf := zif_t q hf
    refine lv_iload_n hx hb dX12_set_26 rfl (lv_at hl 1 rfl) ?_
    refine lv_bipush (v := 25) hx hb dX12_set_27 (by decide) ?_
    refine lv_icmp_ne (tgt := 55) hx hb dX12_set_29 (by decide) (fun q => ?_) (fun q => ?_)
    · replace hf := zif_f q hf
      refine lv_aload_n hx hb dX12_set_55 rfl (lv_at hl 0 rfl) ?_
      refine z_get hC hI hinX12_set_X120 0 (wM_e0 ad cy σ3) rfl 10 (by decide) (List.mem_cons_of_mem _ zw9_7) rfl dX12_set_56 ?_
      refine lv_iload_n hx hb dX12_set_59 rfl (lv_at hl 1 rfl) ?_
      refine lv_iload_n hx hb dX12_set_60 rfl (lv_at hl 1 rfl) ?_
      refine lv_bipush (v := 16) hx hb dX12_set_61 (by decide) ?_
      refine lv_icmp_ge (tgt := 74) hx hb dX12_set_63 (by decide) (fun q => ?_) (fun q => ?_)
      · replace hf := zif_t q hf
        refine lv_iload_n hx hb dX12_set_74 rfl (lv_at hl 1 rfl) ?_
        refine lv_bipush (v := 20) hx hb dX12_set_75 (by decide) ?_
        refine lv_icmp_gt (tgt := 87) hx hb dX12_set_77 (by decide) (fun q => ?_) (fun q => ?_)
        · replace hf := zif_t q hf
          refine lv_iload_n hx hb dX12_set_87 rfl (lv_at hl 1 rfl) ?_
          refine lv_bipush (v := 22) hx hb dX12_set_88 (by decide) ?_
          refine lv_icmp_gt (tgt := 101) hx hb dX12_set_90 (by decide) (fun q => ?_) (fun q => ?_)
          · replace hf := zif_t q hf
            refine lv_iload_n hx hb dX12_set_101 rfl (lv_at hl 2 rfl) ?_
            refine lv_iconst (v := 1) hx hb dX12_set_102 (by decide) ?_
            refine lv_iand hx hb dX12_set_103 ?_
            exact bX12_set_104 hC  hI (lv_sub hl [] rfl) hf
          replace hf := zif_f q hf
          refine lv_iload_n hx hb dX12_set_93 rfl (lv_at hl 2 rfl) ?_
          refine lv_sipush (v := 255) hx hb dX12_set_94 (by decide) ?_
          refine lv_iand hx hb dX12_set_97 ?_
          refine lv_goto (tgt := 104) hx hb dX12_set_98 (by decide) ?_
          exact bX12_set_104 hC  hI (lv_sub hl [] rfl) hf
        replace hf := zif_f q hf
        refine lv_iload_n hx hb dX12_set_80 rfl (lv_at hl 2 rfl) ?_
        refine lv_ldc (v := 65535) hx hb hC.2.2.2.1 (hC.2.2.2.2.1 _ (List.mem_cons_of_mem _ zw16_11)) dX12_set_81 ?_
        refine lv_iand hx hb dX12_set_83 ?_
        refine lv_goto (tgt := 104) hx hb dX12_set_84 (by decide) ?_
        exact bX12_set_104 hC  hI (lv_sub hl [] rfl) hf
      replace hf := zif_f q hf
      refine lv_iload_n hx hb dX12_set_66 rfl (lv_at hl 2 rfl) ?_
      refine lv_sipush (v := 255) hx hb dX12_set_67 (by decide) ?_
      refine lv_iand hx hb dX12_set_70 ?_
      refine lv_goto (tgt := 104) hx hb dX12_set_71 (by decide) ?_
      exact bX12_set_104 hC  hI (lv_sub hl [] rfl) hf
    replace hf := zif_t q hf
    refine lv_aload_n hx hb dX12_set_32 rfl (lv_at hl 0 rfl) ?_
    refine z_get hC hI hinX12_set_X120 0 (wM_e0 ad cy σ3) rfl 10 (by decide) (List.mem_cons_of_mem _ zw9_7) rfl dX12_set_33 ?_
    refine lv_iload_n hx hb dX12_set_36 rfl (lv_at hl 1 rfl) ?_
    refine lv_iload_n hx hb dX12_set_37 rfl (lv_at hl 2 rfl) ?_
    refine lv_iconst (v := 3) hx hb dX12_set_38 (by decide) ?_
    refine lv_iand hx hb dX12_set_39 ?_
    refine lv_iconst (v := 3) hx hb dX12_set_40 (by decide) ?_
    refine lv_icmp_ne (tgt := 48) hx hb dX12_set_41 (by decide) (fun q => ?_) (fun q => ?_)
    · replace hf := zif_f q hf
      refine lv_iload_n hx hb dX12_set_48 rfl (lv_at hl 2 rfl) ?_
      refine lv_iconst (v := 3) hx hb dX12_set_49 (by decide) ?_
      refine lv_iand hx hb dX12_set_50 ?_
      exact bX12_set_51 hC  hI (lv_sub hl [] rfl) hf
    replace hf := zif_t q hf
    refine lv_iconst (v := 2) hx hb dX12_set_44 (by decide) ?_
    refine lv_goto (tgt := 51) hx hb dX12_set_45 (by decide) ?_
    exact bX12_set_51 hC  hI (lv_sub hl [] rfl) hf
  replace hf := zif_f q hf
  exact z_return hC hI hf dX12_set_25
set_option maxRecDepth 20000 in
set_option maxHeartbeats 4000000 in
theorem bX12_set {st : Nat → Nat} {p : Program} {l : Launch} {e : Env} {s : State} {m : MethodId} {args : Array Value} {below : List Frame} {meth : Method} {c : Code} {D : va_G} {A : Nat → Prop} {ad : Nat → Nat} {cy : Nat → ClassId} (hC : zC p m c cX12_set 3 s args wzX12_set RX12 meth none)  {res : zSt} {H : Heap} {locs : List Loc} {σ : zSt} {ls : Array Slot} {x1 : Int32} {x2 : Int32} (hI : zI st D (tM cy) (wM ad cy σ) A s H locs) (hl : lv_has ls 3 [(0, .ref (ad 0)), (1, .int x1), (2, .int x2)]) (hf : fX12_set  σ x1 x2 = some res) : W p l e rmX12_set s m args below meth c H locs 0 0 (zQu below args s D (tM cy) (wM ad cy) A res) (F0 m 0 ls []) := by
  have hx := hC.1
  have hb := hC.2.1
  unfold fX12_set at hf
  refine lv_aload_n hx hb dX12_set_0 rfl (lv_at hl 0 rfl) ?_
  refine lv_iload_n hx hb dX12_set_1 rfl (lv_at hl 1 rfl) ?_
  refine lv_i2l (v := x1.toInt64) hx hb dX12_set_2 rfl ?_
  refine lv_lconst (v := 0) hx hb dX12_set_3 (by decide) ?_
  refine lv_ldc2 (v := 25) hx hb hC.2.2.2.1 (hC.2.2.2.2.1 _ (List.mem_cons_of_mem _ zw85_20)) dX12_set_4 ?_
  obtain ⟨σ5, v6, g5, hf⟩ := zbi_use hf
  refine z_callSi (As := [.long (x1.toInt64), .long 0, .long 25]) (rest := [.ref (ad 0)]) hC hI (cX12_within_met st l D ad cy σ (x1.toInt64) 0 25 _ g5) (zgS zw11_18 zw11_19 zw1_5 zw11_20) rfl ⟨rfl, rfl⟩ 3 hdX12_within ⟨Nat.le_of_ble_eq_true rfl, Nat.le_of_ble_eq_true rfl⟩ rfl hl rfl (Nat.le_of_ble_eq_true rfl) dX12_set_7 ⟨Nat.zero_le _, Nat.zero_le _⟩ (fun H locs hI => ?_)
  refine lv_if_ne (tgt := 17) hx hb dX12_set_10 (by decide) (fun q => ?_) (fun q => ?_)
  · replace hf := zif_f q hf
    refine lv_iconst (v := 0) hx hb dX12_set_17 (by decide) ?_
    exact bX12_set_18 hC  hI hl hf
  replace hf := zif_t q hf
  refine lv_iconst (v := 1) hx hb dX12_set_13 (by decide) ?_
  refine lv_goto (tgt := 18) hx hb dX12_set_14 (by decide) ?_
  exact bX12_set_18 hC  hI hl hf
set_option maxRecDepth 20000 in
theorem cX12_set_met (st : Nat → Nat) (l : Launch) (D : va_G) (ad : Nat → Nat) (cy : Nat → ClassId) (σ : zSt) (x1 : Int32) (x2 : Int32) (res : zSt) (hf : fX12_set σ x1 x2 = some res) (sz : Nat) : zMu st l yX12_set wzX12_set rmX12_set [.ref (ad 0), .int x1, .int x2] D (tM cy) (wM ad cy) sz σ res :=
  zMu.of (cc := cX12_set) (maxL := 3) (ret := none) (by decide) rfl (Nat.le_of_ble_eq_true rfl) (fun p e s m args below meth c hC A hI ls hl => bX12_set hC hI hl hf)
theorem hdX12_set : yX12_set.cls = RX12 ∧ yX12_set.cls ≠ "java/lang/invoke/MethodHandle" ∧ yX12_set.cls ≠ "java/lang/invoke/VarHandle" ∧ (parseMethodDescriptor yX12_set.desc).map (fun d => d.parameters.length) = some 2 := by decide +kernel
def rmX12_peek : Room := { frames := 2, cells := 0, slots := 0, locals := 44 }
def wzX12_peek : List Cond := .code yX12_peek cX12_peek 2 (some .int) :: wsL_law
theorem hinX12_peek_X120 : ∀ w ∈ wsX120, w ∈ wzX12_peek := fun w h => List.mem_cons_of_mem _ (inlX12 w h)
def fX12_peek  (σ : zSt) (x1 : Int32) : Option (zSt × Int32) :=
  zbv (zsi σ 0 0 0) (fun σ1 =>
  zbi (fX12_read σ1 x1) (fun σ2 v3 =>
  some (σ2, v3)))
set_option maxRecDepth 20000 in
set_option maxHeartbeats 4000000 in
theorem bX12_peek {st : Nat → Nat} {p : Program} {l : Launch} {e : Env} {s : State} {m : MethodId} {args : Array Value} {below : List Frame} {meth : Method} {c : Code} {D : va_G} {A : Nat → Prop} {ad : Nat → Nat} {cy : Nat → ClassId} (hC : zC p m c cX12_peek 2 s args wzX12_peek RX12 meth (some .int))  {res : zSt × Int32} {H : Heap} {locs : List Loc} {σ : zSt} {ls : Array Slot} {x1 : Int32} (hI : zI st D (tM cy) (wM ad cy σ) A s H locs) (hl : lv_has ls 2 [(0, .ref (ad 0)), (1, .int x1)]) (hf : fX12_peek  σ x1 = some res) : W p l e rmX12_peek s m args below meth c H locs 0 0 (zQi below args s D (tM cy) (wM ad cy) A res) (F0 m 0 ls []) := by
  have hx := hC.1
  have hb := hC.2.1
  unfold fX12_peek at hf
  refine lv_aload_n hx hb dX12_peek_0 rfl (lv_at hl 0 rfl) ?_
  refine lv_iconst (v := 0) hx hb dX12_peek_1 (by decide) ?_
  obtain ⟨σ1, eσ1⟩ : ∃ z, z = zsi σ 0 0 0 := ⟨_, rfl⟩
  replace hf := zbv_use eσ1 hf
  refine z_put hC hI hinX12_peek_X120 tyX12_ok nmX12 0 (wM_e0 ad cy σ) rfl 0 (by decide) (List.mem_cons_of_mem _ zw12_1) rfl rfl rfl (Nat.le_of_ble_eq_true rfl) ((wM_s0_0 ad cy σ 0).trans (congrArg (wM ad cy) eσ1.symm)) dX12_peek_2 (fun H locs hI => ?_)
  refine lv_aload_n hx hb dX12_peek_5 rfl (lv_at hl 0 rfl) ?_
  refine lv_iload_n hx hb dX12_peek_6 rfl (lv_at hl 1 rfl) ?_
  obtain ⟨σ2, v3, g2, hf⟩ := zbi_use hf
  refine z_callVi (As := [.int x1]) (rest := []) hC hI (cX12_read_met st l D ad cy σ1 x1 _ g2) (zgV zw49_8 zw49_9 zw49_10 zw1_5 zw49_11) rfl ⟨rfl, rfl⟩ 1 hdX12_read ⟨Nat.le_of_ble_eq_true rfl, Nat.le_of_ble_eq_true rfl⟩ rfl rfl (wM_e0 ad cy σ1) rfl hl rfl (Nat.le_of_ble_eq_true rfl) dX12_peek_7 ⟨Nat.zero_le _, Nat.zero_le _⟩ (fun H locs hI => ?_)
  exact z_ireturn hC hI hf dX12_peek_10
set_option maxRecDepth 20000 in
theorem cX12_peek_met (st : Nat → Nat) (l : Launch) (D : va_G) (ad : Nat → Nat) (cy : Nat → ClassId) (σ : zSt) (x1 : Int32) (res : zSt × Int32) (hf : fX12_peek σ x1 = some res) (sz : Nat) : zMi st l yX12_peek wzX12_peek rmX12_peek [.ref (ad 0), .int x1] D (tM cy) (wM ad cy) sz σ res :=
  zMi.of (cc := cX12_peek) (maxL := 2) (ret := (some .int)) (by decide) rfl (Nat.le_of_ble_eq_true rfl) (fun p e s m args below meth c hC A hI ls hl => bX12_peek hC hI hl hf)
theorem hdX12_peek : yX12_peek.cls = RX12 ∧ yX12_peek.cls ≠ "java/lang/invoke/MethodHandle" ∧ yX12_peek.cls ≠ "java/lang/invoke/VarHandle" ∧ (parseMethodDescriptor yX12_peek.desc).map (fun d => d.parameters.length) = some 1 := by decide +kernel
def rmX12_poke : Room := { frames := 2, cells := 0, slots := 0, locals := 45 }
def wzX12_poke : List Cond := .code yX12_poke cX12_poke 3 none :: wsL_law
theorem hinX12_poke_X120 : ∀ w ∈ wsX120, w ∈ wzX12_poke := fun w h => List.mem_cons_of_mem _ (inlX12 w h)
def fX12_poke  (σ : zSt) (x1 : Int32) (x2 : Int32) : Option (zSt) :=
  zbv (zsi σ 0 0 0) (fun σ1 =>
  zbu (fX12_write σ1 x1 x2) (fun σ2 =>
  some σ2))
set_option maxRecDepth 20000 in
set_option maxHeartbeats 4000000 in
theorem bX12_poke {st : Nat → Nat} {p : Program} {l : Launch} {e : Env} {s : State} {m : MethodId} {args : Array Value} {below : List Frame} {meth : Method} {c : Code} {D : va_G} {A : Nat → Prop} {ad : Nat → Nat} {cy : Nat → ClassId} (hC : zC p m c cX12_poke 3 s args wzX12_poke RX12 meth none)  {res : zSt} {H : Heap} {locs : List Loc} {σ : zSt} {ls : Array Slot} {x1 : Int32} {x2 : Int32} (hI : zI st D (tM cy) (wM ad cy σ) A s H locs) (hl : lv_has ls 3 [(0, .ref (ad 0)), (1, .int x1), (2, .int x2)]) (hf : fX12_poke  σ x1 x2 = some res) : W p l e rmX12_poke s m args below meth c H locs 0 0 (zQu below args s D (tM cy) (wM ad cy) A res) (F0 m 0 ls []) := by
  have hx := hC.1
  have hb := hC.2.1
  unfold fX12_poke at hf
  refine lv_aload_n hx hb dX12_poke_0 rfl (lv_at hl 0 rfl) ?_
  refine lv_iconst (v := 0) hx hb dX12_poke_1 (by decide) ?_
  obtain ⟨σ1, eσ1⟩ : ∃ z, z = zsi σ 0 0 0 := ⟨_, rfl⟩
  replace hf := zbv_use eσ1 hf
  refine z_put hC hI hinX12_poke_X120 tyX12_ok nmX12 0 (wM_e0 ad cy σ) rfl 0 (by decide) (List.mem_cons_of_mem _ zw12_1) rfl rfl rfl (Nat.le_of_ble_eq_true rfl) ((wM_s0_0 ad cy σ 0).trans (congrArg (wM ad cy) eσ1.symm)) dX12_poke_2 (fun H locs hI => ?_)
  refine lv_aload_n hx hb dX12_poke_5 rfl (lv_at hl 0 rfl) ?_
  refine lv_iload_n hx hb dX12_poke_6 rfl (lv_at hl 1 rfl) ?_
  refine lv_iload_n hx hb dX12_poke_7 rfl (lv_at hl 2 rfl) ?_
  obtain ⟨σ2, g2, hf⟩ := zbu_use hf
  refine z_callVu (As := [.int x1, .int x2]) (rest := []) hC hI (cX12_write_met st l D ad cy σ1 x1 x2 _ g2) (zgV zw48_5 zw48_6 zw48_7 zw1_5 zw48_8) rfl ⟨rfl, rfl⟩ 2 hdX12_write ⟨Nat.le_of_ble_eq_true rfl, Nat.le_of_ble_eq_true rfl⟩ rfl rfl (wM_e0 ad cy σ1) rfl hl rfl (Nat.le_of_ble_eq_true rfl) dX12_poke_8 ⟨Nat.zero_le _, Nat.zero_le _⟩ (fun H locs hI => ?_)
  exact z_return hC hI hf dX12_poke_11
set_option maxRecDepth 20000 in
theorem cX12_poke_met (st : Nat → Nat) (l : Launch) (D : va_G) (ad : Nat → Nat) (cy : Nat → ClassId) (σ : zSt) (x1 : Int32) (x2 : Int32) (res : zSt) (hf : fX12_poke σ x1 x2 = some res) (sz : Nat) : zMu st l yX12_poke wzX12_poke rmX12_poke [.ref (ad 0), .int x1, .int x2] D (tM cy) (wM ad cy) sz σ res :=
  zMu.of (cc := cX12_poke) (maxL := 3) (ret := none) (by decide) rfl (Nat.le_of_ble_eq_true rfl) (fun p e s m args below meth c hC A hI ls hl => bX12_poke hC hI hl hf)
theorem hdX12_poke : yX12_poke.cls = RX12 ∧ yX12_poke.cls ≠ "java/lang/invoke/MethodHandle" ∧ yX12_poke.cls ≠ "java/lang/invoke/VarHandle" ∧ (parseMethodDescriptor yX12_poke.desc).map (fun d => d.parameters.length) = some 2 := by decide +kernel
def rmX12_in : Room := { frames := 5, cells := 0, slots := 0, locals := 108 }
def wzX12_in : List Cond := .code yX12_in cX12_in 2 (some .int) :: wsL_law
theorem hinX12_in_X120 : ∀ w ∈ wsX120, w ∈ wzX12_in := fun w h => List.mem_cons_of_mem _ (inlX12 w h)
def fX12_in  (σ : zSt) (x1 : Int32) : Option (zSt × Int32) :=
  zbv (zsi σ 0 0 0) (fun σ1 =>
  zbi (fX12_port σ1 (x1 &&& 255)) (fun σ2 v3 =>
  some (σ2, v3)))
set_option maxRecDepth 20000 in
set_option maxHeartbeats 4000000 in
theorem bX12_in {st : Nat → Nat} {p : Program} {l : Launch} {e : Env} {s : State} {m : MethodId} {args : Array Value} {below : List Frame} {meth : Method} {c : Code} {D : va_G} {A : Nat → Prop} {ad : Nat → Nat} {cy : Nat → ClassId} (hC : zC p m c cX12_in 2 s args wzX12_in RX12 meth (some .int))  {res : zSt × Int32} {H : Heap} {locs : List Loc} {σ : zSt} {ls : Array Slot} {x1 : Int32} (hI : zI st D (tM cy) (wM ad cy σ) A s H locs) (hl : lv_has ls 2 [(0, .ref (ad 0)), (1, .int x1)]) (hf : fX12_in  σ x1 = some res) : W p l e rmX12_in s m args below meth c H locs 0 0 (zQi below args s D (tM cy) (wM ad cy) A res) (F0 m 0 ls []) := by
  have hx := hC.1
  have hb := hC.2.1
  unfold fX12_in at hf
  refine lv_aload_n hx hb dX12_in_0 rfl (lv_at hl 0 rfl) ?_
  refine lv_iconst (v := 0) hx hb dX12_in_1 (by decide) ?_
  obtain ⟨σ1, eσ1⟩ : ∃ z, z = zsi σ 0 0 0 := ⟨_, rfl⟩
  replace hf := zbv_use eσ1 hf
  refine z_put hC hI hinX12_in_X120 tyX12_ok nmX12 0 (wM_e0 ad cy σ) rfl 0 (by decide) (List.mem_cons_of_mem _ zw12_1) rfl rfl rfl (Nat.le_of_ble_eq_true rfl) ((wM_s0_0 ad cy σ 0).trans (congrArg (wM ad cy) eσ1.symm)) dX12_in_2 (fun H locs hI => ?_)
  refine lv_aload_n hx hb dX12_in_5 rfl (lv_at hl 0 rfl) ?_
  refine lv_iload_n hx hb dX12_in_6 rfl (lv_at hl 1 rfl) ?_
  refine lv_sipush (v := 255) hx hb dX12_in_7 (by decide) ?_
  refine lv_iand hx hb dX12_in_10 ?_
  obtain ⟨σ2, v3, g2, hf⟩ := zbi_use hf
  refine z_callVi (As := [.int (x1 &&& 255)]) (rest := []) hC hI (cX12_port_met st l D ad cy σ1 (x1 &&& 255) _ g2) (zgV zw56_18 zw56_19 zw56_20 zw1_5 zw56_21) rfl ⟨rfl, rfl⟩ 1 hdX12_port ⟨Nat.le_of_ble_eq_true rfl, Nat.le_of_ble_eq_true rfl⟩ rfl rfl (wM_e0 ad cy σ1) rfl hl rfl (Nat.le_of_ble_eq_true rfl) dX12_in_11 ⟨Nat.zero_le _, Nat.zero_le _⟩ (fun H locs hI => ?_)
  exact z_ireturn hC hI hf dX12_in_14
set_option maxRecDepth 20000 in
theorem cX12_in_met (st : Nat → Nat) (l : Launch) (D : va_G) (ad : Nat → Nat) (cy : Nat → ClassId) (σ : zSt) (x1 : Int32) (res : zSt × Int32) (hf : fX12_in σ x1 = some res) (sz : Nat) : zMi st l yX12_in wzX12_in rmX12_in [.ref (ad 0), .int x1] D (tM cy) (wM ad cy) sz σ res :=
  zMi.of (cc := cX12_in) (maxL := 2) (ret := (some .int)) (by decide) rfl (Nat.le_of_ble_eq_true rfl) (fun p e s m args below meth c hC A hI ls hl => bX12_in hC hI hl hf)
theorem hdX12_in : yX12_in.cls = RX12 ∧ yX12_in.cls ≠ "java/lang/invoke/MethodHandle" ∧ yX12_in.cls ≠ "java/lang/invoke/VarHandle" ∧ (parseMethodDescriptor yX12_in.desc).map (fun d => d.parameters.length) = some 1 := by decide +kernel
def rmX12_out : Room := { frames := 3, cells := 0, slots := 0, locals := 67 }
def wzX12_out : List Cond := .code yX12_out cX12_out 3 none :: wsL_law
theorem hinX12_out_X120 : ∀ w ∈ wsX120, w ∈ wzX12_out := fun w h => List.mem_cons_of_mem _ (inlX12 w h)
def fX12_out  (σ : zSt) (x1 : Int32) (x2 : Int32) : Option (zSt) :=
  zbv (zsi σ 0 0 0) (fun σ1 =>
  zbu (fX12_portTo σ1 (x1 &&& 255) (x2 &&& 255)) (fun σ2 =>
  some σ2))
set_option maxRecDepth 20000 in
set_option maxHeartbeats 4000000 in
theorem bX12_out {st : Nat → Nat} {p : Program} {l : Launch} {e : Env} {s : State} {m : MethodId} {args : Array Value} {below : List Frame} {meth : Method} {c : Code} {D : va_G} {A : Nat → Prop} {ad : Nat → Nat} {cy : Nat → ClassId} (hC : zC p m c cX12_out 3 s args wzX12_out RX12 meth none)  {res : zSt} {H : Heap} {locs : List Loc} {σ : zSt} {ls : Array Slot} {x1 : Int32} {x2 : Int32} (hI : zI st D (tM cy) (wM ad cy σ) A s H locs) (hl : lv_has ls 3 [(0, .ref (ad 0)), (1, .int x1), (2, .int x2)]) (hf : fX12_out  σ x1 x2 = some res) : W p l e rmX12_out s m args below meth c H locs 0 0 (zQu below args s D (tM cy) (wM ad cy) A res) (F0 m 0 ls []) := by
  have hx := hC.1
  have hb := hC.2.1
  unfold fX12_out at hf
  refine lv_aload_n hx hb dX12_out_0 rfl (lv_at hl 0 rfl) ?_
  refine lv_iconst (v := 0) hx hb dX12_out_1 (by decide) ?_
  obtain ⟨σ1, eσ1⟩ : ∃ z, z = zsi σ 0 0 0 := ⟨_, rfl⟩
  replace hf := zbv_use eσ1 hf
  refine z_put hC hI hinX12_out_X120 tyX12_ok nmX12 0 (wM_e0 ad cy σ) rfl 0 (by decide) (List.mem_cons_of_mem _ zw12_1) rfl rfl rfl (Nat.le_of_ble_eq_true rfl) ((wM_s0_0 ad cy σ 0).trans (congrArg (wM ad cy) eσ1.symm)) dX12_out_2 (fun H locs hI => ?_)
  refine lv_aload_n hx hb dX12_out_5 rfl (lv_at hl 0 rfl) ?_
  refine lv_iload_n hx hb dX12_out_6 rfl (lv_at hl 1 rfl) ?_
  refine lv_sipush (v := 255) hx hb dX12_out_7 (by decide) ?_
  refine lv_iand hx hb dX12_out_10 ?_
  refine lv_iload_n hx hb dX12_out_11 rfl (lv_at hl 2 rfl) ?_
  refine lv_sipush (v := 255) hx hb dX12_out_12 (by decide) ?_
  refine lv_iand hx hb dX12_out_15 ?_
  obtain ⟨σ2, g2, hf⟩ := zbu_use hf
  refine z_callVu (As := [.int (x1 &&& 255), .int (x2 &&& 255)]) (rest := []) hC hI (cX12_portTo_met st l D ad cy σ1 (x1 &&& 255) (x2 &&& 255) _ g2) (zgV zw55_10 zw55_11 zw55_12 zw1_5 zw55_13) rfl ⟨rfl, rfl⟩ 2 hdX12_portTo ⟨Nat.le_of_ble_eq_true rfl, Nat.le_of_ble_eq_true rfl⟩ rfl rfl (wM_e0 ad cy σ1) rfl hl rfl (Nat.le_of_ble_eq_true rfl) dX12_out_16 ⟨Nat.zero_le _, Nat.zero_le _⟩ (fun H locs hI => ?_)
  exact z_return hC hI hf dX12_out_19
set_option maxRecDepth 20000 in
theorem cX12_out_met (st : Nat → Nat) (l : Launch) (D : va_G) (ad : Nat → Nat) (cy : Nat → ClassId) (σ : zSt) (x1 : Int32) (x2 : Int32) (res : zSt) (hf : fX12_out σ x1 x2 = some res) (sz : Nat) : zMu st l yX12_out wzX12_out rmX12_out [.ref (ad 0), .int x1, .int x2] D (tM cy) (wM ad cy) sz σ res :=
  zMu.of (cc := cX12_out) (maxL := 3) (ret := none) (by decide) rfl (Nat.le_of_ble_eq_true rfl) (fun p e s m args below meth c hC A hI ls hl => bX12_out hC hI hl hf)
theorem hdX12_out : yX12_out.cls = RX12 ∧ yX12_out.cls ≠ "java/lang/invoke/MethodHandle" ∧ yX12_out.cls ≠ "java/lang/invoke/VarHandle" ∧ (parseMethodDescriptor yX12_out.desc).map (fun d => d.parameters.length) = some 2 := by decide +kernel
def rmX12_battery : Room := { frames := 1, cells := 0, slots := 0, locals := 25 }
def wzX12_battery : List Cond := .code yX12_battery cX12_battery 2 (some .int) :: wsL_law
theorem hinX12_battery_X120 : ∀ w ∈ wsX120, w ∈ wzX12_battery := fun w h => List.mem_cons_of_mem _ (inlX12 w h)
def fX12_battery_39  (σ : zSt) (s0 : Int32) : Option (zSt × Int32) :=
  some (σ, s0)
def fX12_battery_18  (σ : zSt) (x1 : Int32) (s0 : Int32) : Option (zSt × Int32) :=
  zbi (fX12_fails σ s0 1) (fun σ1 v2 =>
  if v2 = 0 then zck (zin x1 32768) (
  fX12_battery_39 σ1 ((zgi σ1 6 x1.toNatClampNeg) &&& 255)) else
  fX12_battery_39 σ1 0)
def fX12_battery  (σ : zSt) (x1 : Int32) : Option (zSt × Int32) :=
  zbi (fX12_within σ (x1.toInt64) 0 32767) (fun σ3 v4 =>
  if v4 = 0 then fX12_battery_18 σ3 x1 1 else
  fX12_battery_18 σ3 x1 0)
set_option maxRecDepth 20000 in
set_option maxHeartbeats 4000000 in
theorem bX12_battery_39 {st : Nat → Nat} {p : Program} {l : Launch} {e : Env} {s : State} {m : MethodId} {args : Array Value} {below : List Frame} {meth : Method} {c : Code} {D : va_G} {A : Nat → Prop} {ad : Nat → Nat} {cy : Nat → ClassId} (hC : zC p m c cX12_battery 2 s args wzX12_battery RX12 meth (some .int))  {res : zSt × Int32} {H : Heap} {locs : List Loc} {σ : zSt} {ls : Array Slot} {s0 : Int32} (hI : zI st D (tM cy) (wM ad cy σ) A s H locs) (hl : lv_has ls 2 []) (hf : fX12_battery_39  σ s0 = some res) : W p l e rmX12_battery s m args below meth c H locs 0 0 (zQi below args s D (tM cy) (wM ad cy) A res) (F0 m 39 ls [.int s0]) := by
  have hx := hC.1
  have hb := hC.2.1
  unfold fX12_battery_39 at hf
  exact z_ireturn hC hI hf dX12_battery_39
set_option maxRecDepth 20000 in
set_option maxHeartbeats 4000000 in
theorem bX12_battery_18 {st : Nat → Nat} {p : Program} {l : Launch} {e : Env} {s : State} {m : MethodId} {args : Array Value} {below : List Frame} {meth : Method} {c : Code} {D : va_G} {A : Nat → Prop} {ad : Nat → Nat} {cy : Nat → ClassId} (hC : zC p m c cX12_battery 2 s args wzX12_battery RX12 meth (some .int))  {res : zSt × Int32} {H : Heap} {locs : List Loc} {σ : zSt} {ls : Array Slot} {x1 : Int32} {s0 : Int32} (hI : zI st D (tM cy) (wM ad cy σ) A s H locs) (hl : lv_has ls 2 [(0, .ref (ad 0)), (1, .int x1)]) (hf : fX12_battery_18  σ x1 s0 = some res) : W p l e rmX12_battery s m args below meth c H locs 0 0 (zQi below args s D (tM cy) (wM ad cy) A res) (F0 m 18 ls [.int s0, .ref (ad 0)]) := by
  have hx := hC.1
  have hb := hC.2.1
  unfold fX12_battery_18 at hf
  refine lv_iconst (v := 1) hx hb dX12_battery_18 (by decide) ?_
  obtain ⟨σ1, v2, g1, hf⟩ := zbi_use hf
  refine z_callVi (As := [.int s0, .int 1]) (rest := []) hC hI (cX12_fails_met st l D ad cy σ s0 1 _ g1) (zgV zw11_21 zw11_22 zw11_23 zw1_5 zw12_0) rfl ⟨rfl, rfl⟩ 2 hdX12_fails ⟨Nat.le_of_ble_eq_true rfl, Nat.le_of_ble_eq_true rfl⟩ rfl rfl (wM_e0 ad cy σ) rfl hl rfl (Nat.le_of_ble_eq_true rfl) dX12_battery_19 ⟨Nat.zero_le _, Nat.zero_le _⟩ (fun H locs hI => ?_)
  refine lv_if_eq (tgt := 29) hx hb dX12_battery_22 (by decide) (fun q => ?_) (fun q => ?_)
  · replace hf := zif_t q hf
    refine lv_aload_n hx hb dX12_battery_29 rfl (lv_at hl 0 rfl) ?_
    refine z_get hC hI hinX12_battery_X120 0 (wM_e0 ad cy σ1) rfl 13 (by decide) (List.mem_cons_of_mem _ zw9_11) rfl dX12_battery_30 ?_
    refine lv_iload_n hx hb dX12_battery_33 rfl (lv_at hl 1 rfl) ?_
    obtain ⟨q, hf⟩ := zck_use hf
    refine z_bald hC hI 6 5 (wM_e6 ad cy σ1) (tM_t6 cy) q dX12_battery_34 ?_
    refine lv_sipush (v := 255) hx hb dX12_battery_35 (by decide) ?_
    refine lv_iand hx hb dX12_battery_38 ?_
    exact bX12_battery_39 hC  hI (lv_sub hl [] rfl) hf
  replace hf := zif_f q hf
  refine lv_iconst (v := 0) hx hb dX12_battery_25 (by decide) ?_
  refine lv_goto (tgt := 39) hx hb dX12_battery_26 (by decide) ?_
  exact bX12_battery_39 hC  hI (lv_sub hl [] rfl) hf
set_option maxRecDepth 20000 in
set_option maxHeartbeats 4000000 in
theorem bX12_battery {st : Nat → Nat} {p : Program} {l : Launch} {e : Env} {s : State} {m : MethodId} {args : Array Value} {below : List Frame} {meth : Method} {c : Code} {D : va_G} {A : Nat → Prop} {ad : Nat → Nat} {cy : Nat → ClassId} (hC : zC p m c cX12_battery 2 s args wzX12_battery RX12 meth (some .int))  {res : zSt × Int32} {H : Heap} {locs : List Loc} {σ : zSt} {ls : Array Slot} {x1 : Int32} (hI : zI st D (tM cy) (wM ad cy σ) A s H locs) (hl : lv_has ls 2 [(0, .ref (ad 0)), (1, .int x1)]) (hf : fX12_battery  σ x1 = some res) : W p l e rmX12_battery s m args below meth c H locs 0 0 (zQi below args s D (tM cy) (wM ad cy) A res) (F0 m 0 ls []) := by
  have hx := hC.1
  have hb := hC.2.1
  unfold fX12_battery at hf
  refine lv_aload_n hx hb dX12_battery_0 rfl (lv_at hl 0 rfl) ?_
  refine lv_iload_n hx hb dX12_battery_1 rfl (lv_at hl 1 rfl) ?_
  refine lv_i2l (v := x1.toInt64) hx hb dX12_battery_2 rfl ?_
  refine lv_lconst (v := 0) hx hb dX12_battery_3 (by decide) ?_
  refine lv_ldc2 (v := 32767) hx hb hC.2.2.2.1 (hC.2.2.2.2.1 _ (List.mem_cons_of_mem _ zw88_1)) dX12_battery_4 ?_
  obtain ⟨σ3, v4, g3, hf⟩ := zbi_use hf
  refine z_callSi (As := [.long (x1.toInt64), .long 0, .long 32767]) (rest := [.ref (ad 0)]) hC hI (cX12_within_met st l D ad cy σ (x1.toInt64) 0 32767 _ g3) (zgS zw11_18 zw11_19 zw1_5 zw11_20) rfl ⟨rfl, rfl⟩ 3 hdX12_within ⟨Nat.le_of_ble_eq_true rfl, Nat.le_of_ble_eq_true rfl⟩ rfl hl rfl (Nat.le_of_ble_eq_true rfl) dX12_battery_7 ⟨Nat.zero_le _, Nat.zero_le _⟩ (fun H locs hI => ?_)
  refine lv_if_ne (tgt := 17) hx hb dX12_battery_10 (by decide) (fun q => ?_) (fun q => ?_)
  · replace hf := zif_f q hf
    refine lv_iconst (v := 0) hx hb dX12_battery_17 (by decide) ?_
    exact bX12_battery_18 hC  hI hl hf
  replace hf := zif_t q hf
  refine lv_iconst (v := 1) hx hb dX12_battery_13 (by decide) ?_
  refine lv_goto (tgt := 18) hx hb dX12_battery_14 (by decide) ?_
  exact bX12_battery_18 hC  hI hl hf
set_option maxRecDepth 20000 in
theorem cX12_battery_met (st : Nat → Nat) (l : Launch) (D : va_G) (ad : Nat → Nat) (cy : Nat → ClassId) (σ : zSt) (x1 : Int32) (res : zSt × Int32) (hf : fX12_battery σ x1 = some res) (sz : Nat) : zMi st l yX12_battery wzX12_battery rmX12_battery [.ref (ad 0), .int x1] D (tM cy) (wM ad cy) sz σ res :=
  zMi.of (cc := cX12_battery) (maxL := 2) (ret := (some .int)) (by decide) rfl (Nat.le_of_ble_eq_true rfl) (fun p e s m args below meth c hC A hI ls hl => bX12_battery hC hI hl hf)
theorem hdX12_battery : yX12_battery.cls = RX12 ∧ yX12_battery.cls ≠ "java/lang/invoke/MethodHandle" ∧ yX12_battery.cls ≠ "java/lang/invoke/VarHandle" ∧ (parseMethodDescriptor yX12_battery.desc).map (fun d => d.parameters.length) = some 1 := by decide +kernel
def rmX12_wipe : Room := { frames := 0, cells := 0, slots := 0, locals := 0 }
def wzX12_wipe : List Cond := .code yX12_wipe cX12_wipe 2 none :: wsL_law
theorem hinX12_wipe_X120 : ∀ w ∈ wsX120, w ∈ wzX12_wipe := fun w h => List.mem_cons_of_mem _ (inlX12 w h)
def fX12_wipe_7_body (k7 : zSt → Int32 → Option (zSt)) (σ : zSt) (x1 : Int32) : Option (zSt) :=
  if 32768 ≤ x1 then some σ else
  zck (zin x1 32768) (zbv (zsi σ 6 (x1.toNatClampNeg) (vp_nar .byte 0)) (fun σ1 =>
  zbv (x1 + 1) (fun v2 =>
  k7 σ1 v2)))
def fX12_wipe_7  : Nat → zSt → Int32 → Option (zSt)
  | 0, _, _ => none
  | n + 1, σ, x1 => fX12_wipe_7_body (fX12_wipe_7  n) σ x1
def fX12_wipe  (σ : zSt)  : Option (zSt) :=
  zbv (zsi σ 0 0 0) (fun σ3 =>
  fX12_wipe_7 zfuel σ3 0)
set_option maxRecDepth 20000 in
set_option maxHeartbeats 4000000 in
theorem bX12_wipe_7_body {st : Nat → Nat} {p : Program} {l : Launch} {e : Env} {s : State} {m : MethodId} {args : Array Value} {below : List Frame} {meth : Method} {c : Code} {D : va_G} {A : Nat → Prop} {ad : Nat → Nat} {cy : Nat → ClassId} (hC : zC p m c cX12_wipe 2 s args wzX12_wipe RX12 meth none) {k7 : zSt → Int32 → Option (zSt)} {res : zSt} (hk7 : ∀ (H : Heap) (locs : List Loc) (σ : zSt) (ls : Array Slot) (x1 : Int32), zI st D (tM cy) (wM ad cy σ) A s H locs → lv_has ls 2 [(0, .ref (ad 0)), (1, .int x1)] → k7 σ x1 = some res → W p l e rmX12_wipe s m args below meth c H locs 0 0 (zQu below args s D (tM cy) (wM ad cy) A res) (F0 m 7 ls [])) {H : Heap} {locs : List Loc} {σ : zSt} {ls : Array Slot} {x1 : Int32} (hI : zI st D (tM cy) (wM ad cy σ) A s H locs) (hl : lv_has ls 2 [(0, .ref (ad 0)), (1, .int x1)]) (hf : fX12_wipe_7_body k7 σ x1 = some res) : W p l e rmX12_wipe s m args below meth c H locs 0 0 (zQu below args s D (tM cy) (wM ad cy) A res) (F0 m 7 ls []) := by
  have hx := hC.1
  have hb := hC.2.1
  unfold fX12_wipe_7_body at hf
  refine lv_iload_n hx hb dX12_wipe_7 rfl (lv_at hl 1 rfl) ?_
  refine lv_ldc (v := 32768) hx hb hC.2.2.2.1 (hC.2.2.2.2.1 _ (List.mem_cons_of_mem _ zw9_10)) dX12_wipe_8 ?_
  refine lv_icmp_ge (tgt := 26) hx hb dX12_wipe_10 (by decide) (fun q => ?_) (fun q => ?_)
  · replace hf := zif_t q hf
    exact z_return hC hI hf dX12_wipe_26
  replace hf := zif_f q hf
  refine lv_aload_n hx hb dX12_wipe_13 rfl (lv_at hl 0 rfl) ?_
  refine z_get hC hI hinX12_wipe_X120 0 (wM_e0 ad cy σ) rfl 13 (by decide) (List.mem_cons_of_mem _ zw9_11) rfl dX12_wipe_14 ?_
  refine lv_iload_n hx hb dX12_wipe_17 rfl (lv_at hl 1 rfl) ?_
  refine lv_iconst (v := 0) hx hb dX12_wipe_18 (by decide) ?_
  obtain ⟨q, hf⟩ := zck_use hf
  obtain ⟨σ1, eσ1⟩ : ∃ z, z = zsi σ 6 (x1.toNatClampNeg) (vp_nar .byte 0) := ⟨_, rfl⟩
  replace hf := zbv_use eσ1 hf
  refine z_bast hC hI 6 5 (wM_e6 ad cy σ) (tM_t6 cy) q ((wM_s6 ad cy σ _ _).trans (congrArg (wM ad cy) eσ1.symm)) dX12_wipe_19 (fun H locs hI => ?_)
  obtain ⟨v2, ev2⟩ : ∃ z : Int32, z = x1 + 1 := ⟨_, rfl⟩
  replace hf := zbv_use ev2 hf
  refine lv_iinc (v := v2) (lv' := [(1, .int v2), (0, .ref (ad 0))]) hx hb dX12_wipe_20 hl (k := 1) rfl (by rw [ev2]; rfl) (by decide) rfl (fun ls hl => ?_)
  refine lv_goto (tgt := 7) hx hb dX12_wipe_23 (by decide) ?_
  exact hk7 _ _ _ _ _ hI (lv_sub hl [1, 0] rfl) hf
theorem blX12_wipe_7 {st : Nat → Nat} {p : Program} {l : Launch} {e : Env} {s : State} {m : MethodId} {args : Array Value} {below : List Frame} {meth : Method} {c : Code} {D : va_G} {A : Nat → Prop} {ad : Nat → Nat} {cy : Nat → ClassId} (hC : zC p m c cX12_wipe 2 s args wzX12_wipe RX12 meth none)  {res : zSt} : ∀ (n : Nat) (H : Heap) (locs : List Loc) (σ : zSt) (ls : Array Slot) (x1 : Int32), zI st D (tM cy) (wM ad cy σ) A s H locs → lv_has ls 2 [(0, .ref (ad 0)), (1, .int x1)] → fX12_wipe_7  n σ x1 = some res → W p l e rmX12_wipe s m args below meth c H locs 0 0 (zQu below args s D (tM cy) (wM ad cy) A res) (F0 m 7 ls []) := by
  intro n
  induction n with
  | zero => intro H locs σ ls x1 hI hl hf; cases hf
  | succ n ih => intro H locs σ ls x1 hI hl hf; exact bX12_wipe_7_body hC ih hI hl hf
set_option maxRecDepth 20000 in
set_option maxHeartbeats 4000000 in
theorem bX12_wipe {st : Nat → Nat} {p : Program} {l : Launch} {e : Env} {s : State} {m : MethodId} {args : Array Value} {below : List Frame} {meth : Method} {c : Code} {D : va_G} {A : Nat → Prop} {ad : Nat → Nat} {cy : Nat → ClassId} (hC : zC p m c cX12_wipe 2 s args wzX12_wipe RX12 meth none)  {res : zSt} {H : Heap} {locs : List Loc} {σ : zSt} {ls : Array Slot}  (hI : zI st D (tM cy) (wM ad cy σ) A s H locs) (hl : lv_has ls 2 [(0, .ref (ad 0))]) (hf : fX12_wipe  σ  = some res) : W p l e rmX12_wipe s m args below meth c H locs 0 0 (zQu below args s D (tM cy) (wM ad cy) A res) (F0 m 0 ls []) := by
  have hx := hC.1
  have hb := hC.2.1
  unfold fX12_wipe at hf
  refine lv_aload_n hx hb dX12_wipe_0 rfl (lv_at hl 0 rfl) ?_
  refine lv_iconst (v := 0) hx hb dX12_wipe_1 (by decide) ?_
  obtain ⟨σ3, eσ3⟩ : ∃ z, z = zsi σ 0 0 0 := ⟨_, rfl⟩
  replace hf := zbv_use eσ3 hf
  refine z_put hC hI hinX12_wipe_X120 tyX12_ok nmX12 0 (wM_e0 ad cy σ) rfl 0 (by decide) (List.mem_cons_of_mem _ zw12_1) rfl rfl rfl (Nat.le_of_ble_eq_true rfl) ((wM_s0_0 ad cy σ 0).trans (congrArg (wM ad cy) eσ3.symm)) dX12_wipe_2 (fun H locs hI => ?_)
  refine lv_iconst (v := 0) hx hb dX12_wipe_5 (by decide) ?_
  refine lv_istore_n (lv' := [(1, .int 0), (0, .ref (ad 0))]) hx hb dX12_wipe_6 rfl hl (by decide) rfl (fun ls hl => ?_)
  exact blX12_wipe_7 hC  zfuel _ _ _ _ _ hI (lv_sub hl [1, 0] rfl) hf
set_option maxRecDepth 20000 in
theorem cX12_wipe_met (st : Nat → Nat) (l : Launch) (D : va_G) (ad : Nat → Nat) (cy : Nat → ClassId) (σ : zSt)  (res : zSt) (hf : fX12_wipe σ  = some res) (sz : Nat) : zMu st l yX12_wipe wzX12_wipe rmX12_wipe [.ref (ad 0)] D (tM cy) (wM ad cy) sz σ res :=
  zMu.of (cc := cX12_wipe) (maxL := 2) (ret := none) (by decide) rfl (Nat.le_of_ble_eq_true rfl) (fun p e s m args below meth c hC A hI ls hl => bX12_wipe hC hI hl hf)
theorem hdX12_wipe : yX12_wipe.cls = RX12 ∧ yX12_wipe.cls ≠ "java/lang/invoke/MethodHandle" ∧ yX12_wipe.cls ≠ "java/lang/invoke/VarHandle" ∧ (parseMethodDescriptor yX12_wipe.desc).map (fun d => d.parameters.length) = some 0 := by decide +kernel
def rmX12_video : Room := { frames := 1, cells := 0, slots := 0, locals := 21 }
def wzX12_video : List Cond := .code yX12_video cX12_video 5 (some .long) :: wsL_law
theorem hinX12_video_X120 : ∀ w ∈ wsX120, w ∈ wzX12_video := fun w h => List.mem_cons_of_mem _ (inlX12 w h)
def fX12_video_11_body (k11 : zSt → Int32 → Int64 → Int32 → Option (zSt × Int64)) (σ : zSt) (x1 : Int32) (x2 : Int64) (x4 : Int32) : Option (zSt × Int64) :=
  if x4 < 0 then some (σ, x2) else
  zbi (fX12_video8 σ (x1 + x4)) (fun σ1 v2 =>
  zbv ((zlshl x2 8) ||| (v2.toInt64)) (fun v3 =>
  zbv (x4 + (-1)) (fun v4 =>
  k11 σ1 x1 v3 v4)))
def fX12_video_11  : Nat → zSt → Int32 → Int64 → Int32 → Option (zSt × Int64)
  | 0, _, _, _, _ => none
  | n + 1, σ, x1, x2, x4 => fX12_video_11_body (fX12_video_11  n) σ x1 x2 x4
def fX12_video  (σ : zSt) (x1 : Int32) : Option (zSt × Int64) :=
  zbv (zsi σ 0 0 0) (fun σ5 =>
  fX12_video_11 zfuel σ5 x1 0 7)
set_option maxRecDepth 20000 in
set_option maxHeartbeats 4000000 in
theorem bX12_video_11_body {st : Nat → Nat} {p : Program} {l : Launch} {e : Env} {s : State} {m : MethodId} {args : Array Value} {below : List Frame} {meth : Method} {c : Code} {D : va_G} {A : Nat → Prop} {ad : Nat → Nat} {cy : Nat → ClassId} (hC : zC p m c cX12_video 5 s args wzX12_video RX12 meth (some .long)) {k11 : zSt → Int32 → Int64 → Int32 → Option (zSt × Int64)} {res : zSt × Int64} (hk11 : ∀ (H : Heap) (locs : List Loc) (σ : zSt) (ls : Array Slot) (x1 : Int32) (x2 : Int64) (x4 : Int32), zI st D (tM cy) (wM ad cy σ) A s H locs → lv_has ls 5 [(0, .ref (ad 0)), (1, .int x1), (2, .long x2), (4, .int x4)] → k11 σ x1 x2 x4 = some res → W p l e rmX12_video s m args below meth c H locs 0 0 (zQl below args s D (tM cy) (wM ad cy) A res) (F0 m 11 ls [])) {H : Heap} {locs : List Loc} {σ : zSt} {ls : Array Slot} {x1 : Int32} {x2 : Int64} {x4 : Int32} (hI : zI st D (tM cy) (wM ad cy σ) A s H locs) (hl : lv_has ls 5 [(0, .ref (ad 0)), (1, .int x1), (2, .long x2), (4, .int x4)]) (hf : fX12_video_11_body k11 σ x1 x2 x4 = some res) : W p l e rmX12_video s m args below meth c H locs 0 0 (zQl below args s D (tM cy) (wM ad cy) A res) (F0 m 11 ls []) := by
  have hx := hC.1
  have hb := hC.2.1
  unfold fX12_video_11_body at hf
  refine lv_iload hx hb dX12_video_11 (lv_at hl 3 rfl) ?_
  refine lv_if_lt (tgt := 37) hx hb dX12_video_13 (by decide) (fun q => ?_) (fun q => ?_)
  · replace hf := zif_t q hf
    refine lv_lload_n hx hb dX12_video_37 rfl (lv_at hl 2 rfl) ?_
    exact z_lreturn hC hI hf dX12_video_38
  replace hf := zif_f q hf
  refine lv_lload_n hx hb dX12_video_16 rfl (lv_at hl 2 rfl) ?_
  refine lv_bipush (v := 8) hx hb dX12_video_17 (by decide) ?_
  refine lv_lshl (v := zlshl x2 8) hx hb dX12_video_19 rfl ?_
  refine lv_aload_n hx hb dX12_video_20 rfl (lv_at hl 0 rfl) ?_
  refine lv_iload_n hx hb dX12_video_21 rfl (lv_at hl 1 rfl) ?_
  refine lv_iload hx hb dX12_video_22 (lv_at hl 3 rfl) ?_
  refine lv_iadd hx hb dX12_video_24 ?_
  obtain ⟨σ1, v2, g1, hf⟩ := zbi_use hf
  refine z_callVi (As := [.int (x1 + x4)]) (rest := [.long (zlshl x2 8)]) hC hI (cX12_video8_met st l D ad cy σ (x1 + x4) _ g1) (zgV zw56_6 zw56_7 zw56_8 zw1_5 zw56_9) rfl ⟨rfl, rfl⟩ 1 hdX12_video8 ⟨Nat.le_of_ble_eq_true rfl, Nat.le_of_ble_eq_true rfl⟩ rfl rfl (wM_e0 ad cy σ) rfl hl rfl (Nat.le_of_ble_eq_true rfl) dX12_video_25 ⟨Nat.zero_le _, Nat.zero_le _⟩ (fun H locs hI => ?_)
  refine lv_i2l (v := v2.toInt64) hx hb dX12_video_28 rfl ?_
  refine lv_lor hx hb dX12_video_29 ?_
  refine lv_topl (fun v3 ev3 => ?_)
  replace hf := zbv_use ev3 hf
  refine lv_lstore_n (lv' := [(2, .long v3), (0, .ref (ad 0)), (1, .int x1), (4, .int x4)]) hx hb dX12_video_30 rfl hl (by decide) rfl (fun ls hl => ?_)
  obtain ⟨v4, ev4⟩ : ∃ z : Int32, z = x4 + (-1) := ⟨_, rfl⟩
  replace hf := zbv_use ev4 hf
  refine lv_iinc (v := v4) (lv' := [(4, .int v4), (2, .long v3), (0, .ref (ad 0)), (1, .int x1)]) hx hb dX12_video_31 hl (k := 3) rfl (by rw [ev4]; rfl) (by decide) rfl (fun ls hl => ?_)
  refine lv_goto (tgt := 11) hx hb dX12_video_34 (by decide) ?_
  exact hk11 _ _ _ _ _ _ _ hI (lv_sub hl [2, 3, 1, 0] rfl) hf
theorem blX12_video_11 {st : Nat → Nat} {p : Program} {l : Launch} {e : Env} {s : State} {m : MethodId} {args : Array Value} {below : List Frame} {meth : Method} {c : Code} {D : va_G} {A : Nat → Prop} {ad : Nat → Nat} {cy : Nat → ClassId} (hC : zC p m c cX12_video 5 s args wzX12_video RX12 meth (some .long))  {res : zSt × Int64} : ∀ (n : Nat) (H : Heap) (locs : List Loc) (σ : zSt) (ls : Array Slot) (x1 : Int32) (x2 : Int64) (x4 : Int32), zI st D (tM cy) (wM ad cy σ) A s H locs → lv_has ls 5 [(0, .ref (ad 0)), (1, .int x1), (2, .long x2), (4, .int x4)] → fX12_video_11  n σ x1 x2 x4 = some res → W p l e rmX12_video s m args below meth c H locs 0 0 (zQl below args s D (tM cy) (wM ad cy) A res) (F0 m 11 ls []) := by
  intro n
  induction n with
  | zero => intro H locs σ ls x1 x2 x4 hI hl hf; cases hf
  | succ n ih => intro H locs σ ls x1 x2 x4 hI hl hf; exact bX12_video_11_body hC ih hI hl hf
set_option maxRecDepth 20000 in
set_option maxHeartbeats 4000000 in
theorem bX12_video {st : Nat → Nat} {p : Program} {l : Launch} {e : Env} {s : State} {m : MethodId} {args : Array Value} {below : List Frame} {meth : Method} {c : Code} {D : va_G} {A : Nat → Prop} {ad : Nat → Nat} {cy : Nat → ClassId} (hC : zC p m c cX12_video 5 s args wzX12_video RX12 meth (some .long))  {res : zSt × Int64} {H : Heap} {locs : List Loc} {σ : zSt} {ls : Array Slot} {x1 : Int32} (hI : zI st D (tM cy) (wM ad cy σ) A s H locs) (hl : lv_has ls 5 [(0, .ref (ad 0)), (1, .int x1)]) (hf : fX12_video  σ x1 = some res) : W p l e rmX12_video s m args below meth c H locs 0 0 (zQl below args s D (tM cy) (wM ad cy) A res) (F0 m 0 ls []) := by
  have hx := hC.1
  have hb := hC.2.1
  unfold fX12_video at hf
  refine lv_aload_n hx hb dX12_video_0 rfl (lv_at hl 0 rfl) ?_
  refine lv_iconst (v := 0) hx hb dX12_video_1 (by decide) ?_
  obtain ⟨σ5, eσ5⟩ : ∃ z, z = zsi σ 0 0 0 := ⟨_, rfl⟩
  replace hf := zbv_use eσ5 hf
  refine z_put hC hI hinX12_video_X120 tyX12_ok nmX12 0 (wM_e0 ad cy σ) rfl 0 (by decide) (List.mem_cons_of_mem _ zw12_1) rfl rfl rfl (Nat.le_of_ble_eq_true rfl) ((wM_s0_0 ad cy σ 0).trans (congrArg (wM ad cy) eσ5.symm)) dX12_video_2 (fun H locs hI => ?_)
  refine lv_lconst (v := 0) hx hb dX12_video_5 (by decide) ?_
  refine lv_lstore_n (lv' := [(2, .long 0), (0, .ref (ad 0)), (1, .int x1)]) hx hb dX12_video_6 rfl hl (by decide) rfl (fun ls hl => ?_)
  refine lv_bipush (v := 7) hx hb dX12_video_7 (by decide) ?_
  refine lv_istore (lv' := [(4, .int 7), (2, .long 0), (0, .ref (ad 0)), (1, .int x1)]) hx hb dX12_video_9 hl (by decide) rfl (fun ls hl => ?_)
  exact blX12_video_11 hC  zfuel _ _ _ _ _ _ _ hI (lv_sub hl [2, 3, 1, 0] rfl) hf
set_option maxRecDepth 20000 in
theorem cX12_video_met (st : Nat → Nat) (l : Launch) (D : va_G) (ad : Nat → Nat) (cy : Nat → ClassId) (σ : zSt) (x1 : Int32) (res : zSt × Int64) (hf : fX12_video σ x1 = some res) (sz : Nat) : zMl st l yX12_video wzX12_video rmX12_video [.ref (ad 0), .int x1] D (tM cy) (wM ad cy) sz σ res :=
  zMl.of (cc := cX12_video) (maxL := 5) (ret := (some .long)) (by decide) rfl (Nat.le_of_ble_eq_true rfl) (fun p e s m args below meth c hC A hI ls hl => bX12_video hC hI hl hf)
theorem hdX12_video : yX12_video.cls = RX12 ∧ yX12_video.cls ≠ "java/lang/invoke/MethodHandle" ∧ yX12_video.cls ≠ "java/lang/invoke/VarHandle" ∧ (parseMethodDescriptor yX12_video.desc).map (fun d => d.parameters.length) = some 1 := by decide +kernel
def rmX12_chip : Room := { frames := 4, cells := 0, slots := 0, locals := 85 }
def wzX12_chip : List Cond := .code yX12_chip cX12_chip 2 (some .int) :: wsL_law
theorem hinX12_chip_X120 : ∀ w ∈ wsX120, w ∈ wzX12_chip := fun w h => List.mem_cons_of_mem _ (inlX12 w h)
def fX12_chip_136  (σ : zSt) (s0 : Int32) : Option (zSt × Int32) :=
  some (σ, s0)
def fX12_chip_32  (σ : zSt) (x1 : Int32) (s0 : Int32) : Option (zSt × Int32) :=
  zbi (fX12_fails σ s0 1) (fun σ1 v2 =>
  if v2 = 0 then if x1 ≤ 31 then if 17 ≤ x1 then if x1 = 17 then zbi (fX12_asks σ1 ) (fun σ3 v4 =>
  if v4 = 0 then fX12_chip_136 σ3 0 else
  fX12_chip_136 σ3 1) else
  if x1 = 18 then zck (zin 64 1048) (
  some (σ1, zgi σ1 3 (64 : Int32).toNatClampNeg)) else
  if x1 = 19 then zck (zin 65 1048) (
  some (σ1, zgi σ1 3 (65 : Int32).toNatClampNeg)) else
  if x1 = 20 then zck (zin 66 1048) (
  some (σ1, zgi σ1 3 (66 : Int32).toNatClampNeg)) else
  if x1 = 21 then zck (zin 67 1048) (
  some (σ1, zgi σ1 3 (67 : Int32).toNatClampNeg)) else
  if x1 = 22 then zbi (fX12_mode σ1 ) (fun σ5 v6 =>
  some (σ5, v6)) else
  if x1 = 23 then zbi (fX12_height σ1 ) (fun σ7 v8 =>
  some (σ7, v8)) else
  if x1 = 24 then zbi (fX12_hCount σ1 ) (fun σ9 v10 =>
  some (σ9, v10)) else
  zbi (fX12_vCount σ1 ) (fun σ11 v12 =>
  some (σ11, v12)) else
  zck (zin (47 + x1) 1048) (
  some (σ1, zgi σ1 3 (47 + x1).toNatClampNeg)) else
  zck (zin (x1 - 32) 64) (
  some (σ1, (zgi σ1 8 (x1 - 32).toNatClampNeg) &&& 255)) else
  some (σ1, 0))
def fX12_chip_31  (σ : zSt) (x1 : Int32) : Option (zSt × Int32) :=
  fX12_chip_32 σ x1 0
def fX12_chip  (σ : zSt) (x1 : Int32) : Option (zSt × Int32) :=
  zbi (fX12_within σ (x1.toInt64) 0 25) (fun σ13 v14 =>
  if v14 = 0 then zbi (fX12_within σ13 (x1.toInt64) 32 95) (fun σ15 v16 =>
  if v16 = 0 then fX12_chip_32 σ15 x1 1 else
  fX12_chip_31 σ15 x1) else
  fX12_chip_31 σ13 x1)
set_option maxRecDepth 20000 in
set_option maxHeartbeats 4000000 in
theorem bX12_chip_136 {st : Nat → Nat} {p : Program} {l : Launch} {e : Env} {s : State} {m : MethodId} {args : Array Value} {below : List Frame} {meth : Method} {c : Code} {D : va_G} {A : Nat → Prop} {ad : Nat → Nat} {cy : Nat → ClassId} (hC : zC p m c cX12_chip 2 s args wzX12_chip RX12 meth (some .int))  {res : zSt × Int32} {H : Heap} {locs : List Loc} {σ : zSt} {ls : Array Slot} {s0 : Int32} (hI : zI st D (tM cy) (wM ad cy σ) A s H locs) (hl : lv_has ls 2 []) (hf : fX12_chip_136  σ s0 = some res) : W p l e rmX12_chip s m args below meth c H locs 0 0 (zQi below args s D (tM cy) (wM ad cy) A res) (F0 m 136 ls [.int s0]) := by
  have hx := hC.1
  have hb := hC.2.1
  unfold fX12_chip_136 at hf
  exact z_ireturn hC hI hf dX12_chip_136
set_option maxRecDepth 20000 in
set_option maxHeartbeats 4000000 in
theorem bX12_chip_32 {st : Nat → Nat} {p : Program} {l : Launch} {e : Env} {s : State} {m : MethodId} {args : Array Value} {below : List Frame} {meth : Method} {c : Code} {D : va_G} {A : Nat → Prop} {ad : Nat → Nat} {cy : Nat → ClassId} (hC : zC p m c cX12_chip 2 s args wzX12_chip RX12 meth (some .int))  {res : zSt × Int32} {H : Heap} {locs : List Loc} {σ : zSt} {ls : Array Slot} {x1 : Int32} {s0 : Int32} (hI : zI st D (tM cy) (wM ad cy σ) A s H locs) (hl : lv_has ls 2 [(0, .ref (ad 0)), (1, .int x1)]) (hf : fX12_chip_32  σ x1 s0 = some res) : W p l e rmX12_chip s m args below meth c H locs 0 0 (zQi below args s D (tM cy) (wM ad cy) A res) (F0 m 32 ls [.int s0, .ref (ad 0)]) := by
  have hx := hC.1
  have hb := hC.2.1
  unfold fX12_chip_32 at hf
  refine lv_iconst (v := 1) hx hb dX12_chip_32 (by decide) ?_
  obtain ⟨σ1, v2, g1, hf⟩ := zbi_use hf
  refine z_callVi (As := [.int s0, .int 1]) (rest := []) hC hI (cX12_fails_met st l D ad cy σ s0 1 _ g1) (zgV zw11_21 zw11_22 zw11_23 zw1_5 zw12_0) rfl ⟨rfl, rfl⟩ 2 hdX12_fails ⟨Nat.le_of_ble_eq_true rfl, Nat.le_of_ble_eq_true rfl⟩ rfl rfl (wM_e0 ad cy σ) rfl hl rfl (Nat.le_of_ble_eq_true rfl) dX12_chip_33 ⟨Nat.zero_le _, Nat.zero_le _⟩ (fun H locs hI => ?_)
  refine lv_if_eq (tgt := 41) hx hb dX12_chip_36 (by decide) (fun q => ?_) (fun q => ?_)
  · replace hf := zif_t q hf
    refine lv_iload_n hx hb dX12_chip_41 rfl (lv_at hl 1 rfl) ?_
    refine lv_bipush (v := 31) hx hb dX12_chip_42 (by decide) ?_
    refine lv_icmp_le (tgt := 61) hx hb dX12_chip_44 (by decide) (fun q => ?_) (fun q => ?_)
    · replace hf := zif_t q hf
      refine lv_iload_n hx hb dX12_chip_61 rfl (lv_at hl 1 rfl) ?_
      refine lv_bipush (v := 17) hx hb dX12_chip_62 (by decide) ?_
      refine lv_icmp_ge (tgt := 77) hx hb dX12_chip_64 (by decide) (fun q => ?_) (fun q => ?_)
      · replace hf := zif_t q hf
        refine lv_iload_n hx hb dX12_chip_77 rfl (lv_at hl 1 rfl) ?_
        by_cases q0 : x1 = 17
        · replace hf := zif_t q0 hf
          refine lv_tableIn (tgt := 124) hx hb dX12_chip_78 (by rw [q0]; decide) (by rw [q0]; decide) (by rw [q0]; rfl) (by decide) ?_
          refine lv_aload_n hx hb dX12_chip_124 rfl (lv_at hl 0 rfl) ?_
          obtain ⟨σ3, v4, g3, hf⟩ := zbi_use hf
          refine z_callVi (As := []) (rest := []) hC hI (cX12_asks_met st l D ad cy σ1  _ g3) (zgV zw48_20 zw48_21 zw48_22 zw1_5 zw48_23) rfl ⟨rfl, rfl⟩ 0 hdX12_asks ⟨Nat.le_of_ble_eq_true rfl, Nat.le_of_ble_eq_true rfl⟩ rfl rfl (wM_e0 ad cy σ1) rfl hl rfl (Nat.le_of_ble_eq_true rfl) dX12_chip_125 ⟨Nat.zero_le _, Nat.zero_le _⟩ (fun H locs hI => ?_)
          refine lv_if_eq (tgt := 135) hx hb dX12_chip_128 (by decide) (fun q => ?_) (fun q => ?_)
          · replace hf := zif_t q hf
            refine lv_iconst (v := 0) hx hb dX12_chip_135 (by decide) ?_
            exact bX12_chip_136 hC  hI (lv_sub hl [] rfl) hf
          replace hf := zif_f q hf
          refine lv_iconst (v := 1) hx hb dX12_chip_131 (by decide) ?_
          refine lv_goto (tgt := 136) hx hb dX12_chip_132 (by decide) ?_
          exact bX12_chip_136 hC  hI (lv_sub hl [] rfl) hf
        replace hf := zif_f q0 hf
        by_cases q1 : x1 = 18
        · replace hf := zif_t q1 hf
          refine lv_tableIn (tgt := 137) hx hb dX12_chip_78 (by rw [q1]; decide) (by rw [q1]; decide) (by rw [q1]; rfl) (by decide) ?_
          refine lv_aload_n hx hb dX12_chip_137 rfl (lv_at hl 0 rfl) ?_
          refine z_get hC hI hinX12_chip_X120 0 (wM_e0 ad cy σ1) rfl 10 (by decide) (List.mem_cons_of_mem _ zw9_7) rfl dX12_chip_138 ?_
          refine lv_bipush (v := 64) hx hb dX12_chip_141 (by decide) ?_
          obtain ⟨q, hf⟩ := zck_use hf
          refine z_iald hC hI 3 2 (wM_e3 ad cy σ1) (tM_t3 cy) q dX12_chip_143 ?_
          exact z_ireturn hC hI hf dX12_chip_144
        replace hf := zif_f q1 hf
        by_cases q2 : x1 = 19
        · replace hf := zif_t q2 hf
          refine lv_tableIn (tgt := 145) hx hb dX12_chip_78 (by rw [q2]; decide) (by rw [q2]; decide) (by rw [q2]; rfl) (by decide) ?_
          refine lv_aload_n hx hb dX12_chip_145 rfl (lv_at hl 0 rfl) ?_
          refine z_get hC hI hinX12_chip_X120 0 (wM_e0 ad cy σ1) rfl 10 (by decide) (List.mem_cons_of_mem _ zw9_7) rfl dX12_chip_146 ?_
          refine lv_bipush (v := 65) hx hb dX12_chip_149 (by decide) ?_
          obtain ⟨q, hf⟩ := zck_use hf
          refine z_iald hC hI 3 2 (wM_e3 ad cy σ1) (tM_t3 cy) q dX12_chip_151 ?_
          exact z_ireturn hC hI hf dX12_chip_152
        replace hf := zif_f q2 hf
        by_cases q3 : x1 = 20
        · replace hf := zif_t q3 hf
          refine lv_tableIn (tgt := 153) hx hb dX12_chip_78 (by rw [q3]; decide) (by rw [q3]; decide) (by rw [q3]; rfl) (by decide) ?_
          refine lv_aload_n hx hb dX12_chip_153 rfl (lv_at hl 0 rfl) ?_
          refine z_get hC hI hinX12_chip_X120 0 (wM_e0 ad cy σ1) rfl 10 (by decide) (List.mem_cons_of_mem _ zw9_7) rfl dX12_chip_154 ?_
          refine lv_bipush (v := 66) hx hb dX12_chip_157 (by decide) ?_
          obtain ⟨q, hf⟩ := zck_use hf
          refine z_iald hC hI 3 2 (wM_e3 ad cy σ1) (tM_t3 cy) q dX12_chip_159 ?_
          exact z_ireturn hC hI hf dX12_chip_160
        replace hf := zif_f q3 hf
        by_cases q4 : x1 = 21
        · replace hf := zif_t q4 hf
          refine lv_tableIn (tgt := 161) hx hb dX12_chip_78 (by rw [q4]; decide) (by rw [q4]; decide) (by rw [q4]; rfl) (by decide) ?_
          refine lv_aload_n hx hb dX12_chip_161 rfl (lv_at hl 0 rfl) ?_
          refine z_get hC hI hinX12_chip_X120 0 (wM_e0 ad cy σ1) rfl 10 (by decide) (List.mem_cons_of_mem _ zw9_7) rfl dX12_chip_162 ?_
          refine lv_bipush (v := 67) hx hb dX12_chip_165 (by decide) ?_
          obtain ⟨q, hf⟩ := zck_use hf
          refine z_iald hC hI 3 2 (wM_e3 ad cy σ1) (tM_t3 cy) q dX12_chip_167 ?_
          exact z_ireturn hC hI hf dX12_chip_168
        replace hf := zif_f q4 hf
        by_cases q5 : x1 = 22
        · replace hf := zif_t q5 hf
          refine lv_tableIn (tgt := 169) hx hb dX12_chip_78 (by rw [q5]; decide) (by rw [q5]; decide) (by rw [q5]; rfl) (by decide) ?_
          refine lv_aload_n hx hb dX12_chip_169 rfl (lv_at hl 0 rfl) ?_
          obtain ⟨σ5, v6, g5, hf⟩ := zbi_use hf
          refine z_callVi (As := []) (rest := []) hC hI (cX12_mode_met st l D ad cy σ1  _ g5) (zgV zw57_6 zw57_7 zw57_8 zw1_5 zw57_9) rfl ⟨rfl, rfl⟩ 0 hdX12_mode ⟨Nat.le_of_ble_eq_true rfl, Nat.le_of_ble_eq_true rfl⟩ rfl rfl (wM_e0 ad cy σ1) rfl hl rfl (Nat.le_of_ble_eq_true rfl) dX12_chip_170 ⟨Nat.zero_le _, Nat.zero_le _⟩ (fun H locs hI => ?_)
          exact z_ireturn hC hI hf dX12_chip_173
        replace hf := zif_f q5 hf
        by_cases q6 : x1 = 23
        · replace hf := zif_t q6 hf
          refine lv_tableIn (tgt := 174) hx hb dX12_chip_78 (by rw [q6]; decide) (by rw [q6]; decide) (by rw [q6]; rfl) (by decide) ?_
          refine lv_aload_n hx hb dX12_chip_174 rfl (lv_at hl 0 rfl) ?_
          obtain ⟨σ7, v8, g7, hf⟩ := zbi_use hf
          refine z_callVi (As := []) (rest := []) hC hI (cX12_height_met st l D ad cy σ1  _ g7) (zgV zw57_2 zw57_3 zw57_4 zw1_5 zw57_5) rfl ⟨rfl, rfl⟩ 0 hdX12_height ⟨Nat.le_of_ble_eq_true rfl, Nat.le_of_ble_eq_true rfl⟩ rfl rfl (wM_e0 ad cy σ1) rfl hl rfl (Nat.le_of_ble_eq_true rfl) dX12_chip_175 ⟨Nat.zero_le _, Nat.zero_le _⟩ (fun H locs hI => ?_)
          exact z_ireturn hC hI hf dX12_chip_178
        replace hf := zif_f q6 hf
        by_cases q7 : x1 = 24
        · replace hf := zif_t q7 hf
          refine lv_tableIn (tgt := 179) hx hb dX12_chip_78 (by rw [q7]; decide) (by rw [q7]; decide) (by rw [q7]; rfl) (by decide) ?_
          refine lv_aload_n hx hb dX12_chip_179 rfl (lv_at hl 0 rfl) ?_
          obtain ⟨σ9, v10, g9, hf⟩ := zbi_use hf
          refine z_callVi (As := []) (rest := []) hC hI (cX12_hCount_met st l D ad cy σ1  _ g9) (zgV zw55_18 zw55_19 zw55_20 zw1_5 zw55_21) rfl ⟨rfl, rfl⟩ 0 hdX12_hCount ⟨Nat.le_of_ble_eq_true rfl, Nat.le_of_ble_eq_true rfl⟩ rfl rfl (wM_e0 ad cy σ1) rfl hl rfl (Nat.le_of_ble_eq_true rfl) dX12_chip_180 ⟨Nat.zero_le _, Nat.zero_le _⟩ (fun H locs hI => ?_)
          exact z_ireturn hC hI hf dX12_chip_183
        replace hf := zif_f q7 hf
        refine lv_tableOut (tgt := 184) hx hb dX12_chip_78 (zsw (fun k h1 h2 => by rcases (show k = 17 ∨ k = 18 ∨ k = 19 ∨ k = 20 ∨ k = 21 ∨ k = 22 ∨ k = 23 ∨ k = 24 by omega) with rfl | rfl | rfl | rfl | rfl | rfl | rfl | rfl <;> assumption)) (by decide) ?_
        refine lv_aload_n hx hb dX12_chip_184 rfl (lv_at hl 0 rfl) ?_
        obtain ⟨σ11, v12, g11, hf⟩ := zbi_use hf
        refine z_callVi (As := []) (rest := []) hC hI (cX12_vCount_met st l D ad cy σ1  _ g11) (zgV zw56_22 zw56_23 zw57_0 zw1_5 zw57_1) rfl ⟨rfl, rfl⟩ 0 hdX12_vCount ⟨Nat.le_of_ble_eq_true rfl, Nat.le_of_ble_eq_true rfl⟩ rfl rfl (wM_e0 ad cy σ1) rfl hl rfl (Nat.le_of_ble_eq_true rfl) dX12_chip_185 ⟨Nat.zero_le _, Nat.zero_le _⟩ (fun H locs hI => ?_)
        exact z_ireturn hC hI hf dX12_chip_188
      replace hf := zif_f q hf
      refine lv_aload_n hx hb dX12_chip_67 rfl (lv_at hl 0 rfl) ?_
      refine z_get hC hI hinX12_chip_X120 0 (wM_e0 ad cy σ1) rfl 10 (by decide) (List.mem_cons_of_mem _ zw9_7) rfl dX12_chip_68 ?_
      refine lv_bipush (v := 47) hx hb dX12_chip_71 (by decide) ?_
      refine lv_iload_n hx hb dX12_chip_73 rfl (lv_at hl 1 rfl) ?_
      refine lv_iadd hx hb dX12_chip_74 ?_
      obtain ⟨q, hf⟩ := zck_use hf
      refine z_iald hC hI 3 2 (wM_e3 ad cy σ1) (tM_t3 cy) q dX12_chip_75 ?_
      exact z_ireturn hC hI hf dX12_chip_76
    replace hf := zif_f q hf
    refine lv_aload_n hx hb dX12_chip_47 rfl (lv_at hl 0 rfl) ?_
    refine z_get hC hI hinX12_chip_X120 0 (wM_e0 ad cy σ1) rfl 15 (by decide) (List.mem_cons_of_mem _ zw9_13) rfl dX12_chip_48 ?_
    refine lv_iload_n hx hb dX12_chip_51 rfl (lv_at hl 1 rfl) ?_
    refine lv_bipush (v := 32) hx hb dX12_chip_52 (by decide) ?_
    refine lv_isub hx hb dX12_chip_54 ?_
    obtain ⟨q, hf⟩ := zck_use hf
    refine z_bald hC hI 8 7 (wM_e8 ad cy σ1) (tM_t8 cy) q dX12_chip_55 ?_
    refine lv_sipush (v := 255) hx hb dX12_chip_56 (by decide) ?_
    refine lv_iand hx hb dX12_chip_59 ?_
    exact z_ireturn hC hI hf dX12_chip_60
  replace hf := zif_f q hf
  refine lv_iconst (v := 0) hx hb dX12_chip_39 (by decide) ?_
  exact z_ireturn hC hI hf dX12_chip_40
set_option maxRecDepth 20000 in
set_option maxHeartbeats 4000000 in
theorem bX12_chip_31 {st : Nat → Nat} {p : Program} {l : Launch} {e : Env} {s : State} {m : MethodId} {args : Array Value} {below : List Frame} {meth : Method} {c : Code} {D : va_G} {A : Nat → Prop} {ad : Nat → Nat} {cy : Nat → ClassId} (hC : zC p m c cX12_chip 2 s args wzX12_chip RX12 meth (some .int))  {res : zSt × Int32} {H : Heap} {locs : List Loc} {σ : zSt} {ls : Array Slot} {x1 : Int32} (hI : zI st D (tM cy) (wM ad cy σ) A s H locs) (hl : lv_has ls 2 [(0, .ref (ad 0)), (1, .int x1)]) (hf : fX12_chip_31  σ x1 = some res) : W p l e rmX12_chip s m args below meth c H locs 0 0 (zQi below args s D (tM cy) (wM ad cy) A res) (F0 m 31 ls [.ref (ad 0)]) := by
  have hx := hC.1
  have hb := hC.2.1
  unfold fX12_chip_31 at hf
  refine lv_iconst (v := 0) hx hb dX12_chip_31 (by decide) ?_
  exact bX12_chip_32 hC  hI hl hf
set_option maxRecDepth 20000 in
set_option maxHeartbeats 4000000 in
theorem bX12_chip {st : Nat → Nat} {p : Program} {l : Launch} {e : Env} {s : State} {m : MethodId} {args : Array Value} {below : List Frame} {meth : Method} {c : Code} {D : va_G} {A : Nat → Prop} {ad : Nat → Nat} {cy : Nat → ClassId} (hC : zC p m c cX12_chip 2 s args wzX12_chip RX12 meth (some .int))  {res : zSt × Int32} {H : Heap} {locs : List Loc} {σ : zSt} {ls : Array Slot} {x1 : Int32} (hI : zI st D (tM cy) (wM ad cy σ) A s H locs) (hl : lv_has ls 2 [(0, .ref (ad 0)), (1, .int x1)]) (hf : fX12_chip  σ x1 = some res) : W p l e rmX12_chip s m args below meth c H locs 0 0 (zQi below args s D (tM cy) (wM ad cy) A res) (F0 m 0 ls []) := by
  have hx := hC.1
  have hb := hC.2.1
  unfold fX12_chip at hf
  refine lv_aload_n hx hb dX12_chip_0 rfl (lv_at hl 0 rfl) ?_
  refine lv_iload_n hx hb dX12_chip_1 rfl (lv_at hl 1 rfl) ?_
  refine lv_i2l (v := x1.toInt64) hx hb dX12_chip_2 rfl ?_
  refine lv_lconst (v := 0) hx hb dX12_chip_3 (by decide) ?_
  refine lv_ldc2 (v := 25) hx hb hC.2.2.2.1 (hC.2.2.2.2.1 _ (List.mem_cons_of_mem _ zw85_20)) dX12_chip_4 ?_
  obtain ⟨σ13, v14, g13, hf⟩ := zbi_use hf
  refine z_callSi (As := [.long (x1.toInt64), .long 0, .long 25]) (rest := [.ref (ad 0)]) hC hI (cX12_within_met st l D ad cy σ (x1.toInt64) 0 25 _ g13) (zgS zw11_18 zw11_19 zw1_5 zw11_20) rfl ⟨rfl, rfl⟩ 3 hdX12_within ⟨Nat.le_of_ble_eq_true rfl, Nat.le_of_ble_eq_true rfl⟩ rfl hl rfl (Nat.le_of_ble_eq_true rfl) dX12_chip_7 ⟨Nat.zero_le _, Nat.zero_le _⟩ (fun H locs hI => ?_)
  refine lv_if_ne (tgt := 31) hx hb dX12_chip_10 (by decide) (fun q => ?_) (fun q => ?_)
  · replace hf := zif_f q hf
    exact bX12_chip_31 hC  hI hl hf
  replace hf := zif_t q hf
  refine lv_iload_n hx hb dX12_chip_13 rfl (lv_at hl 1 rfl) ?_
  refine lv_i2l (v := x1.toInt64) hx hb dX12_chip_14 rfl ?_
  refine lv_ldc2 (v := 32) hx hb hC.2.2.2.1 (hC.2.2.2.2.1 _ (List.mem_cons_of_mem _ zw47_9)) dX12_chip_15 ?_
  refine lv_ldc2 (v := 95) hx hb hC.2.2.2.1 (hC.2.2.2.2.1 _ (List.mem_cons_of_mem _ zw90_1)) dX12_chip_18 ?_
  obtain ⟨σ15, v16, g15, hf⟩ := zbi_use hf
  refine z_callSi (As := [.long (x1.toInt64), .long 32, .long 95]) (rest := [.ref (ad 0)]) hC hI (cX12_within_met st l D ad cy σ13 (x1.toInt64) 32 95 _ g15) (zgS zw11_18 zw11_19 zw1_5 zw11_20) rfl ⟨rfl, rfl⟩ 3 hdX12_within ⟨Nat.le_of_ble_eq_true rfl, Nat.le_of_ble_eq_true rfl⟩ rfl hl rfl (Nat.le_of_ble_eq_true rfl) dX12_chip_21 ⟨Nat.zero_le _, Nat.zero_le _⟩ (fun H locs hI => ?_)
  refine lv_if_ne (tgt := 31) hx hb dX12_chip_24 (by decide) (fun q => ?_) (fun q => ?_)
  · replace hf := zif_f q hf
    exact bX12_chip_31 hC  hI hl hf
  replace hf := zif_t q hf
  refine lv_iconst (v := 1) hx hb dX12_chip_27 (by decide) ?_
  refine lv_goto (tgt := 32) hx hb dX12_chip_28 (by decide) ?_
  exact bX12_chip_32 hC  hI hl hf
set_option maxRecDepth 20000 in
theorem cX12_chip_met (st : Nat → Nat) (l : Launch) (D : va_G) (ad : Nat → Nat) (cy : Nat → ClassId) (σ : zSt) (x1 : Int32) (res : zSt × Int32) (hf : fX12_chip σ x1 = some res) (sz : Nat) : zMi st l yX12_chip wzX12_chip rmX12_chip [.ref (ad 0), .int x1] D (tM cy) (wM ad cy) sz σ res :=
  zMi.of (cc := cX12_chip) (maxL := 2) (ret := (some .int)) (by decide) rfl (Nat.le_of_ble_eq_true rfl) (fun p e s m args below meth c hC A hI ls hl => bX12_chip hC hI hl hf)
theorem hdX12_chip : yX12_chip.cls = RX12 ∧ yX12_chip.cls ≠ "java/lang/invoke/MethodHandle" ∧ yX12_chip.cls ≠ "java/lang/invoke/VarHandle" ∧ (parseMethodDescriptor yX12_chip.desc).map (fun d => d.parameters.length) = some 1 := by decide +kernel
def rmX12_trace : Room := { frames := 1, cells := 0, slots := 0, locals := 25 }
def wzX12_trace : List Cond := .code yX12_trace cX12_trace 2 (some .int) :: wsL_law
theorem hinX12_trace_X120 : ∀ w ∈ wsX120, w ∈ wzX12_trace := fun w h => List.mem_cons_of_mem _ (inlX12 w h)
def fX12_trace_50  (σ : zSt) (s0 : Int32) : Option (zSt × Int32) :=
  some (σ, s0)
def fX12_trace_27  (σ : zSt)  : Option (zSt × Int32) :=
  fX12_trace_50 σ (-1)
def fX12_trace  (σ : zSt) (x1 : Int32) : Option (zSt × Int32) :=
  zbv (zsi σ 0 0 0) (fun σ1 =>
  zbi (fX12_within σ1 (x1.toInt64) 0 31) (fun σ2 v3 =>
  if v3 = 0 then fX12_trace_27 σ2 else
  if (lg_cmp (x1.toInt64) (zgl σ2 0 30)) < 0 then zck (decide (¬ 32 = 0)) (
  zck (zin ((zreml (((zgl σ2 0 30) - 1) - (x1.toInt64)) 32).toInt32) 32) (
  fX12_trace_50 σ2 (zgi σ2 21 ((zreml (((zgl σ2 0 30) - 1) - (x1.toInt64)) 32).toInt32).toNatClampNeg))) else
  fX12_trace_27 σ2))
set_option maxRecDepth 20000 in
set_option maxHeartbeats 4000000 in
theorem bX12_trace_50 {st : Nat → Nat} {p : Program} {l : Launch} {e : Env} {s : State} {m : MethodId} {args : Array Value} {below : List Frame} {meth : Method} {c : Code} {D : va_G} {A : Nat → Prop} {ad : Nat → Nat} {cy : Nat → ClassId} (hC : zC p m c cX12_trace 2 s args wzX12_trace RX12 meth (some .int))  {res : zSt × Int32} {H : Heap} {locs : List Loc} {σ : zSt} {ls : Array Slot} {s0 : Int32} (hI : zI st D (tM cy) (wM ad cy σ) A s H locs) (hl : lv_has ls 2 []) (hf : fX12_trace_50  σ s0 = some res) : W p l e rmX12_trace s m args below meth c H locs 0 0 (zQi below args s D (tM cy) (wM ad cy) A res) (F0 m 50 ls [.int s0]) := by
  have hx := hC.1
  have hb := hC.2.1
  unfold fX12_trace_50 at hf
  exact z_ireturn hC hI hf dX12_trace_50
set_option maxRecDepth 20000 in
set_option maxHeartbeats 4000000 in
theorem bX12_trace_27 {st : Nat → Nat} {p : Program} {l : Launch} {e : Env} {s : State} {m : MethodId} {args : Array Value} {below : List Frame} {meth : Method} {c : Code} {D : va_G} {A : Nat → Prop} {ad : Nat → Nat} {cy : Nat → ClassId} (hC : zC p m c cX12_trace 2 s args wzX12_trace RX12 meth (some .int))  {res : zSt × Int32} {H : Heap} {locs : List Loc} {σ : zSt} {ls : Array Slot}  (hI : zI st D (tM cy) (wM ad cy σ) A s H locs) (hl : lv_has ls 2 []) (hf : fX12_trace_27  σ  = some res) : W p l e rmX12_trace s m args below meth c H locs 0 0 (zQi below args s D (tM cy) (wM ad cy) A res) (F0 m 27 ls []) := by
  have hx := hC.1
  have hb := hC.2.1
  unfold fX12_trace_27 at hf
  refine lv_iconst (v := (-1)) hx hb dX12_trace_27 (by decide) ?_
  refine lv_goto (tgt := 50) hx hb dX12_trace_28 (by decide) ?_
  exact bX12_trace_50 hC  hI hl hf
set_option maxRecDepth 20000 in
set_option maxHeartbeats 4000000 in
theorem bX12_trace {st : Nat → Nat} {p : Program} {l : Launch} {e : Env} {s : State} {m : MethodId} {args : Array Value} {below : List Frame} {meth : Method} {c : Code} {D : va_G} {A : Nat → Prop} {ad : Nat → Nat} {cy : Nat → ClassId} (hC : zC p m c cX12_trace 2 s args wzX12_trace RX12 meth (some .int))  {res : zSt × Int32} {H : Heap} {locs : List Loc} {σ : zSt} {ls : Array Slot} {x1 : Int32} (hI : zI st D (tM cy) (wM ad cy σ) A s H locs) (hl : lv_has ls 2 [(0, .ref (ad 0)), (1, .int x1)]) (hf : fX12_trace  σ x1 = some res) : W p l e rmX12_trace s m args below meth c H locs 0 0 (zQi below args s D (tM cy) (wM ad cy) A res) (F0 m 0 ls []) := by
  have hx := hC.1
  have hb := hC.2.1
  unfold fX12_trace at hf
  refine lv_aload_n hx hb dX12_trace_0 rfl (lv_at hl 0 rfl) ?_
  refine lv_iconst (v := 0) hx hb dX12_trace_1 (by decide) ?_
  obtain ⟨σ1, eσ1⟩ : ∃ z, z = zsi σ 0 0 0 := ⟨_, rfl⟩
  replace hf := zbv_use eσ1 hf
  refine z_put hC hI hinX12_trace_X120 tyX12_ok nmX12 0 (wM_e0 ad cy σ) rfl 0 (by decide) (List.mem_cons_of_mem _ zw12_1) rfl rfl rfl (Nat.le_of_ble_eq_true rfl) ((wM_s0_0 ad cy σ 0).trans (congrArg (wM ad cy) eσ1.symm)) dX12_trace_2 (fun H locs hI => ?_)
  refine lv_iload_n hx hb dX12_trace_5 rfl (lv_at hl 1 rfl) ?_
  refine lv_i2l (v := x1.toInt64) hx hb dX12_trace_6 rfl ?_
  refine lv_lconst (v := 0) hx hb dX12_trace_7 (by decide) ?_
  refine lv_ldc2 (v := 31) hx hb hC.2.2.2.1 (hC.2.2.2.2.1 _ (List.mem_cons_of_mem _ zw95_5)) dX12_trace_8 ?_
  obtain ⟨σ2, v3, g2, hf⟩ := zbi_use hf
  refine z_callSi (As := [.long (x1.toInt64), .long 0, .long 31]) (rest := []) hC hI (cX12_within_met st l D ad cy σ1 (x1.toInt64) 0 31 _ g2) (zgS zw11_18 zw11_19 zw1_5 zw11_20) rfl ⟨rfl, rfl⟩ 3 hdX12_within ⟨Nat.le_of_ble_eq_true rfl, Nat.le_of_ble_eq_true rfl⟩ rfl hl rfl (Nat.le_of_ble_eq_true rfl) dX12_trace_11 ⟨Nat.zero_le _, Nat.zero_le _⟩ (fun H locs hI => ?_)
  refine lv_if_eq (tgt := 27) hx hb dX12_trace_14 (by decide) (fun q => ?_) (fun q => ?_)
  · replace hf := zif_t q hf
    exact bX12_trace_27 hC  hI (lv_sub hl [] rfl) hf
  replace hf := zif_f q hf
  refine lv_iload_n hx hb dX12_trace_17 rfl (lv_at hl 1 rfl) ?_
  refine lv_i2l (v := x1.toInt64) hx hb dX12_trace_18 rfl ?_
  refine lv_aload_n hx hb dX12_trace_19 rfl (lv_at hl 0 rfl) ?_
  refine z_get hC hI hinX12_trace_X120 0 (wM_e0 ad cy σ2) rfl 30 (by decide) (List.mem_cons_of_mem _ zw47_8) rfl dX12_trace_20 ?_
  refine W.lcmp hx hb dX12_trace_23 ?_
  refine lv_if_lt (tgt := 31) hx hb dX12_trace_24 (by decide) (fun q => ?_) (fun q => ?_)
  · replace hf := zif_t q hf
    refine lv_aload_n hx hb dX12_trace_31 rfl (lv_at hl 0 rfl) ?_
    refine z_get hC hI hinX12_trace_X120 0 (wM_e0 ad cy σ2) rfl 29 (by decide) (List.mem_cons_of_mem _ zw10_3) rfl dX12_trace_32 ?_
    refine lv_aload_n hx hb dX12_trace_35 rfl (lv_at hl 0 rfl) ?_
    refine z_get hC hI hinX12_trace_X120 0 (wM_e0 ad cy σ2) rfl 30 (by decide) (List.mem_cons_of_mem _ zw47_8) rfl dX12_trace_36 ?_
    refine lv_lconst (v := 1) hx hb dX12_trace_39 (by decide) ?_
    refine lv_lsub hx hb dX12_trace_40 ?_
    refine lv_iload_n hx hb dX12_trace_41 rfl (lv_at hl 1 rfl) ?_
    refine lv_i2l (v := x1.toInt64) hx hb dX12_trace_42 rfl ?_
    refine lv_lsub hx hb dX12_trace_43 ?_
    refine lv_ldc2 (v := 32) hx hb hC.2.2.2.1 (hC.2.2.2.2.1 _ (List.mem_cons_of_mem _ zw47_9)) dX12_trace_44 ?_
    obtain ⟨q, hf⟩ := zck_use hf
    refine z_lrem hx hb dX12_trace_47 (of_decide_eq_true q) ?_
    refine lv_l2i (v := (zreml (((zgl σ2 0 30) - 1) - (x1.toInt64)) 32).toInt32) hx hb dX12_trace_48 rfl ?_
    obtain ⟨q, hf⟩ := zck_use hf
    refine z_iald hC hI 21 20 (wM_e21 ad cy σ2) (tM_t21 cy) q dX12_trace_49 ?_
    exact bX12_trace_50 hC  hI (lv_sub hl [] rfl) hf
  replace hf := zif_f q hf
  exact bX12_trace_27 hC  hI (lv_sub hl [] rfl) hf
set_option maxRecDepth 20000 in
theorem cX12_trace_met (st : Nat → Nat) (l : Launch) (D : va_G) (ad : Nat → Nat) (cy : Nat → ClassId) (σ : zSt) (x1 : Int32) (res : zSt × Int32) (hf : fX12_trace σ x1 = some res) (sz : Nat) : zMi st l yX12_trace wzX12_trace rmX12_trace [.ref (ad 0), .int x1] D (tM cy) (wM ad cy) sz σ res :=
  zMi.of (cc := cX12_trace) (maxL := 2) (ret := (some .int)) (by decide) rfl (Nat.le_of_ble_eq_true rfl) (fun p e s m args below meth c hC A hI ls hl => bX12_trace hC hI hl hf)
theorem hdX12_trace : yX12_trace.cls = RX12 ∧ yX12_trace.cls ≠ "java/lang/invoke/MethodHandle" ∧ yX12_trace.cls ≠ "java/lang/invoke/VarHandle" ∧ (parseMethodDescriptor yX12_trace.desc).map (fun d => d.parameters.length) = some 1 := by decide +kernel
def rmX12_look : Room := { frames := 1, cells := 0, slots := 0, locals := 25 }
def wzX12_look : List Cond := .code yX12_look cX12_look 2 (some .long) :: wsL_law
theorem hinX12_look_X120 : ∀ w ∈ wsX120, w ∈ wzX12_look := fun w h => List.mem_cons_of_mem _ (inlX12 w h)
def fX12_look_116  (σ : zSt) (x1 : Int32) : Option (zSt × Int64) :=
  zck (zin x1 5) (
  some (σ, zgl σ 4 x1.toNatClampNeg))
def fX12_look_169  (σ : zSt) (x1 : Int32) : Option (zSt × Int64) :=
  zck (zin ((29 + x1) - 9) 1048) (
  some (σ, (zgi σ 3 ((29 + x1) - 9).toNatClampNeg).toInt64))
def fX12_look_222  (σ : zSt) (s0 : Int64) : Option (zSt × Int64) :=
  some (σ, s0)
def fX12_look_18  (σ : zSt) (x1 : Int32) (s0 : Int32) : Option (zSt × Int64) :=
  zbi (fX12_fails σ s0 1) (fun σ1 v2 =>
  if v2 = 0 then if x1 = 0 then fX12_look_116 σ1 x1 else
  if x1 = 1 then fX12_look_116 σ1 x1 else
  if x1 = 2 then fX12_look_116 σ1 x1 else
  if x1 = 3 then zck (zin 87 1048) (
  some (σ1, (zgi σ1 3 (87 : Int32).toNatClampNeg).toInt64)) else
  if x1 = 4 then zck (zin 3 5) (
  some (σ1, zgl σ1 4 (3 : Int32).toNatClampNeg)) else
  if x1 = 5 then some (σ1, (zgi σ1 0 2).toInt64) else
  if x1 = 6 then zck (zin 89 1048) (
  some (σ1, (zgi σ1 3 (89 : Int32).toNatClampNeg).toInt64)) else
  if x1 = 7 then some (σ1, (zgi σ1 0 5).toInt64) else
  if x1 = 8 then zck (zin 32 1048) (
  some (σ1, (zgi σ1 3 (32 : Int32).toNatClampNeg).toInt64)) else
  if x1 = 9 then fX12_look_169 σ1 x1 else
  if x1 = 10 then fX12_look_169 σ1 x1 else
  if x1 = 11 then fX12_look_169 σ1 x1 else
  if x1 = 12 then zck (zin 28 1048) (
  some (σ1, (zgi σ1 3 (28 : Int32).toNatClampNeg).toInt64)) else
  if x1 = 13 then zck (zin 35 1048) (
  some (σ1, (zgi σ1 3 (35 : Int32).toNatClampNeg).toInt64)) else
  if x1 = 14 then zck (zin 33 1048) (
  some (σ1, (zgi σ1 3 (33 : Int32).toNatClampNeg).toInt64)) else
  if x1 = 15 then if (zgi σ1 0 19) = 0 then fX12_look_222 σ1 0 else
  fX12_look_222 σ1 1 else
  if x1 = 16 then zck (zin 171 1048) (
  some (σ1, (zgi σ1 3 (171 : Int32).toNatClampNeg).toInt64)) else
  if x1 = 17 then zck (zin 169 1048) (
  some (σ1, (zgi σ1 3 (169 : Int32).toNatClampNeg).toInt64)) else
  some (σ1, (zgi σ1 0 39).toInt64) else
  some (σ1, 0))
def fX12_look  (σ : zSt) (x1 : Int32) : Option (zSt × Int64) :=
  zbi (fX12_within σ (x1.toInt64) 0 18) (fun σ3 v4 =>
  if v4 = 0 then fX12_look_18 σ3 x1 1 else
  fX12_look_18 σ3 x1 0)
set_option maxRecDepth 20000 in
set_option maxHeartbeats 4000000 in
theorem bX12_look_116 {st : Nat → Nat} {p : Program} {l : Launch} {e : Env} {s : State} {m : MethodId} {args : Array Value} {below : List Frame} {meth : Method} {c : Code} {D : va_G} {A : Nat → Prop} {ad : Nat → Nat} {cy : Nat → ClassId} (hC : zC p m c cX12_look 2 s args wzX12_look RX12 meth (some .long))  {res : zSt × Int64} {H : Heap} {locs : List Loc} {σ : zSt} {ls : Array Slot} {x1 : Int32} (hI : zI st D (tM cy) (wM ad cy σ) A s H locs) (hl : lv_has ls 2 [(0, .ref (ad 0)), (1, .int x1)]) (hf : fX12_look_116  σ x1 = some res) : W p l e rmX12_look s m args below meth c H locs 0 0 (zQl below args s D (tM cy) (wM ad cy) A res) (F0 m 116 ls []) := by
  have hx := hC.1
  have hb := hC.2.1
  unfold fX12_look_116 at hf
  refine lv_aload_n hx hb dX12_look_116 rfl (lv_at hl 0 rfl) ?_
  refine z_get hC hI hinX12_look_X120 0 (wM_e0 ad cy σ) rfl 11 (by decide) (List.mem_cons_of_mem _ zw9_8) rfl dX12_look_117 ?_
  refine lv_iload_n hx hb dX12_look_120 rfl (lv_at hl 1 rfl) ?_
  obtain ⟨q, hf⟩ := zck_use hf
  refine z_lald hC hI 4 3 (wM_e4 ad cy σ) (tM_t4 cy) q dX12_look_121 ?_
  exact z_lreturn hC hI hf dX12_look_122
set_option maxRecDepth 20000 in
set_option maxHeartbeats 4000000 in
theorem bX12_look_169 {st : Nat → Nat} {p : Program} {l : Launch} {e : Env} {s : State} {m : MethodId} {args : Array Value} {below : List Frame} {meth : Method} {c : Code} {D : va_G} {A : Nat → Prop} {ad : Nat → Nat} {cy : Nat → ClassId} (hC : zC p m c cX12_look 2 s args wzX12_look RX12 meth (some .long))  {res : zSt × Int64} {H : Heap} {locs : List Loc} {σ : zSt} {ls : Array Slot} {x1 : Int32} (hI : zI st D (tM cy) (wM ad cy σ) A s H locs) (hl : lv_has ls 2 [(0, .ref (ad 0)), (1, .int x1)]) (hf : fX12_look_169  σ x1 = some res) : W p l e rmX12_look s m args below meth c H locs 0 0 (zQl below args s D (tM cy) (wM ad cy) A res) (F0 m 169 ls []) := by
  have hx := hC.1
  have hb := hC.2.1
  unfold fX12_look_169 at hf
  refine lv_aload_n hx hb dX12_look_169 rfl (lv_at hl 0 rfl) ?_
  refine z_get hC hI hinX12_look_X120 0 (wM_e0 ad cy σ) rfl 10 (by decide) (List.mem_cons_of_mem _ zw9_7) rfl dX12_look_170 ?_
  refine lv_bipush (v := 29) hx hb dX12_look_173 (by decide) ?_
  refine lv_iload_n hx hb dX12_look_175 rfl (lv_at hl 1 rfl) ?_
  refine lv_iadd hx hb dX12_look_176 ?_
  refine lv_bipush (v := 9) hx hb dX12_look_177 (by decide) ?_
  refine lv_isub hx hb dX12_look_179 ?_
  obtain ⟨q, hf⟩ := zck_use hf
  refine z_iald hC hI 3 2 (wM_e3 ad cy σ) (tM_t3 cy) q dX12_look_180 ?_
  refine lv_i2l (v := (zgi σ 3 ((29 + x1) - 9).toNatClampNeg).toInt64) hx hb dX12_look_181 rfl ?_
  exact z_lreturn hC hI hf dX12_look_182
set_option maxRecDepth 20000 in
set_option maxHeartbeats 4000000 in
theorem bX12_look_222 {st : Nat → Nat} {p : Program} {l : Launch} {e : Env} {s : State} {m : MethodId} {args : Array Value} {below : List Frame} {meth : Method} {c : Code} {D : va_G} {A : Nat → Prop} {ad : Nat → Nat} {cy : Nat → ClassId} (hC : zC p m c cX12_look 2 s args wzX12_look RX12 meth (some .long))  {res : zSt × Int64} {H : Heap} {locs : List Loc} {σ : zSt} {ls : Array Slot} {s0 : Int64} (hI : zI st D (tM cy) (wM ad cy σ) A s H locs) (hl : lv_has ls 2 []) (hf : fX12_look_222  σ s0 = some res) : W p l e rmX12_look s m args below meth c H locs 0 0 (zQl below args s D (tM cy) (wM ad cy) A res) (F0 m 222 ls [.long s0]) := by
  have hx := hC.1
  have hb := hC.2.1
  unfold fX12_look_222 at hf
  exact z_lreturn hC hI hf dX12_look_222
set_option maxRecDepth 20000 in
set_option maxHeartbeats 4000000 in
theorem bX12_look_18 {st : Nat → Nat} {p : Program} {l : Launch} {e : Env} {s : State} {m : MethodId} {args : Array Value} {below : List Frame} {meth : Method} {c : Code} {D : va_G} {A : Nat → Prop} {ad : Nat → Nat} {cy : Nat → ClassId} (hC : zC p m c cX12_look 2 s args wzX12_look RX12 meth (some .long))  {res : zSt × Int64} {H : Heap} {locs : List Loc} {σ : zSt} {ls : Array Slot} {x1 : Int32} {s0 : Int32} (hI : zI st D (tM cy) (wM ad cy σ) A s H locs) (hl : lv_has ls 2 [(0, .ref (ad 0)), (1, .int x1)]) (hf : fX12_look_18  σ x1 s0 = some res) : W p l e rmX12_look s m args below meth c H locs 0 0 (zQl below args s D (tM cy) (wM ad cy) A res) (F0 m 18 ls [.int s0, .ref (ad 0)]) := by
  have hx := hC.1
  have hb := hC.2.1
  unfold fX12_look_18 at hf
  refine lv_iconst (v := 1) hx hb dX12_look_18 (by decide) ?_
  obtain ⟨σ1, v2, g1, hf⟩ := zbi_use hf
  refine z_callVi (As := [.int s0, .int 1]) (rest := []) hC hI (cX12_fails_met st l D ad cy σ s0 1 _ g1) (zgV zw11_21 zw11_22 zw11_23 zw1_5 zw12_0) rfl ⟨rfl, rfl⟩ 2 hdX12_fails ⟨Nat.le_of_ble_eq_true rfl, Nat.le_of_ble_eq_true rfl⟩ rfl rfl (wM_e0 ad cy σ) rfl hl rfl (Nat.le_of_ble_eq_true rfl) dX12_look_19 ⟨Nat.zero_le _, Nat.zero_le _⟩ (fun H locs hI => ?_)
  refine lv_if_eq (tgt := 27) hx hb dX12_look_22 (by decide) (fun q => ?_) (fun q => ?_)
  · replace hf := zif_t q hf
    refine lv_iload_n hx hb dX12_look_27 rfl (lv_at hl 1 rfl) ?_
    by_cases q0 : x1 = 0
    · replace hf := zif_t q0 hf
      refine lv_tableIn (tgt := 116) hx hb dX12_look_28 (by rw [q0]; decide) (by rw [q0]; decide) (by rw [q0]; rfl) (by decide) ?_
      exact bX12_look_116 hC  hI hl hf
    replace hf := zif_f q0 hf
    by_cases q1 : x1 = 1
    · replace hf := zif_t q1 hf
      refine lv_tableIn (tgt := 116) hx hb dX12_look_28 (by rw [q1]; decide) (by rw [q1]; decide) (by rw [q1]; rfl) (by decide) ?_
      exact bX12_look_116 hC  hI hl hf
    replace hf := zif_f q1 hf
    by_cases q2 : x1 = 2
    · replace hf := zif_t q2 hf
      refine lv_tableIn (tgt := 116) hx hb dX12_look_28 (by rw [q2]; decide) (by rw [q2]; decide) (by rw [q2]; rfl) (by decide) ?_
      exact bX12_look_116 hC  hI hl hf
    replace hf := zif_f q2 hf
    by_cases q3 : x1 = 3
    · replace hf := zif_t q3 hf
      refine lv_tableIn (tgt := 123) hx hb dX12_look_28 (by rw [q3]; decide) (by rw [q3]; decide) (by rw [q3]; rfl) (by decide) ?_
      refine lv_aload_n hx hb dX12_look_123 rfl (lv_at hl 0 rfl) ?_
      refine z_get hC hI hinX12_look_X120 0 (wM_e0 ad cy σ1) rfl 10 (by decide) (List.mem_cons_of_mem _ zw9_7) rfl dX12_look_124 ?_
      refine lv_bipush (v := 87) hx hb dX12_look_127 (by decide) ?_
      obtain ⟨q, hf⟩ := zck_use hf
      refine z_iald hC hI 3 2 (wM_e3 ad cy σ1) (tM_t3 cy) q dX12_look_129 ?_
      refine lv_i2l (v := (zgi σ1 3 (87 : Int32).toNatClampNeg).toInt64) hx hb dX12_look_130 rfl ?_
      exact z_lreturn hC hI hf dX12_look_131
    replace hf := zif_f q3 hf
    by_cases q4 : x1 = 4
    · replace hf := zif_t q4 hf
      refine lv_tableIn (tgt := 132) hx hb dX12_look_28 (by rw [q4]; decide) (by rw [q4]; decide) (by rw [q4]; rfl) (by decide) ?_
      refine lv_aload_n hx hb dX12_look_132 rfl (lv_at hl 0 rfl) ?_
      refine z_get hC hI hinX12_look_X120 0 (wM_e0 ad cy σ1) rfl 11 (by decide) (List.mem_cons_of_mem _ zw9_8) rfl dX12_look_133 ?_
      refine lv_iconst (v := 3) hx hb dX12_look_136 (by decide) ?_
      obtain ⟨q, hf⟩ := zck_use hf
      refine z_lald hC hI 4 3 (wM_e4 ad cy σ1) (tM_t4 cy) q dX12_look_137 ?_
      exact z_lreturn hC hI hf dX12_look_138
    replace hf := zif_f q4 hf
    by_cases q5 : x1 = 5
    · replace hf := zif_t q5 hf
      refine lv_tableIn (tgt := 139) hx hb dX12_look_28 (by rw [q5]; decide) (by rw [q5]; decide) (by rw [q5]; rfl) (by decide) ?_
      refine lv_aload_n hx hb dX12_look_139 rfl (lv_at hl 0 rfl) ?_
      refine z_get hC hI hinX12_look_X120 0 (wM_e0 ad cy σ1) rfl 2 (by decide) (List.mem_cons_of_mem _ zw11_17) rfl dX12_look_140 ?_
      refine lv_i2l (v := (zgi σ1 0 2).toInt64) hx hb dX12_look_143 rfl ?_
      exact z_lreturn hC hI hf dX12_look_144
    replace hf := zif_f q5 hf
    by_cases q6 : x1 = 6
    · replace hf := zif_t q6 hf
      refine lv_tableIn (tgt := 145) hx hb dX12_look_28 (by rw [q6]; decide) (by rw [q6]; decide) (by rw [q6]; rfl) (by decide) ?_
      refine lv_aload_n hx hb dX12_look_145 rfl (lv_at hl 0 rfl) ?_
      refine z_get hC hI hinX12_look_X120 0 (wM_e0 ad cy σ1) rfl 10 (by decide) (List.mem_cons_of_mem _ zw9_7) rfl dX12_look_146 ?_
      refine lv_bipush (v := 89) hx hb dX12_look_149 (by decide) ?_
      obtain ⟨q, hf⟩ := zck_use hf
      refine z_iald hC hI 3 2 (wM_e3 ad cy σ1) (tM_t3 cy) q dX12_look_151 ?_
      refine lv_i2l (v := (zgi σ1 3 (89 : Int32).toNatClampNeg).toInt64) hx hb dX12_look_152 rfl ?_
      exact z_lreturn hC hI hf dX12_look_153
    replace hf := zif_f q6 hf
    by_cases q7 : x1 = 7
    · replace hf := zif_t q7 hf
      refine lv_tableIn (tgt := 154) hx hb dX12_look_28 (by rw [q7]; decide) (by rw [q7]; decide) (by rw [q7]; rfl) (by decide) ?_
      refine lv_aload_n hx hb dX12_look_154 rfl (lv_at hl 0 rfl) ?_
      refine z_get hC hI hinX12_look_X120 0 (wM_e0 ad cy σ1) rfl 5 (by decide) (List.mem_cons_of_mem _ zw16_6) rfl dX12_look_155 ?_
      refine lv_i2l (v := (zgi σ1 0 5).toInt64) hx hb dX12_look_158 rfl ?_
      exact z_lreturn hC hI hf dX12_look_159
    replace hf := zif_f q7 hf
    by_cases q8 : x1 = 8
    · replace hf := zif_t q8 hf
      refine lv_tableIn (tgt := 160) hx hb dX12_look_28 (by rw [q8]; decide) (by rw [q8]; decide) (by rw [q8]; rfl) (by decide) ?_
      refine lv_aload_n hx hb dX12_look_160 rfl (lv_at hl 0 rfl) ?_
      refine z_get hC hI hinX12_look_X120 0 (wM_e0 ad cy σ1) rfl 10 (by decide) (List.mem_cons_of_mem _ zw9_7) rfl dX12_look_161 ?_
      refine lv_bipush (v := 32) hx hb dX12_look_164 (by decide) ?_
      obtain ⟨q, hf⟩ := zck_use hf
      refine z_iald hC hI 3 2 (wM_e3 ad cy σ1) (tM_t3 cy) q dX12_look_166 ?_
      refine lv_i2l (v := (zgi σ1 3 (32 : Int32).toNatClampNeg).toInt64) hx hb dX12_look_167 rfl ?_
      exact z_lreturn hC hI hf dX12_look_168
    replace hf := zif_f q8 hf
    by_cases q9 : x1 = 9
    · replace hf := zif_t q9 hf
      refine lv_tableIn (tgt := 169) hx hb dX12_look_28 (by rw [q9]; decide) (by rw [q9]; decide) (by rw [q9]; rfl) (by decide) ?_
      exact bX12_look_169 hC  hI hl hf
    replace hf := zif_f q9 hf
    by_cases q10 : x1 = 10
    · replace hf := zif_t q10 hf
      refine lv_tableIn (tgt := 169) hx hb dX12_look_28 (by rw [q10]; decide) (by rw [q10]; decide) (by rw [q10]; rfl) (by decide) ?_
      exact bX12_look_169 hC  hI hl hf
    replace hf := zif_f q10 hf
    by_cases q11 : x1 = 11
    · replace hf := zif_t q11 hf
      refine lv_tableIn (tgt := 169) hx hb dX12_look_28 (by rw [q11]; decide) (by rw [q11]; decide) (by rw [q11]; rfl) (by decide) ?_
      exact bX12_look_169 hC  hI hl hf
    replace hf := zif_f q11 hf
    by_cases q12 : x1 = 12
    · replace hf := zif_t q12 hf
      refine lv_tableIn (tgt := 183) hx hb dX12_look_28 (by rw [q12]; decide) (by rw [q12]; decide) (by rw [q12]; rfl) (by decide) ?_
      refine lv_aload_n hx hb dX12_look_183 rfl (lv_at hl 0 rfl) ?_
      refine z_get hC hI hinX12_look_X120 0 (wM_e0 ad cy σ1) rfl 10 (by decide) (List.mem_cons_of_mem _ zw9_7) rfl dX12_look_184 ?_
      refine lv_bipush (v := 28) hx hb dX12_look_187 (by decide) ?_
      obtain ⟨q, hf⟩ := zck_use hf
      refine z_iald hC hI 3 2 (wM_e3 ad cy σ1) (tM_t3 cy) q dX12_look_189 ?_
      refine lv_i2l (v := (zgi σ1 3 (28 : Int32).toNatClampNeg).toInt64) hx hb dX12_look_190 rfl ?_
      exact z_lreturn hC hI hf dX12_look_191
    replace hf := zif_f q12 hf
    by_cases q13 : x1 = 13
    · replace hf := zif_t q13 hf
      refine lv_tableIn (tgt := 192) hx hb dX12_look_28 (by rw [q13]; decide) (by rw [q13]; decide) (by rw [q13]; rfl) (by decide) ?_
      refine lv_aload_n hx hb dX12_look_192 rfl (lv_at hl 0 rfl) ?_
      refine z_get hC hI hinX12_look_X120 0 (wM_e0 ad cy σ1) rfl 10 (by decide) (List.mem_cons_of_mem _ zw9_7) rfl dX12_look_193 ?_
      refine lv_bipush (v := 35) hx hb dX12_look_196 (by decide) ?_
      obtain ⟨q, hf⟩ := zck_use hf
      refine z_iald hC hI 3 2 (wM_e3 ad cy σ1) (tM_t3 cy) q dX12_look_198 ?_
      refine lv_i2l (v := (zgi σ1 3 (35 : Int32).toNatClampNeg).toInt64) hx hb dX12_look_199 rfl ?_
      exact z_lreturn hC hI hf dX12_look_200
    replace hf := zif_f q13 hf
    by_cases q14 : x1 = 14
    · replace hf := zif_t q14 hf
      refine lv_tableIn (tgt := 201) hx hb dX12_look_28 (by rw [q14]; decide) (by rw [q14]; decide) (by rw [q14]; rfl) (by decide) ?_
      refine lv_aload_n hx hb dX12_look_201 rfl (lv_at hl 0 rfl) ?_
      refine z_get hC hI hinX12_look_X120 0 (wM_e0 ad cy σ1) rfl 10 (by decide) (List.mem_cons_of_mem _ zw9_7) rfl dX12_look_202 ?_
      refine lv_bipush (v := 33) hx hb dX12_look_205 (by decide) ?_
      obtain ⟨q, hf⟩ := zck_use hf
      refine z_iald hC hI 3 2 (wM_e3 ad cy σ1) (tM_t3 cy) q dX12_look_207 ?_
      refine lv_i2l (v := (zgi σ1 3 (33 : Int32).toNatClampNeg).toInt64) hx hb dX12_look_208 rfl ?_
      exact z_lreturn hC hI hf dX12_look_209
    replace hf := zif_f q14 hf
    by_cases q15 : x1 = 15
    · replace hf := zif_t q15 hf
      refine lv_tableIn (tgt := 210) hx hb dX12_look_28 (by rw [q15]; decide) (by rw [q15]; decide) (by rw [q15]; rfl) (by decide) ?_
      refine lv_aload_n hx hb dX12_look_210 rfl (lv_at hl 0 rfl) ?_
      refine z_get hC hI hinX12_look_X120 0 (wM_e0 ad cy σ1) rfl 19 (by decide) (List.mem_cons_of_mem _ zw16_12) rfl dX12_look_211 ?_
      refine lv_if_eq (tgt := 221) hx hb dX12_look_214 (by decide) (fun q => ?_) (fun q => ?_)
      · replace hf := zif_t q hf
        refine lv_lconst (v := 0) hx hb dX12_look_221 (by decide) ?_
        exact bX12_look_222 hC  hI (lv_sub hl [] rfl) hf
      replace hf := zif_f q hf
      refine lv_lconst (v := 1) hx hb dX12_look_217 (by decide) ?_
      refine lv_goto (tgt := 222) hx hb dX12_look_218 (by decide) ?_
      exact bX12_look_222 hC  hI (lv_sub hl [] rfl) hf
    replace hf := zif_f q15 hf
    by_cases q16 : x1 = 16
    · replace hf := zif_t q16 hf
      refine lv_tableIn (tgt := 223) hx hb dX12_look_28 (by rw [q16]; decide) (by rw [q16]; decide) (by rw [q16]; rfl) (by decide) ?_
      refine lv_aload_n hx hb dX12_look_223 rfl (lv_at hl 0 rfl) ?_
      refine z_get hC hI hinX12_look_X120 0 (wM_e0 ad cy σ1) rfl 10 (by decide) (List.mem_cons_of_mem _ zw9_7) rfl dX12_look_224 ?_
      refine lv_sipush (v := 171) hx hb dX12_look_227 (by decide) ?_
      obtain ⟨q, hf⟩ := zck_use hf
      refine z_iald hC hI 3 2 (wM_e3 ad cy σ1) (tM_t3 cy) q dX12_look_230 ?_
      refine lv_i2l (v := (zgi σ1 3 (171 : Int32).toNatClampNeg).toInt64) hx hb dX12_look_231 rfl ?_
      exact z_lreturn hC hI hf dX12_look_232
    replace hf := zif_f q16 hf
    by_cases q17 : x1 = 17
    · replace hf := zif_t q17 hf
      refine lv_tableIn (tgt := 233) hx hb dX12_look_28 (by rw [q17]; decide) (by rw [q17]; decide) (by rw [q17]; rfl) (by decide) ?_
      refine lv_aload_n hx hb dX12_look_233 rfl (lv_at hl 0 rfl) ?_
      refine z_get hC hI hinX12_look_X120 0 (wM_e0 ad cy σ1) rfl 10 (by decide) (List.mem_cons_of_mem _ zw9_7) rfl dX12_look_234 ?_
      refine lv_sipush (v := 169) hx hb dX12_look_237 (by decide) ?_
      obtain ⟨q, hf⟩ := zck_use hf
      refine z_iald hC hI 3 2 (wM_e3 ad cy σ1) (tM_t3 cy) q dX12_look_240 ?_
      refine lv_i2l (v := (zgi σ1 3 (169 : Int32).toNatClampNeg).toInt64) hx hb dX12_look_241 rfl ?_
      exact z_lreturn hC hI hf dX12_look_242
    replace hf := zif_f q17 hf
    refine lv_tableOut (tgt := 243) hx hb dX12_look_28 (zsw (fun k h1 h2 => by rcases (show k = 0 ∨ k = 1 ∨ k = 2 ∨ k = 3 ∨ k = 4 ∨ k = 5 ∨ k = 6 ∨ k = 7 ∨ k = 8 ∨ k = 9 ∨ k = 10 ∨ k = 11 ∨ k = 12 ∨ k = 13 ∨ k = 14 ∨ k = 15 ∨ k = 16 ∨ k = 17 by omega) with rfl | rfl | rfl | rfl | rfl | rfl | rfl | rfl | rfl | rfl | rfl | rfl | rfl | rfl | rfl | rfl | rfl | rfl <;> assumption)) (by decide) ?_
    refine lv_aload_n hx hb dX12_look_243 rfl (lv_at hl 0 rfl) ?_
    refine z_get hC hI hinX12_look_X120 0 (wM_e0 ad cy σ1) rfl 39 (by decide) (List.mem_cons_of_mem _ zw74_10) rfl dX12_look_244 ?_
    refine lv_i2l (v := (zgi σ1 0 39).toInt64) hx hb dX12_look_247 rfl ?_
    exact z_lreturn hC hI hf dX12_look_248
  replace hf := zif_f q hf
  refine lv_lconst (v := 0) hx hb dX12_look_25 (by decide) ?_
  exact z_lreturn hC hI hf dX12_look_26
set_option maxRecDepth 20000 in
set_option maxHeartbeats 4000000 in
theorem bX12_look {st : Nat → Nat} {p : Program} {l : Launch} {e : Env} {s : State} {m : MethodId} {args : Array Value} {below : List Frame} {meth : Method} {c : Code} {D : va_G} {A : Nat → Prop} {ad : Nat → Nat} {cy : Nat → ClassId} (hC : zC p m c cX12_look 2 s args wzX12_look RX12 meth (some .long))  {res : zSt × Int64} {H : Heap} {locs : List Loc} {σ : zSt} {ls : Array Slot} {x1 : Int32} (hI : zI st D (tM cy) (wM ad cy σ) A s H locs) (hl : lv_has ls 2 [(0, .ref (ad 0)), (1, .int x1)]) (hf : fX12_look  σ x1 = some res) : W p l e rmX12_look s m args below meth c H locs 0 0 (zQl below args s D (tM cy) (wM ad cy) A res) (F0 m 0 ls []) := by
  have hx := hC.1
  have hb := hC.2.1
  unfold fX12_look at hf
  refine lv_aload_n hx hb dX12_look_0 rfl (lv_at hl 0 rfl) ?_
  refine lv_iload_n hx hb dX12_look_1 rfl (lv_at hl 1 rfl) ?_
  refine lv_i2l (v := x1.toInt64) hx hb dX12_look_2 rfl ?_
  refine lv_lconst (v := 0) hx hb dX12_look_3 (by decide) ?_
  refine lv_ldc2 (v := 18) hx hb hC.2.2.2.1 (hC.2.2.2.2.1 _ (List.mem_cons_of_mem _ zw94_16)) dX12_look_4 ?_
  obtain ⟨σ3, v4, g3, hf⟩ := zbi_use hf
  refine z_callSi (As := [.long (x1.toInt64), .long 0, .long 18]) (rest := [.ref (ad 0)]) hC hI (cX12_within_met st l D ad cy σ (x1.toInt64) 0 18 _ g3) (zgS zw11_18 zw11_19 zw1_5 zw11_20) rfl ⟨rfl, rfl⟩ 3 hdX12_within ⟨Nat.le_of_ble_eq_true rfl, Nat.le_of_ble_eq_true rfl⟩ rfl hl rfl (Nat.le_of_ble_eq_true rfl) dX12_look_7 ⟨Nat.zero_le _, Nat.zero_le _⟩ (fun H locs hI => ?_)
  refine lv_if_ne (tgt := 17) hx hb dX12_look_10 (by decide) (fun q => ?_) (fun q => ?_)
  · replace hf := zif_f q hf
    refine lv_iconst (v := 0) hx hb dX12_look_17 (by decide) ?_
    exact bX12_look_18 hC  hI hl hf
  replace hf := zif_t q hf
  refine lv_iconst (v := 1) hx hb dX12_look_13 (by decide) ?_
  refine lv_goto (tgt := 18) hx hb dX12_look_14 (by decide) ?_
  exact bX12_look_18 hC  hI hl hf
set_option maxRecDepth 20000 in
theorem cX12_look_met (st : Nat → Nat) (l : Launch) (D : va_G) (ad : Nat → Nat) (cy : Nat → ClassId) (σ : zSt) (x1 : Int32) (res : zSt × Int64) (hf : fX12_look σ x1 = some res) (sz : Nat) : zMl st l yX12_look wzX12_look rmX12_look [.ref (ad 0), .int x1] D (tM cy) (wM ad cy) sz σ res :=
  zMl.of (cc := cX12_look) (maxL := 2) (ret := (some .long)) (by decide) rfl (Nat.le_of_ble_eq_true rfl) (fun p e s m args below meth c hC A hI ls hl => bX12_look hC hI hl hf)
theorem hdX12_look : yX12_look.cls = RX12 ∧ yX12_look.cls ≠ "java/lang/invoke/MethodHandle" ∧ yX12_look.cls ≠ "java/lang/invoke/VarHandle" ∧ (parseMethodDescriptor yX12_look.desc).map (fun d => d.parameters.length) = some 1 := by decide +kernel
def rmX12_mix : Room := { frames := 1, cells := 0, slots := 0, locals := 22 }
def wzX12_mix : List Cond := .code yX12_mix cX12_mix 3 (some .long) :: wsL_law
theorem hinX12_mix_X120 : ∀ w ∈ wsX120, w ∈ wzX12_mix := fun w h => List.mem_cons_of_mem _ (inlX12 w h)
def fX12_mix_17  (σ : zSt) (s0 : Int32) : Option (zSt × Int64) :=
  zbi (fX12_fails σ s0 1) (fun σ1 v2 =>
  if v2 = 0 then zck (zin 170 1048) (
  zck (zin (zgi σ1 3 (170 : Int32).toNatClampNeg) 4096) (
  zbv (zgl σ1 11 (zgi σ1 3 (170 : Int32).toNatClampNeg).toNatClampNeg) (fun v3 =>
  zck (zin 170 1048) (
  zck (decide (¬ 4096 = 0)) (
  zck (zin 170 1048) (zbv (zsi σ1 3 ((170 : Int32).toNatClampNeg) (zrem ((zgi σ1 3 (170 : Int32).toNatClampNeg) + 1) 4096)) (fun σ4 =>
  zck (zin 169 1048) (
  zck (zin 169 1048) (zbv (zsi σ4 3 ((169 : Int32).toNatClampNeg) ((zgi σ4 3 (169 : Int32).toNatClampNeg) - 1)) (fun σ5 =>
  some (σ5, v3))))))))))) else
  some (σ1, 0))
def fX12_mix  (σ : zSt)  : Option (zSt × Int64) :=
  zck (zin 169 1048) (
  if (zgi σ 3 (169 : Int32).toNatClampNeg) = 0 then fX12_mix_17 σ 1 else
  fX12_mix_17 σ 0)
set_option maxRecDepth 20000 in
set_option maxHeartbeats 4000000 in
theorem bX12_mix_17 {st : Nat → Nat} {p : Program} {l : Launch} {e : Env} {s : State} {m : MethodId} {args : Array Value} {below : List Frame} {meth : Method} {c : Code} {D : va_G} {A : Nat → Prop} {ad : Nat → Nat} {cy : Nat → ClassId} (hC : zC p m c cX12_mix 3 s args wzX12_mix RX12 meth (some .long))  {res : zSt × Int64} {H : Heap} {locs : List Loc} {σ : zSt} {ls : Array Slot} {s0 : Int32} (hI : zI st D (tM cy) (wM ad cy σ) A s H locs) (hl : lv_has ls 3 [(0, .ref (ad 0))]) (hf : fX12_mix_17  σ s0 = some res) : W p l e rmX12_mix s m args below meth c H locs 0 0 (zQl below args s D (tM cy) (wM ad cy) A res) (F0 m 17 ls [.int s0, .ref (ad 0)]) := by
  have hx := hC.1
  have hb := hC.2.1
  unfold fX12_mix_17 at hf
  refine lv_iconst (v := 1) hx hb dX12_mix_17 (by decide) ?_
  obtain ⟨σ1, v2, g1, hf⟩ := zbi_use hf
  refine z_callVi (As := [.int s0, .int 1]) (rest := []) hC hI (cX12_fails_met st l D ad cy σ s0 1 _ g1) (zgV zw11_21 zw11_22 zw11_23 zw1_5 zw12_0) rfl ⟨rfl, rfl⟩ 2 hdX12_fails ⟨Nat.le_of_ble_eq_true rfl, Nat.le_of_ble_eq_true rfl⟩ rfl rfl (wM_e0 ad cy σ) rfl hl rfl (Nat.le_of_ble_eq_true rfl) dX12_mix_18 ⟨Nat.zero_le _, Nat.zero_le _⟩ (fun H locs hI => ?_)
  refine lv_if_eq (tgt := 26) hx hb dX12_mix_21 (by decide) (fun q => ?_) (fun q => ?_)
  · replace hf := zif_t q hf
    refine lv_aload_n hx hb dX12_mix_26 rfl (lv_at hl 0 rfl) ?_
    refine z_get hC hI hinX12_mix_X120 0 (wM_e0 ad cy σ1) rfl 18 (by decide) (List.mem_cons_of_mem _ zw9_17) rfl dX12_mix_27 ?_
    refine lv_aload_n hx hb dX12_mix_30 rfl (lv_at hl 0 rfl) ?_
    refine z_get hC hI hinX12_mix_X120 0 (wM_e0 ad cy σ1) rfl 10 (by decide) (List.mem_cons_of_mem _ zw9_7) rfl dX12_mix_31 ?_
    refine lv_sipush (v := 170) hx hb dX12_mix_34 (by decide) ?_
    obtain ⟨q, hf⟩ := zck_use hf
    refine z_iald hC hI 3 2 (wM_e3 ad cy σ1) (tM_t3 cy) q dX12_mix_37 ?_
    obtain ⟨q, hf⟩ := zck_use hf
    refine z_lald hC hI 11 10 (wM_e11 ad cy σ1) (tM_t11 cy) q dX12_mix_38 ?_
    refine lv_topl (fun v3 ev3 => ?_)
    replace hf := zbv_use ev3 hf
    refine lv_lstore_n (lv' := [(1, .long v3), (0, .ref (ad 0))]) hx hb dX12_mix_39 rfl hl (by decide) rfl (fun ls hl => ?_)
    refine lv_aload_n hx hb dX12_mix_40 rfl (lv_at hl 1 rfl) ?_
    refine z_get hC hI hinX12_mix_X120 0 (wM_e0 ad cy σ1) rfl 10 (by decide) (List.mem_cons_of_mem _ zw9_7) rfl dX12_mix_41 ?_
    refine lv_sipush (v := 170) hx hb dX12_mix_44 (by decide) ?_
    refine lv_aload_n hx hb dX12_mix_47 rfl (lv_at hl 1 rfl) ?_
    refine z_get hC hI hinX12_mix_X120 0 (wM_e0 ad cy σ1) rfl 10 (by decide) (List.mem_cons_of_mem _ zw9_7) rfl dX12_mix_48 ?_
    refine lv_sipush (v := 170) hx hb dX12_mix_51 (by decide) ?_
    obtain ⟨q, hf⟩ := zck_use hf
    refine z_iald hC hI 3 2 (wM_e3 ad cy σ1) (tM_t3 cy) q dX12_mix_54 ?_
    refine lv_iconst (v := 1) hx hb dX12_mix_55 (by decide) ?_
    refine lv_iadd hx hb dX12_mix_56 ?_
    refine lv_sipush (v := 4096) hx hb dX12_mix_57 (by decide) ?_
    obtain ⟨q, hf⟩ := zck_use hf
    refine z_irem hx hb dX12_mix_60 (of_decide_eq_true q) ?_
    obtain ⟨q, hf⟩ := zck_use hf
    obtain ⟨σ4, eσ4⟩ : ∃ z, z = zsi σ1 3 ((170 : Int32).toNatClampNeg) (zrem ((zgi σ1 3 (170 : Int32).toNatClampNeg) + 1) 4096) := ⟨_, rfl⟩
    replace hf := zbv_use eσ4 hf
    refine z_iast hC hI 3 2 (wM_e3 ad cy σ1) (tM_t3 cy) q ((wM_s3 ad cy σ1 _ _).trans (congrArg (wM ad cy) eσ4.symm)) dX12_mix_61 (fun H locs hI => ?_)
    refine lv_aload_n hx hb dX12_mix_62 rfl (lv_at hl 1 rfl) ?_
    refine z_get hC hI hinX12_mix_X120 0 (wM_e0 ad cy σ4) rfl 10 (by decide) (List.mem_cons_of_mem _ zw9_7) rfl dX12_mix_63 ?_
    refine lv_sipush (v := 169) hx hb dX12_mix_66 (by decide) ?_
    refine lv_dup2_11 hx hb dX12_mix_69 rfl rfl ?_
    obtain ⟨q, hf⟩ := zck_use hf
    refine z_iald hC hI 3 2 (wM_e3 ad cy σ4) (tM_t3 cy) q dX12_mix_70 ?_
    refine lv_iconst (v := 1) hx hb dX12_mix_71 (by decide) ?_
    refine lv_isub hx hb dX12_mix_72 ?_
    obtain ⟨q, hf⟩ := zck_use hf
    obtain ⟨σ5, eσ5⟩ : ∃ z, z = zsi σ4 3 ((169 : Int32).toNatClampNeg) ((zgi σ4 3 (169 : Int32).toNatClampNeg) - 1) := ⟨_, rfl⟩
    replace hf := zbv_use eσ5 hf
    refine z_iast hC hI 3 2 (wM_e3 ad cy σ4) (tM_t3 cy) q ((wM_s3 ad cy σ4 _ _).trans (congrArg (wM ad cy) eσ5.symm)) dX12_mix_73 (fun H locs hI => ?_)
    refine lv_lload_n hx hb dX12_mix_74 rfl (lv_at hl 0 rfl) ?_
    exact z_lreturn hC hI hf dX12_mix_75
  replace hf := zif_f q hf
  refine lv_lconst (v := 0) hx hb dX12_mix_24 (by decide) ?_
  exact z_lreturn hC hI hf dX12_mix_25
set_option maxRecDepth 20000 in
set_option maxHeartbeats 4000000 in
theorem bX12_mix {st : Nat → Nat} {p : Program} {l : Launch} {e : Env} {s : State} {m : MethodId} {args : Array Value} {below : List Frame} {meth : Method} {c : Code} {D : va_G} {A : Nat → Prop} {ad : Nat → Nat} {cy : Nat → ClassId} (hC : zC p m c cX12_mix 3 s args wzX12_mix RX12 meth (some .long))  {res : zSt × Int64} {H : Heap} {locs : List Loc} {σ : zSt} {ls : Array Slot}  (hI : zI st D (tM cy) (wM ad cy σ) A s H locs) (hl : lv_has ls 3 [(0, .ref (ad 0))]) (hf : fX12_mix  σ  = some res) : W p l e rmX12_mix s m args below meth c H locs 0 0 (zQl below args s D (tM cy) (wM ad cy) A res) (F0 m 0 ls []) := by
  have hx := hC.1
  have hb := hC.2.1
  unfold fX12_mix at hf
  refine lv_aload_n hx hb dX12_mix_0 rfl (lv_at hl 0 rfl) ?_
  refine lv_aload_n hx hb dX12_mix_1 rfl (lv_at hl 0 rfl) ?_
  refine z_get hC hI hinX12_mix_X120 0 (wM_e0 ad cy σ) rfl 10 (by decide) (List.mem_cons_of_mem _ zw9_7) rfl dX12_mix_2 ?_
  refine lv_sipush (v := 169) hx hb dX12_mix_5 (by decide) ?_
  obtain ⟨q, hf⟩ := zck_use hf
  refine z_iald hC hI 3 2 (wM_e3 ad cy σ) (tM_t3 cy) q dX12_mix_8 ?_
  refine lv_if_ne (tgt := 16) hx hb dX12_mix_9 (by decide) (fun q => ?_) (fun q => ?_)
  · replace hf := zif_f q hf
    refine lv_iconst (v := 0) hx hb dX12_mix_16 (by decide) ?_
    exact bX12_mix_17 hC  hI hl hf
  replace hf := zif_t q hf
  refine lv_iconst (v := 1) hx hb dX12_mix_12 (by decide) ?_
  refine lv_goto (tgt := 17) hx hb dX12_mix_13 (by decide) ?_
  exact bX12_mix_17 hC  hI hl hf
set_option maxRecDepth 20000 in
theorem cX12_mix_met (st : Nat → Nat) (l : Launch) (D : va_G) (ad : Nat → Nat) (cy : Nat → ClassId) (σ : zSt)  (res : zSt × Int64) (hf : fX12_mix σ  = some res) (sz : Nat) : zMl st l yX12_mix wzX12_mix rmX12_mix [.ref (ad 0)] D (tM cy) (wM ad cy) sz σ res :=
  zMl.of (cc := cX12_mix) (maxL := 3) (ret := (some .long)) (by decide) rfl (Nat.le_of_ble_eq_true rfl) (fun p e s m args below meth c hC A hI ls hl => bX12_mix hC hI hl hf)
theorem hdX12_mix : yX12_mix.cls = RX12 ∧ yX12_mix.cls ≠ "java/lang/invoke/MethodHandle" ∧ yX12_mix.cls ≠ "java/lang/invoke/VarHandle" ∧ (parseMethodDescriptor yX12_mix.desc).map (fun d => d.parameters.length) = some 0 := by decide +kernel
def rmX12_wave : Room := { frames := 1, cells := 0, slots := 0, locals := 25 }
def wzX12_wave : List Cond := .code yX12_wave cX12_wave 2 (some .int) :: wsL_law
theorem hinX12_wave_X120 : ∀ w ∈ wsX120, w ∈ wzX12_wave := fun w h => List.mem_cons_of_mem _ (inlX12 w h)
def fX12_wave_41  (σ : zSt) (x1 : Int32) (s0 : Int32) : Option (zSt × Int32) :=
  zbi (fX12_fails σ s0 1) (fun σ1 v2 =>
  if v2 = 0 then if 64 ≤ x1 then if x1 = 64 then zck (zin 163 1048) (
  some (σ1, zgi σ1 3 (163 : Int32).toNatClampNeg)) else
  if x1 = 65 then zck (zin 164 1048) (
  some (σ1, zgi σ1 3 (164 : Int32).toNatClampNeg)) else
  if x1 = 66 then zck (zin 4 5) (
  zck (decide (¬ 65536 = 0)) (
  some (σ1, (zreml (zgl σ1 4 (4 : Int32).toNatClampNeg) 65536).toInt32))) else
  if x1 = 67 then zck (zin 165 1048) (
  some (σ1, zgi σ1 3 (165 : Int32).toNatClampNeg)) else
  zck (decide (¬ 8 = 0)) (
  zck (decide (¬ 8 = 0)) (
  zck (zin ((172 + (6 * ((x1 - 128) / 8))) + (zrem x1 8)) 1048) (
  some (σ1, zgi σ1 3 ((172 + (6 * ((x1 - 128) / 8))) + (zrem x1 8)).toNatClampNeg)))) else
  zbi (fX12_wreg σ1 x1) (fun σ3 v4 =>
  some (σ3, v4)) else
  some (σ1, 0))
def fX12_wave_40  (σ : zSt) (x1 : Int32) : Option (zSt × Int32) :=
  fX12_wave_41 σ x1 0
def fX12_wave_36  (σ : zSt) (x1 : Int32) : Option (zSt × Int32) :=
  fX12_wave_41 σ x1 1
def fX12_wave  (σ : zSt) (x1 : Int32) : Option (zSt × Int32) :=
  zbi (fX12_within σ (x1.toInt64) 0 67) (fun σ5 v6 =>
  if v6 = 0 then zbi (fX12_within σ5 (x1.toInt64) 128 271) (fun σ7 v8 =>
  if v8 = 0 then fX12_wave_36 σ7 x1 else
  zck (decide (¬ 8 = 0)) (
  if (zrem x1 8) < 6 then fX12_wave_40 σ7 x1 else
  fX12_wave_36 σ7 x1)) else
  fX12_wave_40 σ5 x1)
set_option maxRecDepth 20000 in
set_option maxHeartbeats 4000000 in
theorem bX12_wave_41 {st : Nat → Nat} {p : Program} {l : Launch} {e : Env} {s : State} {m : MethodId} {args : Array Value} {below : List Frame} {meth : Method} {c : Code} {D : va_G} {A : Nat → Prop} {ad : Nat → Nat} {cy : Nat → ClassId} (hC : zC p m c cX12_wave 2 s args wzX12_wave RX12 meth (some .int))  {res : zSt × Int32} {H : Heap} {locs : List Loc} {σ : zSt} {ls : Array Slot} {x1 : Int32} {s0 : Int32} (hI : zI st D (tM cy) (wM ad cy σ) A s H locs) (hl : lv_has ls 2 [(0, .ref (ad 0)), (1, .int x1)]) (hf : fX12_wave_41  σ x1 s0 = some res) : W p l e rmX12_wave s m args below meth c H locs 0 0 (zQi below args s D (tM cy) (wM ad cy) A res) (F0 m 41 ls [.int s0, .ref (ad 0)]) := by
  have hx := hC.1
  have hb := hC.2.1
  unfold fX12_wave_41 at hf
  refine lv_iconst (v := 1) hx hb dX12_wave_41 (by decide) ?_
  obtain ⟨σ1, v2, g1, hf⟩ := zbi_use hf
  refine z_callVi (As := [.int s0, .int 1]) (rest := []) hC hI (cX12_fails_met st l D ad cy σ s0 1 _ g1) (zgV zw11_21 zw11_22 zw11_23 zw1_5 zw12_0) rfl ⟨rfl, rfl⟩ 2 hdX12_fails ⟨Nat.le_of_ble_eq_true rfl, Nat.le_of_ble_eq_true rfl⟩ rfl rfl (wM_e0 ad cy σ) rfl hl rfl (Nat.le_of_ble_eq_true rfl) dX12_wave_42 ⟨Nat.zero_le _, Nat.zero_le _⟩ (fun H locs hI => ?_)
  refine lv_if_eq (tgt := 50) hx hb dX12_wave_45 (by decide) (fun q => ?_) (fun q => ?_)
  · replace hf := zif_t q hf
    refine lv_iload_n hx hb dX12_wave_50 rfl (lv_at hl 1 rfl) ?_
    refine lv_bipush (v := 64) hx hb dX12_wave_51 (by decide) ?_
    refine lv_icmp_ge (tgt := 62) hx hb dX12_wave_53 (by decide) (fun q => ?_) (fun q => ?_)
    · replace hf := zif_t q hf
      refine lv_iload_n hx hb dX12_wave_62 rfl (lv_at hl 1 rfl) ?_
      refine lv_bipush (v := 64) hx hb dX12_wave_63 (by decide) ?_
      refine lv_icmp_ne (tgt := 77) hx hb dX12_wave_65 (by decide) (fun q => ?_) (fun q => ?_)
      · replace hf := zif_f q hf
        refine lv_iload_n hx hb dX12_wave_77 rfl (lv_at hl 1 rfl) ?_
        refine lv_bipush (v := 65) hx hb dX12_wave_78 (by decide) ?_
        refine lv_icmp_ne (tgt := 92) hx hb dX12_wave_80 (by decide) (fun q => ?_) (fun q => ?_)
        · replace hf := zif_f q hf
          refine lv_iload_n hx hb dX12_wave_92 rfl (lv_at hl 1 rfl) ?_
          refine lv_bipush (v := 66) hx hb dX12_wave_93 (by decide) ?_
          refine lv_icmp_ne (tgt := 110) hx hb dX12_wave_95 (by decide) (fun q => ?_) (fun q => ?_)
          · replace hf := zif_f q hf
            refine lv_iload_n hx hb dX12_wave_110 rfl (lv_at hl 1 rfl) ?_
            refine lv_bipush (v := 67) hx hb dX12_wave_111 (by decide) ?_
            refine lv_icmp_ne (tgt := 125) hx hb dX12_wave_113 (by decide) (fun q => ?_) (fun q => ?_)
            · replace hf := zif_f q hf
              refine lv_aload_n hx hb dX12_wave_125 rfl (lv_at hl 0 rfl) ?_
              refine z_get hC hI hinX12_wave_X120 0 (wM_e0 ad cy σ1) rfl 10 (by decide) (List.mem_cons_of_mem _ zw9_7) rfl dX12_wave_126 ?_
              refine lv_sipush (v := 172) hx hb dX12_wave_129 (by decide) ?_
              refine lv_bipush (v := 6) hx hb dX12_wave_132 (by decide) ?_
              refine lv_iload_n hx hb dX12_wave_134 rfl (lv_at hl 1 rfl) ?_
              refine lv_sipush (v := 128) hx hb dX12_wave_135 (by decide) ?_
              refine lv_isub hx hb dX12_wave_138 ?_
              refine lv_bipush (v := 8) hx hb dX12_wave_139 (by decide) ?_
              obtain ⟨q, hf⟩ := zck_use hf
              refine lv_idiv hx hb dX12_wave_141 (of_decide_eq_true q) ?_
              refine lv_imul hx hb dX12_wave_142 ?_
              refine lv_iadd hx hb dX12_wave_143 ?_
              refine lv_iload_n hx hb dX12_wave_144 rfl (lv_at hl 1 rfl) ?_
              refine lv_bipush (v := 8) hx hb dX12_wave_145 (by decide) ?_
              obtain ⟨q, hf⟩ := zck_use hf
              refine z_irem hx hb dX12_wave_147 (of_decide_eq_true q) ?_
              refine lv_iadd hx hb dX12_wave_148 ?_
              obtain ⟨q, hf⟩ := zck_use hf
              refine z_iald hC hI 3 2 (wM_e3 ad cy σ1) (tM_t3 cy) q dX12_wave_149 ?_
              exact z_ireturn hC hI hf dX12_wave_150
            replace hf := zif_t q hf
            refine lv_aload_n hx hb dX12_wave_116 rfl (lv_at hl 0 rfl) ?_
            refine z_get hC hI hinX12_wave_X120 0 (wM_e0 ad cy σ1) rfl 10 (by decide) (List.mem_cons_of_mem _ zw9_7) rfl dX12_wave_117 ?_
            refine lv_sipush (v := 165) hx hb dX12_wave_120 (by decide) ?_
            obtain ⟨q, hf⟩ := zck_use hf
            refine z_iald hC hI 3 2 (wM_e3 ad cy σ1) (tM_t3 cy) q dX12_wave_123 ?_
            exact z_ireturn hC hI hf dX12_wave_124
          replace hf := zif_t q hf
          refine lv_aload_n hx hb dX12_wave_98 rfl (lv_at hl 0 rfl) ?_
          refine z_get hC hI hinX12_wave_X120 0 (wM_e0 ad cy σ1) rfl 11 (by decide) (List.mem_cons_of_mem _ zw9_8) rfl dX12_wave_99 ?_
          refine lv_iconst (v := 4) hx hb dX12_wave_102 (by decide) ?_
          obtain ⟨q, hf⟩ := zck_use hf
          refine z_lald hC hI 4 3 (wM_e4 ad cy σ1) (tM_t4 cy) q dX12_wave_103 ?_
          refine lv_ldc2 (v := 65536) hx hb hC.2.2.2.1 (hC.2.2.2.2.1 _ (List.mem_cons_of_mem _ zw60_18)) dX12_wave_104 ?_
          obtain ⟨q, hf⟩ := zck_use hf
          refine z_lrem hx hb dX12_wave_107 (of_decide_eq_true q) ?_
          refine lv_l2i (v := (zreml (zgl σ1 4 (4 : Int32).toNatClampNeg) 65536).toInt32) hx hb dX12_wave_108 rfl ?_
          exact z_ireturn hC hI hf dX12_wave_109
        replace hf := zif_t q hf
        refine lv_aload_n hx hb dX12_wave_83 rfl (lv_at hl 0 rfl) ?_
        refine z_get hC hI hinX12_wave_X120 0 (wM_e0 ad cy σ1) rfl 10 (by decide) (List.mem_cons_of_mem _ zw9_7) rfl dX12_wave_84 ?_
        refine lv_sipush (v := 164) hx hb dX12_wave_87 (by decide) ?_
        obtain ⟨q, hf⟩ := zck_use hf
        refine z_iald hC hI 3 2 (wM_e3 ad cy σ1) (tM_t3 cy) q dX12_wave_90 ?_
        exact z_ireturn hC hI hf dX12_wave_91
      replace hf := zif_t q hf
      refine lv_aload_n hx hb dX12_wave_68 rfl (lv_at hl 0 rfl) ?_
      refine z_get hC hI hinX12_wave_X120 0 (wM_e0 ad cy σ1) rfl 10 (by decide) (List.mem_cons_of_mem _ zw9_7) rfl dX12_wave_69 ?_
      refine lv_sipush (v := 163) hx hb dX12_wave_72 (by decide) ?_
      obtain ⟨q, hf⟩ := zck_use hf
      refine z_iald hC hI 3 2 (wM_e3 ad cy σ1) (tM_t3 cy) q dX12_wave_75 ?_
      exact z_ireturn hC hI hf dX12_wave_76
    replace hf := zif_f q hf
    refine lv_aload_n hx hb dX12_wave_56 rfl (lv_at hl 0 rfl) ?_
    refine lv_iload_n hx hb dX12_wave_57 rfl (lv_at hl 1 rfl) ?_
    obtain ⟨σ3, v4, g3, hf⟩ := zbi_use hf
    refine z_callVi (As := [.int x1]) (rest := []) hC hI (cX12_wreg_met st l D ad cy σ1 x1 _ g3) (zgV zw61_11 zw61_12 zw61_13 zw1_5 zw61_14) rfl ⟨rfl, rfl⟩ 1 hdX12_wreg ⟨Nat.le_of_ble_eq_true rfl, Nat.le_of_ble_eq_true rfl⟩ rfl rfl (wM_e0 ad cy σ1) rfl hl rfl (Nat.le_of_ble_eq_true rfl) dX12_wave_58 ⟨Nat.zero_le _, Nat.zero_le _⟩ (fun H locs hI => ?_)
    exact z_ireturn hC hI hf dX12_wave_61
  replace hf := zif_f q hf
  refine lv_iconst (v := 0) hx hb dX12_wave_48 (by decide) ?_
  exact z_ireturn hC hI hf dX12_wave_49
set_option maxRecDepth 20000 in
set_option maxHeartbeats 4000000 in
theorem bX12_wave_40 {st : Nat → Nat} {p : Program} {l : Launch} {e : Env} {s : State} {m : MethodId} {args : Array Value} {below : List Frame} {meth : Method} {c : Code} {D : va_G} {A : Nat → Prop} {ad : Nat → Nat} {cy : Nat → ClassId} (hC : zC p m c cX12_wave 2 s args wzX12_wave RX12 meth (some .int))  {res : zSt × Int32} {H : Heap} {locs : List Loc} {σ : zSt} {ls : Array Slot} {x1 : Int32} (hI : zI st D (tM cy) (wM ad cy σ) A s H locs) (hl : lv_has ls 2 [(0, .ref (ad 0)), (1, .int x1)]) (hf : fX12_wave_40  σ x1 = some res) : W p l e rmX12_wave s m args below meth c H locs 0 0 (zQi below args s D (tM cy) (wM ad cy) A res) (F0 m 40 ls [.ref (ad 0)]) := by
  have hx := hC.1
  have hb := hC.2.1
  unfold fX12_wave_40 at hf
  refine lv_iconst (v := 0) hx hb dX12_wave_40 (by decide) ?_
  exact bX12_wave_41 hC  hI hl hf
set_option maxRecDepth 20000 in
set_option maxHeartbeats 4000000 in
theorem bX12_wave_36 {st : Nat → Nat} {p : Program} {l : Launch} {e : Env} {s : State} {m : MethodId} {args : Array Value} {below : List Frame} {meth : Method} {c : Code} {D : va_G} {A : Nat → Prop} {ad : Nat → Nat} {cy : Nat → ClassId} (hC : zC p m c cX12_wave 2 s args wzX12_wave RX12 meth (some .int))  {res : zSt × Int32} {H : Heap} {locs : List Loc} {σ : zSt} {ls : Array Slot} {x1 : Int32} (hI : zI st D (tM cy) (wM ad cy σ) A s H locs) (hl : lv_has ls 2 [(0, .ref (ad 0)), (1, .int x1)]) (hf : fX12_wave_36  σ x1 = some res) : W p l e rmX12_wave s m args below meth c H locs 0 0 (zQi below args s D (tM cy) (wM ad cy) A res) (F0 m 36 ls [.ref (ad 0)]) := by
  have hx := hC.1
  have hb := hC.2.1
  unfold fX12_wave_36 at hf
  refine lv_iconst (v := 1) hx hb dX12_wave_36 (by decide) ?_
  refine lv_goto (tgt := 41) hx hb dX12_wave_37 (by decide) ?_
  exact bX12_wave_41 hC  hI hl hf
set_option maxRecDepth 20000 in
set_option maxHeartbeats 4000000 in
theorem bX12_wave {st : Nat → Nat} {p : Program} {l : Launch} {e : Env} {s : State} {m : MethodId} {args : Array Value} {below : List Frame} {meth : Method} {c : Code} {D : va_G} {A : Nat → Prop} {ad : Nat → Nat} {cy : Nat → ClassId} (hC : zC p m c cX12_wave 2 s args wzX12_wave RX12 meth (some .int))  {res : zSt × Int32} {H : Heap} {locs : List Loc} {σ : zSt} {ls : Array Slot} {x1 : Int32} (hI : zI st D (tM cy) (wM ad cy σ) A s H locs) (hl : lv_has ls 2 [(0, .ref (ad 0)), (1, .int x1)]) (hf : fX12_wave  σ x1 = some res) : W p l e rmX12_wave s m args below meth c H locs 0 0 (zQi below args s D (tM cy) (wM ad cy) A res) (F0 m 0 ls []) := by
  have hx := hC.1
  have hb := hC.2.1
  unfold fX12_wave at hf
  refine lv_aload_n hx hb dX12_wave_0 rfl (lv_at hl 0 rfl) ?_
  refine lv_iload_n hx hb dX12_wave_1 rfl (lv_at hl 1 rfl) ?_
  refine lv_i2l (v := x1.toInt64) hx hb dX12_wave_2 rfl ?_
  refine lv_lconst (v := 0) hx hb dX12_wave_3 (by decide) ?_
  refine lv_ldc2 (v := 67) hx hb hC.2.2.2.1 (hC.2.2.2.2.1 _ (List.mem_cons_of_mem _ zw93_22)) dX12_wave_4 ?_
  obtain ⟨σ5, v6, g5, hf⟩ := zbi_use hf
  refine z_callSi (As := [.long (x1.toInt64), .long 0, .long 67]) (rest := [.ref (ad 0)]) hC hI (cX12_within_met st l D ad cy σ (x1.toInt64) 0 67 _ g5) (zgS zw11_18 zw11_19 zw1_5 zw11_20) rfl ⟨rfl, rfl⟩ 3 hdX12_within ⟨Nat.le_of_ble_eq_true rfl, Nat.le_of_ble_eq_true rfl⟩ rfl hl rfl (Nat.le_of_ble_eq_true rfl) dX12_wave_7 ⟨Nat.zero_le _, Nat.zero_le _⟩ (fun H locs hI => ?_)
  refine lv_if_ne (tgt := 40) hx hb dX12_wave_10 (by decide) (fun q => ?_) (fun q => ?_)
  · replace hf := zif_f q hf
    exact bX12_wave_40 hC  hI hl hf
  replace hf := zif_t q hf
  refine lv_iload_n hx hb dX12_wave_13 rfl (lv_at hl 1 rfl) ?_
  refine lv_i2l (v := x1.toInt64) hx hb dX12_wave_14 rfl ?_
  refine lv_ldc2 (v := 128) hx hb hC.2.2.2.1 (hC.2.2.2.2.1 _ (List.mem_cons_of_mem _ zw93_23)) dX12_wave_15 ?_
  refine lv_ldc2 (v := 271) hx hb hC.2.2.2.1 (hC.2.2.2.2.1 _ (List.mem_cons_of_mem _ zw94_0)) dX12_wave_18 ?_
  obtain ⟨σ7, v8, g7, hf⟩ := zbi_use hf
  refine z_callSi (As := [.long (x1.toInt64), .long 128, .long 271]) (rest := [.ref (ad 0)]) hC hI (cX12_within_met st l D ad cy σ5 (x1.toInt64) 128 271 _ g7) (zgS zw11_18 zw11_19 zw1_5 zw11_20) rfl ⟨rfl, rfl⟩ 3 hdX12_within ⟨Nat.le_of_ble_eq_true rfl, Nat.le_of_ble_eq_true rfl⟩ rfl hl rfl (Nat.le_of_ble_eq_true rfl) dX12_wave_21 ⟨Nat.zero_le _, Nat.zero_le _⟩ (fun H locs hI => ?_)
  refine lv_if_eq (tgt := 36) hx hb dX12_wave_24 (by decide) (fun q => ?_) (fun q => ?_)
  · replace hf := zif_t q hf
    exact bX12_wave_36 hC  hI hl hf
  replace hf := zif_f q hf
  refine lv_iload_n hx hb dX12_wave_27 rfl (lv_at hl 1 rfl) ?_
  refine lv_bipush (v := 8) hx hb dX12_wave_28 (by decide) ?_
  obtain ⟨q, hf⟩ := zck_use hf
  refine z_irem hx hb dX12_wave_30 (of_decide_eq_true q) ?_
  refine lv_bipush (v := 6) hx hb dX12_wave_31 (by decide) ?_
  refine lv_icmp_lt (tgt := 40) hx hb dX12_wave_33 (by decide) (fun q => ?_) (fun q => ?_)
  · replace hf := zif_t q hf
    exact bX12_wave_40 hC  hI hl hf
  replace hf := zif_f q hf
  exact bX12_wave_36 hC  hI hl hf
set_option maxRecDepth 20000 in
theorem cX12_wave_met (st : Nat → Nat) (l : Launch) (D : va_G) (ad : Nat → Nat) (cy : Nat → ClassId) (σ : zSt) (x1 : Int32) (res : zSt × Int32) (hf : fX12_wave σ x1 = some res) (sz : Nat) : zMi st l yX12_wave wzX12_wave rmX12_wave [.ref (ad 0), .int x1] D (tM cy) (wM ad cy) sz σ res :=
  zMi.of (cc := cX12_wave) (maxL := 2) (ret := (some .int)) (by decide) rfl (Nat.le_of_ble_eq_true rfl) (fun p e s m args below meth c hC A hI ls hl => bX12_wave hC hI hl hf)
theorem hdX12_wave : yX12_wave.cls = RX12 ∧ yX12_wave.cls ≠ "java/lang/invoke/MethodHandle" ∧ yX12_wave.cls ≠ "java/lang/invoke/VarHandle" ∧ (parseMethodDescriptor yX12_wave.desc).map (fun d => d.parameters.length) = some 1 := by decide +kernel
def rmX12_plan : Room := { frames := 1, cells := 0, slots := 0, locals := 25 }
def wzX12_plan : List Cond := .code yX12_plan cX12_plan 6 (some .int) :: wsL_law
theorem hinX12_plan_X120 : ∀ w ∈ wsX120, w ∈ wzX12_plan := fun w h => List.mem_cons_of_mem _ (inlX12 w h)
def fX12_plan_110  (σ : zSt)  : Option (zSt × Int32) :=
  some (σ, 0)
def fX12_plan_103  (σ : zSt) (x1 : Int32) (x2 : Int32) (x3 : Int32) (s0 : Int32) : Option (zSt × Int32) :=
  zbi (fX12_fails σ s0 2) (fun σ1 v2 =>
  if v2 = 0 then zck (zin 171 1048) (
  zbv (280 + (3 * (zgi σ1 3 (171 : Int32).toNatClampNeg))) (fun v3 =>
  zck (zin v3 1048) (zbv (zsi σ1 3 (v3.toNatClampNeg) x1) (fun σ4 =>
  zck (zin (v3 + 1) 1048) (zbv (zsi σ4 3 ((v3 + 1).toNatClampNeg) x2) (fun σ5 =>
  zck (zin (v3 + 2) 1048) (zbv (zsi σ5 3 ((v3 + 2).toNatClampNeg) x3) (fun σ6 =>
  zck (zin 171 1048) (
  zck (zin 171 1048) (zbv (zsi σ6 3 ((171 : Int32).toNatClampNeg) ((zgi σ6 3 (171 : Int32).toNatClampNeg) + 1)) (fun σ7 =>
  zck (zin 171 1048) (
  some (σ7, zgi σ7 3 (171 : Int32).toNatClampNeg))))))))))))) else
  fX12_plan_110 σ1)
def fX12_plan_76  (σ : zSt) (x1 : Int32) (x2 : Int32) (x3 : Int32) (s0 : Int32) : Option (zSt × Int32) :=
  zbi (fX12_fails σ s0 1) (fun σ8 v9 =>
  if v9 = 0 then zck (zin 171 1048) (
  if (zgi σ8 3 (171 : Int32).toNatClampNeg) = 256 then fX12_plan_103 σ8 x1 x2 x3 1 else
  fX12_plan_103 σ8 x1 x2 x3 0) else
  fX12_plan_110 σ8)
def fX12_plan_71  (σ : zSt) (x1 : Int32) (x2 : Int32) (x3 : Int32) : Option (zSt × Int32) :=
  fX12_plan_76 σ x1 x2 x3 1
def fX12_plan_36  (σ : zSt) (x1 : Int32) (x2 : Int32) (x3 : Int32) (s0 : Int32) : Option (zSt × Int32) :=
  if x1 < s0 then fX12_plan_71 σ x1 x2 x3 else
  if x1 < 0 then fX12_plan_71 σ x1 x2 x3 else
  zbi (fX12_within σ (x2.toInt64) 0 1) (fun σ10 v11 =>
  if v11 = 0 then fX12_plan_71 σ10 x1 x2 x3 else
  zbi (fX12_within σ10 (x3.toInt64) 0 63) (fun σ12 v13 =>
  if v13 = 0 then fX12_plan_71 σ12 x1 x2 x3 else
  fX12_plan_76 σ12 x1 x2 x3 0))
def fX12_plan  (σ : zSt) (x1 : Int32) (x2 : Int32) (x3 : Int32) : Option (zSt × Int32) :=
  zck (zin 171 1048) (
  if (zgi σ 3 (171 : Int32).toNatClampNeg) = 0 then fX12_plan_36 σ x1 x2 x3 0 else
  zck (zin 171 1048) (
  zck (zin (280 + (3 * ((zgi σ 3 (171 : Int32).toNatClampNeg) - 1))) 1048) (
  fX12_plan_36 σ x1 x2 x3 (zgi σ 3 (280 + (3 * ((zgi σ 3 (171 : Int32).toNatClampNeg) - 1))).toNatClampNeg))))
set_option maxRecDepth 20000 in
set_option maxHeartbeats 4000000 in
theorem bX12_plan_110 {st : Nat → Nat} {p : Program} {l : Launch} {e : Env} {s : State} {m : MethodId} {args : Array Value} {below : List Frame} {meth : Method} {c : Code} {D : va_G} {A : Nat → Prop} {ad : Nat → Nat} {cy : Nat → ClassId} (hC : zC p m c cX12_plan 6 s args wzX12_plan RX12 meth (some .int))  {res : zSt × Int32} {H : Heap} {locs : List Loc} {σ : zSt} {ls : Array Slot}  (hI : zI st D (tM cy) (wM ad cy σ) A s H locs) (hl : lv_has ls 6 []) (hf : fX12_plan_110  σ  = some res) : W p l e rmX12_plan s m args below meth c H locs 0 0 (zQi below args s D (tM cy) (wM ad cy) A res) (F0 m 110 ls []) := by
  have hx := hC.1
  have hb := hC.2.1
  unfold fX12_plan_110 at hf
  refine lv_iconst (v := 0) hx hb dX12_plan_110 (by decide) ?_
  exact z_ireturn hC hI hf dX12_plan_111
set_option maxRecDepth 20000 in
set_option maxHeartbeats 4000000 in
theorem bX12_plan_103 {st : Nat → Nat} {p : Program} {l : Launch} {e : Env} {s : State} {m : MethodId} {args : Array Value} {below : List Frame} {meth : Method} {c : Code} {D : va_G} {A : Nat → Prop} {ad : Nat → Nat} {cy : Nat → ClassId} (hC : zC p m c cX12_plan 6 s args wzX12_plan RX12 meth (some .int))  {res : zSt × Int32} {H : Heap} {locs : List Loc} {σ : zSt} {ls : Array Slot} {x1 : Int32} {x2 : Int32} {x3 : Int32} {s0 : Int32} (hI : zI st D (tM cy) (wM ad cy σ) A s H locs) (hl : lv_has ls 6 [(0, .ref (ad 0)), (1, .int x1), (2, .int x2), (3, .int x3)]) (hf : fX12_plan_103  σ x1 x2 x3 s0 = some res) : W p l e rmX12_plan s m args below meth c H locs 0 0 (zQi below args s D (tM cy) (wM ad cy) A res) (F0 m 103 ls [.int s0, .ref (ad 0)]) := by
  have hx := hC.1
  have hb := hC.2.1
  unfold fX12_plan_103 at hf
  refine lv_iconst (v := 2) hx hb dX12_plan_103 (by decide) ?_
  obtain ⟨σ1, v2, g1, hf⟩ := zbi_use hf
  refine z_callVi (As := [.int s0, .int 2]) (rest := []) hC hI (cX12_fails_met st l D ad cy σ s0 2 _ g1) (zgV zw11_21 zw11_22 zw11_23 zw1_5 zw12_0) rfl ⟨rfl, rfl⟩ 2 hdX12_fails ⟨Nat.le_of_ble_eq_true rfl, Nat.le_of_ble_eq_true rfl⟩ rfl rfl (wM_e0 ad cy σ) rfl hl rfl (Nat.le_of_ble_eq_true rfl) dX12_plan_104 ⟨Nat.zero_le _, Nat.zero_le _⟩ (fun H locs hI => ?_)
  refine lv_if_eq (tgt := 112) hx hb dX12_plan_107 (by decide) (fun q => ?_) (fun q => ?_)
  · replace hf := zif_t q hf
    refine lv_sipush (v := 280) hx hb dX12_plan_112 (by decide) ?_
    refine lv_iconst (v := 3) hx hb dX12_plan_115 (by decide) ?_
    refine lv_aload_n hx hb dX12_plan_116 rfl (lv_at hl 0 rfl) ?_
    refine z_get hC hI hinX12_plan_X120 0 (wM_e0 ad cy σ1) rfl 10 (by decide) (List.mem_cons_of_mem _ zw9_7) rfl dX12_plan_117 ?_
    refine lv_sipush (v := 171) hx hb dX12_plan_120 (by decide) ?_
    obtain ⟨q, hf⟩ := zck_use hf
    refine z_iald hC hI 3 2 (wM_e3 ad cy σ1) (tM_t3 cy) q dX12_plan_123 ?_
    refine lv_imul hx hb dX12_plan_124 ?_
    refine lv_iadd hx hb dX12_plan_125 ?_
    refine lv_topi (fun v3 ev3 => ?_)
    replace hf := zbv_use ev3 hf
    refine lv_istore (lv' := [(5, .int v3), (0, .ref (ad 0)), (1, .int x1), (2, .int x2), (3, .int x3)]) hx hb dX12_plan_126 hl (by decide) rfl (fun ls hl => ?_)
    refine lv_aload_n hx hb dX12_plan_128 rfl (lv_at hl 1 rfl) ?_
    refine z_get hC hI hinX12_plan_X120 0 (wM_e0 ad cy σ1) rfl 10 (by decide) (List.mem_cons_of_mem _ zw9_7) rfl dX12_plan_129 ?_
    refine lv_iload hx hb dX12_plan_132 (lv_at hl 0 rfl) ?_
    refine lv_iload_n hx hb dX12_plan_134 rfl (lv_at hl 2 rfl) ?_
    obtain ⟨q, hf⟩ := zck_use hf
    obtain ⟨σ4, eσ4⟩ : ∃ z, z = zsi σ1 3 (v3.toNatClampNeg) x1 := ⟨_, rfl⟩
    replace hf := zbv_use eσ4 hf
    refine z_iast hC hI 3 2 (wM_e3 ad cy σ1) (tM_t3 cy) q ((wM_s3 ad cy σ1 _ _).trans (congrArg (wM ad cy) eσ4.symm)) dX12_plan_135 (fun H locs hI => ?_)
    refine lv_aload_n hx hb dX12_plan_136 rfl (lv_at hl 1 rfl) ?_
    refine z_get hC hI hinX12_plan_X120 0 (wM_e0 ad cy σ4) rfl 10 (by decide) (List.mem_cons_of_mem _ zw9_7) rfl dX12_plan_137 ?_
    refine lv_iload hx hb dX12_plan_140 (lv_at hl 0 rfl) ?_
    refine lv_iconst (v := 1) hx hb dX12_plan_142 (by decide) ?_
    refine lv_iadd hx hb dX12_plan_143 ?_
    refine lv_iload_n hx hb dX12_plan_144 rfl (lv_at hl 3 rfl) ?_
    obtain ⟨q, hf⟩ := zck_use hf
    obtain ⟨σ5, eσ5⟩ : ∃ z, z = zsi σ4 3 ((v3 + 1).toNatClampNeg) x2 := ⟨_, rfl⟩
    replace hf := zbv_use eσ5 hf
    refine z_iast hC hI 3 2 (wM_e3 ad cy σ4) (tM_t3 cy) q ((wM_s3 ad cy σ4 _ _).trans (congrArg (wM ad cy) eσ5.symm)) dX12_plan_145 (fun H locs hI => ?_)
    refine lv_aload_n hx hb dX12_plan_146 rfl (lv_at hl 1 rfl) ?_
    refine z_get hC hI hinX12_plan_X120 0 (wM_e0 ad cy σ5) rfl 10 (by decide) (List.mem_cons_of_mem _ zw9_7) rfl dX12_plan_147 ?_
    refine lv_iload hx hb dX12_plan_150 (lv_at hl 0 rfl) ?_
    refine lv_iconst (v := 2) hx hb dX12_plan_152 (by decide) ?_
    refine lv_iadd hx hb dX12_plan_153 ?_
    refine lv_iload_n hx hb dX12_plan_154 rfl (lv_at hl 4 rfl) ?_
    obtain ⟨q, hf⟩ := zck_use hf
    obtain ⟨σ6, eσ6⟩ : ∃ z, z = zsi σ5 3 ((v3 + 2).toNatClampNeg) x3 := ⟨_, rfl⟩
    replace hf := zbv_use eσ6 hf
    refine z_iast hC hI 3 2 (wM_e3 ad cy σ5) (tM_t3 cy) q ((wM_s3 ad cy σ5 _ _).trans (congrArg (wM ad cy) eσ6.symm)) dX12_plan_155 (fun H locs hI => ?_)
    refine lv_aload_n hx hb dX12_plan_156 rfl (lv_at hl 1 rfl) ?_
    refine z_get hC hI hinX12_plan_X120 0 (wM_e0 ad cy σ6) rfl 10 (by decide) (List.mem_cons_of_mem _ zw9_7) rfl dX12_plan_157 ?_
    refine lv_sipush (v := 171) hx hb dX12_plan_160 (by decide) ?_
    refine lv_dup2_11 hx hb dX12_plan_163 rfl rfl ?_
    obtain ⟨q, hf⟩ := zck_use hf
    refine z_iald hC hI 3 2 (wM_e3 ad cy σ6) (tM_t3 cy) q dX12_plan_164 ?_
    refine lv_iconst (v := 1) hx hb dX12_plan_165 (by decide) ?_
    refine lv_iadd hx hb dX12_plan_166 ?_
    obtain ⟨q, hf⟩ := zck_use hf
    obtain ⟨σ7, eσ7⟩ : ∃ z, z = zsi σ6 3 ((171 : Int32).toNatClampNeg) ((zgi σ6 3 (171 : Int32).toNatClampNeg) + 1) := ⟨_, rfl⟩
    replace hf := zbv_use eσ7 hf
    refine z_iast hC hI 3 2 (wM_e3 ad cy σ6) (tM_t3 cy) q ((wM_s3 ad cy σ6 _ _).trans (congrArg (wM ad cy) eσ7.symm)) dX12_plan_167 (fun H locs hI => ?_)
    refine lv_aload_n hx hb dX12_plan_168 rfl (lv_at hl 1 rfl) ?_
    refine z_get hC hI hinX12_plan_X120 0 (wM_e0 ad cy σ7) rfl 10 (by decide) (List.mem_cons_of_mem _ zw9_7) rfl dX12_plan_169 ?_
    refine lv_sipush (v := 171) hx hb dX12_plan_172 (by decide) ?_
    obtain ⟨q, hf⟩ := zck_use hf
    refine z_iald hC hI 3 2 (wM_e3 ad cy σ7) (tM_t3 cy) q dX12_plan_175 ?_
    exact z_ireturn hC hI hf dX12_plan_176
  replace hf := zif_f q hf
  exact bX12_plan_110 hC  hI (lv_sub hl [] rfl) hf
set_option maxRecDepth 20000 in
set_option maxHeartbeats 4000000 in
theorem bX12_plan_76 {st : Nat → Nat} {p : Program} {l : Launch} {e : Env} {s : State} {m : MethodId} {args : Array Value} {below : List Frame} {meth : Method} {c : Code} {D : va_G} {A : Nat → Prop} {ad : Nat → Nat} {cy : Nat → ClassId} (hC : zC p m c cX12_plan 6 s args wzX12_plan RX12 meth (some .int))  {res : zSt × Int32} {H : Heap} {locs : List Loc} {σ : zSt} {ls : Array Slot} {x1 : Int32} {x2 : Int32} {x3 : Int32} {s0 : Int32} (hI : zI st D (tM cy) (wM ad cy σ) A s H locs) (hl : lv_has ls 6 [(0, .ref (ad 0)), (1, .int x1), (2, .int x2), (3, .int x3)]) (hf : fX12_plan_76  σ x1 x2 x3 s0 = some res) : W p l e rmX12_plan s m args below meth c H locs 0 0 (zQi below args s D (tM cy) (wM ad cy) A res) (F0 m 76 ls [.int s0, .ref (ad 0)]) := by
  have hx := hC.1
  have hb := hC.2.1
  unfold fX12_plan_76 at hf
  refine lv_iconst (v := 1) hx hb dX12_plan_76 (by decide) ?_
  obtain ⟨σ8, v9, g8, hf⟩ := zbi_use hf
  refine z_callVi (As := [.int s0, .int 1]) (rest := []) hC hI (cX12_fails_met st l D ad cy σ s0 1 _ g8) (zgV zw11_21 zw11_22 zw11_23 zw1_5 zw12_0) rfl ⟨rfl, rfl⟩ 2 hdX12_fails ⟨Nat.le_of_ble_eq_true rfl, Nat.le_of_ble_eq_true rfl⟩ rfl rfl (wM_e0 ad cy σ) rfl hl rfl (Nat.le_of_ble_eq_true rfl) dX12_plan_77 ⟨Nat.zero_le _, Nat.zero_le _⟩ (fun H locs hI => ?_)
  refine lv_if_ne (tgt := 110) hx hb dX12_plan_80 (by decide) (fun q => ?_) (fun q => ?_)
  · replace hf := zif_f q hf
    exact bX12_plan_110 hC  hI (lv_sub hl [] rfl) hf
  replace hf := zif_t q hf
  refine lv_aload_n hx hb dX12_plan_83 rfl (lv_at hl 0 rfl) ?_
  refine lv_aload_n hx hb dX12_plan_84 rfl (lv_at hl 0 rfl) ?_
  refine z_get hC hI hinX12_plan_X120 0 (wM_e0 ad cy σ8) rfl 10 (by decide) (List.mem_cons_of_mem _ zw9_7) rfl dX12_plan_85 ?_
  refine lv_sipush (v := 171) hx hb dX12_plan_88 (by decide) ?_
  obtain ⟨q, hf⟩ := zck_use hf
  refine z_iald hC hI 3 2 (wM_e3 ad cy σ8) (tM_t3 cy) q dX12_plan_91 ?_
  refine lv_sipush (v := 256) hx hb dX12_plan_92 (by decide) ?_
  refine lv_icmp_ne (tgt := 102) hx hb dX12_plan_95 (by decide) (fun q => ?_) (fun q => ?_)
  · replace hf := zif_f q hf
    refine lv_iconst (v := 0) hx hb dX12_plan_102 (by decide) ?_
    exact bX12_plan_103 hC  hI hl hf
  replace hf := zif_t q hf
  refine lv_iconst (v := 1) hx hb dX12_plan_98 (by decide) ?_
  refine lv_goto (tgt := 103) hx hb dX12_plan_99 (by decide) ?_
  exact bX12_plan_103 hC  hI hl hf
set_option maxRecDepth 20000 in
set_option maxHeartbeats 4000000 in
theorem bX12_plan_71 {st : Nat → Nat} {p : Program} {l : Launch} {e : Env} {s : State} {m : MethodId} {args : Array Value} {below : List Frame} {meth : Method} {c : Code} {D : va_G} {A : Nat → Prop} {ad : Nat → Nat} {cy : Nat → ClassId} (hC : zC p m c cX12_plan 6 s args wzX12_plan RX12 meth (some .int))  {res : zSt × Int32} {H : Heap} {locs : List Loc} {σ : zSt} {ls : Array Slot} {x1 : Int32} {x2 : Int32} {x3 : Int32} (hI : zI st D (tM cy) (wM ad cy σ) A s H locs) (hl : lv_has ls 6 [(0, .ref (ad 0)), (1, .int x1), (2, .int x2), (3, .int x3)]) (hf : fX12_plan_71  σ x1 x2 x3 = some res) : W p l e rmX12_plan s m args below meth c H locs 0 0 (zQi below args s D (tM cy) (wM ad cy) A res) (F0 m 71 ls [.ref (ad 0)]) := by
  have hx := hC.1
  have hb := hC.2.1
  unfold fX12_plan_71 at hf
  refine lv_iconst (v := 1) hx hb dX12_plan_71 (by decide) ?_
  refine lv_goto (tgt := 76) hx hb dX12_plan_72 (by decide) ?_
  exact bX12_plan_76 hC  hI hl hf
set_option maxRecDepth 20000 in
set_option maxHeartbeats 4000000 in
theorem bX12_plan_36 {st : Nat → Nat} {p : Program} {l : Launch} {e : Env} {s : State} {m : MethodId} {args : Array Value} {below : List Frame} {meth : Method} {c : Code} {D : va_G} {A : Nat → Prop} {ad : Nat → Nat} {cy : Nat → ClassId} (hC : zC p m c cX12_plan 6 s args wzX12_plan RX12 meth (some .int))  {res : zSt × Int32} {H : Heap} {locs : List Loc} {σ : zSt} {ls : Array Slot} {x1 : Int32} {x2 : Int32} {x3 : Int32} {s0 : Int32} (hI : zI st D (tM cy) (wM ad cy σ) A s H locs) (hl : lv_has ls 6 [(0, .ref (ad 0)), (1, .int x1), (2, .int x2), (3, .int x3)]) (hf : fX12_plan_36  σ x1 x2 x3 s0 = some res) : W p l e rmX12_plan s m args below meth c H locs 0 0 (zQi below args s D (tM cy) (wM ad cy) A res) (F0 m 36 ls [.int s0]) := by
  have hx := hC.1
  have hb := hC.2.1
  unfold fX12_plan_36 at hf
  refine lv_istore (lv' := [(4, .int s0), (0, .ref (ad 0)), (1, .int x1), (2, .int x2), (3, .int x3)]) hx hb dX12_plan_36 hl (by decide) rfl (fun ls hl => ?_)
  refine lv_aload_n hx hb dX12_plan_38 rfl (lv_at hl 1 rfl) ?_
  refine lv_iload_n hx hb dX12_plan_39 rfl (lv_at hl 2 rfl) ?_
  refine lv_iload hx hb dX12_plan_40 (lv_at hl 0 rfl) ?_
  refine lv_icmp_lt (tgt := 71) hx hb dX12_plan_42 (by decide) (fun q => ?_) (fun q => ?_)
  · replace hf := zif_t q hf
    exact bX12_plan_71 hC  hI (lv_sub hl [1, 2, 3, 4] rfl) hf
  replace hf := zif_f q hf
  refine lv_iload_n hx hb dX12_plan_45 rfl (lv_at hl 2 rfl) ?_
  refine lv_if_lt (tgt := 71) hx hb dX12_plan_46 (by decide) (fun q => ?_) (fun q => ?_)
  · replace hf := zif_t q hf
    exact bX12_plan_71 hC  hI (lv_sub hl [1, 2, 3, 4] rfl) hf
  replace hf := zif_f q hf
  refine lv_iload_n hx hb dX12_plan_49 rfl (lv_at hl 3 rfl) ?_
  refine lv_i2l (v := x2.toInt64) hx hb dX12_plan_50 rfl ?_
  refine lv_lconst (v := 0) hx hb dX12_plan_51 (by decide) ?_
  refine lv_lconst (v := 1) hx hb dX12_plan_52 (by decide) ?_
  obtain ⟨σ10, v11, g10, hf⟩ := zbi_use hf
  refine z_callSi (As := [.long (x2.toInt64), .long 0, .long 1]) (rest := [.ref (ad 0)]) hC hI (cX12_within_met st l D ad cy σ (x2.toInt64) 0 1 _ g10) (zgS zw11_18 zw11_19 zw1_5 zw11_20) rfl ⟨rfl, rfl⟩ 3 hdX12_within ⟨Nat.le_of_ble_eq_true rfl, Nat.le_of_ble_eq_true rfl⟩ rfl hl rfl (Nat.le_of_ble_eq_true rfl) dX12_plan_53 ⟨Nat.zero_le _, Nat.zero_le _⟩ (fun H locs hI => ?_)
  refine lv_if_eq (tgt := 71) hx hb dX12_plan_56 (by decide) (fun q => ?_) (fun q => ?_)
  · replace hf := zif_t q hf
    exact bX12_plan_71 hC  hI (lv_sub hl [1, 2, 3, 4] rfl) hf
  replace hf := zif_f q hf
  refine lv_iload_n hx hb dX12_plan_59 rfl (lv_at hl 4 rfl) ?_
  refine lv_i2l (v := x3.toInt64) hx hb dX12_plan_60 rfl ?_
  refine lv_lconst (v := 0) hx hb dX12_plan_61 (by decide) ?_
  refine lv_ldc2 (v := 63) hx hb hC.2.2.2.1 (hC.2.2.2.2.1 _ (List.mem_cons_of_mem _ zw67_18)) dX12_plan_62 ?_
  obtain ⟨σ12, v13, g12, hf⟩ := zbi_use hf
  refine z_callSi (As := [.long (x3.toInt64), .long 0, .long 63]) (rest := [.ref (ad 0)]) hC hI (cX12_within_met st l D ad cy σ10 (x3.toInt64) 0 63 _ g12) (zgS zw11_18 zw11_19 zw1_5 zw11_20) rfl ⟨rfl, rfl⟩ 3 hdX12_within ⟨Nat.le_of_ble_eq_true rfl, Nat.le_of_ble_eq_true rfl⟩ rfl hl rfl (Nat.le_of_ble_eq_true rfl) dX12_plan_65 ⟨Nat.zero_le _, Nat.zero_le _⟩ (fun H locs hI => ?_)
  refine lv_if_ne (tgt := 75) hx hb dX12_plan_68 (by decide) (fun q => ?_) (fun q => ?_)
  · replace hf := zif_f q hf
    refine lv_iconst (v := 0) hx hb dX12_plan_75 (by decide) ?_
    exact bX12_plan_76 hC  hI (lv_sub hl [1, 2, 3, 4] rfl) hf
  replace hf := zif_t q hf
  exact bX12_plan_71 hC  hI (lv_sub hl [1, 2, 3, 4] rfl) hf
set_option maxRecDepth 20000 in
set_option maxHeartbeats 4000000 in
theorem bX12_plan {st : Nat → Nat} {p : Program} {l : Launch} {e : Env} {s : State} {m : MethodId} {args : Array Value} {below : List Frame} {meth : Method} {c : Code} {D : va_G} {A : Nat → Prop} {ad : Nat → Nat} {cy : Nat → ClassId} (hC : zC p m c cX12_plan 6 s args wzX12_plan RX12 meth (some .int))  {res : zSt × Int32} {H : Heap} {locs : List Loc} {σ : zSt} {ls : Array Slot} {x1 : Int32} {x2 : Int32} {x3 : Int32} (hI : zI st D (tM cy) (wM ad cy σ) A s H locs) (hl : lv_has ls 6 [(0, .ref (ad 0)), (1, .int x1), (2, .int x2), (3, .int x3)]) (hf : fX12_plan  σ x1 x2 x3 = some res) : W p l e rmX12_plan s m args below meth c H locs 0 0 (zQi below args s D (tM cy) (wM ad cy) A res) (F0 m 0 ls []) := by
  have hx := hC.1
  have hb := hC.2.1
  unfold fX12_plan at hf
  refine lv_aload_n hx hb dX12_plan_0 rfl (lv_at hl 0 rfl) ?_
  refine z_get hC hI hinX12_plan_X120 0 (wM_e0 ad cy σ) rfl 10 (by decide) (List.mem_cons_of_mem _ zw9_7) rfl dX12_plan_1 ?_
  refine lv_sipush (v := 171) hx hb dX12_plan_4 (by decide) ?_
  obtain ⟨q, hf⟩ := zck_use hf
  refine z_iald hC hI 3 2 (wM_e3 ad cy σ) (tM_t3 cy) q dX12_plan_7 ?_
  refine lv_if_ne (tgt := 15) hx hb dX12_plan_8 (by decide) (fun q => ?_) (fun q => ?_)
  · replace hf := zif_f q hf
    refine lv_aload_n hx hb dX12_plan_15 rfl (lv_at hl 0 rfl) ?_
    refine z_get hC hI hinX12_plan_X120 0 (wM_e0 ad cy σ) rfl 10 (by decide) (List.mem_cons_of_mem _ zw9_7) rfl dX12_plan_16 ?_
    refine lv_sipush (v := 280) hx hb dX12_plan_19 (by decide) ?_
    refine lv_iconst (v := 3) hx hb dX12_plan_22 (by decide) ?_
    refine lv_aload_n hx hb dX12_plan_23 rfl (lv_at hl 0 rfl) ?_
    refine z_get hC hI hinX12_plan_X120 0 (wM_e0 ad cy σ) rfl 10 (by decide) (List.mem_cons_of_mem _ zw9_7) rfl dX12_plan_24 ?_
    refine lv_sipush (v := 171) hx hb dX12_plan_27 (by decide) ?_
    obtain ⟨q, hf⟩ := zck_use hf
    refine z_iald hC hI 3 2 (wM_e3 ad cy σ) (tM_t3 cy) q dX12_plan_30 ?_
    refine lv_iconst (v := 1) hx hb dX12_plan_31 (by decide) ?_
    refine lv_isub hx hb dX12_plan_32 ?_
    refine lv_imul hx hb dX12_plan_33 ?_
    refine lv_iadd hx hb dX12_plan_34 ?_
    obtain ⟨q, hf⟩ := zck_use hf
    refine z_iald hC hI 3 2 (wM_e3 ad cy σ) (tM_t3 cy) q dX12_plan_35 ?_
    exact bX12_plan_36 hC  hI hl hf
  replace hf := zif_t q hf
  refine lv_iconst (v := 0) hx hb dX12_plan_11 (by decide) ?_
  refine lv_goto (tgt := 36) hx hb dX12_plan_12 (by decide) ?_
  exact bX12_plan_36 hC  hI hl hf
set_option maxRecDepth 20000 in
theorem cX12_plan_met (st : Nat → Nat) (l : Launch) (D : va_G) (ad : Nat → Nat) (cy : Nat → ClassId) (σ : zSt) (x1 : Int32) (x2 : Int32) (x3 : Int32) (res : zSt × Int32) (hf : fX12_plan σ x1 x2 x3 = some res) (sz : Nat) : zMi st l yX12_plan wzX12_plan rmX12_plan [.ref (ad 0), .int x1, .int x2, .int x3] D (tM cy) (wM ad cy) sz σ res :=
  zMi.of (cc := cX12_plan) (maxL := 6) (ret := (some .int)) (by decide) rfl (Nat.le_of_ble_eq_true rfl) (fun p e s m args below meth c hC A hI ls hl => bX12_plan hC hI hl hf)
theorem hdX12_plan : yX12_plan.cls = RX12 ∧ yX12_plan.cls ≠ "java/lang/invoke/MethodHandle" ∧ yX12_plan.cls ≠ "java/lang/invoke/VarHandle" ∧ (parseMethodDescriptor yX12_plan.desc).map (fun d => d.parameters.length) = some 3 := by decide +kernel
def rmX12_say : Room := { frames := 4, cells := 0, slots := 0, locals := 117 }
def wzX12_say : List Cond := .code yX12_say cX12_say 3 none :: wsL_law
theorem hinX12_say_X120 : ∀ w ∈ wsX120, w ∈ wzX12_say := fun w h => List.mem_cons_of_mem _ (inlX12 w h)
def fX12_say_2_body (k2 : zSt → Nat → Int32 → Option (zSt)) (σ : zSt) (n1 : Nat) (x2 : Int32) : Option (zSt) :=
  zck (decide (n1 < zNK)) (if (zkN n1) ≤ x2 then some σ else
  zck (decide (n1 < zNK)) (zck (zin x2 (zkL n1)) (
  zck (zin (zgi σ 0 39) 40) (zbv (zsi σ 26 ((zgi σ 0 39).toNatClampNeg) (zkC n1 x2.toNatClampNeg)) (fun σ1 =>
  zbv (zsi σ1 0 39 ((zgi σ1 0 39) + 1)) (fun σ2 =>
  zbv (x2 + 1) (fun v3 =>
  k2 σ2 n1 v3)))))))
def fX12_say_2  : Nat → zSt → Nat → Int32 → Option (zSt)
  | 0, _, _, _ => none
  | n + 1, σ, n1, x2 => fX12_say_2_body (fX12_say_2  n) σ n1 x2
def fX12_say  (σ : zSt) (n1 : Nat) : Option (zSt) :=
  fX12_say_2 zfuel σ n1 0
set_option maxRecDepth 20000 in
set_option maxHeartbeats 4000000 in
theorem bX12_say_2_body {st : Nat → Nat} {p : Program} {l : Launch} {e : Env} {s : State} {m : MethodId} {args : Array Value} {below : List Frame} {meth : Method} {c : Code} {D : va_G} {A : Nat → Prop} {ad : Nat → Nat} {cy : Nat → ClassId} (hC : zC p m c cX12_say 3 s args wzX12_say RX12 meth none) {k2 : zSt → Nat → Int32 → Option (zSt)} {res : zSt} (hk2 : ∀ (H : Heap) (locs : List Loc) (σ : zSt) (ls : Array Slot) (n1 : Nat) (x2 : Int32), zI st D (tM cy) (wM ad cy σ) A s H locs → lv_has ls 3 [(0, .ref (ad 0)), (1, .ref (st (100 + n1))), (2, .int x2)] → k2 σ n1 x2 = some res → W p l e rmX12_say s m args below meth c H locs 0 0 (zQu below args s D (tM cy) (wM ad cy) A res) (F0 m 2 ls [])) {H : Heap} {locs : List Loc} {σ : zSt} {ls : Array Slot} {n1 : Nat} {x2 : Int32} (hI : zI st D (tM cy) (wM ad cy σ) A s H locs) (hl : lv_has ls 3 [(0, .ref (ad 0)), (1, .ref (st (100 + n1))), (2, .int x2)]) (hf : fX12_say_2_body k2 σ n1 x2 = some res) : W p l e rmX12_say s m args below meth c H locs 0 0 (zQu below args s D (tM cy) (wM ad cy) A res) (F0 m 2 ls []) := by
  have hx := hC.1
  have hb := hC.2.1
  unfold fX12_say_2_body at hf
  refine lv_iload_n hx hb dX12_say_2 rfl (lv_at hl 2 rfl) ?_
  refine lv_aload_n hx hb dX12_say_3 rfl (lv_at hl 1 rfl) ?_
  obtain ⟨q, hf⟩ := zck_use hf
  refine z_callKi (As := []) (rest := [.int x2]) hC hI (cJ0_length_met st l D (tM cy) (wM ad cy) σ n1 (of_decide_eq_true q)) (zgV zw75_3 zw70_22 zw70_23 zw62_13 zw71_0) rfl ⟨rfl, rfl⟩ 0 hdJ0_length ⟨Nat.le_of_ble_eq_true rfl, Nat.le_of_ble_eq_true rfl⟩ (of_decide_eq_true q) rfl rfl hl rfl (Nat.le_of_ble_eq_true rfl) dX12_say_4 ⟨Nat.zero_le _, Nat.zero_le _⟩ (fun H locs hI => ?_)
  refine lv_icmp_ge (tgt := 40) hx hb dX12_say_7 (by decide) (fun q => ?_) (fun q => ?_)
  · replace hf := zif_t q hf
    exact z_return hC hI hf dX12_say_40
  replace hf := zif_f q hf
  refine lv_aload_n hx hb dX12_say_10 rfl (lv_at hl 0 rfl) ?_
  refine z_get hC hI hinX12_say_X120 0 (wM_e0 ad cy σ) rfl 38 (by decide) (List.mem_cons_of_mem _ zw10_9) rfl dX12_say_11 ?_
  refine lv_aload_n hx hb dX12_say_14 rfl (lv_at hl 0 rfl) ?_
  refine z_get hC hI hinX12_say_X120 0 (wM_e0 ad cy σ) rfl 39 (by decide) (List.mem_cons_of_mem _ zw74_10) rfl dX12_say_15 ?_
  refine lv_aload_n hx hb dX12_say_18 rfl (lv_at hl 1 rfl) ?_
  refine lv_iload_n hx hb dX12_say_19 rfl (lv_at hl 2 rfl) ?_
  obtain ⟨q0, hf⟩ := zck_use hf
  obtain ⟨q, hf⟩ := zck_use hf
  refine z_callKi (As := [.int x2]) (rest := [.int (zgi σ 0 39), .ref (ad 26)]) hC hI (cJ0_charAt_met st l D (tM cy) (wM ad cy) σ n1 (of_decide_eq_true q0) x2 q) (zgV zw62_10 zw62_11 zw62_12 zw62_13 zw62_14) rfl ⟨rfl, rfl⟩ 1 hdJ0_charAt ⟨Nat.le_of_ble_eq_true rfl, Nat.le_of_ble_eq_true rfl⟩ (of_decide_eq_true q0) rfl rfl hl rfl (Nat.le_of_ble_eq_true rfl) dX12_say_20 ⟨Nat.zero_le _, Nat.zero_le _⟩ (fun H locs hI => ?_)
  obtain ⟨q, hf⟩ := zck_use hf
  obtain ⟨σ1, eσ1⟩ : ∃ z, z = zsi σ 26 ((zgi σ 0 39).toNatClampNeg) (zkC n1 x2.toNatClampNeg) := ⟨_, rfl⟩
  replace hf := zbv_use eσ1 hf
  refine z_iast hC hI 26 25 (wM_e26 ad cy σ) (tM_t26 cy) q ((wM_s26 ad cy σ _ _).trans (congrArg (wM ad cy) eσ1.symm)) dX12_say_23 (fun H locs hI => ?_)
  refine lv_aload_n hx hb dX12_say_24 rfl (lv_at hl 0 rfl) ?_
  refine lv_dup hx hb dX12_say_25 rfl ?_
  refine z_get hC hI hinX12_say_X120 0 (wM_e0 ad cy σ1) rfl 39 (by decide) (List.mem_cons_of_mem _ zw74_10) rfl dX12_say_26 ?_
  refine lv_iconst (v := 1) hx hb dX12_say_29 (by decide) ?_
  refine lv_iadd hx hb dX12_say_30 ?_
  obtain ⟨σ2, eσ2⟩ : ∃ z, z = zsi σ1 0 39 ((zgi σ1 0 39) + 1) := ⟨_, rfl⟩
  replace hf := zbv_use eσ2 hf
  refine z_put hC hI hinX12_say_X120 tyX12_ok nmX12 0 (wM_e0 ad cy σ1) rfl 39 (by decide) (List.mem_cons_of_mem _ zw74_10) rfl rfl rfl (Nat.le_of_ble_eq_true rfl) ((wM_s0_39 ad cy σ1 ((zgi σ1 0 39) + 1)).trans (congrArg (wM ad cy) eσ2.symm)) dX12_say_31 (fun H locs hI => ?_)
  obtain ⟨v3, ev3⟩ : ∃ z : Int32, z = x2 + 1 := ⟨_, rfl⟩
  replace hf := zbv_use ev3 hf
  refine lv_iinc (v := v3) (lv' := [(2, .int v3), (0, .ref (ad 0)), (1, .ref (st (100 + n1)))]) hx hb dX12_say_34 hl (k := 2) rfl (by rw [ev3]; rfl) (by decide) rfl (fun ls hl => ?_)
  refine lv_goto (tgt := 2) hx hb dX12_say_37 (by decide) ?_
  exact hk2 _ _ _ _ _ _ hI (lv_sub hl [1, 2, 0] rfl) hf
theorem blX12_say_2 {st : Nat → Nat} {p : Program} {l : Launch} {e : Env} {s : State} {m : MethodId} {args : Array Value} {below : List Frame} {meth : Method} {c : Code} {D : va_G} {A : Nat → Prop} {ad : Nat → Nat} {cy : Nat → ClassId} (hC : zC p m c cX12_say 3 s args wzX12_say RX12 meth none)  {res : zSt} : ∀ (n : Nat) (H : Heap) (locs : List Loc) (σ : zSt) (ls : Array Slot) (n1 : Nat) (x2 : Int32), zI st D (tM cy) (wM ad cy σ) A s H locs → lv_has ls 3 [(0, .ref (ad 0)), (1, .ref (st (100 + n1))), (2, .int x2)] → fX12_say_2  n σ n1 x2 = some res → W p l e rmX12_say s m args below meth c H locs 0 0 (zQu below args s D (tM cy) (wM ad cy) A res) (F0 m 2 ls []) := by
  intro n
  induction n with
  | zero => intro H locs σ ls n1 x2 hI hl hf; cases hf
  | succ n ih => intro H locs σ ls n1 x2 hI hl hf; exact bX12_say_2_body hC ih hI hl hf
set_option maxRecDepth 20000 in
set_option maxHeartbeats 4000000 in
theorem bX12_say {st : Nat → Nat} {p : Program} {l : Launch} {e : Env} {s : State} {m : MethodId} {args : Array Value} {below : List Frame} {meth : Method} {c : Code} {D : va_G} {A : Nat → Prop} {ad : Nat → Nat} {cy : Nat → ClassId} (hC : zC p m c cX12_say 3 s args wzX12_say RX12 meth none)  {res : zSt} {H : Heap} {locs : List Loc} {σ : zSt} {ls : Array Slot} {n1 : Nat} (hI : zI st D (tM cy) (wM ad cy σ) A s H locs) (hl : lv_has ls 3 [(0, .ref (ad 0)), (1, .ref (st (100 + n1)))]) (hf : fX12_say  σ n1 = some res) : W p l e rmX12_say s m args below meth c H locs 0 0 (zQu below args s D (tM cy) (wM ad cy) A res) (F0 m 0 ls []) := by
  have hx := hC.1
  have hb := hC.2.1
  unfold fX12_say at hf
  refine lv_iconst (v := 0) hx hb dX12_say_0 (by decide) ?_
  refine lv_istore_n (lv' := [(2, .int 0), (0, .ref (ad 0)), (1, .ref (st (100 + n1)))]) hx hb dX12_say_1 rfl hl (by decide) rfl (fun ls hl => ?_)
  exact blX12_say_2 hC  zfuel _ _ _ _ _ _ hI (lv_sub hl [1, 2, 0] rfl) hf
set_option maxRecDepth 20000 in
theorem cX12_say_met (st : Nat → Nat) (l : Launch) (D : va_G) (ad : Nat → Nat) (cy : Nat → ClassId) (σ : zSt) (n1 : Nat) (res : zSt) (hf : fX12_say σ n1 = some res) (sz : Nat) : zMu st l yX12_say wzX12_say rmX12_say [.ref (ad 0), .ref (st (100 + n1))] D (tM cy) (wM ad cy) sz σ res :=
  zMu.of (cc := cX12_say) (maxL := 3) (ret := none) (by decide) rfl (Nat.le_of_ble_eq_true rfl) (fun p e s m args below meth c hC A hI ls hl => bX12_say hC hI hl hf)
theorem hdX12_say : yX12_say.cls = RX12 ∧ yX12_say.cls ≠ "java/lang/invoke/MethodHandle" ∧ yX12_say.cls ≠ "java/lang/invoke/VarHandle" ∧ (parseMethodDescriptor yX12_say.desc).map (fun d => d.parameters.length) = some 1 := by decide +kernel
