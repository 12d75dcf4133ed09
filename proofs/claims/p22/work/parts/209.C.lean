def kn_cX11_set : Nat := 0xb1fa00b61c1b4200b42abf6300b7f512595f00bb0d00a419101b09009b1b
theorem zk_cX11_set : zkd cX11_set.data.toList kn_cX11_set = true := by decide +kernel
theorem zn_cX11_set : cX11_set.data.toList.length = 30 := by decide +kernel
theorem dX11_set_0 : decode cX11_set 0 = .ok (.iload_n 1, 1) := zo_27 (zkb zk_cX11_set zn_cX11_set (by decide +kernel))
theorem dX11_set_1 : decode cX11_set 1 = .ok (.ifCond .lt 9, 3) := zo_155 (b1 := 0) (b2 := 9) (zkb3 zk_cX11_set zn_cX11_set (by decide +kernel)) rfl
theorem dX11_set_4 : decode cX11_set 4 = .ok (.iload_n 1, 1) := zo_27 (zkb zk_cX11_set zn_cX11_set (by decide +kernel))
theorem dX11_set_5 : decode cX11_set 5 = .ok (.bipush 25, 2) := zo_16 (b1 := 25) (zkb2 zk_cX11_set zn_cX11_set (by decide +kernel)) rfl
theorem dX11_set_7 : decode cX11_set 7 = .ok (.if_icmp .le 13, 3) := zo_164 (b1 := 0) (b2 := 13) (zkb3 zk_cX11_set zn_cX11_set (by decide +kernel)) rfl
theorem dX11_set_10 : decode cX11_set 10 = .ok (.new 95, 3) := zo_187 (b1 := 0) (b2 := 95) (zkb3 zk_cX11_set zn_cX11_set (by decide +kernel)) rfl
theorem dX11_set_13 : decode cX11_set 13 = .ok (.dup, 1) := zo_89 (zkb zk_cX11_set zn_cX11_set (by decide +kernel))
theorem dX11_set_14 : decode cX11_set 14 = .ok (.ldc 245, 2) := zo_18 (b1 := 245) (zkb2 zk_cX11_set zn_cX11_set (by decide +kernel))
theorem dX11_set_16 : decode cX11_set 16 = .ok (.invokespecial 99, 3) := zo_183 (b1 := 0) (b2 := 99) (zkb3 zk_cX11_set zn_cX11_set (by decide +kernel)) rfl
theorem dX11_set_19 : decode cX11_set 19 = .ok (.athrow, 1) := zo_191 (zkb zk_cX11_set zn_cX11_set (by decide +kernel))
theorem dX11_set_20 : decode cX11_set 20 = .ok (.aload_n 0, 1) := zo_42 (zkb zk_cX11_set zn_cX11_set (by decide +kernel))
theorem dX11_set_21 : decode cX11_set 21 = .ok (.getfield 66, 3) := zo_180 (b1 := 0) (b2 := 66) (zkb3 zk_cX11_set zn_cX11_set (by decide +kernel)) rfl
theorem dX11_set_24 : decode cX11_set 24 = .ok (.iload_n 1, 1) := zo_27 (zkb zk_cX11_set zn_cX11_set (by decide +kernel))
theorem dX11_set_25 : decode cX11_set 25 = .ok (.iload_n 2, 1) := zo_28 (zkb zk_cX11_set zn_cX11_set (by decide +kernel))
theorem dX11_set_26 : decode cX11_set 26 = .ok (.invokevirtual 250, 3) := zo_182 (b1 := 0) (b2 := 250) (zkb3 zk_cX11_set zn_cX11_set (by decide +kernel)) rfl
theorem dX11_set_29 : decode cX11_set 29 = .ok (.return_, 1) := zo_177 (zkb zk_cX11_set zn_cX11_set (by decide +kernel))
def kn_cX11_battery : Nat := 0xac0701b61b1000b42abfcc00b705011359c800bb0e00a10401131b0a009b1b
theorem zk_cX11_battery : zkd cX11_battery.data.toList kn_cX11_battery = true := by decide +kernel
theorem zn_cX11_battery : cX11_battery.data.toList.length = 31 := by decide +kernel
theorem dX11_battery_0 : decode cX11_battery 0 = .ok (.iload_n 1, 1) := zo_27 (zkb zk_cX11_battery zn_cX11_battery (by decide +kernel))
theorem dX11_battery_1 : decode cX11_battery 1 = .ok (.ifCond .lt 10, 3) := zo_155 (b1 := 0) (b2 := 10) (zkb3 zk_cX11_battery zn_cX11_battery (by decide +kernel)) rfl
theorem dX11_battery_4 : decode cX11_battery 4 = .ok (.iload_n 1, 1) := zo_27 (zkb zk_cX11_battery zn_cX11_battery (by decide +kernel))
theorem dX11_battery_5 : decode cX11_battery 5 = .ok (.ldc_w 260, 3) := zo_19 (b1 := 1) (b2 := 4) (zkb3 zk_cX11_battery zn_cX11_battery (by decide +kernel)) rfl
theorem dX11_battery_8 : decode cX11_battery 8 = .ok (.if_icmp .lt 14, 3) := zo_161 (b1 := 0) (b2 := 14) (zkb3 zk_cX11_battery zn_cX11_battery (by decide +kernel)) rfl
theorem dX11_battery_11 : decode cX11_battery 11 = .ok (.new 200, 3) := zo_187 (b1 := 0) (b2 := 200) (zkb3 zk_cX11_battery zn_cX11_battery (by decide +kernel)) rfl
theorem dX11_battery_14 : decode cX11_battery 14 = .ok (.dup, 1) := zo_89 (zkb zk_cX11_battery zn_cX11_battery (by decide +kernel))
theorem dX11_battery_15 : decode cX11_battery 15 = .ok (.ldc_w 261, 3) := zo_19 (b1 := 1) (b2 := 5) (zkb3 zk_cX11_battery zn_cX11_battery (by decide +kernel)) rfl
theorem dX11_battery_18 : decode cX11_battery 18 = .ok (.invokespecial 204, 3) := zo_183 (b1 := 0) (b2 := 204) (zkb3 zk_cX11_battery zn_cX11_battery (by decide +kernel)) rfl
theorem dX11_battery_21 : decode cX11_battery 21 = .ok (.athrow, 1) := zo_191 (zkb zk_cX11_battery zn_cX11_battery (by decide +kernel))
theorem dX11_battery_22 : decode cX11_battery 22 = .ok (.aload_n 0, 1) := zo_42 (zkb zk_cX11_battery zn_cX11_battery (by decide +kernel))
theorem dX11_battery_23 : decode cX11_battery 23 = .ok (.getfield 16, 3) := zo_180 (b1 := 0) (b2 := 16) (zkb3 zk_cX11_battery zn_cX11_battery (by decide +kernel)) rfl
theorem dX11_battery_26 : decode cX11_battery 26 = .ok (.iload_n 1, 1) := zo_27 (zkb zk_cX11_battery zn_cX11_battery (by decide +kernel))
theorem dX11_battery_27 : decode cX11_battery 27 = .ok (.invokevirtual 263, 3) := zo_182 (b1 := 1) (b2 := 7) (zkb3 zk_cX11_battery zn_cX11_battery (by decide +kernel)) rfl
theorem dX11_battery_30 : decode cX11_battery 30 = .ok (.ireturn, 1) := zo_172 (zkb zk_cX11_battery zn_cX11_battery (by decide +kernel))
def kn_cX11_chip : Nat := 0xac1401b61b1900b42abf6300b7120113595f00bb0e009a0e01b81b
theorem zk_cX11_chip : zkd cX11_chip.data.toList kn_cX11_chip = true := by decide +kernel
theorem zn_cX11_chip : cX11_chip.data.toList.length = 27 := by decide +kernel
theorem dX11_chip_0 : decode cX11_chip 0 = .ok (.iload_n 1, 1) := zo_27 (zkb zk_cX11_chip zn_cX11_chip (by decide +kernel))
theorem dX11_chip_1 : decode cX11_chip 1 = .ok (.invokestatic 270, 3) := zo_184 (b1 := 1) (b2 := 14) (zkb3 zk_cX11_chip zn_cX11_chip (by decide +kernel)) rfl
theorem dX11_chip_4 : decode cX11_chip 4 = .ok (.ifCond .ne 14, 3) := zo_154 (b1 := 0) (b2 := 14) (zkb3 zk_cX11_chip zn_cX11_chip (by decide +kernel)) rfl
theorem dX11_chip_7 : decode cX11_chip 7 = .ok (.new 95, 3) := zo_187 (b1 := 0) (b2 := 95) (zkb3 zk_cX11_chip zn_cX11_chip (by decide +kernel)) rfl
theorem dX11_chip_10 : decode cX11_chip 10 = .ok (.dup, 1) := zo_89 (zkb zk_cX11_chip zn_cX11_chip (by decide +kernel))
theorem dX11_chip_11 : decode cX11_chip 11 = .ok (.ldc_w 274, 3) := zo_19 (b1 := 1) (b2 := 18) (zkb3 zk_cX11_chip zn_cX11_chip (by decide +kernel)) rfl
theorem dX11_chip_14 : decode cX11_chip 14 = .ok (.invokespecial 99, 3) := zo_183 (b1 := 0) (b2 := 99) (zkb3 zk_cX11_chip zn_cX11_chip (by decide +kernel)) rfl
theorem dX11_chip_17 : decode cX11_chip 17 = .ok (.athrow, 1) := zo_191 (zkb zk_cX11_chip zn_cX11_chip (by decide +kernel))
theorem dX11_chip_18 : decode cX11_chip 18 = .ok (.aload_n 0, 1) := zo_42 (zkb zk_cX11_chip zn_cX11_chip (by decide +kernel))
theorem dX11_chip_19 : decode cX11_chip 19 = .ok (.getfield 25, 3) := zo_180 (b1 := 0) (b2 := 25) (zkb3 zk_cX11_chip zn_cX11_chip (by decide +kernel)) rfl
theorem dX11_chip_22 : decode cX11_chip 22 = .ok (.iload_n 1, 1) := zo_27 (zkb zk_cX11_chip zn_cX11_chip (by decide +kernel))
theorem dX11_chip_23 : decode cX11_chip 23 = .ok (.invokevirtual 276, 3) := zo_182 (b1 := 1) (b2 := 20) (zkb3 zk_cX11_chip zn_cX11_chip (by decide +kernel)) rfl
theorem dX11_chip_26 : decode cX11_chip 26 = .ok (.ireturn, 1) := zo_172 (zkb zk_cX11_chip zn_cX11_chip (by decide +kernel))
def kn_cX11_dot : Nat := 0xac1d01b61c1b2200b42abfcc00b71b011359c800bb0e00a11801b62200b42a1c0e009b1c1200a21501b62200b42a1b1d009b1b
theorem zk_cX11_dot : zkd cX11_dot.data.toList kn_cX11_dot = true := by decide +kernel
theorem zn_cX11_dot : cX11_dot.data.toList.length = 51 := by decide +kernel
theorem dX11_dot_0 : decode cX11_dot 0 = .ok (.iload_n 1, 1) := zo_27 (zkb zk_cX11_dot zn_cX11_dot (by decide +kernel))
theorem dX11_dot_1 : decode cX11_dot 1 = .ok (.ifCond .lt 29, 3) := zo_155 (b1 := 0) (b2 := 29) (zkb3 zk_cX11_dot zn_cX11_dot (by decide +kernel)) rfl
theorem dX11_dot_4 : decode cX11_dot 4 = .ok (.iload_n 1, 1) := zo_27 (zkb zk_cX11_dot zn_cX11_dot (by decide +kernel))
theorem dX11_dot_5 : decode cX11_dot 5 = .ok (.aload_n 0, 1) := zo_42 (zkb zk_cX11_dot zn_cX11_dot (by decide +kernel))
theorem dX11_dot_6 : decode cX11_dot 6 = .ok (.getfield 34, 3) := zo_180 (b1 := 0) (b2 := 34) (zkb3 zk_cX11_dot zn_cX11_dot (by decide +kernel)) rfl
theorem dX11_dot_9 : decode cX11_dot 9 = .ok (.invokevirtual 277, 3) := zo_182 (b1 := 1) (b2 := 21) (zkb3 zk_cX11_dot zn_cX11_dot (by decide +kernel)) rfl
theorem dX11_dot_12 : decode cX11_dot 12 = .ok (.if_icmp .ge 18, 3) := zo_162 (b1 := 0) (b2 := 18) (zkb3 zk_cX11_dot zn_cX11_dot (by decide +kernel)) rfl
theorem dX11_dot_15 : decode cX11_dot 15 = .ok (.iload_n 2, 1) := zo_28 (zkb zk_cX11_dot zn_cX11_dot (by decide +kernel))
theorem dX11_dot_16 : decode cX11_dot 16 = .ok (.ifCond .lt 14, 3) := zo_155 (b1 := 0) (b2 := 14) (zkb3 zk_cX11_dot zn_cX11_dot (by decide +kernel)) rfl
theorem dX11_dot_19 : decode cX11_dot 19 = .ok (.iload_n 2, 1) := zo_28 (zkb zk_cX11_dot zn_cX11_dot (by decide +kernel))
theorem dX11_dot_20 : decode cX11_dot 20 = .ok (.aload_n 0, 1) := zo_42 (zkb zk_cX11_dot zn_cX11_dot (by decide +kernel))
theorem dX11_dot_21 : decode cX11_dot 21 = .ok (.getfield 34, 3) := zo_180 (b1 := 0) (b2 := 34) (zkb3 zk_cX11_dot zn_cX11_dot (by decide +kernel)) rfl
theorem dX11_dot_24 : decode cX11_dot 24 = .ok (.invokevirtual 280, 3) := zo_182 (b1 := 1) (b2 := 24) (zkb3 zk_cX11_dot zn_cX11_dot (by decide +kernel)) rfl
theorem dX11_dot_27 : decode cX11_dot 27 = .ok (.if_icmp .lt 14, 3) := zo_161 (b1 := 0) (b2 := 14) (zkb3 zk_cX11_dot zn_cX11_dot (by decide +kernel)) rfl
theorem dX11_dot_30 : decode cX11_dot 30 = .ok (.new 200, 3) := zo_187 (b1 := 0) (b2 := 200) (zkb3 zk_cX11_dot zn_cX11_dot (by decide +kernel)) rfl
theorem dX11_dot_33 : decode cX11_dot 33 = .ok (.dup, 1) := zo_89 (zkb zk_cX11_dot zn_cX11_dot (by decide +kernel))
theorem dX11_dot_34 : decode cX11_dot 34 = .ok (.ldc_w 283, 3) := zo_19 (b1 := 1) (b2 := 27) (zkb3 zk_cX11_dot zn_cX11_dot (by decide +kernel)) rfl
theorem dX11_dot_37 : decode cX11_dot 37 = .ok (.invokespecial 204, 3) := zo_183 (b1 := 0) (b2 := 204) (zkb3 zk_cX11_dot zn_cX11_dot (by decide +kernel)) rfl
theorem dX11_dot_40 : decode cX11_dot 40 = .ok (.athrow, 1) := zo_191 (zkb zk_cX11_dot zn_cX11_dot (by decide +kernel))
theorem dX11_dot_41 : decode cX11_dot 41 = .ok (.aload_n 0, 1) := zo_42 (zkb zk_cX11_dot zn_cX11_dot (by decide +kernel))
theorem dX11_dot_42 : decode cX11_dot 42 = .ok (.getfield 34, 3) := zo_180 (b1 := 0) (b2 := 34) (zkb3 zk_cX11_dot zn_cX11_dot (by decide +kernel)) rfl
theorem dX11_dot_45 : decode cX11_dot 45 = .ok (.iload_n 1, 1) := zo_27 (zkb zk_cX11_dot zn_cX11_dot (by decide +kernel))
theorem dX11_dot_46 : decode cX11_dot 46 = .ok (.iload_n 2, 1) := zo_28 (zkb zk_cX11_dot zn_cX11_dot (by decide +kernel))
theorem dX11_dot_47 : decode cX11_dot 47 = .ok (.invokevirtual 285, 3) := zo_182 (b1 := 1) (b2 := 29) (zkb3 zk_cX11_dot zn_cX11_dot (by decide +kernel)) rfl
theorem dX11_dot_50 : decode cX11_dot 50 = .ok (.ireturn, 1) := zo_172 (zkb zk_cX11_dot zn_cX11_dot (by decide +kernel))
def kn_cX11_row : Nat := 0xac2201b61b2200b42abfcc00b720011359c800bb0e00a11801b62200b42a1b0e009b1b
theorem zk_cX11_row : zkd cX11_row.data.toList kn_cX11_row = true := by decide +kernel
theorem zn_cX11_row : cX11_row.data.toList.length = 35 := by decide +kernel
theorem dX11_row_0 : decode cX11_row 0 = .ok (.iload_n 1, 1) := zo_27 (zkb zk_cX11_row zn_cX11_row (by decide +kernel))
theorem dX11_row_1 : decode cX11_row 1 = .ok (.ifCond .lt 14, 3) := zo_155 (b1 := 0) (b2 := 14) (zkb3 zk_cX11_row zn_cX11_row (by decide +kernel)) rfl
theorem dX11_row_4 : decode cX11_row 4 = .ok (.iload_n 1, 1) := zo_27 (zkb zk_cX11_row zn_cX11_row (by decide +kernel))
theorem dX11_row_5 : decode cX11_row 5 = .ok (.aload_n 0, 1) := zo_42 (zkb zk_cX11_row zn_cX11_row (by decide +kernel))
theorem dX11_row_6 : decode cX11_row 6 = .ok (.getfield 34, 3) := zo_180 (b1 := 0) (b2 := 34) (zkb3 zk_cX11_row zn_cX11_row (by decide +kernel)) rfl
theorem dX11_row_9 : decode cX11_row 9 = .ok (.invokevirtual 280, 3) := zo_182 (b1 := 1) (b2 := 24) (zkb3 zk_cX11_row zn_cX11_row (by decide +kernel)) rfl
theorem dX11_row_12 : decode cX11_row 12 = .ok (.if_icmp .lt 14, 3) := zo_161 (b1 := 0) (b2 := 14) (zkb3 zk_cX11_row zn_cX11_row (by decide +kernel)) rfl
theorem dX11_row_15 : decode cX11_row 15 = .ok (.new 200, 3) := zo_187 (b1 := 0) (b2 := 200) (zkb3 zk_cX11_row zn_cX11_row (by decide +kernel)) rfl
theorem dX11_row_18 : decode cX11_row 18 = .ok (.dup, 1) := zo_89 (zkb zk_cX11_row zn_cX11_row (by decide +kernel))
theorem dX11_row_19 : decode cX11_row 19 = .ok (.ldc_w 288, 3) := zo_19 (b1 := 1) (b2 := 32) (zkb3 zk_cX11_row zn_cX11_row (by decide +kernel)) rfl
theorem dX11_row_22 : decode cX11_row 22 = .ok (.invokespecial 204, 3) := zo_183 (b1 := 0) (b2 := 204) (zkb3 zk_cX11_row zn_cX11_row (by decide +kernel)) rfl
theorem dX11_row_25 : decode cX11_row 25 = .ok (.athrow, 1) := zo_191 (zkb zk_cX11_row zn_cX11_row (by decide +kernel))
theorem dX11_row_26 : decode cX11_row 26 = .ok (.aload_n 0, 1) := zo_42 (zkb zk_cX11_row zn_cX11_row (by decide +kernel))
theorem dX11_row_27 : decode cX11_row 27 = .ok (.getfield 34, 3) := zo_180 (b1 := 0) (b2 := 34) (zkb3 zk_cX11_row zn_cX11_row (by decide +kernel)) rfl
theorem dX11_row_30 : decode cX11_row 30 = .ok (.iload_n 1, 1) := zo_27 (zkb zk_cX11_row zn_cX11_row (by decide +kernel))
theorem dX11_row_31 : decode cX11_row 31 = .ok (.invokevirtual 290, 3) := zo_182 (b1 := 1) (b2 := 34) (zkb3 zk_cX11_row zn_cX11_row (by decide +kernel)) rfl
theorem dX11_row_34 : decode cX11_row 34 = .ok (.ireturn, 1) := zo_172 (zkb zk_cX11_row zn_cX11_row (by decide +kernel))
def kn_cX11_hear : Nat := 0xad3001b62501b44b00b42abfcc00b72e011359c800bb0e009a2901b62501b44b00b42a
theorem zk_cX11_hear : zkd cX11_hear.data.toList kn_cX11_hear = true := by decide +kernel
theorem zn_cX11_hear : cX11_hear.data.toList.length = 35 := by decide +kernel
theorem dX11_hear_0 : decode cX11_hear 0 = .ok (.aload_n 0, 1) := zo_42 (zkb zk_cX11_hear zn_cX11_hear (by decide +kernel))
theorem dX11_hear_1 : decode cX11_hear 1 = .ok (.getfield 75, 3) := zo_180 (b1 := 0) (b2 := 75) (zkb3 zk_cX11_hear zn_cX11_hear (by decide +kernel)) rfl
theorem dX11_hear_4 : decode cX11_hear 4 = .ok (.getfield 293, 3) := zo_180 (b1 := 1) (b2 := 37) (zkb3 zk_cX11_hear zn_cX11_hear (by decide +kernel)) rfl
theorem dX11_hear_7 : decode cX11_hear 7 = .ok (.invokevirtual 297, 3) := zo_182 (b1 := 1) (b2 := 41) (zkb3 zk_cX11_hear zn_cX11_hear (by decide +kernel)) rfl
theorem dX11_hear_10 : decode cX11_hear 10 = .ok (.ifCond .ne 14, 3) := zo_154 (b1 := 0) (b2 := 14) (zkb3 zk_cX11_hear zn_cX11_hear (by decide +kernel)) rfl
theorem dX11_hear_13 : decode cX11_hear 13 = .ok (.new 200, 3) := zo_187 (b1 := 0) (b2 := 200) (zkb3 zk_cX11_hear zn_cX11_hear (by decide +kernel)) rfl
theorem dX11_hear_16 : decode cX11_hear 16 = .ok (.dup, 1) := zo_89 (zkb zk_cX11_hear zn_cX11_hear (by decide +kernel))
theorem dX11_hear_17 : decode cX11_hear 17 = .ok (.ldc_w 302, 3) := zo_19 (b1 := 1) (b2 := 46) (zkb3 zk_cX11_hear zn_cX11_hear (by decide +kernel)) rfl
theorem dX11_hear_20 : decode cX11_hear 20 = .ok (.invokespecial 204, 3) := zo_183 (b1 := 0) (b2 := 204) (zkb3 zk_cX11_hear zn_cX11_hear (by decide +kernel)) rfl
theorem dX11_hear_23 : decode cX11_hear 23 = .ok (.athrow, 1) := zo_191 (zkb zk_cX11_hear zn_cX11_hear (by decide +kernel))
theorem dX11_hear_24 : decode cX11_hear 24 = .ok (.aload_n 0, 1) := zo_42 (zkb zk_cX11_hear zn_cX11_hear (by decide +kernel))
theorem dX11_hear_25 : decode cX11_hear 25 = .ok (.getfield 75, 3) := zo_180 (b1 := 0) (b2 := 75) (zkb3 zk_cX11_hear zn_cX11_hear (by decide +kernel)) rfl
theorem dX11_hear_28 : decode cX11_hear 28 = .ok (.getfield 293, 3) := zo_180 (b1 := 1) (b2 := 37) (zkb3 zk_cX11_hear zn_cX11_hear (by decide +kernel)) rfl
theorem dX11_hear_31 : decode cX11_hear 31 = .ok (.invokevirtual 304, 3) := zo_182 (b1 := 1) (b2 := 48) (zkb3 zk_cX11_hear zn_cX11_hear (by decide +kernel)) rfl
theorem dX11_hear_34 : decode cX11_hear 34 = .ok (.lreturn, 1) := zo_173 (zkb zk_cX11_hear zn_cX11_hear (by decide +kernel))
def kn_cX11_mix : Nat := 0xad3001b63401b44b00b42abfcc00b737011359c800bb0e009a2901b63401b44b00b42a
theorem zk_cX11_mix : zkd cX11_mix.data.toList kn_cX11_mix = true := by decide +kernel
theorem zn_cX11_mix : cX11_mix.data.toList.length = 35 := by decide +kernel
theorem dX11_mix_0 : decode cX11_mix 0 = .ok (.aload_n 0, 1) := zo_42 (zkb zk_cX11_mix zn_cX11_mix (by decide +kernel))
theorem dX11_mix_1 : decode cX11_mix 1 = .ok (.getfield 75, 3) := zo_180 (b1 := 0) (b2 := 75) (zkb3 zk_cX11_mix zn_cX11_mix (by decide +kernel)) rfl
theorem dX11_mix_4 : decode cX11_mix 4 = .ok (.getfield 308, 3) := zo_180 (b1 := 1) (b2 := 52) (zkb3 zk_cX11_mix zn_cX11_mix (by decide +kernel)) rfl
theorem dX11_mix_7 : decode cX11_mix 7 = .ok (.invokevirtual 297, 3) := zo_182 (b1 := 1) (b2 := 41) (zkb3 zk_cX11_mix zn_cX11_mix (by decide +kernel)) rfl
theorem dX11_mix_10 : decode cX11_mix 10 = .ok (.ifCond .ne 14, 3) := zo_154 (b1 := 0) (b2 := 14) (zkb3 zk_cX11_mix zn_cX11_mix (by decide +kernel)) rfl
theorem dX11_mix_13 : decode cX11_mix 13 = .ok (.new 200, 3) := zo_187 (b1 := 0) (b2 := 200) (zkb3 zk_cX11_mix zn_cX11_mix (by decide +kernel)) rfl
theorem dX11_mix_16 : decode cX11_mix 16 = .ok (.dup, 1) := zo_89 (zkb zk_cX11_mix zn_cX11_mix (by decide +kernel))
theorem dX11_mix_17 : decode cX11_mix 17 = .ok (.ldc_w 311, 3) := zo_19 (b1 := 1) (b2 := 55) (zkb3 zk_cX11_mix zn_cX11_mix (by decide +kernel)) rfl
theorem dX11_mix_20 : decode cX11_mix 20 = .ok (.invokespecial 204, 3) := zo_183 (b1 := 0) (b2 := 204) (zkb3 zk_cX11_mix zn_cX11_mix (by decide +kernel)) rfl
theorem dX11_mix_23 : decode cX11_mix 23 = .ok (.athrow, 1) := zo_191 (zkb zk_cX11_mix zn_cX11_mix (by decide +kernel))
theorem dX11_mix_24 : decode cX11_mix 24 = .ok (.aload_n 0, 1) := zo_42 (zkb zk_cX11_mix zn_cX11_mix (by decide +kernel))
theorem dX11_mix_25 : decode cX11_mix 25 = .ok (.getfield 75, 3) := zo_180 (b1 := 0) (b2 := 75) (zkb3 zk_cX11_mix zn_cX11_mix (by decide +kernel)) rfl
theorem dX11_mix_28 : decode cX11_mix 28 = .ok (.getfield 308, 3) := zo_180 (b1 := 1) (b2 := 52) (zkb3 zk_cX11_mix zn_cX11_mix (by decide +kernel)) rfl
theorem dX11_mix_31 : decode cX11_mix 31 = .ok (.invokevirtual 304, 3) := zo_182 (b1 := 1) (b2 := 48) (zkb3 zk_cX11_mix zn_cX11_mix (by decide +kernel)) rfl
theorem dX11_mix_34 : decode cX11_mix 34 = .ok (.lreturn, 1) := zo_173 (zkb zk_cX11_mix zn_cX11_mix (by decide +kernel))
def kn_cX11_wave : Nat := 0xac3c01b61b3000b42abf6300b73a0113595f00bb0e009a3901b81b
theorem zk_cX11_wave : zkd cX11_wave.data.toList kn_cX11_wave = true := by decide +kernel
theorem zn_cX11_wave : cX11_wave.data.toList.length = 27 := by decide +kernel
theorem dX11_wave_0 : decode cX11_wave 0 = .ok (.iload_n 1, 1) := zo_27 (zkb zk_cX11_wave zn_cX11_wave (by decide +kernel))
theorem dX11_wave_1 : decode cX11_wave 1 = .ok (.invokestatic 313, 3) := zo_184 (b1 := 1) (b2 := 57) (zkb3 zk_cX11_wave zn_cX11_wave (by decide +kernel)) rfl
theorem dX11_wave_4 : decode cX11_wave 4 = .ok (.ifCond .ne 14, 3) := zo_154 (b1 := 0) (b2 := 14) (zkb3 zk_cX11_wave zn_cX11_wave (by decide +kernel)) rfl
theorem dX11_wave_7 : decode cX11_wave 7 = .ok (.new 95, 3) := zo_187 (b1 := 0) (b2 := 95) (zkb3 zk_cX11_wave zn_cX11_wave (by decide +kernel)) rfl
theorem dX11_wave_10 : decode cX11_wave 10 = .ok (.dup, 1) := zo_89 (zkb zk_cX11_wave zn_cX11_wave (by decide +kernel))
theorem dX11_wave_11 : decode cX11_wave 11 = .ok (.ldc_w 314, 3) := zo_19 (b1 := 1) (b2 := 58) (zkb3 zk_cX11_wave zn_cX11_wave (by decide +kernel)) rfl
theorem dX11_wave_14 : decode cX11_wave 14 = .ok (.invokespecial 99, 3) := zo_183 (b1 := 0) (b2 := 99) (zkb3 zk_cX11_wave zn_cX11_wave (by decide +kernel)) rfl
theorem dX11_wave_17 : decode cX11_wave 17 = .ok (.athrow, 1) := zo_191 (zkb zk_cX11_wave zn_cX11_wave (by decide +kernel))
theorem dX11_wave_18 : decode cX11_wave 18 = .ok (.aload_n 0, 1) := zo_42 (zkb zk_cX11_wave zn_cX11_wave (by decide +kernel))
theorem dX11_wave_19 : decode cX11_wave 19 = .ok (.getfield 48, 3) := zo_180 (b1 := 0) (b2 := 48) (zkb3 zk_cX11_wave zn_cX11_wave (by decide +kernel)) rfl
theorem dX11_wave_22 : decode cX11_wave 22 = .ok (.iload_n 1, 1) := zo_27 (zkb zk_cX11_wave zn_cX11_wave (by decide +kernel))
theorem dX11_wave_23 : decode cX11_wave 23 = .ok (.invokevirtual 316, 3) := zo_182 (b1 := 1) (b2 := 60) (zkb3 zk_cX11_wave zn_cX11_wave (by decide +kernel)) rfl
theorem dX11_wave_26 : decode cX11_wave 26 = .ok (.ireturn, 1) := zo_172 (zkb zk_cX11_wave zn_cX11_wave (by decide +kernel))
def kn_cX11_sound : Nat := 0xac3f01b61b2900b42abf6300b73d0113595f00bb0e00a412101b09009b1b
theorem zk_cX11_sound : zkd cX11_sound.data.toList kn_cX11_sound = true := by decide +kernel
theorem zn_cX11_sound : cX11_sound.data.toList.length = 30 := by decide +kernel
theorem dX11_sound_0 : decode cX11_sound 0 = .ok (.iload_n 1, 1) := zo_27 (zkb zk_cX11_sound zn_cX11_sound (by decide +kernel))
theorem dX11_sound_1 : decode cX11_sound 1 = .ok (.ifCond .lt 9, 3) := zo_155 (b1 := 0) (b2 := 9) (zkb3 zk_cX11_sound zn_cX11_sound (by decide +kernel)) rfl
theorem dX11_sound_4 : decode cX11_sound 4 = .ok (.iload_n 1, 1) := zo_27 (zkb zk_cX11_sound zn_cX11_sound (by decide +kernel))
theorem dX11_sound_5 : decode cX11_sound 5 = .ok (.bipush 18, 2) := zo_16 (b1 := 18) (zkb2 zk_cX11_sound zn_cX11_sound (by decide +kernel)) rfl
theorem dX11_sound_7 : decode cX11_sound 7 = .ok (.if_icmp .le 14, 3) := zo_164 (b1 := 0) (b2 := 14) (zkb3 zk_cX11_sound zn_cX11_sound (by decide +kernel)) rfl
theorem dX11_sound_10 : decode cX11_sound 10 = .ok (.new 95, 3) := zo_187 (b1 := 0) (b2 := 95) (zkb3 zk_cX11_sound zn_cX11_sound (by decide +kernel)) rfl
theorem dX11_sound_13 : decode cX11_sound 13 = .ok (.dup, 1) := zo_89 (zkb zk_cX11_sound zn_cX11_sound (by decide +kernel))
theorem dX11_sound_14 : decode cX11_sound 14 = .ok (.ldc_w 317, 3) := zo_19 (b1 := 1) (b2 := 61) (zkb3 zk_cX11_sound zn_cX11_sound (by decide +kernel)) rfl
theorem dX11_sound_17 : decode cX11_sound 17 = .ok (.invokespecial 99, 3) := zo_183 (b1 := 0) (b2 := 99) (zkb3 zk_cX11_sound zn_cX11_sound (by decide +kernel)) rfl
theorem dX11_sound_20 : decode cX11_sound 20 = .ok (.athrow, 1) := zo_191 (zkb zk_cX11_sound zn_cX11_sound (by decide +kernel))
theorem dX11_sound_21 : decode cX11_sound 21 = .ok (.aload_n 0, 1) := zo_42 (zkb zk_cX11_sound zn_cX11_sound (by decide +kernel))
theorem dX11_sound_22 : decode cX11_sound 22 = .ok (.getfield 41, 3) := zo_180 (b1 := 0) (b2 := 41) (zkb3 zk_cX11_sound zn_cX11_sound (by decide +kernel)) rfl
theorem dX11_sound_25 : decode cX11_sound 25 = .ok (.iload_n 1, 1) := zo_27 (zkb zk_cX11_sound zn_cX11_sound (by decide +kernel))
theorem dX11_sound_26 : decode cX11_sound 26 = .ok (.invokevirtual 319, 3) := zo_182 (b1 := 1) (b2 := 63) (zkb3 zk_cX11_sound zn_cX11_sound (by decide +kernel)) rfl
theorem dX11_sound_29 : decode cX11_sound 29 = .ok (.ireturn, 1) := zo_172 (zkb zk_cX11_sound zn_cX11_sound (by decide +kernel))
def kn_cX11_look : Nat := 0xad85c500b45b00b42aad852901b63401b44b00b42aad85b900b65200b42aad090400a70a0700998b00b42aad855101b6033900b42aad855101b606103900b42aad85f700b61b104200b42aad854e01b66409101b1000b42aad854e01b6061000b42aad854b01b61000b42aad854801b65200b42aad856600b41000b42aad4501b6064b00b42aad852901b62501b44b00b42aad4501b6054b00b42aad4501b6044b00b42aad4501b6034b00b42aee000000e5000000d8000000ce000000c3000000b8000000ab000000ab000000ab000000a1000000980000008f000000860000007d00000071000000680000005f000000560000001100000000000000fa00000000aa1bbf6300b7430113595f00bb0e00a412101b09009b1b
theorem zk_cX11_look : zkd cX11_look.data.toList kn_cX11_look = true := by decide +kernel
theorem zn_cX11_look : cX11_look.data.toList.length = 281 := by decide +kernel
theorem dX11_look_0 : decode cX11_look 0 = .ok (.iload_n 1, 1) := zo_27 (zkb zk_cX11_look zn_cX11_look (by decide +kernel))
theorem dX11_look_1 : decode cX11_look 1 = .ok (.ifCond .lt 9, 3) := zo_155 (b1 := 0) (b2 := 9) (zkb3 zk_cX11_look zn_cX11_look (by decide +kernel)) rfl
theorem dX11_look_4 : decode cX11_look 4 = .ok (.iload_n 1, 1) := zo_27 (zkb zk_cX11_look zn_cX11_look (by decide +kernel))
theorem dX11_look_5 : decode cX11_look 5 = .ok (.bipush 18, 2) := zo_16 (b1 := 18) (zkb2 zk_cX11_look zn_cX11_look (by decide +kernel)) rfl
theorem dX11_look_7 : decode cX11_look 7 = .ok (.if_icmp .le 14, 3) := zo_164 (b1 := 0) (b2 := 14) (zkb3 zk_cX11_look zn_cX11_look (by decide +kernel)) rfl
theorem dX11_look_10 : decode cX11_look 10 = .ok (.new 95, 3) := zo_187 (b1 := 0) (b2 := 95) (zkb3 zk_cX11_look zn_cX11_look (by decide +kernel)) rfl
theorem dX11_look_13 : decode cX11_look 13 = .ok (.dup, 1) := zo_89 (zkb zk_cX11_look zn_cX11_look (by decide +kernel))
theorem dX11_look_14 : decode cX11_look 14 = .ok (.ldc_w 323, 3) := zo_19 (b1 := 1) (b2 := 67) (zkb3 zk_cX11_look zn_cX11_look (by decide +kernel)) rfl
theorem dX11_look_17 : decode cX11_look 17 = .ok (.invokespecial 99, 3) := zo_183 (b1 := 0) (b2 := 99) (zkb3 zk_cX11_look zn_cX11_look (by decide +kernel)) rfl
theorem dX11_look_20 : decode cX11_look 20 = .ok (.athrow, 1) := zo_191 (zkb zk_cX11_look zn_cX11_look (by decide +kernel))
theorem dX11_look_21 : decode cX11_look 21 = .ok (.iload_n 1, 1) := zo_27 (zkb zk_cX11_look zn_cX11_look (by decide +kernel))
theorem dX11_look_22 : decode cX11_look 22 = .ok (.tableswitch 250 0 17 #[86, 95, 104, 113, 125, 134, 143, 152, 161, 171, 171, 171, 184, 195, 206, 216, 229, 238], 86) := by decide +kernel
theorem dX11_look_108 : decode cX11_look 108 = .ok (.aload_n 0, 1) := zo_42 (zkb zk_cX11_look zn_cX11_look (by decide +kernel))
theorem dX11_look_109 : decode cX11_look 109 = .ok (.getfield 75, 3) := zo_180 (b1 := 0) (b2 := 75) (zkb3 zk_cX11_look zn_cX11_look (by decide +kernel)) rfl
theorem dX11_look_112 : decode cX11_look 112 = .ok (.iconst 0, 1) := zo_3 (zkb zk_cX11_look zn_cX11_look (by decide +kernel))
theorem dX11_look_113 : decode cX11_look 113 = .ok (.invokevirtual 325, 3) := zo_182 (b1 := 1) (b2 := 69) (zkb3 zk_cX11_look zn_cX11_look (by decide +kernel)) rfl
theorem dX11_look_116 : decode cX11_look 116 = .ok (.lreturn, 1) := zo_173 (zkb zk_cX11_look zn_cX11_look (by decide +kernel))
theorem dX11_look_117 : decode cX11_look 117 = .ok (.aload_n 0, 1) := zo_42 (zkb zk_cX11_look zn_cX11_look (by decide +kernel))
theorem dX11_look_118 : decode cX11_look 118 = .ok (.getfield 75, 3) := zo_180 (b1 := 0) (b2 := 75) (zkb3 zk_cX11_look zn_cX11_look (by decide +kernel)) rfl
theorem dX11_look_121 : decode cX11_look 121 = .ok (.iconst 1, 1) := zo_4 (zkb zk_cX11_look zn_cX11_look (by decide +kernel))
theorem dX11_look_122 : decode cX11_look 122 = .ok (.invokevirtual 325, 3) := zo_182 (b1 := 1) (b2 := 69) (zkb3 zk_cX11_look zn_cX11_look (by decide +kernel)) rfl
theorem dX11_look_125 : decode cX11_look 125 = .ok (.lreturn, 1) := zo_173 (zkb zk_cX11_look zn_cX11_look (by decide +kernel))
theorem dX11_look_126 : decode cX11_look 126 = .ok (.aload_n 0, 1) := zo_42 (zkb zk_cX11_look zn_cX11_look (by decide +kernel))
theorem dX11_look_127 : decode cX11_look 127 = .ok (.getfield 75, 3) := zo_180 (b1 := 0) (b2 := 75) (zkb3 zk_cX11_look zn_cX11_look (by decide +kernel)) rfl
theorem dX11_look_130 : decode cX11_look 130 = .ok (.iconst 2, 1) := zo_5 (zkb zk_cX11_look zn_cX11_look (by decide +kernel))
theorem dX11_look_131 : decode cX11_look 131 = .ok (.invokevirtual 325, 3) := zo_182 (b1 := 1) (b2 := 69) (zkb3 zk_cX11_look zn_cX11_look (by decide +kernel)) rfl
theorem dX11_look_134 : decode cX11_look 134 = .ok (.lreturn, 1) := zo_173 (zkb zk_cX11_look zn_cX11_look (by decide +kernel))
theorem dX11_look_135 : decode cX11_look 135 = .ok (.aload_n 0, 1) := zo_42 (zkb zk_cX11_look zn_cX11_look (by decide +kernel))
theorem dX11_look_136 : decode cX11_look 136 = .ok (.getfield 75, 3) := zo_180 (b1 := 0) (b2 := 75) (zkb3 zk_cX11_look zn_cX11_look (by decide +kernel)) rfl
theorem dX11_look_139 : decode cX11_look 139 = .ok (.getfield 293, 3) := zo_180 (b1 := 1) (b2 := 37) (zkb3 zk_cX11_look zn_cX11_look (by decide +kernel)) rfl
theorem dX11_look_142 : decode cX11_look 142 = .ok (.invokevirtual 297, 3) := zo_182 (b1 := 1) (b2 := 41) (zkb3 zk_cX11_look zn_cX11_look (by decide +kernel)) rfl
theorem dX11_look_145 : decode cX11_look 145 = .ok (.i2l, 1) := zo_133 (zkb zk_cX11_look zn_cX11_look (by decide +kernel))
theorem dX11_look_146 : decode cX11_look 146 = .ok (.lreturn, 1) := zo_173 (zkb zk_cX11_look zn_cX11_look (by decide +kernel))
theorem dX11_look_147 : decode cX11_look 147 = .ok (.aload_n 0, 1) := zo_42 (zkb zk_cX11_look zn_cX11_look (by decide +kernel))
theorem dX11_look_148 : decode cX11_look 148 = .ok (.getfield 75, 3) := zo_180 (b1 := 0) (b2 := 75) (zkb3 zk_cX11_look zn_cX11_look (by decide +kernel)) rfl
theorem dX11_look_151 : decode cX11_look 151 = .ok (.iconst 3, 1) := zo_6 (zkb zk_cX11_look zn_cX11_look (by decide +kernel))
theorem dX11_look_152 : decode cX11_look 152 = .ok (.invokevirtual 325, 3) := zo_182 (b1 := 1) (b2 := 69) (zkb3 zk_cX11_look zn_cX11_look (by decide +kernel)) rfl
theorem dX11_look_155 : decode cX11_look 155 = .ok (.lreturn, 1) := zo_173 (zkb zk_cX11_look zn_cX11_look (by decide +kernel))
theorem dX11_look_156 : decode cX11_look 156 = .ok (.aload_n 0, 1) := zo_42 (zkb zk_cX11_look zn_cX11_look (by decide +kernel))
theorem dX11_look_157 : decode cX11_look 157 = .ok (.getfield 16, 3) := zo_180 (b1 := 0) (b2 := 16) (zkb3 zk_cX11_look zn_cX11_look (by decide +kernel)) rfl
theorem dX11_look_160 : decode cX11_look 160 = .ok (.getfield 102, 3) := zo_180 (b1 := 0) (b2 := 102) (zkb3 zk_cX11_look zn_cX11_look (by decide +kernel)) rfl
theorem dX11_look_163 : decode cX11_look 163 = .ok (.i2l, 1) := zo_133 (zkb zk_cX11_look zn_cX11_look (by decide +kernel))
theorem dX11_look_164 : decode cX11_look 164 = .ok (.lreturn, 1) := zo_173 (zkb zk_cX11_look zn_cX11_look (by decide +kernel))
theorem dX11_look_165 : decode cX11_look 165 = .ok (.aload_n 0, 1) := zo_42 (zkb zk_cX11_look zn_cX11_look (by decide +kernel))
theorem dX11_look_166 : decode cX11_look 166 = .ok (.getfield 82, 3) := zo_180 (b1 := 0) (b2 := 82) (zkb3 zk_cX11_look zn_cX11_look (by decide +kernel)) rfl
theorem dX11_look_169 : decode cX11_look 169 = .ok (.invokevirtual 328, 3) := zo_182 (b1 := 1) (b2 := 72) (zkb3 zk_cX11_look zn_cX11_look (by decide +kernel)) rfl
theorem dX11_look_172 : decode cX11_look 172 = .ok (.i2l, 1) := zo_133 (zkb zk_cX11_look zn_cX11_look (by decide +kernel))
theorem dX11_look_173 : decode cX11_look 173 = .ok (.lreturn, 1) := zo_173 (zkb zk_cX11_look zn_cX11_look (by decide +kernel))
theorem dX11_look_174 : decode cX11_look 174 = .ok (.aload_n 0, 1) := zo_42 (zkb zk_cX11_look zn_cX11_look (by decide +kernel))
theorem dX11_look_175 : decode cX11_look 175 = .ok (.getfield 16, 3) := zo_180 (b1 := 0) (b2 := 16) (zkb3 zk_cX11_look zn_cX11_look (by decide +kernel)) rfl
theorem dX11_look_178 : decode cX11_look 178 = .ok (.invokevirtual 331, 3) := zo_182 (b1 := 1) (b2 := 75) (zkb3 zk_cX11_look zn_cX11_look (by decide +kernel)) rfl
theorem dX11_look_181 : decode cX11_look 181 = .ok (.i2l, 1) := zo_133 (zkb zk_cX11_look zn_cX11_look (by decide +kernel))
theorem dX11_look_182 : decode cX11_look 182 = .ok (.lreturn, 1) := zo_173 (zkb zk_cX11_look zn_cX11_look (by decide +kernel))
theorem dX11_look_183 : decode cX11_look 183 = .ok (.aload_n 0, 1) := zo_42 (zkb zk_cX11_look zn_cX11_look (by decide +kernel))
theorem dX11_look_184 : decode cX11_look 184 = .ok (.getfield 16, 3) := zo_180 (b1 := 0) (b2 := 16) (zkb3 zk_cX11_look zn_cX11_look (by decide +kernel)) rfl
theorem dX11_look_187 : decode cX11_look 187 = .ok (.iconst 3, 1) := zo_6 (zkb zk_cX11_look zn_cX11_look (by decide +kernel))
theorem dX11_look_188 : decode cX11_look 188 = .ok (.invokevirtual 334, 3) := zo_182 (b1 := 1) (b2 := 78) (zkb3 zk_cX11_look zn_cX11_look (by decide +kernel)) rfl
theorem dX11_look_191 : decode cX11_look 191 = .ok (.i2l, 1) := zo_133 (zkb zk_cX11_look zn_cX11_look (by decide +kernel))
theorem dX11_look_192 : decode cX11_look 192 = .ok (.lreturn, 1) := zo_173 (zkb zk_cX11_look zn_cX11_look (by decide +kernel))
theorem dX11_look_193 : decode cX11_look 193 = .ok (.aload_n 0, 1) := zo_42 (zkb zk_cX11_look zn_cX11_look (by decide +kernel))
theorem dX11_look_194 : decode cX11_look 194 = .ok (.getfield 16, 3) := zo_180 (b1 := 0) (b2 := 16) (zkb3 zk_cX11_look zn_cX11_look (by decide +kernel)) rfl
theorem dX11_look_197 : decode cX11_look 197 = .ok (.iload_n 1, 1) := zo_27 (zkb zk_cX11_look zn_cX11_look (by decide +kernel))
theorem dX11_look_198 : decode cX11_look 198 = .ok (.bipush 9, 2) := zo_16 (b1 := 9) (zkb2 zk_cX11_look zn_cX11_look (by decide +kernel)) rfl
theorem dX11_look_200 : decode cX11_look 200 = .ok (.isub, 1) := zo_100 (zkb zk_cX11_look zn_cX11_look (by decide +kernel))
theorem dX11_look_201 : decode cX11_look 201 = .ok (.invokevirtual 334, 3) := zo_182 (b1 := 1) (b2 := 78) (zkb3 zk_cX11_look zn_cX11_look (by decide +kernel)) rfl
theorem dX11_look_204 : decode cX11_look 204 = .ok (.i2l, 1) := zo_133 (zkb zk_cX11_look zn_cX11_look (by decide +kernel))
theorem dX11_look_205 : decode cX11_look 205 = .ok (.lreturn, 1) := zo_173 (zkb zk_cX11_look zn_cX11_look (by decide +kernel))
theorem dX11_look_206 : decode cX11_look 206 = .ok (.aload_n 0, 1) := zo_42 (zkb zk_cX11_look zn_cX11_look (by decide +kernel))
theorem dX11_look_207 : decode cX11_look 207 = .ok (.getfield 66, 3) := zo_180 (b1 := 0) (b2 := 66) (zkb3 zk_cX11_look zn_cX11_look (by decide +kernel)) rfl
theorem dX11_look_210 : decode cX11_look 210 = .ok (.bipush 27, 2) := zo_16 (b1 := 27) (zkb2 zk_cX11_look zn_cX11_look (by decide +kernel)) rfl
theorem dX11_look_212 : decode cX11_look 212 = .ok (.invokevirtual 247, 3) := zo_182 (b1 := 0) (b2 := 247) (zkb3 zk_cX11_look zn_cX11_look (by decide +kernel)) rfl
theorem dX11_look_215 : decode cX11_look 215 = .ok (.i2l, 1) := zo_133 (zkb zk_cX11_look zn_cX11_look (by decide +kernel))
theorem dX11_look_216 : decode cX11_look 216 = .ok (.lreturn, 1) := zo_173 (zkb zk_cX11_look zn_cX11_look (by decide +kernel))
theorem dX11_look_217 : decode cX11_look 217 = .ok (.aload_n 0, 1) := zo_42 (zkb zk_cX11_look zn_cX11_look (by decide +kernel))
theorem dX11_look_218 : decode cX11_look 218 = .ok (.getfield 57, 3) := zo_180 (b1 := 0) (b2 := 57) (zkb3 zk_cX11_look zn_cX11_look (by decide +kernel)) rfl
theorem dX11_look_221 : decode cX11_look 221 = .ok (.bipush 6, 2) := zo_16 (b1 := 6) (zkb2 zk_cX11_look zn_cX11_look (by decide +kernel)) rfl
theorem dX11_look_223 : decode cX11_look 223 = .ok (.invokevirtual 337, 3) := zo_182 (b1 := 1) (b2 := 81) (zkb3 zk_cX11_look zn_cX11_look (by decide +kernel)) rfl
theorem dX11_look_226 : decode cX11_look 226 = .ok (.i2l, 1) := zo_133 (zkb zk_cX11_look zn_cX11_look (by decide +kernel))
theorem dX11_look_227 : decode cX11_look 227 = .ok (.lreturn, 1) := zo_173 (zkb zk_cX11_look zn_cX11_look (by decide +kernel))
theorem dX11_look_228 : decode cX11_look 228 = .ok (.aload_n 0, 1) := zo_42 (zkb zk_cX11_look zn_cX11_look (by decide +kernel))
theorem dX11_look_229 : decode cX11_look 229 = .ok (.getfield 57, 3) := zo_180 (b1 := 0) (b2 := 57) (zkb3 zk_cX11_look zn_cX11_look (by decide +kernel)) rfl
theorem dX11_look_232 : decode cX11_look 232 = .ok (.iconst 0, 1) := zo_3 (zkb zk_cX11_look zn_cX11_look (by decide +kernel))
theorem dX11_look_233 : decode cX11_look 233 = .ok (.invokevirtual 337, 3) := zo_182 (b1 := 1) (b2 := 81) (zkb3 zk_cX11_look zn_cX11_look (by decide +kernel)) rfl
theorem dX11_look_236 : decode cX11_look 236 = .ok (.i2l, 1) := zo_133 (zkb zk_cX11_look zn_cX11_look (by decide +kernel))
theorem dX11_look_237 : decode cX11_look 237 = .ok (.lreturn, 1) := zo_173 (zkb zk_cX11_look zn_cX11_look (by decide +kernel))
theorem dX11_look_238 : decode cX11_look 238 = .ok (.aload_n 0, 1) := zo_42 (zkb zk_cX11_look zn_cX11_look (by decide +kernel))
theorem dX11_look_239 : decode cX11_look 239 = .ok (.getfield 139, 3) := zo_180 (b1 := 0) (b2 := 139) (zkb3 zk_cX11_look zn_cX11_look (by decide +kernel)) rfl
theorem dX11_look_242 : decode cX11_look 242 = .ok (.ifCond .eq 7, 3) := zo_153 (b1 := 0) (b2 := 7) (zkb3 zk_cX11_look zn_cX11_look (by decide +kernel)) rfl
theorem dX11_look_245 : decode cX11_look 245 = .ok (.lconst 1, 1) := zo_10 (zkb zk_cX11_look zn_cX11_look (by decide +kernel))
theorem dX11_look_246 : decode cX11_look 246 = .ok (.goto 4, 3) := zo_167 (b1 := 0) (b2 := 4) (zkb3 zk_cX11_look zn_cX11_look (by decide +kernel)) rfl
theorem dX11_look_249 : decode cX11_look 249 = .ok (.lconst 0, 1) := zo_9 (zkb zk_cX11_look zn_cX11_look (by decide +kernel))
theorem dX11_look_250 : decode cX11_look 250 = .ok (.lreturn, 1) := zo_173 (zkb zk_cX11_look zn_cX11_look (by decide +kernel))
theorem dX11_look_251 : decode cX11_look 251 = .ok (.aload_n 0, 1) := zo_42 (zkb zk_cX11_look zn_cX11_look (by decide +kernel))
theorem dX11_look_252 : decode cX11_look 252 = .ok (.getfield 82, 3) := zo_180 (b1 := 0) (b2 := 82) (zkb3 zk_cX11_look zn_cX11_look (by decide +kernel)) rfl
theorem dX11_look_255 : decode cX11_look 255 = .ok (.invokevirtual 185, 3) := zo_182 (b1 := 0) (b2 := 185) (zkb3 zk_cX11_look zn_cX11_look (by decide +kernel)) rfl
theorem dX11_look_258 : decode cX11_look 258 = .ok (.i2l, 1) := zo_133 (zkb zk_cX11_look zn_cX11_look (by decide +kernel))
theorem dX11_look_259 : decode cX11_look 259 = .ok (.lreturn, 1) := zo_173 (zkb zk_cX11_look zn_cX11_look (by decide +kernel))
theorem dX11_look_260 : decode cX11_look 260 = .ok (.aload_n 0, 1) := zo_42 (zkb zk_cX11_look zn_cX11_look (by decide +kernel))
theorem dX11_look_261 : decode cX11_look 261 = .ok (.getfield 75, 3) := zo_180 (b1 := 0) (b2 := 75) (zkb3 zk_cX11_look zn_cX11_look (by decide +kernel)) rfl
theorem dX11_look_264 : decode cX11_look 264 = .ok (.getfield 308, 3) := zo_180 (b1 := 1) (b2 := 52) (zkb3 zk_cX11_look zn_cX11_look (by decide +kernel)) rfl
theorem dX11_look_267 : decode cX11_look 267 = .ok (.invokevirtual 297, 3) := zo_182 (b1 := 1) (b2 := 41) (zkb3 zk_cX11_look zn_cX11_look (by decide +kernel)) rfl
theorem dX11_look_270 : decode cX11_look 270 = .ok (.i2l, 1) := zo_133 (zkb zk_cX11_look zn_cX11_look (by decide +kernel))
theorem dX11_look_271 : decode cX11_look 271 = .ok (.lreturn, 1) := zo_173 (zkb zk_cX11_look zn_cX11_look (by decide +kernel))
theorem dX11_look_272 : decode cX11_look 272 = .ok (.aload_n 0, 1) := zo_42 (zkb zk_cX11_look zn_cX11_look (by decide +kernel))
theorem dX11_look_273 : decode cX11_look 273 = .ok (.getfield 91, 3) := zo_180 (b1 := 0) (b2 := 91) (zkb3 zk_cX11_look zn_cX11_look (by decide +kernel)) rfl
theorem dX11_look_276 : decode cX11_look 276 = .ok (.getfield 197, 3) := zo_180 (b1 := 0) (b2 := 197) (zkb3 zk_cX11_look zn_cX11_look (by decide +kernel)) rfl
theorem dX11_look_279 : decode cX11_look 279 = .ok (.i2l, 1) := zo_133 (zkb zk_cX11_look zn_cX11_look (by decide +kernel))
theorem dX11_look_280 : decode cX11_look 280 = .ok (.lreturn, 1) := zo_173 (zkb zk_cX11_look zn_cX11_look (by decide +kernel))
def rmX11_set : Room := { frames := 6, cells := 1, slots := 6, locals := 100 }
def wzX11_set : List Cond := .code yX11_set cX11_set 3 none :: wsL_law
theorem hinX11_set_X110 : ∀ w ∈ wsX110, w ∈ wzX11_set := fun w h => List.mem_cons_of_mem _ (inlX11 w h)
def fX11_set_10  (σ : zSt)  : Option (zRu) :=
  some (Sum.inr (σ, 1))
def fX11_set  (σ : zSt) (x1 : Int32) (x2 : Int32) : Option (zRu) :=
  if x1 < 0 then fX11_set_10 σ else
  if x1 ≤ 25 then zbu (fX5_change σ x1 x2) (fun σ1 =>
  some (Sum.inl σ1)) else
  fX11_set_10 σ
set_option maxRecDepth 20000 in
set_option maxHeartbeats 4000000 in
theorem bX11_set_10 {st : Nat → Nat} {p : Program} {l : Launch} {e : Env} {s : State} {m : MethodId} {args : Array Value} {below : List Frame} {meth : Method} {c : Code} {D : va_G} {A : Nat → Prop} {ad : Nat → Nat} {cy : Nat → ClassId} (hC : zC p m c cX11_set 3 s args wzX11_set RX11 meth none) (hE : ∀ x ∈ c.exceptionTable.toList, False) (hst : l.stackTraces = false)  {res : zRu} {H : Heap} {locs : List Loc} {σ : zSt} {ls : Array Slot}  (hI : zI st D (tC cy) (wC ad cy σ) A s H locs) (hl : lv_has ls 3 []) (hf : fX11_set_10  σ  = some res) : W p l e rmX11_set s m args below meth c H locs 0 0 (zXQu below args s D (tC cy) (wC ad cy) A res) (F0 m 10 ls []) := by
  have hx := hC.1
  have hb := hC.2.1
  unfold fX11_set_10 at hf
  exact z_throw hC hE hst hI hl 1 hf (by decide) (List.mem_cons_of_mem _ zw11_1) (List.mem_cons_of_mem _ zw11_2) 60 (by decide) rfl rfl (fun w h => List.mem_cons_of_mem _ (zx1 w h)) zXn1 zXg1 dX11_set_10 dX11_set_13 dX11_set_14 dX11_set_16 dX11_set_19 (Nat.le_of_ble_eq_true rfl) (Nat.le_of_ble_eq_true rfl) (Nat.le_of_ble_eq_true rfl) (Nat.le_of_ble_eq_true rfl)
set_option maxRecDepth 20000 in
set_option maxHeartbeats 4000000 in
theorem bX11_set {st : Nat → Nat} {p : Program} {l : Launch} {e : Env} {s : State} {m : MethodId} {args : Array Value} {below : List Frame} {meth : Method} {c : Code} {D : va_G} {A : Nat → Prop} {ad : Nat → Nat} {cy : Nat → ClassId} (hC : zC p m c cX11_set 3 s args wzX11_set RX11 meth none) (hE : ∀ x ∈ c.exceptionTable.toList, False) (hst : l.stackTraces = false)  {res : zRu} {H : Heap} {locs : List Loc} {σ : zSt} {ls : Array Slot} {x1 : Int32} {x2 : Int32} (hI : zI st D (tC cy) (wC ad cy σ) A s H locs) (hl : lv_has ls 3 [(0, .ref (ad 0)), (1, .int x1), (2, .int x2)]) (hf : fX11_set  σ x1 x2 = some res) : W p l e rmX11_set s m args below meth c H locs 0 0 (zXQu below args s D (tC cy) (wC ad cy) A res) (F0 m 0 ls []) := by
  have hx := hC.1
  have hb := hC.2.1
  unfold fX11_set at hf
  refine lv_iload_n hx hb dX11_set_0 rfl (lv_at hl 1 rfl) ?_
  refine lv_if_lt (tgt := 10) hx hb dX11_set_1 (by decide) (fun q => ?_) (fun q => ?_)
  · replace hf := zif_t q hf
    exact bX11_set_10 hC hE hst  hI (lv_sub hl [] rfl) hf
  replace hf := zif_f q hf
  refine lv_iload_n hx hb dX11_set_4 rfl (lv_at hl 1 rfl) ?_
  refine lv_bipush (v := 25) hx hb dX11_set_5 (by decide) ?_
  refine lv_icmp_le (tgt := 20) hx hb dX11_set_7 (by decide) (fun q => ?_) (fun q => ?_)
  · replace hf := zif_t q hf
    refine lv_aload_n hx hb dX11_set_20 rfl (lv_at hl 0 rfl) ?_
    refine z_get hC hI hinX11_set_X110 0 (wC_e0 ad cy σ) rfl 7 (by decide) (List.mem_cons_of_mem _ zw2_22) rfl dX11_set_21 ?_
    refine lv_iload_n hx hb dX11_set_24 rfl (lv_at hl 1 rfl) ?_
    refine lv_iload_n hx hb dX11_set_25 rfl (lv_at hl 2 rfl) ?_
    obtain ⟨σ1, g1, hf⟩ := zbu_use hf
    refine z_callVu (As := [.int x1, .int x2]) (rest := []) hC hI (cX5_change_met st l D ad cy σ x1 x2 _ g1) (zgV zw85_11 zw85_12 zw85_13 zw2_21 zw85_14) rfl ⟨rfl, rfl⟩ 2 hdX5_change ⟨Nat.le_of_ble_eq_true rfl, Nat.le_of_ble_eq_true rfl⟩ rfl rfl (wC_e7 ad cy σ) rfl hl rfl (Nat.le_of_ble_eq_true rfl) dX11_set_26 ⟨Nat.zero_le _, Nat.zero_le _⟩ (fun H locs hI => ?_)
    exact z_xreturn hC hI hf dX11_set_29
  replace hf := zif_f q hf
  exact bX11_set_10 hC hE hst  hI (lv_sub hl [] rfl) hf
set_option maxRecDepth 20000 in
theorem cX11_set_met (st : Nat → Nat) (l : Launch) (hst : l.stackTraces = false) (D : va_G) (ad : Nat → Nat) (cy : Nat → ClassId) (σ : zSt) (x1 : Int32) (x2 : Int32) (res : zRu) (hf : fX11_set σ x1 x2 = some res) (sz : Nat) : zXu st l yX11_set wzX11_set rmX11_set [.ref (ad 0), .int x1, .int x2] D (tC cy) (wC ad cy) sz σ res :=
  zXu.of (cc := cX11_set) (maxL := 3) (ret := none) (by decide) rfl (Nat.le_of_ble_eq_true rfl) (fun p e s m args below meth c hC hE A hI ls hl => bX11_set hC hE hst hI hl hf)
theorem hdX11_set : yX11_set.cls = RX11 ∧ yX11_set.cls ≠ "java/lang/invoke/MethodHandle" ∧ yX11_set.cls ≠ "java/lang/invoke/VarHandle" ∧ (parseMethodDescriptor yX11_set.desc).map (fun d => d.parameters.length) = some 2 := by decide +kernel
def rmX11_battery : Room := { frames := 6, cells := 1, slots := 6, locals := 100 }
def wzX11_battery : List Cond := .code yX11_battery cX11_battery 2 (some .int) :: wsL_law
theorem hinX11_battery_X110 : ∀ w ∈ wsX110, w ∈ wzX11_battery := fun w h => List.mem_cons_of_mem _ (inlX11 w h)
def fX11_battery_11  (σ : zSt)  : Option (zRi) :=
  some (Sum.inr (σ, 3))
def fX11_battery  (σ : zSt) (x1 : Int32) : Option (zRi) :=
  if x1 < 0 then fX11_battery_11 σ else
  if x1 < 32768 then zbi (fX2_batteryByte σ x1) (fun σ1 v2 =>
  some (Sum.inl (σ1, v2))) else
  fX11_battery_11 σ
set_option maxRecDepth 20000 in
set_option maxHeartbeats 4000000 in
theorem bX11_battery_11 {st : Nat → Nat} {p : Program} {l : Launch} {e : Env} {s : State} {m : MethodId} {args : Array Value} {below : List Frame} {meth : Method} {c : Code} {D : va_G} {A : Nat → Prop} {ad : Nat → Nat} {cy : Nat → ClassId} (hC : zC p m c cX11_battery 2 s args wzX11_battery RX11 meth (some .int)) (hE : ∀ x ∈ c.exceptionTable.toList, False) (hst : l.stackTraces = false)  {res : zRi} {H : Heap} {locs : List Loc} {σ : zSt} {ls : Array Slot}  (hI : zI st D (tC cy) (wC ad cy σ) A s H locs) (hl : lv_has ls 2 []) (hf : fX11_battery_11  σ  = some res) : W p l e rmX11_battery s m args below meth c H locs 0 0 (zXQi below args s D (tC cy) (wC ad cy) A res) (F0 m 11 ls []) := by
  have hx := hC.1
  have hb := hC.2.1
  unfold fX11_battery_11 at hf
  exact z_throw3W hC hE hst hI hl 3 hf (by decide) (List.mem_cons_of_mem _ zw78_12) (List.mem_cons_of_mem _ zw78_13) 61 (by decide) rfl rfl (fun w h => List.mem_cons_of_mem _ (zx3 w h)) zXn3 zXg3 dX11_battery_11 dX11_battery_14 dX11_battery_15 dX11_battery_18 dX11_battery_21 (Nat.le_of_ble_eq_true rfl) (Nat.le_of_ble_eq_true rfl) (Nat.le_of_ble_eq_true rfl) (Nat.le_of_ble_eq_true rfl)
set_option maxRecDepth 20000 in
set_option maxHeartbeats 4000000 in
theorem bX11_battery {st : Nat → Nat} {p : Program} {l : Launch} {e : Env} {s : State} {m : MethodId} {args : Array Value} {below : List Frame} {meth : Method} {c : Code} {D : va_G} {A : Nat → Prop} {ad : Nat → Nat} {cy : Nat → ClassId} (hC : zC p m c cX11_battery 2 s args wzX11_battery RX11 meth (some .int)) (hE : ∀ x ∈ c.exceptionTable.toList, False) (hst : l.stackTraces = false)  {res : zRi} {H : Heap} {locs : List Loc} {σ : zSt} {ls : Array Slot} {x1 : Int32} (hI : zI st D (tC cy) (wC ad cy σ) A s H locs) (hl : lv_has ls 2 [(0, .ref (ad 0)), (1, .int x1)]) (hf : fX11_battery  σ x1 = some res) : W p l e rmX11_battery s m args below meth c H locs 0 0 (zXQi below args s D (tC cy) (wC ad cy) A res) (F0 m 0 ls []) := by
  have hx := hC.1
  have hb := hC.2.1
  unfold fX11_battery at hf
  refine lv_iload_n hx hb dX11_battery_0 rfl (lv_at hl 1 rfl) ?_
  refine lv_if_lt (tgt := 11) hx hb dX11_battery_1 (by decide) (fun q => ?_) (fun q => ?_)
  · replace hf := zif_t q hf
    exact bX11_battery_11 hC hE hst  hI (lv_sub hl [] rfl) hf
  replace hf := zif_f q hf
  refine lv_iload_n hx hb dX11_battery_4 rfl (lv_at hl 1 rfl) ?_
  refine lv_ldcw (v := 32768) hx hb hC.2.2.2.1 (hC.2.2.2.2.1 _ (List.mem_cons_of_mem _ zw87_16)) dX11_battery_5 ?_
  refine lv_icmp_lt (tgt := 22) hx hb dX11_battery_8 (by decide) (fun q => ?_) (fun q => ?_)
  · replace hf := zif_t q hf
    refine lv_aload_n hx hb dX11_battery_22 rfl (lv_at hl 0 rfl) ?_
    refine z_get hC hI hinX11_battery_X110 0 (wC_e0 ad cy σ) rfl 1 (by decide) (List.mem_cons_of_mem _ zw1_22) rfl dX11_battery_23 ?_
    refine lv_iload_n hx hb dX11_battery_26 rfl (lv_at hl 1 rfl) ?_
    obtain ⟨σ1, v2, g1, hf⟩ := zbi_use hf
    refine z_callVi (As := [.int x1]) (rest := []) hC hI (cX2_batteryByte_met st l D ad cy σ x1 _ g1) (zgV zw87_17 zw87_18 zw87_19 zw1_21 zw87_20) rfl ⟨rfl, rfl⟩ 1 hdX2_batteryByte ⟨Nat.le_of_ble_eq_true rfl, Nat.le_of_ble_eq_true rfl⟩ rfl rfl (wC_e1 ad cy σ) rfl hl rfl (Nat.le_of_ble_eq_true rfl) dX11_battery_27 ⟨Nat.zero_le _, Nat.zero_le _⟩ (fun H locs hI => ?_)
    exact z_xireturn hC hI hf dX11_battery_30
  replace hf := zif_f q hf
  exact bX11_battery_11 hC hE hst  hI (lv_sub hl [] rfl) hf
set_option maxRecDepth 20000 in
theorem cX11_battery_met (st : Nat → Nat) (l : Launch) (hst : l.stackTraces = false) (D : va_G) (ad : Nat → Nat) (cy : Nat → ClassId) (σ : zSt) (x1 : Int32) (res : zRi) (hf : fX11_battery σ x1 = some res) (sz : Nat) : zXi st l yX11_battery wzX11_battery rmX11_battery [.ref (ad 0), .int x1] D (tC cy) (wC ad cy) sz σ res :=
  zXi.of (cc := cX11_battery) (maxL := 2) (ret := (some .int)) (by decide) rfl (Nat.le_of_ble_eq_true rfl) (fun p e s m args below meth c hC hE A hI ls hl => bX11_battery hC hE hst hI hl hf)
theorem hdX11_battery : yX11_battery.cls = RX11 ∧ yX11_battery.cls ≠ "java/lang/invoke/MethodHandle" ∧ yX11_battery.cls ≠ "java/lang/invoke/VarHandle" ∧ (parseMethodDescriptor yX11_battery.desc).map (fun d => d.parameters.length) = some 1 := by decide +kernel
def rmX11_chip : Room := { frames := 6, cells := 1, slots := 6, locals := 100 }
def wzX11_chip : List Cond := .code yX11_chip cX11_chip 2 (some .int) :: wsL_law
theorem hinX11_chip_X110 : ∀ w ∈ wsX110, w ∈ wzX11_chip := fun w h => List.mem_cons_of_mem _ (inlX11 w h)
def fX11_chip  (σ : zSt) (x1 : Int32) : Option (zRi) :=
  zbi (fX9_has σ x1) (fun σ1 v2 =>
  if v2 = 0 then some (Sum.inr (σ1, 1)) else
  zbi (fX9_value σ1 x1) (fun σ3 v4 =>
  some (Sum.inl (σ3, v4))))
set_option maxRecDepth 20000 in
set_option maxHeartbeats 4000000 in
theorem bX11_chip {st : Nat → Nat} {p : Program} {l : Launch} {e : Env} {s : State} {m : MethodId} {args : Array Value} {below : List Frame} {meth : Method} {c : Code} {D : va_G} {A : Nat → Prop} {ad : Nat → Nat} {cy : Nat → ClassId} (hC : zC p m c cX11_chip 2 s args wzX11_chip RX11 meth (some .int)) (hE : ∀ x ∈ c.exceptionTable.toList, False) (hst : l.stackTraces = false)  {res : zRi} {H : Heap} {locs : List Loc} {σ : zSt} {ls : Array Slot} {x1 : Int32} (hI : zI st D (tC cy) (wC ad cy σ) A s H locs) (hl : lv_has ls 2 [(0, .ref (ad 0)), (1, .int x1)]) (hf : fX11_chip  σ x1 = some res) : W p l e rmX11_chip s m args below meth c H locs 0 0 (zXQi below args s D (tC cy) (wC ad cy) A res) (F0 m 0 ls []) := by
  have hx := hC.1
  have hb := hC.2.1
  unfold fX11_chip at hf
  refine lv_iload_n hx hb dX11_chip_0 rfl (lv_at hl 1 rfl) ?_
  obtain ⟨σ1, v2, g1, hf⟩ := zbi_use hf
  refine z_callSi (As := [.int x1]) (rest := []) hC hI (cX9_has_met st l D ad cy σ x1 _ g1) (zgS zw89_9 zw89_10 zw2_1 zw89_11) rfl ⟨rfl, rfl⟩ 1 hdX9_has ⟨Nat.le_of_ble_eq_true rfl, Nat.le_of_ble_eq_true rfl⟩ rfl hl rfl (Nat.le_of_ble_eq_true rfl) dX11_chip_1 ⟨Nat.zero_le _, Nat.zero_le _⟩ (fun H locs hI => ?_)
  refine lv_if_ne (tgt := 18) hx hb dX11_chip_4 (by decide) (fun q => ?_) (fun q => ?_)
  · replace hf := zif_f q hf
    refine lv_aload_n hx hb dX11_chip_18 rfl (lv_at hl 0 rfl) ?_
    refine z_get hC hI hinX11_chip_X110 0 (wC_e0 ad cy σ1) rfl 2 (by decide) (List.mem_cons_of_mem _ zw2_2) rfl dX11_chip_19 ?_
    refine lv_iload_n hx hb dX11_chip_22 rfl (lv_at hl 1 rfl) ?_
    obtain ⟨σ3, v4, g3, hf⟩ := zbi_use hf
    refine z_callVi (As := [.int x1]) (rest := []) hC hI (cX9_value_met st l D ad cy σ1 x1 _ g3) (zgV zw89_12 zw89_13 zw89_14 zw2_1 zw89_15) rfl ⟨rfl, rfl⟩ 1 hdX9_value ⟨Nat.le_of_ble_eq_true rfl, Nat.le_of_ble_eq_true rfl⟩ rfl rfl (wC_e2 ad cy σ1) rfl hl rfl (Nat.le_of_ble_eq_true rfl) dX11_chip_23 ⟨Nat.zero_le _, Nat.zero_le _⟩ (fun H locs hI => ?_)
    exact z_xireturn hC hI hf dX11_chip_26
  replace hf := zif_t q hf
  exact z_throwW hC hE hst hI hl 1 hf (by decide) (List.mem_cons_of_mem _ zw11_1) (List.mem_cons_of_mem _ zw11_2) 62 (by decide) rfl rfl (fun w h => List.mem_cons_of_mem _ (zx1 w h)) zXn1 zXg1 dX11_chip_7 dX11_chip_10 dX11_chip_11 dX11_chip_14 dX11_chip_17 (Nat.le_of_ble_eq_true rfl) (Nat.le_of_ble_eq_true rfl) (Nat.le_of_ble_eq_true rfl) (Nat.le_of_ble_eq_true rfl)
set_option maxRecDepth 20000 in
theorem cX11_chip_met (st : Nat → Nat) (l : Launch) (hst : l.stackTraces = false) (D : va_G) (ad : Nat → Nat) (cy : Nat → ClassId) (σ : zSt) (x1 : Int32) (res : zRi) (hf : fX11_chip σ x1 = some res) (sz : Nat) : zXi st l yX11_chip wzX11_chip rmX11_chip [.ref (ad 0), .int x1] D (tC cy) (wC ad cy) sz σ res :=
  zXi.of (cc := cX11_chip) (maxL := 2) (ret := (some .int)) (by decide) rfl (Nat.le_of_ble_eq_true rfl) (fun p e s m args below meth c hC hE A hI ls hl => bX11_chip hC hE hst hI hl hf)
theorem hdX11_chip : yX11_chip.cls = RX11 ∧ yX11_chip.cls ≠ "java/lang/invoke/MethodHandle" ∧ yX11_chip.cls ≠ "java/lang/invoke/VarHandle" ∧ (parseMethodDescriptor yX11_chip.desc).map (fun d => d.parameters.length) = some 1 := by decide +kernel
def rmX11_dot : Room := { frames := 6, cells := 1, slots := 6, locals := 100 }
def wzX11_dot : List Cond := .code yX11_dot cX11_dot 3 (some .int) :: wsL_law
theorem hinX11_dot_X110 : ∀ w ∈ wsX110, w ∈ wzX11_dot := fun w h => List.mem_cons_of_mem _ (inlX11 w h)
def fX11_dot_30  (σ : zSt)  : Option (zRi) :=
  some (Sum.inr (σ, 3))
def fX11_dot  (σ : zSt) (x1 : Int32) (x2 : Int32) : Option (zRi) :=
  if x1 < 0 then fX11_dot_30 σ else
  zbi (fX3_width σ ) (fun σ1 v2 =>
  if v2 ≤ x1 then fX11_dot_30 σ1 else
  if x2 < 0 then fX11_dot_30 σ1 else
  zbi (fX3_height σ1 ) (fun σ3 v4 =>
  if x2 < v4 then zbi (fX3_dotAt σ3 x1 x2) (fun σ5 v6 =>
  some (Sum.inl (σ5, v6))) else
  fX11_dot_30 σ3))
set_option maxRecDepth 20000 in
set_option maxHeartbeats 4000000 in
theorem bX11_dot_30 {st : Nat → Nat} {p : Program} {l : Launch} {e : Env} {s : State} {m : MethodId} {args : Array Value} {below : List Frame} {meth : Method} {c : Code} {D : va_G} {A : Nat → Prop} {ad : Nat → Nat} {cy : Nat → ClassId} (hC : zC p m c cX11_dot 3 s args wzX11_dot RX11 meth (some .int)) (hE : ∀ x ∈ c.exceptionTable.toList, False) (hst : l.stackTraces = false)  {res : zRi} {H : Heap} {locs : List Loc} {σ : zSt} {ls : Array Slot}  (hI : zI st D (tC cy) (wC ad cy σ) A s H locs) (hl : lv_has ls 3 []) (hf : fX11_dot_30  σ  = some res) : W p l e rmX11_dot s m args below meth c H locs 0 0 (zXQi below args s D (tC cy) (wC ad cy) A res) (F0 m 30 ls []) := by
  have hx := hC.1
  have hb := hC.2.1
  unfold fX11_dot_30 at hf
  exact z_throw3W hC hE hst hI hl 3 hf (by decide) (List.mem_cons_of_mem _ zw78_12) (List.mem_cons_of_mem _ zw78_13) 63 (by decide) rfl rfl (fun w h => List.mem_cons_of_mem _ (zx3 w h)) zXn3 zXg3 dX11_dot_30 dX11_dot_33 dX11_dot_34 dX11_dot_37 dX11_dot_40 (Nat.le_of_ble_eq_true rfl) (Nat.le_of_ble_eq_true rfl) (Nat.le_of_ble_eq_true rfl) (Nat.le_of_ble_eq_true rfl)
set_option maxRecDepth 20000 in
set_option maxHeartbeats 4000000 in
theorem bX11_dot {st : Nat → Nat} {p : Program} {l : Launch} {e : Env} {s : State} {m : MethodId} {args : Array Value} {below : List Frame} {meth : Method} {c : Code} {D : va_G} {A : Nat → Prop} {ad : Nat → Nat} {cy : Nat → ClassId} (hC : zC p m c cX11_dot 3 s args wzX11_dot RX11 meth (some .int)) (hE : ∀ x ∈ c.exceptionTable.toList, False) (hst : l.stackTraces = false)  {res : zRi} {H : Heap} {locs : List Loc} {σ : zSt} {ls : Array Slot} {x1 : Int32} {x2 : Int32} (hI : zI st D (tC cy) (wC ad cy σ) A s H locs) (hl : lv_has ls 3 [(0, .ref (ad 0)), (1, .int x1), (2, .int x2)]) (hf : fX11_dot  σ x1 x2 = some res) : W p l e rmX11_dot s m args below meth c H locs 0 0 (zXQi below args s D (tC cy) (wC ad cy) A res) (F0 m 0 ls []) := by
  have hx := hC.1
  have hb := hC.2.1
  unfold fX11_dot at hf
  refine lv_iload_n hx hb dX11_dot_0 rfl (lv_at hl 1 rfl) ?_
  refine lv_if_lt (tgt := 30) hx hb dX11_dot_1 (by decide) (fun q => ?_) (fun q => ?_)
  · replace hf := zif_t q hf
    exact bX11_dot_30 hC hE hst  hI (lv_sub hl [] rfl) hf
  replace hf := zif_f q hf
  refine lv_iload_n hx hb dX11_dot_4 rfl (lv_at hl 1 rfl) ?_
  refine lv_aload_n hx hb dX11_dot_5 rfl (lv_at hl 0 rfl) ?_
  refine z_get hC hI hinX11_dot_X110 0 (wC_e0 ad cy σ) rfl 3 (by decide) (List.mem_cons_of_mem _ zw2_6) rfl dX11_dot_6 ?_
  obtain ⟨σ1, v2, g1, hf⟩ := zbi_use hf
  refine z_callVi (As := []) (rest := [.int x1]) hC hI (cX3_width_met st l D ad cy σ  _ g1) (zgV zw90_9 zw90_10 zw90_11 zw2_5 zw90_12) rfl ⟨rfl, rfl⟩ 0 hdX3_width ⟨Nat.le_of_ble_eq_true rfl, Nat.le_of_ble_eq_true rfl⟩ rfl rfl (wC_e3 ad cy σ) rfl hl rfl (Nat.le_of_ble_eq_true rfl) dX11_dot_9 ⟨Nat.zero_le _, Nat.zero_le _⟩ (fun H locs hI => ?_)
  refine lv_icmp_ge (tgt := 30) hx hb dX11_dot_12 (by decide) (fun q => ?_) (fun q => ?_)
  · replace hf := zif_t q hf
    exact bX11_dot_30 hC hE hst  hI (lv_sub hl [] rfl) hf
  replace hf := zif_f q hf
  refine lv_iload_n hx hb dX11_dot_15 rfl (lv_at hl 2 rfl) ?_
  refine lv_if_lt (tgt := 30) hx hb dX11_dot_16 (by decide) (fun q => ?_) (fun q => ?_)
  · replace hf := zif_t q hf
    exact bX11_dot_30 hC hE hst  hI (lv_sub hl [] rfl) hf
  replace hf := zif_f q hf
  refine lv_iload_n hx hb dX11_dot_19 rfl (lv_at hl 2 rfl) ?_
  refine lv_aload_n hx hb dX11_dot_20 rfl (lv_at hl 0 rfl) ?_
  refine z_get hC hI hinX11_dot_X110 0 (wC_e0 ad cy σ1) rfl 3 (by decide) (List.mem_cons_of_mem _ zw2_6) rfl dX11_dot_21 ?_
  obtain ⟨σ3, v4, g3, hf⟩ := zbi_use hf
  refine z_callVi (As := []) (rest := [.int x2]) hC hI (cX3_height_met st l D ad cy σ1  _ g3) (zgV zw90_13 zw90_14 zw90_15 zw2_5 zw90_16) rfl ⟨rfl, rfl⟩ 0 hdX3_height ⟨Nat.le_of_ble_eq_true rfl, Nat.le_of_ble_eq_true rfl⟩ rfl rfl (wC_e3 ad cy σ1) rfl hl rfl (Nat.le_of_ble_eq_true rfl) dX11_dot_24 ⟨Nat.zero_le _, Nat.zero_le _⟩ (fun H locs hI => ?_)
  refine lv_icmp_lt (tgt := 41) hx hb dX11_dot_27 (by decide) (fun q => ?_) (fun q => ?_)
  · replace hf := zif_t q hf
    refine lv_aload_n hx hb dX11_dot_41 rfl (lv_at hl 0 rfl) ?_
    refine z_get hC hI hinX11_dot_X110 0 (wC_e0 ad cy σ3) rfl 3 (by decide) (List.mem_cons_of_mem _ zw2_6) rfl dX11_dot_42 ?_
    refine lv_iload_n hx hb dX11_dot_45 rfl (lv_at hl 1 rfl) ?_
    refine lv_iload_n hx hb dX11_dot_46 rfl (lv_at hl 2 rfl) ?_
    obtain ⟨σ5, v6, g5, hf⟩ := zbi_use hf
    refine z_callVi (As := [.int x1, .int x2]) (rest := []) hC hI (cX3_dotAt_met st l D ad cy σ3 x1 x2 _ g5) (zgV zw90_17 zw90_18 zw90_19 zw2_5 zw90_20) rfl ⟨rfl, rfl⟩ 2 hdX3_dotAt ⟨Nat.le_of_ble_eq_true rfl, Nat.le_of_ble_eq_true rfl⟩ rfl rfl (wC_e3 ad cy σ3) rfl hl rfl (Nat.le_of_ble_eq_true rfl) dX11_dot_47 ⟨Nat.zero_le _, Nat.zero_le _⟩ (fun H locs hI => ?_)
    exact z_xireturn hC hI hf dX11_dot_50
  replace hf := zif_f q hf
  exact bX11_dot_30 hC hE hst  hI (lv_sub hl [] rfl) hf
set_option maxRecDepth 20000 in
theorem cX11_dot_met (st : Nat → Nat) (l : Launch) (hst : l.stackTraces = false) (D : va_G) (ad : Nat → Nat) (cy : Nat → ClassId) (σ : zSt) (x1 : Int32) (x2 : Int32) (res : zRi) (hf : fX11_dot σ x1 x2 = some res) (sz : Nat) : zXi st l yX11_dot wzX11_dot rmX11_dot [.ref (ad 0), .int x1, .int x2] D (tC cy) (wC ad cy) sz σ res :=
  zXi.of (cc := cX11_dot) (maxL := 3) (ret := (some .int)) (by decide) rfl (Nat.le_of_ble_eq_true rfl) (fun p e s m args below meth c hC hE A hI ls hl => bX11_dot hC hE hst hI hl hf)
theorem hdX11_dot : yX11_dot.cls = RX11 ∧ yX11_dot.cls ≠ "java/lang/invoke/MethodHandle" ∧ yX11_dot.cls ≠ "java/lang/invoke/VarHandle" ∧ (parseMethodDescriptor yX11_dot.desc).map (fun d => d.parameters.length) = some 2 := by decide +kernel
def rmX11_row : Room := { frames := 6, cells := 1, slots := 6, locals := 100 }
def wzX11_row : List Cond := .code yX11_row cX11_row 2 (some .int) :: wsL_law
theorem hinX11_row_X110 : ∀ w ∈ wsX110, w ∈ wzX11_row := fun w h => List.mem_cons_of_mem _ (inlX11 w h)
def fX11_row_15  (σ : zSt)  : Option (zRi) :=
  some (Sum.inr (σ, 3))
def fX11_row  (σ : zSt) (x1 : Int32) : Option (zRi) :=
  if x1 < 0 then fX11_row_15 σ else
  zbi (fX3_height σ ) (fun σ1 v2 =>
  if x1 < v2 then zbi (fX3_sumOfLine σ1 x1) (fun σ3 v4 =>
  some (Sum.inl (σ3, v4))) else
  fX11_row_15 σ1)
set_option maxRecDepth 20000 in
set_option maxHeartbeats 4000000 in
theorem bX11_row_15 {st : Nat → Nat} {p : Program} {l : Launch} {e : Env} {s : State} {m : MethodId} {args : Array Value} {below : List Frame} {meth : Method} {c : Code} {D : va_G} {A : Nat → Prop} {ad : Nat → Nat} {cy : Nat → ClassId} (hC : zC p m c cX11_row 2 s args wzX11_row RX11 meth (some .int)) (hE : ∀ x ∈ c.exceptionTable.toList, False) (hst : l.stackTraces = false)  {res : zRi} {H : Heap} {locs : List Loc} {σ : zSt} {ls : Array Slot}  (hI : zI st D (tC cy) (wC ad cy σ) A s H locs) (hl : lv_has ls 2 []) (hf : fX11_row_15  σ  = some res) : W p l e rmX11_row s m args below meth c H locs 0 0 (zXQi below args s D (tC cy) (wC ad cy) A res) (F0 m 15 ls []) := by
  have hx := hC.1
  have hb := hC.2.1
  unfold fX11_row_15 at hf
  exact z_throw3W hC hE hst hI hl 3 hf (by decide) (List.mem_cons_of_mem _ zw78_12) (List.mem_cons_of_mem _ zw78_13) 64 (by decide) rfl rfl (fun w h => List.mem_cons_of_mem _ (zx3 w h)) zXn3 zXg3 dX11_row_15 dX11_row_18 dX11_row_19 dX11_row_22 dX11_row_25 (Nat.le_of_ble_eq_true rfl) (Nat.le_of_ble_eq_true rfl) (Nat.le_of_ble_eq_true rfl) (Nat.le_of_ble_eq_true rfl)
set_option maxRecDepth 20000 in
set_option maxHeartbeats 4000000 in
theorem bX11_row {st : Nat → Nat} {p : Program} {l : Launch} {e : Env} {s : State} {m : MethodId} {args : Array Value} {below : List Frame} {meth : Method} {c : Code} {D : va_G} {A : Nat → Prop} {ad : Nat → Nat} {cy : Nat → ClassId} (hC : zC p m c cX11_row 2 s args wzX11_row RX11 meth (some .int)) (hE : ∀ x ∈ c.exceptionTable.toList, False) (hst : l.stackTraces = false)  {res : zRi} {H : Heap} {locs : List Loc} {σ : zSt} {ls : Array Slot} {x1 : Int32} (hI : zI st D (tC cy) (wC ad cy σ) A s H locs) (hl : lv_has ls 2 [(0, .ref (ad 0)), (1, .int x1)]) (hf : fX11_row  σ x1 = some res) : W p l e rmX11_row s m args below meth c H locs 0 0 (zXQi below args s D (tC cy) (wC ad cy) A res) (F0 m 0 ls []) := by
  have hx := hC.1
  have hb := hC.2.1
  unfold fX11_row at hf
  refine lv_iload_n hx hb dX11_row_0 rfl (lv_at hl 1 rfl) ?_
  refine lv_if_lt (tgt := 15) hx hb dX11_row_1 (by decide) (fun q => ?_) (fun q => ?_)
  · replace hf := zif_t q hf
    exact bX11_row_15 hC hE hst  hI (lv_sub hl [] rfl) hf
  replace hf := zif_f q hf
  refine lv_iload_n hx hb dX11_row_4 rfl (lv_at hl 1 rfl) ?_
  refine lv_aload_n hx hb dX11_row_5 rfl (lv_at hl 0 rfl) ?_
  refine z_get hC hI hinX11_row_X110 0 (wC_e0 ad cy σ) rfl 3 (by decide) (List.mem_cons_of_mem _ zw2_6) rfl dX11_row_6 ?_
  obtain ⟨σ1, v2, g1, hf⟩ := zbi_use hf
  refine z_callVi (As := []) (rest := [.int x1]) hC hI (cX3_height_met st l D ad cy σ  _ g1) (zgV zw90_13 zw90_14 zw90_15 zw2_5 zw90_16) rfl ⟨rfl, rfl⟩ 0 hdX3_height ⟨Nat.le_of_ble_eq_true rfl, Nat.le_of_ble_eq_true rfl⟩ rfl rfl (wC_e3 ad cy σ) rfl hl rfl (Nat.le_of_ble_eq_true rfl) dX11_row_9 ⟨Nat.zero_le _, Nat.zero_le _⟩ (fun H locs hI => ?_)
  refine lv_icmp_lt (tgt := 26) hx hb dX11_row_12 (by decide) (fun q => ?_) (fun q => ?_)
  · replace hf := zif_t q hf
    refine lv_aload_n hx hb dX11_row_26 rfl (lv_at hl 0 rfl) ?_
    refine z_get hC hI hinX11_row_X110 0 (wC_e0 ad cy σ1) rfl 3 (by decide) (List.mem_cons_of_mem _ zw2_6) rfl dX11_row_27 ?_
    refine lv_iload_n hx hb dX11_row_30 rfl (lv_at hl 1 rfl) ?_
    obtain ⟨σ3, v4, g3, hf⟩ := zbi_use hf
    refine z_callVi (As := [.int x1]) (rest := []) hC hI (cX3_sumOfLine_met st l D ad cy σ1 x1 _ g3) (zgV zw91_12 zw91_13 zw91_14 zw2_5 zw91_15) rfl ⟨rfl, rfl⟩ 1 hdX3_sumOfLine ⟨Nat.le_of_ble_eq_true rfl, Nat.le_of_ble_eq_true rfl⟩ rfl rfl (wC_e3 ad cy σ1) rfl hl rfl (Nat.le_of_ble_eq_true rfl) dX11_row_31 ⟨Nat.zero_le _, Nat.zero_le _⟩ (fun H locs hI => ?_)
    exact z_xireturn hC hI hf dX11_row_34
  replace hf := zif_f q hf
  exact bX11_row_15 hC hE hst  hI (lv_sub hl [] rfl) hf
set_option maxRecDepth 20000 in
theorem cX11_row_met (st : Nat → Nat) (l : Launch) (hst : l.stackTraces = false) (D : va_G) (ad : Nat → Nat) (cy : Nat → ClassId) (σ : zSt) (x1 : Int32) (res : zRi) (hf : fX11_row σ x1 = some res) (sz : Nat) : zXi st l yX11_row wzX11_row rmX11_row [.ref (ad 0), .int x1] D (tC cy) (wC ad cy) sz σ res :=
  zXi.of (cc := cX11_row) (maxL := 2) (ret := (some .int)) (by decide) rfl (Nat.le_of_ble_eq_true rfl) (fun p e s m args below meth c hC hE A hI ls hl => bX11_row hC hE hst hI hl hf)
theorem hdX11_row : yX11_row.cls = RX11 ∧ yX11_row.cls ≠ "java/lang/invoke/MethodHandle" ∧ yX11_row.cls ≠ "java/lang/invoke/VarHandle" ∧ (parseMethodDescriptor yX11_row.desc).map (fun d => d.parameters.length) = some 1 := by decide +kernel
def rmX11_hear : Room := { frames := 6, cells := 1, slots := 6, locals := 100 }
def wzX11_hear : List Cond := .code yX11_hear cX11_hear 1 (some .long) :: wsL_law
theorem hinX11_hear_X00 : ∀ w ∈ wsX00, w ∈ wzX11_hear := fun w h => List.mem_cons_of_mem _ (inlX0 w h)
theorem hinX11_hear_X110 : ∀ w ∈ wsX110, w ∈ wzX11_hear := fun w h => List.mem_cons_of_mem _ (inlX11 w h)
def fX11_hear  (σ : zSt)  : Option (zRl) :=
  zbi (fX6_size_k11 σ ) (fun σ1 v2 =>
  if v2 = 0 then some (Sum.inr (σ1, 3)) else
  zbl (fX6_takeFirst_k11 σ1 ) (fun σ3 v4 =>
  some (Sum.inl (σ3, v4))))
set_option maxRecDepth 20000 in
set_option maxHeartbeats 4000000 in
theorem bX11_hear {st : Nat → Nat} {p : Program} {l : Launch} {e : Env} {s : State} {m : MethodId} {args : Array Value} {below : List Frame} {meth : Method} {c : Code} {D : va_G} {A : Nat → Prop} {ad : Nat → Nat} {cy : Nat → ClassId} (hC : zC p m c cX11_hear 1 s args wzX11_hear RX11 meth (some .long)) (hE : ∀ x ∈ c.exceptionTable.toList, False) (hst : l.stackTraces = false)  {res : zRl} {H : Heap} {locs : List Loc} {σ : zSt} {ls : Array Slot}  (hI : zI st D (tC cy) (wC ad cy σ) A s H locs) (hl : lv_has ls 1 [(0, .ref (ad 0))]) (hf : fX11_hear  σ  = some res) : W p l e rmX11_hear s m args below meth c H locs 0 0 (zXQl below args s D (tC cy) (wC ad cy) A res) (F0 m 0 ls []) := by
  have hx := hC.1
  have hb := hC.2.1
  unfold fX11_hear at hf
  refine lv_aload_n hx hb dX11_hear_0 rfl (lv_at hl 0 rfl) ?_
  refine z_get hC hI hinX11_hear_X110 0 (wC_e0 ad cy σ) rfl 8 (by decide) (List.mem_cons_of_mem _ zw3_2) rfl dX11_hear_1 ?_
  refine z_get hC hI hinX11_hear_X00 8 (wC_e8 ad cy σ) rfl 2 (by decide) (List.mem_cons_of_mem _ zw92_6) rfl dX11_hear_4 ?_
  obtain ⟨σ1, v2, g1, hf⟩ := zbi_use hf
  refine z_callVi (As := []) (rest := []) hC hI (cX6_size_k11_met st l D ad cy σ  _ g1) (zgV zw92_7 zw92_8 zw92_9 zw7_17 zw92_10) rfl ⟨rfl, rfl⟩ 0 hdX6_size_k11 ⟨Nat.le_of_ble_eq_true rfl, Nat.le_of_ble_eq_true rfl⟩ rfl rfl (wC_e11 ad cy σ) rfl hl rfl (Nat.le_of_ble_eq_true rfl) dX11_hear_7 ⟨Nat.zero_le _, Nat.zero_le _⟩ (fun H locs hI => ?_)
  refine lv_if_ne (tgt := 24) hx hb dX11_hear_10 (by decide) (fun q => ?_) (fun q => ?_)
  · replace hf := zif_f q hf
    refine lv_aload_n hx hb dX11_hear_24 rfl (lv_at hl 0 rfl) ?_
    refine z_get hC hI hinX11_hear_X110 0 (wC_e0 ad cy σ1) rfl 8 (by decide) (List.mem_cons_of_mem _ zw3_2) rfl dX11_hear_25 ?_
    refine z_get hC hI hinX11_hear_X00 8 (wC_e8 ad cy σ1) rfl 2 (by decide) (List.mem_cons_of_mem _ zw92_6) rfl dX11_hear_28 ?_
    obtain ⟨σ3, v4, g3, hf⟩ := zbl_use hf
    refine z_callVl (As := []) (rest := []) hC hI (cX6_takeFirst_k11_met st l D ad cy σ1  _ g3) (zgV zw92_11 zw92_12 zw92_13 zw7_17 zw92_14) rfl ⟨rfl, rfl⟩ 0 hdX6_takeFirst_k11 ⟨Nat.le_of_ble_eq_true rfl, Nat.le_of_ble_eq_true rfl⟩ rfl rfl (wC_e11 ad cy σ1) rfl hl rfl (Nat.le_of_ble_eq_true rfl) dX11_hear_31 ⟨Nat.zero_le _, Nat.zero_le _⟩ (fun H locs hI => ?_)
    exact z_xlreturn hC hI hf dX11_hear_34
  replace hf := zif_t q hf
  exact z_throw3W hC hE hst hI hl 3 hf (by decide) (List.mem_cons_of_mem _ zw78_12) (List.mem_cons_of_mem _ zw78_13) 65 (by decide) rfl rfl (fun w h => List.mem_cons_of_mem _ (zx3 w h)) zXn3 zXg3 dX11_hear_13 dX11_hear_16 dX11_hear_17 dX11_hear_20 dX11_hear_23 (Nat.le_of_ble_eq_true rfl) (Nat.le_of_ble_eq_true rfl) (Nat.le_of_ble_eq_true rfl) (Nat.le_of_ble_eq_true rfl)
set_option maxRecDepth 20000 in
theorem cX11_hear_met (st : Nat → Nat) (l : Launch) (hst : l.stackTraces = false) (D : va_G) (ad : Nat → Nat) (cy : Nat → ClassId) (σ : zSt)  (res : zRl) (hf : fX11_hear σ  = some res) (sz : Nat) : zXl st l yX11_hear wzX11_hear rmX11_hear [.ref (ad 0)] D (tC cy) (wC ad cy) sz σ res :=
  zXl.of (cc := cX11_hear) (maxL := 1) (ret := (some .long)) (by decide) rfl (Nat.le_of_ble_eq_true rfl) (fun p e s m args below meth c hC hE A hI ls hl => bX11_hear hC hE hst hI hl hf)
theorem hdX11_hear : yX11_hear.cls = RX11 ∧ yX11_hear.cls ≠ "java/lang/invoke/MethodHandle" ∧ yX11_hear.cls ≠ "java/lang/invoke/VarHandle" ∧ (parseMethodDescriptor yX11_hear.desc).map (fun d => d.parameters.length) = some 0 := by decide +kernel
def rmX11_mix : Room := { frames := 6, cells := 1, slots := 6, locals := 100 }
def wzX11_mix : List Cond := .code yX11_mix cX11_mix 1 (some .long) :: wsL_law
theorem hinX11_mix_X00 : ∀ w ∈ wsX00, w ∈ wzX11_mix := fun w h => List.mem_cons_of_mem _ (inlX0 w h)
theorem hinX11_mix_X110 : ∀ w ∈ wsX110, w ∈ wzX11_mix := fun w h => List.mem_cons_of_mem _ (inlX11 w h)
def fX11_mix  (σ : zSt)  : Option (zRl) :=
  zbi (fX6_size_k12 σ ) (fun σ1 v2 =>
  if v2 = 0 then some (Sum.inr (σ1, 3)) else
  zbl (fX6_takeFirst_k12 σ1 ) (fun σ3 v4 =>
  some (Sum.inl (σ3, v4))))
set_option maxRecDepth 20000 in
set_option maxHeartbeats 4000000 in
theorem bX11_mix {st : Nat → Nat} {p : Program} {l : Launch} {e : Env} {s : State} {m : MethodId} {args : Array Value} {below : List Frame} {meth : Method} {c : Code} {D : va_G} {A : Nat → Prop} {ad : Nat → Nat} {cy : Nat → ClassId} (hC : zC p m c cX11_mix 1 s args wzX11_mix RX11 meth (some .long)) (hE : ∀ x ∈ c.exceptionTable.toList, False) (hst : l.stackTraces = false)  {res : zRl} {H : Heap} {locs : List Loc} {σ : zSt} {ls : Array Slot}  (hI : zI st D (tC cy) (wC ad cy σ) A s H locs) (hl : lv_has ls 1 [(0, .ref (ad 0))]) (hf : fX11_mix  σ  = some res) : W p l e rmX11_mix s m args below meth c H locs 0 0 (zXQl below args s D (tC cy) (wC ad cy) A res) (F0 m 0 ls []) := by
  have hx := hC.1
  have hb := hC.2.1
  unfold fX11_mix at hf
  refine lv_aload_n hx hb dX11_mix_0 rfl (lv_at hl 0 rfl) ?_
  refine z_get hC hI hinX11_mix_X110 0 (wC_e0 ad cy σ) rfl 8 (by decide) (List.mem_cons_of_mem _ zw3_2) rfl dX11_mix_1 ?_
  refine z_get hC hI hinX11_mix_X00 8 (wC_e8 ad cy σ) rfl 3 (by decide) (List.mem_cons_of_mem _ zw93_2) rfl dX11_mix_4 ?_
  obtain ⟨σ1, v2, g1, hf⟩ := zbi_use hf
  refine z_callVi (As := []) (rest := []) hC hI (cX6_size_k12_met st l D ad cy σ  _ g1) (zgV zw92_7 zw92_8 zw92_9 zw7_17 zw92_10) rfl ⟨rfl, rfl⟩ 0 hdX6_size_k12 ⟨Nat.le_of_ble_eq_true rfl, Nat.le_of_ble_eq_true rfl⟩ rfl rfl (wC_e12 ad cy σ) rfl hl rfl (Nat.le_of_ble_eq_true rfl) dX11_mix_7 ⟨Nat.zero_le _, Nat.zero_le _⟩ (fun H locs hI => ?_)
  refine lv_if_ne (tgt := 24) hx hb dX11_mix_10 (by decide) (fun q => ?_) (fun q => ?_)
  · replace hf := zif_f q hf
    refine lv_aload_n hx hb dX11_mix_24 rfl (lv_at hl 0 rfl) ?_
    refine z_get hC hI hinX11_mix_X110 0 (wC_e0 ad cy σ1) rfl 8 (by decide) (List.mem_cons_of_mem _ zw3_2) rfl dX11_mix_25 ?_
    refine z_get hC hI hinX11_mix_X00 8 (wC_e8 ad cy σ1) rfl 3 (by decide) (List.mem_cons_of_mem _ zw93_2) rfl dX11_mix_28 ?_
    obtain ⟨σ3, v4, g3, hf⟩ := zbl_use hf
    refine z_callVl (As := []) (rest := []) hC hI (cX6_takeFirst_k12_met st l D ad cy σ1  _ g3) (zgV zw92_11 zw92_12 zw92_13 zw7_17 zw92_14) rfl ⟨rfl, rfl⟩ 0 hdX6_takeFirst_k12 ⟨Nat.le_of_ble_eq_true rfl, Nat.le_of_ble_eq_true rfl⟩ rfl rfl (wC_e12 ad cy σ1) rfl hl rfl (Nat.le_of_ble_eq_true rfl) dX11_mix_31 ⟨Nat.zero_le _, Nat.zero_le _⟩ (fun H locs hI => ?_)
    exact z_xlreturn hC hI hf dX11_mix_34
  replace hf := zif_t q hf
  exact z_throw3W hC hE hst hI hl 3 hf (by decide) (List.mem_cons_of_mem _ zw78_12) (List.mem_cons_of_mem _ zw78_13) 66 (by decide) rfl rfl (fun w h => List.mem_cons_of_mem _ (zx3 w h)) zXn3 zXg3 dX11_mix_13 dX11_mix_16 dX11_mix_17 dX11_mix_20 dX11_mix_23 (Nat.le_of_ble_eq_true rfl) (Nat.le_of_ble_eq_true rfl) (Nat.le_of_ble_eq_true rfl) (Nat.le_of_ble_eq_true rfl)
set_option maxRecDepth 20000 in
theorem cX11_mix_met (st : Nat → Nat) (l : Launch) (hst : l.stackTraces = false) (D : va_G) (ad : Nat → Nat) (cy : Nat → ClassId) (σ : zSt)  (res : zRl) (hf : fX11_mix σ  = some res) (sz : Nat) : zXl st l yX11_mix wzX11_mix rmX11_mix [.ref (ad 0)] D (tC cy) (wC ad cy) sz σ res :=
  zXl.of (cc := cX11_mix) (maxL := 1) (ret := (some .long)) (by decide) rfl (Nat.le_of_ble_eq_true rfl) (fun p e s m args below meth c hC hE A hI ls hl => bX11_mix hC hE hst hI hl hf)
theorem hdX11_mix : yX11_mix.cls = RX11 ∧ yX11_mix.cls ≠ "java/lang/invoke/MethodHandle" ∧ yX11_mix.cls ≠ "java/lang/invoke/VarHandle" ∧ (parseMethodDescriptor yX11_mix.desc).map (fun d => d.parameters.length) = some 0 := by decide +kernel
def rmX11_wave : Room := { frames := 6, cells := 1, slots := 6, locals := 100 }
def wzX11_wave : List Cond := .code yX11_wave cX11_wave 2 (some .int) :: wsL_law
theorem hinX11_wave_X110 : ∀ w ∈ wsX110, w ∈ wzX11_wave := fun w h => List.mem_cons_of_mem _ (inlX11 w h)
def fX11_wave  (σ : zSt) (x1 : Int32) : Option (zRi) :=
  zbi (fX10_has σ x1) (fun σ1 v2 =>
  if v2 = 0 then some (Sum.inr (σ1, 1)) else
  zbi (fX10_value σ1 x1) (fun σ3 v4 =>
  some (Sum.inl (σ3, v4))))
set_option maxRecDepth 20000 in
set_option maxHeartbeats 4000000 in
theorem bX11_wave {st : Nat → Nat} {p : Program} {l : Launch} {e : Env} {s : State} {m : MethodId} {args : Array Value} {below : List Frame} {meth : Method} {c : Code} {D : va_G} {A : Nat → Prop} {ad : Nat → Nat} {cy : Nat → ClassId} (hC : zC p m c cX11_wave 2 s args wzX11_wave RX11 meth (some .int)) (hE : ∀ x ∈ c.exceptionTable.toList, False) (hst : l.stackTraces = false)  {res : zRi} {H : Heap} {locs : List Loc} {σ : zSt} {ls : Array Slot} {x1 : Int32} (hI : zI st D (tC cy) (wC ad cy σ) A s H locs) (hl : lv_has ls 2 [(0, .ref (ad 0)), (1, .int x1)]) (hf : fX11_wave  σ x1 = some res) : W p l e rmX11_wave s m args below meth c H locs 0 0 (zXQi below args s D (tC cy) (wC ad cy) A res) (F0 m 0 ls []) := by
  have hx := hC.1
  have hb := hC.2.1
  unfold fX11_wave at hf
  refine lv_iload_n hx hb dX11_wave_0 rfl (lv_at hl 1 rfl) ?_
  obtain ⟨σ1, v2, g1, hf⟩ := zbi_use hf
  refine z_callSi (As := [.int x1]) (rest := []) hC hI (cX10_has_met st l D ad cy σ x1 _ g1) (zgS zw93_14 zw93_15 zw2_13 zw93_16) rfl ⟨rfl, rfl⟩ 1 hdX10_has ⟨Nat.le_of_ble_eq_true rfl, Nat.le_of_ble_eq_true rfl⟩ rfl hl rfl (Nat.le_of_ble_eq_true rfl) dX11_wave_1 ⟨Nat.zero_le _, Nat.zero_le _⟩ (fun H locs hI => ?_)
  refine lv_if_ne (tgt := 18) hx hb dX11_wave_4 (by decide) (fun q => ?_) (fun q => ?_)
  · replace hf := zif_f q hf
    refine lv_aload_n hx hb dX11_wave_18 rfl (lv_at hl 0 rfl) ?_
    refine z_get hC hI hinX11_wave_X110 0 (wC_e0 ad cy σ1) rfl 5 (by decide) (List.mem_cons_of_mem _ zw2_14) rfl dX11_wave_19 ?_
    refine lv_iload_n hx hb dX11_wave_22 rfl (lv_at hl 1 rfl) ?_
    obtain ⟨σ3, v4, g3, hf⟩ := zbi_use hf
    refine z_callVi (As := [.int x1]) (rest := []) hC hI (cX10_value_met st l D ad cy σ1 x1 _ g3) (zgV zw93_17 zw26_9 zw26_10 zw2_13 zw26_11) rfl ⟨rfl, rfl⟩ 1 hdX10_value ⟨Nat.le_of_ble_eq_true rfl, Nat.le_of_ble_eq_true rfl⟩ rfl rfl (wC_e5 ad cy σ1) rfl hl rfl (Nat.le_of_ble_eq_true rfl) dX11_wave_23 ⟨Nat.zero_le _, Nat.zero_le _⟩ (fun H locs hI => ?_)
    exact z_xireturn hC hI hf dX11_wave_26
  replace hf := zif_t q hf
  exact z_throwW hC hE hst hI hl 1 hf (by decide) (List.mem_cons_of_mem _ zw11_1) (List.mem_cons_of_mem _ zw11_2) 67 (by decide) rfl rfl (fun w h => List.mem_cons_of_mem _ (zx1 w h)) zXn1 zXg1 dX11_wave_7 dX11_wave_10 dX11_wave_11 dX11_wave_14 dX11_wave_17 (Nat.le_of_ble_eq_true rfl) (Nat.le_of_ble_eq_true rfl) (Nat.le_of_ble_eq_true rfl) (Nat.le_of_ble_eq_true rfl)
set_option maxRecDepth 20000 in
theorem cX11_wave_met (st : Nat → Nat) (l : Launch) (hst : l.stackTraces = false) (D : va_G) (ad : Nat → Nat) (cy : Nat → ClassId) (σ : zSt) (x1 : Int32) (res : zRi) (hf : fX11_wave σ x1 = some res) (sz : Nat) : zXi st l yX11_wave wzX11_wave rmX11_wave [.ref (ad 0), .int x1] D (tC cy) (wC ad cy) sz σ res :=
  zXi.of (cc := cX11_wave) (maxL := 2) (ret := (some .int)) (by decide) rfl (Nat.le_of_ble_eq_true rfl) (fun p e s m args below meth c hC hE A hI ls hl => bX11_wave hC hE hst hI hl hf)
theorem hdX11_wave : yX11_wave.cls = RX11 ∧ yX11_wave.cls ≠ "java/lang/invoke/MethodHandle" ∧ yX11_wave.cls ≠ "java/lang/invoke/VarHandle" ∧ (parseMethodDescriptor yX11_wave.desc).map (fun d => d.parameters.length) = some 1 := by decide +kernel
def rmX11_sound : Room := { frames := 6, cells := 1, slots := 6, locals := 100 }
def wzX11_sound : List Cond := .code yX11_sound cX11_sound 2 (some .int) :: wsL_law
theorem hinX11_sound_X110 : ∀ w ∈ wsX110, w ∈ wzX11_sound := fun w h => List.mem_cons_of_mem _ (inlX11 w h)
def fX11_sound_10  (σ : zSt)  : Option (zRi) :=
  some (Sum.inr (σ, 1))
def fX11_sound  (σ : zSt) (x1 : Int32) : Option (zRi) :=
  if x1 < 0 then fX11_sound_10 σ else
  if x1 ≤ 18 then zbi (fX7_value σ x1) (fun σ1 v2 =>
  some (Sum.inl (σ1, v2))) else
  fX11_sound_10 σ
set_option maxRecDepth 20000 in
set_option maxHeartbeats 4000000 in
theorem bX11_sound_10 {st : Nat → Nat} {p : Program} {l : Launch} {e : Env} {s : State} {m : MethodId} {args : Array Value} {below : List Frame} {meth : Method} {c : Code} {D : va_G} {A : Nat → Prop} {ad : Nat → Nat} {cy : Nat → ClassId} (hC : zC p m c cX11_sound 2 s args wzX11_sound RX11 meth (some .int)) (hE : ∀ x ∈ c.exceptionTable.toList, False) (hst : l.stackTraces = false)  {res : zRi} {H : Heap} {locs : List Loc} {σ : zSt} {ls : Array Slot}  (hI : zI st D (tC cy) (wC ad cy σ) A s H locs) (hl : lv_has ls 2 []) (hf : fX11_sound_10  σ  = some res) : W p l e rmX11_sound s m args below meth c H locs 0 0 (zXQi below args s D (tC cy) (wC ad cy) A res) (F0 m 10 ls []) := by
  have hx := hC.1
  have hb := hC.2.1
  unfold fX11_sound_10 at hf
  exact z_throwW hC hE hst hI hl 1 hf (by decide) (List.mem_cons_of_mem _ zw11_1) (List.mem_cons_of_mem _ zw11_2) 68 (by decide) rfl rfl (fun w h => List.mem_cons_of_mem _ (zx1 w h)) zXn1 zXg1 dX11_sound_10 dX11_sound_13 dX11_sound_14 dX11_sound_17 dX11_sound_20 (Nat.le_of_ble_eq_true rfl) (Nat.le_of_ble_eq_true rfl) (Nat.le_of_ble_eq_true rfl) (Nat.le_of_ble_eq_true rfl)
set_option maxRecDepth 20000 in
set_option maxHeartbeats 4000000 in
theorem bX11_sound {st : Nat → Nat} {p : Program} {l : Launch} {e : Env} {s : State} {m : MethodId} {args : Array Value} {below : List Frame} {meth : Method} {c : Code} {D : va_G} {A : Nat → Prop} {ad : Nat → Nat} {cy : Nat → ClassId} (hC : zC p m c cX11_sound 2 s args wzX11_sound RX11 meth (some .int)) (hE : ∀ x ∈ c.exceptionTable.toList, False) (hst : l.stackTraces = false)  {res : zRi} {H : Heap} {locs : List Loc} {σ : zSt} {ls : Array Slot} {x1 : Int32} (hI : zI st D (tC cy) (wC ad cy σ) A s H locs) (hl : lv_has ls 2 [(0, .ref (ad 0)), (1, .int x1)]) (hf : fX11_sound  σ x1 = some res) : W p l e rmX11_sound s m args below meth c H locs 0 0 (zXQi below args s D (tC cy) (wC ad cy) A res) (F0 m 0 ls []) := by
  have hx := hC.1
  have hb := hC.2.1
  unfold fX11_sound at hf
  refine lv_iload_n hx hb dX11_sound_0 rfl (lv_at hl 1 rfl) ?_
  refine lv_if_lt (tgt := 10) hx hb dX11_sound_1 (by decide) (fun q => ?_) (fun q => ?_)
  · replace hf := zif_t q hf
    exact bX11_sound_10 hC hE hst  hI (lv_sub hl [] rfl) hf
  replace hf := zif_f q hf
  refine lv_iload_n hx hb dX11_sound_4 rfl (lv_at hl 1 rfl) ?_
  refine lv_bipush (v := 18) hx hb dX11_sound_5 (by decide) ?_
  refine lv_icmp_le (tgt := 21) hx hb dX11_sound_7 (by decide) (fun q => ?_) (fun q => ?_)
  · replace hf := zif_t q hf
    refine lv_aload_n hx hb dX11_sound_21 rfl (lv_at hl 0 rfl) ?_
    refine z_get hC hI hinX11_sound_X110 0 (wC_e0 ad cy σ) rfl 4 (by decide) (List.mem_cons_of_mem _ zw2_10) rfl dX11_sound_22 ?_
    refine lv_iload_n hx hb dX11_sound_25 rfl (lv_at hl 1 rfl) ?_
    obtain ⟨σ1, v2, g1, hf⟩ := zbi_use hf
    refine z_callVi (As := [.int x1]) (rest := []) hC hI (cX7_value_met st l D ad cy σ x1 _ g1) (zgV zw94_8 zw94_9 zw94_10 zw2_9 zw94_11) rfl ⟨rfl, rfl⟩ 1 hdX7_value ⟨Nat.le_of_ble_eq_true rfl, Nat.le_of_ble_eq_true rfl⟩ rfl rfl (wC_e4 ad cy σ) rfl hl rfl (Nat.le_of_ble_eq_true rfl) dX11_sound_26 ⟨Nat.zero_le _, Nat.zero_le _⟩ (fun H locs hI => ?_)
    exact z_xireturn hC hI hf dX11_sound_29
  replace hf := zif_f q hf
  exact bX11_sound_10 hC hE hst  hI (lv_sub hl [] rfl) hf
set_option maxRecDepth 20000 in
theorem cX11_sound_met (st : Nat → Nat) (l : Launch) (hst : l.stackTraces = false) (D : va_G) (ad : Nat → Nat) (cy : Nat → ClassId) (σ : zSt) (x1 : Int32) (res : zRi) (hf : fX11_sound σ x1 = some res) (sz : Nat) : zXi st l yX11_sound wzX11_sound rmX11_sound [.ref (ad 0), .int x1] D (tC cy) (wC ad cy) sz σ res :=
  zXi.of (cc := cX11_sound) (maxL := 2) (ret := (some .int)) (by decide) rfl (Nat.le_of_ble_eq_true rfl) (fun p e s m args below meth c hC hE A hI ls hl => bX11_sound hC hE hst hI hl hf)
theorem hdX11_sound : yX11_sound.cls = RX11 ∧ yX11_sound.cls ≠ "java/lang/invoke/MethodHandle" ∧ yX11_sound.cls ≠ "java/lang/invoke/VarHandle" ∧ (parseMethodDescriptor yX11_sound.desc).map (fun d => d.parameters.length) = some 1 := by decide +kernel
def rmX11_look : Room := { frames := 6, cells := 1, slots := 6, locals := 100 }
def wzX11_look : List Cond := .code yX11_look cX11_look 2 (some .long) :: wsL_law
theorem hinX11_look_X00 : ∀ w ∈ wsX00, w ∈ wzX11_look := fun w h => List.mem_cons_of_mem _ (inlX0 w h)
theorem hinX11_look_X110 : ∀ w ∈ wsX110, w ∈ wzX11_look := fun w h => List.mem_cons_of_mem _ (inlX11 w h)
theorem hinX11_look_X20 : ∀ w ∈ wsX20, w ∈ wzX11_look := fun w h => List.mem_cons_of_mem _ (inlX2 w h)
theorem hinX11_look_X80 : ∀ w ∈ wsX80, w ∈ wzX11_look := fun w h => List.mem_cons_of_mem _ (inlX8 w h)
def fX11_look_10  (σ : zSt)  : Option (zRl) :=
  some (Sum.inr (σ, 1))
def fX11_look_193  (σ : zSt) (x1 : Int32) : Option (zRl) :=
  zbi (fX2_page σ (x1 - 9)) (fun σ1 v2 =>
  some (Sum.inl (σ1, v2.toInt64)))
def fX11_look_250  (σ : zSt) (s0 : Int64) : Option (zRl) :=
  some (Sum.inl (σ, s0))
def fX11_look  (σ : zSt) (x1 : Int32) : Option (zRl) :=
  if x1 < 0 then fX11_look_10 σ else
  if x1 ≤ 18 then if x1 = 0 then zbl (fX0_count σ 0) (fun σ3 v4 =>
  some (Sum.inl (σ3, v4))) else
  if x1 = 1 then zbl (fX0_count σ 1) (fun σ5 v6 =>
  some (Sum.inl (σ5, v6))) else
  if x1 = 2 then zbl (fX0_count σ 2) (fun σ7 v8 =>
  some (Sum.inl (σ7, v8))) else
  if x1 = 3 then zbi (fX6_size_k11 σ ) (fun σ9 v10 =>
  some (Sum.inl (σ9, v10.toInt64))) else
  if x1 = 4 then zbl (fX0_count σ 3) (fun σ11 v12 =>
  some (Sum.inl (σ11, v12))) else
  if x1 = 5 then some (Sum.inl (σ, (zgi σ 1 2).toInt64)) else
  if x1 = 6 then zbi (fX1_stopCount σ ) (fun σ13 v14 =>
  some (Sum.inl (σ13, v14.toInt64))) else
  if x1 = 7 then zbi (fX2_cardSize σ ) (fun σ15 v16 =>
  some (Sum.inl (σ15, v16.toInt64))) else
  if x1 = 8 then zbi (fX2_page σ 3) (fun σ17 v18 =>
  some (Sum.inl (σ17, v18.toInt64))) else
  if x1 = 9 then fX11_look_193 σ x1 else
  if x1 = 10 then fX11_look_193 σ x1 else
  if x1 = 11 then fX11_look_193 σ x1 else
  if x1 = 12 then zbi (fX5_value σ 27) (fun σ19 v20 =>
  some (Sum.inl (σ19, v20.toInt64))) else
  if x1 = 13 then zbi (fX4_value σ 6) (fun σ21 v22 =>
  some (Sum.inl (σ21, v22.toInt64))) else
  if x1 = 14 then zbi (fX4_value σ 0) (fun σ23 v24 =>
  some (Sum.inl (σ23, v24.toInt64))) else
  if x1 = 15 then if (zgi σ 0 11) = 0 then fX11_look_250 σ 0 else
  fX11_look_250 σ 1 else
  if x1 = 16 then zbi (fX1_plansWaiting σ ) (fun σ25 v26 =>
  some (Sum.inl (σ25, v26.toInt64))) else
  if x1 = 17 then zbi (fX6_size_k12 σ ) (fun σ27 v28 =>
  some (Sum.inl (σ27, v28.toInt64))) else
  some (Sum.inl (σ, (zgi σ 10 2).toInt64)) else
  fX11_look_10 σ
set_option maxRecDepth 20000 in
set_option maxHeartbeats 4000000 in
theorem bX11_look_10 {st : Nat → Nat} {p : Program} {l : Launch} {e : Env} {s : State} {m : MethodId} {args : Array Value} {below : List Frame} {meth : Method} {c : Code} {D : va_G} {A : Nat → Prop} {ad : Nat → Nat} {cy : Nat → ClassId} (hC : zC p m c cX11_look 2 s args wzX11_look RX11 meth (some .long)) (hE : ∀ x ∈ c.exceptionTable.toList, False) (hst : l.stackTraces = false)  {res : zRl} {H : Heap} {locs : List Loc} {σ : zSt} {ls : Array Slot}  (hI : zI st D (tC cy) (wC ad cy σ) A s H locs) (hl : lv_has ls 2 []) (hf : fX11_look_10  σ  = some res) : W p l e rmX11_look s m args below meth c H locs 0 0 (zXQl below args s D (tC cy) (wC ad cy) A res) (F0 m 10 ls []) := by
  have hx := hC.1
  have hb := hC.2.1
  unfold fX11_look_10 at hf
  exact z_throwW hC hE hst hI hl 1 hf (by decide) (List.mem_cons_of_mem _ zw11_1) (List.mem_cons_of_mem _ zw11_2) 69 (by decide) rfl rfl (fun w h => List.mem_cons_of_mem _ (zx1 w h)) zXn1 zXg1 dX11_look_10 dX11_look_13 dX11_look_14 dX11_look_17 dX11_look_20 (Nat.le_of_ble_eq_true rfl) (Nat.le_of_ble_eq_true rfl) (Nat.le_of_ble_eq_true rfl) (Nat.le_of_ble_eq_true rfl)
set_option maxRecDepth 20000 in
set_option maxHeartbeats 4000000 in
theorem bX11_look_193 {st : Nat → Nat} {p : Program} {l : Launch} {e : Env} {s : State} {m : MethodId} {args : Array Value} {below : List Frame} {meth : Method} {c : Code} {D : va_G} {A : Nat → Prop} {ad : Nat → Nat} {cy : Nat → ClassId} (hC : zC p m c cX11_look 2 s args wzX11_look RX11 meth (some .long)) (hE : ∀ x ∈ c.exceptionTable.toList, False) (hst : l.stackTraces = false)  {res : zRl} {H : Heap} {locs : List Loc} {σ : zSt} {ls : Array Slot} {x1 : Int32} (hI : zI st D (tC cy) (wC ad cy σ) A s H locs) (hl : lv_has ls 2 [(0, .ref (ad 0)), (1, .int x1)]) (hf : fX11_look_193  σ x1 = some res) : W p l e rmX11_look s m args below meth c H locs 0 0 (zXQl below args s D (tC cy) (wC ad cy) A res) (F0 m 193 ls []) := by
  have hx := hC.1
  have hb := hC.2.1
  unfold fX11_look_193 at hf
  refine lv_aload_n hx hb dX11_look_193 rfl (lv_at hl 0 rfl) ?_
  refine z_get hC hI hinX11_look_X110 0 (wC_e0 ad cy σ) rfl 1 (by decide) (List.mem_cons_of_mem _ zw1_22) rfl dX11_look_194 ?_
  refine lv_iload_n hx hb dX11_look_197 rfl (lv_at hl 1 rfl) ?_
  refine lv_bipush (v := 9) hx hb dX11_look_198 (by decide) ?_
  refine lv_isub hx hb dX11_look_200 ?_
  obtain ⟨σ1, v2, g1, hf⟩ := zbi_use hf
  refine z_callVi (As := [.int (x1 - 9)]) (rest := []) hC hI (cX2_page_met st l D ad cy σ (x1 - 9) _ g1) (zgV zw95_21 zw95_22 zw95_23 zw1_21 zw96_0) rfl ⟨rfl, rfl⟩ 1 hdX2_page ⟨Nat.le_of_ble_eq_true rfl, Nat.le_of_ble_eq_true rfl⟩ rfl rfl (wC_e1 ad cy σ) rfl hl rfl (Nat.le_of_ble_eq_true rfl) dX11_look_201 ⟨Nat.zero_le _, Nat.zero_le _⟩ (fun H locs hI => ?_)
  refine lv_i2l (v := v2.toInt64) hx hb dX11_look_204 rfl ?_
  exact z_xlreturn hC hI hf dX11_look_205
set_option maxRecDepth 20000 in
set_option maxHeartbeats 4000000 in
theorem bX11_look_250 {st : Nat → Nat} {p : Program} {l : Launch} {e : Env} {s : State} {m : MethodId} {args : Array Value} {below : List Frame} {meth : Method} {c : Code} {D : va_G} {A : Nat → Prop} {ad : Nat → Nat} {cy : Nat → ClassId} (hC : zC p m c cX11_look 2 s args wzX11_look RX11 meth (some .long)) (hE : ∀ x ∈ c.exceptionTable.toList, False) (hst : l.stackTraces = false)  {res : zRl} {H : Heap} {locs : List Loc} {σ : zSt} {ls : Array Slot} {s0 : Int64} (hI : zI st D (tC cy) (wC ad cy σ) A s H locs) (hl : lv_has ls 2 []) (hf : fX11_look_250  σ s0 = some res) : W p l e rmX11_look s m args below meth c H locs 0 0 (zXQl below args s D (tC cy) (wC ad cy) A res) (F0 m 250 ls [.long s0]) := by
  have hx := hC.1
  have hb := hC.2.1
  unfold fX11_look_250 at hf
  exact z_xlreturn hC hI hf dX11_look_250
set_option maxRecDepth 20000 in
set_option maxHeartbeats 4000000 in
theorem bX11_look {st : Nat → Nat} {p : Program} {l : Launch} {e : Env} {s : State} {m : MethodId} {args : Array Value} {below : List Frame} {meth : Method} {c : Code} {D : va_G} {A : Nat → Prop} {ad : Nat → Nat} {cy : Nat → ClassId} (hC : zC p m c cX11_look 2 s args wzX11_look RX11 meth (some .long)) (hE : ∀ x ∈ c.exceptionTable.toList, False) (hst : l.stackTraces = false)  {res : zRl} {H : Heap} {locs : List Loc} {σ : zSt} {ls : Array Slot} {x1 : Int32} (hI : zI st D (tC cy) (wC ad cy σ) A s H locs) (hl : lv_has ls 2 [(0, .ref (ad 0)), (1, .int x1)]) (hf : fX11_look  σ x1 = some res) : W p l e rmX11_look s m args below meth c H locs 0 0 (zXQl below args s D (tC cy) (wC ad cy) A res) (F0 m 0 ls []) := by
  have hx := hC.1
  have hb := hC.2.1
  unfold fX11_look at hf
  refine lv_iload_n hx hb dX11_look_0 rfl (lv_at hl 1 rfl) ?_
  refine lv_if_lt (tgt := 10) hx hb dX11_look_1 (by decide) (fun q => ?_) (fun q => ?_)
  · replace hf := zif_t q hf
    exact bX11_look_10 hC hE hst  hI (lv_sub hl [] rfl) hf
  replace hf := zif_f q hf
  refine lv_iload_n hx hb dX11_look_4 rfl (lv_at hl 1 rfl) ?_
  refine lv_bipush (v := 18) hx hb dX11_look_5 (by decide) ?_
  refine lv_icmp_le (tgt := 21) hx hb dX11_look_7 (by decide) (fun q => ?_) (fun q => ?_)
  · replace hf := zif_t q hf
    refine lv_iload_n hx hb dX11_look_21 rfl (lv_at hl 1 rfl) ?_
    by_cases q0 : x1 = 0
    · replace hf := zif_t q0 hf
      refine lv_tableIn (tgt := 108) hx hb dX11_look_22 (by rw [q0]; decide) (by rw [q0]; decide) (by rw [q0]; rfl) (by decide) ?_
      refine lv_aload_n hx hb dX11_look_108 rfl (lv_at hl 0 rfl) ?_
      refine z_get hC hI hinX11_look_X110 0 (wC_e0 ad cy σ) rfl 8 (by decide) (List.mem_cons_of_mem _ zw3_2) rfl dX11_look_109 ?_
      refine lv_iconst (v := 0) hx hb dX11_look_112 (by decide) ?_
      obtain ⟨σ3, v4, g3, hf⟩ := zbl_use hf
      refine z_callVl (As := [.int 0]) (rest := []) hC hI (cX0_count_met st l D ad cy σ 0 _ g3) (zgV zw18_13 zw18_14 zw18_15 zw3_1 zw18_16) rfl ⟨rfl, rfl⟩ 1 hdX0_count ⟨Nat.le_of_ble_eq_true rfl, Nat.le_of_ble_eq_true rfl⟩ rfl rfl (wC_e8 ad cy σ) rfl hl rfl (Nat.le_of_ble_eq_true rfl) dX11_look_113 ⟨Nat.zero_le _, Nat.zero_le _⟩ (fun H locs hI => ?_)
      exact z_xlreturn hC hI hf dX11_look_116
    replace hf := zif_f q0 hf
    by_cases q1 : x1 = 1
    · replace hf := zif_t q1 hf
      refine lv_tableIn (tgt := 117) hx hb dX11_look_22 (by rw [q1]; decide) (by rw [q1]; decide) (by rw [q1]; rfl) (by decide) ?_
      refine lv_aload_n hx hb dX11_look_117 rfl (lv_at hl 0 rfl) ?_
      refine z_get hC hI hinX11_look_X110 0 (wC_e0 ad cy σ) rfl 8 (by decide) (List.mem_cons_of_mem _ zw3_2) rfl dX11_look_118 ?_
      refine lv_iconst (v := 1) hx hb dX11_look_121 (by decide) ?_
      obtain ⟨σ5, v6, g5, hf⟩ := zbl_use hf
      refine z_callVl (As := [.int 1]) (rest := []) hC hI (cX0_count_met st l D ad cy σ 1 _ g5) (zgV zw18_13 zw18_14 zw18_15 zw3_1 zw18_16) rfl ⟨rfl, rfl⟩ 1 hdX0_count ⟨Nat.le_of_ble_eq_true rfl, Nat.le_of_ble_eq_true rfl⟩ rfl rfl (wC_e8 ad cy σ) rfl hl rfl (Nat.le_of_ble_eq_true rfl) dX11_look_122 ⟨Nat.zero_le _, Nat.zero_le _⟩ (fun H locs hI => ?_)
      exact z_xlreturn hC hI hf dX11_look_125
    replace hf := zif_f q1 hf
    by_cases q2 : x1 = 2
    · replace hf := zif_t q2 hf
      refine lv_tableIn (tgt := 126) hx hb dX11_look_22 (by rw [q2]; decide) (by rw [q2]; decide) (by rw [q2]; rfl) (by decide) ?_
      refine lv_aload_n hx hb dX11_look_126 rfl (lv_at hl 0 rfl) ?_
      refine z_get hC hI hinX11_look_X110 0 (wC_e0 ad cy σ) rfl 8 (by decide) (List.mem_cons_of_mem _ zw3_2) rfl dX11_look_127 ?_
      refine lv_iconst (v := 2) hx hb dX11_look_130 (by decide) ?_
      obtain ⟨σ7, v8, g7, hf⟩ := zbl_use hf
      refine z_callVl (As := [.int 2]) (rest := []) hC hI (cX0_count_met st l D ad cy σ 2 _ g7) (zgV zw18_13 zw18_14 zw18_15 zw3_1 zw18_16) rfl ⟨rfl, rfl⟩ 1 hdX0_count ⟨Nat.le_of_ble_eq_true rfl, Nat.le_of_ble_eq_true rfl⟩ rfl rfl (wC_e8 ad cy σ) rfl hl rfl (Nat.le_of_ble_eq_true rfl) dX11_look_131 ⟨Nat.zero_le _, Nat.zero_le _⟩ (fun H locs hI => ?_)
      exact z_xlreturn hC hI hf dX11_look_134
    replace hf := zif_f q2 hf
    by_cases q3 : x1 = 3
    · replace hf := zif_t q3 hf
      refine lv_tableIn (tgt := 135) hx hb dX11_look_22 (by rw [q3]; decide) (by rw [q3]; decide) (by rw [q3]; rfl) (by decide) ?_
      refine lv_aload_n hx hb dX11_look_135 rfl (lv_at hl 0 rfl) ?_
      refine z_get hC hI hinX11_look_X110 0 (wC_e0 ad cy σ) rfl 8 (by decide) (List.mem_cons_of_mem _ zw3_2) rfl dX11_look_136 ?_
      refine z_get hC hI hinX11_look_X00 8 (wC_e8 ad cy σ) rfl 2 (by decide) (List.mem_cons_of_mem _ zw92_6) rfl dX11_look_139 ?_
      obtain ⟨σ9, v10, g9, hf⟩ := zbi_use hf
      refine z_callVi (As := []) (rest := []) hC hI (cX6_size_k11_met st l D ad cy σ  _ g9) (zgV zw92_7 zw92_8 zw92_9 zw7_17 zw92_10) rfl ⟨rfl, rfl⟩ 0 hdX6_size_k11 ⟨Nat.le_of_ble_eq_true rfl, Nat.le_of_ble_eq_true rfl⟩ rfl rfl (wC_e11 ad cy σ) rfl hl rfl (Nat.le_of_ble_eq_true rfl) dX11_look_142 ⟨Nat.zero_le _, Nat.zero_le _⟩ (fun H locs hI => ?_)
      refine lv_i2l (v := v10.toInt64) hx hb dX11_look_145 rfl ?_
      exact z_xlreturn hC hI hf dX11_look_146
    replace hf := zif_f q3 hf
    by_cases q4 : x1 = 4
    · replace hf := zif_t q4 hf
      refine lv_tableIn (tgt := 147) hx hb dX11_look_22 (by rw [q4]; decide) (by rw [q4]; decide) (by rw [q4]; rfl) (by decide) ?_
      refine lv_aload_n hx hb dX11_look_147 rfl (lv_at hl 0 rfl) ?_
      refine z_get hC hI hinX11_look_X110 0 (wC_e0 ad cy σ) rfl 8 (by decide) (List.mem_cons_of_mem _ zw3_2) rfl dX11_look_148 ?_
      refine lv_iconst (v := 3) hx hb dX11_look_151 (by decide) ?_
      obtain ⟨σ11, v12, g11, hf⟩ := zbl_use hf
      refine z_callVl (As := [.int 3]) (rest := []) hC hI (cX0_count_met st l D ad cy σ 3 _ g11) (zgV zw18_13 zw18_14 zw18_15 zw3_1 zw18_16) rfl ⟨rfl, rfl⟩ 1 hdX0_count ⟨Nat.le_of_ble_eq_true rfl, Nat.le_of_ble_eq_true rfl⟩ rfl rfl (wC_e8 ad cy σ) rfl hl rfl (Nat.le_of_ble_eq_true rfl) dX11_look_152 ⟨Nat.zero_le _, Nat.zero_le _⟩ (fun H locs hI => ?_)
      exact z_xlreturn hC hI hf dX11_look_155
    replace hf := zif_f q4 hf
    by_cases q5 : x1 = 5
    · replace hf := zif_t q5 hf
      refine lv_tableIn (tgt := 156) hx hb dX11_look_22 (by rw [q5]; decide) (by rw [q5]; decide) (by rw [q5]; rfl) (by decide) ?_
      refine lv_aload_n hx hb dX11_look_156 rfl (lv_at hl 0 rfl) ?_
      refine z_get hC hI hinX11_look_X110 0 (wC_e0 ad cy σ) rfl 1 (by decide) (List.mem_cons_of_mem _ zw1_22) rfl dX11_look_157 ?_
      refine z_get hC hI hinX11_look_X20 1 (wC_e1 ad cy σ) rfl 2 (by decide) (List.mem_cons_of_mem _ zw11_5) rfl dX11_look_160 ?_
      refine lv_i2l (v := (zgi σ 1 2).toInt64) hx hb dX11_look_163 rfl ?_
      exact z_xlreturn hC hI hf dX11_look_164
    replace hf := zif_f q5 hf
    by_cases q6 : x1 = 6
    · replace hf := zif_t q6 hf
      refine lv_tableIn (tgt := 165) hx hb dX11_look_22 (by rw [q6]; decide) (by rw [q6]; decide) (by rw [q6]; rfl) (by decide) ?_
      refine lv_aload_n hx hb dX11_look_165 rfl (lv_at hl 0 rfl) ?_
      refine z_get hC hI hinX11_look_X110 0 (wC_e0 ad cy σ) rfl 9 (by decide) (List.mem_cons_of_mem _ zw3_6) rfl dX11_look_166 ?_
      obtain ⟨σ13, v14, g13, hf⟩ := zbi_use hf
      refine z_callVi (As := []) (rest := []) hC hI (cX1_stopCount_met st l D ad cy σ  _ g13) (zgV zw95_13 zw95_14 zw95_15 zw3_5 zw95_16) rfl ⟨rfl, rfl⟩ 0 hdX1_stopCount ⟨Nat.le_of_ble_eq_true rfl, Nat.le_of_ble_eq_true rfl⟩ rfl rfl (wC_e9 ad cy σ) rfl hl rfl (Nat.le_of_ble_eq_true rfl) dX11_look_169 ⟨Nat.zero_le _, Nat.zero_le _⟩ (fun H locs hI => ?_)
      refine lv_i2l (v := v14.toInt64) hx hb dX11_look_172 rfl ?_
      exact z_xlreturn hC hI hf dX11_look_173
    replace hf := zif_f q6 hf
    by_cases q7 : x1 = 7
    · replace hf := zif_t q7 hf
      refine lv_tableIn (tgt := 174) hx hb dX11_look_22 (by rw [q7]; decide) (by rw [q7]; decide) (by rw [q7]; rfl) (by decide) ?_
      refine lv_aload_n hx hb dX11_look_174 rfl (lv_at hl 0 rfl) ?_
      refine z_get hC hI hinX11_look_X110 0 (wC_e0 ad cy σ) rfl 1 (by decide) (List.mem_cons_of_mem _ zw1_22) rfl dX11_look_175 ?_
      obtain ⟨σ15, v16, g15, hf⟩ := zbi_use hf
      refine z_callVi (As := []) (rest := []) hC hI (cX2_cardSize_met st l D ad cy σ  _ g15) (zgV zw95_17 zw95_18 zw95_19 zw1_21 zw95_20) rfl ⟨rfl, rfl⟩ 0 hdX2_cardSize ⟨Nat.le_of_ble_eq_true rfl, Nat.le_of_ble_eq_true rfl⟩ rfl rfl (wC_e1 ad cy σ) rfl hl rfl (Nat.le_of_ble_eq_true rfl) dX11_look_178 ⟨Nat.zero_le _, Nat.zero_le _⟩ (fun H locs hI => ?_)
      refine lv_i2l (v := v16.toInt64) hx hb dX11_look_181 rfl ?_
      exact z_xlreturn hC hI hf dX11_look_182
    replace hf := zif_f q7 hf
    by_cases q8 : x1 = 8
    · replace hf := zif_t q8 hf
      refine lv_tableIn (tgt := 183) hx hb dX11_look_22 (by rw [q8]; decide) (by rw [q8]; decide) (by rw [q8]; rfl) (by decide) ?_
      refine lv_aload_n hx hb dX11_look_183 rfl (lv_at hl 0 rfl) ?_
      refine z_get hC hI hinX11_look_X110 0 (wC_e0 ad cy σ) rfl 1 (by decide) (List.mem_cons_of_mem _ zw1_22) rfl dX11_look_184 ?_
      refine lv_iconst (v := 3) hx hb dX11_look_187 (by decide) ?_
      obtain ⟨σ17, v18, g17, hf⟩ := zbi_use hf
      refine z_callVi (As := [.int 3]) (rest := []) hC hI (cX2_page_met st l D ad cy σ 3 _ g17) (zgV zw95_21 zw95_22 zw95_23 zw1_21 zw96_0) rfl ⟨rfl, rfl⟩ 1 hdX2_page ⟨Nat.le_of_ble_eq_true rfl, Nat.le_of_ble_eq_true rfl⟩ rfl rfl (wC_e1 ad cy σ) rfl hl rfl (Nat.le_of_ble_eq_true rfl) dX11_look_188 ⟨Nat.zero_le _, Nat.zero_le _⟩ (fun H locs hI => ?_)
      refine lv_i2l (v := v18.toInt64) hx hb dX11_look_191 rfl ?_
      exact z_xlreturn hC hI hf dX11_look_192
    replace hf := zif_f q8 hf
    by_cases q9 : x1 = 9
    · replace hf := zif_t q9 hf
      refine lv_tableIn (tgt := 193) hx hb dX11_look_22 (by rw [q9]; decide) (by rw [q9]; decide) (by rw [q9]; rfl) (by decide) ?_
      exact bX11_look_193 hC hE hst  hI hl hf
    replace hf := zif_f q9 hf
    by_cases q10 : x1 = 10
    · replace hf := zif_t q10 hf
      refine lv_tableIn (tgt := 193) hx hb dX11_look_22 (by rw [q10]; decide) (by rw [q10]; decide) (by rw [q10]; rfl) (by decide) ?_
      exact bX11_look_193 hC hE hst  hI hl hf
    replace hf := zif_f q10 hf
    by_cases q11 : x1 = 11
    · replace hf := zif_t q11 hf
      refine lv_tableIn (tgt := 193) hx hb dX11_look_22 (by rw [q11]; decide) (by rw [q11]; decide) (by rw [q11]; rfl) (by decide) ?_
      exact bX11_look_193 hC hE hst  hI hl hf
    replace hf := zif_f q11 hf
    by_cases q12 : x1 = 12
    · replace hf := zif_t q12 hf
      refine lv_tableIn (tgt := 206) hx hb dX11_look_22 (by rw [q12]; decide) (by rw [q12]; decide) (by rw [q12]; rfl) (by decide) ?_
      refine lv_aload_n hx hb dX11_look_206 rfl (lv_at hl 0 rfl) ?_
      refine z_get hC hI hinX11_look_X110 0 (wC_e0 ad cy σ) rfl 7 (by decide) (List.mem_cons_of_mem _ zw2_22) rfl dX11_look_207 ?_
      refine lv_bipush (v := 27) hx hb dX11_look_210 (by decide) ?_
      obtain ⟨σ19, v20, g19, hf⟩ := zbi_use hf
      refine z_callVi (As := [.int 27]) (rest := []) hC hI (cX5_value_met st l D ad cy σ 27 _ g19) (zgV zw18_17 zw18_18 zw18_19 zw2_21 zw18_20) rfl ⟨rfl, rfl⟩ 1 hdX5_value ⟨Nat.le_of_ble_eq_true rfl, Nat.le_of_ble_eq_true rfl⟩ rfl rfl (wC_e7 ad cy σ) rfl hl rfl (Nat.le_of_ble_eq_true rfl) dX11_look_212 ⟨Nat.zero_le _, Nat.zero_le _⟩ (fun H locs hI => ?_)
      refine lv_i2l (v := v20.toInt64) hx hb dX11_look_215 rfl ?_
      exact z_xlreturn hC hI hf dX11_look_216
    replace hf := zif_f q12 hf
    by_cases q13 : x1 = 13
    · replace hf := zif_t q13 hf
      refine lv_tableIn (tgt := 217) hx hb dX11_look_22 (by rw [q13]; decide) (by rw [q13]; decide) (by rw [q13]; rfl) (by decide) ?_
      refine lv_aload_n hx hb dX11_look_217 rfl (lv_at hl 0 rfl) ?_
      refine z_get hC hI hinX11_look_X110 0 (wC_e0 ad cy σ) rfl 6 (by decide) (List.mem_cons_of_mem _ zw2_18) rfl dX11_look_218 ?_
      refine lv_bipush (v := 6) hx hb dX11_look_221 (by decide) ?_
      obtain ⟨σ21, v22, g21, hf⟩ := zbi_use hf
      refine z_callVi (As := [.int 6]) (rest := []) hC hI (cX4_value_met st l D ad cy σ 6 _ g21) (zgV zw96_1 zw96_2 zw96_3 zw2_17 zw96_4) rfl ⟨rfl, rfl⟩ 1 hdX4_value ⟨Nat.le_of_ble_eq_true rfl, Nat.le_of_ble_eq_true rfl⟩ rfl rfl (wC_e6 ad cy σ) rfl hl rfl (Nat.le_of_ble_eq_true rfl) dX11_look_223 ⟨Nat.zero_le _, Nat.zero_le _⟩ (fun H locs hI => ?_)
      refine lv_i2l (v := v22.toInt64) hx hb dX11_look_226 rfl ?_
      exact z_xlreturn hC hI hf dX11_look_227
    replace hf := zif_f q13 hf
    by_cases q14 : x1 = 14
    · replace hf := zif_t q14 hf
      refine lv_tableIn (tgt := 228) hx hb dX11_look_22 (by rw [q14]; decide) (by rw [q14]; decide) (by rw [q14]; rfl) (by decide) ?_
      refine lv_aload_n hx hb dX11_look_228 rfl (lv_at hl 0 rfl) ?_
      refine z_get hC hI hinX11_look_X110 0 (wC_e0 ad cy σ) rfl 6 (by decide) (List.mem_cons_of_mem _ zw2_18) rfl dX11_look_229 ?_
      refine lv_iconst (v := 0) hx hb dX11_look_232 (by decide) ?_
      obtain ⟨σ23, v24, g23, hf⟩ := zbi_use hf
      refine z_callVi (As := [.int 0]) (rest := []) hC hI (cX4_value_met st l D ad cy σ 0 _ g23) (zgV zw96_1 zw96_2 zw96_3 zw2_17 zw96_4) rfl ⟨rfl, rfl⟩ 1 hdX4_value ⟨Nat.le_of_ble_eq_true rfl, Nat.le_of_ble_eq_true rfl⟩ rfl rfl (wC_e6 ad cy σ) rfl hl rfl (Nat.le_of_ble_eq_true rfl) dX11_look_233 ⟨Nat.zero_le _, Nat.zero_le _⟩ (fun H locs hI => ?_)
      refine lv_i2l (v := v24.toInt64) hx hb dX11_look_236 rfl ?_
      exact z_xlreturn hC hI hf dX11_look_237
    replace hf := zif_f q14 hf
    by_cases q15 : x1 = 15
    · replace hf := zif_t q15 hf
      refine lv_tableIn (tgt := 238) hx hb dX11_look_22 (by rw [q15]; decide) (by rw [q15]; decide) (by rw [q15]; rfl) (by decide) ?_
      refine lv_aload_n hx hb dX11_look_238 rfl (lv_at hl 0 rfl) ?_
      refine z_get hC hI hinX11_look_X110 0 (wC_e0 ad cy σ) rfl 11 (by decide) (List.mem_cons_of_mem _ zw13_19) rfl dX11_look_239 ?_
      refine lv_if_eq (tgt := 249) hx hb dX11_look_242 (by decide) (fun q => ?_) (fun q => ?_)
      · replace hf := zif_t q hf
        refine lv_lconst (v := 0) hx hb dX11_look_249 (by decide) ?_
        exact bX11_look_250 hC hE hst  hI (lv_sub hl [] rfl) hf
      replace hf := zif_f q hf
      refine lv_lconst (v := 1) hx hb dX11_look_245 (by decide) ?_
      refine lv_goto (tgt := 250) hx hb dX11_look_246 (by decide) ?_
      exact bX11_look_250 hC hE hst  hI (lv_sub hl [] rfl) hf
    replace hf := zif_f q15 hf
    by_cases q16 : x1 = 16
    · replace hf := zif_t q16 hf
      refine lv_tableIn (tgt := 251) hx hb dX11_look_22 (by rw [q16]; decide) (by rw [q16]; decide) (by rw [q16]; rfl) (by decide) ?_
      refine lv_aload_n hx hb dX11_look_251 rfl (lv_at hl 0 rfl) ?_
      refine z_get hC hI hinX11_look_X110 0 (wC_e0 ad cy σ) rfl 9 (by decide) (List.mem_cons_of_mem _ zw3_6) rfl dX11_look_252 ?_
      obtain ⟨σ25, v26, g25, hf⟩ := zbi_use hf
      refine z_callVi (As := []) (rest := []) hC hI (cX1_plansWaiting_met st l D ad cy σ  _ g25) (zgV zw69_9 zw69_10 zw69_11 zw3_5 zw69_12) rfl ⟨rfl, rfl⟩ 0 hdX1_plansWaiting ⟨Nat.le_of_ble_eq_true rfl, Nat.le_of_ble_eq_true rfl⟩ rfl rfl (wC_e9 ad cy σ) rfl hl rfl (Nat.le_of_ble_eq_true rfl) dX11_look_255 ⟨Nat.zero_le _, Nat.zero_le _⟩ (fun H locs hI => ?_)
      refine lv_i2l (v := v26.toInt64) hx hb dX11_look_258 rfl ?_
      exact z_xlreturn hC hI hf dX11_look_259
    replace hf := zif_f q16 hf
    by_cases q17 : x1 = 17
    · replace hf := zif_t q17 hf
      refine lv_tableIn (tgt := 260) hx hb dX11_look_22 (by rw [q17]; decide) (by rw [q17]; decide) (by rw [q17]; rfl) (by decide) ?_
      refine lv_aload_n hx hb dX11_look_260 rfl (lv_at hl 0 rfl) ?_
      refine z_get hC hI hinX11_look_X110 0 (wC_e0 ad cy σ) rfl 8 (by decide) (List.mem_cons_of_mem _ zw3_2) rfl dX11_look_261 ?_
      refine z_get hC hI hinX11_look_X00 8 (wC_e8 ad cy σ) rfl 3 (by decide) (List.mem_cons_of_mem _ zw93_2) rfl dX11_look_264 ?_
      obtain ⟨σ27, v28, g27, hf⟩ := zbi_use hf
      refine z_callVi (As := []) (rest := []) hC hI (cX6_size_k12_met st l D ad cy σ  _ g27) (zgV zw92_7 zw92_8 zw92_9 zw7_17 zw92_10) rfl ⟨rfl, rfl⟩ 0 hdX6_size_k12 ⟨Nat.le_of_ble_eq_true rfl, Nat.le_of_ble_eq_true rfl⟩ rfl rfl (wC_e12 ad cy σ) rfl hl rfl (Nat.le_of_ble_eq_true rfl) dX11_look_267 ⟨Nat.zero_le _, Nat.zero_le _⟩ (fun H locs hI => ?_)
      refine lv_i2l (v := v28.toInt64) hx hb dX11_look_270 rfl ?_
      exact z_xlreturn hC hI hf dX11_look_271
    replace hf := zif_f q17 hf
    refine lv_tableOut (tgt := 272) hx hb dX11_look_22 (zsw (fun k h1 h2 => by rcases (show k = 0 ∨ k = 1 ∨ k = 2 ∨ k = 3 ∨ k = 4 ∨ k = 5 ∨ k = 6 ∨ k = 7 ∨ k = 8 ∨ k = 9 ∨ k = 10 ∨ k = 11 ∨ k = 12 ∨ k = 13 ∨ k = 14 ∨ k = 15 ∨ k = 16 ∨ k = 17 by omega) with rfl | rfl | rfl | rfl | rfl | rfl | rfl | rfl | rfl | rfl | rfl | rfl | rfl | rfl | rfl | rfl | rfl | rfl <;> assumption)) (by decide) ?_
    refine lv_aload_n hx hb dX11_look_272 rfl (lv_at hl 0 rfl) ?_
    refine z_get hC hI hinX11_look_X110 0 (wC_e0 ad cy σ) rfl 10 (by decide) (List.mem_cons_of_mem _ zw3_10) rfl dX11_look_273 ?_
    refine z_get hC hI hinX11_look_X80 10 (wC_e10 ad cy σ) rfl 2 (by decide) (List.mem_cons_of_mem _ zw78_14) rfl dX11_look_276 ?_
    refine lv_i2l (v := (zgi σ 10 2).toInt64) hx hb dX11_look_279 rfl ?_
    exact z_xlreturn hC hI hf dX11_look_280
  replace hf := zif_f q hf
  exact bX11_look_10 hC hE hst  hI (lv_sub hl [] rfl) hf
set_option maxRecDepth 20000 in
theorem cX11_look_met (st : Nat → Nat) (l : Launch) (hst : l.stackTraces = false) (D : va_G) (ad : Nat → Nat) (cy : Nat → ClassId) (σ : zSt) (x1 : Int32) (res : zRl) (hf : fX11_look σ x1 = some res) (sz : Nat) : zXl st l yX11_look wzX11_look rmX11_look [.ref (ad 0), .int x1] D (tC cy) (wC ad cy) sz σ res :=
  zXl.of (cc := cX11_look) (maxL := 2) (ret := (some .long)) (by decide) rfl (Nat.le_of_ble_eq_true rfl) (fun p e s m args below meth c hC hE A hI ls hl => bX11_look hC hE hst hI hl hf)
theorem hdX11_look : yX11_look.cls = RX11 ∧ yX11_look.cls ≠ "java/lang/invoke/MethodHandle" ∧ yX11_look.cls ≠ "java/lang/invoke/VarHandle" ∧ (parseMethodDescriptor yX11_look.desc).map (fun d => d.parameters.length) = some 1 := by decide +kernel
