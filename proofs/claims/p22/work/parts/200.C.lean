def kn_cX0_keep : Nat := 0xb12800b61000b42a2800b60a00b42a2200b80710031700b42a031300b42a
theorem zk_cX0_keep : zkd cX0_keep.data.toList kn_cX0_keep = true := by decide +kernel
theorem zn_cX0_keep : cX0_keep.data.toList.length = 30 := by decide +kernel
theorem dX0_keep_0 : decode cX0_keep 0 = .ok (.aload_n 0, 1) := zo_42 (zkb zk_cX0_keep zn_cX0_keep (by decide +kernel))
theorem dX0_keep_1 : decode cX0_keep 1 = .ok (.getfield 19, 3) := zo_180 (b1 := 0) (b2 := 19) (zkb3 zk_cX0_keep zn_cX0_keep (by decide +kernel)) rfl
theorem dX0_keep_4 : decode cX0_keep 4 = .ok (.iconst 0, 1) := zo_3 (zkb zk_cX0_keep zn_cX0_keep (by decide +kernel))
theorem dX0_keep_5 : decode cX0_keep 5 = .ok (.aload_n 0, 1) := zo_42 (zkb zk_cX0_keep zn_cX0_keep (by decide +kernel))
theorem dX0_keep_6 : decode cX0_keep 6 = .ok (.getfield 23, 3) := zo_180 (b1 := 0) (b2 := 23) (zkb3 zk_cX0_keep zn_cX0_keep (by decide +kernel)) rfl
theorem dX0_keep_9 : decode cX0_keep 9 = .ok (.iconst 0, 1) := zo_3 (zkb zk_cX0_keep zn_cX0_keep (by decide +kernel))
theorem dX0_keep_10 : decode cX0_keep 10 = .ok (.bipush 7, 2) := zo_16 (b1 := 7) (zkb2 zk_cX0_keep zn_cX0_keep (by decide +kernel)) rfl
theorem dX0_keep_12 : decode cX0_keep 12 = .ok (.invokestatic 34, 3) := zo_184 (b1 := 0) (b2 := 34) (zkb3 zk_cX0_keep zn_cX0_keep (by decide +kernel)) rfl
theorem dX0_keep_15 : decode cX0_keep 15 = .ok (.aload_n 0, 1) := zo_42 (zkb zk_cX0_keep zn_cX0_keep (by decide +kernel))
theorem dX0_keep_16 : decode cX0_keep 16 = .ok (.getfield 10, 3) := zo_180 (b1 := 0) (b2 := 10) (zkb3 zk_cX0_keep zn_cX0_keep (by decide +kernel)) rfl
theorem dX0_keep_19 : decode cX0_keep 19 = .ok (.invokevirtual 40, 3) := zo_182 (b1 := 0) (b2 := 40) (zkb3 zk_cX0_keep zn_cX0_keep (by decide +kernel)) rfl
theorem dX0_keep_22 : decode cX0_keep 22 = .ok (.aload_n 0, 1) := zo_42 (zkb zk_cX0_keep zn_cX0_keep (by decide +kernel))
theorem dX0_keep_23 : decode cX0_keep 23 = .ok (.getfield 16, 3) := zo_180 (b1 := 0) (b2 := 16) (zkb3 zk_cX0_keep zn_cX0_keep (by decide +kernel)) rfl
theorem dX0_keep_26 : decode cX0_keep 26 = .ok (.invokevirtual 40, 3) := zo_182 (b1 := 0) (b2 := 40) (zkb3 zk_cX0_keep zn_cX0_keep (by decide +kernel)) rfl
theorem dX0_keep_29 : decode cX0_keep 29 = .ok (.return_, 1) := zo_177 (zkb zk_cX0_keep zn_cX0_keep (by decide +kernel))
def kn_cX0_bringBack : Nat := 0xb12b00b61000b42a2b00b60a00b42a2200b80710031300b42a031700b42a
theorem zk_cX0_bringBack : zkd cX0_bringBack.data.toList kn_cX0_bringBack = true := by decide +kernel
theorem zn_cX0_bringBack : cX0_bringBack.data.toList.length = 30 := by decide +kernel
theorem dX0_bringBack_0 : decode cX0_bringBack 0 = .ok (.aload_n 0, 1) := zo_42 (zkb zk_cX0_bringBack zn_cX0_bringBack (by decide +kernel))
theorem dX0_bringBack_1 : decode cX0_bringBack 1 = .ok (.getfield 23, 3) := zo_180 (b1 := 0) (b2 := 23) (zkb3 zk_cX0_bringBack zn_cX0_bringBack (by decide +kernel)) rfl
theorem dX0_bringBack_4 : decode cX0_bringBack 4 = .ok (.iconst 0, 1) := zo_3 (zkb zk_cX0_bringBack zn_cX0_bringBack (by decide +kernel))
theorem dX0_bringBack_5 : decode cX0_bringBack 5 = .ok (.aload_n 0, 1) := zo_42 (zkb zk_cX0_bringBack zn_cX0_bringBack (by decide +kernel))
theorem dX0_bringBack_6 : decode cX0_bringBack 6 = .ok (.getfield 19, 3) := zo_180 (b1 := 0) (b2 := 19) (zkb3 zk_cX0_bringBack zn_cX0_bringBack (by decide +kernel)) rfl
theorem dX0_bringBack_9 : decode cX0_bringBack 9 = .ok (.iconst 0, 1) := zo_3 (zkb zk_cX0_bringBack zn_cX0_bringBack (by decide +kernel))
theorem dX0_bringBack_10 : decode cX0_bringBack 10 = .ok (.bipush 7, 2) := zo_16 (b1 := 7) (zkb2 zk_cX0_bringBack zn_cX0_bringBack (by decide +kernel)) rfl
theorem dX0_bringBack_12 : decode cX0_bringBack 12 = .ok (.invokestatic 34, 3) := zo_184 (b1 := 0) (b2 := 34) (zkb3 zk_cX0_bringBack zn_cX0_bringBack (by decide +kernel)) rfl
theorem dX0_bringBack_15 : decode cX0_bringBack 15 = .ok (.aload_n 0, 1) := zo_42 (zkb zk_cX0_bringBack zn_cX0_bringBack (by decide +kernel))
theorem dX0_bringBack_16 : decode cX0_bringBack 16 = .ok (.getfield 10, 3) := zo_180 (b1 := 0) (b2 := 10) (zkb3 zk_cX0_bringBack zn_cX0_bringBack (by decide +kernel)) rfl
theorem dX0_bringBack_19 : decode cX0_bringBack 19 = .ok (.invokevirtual 43, 3) := zo_182 (b1 := 0) (b2 := 43) (zkb3 zk_cX0_bringBack zn_cX0_bringBack (by decide +kernel)) rfl
theorem dX0_bringBack_22 : decode cX0_bringBack 22 = .ok (.aload_n 0, 1) := zo_42 (zkb zk_cX0_bringBack zn_cX0_bringBack (by decide +kernel))
theorem dX0_bringBack_23 : decode cX0_bringBack 23 = .ok (.getfield 16, 3) := zo_180 (b1 := 0) (b2 := 16) (zkb3 zk_cX0_bringBack zn_cX0_bringBack (by decide +kernel)) rfl
theorem dX0_bringBack_26 : decode cX0_bringBack 26 = .ok (.invokevirtual 43, 3) := zo_182 (b1 := 0) (b2 := 43) (zkb3 zk_cX0_bringBack zn_cX0_bringBack (by decide +kernel)) rfl
theorem dX0_bringBack_29 : decode cX0_bringBack 29 = .ok (.return_, 1) := zo_177 (zkb zk_cX0_bringBack zn_cX0_bringBack (by decide +kernel))
def kn_cX0_count : Nat := 0xad090400a72f1b1300b42a0c00a207101b12009b1b
theorem zk_cX0_count : zkd cX0_count.data.toList kn_cX0_count = true := by decide +kernel
theorem zn_cX0_count : cX0_count.data.toList.length = 21 := by decide +kernel
theorem dX0_count_0 : decode cX0_count 0 = .ok (.iload_n 1, 1) := zo_27 (zkb zk_cX0_count zn_cX0_count (by decide +kernel))
theorem dX0_count_1 : decode cX0_count 1 = .ok (.ifCond .lt 18, 3) := zo_155 (b1 := 0) (b2 := 18) (zkb3 zk_cX0_count zn_cX0_count (by decide +kernel)) rfl
theorem dX0_count_4 : decode cX0_count 4 = .ok (.iload_n 1, 1) := zo_27 (zkb zk_cX0_count zn_cX0_count (by decide +kernel))
theorem dX0_count_5 : decode cX0_count 5 = .ok (.bipush 7, 2) := zo_16 (b1 := 7) (zkb2 zk_cX0_count zn_cX0_count (by decide +kernel)) rfl
theorem dX0_count_7 : decode cX0_count 7 = .ok (.if_icmp .ge 12, 3) := zo_162 (b1 := 0) (b2 := 12) (zkb3 zk_cX0_count zn_cX0_count (by decide +kernel)) rfl
theorem dX0_count_10 : decode cX0_count 10 = .ok (.aload_n 0, 1) := zo_42 (zkb zk_cX0_count zn_cX0_count (by decide +kernel))
theorem dX0_count_11 : decode cX0_count 11 = .ok (.getfield 19, 3) := zo_180 (b1 := 0) (b2 := 19) (zkb3 zk_cX0_count zn_cX0_count (by decide +kernel)) rfl
theorem dX0_count_14 : decode cX0_count 14 = .ok (.iload_n 1, 1) := zo_27 (zkb zk_cX0_count zn_cX0_count (by decide +kernel))
theorem dX0_count_15 : decode cX0_count 15 = .ok (.laload, 1) := zo_47 (zkb zk_cX0_count zn_cX0_count (by decide +kernel))
theorem dX0_count_16 : decode cX0_count 16 = .ok (.goto 4, 3) := zo_167 (b1 := 0) (b2 := 4) (zkb3 zk_cX0_count zn_cX0_count (by decide +kernel)) rfl
theorem dX0_count_19 : decode cX0_count 19 = .ok (.lconst 0, 1) := zo_9 (zkb zk_cX0_count zn_cX0_count (by decide +kernel))
theorem dX0_count_20 : decode cX0_count 20 = .ok (.lreturn, 1) := zo_173 (zkb zk_cX0_count zn_cX0_count (by decide +kernel))
def kn_cX0_countPicture : Nat := 0xb150610a2f5c051300b42a
theorem zk_cX0_countPicture : zkd cX0_countPicture.data.toList kn_cX0_countPicture = true := by decide +kernel
theorem zn_cX0_countPicture : cX0_countPicture.data.toList.length = 11 := by decide +kernel
theorem dX0_countPicture_0 : decode cX0_countPicture 0 = .ok (.aload_n 0, 1) := zo_42 (zkb zk_cX0_countPicture zn_cX0_countPicture (by decide +kernel))
theorem dX0_countPicture_1 : decode cX0_countPicture 1 = .ok (.getfield 19, 3) := zo_180 (b1 := 0) (b2 := 19) (zkb3 zk_cX0_countPicture zn_cX0_countPicture (by decide +kernel)) rfl
theorem dX0_countPicture_4 : decode cX0_countPicture 4 = .ok (.iconst 2, 1) := zo_5 (zkb zk_cX0_countPicture zn_cX0_countPicture (by decide +kernel))
theorem dX0_countPicture_5 : decode cX0_countPicture 5 = .ok (.dup2, 1) := zo_92 (zkb zk_cX0_countPicture zn_cX0_countPicture (by decide +kernel))
theorem dX0_countPicture_6 : decode cX0_countPicture 6 = .ok (.laload, 1) := zo_47 (zkb zk_cX0_countPicture zn_cX0_countPicture (by decide +kernel))
theorem dX0_countPicture_7 : decode cX0_countPicture 7 = .ok (.lconst 1, 1) := zo_10 (zkb zk_cX0_countPicture zn_cX0_countPicture (by decide +kernel))
theorem dX0_countPicture_8 : decode cX0_countPicture 8 = .ok (.ladd, 1) := zo_97 (zkb zk_cX0_countPicture zn_cX0_countPicture (by decide +kernel))
theorem dX0_countPicture_9 : decode cX0_countPicture 9 = .ok (.lastore, 1) := zo_80 (zkb zk_cX0_countPicture zn_cX0_countPicture (by decide +kernel))
theorem dX0_countPicture_10 : decode cX0_countPicture 10 = .ok (.return_, 1) := zo_177 (zkb zk_cX0_countPicture zn_cX0_countPicture (by decide +kernel))
def kn_cX0_addSample : Nat := 0xb150610a2f5c06101300b42a5061857e49121b2f5c081300b42a5061857a10101b2f5c071300b42a50610a2f5c061300b42a4500b6851b0a00b42a3c3f00b61a00b42a
theorem zk_cX0_addSample : zkd cX0_addSample.data.toList kn_cX0_addSample = true := by decide +kernel
theorem zn_cX0_addSample : cX0_addSample.data.toList.length = 67 := by decide +kernel
theorem dX0_addSample_0 : decode cX0_addSample 0 = .ok (.aload_n 0, 1) := zo_42 (zkb zk_cX0_addSample zn_cX0_addSample (by decide +kernel))
theorem dX0_addSample_1 : decode cX0_addSample 1 = .ok (.getfield 26, 3) := zo_180 (b1 := 0) (b2 := 26) (zkb3 zk_cX0_addSample zn_cX0_addSample (by decide +kernel)) rfl
theorem dX0_addSample_4 : decode cX0_addSample 4 = .ok (.invokevirtual 63, 3) := zo_182 (b1 := 0) (b2 := 63) (zkb3 zk_cX0_addSample zn_cX0_addSample (by decide +kernel)) rfl
theorem dX0_addSample_7 : decode cX0_addSample 7 = .ok (.istore_n 1, 1) := zo_60 (zkb zk_cX0_addSample zn_cX0_addSample (by decide +kernel))
theorem dX0_addSample_8 : decode cX0_addSample 8 = .ok (.aload_n 0, 1) := zo_42 (zkb zk_cX0_addSample zn_cX0_addSample (by decide +kernel))
theorem dX0_addSample_9 : decode cX0_addSample 9 = .ok (.getfield 10, 3) := zo_180 (b1 := 0) (b2 := 10) (zkb3 zk_cX0_addSample zn_cX0_addSample (by decide +kernel)) rfl
theorem dX0_addSample_12 : decode cX0_addSample 12 = .ok (.iload_n 1, 1) := zo_27 (zkb zk_cX0_addSample zn_cX0_addSample (by decide +kernel))
theorem dX0_addSample_13 : decode cX0_addSample 13 = .ok (.i2l, 1) := zo_133 (zkb zk_cX0_addSample zn_cX0_addSample (by decide +kernel))
theorem dX0_addSample_14 : decode cX0_addSample 14 = .ok (.invokevirtual 69, 3) := zo_182 (b1 := 0) (b2 := 69) (zkb3 zk_cX0_addSample zn_cX0_addSample (by decide +kernel)) rfl
theorem dX0_addSample_17 : decode cX0_addSample 17 = .ok (.aload_n 0, 1) := zo_42 (zkb zk_cX0_addSample zn_cX0_addSample (by decide +kernel))
theorem dX0_addSample_18 : decode cX0_addSample 18 = .ok (.getfield 19, 3) := zo_180 (b1 := 0) (b2 := 19) (zkb3 zk_cX0_addSample zn_cX0_addSample (by decide +kernel)) rfl
theorem dX0_addSample_21 : decode cX0_addSample 21 = .ok (.iconst 3, 1) := zo_6 (zkb zk_cX0_addSample zn_cX0_addSample (by decide +kernel))
theorem dX0_addSample_22 : decode cX0_addSample 22 = .ok (.dup2, 1) := zo_92 (zkb zk_cX0_addSample zn_cX0_addSample (by decide +kernel))
theorem dX0_addSample_23 : decode cX0_addSample 23 = .ok (.laload, 1) := zo_47 (zkb zk_cX0_addSample zn_cX0_addSample (by decide +kernel))
theorem dX0_addSample_24 : decode cX0_addSample 24 = .ok (.lconst 1, 1) := zo_10 (zkb zk_cX0_addSample zn_cX0_addSample (by decide +kernel))
theorem dX0_addSample_25 : decode cX0_addSample 25 = .ok (.ladd, 1) := zo_97 (zkb zk_cX0_addSample zn_cX0_addSample (by decide +kernel))
theorem dX0_addSample_26 : decode cX0_addSample 26 = .ok (.lastore, 1) := zo_80 (zkb zk_cX0_addSample zn_cX0_addSample (by decide +kernel))
theorem dX0_addSample_27 : decode cX0_addSample 27 = .ok (.aload_n 0, 1) := zo_42 (zkb zk_cX0_addSample zn_cX0_addSample (by decide +kernel))
theorem dX0_addSample_28 : decode cX0_addSample 28 = .ok (.getfield 19, 3) := zo_180 (b1 := 0) (b2 := 19) (zkb3 zk_cX0_addSample zn_cX0_addSample (by decide +kernel)) rfl
theorem dX0_addSample_31 : decode cX0_addSample 31 = .ok (.iconst 4, 1) := zo_7 (zkb zk_cX0_addSample zn_cX0_addSample (by decide +kernel))
theorem dX0_addSample_32 : decode cX0_addSample 32 = .ok (.dup2, 1) := zo_92 (zkb zk_cX0_addSample zn_cX0_addSample (by decide +kernel))
theorem dX0_addSample_33 : decode cX0_addSample 33 = .ok (.laload, 1) := zo_47 (zkb zk_cX0_addSample zn_cX0_addSample (by decide +kernel))
theorem dX0_addSample_34 : decode cX0_addSample 34 = .ok (.iload_n 1, 1) := zo_27 (zkb zk_cX0_addSample zn_cX0_addSample (by decide +kernel))
theorem dX0_addSample_35 : decode cX0_addSample 35 = .ok (.bipush 16, 2) := zo_16 (b1 := 16) (zkb2 zk_cX0_addSample zn_cX0_addSample (by decide +kernel)) rfl
theorem dX0_addSample_37 : decode cX0_addSample 37 = .ok (.ishr, 1) := zo_122 (zkb zk_cX0_addSample zn_cX0_addSample (by decide +kernel))
theorem dX0_addSample_38 : decode cX0_addSample 38 = .ok (.i2l, 1) := zo_133 (zkb zk_cX0_addSample zn_cX0_addSample (by decide +kernel))
theorem dX0_addSample_39 : decode cX0_addSample 39 = .ok (.ladd, 1) := zo_97 (zkb zk_cX0_addSample zn_cX0_addSample (by decide +kernel))
theorem dX0_addSample_40 : decode cX0_addSample 40 = .ok (.lastore, 1) := zo_80 (zkb zk_cX0_addSample zn_cX0_addSample (by decide +kernel))
theorem dX0_addSample_41 : decode cX0_addSample 41 = .ok (.aload_n 0, 1) := zo_42 (zkb zk_cX0_addSample zn_cX0_addSample (by decide +kernel))
theorem dX0_addSample_42 : decode cX0_addSample 42 = .ok (.getfield 19, 3) := zo_180 (b1 := 0) (b2 := 19) (zkb3 zk_cX0_addSample zn_cX0_addSample (by decide +kernel)) rfl
theorem dX0_addSample_45 : decode cX0_addSample 45 = .ok (.iconst 5, 1) := zo_8 (zkb zk_cX0_addSample zn_cX0_addSample (by decide +kernel))
theorem dX0_addSample_46 : decode cX0_addSample 46 = .ok (.dup2, 1) := zo_92 (zkb zk_cX0_addSample zn_cX0_addSample (by decide +kernel))
theorem dX0_addSample_47 : decode cX0_addSample 47 = .ok (.laload, 1) := zo_47 (zkb zk_cX0_addSample zn_cX0_addSample (by decide +kernel))
theorem dX0_addSample_48 : decode cX0_addSample 48 = .ok (.iload_n 1, 1) := zo_27 (zkb zk_cX0_addSample zn_cX0_addSample (by decide +kernel))
theorem dX0_addSample_49 : decode cX0_addSample 49 = .ok (.ldc 73, 2) := zo_18 (b1 := 73) (zkb2 zk_cX0_addSample zn_cX0_addSample (by decide +kernel))
theorem dX0_addSample_51 : decode cX0_addSample 51 = .ok (.iand, 1) := zo_126 (zkb zk_cX0_addSample zn_cX0_addSample (by decide +kernel))
theorem dX0_addSample_52 : decode cX0_addSample 52 = .ok (.i2l, 1) := zo_133 (zkb zk_cX0_addSample zn_cX0_addSample (by decide +kernel))
theorem dX0_addSample_53 : decode cX0_addSample 53 = .ok (.ladd, 1) := zo_97 (zkb zk_cX0_addSample zn_cX0_addSample (by decide +kernel))
theorem dX0_addSample_54 : decode cX0_addSample 54 = .ok (.lastore, 1) := zo_80 (zkb zk_cX0_addSample zn_cX0_addSample (by decide +kernel))
theorem dX0_addSample_55 : decode cX0_addSample 55 = .ok (.aload_n 0, 1) := zo_42 (zkb zk_cX0_addSample zn_cX0_addSample (by decide +kernel))
theorem dX0_addSample_56 : decode cX0_addSample 56 = .ok (.getfield 19, 3) := zo_180 (b1 := 0) (b2 := 19) (zkb3 zk_cX0_addSample zn_cX0_addSample (by decide +kernel)) rfl
theorem dX0_addSample_59 : decode cX0_addSample 59 = .ok (.bipush 6, 2) := zo_16 (b1 := 6) (zkb2 zk_cX0_addSample zn_cX0_addSample (by decide +kernel)) rfl
theorem dX0_addSample_61 : decode cX0_addSample 61 = .ok (.dup2, 1) := zo_92 (zkb zk_cX0_addSample zn_cX0_addSample (by decide +kernel))
theorem dX0_addSample_62 : decode cX0_addSample 62 = .ok (.laload, 1) := zo_47 (zkb zk_cX0_addSample zn_cX0_addSample (by decide +kernel))
theorem dX0_addSample_63 : decode cX0_addSample 63 = .ok (.lconst 1, 1) := zo_10 (zkb zk_cX0_addSample zn_cX0_addSample (by decide +kernel))
theorem dX0_addSample_64 : decode cX0_addSample 64 = .ok (.ladd, 1) := zo_97 (zkb zk_cX0_addSample zn_cX0_addSample (by decide +kernel))
theorem dX0_addSample_65 : decode cX0_addSample 65 = .ok (.lastore, 1) := zo_80 (zkb zk_cX0_addSample zn_cX0_addSample (by decide +kernel))
theorem dX0_addSample_66 : decode cX0_addSample 66 = .ok (.return_, 1) := zo_177 (zkb zk_cX0_addSample zn_cX0_addSample (by decide +kernel))
def kn_cX6_add : Nat := 0xb11000b57eff0f1160041000b42a2a1100a71400b560041400b4592a1000a20010111400b42a501f7eff0f11601400b42a1000b42a0900b42a
theorem zk_cX6_add : zkd cX6_add.data.toList kn_cX6_add = true := by decide +kernel
theorem zn_cX6_add : cX6_add.data.toList.length = 57 := by decide +kernel
theorem dX6_add_0 : decode cX6_add 0 = .ok (.aload_n 0, 1) := zo_42 (zkb zk_cX6_add zn_cX6_add (by decide +kernel))
theorem dX6_add_1 : decode cX6_add 1 = .ok (.getfield 9, 3) := zo_180 (b1 := 0) (b2 := 9) (zkb3 zk_cX6_add zn_cX6_add (by decide +kernel)) rfl
theorem dX6_add_4 : decode cX6_add 4 = .ok (.aload_n 0, 1) := zo_42 (zkb zk_cX6_add zn_cX6_add (by decide +kernel))
theorem dX6_add_5 : decode cX6_add 5 = .ok (.getfield 16, 3) := zo_180 (b1 := 0) (b2 := 16) (zkb3 zk_cX6_add zn_cX6_add (by decide +kernel)) rfl
theorem dX6_add_8 : decode cX6_add 8 = .ok (.aload_n 0, 1) := zo_42 (zkb zk_cX6_add zn_cX6_add (by decide +kernel))
theorem dX6_add_9 : decode cX6_add 9 = .ok (.getfield 20, 3) := zo_180 (b1 := 0) (b2 := 20) (zkb3 zk_cX6_add zn_cX6_add (by decide +kernel)) rfl
theorem dX6_add_12 : decode cX6_add 12 = .ok (.iadd, 1) := zo_96 (zkb zk_cX6_add zn_cX6_add (by decide +kernel))
theorem dX6_add_13 : decode cX6_add 13 = .ok (.sipush 4095, 3) := zo_17 (b1 := 15) (b2 := 255) (zkb3 zk_cX6_add zn_cX6_add (by decide +kernel)) rfl
theorem dX6_add_16 : decode cX6_add 16 = .ok (.iand, 1) := zo_126 (zkb zk_cX6_add zn_cX6_add (by decide +kernel))
theorem dX6_add_17 : decode cX6_add 17 = .ok (.lload_n 1, 1) := zo_31 (zkb zk_cX6_add zn_cX6_add (by decide +kernel))
theorem dX6_add_18 : decode cX6_add 18 = .ok (.lastore, 1) := zo_80 (zkb zk_cX6_add zn_cX6_add (by decide +kernel))
theorem dX6_add_19 : decode cX6_add 19 = .ok (.aload_n 0, 1) := zo_42 (zkb zk_cX6_add zn_cX6_add (by decide +kernel))
theorem dX6_add_20 : decode cX6_add 20 = .ok (.getfield 20, 3) := zo_180 (b1 := 0) (b2 := 20) (zkb3 zk_cX6_add zn_cX6_add (by decide +kernel)) rfl
theorem dX6_add_23 : decode cX6_add 23 = .ok (.sipush 4096, 3) := zo_17 (b1 := 16) (b2 := 0) (zkb3 zk_cX6_add zn_cX6_add (by decide +kernel)) rfl
theorem dX6_add_26 : decode cX6_add 26 = .ok (.if_icmp .ge 16, 3) := zo_162 (b1 := 0) (b2 := 16) (zkb3 zk_cX6_add zn_cX6_add (by decide +kernel)) rfl
theorem dX6_add_29 : decode cX6_add 29 = .ok (.aload_n 0, 1) := zo_42 (zkb zk_cX6_add zn_cX6_add (by decide +kernel))
theorem dX6_add_30 : decode cX6_add 30 = .ok (.dup, 1) := zo_89 (zkb zk_cX6_add zn_cX6_add (by decide +kernel))
theorem dX6_add_31 : decode cX6_add 31 = .ok (.getfield 20, 3) := zo_180 (b1 := 0) (b2 := 20) (zkb3 zk_cX6_add zn_cX6_add (by decide +kernel)) rfl
theorem dX6_add_34 : decode cX6_add 34 = .ok (.iconst 1, 1) := zo_4 (zkb zk_cX6_add zn_cX6_add (by decide +kernel))
theorem dX6_add_35 : decode cX6_add 35 = .ok (.iadd, 1) := zo_96 (zkb zk_cX6_add zn_cX6_add (by decide +kernel))
theorem dX6_add_36 : decode cX6_add 36 = .ok (.putfield 20, 3) := zo_181 (b1 := 0) (b2 := 20) (zkb3 zk_cX6_add zn_cX6_add (by decide +kernel)) rfl
theorem dX6_add_39 : decode cX6_add 39 = .ok (.goto 17, 3) := zo_167 (b1 := 0) (b2 := 17) (zkb3 zk_cX6_add zn_cX6_add (by decide +kernel)) rfl
theorem dX6_add_42 : decode cX6_add 42 = .ok (.aload_n 0, 1) := zo_42 (zkb zk_cX6_add zn_cX6_add (by decide +kernel))
theorem dX6_add_43 : decode cX6_add 43 = .ok (.aload_n 0, 1) := zo_42 (zkb zk_cX6_add zn_cX6_add (by decide +kernel))
theorem dX6_add_44 : decode cX6_add 44 = .ok (.getfield 16, 3) := zo_180 (b1 := 0) (b2 := 16) (zkb3 zk_cX6_add zn_cX6_add (by decide +kernel)) rfl
theorem dX6_add_47 : decode cX6_add 47 = .ok (.iconst 1, 1) := zo_4 (zkb zk_cX6_add zn_cX6_add (by decide +kernel))
theorem dX6_add_48 : decode cX6_add 48 = .ok (.iadd, 1) := zo_96 (zkb zk_cX6_add zn_cX6_add (by decide +kernel))
theorem dX6_add_49 : decode cX6_add 49 = .ok (.sipush 4095, 3) := zo_17 (b1 := 15) (b2 := 255) (zkb3 zk_cX6_add zn_cX6_add (by decide +kernel)) rfl
theorem dX6_add_52 : decode cX6_add 52 = .ok (.iand, 1) := zo_126 (zkb zk_cX6_add zn_cX6_add (by decide +kernel))
theorem dX6_add_53 : decode cX6_add 53 = .ok (.putfield 16, 3) := zo_181 (b1 := 0) (b2 := 16) (zkb3 zk_cX6_add zn_cX6_add (by decide +kernel)) rfl
theorem dX6_add_56 : decode cX6_add 56 = .ok (.return_, 1) := zo_177 (zkb zk_cX6_add zn_cX6_add (by decide +kernel))
def kn_cX6_keep : Nat := 0xb12000b51400b42a2a1d00b51000b42a2a1700b8001011030d00b42a030900b42a
theorem zk_cX6_keep : zkd cX6_keep.data.toList kn_cX6_keep = true := by decide +kernel
theorem zn_cX6_keep : cX6_keep.data.toList.length = 33 := by decide +kernel
theorem dX6_keep_0 : decode cX6_keep 0 = .ok (.aload_n 0, 1) := zo_42 (zkb zk_cX6_keep zn_cX6_keep (by decide +kernel))
theorem dX6_keep_1 : decode cX6_keep 1 = .ok (.getfield 9, 3) := zo_180 (b1 := 0) (b2 := 9) (zkb3 zk_cX6_keep zn_cX6_keep (by decide +kernel)) rfl
theorem dX6_keep_4 : decode cX6_keep 4 = .ok (.iconst 0, 1) := zo_3 (zkb zk_cX6_keep zn_cX6_keep (by decide +kernel))
theorem dX6_keep_5 : decode cX6_keep 5 = .ok (.aload_n 0, 1) := zo_42 (zkb zk_cX6_keep zn_cX6_keep (by decide +kernel))
theorem dX6_keep_6 : decode cX6_keep 6 = .ok (.getfield 13, 3) := zo_180 (b1 := 0) (b2 := 13) (zkb3 zk_cX6_keep zn_cX6_keep (by decide +kernel)) rfl
theorem dX6_keep_9 : decode cX6_keep 9 = .ok (.iconst 0, 1) := zo_3 (zkb zk_cX6_keep zn_cX6_keep (by decide +kernel))
theorem dX6_keep_10 : decode cX6_keep 10 = .ok (.sipush 4096, 3) := zo_17 (b1 := 16) (b2 := 0) (zkb3 zk_cX6_keep zn_cX6_keep (by decide +kernel)) rfl
theorem dX6_keep_13 : decode cX6_keep 13 = .ok (.invokestatic 23, 3) := zo_184 (b1 := 0) (b2 := 23) (zkb3 zk_cX6_keep zn_cX6_keep (by decide +kernel)) rfl
theorem dX6_keep_16 : decode cX6_keep 16 = .ok (.aload_n 0, 1) := zo_42 (zkb zk_cX6_keep zn_cX6_keep (by decide +kernel))
theorem dX6_keep_17 : decode cX6_keep 17 = .ok (.aload_n 0, 1) := zo_42 (zkb zk_cX6_keep zn_cX6_keep (by decide +kernel))
theorem dX6_keep_18 : decode cX6_keep 18 = .ok (.getfield 16, 3) := zo_180 (b1 := 0) (b2 := 16) (zkb3 zk_cX6_keep zn_cX6_keep (by decide +kernel)) rfl
theorem dX6_keep_21 : decode cX6_keep 21 = .ok (.putfield 29, 3) := zo_181 (b1 := 0) (b2 := 29) (zkb3 zk_cX6_keep zn_cX6_keep (by decide +kernel)) rfl
theorem dX6_keep_24 : decode cX6_keep 24 = .ok (.aload_n 0, 1) := zo_42 (zkb zk_cX6_keep zn_cX6_keep (by decide +kernel))
theorem dX6_keep_25 : decode cX6_keep 25 = .ok (.aload_n 0, 1) := zo_42 (zkb zk_cX6_keep zn_cX6_keep (by decide +kernel))
theorem dX6_keep_26 : decode cX6_keep 26 = .ok (.getfield 20, 3) := zo_180 (b1 := 0) (b2 := 20) (zkb3 zk_cX6_keep zn_cX6_keep (by decide +kernel)) rfl
theorem dX6_keep_29 : decode cX6_keep 29 = .ok (.putfield 32, 3) := zo_181 (b1 := 0) (b2 := 32) (zkb3 zk_cX6_keep zn_cX6_keep (by decide +kernel)) rfl
theorem dX6_keep_32 : decode cX6_keep 32 = .ok (.return_, 1) := zo_177 (zkb zk_cX6_keep zn_cX6_keep (by decide +kernel))
def kn_cX6_bringBack : Nat := 0xb11400b52000b42a2a1000b51d00b42a2a1700b8001011030900b42a030d00b42a
theorem zk_cX6_bringBack : zkd cX6_bringBack.data.toList kn_cX6_bringBack = true := by decide +kernel
theorem zn_cX6_bringBack : cX6_bringBack.data.toList.length = 33 := by decide +kernel
theorem dX6_bringBack_0 : decode cX6_bringBack 0 = .ok (.aload_n 0, 1) := zo_42 (zkb zk_cX6_bringBack zn_cX6_bringBack (by decide +kernel))
theorem dX6_bringBack_1 : decode cX6_bringBack 1 = .ok (.getfield 13, 3) := zo_180 (b1 := 0) (b2 := 13) (zkb3 zk_cX6_bringBack zn_cX6_bringBack (by decide +kernel)) rfl
theorem dX6_bringBack_4 : decode cX6_bringBack 4 = .ok (.iconst 0, 1) := zo_3 (zkb zk_cX6_bringBack zn_cX6_bringBack (by decide +kernel))
theorem dX6_bringBack_5 : decode cX6_bringBack 5 = .ok (.aload_n 0, 1) := zo_42 (zkb zk_cX6_bringBack zn_cX6_bringBack (by decide +kernel))
theorem dX6_bringBack_6 : decode cX6_bringBack 6 = .ok (.getfield 9, 3) := zo_180 (b1 := 0) (b2 := 9) (zkb3 zk_cX6_bringBack zn_cX6_bringBack (by decide +kernel)) rfl
theorem dX6_bringBack_9 : decode cX6_bringBack 9 = .ok (.iconst 0, 1) := zo_3 (zkb zk_cX6_bringBack zn_cX6_bringBack (by decide +kernel))
theorem dX6_bringBack_10 : decode cX6_bringBack 10 = .ok (.sipush 4096, 3) := zo_17 (b1 := 16) (b2 := 0) (zkb3 zk_cX6_bringBack zn_cX6_bringBack (by decide +kernel)) rfl
theorem dX6_bringBack_13 : decode cX6_bringBack 13 = .ok (.invokestatic 23, 3) := zo_184 (b1 := 0) (b2 := 23) (zkb3 zk_cX6_bringBack zn_cX6_bringBack (by decide +kernel)) rfl
theorem dX6_bringBack_16 : decode cX6_bringBack 16 = .ok (.aload_n 0, 1) := zo_42 (zkb zk_cX6_bringBack zn_cX6_bringBack (by decide +kernel))
theorem dX6_bringBack_17 : decode cX6_bringBack 17 = .ok (.aload_n 0, 1) := zo_42 (zkb zk_cX6_bringBack zn_cX6_bringBack (by decide +kernel))
theorem dX6_bringBack_18 : decode cX6_bringBack 18 = .ok (.getfield 29, 3) := zo_180 (b1 := 0) (b2 := 29) (zkb3 zk_cX6_bringBack zn_cX6_bringBack (by decide +kernel)) rfl
theorem dX6_bringBack_21 : decode cX6_bringBack 21 = .ok (.putfield 16, 3) := zo_181 (b1 := 0) (b2 := 16) (zkb3 zk_cX6_bringBack zn_cX6_bringBack (by decide +kernel)) rfl
theorem dX6_bringBack_24 : decode cX6_bringBack 24 = .ok (.aload_n 0, 1) := zo_42 (zkb zk_cX6_bringBack zn_cX6_bringBack (by decide +kernel))
theorem dX6_bringBack_25 : decode cX6_bringBack 25 = .ok (.aload_n 0, 1) := zo_42 (zkb zk_cX6_bringBack zn_cX6_bringBack (by decide +kernel))
theorem dX6_bringBack_26 : decode cX6_bringBack 26 = .ok (.getfield 32, 3) := zo_180 (b1 := 0) (b2 := 32) (zkb3 zk_cX6_bringBack zn_cX6_bringBack (by decide +kernel)) rfl
theorem dX6_bringBack_29 : decode cX6_bringBack 29 = .ok (.putfield 20, 3) := zo_181 (b1 := 0) (b2 := 20) (zkb3 zk_cX6_bringBack zn_cX6_bringBack (by decide +kernel)) rfl
theorem dX6_bringBack_32 : decode cX6_bringBack 32 = .ok (.return_, 1) := zo_177 (zkb zk_cX6_bringBack zn_cX6_bringBack (by decide +kernel))
def kn_cX7_nextSample : Nat := 0xac801c7810101b9cffa70103843d606805157e047a1d2e12100900b42a1c3c606805157e047a60071d2e12100900b42a1b0536030400a72e7e0f102e601d09100900b42a2a00b21600a004041504362e601d06100900b42a0c00a77e042e10100900b42a0f00a0061d6500a2071d3e033d033c032700b62af3ffa70101842300b61b2a0e00a2061b3c03
theorem zk_cX7_nextSample : zkd cX7_nextSample.data.toList kn_cX7_nextSample = true := by decide +kernel
theorem zn_cX7_nextSample : cX7_nextSample.data.toList.length = 138 := by decide +kernel
theorem dX7_nextSample_0 : decode cX7_nextSample 0 = .ok (.iconst 0, 1) := zo_3 (zkb zk_cX7_nextSample zn_cX7_nextSample (by decide +kernel))
theorem dX7_nextSample_1 : decode cX7_nextSample 1 = .ok (.istore_n 1, 1) := zo_60 (zkb zk_cX7_nextSample zn_cX7_nextSample (by decide +kernel))
theorem dX7_nextSample_2 : decode cX7_nextSample 2 = .ok (.iload_n 1, 1) := zo_27 (zkb zk_cX7_nextSample zn_cX7_nextSample (by decide +kernel))
theorem dX7_nextSample_3 : decode cX7_nextSample 3 = .ok (.iconst 3, 1) := zo_6 (zkb zk_cX7_nextSample zn_cX7_nextSample (by decide +kernel))
theorem dX7_nextSample_4 : decode cX7_nextSample 4 = .ok (.if_icmp .ge 14, 3) := zo_162 (b1 := 0) (b2 := 14) (zkb3 zk_cX7_nextSample zn_cX7_nextSample (by decide +kernel)) rfl
theorem dX7_nextSample_7 : decode cX7_nextSample 7 = .ok (.aload_n 0, 1) := zo_42 (zkb zk_cX7_nextSample zn_cX7_nextSample (by decide +kernel))
theorem dX7_nextSample_8 : decode cX7_nextSample 8 = .ok (.iload_n 1, 1) := zo_27 (zkb zk_cX7_nextSample zn_cX7_nextSample (by decide +kernel))
theorem dX7_nextSample_9 : decode cX7_nextSample 9 = .ok (.invokevirtual 35, 3) := zo_182 (b1 := 0) (b2 := 35) (zkb3 zk_cX7_nextSample zn_cX7_nextSample (by decide +kernel)) rfl
theorem dX7_nextSample_12 : decode cX7_nextSample 12 = .ok (.iinc 1 1, 3) := zo_132 (b1 := 1) (b2 := 1) (zkb3 zk_cX7_nextSample zn_cX7_nextSample (by decide +kernel)) rfl
theorem dX7_nextSample_15 : decode cX7_nextSample 15 = .ok (.goto (-13), 3) := zo_167 (b1 := 255) (b2 := 243) (zkb3 zk_cX7_nextSample zn_cX7_nextSample (by decide +kernel)) rfl
theorem dX7_nextSample_18 : decode cX7_nextSample 18 = .ok (.aload_n 0, 1) := zo_42 (zkb zk_cX7_nextSample zn_cX7_nextSample (by decide +kernel))
theorem dX7_nextSample_19 : decode cX7_nextSample 19 = .ok (.invokevirtual 39, 3) := zo_182 (b1 := 0) (b2 := 39) (zkb3 zk_cX7_nextSample zn_cX7_nextSample (by decide +kernel)) rfl
theorem dX7_nextSample_22 : decode cX7_nextSample 22 = .ok (.iconst 0, 1) := zo_3 (zkb zk_cX7_nextSample zn_cX7_nextSample (by decide +kernel))
theorem dX7_nextSample_23 : decode cX7_nextSample 23 = .ok (.istore_n 1, 1) := zo_60 (zkb zk_cX7_nextSample zn_cX7_nextSample (by decide +kernel))
theorem dX7_nextSample_24 : decode cX7_nextSample 24 = .ok (.iconst 0, 1) := zo_3 (zkb zk_cX7_nextSample zn_cX7_nextSample (by decide +kernel))
theorem dX7_nextSample_25 : decode cX7_nextSample 25 = .ok (.istore_n 2, 1) := zo_61 (zkb zk_cX7_nextSample zn_cX7_nextSample (by decide +kernel))
theorem dX7_nextSample_26 : decode cX7_nextSample 26 = .ok (.iconst 0, 1) := zo_3 (zkb zk_cX7_nextSample zn_cX7_nextSample (by decide +kernel))
theorem dX7_nextSample_27 : decode cX7_nextSample 27 = .ok (.istore_n 3, 1) := zo_62 (zkb zk_cX7_nextSample zn_cX7_nextSample (by decide +kernel))
theorem dX7_nextSample_28 : decode cX7_nextSample 28 = .ok (.iload_n 3, 1) := zo_29 (zkb zk_cX7_nextSample zn_cX7_nextSample (by decide +kernel))
theorem dX7_nextSample_29 : decode cX7_nextSample 29 = .ok (.iconst 4, 1) := zo_7 (zkb zk_cX7_nextSample zn_cX7_nextSample (by decide +kernel))
theorem dX7_nextSample_30 : decode cX7_nextSample 30 = .ok (.if_icmp .ge 101, 3) := zo_162 (b1 := 0) (b2 := 101) (zkb3 zk_cX7_nextSample zn_cX7_nextSample (by decide +kernel)) rfl
theorem dX7_nextSample_33 : decode cX7_nextSample 33 = .ok (.iload_n 3, 1) := zo_29 (zkb zk_cX7_nextSample zn_cX7_nextSample (by decide +kernel))
theorem dX7_nextSample_34 : decode cX7_nextSample 34 = .ok (.iconst 3, 1) := zo_6 (zkb zk_cX7_nextSample zn_cX7_nextSample (by decide +kernel))
theorem dX7_nextSample_35 : decode cX7_nextSample 35 = .ok (.if_icmp .ne 15, 3) := zo_160 (b1 := 0) (b2 := 15) (zkb3 zk_cX7_nextSample zn_cX7_nextSample (by decide +kernel)) rfl
theorem dX7_nextSample_38 : decode cX7_nextSample 38 = .ok (.aload_n 0, 1) := zo_42 (zkb zk_cX7_nextSample zn_cX7_nextSample (by decide +kernel))
theorem dX7_nextSample_39 : decode cX7_nextSample 39 = .ok (.getfield 9, 3) := zo_180 (b1 := 0) (b2 := 9) (zkb3 zk_cX7_nextSample zn_cX7_nextSample (by decide +kernel)) rfl
theorem dX7_nextSample_42 : decode cX7_nextSample 42 = .ok (.bipush 16, 2) := zo_16 (b1 := 16) (zkb2 zk_cX7_nextSample zn_cX7_nextSample (by decide +kernel)) rfl
theorem dX7_nextSample_44 : decode cX7_nextSample 44 = .ok (.iaload, 1) := zo_46 (zkb zk_cX7_nextSample zn_cX7_nextSample (by decide +kernel))
theorem dX7_nextSample_45 : decode cX7_nextSample 45 = .ok (.iconst 1, 1) := zo_4 (zkb zk_cX7_nextSample zn_cX7_nextSample (by decide +kernel))
theorem dX7_nextSample_46 : decode cX7_nextSample 46 = .ok (.iand, 1) := zo_126 (zkb zk_cX7_nextSample zn_cX7_nextSample (by decide +kernel))
theorem dX7_nextSample_47 : decode cX7_nextSample 47 = .ok (.goto 12, 3) := zo_167 (b1 := 0) (b2 := 12) (zkb3 zk_cX7_nextSample zn_cX7_nextSample (by decide +kernel)) rfl
theorem dX7_nextSample_50 : decode cX7_nextSample 50 = .ok (.aload_n 0, 1) := zo_42 (zkb zk_cX7_nextSample zn_cX7_nextSample (by decide +kernel))
theorem dX7_nextSample_51 : decode cX7_nextSample 51 = .ok (.getfield 9, 3) := zo_180 (b1 := 0) (b2 := 9) (zkb3 zk_cX7_nextSample zn_cX7_nextSample (by decide +kernel)) rfl
theorem dX7_nextSample_54 : decode cX7_nextSample 54 = .ok (.bipush 6, 2) := zo_16 (b1 := 6) (zkb2 zk_cX7_nextSample zn_cX7_nextSample (by decide +kernel)) rfl
theorem dX7_nextSample_56 : decode cX7_nextSample 56 = .ok (.iload_n 3, 1) := zo_29 (zkb zk_cX7_nextSample zn_cX7_nextSample (by decide +kernel))
theorem dX7_nextSample_57 : decode cX7_nextSample 57 = .ok (.iadd, 1) := zo_96 (zkb zk_cX7_nextSample zn_cX7_nextSample (by decide +kernel))
theorem dX7_nextSample_58 : decode cX7_nextSample 58 = .ok (.iaload, 1) := zo_46 (zkb zk_cX7_nextSample zn_cX7_nextSample (by decide +kernel))
theorem dX7_nextSample_59 : decode cX7_nextSample 59 = .ok (.istore 4, 2) := zo_54 (b1 := 4) (zkb2 zk_cX7_nextSample zn_cX7_nextSample (by decide +kernel))
theorem dX7_nextSample_61 : decode cX7_nextSample 61 = .ok (.iload 4, 2) := zo_21 (b1 := 4) (zkb2 zk_cX7_nextSample zn_cX7_nextSample (by decide +kernel))
theorem dX7_nextSample_63 : decode cX7_nextSample 63 = .ok (.iconst 1, 1) := zo_4 (zkb zk_cX7_nextSample zn_cX7_nextSample (by decide +kernel))
theorem dX7_nextSample_64 : decode cX7_nextSample 64 = .ok (.if_icmp .ne 22, 3) := zo_160 (b1 := 0) (b2 := 22) (zkb3 zk_cX7_nextSample zn_cX7_nextSample (by decide +kernel)) rfl
theorem dX7_nextSample_67 : decode cX7_nextSample 67 = .ok (.getstatic 42, 3) := zo_178 (b1 := 0) (b2 := 42) (zkb3 zk_cX7_nextSample zn_cX7_nextSample (by decide +kernel)) rfl
theorem dX7_nextSample_70 : decode cX7_nextSample 70 = .ok (.aload_n 0, 1) := zo_42 (zkb zk_cX7_nextSample zn_cX7_nextSample (by decide +kernel))
theorem dX7_nextSample_71 : decode cX7_nextSample 71 = .ok (.getfield 9, 3) := zo_180 (b1 := 0) (b2 := 9) (zkb3 zk_cX7_nextSample zn_cX7_nextSample (by decide +kernel)) rfl
theorem dX7_nextSample_74 : decode cX7_nextSample 74 = .ok (.bipush 9, 2) := zo_16 (b1 := 9) (zkb2 zk_cX7_nextSample zn_cX7_nextSample (by decide +kernel)) rfl
theorem dX7_nextSample_76 : decode cX7_nextSample 76 = .ok (.iload_n 3, 1) := zo_29 (zkb zk_cX7_nextSample zn_cX7_nextSample (by decide +kernel))
theorem dX7_nextSample_77 : decode cX7_nextSample 77 = .ok (.iadd, 1) := zo_96 (zkb zk_cX7_nextSample zn_cX7_nextSample (by decide +kernel))
theorem dX7_nextSample_78 : decode cX7_nextSample 78 = .ok (.iaload, 1) := zo_46 (zkb zk_cX7_nextSample zn_cX7_nextSample (by decide +kernel))
theorem dX7_nextSample_79 : decode cX7_nextSample 79 = .ok (.bipush 15, 2) := zo_16 (b1 := 15) (zkb2 zk_cX7_nextSample zn_cX7_nextSample (by decide +kernel)) rfl
theorem dX7_nextSample_81 : decode cX7_nextSample 81 = .ok (.iand, 1) := zo_126 (zkb zk_cX7_nextSample zn_cX7_nextSample (by decide +kernel))
theorem dX7_nextSample_82 : decode cX7_nextSample 82 = .ok (.iaload, 1) := zo_46 (zkb zk_cX7_nextSample zn_cX7_nextSample (by decide +kernel))
theorem dX7_nextSample_83 : decode cX7_nextSample 83 = .ok (.goto 4, 3) := zo_167 (b1 := 0) (b2 := 4) (zkb3 zk_cX7_nextSample zn_cX7_nextSample (by decide +kernel)) rfl
theorem dX7_nextSample_86 : decode cX7_nextSample 86 = .ok (.iconst 0, 1) := zo_3 (zkb zk_cX7_nextSample zn_cX7_nextSample (by decide +kernel))
theorem dX7_nextSample_87 : decode cX7_nextSample 87 = .ok (.istore 5, 2) := zo_54 (b1 := 5) (zkb2 zk_cX7_nextSample zn_cX7_nextSample (by decide +kernel))
theorem dX7_nextSample_89 : decode cX7_nextSample 89 = .ok (.iload_n 1, 1) := zo_27 (zkb zk_cX7_nextSample zn_cX7_nextSample (by decide +kernel))
theorem dX7_nextSample_90 : decode cX7_nextSample 90 = .ok (.aload_n 0, 1) := zo_42 (zkb zk_cX7_nextSample zn_cX7_nextSample (by decide +kernel))
theorem dX7_nextSample_91 : decode cX7_nextSample 91 = .ok (.getfield 9, 3) := zo_180 (b1 := 0) (b2 := 9) (zkb3 zk_cX7_nextSample zn_cX7_nextSample (by decide +kernel)) rfl
theorem dX7_nextSample_94 : decode cX7_nextSample 94 = .ok (.bipush 18, 2) := zo_16 (b1 := 18) (zkb2 zk_cX7_nextSample zn_cX7_nextSample (by decide +kernel)) rfl
theorem dX7_nextSample_96 : decode cX7_nextSample 96 = .ok (.iaload, 1) := zo_46 (zkb zk_cX7_nextSample zn_cX7_nextSample (by decide +kernel))
theorem dX7_nextSample_97 : decode cX7_nextSample 97 = .ok (.iload_n 3, 1) := zo_29 (zkb zk_cX7_nextSample zn_cX7_nextSample (by decide +kernel))
theorem dX7_nextSample_98 : decode cX7_nextSample 98 = .ok (.iconst 4, 1) := zo_7 (zkb zk_cX7_nextSample zn_cX7_nextSample (by decide +kernel))
theorem dX7_nextSample_99 : decode cX7_nextSample 99 = .ok (.iadd, 1) := zo_96 (zkb zk_cX7_nextSample zn_cX7_nextSample (by decide +kernel))
theorem dX7_nextSample_100 : decode cX7_nextSample 100 = .ok (.ishr, 1) := zo_122 (zkb zk_cX7_nextSample zn_cX7_nextSample (by decide +kernel))
theorem dX7_nextSample_101 : decode cX7_nextSample 101 = .ok (.iconst 1, 1) := zo_4 (zkb zk_cX7_nextSample zn_cX7_nextSample (by decide +kernel))
theorem dX7_nextSample_102 : decode cX7_nextSample 102 = .ok (.iand, 1) := zo_126 (zkb zk_cX7_nextSample zn_cX7_nextSample (by decide +kernel))
theorem dX7_nextSample_103 : decode cX7_nextSample 103 = .ok (.iload 5, 2) := zo_21 (b1 := 5) (zkb2 zk_cX7_nextSample zn_cX7_nextSample (by decide +kernel))
theorem dX7_nextSample_105 : decode cX7_nextSample 105 = .ok (.imul, 1) := zo_104 (zkb zk_cX7_nextSample zn_cX7_nextSample (by decide +kernel))
theorem dX7_nextSample_106 : decode cX7_nextSample 106 = .ok (.iadd, 1) := zo_96 (zkb zk_cX7_nextSample zn_cX7_nextSample (by decide +kernel))
theorem dX7_nextSample_107 : decode cX7_nextSample 107 = .ok (.istore_n 1, 1) := zo_60 (zkb zk_cX7_nextSample zn_cX7_nextSample (by decide +kernel))
theorem dX7_nextSample_108 : decode cX7_nextSample 108 = .ok (.iload_n 2, 1) := zo_28 (zkb zk_cX7_nextSample zn_cX7_nextSample (by decide +kernel))
theorem dX7_nextSample_109 : decode cX7_nextSample 109 = .ok (.aload_n 0, 1) := zo_42 (zkb zk_cX7_nextSample zn_cX7_nextSample (by decide +kernel))
theorem dX7_nextSample_110 : decode cX7_nextSample 110 = .ok (.getfield 9, 3) := zo_180 (b1 := 0) (b2 := 9) (zkb3 zk_cX7_nextSample zn_cX7_nextSample (by decide +kernel)) rfl
theorem dX7_nextSample_113 : decode cX7_nextSample 113 = .ok (.bipush 18, 2) := zo_16 (b1 := 18) (zkb2 zk_cX7_nextSample zn_cX7_nextSample (by decide +kernel)) rfl
theorem dX7_nextSample_115 : decode cX7_nextSample 115 = .ok (.iaload, 1) := zo_46 (zkb zk_cX7_nextSample zn_cX7_nextSample (by decide +kernel))
theorem dX7_nextSample_116 : decode cX7_nextSample 116 = .ok (.iload_n 3, 1) := zo_29 (zkb zk_cX7_nextSample zn_cX7_nextSample (by decide +kernel))
theorem dX7_nextSample_117 : decode cX7_nextSample 117 = .ok (.ishr, 1) := zo_122 (zkb zk_cX7_nextSample zn_cX7_nextSample (by decide +kernel))
theorem dX7_nextSample_118 : decode cX7_nextSample 118 = .ok (.iconst 1, 1) := zo_4 (zkb zk_cX7_nextSample zn_cX7_nextSample (by decide +kernel))
theorem dX7_nextSample_119 : decode cX7_nextSample 119 = .ok (.iand, 1) := zo_126 (zkb zk_cX7_nextSample zn_cX7_nextSample (by decide +kernel))
theorem dX7_nextSample_120 : decode cX7_nextSample 120 = .ok (.iload 5, 2) := zo_21 (b1 := 5) (zkb2 zk_cX7_nextSample zn_cX7_nextSample (by decide +kernel))
theorem dX7_nextSample_122 : decode cX7_nextSample 122 = .ok (.imul, 1) := zo_104 (zkb zk_cX7_nextSample zn_cX7_nextSample (by decide +kernel))
theorem dX7_nextSample_123 : decode cX7_nextSample 123 = .ok (.iadd, 1) := zo_96 (zkb zk_cX7_nextSample zn_cX7_nextSample (by decide +kernel))
theorem dX7_nextSample_124 : decode cX7_nextSample 124 = .ok (.istore_n 2, 1) := zo_61 (zkb zk_cX7_nextSample zn_cX7_nextSample (by decide +kernel))
theorem dX7_nextSample_125 : decode cX7_nextSample 125 = .ok (.iinc 3 1, 3) := zo_132 (b1 := 3) (b2 := 1) (zkb3 zk_cX7_nextSample zn_cX7_nextSample (by decide +kernel)) rfl
theorem dX7_nextSample_128 : decode cX7_nextSample 128 = .ok (.goto (-100), 3) := zo_167 (b1 := 255) (b2 := 156) (zkb3 zk_cX7_nextSample zn_cX7_nextSample (by decide +kernel)) rfl
theorem dX7_nextSample_131 : decode cX7_nextSample 131 = .ok (.iload_n 1, 1) := zo_27 (zkb zk_cX7_nextSample zn_cX7_nextSample (by decide +kernel))
theorem dX7_nextSample_132 : decode cX7_nextSample 132 = .ok (.bipush 16, 2) := zo_16 (b1 := 16) (zkb2 zk_cX7_nextSample zn_cX7_nextSample (by decide +kernel)) rfl
theorem dX7_nextSample_134 : decode cX7_nextSample 134 = .ok (.ishl, 1) := zo_120 (zkb zk_cX7_nextSample zn_cX7_nextSample (by decide +kernel))
theorem dX7_nextSample_135 : decode cX7_nextSample 135 = .ok (.iload_n 2, 1) := zo_28 (zkb zk_cX7_nextSample zn_cX7_nextSample (by decide +kernel))
theorem dX7_nextSample_136 : decode cX7_nextSample 136 = .ok (.ior, 1) := zo_128 (zkb zk_cX7_nextSample zn_cX7_nextSample (by decide +kernel))
theorem dX7_nextSample_137 : decode cX7_nextSample 137 = .ok (.ireturn, 1) := zo_172 (zkb zk_cX7_nextSample zn_cX7_nextSample (by decide +kernel))
def kn_cX7_moveTone : Nat := 0xb14f1c601b060900b42a4f82042e601b06100900b42a0e00a7040700a3041c601b06100900b42a3d2e601b030900b42a29009a1c3d2d00b864042e601b060900b42a03
theorem zk_cX7_moveTone : zkd cX7_moveTone.data.toList kn_cX7_moveTone = true := by decide +kernel
theorem zn_cX7_moveTone : cX7_moveTone.data.toList.length = 67 := by decide +kernel
theorem dX7_moveTone_0 : decode cX7_moveTone 0 = .ok (.iconst 0, 1) := zo_3 (zkb zk_cX7_moveTone zn_cX7_moveTone (by decide +kernel))
theorem dX7_moveTone_1 : decode cX7_moveTone 1 = .ok (.aload_n 0, 1) := zo_42 (zkb zk_cX7_moveTone zn_cX7_moveTone (by decide +kernel))
theorem dX7_moveTone_2 : decode cX7_moveTone 2 = .ok (.getfield 9, 3) := zo_180 (b1 := 0) (b2 := 9) (zkb3 zk_cX7_moveTone zn_cX7_moveTone (by decide +kernel)) rfl
theorem dX7_moveTone_5 : decode cX7_moveTone 5 = .ok (.iconst 3, 1) := zo_6 (zkb zk_cX7_moveTone zn_cX7_moveTone (by decide +kernel))
theorem dX7_moveTone_6 : decode cX7_moveTone 6 = .ok (.iload_n 1, 1) := zo_27 (zkb zk_cX7_moveTone zn_cX7_moveTone (by decide +kernel))
theorem dX7_moveTone_7 : decode cX7_moveTone 7 = .ok (.iadd, 1) := zo_96 (zkb zk_cX7_moveTone zn_cX7_moveTone (by decide +kernel))
theorem dX7_moveTone_8 : decode cX7_moveTone 8 = .ok (.iaload, 1) := zo_46 (zkb zk_cX7_moveTone zn_cX7_moveTone (by decide +kernel))
theorem dX7_moveTone_9 : decode cX7_moveTone 9 = .ok (.iconst 1, 1) := zo_4 (zkb zk_cX7_moveTone zn_cX7_moveTone (by decide +kernel))
theorem dX7_moveTone_10 : decode cX7_moveTone 10 = .ok (.isub, 1) := zo_100 (zkb zk_cX7_moveTone zn_cX7_moveTone (by decide +kernel))
theorem dX7_moveTone_11 : decode cX7_moveTone 11 = .ok (.invokestatic 45, 3) := zo_184 (b1 := 0) (b2 := 45) (zkb3 zk_cX7_moveTone zn_cX7_moveTone (by decide +kernel)) rfl
theorem dX7_moveTone_14 : decode cX7_moveTone 14 = .ok (.istore_n 2, 1) := zo_61 (zkb zk_cX7_moveTone zn_cX7_moveTone (by decide +kernel))
theorem dX7_moveTone_15 : decode cX7_moveTone 15 = .ok (.iload_n 2, 1) := zo_28 (zkb zk_cX7_moveTone zn_cX7_moveTone (by decide +kernel))
theorem dX7_moveTone_16 : decode cX7_moveTone 16 = .ok (.ifCond .ne 41, 3) := zo_154 (b1 := 0) (b2 := 41) (zkb3 zk_cX7_moveTone zn_cX7_moveTone (by decide +kernel)) rfl
theorem dX7_moveTone_19 : decode cX7_moveTone 19 = .ok (.aload_n 0, 1) := zo_42 (zkb zk_cX7_moveTone zn_cX7_moveTone (by decide +kernel))
theorem dX7_moveTone_20 : decode cX7_moveTone 20 = .ok (.getfield 9, 3) := zo_180 (b1 := 0) (b2 := 9) (zkb3 zk_cX7_moveTone zn_cX7_moveTone (by decide +kernel)) rfl
theorem dX7_moveTone_23 : decode cX7_moveTone 23 = .ok (.iconst 0, 1) := zo_3 (zkb zk_cX7_moveTone zn_cX7_moveTone (by decide +kernel))
theorem dX7_moveTone_24 : decode cX7_moveTone 24 = .ok (.iload_n 1, 1) := zo_27 (zkb zk_cX7_moveTone zn_cX7_moveTone (by decide +kernel))
theorem dX7_moveTone_25 : decode cX7_moveTone 25 = .ok (.iadd, 1) := zo_96 (zkb zk_cX7_moveTone zn_cX7_moveTone (by decide +kernel))
theorem dX7_moveTone_26 : decode cX7_moveTone 26 = .ok (.iaload, 1) := zo_46 (zkb zk_cX7_moveTone zn_cX7_moveTone (by decide +kernel))
theorem dX7_moveTone_27 : decode cX7_moveTone 27 = .ok (.istore_n 2, 1) := zo_61 (zkb zk_cX7_moveTone zn_cX7_moveTone (by decide +kernel))
theorem dX7_moveTone_28 : decode cX7_moveTone 28 = .ok (.aload_n 0, 1) := zo_42 (zkb zk_cX7_moveTone zn_cX7_moveTone (by decide +kernel))
theorem dX7_moveTone_29 : decode cX7_moveTone 29 = .ok (.getfield 9, 3) := zo_180 (b1 := 0) (b2 := 9) (zkb3 zk_cX7_moveTone zn_cX7_moveTone (by decide +kernel)) rfl
theorem dX7_moveTone_32 : decode cX7_moveTone 32 = .ok (.bipush 6, 2) := zo_16 (b1 := 6) (zkb2 zk_cX7_moveTone zn_cX7_moveTone (by decide +kernel)) rfl
theorem dX7_moveTone_34 : decode cX7_moveTone 34 = .ok (.iload_n 1, 1) := zo_27 (zkb zk_cX7_moveTone zn_cX7_moveTone (by decide +kernel))
theorem dX7_moveTone_35 : decode cX7_moveTone 35 = .ok (.iadd, 1) := zo_96 (zkb zk_cX7_moveTone zn_cX7_moveTone (by decide +kernel))
theorem dX7_moveTone_36 : decode cX7_moveTone 36 = .ok (.iload_n 2, 1) := zo_28 (zkb zk_cX7_moveTone zn_cX7_moveTone (by decide +kernel))
theorem dX7_moveTone_37 : decode cX7_moveTone 37 = .ok (.iconst 1, 1) := zo_4 (zkb zk_cX7_moveTone zn_cX7_moveTone (by decide +kernel))
theorem dX7_moveTone_38 : decode cX7_moveTone 38 = .ok (.if_icmp .gt 7, 3) := zo_163 (b1 := 0) (b2 := 7) (zkb3 zk_cX7_moveTone zn_cX7_moveTone (by decide +kernel)) rfl
theorem dX7_moveTone_41 : decode cX7_moveTone 41 = .ok (.iconst 1, 1) := zo_4 (zkb zk_cX7_moveTone zn_cX7_moveTone (by decide +kernel))
theorem dX7_moveTone_42 : decode cX7_moveTone 42 = .ok (.goto 14, 3) := zo_167 (b1 := 0) (b2 := 14) (zkb3 zk_cX7_moveTone zn_cX7_moveTone (by decide +kernel)) rfl
theorem dX7_moveTone_45 : decode cX7_moveTone 45 = .ok (.aload_n 0, 1) := zo_42 (zkb zk_cX7_moveTone zn_cX7_moveTone (by decide +kernel))
theorem dX7_moveTone_46 : decode cX7_moveTone 46 = .ok (.getfield 9, 3) := zo_180 (b1 := 0) (b2 := 9) (zkb3 zk_cX7_moveTone zn_cX7_moveTone (by decide +kernel)) rfl
theorem dX7_moveTone_49 : decode cX7_moveTone 49 = .ok (.bipush 6, 2) := zo_16 (b1 := 6) (zkb2 zk_cX7_moveTone zn_cX7_moveTone (by decide +kernel)) rfl
theorem dX7_moveTone_51 : decode cX7_moveTone 51 = .ok (.iload_n 1, 1) := zo_27 (zkb zk_cX7_moveTone zn_cX7_moveTone (by decide +kernel))
theorem dX7_moveTone_52 : decode cX7_moveTone 52 = .ok (.iadd, 1) := zo_96 (zkb zk_cX7_moveTone zn_cX7_moveTone (by decide +kernel))
theorem dX7_moveTone_53 : decode cX7_moveTone 53 = .ok (.iaload, 1) := zo_46 (zkb zk_cX7_moveTone zn_cX7_moveTone (by decide +kernel))
theorem dX7_moveTone_54 : decode cX7_moveTone 54 = .ok (.iconst 1, 1) := zo_4 (zkb zk_cX7_moveTone zn_cX7_moveTone (by decide +kernel))
theorem dX7_moveTone_55 : decode cX7_moveTone 55 = .ok (.ixor, 1) := zo_130 (zkb zk_cX7_moveTone zn_cX7_moveTone (by decide +kernel))
theorem dX7_moveTone_56 : decode cX7_moveTone 56 = .ok (.iastore, 1) := zo_79 (zkb zk_cX7_moveTone zn_cX7_moveTone (by decide +kernel))
theorem dX7_moveTone_57 : decode cX7_moveTone 57 = .ok (.aload_n 0, 1) := zo_42 (zkb zk_cX7_moveTone zn_cX7_moveTone (by decide +kernel))
theorem dX7_moveTone_58 : decode cX7_moveTone 58 = .ok (.getfield 9, 3) := zo_180 (b1 := 0) (b2 := 9) (zkb3 zk_cX7_moveTone zn_cX7_moveTone (by decide +kernel)) rfl
theorem dX7_moveTone_61 : decode cX7_moveTone 61 = .ok (.iconst 3, 1) := zo_6 (zkb zk_cX7_moveTone zn_cX7_moveTone (by decide +kernel))
theorem dX7_moveTone_62 : decode cX7_moveTone 62 = .ok (.iload_n 1, 1) := zo_27 (zkb zk_cX7_moveTone zn_cX7_moveTone (by decide +kernel))
theorem dX7_moveTone_63 : decode cX7_moveTone 63 = .ok (.iadd, 1) := zo_96 (zkb zk_cX7_moveTone zn_cX7_moveTone (by decide +kernel))
theorem dX7_moveTone_64 : decode cX7_moveTone 64 = .ok (.iload_n 2, 1) := zo_28 (zkb zk_cX7_moveTone zn_cX7_moveTone (by decide +kernel))
theorem dX7_moveTone_65 : decode cX7_moveTone 65 = .ok (.iastore, 1) := zo_79 (zkb zk_cX7_moveTone zn_cX7_moveTone (by decide +kernel))
theorem dX7_moveTone_66 : decode cX7_moveTone 66 = .ok (.return_, 1) := zo_177 (zkb zk_cX7_moveTone zn_cX7_moveTone (by decide +kernel))
def kn_cX7_moveNoise : Nat := 0xb14f80780f101d7a041c10100900b42a3e7e04827a061c1c0a00a77e041c0900a2072e0d100900b42a3d2e10100900b42a3300a0042e0f100900b42a4f82042e5c0f100900b42a4f781b10100700a72e050900b42a0c00a0061b0e100900b42a3c7e062e0d100900b42ab104009e2e0e100900b42a4f2d00b864042e0e100900b42a030e100900b42a
theorem zk_cX7_moveNoise : zkd cX7_moveNoise.data.toList kn_cX7_moveNoise = true := by decide +kernel
theorem zn_cX7_moveNoise : cX7_moveNoise.data.toList.length = 137 := by decide +kernel
theorem dX7_moveNoise_0 : decode cX7_moveNoise 0 = .ok (.aload_n 0, 1) := zo_42 (zkb zk_cX7_moveNoise zn_cX7_moveNoise (by decide +kernel))
theorem dX7_moveNoise_1 : decode cX7_moveNoise 1 = .ok (.getfield 9, 3) := zo_180 (b1 := 0) (b2 := 9) (zkb3 zk_cX7_moveNoise zn_cX7_moveNoise (by decide +kernel)) rfl
theorem dX7_moveNoise_4 : decode cX7_moveNoise 4 = .ok (.bipush 14, 2) := zo_16 (b1 := 14) (zkb2 zk_cX7_moveNoise zn_cX7_moveNoise (by decide +kernel)) rfl
theorem dX7_moveNoise_6 : decode cX7_moveNoise 6 = .ok (.iconst 0, 1) := zo_3 (zkb zk_cX7_moveNoise zn_cX7_moveNoise (by decide +kernel))
theorem dX7_moveNoise_7 : decode cX7_moveNoise 7 = .ok (.aload_n 0, 1) := zo_42 (zkb zk_cX7_moveNoise zn_cX7_moveNoise (by decide +kernel))
theorem dX7_moveNoise_8 : decode cX7_moveNoise 8 = .ok (.getfield 9, 3) := zo_180 (b1 := 0) (b2 := 9) (zkb3 zk_cX7_moveNoise zn_cX7_moveNoise (by decide +kernel)) rfl
theorem dX7_moveNoise_11 : decode cX7_moveNoise 11 = .ok (.bipush 14, 2) := zo_16 (b1 := 14) (zkb2 zk_cX7_moveNoise zn_cX7_moveNoise (by decide +kernel)) rfl
theorem dX7_moveNoise_13 : decode cX7_moveNoise 13 = .ok (.iaload, 1) := zo_46 (zkb zk_cX7_moveNoise zn_cX7_moveNoise (by decide +kernel))
theorem dX7_moveNoise_14 : decode cX7_moveNoise 14 = .ok (.iconst 1, 1) := zo_4 (zkb zk_cX7_moveNoise zn_cX7_moveNoise (by decide +kernel))
theorem dX7_moveNoise_15 : decode cX7_moveNoise 15 = .ok (.isub, 1) := zo_100 (zkb zk_cX7_moveNoise zn_cX7_moveNoise (by decide +kernel))
theorem dX7_moveNoise_16 : decode cX7_moveNoise 16 = .ok (.invokestatic 45, 3) := zo_184 (b1 := 0) (b2 := 45) (zkb3 zk_cX7_moveNoise zn_cX7_moveNoise (by decide +kernel)) rfl
theorem dX7_moveNoise_19 : decode cX7_moveNoise 19 = .ok (.iastore, 1) := zo_79 (zkb zk_cX7_moveNoise zn_cX7_moveNoise (by decide +kernel))
theorem dX7_moveNoise_20 : decode cX7_moveNoise 20 = .ok (.aload_n 0, 1) := zo_42 (zkb zk_cX7_moveNoise zn_cX7_moveNoise (by decide +kernel))
theorem dX7_moveNoise_21 : decode cX7_moveNoise 21 = .ok (.getfield 9, 3) := zo_180 (b1 := 0) (b2 := 9) (zkb3 zk_cX7_moveNoise zn_cX7_moveNoise (by decide +kernel)) rfl
theorem dX7_moveNoise_24 : decode cX7_moveNoise 24 = .ok (.bipush 14, 2) := zo_16 (b1 := 14) (zkb2 zk_cX7_moveNoise zn_cX7_moveNoise (by decide +kernel)) rfl
theorem dX7_moveNoise_26 : decode cX7_moveNoise 26 = .ok (.iaload, 1) := zo_46 (zkb zk_cX7_moveNoise zn_cX7_moveNoise (by decide +kernel))
theorem dX7_moveNoise_27 : decode cX7_moveNoise 27 = .ok (.ifCond .le 4, 3) := zo_158 (b1 := 0) (b2 := 4) (zkb3 zk_cX7_moveNoise zn_cX7_moveNoise (by decide +kernel)) rfl
theorem dX7_moveNoise_30 : decode cX7_moveNoise 30 = .ok (.return_, 1) := zo_177 (zkb zk_cX7_moveNoise zn_cX7_moveNoise (by decide +kernel))
theorem dX7_moveNoise_31 : decode cX7_moveNoise 31 = .ok (.aload_n 0, 1) := zo_42 (zkb zk_cX7_moveNoise zn_cX7_moveNoise (by decide +kernel))
theorem dX7_moveNoise_32 : decode cX7_moveNoise 32 = .ok (.getfield 9, 3) := zo_180 (b1 := 0) (b2 := 9) (zkb3 zk_cX7_moveNoise zn_cX7_moveNoise (by decide +kernel)) rfl
theorem dX7_moveNoise_35 : decode cX7_moveNoise 35 = .ok (.bipush 13, 2) := zo_16 (b1 := 13) (zkb2 zk_cX7_moveNoise zn_cX7_moveNoise (by decide +kernel)) rfl
theorem dX7_moveNoise_37 : decode cX7_moveNoise 37 = .ok (.iaload, 1) := zo_46 (zkb zk_cX7_moveNoise zn_cX7_moveNoise (by decide +kernel))
theorem dX7_moveNoise_38 : decode cX7_moveNoise 38 = .ok (.iconst 3, 1) := zo_6 (zkb zk_cX7_moveNoise zn_cX7_moveNoise (by decide +kernel))
theorem dX7_moveNoise_39 : decode cX7_moveNoise 39 = .ok (.iand, 1) := zo_126 (zkb zk_cX7_moveNoise zn_cX7_moveNoise (by decide +kernel))
theorem dX7_moveNoise_40 : decode cX7_moveNoise 40 = .ok (.istore_n 1, 1) := zo_60 (zkb zk_cX7_moveNoise zn_cX7_moveNoise (by decide +kernel))
theorem dX7_moveNoise_41 : decode cX7_moveNoise 41 = .ok (.aload_n 0, 1) := zo_42 (zkb zk_cX7_moveNoise zn_cX7_moveNoise (by decide +kernel))
theorem dX7_moveNoise_42 : decode cX7_moveNoise 42 = .ok (.getfield 9, 3) := zo_180 (b1 := 0) (b2 := 9) (zkb3 zk_cX7_moveNoise zn_cX7_moveNoise (by decide +kernel)) rfl
theorem dX7_moveNoise_45 : decode cX7_moveNoise 45 = .ok (.bipush 14, 2) := zo_16 (b1 := 14) (zkb2 zk_cX7_moveNoise zn_cX7_moveNoise (by decide +kernel)) rfl
theorem dX7_moveNoise_47 : decode cX7_moveNoise 47 = .ok (.iload_n 1, 1) := zo_27 (zkb zk_cX7_moveNoise zn_cX7_moveNoise (by decide +kernel))
theorem dX7_moveNoise_48 : decode cX7_moveNoise 48 = .ok (.iconst 3, 1) := zo_6 (zkb zk_cX7_moveNoise zn_cX7_moveNoise (by decide +kernel))
theorem dX7_moveNoise_49 : decode cX7_moveNoise 49 = .ok (.if_icmp .ne 12, 3) := zo_160 (b1 := 0) (b2 := 12) (zkb3 zk_cX7_moveNoise zn_cX7_moveNoise (by decide +kernel)) rfl
theorem dX7_moveNoise_52 : decode cX7_moveNoise 52 = .ok (.aload_n 0, 1) := zo_42 (zkb zk_cX7_moveNoise zn_cX7_moveNoise (by decide +kernel))
theorem dX7_moveNoise_53 : decode cX7_moveNoise 53 = .ok (.getfield 9, 3) := zo_180 (b1 := 0) (b2 := 9) (zkb3 zk_cX7_moveNoise zn_cX7_moveNoise (by decide +kernel)) rfl
theorem dX7_moveNoise_56 : decode cX7_moveNoise 56 = .ok (.iconst 2, 1) := zo_5 (zkb zk_cX7_moveNoise zn_cX7_moveNoise (by decide +kernel))
theorem dX7_moveNoise_57 : decode cX7_moveNoise 57 = .ok (.iaload, 1) := zo_46 (zkb zk_cX7_moveNoise zn_cX7_moveNoise (by decide +kernel))
theorem dX7_moveNoise_58 : decode cX7_moveNoise 58 = .ok (.goto 7, 3) := zo_167 (b1 := 0) (b2 := 7) (zkb3 zk_cX7_moveNoise zn_cX7_moveNoise (by decide +kernel)) rfl
theorem dX7_moveNoise_61 : decode cX7_moveNoise 61 = .ok (.bipush 16, 2) := zo_16 (b1 := 16) (zkb2 zk_cX7_moveNoise zn_cX7_moveNoise (by decide +kernel)) rfl
theorem dX7_moveNoise_63 : decode cX7_moveNoise 63 = .ok (.iload_n 1, 1) := zo_27 (zkb zk_cX7_moveNoise zn_cX7_moveNoise (by decide +kernel))
theorem dX7_moveNoise_64 : decode cX7_moveNoise 64 = .ok (.ishl, 1) := zo_120 (zkb zk_cX7_moveNoise zn_cX7_moveNoise (by decide +kernel))
theorem dX7_moveNoise_65 : decode cX7_moveNoise 65 = .ok (.iastore, 1) := zo_79 (zkb zk_cX7_moveNoise zn_cX7_moveNoise (by decide +kernel))
theorem dX7_moveNoise_66 : decode cX7_moveNoise 66 = .ok (.aload_n 0, 1) := zo_42 (zkb zk_cX7_moveNoise zn_cX7_moveNoise (by decide +kernel))
theorem dX7_moveNoise_67 : decode cX7_moveNoise 67 = .ok (.getfield 9, 3) := zo_180 (b1 := 0) (b2 := 9) (zkb3 zk_cX7_moveNoise zn_cX7_moveNoise (by decide +kernel)) rfl
theorem dX7_moveNoise_70 : decode cX7_moveNoise 70 = .ok (.bipush 15, 2) := zo_16 (b1 := 15) (zkb2 zk_cX7_moveNoise zn_cX7_moveNoise (by decide +kernel)) rfl
theorem dX7_moveNoise_72 : decode cX7_moveNoise 72 = .ok (.dup2, 1) := zo_92 (zkb zk_cX7_moveNoise zn_cX7_moveNoise (by decide +kernel))
theorem dX7_moveNoise_73 : decode cX7_moveNoise 73 = .ok (.iaload, 1) := zo_46 (zkb zk_cX7_moveNoise zn_cX7_moveNoise (by decide +kernel))
theorem dX7_moveNoise_74 : decode cX7_moveNoise 74 = .ok (.iconst 1, 1) := zo_4 (zkb zk_cX7_moveNoise zn_cX7_moveNoise (by decide +kernel))
theorem dX7_moveNoise_75 : decode cX7_moveNoise 75 = .ok (.ixor, 1) := zo_130 (zkb zk_cX7_moveNoise zn_cX7_moveNoise (by decide +kernel))
theorem dX7_moveNoise_76 : decode cX7_moveNoise 76 = .ok (.iastore, 1) := zo_79 (zkb zk_cX7_moveNoise zn_cX7_moveNoise (by decide +kernel))
theorem dX7_moveNoise_77 : decode cX7_moveNoise 77 = .ok (.aload_n 0, 1) := zo_42 (zkb zk_cX7_moveNoise zn_cX7_moveNoise (by decide +kernel))
theorem dX7_moveNoise_78 : decode cX7_moveNoise 78 = .ok (.getfield 9, 3) := zo_180 (b1 := 0) (b2 := 9) (zkb3 zk_cX7_moveNoise zn_cX7_moveNoise (by decide +kernel)) rfl
theorem dX7_moveNoise_81 : decode cX7_moveNoise 81 = .ok (.bipush 15, 2) := zo_16 (b1 := 15) (zkb2 zk_cX7_moveNoise zn_cX7_moveNoise (by decide +kernel)) rfl
theorem dX7_moveNoise_83 : decode cX7_moveNoise 83 = .ok (.iaload, 1) := zo_46 (zkb zk_cX7_moveNoise zn_cX7_moveNoise (by decide +kernel))
theorem dX7_moveNoise_84 : decode cX7_moveNoise 84 = .ok (.iconst 1, 1) := zo_4 (zkb zk_cX7_moveNoise zn_cX7_moveNoise (by decide +kernel))
theorem dX7_moveNoise_85 : decode cX7_moveNoise 85 = .ok (.if_icmp .ne 51, 3) := zo_160 (b1 := 0) (b2 := 51) (zkb3 zk_cX7_moveNoise zn_cX7_moveNoise (by decide +kernel)) rfl
theorem dX7_moveNoise_88 : decode cX7_moveNoise 88 = .ok (.aload_n 0, 1) := zo_42 (zkb zk_cX7_moveNoise zn_cX7_moveNoise (by decide +kernel))
theorem dX7_moveNoise_89 : decode cX7_moveNoise 89 = .ok (.getfield 9, 3) := zo_180 (b1 := 0) (b2 := 9) (zkb3 zk_cX7_moveNoise zn_cX7_moveNoise (by decide +kernel)) rfl
theorem dX7_moveNoise_92 : decode cX7_moveNoise 92 = .ok (.bipush 16, 2) := zo_16 (b1 := 16) (zkb2 zk_cX7_moveNoise zn_cX7_moveNoise (by decide +kernel)) rfl
theorem dX7_moveNoise_94 : decode cX7_moveNoise 94 = .ok (.iaload, 1) := zo_46 (zkb zk_cX7_moveNoise zn_cX7_moveNoise (by decide +kernel))
theorem dX7_moveNoise_95 : decode cX7_moveNoise 95 = .ok (.istore_n 2, 1) := zo_61 (zkb zk_cX7_moveNoise zn_cX7_moveNoise (by decide +kernel))
theorem dX7_moveNoise_96 : decode cX7_moveNoise 96 = .ok (.aload_n 0, 1) := zo_42 (zkb zk_cX7_moveNoise zn_cX7_moveNoise (by decide +kernel))
theorem dX7_moveNoise_97 : decode cX7_moveNoise 97 = .ok (.getfield 9, 3) := zo_180 (b1 := 0) (b2 := 9) (zkb3 zk_cX7_moveNoise zn_cX7_moveNoise (by decide +kernel)) rfl
theorem dX7_moveNoise_100 : decode cX7_moveNoise 100 = .ok (.bipush 13, 2) := zo_16 (b1 := 13) (zkb2 zk_cX7_moveNoise zn_cX7_moveNoise (by decide +kernel)) rfl
theorem dX7_moveNoise_102 : decode cX7_moveNoise 102 = .ok (.iaload, 1) := zo_46 (zkb zk_cX7_moveNoise zn_cX7_moveNoise (by decide +kernel))
theorem dX7_moveNoise_103 : decode cX7_moveNoise 103 = .ok (.iconst 4, 1) := zo_7 (zkb zk_cX7_moveNoise zn_cX7_moveNoise (by decide +kernel))
theorem dX7_moveNoise_104 : decode cX7_moveNoise 104 = .ok (.if_icmp .ge 9, 3) := zo_162 (b1 := 0) (b2 := 9) (zkb3 zk_cX7_moveNoise zn_cX7_moveNoise (by decide +kernel)) rfl
theorem dX7_moveNoise_107 : decode cX7_moveNoise 107 = .ok (.iload_n 2, 1) := zo_28 (zkb zk_cX7_moveNoise zn_cX7_moveNoise (by decide +kernel))
theorem dX7_moveNoise_108 : decode cX7_moveNoise 108 = .ok (.iconst 1, 1) := zo_4 (zkb zk_cX7_moveNoise zn_cX7_moveNoise (by decide +kernel))
theorem dX7_moveNoise_109 : decode cX7_moveNoise 109 = .ok (.iand, 1) := zo_126 (zkb zk_cX7_moveNoise zn_cX7_moveNoise (by decide +kernel))
theorem dX7_moveNoise_110 : decode cX7_moveNoise 110 = .ok (.goto 10, 3) := zo_167 (b1 := 0) (b2 := 10) (zkb3 zk_cX7_moveNoise zn_cX7_moveNoise (by decide +kernel)) rfl
theorem dX7_moveNoise_113 : decode cX7_moveNoise 113 = .ok (.iload_n 2, 1) := zo_28 (zkb zk_cX7_moveNoise zn_cX7_moveNoise (by decide +kernel))
theorem dX7_moveNoise_114 : decode cX7_moveNoise 114 = .ok (.iload_n 2, 1) := zo_28 (zkb zk_cX7_moveNoise zn_cX7_moveNoise (by decide +kernel))
theorem dX7_moveNoise_115 : decode cX7_moveNoise 115 = .ok (.iconst 3, 1) := zo_6 (zkb zk_cX7_moveNoise zn_cX7_moveNoise (by decide +kernel))
theorem dX7_moveNoise_116 : decode cX7_moveNoise 116 = .ok (.ishr, 1) := zo_122 (zkb zk_cX7_moveNoise zn_cX7_moveNoise (by decide +kernel))
theorem dX7_moveNoise_117 : decode cX7_moveNoise 117 = .ok (.ixor, 1) := zo_130 (zkb zk_cX7_moveNoise zn_cX7_moveNoise (by decide +kernel))
theorem dX7_moveNoise_118 : decode cX7_moveNoise 118 = .ok (.iconst 1, 1) := zo_4 (zkb zk_cX7_moveNoise zn_cX7_moveNoise (by decide +kernel))
theorem dX7_moveNoise_119 : decode cX7_moveNoise 119 = .ok (.iand, 1) := zo_126 (zkb zk_cX7_moveNoise zn_cX7_moveNoise (by decide +kernel))
theorem dX7_moveNoise_120 : decode cX7_moveNoise 120 = .ok (.istore_n 3, 1) := zo_62 (zkb zk_cX7_moveNoise zn_cX7_moveNoise (by decide +kernel))
theorem dX7_moveNoise_121 : decode cX7_moveNoise 121 = .ok (.aload_n 0, 1) := zo_42 (zkb zk_cX7_moveNoise zn_cX7_moveNoise (by decide +kernel))
theorem dX7_moveNoise_122 : decode cX7_moveNoise 122 = .ok (.getfield 9, 3) := zo_180 (b1 := 0) (b2 := 9) (zkb3 zk_cX7_moveNoise zn_cX7_moveNoise (by decide +kernel)) rfl
theorem dX7_moveNoise_125 : decode cX7_moveNoise 125 = .ok (.bipush 16, 2) := zo_16 (b1 := 16) (zkb2 zk_cX7_moveNoise zn_cX7_moveNoise (by decide +kernel)) rfl
theorem dX7_moveNoise_127 : decode cX7_moveNoise 127 = .ok (.iload_n 2, 1) := zo_28 (zkb zk_cX7_moveNoise zn_cX7_moveNoise (by decide +kernel))
theorem dX7_moveNoise_128 : decode cX7_moveNoise 128 = .ok (.iconst 1, 1) := zo_4 (zkb zk_cX7_moveNoise zn_cX7_moveNoise (by decide +kernel))
theorem dX7_moveNoise_129 : decode cX7_moveNoise 129 = .ok (.ishr, 1) := zo_122 (zkb zk_cX7_moveNoise zn_cX7_moveNoise (by decide +kernel))
theorem dX7_moveNoise_130 : decode cX7_moveNoise 130 = .ok (.iload_n 3, 1) := zo_29 (zkb zk_cX7_moveNoise zn_cX7_moveNoise (by decide +kernel))
theorem dX7_moveNoise_131 : decode cX7_moveNoise 131 = .ok (.bipush 15, 2) := zo_16 (b1 := 15) (zkb2 zk_cX7_moveNoise zn_cX7_moveNoise (by decide +kernel)) rfl
theorem dX7_moveNoise_133 : decode cX7_moveNoise 133 = .ok (.ishl, 1) := zo_120 (zkb zk_cX7_moveNoise zn_cX7_moveNoise (by decide +kernel))
theorem dX7_moveNoise_134 : decode cX7_moveNoise 134 = .ok (.ior, 1) := zo_128 (zkb zk_cX7_moveNoise zn_cX7_moveNoise (by decide +kernel))
theorem dX7_moveNoise_135 : decode cX7_moveNoise 135 = .ok (.iastore, 1) := zo_79 (zkb zk_cX7_moveNoise zn_cX7_moveNoise (by decide +kernel))
theorem dX7_moveNoise_136 : decode cX7_moveNoise 136 = .ok (.return_, 1) := zo_177 (zkb zk_cX7_moveNoise zn_cX7_moveNoise (by decide +kernel))
def kn_cX10_takeChannel : Nat := 0xb14200b53e00b42a0700a72f64041c3a00b20d00a3be3a00b21c15009e1c2a3d7a072e601b30100900b42a0e00a7601b0a100a00a106101b1000992000b42a3700b57e07107a042e601b20100900b42a2a3400b5807808107e042e601b20100900b42a2e601b10100900b42a2a3000b51b2a
theorem zk_cX10_takeChannel : zkd cX10_takeChannel.data.toList kn_cX10_takeChannel = true := by decide +kernel
theorem zn_cX10_takeChannel : cX10_takeChannel.data.toList.length = 114 := by decide +kernel
theorem dX10_takeChannel_0 : decode cX10_takeChannel 0 = .ok (.aload_n 0, 1) := zo_42 (zkb zk_cX10_takeChannel zn_cX10_takeChannel (by decide +kernel))
theorem dX10_takeChannel_1 : decode cX10_takeChannel 1 = .ok (.iload_n 1, 1) := zo_27 (zkb zk_cX10_takeChannel zn_cX10_takeChannel (by decide +kernel))
theorem dX10_takeChannel_2 : decode cX10_takeChannel 2 = .ok (.putfield 48, 3) := zo_181 (b1 := 0) (b2 := 48) (zkb3 zk_cX10_takeChannel zn_cX10_takeChannel (by decide +kernel)) rfl
theorem dX10_takeChannel_5 : decode cX10_takeChannel 5 = .ok (.aload_n 0, 1) := zo_42 (zkb zk_cX10_takeChannel zn_cX10_takeChannel (by decide +kernel))
theorem dX10_takeChannel_6 : decode cX10_takeChannel 6 = .ok (.aload_n 0, 1) := zo_42 (zkb zk_cX10_takeChannel zn_cX10_takeChannel (by decide +kernel))
theorem dX10_takeChannel_7 : decode cX10_takeChannel 7 = .ok (.getfield 9, 3) := zo_180 (b1 := 0) (b2 := 9) (zkb3 zk_cX10_takeChannel zn_cX10_takeChannel (by decide +kernel)) rfl
theorem dX10_takeChannel_10 : decode cX10_takeChannel 10 = .ok (.bipush 16, 2) := zo_16 (b1 := 16) (zkb2 zk_cX10_takeChannel zn_cX10_takeChannel (by decide +kernel)) rfl
theorem dX10_takeChannel_12 : decode cX10_takeChannel 12 = .ok (.iload_n 1, 1) := zo_27 (zkb zk_cX10_takeChannel zn_cX10_takeChannel (by decide +kernel))
theorem dX10_takeChannel_13 : decode cX10_takeChannel 13 = .ok (.iadd, 1) := zo_96 (zkb zk_cX10_takeChannel zn_cX10_takeChannel (by decide +kernel))
theorem dX10_takeChannel_14 : decode cX10_takeChannel 14 = .ok (.iaload, 1) := zo_46 (zkb zk_cX10_takeChannel zn_cX10_takeChannel (by decide +kernel))
theorem dX10_takeChannel_15 : decode cX10_takeChannel 15 = .ok (.aload_n 0, 1) := zo_42 (zkb zk_cX10_takeChannel zn_cX10_takeChannel (by decide +kernel))
theorem dX10_takeChannel_16 : decode cX10_takeChannel 16 = .ok (.getfield 9, 3) := zo_180 (b1 := 0) (b2 := 9) (zkb3 zk_cX10_takeChannel zn_cX10_takeChannel (by decide +kernel)) rfl
theorem dX10_takeChannel_19 : decode cX10_takeChannel 19 = .ok (.bipush 32, 2) := zo_16 (b1 := 32) (zkb2 zk_cX10_takeChannel zn_cX10_takeChannel (by decide +kernel)) rfl
theorem dX10_takeChannel_21 : decode cX10_takeChannel 21 = .ok (.iload_n 1, 1) := zo_27 (zkb zk_cX10_takeChannel zn_cX10_takeChannel (by decide +kernel))
theorem dX10_takeChannel_22 : decode cX10_takeChannel 22 = .ok (.iadd, 1) := zo_96 (zkb zk_cX10_takeChannel zn_cX10_takeChannel (by decide +kernel))
theorem dX10_takeChannel_23 : decode cX10_takeChannel 23 = .ok (.iaload, 1) := zo_46 (zkb zk_cX10_takeChannel zn_cX10_takeChannel (by decide +kernel))
theorem dX10_takeChannel_24 : decode cX10_takeChannel 24 = .ok (.iconst 1, 1) := zo_4 (zkb zk_cX10_takeChannel zn_cX10_takeChannel (by decide +kernel))
theorem dX10_takeChannel_25 : decode cX10_takeChannel 25 = .ok (.iand, 1) := zo_126 (zkb zk_cX10_takeChannel zn_cX10_takeChannel (by decide +kernel))
theorem dX10_takeChannel_26 : decode cX10_takeChannel 26 = .ok (.bipush 8, 2) := zo_16 (b1 := 8) (zkb2 zk_cX10_takeChannel zn_cX10_takeChannel (by decide +kernel)) rfl
theorem dX10_takeChannel_28 : decode cX10_takeChannel 28 = .ok (.ishl, 1) := zo_120 (zkb zk_cX10_takeChannel zn_cX10_takeChannel (by decide +kernel))
theorem dX10_takeChannel_29 : decode cX10_takeChannel 29 = .ok (.ior, 1) := zo_128 (zkb zk_cX10_takeChannel zn_cX10_takeChannel (by decide +kernel))
theorem dX10_takeChannel_30 : decode cX10_takeChannel 30 = .ok (.putfield 52, 3) := zo_181 (b1 := 0) (b2 := 52) (zkb3 zk_cX10_takeChannel zn_cX10_takeChannel (by decide +kernel)) rfl
theorem dX10_takeChannel_33 : decode cX10_takeChannel 33 = .ok (.aload_n 0, 1) := zo_42 (zkb zk_cX10_takeChannel zn_cX10_takeChannel (by decide +kernel))
theorem dX10_takeChannel_34 : decode cX10_takeChannel 34 = .ok (.aload_n 0, 1) := zo_42 (zkb zk_cX10_takeChannel zn_cX10_takeChannel (by decide +kernel))
theorem dX10_takeChannel_35 : decode cX10_takeChannel 35 = .ok (.getfield 9, 3) := zo_180 (b1 := 0) (b2 := 9) (zkb3 zk_cX10_takeChannel zn_cX10_takeChannel (by decide +kernel)) rfl
theorem dX10_takeChannel_38 : decode cX10_takeChannel 38 = .ok (.bipush 32, 2) := zo_16 (b1 := 32) (zkb2 zk_cX10_takeChannel zn_cX10_takeChannel (by decide +kernel)) rfl
theorem dX10_takeChannel_40 : decode cX10_takeChannel 40 = .ok (.iload_n 1, 1) := zo_27 (zkb zk_cX10_takeChannel zn_cX10_takeChannel (by decide +kernel))
theorem dX10_takeChannel_41 : decode cX10_takeChannel 41 = .ok (.iadd, 1) := zo_96 (zkb zk_cX10_takeChannel zn_cX10_takeChannel (by decide +kernel))
theorem dX10_takeChannel_42 : decode cX10_takeChannel 42 = .ok (.iaload, 1) := zo_46 (zkb zk_cX10_takeChannel zn_cX10_takeChannel (by decide +kernel))
theorem dX10_takeChannel_43 : decode cX10_takeChannel 43 = .ok (.iconst 1, 1) := zo_4 (zkb zk_cX10_takeChannel zn_cX10_takeChannel (by decide +kernel))
theorem dX10_takeChannel_44 : decode cX10_takeChannel 44 = .ok (.ishr, 1) := zo_122 (zkb zk_cX10_takeChannel zn_cX10_takeChannel (by decide +kernel))
theorem dX10_takeChannel_45 : decode cX10_takeChannel 45 = .ok (.bipush 7, 2) := zo_16 (b1 := 7) (zkb2 zk_cX10_takeChannel zn_cX10_takeChannel (by decide +kernel)) rfl
theorem dX10_takeChannel_47 : decode cX10_takeChannel 47 = .ok (.iand, 1) := zo_126 (zkb zk_cX10_takeChannel zn_cX10_takeChannel (by decide +kernel))
theorem dX10_takeChannel_48 : decode cX10_takeChannel 48 = .ok (.putfield 55, 3) := zo_181 (b1 := 0) (b2 := 55) (zkb3 zk_cX10_takeChannel zn_cX10_takeChannel (by decide +kernel)) rfl
theorem dX10_takeChannel_51 : decode cX10_takeChannel 51 = .ok (.aload_n 0, 1) := zo_42 (zkb zk_cX10_takeChannel zn_cX10_takeChannel (by decide +kernel))
theorem dX10_takeChannel_52 : decode cX10_takeChannel 52 = .ok (.getfield 32, 3) := zo_180 (b1 := 0) (b2 := 32) (zkb3 zk_cX10_takeChannel zn_cX10_takeChannel (by decide +kernel)) rfl
theorem dX10_takeChannel_55 : decode cX10_takeChannel 55 = .ok (.ifCond .eq 16, 3) := zo_153 (b1 := 0) (b2 := 16) (zkb3 zk_cX10_takeChannel zn_cX10_takeChannel (by decide +kernel)) rfl
theorem dX10_takeChannel_58 : decode cX10_takeChannel 58 = .ok (.iload_n 1, 1) := zo_27 (zkb zk_cX10_takeChannel zn_cX10_takeChannel (by decide +kernel))
theorem dX10_takeChannel_59 : decode cX10_takeChannel 59 = .ok (.bipush 6, 2) := zo_16 (b1 := 6) (zkb2 zk_cX10_takeChannel zn_cX10_takeChannel (by decide +kernel)) rfl
theorem dX10_takeChannel_61 : decode cX10_takeChannel 61 = .ok (.if_icmp .lt 10, 3) := zo_161 (b1 := 0) (b2 := 10) (zkb3 zk_cX10_takeChannel zn_cX10_takeChannel (by decide +kernel)) rfl
theorem dX10_takeChannel_64 : decode cX10_takeChannel 64 = .ok (.bipush 10, 2) := zo_16 (b1 := 10) (zkb2 zk_cX10_takeChannel zn_cX10_takeChannel (by decide +kernel)) rfl
theorem dX10_takeChannel_66 : decode cX10_takeChannel 66 = .ok (.iload_n 1, 1) := zo_27 (zkb zk_cX10_takeChannel zn_cX10_takeChannel (by decide +kernel))
theorem dX10_takeChannel_67 : decode cX10_takeChannel 67 = .ok (.iadd, 1) := zo_96 (zkb zk_cX10_takeChannel zn_cX10_takeChannel (by decide +kernel))
theorem dX10_takeChannel_68 : decode cX10_takeChannel 68 = .ok (.goto 14, 3) := zo_167 (b1 := 0) (b2 := 14) (zkb3 zk_cX10_takeChannel zn_cX10_takeChannel (by decide +kernel)) rfl
theorem dX10_takeChannel_71 : decode cX10_takeChannel 71 = .ok (.aload_n 0, 1) := zo_42 (zkb zk_cX10_takeChannel zn_cX10_takeChannel (by decide +kernel))
theorem dX10_takeChannel_72 : decode cX10_takeChannel 72 = .ok (.getfield 9, 3) := zo_180 (b1 := 0) (b2 := 9) (zkb3 zk_cX10_takeChannel zn_cX10_takeChannel (by decide +kernel)) rfl
theorem dX10_takeChannel_75 : decode cX10_takeChannel 75 = .ok (.bipush 48, 2) := zo_16 (b1 := 48) (zkb2 zk_cX10_takeChannel zn_cX10_takeChannel (by decide +kernel)) rfl
theorem dX10_takeChannel_77 : decode cX10_takeChannel 77 = .ok (.iload_n 1, 1) := zo_27 (zkb zk_cX10_takeChannel zn_cX10_takeChannel (by decide +kernel))
theorem dX10_takeChannel_78 : decode cX10_takeChannel 78 = .ok (.iadd, 1) := zo_96 (zkb zk_cX10_takeChannel zn_cX10_takeChannel (by decide +kernel))
theorem dX10_takeChannel_79 : decode cX10_takeChannel 79 = .ok (.iaload, 1) := zo_46 (zkb zk_cX10_takeChannel zn_cX10_takeChannel (by decide +kernel))
theorem dX10_takeChannel_80 : decode cX10_takeChannel 80 = .ok (.iconst 4, 1) := zo_7 (zkb zk_cX10_takeChannel zn_cX10_takeChannel (by decide +kernel))
theorem dX10_takeChannel_81 : decode cX10_takeChannel 81 = .ok (.ishr, 1) := zo_122 (zkb zk_cX10_takeChannel zn_cX10_takeChannel (by decide +kernel))
theorem dX10_takeChannel_82 : decode cX10_takeChannel 82 = .ok (.istore_n 2, 1) := zo_61 (zkb zk_cX10_takeChannel zn_cX10_takeChannel (by decide +kernel))
theorem dX10_takeChannel_83 : decode cX10_takeChannel 83 = .ok (.aload_n 0, 1) := zo_42 (zkb zk_cX10_takeChannel zn_cX10_takeChannel (by decide +kernel))
theorem dX10_takeChannel_84 : decode cX10_takeChannel 84 = .ok (.iload_n 2, 1) := zo_28 (zkb zk_cX10_takeChannel zn_cX10_takeChannel (by decide +kernel))
theorem dX10_takeChannel_85 : decode cX10_takeChannel 85 = .ok (.ifCond .le 21, 3) := zo_158 (b1 := 0) (b2 := 21) (zkb3 zk_cX10_takeChannel zn_cX10_takeChannel (by decide +kernel)) rfl
theorem dX10_takeChannel_88 : decode cX10_takeChannel 88 = .ok (.iload_n 2, 1) := zo_28 (zkb zk_cX10_takeChannel zn_cX10_takeChannel (by decide +kernel))
theorem dX10_takeChannel_89 : decode cX10_takeChannel 89 = .ok (.getstatic 58, 3) := zo_178 (b1 := 0) (b2 := 58) (zkb3 zk_cX10_takeChannel zn_cX10_takeChannel (by decide +kernel)) rfl
theorem dX10_takeChannel_92 : decode cX10_takeChannel 92 = .ok (.arraylength, 1) := zo_190 (zkb zk_cX10_takeChannel zn_cX10_takeChannel (by decide +kernel))
theorem dX10_takeChannel_93 : decode cX10_takeChannel 93 = .ok (.if_icmp .gt 13, 3) := zo_163 (b1 := 0) (b2 := 13) (zkb3 zk_cX10_takeChannel zn_cX10_takeChannel (by decide +kernel)) rfl
theorem dX10_takeChannel_96 : decode cX10_takeChannel 96 = .ok (.getstatic 58, 3) := zo_178 (b1 := 0) (b2 := 58) (zkb3 zk_cX10_takeChannel zn_cX10_takeChannel (by decide +kernel)) rfl
theorem dX10_takeChannel_99 : decode cX10_takeChannel 99 = .ok (.iload_n 2, 1) := zo_28 (zkb zk_cX10_takeChannel zn_cX10_takeChannel (by decide +kernel))
theorem dX10_takeChannel_100 : decode cX10_takeChannel 100 = .ok (.iconst 1, 1) := zo_4 (zkb zk_cX10_takeChannel zn_cX10_takeChannel (by decide +kernel))
theorem dX10_takeChannel_101 : decode cX10_takeChannel 101 = .ok (.isub, 1) := zo_100 (zkb zk_cX10_takeChannel zn_cX10_takeChannel (by decide +kernel))
theorem dX10_takeChannel_102 : decode cX10_takeChannel 102 = .ok (.laload, 1) := zo_47 (zkb zk_cX10_takeChannel zn_cX10_takeChannel (by decide +kernel))
theorem dX10_takeChannel_103 : decode cX10_takeChannel 103 = .ok (.goto 7, 3) := zo_167 (b1 := 0) (b2 := 7) (zkb3 zk_cX10_takeChannel zn_cX10_takeChannel (by decide +kernel)) rfl
theorem dX10_takeChannel_106 : decode cX10_takeChannel 106 = .ok (.aload_n 0, 1) := zo_42 (zkb zk_cX10_takeChannel zn_cX10_takeChannel (by decide +kernel))
theorem dX10_takeChannel_107 : decode cX10_takeChannel 107 = .ok (.getfield 62, 3) := zo_180 (b1 := 0) (b2 := 62) (zkb3 zk_cX10_takeChannel zn_cX10_takeChannel (by decide +kernel)) rfl
theorem dX10_takeChannel_110 : decode cX10_takeChannel 110 = .ok (.putfield 66, 3) := zo_181 (b1 := 0) (b2 := 66) (zkb3 zk_cX10_takeChannel zn_cX10_takeChannel (by decide +kernel)) rfl
theorem dX10_takeChannel_113 : decode cX10_takeChannel 113 = .ok (.return_, 1) := zo_177 (zkb zk_cX10_takeChannel zn_cX10_takeChannel (by decide +kernel))
def kn_cX10_takeOwnPatch : Nat := 0xb1e4ffa70101843e00b581852e1b0900b42a7908103e00b42a2a1c00a208101b3c033e00b5092a
theorem zk_cX10_takeOwnPatch : zkd cX10_takeOwnPatch.data.toList kn_cX10_takeOwnPatch = true := by decide +kernel
theorem zn_cX10_takeOwnPatch : cX10_takeOwnPatch.data.toList.length = 39 := by decide +kernel
theorem dX10_takeOwnPatch_0 : decode cX10_takeOwnPatch 0 = .ok (.aload_n 0, 1) := zo_42 (zkb zk_cX10_takeOwnPatch zn_cX10_takeOwnPatch (by decide +kernel))
theorem dX10_takeOwnPatch_1 : decode cX10_takeOwnPatch 1 = .ok (.lconst 0, 1) := zo_9 (zkb zk_cX10_takeOwnPatch zn_cX10_takeOwnPatch (by decide +kernel))
theorem dX10_takeOwnPatch_2 : decode cX10_takeOwnPatch 2 = .ok (.putfield 62, 3) := zo_181 (b1 := 0) (b2 := 62) (zkb3 zk_cX10_takeOwnPatch zn_cX10_takeOwnPatch (by decide +kernel)) rfl
theorem dX10_takeOwnPatch_5 : decode cX10_takeOwnPatch 5 = .ok (.iconst 0, 1) := zo_3 (zkb zk_cX10_takeOwnPatch zn_cX10_takeOwnPatch (by decide +kernel))
theorem dX10_takeOwnPatch_6 : decode cX10_takeOwnPatch 6 = .ok (.istore_n 1, 1) := zo_60 (zkb zk_cX10_takeOwnPatch zn_cX10_takeOwnPatch (by decide +kernel))
theorem dX10_takeOwnPatch_7 : decode cX10_takeOwnPatch 7 = .ok (.iload_n 1, 1) := zo_27 (zkb zk_cX10_takeOwnPatch zn_cX10_takeOwnPatch (by decide +kernel))
theorem dX10_takeOwnPatch_8 : decode cX10_takeOwnPatch 8 = .ok (.bipush 8, 2) := zo_16 (b1 := 8) (zkb2 zk_cX10_takeOwnPatch zn_cX10_takeOwnPatch (by decide +kernel)) rfl
theorem dX10_takeOwnPatch_10 : decode cX10_takeOwnPatch 10 = .ok (.if_icmp .ge 28, 3) := zo_162 (b1 := 0) (b2 := 28) (zkb3 zk_cX10_takeOwnPatch zn_cX10_takeOwnPatch (by decide +kernel)) rfl
theorem dX10_takeOwnPatch_13 : decode cX10_takeOwnPatch 13 = .ok (.aload_n 0, 1) := zo_42 (zkb zk_cX10_takeOwnPatch zn_cX10_takeOwnPatch (by decide +kernel))
theorem dX10_takeOwnPatch_14 : decode cX10_takeOwnPatch 14 = .ok (.aload_n 0, 1) := zo_42 (zkb zk_cX10_takeOwnPatch zn_cX10_takeOwnPatch (by decide +kernel))
theorem dX10_takeOwnPatch_15 : decode cX10_takeOwnPatch 15 = .ok (.getfield 62, 3) := zo_180 (b1 := 0) (b2 := 62) (zkb3 zk_cX10_takeOwnPatch zn_cX10_takeOwnPatch (by decide +kernel)) rfl
theorem dX10_takeOwnPatch_18 : decode cX10_takeOwnPatch 18 = .ok (.bipush 8, 2) := zo_16 (b1 := 8) (zkb2 zk_cX10_takeOwnPatch zn_cX10_takeOwnPatch (by decide +kernel)) rfl
theorem dX10_takeOwnPatch_20 : decode cX10_takeOwnPatch 20 = .ok (.lshl, 1) := zo_121 (zkb zk_cX10_takeOwnPatch zn_cX10_takeOwnPatch (by decide +kernel))
theorem dX10_takeOwnPatch_21 : decode cX10_takeOwnPatch 21 = .ok (.aload_n 0, 1) := zo_42 (zkb zk_cX10_takeOwnPatch zn_cX10_takeOwnPatch (by decide +kernel))
theorem dX10_takeOwnPatch_22 : decode cX10_takeOwnPatch 22 = .ok (.getfield 9, 3) := zo_180 (b1 := 0) (b2 := 9) (zkb3 zk_cX10_takeOwnPatch zn_cX10_takeOwnPatch (by decide +kernel)) rfl
theorem dX10_takeOwnPatch_25 : decode cX10_takeOwnPatch 25 = .ok (.iload_n 1, 1) := zo_27 (zkb zk_cX10_takeOwnPatch zn_cX10_takeOwnPatch (by decide +kernel))
theorem dX10_takeOwnPatch_26 : decode cX10_takeOwnPatch 26 = .ok (.iaload, 1) := zo_46 (zkb zk_cX10_takeOwnPatch zn_cX10_takeOwnPatch (by decide +kernel))
theorem dX10_takeOwnPatch_27 : decode cX10_takeOwnPatch 27 = .ok (.i2l, 1) := zo_133 (zkb zk_cX10_takeOwnPatch zn_cX10_takeOwnPatch (by decide +kernel))
theorem dX10_takeOwnPatch_28 : decode cX10_takeOwnPatch 28 = .ok (.lor, 1) := zo_129 (zkb zk_cX10_takeOwnPatch zn_cX10_takeOwnPatch (by decide +kernel))
theorem dX10_takeOwnPatch_29 : decode cX10_takeOwnPatch 29 = .ok (.putfield 62, 3) := zo_181 (b1 := 0) (b2 := 62) (zkb3 zk_cX10_takeOwnPatch zn_cX10_takeOwnPatch (by decide +kernel)) rfl
theorem dX10_takeOwnPatch_32 : decode cX10_takeOwnPatch 32 = .ok (.iinc 1 1, 3) := zo_132 (b1 := 1) (b2 := 1) (zkb3 zk_cX10_takeOwnPatch zn_cX10_takeOwnPatch (by decide +kernel)) rfl
theorem dX10_takeOwnPatch_35 : decode cX10_takeOwnPatch 35 = .ok (.goto (-28), 3) := zo_167 (b1 := 255) (b2 := 228) (zkb3 zk_cX10_takeOwnPatch zn_cX10_takeOwnPatch (by decide +kernel)) rfl
theorem dX10_takeOwnPatch_38 : decode cX10_takeOwnPatch 38 = .ok (.return_, 1) := zo_177 (zkb zk_cX10_takeOwnPatch zn_cX10_takeOwnPatch (by decide +kernel))
def kn_cX10_part : Nat := 0xac7eff0011887d64681b081038104200b42a
theorem zk_cX10_part : zkd cX10_part.data.toList kn_cX10_part = true := by decide +kernel
theorem zn_cX10_part : cX10_part.data.toList.length = 18 := by decide +kernel
theorem dX10_part_0 : decode cX10_part 0 = .ok (.aload_n 0, 1) := zo_42 (zkb zk_cX10_part zn_cX10_part (by decide +kernel))
theorem dX10_part_1 : decode cX10_part 1 = .ok (.getfield 66, 3) := zo_180 (b1 := 0) (b2 := 66) (zkb3 zk_cX10_part zn_cX10_part (by decide +kernel)) rfl
theorem dX10_part_4 : decode cX10_part 4 = .ok (.bipush 56, 2) := zo_16 (b1 := 56) (zkb2 zk_cX10_part zn_cX10_part (by decide +kernel)) rfl
theorem dX10_part_6 : decode cX10_part 6 = .ok (.bipush 8, 2) := zo_16 (b1 := 8) (zkb2 zk_cX10_part zn_cX10_part (by decide +kernel)) rfl
theorem dX10_part_8 : decode cX10_part 8 = .ok (.iload_n 1, 1) := zo_27 (zkb zk_cX10_part zn_cX10_part (by decide +kernel))
theorem dX10_part_9 : decode cX10_part 9 = .ok (.imul, 1) := zo_104 (zkb zk_cX10_part zn_cX10_part (by decide +kernel))
theorem dX10_part_10 : decode cX10_part 10 = .ok (.isub, 1) := zo_100 (zkb zk_cX10_part zn_cX10_part (by decide +kernel))
theorem dX10_part_11 : decode cX10_part 11 = .ok (.lushr, 1) := zo_125 (zkb zk_cX10_part zn_cX10_part (by decide +kernel))
theorem dX10_part_12 : decode cX10_part 12 = .ok (.l2i, 1) := zo_136 (zkb zk_cX10_part zn_cX10_part (by decide +kernel))
theorem dX10_part_13 : decode cX10_part 13 = .ok (.sipush 255, 3) := zo_17 (b1 := 0) (b2 := 255) (zkb3 zk_cX10_part zn_cX10_part (by decide +kernel)) rfl
theorem dX10_part_16 : decode cX10_part 16 = .ok (.iand, 1) := zo_126 (zkb zk_cX10_part zn_cX10_part (by decide +kernel))
theorem dX10_part_17 : decode cX10_part 17 = .ok (.ireturn, 1) := zo_172 (zkb zk_cX10_part zn_cX10_part (by decide +kernel))
def kn_cX10_isOn : Nat := 0xac03ac030400a7040700997e050400a70707009a1b2e0e100900b42aac030400a7040700997e08100500a70407009a1b2e0e100900b42aac030400a7040700997e10102e0e100900b42a490000002e0000001b0000000800000006000000630000000000aa3000b42aac0305009a2000b42aac040500997e10102e603000b42a20100900b42a
theorem zk_cX10_isOn : zkd cX10_isOn.data.toList kn_cX10_isOn = true := by decide +kernel
theorem zn_cX10_isOn : cX10_isOn.data.toList.length = 134 := by decide +kernel
theorem dX10_isOn_0 : decode cX10_isOn 0 = .ok (.aload_n 0, 1) := zo_42 (zkb zk_cX10_isOn zn_cX10_isOn (by decide +kernel))
theorem dX10_isOn_1 : decode cX10_isOn 1 = .ok (.getfield 9, 3) := zo_180 (b1 := 0) (b2 := 9) (zkb3 zk_cX10_isOn zn_cX10_isOn (by decide +kernel)) rfl
theorem dX10_isOn_4 : decode cX10_isOn 4 = .ok (.bipush 32, 2) := zo_16 (b1 := 32) (zkb2 zk_cX10_isOn zn_cX10_isOn (by decide +kernel)) rfl
theorem dX10_isOn_6 : decode cX10_isOn 6 = .ok (.aload_n 0, 1) := zo_42 (zkb zk_cX10_isOn zn_cX10_isOn (by decide +kernel))
theorem dX10_isOn_7 : decode cX10_isOn 7 = .ok (.getfield 48, 3) := zo_180 (b1 := 0) (b2 := 48) (zkb3 zk_cX10_isOn zn_cX10_isOn (by decide +kernel)) rfl
theorem dX10_isOn_10 : decode cX10_isOn 10 = .ok (.iadd, 1) := zo_96 (zkb zk_cX10_isOn zn_cX10_isOn (by decide +kernel))
theorem dX10_isOn_11 : decode cX10_isOn 11 = .ok (.iaload, 1) := zo_46 (zkb zk_cX10_isOn zn_cX10_isOn (by decide +kernel))
theorem dX10_isOn_12 : decode cX10_isOn 12 = .ok (.bipush 16, 2) := zo_16 (b1 := 16) (zkb2 zk_cX10_isOn zn_cX10_isOn (by decide +kernel)) rfl
theorem dX10_isOn_14 : decode cX10_isOn 14 = .ok (.iand, 1) := zo_126 (zkb zk_cX10_isOn zn_cX10_isOn (by decide +kernel))
theorem dX10_isOn_15 : decode cX10_isOn 15 = .ok (.ifCond .eq 5, 3) := zo_153 (b1 := 0) (b2 := 5) (zkb3 zk_cX10_isOn zn_cX10_isOn (by decide +kernel)) rfl
theorem dX10_isOn_18 : decode cX10_isOn 18 = .ok (.iconst 1, 1) := zo_4 (zkb zk_cX10_isOn zn_cX10_isOn (by decide +kernel))
theorem dX10_isOn_19 : decode cX10_isOn 19 = .ok (.ireturn, 1) := zo_172 (zkb zk_cX10_isOn zn_cX10_isOn (by decide +kernel))
theorem dX10_isOn_20 : decode cX10_isOn 20 = .ok (.aload_n 0, 1) := zo_42 (zkb zk_cX10_isOn zn_cX10_isOn (by decide +kernel))
theorem dX10_isOn_21 : decode cX10_isOn 21 = .ok (.getfield 32, 3) := zo_180 (b1 := 0) (b2 := 32) (zkb3 zk_cX10_isOn zn_cX10_isOn (by decide +kernel)) rfl
theorem dX10_isOn_24 : decode cX10_isOn 24 = .ok (.ifCond .ne 5, 3) := zo_154 (b1 := 0) (b2 := 5) (zkb3 zk_cX10_isOn zn_cX10_isOn (by decide +kernel)) rfl
theorem dX10_isOn_27 : decode cX10_isOn 27 = .ok (.iconst 0, 1) := zo_3 (zkb zk_cX10_isOn zn_cX10_isOn (by decide +kernel))
theorem dX10_isOn_28 : decode cX10_isOn 28 = .ok (.ireturn, 1) := zo_172 (zkb zk_cX10_isOn zn_cX10_isOn (by decide +kernel))
theorem dX10_isOn_29 : decode cX10_isOn 29 = .ok (.aload_n 0, 1) := zo_42 (zkb zk_cX10_isOn zn_cX10_isOn (by decide +kernel))
theorem dX10_isOn_30 : decode cX10_isOn 30 = .ok (.getfield 48, 3) := zo_180 (b1 := 0) (b2 := 48) (zkb3 zk_cX10_isOn zn_cX10_isOn (by decide +kernel)) rfl
theorem dX10_isOn_33 : decode cX10_isOn 33 = .ok (.tableswitch 99 6 8 #[27, 46, 73], 27) := by decide +kernel
theorem dX10_isOn_60 : decode cX10_isOn 60 = .ok (.aload_n 0, 1) := zo_42 (zkb zk_cX10_isOn zn_cX10_isOn (by decide +kernel))
theorem dX10_isOn_61 : decode cX10_isOn 61 = .ok (.getfield 9, 3) := zo_180 (b1 := 0) (b2 := 9) (zkb3 zk_cX10_isOn zn_cX10_isOn (by decide +kernel)) rfl
theorem dX10_isOn_64 : decode cX10_isOn 64 = .ok (.bipush 14, 2) := zo_16 (b1 := 14) (zkb2 zk_cX10_isOn zn_cX10_isOn (by decide +kernel)) rfl
theorem dX10_isOn_66 : decode cX10_isOn 66 = .ok (.iaload, 1) := zo_46 (zkb zk_cX10_isOn zn_cX10_isOn (by decide +kernel))
theorem dX10_isOn_67 : decode cX10_isOn 67 = .ok (.bipush 16, 2) := zo_16 (b1 := 16) (zkb2 zk_cX10_isOn zn_cX10_isOn (by decide +kernel)) rfl
theorem dX10_isOn_69 : decode cX10_isOn 69 = .ok (.iand, 1) := zo_126 (zkb zk_cX10_isOn zn_cX10_isOn (by decide +kernel))
theorem dX10_isOn_70 : decode cX10_isOn 70 = .ok (.ifCond .eq 7, 3) := zo_153 (b1 := 0) (b2 := 7) (zkb3 zk_cX10_isOn zn_cX10_isOn (by decide +kernel)) rfl
theorem dX10_isOn_73 : decode cX10_isOn 73 = .ok (.iconst 1, 1) := zo_4 (zkb zk_cX10_isOn zn_cX10_isOn (by decide +kernel))
theorem dX10_isOn_74 : decode cX10_isOn 74 = .ok (.goto 4, 3) := zo_167 (b1 := 0) (b2 := 4) (zkb3 zk_cX10_isOn zn_cX10_isOn (by decide +kernel)) rfl
theorem dX10_isOn_77 : decode cX10_isOn 77 = .ok (.iconst 0, 1) := zo_3 (zkb zk_cX10_isOn zn_cX10_isOn (by decide +kernel))
theorem dX10_isOn_78 : decode cX10_isOn 78 = .ok (.ireturn, 1) := zo_172 (zkb zk_cX10_isOn zn_cX10_isOn (by decide +kernel))
theorem dX10_isOn_79 : decode cX10_isOn 79 = .ok (.aload_n 0, 1) := zo_42 (zkb zk_cX10_isOn zn_cX10_isOn (by decide +kernel))
theorem dX10_isOn_80 : decode cX10_isOn 80 = .ok (.getfield 9, 3) := zo_180 (b1 := 0) (b2 := 9) (zkb3 zk_cX10_isOn zn_cX10_isOn (by decide +kernel)) rfl
theorem dX10_isOn_83 : decode cX10_isOn 83 = .ok (.bipush 14, 2) := zo_16 (b1 := 14) (zkb2 zk_cX10_isOn zn_cX10_isOn (by decide +kernel)) rfl
theorem dX10_isOn_85 : decode cX10_isOn 85 = .ok (.iaload, 1) := zo_46 (zkb zk_cX10_isOn zn_cX10_isOn (by decide +kernel))
theorem dX10_isOn_86 : decode cX10_isOn 86 = .ok (.iload_n 1, 1) := zo_27 (zkb zk_cX10_isOn zn_cX10_isOn (by decide +kernel))
theorem dX10_isOn_87 : decode cX10_isOn 87 = .ok (.ifCond .ne 7, 3) := zo_154 (b1 := 0) (b2 := 7) (zkb3 zk_cX10_isOn zn_cX10_isOn (by decide +kernel)) rfl
theorem dX10_isOn_90 : decode cX10_isOn 90 = .ok (.iconst 1, 1) := zo_4 (zkb zk_cX10_isOn zn_cX10_isOn (by decide +kernel))
theorem dX10_isOn_91 : decode cX10_isOn 91 = .ok (.goto 5, 3) := zo_167 (b1 := 0) (b2 := 5) (zkb3 zk_cX10_isOn zn_cX10_isOn (by decide +kernel)) rfl
theorem dX10_isOn_94 : decode cX10_isOn 94 = .ok (.bipush 8, 2) := zo_16 (b1 := 8) (zkb2 zk_cX10_isOn zn_cX10_isOn (by decide +kernel)) rfl
theorem dX10_isOn_96 : decode cX10_isOn 96 = .ok (.iand, 1) := zo_126 (zkb zk_cX10_isOn zn_cX10_isOn (by decide +kernel))
theorem dX10_isOn_97 : decode cX10_isOn 97 = .ok (.ifCond .eq 7, 3) := zo_153 (b1 := 0) (b2 := 7) (zkb3 zk_cX10_isOn zn_cX10_isOn (by decide +kernel)) rfl
theorem dX10_isOn_100 : decode cX10_isOn 100 = .ok (.iconst 1, 1) := zo_4 (zkb zk_cX10_isOn zn_cX10_isOn (by decide +kernel))
theorem dX10_isOn_101 : decode cX10_isOn 101 = .ok (.goto 4, 3) := zo_167 (b1 := 0) (b2 := 4) (zkb3 zk_cX10_isOn zn_cX10_isOn (by decide +kernel)) rfl
theorem dX10_isOn_104 : decode cX10_isOn 104 = .ok (.iconst 0, 1) := zo_3 (zkb zk_cX10_isOn zn_cX10_isOn (by decide +kernel))
theorem dX10_isOn_105 : decode cX10_isOn 105 = .ok (.ireturn, 1) := zo_172 (zkb zk_cX10_isOn zn_cX10_isOn (by decide +kernel))
theorem dX10_isOn_106 : decode cX10_isOn 106 = .ok (.aload_n 0, 1) := zo_42 (zkb zk_cX10_isOn zn_cX10_isOn (by decide +kernel))
theorem dX10_isOn_107 : decode cX10_isOn 107 = .ok (.getfield 9, 3) := zo_180 (b1 := 0) (b2 := 9) (zkb3 zk_cX10_isOn zn_cX10_isOn (by decide +kernel)) rfl
theorem dX10_isOn_110 : decode cX10_isOn 110 = .ok (.bipush 14, 2) := zo_16 (b1 := 14) (zkb2 zk_cX10_isOn zn_cX10_isOn (by decide +kernel)) rfl
theorem dX10_isOn_112 : decode cX10_isOn 112 = .ok (.iaload, 1) := zo_46 (zkb zk_cX10_isOn zn_cX10_isOn (by decide +kernel))
theorem dX10_isOn_113 : decode cX10_isOn 113 = .ok (.iload_n 1, 1) := zo_27 (zkb zk_cX10_isOn zn_cX10_isOn (by decide +kernel))
theorem dX10_isOn_114 : decode cX10_isOn 114 = .ok (.ifCond .ne 7, 3) := zo_154 (b1 := 0) (b2 := 7) (zkb3 zk_cX10_isOn zn_cX10_isOn (by decide +kernel)) rfl
theorem dX10_isOn_117 : decode cX10_isOn 117 = .ok (.iconst 4, 1) := zo_7 (zkb zk_cX10_isOn zn_cX10_isOn (by decide +kernel))
theorem dX10_isOn_118 : decode cX10_isOn 118 = .ok (.goto 4, 3) := zo_167 (b1 := 0) (b2 := 4) (zkb3 zk_cX10_isOn zn_cX10_isOn (by decide +kernel)) rfl
theorem dX10_isOn_121 : decode cX10_isOn 121 = .ok (.iconst 2, 1) := zo_5 (zkb zk_cX10_isOn zn_cX10_isOn (by decide +kernel))
theorem dX10_isOn_122 : decode cX10_isOn 122 = .ok (.iand, 1) := zo_126 (zkb zk_cX10_isOn zn_cX10_isOn (by decide +kernel))
theorem dX10_isOn_123 : decode cX10_isOn 123 = .ok (.ifCond .eq 7, 3) := zo_153 (b1 := 0) (b2 := 7) (zkb3 zk_cX10_isOn zn_cX10_isOn (by decide +kernel)) rfl
theorem dX10_isOn_126 : decode cX10_isOn 126 = .ok (.iconst 1, 1) := zo_4 (zkb zk_cX10_isOn zn_cX10_isOn (by decide +kernel))
theorem dX10_isOn_127 : decode cX10_isOn 127 = .ok (.goto 4, 3) := zo_167 (b1 := 0) (b2 := 4) (zkb3 zk_cX10_isOn zn_cX10_isOn (by decide +kernel)) rfl
theorem dX10_isOn_130 : decode cX10_isOn 130 = .ok (.iconst 0, 1) := zo_3 (zkb zk_cX10_isOn zn_cX10_isOn (by decide +kernel))
theorem dX10_isOn_131 : decode cX10_isOn 131 = .ok (.ireturn, 1) := zo_172 (zkb zk_cX10_isOn zn_cX10_isOn (by decide +kernel))
theorem dX10_isOn_132 : decode cX10_isOn 132 = .ok (.iconst 0, 1) := zo_3 (zkb zk_cX10_isOn zn_cX10_isOn (by decide +kernel))
theorem dX10_isOn_133 : decode cX10_isOn 133 = .ok (.ireturn, 1) := zo_172 (zkb zk_cX10_isOn zn_cX10_isOn (by decide +kernel))
def kn_cX10_rateIn : Nat := 0xac07100500a704150800991dac080500997e20102e603000b42a20100900b42aac04150500a7030700991dac7e0f104c00b6601c072aac7a074c00b6601c072aac0c10350000002a000000200000001d000000030000000000000040000000aa1b04367e0f104c00b6601c06102a3e030400a7040700997e20104c00b61c2a
theorem zk_cX10_rateIn : zkd cX10_rateIn.data.toList kn_cX10_rateIn = true := by decide +kernel
theorem zn_cX10_rateIn : cX10_rateIn.data.toList.length = 127 := by decide +kernel
theorem dX10_rateIn_0 : decode cX10_rateIn 0 = .ok (.aload_n 0, 1) := zo_42 (zkb zk_cX10_rateIn zn_cX10_rateIn (by decide +kernel))
theorem dX10_rateIn_1 : decode cX10_rateIn 1 = .ok (.iload_n 2, 1) := zo_28 (zkb zk_cX10_rateIn zn_cX10_rateIn (by decide +kernel))
theorem dX10_rateIn_2 : decode cX10_rateIn 2 = .ok (.invokevirtual 76, 3) := zo_182 (b1 := 0) (b2 := 76) (zkb3 zk_cX10_rateIn zn_cX10_rateIn (by decide +kernel)) rfl
theorem dX10_rateIn_5 : decode cX10_rateIn 5 = .ok (.bipush 32, 2) := zo_16 (b1 := 32) (zkb2 zk_cX10_rateIn zn_cX10_rateIn (by decide +kernel)) rfl
theorem dX10_rateIn_7 : decode cX10_rateIn 7 = .ok (.iand, 1) := zo_126 (zkb zk_cX10_rateIn zn_cX10_rateIn (by decide +kernel))
theorem dX10_rateIn_8 : decode cX10_rateIn 8 = .ok (.ifCond .eq 7, 3) := zo_153 (b1 := 0) (b2 := 7) (zkb3 zk_cX10_rateIn zn_cX10_rateIn (by decide +kernel)) rfl
theorem dX10_rateIn_11 : decode cX10_rateIn 11 = .ok (.iconst 1, 1) := zo_4 (zkb zk_cX10_rateIn zn_cX10_rateIn (by decide +kernel))
theorem dX10_rateIn_12 : decode cX10_rateIn 12 = .ok (.goto 4, 3) := zo_167 (b1 := 0) (b2 := 4) (zkb3 zk_cX10_rateIn zn_cX10_rateIn (by decide +kernel)) rfl
theorem dX10_rateIn_15 : decode cX10_rateIn 15 = .ok (.iconst 0, 1) := zo_3 (zkb zk_cX10_rateIn zn_cX10_rateIn (by decide +kernel))
theorem dX10_rateIn_16 : decode cX10_rateIn 16 = .ok (.istore_n 3, 1) := zo_62 (zkb zk_cX10_rateIn zn_cX10_rateIn (by decide +kernel))
theorem dX10_rateIn_17 : decode cX10_rateIn 17 = .ok (.aload_n 0, 1) := zo_42 (zkb zk_cX10_rateIn zn_cX10_rateIn (by decide +kernel))
theorem dX10_rateIn_18 : decode cX10_rateIn 18 = .ok (.bipush 6, 2) := zo_16 (b1 := 6) (zkb2 zk_cX10_rateIn zn_cX10_rateIn (by decide +kernel)) rfl
theorem dX10_rateIn_20 : decode cX10_rateIn 20 = .ok (.iload_n 2, 1) := zo_28 (zkb zk_cX10_rateIn zn_cX10_rateIn (by decide +kernel))
theorem dX10_rateIn_21 : decode cX10_rateIn 21 = .ok (.iadd, 1) := zo_96 (zkb zk_cX10_rateIn zn_cX10_rateIn (by decide +kernel))
theorem dX10_rateIn_22 : decode cX10_rateIn 22 = .ok (.invokevirtual 76, 3) := zo_182 (b1 := 0) (b2 := 76) (zkb3 zk_cX10_rateIn zn_cX10_rateIn (by decide +kernel)) rfl
theorem dX10_rateIn_25 : decode cX10_rateIn 25 = .ok (.bipush 15, 2) := zo_16 (b1 := 15) (zkb2 zk_cX10_rateIn zn_cX10_rateIn (by decide +kernel)) rfl
theorem dX10_rateIn_27 : decode cX10_rateIn 27 = .ok (.iand, 1) := zo_126 (zkb zk_cX10_rateIn zn_cX10_rateIn (by decide +kernel))
theorem dX10_rateIn_28 : decode cX10_rateIn 28 = .ok (.istore 4, 2) := zo_54 (b1 := 4) (zkb2 zk_cX10_rateIn zn_cX10_rateIn (by decide +kernel))
theorem dX10_rateIn_30 : decode cX10_rateIn 30 = .ok (.iload_n 1, 1) := zo_27 (zkb zk_cX10_rateIn zn_cX10_rateIn (by decide +kernel))
theorem dX10_rateIn_31 : decode cX10_rateIn 31 = .ok (.tableswitch 64 0 3 #[29, 32, 42, 53], 29) := by decide +kernel
theorem dX10_rateIn_60 : decode cX10_rateIn 60 = .ok (.bipush 12, 2) := zo_16 (b1 := 12) (zkb2 zk_cX10_rateIn zn_cX10_rateIn (by decide +kernel)) rfl
theorem dX10_rateIn_62 : decode cX10_rateIn 62 = .ok (.ireturn, 1) := zo_172 (zkb zk_cX10_rateIn zn_cX10_rateIn (by decide +kernel))
theorem dX10_rateIn_63 : decode cX10_rateIn 63 = .ok (.aload_n 0, 1) := zo_42 (zkb zk_cX10_rateIn zn_cX10_rateIn (by decide +kernel))
theorem dX10_rateIn_64 : decode cX10_rateIn 64 = .ok (.iconst 4, 1) := zo_7 (zkb zk_cX10_rateIn zn_cX10_rateIn (by decide +kernel))
theorem dX10_rateIn_65 : decode cX10_rateIn 65 = .ok (.iload_n 2, 1) := zo_28 (zkb zk_cX10_rateIn zn_cX10_rateIn (by decide +kernel))
theorem dX10_rateIn_66 : decode cX10_rateIn 66 = .ok (.iadd, 1) := zo_96 (zkb zk_cX10_rateIn zn_cX10_rateIn (by decide +kernel))
theorem dX10_rateIn_67 : decode cX10_rateIn 67 = .ok (.invokevirtual 76, 3) := zo_182 (b1 := 0) (b2 := 76) (zkb3 zk_cX10_rateIn zn_cX10_rateIn (by decide +kernel)) rfl
theorem dX10_rateIn_70 : decode cX10_rateIn 70 = .ok (.iconst 4, 1) := zo_7 (zkb zk_cX10_rateIn zn_cX10_rateIn (by decide +kernel))
theorem dX10_rateIn_71 : decode cX10_rateIn 71 = .ok (.ishr, 1) := zo_122 (zkb zk_cX10_rateIn zn_cX10_rateIn (by decide +kernel))
theorem dX10_rateIn_72 : decode cX10_rateIn 72 = .ok (.ireturn, 1) := zo_172 (zkb zk_cX10_rateIn zn_cX10_rateIn (by decide +kernel))
theorem dX10_rateIn_73 : decode cX10_rateIn 73 = .ok (.aload_n 0, 1) := zo_42 (zkb zk_cX10_rateIn zn_cX10_rateIn (by decide +kernel))
theorem dX10_rateIn_74 : decode cX10_rateIn 74 = .ok (.iconst 4, 1) := zo_7 (zkb zk_cX10_rateIn zn_cX10_rateIn (by decide +kernel))
theorem dX10_rateIn_75 : decode cX10_rateIn 75 = .ok (.iload_n 2, 1) := zo_28 (zkb zk_cX10_rateIn zn_cX10_rateIn (by decide +kernel))
theorem dX10_rateIn_76 : decode cX10_rateIn 76 = .ok (.iadd, 1) := zo_96 (zkb zk_cX10_rateIn zn_cX10_rateIn (by decide +kernel))
theorem dX10_rateIn_77 : decode cX10_rateIn 77 = .ok (.invokevirtual 76, 3) := zo_182 (b1 := 0) (b2 := 76) (zkb3 zk_cX10_rateIn zn_cX10_rateIn (by decide +kernel)) rfl
theorem dX10_rateIn_80 : decode cX10_rateIn 80 = .ok (.bipush 15, 2) := zo_16 (b1 := 15) (zkb2 zk_cX10_rateIn zn_cX10_rateIn (by decide +kernel)) rfl
theorem dX10_rateIn_82 : decode cX10_rateIn 82 = .ok (.iand, 1) := zo_126 (zkb zk_cX10_rateIn zn_cX10_rateIn (by decide +kernel))
theorem dX10_rateIn_83 : decode cX10_rateIn 83 = .ok (.ireturn, 1) := zo_172 (zkb zk_cX10_rateIn zn_cX10_rateIn (by decide +kernel))
theorem dX10_rateIn_84 : decode cX10_rateIn 84 = .ok (.iload_n 3, 1) := zo_29 (zkb zk_cX10_rateIn zn_cX10_rateIn (by decide +kernel))
theorem dX10_rateIn_85 : decode cX10_rateIn 85 = .ok (.ifCond .eq 7, 3) := zo_153 (b1 := 0) (b2 := 7) (zkb3 zk_cX10_rateIn zn_cX10_rateIn (by decide +kernel)) rfl
theorem dX10_rateIn_88 : decode cX10_rateIn 88 = .ok (.iconst 0, 1) := zo_3 (zkb zk_cX10_rateIn zn_cX10_rateIn (by decide +kernel))
theorem dX10_rateIn_89 : decode cX10_rateIn 89 = .ok (.goto 5, 3) := zo_167 (b1 := 0) (b2 := 5) (zkb3 zk_cX10_rateIn zn_cX10_rateIn (by decide +kernel)) rfl
theorem dX10_rateIn_92 : decode cX10_rateIn 92 = .ok (.iload 4, 2) := zo_21 (b1 := 4) (zkb2 zk_cX10_rateIn zn_cX10_rateIn (by decide +kernel))
theorem dX10_rateIn_94 : decode cX10_rateIn 94 = .ok (.ireturn, 1) := zo_172 (zkb zk_cX10_rateIn zn_cX10_rateIn (by decide +kernel))
theorem dX10_rateIn_95 : decode cX10_rateIn 95 = .ok (.aload_n 0, 1) := zo_42 (zkb zk_cX10_rateIn zn_cX10_rateIn (by decide +kernel))
theorem dX10_rateIn_96 : decode cX10_rateIn 96 = .ok (.getfield 9, 3) := zo_180 (b1 := 0) (b2 := 9) (zkb3 zk_cX10_rateIn zn_cX10_rateIn (by decide +kernel)) rfl
theorem dX10_rateIn_99 : decode cX10_rateIn 99 = .ok (.bipush 32, 2) := zo_16 (b1 := 32) (zkb2 zk_cX10_rateIn zn_cX10_rateIn (by decide +kernel)) rfl
theorem dX10_rateIn_101 : decode cX10_rateIn 101 = .ok (.aload_n 0, 1) := zo_42 (zkb zk_cX10_rateIn zn_cX10_rateIn (by decide +kernel))
theorem dX10_rateIn_102 : decode cX10_rateIn 102 = .ok (.getfield 48, 3) := zo_180 (b1 := 0) (b2 := 48) (zkb3 zk_cX10_rateIn zn_cX10_rateIn (by decide +kernel)) rfl
theorem dX10_rateIn_105 : decode cX10_rateIn 105 = .ok (.iadd, 1) := zo_96 (zkb zk_cX10_rateIn zn_cX10_rateIn (by decide +kernel))
theorem dX10_rateIn_106 : decode cX10_rateIn 106 = .ok (.iaload, 1) := zo_46 (zkb zk_cX10_rateIn zn_cX10_rateIn (by decide +kernel))
theorem dX10_rateIn_107 : decode cX10_rateIn 107 = .ok (.bipush 32, 2) := zo_16 (b1 := 32) (zkb2 zk_cX10_rateIn zn_cX10_rateIn (by decide +kernel)) rfl
theorem dX10_rateIn_109 : decode cX10_rateIn 109 = .ok (.iand, 1) := zo_126 (zkb zk_cX10_rateIn zn_cX10_rateIn (by decide +kernel))
theorem dX10_rateIn_110 : decode cX10_rateIn 110 = .ok (.ifCond .eq 5, 3) := zo_153 (b1 := 0) (b2 := 5) (zkb3 zk_cX10_rateIn zn_cX10_rateIn (by decide +kernel)) rfl
theorem dX10_rateIn_113 : decode cX10_rateIn 113 = .ok (.iconst 5, 1) := zo_8 (zkb zk_cX10_rateIn zn_cX10_rateIn (by decide +kernel))
theorem dX10_rateIn_114 : decode cX10_rateIn 114 = .ok (.ireturn, 1) := zo_172 (zkb zk_cX10_rateIn zn_cX10_rateIn (by decide +kernel))
theorem dX10_rateIn_115 : decode cX10_rateIn 115 = .ok (.iload_n 3, 1) := zo_29 (zkb zk_cX10_rateIn zn_cX10_rateIn (by decide +kernel))
theorem dX10_rateIn_116 : decode cX10_rateIn 116 = .ok (.ifCond .eq 8, 3) := zo_153 (b1 := 0) (b2 := 8) (zkb3 zk_cX10_rateIn zn_cX10_rateIn (by decide +kernel)) rfl
theorem dX10_rateIn_119 : decode cX10_rateIn 119 = .ok (.iload 4, 2) := zo_21 (b1 := 4) (zkb2 zk_cX10_rateIn zn_cX10_rateIn (by decide +kernel))
theorem dX10_rateIn_121 : decode cX10_rateIn 121 = .ok (.goto 5, 3) := zo_167 (b1 := 0) (b2 := 5) (zkb3 zk_cX10_rateIn zn_cX10_rateIn (by decide +kernel)) rfl
theorem dX10_rateIn_124 : decode cX10_rateIn 124 = .ok (.bipush 7, 2) := zo_16 (b1 := 7) (zkb2 zk_cX10_rateIn zn_cX10_rateIn (by decide +kernel)) rfl
theorem dX10_rateIn_126 : decode cX10_rateIn 126 = .ok (.ireturn, 1) := zo_172 (zkb zk_cX10_rateIn zn_cX10_rateIn (by decide +kernel))
def kn_cX10_moveLevel : Nat := 0xb14f6700b8607600b6061505152a2e60031b0900b42a7f1060031b0900b42a2100a74f7300b86f00b6061505152e60031b0900b42a2a0360031b0900b42a2200a0042e60041b0900b42a06362e7e0604156c00b205366700b8606c0704151d0f1004366c07041509009a7e10104c00b61c2a0436607a08103400b42a683700b42a05b104009a1d3e6400b61c2e60041b0900b42a2a
theorem zk_cX10_moveLevel : zkd cX10_moveLevel.data.toList kn_cX10_moveLevel = true := by decide +kernel
theorem zn_cX10_moveLevel : cX10_moveLevel.data.toList.length = 149 := by decide +kernel
theorem dX10_moveLevel_0 : decode cX10_moveLevel 0 = .ok (.aload_n 0, 1) := zo_42 (zkb zk_cX10_moveLevel zn_cX10_moveLevel (by decide +kernel))
theorem dX10_moveLevel_1 : decode cX10_moveLevel 1 = .ok (.aload_n 0, 1) := zo_42 (zkb zk_cX10_moveLevel zn_cX10_moveLevel (by decide +kernel))
theorem dX10_moveLevel_2 : decode cX10_moveLevel 2 = .ok (.getfield 9, 3) := zo_180 (b1 := 0) (b2 := 9) (zkb3 zk_cX10_moveLevel zn_cX10_moveLevel (by decide +kernel)) rfl
theorem dX10_moveLevel_5 : decode cX10_moveLevel 5 = .ok (.iload_n 1, 1) := zo_27 (zkb zk_cX10_moveLevel zn_cX10_moveLevel (by decide +kernel))
theorem dX10_moveLevel_6 : decode cX10_moveLevel 6 = .ok (.iconst 1, 1) := zo_4 (zkb zk_cX10_moveLevel zn_cX10_moveLevel (by decide +kernel))
theorem dX10_moveLevel_7 : decode cX10_moveLevel 7 = .ok (.iadd, 1) := zo_96 (zkb zk_cX10_moveLevel zn_cX10_moveLevel (by decide +kernel))
theorem dX10_moveLevel_8 : decode cX10_moveLevel 8 = .ok (.iaload, 1) := zo_46 (zkb zk_cX10_moveLevel zn_cX10_moveLevel (by decide +kernel))
theorem dX10_moveLevel_9 : decode cX10_moveLevel 9 = .ok (.iload_n 2, 1) := zo_28 (zkb zk_cX10_moveLevel zn_cX10_moveLevel (by decide +kernel))
theorem dX10_moveLevel_10 : decode cX10_moveLevel 10 = .ok (.invokevirtual 100, 3) := zo_182 (b1 := 0) (b2 := 100) (zkb3 zk_cX10_moveLevel zn_cX10_moveLevel (by decide +kernel)) rfl
theorem dX10_moveLevel_13 : decode cX10_moveLevel 13 = .ok (.istore_n 3, 1) := zo_62 (zkb zk_cX10_moveLevel zn_cX10_moveLevel (by decide +kernel))
theorem dX10_moveLevel_14 : decode cX10_moveLevel 14 = .ok (.iload_n 3, 1) := zo_29 (zkb zk_cX10_moveLevel zn_cX10_moveLevel (by decide +kernel))
theorem dX10_moveLevel_15 : decode cX10_moveLevel 15 = .ok (.ifCond .ne 4, 3) := zo_154 (b1 := 0) (b2 := 4) (zkb3 zk_cX10_moveLevel zn_cX10_moveLevel (by decide +kernel)) rfl
theorem dX10_moveLevel_18 : decode cX10_moveLevel 18 = .ok (.return_, 1) := zo_177 (zkb zk_cX10_moveLevel zn_cX10_moveLevel (by decide +kernel))
theorem dX10_moveLevel_19 : decode cX10_moveLevel 19 = .ok (.iconst 2, 1) := zo_5 (zkb zk_cX10_moveLevel zn_cX10_moveLevel (by decide +kernel))
theorem dX10_moveLevel_20 : decode cX10_moveLevel 20 = .ok (.aload_n 0, 1) := zo_42 (zkb zk_cX10_moveLevel zn_cX10_moveLevel (by decide +kernel))
theorem dX10_moveLevel_21 : decode cX10_moveLevel 21 = .ok (.getfield 55, 3) := zo_180 (b1 := 0) (b2 := 55) (zkb3 zk_cX10_moveLevel zn_cX10_moveLevel (by decide +kernel)) rfl
theorem dX10_moveLevel_24 : decode cX10_moveLevel 24 = .ok (.imul, 1) := zo_104 (zkb zk_cX10_moveLevel zn_cX10_moveLevel (by decide +kernel))
theorem dX10_moveLevel_25 : decode cX10_moveLevel 25 = .ok (.aload_n 0, 1) := zo_42 (zkb zk_cX10_moveLevel zn_cX10_moveLevel (by decide +kernel))
theorem dX10_moveLevel_26 : decode cX10_moveLevel 26 = .ok (.getfield 52, 3) := zo_180 (b1 := 0) (b2 := 52) (zkb3 zk_cX10_moveLevel zn_cX10_moveLevel (by decide +kernel)) rfl
theorem dX10_moveLevel_29 : decode cX10_moveLevel 29 = .ok (.bipush 8, 2) := zo_16 (b1 := 8) (zkb2 zk_cX10_moveLevel zn_cX10_moveLevel (by decide +kernel)) rfl
theorem dX10_moveLevel_31 : decode cX10_moveLevel 31 = .ok (.ishr, 1) := zo_122 (zkb zk_cX10_moveLevel zn_cX10_moveLevel (by decide +kernel))
theorem dX10_moveLevel_32 : decode cX10_moveLevel 32 = .ok (.iadd, 1) := zo_96 (zkb zk_cX10_moveLevel zn_cX10_moveLevel (by decide +kernel))
theorem dX10_moveLevel_33 : decode cX10_moveLevel 33 = .ok (.istore 4, 2) := zo_54 (b1 := 4) (zkb2 zk_cX10_moveLevel zn_cX10_moveLevel (by decide +kernel))
theorem dX10_moveLevel_35 : decode cX10_moveLevel 35 = .ok (.aload_n 0, 1) := zo_42 (zkb zk_cX10_moveLevel zn_cX10_moveLevel (by decide +kernel))
theorem dX10_moveLevel_36 : decode cX10_moveLevel 36 = .ok (.iload_n 2, 1) := zo_28 (zkb zk_cX10_moveLevel zn_cX10_moveLevel (by decide +kernel))
theorem dX10_moveLevel_37 : decode cX10_moveLevel 37 = .ok (.invokevirtual 76, 3) := zo_182 (b1 := 0) (b2 := 76) (zkb3 zk_cX10_moveLevel zn_cX10_moveLevel (by decide +kernel)) rfl
theorem dX10_moveLevel_40 : decode cX10_moveLevel 40 = .ok (.bipush 16, 2) := zo_16 (b1 := 16) (zkb2 zk_cX10_moveLevel zn_cX10_moveLevel (by decide +kernel)) rfl
theorem dX10_moveLevel_42 : decode cX10_moveLevel 42 = .ok (.iand, 1) := zo_126 (zkb zk_cX10_moveLevel zn_cX10_moveLevel (by decide +kernel))
theorem dX10_moveLevel_43 : decode cX10_moveLevel 43 = .ok (.ifCond .ne 9, 3) := zo_154 (b1 := 0) (b2 := 9) (zkb3 zk_cX10_moveLevel zn_cX10_moveLevel (by decide +kernel)) rfl
theorem dX10_moveLevel_46 : decode cX10_moveLevel 46 = .ok (.iload 4, 2) := zo_21 (b1 := 4) (zkb2 zk_cX10_moveLevel zn_cX10_moveLevel (by decide +kernel))
theorem dX10_moveLevel_48 : decode cX10_moveLevel 48 = .ok (.iconst 4, 1) := zo_7 (zkb zk_cX10_moveLevel zn_cX10_moveLevel (by decide +kernel))
theorem dX10_moveLevel_49 : decode cX10_moveLevel 49 = .ok (.idiv, 1) := zo_108 (zkb zk_cX10_moveLevel zn_cX10_moveLevel (by decide +kernel))
theorem dX10_moveLevel_50 : decode cX10_moveLevel 50 = .ok (.istore 4, 2) := zo_54 (b1 := 4) (zkb2 zk_cX10_moveLevel zn_cX10_moveLevel (by decide +kernel))
theorem dX10_moveLevel_52 : decode cX10_moveLevel 52 = .ok (.bipush 15, 2) := zo_16 (b1 := 15) (zkb2 zk_cX10_moveLevel zn_cX10_moveLevel (by decide +kernel)) rfl
theorem dX10_moveLevel_54 : decode cX10_moveLevel 54 = .ok (.iload_n 3, 1) := zo_29 (zkb zk_cX10_moveLevel zn_cX10_moveLevel (by decide +kernel))
theorem dX10_moveLevel_55 : decode cX10_moveLevel 55 = .ok (.iload 4, 2) := zo_21 (b1 := 4) (zkb2 zk_cX10_moveLevel zn_cX10_moveLevel (by decide +kernel))
theorem dX10_moveLevel_57 : decode cX10_moveLevel 57 = .ok (.iconst 4, 1) := zo_7 (zkb zk_cX10_moveLevel zn_cX10_moveLevel (by decide +kernel))
theorem dX10_moveLevel_58 : decode cX10_moveLevel 58 = .ok (.idiv, 1) := zo_108 (zkb zk_cX10_moveLevel zn_cX10_moveLevel (by decide +kernel))
theorem dX10_moveLevel_59 : decode cX10_moveLevel 59 = .ok (.iadd, 1) := zo_96 (zkb zk_cX10_moveLevel zn_cX10_moveLevel (by decide +kernel))
theorem dX10_moveLevel_60 : decode cX10_moveLevel 60 = .ok (.invokestatic 103, 3) := zo_184 (b1 := 0) (b2 := 103) (zkb3 zk_cX10_moveLevel zn_cX10_moveLevel (by decide +kernel)) rfl
theorem dX10_moveLevel_63 : decode cX10_moveLevel 63 = .ok (.istore 5, 2) := zo_54 (b1 := 5) (zkb2 zk_cX10_moveLevel zn_cX10_moveLevel (by decide +kernel))
theorem dX10_moveLevel_65 : decode cX10_moveLevel 65 = .ok (.getstatic 108, 3) := zo_178 (b1 := 0) (b2 := 108) (zkb3 zk_cX10_moveLevel zn_cX10_moveLevel (by decide +kernel)) rfl
theorem dX10_moveLevel_68 : decode cX10_moveLevel 68 = .ok (.iload 4, 2) := zo_21 (b1 := 4) (zkb2 zk_cX10_moveLevel zn_cX10_moveLevel (by decide +kernel))
theorem dX10_moveLevel_70 : decode cX10_moveLevel 70 = .ok (.iconst 3, 1) := zo_6 (zkb zk_cX10_moveLevel zn_cX10_moveLevel (by decide +kernel))
theorem dX10_moveLevel_71 : decode cX10_moveLevel 71 = .ok (.iand, 1) := zo_126 (zkb zk_cX10_moveLevel zn_cX10_moveLevel (by decide +kernel))
theorem dX10_moveLevel_72 : decode cX10_moveLevel 72 = .ok (.iaload, 1) := zo_46 (zkb zk_cX10_moveLevel zn_cX10_moveLevel (by decide +kernel))
theorem dX10_moveLevel_73 : decode cX10_moveLevel 73 = .ok (.istore 6, 2) := zo_54 (b1 := 6) (zkb2 zk_cX10_moveLevel zn_cX10_moveLevel (by decide +kernel))
theorem dX10_moveLevel_75 : decode cX10_moveLevel 75 = .ok (.aload_n 0, 1) := zo_42 (zkb zk_cX10_moveLevel zn_cX10_moveLevel (by decide +kernel))
theorem dX10_moveLevel_76 : decode cX10_moveLevel 76 = .ok (.getfield 9, 3) := zo_180 (b1 := 0) (b2 := 9) (zkb3 zk_cX10_moveLevel zn_cX10_moveLevel (by decide +kernel)) rfl
theorem dX10_moveLevel_79 : decode cX10_moveLevel 79 = .ok (.iload_n 1, 1) := zo_27 (zkb zk_cX10_moveLevel zn_cX10_moveLevel (by decide +kernel))
theorem dX10_moveLevel_80 : decode cX10_moveLevel 80 = .ok (.iconst 1, 1) := zo_4 (zkb zk_cX10_moveLevel zn_cX10_moveLevel (by decide +kernel))
theorem dX10_moveLevel_81 : decode cX10_moveLevel 81 = .ok (.iadd, 1) := zo_96 (zkb zk_cX10_moveLevel zn_cX10_moveLevel (by decide +kernel))
theorem dX10_moveLevel_82 : decode cX10_moveLevel 82 = .ok (.iaload, 1) := zo_46 (zkb zk_cX10_moveLevel zn_cX10_moveLevel (by decide +kernel))
theorem dX10_moveLevel_83 : decode cX10_moveLevel 83 = .ok (.iconst 1, 1) := zo_4 (zkb zk_cX10_moveLevel zn_cX10_moveLevel (by decide +kernel))
theorem dX10_moveLevel_84 : decode cX10_moveLevel 84 = .ok (.if_icmp .ne 34, 3) := zo_160 (b1 := 0) (b2 := 34) (zkb3 zk_cX10_moveLevel zn_cX10_moveLevel (by decide +kernel)) rfl
theorem dX10_moveLevel_87 : decode cX10_moveLevel 87 = .ok (.aload_n 0, 1) := zo_42 (zkb zk_cX10_moveLevel zn_cX10_moveLevel (by decide +kernel))
theorem dX10_moveLevel_88 : decode cX10_moveLevel 88 = .ok (.getfield 9, 3) := zo_180 (b1 := 0) (b2 := 9) (zkb3 zk_cX10_moveLevel zn_cX10_moveLevel (by decide +kernel)) rfl
theorem dX10_moveLevel_91 : decode cX10_moveLevel 91 = .ok (.iload_n 1, 1) := zo_27 (zkb zk_cX10_moveLevel zn_cX10_moveLevel (by decide +kernel))
theorem dX10_moveLevel_92 : decode cX10_moveLevel 92 = .ok (.iconst 0, 1) := zo_3 (zkb zk_cX10_moveLevel zn_cX10_moveLevel (by decide +kernel))
theorem dX10_moveLevel_93 : decode cX10_moveLevel 93 = .ok (.iadd, 1) := zo_96 (zkb zk_cX10_moveLevel zn_cX10_moveLevel (by decide +kernel))
theorem dX10_moveLevel_94 : decode cX10_moveLevel 94 = .ok (.iconst 0, 1) := zo_3 (zkb zk_cX10_moveLevel zn_cX10_moveLevel (by decide +kernel))
theorem dX10_moveLevel_95 : decode cX10_moveLevel 95 = .ok (.aload_n 0, 1) := zo_42 (zkb zk_cX10_moveLevel zn_cX10_moveLevel (by decide +kernel))
theorem dX10_moveLevel_96 : decode cX10_moveLevel 96 = .ok (.aload_n 0, 1) := zo_42 (zkb zk_cX10_moveLevel zn_cX10_moveLevel (by decide +kernel))
theorem dX10_moveLevel_97 : decode cX10_moveLevel 97 = .ok (.getfield 9, 3) := zo_180 (b1 := 0) (b2 := 9) (zkb3 zk_cX10_moveLevel zn_cX10_moveLevel (by decide +kernel)) rfl
theorem dX10_moveLevel_100 : decode cX10_moveLevel 100 = .ok (.iload_n 1, 1) := zo_27 (zkb zk_cX10_moveLevel zn_cX10_moveLevel (by decide +kernel))
theorem dX10_moveLevel_101 : decode cX10_moveLevel 101 = .ok (.iconst 0, 1) := zo_3 (zkb zk_cX10_moveLevel zn_cX10_moveLevel (by decide +kernel))
theorem dX10_moveLevel_102 : decode cX10_moveLevel 102 = .ok (.iadd, 1) := zo_96 (zkb zk_cX10_moveLevel zn_cX10_moveLevel (by decide +kernel))
theorem dX10_moveLevel_103 : decode cX10_moveLevel 103 = .ok (.iaload, 1) := zo_46 (zkb zk_cX10_moveLevel zn_cX10_moveLevel (by decide +kernel))
theorem dX10_moveLevel_104 : decode cX10_moveLevel 104 = .ok (.iload 5, 2) := zo_21 (b1 := 5) (zkb2 zk_cX10_moveLevel zn_cX10_moveLevel (by decide +kernel))
theorem dX10_moveLevel_106 : decode cX10_moveLevel 106 = .ok (.iload 6, 2) := zo_21 (b1 := 6) (zkb2 zk_cX10_moveLevel zn_cX10_moveLevel (by decide +kernel))
theorem dX10_moveLevel_108 : decode cX10_moveLevel 108 = .ok (.invokevirtual 111, 3) := zo_182 (b1 := 0) (b2 := 111) (zkb3 zk_cX10_moveLevel zn_cX10_moveLevel (by decide +kernel)) rfl
theorem dX10_moveLevel_111 : decode cX10_moveLevel 111 = .ok (.invokestatic 115, 3) := zo_184 (b1 := 0) (b2 := 115) (zkb3 zk_cX10_moveLevel zn_cX10_moveLevel (by decide +kernel)) rfl
theorem dX10_moveLevel_114 : decode cX10_moveLevel 114 = .ok (.iastore, 1) := zo_79 (zkb zk_cX10_moveLevel zn_cX10_moveLevel (by decide +kernel))
theorem dX10_moveLevel_115 : decode cX10_moveLevel 115 = .ok (.goto 33, 3) := zo_167 (b1 := 0) (b2 := 33) (zkb3 zk_cX10_moveLevel zn_cX10_moveLevel (by decide +kernel)) rfl
theorem dX10_moveLevel_118 : decode cX10_moveLevel 118 = .ok (.aload_n 0, 1) := zo_42 (zkb zk_cX10_moveLevel zn_cX10_moveLevel (by decide +kernel))
theorem dX10_moveLevel_119 : decode cX10_moveLevel 119 = .ok (.getfield 9, 3) := zo_180 (b1 := 0) (b2 := 9) (zkb3 zk_cX10_moveLevel zn_cX10_moveLevel (by decide +kernel)) rfl
theorem dX10_moveLevel_122 : decode cX10_moveLevel 122 = .ok (.iload_n 1, 1) := zo_27 (zkb zk_cX10_moveLevel zn_cX10_moveLevel (by decide +kernel))
theorem dX10_moveLevel_123 : decode cX10_moveLevel 123 = .ok (.iconst 0, 1) := zo_3 (zkb zk_cX10_moveLevel zn_cX10_moveLevel (by decide +kernel))
theorem dX10_moveLevel_124 : decode cX10_moveLevel 124 = .ok (.iadd, 1) := zo_96 (zkb zk_cX10_moveLevel zn_cX10_moveLevel (by decide +kernel))
theorem dX10_moveLevel_125 : decode cX10_moveLevel 125 = .ok (.bipush 127, 2) := zo_16 (b1 := 127) (zkb2 zk_cX10_moveLevel zn_cX10_moveLevel (by decide +kernel)) rfl
theorem dX10_moveLevel_127 : decode cX10_moveLevel 127 = .ok (.aload_n 0, 1) := zo_42 (zkb zk_cX10_moveLevel zn_cX10_moveLevel (by decide +kernel))
theorem dX10_moveLevel_128 : decode cX10_moveLevel 128 = .ok (.getfield 9, 3) := zo_180 (b1 := 0) (b2 := 9) (zkb3 zk_cX10_moveLevel zn_cX10_moveLevel (by decide +kernel)) rfl
theorem dX10_moveLevel_131 : decode cX10_moveLevel 131 = .ok (.iload_n 1, 1) := zo_27 (zkb zk_cX10_moveLevel zn_cX10_moveLevel (by decide +kernel))
theorem dX10_moveLevel_132 : decode cX10_moveLevel 132 = .ok (.iconst 0, 1) := zo_3 (zkb zk_cX10_moveLevel zn_cX10_moveLevel (by decide +kernel))
theorem dX10_moveLevel_133 : decode cX10_moveLevel 133 = .ok (.iadd, 1) := zo_96 (zkb zk_cX10_moveLevel zn_cX10_moveLevel (by decide +kernel))
theorem dX10_moveLevel_134 : decode cX10_moveLevel 134 = .ok (.iaload, 1) := zo_46 (zkb zk_cX10_moveLevel zn_cX10_moveLevel (by decide +kernel))
theorem dX10_moveLevel_135 : decode cX10_moveLevel 135 = .ok (.aload_n 0, 1) := zo_42 (zkb zk_cX10_moveLevel zn_cX10_moveLevel (by decide +kernel))
theorem dX10_moveLevel_136 : decode cX10_moveLevel 136 = .ok (.iload 5, 2) := zo_21 (b1 := 5) (zkb2 zk_cX10_moveLevel zn_cX10_moveLevel (by decide +kernel))
theorem dX10_moveLevel_138 : decode cX10_moveLevel 138 = .ok (.iload 6, 2) := zo_21 (b1 := 6) (zkb2 zk_cX10_moveLevel zn_cX10_moveLevel (by decide +kernel))
theorem dX10_moveLevel_140 : decode cX10_moveLevel 140 = .ok (.invokevirtual 118, 3) := zo_182 (b1 := 0) (b2 := 118) (zkb3 zk_cX10_moveLevel zn_cX10_moveLevel (by decide +kernel)) rfl
theorem dX10_moveLevel_143 : decode cX10_moveLevel 143 = .ok (.iadd, 1) := zo_96 (zkb zk_cX10_moveLevel zn_cX10_moveLevel (by decide +kernel))
theorem dX10_moveLevel_144 : decode cX10_moveLevel 144 = .ok (.invokestatic 103, 3) := zo_184 (b1 := 0) (b2 := 103) (zkb3 zk_cX10_moveLevel zn_cX10_moveLevel (by decide +kernel)) rfl
theorem dX10_moveLevel_147 : decode cX10_moveLevel 147 = .ok (.iastore, 1) := zo_79 (zkb zk_cX10_moveLevel zn_cX10_moveLevel (by decide +kernel))
theorem dX10_moveLevel_148 : decode cX10_moveLevel 148 = .ok (.return_, 1) := zo_177 (zkb zk_cX10_moveLevel zn_cX10_moveLevel (by decide +kernel))
def kn_cX10_louder : Nat := 0xac1b0400a76404646c10101b1b0e00a0047d00b61d1c2aac6404647a647e047a7900b62a1d641c10101b1b1700a10c101cac030500a00f101c
theorem zk_cX10_louder : zkd cX10_louder.data.toList kn_cX10_louder = true := by decide +kernel
theorem zn_cX10_louder : cX10_louder.data.toList.length = 57 := by decide +kernel
theorem dX10_louder_0 : decode cX10_louder 0 = .ok (.iload_n 2, 1) := zo_28 (zkb zk_cX10_louder zn_cX10_louder (by decide +kernel))
theorem dX10_louder_1 : decode cX10_louder 1 = .ok (.bipush 15, 2) := zo_16 (b1 := 15) (zkb2 zk_cX10_louder zn_cX10_louder (by decide +kernel)) rfl
theorem dX10_louder_3 : decode cX10_louder 3 = .ok (.if_icmp .ne 5, 3) := zo_160 (b1 := 0) (b2 := 5) (zkb3 zk_cX10_louder zn_cX10_louder (by decide +kernel)) rfl
theorem dX10_louder_6 : decode cX10_louder 6 = .ok (.iconst 0, 1) := zo_3 (zkb zk_cX10_louder zn_cX10_louder (by decide +kernel))
theorem dX10_louder_7 : decode cX10_louder 7 = .ok (.ireturn, 1) := zo_172 (zkb zk_cX10_louder zn_cX10_louder (by decide +kernel))
theorem dX10_louder_8 : decode cX10_louder 8 = .ok (.iload_n 2, 1) := zo_28 (zkb zk_cX10_louder zn_cX10_louder (by decide +kernel))
theorem dX10_louder_9 : decode cX10_louder 9 = .ok (.bipush 12, 2) := zo_16 (b1 := 12) (zkb2 zk_cX10_louder zn_cX10_louder (by decide +kernel)) rfl
theorem dX10_louder_11 : decode cX10_louder 11 = .ok (.if_icmp .lt 23, 3) := zo_161 (b1 := 0) (b2 := 23) (zkb3 zk_cX10_louder zn_cX10_louder (by decide +kernel)) rfl
theorem dX10_louder_14 : decode cX10_louder 14 = .ok (.iload_n 1, 1) := zo_27 (zkb zk_cX10_louder zn_cX10_louder (by decide +kernel))
theorem dX10_louder_15 : decode cX10_louder 15 = .ok (.iload_n 1, 1) := zo_27 (zkb zk_cX10_louder zn_cX10_louder (by decide +kernel))
theorem dX10_louder_16 : decode cX10_louder 16 = .ok (.bipush 16, 2) := zo_16 (b1 := 16) (zkb2 zk_cX10_louder zn_cX10_louder (by decide +kernel)) rfl
theorem dX10_louder_18 : decode cX10_louder 18 = .ok (.iload_n 2, 1) := zo_28 (zkb zk_cX10_louder zn_cX10_louder (by decide +kernel))
theorem dX10_louder_19 : decode cX10_louder 19 = .ok (.isub, 1) := zo_100 (zkb zk_cX10_louder zn_cX10_louder (by decide +kernel))
theorem dX10_louder_20 : decode cX10_louder 20 = .ok (.iload_n 3, 1) := zo_29 (zkb zk_cX10_louder zn_cX10_louder (by decide +kernel))
theorem dX10_louder_21 : decode cX10_louder 21 = .ok (.aload_n 0, 1) := zo_42 (zkb zk_cX10_louder zn_cX10_louder (by decide +kernel))
theorem dX10_louder_22 : decode cX10_louder 22 = .ok (.invokevirtual 121, 3) := zo_182 (b1 := 0) (b2 := 121) (zkb3 zk_cX10_louder zn_cX10_louder (by decide +kernel)) rfl
theorem dX10_louder_25 : decode cX10_louder 25 = .ok (.ishr, 1) := zo_122 (zkb zk_cX10_louder zn_cX10_louder (by decide +kernel))
theorem dX10_louder_26 : decode cX10_louder 26 = .ok (.iconst 1, 1) := zo_4 (zkb zk_cX10_louder zn_cX10_louder (by decide +kernel))
theorem dX10_louder_27 : decode cX10_louder 27 = .ok (.iand, 1) := zo_126 (zkb zk_cX10_louder zn_cX10_louder (by decide +kernel))
theorem dX10_louder_28 : decode cX10_louder 28 = .ok (.isub, 1) := zo_100 (zkb zk_cX10_louder zn_cX10_louder (by decide +kernel))
theorem dX10_louder_29 : decode cX10_louder 29 = .ok (.ishr, 1) := zo_122 (zkb zk_cX10_louder zn_cX10_louder (by decide +kernel))
theorem dX10_louder_30 : decode cX10_louder 30 = .ok (.isub, 1) := zo_100 (zkb zk_cX10_louder zn_cX10_louder (by decide +kernel))
theorem dX10_louder_31 : decode cX10_louder 31 = .ok (.iconst 1, 1) := zo_4 (zkb zk_cX10_louder zn_cX10_louder (by decide +kernel))
theorem dX10_louder_32 : decode cX10_louder 32 = .ok (.isub, 1) := zo_100 (zkb zk_cX10_louder zn_cX10_louder (by decide +kernel))
theorem dX10_louder_33 : decode cX10_louder 33 = .ok (.ireturn, 1) := zo_172 (zkb zk_cX10_louder zn_cX10_louder (by decide +kernel))
theorem dX10_louder_34 : decode cX10_louder 34 = .ok (.aload_n 0, 1) := zo_42 (zkb zk_cX10_louder zn_cX10_louder (by decide +kernel))
theorem dX10_louder_35 : decode cX10_louder 35 = .ok (.iload_n 2, 1) := zo_28 (zkb zk_cX10_louder zn_cX10_louder (by decide +kernel))
theorem dX10_louder_36 : decode cX10_louder 36 = .ok (.iload_n 3, 1) := zo_29 (zkb zk_cX10_louder zn_cX10_louder (by decide +kernel))
theorem dX10_louder_37 : decode cX10_louder 37 = .ok (.invokevirtual 125, 3) := zo_182 (b1 := 0) (b2 := 125) (zkb3 zk_cX10_louder zn_cX10_louder (by decide +kernel)) rfl
theorem dX10_louder_40 : decode cX10_louder 40 = .ok (.iconst 1, 1) := zo_4 (zkb zk_cX10_louder zn_cX10_louder (by decide +kernel))
theorem dX10_louder_41 : decode cX10_louder 41 = .ok (.if_icmp .ne 14, 3) := zo_160 (b1 := 0) (b2 := 14) (zkb3 zk_cX10_louder zn_cX10_louder (by decide +kernel)) rfl
theorem dX10_louder_44 : decode cX10_louder 44 = .ok (.iload_n 1, 1) := zo_27 (zkb zk_cX10_louder zn_cX10_louder (by decide +kernel))
theorem dX10_louder_45 : decode cX10_louder 45 = .ok (.iload_n 1, 1) := zo_27 (zkb zk_cX10_louder zn_cX10_louder (by decide +kernel))
theorem dX10_louder_46 : decode cX10_louder 46 = .ok (.bipush 16, 2) := zo_16 (b1 := 16) (zkb2 zk_cX10_louder zn_cX10_louder (by decide +kernel)) rfl
theorem dX10_louder_48 : decode cX10_louder 48 = .ok (.idiv, 1) := zo_108 (zkb zk_cX10_louder zn_cX10_louder (by decide +kernel))
theorem dX10_louder_49 : decode cX10_louder 49 = .ok (.isub, 1) := zo_100 (zkb zk_cX10_louder zn_cX10_louder (by decide +kernel))
theorem dX10_louder_50 : decode cX10_louder 50 = .ok (.iconst 1, 1) := zo_4 (zkb zk_cX10_louder zn_cX10_louder (by decide +kernel))
theorem dX10_louder_51 : decode cX10_louder 51 = .ok (.isub, 1) := zo_100 (zkb zk_cX10_louder zn_cX10_louder (by decide +kernel))
theorem dX10_louder_52 : decode cX10_louder 52 = .ok (.goto 4, 3) := zo_167 (b1 := 0) (b2 := 4) (zkb3 zk_cX10_louder zn_cX10_louder (by decide +kernel)) rfl
theorem dX10_louder_55 : decode cX10_louder 55 = .ok (.iload_n 1, 1) := zo_27 (zkb zk_cX10_louder zn_cX10_louder (by decide +kernel))
theorem dX10_louder_56 : decode cX10_louder 56 = .ok (.ireturn, 1) := zo_172 (zkb zk_cX10_louder zn_cX10_louder (by decide +kernel))
def kn_cX10_softer : Nat := 0xac7d00b61c1b2aac7e047a607e042e42100900b42a7900b62a1cac60047e047a7900b62a1cac051b0000001d000000280000000f0000000d0000003b0000000000aa1b
theorem zk_cX10_softer : zkd cX10_softer.data.toList kn_cX10_softer = true := by decide +kernel
theorem zn_cX10_softer : cX10_softer.data.toList.length = 67 := by decide +kernel
theorem dX10_softer_0 : decode cX10_softer 0 = .ok (.iload_n 1, 1) := zo_27 (zkb zk_cX10_softer zn_cX10_softer (by decide +kernel))
theorem dX10_softer_1 : decode cX10_softer 1 = .ok (.tableswitch 59 13 15 #[40, 29, 27], 27) := by decide +kernel
theorem dX10_softer_28 : decode cX10_softer 28 = .ok (.iconst 2, 1) := zo_5 (zkb zk_cX10_softer zn_cX10_softer (by decide +kernel))
theorem dX10_softer_29 : decode cX10_softer 29 = .ok (.ireturn, 1) := zo_172 (zkb zk_cX10_softer zn_cX10_softer (by decide +kernel))
theorem dX10_softer_30 : decode cX10_softer 30 = .ok (.iload_n 2, 1) := zo_28 (zkb zk_cX10_softer zn_cX10_softer (by decide +kernel))
theorem dX10_softer_31 : decode cX10_softer 31 = .ok (.aload_n 0, 1) := zo_42 (zkb zk_cX10_softer zn_cX10_softer (by decide +kernel))
theorem dX10_softer_32 : decode cX10_softer 32 = .ok (.invokevirtual 121, 3) := zo_182 (b1 := 0) (b2 := 121) (zkb3 zk_cX10_softer zn_cX10_softer (by decide +kernel)) rfl
theorem dX10_softer_35 : decode cX10_softer 35 = .ok (.ishr, 1) := zo_122 (zkb zk_cX10_softer zn_cX10_softer (by decide +kernel))
theorem dX10_softer_36 : decode cX10_softer 36 = .ok (.iconst 1, 1) := zo_4 (zkb zk_cX10_softer zn_cX10_softer (by decide +kernel))
theorem dX10_softer_37 : decode cX10_softer 37 = .ok (.iand, 1) := zo_126 (zkb zk_cX10_softer zn_cX10_softer (by decide +kernel))
theorem dX10_softer_38 : decode cX10_softer 38 = .ok (.iconst 1, 1) := zo_4 (zkb zk_cX10_softer zn_cX10_softer (by decide +kernel))
theorem dX10_softer_39 : decode cX10_softer 39 = .ok (.iadd, 1) := zo_96 (zkb zk_cX10_softer zn_cX10_softer (by decide +kernel))
theorem dX10_softer_40 : decode cX10_softer 40 = .ok (.ireturn, 1) := zo_172 (zkb zk_cX10_softer zn_cX10_softer (by decide +kernel))
theorem dX10_softer_41 : decode cX10_softer 41 = .ok (.iload_n 2, 1) := zo_28 (zkb zk_cX10_softer zn_cX10_softer (by decide +kernel))
theorem dX10_softer_42 : decode cX10_softer 42 = .ok (.aload_n 0, 1) := zo_42 (zkb zk_cX10_softer zn_cX10_softer (by decide +kernel))
theorem dX10_softer_43 : decode cX10_softer 43 = .ok (.invokevirtual 121, 3) := zo_182 (b1 := 0) (b2 := 121) (zkb3 zk_cX10_softer zn_cX10_softer (by decide +kernel)) rfl
theorem dX10_softer_46 : decode cX10_softer 46 = .ok (.aload_n 0, 1) := zo_42 (zkb zk_cX10_softer zn_cX10_softer (by decide +kernel))
theorem dX10_softer_47 : decode cX10_softer 47 = .ok (.getfield 9, 3) := zo_180 (b1 := 0) (b2 := 9) (zkb3 zk_cX10_softer zn_cX10_softer (by decide +kernel)) rfl
theorem dX10_softer_50 : decode cX10_softer 50 = .ok (.bipush 66, 2) := zo_16 (b1 := 66) (zkb2 zk_cX10_softer zn_cX10_softer (by decide +kernel)) rfl
theorem dX10_softer_52 : decode cX10_softer 52 = .ok (.iaload, 1) := zo_46 (zkb zk_cX10_softer zn_cX10_softer (by decide +kernel))
theorem dX10_softer_53 : decode cX10_softer 53 = .ok (.iconst 1, 1) := zo_4 (zkb zk_cX10_softer zn_cX10_softer (by decide +kernel))
theorem dX10_softer_54 : decode cX10_softer 54 = .ok (.iand, 1) := zo_126 (zkb zk_cX10_softer zn_cX10_softer (by decide +kernel))
theorem dX10_softer_55 : decode cX10_softer 55 = .ok (.iadd, 1) := zo_96 (zkb zk_cX10_softer zn_cX10_softer (by decide +kernel))
theorem dX10_softer_56 : decode cX10_softer 56 = .ok (.ishr, 1) := zo_122 (zkb zk_cX10_softer zn_cX10_softer (by decide +kernel))
theorem dX10_softer_57 : decode cX10_softer 57 = .ok (.iconst 1, 1) := zo_4 (zkb zk_cX10_softer zn_cX10_softer (by decide +kernel))
theorem dX10_softer_58 : decode cX10_softer 58 = .ok (.iand, 1) := zo_126 (zkb zk_cX10_softer zn_cX10_softer (by decide +kernel))
theorem dX10_softer_59 : decode cX10_softer 59 = .ok (.ireturn, 1) := zo_172 (zkb zk_cX10_softer zn_cX10_softer (by decide +kernel))
theorem dX10_softer_60 : decode cX10_softer 60 = .ok (.aload_n 0, 1) := zo_42 (zkb zk_cX10_softer zn_cX10_softer (by decide +kernel))
theorem dX10_softer_61 : decode cX10_softer 61 = .ok (.iload_n 1, 1) := zo_27 (zkb zk_cX10_softer zn_cX10_softer (by decide +kernel))
theorem dX10_softer_62 : decode cX10_softer 62 = .ok (.iload_n 2, 1) := zo_28 (zkb zk_cX10_softer zn_cX10_softer (by decide +kernel))
theorem dX10_softer_63 : decode cX10_softer 63 = .ok (.invokevirtual 125, 3) := zo_182 (b1 := 0) (b2 := 125) (zkb3 zk_cX10_softer zn_cX10_softer (by decide +kernel)) rfl
theorem dX10_softer_66 : decode cX10_softer 66 = .ok (.ireturn, 1) := zo_172 (zkb zk_cX10_softer zn_cX10_softer (by decide +kernel))
def kn_cX10_slowTick : Nat := 0xac687e067a052e42100900b42a05
theorem zk_cX10_slowTick : zkd cX10_slowTick.data.toList kn_cX10_slowTick = true := by decide +kernel
theorem zn_cX10_slowTick : cX10_slowTick.data.toList.length = 14 := by decide +kernel
theorem dX10_slowTick_0 : decode cX10_slowTick 0 = .ok (.iconst 2, 1) := zo_5 (zkb zk_cX10_slowTick zn_cX10_slowTick (by decide +kernel))
theorem dX10_slowTick_1 : decode cX10_slowTick 1 = .ok (.aload_n 0, 1) := zo_42 (zkb zk_cX10_slowTick zn_cX10_slowTick (by decide +kernel))
theorem dX10_slowTick_2 : decode cX10_slowTick 2 = .ok (.getfield 9, 3) := zo_180 (b1 := 0) (b2 := 9) (zkb3 zk_cX10_slowTick zn_cX10_slowTick (by decide +kernel)) rfl
theorem dX10_slowTick_5 : decode cX10_slowTick 5 = .ok (.bipush 66, 2) := zo_16 (b1 := 66) (zkb2 zk_cX10_slowTick zn_cX10_slowTick (by decide +kernel)) rfl
theorem dX10_slowTick_7 : decode cX10_slowTick 7 = .ok (.iaload, 1) := zo_46 (zkb zk_cX10_slowTick zn_cX10_slowTick (by decide +kernel))
theorem dX10_slowTick_8 : decode cX10_slowTick 8 = .ok (.iconst 2, 1) := zo_5 (zkb zk_cX10_slowTick zn_cX10_slowTick (by decide +kernel))
theorem dX10_slowTick_9 : decode cX10_slowTick 9 = .ok (.ishr, 1) := zo_122 (zkb zk_cX10_slowTick zn_cX10_slowTick (by decide +kernel))
theorem dX10_slowTick_10 : decode cX10_slowTick 10 = .ok (.iconst 3, 1) := zo_6 (zkb zk_cX10_slowTick zn_cX10_slowTick (by decide +kernel))
theorem dX10_slowTick_11 : decode cX10_slowTick 11 = .ok (.iand, 1) := zo_126 (zkb zk_cX10_slowTick zn_cX10_slowTick (by decide +kernel))
theorem dX10_slowTick_12 : decode cX10_slowTick 12 = .ok (.imul, 1) := zo_104 (zkb zk_cX10_slowTick zn_cX10_slowTick (by decide +kernel))
theorem dX10_slowTick_13 : decode cX10_slowTick 13 = .ok (.ireturn, 1) := zo_172 (zkb zk_cX10_slowTick zn_cX10_slowTick (by decide +kernel))
def kn_cX10_tickAt : Nat := 0xac030400a77e047a7e07107a1d2e42100900b42a1c16009904150436030400a70407009a7e6404781d042e42100900b42a3e641b0d10
theorem zk_cX10_tickAt : zkd cX10_tickAt.data.toList kn_cX10_tickAt = true := by decide +kernel
theorem zn_cX10_tickAt : cX10_tickAt.data.toList.length = 54 := by decide +kernel
theorem dX10_tickAt_0 : decode cX10_tickAt 0 = .ok (.bipush 13, 2) := zo_16 (b1 := 13) (zkb2 zk_cX10_tickAt zn_cX10_tickAt (by decide +kernel)) rfl
theorem dX10_tickAt_2 : decode cX10_tickAt 2 = .ok (.iload_n 1, 1) := zo_27 (zkb zk_cX10_tickAt zn_cX10_tickAt (by decide +kernel))
theorem dX10_tickAt_3 : decode cX10_tickAt 3 = .ok (.isub, 1) := zo_100 (zkb zk_cX10_tickAt zn_cX10_tickAt (by decide +kernel))
theorem dX10_tickAt_4 : decode cX10_tickAt 4 = .ok (.istore_n 3, 1) := zo_62 (zkb zk_cX10_tickAt zn_cX10_tickAt (by decide +kernel))
theorem dX10_tickAt_5 : decode cX10_tickAt 5 = .ok (.aload_n 0, 1) := zo_42 (zkb zk_cX10_tickAt zn_cX10_tickAt (by decide +kernel))
theorem dX10_tickAt_6 : decode cX10_tickAt 6 = .ok (.getfield 9, 3) := zo_180 (b1 := 0) (b2 := 9) (zkb3 zk_cX10_tickAt zn_cX10_tickAt (by decide +kernel)) rfl
theorem dX10_tickAt_9 : decode cX10_tickAt 9 = .ok (.bipush 66, 2) := zo_16 (b1 := 66) (zkb2 zk_cX10_tickAt zn_cX10_tickAt (by decide +kernel)) rfl
theorem dX10_tickAt_11 : decode cX10_tickAt 11 = .ok (.iaload, 1) := zo_46 (zkb zk_cX10_tickAt zn_cX10_tickAt (by decide +kernel))
theorem dX10_tickAt_12 : decode cX10_tickAt 12 = .ok (.iconst 1, 1) := zo_4 (zkb zk_cX10_tickAt zn_cX10_tickAt (by decide +kernel))
theorem dX10_tickAt_13 : decode cX10_tickAt 13 = .ok (.iload_n 3, 1) := zo_29 (zkb zk_cX10_tickAt zn_cX10_tickAt (by decide +kernel))
theorem dX10_tickAt_14 : decode cX10_tickAt 14 = .ok (.ishl, 1) := zo_120 (zkb zk_cX10_tickAt zn_cX10_tickAt (by decide +kernel))
theorem dX10_tickAt_15 : decode cX10_tickAt 15 = .ok (.iconst 1, 1) := zo_4 (zkb zk_cX10_tickAt zn_cX10_tickAt (by decide +kernel))
theorem dX10_tickAt_16 : decode cX10_tickAt 16 = .ok (.isub, 1) := zo_100 (zkb zk_cX10_tickAt zn_cX10_tickAt (by decide +kernel))
theorem dX10_tickAt_17 : decode cX10_tickAt 17 = .ok (.iand, 1) := zo_126 (zkb zk_cX10_tickAt zn_cX10_tickAt (by decide +kernel))
theorem dX10_tickAt_18 : decode cX10_tickAt 18 = .ok (.ifCond .ne 7, 3) := zo_154 (b1 := 0) (b2 := 7) (zkb3 zk_cX10_tickAt zn_cX10_tickAt (by decide +kernel)) rfl
theorem dX10_tickAt_21 : decode cX10_tickAt 21 = .ok (.iconst 1, 1) := zo_4 (zkb zk_cX10_tickAt zn_cX10_tickAt (by decide +kernel))
theorem dX10_tickAt_22 : decode cX10_tickAt 22 = .ok (.goto 4, 3) := zo_167 (b1 := 0) (b2 := 4) (zkb3 zk_cX10_tickAt zn_cX10_tickAt (by decide +kernel)) rfl
theorem dX10_tickAt_25 : decode cX10_tickAt 25 = .ok (.iconst 0, 1) := zo_3 (zkb zk_cX10_tickAt zn_cX10_tickAt (by decide +kernel))
theorem dX10_tickAt_26 : decode cX10_tickAt 26 = .ok (.istore 4, 2) := zo_54 (b1 := 4) (zkb2 zk_cX10_tickAt zn_cX10_tickAt (by decide +kernel))
theorem dX10_tickAt_28 : decode cX10_tickAt 28 = .ok (.iload 4, 2) := zo_21 (b1 := 4) (zkb2 zk_cX10_tickAt zn_cX10_tickAt (by decide +kernel))
theorem dX10_tickAt_30 : decode cX10_tickAt 30 = .ok (.ifCond .eq 22, 3) := zo_153 (b1 := 0) (b2 := 22) (zkb3 zk_cX10_tickAt zn_cX10_tickAt (by decide +kernel)) rfl
theorem dX10_tickAt_33 : decode cX10_tickAt 33 = .ok (.iload_n 2, 1) := zo_28 (zkb zk_cX10_tickAt zn_cX10_tickAt (by decide +kernel))
theorem dX10_tickAt_34 : decode cX10_tickAt 34 = .ok (.aload_n 0, 1) := zo_42 (zkb zk_cX10_tickAt zn_cX10_tickAt (by decide +kernel))
theorem dX10_tickAt_35 : decode cX10_tickAt 35 = .ok (.getfield 9, 3) := zo_180 (b1 := 0) (b2 := 9) (zkb3 zk_cX10_tickAt zn_cX10_tickAt (by decide +kernel)) rfl
theorem dX10_tickAt_38 : decode cX10_tickAt 38 = .ok (.bipush 66, 2) := zo_16 (b1 := 66) (zkb2 zk_cX10_tickAt zn_cX10_tickAt (by decide +kernel)) rfl
theorem dX10_tickAt_40 : decode cX10_tickAt 40 = .ok (.iaload, 1) := zo_46 (zkb zk_cX10_tickAt zn_cX10_tickAt (by decide +kernel))
theorem dX10_tickAt_41 : decode cX10_tickAt 41 = .ok (.iload_n 3, 1) := zo_29 (zkb zk_cX10_tickAt zn_cX10_tickAt (by decide +kernel))
theorem dX10_tickAt_42 : decode cX10_tickAt 42 = .ok (.ishr, 1) := zo_122 (zkb zk_cX10_tickAt zn_cX10_tickAt (by decide +kernel))
theorem dX10_tickAt_43 : decode cX10_tickAt 43 = .ok (.bipush 7, 2) := zo_16 (b1 := 7) (zkb2 zk_cX10_tickAt zn_cX10_tickAt (by decide +kernel)) rfl
theorem dX10_tickAt_45 : decode cX10_tickAt 45 = .ok (.iand, 1) := zo_126 (zkb zk_cX10_tickAt zn_cX10_tickAt (by decide +kernel))
theorem dX10_tickAt_46 : decode cX10_tickAt 46 = .ok (.ishr, 1) := zo_122 (zkb zk_cX10_tickAt zn_cX10_tickAt (by decide +kernel))
theorem dX10_tickAt_47 : decode cX10_tickAt 47 = .ok (.iconst 1, 1) := zo_4 (zkb zk_cX10_tickAt zn_cX10_tickAt (by decide +kernel))
theorem dX10_tickAt_48 : decode cX10_tickAt 48 = .ok (.iand, 1) := zo_126 (zkb zk_cX10_tickAt zn_cX10_tickAt (by decide +kernel))
theorem dX10_tickAt_49 : decode cX10_tickAt 49 = .ok (.goto 4, 3) := zo_167 (b1 := 0) (b2 := 4) (zkb3 zk_cX10_tickAt zn_cX10_tickAt (by decide +kernel)) rfl
theorem dX10_tickAt_52 : decode cX10_tickAt 52 = .ok (.iconst 0, 1) := zo_3 (zkb zk_cX10_tickAt zn_cX10_tickAt (by decide +kernel))
theorem dX10_tickAt_53 : decode cX10_tickAt 53 = .ok (.ireturn, 1) := zo_172 (zkb zk_cX10_tickAt zn_cX10_tickAt (by decide +kernel))
def kn_cX10_moveState : Nat := 0xb14f0660041b0900b42a0c00a11c6c08101d1400a00504151a00a74f0560041b0900b42a0f009a1d1300a00404153000a74f0360051b0900b42a4f0460041b0900b42a1800a17c101d1e009a041504362e60041b0900b42a3e2e60031b0900b42a
theorem zk_cX10_moveState : zkd cX10_moveState.data.toList kn_cX10_moveState = true := by decide +kernel
theorem zn_cX10_moveState : cX10_moveState.data.toList.length = 97 := by decide +kernel
theorem dX10_moveState_0 : decode cX10_moveState 0 = .ok (.aload_n 0, 1) := zo_42 (zkb zk_cX10_moveState zn_cX10_moveState (by decide +kernel))
theorem dX10_moveState_1 : decode cX10_moveState 1 = .ok (.getfield 9, 3) := zo_180 (b1 := 0) (b2 := 9) (zkb3 zk_cX10_moveState zn_cX10_moveState (by decide +kernel)) rfl
theorem dX10_moveState_4 : decode cX10_moveState 4 = .ok (.iload_n 1, 1) := zo_27 (zkb zk_cX10_moveState zn_cX10_moveState (by decide +kernel))
theorem dX10_moveState_5 : decode cX10_moveState 5 = .ok (.iconst 0, 1) := zo_3 (zkb zk_cX10_moveState zn_cX10_moveState (by decide +kernel))
theorem dX10_moveState_6 : decode cX10_moveState 6 = .ok (.iadd, 1) := zo_96 (zkb zk_cX10_moveState zn_cX10_moveState (by decide +kernel))
theorem dX10_moveState_7 : decode cX10_moveState 7 = .ok (.iaload, 1) := zo_46 (zkb zk_cX10_moveState zn_cX10_moveState (by decide +kernel))
theorem dX10_moveState_8 : decode cX10_moveState 8 = .ok (.istore_n 3, 1) := zo_62 (zkb zk_cX10_moveState zn_cX10_moveState (by decide +kernel))
theorem dX10_moveState_9 : decode cX10_moveState 9 = .ok (.aload_n 0, 1) := zo_42 (zkb zk_cX10_moveState zn_cX10_moveState (by decide +kernel))
theorem dX10_moveState_10 : decode cX10_moveState 10 = .ok (.getfield 9, 3) := zo_180 (b1 := 0) (b2 := 9) (zkb3 zk_cX10_moveState zn_cX10_moveState (by decide +kernel)) rfl
theorem dX10_moveState_13 : decode cX10_moveState 13 = .ok (.iload_n 1, 1) := zo_27 (zkb zk_cX10_moveState zn_cX10_moveState (by decide +kernel))
theorem dX10_moveState_14 : decode cX10_moveState 14 = .ok (.iconst 1, 1) := zo_4 (zkb zk_cX10_moveState zn_cX10_moveState (by decide +kernel))
theorem dX10_moveState_15 : decode cX10_moveState 15 = .ok (.iadd, 1) := zo_96 (zkb zk_cX10_moveState zn_cX10_moveState (by decide +kernel))
theorem dX10_moveState_16 : decode cX10_moveState 16 = .ok (.iaload, 1) := zo_46 (zkb zk_cX10_moveState zn_cX10_moveState (by decide +kernel))
theorem dX10_moveState_17 : decode cX10_moveState 17 = .ok (.istore 4, 2) := zo_54 (b1 := 4) (zkb2 zk_cX10_moveState zn_cX10_moveState (by decide +kernel))
theorem dX10_moveState_19 : decode cX10_moveState 19 = .ok (.iload 4, 2) := zo_21 (b1 := 4) (zkb2 zk_cX10_moveState zn_cX10_moveState (by decide +kernel))
theorem dX10_moveState_21 : decode cX10_moveState 21 = .ok (.ifCond .ne 30, 3) := zo_154 (b1 := 0) (b2 := 30) (zkb3 zk_cX10_moveState zn_cX10_moveState (by decide +kernel)) rfl
theorem dX10_moveState_24 : decode cX10_moveState 24 = .ok (.iload_n 3, 1) := zo_29 (zkb zk_cX10_moveState zn_cX10_moveState (by decide +kernel))
theorem dX10_moveState_25 : decode cX10_moveState 25 = .ok (.bipush 124, 2) := zo_16 (b1 := 124) (zkb2 zk_cX10_moveState zn_cX10_moveState (by decide +kernel)) rfl
theorem dX10_moveState_27 : decode cX10_moveState 27 = .ok (.if_icmp .lt 24, 3) := zo_161 (b1 := 0) (b2 := 24) (zkb3 zk_cX10_moveState zn_cX10_moveState (by decide +kernel)) rfl
theorem dX10_moveState_30 : decode cX10_moveState 30 = .ok (.aload_n 0, 1) := zo_42 (zkb zk_cX10_moveState zn_cX10_moveState (by decide +kernel))
theorem dX10_moveState_31 : decode cX10_moveState 31 = .ok (.getfield 9, 3) := zo_180 (b1 := 0) (b2 := 9) (zkb3 zk_cX10_moveState zn_cX10_moveState (by decide +kernel)) rfl
theorem dX10_moveState_34 : decode cX10_moveState 34 = .ok (.iload_n 1, 1) := zo_27 (zkb zk_cX10_moveState zn_cX10_moveState (by decide +kernel))
theorem dX10_moveState_35 : decode cX10_moveState 35 = .ok (.iconst 1, 1) := zo_4 (zkb zk_cX10_moveState zn_cX10_moveState (by decide +kernel))
theorem dX10_moveState_36 : decode cX10_moveState 36 = .ok (.iadd, 1) := zo_96 (zkb zk_cX10_moveState zn_cX10_moveState (by decide +kernel))
theorem dX10_moveState_37 : decode cX10_moveState 37 = .ok (.iconst 1, 1) := zo_4 (zkb zk_cX10_moveState zn_cX10_moveState (by decide +kernel))
theorem dX10_moveState_38 : decode cX10_moveState 38 = .ok (.iastore, 1) := zo_79 (zkb zk_cX10_moveState zn_cX10_moveState (by decide +kernel))
theorem dX10_moveState_39 : decode cX10_moveState 39 = .ok (.aload_n 0, 1) := zo_42 (zkb zk_cX10_moveState zn_cX10_moveState (by decide +kernel))
theorem dX10_moveState_40 : decode cX10_moveState 40 = .ok (.getfield 9, 3) := zo_180 (b1 := 0) (b2 := 9) (zkb3 zk_cX10_moveState zn_cX10_moveState (by decide +kernel)) rfl
theorem dX10_moveState_43 : decode cX10_moveState 43 = .ok (.iload_n 1, 1) := zo_27 (zkb zk_cX10_moveState zn_cX10_moveState (by decide +kernel))
theorem dX10_moveState_44 : decode cX10_moveState 44 = .ok (.iconst 2, 1) := zo_5 (zkb zk_cX10_moveState zn_cX10_moveState (by decide +kernel))
theorem dX10_moveState_45 : decode cX10_moveState 45 = .ok (.iadd, 1) := zo_96 (zkb zk_cX10_moveState zn_cX10_moveState (by decide +kernel))
theorem dX10_moveState_46 : decode cX10_moveState 46 = .ok (.iconst 0, 1) := zo_3 (zkb zk_cX10_moveState zn_cX10_moveState (by decide +kernel))
theorem dX10_moveState_47 : decode cX10_moveState 47 = .ok (.iastore, 1) := zo_79 (zkb zk_cX10_moveState zn_cX10_moveState (by decide +kernel))
theorem dX10_moveState_48 : decode cX10_moveState 48 = .ok (.goto 48, 3) := zo_167 (b1 := 0) (b2 := 48) (zkb3 zk_cX10_moveState zn_cX10_moveState (by decide +kernel)) rfl
theorem dX10_moveState_51 : decode cX10_moveState 51 = .ok (.iload 4, 2) := zo_21 (b1 := 4) (zkb2 zk_cX10_moveState zn_cX10_moveState (by decide +kernel))
theorem dX10_moveState_53 : decode cX10_moveState 53 = .ok (.iconst 1, 1) := zo_4 (zkb zk_cX10_moveState zn_cX10_moveState (by decide +kernel))
theorem dX10_moveState_54 : decode cX10_moveState 54 = .ok (.if_icmp .ne 19, 3) := zo_160 (b1 := 0) (b2 := 19) (zkb3 zk_cX10_moveState zn_cX10_moveState (by decide +kernel)) rfl
theorem dX10_moveState_57 : decode cX10_moveState 57 = .ok (.iload_n 3, 1) := zo_29 (zkb zk_cX10_moveState zn_cX10_moveState (by decide +kernel))
theorem dX10_moveState_58 : decode cX10_moveState 58 = .ok (.ifCond .ne 15, 3) := zo_154 (b1 := 0) (b2 := 15) (zkb3 zk_cX10_moveState zn_cX10_moveState (by decide +kernel)) rfl
theorem dX10_moveState_61 : decode cX10_moveState 61 = .ok (.aload_n 0, 1) := zo_42 (zkb zk_cX10_moveState zn_cX10_moveState (by decide +kernel))
theorem dX10_moveState_62 : decode cX10_moveState 62 = .ok (.getfield 9, 3) := zo_180 (b1 := 0) (b2 := 9) (zkb3 zk_cX10_moveState zn_cX10_moveState (by decide +kernel)) rfl
theorem dX10_moveState_65 : decode cX10_moveState 65 = .ok (.iload_n 1, 1) := zo_27 (zkb zk_cX10_moveState zn_cX10_moveState (by decide +kernel))
theorem dX10_moveState_66 : decode cX10_moveState 66 = .ok (.iconst 1, 1) := zo_4 (zkb zk_cX10_moveState zn_cX10_moveState (by decide +kernel))
theorem dX10_moveState_67 : decode cX10_moveState 67 = .ok (.iadd, 1) := zo_96 (zkb zk_cX10_moveState zn_cX10_moveState (by decide +kernel))
theorem dX10_moveState_68 : decode cX10_moveState 68 = .ok (.iconst 2, 1) := zo_5 (zkb zk_cX10_moveState zn_cX10_moveState (by decide +kernel))
theorem dX10_moveState_69 : decode cX10_moveState 69 = .ok (.iastore, 1) := zo_79 (zkb zk_cX10_moveState zn_cX10_moveState (by decide +kernel))
theorem dX10_moveState_70 : decode cX10_moveState 70 = .ok (.goto 26, 3) := zo_167 (b1 := 0) (b2 := 26) (zkb3 zk_cX10_moveState zn_cX10_moveState (by decide +kernel)) rfl
theorem dX10_moveState_73 : decode cX10_moveState 73 = .ok (.iload 4, 2) := zo_21 (b1 := 4) (zkb2 zk_cX10_moveState zn_cX10_moveState (by decide +kernel))
theorem dX10_moveState_75 : decode cX10_moveState 75 = .ok (.iconst 2, 1) := zo_5 (zkb zk_cX10_moveState zn_cX10_moveState (by decide +kernel))
theorem dX10_moveState_76 : decode cX10_moveState 76 = .ok (.if_icmp .ne 20, 3) := zo_160 (b1 := 0) (b2 := 20) (zkb3 zk_cX10_moveState zn_cX10_moveState (by decide +kernel)) rfl
theorem dX10_moveState_79 : decode cX10_moveState 79 = .ok (.iload_n 3, 1) := zo_29 (zkb zk_cX10_moveState zn_cX10_moveState (by decide +kernel))
theorem dX10_moveState_80 : decode cX10_moveState 80 = .ok (.bipush 8, 2) := zo_16 (b1 := 8) (zkb2 zk_cX10_moveState zn_cX10_moveState (by decide +kernel)) rfl
theorem dX10_moveState_82 : decode cX10_moveState 82 = .ok (.idiv, 1) := zo_108 (zkb zk_cX10_moveState zn_cX10_moveState (by decide +kernel))
theorem dX10_moveState_83 : decode cX10_moveState 83 = .ok (.iload_n 2, 1) := zo_28 (zkb zk_cX10_moveState zn_cX10_moveState (by decide +kernel))
theorem dX10_moveState_84 : decode cX10_moveState 84 = .ok (.if_icmp .lt 12, 3) := zo_161 (b1 := 0) (b2 := 12) (zkb3 zk_cX10_moveState zn_cX10_moveState (by decide +kernel)) rfl
theorem dX10_moveState_87 : decode cX10_moveState 87 = .ok (.aload_n 0, 1) := zo_42 (zkb zk_cX10_moveState zn_cX10_moveState (by decide +kernel))
theorem dX10_moveState_88 : decode cX10_moveState 88 = .ok (.getfield 9, 3) := zo_180 (b1 := 0) (b2 := 9) (zkb3 zk_cX10_moveState zn_cX10_moveState (by decide +kernel)) rfl
theorem dX10_moveState_91 : decode cX10_moveState 91 = .ok (.iload_n 1, 1) := zo_27 (zkb zk_cX10_moveState zn_cX10_moveState (by decide +kernel))
theorem dX10_moveState_92 : decode cX10_moveState 92 = .ok (.iconst 1, 1) := zo_4 (zkb zk_cX10_moveState zn_cX10_moveState (by decide +kernel))
theorem dX10_moveState_93 : decode cX10_moveState 93 = .ok (.iadd, 1) := zo_96 (zkb zk_cX10_moveState zn_cX10_moveState (by decide +kernel))
theorem dX10_moveState_94 : decode cX10_moveState 94 = .ok (.iconst 3, 1) := zo_6 (zkb zk_cX10_moveState zn_cX10_moveState (by decide +kernel))
theorem dX10_moveState_95 : decode cX10_moveState 95 = .ok (.iastore, 1) := zo_79 (zkb zk_cX10_moveState zn_cX10_moveState (by decide +kernel))
theorem dX10_moveState_96 : decode cX10_moveState 96 = .ok (.return_, 1) := zo_177 (zkb zk_cX10_moveState zn_cX10_moveState (by decide +kernel))
def kn_cX10_movePhase : Nat := 0xb14f7e86126004152e60051b0900b42a60051b0900b42a04366c07783700b42a682e7e0f101c8300b2601d683400b42a053e030400a78000b66c40103400b42a2a1100997e40101c
theorem zk_cX10_movePhase : zkd cX10_movePhase.data.toList kn_cX10_movePhase = true := by decide +kernel
theorem zn_cX10_movePhase : cX10_movePhase.data.toList.length = 72 := by decide +kernel
theorem dX10_movePhase_0 : decode cX10_movePhase 0 = .ok (.iload_n 2, 1) := zo_28 (zkb zk_cX10_movePhase zn_cX10_movePhase (by decide +kernel))
theorem dX10_movePhase_1 : decode cX10_movePhase 1 = .ok (.bipush 64, 2) := zo_16 (b1 := 64) (zkb2 zk_cX10_movePhase zn_cX10_movePhase (by decide +kernel)) rfl
theorem dX10_movePhase_3 : decode cX10_movePhase 3 = .ok (.iand, 1) := zo_126 (zkb zk_cX10_movePhase zn_cX10_movePhase (by decide +kernel))
theorem dX10_movePhase_4 : decode cX10_movePhase 4 = .ok (.ifCond .eq 17, 3) := zo_153 (b1 := 0) (b2 := 17) (zkb3 zk_cX10_movePhase zn_cX10_movePhase (by decide +kernel)) rfl
theorem dX10_movePhase_7 : decode cX10_movePhase 7 = .ok (.aload_n 0, 1) := zo_42 (zkb zk_cX10_movePhase zn_cX10_movePhase (by decide +kernel))
theorem dX10_movePhase_8 : decode cX10_movePhase 8 = .ok (.aload_n 0, 1) := zo_42 (zkb zk_cX10_movePhase zn_cX10_movePhase (by decide +kernel))
theorem dX10_movePhase_9 : decode cX10_movePhase 9 = .ok (.getfield 52, 3) := zo_180 (b1 := 0) (b2 := 52) (zkb3 zk_cX10_movePhase zn_cX10_movePhase (by decide +kernel)) rfl
theorem dX10_movePhase_12 : decode cX10_movePhase 12 = .ok (.bipush 64, 2) := zo_16 (b1 := 64) (zkb2 zk_cX10_movePhase zn_cX10_movePhase (by decide +kernel)) rfl
theorem dX10_movePhase_14 : decode cX10_movePhase 14 = .ok (.idiv, 1) := zo_108 (zkb zk_cX10_movePhase zn_cX10_movePhase (by decide +kernel))
theorem dX10_movePhase_15 : decode cX10_movePhase 15 = .ok (.invokevirtual 128, 3) := zo_182 (b1 := 0) (b2 := 128) (zkb3 zk_cX10_movePhase zn_cX10_movePhase (by decide +kernel)) rfl
theorem dX10_movePhase_18 : decode cX10_movePhase 18 = .ok (.goto 4, 3) := zo_167 (b1 := 0) (b2 := 4) (zkb3 zk_cX10_movePhase zn_cX10_movePhase (by decide +kernel)) rfl
theorem dX10_movePhase_21 : decode cX10_movePhase 21 = .ok (.iconst 0, 1) := zo_3 (zkb zk_cX10_movePhase zn_cX10_movePhase (by decide +kernel))
theorem dX10_movePhase_22 : decode cX10_movePhase 22 = .ok (.istore_n 3, 1) := zo_62 (zkb zk_cX10_movePhase zn_cX10_movePhase (by decide +kernel))
theorem dX10_movePhase_23 : decode cX10_movePhase 23 = .ok (.iconst 2, 1) := zo_5 (zkb zk_cX10_movePhase zn_cX10_movePhase (by decide +kernel))
theorem dX10_movePhase_24 : decode cX10_movePhase 24 = .ok (.aload_n 0, 1) := zo_42 (zkb zk_cX10_movePhase zn_cX10_movePhase (by decide +kernel))
theorem dX10_movePhase_25 : decode cX10_movePhase 25 = .ok (.getfield 52, 3) := zo_180 (b1 := 0) (b2 := 52) (zkb3 zk_cX10_movePhase zn_cX10_movePhase (by decide +kernel)) rfl
theorem dX10_movePhase_28 : decode cX10_movePhase 28 = .ok (.imul, 1) := zo_104 (zkb zk_cX10_movePhase zn_cX10_movePhase (by decide +kernel))
theorem dX10_movePhase_29 : decode cX10_movePhase 29 = .ok (.iload_n 3, 1) := zo_29 (zkb zk_cX10_movePhase zn_cX10_movePhase (by decide +kernel))
theorem dX10_movePhase_30 : decode cX10_movePhase 30 = .ok (.iadd, 1) := zo_96 (zkb zk_cX10_movePhase zn_cX10_movePhase (by decide +kernel))
theorem dX10_movePhase_31 : decode cX10_movePhase 31 = .ok (.getstatic 131, 3) := zo_178 (b1 := 0) (b2 := 131) (zkb3 zk_cX10_movePhase zn_cX10_movePhase (by decide +kernel)) rfl
theorem dX10_movePhase_34 : decode cX10_movePhase 34 = .ok (.iload_n 2, 1) := zo_28 (zkb zk_cX10_movePhase zn_cX10_movePhase (by decide +kernel))
theorem dX10_movePhase_35 : decode cX10_movePhase 35 = .ok (.bipush 15, 2) := zo_16 (b1 := 15) (zkb2 zk_cX10_movePhase zn_cX10_movePhase (by decide +kernel)) rfl
theorem dX10_movePhase_37 : decode cX10_movePhase 37 = .ok (.iand, 1) := zo_126 (zkb zk_cX10_movePhase zn_cX10_movePhase (by decide +kernel))
theorem dX10_movePhase_38 : decode cX10_movePhase 38 = .ok (.iaload, 1) := zo_46 (zkb zk_cX10_movePhase zn_cX10_movePhase (by decide +kernel))
theorem dX10_movePhase_39 : decode cX10_movePhase 39 = .ok (.imul, 1) := zo_104 (zkb zk_cX10_movePhase zn_cX10_movePhase (by decide +kernel))
theorem dX10_movePhase_40 : decode cX10_movePhase 40 = .ok (.aload_n 0, 1) := zo_42 (zkb zk_cX10_movePhase zn_cX10_movePhase (by decide +kernel))
theorem dX10_movePhase_41 : decode cX10_movePhase 41 = .ok (.getfield 55, 3) := zo_180 (b1 := 0) (b2 := 55) (zkb3 zk_cX10_movePhase zn_cX10_movePhase (by decide +kernel)) rfl
theorem dX10_movePhase_44 : decode cX10_movePhase 44 = .ok (.ishl, 1) := zo_120 (zkb zk_cX10_movePhase zn_cX10_movePhase (by decide +kernel))
theorem dX10_movePhase_45 : decode cX10_movePhase 45 = .ok (.iconst 4, 1) := zo_7 (zkb zk_cX10_movePhase zn_cX10_movePhase (by decide +kernel))
theorem dX10_movePhase_46 : decode cX10_movePhase 46 = .ok (.idiv, 1) := zo_108 (zkb zk_cX10_movePhase zn_cX10_movePhase (by decide +kernel))
theorem dX10_movePhase_47 : decode cX10_movePhase 47 = .ok (.istore 4, 2) := zo_54 (b1 := 4) (zkb2 zk_cX10_movePhase zn_cX10_movePhase (by decide +kernel))
theorem dX10_movePhase_49 : decode cX10_movePhase 49 = .ok (.aload_n 0, 1) := zo_42 (zkb zk_cX10_movePhase zn_cX10_movePhase (by decide +kernel))
theorem dX10_movePhase_50 : decode cX10_movePhase 50 = .ok (.getfield 9, 3) := zo_180 (b1 := 0) (b2 := 9) (zkb3 zk_cX10_movePhase zn_cX10_movePhase (by decide +kernel)) rfl
theorem dX10_movePhase_53 : decode cX10_movePhase 53 = .ok (.iload_n 1, 1) := zo_27 (zkb zk_cX10_movePhase zn_cX10_movePhase (by decide +kernel))
theorem dX10_movePhase_54 : decode cX10_movePhase 54 = .ok (.iconst 2, 1) := zo_5 (zkb zk_cX10_movePhase zn_cX10_movePhase (by decide +kernel))
theorem dX10_movePhase_55 : decode cX10_movePhase 55 = .ok (.iadd, 1) := zo_96 (zkb zk_cX10_movePhase zn_cX10_movePhase (by decide +kernel))
theorem dX10_movePhase_56 : decode cX10_movePhase 56 = .ok (.aload_n 0, 1) := zo_42 (zkb zk_cX10_movePhase zn_cX10_movePhase (by decide +kernel))
theorem dX10_movePhase_57 : decode cX10_movePhase 57 = .ok (.getfield 9, 3) := zo_180 (b1 := 0) (b2 := 9) (zkb3 zk_cX10_movePhase zn_cX10_movePhase (by decide +kernel)) rfl
theorem dX10_movePhase_60 : decode cX10_movePhase 60 = .ok (.iload_n 1, 1) := zo_27 (zkb zk_cX10_movePhase zn_cX10_movePhase (by decide +kernel))
theorem dX10_movePhase_61 : decode cX10_movePhase 61 = .ok (.iconst 2, 1) := zo_5 (zkb zk_cX10_movePhase zn_cX10_movePhase (by decide +kernel))
theorem dX10_movePhase_62 : decode cX10_movePhase 62 = .ok (.iadd, 1) := zo_96 (zkb zk_cX10_movePhase zn_cX10_movePhase (by decide +kernel))
theorem dX10_movePhase_63 : decode cX10_movePhase 63 = .ok (.iaload, 1) := zo_46 (zkb zk_cX10_movePhase zn_cX10_movePhase (by decide +kernel))
theorem dX10_movePhase_64 : decode cX10_movePhase 64 = .ok (.iload 4, 2) := zo_21 (b1 := 4) (zkb2 zk_cX10_movePhase zn_cX10_movePhase (by decide +kernel))
theorem dX10_movePhase_66 : decode cX10_movePhase 66 = .ok (.iadd, 1) := zo_96 (zkb zk_cX10_movePhase zn_cX10_movePhase (by decide +kernel))
theorem dX10_movePhase_67 : decode cX10_movePhase 67 = .ok (.ldc 134, 2) := zo_18 (b1 := 134) (zkb2 zk_cX10_movePhase zn_cX10_movePhase (by decide +kernel))
theorem dX10_movePhase_69 : decode cX10_movePhase 69 = .ok (.iand, 1) := zo_126 (zkb zk_cX10_movePhase zn_cX10_movePhase (by decide +kernel))
theorem dX10_movePhase_70 : decode cX10_movePhase 70 = .ok (.iastore, 1) := zo_79 (zkb zk_cX10_movePhase zn_cX10_movePhase (by decide +kernel))
theorem dX10_movePhase_71 : decode cX10_movePhase 71 = .ok (.return_, 1) := zo_177 (zkb zk_cX10_movePhase zn_cX10_movePhase (by decide +kernel))
def kn_cX10_sway : Nat := 0xac03ac741bac746c051bac1bac6c051b310000003600000031000000390000002b0000002f0000002b0000000700000001000000390000000000aa7e07107a0a102e42100900b42a
theorem zk_cX10_sway : zkd cX10_sway.data.toList kn_cX10_sway = true := by decide +kernel
theorem zn_cX10_sway : cX10_sway.data.toList.length = 72 := by decide +kernel
theorem dX10_sway_0 : decode cX10_sway 0 = .ok (.aload_n 0, 1) := zo_42 (zkb zk_cX10_sway zn_cX10_sway (by decide +kernel))
theorem dX10_sway_1 : decode cX10_sway 1 = .ok (.getfield 9, 3) := zo_180 (b1 := 0) (b2 := 9) (zkb3 zk_cX10_sway zn_cX10_sway (by decide +kernel)) rfl
theorem dX10_sway_4 : decode cX10_sway 4 = .ok (.bipush 66, 2) := zo_16 (b1 := 66) (zkb2 zk_cX10_sway zn_cX10_sway (by decide +kernel)) rfl
theorem dX10_sway_6 : decode cX10_sway 6 = .ok (.iaload, 1) := zo_46 (zkb zk_cX10_sway zn_cX10_sway (by decide +kernel))
theorem dX10_sway_7 : decode cX10_sway 7 = .ok (.bipush 10, 2) := zo_16 (b1 := 10) (zkb2 zk_cX10_sway zn_cX10_sway (by decide +kernel)) rfl
theorem dX10_sway_9 : decode cX10_sway 9 = .ok (.ishr, 1) := zo_122 (zkb zk_cX10_sway zn_cX10_sway (by decide +kernel))
theorem dX10_sway_10 : decode cX10_sway 10 = .ok (.bipush 7, 2) := zo_16 (b1 := 7) (zkb2 zk_cX10_sway zn_cX10_sway (by decide +kernel)) rfl
theorem dX10_sway_12 : decode cX10_sway 12 = .ok (.iand, 1) := zo_126 (zkb zk_cX10_sway zn_cX10_sway (by decide +kernel))
theorem dX10_sway_13 : decode cX10_sway 13 = .ok (.tableswitch 57 1 7 #[43, 47, 43, 57, 49, 54, 49], 43) := by decide +kernel
theorem dX10_sway_56 : decode cX10_sway 56 = .ok (.iload_n 1, 1) := zo_27 (zkb zk_cX10_sway zn_cX10_sway (by decide +kernel))
theorem dX10_sway_57 : decode cX10_sway 57 = .ok (.iconst 2, 1) := zo_5 (zkb zk_cX10_sway zn_cX10_sway (by decide +kernel))
theorem dX10_sway_58 : decode cX10_sway 58 = .ok (.idiv, 1) := zo_108 (zkb zk_cX10_sway zn_cX10_sway (by decide +kernel))
theorem dX10_sway_59 : decode cX10_sway 59 = .ok (.ireturn, 1) := zo_172 (zkb zk_cX10_sway zn_cX10_sway (by decide +kernel))
theorem dX10_sway_60 : decode cX10_sway 60 = .ok (.iload_n 1, 1) := zo_27 (zkb zk_cX10_sway zn_cX10_sway (by decide +kernel))
theorem dX10_sway_61 : decode cX10_sway 61 = .ok (.ireturn, 1) := zo_172 (zkb zk_cX10_sway zn_cX10_sway (by decide +kernel))
theorem dX10_sway_62 : decode cX10_sway 62 = .ok (.iload_n 1, 1) := zo_27 (zkb zk_cX10_sway zn_cX10_sway (by decide +kernel))
theorem dX10_sway_63 : decode cX10_sway 63 = .ok (.iconst 2, 1) := zo_5 (zkb zk_cX10_sway zn_cX10_sway (by decide +kernel))
theorem dX10_sway_64 : decode cX10_sway 64 = .ok (.idiv, 1) := zo_108 (zkb zk_cX10_sway zn_cX10_sway (by decide +kernel))
theorem dX10_sway_65 : decode cX10_sway 65 = .ok (.ineg, 1) := zo_116 (zkb zk_cX10_sway zn_cX10_sway (by decide +kernel))
theorem dX10_sway_66 : decode cX10_sway 66 = .ok (.ireturn, 1) := zo_172 (zkb zk_cX10_sway zn_cX10_sway (by decide +kernel))
theorem dX10_sway_67 : decode cX10_sway 67 = .ok (.iload_n 1, 1) := zo_27 (zkb zk_cX10_sway zn_cX10_sway (by decide +kernel))
theorem dX10_sway_68 : decode cX10_sway 68 = .ok (.ineg, 1) := zo_116 (zkb zk_cX10_sway zn_cX10_sway (by decide +kernel))
theorem dX10_sway_69 : decode cX10_sway 69 = .ok (.ireturn, 1) := zo_172 (zkb zk_cX10_sway zn_cX10_sway (by decide +kernel))
theorem dX10_sway_70 : decode cX10_sway 70 = .ok (.iconst 0, 1) := zo_3 (zkb zk_cX10_sway zn_cX10_sway (by decide +kernel))
theorem dX10_sway_71 : decode cX10_sway 71 = .ok (.ireturn, 1) := zo_172 (zkb zk_cX10_sway zn_cX10_sway (by decide +kernel))
def kn_cX10_turnedPhase : Nat := 0xac607a6404150910602e60071b0900b42a2e60061b0900b42a1d1c00a71d07009a041504367e07104c00b6062aac602e60066408101b0900b42a1d1100a0041cac8700b61c1d2a0a00a107103000b42a1300992000b42a3e7a09102e60051b0900b42a
theorem zk_cX10_turnedPhase : zkd cX10_turnedPhase.data.toList kn_cX10_turnedPhase = true := by decide +kernel
theorem zn_cX10_turnedPhase : cX10_turnedPhase.data.toList.length = 99 := by decide +kernel
theorem dX10_turnedPhase_0 : decode cX10_turnedPhase 0 = .ok (.aload_n 0, 1) := zo_42 (zkb zk_cX10_turnedPhase zn_cX10_turnedPhase (by decide +kernel))
theorem dX10_turnedPhase_1 : decode cX10_turnedPhase 1 = .ok (.getfield 9, 3) := zo_180 (b1 := 0) (b2 := 9) (zkb3 zk_cX10_turnedPhase zn_cX10_turnedPhase (by decide +kernel)) rfl
theorem dX10_turnedPhase_4 : decode cX10_turnedPhase 4 = .ok (.iload_n 1, 1) := zo_27 (zkb zk_cX10_turnedPhase zn_cX10_turnedPhase (by decide +kernel))
theorem dX10_turnedPhase_5 : decode cX10_turnedPhase 5 = .ok (.iconst 2, 1) := zo_5 (zkb zk_cX10_turnedPhase zn_cX10_turnedPhase (by decide +kernel))
theorem dX10_turnedPhase_6 : decode cX10_turnedPhase 6 = .ok (.iadd, 1) := zo_96 (zkb zk_cX10_turnedPhase zn_cX10_turnedPhase (by decide +kernel))
theorem dX10_turnedPhase_7 : decode cX10_turnedPhase 7 = .ok (.iaload, 1) := zo_46 (zkb zk_cX10_turnedPhase zn_cX10_turnedPhase (by decide +kernel))
theorem dX10_turnedPhase_8 : decode cX10_turnedPhase 8 = .ok (.bipush 9, 2) := zo_16 (b1 := 9) (zkb2 zk_cX10_turnedPhase zn_cX10_turnedPhase (by decide +kernel)) rfl
theorem dX10_turnedPhase_10 : decode cX10_turnedPhase 10 = .ok (.ishr, 1) := zo_122 (zkb zk_cX10_turnedPhase zn_cX10_turnedPhase (by decide +kernel))
theorem dX10_turnedPhase_11 : decode cX10_turnedPhase 11 = .ok (.istore_n 3, 1) := zo_62 (zkb zk_cX10_turnedPhase zn_cX10_turnedPhase (by decide +kernel))
theorem dX10_turnedPhase_12 : decode cX10_turnedPhase 12 = .ok (.aload_n 0, 1) := zo_42 (zkb zk_cX10_turnedPhase zn_cX10_turnedPhase (by decide +kernel))
theorem dX10_turnedPhase_13 : decode cX10_turnedPhase 13 = .ok (.getfield 32, 3) := zo_180 (b1 := 0) (b2 := 32) (zkb3 zk_cX10_turnedPhase zn_cX10_turnedPhase (by decide +kernel)) rfl
theorem dX10_turnedPhase_16 : decode cX10_turnedPhase 16 = .ok (.ifCond .eq 19, 3) := zo_153 (b1 := 0) (b2 := 19) (zkb3 zk_cX10_turnedPhase zn_cX10_turnedPhase (by decide +kernel)) rfl
theorem dX10_turnedPhase_19 : decode cX10_turnedPhase 19 = .ok (.aload_n 0, 1) := zo_42 (zkb zk_cX10_turnedPhase zn_cX10_turnedPhase (by decide +kernel))
theorem dX10_turnedPhase_20 : decode cX10_turnedPhase 20 = .ok (.getfield 48, 3) := zo_180 (b1 := 0) (b2 := 48) (zkb3 zk_cX10_turnedPhase zn_cX10_turnedPhase (by decide +kernel)) rfl
theorem dX10_turnedPhase_23 : decode cX10_turnedPhase 23 = .ok (.bipush 7, 2) := zo_16 (b1 := 7) (zkb2 zk_cX10_turnedPhase zn_cX10_turnedPhase (by decide +kernel)) rfl
theorem dX10_turnedPhase_25 : decode cX10_turnedPhase 25 = .ok (.if_icmp .lt 10, 3) := zo_161 (b1 := 0) (b2 := 10) (zkb3 zk_cX10_turnedPhase zn_cX10_turnedPhase (by decide +kernel)) rfl
theorem dX10_turnedPhase_28 : decode cX10_turnedPhase 28 = .ok (.aload_n 0, 1) := zo_42 (zkb zk_cX10_turnedPhase zn_cX10_turnedPhase (by decide +kernel))
theorem dX10_turnedPhase_29 : decode cX10_turnedPhase 29 = .ok (.iload_n 3, 1) := zo_29 (zkb zk_cX10_turnedPhase zn_cX10_turnedPhase (by decide +kernel))
theorem dX10_turnedPhase_30 : decode cX10_turnedPhase 30 = .ok (.iload_n 2, 1) := zo_28 (zkb zk_cX10_turnedPhase zn_cX10_turnedPhase (by decide +kernel))
theorem dX10_turnedPhase_31 : decode cX10_turnedPhase 31 = .ok (.invokevirtual 135, 3) := zo_182 (b1 := 0) (b2 := 135) (zkb3 zk_cX10_turnedPhase zn_cX10_turnedPhase (by decide +kernel)) rfl
theorem dX10_turnedPhase_34 : decode cX10_turnedPhase 34 = .ok (.ireturn, 1) := zo_172 (zkb zk_cX10_turnedPhase zn_cX10_turnedPhase (by decide +kernel))
theorem dX10_turnedPhase_35 : decode cX10_turnedPhase 35 = .ok (.iload_n 2, 1) := zo_28 (zkb zk_cX10_turnedPhase zn_cX10_turnedPhase (by decide +kernel))
theorem dX10_turnedPhase_36 : decode cX10_turnedPhase 36 = .ok (.iconst 1, 1) := zo_4 (zkb zk_cX10_turnedPhase zn_cX10_turnedPhase (by decide +kernel))
theorem dX10_turnedPhase_37 : decode cX10_turnedPhase 37 = .ok (.if_icmp .ne 17, 3) := zo_160 (b1 := 0) (b2 := 17) (zkb3 zk_cX10_turnedPhase zn_cX10_turnedPhase (by decide +kernel)) rfl
theorem dX10_turnedPhase_40 : decode cX10_turnedPhase 40 = .ok (.iload_n 3, 1) := zo_29 (zkb zk_cX10_turnedPhase zn_cX10_turnedPhase (by decide +kernel))
theorem dX10_turnedPhase_41 : decode cX10_turnedPhase 41 = .ok (.aload_n 0, 1) := zo_42 (zkb zk_cX10_turnedPhase zn_cX10_turnedPhase (by decide +kernel))
theorem dX10_turnedPhase_42 : decode cX10_turnedPhase 42 = .ok (.getfield 9, 3) := zo_180 (b1 := 0) (b2 := 9) (zkb3 zk_cX10_turnedPhase zn_cX10_turnedPhase (by decide +kernel)) rfl
theorem dX10_turnedPhase_45 : decode cX10_turnedPhase 45 = .ok (.iload_n 1, 1) := zo_27 (zkb zk_cX10_turnedPhase zn_cX10_turnedPhase (by decide +kernel))
theorem dX10_turnedPhase_46 : decode cX10_turnedPhase 46 = .ok (.bipush 8, 2) := zo_16 (b1 := 8) (zkb2 zk_cX10_turnedPhase zn_cX10_turnedPhase (by decide +kernel)) rfl
theorem dX10_turnedPhase_48 : decode cX10_turnedPhase 48 = .ok (.isub, 1) := zo_100 (zkb zk_cX10_turnedPhase zn_cX10_turnedPhase (by decide +kernel))
theorem dX10_turnedPhase_49 : decode cX10_turnedPhase 49 = .ok (.iconst 3, 1) := zo_6 (zkb zk_cX10_turnedPhase zn_cX10_turnedPhase (by decide +kernel))
theorem dX10_turnedPhase_50 : decode cX10_turnedPhase 50 = .ok (.iadd, 1) := zo_96 (zkb zk_cX10_turnedPhase zn_cX10_turnedPhase (by decide +kernel))
theorem dX10_turnedPhase_51 : decode cX10_turnedPhase 51 = .ok (.iaload, 1) := zo_46 (zkb zk_cX10_turnedPhase zn_cX10_turnedPhase (by decide +kernel))
theorem dX10_turnedPhase_52 : decode cX10_turnedPhase 52 = .ok (.iadd, 1) := zo_96 (zkb zk_cX10_turnedPhase zn_cX10_turnedPhase (by decide +kernel))
theorem dX10_turnedPhase_53 : decode cX10_turnedPhase 53 = .ok (.ireturn, 1) := zo_172 (zkb zk_cX10_turnedPhase zn_cX10_turnedPhase (by decide +kernel))
theorem dX10_turnedPhase_54 : decode cX10_turnedPhase 54 = .ok (.aload_n 0, 1) := zo_42 (zkb zk_cX10_turnedPhase zn_cX10_turnedPhase (by decide +kernel))
theorem dX10_turnedPhase_55 : decode cX10_turnedPhase 55 = .ok (.iconst 3, 1) := zo_6 (zkb zk_cX10_turnedPhase zn_cX10_turnedPhase (by decide +kernel))
theorem dX10_turnedPhase_56 : decode cX10_turnedPhase 56 = .ok (.invokevirtual 76, 3) := zo_182 (b1 := 0) (b2 := 76) (zkb3 zk_cX10_turnedPhase zn_cX10_turnedPhase (by decide +kernel)) rfl
theorem dX10_turnedPhase_59 : decode cX10_turnedPhase 59 = .ok (.bipush 7, 2) := zo_16 (b1 := 7) (zkb2 zk_cX10_turnedPhase zn_cX10_turnedPhase (by decide +kernel)) rfl
theorem dX10_turnedPhase_61 : decode cX10_turnedPhase 61 = .ok (.iand, 1) := zo_126 (zkb zk_cX10_turnedPhase zn_cX10_turnedPhase (by decide +kernel))
theorem dX10_turnedPhase_62 : decode cX10_turnedPhase 62 = .ok (.istore 4, 2) := zo_54 (b1 := 4) (zkb2 zk_cX10_turnedPhase zn_cX10_turnedPhase (by decide +kernel))
theorem dX10_turnedPhase_64 : decode cX10_turnedPhase 64 = .ok (.iload 4, 2) := zo_21 (b1 := 4) (zkb2 zk_cX10_turnedPhase zn_cX10_turnedPhase (by decide +kernel))
theorem dX10_turnedPhase_66 : decode cX10_turnedPhase 66 = .ok (.ifCond .ne 7, 3) := zo_154 (b1 := 0) (b2 := 7) (zkb3 zk_cX10_turnedPhase zn_cX10_turnedPhase (by decide +kernel)) rfl
theorem dX10_turnedPhase_69 : decode cX10_turnedPhase 69 = .ok (.iload_n 3, 1) := zo_29 (zkb zk_cX10_turnedPhase zn_cX10_turnedPhase (by decide +kernel))
theorem dX10_turnedPhase_70 : decode cX10_turnedPhase 70 = .ok (.goto 28, 3) := zo_167 (b1 := 0) (b2 := 28) (zkb3 zk_cX10_turnedPhase zn_cX10_turnedPhase (by decide +kernel)) rfl
theorem dX10_turnedPhase_73 : decode cX10_turnedPhase 73 = .ok (.iload_n 3, 1) := zo_29 (zkb zk_cX10_turnedPhase zn_cX10_turnedPhase (by decide +kernel))
theorem dX10_turnedPhase_74 : decode cX10_turnedPhase 74 = .ok (.aload_n 0, 1) := zo_42 (zkb zk_cX10_turnedPhase zn_cX10_turnedPhase (by decide +kernel))
theorem dX10_turnedPhase_75 : decode cX10_turnedPhase 75 = .ok (.getfield 9, 3) := zo_180 (b1 := 0) (b2 := 9) (zkb3 zk_cX10_turnedPhase zn_cX10_turnedPhase (by decide +kernel)) rfl
theorem dX10_turnedPhase_78 : decode cX10_turnedPhase 78 = .ok (.iload_n 1, 1) := zo_27 (zkb zk_cX10_turnedPhase zn_cX10_turnedPhase (by decide +kernel))
theorem dX10_turnedPhase_79 : decode cX10_turnedPhase 79 = .ok (.iconst 3, 1) := zo_6 (zkb zk_cX10_turnedPhase zn_cX10_turnedPhase (by decide +kernel))
theorem dX10_turnedPhase_80 : decode cX10_turnedPhase 80 = .ok (.iadd, 1) := zo_96 (zkb zk_cX10_turnedPhase zn_cX10_turnedPhase (by decide +kernel))
theorem dX10_turnedPhase_81 : decode cX10_turnedPhase 81 = .ok (.iaload, 1) := zo_46 (zkb zk_cX10_turnedPhase zn_cX10_turnedPhase (by decide +kernel))
theorem dX10_turnedPhase_82 : decode cX10_turnedPhase 82 = .ok (.aload_n 0, 1) := zo_42 (zkb zk_cX10_turnedPhase zn_cX10_turnedPhase (by decide +kernel))
theorem dX10_turnedPhase_83 : decode cX10_turnedPhase 83 = .ok (.getfield 9, 3) := zo_180 (b1 := 0) (b2 := 9) (zkb3 zk_cX10_turnedPhase zn_cX10_turnedPhase (by decide +kernel)) rfl
theorem dX10_turnedPhase_86 : decode cX10_turnedPhase 86 = .ok (.iload_n 1, 1) := zo_27 (zkb zk_cX10_turnedPhase zn_cX10_turnedPhase (by decide +kernel))
theorem dX10_turnedPhase_87 : decode cX10_turnedPhase 87 = .ok (.iconst 4, 1) := zo_7 (zkb zk_cX10_turnedPhase zn_cX10_turnedPhase (by decide +kernel))
theorem dX10_turnedPhase_88 : decode cX10_turnedPhase 88 = .ok (.iadd, 1) := zo_96 (zkb zk_cX10_turnedPhase zn_cX10_turnedPhase (by decide +kernel))
theorem dX10_turnedPhase_89 : decode cX10_turnedPhase 89 = .ok (.iaload, 1) := zo_46 (zkb zk_cX10_turnedPhase zn_cX10_turnedPhase (by decide +kernel))
theorem dX10_turnedPhase_90 : decode cX10_turnedPhase 90 = .ok (.iadd, 1) := zo_96 (zkb zk_cX10_turnedPhase zn_cX10_turnedPhase (by decide +kernel))
theorem dX10_turnedPhase_91 : decode cX10_turnedPhase 91 = .ok (.bipush 9, 2) := zo_16 (b1 := 9) (zkb2 zk_cX10_turnedPhase zn_cX10_turnedPhase (by decide +kernel)) rfl
theorem dX10_turnedPhase_93 : decode cX10_turnedPhase 93 = .ok (.iload 4, 2) := zo_21 (b1 := 4) (zkb2 zk_cX10_turnedPhase zn_cX10_turnedPhase (by decide +kernel))
theorem dX10_turnedPhase_95 : decode cX10_turnedPhase 95 = .ok (.isub, 1) := zo_100 (zkb zk_cX10_turnedPhase zn_cX10_turnedPhase (by decide +kernel))
theorem dX10_turnedPhase_96 : decode cX10_turnedPhase 96 = .ok (.ishr, 1) := zo_122 (zkb zk_cX10_turnedPhase zn_cX10_turnedPhase (by decide +kernel))
theorem dX10_turnedPhase_97 : decode cX10_turnedPhase 97 = .ok (.iadd, 1) := zo_96 (zkb zk_cX10_turnedPhase zn_cX10_turnedPhase (by decide +kernel))
theorem dX10_turnedPhase_98 : decode cX10_turnedPhase 98 = .ok (.ireturn, 1) := zo_172 (zkb zk_cX10_turnedPhase zn_cX10_turnedPhase (by decide +kernel))
def kn_cX10_drumPhase : Nat := 0xac0001110600a70307009906150f00a70002111500a700031109009906151400997e0002111bacd000110600a7341008009906151000a73402111600a7d002110900990615140099051527009a1cac0001110600a700031109009905151100a71b07009a1c1a00a008103000b42a0636030400a7040700a0047e042e41100900b42a0536030400a7040700997e0480827a0804157a06041580827a0804157a061d827a07101d7a051d04367a09102e0a01110900b42a3e7a09102ef200110900b42a
theorem zk_cX10_drumPhase : zkd cX10_drumPhase.data.toList kn_cX10_drumPhase = true := by decide +kernel
theorem zn_cX10_drumPhase : cX10_drumPhase.data.toList.length = 194 := by decide +kernel
theorem dX10_drumPhase_0 : decode cX10_drumPhase 0 = .ok (.aload_n 0, 1) := zo_42 (zkb zk_cX10_drumPhase zn_cX10_drumPhase (by decide +kernel))
theorem dX10_drumPhase_1 : decode cX10_drumPhase 1 = .ok (.getfield 9, 3) := zo_180 (b1 := 0) (b2 := 9) (zkb3 zk_cX10_drumPhase zn_cX10_drumPhase (by decide +kernel)) rfl
theorem dX10_drumPhase_4 : decode cX10_drumPhase 4 = .ok (.sipush 242, 3) := zo_17 (b1 := 0) (b2 := 242) (zkb3 zk_cX10_drumPhase zn_cX10_drumPhase (by decide +kernel)) rfl
theorem dX10_drumPhase_7 : decode cX10_drumPhase 7 = .ok (.iaload, 1) := zo_46 (zkb zk_cX10_drumPhase zn_cX10_drumPhase (by decide +kernel))
theorem dX10_drumPhase_8 : decode cX10_drumPhase 8 = .ok (.bipush 9, 2) := zo_16 (b1 := 9) (zkb2 zk_cX10_drumPhase zn_cX10_drumPhase (by decide +kernel)) rfl
theorem dX10_drumPhase_10 : decode cX10_drumPhase 10 = .ok (.ishr, 1) := zo_122 (zkb zk_cX10_drumPhase zn_cX10_drumPhase (by decide +kernel))
theorem dX10_drumPhase_11 : decode cX10_drumPhase 11 = .ok (.istore_n 3, 1) := zo_62 (zkb zk_cX10_drumPhase zn_cX10_drumPhase (by decide +kernel))
theorem dX10_drumPhase_12 : decode cX10_drumPhase 12 = .ok (.aload_n 0, 1) := zo_42 (zkb zk_cX10_drumPhase zn_cX10_drumPhase (by decide +kernel))
theorem dX10_drumPhase_13 : decode cX10_drumPhase 13 = .ok (.getfield 9, 3) := zo_180 (b1 := 0) (b2 := 9) (zkb3 zk_cX10_drumPhase zn_cX10_drumPhase (by decide +kernel)) rfl
theorem dX10_drumPhase_16 : decode cX10_drumPhase 16 = .ok (.sipush 266, 3) := zo_17 (b1 := 1) (b2 := 10) (zkb3 zk_cX10_drumPhase zn_cX10_drumPhase (by decide +kernel)) rfl
theorem dX10_drumPhase_19 : decode cX10_drumPhase 19 = .ok (.iaload, 1) := zo_46 (zkb zk_cX10_drumPhase zn_cX10_drumPhase (by decide +kernel))
theorem dX10_drumPhase_20 : decode cX10_drumPhase 20 = .ok (.bipush 9, 2) := zo_16 (b1 := 9) (zkb2 zk_cX10_drumPhase zn_cX10_drumPhase (by decide +kernel)) rfl
theorem dX10_drumPhase_22 : decode cX10_drumPhase 22 = .ok (.ishr, 1) := zo_122 (zkb zk_cX10_drumPhase zn_cX10_drumPhase (by decide +kernel))
theorem dX10_drumPhase_23 : decode cX10_drumPhase 23 = .ok (.istore 4, 2) := zo_54 (b1 := 4) (zkb2 zk_cX10_drumPhase zn_cX10_drumPhase (by decide +kernel))
theorem dX10_drumPhase_25 : decode cX10_drumPhase 25 = .ok (.iload_n 3, 1) := zo_29 (zkb zk_cX10_drumPhase zn_cX10_drumPhase (by decide +kernel))
theorem dX10_drumPhase_26 : decode cX10_drumPhase 26 = .ok (.iconst 2, 1) := zo_5 (zkb zk_cX10_drumPhase zn_cX10_drumPhase (by decide +kernel))
theorem dX10_drumPhase_27 : decode cX10_drumPhase 27 = .ok (.ishr, 1) := zo_122 (zkb zk_cX10_drumPhase zn_cX10_drumPhase (by decide +kernel))
theorem dX10_drumPhase_28 : decode cX10_drumPhase 28 = .ok (.iload_n 3, 1) := zo_29 (zkb zk_cX10_drumPhase zn_cX10_drumPhase (by decide +kernel))
theorem dX10_drumPhase_29 : decode cX10_drumPhase 29 = .ok (.bipush 7, 2) := zo_16 (b1 := 7) (zkb2 zk_cX10_drumPhase zn_cX10_drumPhase (by decide +kernel)) rfl
theorem dX10_drumPhase_31 : decode cX10_drumPhase 31 = .ok (.ishr, 1) := zo_122 (zkb zk_cX10_drumPhase zn_cX10_drumPhase (by decide +kernel))
theorem dX10_drumPhase_32 : decode cX10_drumPhase 32 = .ok (.ixor, 1) := zo_130 (zkb zk_cX10_drumPhase zn_cX10_drumPhase (by decide +kernel))
theorem dX10_drumPhase_33 : decode cX10_drumPhase 33 = .ok (.iload_n 3, 1) := zo_29 (zkb zk_cX10_drumPhase zn_cX10_drumPhase (by decide +kernel))
theorem dX10_drumPhase_34 : decode cX10_drumPhase 34 = .ok (.iconst 3, 1) := zo_6 (zkb zk_cX10_drumPhase zn_cX10_drumPhase (by decide +kernel))
theorem dX10_drumPhase_35 : decode cX10_drumPhase 35 = .ok (.ishr, 1) := zo_122 (zkb zk_cX10_drumPhase zn_cX10_drumPhase (by decide +kernel))
theorem dX10_drumPhase_36 : decode cX10_drumPhase 36 = .ok (.iload 4, 2) := zo_21 (b1 := 4) (zkb2 zk_cX10_drumPhase zn_cX10_drumPhase (by decide +kernel))
theorem dX10_drumPhase_38 : decode cX10_drumPhase 38 = .ok (.iconst 5, 1) := zo_8 (zkb zk_cX10_drumPhase zn_cX10_drumPhase (by decide +kernel))
theorem dX10_drumPhase_39 : decode cX10_drumPhase 39 = .ok (.ishr, 1) := zo_122 (zkb zk_cX10_drumPhase zn_cX10_drumPhase (by decide +kernel))
theorem dX10_drumPhase_40 : decode cX10_drumPhase 40 = .ok (.ixor, 1) := zo_130 (zkb zk_cX10_drumPhase zn_cX10_drumPhase (by decide +kernel))
theorem dX10_drumPhase_41 : decode cX10_drumPhase 41 = .ok (.ior, 1) := zo_128 (zkb zk_cX10_drumPhase zn_cX10_drumPhase (by decide +kernel))
theorem dX10_drumPhase_42 : decode cX10_drumPhase 42 = .ok (.iload 4, 2) := zo_21 (b1 := 4) (zkb2 zk_cX10_drumPhase zn_cX10_drumPhase (by decide +kernel))
theorem dX10_drumPhase_44 : decode cX10_drumPhase 44 = .ok (.iconst 3, 1) := zo_6 (zkb zk_cX10_drumPhase zn_cX10_drumPhase (by decide +kernel))
theorem dX10_drumPhase_45 : decode cX10_drumPhase 45 = .ok (.ishr, 1) := zo_122 (zkb zk_cX10_drumPhase zn_cX10_drumPhase (by decide +kernel))
theorem dX10_drumPhase_46 : decode cX10_drumPhase 46 = .ok (.iload 4, 2) := zo_21 (b1 := 4) (zkb2 zk_cX10_drumPhase zn_cX10_drumPhase (by decide +kernel))
theorem dX10_drumPhase_48 : decode cX10_drumPhase 48 = .ok (.iconst 5, 1) := zo_8 (zkb zk_cX10_drumPhase zn_cX10_drumPhase (by decide +kernel))
theorem dX10_drumPhase_49 : decode cX10_drumPhase 49 = .ok (.ishr, 1) := zo_122 (zkb zk_cX10_drumPhase zn_cX10_drumPhase (by decide +kernel))
theorem dX10_drumPhase_50 : decode cX10_drumPhase 50 = .ok (.ixor, 1) := zo_130 (zkb zk_cX10_drumPhase zn_cX10_drumPhase (by decide +kernel))
theorem dX10_drumPhase_51 : decode cX10_drumPhase 51 = .ok (.ior, 1) := zo_128 (zkb zk_cX10_drumPhase zn_cX10_drumPhase (by decide +kernel))
theorem dX10_drumPhase_52 : decode cX10_drumPhase 52 = .ok (.iconst 1, 1) := zo_4 (zkb zk_cX10_drumPhase zn_cX10_drumPhase (by decide +kernel))
theorem dX10_drumPhase_53 : decode cX10_drumPhase 53 = .ok (.iand, 1) := zo_126 (zkb zk_cX10_drumPhase zn_cX10_drumPhase (by decide +kernel))
theorem dX10_drumPhase_54 : decode cX10_drumPhase 54 = .ok (.ifCond .eq 7, 3) := zo_153 (b1 := 0) (b2 := 7) (zkb3 zk_cX10_drumPhase zn_cX10_drumPhase (by decide +kernel)) rfl
theorem dX10_drumPhase_57 : decode cX10_drumPhase 57 = .ok (.iconst 1, 1) := zo_4 (zkb zk_cX10_drumPhase zn_cX10_drumPhase (by decide +kernel))
theorem dX10_drumPhase_58 : decode cX10_drumPhase 58 = .ok (.goto 4, 3) := zo_167 (b1 := 0) (b2 := 4) (zkb3 zk_cX10_drumPhase zn_cX10_drumPhase (by decide +kernel)) rfl
theorem dX10_drumPhase_61 : decode cX10_drumPhase 61 = .ok (.iconst 0, 1) := zo_3 (zkb zk_cX10_drumPhase zn_cX10_drumPhase (by decide +kernel))
theorem dX10_drumPhase_62 : decode cX10_drumPhase 62 = .ok (.istore 5, 2) := zo_54 (b1 := 5) (zkb2 zk_cX10_drumPhase zn_cX10_drumPhase (by decide +kernel))
theorem dX10_drumPhase_64 : decode cX10_drumPhase 64 = .ok (.aload_n 0, 1) := zo_42 (zkb zk_cX10_drumPhase zn_cX10_drumPhase (by decide +kernel))
theorem dX10_drumPhase_65 : decode cX10_drumPhase 65 = .ok (.getfield 9, 3) := zo_180 (b1 := 0) (b2 := 9) (zkb3 zk_cX10_drumPhase zn_cX10_drumPhase (by decide +kernel)) rfl
theorem dX10_drumPhase_68 : decode cX10_drumPhase 68 = .ok (.bipush 65, 2) := zo_16 (b1 := 65) (zkb2 zk_cX10_drumPhase zn_cX10_drumPhase (by decide +kernel)) rfl
theorem dX10_drumPhase_70 : decode cX10_drumPhase 70 = .ok (.iaload, 1) := zo_46 (zkb zk_cX10_drumPhase zn_cX10_drumPhase (by decide +kernel))
theorem dX10_drumPhase_71 : decode cX10_drumPhase 71 = .ok (.iconst 1, 1) := zo_4 (zkb zk_cX10_drumPhase zn_cX10_drumPhase (by decide +kernel))
theorem dX10_drumPhase_72 : decode cX10_drumPhase 72 = .ok (.iand, 1) := zo_126 (zkb zk_cX10_drumPhase zn_cX10_drumPhase (by decide +kernel))
theorem dX10_drumPhase_73 : decode cX10_drumPhase 73 = .ok (.iconst 1, 1) := zo_4 (zkb zk_cX10_drumPhase zn_cX10_drumPhase (by decide +kernel))
theorem dX10_drumPhase_74 : decode cX10_drumPhase 74 = .ok (.if_icmp .ne 7, 3) := zo_160 (b1 := 0) (b2 := 7) (zkb3 zk_cX10_drumPhase zn_cX10_drumPhase (by decide +kernel)) rfl
theorem dX10_drumPhase_77 : decode cX10_drumPhase 77 = .ok (.iconst 1, 1) := zo_4 (zkb zk_cX10_drumPhase zn_cX10_drumPhase (by decide +kernel))
theorem dX10_drumPhase_78 : decode cX10_drumPhase 78 = .ok (.goto 4, 3) := zo_167 (b1 := 0) (b2 := 4) (zkb3 zk_cX10_drumPhase zn_cX10_drumPhase (by decide +kernel)) rfl
theorem dX10_drumPhase_81 : decode cX10_drumPhase 81 = .ok (.iconst 0, 1) := zo_3 (zkb zk_cX10_drumPhase zn_cX10_drumPhase (by decide +kernel))
theorem dX10_drumPhase_82 : decode cX10_drumPhase 82 = .ok (.istore 6, 2) := zo_54 (b1 := 6) (zkb2 zk_cX10_drumPhase zn_cX10_drumPhase (by decide +kernel))
theorem dX10_drumPhase_84 : decode cX10_drumPhase 84 = .ok (.aload_n 0, 1) := zo_42 (zkb zk_cX10_drumPhase zn_cX10_drumPhase (by decide +kernel))
theorem dX10_drumPhase_85 : decode cX10_drumPhase 85 = .ok (.getfield 48, 3) := zo_180 (b1 := 0) (b2 := 48) (zkb3 zk_cX10_drumPhase zn_cX10_drumPhase (by decide +kernel)) rfl
theorem dX10_drumPhase_88 : decode cX10_drumPhase 88 = .ok (.bipush 8, 2) := zo_16 (b1 := 8) (zkb2 zk_cX10_drumPhase zn_cX10_drumPhase (by decide +kernel)) rfl
theorem dX10_drumPhase_90 : decode cX10_drumPhase 90 = .ok (.if_icmp .ne 26, 3) := zo_160 (b1 := 0) (b2 := 26) (zkb3 zk_cX10_drumPhase zn_cX10_drumPhase (by decide +kernel)) rfl
theorem dX10_drumPhase_93 : decode cX10_drumPhase 93 = .ok (.iload_n 2, 1) := zo_28 (zkb zk_cX10_drumPhase zn_cX10_drumPhase (by decide +kernel))
theorem dX10_drumPhase_94 : decode cX10_drumPhase 94 = .ok (.ifCond .ne 7, 3) := zo_154 (b1 := 0) (b2 := 7) (zkb3 zk_cX10_drumPhase zn_cX10_drumPhase (by decide +kernel)) rfl
theorem dX10_drumPhase_97 : decode cX10_drumPhase 97 = .ok (.iload_n 1, 1) := zo_27 (zkb zk_cX10_drumPhase zn_cX10_drumPhase (by decide +kernel))
theorem dX10_drumPhase_98 : decode cX10_drumPhase 98 = .ok (.goto 17, 3) := zo_167 (b1 := 0) (b2 := 17) (zkb3 zk_cX10_drumPhase zn_cX10_drumPhase (by decide +kernel)) rfl
theorem dX10_drumPhase_101 : decode cX10_drumPhase 101 = .ok (.iload 5, 2) := zo_21 (b1 := 5) (zkb2 zk_cX10_drumPhase zn_cX10_drumPhase (by decide +kernel))
theorem dX10_drumPhase_103 : decode cX10_drumPhase 103 = .ok (.ifCond .eq 9, 3) := zo_153 (b1 := 0) (b2 := 9) (zkb3 zk_cX10_drumPhase zn_cX10_drumPhase (by decide +kernel)) rfl
theorem dX10_drumPhase_106 : decode cX10_drumPhase 106 = .ok (.sipush 768, 3) := zo_17 (b1 := 3) (b2 := 0) (zkb3 zk_cX10_drumPhase zn_cX10_drumPhase (by decide +kernel)) rfl
theorem dX10_drumPhase_109 : decode cX10_drumPhase 109 = .ok (.goto 6, 3) := zo_167 (b1 := 0) (b2 := 6) (zkb3 zk_cX10_drumPhase zn_cX10_drumPhase (by decide +kernel)) rfl
theorem dX10_drumPhase_112 : decode cX10_drumPhase 112 = .ok (.sipush 256, 3) := zo_17 (b1 := 1) (b2 := 0) (zkb3 zk_cX10_drumPhase zn_cX10_drumPhase (by decide +kernel)) rfl
theorem dX10_drumPhase_115 : decode cX10_drumPhase 115 = .ok (.ireturn, 1) := zo_172 (zkb zk_cX10_drumPhase zn_cX10_drumPhase (by decide +kernel))
theorem dX10_drumPhase_116 : decode cX10_drumPhase 116 = .ok (.iload_n 2, 1) := zo_28 (zkb zk_cX10_drumPhase zn_cX10_drumPhase (by decide +kernel))
theorem dX10_drumPhase_117 : decode cX10_drumPhase 117 = .ok (.ifCond .ne 39, 3) := zo_154 (b1 := 0) (b2 := 39) (zkb3 zk_cX10_drumPhase zn_cX10_drumPhase (by decide +kernel)) rfl
theorem dX10_drumPhase_120 : decode cX10_drumPhase 120 = .ok (.iload 5, 2) := zo_21 (b1 := 5) (zkb2 zk_cX10_drumPhase zn_cX10_drumPhase (by decide +kernel))
theorem dX10_drumPhase_122 : decode cX10_drumPhase 122 = .ok (.ifCond .eq 20, 3) := zo_153 (b1 := 0) (b2 := 20) (zkb3 zk_cX10_drumPhase zn_cX10_drumPhase (by decide +kernel)) rfl
theorem dX10_drumPhase_125 : decode cX10_drumPhase 125 = .ok (.iload 6, 2) := zo_21 (b1 := 6) (zkb2 zk_cX10_drumPhase zn_cX10_drumPhase (by decide +kernel))
theorem dX10_drumPhase_127 : decode cX10_drumPhase 127 = .ok (.ifCond .eq 9, 3) := zo_153 (b1 := 0) (b2 := 9) (zkb3 zk_cX10_drumPhase zn_cX10_drumPhase (by decide +kernel)) rfl
theorem dX10_drumPhase_130 : decode cX10_drumPhase 130 = .ok (.sipush 720, 3) := zo_17 (b1 := 2) (b2 := 208) (zkb3 zk_cX10_drumPhase zn_cX10_drumPhase (by decide +kernel)) rfl
theorem dX10_drumPhase_133 : decode cX10_drumPhase 133 = .ok (.goto 22, 3) := zo_167 (b1 := 0) (b2 := 22) (zkb3 zk_cX10_drumPhase zn_cX10_drumPhase (by decide +kernel)) rfl
theorem dX10_drumPhase_136 : decode cX10_drumPhase 136 = .ok (.sipush 564, 3) := zo_17 (b1 := 2) (b2 := 52) (zkb3 zk_cX10_drumPhase zn_cX10_drumPhase (by decide +kernel)) rfl
theorem dX10_drumPhase_139 : decode cX10_drumPhase 139 = .ok (.goto 16, 3) := zo_167 (b1 := 0) (b2 := 16) (zkb3 zk_cX10_drumPhase zn_cX10_drumPhase (by decide +kernel)) rfl
theorem dX10_drumPhase_142 : decode cX10_drumPhase 142 = .ok (.iload 6, 2) := zo_21 (b1 := 6) (zkb2 zk_cX10_drumPhase zn_cX10_drumPhase (by decide +kernel))
theorem dX10_drumPhase_144 : decode cX10_drumPhase 144 = .ok (.ifCond .eq 8, 3) := zo_153 (b1 := 0) (b2 := 8) (zkb3 zk_cX10_drumPhase zn_cX10_drumPhase (by decide +kernel)) rfl
theorem dX10_drumPhase_147 : decode cX10_drumPhase 147 = .ok (.bipush 52, 2) := zo_16 (b1 := 52) (zkb2 zk_cX10_drumPhase zn_cX10_drumPhase (by decide +kernel)) rfl
theorem dX10_drumPhase_149 : decode cX10_drumPhase 149 = .ok (.goto 6, 3) := zo_167 (b1 := 0) (b2 := 6) (zkb3 zk_cX10_drumPhase zn_cX10_drumPhase (by decide +kernel)) rfl
theorem dX10_drumPhase_152 : decode cX10_drumPhase 152 = .ok (.sipush 208, 3) := zo_17 (b1 := 0) (b2 := 208) (zkb3 zk_cX10_drumPhase zn_cX10_drumPhase (by decide +kernel)) rfl
theorem dX10_drumPhase_155 : decode cX10_drumPhase 155 = .ok (.ireturn, 1) := zo_172 (zkb zk_cX10_drumPhase zn_cX10_drumPhase (by decide +kernel))
theorem dX10_drumPhase_156 : decode cX10_drumPhase 156 = .ok (.iload_n 1, 1) := zo_27 (zkb zk_cX10_drumPhase zn_cX10_drumPhase (by decide +kernel))
theorem dX10_drumPhase_157 : decode cX10_drumPhase 157 = .ok (.sipush 512, 3) := zo_17 (b1 := 2) (b2 := 0) (zkb3 zk_cX10_drumPhase zn_cX10_drumPhase (by decide +kernel)) rfl
theorem dX10_drumPhase_160 : decode cX10_drumPhase 160 = .ok (.iand, 1) := zo_126 (zkb zk_cX10_drumPhase zn_cX10_drumPhase (by decide +kernel))
theorem dX10_drumPhase_161 : decode cX10_drumPhase 161 = .ok (.ifCond .eq 20, 3) := zo_153 (b1 := 0) (b2 := 20) (zkb3 zk_cX10_drumPhase zn_cX10_drumPhase (by decide +kernel)) rfl
theorem dX10_drumPhase_164 : decode cX10_drumPhase 164 = .ok (.iload 6, 2) := zo_21 (b1 := 6) (zkb2 zk_cX10_drumPhase zn_cX10_drumPhase (by decide +kernel))
theorem dX10_drumPhase_166 : decode cX10_drumPhase 166 = .ok (.ifCond .eq 9, 3) := zo_153 (b1 := 0) (b2 := 9) (zkb3 zk_cX10_drumPhase zn_cX10_drumPhase (by decide +kernel)) rfl
theorem dX10_drumPhase_169 : decode cX10_drumPhase 169 = .ok (.sipush 768, 3) := zo_17 (b1 := 3) (b2 := 0) (zkb3 zk_cX10_drumPhase zn_cX10_drumPhase (by decide +kernel)) rfl
theorem dX10_drumPhase_172 : decode cX10_drumPhase 172 = .ok (.goto 21, 3) := zo_167 (b1 := 0) (b2 := 21) (zkb3 zk_cX10_drumPhase zn_cX10_drumPhase (by decide +kernel)) rfl
theorem dX10_drumPhase_175 : decode cX10_drumPhase 175 = .ok (.sipush 512, 3) := zo_17 (b1 := 2) (b2 := 0) (zkb3 zk_cX10_drumPhase zn_cX10_drumPhase (by decide +kernel)) rfl
theorem dX10_drumPhase_178 : decode cX10_drumPhase 178 = .ok (.goto 15, 3) := zo_167 (b1 := 0) (b2 := 15) (zkb3 zk_cX10_drumPhase zn_cX10_drumPhase (by decide +kernel)) rfl
theorem dX10_drumPhase_181 : decode cX10_drumPhase 181 = .ok (.iload 6, 2) := zo_21 (b1 := 6) (zkb2 zk_cX10_drumPhase zn_cX10_drumPhase (by decide +kernel))
theorem dX10_drumPhase_183 : decode cX10_drumPhase 183 = .ok (.ifCond .eq 7, 3) := zo_153 (b1 := 0) (b2 := 7) (zkb3 zk_cX10_drumPhase zn_cX10_drumPhase (by decide +kernel)) rfl
theorem dX10_drumPhase_186 : decode cX10_drumPhase 186 = .ok (.iconst 0, 1) := zo_3 (zkb zk_cX10_drumPhase zn_cX10_drumPhase (by decide +kernel))
theorem dX10_drumPhase_187 : decode cX10_drumPhase 187 = .ok (.goto 6, 3) := zo_167 (b1 := 0) (b2 := 6) (zkb3 zk_cX10_drumPhase zn_cX10_drumPhase (by decide +kernel)) rfl
theorem dX10_drumPhase_190 : decode cX10_drumPhase 190 = .ok (.sipush 256, 3) := zo_17 (b1 := 1) (b2 := 0) (zkb3 zk_cX10_drumPhase zn_cX10_drumPhase (by decide +kernel)) rfl
theorem dX10_drumPhase_193 : decode cX10_drumPhase 193 = .ok (.ireturn, 1) := zo_172 (zkb zk_cX10_drumPhase zn_cX10_drumPhase (by decide +kernel))
def rmX6_keep_k11 : Room := { frames := 1, cells := 0, slots := 0, locals := 64 }
def wzX6_keep : List Cond := .code yX6_keep cX6_keep 1 none :: wsL_law
theorem hinX6_keep_k11_X60 : ∀ w ∈ wsX60, w ∈ wzX6_keep := fun w h => List.mem_cons_of_mem _ (inlX6 w h)
def fX6_keep_k11  (σ : zSt)  : Option (zSt) :=
  zck (zco 0 0 4096 4096 4096) (zbv (zcpl σ 46 47 ((0 : Int32).toNatClampNeg) ((0 : Int32).toNatClampNeg) ((4096 : Int32).toNatClampNeg)) (fun σ1 =>
  zbv (zsi σ1 11 4 (zgi σ1 11 2)) (fun σ2 =>
  zbv (zsi σ2 11 5 (zgi σ2 11 3)) (fun σ3 =>
  some σ3))))
set_option maxRecDepth 20000 in
set_option maxHeartbeats 4000000 in
theorem bX6_keep_k11 {st : Nat → Nat} {p : Program} {l : Launch} {e : Env} {s : State} {m : MethodId} {args : Array Value} {below : List Frame} {meth : Method} {c : Code} {D : va_G} {A : Nat → Prop} {ad : Nat → Nat} {cy : Nat → ClassId} (hC : zC p m c cX6_keep 1 s args wzX6_keep RX6 meth none)  {res : zSt} {H : Heap} {locs : List Loc} {σ : zSt} {ls : Array Slot}  (hI : zI st D (tC cy) (wC ad cy σ) A s H locs) (hl : lv_has ls 1 [(0, .ref (ad 11))]) (hf : fX6_keep_k11  σ  = some res) : W p l e rmX6_keep_k11 s m args below meth c H locs 0 0 (zQu below args s D (tC cy) (wC ad cy) A res) (F0 m 0 ls []) := by
  have hx := hC.1
  have hb := hC.2.1
  unfold fX6_keep_k11 at hf
  refine lv_aload_n hx hb dX6_keep_0 rfl (lv_at hl 0 rfl) ?_
  refine z_get hC hI hinX6_keep_k11_X60 11 (wC_e11 ad cy σ) rfl 0 (by decide) (List.mem_cons_of_mem _ zw8_3) rfl dX6_keep_1 ?_
  refine lv_iconst (v := 0) hx hb dX6_keep_4 (by decide) ?_
  refine lv_aload_n hx hb dX6_keep_5 rfl (lv_at hl 0 rfl) ?_
  refine z_get hC hI hinX6_keep_k11_X60 11 (wC_e11 ad cy σ) rfl 1 (by decide) (List.mem_cons_of_mem _ zw8_4) rfl dX6_keep_6 ?_
  refine lv_iconst (v := 0) hx hb dX6_keep_9 (by decide) ?_
  refine lv_sipush (v := 4096) hx hb dX6_keep_10 (by decide) ?_
  obtain ⟨q, hf⟩ := zck_use hf
  obtain ⟨σ1, eσ1⟩ : ∃ z, z = zcpl σ 46 47 ((0 : Int32).toNatClampNeg) ((0 : Int32).toNatClampNeg) ((4096 : Int32).toNatClampNeg) := ⟨_, rfl⟩
  replace hf := zbv_use eσ1 hf
  refine z_cpl hC hI (List.mem_cons_of_mem _ zw82_0) (List.mem_cons_of_mem _ zw80_6) (List.mem_cons_of_mem _ zw80_7) (List.mem_cons_of_mem _ zw80_8) hl 46 47 33 34 (wC_e46 ad cy σ) (wC_e47 ad cy σ) (tC_t46 cy) (tC_t47 cy) q (show _ = wC ad cy σ1 from eσ1 ▸ rfl) (Nat.le_of_ble_eq_true rfl) (Nat.le_of_ble_eq_true rfl) dX6_keep_13 (fun H locs hI => ?_)
  refine lv_aload_n hx hb dX6_keep_16 rfl (lv_at hl 0 rfl) ?_
  refine lv_aload_n hx hb dX6_keep_17 rfl (lv_at hl 0 rfl) ?_
  refine z_get hC hI hinX6_keep_k11_X60 11 (wC_e11 ad cy σ1) rfl 2 (by decide) (List.mem_cons_of_mem _ zw41_22) rfl dX6_keep_18 ?_
  obtain ⟨σ2, eσ2⟩ : ∃ z, z = zsi σ1 11 4 (zgi σ1 11 2) := ⟨_, rfl⟩
  replace hf := zbv_use eσ2 hf
  refine z_put hC hI hinX6_keep_k11_X60 tyX6_ok nmX6 11 (wC_e11 ad cy σ1) rfl 4 (by decide) (List.mem_cons_of_mem _ zw82_1) rfl rfl rfl (Nat.le_of_ble_eq_true rfl) ((wC_s11_4 ad cy σ1 (zgi σ1 11 2)).trans (congrArg (wC ad cy) eσ2.symm)) dX6_keep_21 (fun H locs hI => ?_)
  refine lv_aload_n hx hb dX6_keep_24 rfl (lv_at hl 0 rfl) ?_
  refine lv_aload_n hx hb dX6_keep_25 rfl (lv_at hl 0 rfl) ?_
  refine z_get hC hI hinX6_keep_k11_X60 11 (wC_e11 ad cy σ2) rfl 3 (by decide) (List.mem_cons_of_mem _ zw41_23) rfl dX6_keep_26 ?_
  obtain ⟨σ3, eσ3⟩ : ∃ z, z = zsi σ2 11 5 (zgi σ2 11 3) := ⟨_, rfl⟩
  replace hf := zbv_use eσ3 hf
  refine z_put hC hI hinX6_keep_k11_X60 tyX6_ok nmX6 11 (wC_e11 ad cy σ2) rfl 5 (by decide) (List.mem_cons_of_mem _ zw82_2) rfl rfl rfl (Nat.le_of_ble_eq_true rfl) ((wC_s11_5 ad cy σ2 (zgi σ2 11 3)).trans (congrArg (wC ad cy) eσ3.symm)) dX6_keep_29 (fun H locs hI => ?_)
  exact z_return hC hI hf dX6_keep_32
set_option maxRecDepth 20000 in
theorem cX6_keep_k11_met (st : Nat → Nat) (l : Launch) (D : va_G) (ad : Nat → Nat) (cy : Nat → ClassId) (σ : zSt)  (res : zSt) (hf : fX6_keep_k11 σ  = some res) (sz : Nat) : zMu st l yX6_keep wzX6_keep rmX6_keep_k11 [.ref (ad 11)] D (tC cy) (wC ad cy) sz σ res :=
  zMu.of (cc := cX6_keep) (maxL := 1) (ret := none) (by decide) rfl (Nat.le_of_ble_eq_true rfl) (fun p e s m args below meth c hC A hI ls hl => bX6_keep_k11 hC hI hl hf)
theorem hdX6_keep_k11 : yX6_keep.cls = RX6 ∧ yX6_keep.cls ≠ "java/lang/invoke/MethodHandle" ∧ yX6_keep.cls ≠ "java/lang/invoke/VarHandle" ∧ (parseMethodDescriptor yX6_keep.desc).map (fun d => d.parameters.length) = some 0 := by decide +kernel
def rmX6_keep_k12 : Room := { frames := 1, cells := 0, slots := 0, locals := 64 }
theorem hinX6_keep_k12_X60 : ∀ w ∈ wsX60, w ∈ wzX6_keep := fun w h => List.mem_cons_of_mem _ (inlX6 w h)
def fX6_keep_k12  (σ : zSt)  : Option (zSt) :=
  zck (zco 0 0 4096 4096 4096) (zbv (zcpl σ 48 49 ((0 : Int32).toNatClampNeg) ((0 : Int32).toNatClampNeg) ((4096 : Int32).toNatClampNeg)) (fun σ1 =>
  zbv (zsi σ1 12 4 (zgi σ1 12 2)) (fun σ2 =>
  zbv (zsi σ2 12 5 (zgi σ2 12 3)) (fun σ3 =>
  some σ3))))
set_option maxRecDepth 20000 in
set_option maxHeartbeats 4000000 in
theorem bX6_keep_k12 {st : Nat → Nat} {p : Program} {l : Launch} {e : Env} {s : State} {m : MethodId} {args : Array Value} {below : List Frame} {meth : Method} {c : Code} {D : va_G} {A : Nat → Prop} {ad : Nat → Nat} {cy : Nat → ClassId} (hC : zC p m c cX6_keep 1 s args wzX6_keep RX6 meth none)  {res : zSt} {H : Heap} {locs : List Loc} {σ : zSt} {ls : Array Slot}  (hI : zI st D (tC cy) (wC ad cy σ) A s H locs) (hl : lv_has ls 1 [(0, .ref (ad 12))]) (hf : fX6_keep_k12  σ  = some res) : W p l e rmX6_keep_k12 s m args below meth c H locs 0 0 (zQu below args s D (tC cy) (wC ad cy) A res) (F0 m 0 ls []) := by
  have hx := hC.1
  have hb := hC.2.1
  unfold fX6_keep_k12 at hf
  refine lv_aload_n hx hb dX6_keep_0 rfl (lv_at hl 0 rfl) ?_
  refine z_get hC hI hinX6_keep_k12_X60 12 (wC_e12 ad cy σ) rfl 0 (by decide) (List.mem_cons_of_mem _ zw8_3) rfl dX6_keep_1 ?_
  refine lv_iconst (v := 0) hx hb dX6_keep_4 (by decide) ?_
  refine lv_aload_n hx hb dX6_keep_5 rfl (lv_at hl 0 rfl) ?_
  refine z_get hC hI hinX6_keep_k12_X60 12 (wC_e12 ad cy σ) rfl 1 (by decide) (List.mem_cons_of_mem _ zw8_4) rfl dX6_keep_6 ?_
  refine lv_iconst (v := 0) hx hb dX6_keep_9 (by decide) ?_
  refine lv_sipush (v := 4096) hx hb dX6_keep_10 (by decide) ?_
  obtain ⟨q, hf⟩ := zck_use hf
  obtain ⟨σ1, eσ1⟩ : ∃ z, z = zcpl σ 48 49 ((0 : Int32).toNatClampNeg) ((0 : Int32).toNatClampNeg) ((4096 : Int32).toNatClampNeg) := ⟨_, rfl⟩
  replace hf := zbv_use eσ1 hf
  refine z_cpl hC hI (List.mem_cons_of_mem _ zw82_0) (List.mem_cons_of_mem _ zw80_6) (List.mem_cons_of_mem _ zw80_7) (List.mem_cons_of_mem _ zw80_8) hl 48 49 35 36 (wC_e48 ad cy σ) (wC_e49 ad cy σ) (tC_t48 cy) (tC_t49 cy) q (show _ = wC ad cy σ1 from eσ1 ▸ rfl) (Nat.le_of_ble_eq_true rfl) (Nat.le_of_ble_eq_true rfl) dX6_keep_13 (fun H locs hI => ?_)
  refine lv_aload_n hx hb dX6_keep_16 rfl (lv_at hl 0 rfl) ?_
  refine lv_aload_n hx hb dX6_keep_17 rfl (lv_at hl 0 rfl) ?_
  refine z_get hC hI hinX6_keep_k12_X60 12 (wC_e12 ad cy σ1) rfl 2 (by decide) (List.mem_cons_of_mem _ zw41_22) rfl dX6_keep_18 ?_
  obtain ⟨σ2, eσ2⟩ : ∃ z, z = zsi σ1 12 4 (zgi σ1 12 2) := ⟨_, rfl⟩
  replace hf := zbv_use eσ2 hf
  refine z_put hC hI hinX6_keep_k12_X60 tyX6_ok nmX6 12 (wC_e12 ad cy σ1) rfl 4 (by decide) (List.mem_cons_of_mem _ zw82_1) rfl rfl rfl (Nat.le_of_ble_eq_true rfl) ((wC_s12_4 ad cy σ1 (zgi σ1 12 2)).trans (congrArg (wC ad cy) eσ2.symm)) dX6_keep_21 (fun H locs hI => ?_)
  refine lv_aload_n hx hb dX6_keep_24 rfl (lv_at hl 0 rfl) ?_
  refine lv_aload_n hx hb dX6_keep_25 rfl (lv_at hl 0 rfl) ?_
  refine z_get hC hI hinX6_keep_k12_X60 12 (wC_e12 ad cy σ2) rfl 3 (by decide) (List.mem_cons_of_mem _ zw41_23) rfl dX6_keep_26 ?_
  obtain ⟨σ3, eσ3⟩ : ∃ z, z = zsi σ2 12 5 (zgi σ2 12 3) := ⟨_, rfl⟩
  replace hf := zbv_use eσ3 hf
  refine z_put hC hI hinX6_keep_k12_X60 tyX6_ok nmX6 12 (wC_e12 ad cy σ2) rfl 5 (by decide) (List.mem_cons_of_mem _ zw82_2) rfl rfl rfl (Nat.le_of_ble_eq_true rfl) ((wC_s12_5 ad cy σ2 (zgi σ2 12 3)).trans (congrArg (wC ad cy) eσ3.symm)) dX6_keep_29 (fun H locs hI => ?_)
  exact z_return hC hI hf dX6_keep_32
set_option maxRecDepth 20000 in
theorem cX6_keep_k12_met (st : Nat → Nat) (l : Launch) (D : va_G) (ad : Nat → Nat) (cy : Nat → ClassId) (σ : zSt)  (res : zSt) (hf : fX6_keep_k12 σ  = some res) (sz : Nat) : zMu st l yX6_keep wzX6_keep rmX6_keep_k12 [.ref (ad 12)] D (tC cy) (wC ad cy) sz σ res :=
  zMu.of (cc := cX6_keep) (maxL := 1) (ret := none) (by decide) rfl (Nat.le_of_ble_eq_true rfl) (fun p e s m args below meth c hC A hI ls hl => bX6_keep_k12 hC hI hl hf)
theorem hdX6_keep_k12 : yX6_keep.cls = RX6 ∧ yX6_keep.cls ≠ "java/lang/invoke/MethodHandle" ∧ yX6_keep.cls ≠ "java/lang/invoke/VarHandle" ∧ (parseMethodDescriptor yX6_keep.desc).map (fun d => d.parameters.length) = some 0 := by decide +kernel
def rmX0_keep : Room := { frames := 2, cells := 0, slots := 0, locals := 84 }
def wzX0_keep : List Cond := .code yX0_keep cX0_keep 1 none :: wsL_law
theorem hinX0_keep_X00 : ∀ w ∈ wsX00, w ∈ wzX0_keep := fun w h => List.mem_cons_of_mem _ (inlX0 w h)
def fX0_keep  (σ : zSt)  : Option (zSt) :=
  zck (zco 0 0 7 7 7) (zbv (zcpl σ 38 39 ((0 : Int32).toNatClampNeg) ((0 : Int32).toNatClampNeg) ((7 : Int32).toNatClampNeg)) (fun σ1 =>
  zbu (fX6_keep_k11 σ1 ) (fun σ2 =>
  zbu (fX6_keep_k12 σ2 ) (fun σ3 =>
  some σ3))))
set_option maxRecDepth 20000 in
set_option maxHeartbeats 4000000 in
theorem bX0_keep {st : Nat → Nat} {p : Program} {l : Launch} {e : Env} {s : State} {m : MethodId} {args : Array Value} {below : List Frame} {meth : Method} {c : Code} {D : va_G} {A : Nat → Prop} {ad : Nat → Nat} {cy : Nat → ClassId} (hC : zC p m c cX0_keep 1 s args wzX0_keep RX0 meth none)  {res : zSt} {H : Heap} {locs : List Loc} {σ : zSt} {ls : Array Slot}  (hI : zI st D (tC cy) (wC ad cy σ) A s H locs) (hl : lv_has ls 1 [(0, .ref (ad 8))]) (hf : fX0_keep  σ  = some res) : W p l e rmX0_keep s m args below meth c H locs 0 0 (zQu below args s D (tC cy) (wC ad cy) A res) (F0 m 0 ls []) := by
  have hx := hC.1
  have hb := hC.2.1
  unfold fX0_keep at hf
  refine lv_aload_n hx hb dX0_keep_0 rfl (lv_at hl 0 rfl) ?_
  refine z_get hC hI hinX0_keep_X00 8 (wC_e8 ad cy σ) rfl 4 (by decide) (List.mem_cons_of_mem _ zw7_20) rfl dX0_keep_1 ?_
  refine lv_iconst (v := 0) hx hb dX0_keep_4 (by decide) ?_
  refine lv_aload_n hx hb dX0_keep_5 rfl (lv_at hl 0 rfl) ?_
  refine z_get hC hI hinX0_keep_X00 8 (wC_e8 ad cy σ) rfl 5 (by decide) (List.mem_cons_of_mem _ zw7_21) rfl dX0_keep_6 ?_
  refine lv_iconst (v := 0) hx hb dX0_keep_9 (by decide) ?_
  refine lv_bipush (v := 7) hx hb dX0_keep_10 (by decide) ?_
  obtain ⟨q, hf⟩ := zck_use hf
  obtain ⟨σ1, eσ1⟩ : ∃ z, z = zcpl σ 38 39 ((0 : Int32).toNatClampNeg) ((0 : Int32).toNatClampNeg) ((7 : Int32).toNatClampNeg) := ⟨_, rfl⟩
  replace hf := zbv_use eσ1 hf
  refine z_cpl hC hI (List.mem_cons_of_mem _ zw81_19) (List.mem_cons_of_mem _ zw80_6) (List.mem_cons_of_mem _ zw80_7) (List.mem_cons_of_mem _ zw80_8) hl 38 39 25 26 (wC_e38 ad cy σ) (wC_e39 ad cy σ) (tC_t38 cy) (tC_t39 cy) q (show _ = wC ad cy σ1 from eσ1 ▸ rfl) (Nat.le_of_ble_eq_true rfl) (Nat.le_of_ble_eq_true rfl) dX0_keep_12 (fun H locs hI => ?_)
  refine lv_aload_n hx hb dX0_keep_15 rfl (lv_at hl 0 rfl) ?_
  refine z_get hC hI hinX0_keep_X00 8 (wC_e8 ad cy σ1) rfl 2 (by decide) (List.mem_cons_of_mem _ zw7_18) rfl dX0_keep_16 ?_
  obtain ⟨σ2, g2, hf⟩ := zbu_use hf
  refine z_callVu (As := []) (rest := []) hC hI (cX6_keep_k11_met st l D ad cy σ1  _ g2) (zgV zw81_20 zw81_21 zw81_22 zw7_17 zw81_23) rfl ⟨rfl, rfl⟩ 0 hdX6_keep_k11 ⟨Nat.le_of_ble_eq_true rfl, Nat.le_of_ble_eq_true rfl⟩ rfl rfl (wC_e11 ad cy σ1) rfl hl rfl (Nat.le_of_ble_eq_true rfl) dX0_keep_19 ⟨Nat.zero_le _, Nat.zero_le _⟩ (fun H locs hI => ?_)
  refine lv_aload_n hx hb dX0_keep_22 rfl (lv_at hl 0 rfl) ?_
  refine z_get hC hI hinX0_keep_X00 8 (wC_e8 ad cy σ2) rfl 3 (by decide) (List.mem_cons_of_mem _ zw7_19) rfl dX0_keep_23 ?_
  obtain ⟨σ3, g3, hf⟩ := zbu_use hf
  refine z_callVu (As := []) (rest := []) hC hI (cX6_keep_k12_met st l D ad cy σ2  _ g3) (zgV zw81_20 zw81_21 zw81_22 zw7_17 zw81_23) rfl ⟨rfl, rfl⟩ 0 hdX6_keep_k12 ⟨Nat.le_of_ble_eq_true rfl, Nat.le_of_ble_eq_true rfl⟩ rfl rfl (wC_e12 ad cy σ2) rfl hl rfl (Nat.le_of_ble_eq_true rfl) dX0_keep_26 ⟨Nat.zero_le _, Nat.zero_le _⟩ (fun H locs hI => ?_)
  exact z_return hC hI hf dX0_keep_29
set_option maxRecDepth 20000 in
theorem cX0_keep_met (st : Nat → Nat) (l : Launch) (D : va_G) (ad : Nat → Nat) (cy : Nat → ClassId) (σ : zSt)  (res : zSt) (hf : fX0_keep σ  = some res) (sz : Nat) : zMu st l yX0_keep wzX0_keep rmX0_keep [.ref (ad 8)] D (tC cy) (wC ad cy) sz σ res :=
  zMu.of (cc := cX0_keep) (maxL := 1) (ret := none) (by decide) rfl (Nat.le_of_ble_eq_true rfl) (fun p e s m args below meth c hC A hI ls hl => bX0_keep hC hI hl hf)
theorem hdX0_keep : yX0_keep.cls = RX0 ∧ yX0_keep.cls ≠ "java/lang/invoke/MethodHandle" ∧ yX0_keep.cls ≠ "java/lang/invoke/VarHandle" ∧ (parseMethodDescriptor yX0_keep.desc).map (fun d => d.parameters.length) = some 0 := by decide +kernel
def rmX6_bringBack_k11 : Room := { frames := 1, cells := 0, slots := 0, locals := 64 }
def wzX6_bringBack : List Cond := .code yX6_bringBack cX6_bringBack 1 none :: wsL_law
theorem hinX6_bringBack_k11_X60 : ∀ w ∈ wsX60, w ∈ wzX6_bringBack := fun w h => List.mem_cons_of_mem _ (inlX6 w h)
def fX6_bringBack_k11  (σ : zSt)  : Option (zSt) :=
  zck (zco 0 0 4096 4096 4096) (zbv (zcpl σ 47 46 ((0 : Int32).toNatClampNeg) ((0 : Int32).toNatClampNeg) ((4096 : Int32).toNatClampNeg)) (fun σ1 =>
  zbv (zsi σ1 11 2 (zgi σ1 11 4)) (fun σ2 =>
  zbv (zsi σ2 11 3 (zgi σ2 11 5)) (fun σ3 =>
  some σ3))))
set_option maxRecDepth 20000 in
set_option maxHeartbeats 4000000 in
theorem bX6_bringBack_k11 {st : Nat → Nat} {p : Program} {l : Launch} {e : Env} {s : State} {m : MethodId} {args : Array Value} {below : List Frame} {meth : Method} {c : Code} {D : va_G} {A : Nat → Prop} {ad : Nat → Nat} {cy : Nat → ClassId} (hC : zC p m c cX6_bringBack 1 s args wzX6_bringBack RX6 meth none)  {res : zSt} {H : Heap} {locs : List Loc} {σ : zSt} {ls : Array Slot}  (hI : zI st D (tC cy) (wC ad cy σ) A s H locs) (hl : lv_has ls 1 [(0, .ref (ad 11))]) (hf : fX6_bringBack_k11  σ  = some res) : W p l e rmX6_bringBack_k11 s m args below meth c H locs 0 0 (zQu below args s D (tC cy) (wC ad cy) A res) (F0 m 0 ls []) := by
  have hx := hC.1
  have hb := hC.2.1
  unfold fX6_bringBack_k11 at hf
  refine lv_aload_n hx hb dX6_bringBack_0 rfl (lv_at hl 0 rfl) ?_
  refine z_get hC hI hinX6_bringBack_k11_X60 11 (wC_e11 ad cy σ) rfl 1 (by decide) (List.mem_cons_of_mem _ zw8_4) rfl dX6_bringBack_1 ?_
  refine lv_iconst (v := 0) hx hb dX6_bringBack_4 (by decide) ?_
  refine lv_aload_n hx hb dX6_bringBack_5 rfl (lv_at hl 0 rfl) ?_
  refine z_get hC hI hinX6_bringBack_k11_X60 11 (wC_e11 ad cy σ) rfl 0 (by decide) (List.mem_cons_of_mem _ zw8_3) rfl dX6_bringBack_6 ?_
  refine lv_iconst (v := 0) hx hb dX6_bringBack_9 (by decide) ?_
  refine lv_sipush (v := 4096) hx hb dX6_bringBack_10 (by decide) ?_
  obtain ⟨q, hf⟩ := zck_use hf
  obtain ⟨σ1, eσ1⟩ : ∃ z, z = zcpl σ 47 46 ((0 : Int32).toNatClampNeg) ((0 : Int32).toNatClampNeg) ((4096 : Int32).toNatClampNeg) := ⟨_, rfl⟩
  replace hf := zbv_use eσ1 hf
  refine z_cpl hC hI (List.mem_cons_of_mem _ zw82_0) (List.mem_cons_of_mem _ zw80_6) (List.mem_cons_of_mem _ zw80_7) (List.mem_cons_of_mem _ zw80_8) hl 47 46 34 33 (wC_e47 ad cy σ) (wC_e46 ad cy σ) (tC_t47 cy) (tC_t46 cy) q (show _ = wC ad cy σ1 from eσ1 ▸ rfl) (Nat.le_of_ble_eq_true rfl) (Nat.le_of_ble_eq_true rfl) dX6_bringBack_13 (fun H locs hI => ?_)
  refine lv_aload_n hx hb dX6_bringBack_16 rfl (lv_at hl 0 rfl) ?_
  refine lv_aload_n hx hb dX6_bringBack_17 rfl (lv_at hl 0 rfl) ?_
  refine z_get hC hI hinX6_bringBack_k11_X60 11 (wC_e11 ad cy σ1) rfl 4 (by decide) (List.mem_cons_of_mem _ zw82_1) rfl dX6_bringBack_18 ?_
  obtain ⟨σ2, eσ2⟩ : ∃ z, z = zsi σ1 11 2 (zgi σ1 11 4) := ⟨_, rfl⟩
  replace hf := zbv_use eσ2 hf
  refine z_put hC hI hinX6_bringBack_k11_X60 tyX6_ok nmX6 11 (wC_e11 ad cy σ1) rfl 2 (by decide) (List.mem_cons_of_mem _ zw41_22) rfl rfl rfl (Nat.le_of_ble_eq_true rfl) ((wC_s11_2 ad cy σ1 (zgi σ1 11 4)).trans (congrArg (wC ad cy) eσ2.symm)) dX6_bringBack_21 (fun H locs hI => ?_)
  refine lv_aload_n hx hb dX6_bringBack_24 rfl (lv_at hl 0 rfl) ?_
  refine lv_aload_n hx hb dX6_bringBack_25 rfl (lv_at hl 0 rfl) ?_
  refine z_get hC hI hinX6_bringBack_k11_X60 11 (wC_e11 ad cy σ2) rfl 5 (by decide) (List.mem_cons_of_mem _ zw82_2) rfl dX6_bringBack_26 ?_
  obtain ⟨σ3, eσ3⟩ : ∃ z, z = zsi σ2 11 3 (zgi σ2 11 5) := ⟨_, rfl⟩
  replace hf := zbv_use eσ3 hf
  refine z_put hC hI hinX6_bringBack_k11_X60 tyX6_ok nmX6 11 (wC_e11 ad cy σ2) rfl 3 (by decide) (List.mem_cons_of_mem _ zw41_23) rfl rfl rfl (Nat.le_of_ble_eq_true rfl) ((wC_s11_3 ad cy σ2 (zgi σ2 11 5)).trans (congrArg (wC ad cy) eσ3.symm)) dX6_bringBack_29 (fun H locs hI => ?_)
  exact z_return hC hI hf dX6_bringBack_32
set_option maxRecDepth 20000 in
theorem cX6_bringBack_k11_met (st : Nat → Nat) (l : Launch) (D : va_G) (ad : Nat → Nat) (cy : Nat → ClassId) (σ : zSt)  (res : zSt) (hf : fX6_bringBack_k11 σ  = some res) (sz : Nat) : zMu st l yX6_bringBack wzX6_bringBack rmX6_bringBack_k11 [.ref (ad 11)] D (tC cy) (wC ad cy) sz σ res :=
  zMu.of (cc := cX6_bringBack) (maxL := 1) (ret := none) (by decide) rfl (Nat.le_of_ble_eq_true rfl) (fun p e s m args below meth c hC A hI ls hl => bX6_bringBack_k11 hC hI hl hf)
theorem hdX6_bringBack_k11 : yX6_bringBack.cls = RX6 ∧ yX6_bringBack.cls ≠ "java/lang/invoke/MethodHandle" ∧ yX6_bringBack.cls ≠ "java/lang/invoke/VarHandle" ∧ (parseMethodDescriptor yX6_bringBack.desc).map (fun d => d.parameters.length) = some 0 := by decide +kernel
def rmX6_bringBack_k12 : Room := { frames := 1, cells := 0, slots := 0, locals := 64 }
theorem hinX6_bringBack_k12_X60 : ∀ w ∈ wsX60, w ∈ wzX6_bringBack := fun w h => List.mem_cons_of_mem _ (inlX6 w h)
def fX6_bringBack_k12  (σ : zSt)  : Option (zSt) :=
  zck (zco 0 0 4096 4096 4096) (zbv (zcpl σ 49 48 ((0 : Int32).toNatClampNeg) ((0 : Int32).toNatClampNeg) ((4096 : Int32).toNatClampNeg)) (fun σ1 =>
  zbv (zsi σ1 12 2 (zgi σ1 12 4)) (fun σ2 =>
  zbv (zsi σ2 12 3 (zgi σ2 12 5)) (fun σ3 =>
  some σ3))))
set_option maxRecDepth 20000 in
set_option maxHeartbeats 4000000 in
theorem bX6_bringBack_k12 {st : Nat → Nat} {p : Program} {l : Launch} {e : Env} {s : State} {m : MethodId} {args : Array Value} {below : List Frame} {meth : Method} {c : Code} {D : va_G} {A : Nat → Prop} {ad : Nat → Nat} {cy : Nat → ClassId} (hC : zC p m c cX6_bringBack 1 s args wzX6_bringBack RX6 meth none)  {res : zSt} {H : Heap} {locs : List Loc} {σ : zSt} {ls : Array Slot}  (hI : zI st D (tC cy) (wC ad cy σ) A s H locs) (hl : lv_has ls 1 [(0, .ref (ad 12))]) (hf : fX6_bringBack_k12  σ  = some res) : W p l e rmX6_bringBack_k12 s m args below meth c H locs 0 0 (zQu below args s D (tC cy) (wC ad cy) A res) (F0 m 0 ls []) := by
  have hx := hC.1
  have hb := hC.2.1
  unfold fX6_bringBack_k12 at hf
  refine lv_aload_n hx hb dX6_bringBack_0 rfl (lv_at hl 0 rfl) ?_
  refine z_get hC hI hinX6_bringBack_k12_X60 12 (wC_e12 ad cy σ) rfl 1 (by decide) (List.mem_cons_of_mem _ zw8_4) rfl dX6_bringBack_1 ?_
  refine lv_iconst (v := 0) hx hb dX6_bringBack_4 (by decide) ?_
  refine lv_aload_n hx hb dX6_bringBack_5 rfl (lv_at hl 0 rfl) ?_
  refine z_get hC hI hinX6_bringBack_k12_X60 12 (wC_e12 ad cy σ) rfl 0 (by decide) (List.mem_cons_of_mem _ zw8_3) rfl dX6_bringBack_6 ?_
  refine lv_iconst (v := 0) hx hb dX6_bringBack_9 (by decide) ?_
  refine lv_sipush (v := 4096) hx hb dX6_bringBack_10 (by decide) ?_
  obtain ⟨q, hf⟩ := zck_use hf
  obtain ⟨σ1, eσ1⟩ : ∃ z, z = zcpl σ 49 48 ((0 : Int32).toNatClampNeg) ((0 : Int32).toNatClampNeg) ((4096 : Int32).toNatClampNeg) := ⟨_, rfl⟩
  replace hf := zbv_use eσ1 hf
  refine z_cpl hC hI (List.mem_cons_of_mem _ zw82_0) (List.mem_cons_of_mem _ zw80_6) (List.mem_cons_of_mem _ zw80_7) (List.mem_cons_of_mem _ zw80_8) hl 49 48 36 35 (wC_e49 ad cy σ) (wC_e48 ad cy σ) (tC_t49 cy) (tC_t48 cy) q (show _ = wC ad cy σ1 from eσ1 ▸ rfl) (Nat.le_of_ble_eq_true rfl) (Nat.le_of_ble_eq_true rfl) dX6_bringBack_13 (fun H locs hI => ?_)
  refine lv_aload_n hx hb dX6_bringBack_16 rfl (lv_at hl 0 rfl) ?_
  refine lv_aload_n hx hb dX6_bringBack_17 rfl (lv_at hl 0 rfl) ?_
  refine z_get hC hI hinX6_bringBack_k12_X60 12 (wC_e12 ad cy σ1) rfl 4 (by decide) (List.mem_cons_of_mem _ zw82_1) rfl dX6_bringBack_18 ?_
  obtain ⟨σ2, eσ2⟩ : ∃ z, z = zsi σ1 12 2 (zgi σ1 12 4) := ⟨_, rfl⟩
  replace hf := zbv_use eσ2 hf
  refine z_put hC hI hinX6_bringBack_k12_X60 tyX6_ok nmX6 12 (wC_e12 ad cy σ1) rfl 2 (by decide) (List.mem_cons_of_mem _ zw41_22) rfl rfl rfl (Nat.le_of_ble_eq_true rfl) ((wC_s12_2 ad cy σ1 (zgi σ1 12 4)).trans (congrArg (wC ad cy) eσ2.symm)) dX6_bringBack_21 (fun H locs hI => ?_)
  refine lv_aload_n hx hb dX6_bringBack_24 rfl (lv_at hl 0 rfl) ?_
  refine lv_aload_n hx hb dX6_bringBack_25 rfl (lv_at hl 0 rfl) ?_
  refine z_get hC hI hinX6_bringBack_k12_X60 12 (wC_e12 ad cy σ2) rfl 5 (by decide) (List.mem_cons_of_mem _ zw82_2) rfl dX6_bringBack_26 ?_
  obtain ⟨σ3, eσ3⟩ : ∃ z, z = zsi σ2 12 3 (zgi σ2 12 5) := ⟨_, rfl⟩
  replace hf := zbv_use eσ3 hf
  refine z_put hC hI hinX6_bringBack_k12_X60 tyX6_ok nmX6 12 (wC_e12 ad cy σ2) rfl 3 (by decide) (List.mem_cons_of_mem _ zw41_23) rfl rfl rfl (Nat.le_of_ble_eq_true rfl) ((wC_s12_3 ad cy σ2 (zgi σ2 12 5)).trans (congrArg (wC ad cy) eσ3.symm)) dX6_bringBack_29 (fun H locs hI => ?_)
  exact z_return hC hI hf dX6_bringBack_32
set_option maxRecDepth 20000 in
theorem cX6_bringBack_k12_met (st : Nat → Nat) (l : Launch) (D : va_G) (ad : Nat → Nat) (cy : Nat → ClassId) (σ : zSt)  (res : zSt) (hf : fX6_bringBack_k12 σ  = some res) (sz : Nat) : zMu st l yX6_bringBack wzX6_bringBack rmX6_bringBack_k12 [.ref (ad 12)] D (tC cy) (wC ad cy) sz σ res :=
  zMu.of (cc := cX6_bringBack) (maxL := 1) (ret := none) (by decide) rfl (Nat.le_of_ble_eq_true rfl) (fun p e s m args below meth c hC A hI ls hl => bX6_bringBack_k12 hC hI hl hf)
theorem hdX6_bringBack_k12 : yX6_bringBack.cls = RX6 ∧ yX6_bringBack.cls ≠ "java/lang/invoke/MethodHandle" ∧ yX6_bringBack.cls ≠ "java/lang/invoke/VarHandle" ∧ (parseMethodDescriptor yX6_bringBack.desc).map (fun d => d.parameters.length) = some 0 := by decide +kernel
def rmX0_bringBack : Room := { frames := 2, cells := 0, slots := 0, locals := 84 }
def wzX0_bringBack : List Cond := .code yX0_bringBack cX0_bringBack 1 none :: wsL_law
theorem hinX0_bringBack_X00 : ∀ w ∈ wsX00, w ∈ wzX0_bringBack := fun w h => List.mem_cons_of_mem _ (inlX0 w h)
def fX0_bringBack  (σ : zSt)  : Option (zSt) :=
  zck (zco 0 0 7 7 7) (zbv (zcpl σ 39 38 ((0 : Int32).toNatClampNeg) ((0 : Int32).toNatClampNeg) ((7 : Int32).toNatClampNeg)) (fun σ1 =>
  zbu (fX6_bringBack_k11 σ1 ) (fun σ2 =>
  zbu (fX6_bringBack_k12 σ2 ) (fun σ3 =>
  some σ3))))
set_option maxRecDepth 20000 in
set_option maxHeartbeats 4000000 in
theorem bX0_bringBack {st : Nat → Nat} {p : Program} {l : Launch} {e : Env} {s : State} {m : MethodId} {args : Array Value} {below : List Frame} {meth : Method} {c : Code} {D : va_G} {A : Nat → Prop} {ad : Nat → Nat} {cy : Nat → ClassId} (hC : zC p m c cX0_bringBack 1 s args wzX0_bringBack RX0 meth none)  {res : zSt} {H : Heap} {locs : List Loc} {σ : zSt} {ls : Array Slot}  (hI : zI st D (tC cy) (wC ad cy σ) A s H locs) (hl : lv_has ls 1 [(0, .ref (ad 8))]) (hf : fX0_bringBack  σ  = some res) : W p l e rmX0_bringBack s m args below meth c H locs 0 0 (zQu below args s D (tC cy) (wC ad cy) A res) (F0 m 0 ls []) := by
  have hx := hC.1
  have hb := hC.2.1
  unfold fX0_bringBack at hf
  refine lv_aload_n hx hb dX0_bringBack_0 rfl (lv_at hl 0 rfl) ?_
  refine z_get hC hI hinX0_bringBack_X00 8 (wC_e8 ad cy σ) rfl 5 (by decide) (List.mem_cons_of_mem _ zw7_21) rfl dX0_bringBack_1 ?_
  refine lv_iconst (v := 0) hx hb dX0_bringBack_4 (by decide) ?_
  refine lv_aload_n hx hb dX0_bringBack_5 rfl (lv_at hl 0 rfl) ?_
  refine z_get hC hI hinX0_bringBack_X00 8 (wC_e8 ad cy σ) rfl 4 (by decide) (List.mem_cons_of_mem _ zw7_20) rfl dX0_bringBack_6 ?_
  refine lv_iconst (v := 0) hx hb dX0_bringBack_9 (by decide) ?_
  refine lv_bipush (v := 7) hx hb dX0_bringBack_10 (by decide) ?_
  obtain ⟨q, hf⟩ := zck_use hf
  obtain ⟨σ1, eσ1⟩ : ∃ z, z = zcpl σ 39 38 ((0 : Int32).toNatClampNeg) ((0 : Int32).toNatClampNeg) ((7 : Int32).toNatClampNeg) := ⟨_, rfl⟩
  replace hf := zbv_use eσ1 hf
  refine z_cpl hC hI (List.mem_cons_of_mem _ zw81_19) (List.mem_cons_of_mem _ zw80_6) (List.mem_cons_of_mem _ zw80_7) (List.mem_cons_of_mem _ zw80_8) hl 39 38 26 25 (wC_e39 ad cy σ) (wC_e38 ad cy σ) (tC_t39 cy) (tC_t38 cy) q (show _ = wC ad cy σ1 from eσ1 ▸ rfl) (Nat.le_of_ble_eq_true rfl) (Nat.le_of_ble_eq_true rfl) dX0_bringBack_12 (fun H locs hI => ?_)
  refine lv_aload_n hx hb dX0_bringBack_15 rfl (lv_at hl 0 rfl) ?_
  refine z_get hC hI hinX0_bringBack_X00 8 (wC_e8 ad cy σ1) rfl 2 (by decide) (List.mem_cons_of_mem _ zw7_18) rfl dX0_bringBack_16 ?_
  obtain ⟨σ2, g2, hf⟩ := zbu_use hf
  refine z_callVu (As := []) (rest := []) hC hI (cX6_bringBack_k11_met st l D ad cy σ1  _ g2) (zgV zw84_4 zw84_5 zw84_6 zw7_17 zw84_7) rfl ⟨rfl, rfl⟩ 0 hdX6_bringBack_k11 ⟨Nat.le_of_ble_eq_true rfl, Nat.le_of_ble_eq_true rfl⟩ rfl rfl (wC_e11 ad cy σ1) rfl hl rfl (Nat.le_of_ble_eq_true rfl) dX0_bringBack_19 ⟨Nat.zero_le _, Nat.zero_le _⟩ (fun H locs hI => ?_)
  refine lv_aload_n hx hb dX0_bringBack_22 rfl (lv_at hl 0 rfl) ?_
  refine z_get hC hI hinX0_bringBack_X00 8 (wC_e8 ad cy σ2) rfl 3 (by decide) (List.mem_cons_of_mem _ zw7_19) rfl dX0_bringBack_23 ?_
  obtain ⟨σ3, g3, hf⟩ := zbu_use hf
  refine z_callVu (As := []) (rest := []) hC hI (cX6_bringBack_k12_met st l D ad cy σ2  _ g3) (zgV zw84_4 zw84_5 zw84_6 zw7_17 zw84_7) rfl ⟨rfl, rfl⟩ 0 hdX6_bringBack_k12 ⟨Nat.le_of_ble_eq_true rfl, Nat.le_of_ble_eq_true rfl⟩ rfl rfl (wC_e12 ad cy σ2) rfl hl rfl (Nat.le_of_ble_eq_true rfl) dX0_bringBack_26 ⟨Nat.zero_le _, Nat.zero_le _⟩ (fun H locs hI => ?_)
  exact z_return hC hI hf dX0_bringBack_29
set_option maxRecDepth 20000 in
theorem cX0_bringBack_met (st : Nat → Nat) (l : Launch) (D : va_G) (ad : Nat → Nat) (cy : Nat → ClassId) (σ : zSt)  (res : zSt) (hf : fX0_bringBack σ  = some res) (sz : Nat) : zMu st l yX0_bringBack wzX0_bringBack rmX0_bringBack [.ref (ad 8)] D (tC cy) (wC ad cy) sz σ res :=
  zMu.of (cc := cX0_bringBack) (maxL := 1) (ret := none) (by decide) rfl (Nat.le_of_ble_eq_true rfl) (fun p e s m args below meth c hC A hI ls hl => bX0_bringBack hC hI hl hf)
theorem hdX0_bringBack : yX0_bringBack.cls = RX0 ∧ yX0_bringBack.cls ≠ "java/lang/invoke/MethodHandle" ∧ yX0_bringBack.cls ≠ "java/lang/invoke/VarHandle" ∧ (parseMethodDescriptor yX0_bringBack.desc).map (fun d => d.parameters.length) = some 0 := by decide +kernel
def rmX0_count : Room := { frames := 0, cells := 0, slots := 0, locals := 0 }
def wzX0_count : List Cond := .code yX0_count cX0_count 2 (some .long) :: wsL_law
theorem hinX0_count_X00 : ∀ w ∈ wsX00, w ∈ wzX0_count := fun w h => List.mem_cons_of_mem _ (inlX0 w h)
def fX0_count_20  (σ : zSt) (s0 : Int64) : Option (zSt × Int64) :=
  some (σ, s0)
def fX0_count_19  (σ : zSt)  : Option (zSt × Int64) :=
  fX0_count_20 σ 0
def fX0_count  (σ : zSt) (x1 : Int32) : Option (zSt × Int64) :=
  if x1 < 0 then fX0_count_19 σ else
  if 7 ≤ x1 then fX0_count_19 σ else
  zck (zin x1 7) (
  fX0_count_20 σ (zgl σ 38 x1.toNatClampNeg))
set_option maxRecDepth 20000 in
set_option maxHeartbeats 4000000 in
theorem bX0_count_20 {st : Nat → Nat} {p : Program} {l : Launch} {e : Env} {s : State} {m : MethodId} {args : Array Value} {below : List Frame} {meth : Method} {c : Code} {D : va_G} {A : Nat → Prop} {ad : Nat → Nat} {cy : Nat → ClassId} (hC : zC p m c cX0_count 2 s args wzX0_count RX0 meth (some .long))  {res : zSt × Int64} {H : Heap} {locs : List Loc} {σ : zSt} {ls : Array Slot} {s0 : Int64} (hI : zI st D (tC cy) (wC ad cy σ) A s H locs) (hl : lv_has ls 2 []) (hf : fX0_count_20  σ s0 = some res) : W p l e rmX0_count s m args below meth c H locs 0 0 (zQl below args s D (tC cy) (wC ad cy) A res) (F0 m 20 ls [.long s0]) := by
  have hx := hC.1
  have hb := hC.2.1
  unfold fX0_count_20 at hf
  exact z_lreturn hC hI hf dX0_count_20
set_option maxRecDepth 20000 in
set_option maxHeartbeats 4000000 in
theorem bX0_count_19 {st : Nat → Nat} {p : Program} {l : Launch} {e : Env} {s : State} {m : MethodId} {args : Array Value} {below : List Frame} {meth : Method} {c : Code} {D : va_G} {A : Nat → Prop} {ad : Nat → Nat} {cy : Nat → ClassId} (hC : zC p m c cX0_count 2 s args wzX0_count RX0 meth (some .long))  {res : zSt × Int64} {H : Heap} {locs : List Loc} {σ : zSt} {ls : Array Slot}  (hI : zI st D (tC cy) (wC ad cy σ) A s H locs) (hl : lv_has ls 2 []) (hf : fX0_count_19  σ  = some res) : W p l e rmX0_count s m args below meth c H locs 0 0 (zQl below args s D (tC cy) (wC ad cy) A res) (F0 m 19 ls []) := by
  have hx := hC.1
  have hb := hC.2.1
  unfold fX0_count_19 at hf
  refine lv_lconst (v := 0) hx hb dX0_count_19 (by decide) ?_
  exact bX0_count_20 hC  hI hl hf
set_option maxRecDepth 20000 in
set_option maxHeartbeats 4000000 in
theorem bX0_count {st : Nat → Nat} {p : Program} {l : Launch} {e : Env} {s : State} {m : MethodId} {args : Array Value} {below : List Frame} {meth : Method} {c : Code} {D : va_G} {A : Nat → Prop} {ad : Nat → Nat} {cy : Nat → ClassId} (hC : zC p m c cX0_count 2 s args wzX0_count RX0 meth (some .long))  {res : zSt × Int64} {H : Heap} {locs : List Loc} {σ : zSt} {ls : Array Slot} {x1 : Int32} (hI : zI st D (tC cy) (wC ad cy σ) A s H locs) (hl : lv_has ls 2 [(0, .ref (ad 8)), (1, .int x1)]) (hf : fX0_count  σ x1 = some res) : W p l e rmX0_count s m args below meth c H locs 0 0 (zQl below args s D (tC cy) (wC ad cy) A res) (F0 m 0 ls []) := by
  have hx := hC.1
  have hb := hC.2.1
  unfold fX0_count at hf
  refine lv_iload_n hx hb dX0_count_0 rfl (lv_at hl 1 rfl) ?_
  refine lv_if_lt (tgt := 19) hx hb dX0_count_1 (by decide) (fun q => ?_) (fun q => ?_)
  · replace hf := zif_t q hf
    exact bX0_count_19 hC  hI (lv_sub hl [] rfl) hf
  replace hf := zif_f q hf
  refine lv_iload_n hx hb dX0_count_4 rfl (lv_at hl 1 rfl) ?_
  refine lv_bipush (v := 7) hx hb dX0_count_5 (by decide) ?_
  refine lv_icmp_ge (tgt := 19) hx hb dX0_count_7 (by decide) (fun q => ?_) (fun q => ?_)
  · replace hf := zif_t q hf
    exact bX0_count_19 hC  hI (lv_sub hl [] rfl) hf
  replace hf := zif_f q hf
  refine lv_aload_n hx hb dX0_count_10 rfl (lv_at hl 0 rfl) ?_
  refine z_get hC hI hinX0_count_X00 8 (wC_e8 ad cy σ) rfl 4 (by decide) (List.mem_cons_of_mem _ zw7_20) rfl dX0_count_11 ?_
  refine lv_iload_n hx hb dX0_count_14 rfl (lv_at hl 1 rfl) ?_
  obtain ⟨q, hf⟩ := zck_use hf
  refine z_lald hC hI 38 25 (wC_e38 ad cy σ) (tC_t38 cy) q dX0_count_15 ?_
  refine lv_goto (tgt := 20) hx hb dX0_count_16 (by decide) ?_
  exact bX0_count_20 hC  hI (lv_sub hl [] rfl) hf
set_option maxRecDepth 20000 in
theorem cX0_count_met (st : Nat → Nat) (l : Launch) (D : va_G) (ad : Nat → Nat) (cy : Nat → ClassId) (σ : zSt) (x1 : Int32) (res : zSt × Int64) (hf : fX0_count σ x1 = some res) (sz : Nat) : zMl st l yX0_count wzX0_count rmX0_count [.ref (ad 8), .int x1] D (tC cy) (wC ad cy) sz σ res :=
  zMl.of (cc := cX0_count) (maxL := 2) (ret := (some .long)) (by decide) rfl (Nat.le_of_ble_eq_true rfl) (fun p e s m args below meth c hC A hI ls hl => bX0_count hC hI hl hf)
theorem hdX0_count : yX0_count.cls = RX0 ∧ yX0_count.cls ≠ "java/lang/invoke/MethodHandle" ∧ yX0_count.cls ≠ "java/lang/invoke/VarHandle" ∧ (parseMethodDescriptor yX0_count.desc).map (fun d => d.parameters.length) = some 1 := by decide +kernel
def rmX0_countPicture : Room := { frames := 0, cells := 0, slots := 0, locals := 0 }
def wzX0_countPicture : List Cond := .code yX0_countPicture cX0_countPicture 1 none :: wsL_law
theorem hinX0_countPicture_X00 : ∀ w ∈ wsX00, w ∈ wzX0_countPicture := fun w h => List.mem_cons_of_mem _ (inlX0 w h)
def fX0_countPicture  (σ : zSt)  : Option (zSt) :=
  zck (zin 2 7) (
  zck (zin 2 7) (zbv (zsl σ 38 ((2 : Int32).toNatClampNeg) ((zgl σ 38 (2 : Int32).toNatClampNeg) + 1)) (fun σ1 =>
  some σ1)))
set_option maxRecDepth 20000 in
set_option maxHeartbeats 4000000 in
theorem bX0_countPicture {st : Nat → Nat} {p : Program} {l : Launch} {e : Env} {s : State} {m : MethodId} {args : Array Value} {below : List Frame} {meth : Method} {c : Code} {D : va_G} {A : Nat → Prop} {ad : Nat → Nat} {cy : Nat → ClassId} (hC : zC p m c cX0_countPicture 1 s args wzX0_countPicture RX0 meth none)  {res : zSt} {H : Heap} {locs : List Loc} {σ : zSt} {ls : Array Slot}  (hI : zI st D (tC cy) (wC ad cy σ) A s H locs) (hl : lv_has ls 1 [(0, .ref (ad 8))]) (hf : fX0_countPicture  σ  = some res) : W p l e rmX0_countPicture s m args below meth c H locs 0 0 (zQu below args s D (tC cy) (wC ad cy) A res) (F0 m 0 ls []) := by
  have hx := hC.1
  have hb := hC.2.1
  unfold fX0_countPicture at hf
  refine lv_aload_n hx hb dX0_countPicture_0 rfl (lv_at hl 0 rfl) ?_
  refine z_get hC hI hinX0_countPicture_X00 8 (wC_e8 ad cy σ) rfl 4 (by decide) (List.mem_cons_of_mem _ zw7_20) rfl dX0_countPicture_1 ?_
  refine lv_iconst (v := 2) hx hb dX0_countPicture_4 (by decide) ?_
  refine lv_dup2_11 hx hb dX0_countPicture_5 rfl rfl ?_
  obtain ⟨q, hf⟩ := zck_use hf
  refine z_lald hC hI 38 25 (wC_e38 ad cy σ) (tC_t38 cy) q dX0_countPicture_6 ?_
  refine lv_lconst (v := 1) hx hb dX0_countPicture_7 (by decide) ?_
  refine lv_ladd hx hb dX0_countPicture_8 ?_
  obtain ⟨q, hf⟩ := zck_use hf
  obtain ⟨σ1, eσ1⟩ : ∃ z, z = zsl σ 38 ((2 : Int32).toNatClampNeg) ((zgl σ 38 (2 : Int32).toNatClampNeg) + 1) := ⟨_, rfl⟩
  replace hf := zbv_use eσ1 hf
  refine z_last hC hI 38 25 (wC_e38 ad cy σ) (tC_t38 cy) q ((wC_s38 ad cy σ _ _).trans (congrArg (wC ad cy) eσ1.symm)) dX0_countPicture_9 (fun H locs hI => ?_)
  exact z_return hC hI hf dX0_countPicture_10
set_option maxRecDepth 20000 in
theorem cX0_countPicture_met (st : Nat → Nat) (l : Launch) (D : va_G) (ad : Nat → Nat) (cy : Nat → ClassId) (σ : zSt)  (res : zSt) (hf : fX0_countPicture σ  = some res) (sz : Nat) : zMu st l yX0_countPicture wzX0_countPicture rmX0_countPicture [.ref (ad 8)] D (tC cy) (wC ad cy) sz σ res :=
  zMu.of (cc := cX0_countPicture) (maxL := 1) (ret := none) (by decide) rfl (Nat.le_of_ble_eq_true rfl) (fun p e s m args below meth c hC A hI ls hl => bX0_countPicture hC hI hl hf)
theorem hdX0_countPicture : yX0_countPicture.cls = RX0 ∧ yX0_countPicture.cls ≠ "java/lang/invoke/MethodHandle" ∧ yX0_countPicture.cls ≠ "java/lang/invoke/VarHandle" ∧ (parseMethodDescriptor yX0_countPicture.desc).map (fun d => d.parameters.length) = some 0 := by decide +kernel
def rmX7_moveTone : Room := { frames := 1, cells := 0, slots := 0, locals := 21 }
def wzX7_moveTone : List Cond := .code yX7_moveTone cX7_moveTone 3 none :: wsL_law
theorem hinX7_moveTone_X70 : ∀ w ∈ wsX70, w ∈ wzX7_moveTone := fun w h => List.mem_cons_of_mem _ (inlX7 w h)
def fX7_moveTone_57  (σ : zSt) (x1 : Int32) (x2 : Int32) : Option (zSt) :=
  zck (zin (3 + x1) 19) (zbv (zsi σ 30 ((3 + x1).toNatClampNeg) x2) (fun σ1 =>
  some σ1))
def fX7_moveTone_56  (σ : zSt) (x1 : Int32) (x2 : Int32) (s0 : Int32) (s1 : Int32) : Option (zSt) :=
  zck (zin s1 19) (zbv (zsi σ 30 (s1.toNatClampNeg) s0) (fun σ2 =>
  fX7_moveTone_57 σ2 x1 x2))
def fX7_moveTone  (σ : zSt) (x1 : Int32) : Option (zSt) :=
  zck (zin (3 + x1) 19) (
  zbv (zmax 0 ((zgi σ 30 (3 + x1).toNatClampNeg) - 1)) (fun v3 =>
  if v3 = 0 then zck (zin (0 + x1) 19) (
  zbv (zgi σ 30 (0 + x1).toNatClampNeg) (fun v4 =>
  if 1 < v4 then zck (zin (6 + x1) 19) (
  fX7_moveTone_56 σ x1 v4 ((zgi σ 30 (6 + x1).toNatClampNeg) ^^^ 1) (6 + x1)) else
  fX7_moveTone_56 σ x1 v4 1 (6 + x1))) else
  fX7_moveTone_57 σ x1 v3))
set_option maxRecDepth 20000 in
set_option maxHeartbeats 4000000 in
theorem bX7_moveTone_57 {st : Nat → Nat} {p : Program} {l : Launch} {e : Env} {s : State} {m : MethodId} {args : Array Value} {below : List Frame} {meth : Method} {c : Code} {D : va_G} {A : Nat → Prop} {ad : Nat → Nat} {cy : Nat → ClassId} (hC : zC p m c cX7_moveTone 3 s args wzX7_moveTone RX7 meth none)  {res : zSt} {H : Heap} {locs : List Loc} {σ : zSt} {ls : Array Slot} {x1 : Int32} {x2 : Int32} (hI : zI st D (tC cy) (wC ad cy σ) A s H locs) (hl : lv_has ls 3 [(0, .ref (ad 4)), (1, .int x1), (2, .int x2)]) (hf : fX7_moveTone_57  σ x1 x2 = some res) : W p l e rmX7_moveTone s m args below meth c H locs 0 0 (zQu below args s D (tC cy) (wC ad cy) A res) (F0 m 57 ls []) := by
  have hx := hC.1
  have hb := hC.2.1
  unfold fX7_moveTone_57 at hf
  refine lv_aload_n hx hb dX7_moveTone_57 rfl (lv_at hl 0 rfl) ?_
  refine z_get hC hI hinX7_moveTone_X70 4 (wC_e4 ad cy σ) rfl 0 (by decide) (List.mem_cons_of_mem _ zw5_4) rfl dX7_moveTone_58 ?_
  refine lv_iconst (v := 3) hx hb dX7_moveTone_61 (by decide) ?_
  refine lv_iload_n hx hb dX7_moveTone_62 rfl (lv_at hl 1 rfl) ?_
  refine lv_iadd hx hb dX7_moveTone_63 ?_
  refine lv_iload_n hx hb dX7_moveTone_64 rfl (lv_at hl 2 rfl) ?_
  obtain ⟨q, hf⟩ := zck_use hf
  obtain ⟨σ1, eσ1⟩ : ∃ z, z = zsi σ 30 ((3 + x1).toNatClampNeg) x2 := ⟨_, rfl⟩
  replace hf := zbv_use eσ1 hf
  refine z_iast hC hI 30 17 (wC_e30 ad cy σ) (tC_t30 cy) q ((wC_s30 ad cy σ _ _).trans (congrArg (wC ad cy) eσ1.symm)) dX7_moveTone_65 (fun H locs hI => ?_)
  exact z_return hC hI hf dX7_moveTone_66
set_option maxRecDepth 20000 in
set_option maxHeartbeats 4000000 in
theorem bX7_moveTone_56 {st : Nat → Nat} {p : Program} {l : Launch} {e : Env} {s : State} {m : MethodId} {args : Array Value} {below : List Frame} {meth : Method} {c : Code} {D : va_G} {A : Nat → Prop} {ad : Nat → Nat} {cy : Nat → ClassId} (hC : zC p m c cX7_moveTone 3 s args wzX7_moveTone RX7 meth none)  {res : zSt} {H : Heap} {locs : List Loc} {σ : zSt} {ls : Array Slot} {x1 : Int32} {x2 : Int32} {s0 : Int32} {s1 : Int32} (hI : zI st D (tC cy) (wC ad cy σ) A s H locs) (hl : lv_has ls 3 [(0, .ref (ad 4)), (1, .int x1), (2, .int x2)]) (hf : fX7_moveTone_56  σ x1 x2 s0 s1 = some res) : W p l e rmX7_moveTone s m args below meth c H locs 0 0 (zQu below args s D (tC cy) (wC ad cy) A res) (F0 m 56 ls [.int s0, .int s1, .ref (ad 30)]) := by
  have hx := hC.1
  have hb := hC.2.1
  unfold fX7_moveTone_56 at hf
  obtain ⟨q, hf⟩ := zck_use hf
  obtain ⟨σ2, eσ2⟩ : ∃ z, z = zsi σ 30 (s1.toNatClampNeg) s0 := ⟨_, rfl⟩
  replace hf := zbv_use eσ2 hf
  refine z_iast hC hI 30 17 (wC_e30 ad cy σ) (tC_t30 cy) q ((wC_s30 ad cy σ _ _).trans (congrArg (wC ad cy) eσ2.symm)) dX7_moveTone_56 (fun H locs hI => ?_)
  exact bX7_moveTone_57 hC  hI hl hf
set_option maxRecDepth 20000 in
set_option maxHeartbeats 4000000 in
theorem bX7_moveTone {st : Nat → Nat} {p : Program} {l : Launch} {e : Env} {s : State} {m : MethodId} {args : Array Value} {below : List Frame} {meth : Method} {c : Code} {D : va_G} {A : Nat → Prop} {ad : Nat → Nat} {cy : Nat → ClassId} (hC : zC p m c cX7_moveTone 3 s args wzX7_moveTone RX7 meth none)  {res : zSt} {H : Heap} {locs : List Loc} {σ : zSt} {ls : Array Slot} {x1 : Int32} (hI : zI st D (tC cy) (wC ad cy σ) A s H locs) (hl : lv_has ls 3 [(0, .ref (ad 4)), (1, .int x1)]) (hf : fX7_moveTone  σ x1 = some res) : W p l e rmX7_moveTone s m args below meth c H locs 0 0 (zQu below args s D (tC cy) (wC ad cy) A res) (F0 m 0 ls []) := by
  have hx := hC.1
  have hb := hC.2.1
  unfold fX7_moveTone at hf
  refine lv_iconst (v := 0) hx hb dX7_moveTone_0 (by decide) ?_
  refine lv_aload_n hx hb dX7_moveTone_1 rfl (lv_at hl 0 rfl) ?_
  refine z_get hC hI hinX7_moveTone_X70 4 (wC_e4 ad cy σ) rfl 0 (by decide) (List.mem_cons_of_mem _ zw5_4) rfl dX7_moveTone_2 ?_
  refine lv_iconst (v := 3) hx hb dX7_moveTone_5 (by decide) ?_
  refine lv_iload_n hx hb dX7_moveTone_6 rfl (lv_at hl 1 rfl) ?_
  refine lv_iadd hx hb dX7_moveTone_7 ?_
  obtain ⟨q, hf⟩ := zck_use hf
  refine z_iald hC hI 30 17 (wC_e30 ad cy σ) (tC_t30 cy) q dX7_moveTone_8 ?_
  refine lv_iconst (v := 1) hx hb dX7_moveTone_9 (by decide) ?_
  refine lv_isub hx hb dX7_moveTone_10 ?_
  refine z_mmax hC (List.mem_cons_of_mem _ zw41_13) (List.mem_cons_of_mem _ zw12_18) (List.mem_cons_of_mem _ zw12_15) (List.mem_cons_of_mem _ zw12_19) hl (Nat.le_of_ble_eq_true rfl) (Nat.le_of_ble_eq_true rfl) ⟨Nat.zero_le _, Nat.zero_le _⟩ dX7_moveTone_11 ?_
  refine lv_topi (fun v3 ev3 => ?_)
  replace hf := zbv_use ev3 hf
  refine lv_istore_n (lv' := [(2, .int v3), (0, .ref (ad 4)), (1, .int x1)]) hx hb dX7_moveTone_14 rfl hl (by decide) rfl (fun ls hl => ?_)
  refine lv_iload_n hx hb dX7_moveTone_15 rfl (lv_at hl 0 rfl) ?_
  refine lv_if_ne (tgt := 57) hx hb dX7_moveTone_16 (by decide) (fun q => ?_) (fun q => ?_)
  · replace hf := zif_f q hf
    exact bX7_moveTone_57 hC  hI (lv_sub hl [1, 2, 0] rfl) hf
  replace hf := zif_t q hf
  refine lv_aload_n hx hb dX7_moveTone_19 rfl (lv_at hl 1 rfl) ?_
  refine z_get hC hI hinX7_moveTone_X70 4 (wC_e4 ad cy σ) rfl 0 (by decide) (List.mem_cons_of_mem _ zw5_4) rfl dX7_moveTone_20 ?_
  refine lv_iconst (v := 0) hx hb dX7_moveTone_23 (by decide) ?_
  refine lv_iload_n hx hb dX7_moveTone_24 rfl (lv_at hl 2 rfl) ?_
  refine lv_iadd hx hb dX7_moveTone_25 ?_
  obtain ⟨q, hf⟩ := zck_use hf
  refine z_iald hC hI 30 17 (wC_e30 ad cy σ) (tC_t30 cy) q dX7_moveTone_26 ?_
  refine lv_topi (fun v4 ev4 => ?_)
  replace hf := zbv_use ev4 hf
  refine lv_istore_n (lv' := [(2, .int v4), (0, .ref (ad 4)), (1, .int x1)]) hx hb dX7_moveTone_27 rfl hl (by decide) rfl (fun ls hl => ?_)
  refine lv_aload_n hx hb dX7_moveTone_28 rfl (lv_at hl 1 rfl) ?_
  refine z_get hC hI hinX7_moveTone_X70 4 (wC_e4 ad cy σ) rfl 0 (by decide) (List.mem_cons_of_mem _ zw5_4) rfl dX7_moveTone_29 ?_
  refine lv_bipush (v := 6) hx hb dX7_moveTone_32 (by decide) ?_
  refine lv_iload_n hx hb dX7_moveTone_34 rfl (lv_at hl 2 rfl) ?_
  refine lv_iadd hx hb dX7_moveTone_35 ?_
  refine lv_iload_n hx hb dX7_moveTone_36 rfl (lv_at hl 0 rfl) ?_
  refine lv_iconst (v := 1) hx hb dX7_moveTone_37 (by decide) ?_
  refine lv_icmp_gt (tgt := 45) hx hb dX7_moveTone_38 (by decide) (fun q => ?_) (fun q => ?_)
  · replace hf := zif_t q hf
    refine lv_aload_n hx hb dX7_moveTone_45 rfl (lv_at hl 1 rfl) ?_
    refine z_get hC hI hinX7_moveTone_X70 4 (wC_e4 ad cy σ) rfl 0 (by decide) (List.mem_cons_of_mem _ zw5_4) rfl dX7_moveTone_46 ?_
    refine lv_bipush (v := 6) hx hb dX7_moveTone_49 (by decide) ?_
    refine lv_iload_n hx hb dX7_moveTone_51 rfl (lv_at hl 2 rfl) ?_
    refine lv_iadd hx hb dX7_moveTone_52 ?_
    obtain ⟨q, hf⟩ := zck_use hf
    refine z_iald hC hI 30 17 (wC_e30 ad cy σ) (tC_t30 cy) q dX7_moveTone_53 ?_
    refine lv_iconst (v := 1) hx hb dX7_moveTone_54 (by decide) ?_
    refine lv_ixor hx hb dX7_moveTone_55 ?_
    exact bX7_moveTone_56 hC  hI (lv_sub hl [1, 2, 0] rfl) hf
  replace hf := zif_f q hf
  refine lv_iconst (v := 1) hx hb dX7_moveTone_41 (by decide) ?_
  refine lv_goto (tgt := 56) hx hb dX7_moveTone_42 (by decide) ?_
  exact bX7_moveTone_56 hC  hI (lv_sub hl [1, 2, 0] rfl) hf
set_option maxRecDepth 20000 in
theorem cX7_moveTone_met (st : Nat → Nat) (l : Launch) (D : va_G) (ad : Nat → Nat) (cy : Nat → ClassId) (σ : zSt) (x1 : Int32) (res : zSt) (hf : fX7_moveTone σ x1 = some res) (sz : Nat) : zMu st l yX7_moveTone wzX7_moveTone rmX7_moveTone [.ref (ad 4), .int x1] D (tC cy) (wC ad cy) sz σ res :=
  zMu.of (cc := cX7_moveTone) (maxL := 3) (ret := none) (by decide) rfl (Nat.le_of_ble_eq_true rfl) (fun p e s m args below meth c hC A hI ls hl => bX7_moveTone hC hI hl hf)
theorem hdX7_moveTone : yX7_moveTone.cls = RX7 ∧ yX7_moveTone.cls ≠ "java/lang/invoke/MethodHandle" ∧ yX7_moveTone.cls ≠ "java/lang/invoke/VarHandle" ∧ (parseMethodDescriptor yX7_moveTone.desc).map (fun d => d.parameters.length) = some 1 := by decide +kernel
def rmX7_moveNoise : Room := { frames := 1, cells := 0, slots := 0, locals := 21 }
def wzX7_moveNoise : List Cond := .code yX7_moveNoise cX7_moveNoise 4 none :: wsL_law
theorem hinX7_moveNoise_X70 : ∀ w ∈ wsX70, w ∈ wzX7_moveNoise := fun w h => List.mem_cons_of_mem _ (inlX7 w h)
def fX7_moveNoise_136  (σ : zSt)  : Option (zSt) :=
  some σ
def fX7_moveNoise_120  (σ : zSt) (x2 : Int32) (s0 : Int32) : Option (zSt) :=
  zck (zin 16 19) (zbv (zsi σ 30 ((16 : Int32).toNatClampNeg) ((x2 >>> ((1 : Int32) &&& 31)) ||| (s0 <<< ((15 : Int32) &&& 31)))) (fun σ1 =>
  fX7_moveNoise_136 σ1))
def fX7_moveNoise_65  (σ : zSt) (s0 : Int32) (s1 : Int32) : Option (zSt) :=
  zck (zin s1 19) (zbv (zsi σ 30 (s1.toNatClampNeg) s0) (fun σ2 =>
  zck (zin 15 19) (
  zck (zin 15 19) (zbv (zsi σ2 30 ((15 : Int32).toNatClampNeg) ((zgi σ2 30 (15 : Int32).toNatClampNeg) ^^^ 1)) (fun σ3 =>
  zck (zin 15 19) (
  if (zgi σ3 30 (15 : Int32).toNatClampNeg) = 1 then zck (zin 16 19) (
  zbv (zgi σ3 30 (16 : Int32).toNatClampNeg) (fun v4 =>
  zck (zin 13 19) (
  if 4 ≤ (zgi σ3 30 (13 : Int32).toNatClampNeg) then fX7_moveNoise_120 σ3 v4 ((v4 ^^^ (v4 >>> ((3 : Int32) &&& 31))) &&& 1) else
  fX7_moveNoise_120 σ3 v4 (v4 &&& 1)))) else
  fX7_moveNoise_136 σ3))))))
def fX7_moveNoise  (σ : zSt)  : Option (zSt) :=
  zck (zin 14 19) (
  zck (zin 14 19) (zbv (zsi σ 30 ((14 : Int32).toNatClampNeg) (zmax 0 ((zgi σ 30 (14 : Int32).toNatClampNeg) - 1))) (fun σ5 =>
  zck (zin 14 19) (
  if (zgi σ5 30 (14 : Int32).toNatClampNeg) ≤ 0 then zck (zin 13 19) (
  zbv ((zgi σ5 30 (13 : Int32).toNatClampNeg) &&& 3) (fun v6 =>
  if v6 = 3 then zck (zin 2 19) (
  fX7_moveNoise_65 σ5 (zgi σ5 30 (2 : Int32).toNatClampNeg) 14) else
  fX7_moveNoise_65 σ5 (16 <<< (v6 &&& 31)) 14)) else
  some σ5))))
set_option maxRecDepth 20000 in
set_option maxHeartbeats 4000000 in
theorem bX7_moveNoise_136 {st : Nat → Nat} {p : Program} {l : Launch} {e : Env} {s : State} {m : MethodId} {args : Array Value} {below : List Frame} {meth : Method} {c : Code} {D : va_G} {A : Nat → Prop} {ad : Nat → Nat} {cy : Nat → ClassId} (hC : zC p m c cX7_moveNoise 4 s args wzX7_moveNoise RX7 meth none)  {res : zSt} {H : Heap} {locs : List Loc} {σ : zSt} {ls : Array Slot}  (hI : zI st D (tC cy) (wC ad cy σ) A s H locs) (hl : lv_has ls 4 []) (hf : fX7_moveNoise_136  σ  = some res) : W p l e rmX7_moveNoise s m args below meth c H locs 0 0 (zQu below args s D (tC cy) (wC ad cy) A res) (F0 m 136 ls []) := by
  have hx := hC.1
  have hb := hC.2.1
  unfold fX7_moveNoise_136 at hf
  exact z_return hC hI hf dX7_moveNoise_136
set_option maxRecDepth 20000 in
set_option maxHeartbeats 4000000 in
theorem bX7_moveNoise_120 {st : Nat → Nat} {p : Program} {l : Launch} {e : Env} {s : State} {m : MethodId} {args : Array Value} {below : List Frame} {meth : Method} {c : Code} {D : va_G} {A : Nat → Prop} {ad : Nat → Nat} {cy : Nat → ClassId} (hC : zC p m c cX7_moveNoise 4 s args wzX7_moveNoise RX7 meth none)  {res : zSt} {H : Heap} {locs : List Loc} {σ : zSt} {ls : Array Slot} {x2 : Int32} {s0 : Int32} (hI : zI st D (tC cy) (wC ad cy σ) A s H locs) (hl : lv_has ls 4 [(0, .ref (ad 4)), (2, .int x2)]) (hf : fX7_moveNoise_120  σ x2 s0 = some res) : W p l e rmX7_moveNoise s m args below meth c H locs 0 0 (zQu below args s D (tC cy) (wC ad cy) A res) (F0 m 120 ls [.int s0]) := by
  have hx := hC.1
  have hb := hC.2.1
  unfold fX7_moveNoise_120 at hf
  refine lv_istore_n (lv' := [(3, .int s0), (0, .ref (ad 4)), (2, .int x2)]) hx hb dX7_moveNoise_120 rfl hl (by decide) rfl (fun ls hl => ?_)
  refine lv_aload_n hx hb dX7_moveNoise_121 rfl (lv_at hl 1 rfl) ?_
  refine z_get hC hI hinX7_moveNoise_X70 4 (wC_e4 ad cy σ) rfl 0 (by decide) (List.mem_cons_of_mem _ zw5_4) rfl dX7_moveNoise_122 ?_
  refine lv_bipush (v := 16) hx hb dX7_moveNoise_125 (by decide) ?_
  refine lv_iload_n hx hb dX7_moveNoise_127 rfl (lv_at hl 2 rfl) ?_
  refine lv_iconst (v := 1) hx hb dX7_moveNoise_128 (by decide) ?_
  refine lv_ishr hx hb dX7_moveNoise_129 ?_
  refine lv_iload_n hx hb dX7_moveNoise_130 rfl (lv_at hl 0 rfl) ?_
  refine lv_bipush (v := 15) hx hb dX7_moveNoise_131 (by decide) ?_
  refine lv_ishl hx hb dX7_moveNoise_133 ?_
  refine lv_ior hx hb dX7_moveNoise_134 ?_
  obtain ⟨q, hf⟩ := zck_use hf
  obtain ⟨σ1, eσ1⟩ : ∃ z, z = zsi σ 30 ((16 : Int32).toNatClampNeg) ((x2 >>> ((1 : Int32) &&& 31)) ||| (s0 <<< ((15 : Int32) &&& 31))) := ⟨_, rfl⟩
  replace hf := zbv_use eσ1 hf
  refine z_iast hC hI 30 17 (wC_e30 ad cy σ) (tC_t30 cy) q ((wC_s30 ad cy σ _ _).trans (congrArg (wC ad cy) eσ1.symm)) dX7_moveNoise_135 (fun H locs hI => ?_)
  exact bX7_moveNoise_136 hC  hI (lv_sub hl [] rfl) hf
set_option maxRecDepth 20000 in
set_option maxHeartbeats 4000000 in
theorem bX7_moveNoise_65 {st : Nat → Nat} {p : Program} {l : Launch} {e : Env} {s : State} {m : MethodId} {args : Array Value} {below : List Frame} {meth : Method} {c : Code} {D : va_G} {A : Nat → Prop} {ad : Nat → Nat} {cy : Nat → ClassId} (hC : zC p m c cX7_moveNoise 4 s args wzX7_moveNoise RX7 meth none)  {res : zSt} {H : Heap} {locs : List Loc} {σ : zSt} {ls : Array Slot} {s0 : Int32} {s1 : Int32} (hI : zI st D (tC cy) (wC ad cy σ) A s H locs) (hl : lv_has ls 4 [(0, .ref (ad 4))]) (hf : fX7_moveNoise_65  σ s0 s1 = some res) : W p l e rmX7_moveNoise s m args below meth c H locs 0 0 (zQu below args s D (tC cy) (wC ad cy) A res) (F0 m 65 ls [.int s0, .int s1, .ref (ad 30)]) := by
  have hx := hC.1
  have hb := hC.2.1
  unfold fX7_moveNoise_65 at hf
  obtain ⟨q, hf⟩ := zck_use hf
  obtain ⟨σ2, eσ2⟩ : ∃ z, z = zsi σ 30 (s1.toNatClampNeg) s0 := ⟨_, rfl⟩
  replace hf := zbv_use eσ2 hf
  refine z_iast hC hI 30 17 (wC_e30 ad cy σ) (tC_t30 cy) q ((wC_s30 ad cy σ _ _).trans (congrArg (wC ad cy) eσ2.symm)) dX7_moveNoise_65 (fun H locs hI => ?_)
  refine lv_aload_n hx hb dX7_moveNoise_66 rfl (lv_at hl 0 rfl) ?_
  refine z_get hC hI hinX7_moveNoise_X70 4 (wC_e4 ad cy σ2) rfl 0 (by decide) (List.mem_cons_of_mem _ zw5_4) rfl dX7_moveNoise_67 ?_
  refine lv_bipush (v := 15) hx hb dX7_moveNoise_70 (by decide) ?_
  refine lv_dup2_11 hx hb dX7_moveNoise_72 rfl rfl ?_
  obtain ⟨q, hf⟩ := zck_use hf
  refine z_iald hC hI 30 17 (wC_e30 ad cy σ2) (tC_t30 cy) q dX7_moveNoise_73 ?_
  refine lv_iconst (v := 1) hx hb dX7_moveNoise_74 (by decide) ?_
  refine lv_ixor hx hb dX7_moveNoise_75 ?_
  obtain ⟨q, hf⟩ := zck_use hf
  obtain ⟨σ3, eσ3⟩ : ∃ z, z = zsi σ2 30 ((15 : Int32).toNatClampNeg) ((zgi σ2 30 (15 : Int32).toNatClampNeg) ^^^ 1) := ⟨_, rfl⟩
  replace hf := zbv_use eσ3 hf
  refine z_iast hC hI 30 17 (wC_e30 ad cy σ2) (tC_t30 cy) q ((wC_s30 ad cy σ2 _ _).trans (congrArg (wC ad cy) eσ3.symm)) dX7_moveNoise_76 (fun H locs hI => ?_)
  refine lv_aload_n hx hb dX7_moveNoise_77 rfl (lv_at hl 0 rfl) ?_
  refine z_get hC hI hinX7_moveNoise_X70 4 (wC_e4 ad cy σ3) rfl 0 (by decide) (List.mem_cons_of_mem _ zw5_4) rfl dX7_moveNoise_78 ?_
  refine lv_bipush (v := 15) hx hb dX7_moveNoise_81 (by decide) ?_
  obtain ⟨q, hf⟩ := zck_use hf
  refine z_iald hC hI 30 17 (wC_e30 ad cy σ3) (tC_t30 cy) q dX7_moveNoise_83 ?_
  refine lv_iconst (v := 1) hx hb dX7_moveNoise_84 (by decide) ?_
  refine lv_icmp_ne (tgt := 136) hx hb dX7_moveNoise_85 (by decide) (fun q => ?_) (fun q => ?_)
  · replace hf := zif_f q hf
    exact bX7_moveNoise_136 hC  hI (lv_sub hl [] rfl) hf
  replace hf := zif_t q hf
  refine lv_aload_n hx hb dX7_moveNoise_88 rfl (lv_at hl 0 rfl) ?_
  refine z_get hC hI hinX7_moveNoise_X70 4 (wC_e4 ad cy σ3) rfl 0 (by decide) (List.mem_cons_of_mem _ zw5_4) rfl dX7_moveNoise_89 ?_
  refine lv_bipush (v := 16) hx hb dX7_moveNoise_92 (by decide) ?_
  obtain ⟨q, hf⟩ := zck_use hf
  refine z_iald hC hI 30 17 (wC_e30 ad cy σ3) (tC_t30 cy) q dX7_moveNoise_94 ?_
  refine lv_topi (fun v4 ev4 => ?_)
  replace hf := zbv_use ev4 hf
  refine lv_istore_n (lv' := [(2, .int v4), (0, .ref (ad 4))]) hx hb dX7_moveNoise_95 rfl hl (by decide) rfl (fun ls hl => ?_)
  refine lv_aload_n hx hb dX7_moveNoise_96 rfl (lv_at hl 1 rfl) ?_
  refine z_get hC hI hinX7_moveNoise_X70 4 (wC_e4 ad cy σ3) rfl 0 (by decide) (List.mem_cons_of_mem _ zw5_4) rfl dX7_moveNoise_97 ?_
  refine lv_bipush (v := 13) hx hb dX7_moveNoise_100 (by decide) ?_
  obtain ⟨q, hf⟩ := zck_use hf
  refine z_iald hC hI 30 17 (wC_e30 ad cy σ3) (tC_t30 cy) q dX7_moveNoise_102 ?_
  refine lv_iconst (v := 4) hx hb dX7_moveNoise_103 (by decide) ?_
  refine lv_icmp_ge (tgt := 113) hx hb dX7_moveNoise_104 (by decide) (fun q => ?_) (fun q => ?_)
  · replace hf := zif_t q hf
    refine lv_iload_n hx hb dX7_moveNoise_113 rfl (lv_at hl 0 rfl) ?_
    refine lv_iload_n hx hb dX7_moveNoise_114 rfl (lv_at hl 0 rfl) ?_
    refine lv_iconst (v := 3) hx hb dX7_moveNoise_115 (by decide) ?_
    refine lv_ishr hx hb dX7_moveNoise_116 ?_
    refine lv_ixor hx hb dX7_moveNoise_117 ?_
    refine lv_iconst (v := 1) hx hb dX7_moveNoise_118 (by decide) ?_
    refine lv_iand hx hb dX7_moveNoise_119 ?_
    exact bX7_moveNoise_120 hC  hI (lv_sub hl [1, 0] rfl) hf
  replace hf := zif_f q hf
  refine lv_iload_n hx hb dX7_moveNoise_107 rfl (lv_at hl 0 rfl) ?_
  refine lv_iconst (v := 1) hx hb dX7_moveNoise_108 (by decide) ?_
  refine lv_iand hx hb dX7_moveNoise_109 ?_
  refine lv_goto (tgt := 120) hx hb dX7_moveNoise_110 (by decide) ?_
  exact bX7_moveNoise_120 hC  hI (lv_sub hl [1, 0] rfl) hf
set_option maxRecDepth 20000 in
set_option maxHeartbeats 4000000 in
theorem bX7_moveNoise {st : Nat → Nat} {p : Program} {l : Launch} {e : Env} {s : State} {m : MethodId} {args : Array Value} {below : List Frame} {meth : Method} {c : Code} {D : va_G} {A : Nat → Prop} {ad : Nat → Nat} {cy : Nat → ClassId} (hC : zC p m c cX7_moveNoise 4 s args wzX7_moveNoise RX7 meth none)  {res : zSt} {H : Heap} {locs : List Loc} {σ : zSt} {ls : Array Slot}  (hI : zI st D (tC cy) (wC ad cy σ) A s H locs) (hl : lv_has ls 4 [(0, .ref (ad 4))]) (hf : fX7_moveNoise  σ  = some res) : W p l e rmX7_moveNoise s m args below meth c H locs 0 0 (zQu below args s D (tC cy) (wC ad cy) A res) (F0 m 0 ls []) := by
  have hx := hC.1
  have hb := hC.2.1
  unfold fX7_moveNoise at hf
  refine lv_aload_n hx hb dX7_moveNoise_0 rfl (lv_at hl 0 rfl) ?_
  refine z_get hC hI hinX7_moveNoise_X70 4 (wC_e4 ad cy σ) rfl 0 (by decide) (List.mem_cons_of_mem _ zw5_4) rfl dX7_moveNoise_1 ?_
  refine lv_bipush (v := 14) hx hb dX7_moveNoise_4 (by decide) ?_
  refine lv_iconst (v := 0) hx hb dX7_moveNoise_6 (by decide) ?_
  refine lv_aload_n hx hb dX7_moveNoise_7 rfl (lv_at hl 0 rfl) ?_
  refine z_get hC hI hinX7_moveNoise_X70 4 (wC_e4 ad cy σ) rfl 0 (by decide) (List.mem_cons_of_mem _ zw5_4) rfl dX7_moveNoise_8 ?_
  refine lv_bipush (v := 14) hx hb dX7_moveNoise_11 (by decide) ?_
  obtain ⟨q, hf⟩ := zck_use hf
  refine z_iald hC hI 30 17 (wC_e30 ad cy σ) (tC_t30 cy) q dX7_moveNoise_13 ?_
  refine lv_iconst (v := 1) hx hb dX7_moveNoise_14 (by decide) ?_
  refine lv_isub hx hb dX7_moveNoise_15 ?_
  refine z_mmax hC (List.mem_cons_of_mem _ zw41_13) (List.mem_cons_of_mem _ zw12_18) (List.mem_cons_of_mem _ zw12_15) (List.mem_cons_of_mem _ zw12_19) hl (Nat.le_of_ble_eq_true rfl) (Nat.le_of_ble_eq_true rfl) ⟨Nat.zero_le _, Nat.zero_le _⟩ dX7_moveNoise_16 ?_
  obtain ⟨q, hf⟩ := zck_use hf
  obtain ⟨σ5, eσ5⟩ : ∃ z, z = zsi σ 30 ((14 : Int32).toNatClampNeg) (zmax 0 ((zgi σ 30 (14 : Int32).toNatClampNeg) - 1)) := ⟨_, rfl⟩
  replace hf := zbv_use eσ5 hf
  refine z_iast hC hI 30 17 (wC_e30 ad cy σ) (tC_t30 cy) q ((wC_s30 ad cy σ _ _).trans (congrArg (wC ad cy) eσ5.symm)) dX7_moveNoise_19 (fun H locs hI => ?_)
  refine lv_aload_n hx hb dX7_moveNoise_20 rfl (lv_at hl 0 rfl) ?_
  refine z_get hC hI hinX7_moveNoise_X70 4 (wC_e4 ad cy σ5) rfl 0 (by decide) (List.mem_cons_of_mem _ zw5_4) rfl dX7_moveNoise_21 ?_
  refine lv_bipush (v := 14) hx hb dX7_moveNoise_24 (by decide) ?_
  obtain ⟨q, hf⟩ := zck_use hf
  refine z_iald hC hI 30 17 (wC_e30 ad cy σ5) (tC_t30 cy) q dX7_moveNoise_26 ?_
  refine lv_if_le (tgt := 31) hx hb dX7_moveNoise_27 (by decide) (fun q => ?_) (fun q => ?_)
  · replace hf := zif_t q hf
    refine lv_aload_n hx hb dX7_moveNoise_31 rfl (lv_at hl 0 rfl) ?_
    refine z_get hC hI hinX7_moveNoise_X70 4 (wC_e4 ad cy σ5) rfl 0 (by decide) (List.mem_cons_of_mem _ zw5_4) rfl dX7_moveNoise_32 ?_
    refine lv_bipush (v := 13) hx hb dX7_moveNoise_35 (by decide) ?_
    obtain ⟨q, hf⟩ := zck_use hf
    refine z_iald hC hI 30 17 (wC_e30 ad cy σ5) (tC_t30 cy) q dX7_moveNoise_37 ?_
    refine lv_iconst (v := 3) hx hb dX7_moveNoise_38 (by decide) ?_
    refine lv_iand hx hb dX7_moveNoise_39 ?_
    refine lv_topi (fun v6 ev6 => ?_)
    replace hf := zbv_use ev6 hf
    refine lv_istore_n (lv' := [(1, .int v6), (0, .ref (ad 4))]) hx hb dX7_moveNoise_40 rfl hl (by decide) rfl (fun ls hl => ?_)
    refine lv_aload_n hx hb dX7_moveNoise_41 rfl (lv_at hl 1 rfl) ?_
    refine z_get hC hI hinX7_moveNoise_X70 4 (wC_e4 ad cy σ5) rfl 0 (by decide) (List.mem_cons_of_mem _ zw5_4) rfl dX7_moveNoise_42 ?_
    refine lv_bipush (v := 14) hx hb dX7_moveNoise_45 (by decide) ?_
    refine lv_iload_n hx hb dX7_moveNoise_47 rfl (lv_at hl 0 rfl) ?_
    refine lv_iconst (v := 3) hx hb dX7_moveNoise_48 (by decide) ?_
    refine lv_icmp_ne (tgt := 61) hx hb dX7_moveNoise_49 (by decide) (fun q => ?_) (fun q => ?_)
    · replace hf := zif_f q hf
      refine lv_bipush (v := 16) hx hb dX7_moveNoise_61 (by decide) ?_
      refine lv_iload_n hx hb dX7_moveNoise_63 rfl (lv_at hl 0 rfl) ?_
      refine lv_ishl hx hb dX7_moveNoise_64 ?_
      exact bX7_moveNoise_65 hC  hI (lv_sub hl [1] rfl) hf
    replace hf := zif_t q hf
    refine lv_aload_n hx hb dX7_moveNoise_52 rfl (lv_at hl 1 rfl) ?_
    refine z_get hC hI hinX7_moveNoise_X70 4 (wC_e4 ad cy σ5) rfl 0 (by decide) (List.mem_cons_of_mem _ zw5_4) rfl dX7_moveNoise_53 ?_
    refine lv_iconst (v := 2) hx hb dX7_moveNoise_56 (by decide) ?_
    obtain ⟨q, hf⟩ := zck_use hf
    refine z_iald hC hI 30 17 (wC_e30 ad cy σ5) (tC_t30 cy) q dX7_moveNoise_57 ?_
    refine lv_goto (tgt := 65) hx hb dX7_moveNoise_58 (by decide) ?_
    exact bX7_moveNoise_65 hC  hI (lv_sub hl [1] rfl) hf
  replace hf := zif_f q hf
  exact z_return hC hI hf dX7_moveNoise_30
set_option maxRecDepth 20000 in
theorem cX7_moveNoise_met (st : Nat → Nat) (l : Launch) (D : va_G) (ad : Nat → Nat) (cy : Nat → ClassId) (σ : zSt)  (res : zSt) (hf : fX7_moveNoise σ  = some res) (sz : Nat) : zMu st l yX7_moveNoise wzX7_moveNoise rmX7_moveNoise [.ref (ad 4)] D (tC cy) (wC ad cy) sz σ res :=
  zMu.of (cc := cX7_moveNoise) (maxL := 4) (ret := none) (by decide) rfl (Nat.le_of_ble_eq_true rfl) (fun p e s m args below meth c hC A hI ls hl => bX7_moveNoise hC hI hl hf)
theorem hdX7_moveNoise : yX7_moveNoise.cls = RX7 ∧ yX7_moveNoise.cls ≠ "java/lang/invoke/MethodHandle" ∧ yX7_moveNoise.cls ≠ "java/lang/invoke/VarHandle" ∧ (parseMethodDescriptor yX7_moveNoise.desc).map (fun d => d.parameters.length) = some 0 := by decide +kernel
def rmX7_nextSample : Room := { frames := 2, cells := 0, slots := 0, locals := 44 }
def wzX7_nextSample : List Cond := .code yX7_nextSample cX7_nextSample 6 (some .int) :: wsL_law
theorem hinX7_nextSample_X70 : ∀ w ∈ wsX70, w ∈ wzX7_nextSample := fun w h => List.mem_cons_of_mem _ (inlX7 w h)
def fX7_nextSample_87 (k28 : zSt → Int32 → Int32 → Int32 → Option (zSt × Int32)) (σ : zSt) (x1 : Int32) (x2 : Int32) (x3 : Int32) (s0 : Int32) : Option (zSt × Int32) :=
  zck (zin 18 19) (
  zbv (x1 + ((((zgi σ 30 (18 : Int32).toNatClampNeg) >>> ((x3 + 4) &&& 31)) &&& 1) * s0)) (fun v1 =>
  zck (zin 18 19) (
  zbv (x2 + ((((zgi σ 30 (18 : Int32).toNatClampNeg) >>> (x3 &&& 31)) &&& 1) * s0)) (fun v2 =>
  zbv (x3 + 1) (fun v3 =>
  k28 σ v1 v2 v3)))))
def fX7_nextSample_59 (k28 : zSt → Int32 → Int32 → Int32 → Option (zSt × Int32)) (σ : zSt) (x1 : Int32) (x2 : Int32) (x3 : Int32) (s0 : Int32) : Option (zSt × Int32) :=
  if s0 = 1 then zck (zin (9 + x3) 19) (
  zck (zin ((zgi σ 30 (9 + x3).toNatClampNeg) &&& 15) 16) (
  fX7_nextSample_87 k28 σ x1 x2 x3 (zt4 ((zgi σ 30 (9 + x3).toNatClampNeg) &&& 15).toNatClampNeg))) else
  fX7_nextSample_87 k28 σ x1 x2 x3 0
def fX7_nextSample_28_body (k28 : zSt → Int32 → Int32 → Int32 → Option (zSt × Int32)) (σ : zSt) (x1 : Int32) (x2 : Int32) (x3 : Int32) : Option (zSt × Int32) :=
  if 4 ≤ x3 then some (σ, (x1 <<< ((16 : Int32) &&& 31)) ||| x2) else
  if x3 = 3 then zck (zin 16 19) (
  fX7_nextSample_59 k28 σ x1 x2 x3 ((zgi σ 30 (16 : Int32).toNatClampNeg) &&& 1)) else
  zck (zin (6 + x3) 19) (
  fX7_nextSample_59 k28 σ x1 x2 x3 (zgi σ 30 (6 + x3).toNatClampNeg))
def fX7_nextSample_28  : Nat → zSt → Int32 → Int32 → Int32 → Option (zSt × Int32)
  | 0, _, _, _, _ => none
  | n + 1, σ, x1, x2, x3 => fX7_nextSample_28_body (fX7_nextSample_28  n) σ x1 x2 x3
def fX7_nextSample_2_body (k2 : zSt → Int32 → Option (zSt × Int32)) (σ : zSt) (x1 : Int32) : Option (zSt × Int32) :=
  if 3 ≤ x1 then zbu (fX7_moveNoise σ ) (fun σ4 =>
  fX7_nextSample_28 zfuel σ4 0 0 0) else
  zbu (fX7_moveTone σ x1) (fun σ5 =>
  zbv (x1 + 1) (fun v6 =>
  k2 σ5 v6))
def fX7_nextSample_2  : Nat → zSt → Int32 → Option (zSt × Int32)
  | 0, _, _ => none
  | n + 1, σ, x1 => fX7_nextSample_2_body (fX7_nextSample_2  n) σ x1
def fX7_nextSample  (σ : zSt)  : Option (zSt × Int32) :=
  fX7_nextSample_2 zfuel σ 0
set_option maxRecDepth 20000 in
set_option maxHeartbeats 4000000 in
theorem bX7_nextSample_87 {st : Nat → Nat} {p : Program} {l : Launch} {e : Env} {s : State} {m : MethodId} {args : Array Value} {below : List Frame} {meth : Method} {c : Code} {D : va_G} {A : Nat → Prop} {ad : Nat → Nat} {cy : Nat → ClassId} (hC : zC p m c cX7_nextSample 6 s args wzX7_nextSample RX7 meth (some .int)) {k28 : zSt → Int32 → Int32 → Int32 → Option (zSt × Int32)} {res : zSt × Int32} (hk28 : ∀ (H : Heap) (locs : List Loc) (σ : zSt) (ls : Array Slot) (x1 : Int32) (x2 : Int32) (x3 : Int32), zI st D (tC cy) (wC ad cy σ) A s H locs → lv_has ls 6 [(0, .ref (ad 4)), (1, .int x1), (2, .int x2), (3, .int x3)] → k28 σ x1 x2 x3 = some res → W p l e rmX7_nextSample s m args below meth c H locs 0 0 (zQi below args s D (tC cy) (wC ad cy) A res) (F0 m 28 ls [])) {H : Heap} {locs : List Loc} {σ : zSt} {ls : Array Slot} {x1 : Int32} {x2 : Int32} {x3 : Int32} {s0 : Int32} (hI : zI st D (tC cy) (wC ad cy σ) A s H locs) (hl : lv_has ls 6 [(0, .ref (ad 4)), (1, .int x1), (2, .int x2), (3, .int x3)]) (hf : fX7_nextSample_87 k28 σ x1 x2 x3 s0 = some res) : W p l e rmX7_nextSample s m args below meth c H locs 0 0 (zQi below args s D (tC cy) (wC ad cy) A res) (F0 m 87 ls [.int s0]) := by
  have hx := hC.1
  have hb := hC.2.1
  unfold fX7_nextSample_87 at hf
  refine lv_istore (lv' := [(5, .int s0), (0, .ref (ad 4)), (1, .int x1), (2, .int x2), (3, .int x3)]) hx hb dX7_nextSample_87 hl (by decide) rfl (fun ls hl => ?_)
  refine lv_iload_n hx hb dX7_nextSample_89 rfl (lv_at hl 2 rfl) ?_
  refine lv_aload_n hx hb dX7_nextSample_90 rfl (lv_at hl 1 rfl) ?_
  refine z_get hC hI hinX7_nextSample_X70 4 (wC_e4 ad cy σ) rfl 0 (by decide) (List.mem_cons_of_mem _ zw5_4) rfl dX7_nextSample_91 ?_
  refine lv_bipush (v := 18) hx hb dX7_nextSample_94 (by decide) ?_
  obtain ⟨q, hf⟩ := zck_use hf
  refine z_iald hC hI 30 17 (wC_e30 ad cy σ) (tC_t30 cy) q dX7_nextSample_96 ?_
  refine lv_iload_n hx hb dX7_nextSample_97 rfl (lv_at hl 4 rfl) ?_
  refine lv_iconst (v := 4) hx hb dX7_nextSample_98 (by decide) ?_
  refine lv_iadd hx hb dX7_nextSample_99 ?_
  refine lv_ishr hx hb dX7_nextSample_100 ?_
  refine lv_iconst (v := 1) hx hb dX7_nextSample_101 (by decide) ?_
  refine lv_iand hx hb dX7_nextSample_102 ?_
  refine lv_iload hx hb dX7_nextSample_103 (lv_at hl 0 rfl) ?_
  refine lv_imul hx hb dX7_nextSample_105 ?_
  refine lv_iadd hx hb dX7_nextSample_106 ?_
  refine lv_topi (fun v1 ev1 => ?_)
  replace hf := zbv_use ev1 hf
  refine lv_istore_n (lv' := [(1, .int v1), (5, .int s0), (0, .ref (ad 4)), (2, .int x2), (3, .int x3)]) hx hb dX7_nextSample_107 rfl hl (by decide) rfl (fun ls hl => ?_)
  refine lv_iload_n hx hb dX7_nextSample_108 rfl (lv_at hl 3 rfl) ?_
  refine lv_aload_n hx hb dX7_nextSample_109 rfl (lv_at hl 2 rfl) ?_
  refine z_get hC hI hinX7_nextSample_X70 4 (wC_e4 ad cy σ) rfl 0 (by decide) (List.mem_cons_of_mem _ zw5_4) rfl dX7_nextSample_110 ?_
  refine lv_bipush (v := 18) hx hb dX7_nextSample_113 (by decide) ?_
  obtain ⟨q, hf⟩ := zck_use hf
  refine z_iald hC hI 30 17 (wC_e30 ad cy σ) (tC_t30 cy) q dX7_nextSample_115 ?_
  refine lv_iload_n hx hb dX7_nextSample_116 rfl (lv_at hl 4 rfl) ?_
  refine lv_ishr hx hb dX7_nextSample_117 ?_
  refine lv_iconst (v := 1) hx hb dX7_nextSample_118 (by decide) ?_
  refine lv_iand hx hb dX7_nextSample_119 ?_
  refine lv_iload hx hb dX7_nextSample_120 (lv_at hl 1 rfl) ?_
  refine lv_imul hx hb dX7_nextSample_122 ?_
  refine lv_iadd hx hb dX7_nextSample_123 ?_
  refine lv_topi (fun v2 ev2 => ?_)
  replace hf := zbv_use ev2 hf
  refine lv_istore_n (lv' := [(2, .int v2), (1, .int v1), (5, .int s0), (0, .ref (ad 4)), (3, .int x3)]) hx hb dX7_nextSample_124 rfl hl (by decide) rfl (fun ls hl => ?_)
  obtain ⟨v3, ev3⟩ : ∃ z : Int32, z = x3 + 1 := ⟨_, rfl⟩
  replace hf := zbv_use ev3 hf
  refine lv_iinc (v := v3) (lv' := [(3, .int v3), (2, .int v2), (1, .int v1), (5, .int s0), (0, .ref (ad 4))]) hx hb dX7_nextSample_125 hl (k := 4) rfl (by rw [ev3]; rfl) (by decide) rfl (fun ls hl => ?_)
  refine lv_goto (tgt := 28) hx hb dX7_nextSample_128 (by decide) ?_
  exact hk28 _ _ _ _ _ _ _ hI (lv_sub hl [4, 2, 1, 0] rfl) hf
set_option maxRecDepth 20000 in
set_option maxHeartbeats 4000000 in
theorem bX7_nextSample_59 {st : Nat → Nat} {p : Program} {l : Launch} {e : Env} {s : State} {m : MethodId} {args : Array Value} {below : List Frame} {meth : Method} {c : Code} {D : va_G} {A : Nat → Prop} {ad : Nat → Nat} {cy : Nat → ClassId} (hC : zC p m c cX7_nextSample 6 s args wzX7_nextSample RX7 meth (some .int)) {k28 : zSt → Int32 → Int32 → Int32 → Option (zSt × Int32)} {res : zSt × Int32} (hk28 : ∀ (H : Heap) (locs : List Loc) (σ : zSt) (ls : Array Slot) (x1 : Int32) (x2 : Int32) (x3 : Int32), zI st D (tC cy) (wC ad cy σ) A s H locs → lv_has ls 6 [(0, .ref (ad 4)), (1, .int x1), (2, .int x2), (3, .int x3)] → k28 σ x1 x2 x3 = some res → W p l e rmX7_nextSample s m args below meth c H locs 0 0 (zQi below args s D (tC cy) (wC ad cy) A res) (F0 m 28 ls [])) {H : Heap} {locs : List Loc} {σ : zSt} {ls : Array Slot} {x1 : Int32} {x2 : Int32} {x3 : Int32} {s0 : Int32} (hI : zI st D (tC cy) (wC ad cy σ) A s H locs) (hl : lv_has ls 6 [(0, .ref (ad 4)), (1, .int x1), (2, .int x2), (3, .int x3)]) (hf : fX7_nextSample_59 k28 σ x1 x2 x3 s0 = some res) : W p l e rmX7_nextSample s m args below meth c H locs 0 0 (zQi below args s D (tC cy) (wC ad cy) A res) (F0 m 59 ls [.int s0]) := by
  have hx := hC.1
  have hb := hC.2.1
  unfold fX7_nextSample_59 at hf
  refine lv_istore (lv' := [(4, .int s0), (0, .ref (ad 4)), (1, .int x1), (2, .int x2), (3, .int x3)]) hx hb dX7_nextSample_59 hl (by decide) rfl (fun ls hl => ?_)
  refine lv_iload hx hb dX7_nextSample_61 (lv_at hl 0 rfl) ?_
  refine lv_iconst (v := 1) hx hb dX7_nextSample_63 (by decide) ?_
  refine lv_icmp_ne (tgt := 86) hx hb dX7_nextSample_64 (by decide) (fun q => ?_) (fun q => ?_)
  · replace hf := zif_f q hf
    refine lv_iconst (v := 0) hx hb dX7_nextSample_86 (by decide) ?_
    exact bX7_nextSample_87 hC hk28 hI (lv_sub hl [1, 2, 3, 4] rfl) hf
  replace hf := zif_t q hf
  refine z_gets hC hI 4 (by decide) (List.mem_cons_of_mem _ zw41_8) dX7_nextSample_67 ?_
  refine lv_aload_n hx hb dX7_nextSample_70 rfl (lv_at hl 1 rfl) ?_
  refine z_get hC hI hinX7_nextSample_X70 4 (wC_e4 ad cy σ) rfl 0 (by decide) (List.mem_cons_of_mem _ zw5_4) rfl dX7_nextSample_71 ?_
  refine lv_bipush (v := 9) hx hb dX7_nextSample_74 (by decide) ?_
  refine lv_iload_n hx hb dX7_nextSample_76 rfl (lv_at hl 4 rfl) ?_
  refine lv_iadd hx hb dX7_nextSample_77 ?_
  obtain ⟨q, hf⟩ := zck_use hf
  refine z_iald hC hI 30 17 (wC_e30 ad cy σ) (tC_t30 cy) q dX7_nextSample_78 ?_
  refine lv_bipush (v := 15) hx hb dX7_nextSample_79 (by decide) ?_
  refine lv_iand hx hb dX7_nextSample_81 ?_
  obtain ⟨q, hf⟩ := zck_use hf
  refine z_ti hC hI 4 (by decide) rfl rfl q rfl dX7_nextSample_82 ?_
  refine lv_goto (tgt := 87) hx hb dX7_nextSample_83 (by decide) ?_
  exact bX7_nextSample_87 hC hk28 hI (lv_sub hl [1, 2, 3, 4] rfl) hf
set_option maxRecDepth 20000 in
set_option maxHeartbeats 4000000 in
theorem bX7_nextSample_28_body {st : Nat → Nat} {p : Program} {l : Launch} {e : Env} {s : State} {m : MethodId} {args : Array Value} {below : List Frame} {meth : Method} {c : Code} {D : va_G} {A : Nat → Prop} {ad : Nat → Nat} {cy : Nat → ClassId} (hC : zC p m c cX7_nextSample 6 s args wzX7_nextSample RX7 meth (some .int)) {k28 : zSt → Int32 → Int32 → Int32 → Option (zSt × Int32)} {res : zSt × Int32} (hk28 : ∀ (H : Heap) (locs : List Loc) (σ : zSt) (ls : Array Slot) (x1 : Int32) (x2 : Int32) (x3 : Int32), zI st D (tC cy) (wC ad cy σ) A s H locs → lv_has ls 6 [(0, .ref (ad 4)), (1, .int x1), (2, .int x2), (3, .int x3)] → k28 σ x1 x2 x3 = some res → W p l e rmX7_nextSample s m args below meth c H locs 0 0 (zQi below args s D (tC cy) (wC ad cy) A res) (F0 m 28 ls [])) {H : Heap} {locs : List Loc} {σ : zSt} {ls : Array Slot} {x1 : Int32} {x2 : Int32} {x3 : Int32} (hI : zI st D (tC cy) (wC ad cy σ) A s H locs) (hl : lv_has ls 6 [(0, .ref (ad 4)), (1, .int x1), (2, .int x2), (3, .int x3)]) (hf : fX7_nextSample_28_body k28 σ x1 x2 x3 = some res) : W p l e rmX7_nextSample s m args below meth c H locs 0 0 (zQi below args s D (tC cy) (wC ad cy) A res) (F0 m 28 ls []) := by
  have hx := hC.1
  have hb := hC.2.1
  unfold fX7_nextSample_28_body at hf
  refine lv_iload_n hx hb dX7_nextSample_28 rfl (lv_at hl 3 rfl) ?_
  refine lv_iconst (v := 4) hx hb dX7_nextSample_29 (by decide) ?_
  refine lv_icmp_ge (tgt := 131) hx hb dX7_nextSample_30 (by decide) (fun q => ?_) (fun q => ?_)
  · replace hf := zif_t q hf
    refine lv_iload_n hx hb dX7_nextSample_131 rfl (lv_at hl 1 rfl) ?_
    refine lv_bipush (v := 16) hx hb dX7_nextSample_132 (by decide) ?_
    refine lv_ishl hx hb dX7_nextSample_134 ?_
    refine lv_iload_n hx hb dX7_nextSample_135 rfl (lv_at hl 2 rfl) ?_
    refine lv_ior hx hb dX7_nextSample_136 ?_
    exact z_ireturn hC hI hf dX7_nextSample_137
  replace hf := zif_f q hf
  refine lv_iload_n hx hb dX7_nextSample_33 rfl (lv_at hl 3 rfl) ?_
  refine lv_iconst (v := 3) hx hb dX7_nextSample_34 (by decide) ?_
  refine lv_icmp_ne (tgt := 50) hx hb dX7_nextSample_35 (by decide) (fun q => ?_) (fun q => ?_)
  · replace hf := zif_f q hf
    refine lv_aload_n hx hb dX7_nextSample_50 rfl (lv_at hl 0 rfl) ?_
    refine z_get hC hI hinX7_nextSample_X70 4 (wC_e4 ad cy σ) rfl 0 (by decide) (List.mem_cons_of_mem _ zw5_4) rfl dX7_nextSample_51 ?_
    refine lv_bipush (v := 6) hx hb dX7_nextSample_54 (by decide) ?_
    refine lv_iload_n hx hb dX7_nextSample_56 rfl (lv_at hl 3 rfl) ?_
    refine lv_iadd hx hb dX7_nextSample_57 ?_
    obtain ⟨q, hf⟩ := zck_use hf
    refine z_iald hC hI 30 17 (wC_e30 ad cy σ) (tC_t30 cy) q dX7_nextSample_58 ?_
    exact bX7_nextSample_59 hC hk28 hI hl hf
  replace hf := zif_t q hf
  refine lv_aload_n hx hb dX7_nextSample_38 rfl (lv_at hl 0 rfl) ?_
  refine z_get hC hI hinX7_nextSample_X70 4 (wC_e4 ad cy σ) rfl 0 (by decide) (List.mem_cons_of_mem _ zw5_4) rfl dX7_nextSample_39 ?_
  refine lv_bipush (v := 16) hx hb dX7_nextSample_42 (by decide) ?_
  obtain ⟨q, hf⟩ := zck_use hf
  refine z_iald hC hI 30 17 (wC_e30 ad cy σ) (tC_t30 cy) q dX7_nextSample_44 ?_
  refine lv_iconst (v := 1) hx hb dX7_nextSample_45 (by decide) ?_
  refine lv_iand hx hb dX7_nextSample_46 ?_
  refine lv_goto (tgt := 59) hx hb dX7_nextSample_47 (by decide) ?_
  exact bX7_nextSample_59 hC hk28 hI hl hf
theorem blX7_nextSample_28 {st : Nat → Nat} {p : Program} {l : Launch} {e : Env} {s : State} {m : MethodId} {args : Array Value} {below : List Frame} {meth : Method} {c : Code} {D : va_G} {A : Nat → Prop} {ad : Nat → Nat} {cy : Nat → ClassId} (hC : zC p m c cX7_nextSample 6 s args wzX7_nextSample RX7 meth (some .int))  {res : zSt × Int32} : ∀ (n : Nat) (H : Heap) (locs : List Loc) (σ : zSt) (ls : Array Slot) (x1 : Int32) (x2 : Int32) (x3 : Int32), zI st D (tC cy) (wC ad cy σ) A s H locs → lv_has ls 6 [(0, .ref (ad 4)), (1, .int x1), (2, .int x2), (3, .int x3)] → fX7_nextSample_28  n σ x1 x2 x3 = some res → W p l e rmX7_nextSample s m args below meth c H locs 0 0 (zQi below args s D (tC cy) (wC ad cy) A res) (F0 m 28 ls []) := by
  intro n
  induction n with
  | zero => intro H locs σ ls x1 x2 x3 hI hl hf; cases hf
  | succ n ih => intro H locs σ ls x1 x2 x3 hI hl hf; exact bX7_nextSample_28_body hC ih hI hl hf
set_option maxRecDepth 20000 in
set_option maxHeartbeats 4000000 in
theorem bX7_nextSample_2_body {st : Nat → Nat} {p : Program} {l : Launch} {e : Env} {s : State} {m : MethodId} {args : Array Value} {below : List Frame} {meth : Method} {c : Code} {D : va_G} {A : Nat → Prop} {ad : Nat → Nat} {cy : Nat → ClassId} (hC : zC p m c cX7_nextSample 6 s args wzX7_nextSample RX7 meth (some .int)) {k2 : zSt → Int32 → Option (zSt × Int32)} {res : zSt × Int32} (hk2 : ∀ (H : Heap) (locs : List Loc) (σ : zSt) (ls : Array Slot) (x1 : Int32), zI st D (tC cy) (wC ad cy σ) A s H locs → lv_has ls 6 [(0, .ref (ad 4)), (1, .int x1)] → k2 σ x1 = some res → W p l e rmX7_nextSample s m args below meth c H locs 0 0 (zQi below args s D (tC cy) (wC ad cy) A res) (F0 m 2 ls [])) {H : Heap} {locs : List Loc} {σ : zSt} {ls : Array Slot} {x1 : Int32} (hI : zI st D (tC cy) (wC ad cy σ) A s H locs) (hl : lv_has ls 6 [(0, .ref (ad 4)), (1, .int x1)]) (hf : fX7_nextSample_2_body k2 σ x1 = some res) : W p l e rmX7_nextSample s m args below meth c H locs 0 0 (zQi below args s D (tC cy) (wC ad cy) A res) (F0 m 2 ls []) := by
  have hx := hC.1
  have hb := hC.2.1
  unfold fX7_nextSample_2_body at hf
  refine lv_iload_n hx hb dX7_nextSample_2 rfl (lv_at hl 1 rfl) ?_
  refine lv_iconst (v := 3) hx hb dX7_nextSample_3 (by decide) ?_
  refine lv_icmp_ge (tgt := 18) hx hb dX7_nextSample_4 (by decide) (fun q => ?_) (fun q => ?_)
  · replace hf := zif_t q hf
    refine lv_aload_n hx hb dX7_nextSample_18 rfl (lv_at hl 0 rfl) ?_
    obtain ⟨σ4, g4, hf⟩ := zbu_use hf
    refine z_callVu (As := []) (rest := []) hC hI (cX7_moveNoise_met st l D ad cy σ  _ g4) (zgV zw41_14 zw41_15 zw41_16 zw2_9 zw41_17) rfl ⟨rfl, rfl⟩ 0 hdX7_moveNoise ⟨Nat.le_of_ble_eq_true rfl, Nat.le_of_ble_eq_true rfl⟩ rfl rfl (wC_e4 ad cy σ) rfl hl rfl (Nat.le_of_ble_eq_true rfl) dX7_nextSample_19 ⟨Nat.zero_le _, Nat.zero_le _⟩ (fun H locs hI => ?_)
    refine lv_iconst (v := 0) hx hb dX7_nextSample_22 (by decide) ?_
    refine lv_istore_n (lv' := [(1, .int 0), (0, .ref (ad 4))]) hx hb dX7_nextSample_23 rfl hl (by decide) rfl (fun ls hl => ?_)
    refine lv_iconst (v := 0) hx hb dX7_nextSample_24 (by decide) ?_
    refine lv_istore_n (lv' := [(2, .int 0), (1, .int 0), (0, .ref (ad 4))]) hx hb dX7_nextSample_25 rfl hl (by decide) rfl (fun ls hl => ?_)
    refine lv_iconst (v := 0) hx hb dX7_nextSample_26 (by decide) ?_
    refine lv_istore_n (lv' := [(3, .int 0), (2, .int 0), (1, .int 0), (0, .ref (ad 4))]) hx hb dX7_nextSample_27 rfl hl (by decide) rfl (fun ls hl => ?_)
    exact blX7_nextSample_28 hC  zfuel _ _ _ _ _ _ _ hI (lv_sub hl [3, 2, 1, 0] rfl) hf
  replace hf := zif_f q hf
  refine lv_aload_n hx hb dX7_nextSample_7 rfl (lv_at hl 0 rfl) ?_
  refine lv_iload_n hx hb dX7_nextSample_8 rfl (lv_at hl 1 rfl) ?_
  obtain ⟨σ5, g5, hf⟩ := zbu_use hf
  refine z_callVu (As := [.int x1]) (rest := []) hC hI (cX7_moveTone_met st l D ad cy σ x1 _ g5) (zgV zw41_9 zw41_10 zw41_11 zw2_9 zw41_12) rfl ⟨rfl, rfl⟩ 1 hdX7_moveTone ⟨Nat.le_of_ble_eq_true rfl, Nat.le_of_ble_eq_true rfl⟩ rfl rfl (wC_e4 ad cy σ) rfl hl rfl (Nat.le_of_ble_eq_true rfl) dX7_nextSample_9 ⟨Nat.zero_le _, Nat.zero_le _⟩ (fun H locs hI => ?_)
  obtain ⟨v6, ev6⟩ : ∃ z : Int32, z = x1 + 1 := ⟨_, rfl⟩
  replace hf := zbv_use ev6 hf
  refine lv_iinc (v := v6) (lv' := [(1, .int v6), (0, .ref (ad 4))]) hx hb dX7_nextSample_12 hl (k := 1) rfl (by rw [ev6]; rfl) (by decide) rfl (fun ls hl => ?_)
  refine lv_goto (tgt := 2) hx hb dX7_nextSample_15 (by decide) ?_
  exact hk2 _ _ _ _ _ hI (lv_sub hl [1, 0] rfl) hf
theorem blX7_nextSample_2 {st : Nat → Nat} {p : Program} {l : Launch} {e : Env} {s : State} {m : MethodId} {args : Array Value} {below : List Frame} {meth : Method} {c : Code} {D : va_G} {A : Nat → Prop} {ad : Nat → Nat} {cy : Nat → ClassId} (hC : zC p m c cX7_nextSample 6 s args wzX7_nextSample RX7 meth (some .int))  {res : zSt × Int32} : ∀ (n : Nat) (H : Heap) (locs : List Loc) (σ : zSt) (ls : Array Slot) (x1 : Int32), zI st D (tC cy) (wC ad cy σ) A s H locs → lv_has ls 6 [(0, .ref (ad 4)), (1, .int x1)] → fX7_nextSample_2  n σ x1 = some res → W p l e rmX7_nextSample s m args below meth c H locs 0 0 (zQi below args s D (tC cy) (wC ad cy) A res) (F0 m 2 ls []) := by
  intro n
  induction n with
  | zero => intro H locs σ ls x1 hI hl hf; cases hf
  | succ n ih => intro H locs σ ls x1 hI hl hf; exact bX7_nextSample_2_body hC ih hI hl hf
set_option maxRecDepth 20000 in
set_option maxHeartbeats 4000000 in
theorem bX7_nextSample {st : Nat → Nat} {p : Program} {l : Launch} {e : Env} {s : State} {m : MethodId} {args : Array Value} {below : List Frame} {meth : Method} {c : Code} {D : va_G} {A : Nat → Prop} {ad : Nat → Nat} {cy : Nat → ClassId} (hC : zC p m c cX7_nextSample 6 s args wzX7_nextSample RX7 meth (some .int))  {res : zSt × Int32} {H : Heap} {locs : List Loc} {σ : zSt} {ls : Array Slot}  (hI : zI st D (tC cy) (wC ad cy σ) A s H locs) (hl : lv_has ls 6 [(0, .ref (ad 4))]) (hf : fX7_nextSample  σ  = some res) : W p l e rmX7_nextSample s m args below meth c H locs 0 0 (zQi below args s D (tC cy) (wC ad cy) A res) (F0 m 0 ls []) := by
  have hx := hC.1
  have hb := hC.2.1
  unfold fX7_nextSample at hf
  refine lv_iconst (v := 0) hx hb dX7_nextSample_0 (by decide) ?_
  refine lv_istore_n (lv' := [(1, .int 0), (0, .ref (ad 4))]) hx hb dX7_nextSample_1 rfl hl (by decide) rfl (fun ls hl => ?_)
  exact blX7_nextSample_2 hC  zfuel _ _ _ _ _ hI (lv_sub hl [1, 0] rfl) hf
set_option maxRecDepth 20000 in
theorem cX7_nextSample_met (st : Nat → Nat) (l : Launch) (D : va_G) (ad : Nat → Nat) (cy : Nat → ClassId) (σ : zSt)  (res : zSt × Int32) (hf : fX7_nextSample σ  = some res) (sz : Nat) : zMi st l yX7_nextSample wzX7_nextSample rmX7_nextSample [.ref (ad 4)] D (tC cy) (wC ad cy) sz σ res :=
  zMi.of (cc := cX7_nextSample) (maxL := 6) (ret := (some .int)) (by decide) rfl (Nat.le_of_ble_eq_true rfl) (fun p e s m args below meth c hC A hI ls hl => bX7_nextSample hC hI hl hf)
theorem hdX7_nextSample : yX7_nextSample.cls = RX7 ∧ yX7_nextSample.cls ≠ "java/lang/invoke/MethodHandle" ∧ yX7_nextSample.cls ≠ "java/lang/invoke/VarHandle" ∧ (parseMethodDescriptor yX7_nextSample.desc).map (fun d => d.parameters.length) = some 0 := by decide +kernel
def rmX6_add_k11 : Room := { frames := 0, cells := 0, slots := 0, locals := 0 }
def wzX6_add : List Cond := .code yX6_add cX6_add 3 none :: wsL_law
theorem hinX6_add_k11_X60 : ∀ w ∈ wsX60, w ∈ wzX6_add := fun w h => List.mem_cons_of_mem _ (inlX6 w h)
def fX6_add_k11_56  (σ : zSt)  : Option (zSt) :=
  some σ
def fX6_add_k11  (σ : zSt) (x1 : Int64) : Option (zSt) :=
  zck (zin (((zgi σ 11 2) + (zgi σ 11 3)) &&& 4095) 4096) (zbv (zsl σ 46 ((((zgi σ 11 2) + (zgi σ 11 3)) &&& 4095).toNatClampNeg) x1) (fun σ1 =>
  if 4096 ≤ (zgi σ1 11 3) then zbv (zsi σ1 11 2 (((zgi σ1 11 2) + 1) &&& 4095)) (fun σ2 =>
  fX6_add_k11_56 σ2) else
  zbv (zsi σ1 11 3 ((zgi σ1 11 3) + 1)) (fun σ3 =>
  fX6_add_k11_56 σ3)))
set_option maxRecDepth 20000 in
set_option maxHeartbeats 4000000 in
theorem bX6_add_k11_56 {st : Nat → Nat} {p : Program} {l : Launch} {e : Env} {s : State} {m : MethodId} {args : Array Value} {below : List Frame} {meth : Method} {c : Code} {D : va_G} {A : Nat → Prop} {ad : Nat → Nat} {cy : Nat → ClassId} (hC : zC p m c cX6_add 3 s args wzX6_add RX6 meth none)  {res : zSt} {H : Heap} {locs : List Loc} {σ : zSt} {ls : Array Slot}  (hI : zI st D (tC cy) (wC ad cy σ) A s H locs) (hl : lv_has ls 3 []) (hf : fX6_add_k11_56  σ  = some res) : W p l e rmX6_add_k11 s m args below meth c H locs 0 0 (zQu below args s D (tC cy) (wC ad cy) A res) (F0 m 56 ls []) := by
  have hx := hC.1
  have hb := hC.2.1
  unfold fX6_add_k11_56 at hf
  exact z_return hC hI hf dX6_add_56
set_option maxRecDepth 20000 in
set_option maxHeartbeats 4000000 in
theorem bX6_add_k11 {st : Nat → Nat} {p : Program} {l : Launch} {e : Env} {s : State} {m : MethodId} {args : Array Value} {below : List Frame} {meth : Method} {c : Code} {D : va_G} {A : Nat → Prop} {ad : Nat → Nat} {cy : Nat → ClassId} (hC : zC p m c cX6_add 3 s args wzX6_add RX6 meth none)  {res : zSt} {H : Heap} {locs : List Loc} {σ : zSt} {ls : Array Slot} {x1 : Int64} (hI : zI st D (tC cy) (wC ad cy σ) A s H locs) (hl : lv_has ls 3 [(0, .ref (ad 11)), (1, .long x1)]) (hf : fX6_add_k11  σ x1 = some res) : W p l e rmX6_add_k11 s m args below meth c H locs 0 0 (zQu below args s D (tC cy) (wC ad cy) A res) (F0 m 0 ls []) := by
  have hx := hC.1
  have hb := hC.2.1
  unfold fX6_add_k11 at hf
  refine lv_aload_n hx hb dX6_add_0 rfl (lv_at hl 0 rfl) ?_
  refine z_get hC hI hinX6_add_k11_X60 11 (wC_e11 ad cy σ) rfl 0 (by decide) (List.mem_cons_of_mem _ zw8_3) rfl dX6_add_1 ?_
  refine lv_aload_n hx hb dX6_add_4 rfl (lv_at hl 0 rfl) ?_
  refine z_get hC hI hinX6_add_k11_X60 11 (wC_e11 ad cy σ) rfl 2 (by decide) (List.mem_cons_of_mem _ zw41_22) rfl dX6_add_5 ?_
  refine lv_aload_n hx hb dX6_add_8 rfl (lv_at hl 0 rfl) ?_
  refine z_get hC hI hinX6_add_k11_X60 11 (wC_e11 ad cy σ) rfl 3 (by decide) (List.mem_cons_of_mem _ zw41_23) rfl dX6_add_9 ?_
  refine lv_iadd hx hb dX6_add_12 ?_
  refine lv_sipush (v := 4095) hx hb dX6_add_13 (by decide) ?_
  refine lv_iand hx hb dX6_add_16 ?_
  refine lv_lload_n hx hb dX6_add_17 rfl (lv_at hl 1 rfl) ?_
  obtain ⟨q, hf⟩ := zck_use hf
  obtain ⟨σ1, eσ1⟩ : ∃ z, z = zsl σ 46 ((((zgi σ 11 2) + (zgi σ 11 3)) &&& 4095).toNatClampNeg) x1 := ⟨_, rfl⟩
  replace hf := zbv_use eσ1 hf
  refine z_last hC hI 46 33 (wC_e46 ad cy σ) (tC_t46 cy) q ((wC_s46 ad cy σ _ _).trans (congrArg (wC ad cy) eσ1.symm)) dX6_add_18 (fun H locs hI => ?_)
  refine lv_aload_n hx hb dX6_add_19 rfl (lv_at hl 0 rfl) ?_
  refine z_get hC hI hinX6_add_k11_X60 11 (wC_e11 ad cy σ1) rfl 3 (by decide) (List.mem_cons_of_mem _ zw41_23) rfl dX6_add_20 ?_
  refine lv_sipush (v := 4096) hx hb dX6_add_23 (by decide) ?_
  refine lv_icmp_ge (tgt := 42) hx hb dX6_add_26 (by decide) (fun q => ?_) (fun q => ?_)
  · replace hf := zif_t q hf
    refine lv_aload_n hx hb dX6_add_42 rfl (lv_at hl 0 rfl) ?_
    refine lv_aload_n hx hb dX6_add_43 rfl (lv_at hl 0 rfl) ?_
    refine z_get hC hI hinX6_add_k11_X60 11 (wC_e11 ad cy σ1) rfl 2 (by decide) (List.mem_cons_of_mem _ zw41_22) rfl dX6_add_44 ?_
    refine lv_iconst (v := 1) hx hb dX6_add_47 (by decide) ?_
    refine lv_iadd hx hb dX6_add_48 ?_
    refine lv_sipush (v := 4095) hx hb dX6_add_49 (by decide) ?_
    refine lv_iand hx hb dX6_add_52 ?_
    obtain ⟨σ2, eσ2⟩ : ∃ z, z = zsi σ1 11 2 (((zgi σ1 11 2) + 1) &&& 4095) := ⟨_, rfl⟩
    replace hf := zbv_use eσ2 hf
    refine z_put hC hI hinX6_add_k11_X60 tyX6_ok nmX6 11 (wC_e11 ad cy σ1) rfl 2 (by decide) (List.mem_cons_of_mem _ zw41_22) rfl rfl rfl (Nat.le_of_ble_eq_true rfl) ((wC_s11_2 ad cy σ1 (((zgi σ1 11 2) + 1) &&& 4095)).trans (congrArg (wC ad cy) eσ2.symm)) dX6_add_53 (fun H locs hI => ?_)
    exact bX6_add_k11_56 hC  hI (lv_sub hl [] rfl) hf
  replace hf := zif_f q hf
  refine lv_aload_n hx hb dX6_add_29 rfl (lv_at hl 0 rfl) ?_
  refine lv_dup hx hb dX6_add_30 rfl ?_
  refine z_get hC hI hinX6_add_k11_X60 11 (wC_e11 ad cy σ1) rfl 3 (by decide) (List.mem_cons_of_mem _ zw41_23) rfl dX6_add_31 ?_
  refine lv_iconst (v := 1) hx hb dX6_add_34 (by decide) ?_
  refine lv_iadd hx hb dX6_add_35 ?_
  obtain ⟨σ3, eσ3⟩ : ∃ z, z = zsi σ1 11 3 ((zgi σ1 11 3) + 1) := ⟨_, rfl⟩
  replace hf := zbv_use eσ3 hf
  refine z_put hC hI hinX6_add_k11_X60 tyX6_ok nmX6 11 (wC_e11 ad cy σ1) rfl 3 (by decide) (List.mem_cons_of_mem _ zw41_23) rfl rfl rfl (Nat.le_of_ble_eq_true rfl) ((wC_s11_3 ad cy σ1 ((zgi σ1 11 3) + 1)).trans (congrArg (wC ad cy) eσ3.symm)) dX6_add_36 (fun H locs hI => ?_)
  refine lv_goto (tgt := 56) hx hb dX6_add_39 (by decide) ?_
  exact bX6_add_k11_56 hC  hI (lv_sub hl [] rfl) hf
set_option maxRecDepth 20000 in
theorem cX6_add_k11_met (st : Nat → Nat) (l : Launch) (D : va_G) (ad : Nat → Nat) (cy : Nat → ClassId) (σ : zSt) (x1 : Int64) (res : zSt) (hf : fX6_add_k11 σ x1 = some res) (sz : Nat) : zMu st l yX6_add wzX6_add rmX6_add_k11 [.ref (ad 11), .long x1] D (tC cy) (wC ad cy) sz σ res :=
  zMu.of (cc := cX6_add) (maxL := 3) (ret := none) (by decide) rfl (Nat.le_of_ble_eq_true rfl) (fun p e s m args below meth c hC A hI ls hl => bX6_add_k11 hC hI hl hf)
theorem hdX6_add_k11 : yX6_add.cls = RX6 ∧ yX6_add.cls ≠ "java/lang/invoke/MethodHandle" ∧ yX6_add.cls ≠ "java/lang/invoke/VarHandle" ∧ (parseMethodDescriptor yX6_add.desc).map (fun d => d.parameters.length) = some 1 := by decide +kernel
def rmX0_addSample : Room := { frames := 3, cells := 0, slots := 0, locals := 69 }
def wzX0_addSample : List Cond := .code yX0_addSample cX0_addSample 2 none :: wsL_law
theorem hinX0_addSample_X00 : ∀ w ∈ wsX00, w ∈ wzX0_addSample := fun w h => List.mem_cons_of_mem _ (inlX0 w h)
def fX0_addSample  (σ : zSt)  : Option (zSt) :=
  zbi (fX7_nextSample σ ) (fun σ1 v2 =>
  zbu (fX6_add_k11 σ1 (v2.toInt64)) (fun σ3 =>
  zck (zin 3 7) (
  zck (zin 3 7) (zbv (zsl σ3 38 ((3 : Int32).toNatClampNeg) ((zgl σ3 38 (3 : Int32).toNatClampNeg) + 1)) (fun σ4 =>
  zck (zin 4 7) (
  zck (zin 4 7) (zbv (zsl σ4 38 ((4 : Int32).toNatClampNeg) ((zgl σ4 38 (4 : Int32).toNatClampNeg) + ((v2 >>> ((16 : Int32) &&& 31)).toInt64))) (fun σ5 =>
  zck (zin 5 7) (
  zck (zin 5 7) (zbv (zsl σ5 38 ((5 : Int32).toNatClampNeg) ((zgl σ5 38 (5 : Int32).toNatClampNeg) + ((v2 &&& 65535).toInt64))) (fun σ6 =>
  zck (zin 6 7) (
  zck (zin 6 7) (zbv (zsl σ6 38 ((6 : Int32).toNatClampNeg) ((zgl σ6 38 (6 : Int32).toNatClampNeg) + 1)) (fun σ7 =>
  some σ7))))))))))))))
set_option maxRecDepth 20000 in
set_option maxHeartbeats 4000000 in
theorem bX0_addSample {st : Nat → Nat} {p : Program} {l : Launch} {e : Env} {s : State} {m : MethodId} {args : Array Value} {below : List Frame} {meth : Method} {c : Code} {D : va_G} {A : Nat → Prop} {ad : Nat → Nat} {cy : Nat → ClassId} (hC : zC p m c cX0_addSample 2 s args wzX0_addSample RX0 meth none)  {res : zSt} {H : Heap} {locs : List Loc} {σ : zSt} {ls : Array Slot}  (hI : zI st D (tC cy) (wC ad cy σ) A s H locs) (hl : lv_has ls 2 [(0, .ref (ad 8))]) (hf : fX0_addSample  σ  = some res) : W p l e rmX0_addSample s m args below meth c H locs 0 0 (zQu below args s D (tC cy) (wC ad cy) A res) (F0 m 0 ls []) := by
  have hx := hC.1
  have hb := hC.2.1
  unfold fX0_addSample at hf
  refine lv_aload_n hx hb dX0_addSample_0 rfl (lv_at hl 0 rfl) ?_
  refine z_get hC hI hinX0_addSample_X00 8 (wC_e8 ad cy σ) rfl 0 (by decide) (List.mem_cons_of_mem _ zw7_22) rfl dX0_addSample_1 ?_
  obtain ⟨σ1, v2, g1, hf⟩ := zbi_use hf
  refine z_callVi (As := []) (rest := []) hC hI (cX7_nextSample_met st l D ad cy σ  _ g1) (zgV zw41_4 zw41_5 zw41_6 zw2_9 zw41_7) rfl ⟨rfl, rfl⟩ 0 hdX7_nextSample ⟨Nat.le_of_ble_eq_true rfl, Nat.le_of_ble_eq_true rfl⟩ rfl rfl (wC_e4 ad cy σ) rfl hl rfl (Nat.le_of_ble_eq_true rfl) dX0_addSample_4 ⟨Nat.zero_le _, Nat.zero_le _⟩ (fun H locs hI => ?_)
  refine lv_istore_n (lv' := [(1, .int v2), (0, .ref (ad 8))]) hx hb dX0_addSample_7 rfl hl (by decide) rfl (fun ls hl => ?_)
  refine lv_aload_n hx hb dX0_addSample_8 rfl (lv_at hl 1 rfl) ?_
  refine z_get hC hI hinX0_addSample_X00 8 (wC_e8 ad cy σ1) rfl 2 (by decide) (List.mem_cons_of_mem _ zw7_18) rfl dX0_addSample_9 ?_
  refine lv_iload_n hx hb dX0_addSample_12 rfl (lv_at hl 0 rfl) ?_
  refine lv_i2l (v := v2.toInt64) hx hb dX0_addSample_13 rfl ?_
  obtain ⟨σ3, g3, hf⟩ := zbu_use hf
  refine z_callVu (As := [.long (v2.toInt64)]) (rest := []) hC hI (cX6_add_k11_met st l D ad cy σ1 (v2.toInt64) _ g3) (zgV zw41_18 zw41_19 zw41_20 zw7_17 zw41_21) rfl ⟨rfl, rfl⟩ 1 hdX6_add_k11 ⟨Nat.le_of_ble_eq_true rfl, Nat.le_of_ble_eq_true rfl⟩ rfl rfl (wC_e11 ad cy σ1) rfl hl rfl (Nat.le_of_ble_eq_true rfl) dX0_addSample_14 ⟨Nat.zero_le _, Nat.zero_le _⟩ (fun H locs hI => ?_)
  refine lv_aload_n hx hb dX0_addSample_17 rfl (lv_at hl 1 rfl) ?_
  refine z_get hC hI hinX0_addSample_X00 8 (wC_e8 ad cy σ3) rfl 4 (by decide) (List.mem_cons_of_mem _ zw7_20) rfl dX0_addSample_18 ?_
  refine lv_iconst (v := 3) hx hb dX0_addSample_21 (by decide) ?_
  refine lv_dup2_11 hx hb dX0_addSample_22 rfl rfl ?_
  obtain ⟨q, hf⟩ := zck_use hf
  refine z_lald hC hI 38 25 (wC_e38 ad cy σ3) (tC_t38 cy) q dX0_addSample_23 ?_
  refine lv_lconst (v := 1) hx hb dX0_addSample_24 (by decide) ?_
  refine lv_ladd hx hb dX0_addSample_25 ?_
  obtain ⟨q, hf⟩ := zck_use hf
  obtain ⟨σ4, eσ4⟩ : ∃ z, z = zsl σ3 38 ((3 : Int32).toNatClampNeg) ((zgl σ3 38 (3 : Int32).toNatClampNeg) + 1) := ⟨_, rfl⟩
  replace hf := zbv_use eσ4 hf
  refine z_last hC hI 38 25 (wC_e38 ad cy σ3) (tC_t38 cy) q ((wC_s38 ad cy σ3 _ _).trans (congrArg (wC ad cy) eσ4.symm)) dX0_addSample_26 (fun H locs hI => ?_)
  refine lv_aload_n hx hb dX0_addSample_27 rfl (lv_at hl 1 rfl) ?_
  refine z_get hC hI hinX0_addSample_X00 8 (wC_e8 ad cy σ4) rfl 4 (by decide) (List.mem_cons_of_mem _ zw7_20) rfl dX0_addSample_28 ?_
  refine lv_iconst (v := 4) hx hb dX0_addSample_31 (by decide) ?_
  refine lv_dup2_11 hx hb dX0_addSample_32 rfl rfl ?_
  obtain ⟨q, hf⟩ := zck_use hf
  refine z_lald hC hI 38 25 (wC_e38 ad cy σ4) (tC_t38 cy) q dX0_addSample_33 ?_
  refine lv_iload_n hx hb dX0_addSample_34 rfl (lv_at hl 0 rfl) ?_
  refine lv_bipush (v := 16) hx hb dX0_addSample_35 (by decide) ?_
  refine lv_ishr hx hb dX0_addSample_37 ?_
  refine lv_i2l (v := (v2 >>> ((16 : Int32) &&& 31)).toInt64) hx hb dX0_addSample_38 rfl ?_
  refine lv_ladd hx hb dX0_addSample_39 ?_
  obtain ⟨q, hf⟩ := zck_use hf
  obtain ⟨σ5, eσ5⟩ : ∃ z, z = zsl σ4 38 ((4 : Int32).toNatClampNeg) ((zgl σ4 38 (4 : Int32).toNatClampNeg) + ((v2 >>> ((16 : Int32) &&& 31)).toInt64)) := ⟨_, rfl⟩
  replace hf := zbv_use eσ5 hf
  refine z_last hC hI 38 25 (wC_e38 ad cy σ4) (tC_t38 cy) q ((wC_s38 ad cy σ4 _ _).trans (congrArg (wC ad cy) eσ5.symm)) dX0_addSample_40 (fun H locs hI => ?_)
  refine lv_aload_n hx hb dX0_addSample_41 rfl (lv_at hl 1 rfl) ?_
  refine z_get hC hI hinX0_addSample_X00 8 (wC_e8 ad cy σ5) rfl 4 (by decide) (List.mem_cons_of_mem _ zw7_20) rfl dX0_addSample_42 ?_
  refine lv_iconst (v := 5) hx hb dX0_addSample_45 (by decide) ?_
  refine lv_dup2_11 hx hb dX0_addSample_46 rfl rfl ?_
  obtain ⟨q, hf⟩ := zck_use hf
  refine z_lald hC hI 38 25 (wC_e38 ad cy σ5) (tC_t38 cy) q dX0_addSample_47 ?_
  refine lv_iload_n hx hb dX0_addSample_48 rfl (lv_at hl 0 rfl) ?_
  refine lv_ldc (v := 65535) hx hb hC.2.2.2.1 (hC.2.2.2.2.1 _ (List.mem_cons_of_mem _ zw41_3)) dX0_addSample_49 ?_
  refine lv_iand hx hb dX0_addSample_51 ?_
  refine lv_i2l (v := (v2 &&& 65535).toInt64) hx hb dX0_addSample_52 rfl ?_
  refine lv_ladd hx hb dX0_addSample_53 ?_
  obtain ⟨q, hf⟩ := zck_use hf
  obtain ⟨σ6, eσ6⟩ : ∃ z, z = zsl σ5 38 ((5 : Int32).toNatClampNeg) ((zgl σ5 38 (5 : Int32).toNatClampNeg) + ((v2 &&& 65535).toInt64)) := ⟨_, rfl⟩
  replace hf := zbv_use eσ6 hf
  refine z_last hC hI 38 25 (wC_e38 ad cy σ5) (tC_t38 cy) q ((wC_s38 ad cy σ5 _ _).trans (congrArg (wC ad cy) eσ6.symm)) dX0_addSample_54 (fun H locs hI => ?_)
  refine lv_aload_n hx hb dX0_addSample_55 rfl (lv_at hl 1 rfl) ?_
  refine z_get hC hI hinX0_addSample_X00 8 (wC_e8 ad cy σ6) rfl 4 (by decide) (List.mem_cons_of_mem _ zw7_20) rfl dX0_addSample_56 ?_
  refine lv_bipush (v := 6) hx hb dX0_addSample_59 (by decide) ?_
  refine lv_dup2_11 hx hb dX0_addSample_61 rfl rfl ?_
  obtain ⟨q, hf⟩ := zck_use hf
  refine z_lald hC hI 38 25 (wC_e38 ad cy σ6) (tC_t38 cy) q dX0_addSample_62 ?_
  refine lv_lconst (v := 1) hx hb dX0_addSample_63 (by decide) ?_
  refine lv_ladd hx hb dX0_addSample_64 ?_
  obtain ⟨q, hf⟩ := zck_use hf
  obtain ⟨σ7, eσ7⟩ : ∃ z, z = zsl σ6 38 ((6 : Int32).toNatClampNeg) ((zgl σ6 38 (6 : Int32).toNatClampNeg) + 1) := ⟨_, rfl⟩
  replace hf := zbv_use eσ7 hf
  refine z_last hC hI 38 25 (wC_e38 ad cy σ6) (tC_t38 cy) q ((wC_s38 ad cy σ6 _ _).trans (congrArg (wC ad cy) eσ7.symm)) dX0_addSample_65 (fun H locs hI => ?_)
  exact z_return hC hI hf dX0_addSample_66
set_option maxRecDepth 20000 in
theorem cX0_addSample_met (st : Nat → Nat) (l : Launch) (D : va_G) (ad : Nat → Nat) (cy : Nat → ClassId) (σ : zSt)  (res : zSt) (hf : fX0_addSample σ  = some res) (sz : Nat) : zMu st l yX0_addSample wzX0_addSample rmX0_addSample [.ref (ad 8)] D (tC cy) (wC ad cy) sz σ res :=
  zMu.of (cc := cX0_addSample) (maxL := 2) (ret := none) (by decide) rfl (Nat.le_of_ble_eq_true rfl) (fun p e s m args below meth c hC A hI ls hl => bX0_addSample hC hI hl hf)
theorem hdX0_addSample : yX0_addSample.cls = RX0 ∧ yX0_addSample.cls ≠ "java/lang/invoke/MethodHandle" ∧ yX0_addSample.cls ≠ "java/lang/invoke/VarHandle" ∧ (parseMethodDescriptor yX0_addSample.desc).map (fun d => d.parameters.length) = some 0 := by decide +kernel
def rmX10_takeOwnPatch : Room := { frames := 0, cells := 0, slots := 0, locals := 0 }
def wzX10_takeOwnPatch : List Cond := .code yX10_takeOwnPatch cX10_takeOwnPatch 2 none :: wsL_law
theorem hinX10_takeOwnPatch_X100 : ∀ w ∈ wsX100, w ∈ wzX10_takeOwnPatch := fun w h => List.mem_cons_of_mem _ (inlX10 w h)
def fX10_takeOwnPatch_7_body (k7 : zSt → Int32 → Option (zSt)) (σ : zSt) (x1 : Int32) : Option (zSt) :=
  if 8 ≤ x1 then some σ else
  zck (zin x1 272) (
  zbv (zsl σ 5 7 ((zlshl (zgl σ 5 7) 8) ||| ((zgi σ 32 x1.toNatClampNeg).toInt64))) (fun σ1 =>
  zbv (x1 + 1) (fun v2 =>
  k7 σ1 v2)))
def fX10_takeOwnPatch_7  : Nat → zSt → Int32 → Option (zSt)
  | 0, _, _ => none
  | n + 1, σ, x1 => fX10_takeOwnPatch_7_body (fX10_takeOwnPatch_7  n) σ x1
def fX10_takeOwnPatch  (σ : zSt)  : Option (zSt) :=
  zbv (zsl σ 5 7 0) (fun σ3 =>
  fX10_takeOwnPatch_7 zfuel σ3 0)
set_option maxRecDepth 20000 in
set_option maxHeartbeats 4000000 in
theorem bX10_takeOwnPatch_7_body {st : Nat → Nat} {p : Program} {l : Launch} {e : Env} {s : State} {m : MethodId} {args : Array Value} {below : List Frame} {meth : Method} {c : Code} {D : va_G} {A : Nat → Prop} {ad : Nat → Nat} {cy : Nat → ClassId} (hC : zC p m c cX10_takeOwnPatch 2 s args wzX10_takeOwnPatch RX10 meth none) {k7 : zSt → Int32 → Option (zSt)} {res : zSt} (hk7 : ∀ (H : Heap) (locs : List Loc) (σ : zSt) (ls : Array Slot) (x1 : Int32), zI st D (tC cy) (wC ad cy σ) A s H locs → lv_has ls 2 [(0, .ref (ad 5)), (1, .int x1)] → k7 σ x1 = some res → W p l e rmX10_takeOwnPatch s m args below meth c H locs 0 0 (zQu below args s D (tC cy) (wC ad cy) A res) (F0 m 7 ls [])) {H : Heap} {locs : List Loc} {σ : zSt} {ls : Array Slot} {x1 : Int32} (hI : zI st D (tC cy) (wC ad cy σ) A s H locs) (hl : lv_has ls 2 [(0, .ref (ad 5)), (1, .int x1)]) (hf : fX10_takeOwnPatch_7_body k7 σ x1 = some res) : W p l e rmX10_takeOwnPatch s m args below meth c H locs 0 0 (zQu below args s D (tC cy) (wC ad cy) A res) (F0 m 7 ls []) := by
  have hx := hC.1
  have hb := hC.2.1
  unfold fX10_takeOwnPatch_7_body at hf
  refine lv_iload_n hx hb dX10_takeOwnPatch_7 rfl (lv_at hl 1 rfl) ?_
  refine lv_bipush (v := 8) hx hb dX10_takeOwnPatch_8 (by decide) ?_
  refine lv_icmp_ge (tgt := 38) hx hb dX10_takeOwnPatch_10 (by decide) (fun q => ?_) (fun q => ?_)
  · replace hf := zif_t q hf
    exact z_return hC hI hf dX10_takeOwnPatch_38
  replace hf := zif_f q hf
  refine lv_aload_n hx hb dX10_takeOwnPatch_13 rfl (lv_at hl 0 rfl) ?_
  refine lv_aload_n hx hb dX10_takeOwnPatch_14 rfl (lv_at hl 0 rfl) ?_
  refine z_get hC hI hinX10_takeOwnPatch_X100 5 (wC_e5 ad cy σ) rfl 7 (by decide) (List.mem_cons_of_mem _ zw42_10) rfl dX10_takeOwnPatch_15 ?_
  refine lv_bipush (v := 8) hx hb dX10_takeOwnPatch_18 (by decide) ?_
  refine lv_lshl (v := zlshl (zgl σ 5 7) 8) hx hb dX10_takeOwnPatch_20 rfl ?_
  refine lv_aload_n hx hb dX10_takeOwnPatch_21 rfl (lv_at hl 0 rfl) ?_
  refine z_get hC hI hinX10_takeOwnPatch_X100 5 (wC_e5 ad cy σ) rfl 0 (by decide) (List.mem_cons_of_mem _ zw6_4) rfl dX10_takeOwnPatch_22 ?_
  refine lv_iload_n hx hb dX10_takeOwnPatch_25 rfl (lv_at hl 1 rfl) ?_
  obtain ⟨q, hf⟩ := zck_use hf
  refine z_iald hC hI 32 19 (wC_e32 ad cy σ) (tC_t32 cy) q dX10_takeOwnPatch_26 ?_
  refine lv_i2l (v := (zgi σ 32 x1.toNatClampNeg).toInt64) hx hb dX10_takeOwnPatch_27 rfl ?_
  refine lv_lor hx hb dX10_takeOwnPatch_28 ?_
  obtain ⟨σ1, eσ1⟩ : ∃ z, z = zsl σ 5 7 ((zlshl (zgl σ 5 7) 8) ||| ((zgi σ 32 x1.toNatClampNeg).toInt64)) := ⟨_, rfl⟩
  replace hf := zbv_use eσ1 hf
  refine z_put hC hI hinX10_takeOwnPatch_X100 tyX10_ok nmX10 5 (wC_e5 ad cy σ) rfl 7 (by decide) (List.mem_cons_of_mem _ zw42_10) rfl rfl rfl (Nat.le_of_ble_eq_true rfl) ((wC_s5_7 ad cy σ ((zlshl (zgl σ 5 7) 8) ||| ((zgi σ 32 x1.toNatClampNeg).toInt64))).trans (congrArg (wC ad cy) eσ1.symm)) dX10_takeOwnPatch_29 (fun H locs hI => ?_)
  obtain ⟨v2, ev2⟩ : ∃ z : Int32, z = x1 + 1 := ⟨_, rfl⟩
  replace hf := zbv_use ev2 hf
  refine lv_iinc (v := v2) (lv' := [(1, .int v2), (0, .ref (ad 5))]) hx hb dX10_takeOwnPatch_32 hl (k := 1) rfl (by rw [ev2]; rfl) (by decide) rfl (fun ls hl => ?_)
  refine lv_goto (tgt := 7) hx hb dX10_takeOwnPatch_35 (by decide) ?_
  exact hk7 _ _ _ _ _ hI (lv_sub hl [1, 0] rfl) hf
theorem blX10_takeOwnPatch_7 {st : Nat → Nat} {p : Program} {l : Launch} {e : Env} {s : State} {m : MethodId} {args : Array Value} {below : List Frame} {meth : Method} {c : Code} {D : va_G} {A : Nat → Prop} {ad : Nat → Nat} {cy : Nat → ClassId} (hC : zC p m c cX10_takeOwnPatch 2 s args wzX10_takeOwnPatch RX10 meth none)  {res : zSt} : ∀ (n : Nat) (H : Heap) (locs : List Loc) (σ : zSt) (ls : Array Slot) (x1 : Int32), zI st D (tC cy) (wC ad cy σ) A s H locs → lv_has ls 2 [(0, .ref (ad 5)), (1, .int x1)] → fX10_takeOwnPatch_7  n σ x1 = some res → W p l e rmX10_takeOwnPatch s m args below meth c H locs 0 0 (zQu below args s D (tC cy) (wC ad cy) A res) (F0 m 7 ls []) := by
  intro n
  induction n with
  | zero => intro H locs σ ls x1 hI hl hf; cases hf
  | succ n ih => intro H locs σ ls x1 hI hl hf; exact bX10_takeOwnPatch_7_body hC ih hI hl hf
set_option maxRecDepth 20000 in
set_option maxHeartbeats 4000000 in
theorem bX10_takeOwnPatch {st : Nat → Nat} {p : Program} {l : Launch} {e : Env} {s : State} {m : MethodId} {args : Array Value} {below : List Frame} {meth : Method} {c : Code} {D : va_G} {A : Nat → Prop} {ad : Nat → Nat} {cy : Nat → ClassId} (hC : zC p m c cX10_takeOwnPatch 2 s args wzX10_takeOwnPatch RX10 meth none)  {res : zSt} {H : Heap} {locs : List Loc} {σ : zSt} {ls : Array Slot}  (hI : zI st D (tC cy) (wC ad cy σ) A s H locs) (hl : lv_has ls 2 [(0, .ref (ad 5))]) (hf : fX10_takeOwnPatch  σ  = some res) : W p l e rmX10_takeOwnPatch s m args below meth c H locs 0 0 (zQu below args s D (tC cy) (wC ad cy) A res) (F0 m 0 ls []) := by
  have hx := hC.1
  have hb := hC.2.1
  unfold fX10_takeOwnPatch at hf
  refine lv_aload_n hx hb dX10_takeOwnPatch_0 rfl (lv_at hl 0 rfl) ?_
  refine lv_lconst (v := 0) hx hb dX10_takeOwnPatch_1 (by decide) ?_
  obtain ⟨σ3, eσ3⟩ : ∃ z, z = zsl σ 5 7 0 := ⟨_, rfl⟩
  replace hf := zbv_use eσ3 hf
  refine z_put hC hI hinX10_takeOwnPatch_X100 tyX10_ok nmX10 5 (wC_e5 ad cy σ) rfl 7 (by decide) (List.mem_cons_of_mem _ zw42_10) rfl rfl rfl (Nat.le_of_ble_eq_true rfl) ((wC_s5_7 ad cy σ 0).trans (congrArg (wC ad cy) eσ3.symm)) dX10_takeOwnPatch_2 (fun H locs hI => ?_)
  refine lv_iconst (v := 0) hx hb dX10_takeOwnPatch_5 (by decide) ?_
  refine lv_istore_n (lv' := [(1, .int 0), (0, .ref (ad 5))]) hx hb dX10_takeOwnPatch_6 rfl hl (by decide) rfl (fun ls hl => ?_)
  exact blX10_takeOwnPatch_7 hC  zfuel _ _ _ _ _ hI (lv_sub hl [1, 0] rfl) hf
set_option maxRecDepth 20000 in
theorem cX10_takeOwnPatch_met (st : Nat → Nat) (l : Launch) (D : va_G) (ad : Nat → Nat) (cy : Nat → ClassId) (σ : zSt)  (res : zSt) (hf : fX10_takeOwnPatch σ  = some res) (sz : Nat) : zMu st l yX10_takeOwnPatch wzX10_takeOwnPatch rmX10_takeOwnPatch [.ref (ad 5)] D (tC cy) (wC ad cy) sz σ res :=
  zMu.of (cc := cX10_takeOwnPatch) (maxL := 2) (ret := none) (by decide) rfl (Nat.le_of_ble_eq_true rfl) (fun p e s m args below meth c hC A hI ls hl => bX10_takeOwnPatch hC hI hl hf)
theorem hdX10_takeOwnPatch : yX10_takeOwnPatch.cls = RX10 ∧ yX10_takeOwnPatch.cls ≠ "java/lang/invoke/MethodHandle" ∧ yX10_takeOwnPatch.cls ≠ "java/lang/invoke/VarHandle" ∧ (parseMethodDescriptor yX10_takeOwnPatch.desc).map (fun d => d.parameters.length) = some 0 := by decide +kernel
def rmX10_takeChannel : Room := { frames := 0, cells := 0, slots := 0, locals := 0 }
def wzX10_takeChannel : List Cond := .code yX10_takeChannel cX10_takeChannel 3 none :: wsL_law
theorem hinX10_takeChannel_X100 : ∀ w ∈ wsX100, w ∈ wzX10_takeChannel := fun w h => List.mem_cons_of_mem _ (inlX10 w h)
def fX10_takeChannel_110  (σ : zSt) (s0 : Int64) : Option (zSt) :=
  zbv (zsl σ 5 6 s0) (fun σ1 =>
  some σ1)
def fX10_takeChannel_106  (σ : zSt)  : Option (zSt) :=
  fX10_takeChannel_110 σ (zgl σ 5 7)
def fX10_takeChannel_82  (σ : zSt) (s0 : Int32) : Option (zSt) :=
  if s0 ≤ 0 then fX10_takeChannel_106 σ else
  if 18 < s0 then fX10_takeChannel_106 σ else
  zck (zin (s0 - 1) 18) (
  fX10_takeChannel_110 σ (zt5 (s0 - 1).toNatClampNeg))
def fX10_takeChannel_71  (σ : zSt) (x1 : Int32) : Option (zSt) :=
  zck (zin (48 + x1) 272) (
  fX10_takeChannel_82 σ ((zgi σ 32 (48 + x1).toNatClampNeg) >>> ((4 : Int32) &&& 31)))
def fX10_takeChannel  (σ : zSt) (x1 : Int32) : Option (zSt) :=
  zbv (zsi σ 5 3 x1) (fun σ2 =>
  zck (zin (16 + x1) 272) (
  zck (zin (32 + x1) 272) (
  zbv (zsi σ2 5 4 ((zgi σ2 32 (16 + x1).toNatClampNeg) ||| (((zgi σ2 32 (32 + x1).toNatClampNeg) &&& 1) <<< ((8 : Int32) &&& 31)))) (fun σ3 =>
  zck (zin (32 + x1) 272) (
  zbv (zsi σ3 5 5 (((zgi σ3 32 (32 + x1).toNatClampNeg) >>> ((1 : Int32) &&& 31)) &&& 7)) (fun σ4 =>
  if (zgi σ4 5 2) = 0 then fX10_takeChannel_71 σ4 x1 else
  if x1 < 6 then fX10_takeChannel_71 σ4 x1 else
  fX10_takeChannel_82 σ4 (10 + x1)))))))
set_option maxRecDepth 20000 in
set_option maxHeartbeats 4000000 in
theorem bX10_takeChannel_110 {st : Nat → Nat} {p : Program} {l : Launch} {e : Env} {s : State} {m : MethodId} {args : Array Value} {below : List Frame} {meth : Method} {c : Code} {D : va_G} {A : Nat → Prop} {ad : Nat → Nat} {cy : Nat → ClassId} (hC : zC p m c cX10_takeChannel 3 s args wzX10_takeChannel RX10 meth none)  {res : zSt} {H : Heap} {locs : List Loc} {σ : zSt} {ls : Array Slot} {s0 : Int64} (hI : zI st D (tC cy) (wC ad cy σ) A s H locs) (hl : lv_has ls 3 []) (hf : fX10_takeChannel_110  σ s0 = some res) : W p l e rmX10_takeChannel s m args below meth c H locs 0 0 (zQu below args s D (tC cy) (wC ad cy) A res) (F0 m 110 ls [.long s0, .ref (ad 5)]) := by
  have hx := hC.1
  have hb := hC.2.1
  unfold fX10_takeChannel_110 at hf
  obtain ⟨σ1, eσ1⟩ : ∃ z, z = zsl σ 5 6 s0 := ⟨_, rfl⟩
  replace hf := zbv_use eσ1 hf
  refine z_put hC hI hinX10_takeChannel_X100 tyX10_ok nmX10 5 (wC_e5 ad cy σ) rfl 6 (by decide) (List.mem_cons_of_mem _ zw42_19) rfl rfl rfl (Nat.le_of_ble_eq_true rfl) ((wC_s5_6 ad cy σ s0).trans (congrArg (wC ad cy) eσ1.symm)) dX10_takeChannel_110 (fun H locs hI => ?_)
  exact z_return hC hI hf dX10_takeChannel_113
set_option maxRecDepth 20000 in
set_option maxHeartbeats 4000000 in
theorem bX10_takeChannel_106 {st : Nat → Nat} {p : Program} {l : Launch} {e : Env} {s : State} {m : MethodId} {args : Array Value} {below : List Frame} {meth : Method} {c : Code} {D : va_G} {A : Nat → Prop} {ad : Nat → Nat} {cy : Nat → ClassId} (hC : zC p m c cX10_takeChannel 3 s args wzX10_takeChannel RX10 meth none)  {res : zSt} {H : Heap} {locs : List Loc} {σ : zSt} {ls : Array Slot}  (hI : zI st D (tC cy) (wC ad cy σ) A s H locs) (hl : lv_has ls 3 [(0, .ref (ad 5))]) (hf : fX10_takeChannel_106  σ  = some res) : W p l e rmX10_takeChannel s m args below meth c H locs 0 0 (zQu below args s D (tC cy) (wC ad cy) A res) (F0 m 106 ls [.ref (ad 5)]) := by
  have hx := hC.1
  have hb := hC.2.1
  unfold fX10_takeChannel_106 at hf
  refine lv_aload_n hx hb dX10_takeChannel_106 rfl (lv_at hl 0 rfl) ?_
  refine z_get hC hI hinX10_takeChannel_X100 5 (wC_e5 ad cy σ) rfl 7 (by decide) (List.mem_cons_of_mem _ zw42_10) rfl dX10_takeChannel_107 ?_
  exact bX10_takeChannel_110 hC  hI (lv_sub hl [] rfl) hf
set_option maxRecDepth 20000 in
set_option maxHeartbeats 4000000 in
theorem bX10_takeChannel_82 {st : Nat → Nat} {p : Program} {l : Launch} {e : Env} {s : State} {m : MethodId} {args : Array Value} {below : List Frame} {meth : Method} {c : Code} {D : va_G} {A : Nat → Prop} {ad : Nat → Nat} {cy : Nat → ClassId} (hC : zC p m c cX10_takeChannel 3 s args wzX10_takeChannel RX10 meth none)  {res : zSt} {H : Heap} {locs : List Loc} {σ : zSt} {ls : Array Slot} {s0 : Int32} (hI : zI st D (tC cy) (wC ad cy σ) A s H locs) (hl : lv_has ls 3 [(0, .ref (ad 5))]) (hf : fX10_takeChannel_82  σ s0 = some res) : W p l e rmX10_takeChannel s m args below meth c H locs 0 0 (zQu below args s D (tC cy) (wC ad cy) A res) (F0 m 82 ls [.int s0]) := by
  have hx := hC.1
  have hb := hC.2.1
  unfold fX10_takeChannel_82 at hf
  refine lv_istore_n (lv' := [(2, .int s0), (0, .ref (ad 5))]) hx hb dX10_takeChannel_82 rfl hl (by decide) rfl (fun ls hl => ?_)
  refine lv_aload_n hx hb dX10_takeChannel_83 rfl (lv_at hl 1 rfl) ?_
  refine lv_iload_n hx hb dX10_takeChannel_84 rfl (lv_at hl 0 rfl) ?_
  refine lv_if_le (tgt := 106) hx hb dX10_takeChannel_85 (by decide) (fun q => ?_) (fun q => ?_)
  · replace hf := zif_t q hf
    exact bX10_takeChannel_106 hC  hI (lv_sub hl [1] rfl) hf
  replace hf := zif_f q hf
  refine lv_iload_n hx hb dX10_takeChannel_88 rfl (lv_at hl 0 rfl) ?_
  refine z_gets hC hI 5 (by decide) (List.mem_cons_of_mem _ zw42_18) dX10_takeChannel_89 ?_
  refine z_tlen (v := 18) hC hI 5 (by decide) rfl dX10_takeChannel_92 ?_
  refine lv_icmp_gt (tgt := 106) hx hb dX10_takeChannel_93 (by decide) (fun q => ?_) (fun q => ?_)
  · replace hf := zif_t q hf
    exact bX10_takeChannel_106 hC  hI (lv_sub hl [1] rfl) hf
  replace hf := zif_f q hf
  refine z_gets hC hI 5 (by decide) (List.mem_cons_of_mem _ zw42_18) dX10_takeChannel_96 ?_
  refine lv_iload_n hx hb dX10_takeChannel_99 rfl (lv_at hl 0 rfl) ?_
  refine lv_iconst (v := 1) hx hb dX10_takeChannel_100 (by decide) ?_
  refine lv_isub hx hb dX10_takeChannel_101 ?_
  obtain ⟨q, hf⟩ := zck_use hf
  refine z_tl hC hI 5 (by decide) rfl rfl q rfl dX10_takeChannel_102 ?_
  refine lv_goto (tgt := 110) hx hb dX10_takeChannel_103 (by decide) ?_
  exact bX10_takeChannel_110 hC  hI (lv_sub hl [] rfl) hf
set_option maxRecDepth 20000 in
set_option maxHeartbeats 4000000 in
theorem bX10_takeChannel_71 {st : Nat → Nat} {p : Program} {l : Launch} {e : Env} {s : State} {m : MethodId} {args : Array Value} {below : List Frame} {meth : Method} {c : Code} {D : va_G} {A : Nat → Prop} {ad : Nat → Nat} {cy : Nat → ClassId} (hC : zC p m c cX10_takeChannel 3 s args wzX10_takeChannel RX10 meth none)  {res : zSt} {H : Heap} {locs : List Loc} {σ : zSt} {ls : Array Slot} {x1 : Int32} (hI : zI st D (tC cy) (wC ad cy σ) A s H locs) (hl : lv_has ls 3 [(0, .ref (ad 5)), (1, .int x1)]) (hf : fX10_takeChannel_71  σ x1 = some res) : W p l e rmX10_takeChannel s m args below meth c H locs 0 0 (zQu below args s D (tC cy) (wC ad cy) A res) (F0 m 71 ls []) := by
  have hx := hC.1
  have hb := hC.2.1
  unfold fX10_takeChannel_71 at hf
  refine lv_aload_n hx hb dX10_takeChannel_71 rfl (lv_at hl 0 rfl) ?_
  refine z_get hC hI hinX10_takeChannel_X100 5 (wC_e5 ad cy σ) rfl 0 (by decide) (List.mem_cons_of_mem _ zw6_4) rfl dX10_takeChannel_72 ?_
  refine lv_bipush (v := 48) hx hb dX10_takeChannel_75 (by decide) ?_
  refine lv_iload_n hx hb dX10_takeChannel_77 rfl (lv_at hl 1 rfl) ?_
  refine lv_iadd hx hb dX10_takeChannel_78 ?_
  obtain ⟨q, hf⟩ := zck_use hf
  refine z_iald hC hI 32 19 (wC_e32 ad cy σ) (tC_t32 cy) q dX10_takeChannel_79 ?_
  refine lv_iconst (v := 4) hx hb dX10_takeChannel_80 (by decide) ?_
  refine lv_ishr hx hb dX10_takeChannel_81 ?_
  exact bX10_takeChannel_82 hC  hI (lv_sub hl [0] rfl) hf
set_option maxRecDepth 20000 in
set_option maxHeartbeats 4000000 in
theorem bX10_takeChannel {st : Nat → Nat} {p : Program} {l : Launch} {e : Env} {s : State} {m : MethodId} {args : Array Value} {below : List Frame} {meth : Method} {c : Code} {D : va_G} {A : Nat → Prop} {ad : Nat → Nat} {cy : Nat → ClassId} (hC : zC p m c cX10_takeChannel 3 s args wzX10_takeChannel RX10 meth none)  {res : zSt} {H : Heap} {locs : List Loc} {σ : zSt} {ls : Array Slot} {x1 : Int32} (hI : zI st D (tC cy) (wC ad cy σ) A s H locs) (hl : lv_has ls 3 [(0, .ref (ad 5)), (1, .int x1)]) (hf : fX10_takeChannel  σ x1 = some res) : W p l e rmX10_takeChannel s m args below meth c H locs 0 0 (zQu below args s D (tC cy) (wC ad cy) A res) (F0 m 0 ls []) := by
  have hx := hC.1
  have hb := hC.2.1
  unfold fX10_takeChannel at hf
  refine lv_aload_n hx hb dX10_takeChannel_0 rfl (lv_at hl 0 rfl) ?_
  refine lv_iload_n hx hb dX10_takeChannel_1 rfl (lv_at hl 1 rfl) ?_
  obtain ⟨σ2, eσ2⟩ : ∃ z, z = zsi σ 5 3 x1 := ⟨_, rfl⟩
  replace hf := zbv_use eσ2 hf
  refine z_put hC hI hinX10_takeChannel_X100 tyX10_ok nmX10 5 (wC_e5 ad cy σ) rfl 3 (by decide) (List.mem_cons_of_mem _ zw42_15) rfl rfl rfl (Nat.le_of_ble_eq_true rfl) ((wC_s5_3 ad cy σ x1).trans (congrArg (wC ad cy) eσ2.symm)) dX10_takeChannel_2 (fun H locs hI => ?_)
  refine lv_aload_n hx hb dX10_takeChannel_5 rfl (lv_at hl 0 rfl) ?_
  refine lv_aload_n hx hb dX10_takeChannel_6 rfl (lv_at hl 0 rfl) ?_
  refine z_get hC hI hinX10_takeChannel_X100 5 (wC_e5 ad cy σ2) rfl 0 (by decide) (List.mem_cons_of_mem _ zw6_4) rfl dX10_takeChannel_7 ?_
  refine lv_bipush (v := 16) hx hb dX10_takeChannel_10 (by decide) ?_
  refine lv_iload_n hx hb dX10_takeChannel_12 rfl (lv_at hl 1 rfl) ?_
  refine lv_iadd hx hb dX10_takeChannel_13 ?_
  obtain ⟨q, hf⟩ := zck_use hf
  refine z_iald hC hI 32 19 (wC_e32 ad cy σ2) (tC_t32 cy) q dX10_takeChannel_14 ?_
  refine lv_aload_n hx hb dX10_takeChannel_15 rfl (lv_at hl 0 rfl) ?_
  refine z_get hC hI hinX10_takeChannel_X100 5 (wC_e5 ad cy σ2) rfl 0 (by decide) (List.mem_cons_of_mem _ zw6_4) rfl dX10_takeChannel_16 ?_
  refine lv_bipush (v := 32) hx hb dX10_takeChannel_19 (by decide) ?_
  refine lv_iload_n hx hb dX10_takeChannel_21 rfl (lv_at hl 1 rfl) ?_
  refine lv_iadd hx hb dX10_takeChannel_22 ?_
  obtain ⟨q, hf⟩ := zck_use hf
  refine z_iald hC hI 32 19 (wC_e32 ad cy σ2) (tC_t32 cy) q dX10_takeChannel_23 ?_
  refine lv_iconst (v := 1) hx hb dX10_takeChannel_24 (by decide) ?_
  refine lv_iand hx hb dX10_takeChannel_25 ?_
  refine lv_bipush (v := 8) hx hb dX10_takeChannel_26 (by decide) ?_
  refine lv_ishl hx hb dX10_takeChannel_28 ?_
  refine lv_ior hx hb dX10_takeChannel_29 ?_
  obtain ⟨σ3, eσ3⟩ : ∃ z, z = zsi σ2 5 4 ((zgi σ2 32 (16 + x1).toNatClampNeg) ||| (((zgi σ2 32 (32 + x1).toNatClampNeg) &&& 1) <<< ((8 : Int32) &&& 31))) := ⟨_, rfl⟩
  replace hf := zbv_use eσ3 hf
  refine z_put hC hI hinX10_takeChannel_X100 tyX10_ok nmX10 5 (wC_e5 ad cy σ2) rfl 4 (by decide) (List.mem_cons_of_mem _ zw42_16) rfl rfl rfl (Nat.le_of_ble_eq_true rfl) ((wC_s5_4 ad cy σ2 ((zgi σ2 32 (16 + x1).toNatClampNeg) ||| (((zgi σ2 32 (32 + x1).toNatClampNeg) &&& 1) <<< ((8 : Int32) &&& 31)))).trans (congrArg (wC ad cy) eσ3.symm)) dX10_takeChannel_30 (fun H locs hI => ?_)
  refine lv_aload_n hx hb dX10_takeChannel_33 rfl (lv_at hl 0 rfl) ?_
  refine lv_aload_n hx hb dX10_takeChannel_34 rfl (lv_at hl 0 rfl) ?_
  refine z_get hC hI hinX10_takeChannel_X100 5 (wC_e5 ad cy σ3) rfl 0 (by decide) (List.mem_cons_of_mem _ zw6_4) rfl dX10_takeChannel_35 ?_
  refine lv_bipush (v := 32) hx hb dX10_takeChannel_38 (by decide) ?_
  refine lv_iload_n hx hb dX10_takeChannel_40 rfl (lv_at hl 1 rfl) ?_
  refine lv_iadd hx hb dX10_takeChannel_41 ?_
  obtain ⟨q, hf⟩ := zck_use hf
  refine z_iald hC hI 32 19 (wC_e32 ad cy σ3) (tC_t32 cy) q dX10_takeChannel_42 ?_
  refine lv_iconst (v := 1) hx hb dX10_takeChannel_43 (by decide) ?_
  refine lv_ishr hx hb dX10_takeChannel_44 ?_
  refine lv_bipush (v := 7) hx hb dX10_takeChannel_45 (by decide) ?_
  refine lv_iand hx hb dX10_takeChannel_47 ?_
  obtain ⟨σ4, eσ4⟩ : ∃ z, z = zsi σ3 5 5 (((zgi σ3 32 (32 + x1).toNatClampNeg) >>> ((1 : Int32) &&& 31)) &&& 7) := ⟨_, rfl⟩
  replace hf := zbv_use eσ4 hf
  refine z_put hC hI hinX10_takeChannel_X100 tyX10_ok nmX10 5 (wC_e5 ad cy σ3) rfl 5 (by decide) (List.mem_cons_of_mem _ zw42_17) rfl rfl rfl (Nat.le_of_ble_eq_true rfl) ((wC_s5_5 ad cy σ3 (((zgi σ3 32 (32 + x1).toNatClampNeg) >>> ((1 : Int32) &&& 31)) &&& 7)).trans (congrArg (wC ad cy) eσ4.symm)) dX10_takeChannel_48 (fun H locs hI => ?_)
  refine lv_aload_n hx hb dX10_takeChannel_51 rfl (lv_at hl 0 rfl) ?_
  refine z_get hC hI hinX10_takeChannel_X100 5 (wC_e5 ad cy σ4) rfl 2 (by decide) (List.mem_cons_of_mem _ zw42_4) rfl dX10_takeChannel_52 ?_
  refine lv_if_eq (tgt := 71) hx hb dX10_takeChannel_55 (by decide) (fun q => ?_) (fun q => ?_)
  · replace hf := zif_t q hf
    exact bX10_takeChannel_71 hC  hI hl hf
  replace hf := zif_f q hf
  refine lv_iload_n hx hb dX10_takeChannel_58 rfl (lv_at hl 1 rfl) ?_
  refine lv_bipush (v := 6) hx hb dX10_takeChannel_59 (by decide) ?_
  refine lv_icmp_lt (tgt := 71) hx hb dX10_takeChannel_61 (by decide) (fun q => ?_) (fun q => ?_)
  · replace hf := zif_t q hf
    exact bX10_takeChannel_71 hC  hI hl hf
  replace hf := zif_f q hf
  refine lv_bipush (v := 10) hx hb dX10_takeChannel_64 (by decide) ?_
  refine lv_iload_n hx hb dX10_takeChannel_66 rfl (lv_at hl 1 rfl) ?_
  refine lv_iadd hx hb dX10_takeChannel_67 ?_
  refine lv_goto (tgt := 82) hx hb dX10_takeChannel_68 (by decide) ?_
  exact bX10_takeChannel_82 hC  hI (lv_sub hl [0] rfl) hf
set_option maxRecDepth 20000 in
theorem cX10_takeChannel_met (st : Nat → Nat) (l : Launch) (D : va_G) (ad : Nat → Nat) (cy : Nat → ClassId) (σ : zSt) (x1 : Int32) (res : zSt) (hf : fX10_takeChannel σ x1 = some res) (sz : Nat) : zMu st l yX10_takeChannel wzX10_takeChannel rmX10_takeChannel [.ref (ad 5), .int x1] D (tC cy) (wC ad cy) sz σ res :=
  zMu.of (cc := cX10_takeChannel) (maxL := 3) (ret := none) (by decide) rfl (Nat.le_of_ble_eq_true rfl) (fun p e s m args below meth c hC A hI ls hl => bX10_takeChannel hC hI hl hf)
theorem hdX10_takeChannel : yX10_takeChannel.cls = RX10 ∧ yX10_takeChannel.cls ≠ "java/lang/invoke/MethodHandle" ∧ yX10_takeChannel.cls ≠ "java/lang/invoke/VarHandle" ∧ (parseMethodDescriptor yX10_takeChannel.desc).map (fun d => d.parameters.length) = some 1 := by decide +kernel
def rmX10_isOn : Room := { frames := 0, cells := 0, slots := 0, locals := 0 }
def wzX10_isOn : List Cond := .code yX10_isOn cX10_isOn 2 (some .boolean) :: wsL_law
theorem hinX10_isOn_X100 : ∀ w ∈ wsX100, w ∈ wzX10_isOn := fun w h => List.mem_cons_of_mem _ (inlX10 w h)
def fX10_isOn_131  (σ : zSt) (s0 : Int32) : Option (zSt × Int32) :=
  zck (zbo s0) (some (σ, s0))
def fX10_isOn_122  (σ : zSt) (s0 : Int32) (s1 : Int32) : Option (zSt × Int32) :=
  if (s1 &&& s0) = 0 then fX10_isOn_131 σ 0 else
  fX10_isOn_131 σ 1
def fX10_isOn_105  (σ : zSt) (s0 : Int32) : Option (zSt × Int32) :=
  zck (zbo s0) (some (σ, s0))
def fX10_isOn_96  (σ : zSt) (s0 : Int32) (s1 : Int32) : Option (zSt × Int32) :=
  if (s1 &&& s0) = 0 then fX10_isOn_105 σ 0 else
  fX10_isOn_105 σ 1
def fX10_isOn_78  (σ : zSt) (s0 : Int32) : Option (zSt × Int32) :=
  zck (zbo s0) (some (σ, s0))
def fX10_isOn  (σ : zSt) (x1 : Int32) : Option (zSt × Int32) :=
  zck (zin (32 + (zgi σ 5 3)) 272) (
  if ((zgi σ 32 (32 + (zgi σ 5 3)).toNatClampNeg) &&& 16) = 0 then if (zgi σ 5 2) = 0 then zck (zbo 0) (some (σ, 0)) else
  if (zgi σ 5 3) = 6 then zck (zin 14 272) (
  if ((zgi σ 32 (14 : Int32).toNatClampNeg) &&& 16) = 0 then fX10_isOn_78 σ 0 else
  fX10_isOn_78 σ 1) else
  if (zgi σ 5 3) = 7 then zck (zin 14 272) (
  if x1 = 0 then fX10_isOn_96 σ 1 (zgi σ 32 (14 : Int32).toNatClampNeg) else
  fX10_isOn_96 σ 8 (zgi σ 32 (14 : Int32).toNatClampNeg)) else
  if (zgi σ 5 3) = 8 then zck (zin 14 272) (
  if x1 = 0 then fX10_isOn_122 σ 4 (zgi σ 32 (14 : Int32).toNatClampNeg) else
  fX10_isOn_122 σ 2 (zgi σ 32 (14 : Int32).toNatClampNeg)) else
  zck (zbo 0) (some (σ, 0)) else
  zck (zbo 1) (some (σ, 1)))
set_option maxRecDepth 20000 in
set_option maxHeartbeats 4000000 in
theorem bX10_isOn_131 {st : Nat → Nat} {p : Program} {l : Launch} {e : Env} {s : State} {m : MethodId} {args : Array Value} {below : List Frame} {meth : Method} {c : Code} {D : va_G} {A : Nat → Prop} {ad : Nat → Nat} {cy : Nat → ClassId} (hC : zC p m c cX10_isOn 2 s args wzX10_isOn RX10 meth (some .boolean))  {res : zSt × Int32} {H : Heap} {locs : List Loc} {σ : zSt} {ls : Array Slot} {s0 : Int32} (hI : zI st D (tC cy) (wC ad cy σ) A s H locs) (hl : lv_has ls 2 []) (hf : fX10_isOn_131  σ s0 = some res) : W p l e rmX10_isOn s m args below meth c H locs 0 0 (zQi below args s D (tC cy) (wC ad cy) A res) (F0 m 131 ls [.int s0]) := by
  have hx := hC.1
  have hb := hC.2.1
  unfold fX10_isOn_131 at hf
  obtain ⟨q, hf⟩ := zck_use hf
  exact z_zreturn hC hI (zbo_n q) hf dX10_isOn_131
set_option maxRecDepth 20000 in
set_option maxHeartbeats 4000000 in
theorem bX10_isOn_122 {st : Nat → Nat} {p : Program} {l : Launch} {e : Env} {s : State} {m : MethodId} {args : Array Value} {below : List Frame} {meth : Method} {c : Code} {D : va_G} {A : Nat → Prop} {ad : Nat → Nat} {cy : Nat → ClassId} (hC : zC p m c cX10_isOn 2 s args wzX10_isOn RX10 meth (some .boolean))  {res : zSt × Int32} {H : Heap} {locs : List Loc} {σ : zSt} {ls : Array Slot} {s0 : Int32} {s1 : Int32} (hI : zI st D (tC cy) (wC ad cy σ) A s H locs) (hl : lv_has ls 2 []) (hf : fX10_isOn_122  σ s0 s1 = some res) : W p l e rmX10_isOn s m args below meth c H locs 0 0 (zQi below args s D (tC cy) (wC ad cy) A res) (F0 m 122 ls [.int s0, .int s1]) := by
  have hx := hC.1
  have hb := hC.2.1
  unfold fX10_isOn_122 at hf
  refine lv_iand hx hb dX10_isOn_122 ?_
  refine lv_if_eq (tgt := 130) hx hb dX10_isOn_123 (by decide) (fun q => ?_) (fun q => ?_)
  · replace hf := zif_t q hf
    refine lv_iconst (v := 0) hx hb dX10_isOn_130 (by decide) ?_
    exact bX10_isOn_131 hC  hI hl hf
  replace hf := zif_f q hf
  refine lv_iconst (v := 1) hx hb dX10_isOn_126 (by decide) ?_
  refine lv_goto (tgt := 131) hx hb dX10_isOn_127 (by decide) ?_
  exact bX10_isOn_131 hC  hI hl hf
set_option maxRecDepth 20000 in
set_option maxHeartbeats 4000000 in
theorem bX10_isOn_105 {st : Nat → Nat} {p : Program} {l : Launch} {e : Env} {s : State} {m : MethodId} {args : Array Value} {below : List Frame} {meth : Method} {c : Code} {D : va_G} {A : Nat → Prop} {ad : Nat → Nat} {cy : Nat → ClassId} (hC : zC p m c cX10_isOn 2 s args wzX10_isOn RX10 meth (some .boolean))  {res : zSt × Int32} {H : Heap} {locs : List Loc} {σ : zSt} {ls : Array Slot} {s0 : Int32} (hI : zI st D (tC cy) (wC ad cy σ) A s H locs) (hl : lv_has ls 2 []) (hf : fX10_isOn_105  σ s0 = some res) : W p l e rmX10_isOn s m args below meth c H locs 0 0 (zQi below args s D (tC cy) (wC ad cy) A res) (F0 m 105 ls [.int s0]) := by
  have hx := hC.1
  have hb := hC.2.1
  unfold fX10_isOn_105 at hf
  obtain ⟨q, hf⟩ := zck_use hf
  exact z_zreturn hC hI (zbo_n q) hf dX10_isOn_105
set_option maxRecDepth 20000 in
set_option maxHeartbeats 4000000 in
theorem bX10_isOn_96 {st : Nat → Nat} {p : Program} {l : Launch} {e : Env} {s : State} {m : MethodId} {args : Array Value} {below : List Frame} {meth : Method} {c : Code} {D : va_G} {A : Nat → Prop} {ad : Nat → Nat} {cy : Nat → ClassId} (hC : zC p m c cX10_isOn 2 s args wzX10_isOn RX10 meth (some .boolean))  {res : zSt × Int32} {H : Heap} {locs : List Loc} {σ : zSt} {ls : Array Slot} {s0 : Int32} {s1 : Int32} (hI : zI st D (tC cy) (wC ad cy σ) A s H locs) (hl : lv_has ls 2 []) (hf : fX10_isOn_96  σ s0 s1 = some res) : W p l e rmX10_isOn s m args below meth c H locs 0 0 (zQi below args s D (tC cy) (wC ad cy) A res) (F0 m 96 ls [.int s0, .int s1]) := by
  have hx := hC.1
  have hb := hC.2.1
  unfold fX10_isOn_96 at hf
  refine lv_iand hx hb dX10_isOn_96 ?_
  refine lv_if_eq (tgt := 104) hx hb dX10_isOn_97 (by decide) (fun q => ?_) (fun q => ?_)
  · replace hf := zif_t q hf
    refine lv_iconst (v := 0) hx hb dX10_isOn_104 (by decide) ?_
    exact bX10_isOn_105 hC  hI hl hf
  replace hf := zif_f q hf
  refine lv_iconst (v := 1) hx hb dX10_isOn_100 (by decide) ?_
  refine lv_goto (tgt := 105) hx hb dX10_isOn_101 (by decide) ?_
  exact bX10_isOn_105 hC  hI hl hf
set_option maxRecDepth 20000 in
set_option maxHeartbeats 4000000 in
theorem bX10_isOn_78 {st : Nat → Nat} {p : Program} {l : Launch} {e : Env} {s : State} {m : MethodId} {args : Array Value} {below : List Frame} {meth : Method} {c : Code} {D : va_G} {A : Nat → Prop} {ad : Nat → Nat} {cy : Nat → ClassId} (hC : zC p m c cX10_isOn 2 s args wzX10_isOn RX10 meth (some .boolean))  {res : zSt × Int32} {H : Heap} {locs : List Loc} {σ : zSt} {ls : Array Slot} {s0 : Int32} (hI : zI st D (tC cy) (wC ad cy σ) A s H locs) (hl : lv_has ls 2 []) (hf : fX10_isOn_78  σ s0 = some res) : W p l e rmX10_isOn s m args below meth c H locs 0 0 (zQi below args s D (tC cy) (wC ad cy) A res) (F0 m 78 ls [.int s0]) := by
  have hx := hC.1
  have hb := hC.2.1
  unfold fX10_isOn_78 at hf
  obtain ⟨q, hf⟩ := zck_use hf
  exact z_zreturn hC hI (zbo_n q) hf dX10_isOn_78
set_option maxRecDepth 20000 in
set_option maxHeartbeats 4000000 in
theorem bX10_isOn {st : Nat → Nat} {p : Program} {l : Launch} {e : Env} {s : State} {m : MethodId} {args : Array Value} {below : List Frame} {meth : Method} {c : Code} {D : va_G} {A : Nat → Prop} {ad : Nat → Nat} {cy : Nat → ClassId} (hC : zC p m c cX10_isOn 2 s args wzX10_isOn RX10 meth (some .boolean))  {res : zSt × Int32} {H : Heap} {locs : List Loc} {σ : zSt} {ls : Array Slot} {x1 : Int32} (hI : zI st D (tC cy) (wC ad cy σ) A s H locs) (hl : lv_has ls 2 [(0, .ref (ad 5)), (1, .int x1)]) (hf : fX10_isOn  σ x1 = some res) : W p l e rmX10_isOn s m args below meth c H locs 0 0 (zQi below args s D (tC cy) (wC ad cy) A res) (F0 m 0 ls []) := by
  have hx := hC.1
  have hb := hC.2.1
  unfold fX10_isOn at hf
  refine lv_aload_n hx hb dX10_isOn_0 rfl (lv_at hl 0 rfl) ?_
  refine z_get hC hI hinX10_isOn_X100 5 (wC_e5 ad cy σ) rfl 0 (by decide) (List.mem_cons_of_mem _ zw6_4) rfl dX10_isOn_1 ?_
  refine lv_bipush (v := 32) hx hb dX10_isOn_4 (by decide) ?_
  refine lv_aload_n hx hb dX10_isOn_6 rfl (lv_at hl 0 rfl) ?_
  refine z_get hC hI hinX10_isOn_X100 5 (wC_e5 ad cy σ) rfl 3 (by decide) (List.mem_cons_of_mem _ zw42_15) rfl dX10_isOn_7 ?_
  refine lv_iadd hx hb dX10_isOn_10 ?_
  obtain ⟨q, hf⟩ := zck_use hf
  refine z_iald hC hI 32 19 (wC_e32 ad cy σ) (tC_t32 cy) q dX10_isOn_11 ?_
  refine lv_bipush (v := 16) hx hb dX10_isOn_12 (by decide) ?_
  refine lv_iand hx hb dX10_isOn_14 ?_
  refine lv_if_eq (tgt := 20) hx hb dX10_isOn_15 (by decide) (fun q => ?_) (fun q => ?_)
  · replace hf := zif_t q hf
    refine lv_aload_n hx hb dX10_isOn_20 rfl (lv_at hl 0 rfl) ?_
    refine z_get hC hI hinX10_isOn_X100 5 (wC_e5 ad cy σ) rfl 2 (by decide) (List.mem_cons_of_mem _ zw42_4) rfl dX10_isOn_21 ?_
    refine lv_if_ne (tgt := 29) hx hb dX10_isOn_24 (by decide) (fun q => ?_) (fun q => ?_)
    · replace hf := zif_f q hf
      refine lv_aload_n hx hb dX10_isOn_29 rfl (lv_at hl 0 rfl) ?_
      refine z_get hC hI hinX10_isOn_X100 5 (wC_e5 ad cy σ) rfl 3 (by decide) (List.mem_cons_of_mem _ zw42_15) rfl dX10_isOn_30 ?_
      by_cases q0 : (zgi σ 5 3) = 6
      · replace hf := zif_t q0 hf
        refine lv_tableIn (tgt := 60) hx hb dX10_isOn_33 (by rw [q0]; decide) (by rw [q0]; decide) (by rw [q0]; rfl) (by decide) ?_
        refine lv_aload_n hx hb dX10_isOn_60 rfl (lv_at hl 0 rfl) ?_
        refine z_get hC hI hinX10_isOn_X100 5 (wC_e5 ad cy σ) rfl 0 (by decide) (List.mem_cons_of_mem _ zw6_4) rfl dX10_isOn_61 ?_
        refine lv_bipush (v := 14) hx hb dX10_isOn_64 (by decide) ?_
        obtain ⟨q, hf⟩ := zck_use hf
        refine z_iald hC hI 32 19 (wC_e32 ad cy σ) (tC_t32 cy) q dX10_isOn_66 ?_
        refine lv_bipush (v := 16) hx hb dX10_isOn_67 (by decide) ?_
        refine lv_iand hx hb dX10_isOn_69 ?_
        refine lv_if_eq (tgt := 77) hx hb dX10_isOn_70 (by decide) (fun q => ?_) (fun q => ?_)
        · replace hf := zif_t q hf
          refine lv_iconst (v := 0) hx hb dX10_isOn_77 (by decide) ?_
          exact bX10_isOn_78 hC  hI (lv_sub hl [] rfl) hf
        replace hf := zif_f q hf
        refine lv_iconst (v := 1) hx hb dX10_isOn_73 (by decide) ?_
        refine lv_goto (tgt := 78) hx hb dX10_isOn_74 (by decide) ?_
        exact bX10_isOn_78 hC  hI (lv_sub hl [] rfl) hf
      replace hf := zif_f q0 hf
      by_cases q1 : (zgi σ 5 3) = 7
      · replace hf := zif_t q1 hf
        refine lv_tableIn (tgt := 79) hx hb dX10_isOn_33 (by rw [q1]; decide) (by rw [q1]; decide) (by rw [q1]; rfl) (by decide) ?_
        refine lv_aload_n hx hb dX10_isOn_79 rfl (lv_at hl 0 rfl) ?_
        refine z_get hC hI hinX10_isOn_X100 5 (wC_e5 ad cy σ) rfl 0 (by decide) (List.mem_cons_of_mem _ zw6_4) rfl dX10_isOn_80 ?_
        refine lv_bipush (v := 14) hx hb dX10_isOn_83 (by decide) ?_
        obtain ⟨q, hf⟩ := zck_use hf
        refine z_iald hC hI 32 19 (wC_e32 ad cy σ) (tC_t32 cy) q dX10_isOn_85 ?_
        refine lv_iload_n hx hb dX10_isOn_86 rfl (lv_at hl 1 rfl) ?_
        refine lv_if_ne (tgt := 94) hx hb dX10_isOn_87 (by decide) (fun q => ?_) (fun q => ?_)
        · replace hf := zif_f q hf
          refine lv_bipush (v := 8) hx hb dX10_isOn_94 (by decide) ?_
          exact bX10_isOn_96 hC  hI (lv_sub hl [] rfl) hf
        replace hf := zif_t q hf
        refine lv_iconst (v := 1) hx hb dX10_isOn_90 (by decide) ?_
        refine lv_goto (tgt := 96) hx hb dX10_isOn_91 (by decide) ?_
        exact bX10_isOn_96 hC  hI (lv_sub hl [] rfl) hf
      replace hf := zif_f q1 hf
      by_cases q2 : (zgi σ 5 3) = 8
      · replace hf := zif_t q2 hf
        refine lv_tableIn (tgt := 106) hx hb dX10_isOn_33 (by rw [q2]; decide) (by rw [q2]; decide) (by rw [q2]; rfl) (by decide) ?_
        refine lv_aload_n hx hb dX10_isOn_106 rfl (lv_at hl 0 rfl) ?_
        refine z_get hC hI hinX10_isOn_X100 5 (wC_e5 ad cy σ) rfl 0 (by decide) (List.mem_cons_of_mem _ zw6_4) rfl dX10_isOn_107 ?_
        refine lv_bipush (v := 14) hx hb dX10_isOn_110 (by decide) ?_
        obtain ⟨q, hf⟩ := zck_use hf
        refine z_iald hC hI 32 19 (wC_e32 ad cy σ) (tC_t32 cy) q dX10_isOn_112 ?_
        refine lv_iload_n hx hb dX10_isOn_113 rfl (lv_at hl 1 rfl) ?_
        refine lv_if_ne (tgt := 121) hx hb dX10_isOn_114 (by decide) (fun q => ?_) (fun q => ?_)
        · replace hf := zif_f q hf
          refine lv_iconst (v := 2) hx hb dX10_isOn_121 (by decide) ?_
          exact bX10_isOn_122 hC  hI (lv_sub hl [] rfl) hf
        replace hf := zif_t q hf
        refine lv_iconst (v := 4) hx hb dX10_isOn_117 (by decide) ?_
        refine lv_goto (tgt := 122) hx hb dX10_isOn_118 (by decide) ?_
        exact bX10_isOn_122 hC  hI (lv_sub hl [] rfl) hf
      replace hf := zif_f q2 hf
      refine lv_tableOut (tgt := 132) hx hb dX10_isOn_33 (zsw (fun k h1 h2 => by rcases (show k = 6 ∨ k = 7 ∨ k = 8 by omega) with rfl | rfl | rfl <;> assumption)) (by decide) ?_
      refine lv_iconst (v := 0) hx hb dX10_isOn_132 (by decide) ?_
      obtain ⟨q, hf⟩ := zck_use hf
      exact z_zreturn hC hI (zbo_n q) hf dX10_isOn_133
    replace hf := zif_t q hf
    refine lv_iconst (v := 0) hx hb dX10_isOn_27 (by decide) ?_
    obtain ⟨q, hf⟩ := zck_use hf
    exact z_zreturn hC hI (zbo_n q) hf dX10_isOn_28
  replace hf := zif_f q hf
  refine lv_iconst (v := 1) hx hb dX10_isOn_18 (by decide) ?_
  obtain ⟨q, hf⟩ := zck_use hf
  exact z_zreturn hC hI (zbo_n q) hf dX10_isOn_19
set_option maxRecDepth 20000 in
theorem cX10_isOn_met (st : Nat → Nat) (l : Launch) (D : va_G) (ad : Nat → Nat) (cy : Nat → ClassId) (σ : zSt) (x1 : Int32) (res : zSt × Int32) (hf : fX10_isOn σ x1 = some res) (sz : Nat) : zMi st l yX10_isOn wzX10_isOn rmX10_isOn [.ref (ad 5), .int x1] D (tC cy) (wC ad cy) sz σ res :=
  zMi.of (cc := cX10_isOn) (maxL := 2) (ret := (some .boolean)) (by decide) rfl (Nat.le_of_ble_eq_true rfl) (fun p e s m args below meth c hC A hI ls hl => bX10_isOn hC hI hl hf)
theorem hdX10_isOn : yX10_isOn.cls = RX10 ∧ yX10_isOn.cls ≠ "java/lang/invoke/MethodHandle" ∧ yX10_isOn.cls ≠ "java/lang/invoke/VarHandle" ∧ (parseMethodDescriptor yX10_isOn.desc).map (fun d => d.parameters.length) = some 1 := by decide +kernel
def rmX10_part : Room := { frames := 0, cells := 0, slots := 0, locals := 0 }
def wzX10_part : List Cond := .code yX10_part cX10_part 2 (some .int) :: wsL_law
theorem hinX10_part_X100 : ∀ w ∈ wsX100, w ∈ wzX10_part := fun w h => List.mem_cons_of_mem _ (inlX10 w h)
def fX10_part  (σ : zSt) (x1 : Int32) : Option (zSt × Int32) :=
  some (σ, ((zlushr (zgl σ 5 6) (56 - (8 * x1))).toInt32) &&& 255)
set_option maxRecDepth 20000 in
set_option maxHeartbeats 4000000 in
theorem bX10_part {st : Nat → Nat} {p : Program} {l : Launch} {e : Env} {s : State} {m : MethodId} {args : Array Value} {below : List Frame} {meth : Method} {c : Code} {D : va_G} {A : Nat → Prop} {ad : Nat → Nat} {cy : Nat → ClassId} (hC : zC p m c cX10_part 2 s args wzX10_part RX10 meth (some .int))  {res : zSt × Int32} {H : Heap} {locs : List Loc} {σ : zSt} {ls : Array Slot} {x1 : Int32} (hI : zI st D (tC cy) (wC ad cy σ) A s H locs) (hl : lv_has ls 2 [(0, .ref (ad 5)), (1, .int x1)]) (hf : fX10_part  σ x1 = some res) : W p l e rmX10_part s m args below meth c H locs 0 0 (zQi below args s D (tC cy) (wC ad cy) A res) (F0 m 0 ls []) := by
  have hx := hC.1
  have hb := hC.2.1
  unfold fX10_part at hf
  refine lv_aload_n hx hb dX10_part_0 rfl (lv_at hl 0 rfl) ?_
  refine z_get hC hI hinX10_part_X100 5 (wC_e5 ad cy σ) rfl 6 (by decide) (List.mem_cons_of_mem _ zw42_19) rfl dX10_part_1 ?_
  refine lv_bipush (v := 56) hx hb dX10_part_4 (by decide) ?_
  refine lv_bipush (v := 8) hx hb dX10_part_6 (by decide) ?_
  refine lv_iload_n hx hb dX10_part_8 rfl (lv_at hl 1 rfl) ?_
  refine lv_imul hx hb dX10_part_9 ?_
  refine lv_isub hx hb dX10_part_10 ?_
  refine lv_lushr (v := zlushr (zgl σ 5 6) (56 - (8 * x1))) hx hb dX10_part_11 rfl ?_
  refine lv_l2i (v := (zlushr (zgl σ 5 6) (56 - (8 * x1))).toInt32) hx hb dX10_part_12 rfl ?_
  refine lv_sipush (v := 255) hx hb dX10_part_13 (by decide) ?_
  refine lv_iand hx hb dX10_part_16 ?_
  exact z_ireturn hC hI hf dX10_part_17
set_option maxRecDepth 20000 in
theorem cX10_part_met (st : Nat → Nat) (l : Launch) (D : va_G) (ad : Nat → Nat) (cy : Nat → ClassId) (σ : zSt) (x1 : Int32) (res : zSt × Int32) (hf : fX10_part σ x1 = some res) (sz : Nat) : zMi st l yX10_part wzX10_part rmX10_part [.ref (ad 5), .int x1] D (tC cy) (wC ad cy) sz σ res :=
  zMi.of (cc := cX10_part) (maxL := 2) (ret := (some .int)) (by decide) rfl (Nat.le_of_ble_eq_true rfl) (fun p e s m args below meth c hC A hI ls hl => bX10_part hC hI hl hf)
theorem hdX10_part : yX10_part.cls = RX10 ∧ yX10_part.cls ≠ "java/lang/invoke/MethodHandle" ∧ yX10_part.cls ≠ "java/lang/invoke/VarHandle" ∧ (parseMethodDescriptor yX10_part.desc).map (fun d => d.parameters.length) = some 1 := by decide +kernel
def rmX10_rateIn : Room := { frames := 1, cells := 0, slots := 0, locals := 21 }
def wzX10_rateIn : List Cond := .code yX10_rateIn cX10_rateIn 5 (some .int) :: wsL_law
theorem hinX10_rateIn_X100 : ∀ w ∈ wsX100, w ∈ wzX10_rateIn := fun w h => List.mem_cons_of_mem _ (inlX10 w h)
def fX10_rateIn_126  (σ : zSt) (s0 : Int32) : Option (zSt × Int32) :=
  some (σ, s0)
def fX10_rateIn_94  (σ : zSt) (s0 : Int32) : Option (zSt × Int32) :=
  some (σ, s0)
def fX10_rateIn_16  (σ : zSt) (x1 : Int32) (x2 : Int32) (s0 : Int32) : Option (zSt × Int32) :=
  zbi (fX10_part σ (6 + x2)) (fun σ1 v2 =>
  zbv (v2 &&& 15) (fun v3 =>
  if x1 = 0 then some (σ1, 12) else
  if x1 = 1 then zbi (fX10_part σ1 (4 + x2)) (fun σ4 v5 =>
  some (σ4, v5 >>> ((4 : Int32) &&& 31))) else
  if x1 = 2 then zbi (fX10_part σ1 (4 + x2)) (fun σ6 v7 =>
  some (σ6, v7 &&& 15)) else
  if x1 = 3 then if s0 = 0 then fX10_rateIn_94 σ1 v3 else
  fX10_rateIn_94 σ1 0 else
  zck (zin (32 + (zgi σ1 5 3)) 272) (
  if ((zgi σ1 32 (32 + (zgi σ1 5 3)).toNatClampNeg) &&& 32) = 0 then if s0 = 0 then fX10_rateIn_126 σ1 7 else
  fX10_rateIn_126 σ1 v3 else
  some (σ1, 5))))
def fX10_rateIn  (σ : zSt) (x1 : Int32) (x2 : Int32) : Option (zSt × Int32) :=
  zbi (fX10_part σ x2) (fun σ8 v9 =>
  if (v9 &&& 32) = 0 then fX10_rateIn_16 σ8 x1 x2 0 else
  fX10_rateIn_16 σ8 x1 x2 1)
set_option maxRecDepth 20000 in
set_option maxHeartbeats 4000000 in
theorem bX10_rateIn_126 {st : Nat → Nat} {p : Program} {l : Launch} {e : Env} {s : State} {m : MethodId} {args : Array Value} {below : List Frame} {meth : Method} {c : Code} {D : va_G} {A : Nat → Prop} {ad : Nat → Nat} {cy : Nat → ClassId} (hC : zC p m c cX10_rateIn 5 s args wzX10_rateIn RX10 meth (some .int))  {res : zSt × Int32} {H : Heap} {locs : List Loc} {σ : zSt} {ls : Array Slot} {s0 : Int32} (hI : zI st D (tC cy) (wC ad cy σ) A s H locs) (hl : lv_has ls 5 []) (hf : fX10_rateIn_126  σ s0 = some res) : W p l e rmX10_rateIn s m args below meth c H locs 0 0 (zQi below args s D (tC cy) (wC ad cy) A res) (F0 m 126 ls [.int s0]) := by
  have hx := hC.1
  have hb := hC.2.1
  unfold fX10_rateIn_126 at hf
  exact z_ireturn hC hI hf dX10_rateIn_126
set_option maxRecDepth 20000 in
set_option maxHeartbeats 4000000 in
theorem bX10_rateIn_94 {st : Nat → Nat} {p : Program} {l : Launch} {e : Env} {s : State} {m : MethodId} {args : Array Value} {below : List Frame} {meth : Method} {c : Code} {D : va_G} {A : Nat → Prop} {ad : Nat → Nat} {cy : Nat → ClassId} (hC : zC p m c cX10_rateIn 5 s args wzX10_rateIn RX10 meth (some .int))  {res : zSt × Int32} {H : Heap} {locs : List Loc} {σ : zSt} {ls : Array Slot} {s0 : Int32} (hI : zI st D (tC cy) (wC ad cy σ) A s H locs) (hl : lv_has ls 5 []) (hf : fX10_rateIn_94  σ s0 = some res) : W p l e rmX10_rateIn s m args below meth c H locs 0 0 (zQi below args s D (tC cy) (wC ad cy) A res) (F0 m 94 ls [.int s0]) := by
  have hx := hC.1
  have hb := hC.2.1
  unfold fX10_rateIn_94 at hf
  exact z_ireturn hC hI hf dX10_rateIn_94
set_option maxRecDepth 20000 in
set_option maxHeartbeats 4000000 in
theorem bX10_rateIn_16 {st : Nat → Nat} {p : Program} {l : Launch} {e : Env} {s : State} {m : MethodId} {args : Array Value} {below : List Frame} {meth : Method} {c : Code} {D : va_G} {A : Nat → Prop} {ad : Nat → Nat} {cy : Nat → ClassId} (hC : zC p m c cX10_rateIn 5 s args wzX10_rateIn RX10 meth (some .int))  {res : zSt × Int32} {H : Heap} {locs : List Loc} {σ : zSt} {ls : Array Slot} {x1 : Int32} {x2 : Int32} {s0 : Int32} (hI : zI st D (tC cy) (wC ad cy σ) A s H locs) (hl : lv_has ls 5 [(0, .ref (ad 5)), (1, .int x1), (2, .int x2)]) (hf : fX10_rateIn_16  σ x1 x2 s0 = some res) : W p l e rmX10_rateIn s m args below meth c H locs 0 0 (zQi below args s D (tC cy) (wC ad cy) A res) (F0 m 16 ls [.int s0]) := by
  have hx := hC.1
  have hb := hC.2.1
  unfold fX10_rateIn_16 at hf
  refine lv_istore_n (lv' := [(3, .int s0), (0, .ref (ad 5)), (1, .int x1), (2, .int x2)]) hx hb dX10_rateIn_16 rfl hl (by decide) rfl (fun ls hl => ?_)
  refine lv_aload_n hx hb dX10_rateIn_17 rfl (lv_at hl 1 rfl) ?_
  refine lv_bipush (v := 6) hx hb dX10_rateIn_18 (by decide) ?_
  refine lv_iload_n hx hb dX10_rateIn_20 rfl (lv_at hl 3 rfl) ?_
  refine lv_iadd hx hb dX10_rateIn_21 ?_
  obtain ⟨σ1, v2, g1, hf⟩ := zbi_use hf
  refine z_callVi (As := [.int (6 + x2)]) (rest := []) hC hI (cX10_part_met st l D ad cy σ (6 + x2) _ g1) (zgV zw43_15 zw43_16 zw43_17 zw2_13 zw43_18) rfl ⟨rfl, rfl⟩ 1 hdX10_part ⟨Nat.le_of_ble_eq_true rfl, Nat.le_of_ble_eq_true rfl⟩ rfl rfl (wC_e5 ad cy σ) rfl hl rfl (Nat.le_of_ble_eq_true rfl) dX10_rateIn_22 ⟨Nat.zero_le _, Nat.zero_le _⟩ (fun H locs hI => ?_)
  refine lv_bipush (v := 15) hx hb dX10_rateIn_25 (by decide) ?_
  refine lv_iand hx hb dX10_rateIn_27 ?_
  refine lv_topi (fun v3 ev3 => ?_)
  replace hf := zbv_use ev3 hf
  refine lv_istore (lv' := [(4, .int v3), (3, .int s0), (0, .ref (ad 5)), (1, .int x1), (2, .int x2)]) hx hb dX10_rateIn_28 hl (by decide) rfl (fun ls hl => ?_)
  refine lv_iload_n hx hb dX10_rateIn_30 rfl (lv_at hl 3 rfl) ?_
  by_cases q0 : x1 = 0
  · replace hf := zif_t q0 hf
    refine lv_tableIn (tgt := 60) hx hb dX10_rateIn_31 (by rw [q0]; decide) (by rw [q0]; decide) (by rw [q0]; rfl) (by decide) ?_
    refine lv_bipush (v := 12) hx hb dX10_rateIn_60 (by decide) ?_
    exact z_ireturn hC hI hf dX10_rateIn_62
  replace hf := zif_f q0 hf
  by_cases q1 : x1 = 1
  · replace hf := zif_t q1 hf
    refine lv_tableIn (tgt := 63) hx hb dX10_rateIn_31 (by rw [q1]; decide) (by rw [q1]; decide) (by rw [q1]; rfl) (by decide) ?_
    refine lv_aload_n hx hb dX10_rateIn_63 rfl (lv_at hl 2 rfl) ?_
    refine lv_iconst (v := 4) hx hb dX10_rateIn_64 (by decide) ?_
    refine lv_iload_n hx hb dX10_rateIn_65 rfl (lv_at hl 4 rfl) ?_
    refine lv_iadd hx hb dX10_rateIn_66 ?_
    obtain ⟨σ4, v5, g4, hf⟩ := zbi_use hf
    refine z_callVi (As := [.int (4 + x2)]) (rest := []) hC hI (cX10_part_met st l D ad cy σ1 (4 + x2) _ g4) (zgV zw43_15 zw43_16 zw43_17 zw2_13 zw43_18) rfl ⟨rfl, rfl⟩ 1 hdX10_part ⟨Nat.le_of_ble_eq_true rfl, Nat.le_of_ble_eq_true rfl⟩ rfl rfl (wC_e5 ad cy σ1) rfl hl rfl (Nat.le_of_ble_eq_true rfl) dX10_rateIn_67 ⟨Nat.zero_le _, Nat.zero_le _⟩ (fun H locs hI => ?_)
    refine lv_iconst (v := 4) hx hb dX10_rateIn_70 (by decide) ?_
    refine lv_ishr hx hb dX10_rateIn_71 ?_
    exact z_ireturn hC hI hf dX10_rateIn_72
  replace hf := zif_f q1 hf
  by_cases q2 : x1 = 2
  · replace hf := zif_t q2 hf
    refine lv_tableIn (tgt := 73) hx hb dX10_rateIn_31 (by rw [q2]; decide) (by rw [q2]; decide) (by rw [q2]; rfl) (by decide) ?_
    refine lv_aload_n hx hb dX10_rateIn_73 rfl (lv_at hl 2 rfl) ?_
    refine lv_iconst (v := 4) hx hb dX10_rateIn_74 (by decide) ?_
    refine lv_iload_n hx hb dX10_rateIn_75 rfl (lv_at hl 4 rfl) ?_
    refine lv_iadd hx hb dX10_rateIn_76 ?_
    obtain ⟨σ6, v7, g6, hf⟩ := zbi_use hf
    refine z_callVi (As := [.int (4 + x2)]) (rest := []) hC hI (cX10_part_met st l D ad cy σ1 (4 + x2) _ g6) (zgV zw43_15 zw43_16 zw43_17 zw2_13 zw43_18) rfl ⟨rfl, rfl⟩ 1 hdX10_part ⟨Nat.le_of_ble_eq_true rfl, Nat.le_of_ble_eq_true rfl⟩ rfl rfl (wC_e5 ad cy σ1) rfl hl rfl (Nat.le_of_ble_eq_true rfl) dX10_rateIn_77 ⟨Nat.zero_le _, Nat.zero_le _⟩ (fun H locs hI => ?_)
    refine lv_bipush (v := 15) hx hb dX10_rateIn_80 (by decide) ?_
    refine lv_iand hx hb dX10_rateIn_82 ?_
    exact z_ireturn hC hI hf dX10_rateIn_83
  replace hf := zif_f q2 hf
  by_cases q3 : x1 = 3
  · replace hf := zif_t q3 hf
    refine lv_tableIn (tgt := 84) hx hb dX10_rateIn_31 (by rw [q3]; decide) (by rw [q3]; decide) (by rw [q3]; rfl) (by decide) ?_
    refine lv_iload_n hx hb dX10_rateIn_84 rfl (lv_at hl 1 rfl) ?_
    refine lv_if_eq (tgt := 92) hx hb dX10_rateIn_85 (by decide) (fun q => ?_) (fun q => ?_)
    · replace hf := zif_t q hf
      refine lv_iload hx hb dX10_rateIn_92 (lv_at hl 0 rfl) ?_
      exact bX10_rateIn_94 hC  hI (lv_sub hl [] rfl) hf
    replace hf := zif_f q hf
    refine lv_iconst (v := 0) hx hb dX10_rateIn_88 (by decide) ?_
    refine lv_goto (tgt := 94) hx hb dX10_rateIn_89 (by decide) ?_
    exact bX10_rateIn_94 hC  hI (lv_sub hl [] rfl) hf
  replace hf := zif_f q3 hf
  refine lv_tableOut (tgt := 95) hx hb dX10_rateIn_31 (zsw (fun k h1 h2 => by rcases (show k = 0 ∨ k = 1 ∨ k = 2 ∨ k = 3 by omega) with rfl | rfl | rfl | rfl <;> assumption)) (by decide) ?_
  refine lv_aload_n hx hb dX10_rateIn_95 rfl (lv_at hl 2 rfl) ?_
  refine z_get hC hI hinX10_rateIn_X100 5 (wC_e5 ad cy σ1) rfl 0 (by decide) (List.mem_cons_of_mem _ zw6_4) rfl dX10_rateIn_96 ?_
  refine lv_bipush (v := 32) hx hb dX10_rateIn_99 (by decide) ?_
  refine lv_aload_n hx hb dX10_rateIn_101 rfl (lv_at hl 2 rfl) ?_
  refine z_get hC hI hinX10_rateIn_X100 5 (wC_e5 ad cy σ1) rfl 3 (by decide) (List.mem_cons_of_mem _ zw42_15) rfl dX10_rateIn_102 ?_
  refine lv_iadd hx hb dX10_rateIn_105 ?_
  obtain ⟨q, hf⟩ := zck_use hf
  refine z_iald hC hI 32 19 (wC_e32 ad cy σ1) (tC_t32 cy) q dX10_rateIn_106 ?_
  refine lv_bipush (v := 32) hx hb dX10_rateIn_107 (by decide) ?_
  refine lv_iand hx hb dX10_rateIn_109 ?_
  refine lv_if_eq (tgt := 115) hx hb dX10_rateIn_110 (by decide) (fun q => ?_) (fun q => ?_)
  · replace hf := zif_t q hf
    refine lv_iload_n hx hb dX10_rateIn_115 rfl (lv_at hl 1 rfl) ?_
    refine lv_if_eq (tgt := 124) hx hb dX10_rateIn_116 (by decide) (fun q => ?_) (fun q => ?_)
    · replace hf := zif_t q hf
      refine lv_bipush (v := 7) hx hb dX10_rateIn_124 (by decide) ?_
      exact bX10_rateIn_126 hC  hI (lv_sub hl [] rfl) hf
    replace hf := zif_f q hf
    refine lv_iload hx hb dX10_rateIn_119 (lv_at hl 0 rfl) ?_
    refine lv_goto (tgt := 126) hx hb dX10_rateIn_121 (by decide) ?_
    exact bX10_rateIn_126 hC  hI (lv_sub hl [] rfl) hf
  replace hf := zif_f q hf
  refine lv_iconst (v := 5) hx hb dX10_rateIn_113 (by decide) ?_
  exact z_ireturn hC hI hf dX10_rateIn_114
set_option maxRecDepth 20000 in
set_option maxHeartbeats 4000000 in
theorem bX10_rateIn {st : Nat → Nat} {p : Program} {l : Launch} {e : Env} {s : State} {m : MethodId} {args : Array Value} {below : List Frame} {meth : Method} {c : Code} {D : va_G} {A : Nat → Prop} {ad : Nat → Nat} {cy : Nat → ClassId} (hC : zC p m c cX10_rateIn 5 s args wzX10_rateIn RX10 meth (some .int))  {res : zSt × Int32} {H : Heap} {locs : List Loc} {σ : zSt} {ls : Array Slot} {x1 : Int32} {x2 : Int32} (hI : zI st D (tC cy) (wC ad cy σ) A s H locs) (hl : lv_has ls 5 [(0, .ref (ad 5)), (1, .int x1), (2, .int x2)]) (hf : fX10_rateIn  σ x1 x2 = some res) : W p l e rmX10_rateIn s m args below meth c H locs 0 0 (zQi below args s D (tC cy) (wC ad cy) A res) (F0 m 0 ls []) := by
  have hx := hC.1
  have hb := hC.2.1
  unfold fX10_rateIn at hf
  refine lv_aload_n hx hb dX10_rateIn_0 rfl (lv_at hl 0 rfl) ?_
  refine lv_iload_n hx hb dX10_rateIn_1 rfl (lv_at hl 2 rfl) ?_
  obtain ⟨σ8, v9, g8, hf⟩ := zbi_use hf
  refine z_callVi (As := [.int x2]) (rest := []) hC hI (cX10_part_met st l D ad cy σ x2 _ g8) (zgV zw43_15 zw43_16 zw43_17 zw2_13 zw43_18) rfl ⟨rfl, rfl⟩ 1 hdX10_part ⟨Nat.le_of_ble_eq_true rfl, Nat.le_of_ble_eq_true rfl⟩ rfl rfl (wC_e5 ad cy σ) rfl hl rfl (Nat.le_of_ble_eq_true rfl) dX10_rateIn_2 ⟨Nat.zero_le _, Nat.zero_le _⟩ (fun H locs hI => ?_)
  refine lv_bipush (v := 32) hx hb dX10_rateIn_5 (by decide) ?_
  refine lv_iand hx hb dX10_rateIn_7 ?_
  refine lv_if_eq (tgt := 15) hx hb dX10_rateIn_8 (by decide) (fun q => ?_) (fun q => ?_)
  · replace hf := zif_t q hf
    refine lv_iconst (v := 0) hx hb dX10_rateIn_15 (by decide) ?_
    exact bX10_rateIn_16 hC  hI hl hf
  replace hf := zif_f q hf
  refine lv_iconst (v := 1) hx hb dX10_rateIn_11 (by decide) ?_
  refine lv_goto (tgt := 16) hx hb dX10_rateIn_12 (by decide) ?_
  exact bX10_rateIn_16 hC  hI hl hf
set_option maxRecDepth 20000 in
theorem cX10_rateIn_met (st : Nat → Nat) (l : Launch) (D : va_G) (ad : Nat → Nat) (cy : Nat → ClassId) (σ : zSt) (x1 : Int32) (x2 : Int32) (res : zSt × Int32) (hf : fX10_rateIn σ x1 x2 = some res) (sz : Nat) : zMi st l yX10_rateIn wzX10_rateIn rmX10_rateIn [.ref (ad 5), .int x1, .int x2] D (tC cy) (wC ad cy) sz σ res :=
  zMi.of (cc := cX10_rateIn) (maxL := 5) (ret := (some .int)) (by decide) rfl (Nat.le_of_ble_eq_true rfl) (fun p e s m args below meth c hC A hI ls hl => bX10_rateIn hC hI hl hf)
theorem hdX10_rateIn : yX10_rateIn.cls = RX10 ∧ yX10_rateIn.cls ≠ "java/lang/invoke/MethodHandle" ∧ yX10_rateIn.cls ≠ "java/lang/invoke/VarHandle" ∧ (parseMethodDescriptor yX10_rateIn.desc).map (fun d => d.parameters.length) = some 2 := by decide +kernel
def rmX10_slowTick : Room := { frames := 0, cells := 0, slots := 0, locals := 0 }
def wzX10_slowTick : List Cond := .code yX10_slowTick cX10_slowTick 1 (some .int) :: wsL_law
theorem hinX10_slowTick_X100 : ∀ w ∈ wsX100, w ∈ wzX10_slowTick := fun w h => List.mem_cons_of_mem _ (inlX10 w h)
def fX10_slowTick  (σ : zSt)  : Option (zSt × Int32) :=
  zck (zin 66 272) (
  some (σ, 2 * (((zgi σ 32 (66 : Int32).toNatClampNeg) >>> ((2 : Int32) &&& 31)) &&& 3)))
set_option maxRecDepth 20000 in
set_option maxHeartbeats 4000000 in
theorem bX10_slowTick {st : Nat → Nat} {p : Program} {l : Launch} {e : Env} {s : State} {m : MethodId} {args : Array Value} {below : List Frame} {meth : Method} {c : Code} {D : va_G} {A : Nat → Prop} {ad : Nat → Nat} {cy : Nat → ClassId} (hC : zC p m c cX10_slowTick 1 s args wzX10_slowTick RX10 meth (some .int))  {res : zSt × Int32} {H : Heap} {locs : List Loc} {σ : zSt} {ls : Array Slot}  (hI : zI st D (tC cy) (wC ad cy σ) A s H locs) (hl : lv_has ls 1 [(0, .ref (ad 5))]) (hf : fX10_slowTick  σ  = some res) : W p l e rmX10_slowTick s m args below meth c H locs 0 0 (zQi below args s D (tC cy) (wC ad cy) A res) (F0 m 0 ls []) := by
  have hx := hC.1
  have hb := hC.2.1
  unfold fX10_slowTick at hf
  refine lv_iconst (v := 2) hx hb dX10_slowTick_0 (by decide) ?_
  refine lv_aload_n hx hb dX10_slowTick_1 rfl (lv_at hl 0 rfl) ?_
  refine z_get hC hI hinX10_slowTick_X100 5 (wC_e5 ad cy σ) rfl 0 (by decide) (List.mem_cons_of_mem _ zw6_4) rfl dX10_slowTick_2 ?_
  refine lv_bipush (v := 66) hx hb dX10_slowTick_5 (by decide) ?_
  obtain ⟨q, hf⟩ := zck_use hf
  refine z_iald hC hI 32 19 (wC_e32 ad cy σ) (tC_t32 cy) q dX10_slowTick_7 ?_
  refine lv_iconst (v := 2) hx hb dX10_slowTick_8 (by decide) ?_
  refine lv_ishr hx hb dX10_slowTick_9 ?_
  refine lv_iconst (v := 3) hx hb dX10_slowTick_10 (by decide) ?_
  refine lv_iand hx hb dX10_slowTick_11 ?_
  refine lv_imul hx hb dX10_slowTick_12 ?_
  exact z_ireturn hC hI hf dX10_slowTick_13
set_option maxRecDepth 20000 in
theorem cX10_slowTick_met (st : Nat → Nat) (l : Launch) (D : va_G) (ad : Nat → Nat) (cy : Nat → ClassId) (σ : zSt)  (res : zSt × Int32) (hf : fX10_slowTick σ  = some res) (sz : Nat) : zMi st l yX10_slowTick wzX10_slowTick rmX10_slowTick [.ref (ad 5)] D (tC cy) (wC ad cy) sz σ res :=
  zMi.of (cc := cX10_slowTick) (maxL := 1) (ret := (some .int)) (by decide) rfl (Nat.le_of_ble_eq_true rfl) (fun p e s m args below meth c hC A hI ls hl => bX10_slowTick hC hI hl hf)
theorem hdX10_slowTick : yX10_slowTick.cls = RX10 ∧ yX10_slowTick.cls ≠ "java/lang/invoke/MethodHandle" ∧ yX10_slowTick.cls ≠ "java/lang/invoke/VarHandle" ∧ (parseMethodDescriptor yX10_slowTick.desc).map (fun d => d.parameters.length) = some 0 := by decide +kernel
def rmX10_tickAt : Room := { frames := 0, cells := 0, slots := 0, locals := 0 }
def wzX10_tickAt : List Cond := .code yX10_tickAt cX10_tickAt 5 (some .int) :: wsL_law
theorem hinX10_tickAt_X100 : ∀ w ∈ wsX100, w ∈ wzX10_tickAt := fun w h => List.mem_cons_of_mem _ (inlX10 w h)
def fX10_tickAt_53  (σ : zSt) (s0 : Int32) : Option (zSt × Int32) :=
  some (σ, s0)
def fX10_tickAt_26  (σ : zSt) (x2 : Int32) (x3 : Int32) (s0 : Int32) : Option (zSt × Int32) :=
  if s0 = 0 then fX10_tickAt_53 σ 0 else
  zck (zin 66 272) (
  fX10_tickAt_53 σ ((x2 >>> ((((zgi σ 32 (66 : Int32).toNatClampNeg) >>> (x3 &&& 31)) &&& 7) &&& 31)) &&& 1))
def fX10_tickAt  (σ : zSt) (x1 : Int32) (x2 : Int32) : Option (zSt × Int32) :=
  zbv (13 - x1) (fun v1 =>
  zck (zin 66 272) (
  if ((zgi σ 32 (66 : Int32).toNatClampNeg) &&& ((1 <<< (v1 &&& 31)) - 1)) = 0 then fX10_tickAt_26 σ x2 v1 1 else
  fX10_tickAt_26 σ x2 v1 0))
set_option maxRecDepth 20000 in
set_option maxHeartbeats 4000000 in
theorem bX10_tickAt_53 {st : Nat → Nat} {p : Program} {l : Launch} {e : Env} {s : State} {m : MethodId} {args : Array Value} {below : List Frame} {meth : Method} {c : Code} {D : va_G} {A : Nat → Prop} {ad : Nat → Nat} {cy : Nat → ClassId} (hC : zC p m c cX10_tickAt 5 s args wzX10_tickAt RX10 meth (some .int))  {res : zSt × Int32} {H : Heap} {locs : List Loc} {σ : zSt} {ls : Array Slot} {s0 : Int32} (hI : zI st D (tC cy) (wC ad cy σ) A s H locs) (hl : lv_has ls 5 []) (hf : fX10_tickAt_53  σ s0 = some res) : W p l e rmX10_tickAt s m args below meth c H locs 0 0 (zQi below args s D (tC cy) (wC ad cy) A res) (F0 m 53 ls [.int s0]) := by
  have hx := hC.1
  have hb := hC.2.1
  unfold fX10_tickAt_53 at hf
  exact z_ireturn hC hI hf dX10_tickAt_53
set_option maxRecDepth 20000 in
set_option maxHeartbeats 4000000 in
theorem bX10_tickAt_26 {st : Nat → Nat} {p : Program} {l : Launch} {e : Env} {s : State} {m : MethodId} {args : Array Value} {below : List Frame} {meth : Method} {c : Code} {D : va_G} {A : Nat → Prop} {ad : Nat → Nat} {cy : Nat → ClassId} (hC : zC p m c cX10_tickAt 5 s args wzX10_tickAt RX10 meth (some .int))  {res : zSt × Int32} {H : Heap} {locs : List Loc} {σ : zSt} {ls : Array Slot} {x2 : Int32} {x3 : Int32} {s0 : Int32} (hI : zI st D (tC cy) (wC ad cy σ) A s H locs) (hl : lv_has ls 5 [(0, .ref (ad 5)), (2, .int x2), (3, .int x3)]) (hf : fX10_tickAt_26  σ x2 x3 s0 = some res) : W p l e rmX10_tickAt s m args below meth c H locs 0 0 (zQi below args s D (tC cy) (wC ad cy) A res) (F0 m 26 ls [.int s0]) := by
  have hx := hC.1
  have hb := hC.2.1
  unfold fX10_tickAt_26 at hf
  refine lv_istore (lv' := [(4, .int s0), (0, .ref (ad 5)), (2, .int x2), (3, .int x3)]) hx hb dX10_tickAt_26 hl (by decide) rfl (fun ls hl => ?_)
  refine lv_iload hx hb dX10_tickAt_28 (lv_at hl 0 rfl) ?_
  refine lv_if_eq (tgt := 52) hx hb dX10_tickAt_30 (by decide) (fun q => ?_) (fun q => ?_)
  · replace hf := zif_t q hf
    refine lv_iconst (v := 0) hx hb dX10_tickAt_52 (by decide) ?_
    exact bX10_tickAt_53 hC  hI (lv_sub hl [] rfl) hf
  replace hf := zif_f q hf
  refine lv_iload_n hx hb dX10_tickAt_33 rfl (lv_at hl 2 rfl) ?_
  refine lv_aload_n hx hb dX10_tickAt_34 rfl (lv_at hl 1 rfl) ?_
  refine z_get hC hI hinX10_tickAt_X100 5 (wC_e5 ad cy σ) rfl 0 (by decide) (List.mem_cons_of_mem _ zw6_4) rfl dX10_tickAt_35 ?_
  refine lv_bipush (v := 66) hx hb dX10_tickAt_38 (by decide) ?_
  obtain ⟨q, hf⟩ := zck_use hf
  refine z_iald hC hI 32 19 (wC_e32 ad cy σ) (tC_t32 cy) q dX10_tickAt_40 ?_
  refine lv_iload_n hx hb dX10_tickAt_41 rfl (lv_at hl 3 rfl) ?_
  refine lv_ishr hx hb dX10_tickAt_42 ?_
  refine lv_bipush (v := 7) hx hb dX10_tickAt_43 (by decide) ?_
  refine lv_iand hx hb dX10_tickAt_45 ?_
  refine lv_ishr hx hb dX10_tickAt_46 ?_
  refine lv_iconst (v := 1) hx hb dX10_tickAt_47 (by decide) ?_
  refine lv_iand hx hb dX10_tickAt_48 ?_
  refine lv_goto (tgt := 53) hx hb dX10_tickAt_49 (by decide) ?_
  exact bX10_tickAt_53 hC  hI (lv_sub hl [] rfl) hf
set_option maxRecDepth 20000 in
set_option maxHeartbeats 4000000 in
theorem bX10_tickAt {st : Nat → Nat} {p : Program} {l : Launch} {e : Env} {s : State} {m : MethodId} {args : Array Value} {below : List Frame} {meth : Method} {c : Code} {D : va_G} {A : Nat → Prop} {ad : Nat → Nat} {cy : Nat → ClassId} (hC : zC p m c cX10_tickAt 5 s args wzX10_tickAt RX10 meth (some .int))  {res : zSt × Int32} {H : Heap} {locs : List Loc} {σ : zSt} {ls : Array Slot} {x1 : Int32} {x2 : Int32} (hI : zI st D (tC cy) (wC ad cy σ) A s H locs) (hl : lv_has ls 5 [(0, .ref (ad 5)), (1, .int x1), (2, .int x2)]) (hf : fX10_tickAt  σ x1 x2 = some res) : W p l e rmX10_tickAt s m args below meth c H locs 0 0 (zQi below args s D (tC cy) (wC ad cy) A res) (F0 m 0 ls []) := by
  have hx := hC.1
  have hb := hC.2.1
  unfold fX10_tickAt at hf
  refine lv_bipush (v := 13) hx hb dX10_tickAt_0 (by decide) ?_
  refine lv_iload_n hx hb dX10_tickAt_2 rfl (lv_at hl 1 rfl) ?_
  refine lv_isub hx hb dX10_tickAt_3 ?_
  refine lv_topi (fun v1 ev1 => ?_)
  replace hf := zbv_use ev1 hf
  refine lv_istore_n (lv' := [(3, .int v1), (0, .ref (ad 5)), (1, .int x1), (2, .int x2)]) hx hb dX10_tickAt_4 rfl hl (by decide) rfl (fun ls hl => ?_)
  refine lv_aload_n hx hb dX10_tickAt_5 rfl (lv_at hl 1 rfl) ?_
  refine z_get hC hI hinX10_tickAt_X100 5 (wC_e5 ad cy σ) rfl 0 (by decide) (List.mem_cons_of_mem _ zw6_4) rfl dX10_tickAt_6 ?_
  refine lv_bipush (v := 66) hx hb dX10_tickAt_9 (by decide) ?_
  obtain ⟨q, hf⟩ := zck_use hf
  refine z_iald hC hI 32 19 (wC_e32 ad cy σ) (tC_t32 cy) q dX10_tickAt_11 ?_
  refine lv_iconst (v := 1) hx hb dX10_tickAt_12 (by decide) ?_
  refine lv_iload_n hx hb dX10_tickAt_13 rfl (lv_at hl 0 rfl) ?_
  refine lv_ishl hx hb dX10_tickAt_14 ?_
  refine lv_iconst (v := 1) hx hb dX10_tickAt_15 (by decide) ?_
  refine lv_isub hx hb dX10_tickAt_16 ?_
  refine lv_iand hx hb dX10_tickAt_17 ?_
  refine lv_if_ne (tgt := 25) hx hb dX10_tickAt_18 (by decide) (fun q => ?_) (fun q => ?_)
  · replace hf := zif_f q hf
    refine lv_iconst (v := 0) hx hb dX10_tickAt_25 (by decide) ?_
    exact bX10_tickAt_26 hC  hI (lv_sub hl [1, 3, 0] rfl) hf
  replace hf := zif_t q hf
  refine lv_iconst (v := 1) hx hb dX10_tickAt_21 (by decide) ?_
  refine lv_goto (tgt := 26) hx hb dX10_tickAt_22 (by decide) ?_
  exact bX10_tickAt_26 hC  hI (lv_sub hl [1, 3, 0] rfl) hf
set_option maxRecDepth 20000 in
theorem cX10_tickAt_met (st : Nat → Nat) (l : Launch) (D : va_G) (ad : Nat → Nat) (cy : Nat → ClassId) (σ : zSt) (x1 : Int32) (x2 : Int32) (res : zSt × Int32) (hf : fX10_tickAt σ x1 x2 = some res) (sz : Nat) : zMi st l yX10_tickAt wzX10_tickAt rmX10_tickAt [.ref (ad 5), .int x1, .int x2] D (tC cy) (wC ad cy) sz σ res :=
  zMi.of (cc := cX10_tickAt) (maxL := 5) (ret := (some .int)) (by decide) rfl (Nat.le_of_ble_eq_true rfl) (fun p e s m args below meth c hC A hI ls hl => bX10_tickAt hC hI hl hf)
theorem hdX10_tickAt : yX10_tickAt.cls = RX10 ∧ yX10_tickAt.cls ≠ "java/lang/invoke/MethodHandle" ∧ yX10_tickAt.cls ≠ "java/lang/invoke/VarHandle" ∧ (parseMethodDescriptor yX10_tickAt.desc).map (fun d => d.parameters.length) = some 2 := by decide +kernel
def rmX10_louder : Room := { frames := 1, cells := 0, slots := 0, locals := 24 }
def wzX10_louder : List Cond := .code yX10_louder cX10_louder 4 (some .int) :: wsL_law
def fX10_louder_56  (σ : zSt) (s0 : Int32) : Option (zSt × Int32) :=
  some (σ, s0)
def fX10_louder  (σ : zSt) (x1 : Int32) (x2 : Int32) (x3 : Int32) : Option (zSt × Int32) :=
  if x2 = 15 then some (σ, 0) else
  if x2 < 12 then zbi (fX10_tickAt σ x2 x3) (fun σ1 v2 =>
  if v2 = 1 then zck (decide (¬ 16 = 0)) (
  fX10_louder_56 σ1 ((x1 - (x1 / 16)) - 1)) else
  fX10_louder_56 σ1 x1) else
  zbi (fX10_slowTick σ ) (fun σ3 v4 =>
  some (σ3, (x1 - (x1 >>> (((16 - x2) - ((x3 >>> (v4 &&& 31)) &&& 1)) &&& 31))) - 1))
set_option maxRecDepth 20000 in
set_option maxHeartbeats 4000000 in
theorem bX10_louder_56 {st : Nat → Nat} {p : Program} {l : Launch} {e : Env} {s : State} {m : MethodId} {args : Array Value} {below : List Frame} {meth : Method} {c : Code} {D : va_G} {A : Nat → Prop} {ad : Nat → Nat} {cy : Nat → ClassId} (hC : zC p m c cX10_louder 4 s args wzX10_louder RX10 meth (some .int))  {res : zSt × Int32} {H : Heap} {locs : List Loc} {σ : zSt} {ls : Array Slot} {s0 : Int32} (hI : zI st D (tC cy) (wC ad cy σ) A s H locs) (hl : lv_has ls 4 []) (hf : fX10_louder_56  σ s0 = some res) : W p l e rmX10_louder s m args below meth c H locs 0 0 (zQi below args s D (tC cy) (wC ad cy) A res) (F0 m 56 ls [.int s0]) := by
  have hx := hC.1
  have hb := hC.2.1
  unfold fX10_louder_56 at hf
  exact z_ireturn hC hI hf dX10_louder_56
set_option maxRecDepth 20000 in
set_option maxHeartbeats 4000000 in
theorem bX10_louder {st : Nat → Nat} {p : Program} {l : Launch} {e : Env} {s : State} {m : MethodId} {args : Array Value} {below : List Frame} {meth : Method} {c : Code} {D : va_G} {A : Nat → Prop} {ad : Nat → Nat} {cy : Nat → ClassId} (hC : zC p m c cX10_louder 4 s args wzX10_louder RX10 meth (some .int))  {res : zSt × Int32} {H : Heap} {locs : List Loc} {σ : zSt} {ls : Array Slot} {x1 : Int32} {x2 : Int32} {x3 : Int32} (hI : zI st D (tC cy) (wC ad cy σ) A s H locs) (hl : lv_has ls 4 [(0, .ref (ad 5)), (1, .int x1), (2, .int x2), (3, .int x3)]) (hf : fX10_louder  σ x1 x2 x3 = some res) : W p l e rmX10_louder s m args below meth c H locs 0 0 (zQi below args s D (tC cy) (wC ad cy) A res) (F0 m 0 ls []) := by
  have hx := hC.1
  have hb := hC.2.1
  unfold fX10_louder at hf
  refine lv_iload_n hx hb dX10_louder_0 rfl (lv_at hl 2 rfl) ?_
  refine lv_bipush (v := 15) hx hb dX10_louder_1 (by decide) ?_
  refine lv_icmp_ne (tgt := 8) hx hb dX10_louder_3 (by decide) (fun q => ?_) (fun q => ?_)
  · replace hf := zif_f q hf
    refine lv_iload_n hx hb dX10_louder_8 rfl (lv_at hl 2 rfl) ?_
    refine lv_bipush (v := 12) hx hb dX10_louder_9 (by decide) ?_
    refine lv_icmp_lt (tgt := 34) hx hb dX10_louder_11 (by decide) (fun q => ?_) (fun q => ?_)
    · replace hf := zif_t q hf
      refine lv_aload_n hx hb dX10_louder_34 rfl (lv_at hl 0 rfl) ?_
      refine lv_iload_n hx hb dX10_louder_35 rfl (lv_at hl 2 rfl) ?_
      refine lv_iload_n hx hb dX10_louder_36 rfl (lv_at hl 3 rfl) ?_
      obtain ⟨σ1, v2, g1, hf⟩ := zbi_use hf
      refine z_callVi (As := [.int x2, .int x3]) (rest := []) hC hI (cX10_tickAt_met st l D ad cy σ x2 x3 _ g1) (zgV zw44_3 zw44_4 zw44_5 zw2_13 zw44_6) rfl ⟨rfl, rfl⟩ 2 hdX10_tickAt ⟨Nat.le_of_ble_eq_true rfl, Nat.le_of_ble_eq_true rfl⟩ rfl rfl (wC_e5 ad cy σ) rfl hl rfl (Nat.le_of_ble_eq_true rfl) dX10_louder_37 ⟨Nat.zero_le _, Nat.zero_le _⟩ (fun H locs hI => ?_)
      refine lv_iconst (v := 1) hx hb dX10_louder_40 (by decide) ?_
      refine lv_icmp_ne (tgt := 55) hx hb dX10_louder_41 (by decide) (fun q => ?_) (fun q => ?_)
      · replace hf := zif_f q hf
        refine lv_iload_n hx hb dX10_louder_55 rfl (lv_at hl 1 rfl) ?_
        exact bX10_louder_56 hC  hI (lv_sub hl [] rfl) hf
      replace hf := zif_t q hf
      refine lv_iload_n hx hb dX10_louder_44 rfl (lv_at hl 1 rfl) ?_
      refine lv_iload_n hx hb dX10_louder_45 rfl (lv_at hl 1 rfl) ?_
      refine lv_bipush (v := 16) hx hb dX10_louder_46 (by decide) ?_
      obtain ⟨q, hf⟩ := zck_use hf
      refine lv_idiv hx hb dX10_louder_48 (of_decide_eq_true q) ?_
      refine lv_isub hx hb dX10_louder_49 ?_
      refine lv_iconst (v := 1) hx hb dX10_louder_50 (by decide) ?_
      refine lv_isub hx hb dX10_louder_51 ?_
      refine lv_goto (tgt := 56) hx hb dX10_louder_52 (by decide) ?_
      exact bX10_louder_56 hC  hI (lv_sub hl [] rfl) hf
    replace hf := zif_f q hf
    refine lv_iload_n hx hb dX10_louder_14 rfl (lv_at hl 1 rfl) ?_
    refine lv_iload_n hx hb dX10_louder_15 rfl (lv_at hl 1 rfl) ?_
    refine lv_bipush (v := 16) hx hb dX10_louder_16 (by decide) ?_
    refine lv_iload_n hx hb dX10_louder_18 rfl (lv_at hl 2 rfl) ?_
    refine lv_isub hx hb dX10_louder_19 ?_
    refine lv_iload_n hx hb dX10_louder_20 rfl (lv_at hl 3 rfl) ?_
    refine lv_aload_n hx hb dX10_louder_21 rfl (lv_at hl 0 rfl) ?_
    obtain ⟨σ3, v4, g3, hf⟩ := zbi_use hf
    refine z_callVi (As := []) (rest := [.int x3, .int (16 - x2), .int x1, .int x1]) hC hI (cX10_slowTick_met st l D ad cy σ  _ g3) (zgV zw43_23 zw44_0 zw44_1 zw2_13 zw44_2) rfl ⟨rfl, rfl⟩ 0 hdX10_slowTick ⟨Nat.le_of_ble_eq_true rfl, Nat.le_of_ble_eq_true rfl⟩ rfl rfl (wC_e5 ad cy σ) rfl hl rfl (Nat.le_of_ble_eq_true rfl) dX10_louder_22 ⟨Nat.zero_le _, Nat.zero_le _⟩ (fun H locs hI => ?_)
    refine lv_ishr hx hb dX10_louder_25 ?_
    refine lv_iconst (v := 1) hx hb dX10_louder_26 (by decide) ?_
    refine lv_iand hx hb dX10_louder_27 ?_
    refine lv_isub hx hb dX10_louder_28 ?_
    refine lv_ishr hx hb dX10_louder_29 ?_
    refine lv_isub hx hb dX10_louder_30 ?_
    refine lv_iconst (v := 1) hx hb dX10_louder_31 (by decide) ?_
    refine lv_isub hx hb dX10_louder_32 ?_
    exact z_ireturn hC hI hf dX10_louder_33
  replace hf := zif_t q hf
  refine lv_iconst (v := 0) hx hb dX10_louder_6 (by decide) ?_
  exact z_ireturn hC hI hf dX10_louder_7
set_option maxRecDepth 20000 in
theorem cX10_louder_met (st : Nat → Nat) (l : Launch) (D : va_G) (ad : Nat → Nat) (cy : Nat → ClassId) (σ : zSt) (x1 : Int32) (x2 : Int32) (x3 : Int32) (res : zSt × Int32) (hf : fX10_louder σ x1 x2 x3 = some res) (sz : Nat) : zMi st l yX10_louder wzX10_louder rmX10_louder [.ref (ad 5), .int x1, .int x2, .int x3] D (tC cy) (wC ad cy) sz σ res :=
  zMi.of (cc := cX10_louder) (maxL := 4) (ret := (some .int)) (by decide) rfl (Nat.le_of_ble_eq_true rfl) (fun p e s m args below meth c hC A hI ls hl => bX10_louder hC hI hl hf)
theorem hdX10_louder : yX10_louder.cls = RX10 ∧ yX10_louder.cls ≠ "java/lang/invoke/MethodHandle" ∧ yX10_louder.cls ≠ "java/lang/invoke/VarHandle" ∧ (parseMethodDescriptor yX10_louder.desc).map (fun d => d.parameters.length) = some 3 := by decide +kernel
def rmX10_softer : Room := { frames := 1, cells := 0, slots := 0, locals := 24 }
def wzX10_softer : List Cond := .code yX10_softer cX10_softer 3 (some .int) :: wsL_law
theorem hinX10_softer_X100 : ∀ w ∈ wsX100, w ∈ wzX10_softer := fun w h => List.mem_cons_of_mem _ (inlX10 w h)
def fX10_softer  (σ : zSt) (x1 : Int32) (x2 : Int32) : Option (zSt × Int32) :=
  if x1 = 13 then zbi (fX10_slowTick σ ) (fun σ1 v2 =>
  zck (zin 66 272) (
  some (σ1, (x2 >>> ((v2 + ((zgi σ1 32 (66 : Int32).toNatClampNeg) &&& 1)) &&& 31)) &&& 1))) else
  if x1 = 14 then zbi (fX10_slowTick σ ) (fun σ3 v4 =>
  some (σ3, ((x2 >>> (v4 &&& 31)) &&& 1) + 1)) else
  if x1 = 15 then some (σ, 2) else
  zbi (fX10_tickAt σ x1 x2) (fun σ5 v6 =>
  some (σ5, v6))
set_option maxRecDepth 20000 in
set_option maxHeartbeats 4000000 in
theorem bX10_softer {st : Nat → Nat} {p : Program} {l : Launch} {e : Env} {s : State} {m : MethodId} {args : Array Value} {below : List Frame} {meth : Method} {c : Code} {D : va_G} {A : Nat → Prop} {ad : Nat → Nat} {cy : Nat → ClassId} (hC : zC p m c cX10_softer 3 s args wzX10_softer RX10 meth (some .int))  {res : zSt × Int32} {H : Heap} {locs : List Loc} {σ : zSt} {ls : Array Slot} {x1 : Int32} {x2 : Int32} (hI : zI st D (tC cy) (wC ad cy σ) A s H locs) (hl : lv_has ls 3 [(0, .ref (ad 5)), (1, .int x1), (2, .int x2)]) (hf : fX10_softer  σ x1 x2 = some res) : W p l e rmX10_softer s m args below meth c H locs 0 0 (zQi below args s D (tC cy) (wC ad cy) A res) (F0 m 0 ls []) := by
  have hx := hC.1
  have hb := hC.2.1
  unfold fX10_softer at hf
  refine lv_iload_n hx hb dX10_softer_0 rfl (lv_at hl 1 rfl) ?_
  by_cases q0 : x1 = 13
  · replace hf := zif_t q0 hf
    refine lv_tableIn (tgt := 41) hx hb dX10_softer_1 (by rw [q0]; decide) (by rw [q0]; decide) (by rw [q0]; rfl) (by decide) ?_
    refine lv_iload_n hx hb dX10_softer_41 rfl (lv_at hl 2 rfl) ?_
    refine lv_aload_n hx hb dX10_softer_42 rfl (lv_at hl 0 rfl) ?_
    obtain ⟨σ1, v2, g1, hf⟩ := zbi_use hf
    refine z_callVi (As := []) (rest := [.int x2]) hC hI (cX10_slowTick_met st l D ad cy σ  _ g1) (zgV zw43_23 zw44_0 zw44_1 zw2_13 zw44_2) rfl ⟨rfl, rfl⟩ 0 hdX10_slowTick ⟨Nat.le_of_ble_eq_true rfl, Nat.le_of_ble_eq_true rfl⟩ rfl rfl (wC_e5 ad cy σ) rfl hl rfl (Nat.le_of_ble_eq_true rfl) dX10_softer_43 ⟨Nat.zero_le _, Nat.zero_le _⟩ (fun H locs hI => ?_)
    refine lv_aload_n hx hb dX10_softer_46 rfl (lv_at hl 0 rfl) ?_
    refine z_get hC hI hinX10_softer_X100 5 (wC_e5 ad cy σ1) rfl 0 (by decide) (List.mem_cons_of_mem _ zw6_4) rfl dX10_softer_47 ?_
    refine lv_bipush (v := 66) hx hb dX10_softer_50 (by decide) ?_
    obtain ⟨q, hf⟩ := zck_use hf
    refine z_iald hC hI 32 19 (wC_e32 ad cy σ1) (tC_t32 cy) q dX10_softer_52 ?_
    refine lv_iconst (v := 1) hx hb dX10_softer_53 (by decide) ?_
    refine lv_iand hx hb dX10_softer_54 ?_
    refine lv_iadd hx hb dX10_softer_55 ?_
    refine lv_ishr hx hb dX10_softer_56 ?_
    refine lv_iconst (v := 1) hx hb dX10_softer_57 (by decide) ?_
    refine lv_iand hx hb dX10_softer_58 ?_
    exact z_ireturn hC hI hf dX10_softer_59
  replace hf := zif_f q0 hf
  by_cases q1 : x1 = 14
  · replace hf := zif_t q1 hf
    refine lv_tableIn (tgt := 30) hx hb dX10_softer_1 (by rw [q1]; decide) (by rw [q1]; decide) (by rw [q1]; rfl) (by decide) ?_
    refine lv_iload_n hx hb dX10_softer_30 rfl (lv_at hl 2 rfl) ?_
    refine lv_aload_n hx hb dX10_softer_31 rfl (lv_at hl 0 rfl) ?_
    obtain ⟨σ3, v4, g3, hf⟩ := zbi_use hf
    refine z_callVi (As := []) (rest := [.int x2]) hC hI (cX10_slowTick_met st l D ad cy σ  _ g3) (zgV zw43_23 zw44_0 zw44_1 zw2_13 zw44_2) rfl ⟨rfl, rfl⟩ 0 hdX10_slowTick ⟨Nat.le_of_ble_eq_true rfl, Nat.le_of_ble_eq_true rfl⟩ rfl rfl (wC_e5 ad cy σ) rfl hl rfl (Nat.le_of_ble_eq_true rfl) dX10_softer_32 ⟨Nat.zero_le _, Nat.zero_le _⟩ (fun H locs hI => ?_)
    refine lv_ishr hx hb dX10_softer_35 ?_
    refine lv_iconst (v := 1) hx hb dX10_softer_36 (by decide) ?_
    refine lv_iand hx hb dX10_softer_37 ?_
    refine lv_iconst (v := 1) hx hb dX10_softer_38 (by decide) ?_
    refine lv_iadd hx hb dX10_softer_39 ?_
    exact z_ireturn hC hI hf dX10_softer_40
  replace hf := zif_f q1 hf
  by_cases q2 : x1 = 15
  · replace hf := zif_t q2 hf
    refine lv_tableIn (tgt := 28) hx hb dX10_softer_1 (by rw [q2]; decide) (by rw [q2]; decide) (by rw [q2]; rfl) (by decide) ?_
    refine lv_iconst (v := 2) hx hb dX10_softer_28 (by decide) ?_
    exact z_ireturn hC hI hf dX10_softer_29
  replace hf := zif_f q2 hf
  refine lv_tableOut (tgt := 60) hx hb dX10_softer_1 (zsw (fun k h1 h2 => by rcases (show k = 13 ∨ k = 14 ∨ k = 15 by omega) with rfl | rfl | rfl <;> assumption)) (by decide) ?_
  refine lv_aload_n hx hb dX10_softer_60 rfl (lv_at hl 0 rfl) ?_
  refine lv_iload_n hx hb dX10_softer_61 rfl (lv_at hl 1 rfl) ?_
  refine lv_iload_n hx hb dX10_softer_62 rfl (lv_at hl 2 rfl) ?_
  obtain ⟨σ5, v6, g5, hf⟩ := zbi_use hf
  refine z_callVi (As := [.int x1, .int x2]) (rest := []) hC hI (cX10_tickAt_met st l D ad cy σ x1 x2 _ g5) (zgV zw44_3 zw44_4 zw44_5 zw2_13 zw44_6) rfl ⟨rfl, rfl⟩ 2 hdX10_tickAt ⟨Nat.le_of_ble_eq_true rfl, Nat.le_of_ble_eq_true rfl⟩ rfl rfl (wC_e5 ad cy σ) rfl hl rfl (Nat.le_of_ble_eq_true rfl) dX10_softer_63 ⟨Nat.zero_le _, Nat.zero_le _⟩ (fun H locs hI => ?_)
  exact z_ireturn hC hI hf dX10_softer_66
set_option maxRecDepth 20000 in
theorem cX10_softer_met (st : Nat → Nat) (l : Launch) (D : va_G) (ad : Nat → Nat) (cy : Nat → ClassId) (σ : zSt) (x1 : Int32) (x2 : Int32) (res : zSt × Int32) (hf : fX10_softer σ x1 x2 = some res) (sz : Nat) : zMi st l yX10_softer wzX10_softer rmX10_softer [.ref (ad 5), .int x1, .int x2] D (tC cy) (wC ad cy) sz σ res :=
  zMi.of (cc := cX10_softer) (maxL := 3) (ret := (some .int)) (by decide) rfl (Nat.le_of_ble_eq_true rfl) (fun p e s m args below meth c hC A hI ls hl => bX10_softer hC hI hl hf)
theorem hdX10_softer : yX10_softer.cls = RX10 ∧ yX10_softer.cls ≠ "java/lang/invoke/MethodHandle" ∧ yX10_softer.cls ≠ "java/lang/invoke/VarHandle" ∧ (parseMethodDescriptor yX10_softer.desc).map (fun d => d.parameters.length) = some 2 := by decide +kernel
def rmX10_moveLevel : Room := { frames := 2, cells := 0, slots := 0, locals := 47 }
def wzX10_moveLevel : List Cond := .code yX10_moveLevel cX10_moveLevel 7 none :: wsL_law
theorem hinX10_moveLevel_X100 : ∀ w ∈ wsX100, w ∈ wzX10_moveLevel := fun w h => List.mem_cons_of_mem _ (inlX10 w h)
def fX10_moveLevel_148  (σ : zSt)  : Option (zSt) :=
  some σ
def fX10_moveLevel_52  (σ : zSt) (x1 : Int32) (x3 : Int32) (x4 : Int32) : Option (zSt) :=
  zck (decide (¬ 4 = 0)) (
  zbv (zmin 15 (x3 + (x4 / 4))) (fun v1 =>
  zck (zin (x4 &&& 3) 4) (
  zbv (zt6 (x4 &&& 3).toNatClampNeg) (fun v2 =>
  zck (zin (x1 + 1) 272) (
  if (zgi σ 32 (x1 + 1).toNatClampNeg) = 1 then zck (zin (x1 + 0) 272) (
  zbi (fX10_louder σ (zgi σ 32 (x1 + 0).toNatClampNeg) v1 v2) (fun σ6 v7 =>
  zck (zin (x1 + 0) 272) (zbv (zsi σ6 32 ((x1 + 0).toNatClampNeg) (zmax 0 v7)) (fun σ8 =>
  fX10_moveLevel_148 σ8)))) else
  zck (zin (x1 + 0) 272) (
  zbi (fX10_softer σ v1 v2) (fun σ3 v4 =>
  zck (zin (x1 + 0) 272) (zbv (zsi σ3 32 ((x1 + 0).toNatClampNeg) (zmin 127 ((zgi σ 32 (x1 + 0).toNatClampNeg) + v4))) (fun σ5 =>
  fX10_moveLevel_148 σ5)))))))))
def fX10_moveLevel  (σ : zSt) (x1 : Int32) (x2 : Int32) : Option (zSt) :=
  zck (zin (x1 + 1) 272) (
  zbi (fX10_rateIn σ (zgi σ 32 (x1 + 1).toNatClampNeg) x2) (fun σ9 v10 =>
  if v10 = 0 then some σ9 else
  zbv ((2 * (zgi σ9 5 5)) + ((zgi σ9 5 4) >>> ((8 : Int32) &&& 31))) (fun v11 =>
  zbi (fX10_part σ9 x2) (fun σ12 v13 =>
  if (v13 &&& 16) = 0 then zck (decide (¬ 4 = 0)) (
  zbv (v11 / 4) (fun v14 =>
  fX10_moveLevel_52 σ12 x1 v10 v14)) else
  fX10_moveLevel_52 σ12 x1 v10 v11))))
set_option maxRecDepth 20000 in
set_option maxHeartbeats 4000000 in
theorem bX10_moveLevel_148 {st : Nat → Nat} {p : Program} {l : Launch} {e : Env} {s : State} {m : MethodId} {args : Array Value} {below : List Frame} {meth : Method} {c : Code} {D : va_G} {A : Nat → Prop} {ad : Nat → Nat} {cy : Nat → ClassId} (hC : zC p m c cX10_moveLevel 7 s args wzX10_moveLevel RX10 meth none)  {res : zSt} {H : Heap} {locs : List Loc} {σ : zSt} {ls : Array Slot}  (hI : zI st D (tC cy) (wC ad cy σ) A s H locs) (hl : lv_has ls 7 []) (hf : fX10_moveLevel_148  σ  = some res) : W p l e rmX10_moveLevel s m args below meth c H locs 0 0 (zQu below args s D (tC cy) (wC ad cy) A res) (F0 m 148 ls []) := by
  have hx := hC.1
  have hb := hC.2.1
  unfold fX10_moveLevel_148 at hf
  exact z_return hC hI hf dX10_moveLevel_148
set_option maxRecDepth 20000 in
set_option maxHeartbeats 4000000 in
theorem bX10_moveLevel_52 {st : Nat → Nat} {p : Program} {l : Launch} {e : Env} {s : State} {m : MethodId} {args : Array Value} {below : List Frame} {meth : Method} {c : Code} {D : va_G} {A : Nat → Prop} {ad : Nat → Nat} {cy : Nat → ClassId} (hC : zC p m c cX10_moveLevel 7 s args wzX10_moveLevel RX10 meth none)  {res : zSt} {H : Heap} {locs : List Loc} {σ : zSt} {ls : Array Slot} {x1 : Int32} {x3 : Int32} {x4 : Int32} (hI : zI st D (tC cy) (wC ad cy σ) A s H locs) (hl : lv_has ls 7 [(0, .ref (ad 5)), (1, .int x1), (3, .int x3), (4, .int x4)]) (hf : fX10_moveLevel_52  σ x1 x3 x4 = some res) : W p l e rmX10_moveLevel s m args below meth c H locs 0 0 (zQu below args s D (tC cy) (wC ad cy) A res) (F0 m 52 ls []) := by
  have hx := hC.1
  have hb := hC.2.1
  unfold fX10_moveLevel_52 at hf
  refine lv_bipush (v := 15) hx hb dX10_moveLevel_52 (by decide) ?_
  refine lv_iload_n hx hb dX10_moveLevel_54 rfl (lv_at hl 2 rfl) ?_
  refine lv_iload hx hb dX10_moveLevel_55 (lv_at hl 3 rfl) ?_
  refine lv_iconst (v := 4) hx hb dX10_moveLevel_57 (by decide) ?_
  obtain ⟨q, hf⟩ := zck_use hf
  refine lv_idiv hx hb dX10_moveLevel_58 (of_decide_eq_true q) ?_
  refine lv_iadd hx hb dX10_moveLevel_59 ?_
  refine z_mmin hC (List.mem_cons_of_mem _ zw43_8) (List.mem_cons_of_mem _ zw12_14) (List.mem_cons_of_mem _ zw12_15) (List.mem_cons_of_mem _ zw12_16) hl (Nat.le_of_ble_eq_true rfl) (Nat.le_of_ble_eq_true rfl) ⟨Nat.zero_le _, Nat.zero_le _⟩ dX10_moveLevel_60 ?_
  refine lv_topi (fun v1 ev1 => ?_)
  replace hf := zbv_use ev1 hf
  refine lv_istore (lv' := [(5, .int v1), (0, .ref (ad 5)), (1, .int x1), (3, .int x3), (4, .int x4)]) hx hb dX10_moveLevel_63 hl (by decide) rfl (fun ls hl => ?_)
  refine z_gets hC hI 6 (by decide) (List.mem_cons_of_mem _ zw43_9) dX10_moveLevel_65 ?_
  refine lv_iload hx hb dX10_moveLevel_68 (lv_at hl 4 rfl) ?_
  refine lv_iconst (v := 3) hx hb dX10_moveLevel_70 (by decide) ?_
  refine lv_iand hx hb dX10_moveLevel_71 ?_
  obtain ⟨q, hf⟩ := zck_use hf
  refine z_ti hC hI 6 (by decide) rfl rfl q rfl dX10_moveLevel_72 ?_
  refine lv_topi (fun v2 ev2 => ?_)
  replace hf := zbv_use ev2 hf
  refine lv_istore (lv' := [(6, .int v2), (5, .int v1), (0, .ref (ad 5)), (1, .int x1), (3, .int x3), (4, .int x4)]) hx hb dX10_moveLevel_73 hl (by decide) rfl (fun ls hl => ?_)
  refine lv_aload_n hx hb dX10_moveLevel_75 rfl (lv_at hl 2 rfl) ?_
  refine z_get hC hI hinX10_moveLevel_X100 5 (wC_e5 ad cy σ) rfl 0 (by decide) (List.mem_cons_of_mem _ zw6_4) rfl dX10_moveLevel_76 ?_
  refine lv_iload_n hx hb dX10_moveLevel_79 rfl (lv_at hl 3 rfl) ?_
  refine lv_iconst (v := 1) hx hb dX10_moveLevel_80 (by decide) ?_
  refine lv_iadd hx hb dX10_moveLevel_81 ?_
  obtain ⟨q, hf⟩ := zck_use hf
  refine z_iald hC hI 32 19 (wC_e32 ad cy σ) (tC_t32 cy) q dX10_moveLevel_82 ?_
  refine lv_iconst (v := 1) hx hb dX10_moveLevel_83 (by decide) ?_
  refine lv_icmp_ne (tgt := 118) hx hb dX10_moveLevel_84 (by decide) (fun q => ?_) (fun q => ?_)
  · replace hf := zif_f q hf
    refine lv_aload_n hx hb dX10_moveLevel_118 rfl (lv_at hl 2 rfl) ?_
    refine z_get hC hI hinX10_moveLevel_X100 5 (wC_e5 ad cy σ) rfl 0 (by decide) (List.mem_cons_of_mem _ zw6_4) rfl dX10_moveLevel_119 ?_
    refine lv_iload_n hx hb dX10_moveLevel_122 rfl (lv_at hl 3 rfl) ?_
    refine lv_iconst (v := 0) hx hb dX10_moveLevel_123 (by decide) ?_
    refine lv_iadd hx hb dX10_moveLevel_124 ?_
    refine lv_bipush (v := 127) hx hb dX10_moveLevel_125 (by decide) ?_
    refine lv_aload_n hx hb dX10_moveLevel_127 rfl (lv_at hl 2 rfl) ?_
    refine z_get hC hI hinX10_moveLevel_X100 5 (wC_e5 ad cy σ) rfl 0 (by decide) (List.mem_cons_of_mem _ zw6_4) rfl dX10_moveLevel_128 ?_
    refine lv_iload_n hx hb dX10_moveLevel_131 rfl (lv_at hl 3 rfl) ?_
    refine lv_iconst (v := 0) hx hb dX10_moveLevel_132 (by decide) ?_
    refine lv_iadd hx hb dX10_moveLevel_133 ?_
    obtain ⟨q, hf⟩ := zck_use hf
    refine z_iald hC hI 32 19 (wC_e32 ad cy σ) (tC_t32 cy) q dX10_moveLevel_134 ?_
    refine lv_aload_n hx hb dX10_moveLevel_135 rfl (lv_at hl 2 rfl) ?_
    refine lv_iload hx hb dX10_moveLevel_136 (lv_at hl 1 rfl) ?_
    refine lv_iload hx hb dX10_moveLevel_138 (lv_at hl 0 rfl) ?_
    obtain ⟨σ3, v4, g3, hf⟩ := zbi_use hf
    refine z_callVi (As := [.int v1, .int v2]) (rest := [.int (zgi σ 32 (x1 + 0).toNatClampNeg), .int 127, .int (x1 + 0), .ref (ad 32)]) hC hI (cX10_softer_met st l D ad cy σ v1 v2 _ g3) (zgV zw44_7 zw44_8 zw44_9 zw2_13 zw44_10) rfl ⟨rfl, rfl⟩ 2 hdX10_softer ⟨Nat.le_of_ble_eq_true rfl, Nat.le_of_ble_eq_true rfl⟩ rfl rfl (wC_e5 ad cy σ) rfl hl rfl (Nat.le_of_ble_eq_true rfl) dX10_moveLevel_140 ⟨Nat.zero_le _, Nat.zero_le _⟩ (fun H locs hI => ?_)
    refine lv_iadd hx hb dX10_moveLevel_143 ?_
    refine z_mmin hC (List.mem_cons_of_mem _ zw43_8) (List.mem_cons_of_mem _ zw12_14) (List.mem_cons_of_mem _ zw12_15) (List.mem_cons_of_mem _ zw12_16) hl (Nat.le_of_ble_eq_true rfl) (Nat.le_of_ble_eq_true rfl) ⟨Nat.zero_le _, Nat.zero_le _⟩ dX10_moveLevel_144 ?_
    obtain ⟨q, hf⟩ := zck_use hf
    obtain ⟨σ5, eσ5⟩ : ∃ z, z = zsi σ3 32 ((x1 + 0).toNatClampNeg) (zmin 127 ((zgi σ 32 (x1 + 0).toNatClampNeg) + v4)) := ⟨_, rfl⟩
    replace hf := zbv_use eσ5 hf
    refine z_iast hC hI 32 19 (wC_e32 ad cy σ3) (tC_t32 cy) q ((wC_s32 ad cy σ3 _ _).trans (congrArg (wC ad cy) eσ5.symm)) dX10_moveLevel_147 (fun H locs hI => ?_)
    exact bX10_moveLevel_148 hC  hI (lv_sub hl [] rfl) hf
  replace hf := zif_t q hf
  refine lv_aload_n hx hb dX10_moveLevel_87 rfl (lv_at hl 2 rfl) ?_
  refine z_get hC hI hinX10_moveLevel_X100 5 (wC_e5 ad cy σ) rfl 0 (by decide) (List.mem_cons_of_mem _ zw6_4) rfl dX10_moveLevel_88 ?_
  refine lv_iload_n hx hb dX10_moveLevel_91 rfl (lv_at hl 3 rfl) ?_
  refine lv_iconst (v := 0) hx hb dX10_moveLevel_92 (by decide) ?_
  refine lv_iadd hx hb dX10_moveLevel_93 ?_
  refine lv_iconst (v := 0) hx hb dX10_moveLevel_94 (by decide) ?_
  refine lv_aload_n hx hb dX10_moveLevel_95 rfl (lv_at hl 2 rfl) ?_
  refine lv_aload_n hx hb dX10_moveLevel_96 rfl (lv_at hl 2 rfl) ?_
  refine z_get hC hI hinX10_moveLevel_X100 5 (wC_e5 ad cy σ) rfl 0 (by decide) (List.mem_cons_of_mem _ zw6_4) rfl dX10_moveLevel_97 ?_
  refine lv_iload_n hx hb dX10_moveLevel_100 rfl (lv_at hl 3 rfl) ?_
  refine lv_iconst (v := 0) hx hb dX10_moveLevel_101 (by decide) ?_
  refine lv_iadd hx hb dX10_moveLevel_102 ?_
  obtain ⟨q, hf⟩ := zck_use hf
  refine z_iald hC hI 32 19 (wC_e32 ad cy σ) (tC_t32 cy) q dX10_moveLevel_103 ?_
  refine lv_iload hx hb dX10_moveLevel_104 (lv_at hl 1 rfl) ?_
  refine lv_iload hx hb dX10_moveLevel_106 (lv_at hl 0 rfl) ?_
  obtain ⟨σ6, v7, g6, hf⟩ := zbi_use hf
  refine z_callVi (As := [.int (zgi σ 32 (x1 + 0).toNatClampNeg), .int v1, .int v2]) (rest := [.int 0, .int (x1 + 0), .ref (ad 32)]) hC hI (cX10_louder_met st l D ad cy σ (zgi σ 32 (x1 + 0).toNatClampNeg) v1 v2 _ g6) (zgV zw43_19 zw43_20 zw43_21 zw2_13 zw43_22) rfl ⟨rfl, rfl⟩ 3 hdX10_louder ⟨Nat.le_of_ble_eq_true rfl, Nat.le_of_ble_eq_true rfl⟩ rfl rfl (wC_e5 ad cy σ) rfl hl rfl (Nat.le_of_ble_eq_true rfl) dX10_moveLevel_108 ⟨Nat.zero_le _, Nat.zero_le _⟩ (fun H locs hI => ?_)
  refine z_mmax hC (List.mem_cons_of_mem _ zw43_10) (List.mem_cons_of_mem _ zw12_18) (List.mem_cons_of_mem _ zw12_15) (List.mem_cons_of_mem _ zw12_19) hl (Nat.le_of_ble_eq_true rfl) (Nat.le_of_ble_eq_true rfl) ⟨Nat.zero_le _, Nat.zero_le _⟩ dX10_moveLevel_111 ?_
  obtain ⟨q, hf⟩ := zck_use hf
  obtain ⟨σ8, eσ8⟩ : ∃ z, z = zsi σ6 32 ((x1 + 0).toNatClampNeg) (zmax 0 v7) := ⟨_, rfl⟩
  replace hf := zbv_use eσ8 hf
  refine z_iast hC hI 32 19 (wC_e32 ad cy σ6) (tC_t32 cy) q ((wC_s32 ad cy σ6 _ _).trans (congrArg (wC ad cy) eσ8.symm)) dX10_moveLevel_114 (fun H locs hI => ?_)
  refine lv_goto (tgt := 148) hx hb dX10_moveLevel_115 (by decide) ?_
  exact bX10_moveLevel_148 hC  hI (lv_sub hl [] rfl) hf
set_option maxRecDepth 20000 in
set_option maxHeartbeats 4000000 in
theorem bX10_moveLevel {st : Nat → Nat} {p : Program} {l : Launch} {e : Env} {s : State} {m : MethodId} {args : Array Value} {below : List Frame} {meth : Method} {c : Code} {D : va_G} {A : Nat → Prop} {ad : Nat → Nat} {cy : Nat → ClassId} (hC : zC p m c cX10_moveLevel 7 s args wzX10_moveLevel RX10 meth none)  {res : zSt} {H : Heap} {locs : List Loc} {σ : zSt} {ls : Array Slot} {x1 : Int32} {x2 : Int32} (hI : zI st D (tC cy) (wC ad cy σ) A s H locs) (hl : lv_has ls 7 [(0, .ref (ad 5)), (1, .int x1), (2, .int x2)]) (hf : fX10_moveLevel  σ x1 x2 = some res) : W p l e rmX10_moveLevel s m args below meth c H locs 0 0 (zQu below args s D (tC cy) (wC ad cy) A res) (F0 m 0 ls []) := by
  have hx := hC.1
  have hb := hC.2.1
  unfold fX10_moveLevel at hf
  refine lv_aload_n hx hb dX10_moveLevel_0 rfl (lv_at hl 0 rfl) ?_
  refine lv_aload_n hx hb dX10_moveLevel_1 rfl (lv_at hl 0 rfl) ?_
  refine z_get hC hI hinX10_moveLevel_X100 5 (wC_e5 ad cy σ) rfl 0 (by decide) (List.mem_cons_of_mem _ zw6_4) rfl dX10_moveLevel_2 ?_
  refine lv_iload_n hx hb dX10_moveLevel_5 rfl (lv_at hl 1 rfl) ?_
  refine lv_iconst (v := 1) hx hb dX10_moveLevel_6 (by decide) ?_
  refine lv_iadd hx hb dX10_moveLevel_7 ?_
  obtain ⟨q, hf⟩ := zck_use hf
  refine z_iald hC hI 32 19 (wC_e32 ad cy σ) (tC_t32 cy) q dX10_moveLevel_8 ?_
  refine lv_iload_n hx hb dX10_moveLevel_9 rfl (lv_at hl 2 rfl) ?_
  obtain ⟨σ9, v10, g9, hf⟩ := zbi_use hf
  refine z_callVi (As := [.int (zgi σ 32 (x1 + 1).toNatClampNeg), .int x2]) (rest := []) hC hI (cX10_rateIn_met st l D ad cy σ (zgi σ 32 (x1 + 1).toNatClampNeg) x2 _ g9) (zgV zw43_11 zw43_12 zw43_13 zw2_13 zw43_14) rfl ⟨rfl, rfl⟩ 2 hdX10_rateIn ⟨Nat.le_of_ble_eq_true rfl, Nat.le_of_ble_eq_true rfl⟩ rfl rfl (wC_e5 ad cy σ) rfl hl rfl (Nat.le_of_ble_eq_true rfl) dX10_moveLevel_10 ⟨Nat.zero_le _, Nat.zero_le _⟩ (fun H locs hI => ?_)
  refine lv_istore_n (lv' := [(3, .int v10), (0, .ref (ad 5)), (1, .int x1), (2, .int x2)]) hx hb dX10_moveLevel_13 rfl hl (by decide) rfl (fun ls hl => ?_)
  refine lv_iload_n hx hb dX10_moveLevel_14 rfl (lv_at hl 0 rfl) ?_
  refine lv_if_ne (tgt := 19) hx hb dX10_moveLevel_15 (by decide) (fun q => ?_) (fun q => ?_)
  · replace hf := zif_f q hf
    refine lv_iconst (v := 2) hx hb dX10_moveLevel_19 (by decide) ?_
    refine lv_aload_n hx hb dX10_moveLevel_20 rfl (lv_at hl 1 rfl) ?_
    refine z_get hC hI hinX10_moveLevel_X100 5 (wC_e5 ad cy σ9) rfl 5 (by decide) (List.mem_cons_of_mem _ zw42_17) rfl dX10_moveLevel_21 ?_
    refine lv_imul hx hb dX10_moveLevel_24 ?_
    refine lv_aload_n hx hb dX10_moveLevel_25 rfl (lv_at hl 1 rfl) ?_
    refine z_get hC hI hinX10_moveLevel_X100 5 (wC_e5 ad cy σ9) rfl 4 (by decide) (List.mem_cons_of_mem _ zw42_16) rfl dX10_moveLevel_26 ?_
    refine lv_bipush (v := 8) hx hb dX10_moveLevel_29 (by decide) ?_
    refine lv_ishr hx hb dX10_moveLevel_31 ?_
    refine lv_iadd hx hb dX10_moveLevel_32 ?_
    refine lv_topi (fun v11 ev11 => ?_)
    replace hf := zbv_use ev11 hf
    refine lv_istore (lv' := [(4, .int v11), (3, .int v10), (0, .ref (ad 5)), (1, .int x1), (2, .int x2)]) hx hb dX10_moveLevel_33 hl (by decide) rfl (fun ls hl => ?_)
    refine lv_aload_n hx hb dX10_moveLevel_35 rfl (lv_at hl 2 rfl) ?_
    refine lv_iload_n hx hb dX10_moveLevel_36 rfl (lv_at hl 4 rfl) ?_
    obtain ⟨σ12, v13, g12, hf⟩ := zbi_use hf
    refine z_callVi (As := [.int x2]) (rest := []) hC hI (cX10_part_met st l D ad cy σ9 x2 _ g12) (zgV zw43_15 zw43_16 zw43_17 zw2_13 zw43_18) rfl ⟨rfl, rfl⟩ 1 hdX10_part ⟨Nat.le_of_ble_eq_true rfl, Nat.le_of_ble_eq_true rfl⟩ rfl rfl (wC_e5 ad cy σ9) rfl hl rfl (Nat.le_of_ble_eq_true rfl) dX10_moveLevel_37 ⟨Nat.zero_le _, Nat.zero_le _⟩ (fun H locs hI => ?_)
    refine lv_bipush (v := 16) hx hb dX10_moveLevel_40 (by decide) ?_
    refine lv_iand hx hb dX10_moveLevel_42 ?_
    refine lv_if_ne (tgt := 52) hx hb dX10_moveLevel_43 (by decide) (fun q => ?_) (fun q => ?_)
    · replace hf := zif_f q hf
      exact bX10_moveLevel_52 hC  hI (lv_sub hl [2, 3, 1, 0] rfl) hf
    replace hf := zif_t q hf
    refine lv_iload hx hb dX10_moveLevel_46 (lv_at hl 0 rfl) ?_
    refine lv_iconst (v := 4) hx hb dX10_moveLevel_48 (by decide) ?_
    obtain ⟨q, hf⟩ := zck_use hf
    refine lv_idiv hx hb dX10_moveLevel_49 (of_decide_eq_true q) ?_
    refine lv_topi (fun v14 ev14 => ?_)
    replace hf := zbv_use ev14 hf
    refine lv_istore (lv' := [(4, .int v14), (3, .int v10), (0, .ref (ad 5)), (1, .int x1), (2, .int x2)]) hx hb dX10_moveLevel_50 hl (by decide) rfl (fun ls hl => ?_)
    exact bX10_moveLevel_52 hC  hI (lv_sub hl [2, 3, 1, 0] rfl) hf
  replace hf := zif_t q hf
  exact z_return hC hI hf dX10_moveLevel_18
set_option maxRecDepth 20000 in
theorem cX10_moveLevel_met (st : Nat → Nat) (l : Launch) (D : va_G) (ad : Nat → Nat) (cy : Nat → ClassId) (σ : zSt) (x1 : Int32) (x2 : Int32) (res : zSt) (hf : fX10_moveLevel σ x1 x2 = some res) (sz : Nat) : zMu st l yX10_moveLevel wzX10_moveLevel rmX10_moveLevel [.ref (ad 5), .int x1, .int x2] D (tC cy) (wC ad cy) sz σ res :=
  zMu.of (cc := cX10_moveLevel) (maxL := 7) (ret := none) (by decide) rfl (Nat.le_of_ble_eq_true rfl) (fun p e s m args below meth c hC A hI ls hl => bX10_moveLevel hC hI hl hf)
theorem hdX10_moveLevel : yX10_moveLevel.cls = RX10 ∧ yX10_moveLevel.cls ≠ "java/lang/invoke/MethodHandle" ∧ yX10_moveLevel.cls ≠ "java/lang/invoke/VarHandle" ∧ (parseMethodDescriptor yX10_moveLevel.desc).map (fun d => d.parameters.length) = some 2 := by decide +kernel
def rmX10_moveState : Room := { frames := 0, cells := 0, slots := 0, locals := 0 }
def wzX10_moveState : List Cond := .code yX10_moveState cX10_moveState 5 none :: wsL_law
theorem hinX10_moveState_X100 : ∀ w ∈ wsX100, w ∈ wzX10_moveState := fun w h => List.mem_cons_of_mem _ (inlX10 w h)
def fX10_moveState_96  (σ : zSt)  : Option (zSt) :=
  some σ
def fX10_moveState_73  (σ : zSt) (x1 : Int32) (x2 : Int32) (x3 : Int32) (x4 : Int32) : Option (zSt) :=
  if x4 = 2 then zck (decide (¬ 8 = 0)) (
  if (x3 / 8) < x2 then fX10_moveState_96 σ else
  zck (zin (x1 + 1) 272) (zbv (zsi σ 32 ((x1 + 1).toNatClampNeg) 3) (fun σ1 =>
  fX10_moveState_96 σ1))) else
  fX10_moveState_96 σ
def fX10_moveState_51  (σ : zSt) (x1 : Int32) (x2 : Int32) (x3 : Int32) (x4 : Int32) : Option (zSt) :=
  if x4 = 1 then if x3 = 0 then zck (zin (x1 + 1) 272) (zbv (zsi σ 32 ((x1 + 1).toNatClampNeg) 2) (fun σ2 =>
  fX10_moveState_96 σ2)) else
  fX10_moveState_73 σ x1 x2 x3 x4 else
  fX10_moveState_73 σ x1 x2 x3 x4
def fX10_moveState  (σ : zSt) (x1 : Int32) (x2 : Int32) : Option (zSt) :=
  zck (zin (x1 + 0) 272) (
  zbv (zgi σ 32 (x1 + 0).toNatClampNeg) (fun v3 =>
  zck (zin (x1 + 1) 272) (
  zbv (zgi σ 32 (x1 + 1).toNatClampNeg) (fun v4 =>
  if v4 = 0 then if v3 < 124 then fX10_moveState_51 σ x1 x2 v3 v4 else
  zck (zin (x1 + 1) 272) (zbv (zsi σ 32 ((x1 + 1).toNatClampNeg) 1) (fun σ5 =>
  zck (zin (x1 + 2) 272) (zbv (zsi σ5 32 ((x1 + 2).toNatClampNeg) 0) (fun σ6 =>
  fX10_moveState_96 σ6)))) else
  fX10_moveState_51 σ x1 x2 v3 v4))))
set_option maxRecDepth 20000 in
set_option maxHeartbeats 4000000 in
theorem bX10_moveState_96 {st : Nat → Nat} {p : Program} {l : Launch} {e : Env} {s : State} {m : MethodId} {args : Array Value} {below : List Frame} {meth : Method} {c : Code} {D : va_G} {A : Nat → Prop} {ad : Nat → Nat} {cy : Nat → ClassId} (hC : zC p m c cX10_moveState 5 s args wzX10_moveState RX10 meth none)  {res : zSt} {H : Heap} {locs : List Loc} {σ : zSt} {ls : Array Slot}  (hI : zI st D (tC cy) (wC ad cy σ) A s H locs) (hl : lv_has ls 5 []) (hf : fX10_moveState_96  σ  = some res) : W p l e rmX10_moveState s m args below meth c H locs 0 0 (zQu below args s D (tC cy) (wC ad cy) A res) (F0 m 96 ls []) := by
  have hx := hC.1
  have hb := hC.2.1
  unfold fX10_moveState_96 at hf
  exact z_return hC hI hf dX10_moveState_96
set_option maxRecDepth 20000 in
set_option maxHeartbeats 4000000 in
theorem bX10_moveState_73 {st : Nat → Nat} {p : Program} {l : Launch} {e : Env} {s : State} {m : MethodId} {args : Array Value} {below : List Frame} {meth : Method} {c : Code} {D : va_G} {A : Nat → Prop} {ad : Nat → Nat} {cy : Nat → ClassId} (hC : zC p m c cX10_moveState 5 s args wzX10_moveState RX10 meth none)  {res : zSt} {H : Heap} {locs : List Loc} {σ : zSt} {ls : Array Slot} {x1 : Int32} {x2 : Int32} {x3 : Int32} {x4 : Int32} (hI : zI st D (tC cy) (wC ad cy σ) A s H locs) (hl : lv_has ls 5 [(0, .ref (ad 5)), (1, .int x1), (2, .int x2), (3, .int x3), (4, .int x4)]) (hf : fX10_moveState_73  σ x1 x2 x3 x4 = some res) : W p l e rmX10_moveState s m args below meth c H locs 0 0 (zQu below args s D (tC cy) (wC ad cy) A res) (F0 m 73 ls []) := by
  have hx := hC.1
  have hb := hC.2.1
  unfold fX10_moveState_73 at hf
  refine lv_iload hx hb dX10_moveState_73 (lv_at hl 4 rfl) ?_
  refine lv_iconst (v := 2) hx hb dX10_moveState_75 (by decide) ?_
  refine lv_icmp_ne (tgt := 96) hx hb dX10_moveState_76 (by decide) (fun q => ?_) (fun q => ?_)
  · replace hf := zif_f q hf
    exact bX10_moveState_96 hC  hI (lv_sub hl [] rfl) hf
  replace hf := zif_t q hf
  refine lv_iload_n hx hb dX10_moveState_79 rfl (lv_at hl 3 rfl) ?_
  refine lv_bipush (v := 8) hx hb dX10_moveState_80 (by decide) ?_
  obtain ⟨q, hf⟩ := zck_use hf
  refine lv_idiv hx hb dX10_moveState_82 (of_decide_eq_true q) ?_
  refine lv_iload_n hx hb dX10_moveState_83 rfl (lv_at hl 2 rfl) ?_
  refine lv_icmp_lt (tgt := 96) hx hb dX10_moveState_84 (by decide) (fun q => ?_) (fun q => ?_)
  · replace hf := zif_t q hf
    exact bX10_moveState_96 hC  hI (lv_sub hl [] rfl) hf
  replace hf := zif_f q hf
  refine lv_aload_n hx hb dX10_moveState_87 rfl (lv_at hl 0 rfl) ?_
  refine z_get hC hI hinX10_moveState_X100 5 (wC_e5 ad cy σ) rfl 0 (by decide) (List.mem_cons_of_mem _ zw6_4) rfl dX10_moveState_88 ?_
  refine lv_iload_n hx hb dX10_moveState_91 rfl (lv_at hl 1 rfl) ?_
  refine lv_iconst (v := 1) hx hb dX10_moveState_92 (by decide) ?_
  refine lv_iadd hx hb dX10_moveState_93 ?_
  refine lv_iconst (v := 3) hx hb dX10_moveState_94 (by decide) ?_
  obtain ⟨q, hf⟩ := zck_use hf
  obtain ⟨σ1, eσ1⟩ : ∃ z, z = zsi σ 32 ((x1 + 1).toNatClampNeg) 3 := ⟨_, rfl⟩
  replace hf := zbv_use eσ1 hf
  refine z_iast hC hI 32 19 (wC_e32 ad cy σ) (tC_t32 cy) q ((wC_s32 ad cy σ _ _).trans (congrArg (wC ad cy) eσ1.symm)) dX10_moveState_95 (fun H locs hI => ?_)
  exact bX10_moveState_96 hC  hI (lv_sub hl [] rfl) hf
set_option maxRecDepth 20000 in
set_option maxHeartbeats 4000000 in
theorem bX10_moveState_51 {st : Nat → Nat} {p : Program} {l : Launch} {e : Env} {s : State} {m : MethodId} {args : Array Value} {below : List Frame} {meth : Method} {c : Code} {D : va_G} {A : Nat → Prop} {ad : Nat → Nat} {cy : Nat → ClassId} (hC : zC p m c cX10_moveState 5 s args wzX10_moveState RX10 meth none)  {res : zSt} {H : Heap} {locs : List Loc} {σ : zSt} {ls : Array Slot} {x1 : Int32} {x2 : Int32} {x3 : Int32} {x4 : Int32} (hI : zI st D (tC cy) (wC ad cy σ) A s H locs) (hl : lv_has ls 5 [(0, .ref (ad 5)), (1, .int x1), (2, .int x2), (3, .int x3), (4, .int x4)]) (hf : fX10_moveState_51  σ x1 x2 x3 x4 = some res) : W p l e rmX10_moveState s m args below meth c H locs 0 0 (zQu below args s D (tC cy) (wC ad cy) A res) (F0 m 51 ls []) := by
  have hx := hC.1
  have hb := hC.2.1
  unfold fX10_moveState_51 at hf
  refine lv_iload hx hb dX10_moveState_51 (lv_at hl 4 rfl) ?_
  refine lv_iconst (v := 1) hx hb dX10_moveState_53 (by decide) ?_
  refine lv_icmp_ne (tgt := 73) hx hb dX10_moveState_54 (by decide) (fun q => ?_) (fun q => ?_)
  · replace hf := zif_f q hf
    exact bX10_moveState_73 hC  hI hl hf
  replace hf := zif_t q hf
  refine lv_iload_n hx hb dX10_moveState_57 rfl (lv_at hl 3 rfl) ?_
  refine lv_if_ne (tgt := 73) hx hb dX10_moveState_58 (by decide) (fun q => ?_) (fun q => ?_)
  · replace hf := zif_f q hf
    exact bX10_moveState_73 hC  hI hl hf
  replace hf := zif_t q hf
  refine lv_aload_n hx hb dX10_moveState_61 rfl (lv_at hl 0 rfl) ?_
  refine z_get hC hI hinX10_moveState_X100 5 (wC_e5 ad cy σ) rfl 0 (by decide) (List.mem_cons_of_mem _ zw6_4) rfl dX10_moveState_62 ?_
  refine lv_iload_n hx hb dX10_moveState_65 rfl (lv_at hl 1 rfl) ?_
  refine lv_iconst (v := 1) hx hb dX10_moveState_66 (by decide) ?_
  refine lv_iadd hx hb dX10_moveState_67 ?_
  refine lv_iconst (v := 2) hx hb dX10_moveState_68 (by decide) ?_
  obtain ⟨q, hf⟩ := zck_use hf
  obtain ⟨σ2, eσ2⟩ : ∃ z, z = zsi σ 32 ((x1 + 1).toNatClampNeg) 2 := ⟨_, rfl⟩
  replace hf := zbv_use eσ2 hf
  refine z_iast hC hI 32 19 (wC_e32 ad cy σ) (tC_t32 cy) q ((wC_s32 ad cy σ _ _).trans (congrArg (wC ad cy) eσ2.symm)) dX10_moveState_69 (fun H locs hI => ?_)
  refine lv_goto (tgt := 96) hx hb dX10_moveState_70 (by decide) ?_
  exact bX10_moveState_96 hC  hI (lv_sub hl [] rfl) hf
set_option maxRecDepth 20000 in
set_option maxHeartbeats 4000000 in
theorem bX10_moveState {st : Nat → Nat} {p : Program} {l : Launch} {e : Env} {s : State} {m : MethodId} {args : Array Value} {below : List Frame} {meth : Method} {c : Code} {D : va_G} {A : Nat → Prop} {ad : Nat → Nat} {cy : Nat → ClassId} (hC : zC p m c cX10_moveState 5 s args wzX10_moveState RX10 meth none)  {res : zSt} {H : Heap} {locs : List Loc} {σ : zSt} {ls : Array Slot} {x1 : Int32} {x2 : Int32} (hI : zI st D (tC cy) (wC ad cy σ) A s H locs) (hl : lv_has ls 5 [(0, .ref (ad 5)), (1, .int x1), (2, .int x2)]) (hf : fX10_moveState  σ x1 x2 = some res) : W p l e rmX10_moveState s m args below meth c H locs 0 0 (zQu below args s D (tC cy) (wC ad cy) A res) (F0 m 0 ls []) := by
  have hx := hC.1
  have hb := hC.2.1
  unfold fX10_moveState at hf
  refine lv_aload_n hx hb dX10_moveState_0 rfl (lv_at hl 0 rfl) ?_
  refine z_get hC hI hinX10_moveState_X100 5 (wC_e5 ad cy σ) rfl 0 (by decide) (List.mem_cons_of_mem _ zw6_4) rfl dX10_moveState_1 ?_
  refine lv_iload_n hx hb dX10_moveState_4 rfl (lv_at hl 1 rfl) ?_
  refine lv_iconst (v := 0) hx hb dX10_moveState_5 (by decide) ?_
  refine lv_iadd hx hb dX10_moveState_6 ?_
  obtain ⟨q, hf⟩ := zck_use hf
  refine z_iald hC hI 32 19 (wC_e32 ad cy σ) (tC_t32 cy) q dX10_moveState_7 ?_
  refine lv_topi (fun v3 ev3 => ?_)
  replace hf := zbv_use ev3 hf
  refine lv_istore_n (lv' := [(3, .int v3), (0, .ref (ad 5)), (1, .int x1), (2, .int x2)]) hx hb dX10_moveState_8 rfl hl (by decide) rfl (fun ls hl => ?_)
  refine lv_aload_n hx hb dX10_moveState_9 rfl (lv_at hl 1 rfl) ?_
  refine z_get hC hI hinX10_moveState_X100 5 (wC_e5 ad cy σ) rfl 0 (by decide) (List.mem_cons_of_mem _ zw6_4) rfl dX10_moveState_10 ?_
  refine lv_iload_n hx hb dX10_moveState_13 rfl (lv_at hl 2 rfl) ?_
  refine lv_iconst (v := 1) hx hb dX10_moveState_14 (by decide) ?_
  refine lv_iadd hx hb dX10_moveState_15 ?_
  obtain ⟨q, hf⟩ := zck_use hf
  refine z_iald hC hI 32 19 (wC_e32 ad cy σ) (tC_t32 cy) q dX10_moveState_16 ?_
  refine lv_topi (fun v4 ev4 => ?_)
  replace hf := zbv_use ev4 hf
  refine lv_istore (lv' := [(4, .int v4), (3, .int v3), (0, .ref (ad 5)), (1, .int x1), (2, .int x2)]) hx hb dX10_moveState_17 hl (by decide) rfl (fun ls hl => ?_)
  refine lv_iload hx hb dX10_moveState_19 (lv_at hl 0 rfl) ?_
  refine lv_if_ne (tgt := 51) hx hb dX10_moveState_21 (by decide) (fun q => ?_) (fun q => ?_)
  · replace hf := zif_f q hf
    exact bX10_moveState_51 hC  hI (lv_sub hl [2, 3, 4, 1, 0] rfl) hf
  replace hf := zif_t q hf
  refine lv_iload_n hx hb dX10_moveState_24 rfl (lv_at hl 1 rfl) ?_
  refine lv_bipush (v := 124) hx hb dX10_moveState_25 (by decide) ?_
  refine lv_icmp_lt (tgt := 51) hx hb dX10_moveState_27 (by decide) (fun q => ?_) (fun q => ?_)
  · replace hf := zif_t q hf
    exact bX10_moveState_51 hC  hI (lv_sub hl [2, 3, 4, 1, 0] rfl) hf
  replace hf := zif_f q hf
  refine lv_aload_n hx hb dX10_moveState_30 rfl (lv_at hl 2 rfl) ?_
  refine z_get hC hI hinX10_moveState_X100 5 (wC_e5 ad cy σ) rfl 0 (by decide) (List.mem_cons_of_mem _ zw6_4) rfl dX10_moveState_31 ?_
  refine lv_iload_n hx hb dX10_moveState_34 rfl (lv_at hl 3 rfl) ?_
  refine lv_iconst (v := 1) hx hb dX10_moveState_35 (by decide) ?_
  refine lv_iadd hx hb dX10_moveState_36 ?_
  refine lv_iconst (v := 1) hx hb dX10_moveState_37 (by decide) ?_
  obtain ⟨q, hf⟩ := zck_use hf
  obtain ⟨σ5, eσ5⟩ : ∃ z, z = zsi σ 32 ((x1 + 1).toNatClampNeg) 1 := ⟨_, rfl⟩
  replace hf := zbv_use eσ5 hf
  refine z_iast hC hI 32 19 (wC_e32 ad cy σ) (tC_t32 cy) q ((wC_s32 ad cy σ _ _).trans (congrArg (wC ad cy) eσ5.symm)) dX10_moveState_38 (fun H locs hI => ?_)
  refine lv_aload_n hx hb dX10_moveState_39 rfl (lv_at hl 2 rfl) ?_
  refine z_get hC hI hinX10_moveState_X100 5 (wC_e5 ad cy σ5) rfl 0 (by decide) (List.mem_cons_of_mem _ zw6_4) rfl dX10_moveState_40 ?_
  refine lv_iload_n hx hb dX10_moveState_43 rfl (lv_at hl 3 rfl) ?_
  refine lv_iconst (v := 2) hx hb dX10_moveState_44 (by decide) ?_
  refine lv_iadd hx hb dX10_moveState_45 ?_
  refine lv_iconst (v := 0) hx hb dX10_moveState_46 (by decide) ?_
  obtain ⟨q, hf⟩ := zck_use hf
  obtain ⟨σ6, eσ6⟩ : ∃ z, z = zsi σ5 32 ((x1 + 2).toNatClampNeg) 0 := ⟨_, rfl⟩
  replace hf := zbv_use eσ6 hf
  refine z_iast hC hI 32 19 (wC_e32 ad cy σ5) (tC_t32 cy) q ((wC_s32 ad cy σ5 _ _).trans (congrArg (wC ad cy) eσ6.symm)) dX10_moveState_47 (fun H locs hI => ?_)
  refine lv_goto (tgt := 96) hx hb dX10_moveState_48 (by decide) ?_
  exact bX10_moveState_96 hC  hI (lv_sub hl [] rfl) hf
set_option maxRecDepth 20000 in
theorem cX10_moveState_met (st : Nat → Nat) (l : Launch) (D : va_G) (ad : Nat → Nat) (cy : Nat → ClassId) (σ : zSt) (x1 : Int32) (x2 : Int32) (res : zSt) (hf : fX10_moveState σ x1 x2 = some res) (sz : Nat) : zMu st l yX10_moveState wzX10_moveState rmX10_moveState [.ref (ad 5), .int x1, .int x2] D (tC cy) (wC ad cy) sz σ res :=
  zMu.of (cc := cX10_moveState) (maxL := 5) (ret := none) (by decide) rfl (Nat.le_of_ble_eq_true rfl) (fun p e s m args below meth c hC A hI ls hl => bX10_moveState hC hI hl hf)
theorem hdX10_moveState : yX10_moveState.cls = RX10 ∧ yX10_moveState.cls ≠ "java/lang/invoke/MethodHandle" ∧ yX10_moveState.cls ≠ "java/lang/invoke/VarHandle" ∧ (parseMethodDescriptor yX10_moveState.desc).map (fun d => d.parameters.length) = some 2 := by decide +kernel
def rmX10_sway : Room := { frames := 0, cells := 0, slots := 0, locals := 0 }
def wzX10_sway : List Cond := .code yX10_sway cX10_sway 2 (some .int) :: wsL_law
theorem hinX10_sway_X100 : ∀ w ∈ wsX100, w ∈ wzX10_sway := fun w h => List.mem_cons_of_mem _ (inlX10 w h)
def fX10_sway_56  (σ : zSt) (x1 : Int32) : Option (zSt × Int32) :=
  zck (decide (¬ 2 = 0)) (
  some (σ, x1 / 2))
def fX10_sway_70  (σ : zSt)  : Option (zSt × Int32) :=
  some (σ, 0)
def fX10_sway_62  (σ : zSt) (x1 : Int32) : Option (zSt × Int32) :=
  zck (decide (¬ 2 = 0)) (
  some (σ, -(x1 / 2)))
def fX10_sway  (σ : zSt) (x1 : Int32) : Option (zSt × Int32) :=
  zck (zin 66 272) (
  if (((zgi σ 32 (66 : Int32).toNatClampNeg) >>> ((10 : Int32) &&& 31)) &&& 7) = 1 then fX10_sway_56 σ x1 else
  if (((zgi σ 32 (66 : Int32).toNatClampNeg) >>> ((10 : Int32) &&& 31)) &&& 7) = 2 then some (σ, x1) else
  if (((zgi σ 32 (66 : Int32).toNatClampNeg) >>> ((10 : Int32) &&& 31)) &&& 7) = 3 then fX10_sway_56 σ x1 else
  if (((zgi σ 32 (66 : Int32).toNatClampNeg) >>> ((10 : Int32) &&& 31)) &&& 7) = 4 then fX10_sway_70 σ else
  if (((zgi σ 32 (66 : Int32).toNatClampNeg) >>> ((10 : Int32) &&& 31)) &&& 7) = 5 then fX10_sway_62 σ x1 else
  if (((zgi σ 32 (66 : Int32).toNatClampNeg) >>> ((10 : Int32) &&& 31)) &&& 7) = 6 then some (σ, -x1) else
  if (((zgi σ 32 (66 : Int32).toNatClampNeg) >>> ((10 : Int32) &&& 31)) &&& 7) = 7 then fX10_sway_62 σ x1 else
  fX10_sway_70 σ)
set_option maxRecDepth 20000 in
set_option maxHeartbeats 4000000 in
theorem bX10_sway_56 {st : Nat → Nat} {p : Program} {l : Launch} {e : Env} {s : State} {m : MethodId} {args : Array Value} {below : List Frame} {meth : Method} {c : Code} {D : va_G} {A : Nat → Prop} {ad : Nat → Nat} {cy : Nat → ClassId} (hC : zC p m c cX10_sway 2 s args wzX10_sway RX10 meth (some .int))  {res : zSt × Int32} {H : Heap} {locs : List Loc} {σ : zSt} {ls : Array Slot} {x1 : Int32} (hI : zI st D (tC cy) (wC ad cy σ) A s H locs) (hl : lv_has ls 2 [(1, .int x1)]) (hf : fX10_sway_56  σ x1 = some res) : W p l e rmX10_sway s m args below meth c H locs 0 0 (zQi below args s D (tC cy) (wC ad cy) A res) (F0 m 56 ls []) := by
  have hx := hC.1
  have hb := hC.2.1
  unfold fX10_sway_56 at hf
  refine lv_iload_n hx hb dX10_sway_56 rfl (lv_at hl 0 rfl) ?_
  refine lv_iconst (v := 2) hx hb dX10_sway_57 (by decide) ?_
  obtain ⟨q, hf⟩ := zck_use hf
  refine lv_idiv hx hb dX10_sway_58 (of_decide_eq_true q) ?_
  exact z_ireturn hC hI hf dX10_sway_59
set_option maxRecDepth 20000 in
set_option maxHeartbeats 4000000 in
theorem bX10_sway_70 {st : Nat → Nat} {p : Program} {l : Launch} {e : Env} {s : State} {m : MethodId} {args : Array Value} {below : List Frame} {meth : Method} {c : Code} {D : va_G} {A : Nat → Prop} {ad : Nat → Nat} {cy : Nat → ClassId} (hC : zC p m c cX10_sway 2 s args wzX10_sway RX10 meth (some .int))  {res : zSt × Int32} {H : Heap} {locs : List Loc} {σ : zSt} {ls : Array Slot}  (hI : zI st D (tC cy) (wC ad cy σ) A s H locs) (hl : lv_has ls 2 []) (hf : fX10_sway_70  σ  = some res) : W p l e rmX10_sway s m args below meth c H locs 0 0 (zQi below args s D (tC cy) (wC ad cy) A res) (F0 m 70 ls []) := by
  have hx := hC.1
  have hb := hC.2.1
  unfold fX10_sway_70 at hf
  refine lv_iconst (v := 0) hx hb dX10_sway_70 (by decide) ?_
  exact z_ireturn hC hI hf dX10_sway_71
set_option maxRecDepth 20000 in
set_option maxHeartbeats 4000000 in
theorem bX10_sway_62 {st : Nat → Nat} {p : Program} {l : Launch} {e : Env} {s : State} {m : MethodId} {args : Array Value} {below : List Frame} {meth : Method} {c : Code} {D : va_G} {A : Nat → Prop} {ad : Nat → Nat} {cy : Nat → ClassId} (hC : zC p m c cX10_sway 2 s args wzX10_sway RX10 meth (some .int))  {res : zSt × Int32} {H : Heap} {locs : List Loc} {σ : zSt} {ls : Array Slot} {x1 : Int32} (hI : zI st D (tC cy) (wC ad cy σ) A s H locs) (hl : lv_has ls 2 [(1, .int x1)]) (hf : fX10_sway_62  σ x1 = some res) : W p l e rmX10_sway s m args below meth c H locs 0 0 (zQi below args s D (tC cy) (wC ad cy) A res) (F0 m 62 ls []) := by
  have hx := hC.1
  have hb := hC.2.1
  unfold fX10_sway_62 at hf
  refine lv_iload_n hx hb dX10_sway_62 rfl (lv_at hl 0 rfl) ?_
  refine lv_iconst (v := 2) hx hb dX10_sway_63 (by decide) ?_
  obtain ⟨q, hf⟩ := zck_use hf
  refine lv_idiv hx hb dX10_sway_64 (of_decide_eq_true q) ?_
  refine lv_ineg hx hb dX10_sway_65 ?_
  exact z_ireturn hC hI hf dX10_sway_66
set_option maxRecDepth 20000 in
set_option maxHeartbeats 4000000 in
theorem bX10_sway {st : Nat → Nat} {p : Program} {l : Launch} {e : Env} {s : State} {m : MethodId} {args : Array Value} {below : List Frame} {meth : Method} {c : Code} {D : va_G} {A : Nat → Prop} {ad : Nat → Nat} {cy : Nat → ClassId} (hC : zC p m c cX10_sway 2 s args wzX10_sway RX10 meth (some .int))  {res : zSt × Int32} {H : Heap} {locs : List Loc} {σ : zSt} {ls : Array Slot} {x1 : Int32} (hI : zI st D (tC cy) (wC ad cy σ) A s H locs) (hl : lv_has ls 2 [(0, .ref (ad 5)), (1, .int x1)]) (hf : fX10_sway  σ x1 = some res) : W p l e rmX10_sway s m args below meth c H locs 0 0 (zQi below args s D (tC cy) (wC ad cy) A res) (F0 m 0 ls []) := by
  have hx := hC.1
  have hb := hC.2.1
  unfold fX10_sway at hf
  refine lv_aload_n hx hb dX10_sway_0 rfl (lv_at hl 0 rfl) ?_
  refine z_get hC hI hinX10_sway_X100 5 (wC_e5 ad cy σ) rfl 0 (by decide) (List.mem_cons_of_mem _ zw6_4) rfl dX10_sway_1 ?_
  refine lv_bipush (v := 66) hx hb dX10_sway_4 (by decide) ?_
  obtain ⟨q, hf⟩ := zck_use hf
  refine z_iald hC hI 32 19 (wC_e32 ad cy σ) (tC_t32 cy) q dX10_sway_6 ?_
  refine lv_bipush (v := 10) hx hb dX10_sway_7 (by decide) ?_
  refine lv_ishr hx hb dX10_sway_9 ?_
  refine lv_bipush (v := 7) hx hb dX10_sway_10 (by decide) ?_
  refine lv_iand hx hb dX10_sway_12 ?_
  by_cases q0 : (((zgi σ 32 (66 : Int32).toNatClampNeg) >>> ((10 : Int32) &&& 31)) &&& 7) = 1
  · replace hf := zif_t q0 hf
    refine lv_tableIn (tgt := 56) hx hb dX10_sway_13 (by rw [q0]; decide) (by rw [q0]; decide) (by rw [q0]; rfl) (by decide) ?_
    exact bX10_sway_56 hC  hI (lv_sub hl [1] rfl) hf
  replace hf := zif_f q0 hf
  by_cases q1 : (((zgi σ 32 (66 : Int32).toNatClampNeg) >>> ((10 : Int32) &&& 31)) &&& 7) = 2
  · replace hf := zif_t q1 hf
    refine lv_tableIn (tgt := 60) hx hb dX10_sway_13 (by rw [q1]; decide) (by rw [q1]; decide) (by rw [q1]; rfl) (by decide) ?_
    refine lv_iload_n hx hb dX10_sway_60 rfl (lv_at hl 1 rfl) ?_
    exact z_ireturn hC hI hf dX10_sway_61
  replace hf := zif_f q1 hf
  by_cases q2 : (((zgi σ 32 (66 : Int32).toNatClampNeg) >>> ((10 : Int32) &&& 31)) &&& 7) = 3
  · replace hf := zif_t q2 hf
    refine lv_tableIn (tgt := 56) hx hb dX10_sway_13 (by rw [q2]; decide) (by rw [q2]; decide) (by rw [q2]; rfl) (by decide) ?_
    exact bX10_sway_56 hC  hI (lv_sub hl [1] rfl) hf
  replace hf := zif_f q2 hf
  by_cases q3 : (((zgi σ 32 (66 : Int32).toNatClampNeg) >>> ((10 : Int32) &&& 31)) &&& 7) = 4
  · replace hf := zif_t q3 hf
    refine lv_tableIn (tgt := 70) hx hb dX10_sway_13 (by rw [q3]; decide) (by rw [q3]; decide) (by rw [q3]; rfl) (by decide) ?_
    exact bX10_sway_70 hC  hI (lv_sub hl [] rfl) hf
  replace hf := zif_f q3 hf
  by_cases q4 : (((zgi σ 32 (66 : Int32).toNatClampNeg) >>> ((10 : Int32) &&& 31)) &&& 7) = 5
  · replace hf := zif_t q4 hf
    refine lv_tableIn (tgt := 62) hx hb dX10_sway_13 (by rw [q4]; decide) (by rw [q4]; decide) (by rw [q4]; rfl) (by decide) ?_
    exact bX10_sway_62 hC  hI (lv_sub hl [1] rfl) hf
  replace hf := zif_f q4 hf
  by_cases q5 : (((zgi σ 32 (66 : Int32).toNatClampNeg) >>> ((10 : Int32) &&& 31)) &&& 7) = 6
  · replace hf := zif_t q5 hf
    refine lv_tableIn (tgt := 67) hx hb dX10_sway_13 (by rw [q5]; decide) (by rw [q5]; decide) (by rw [q5]; rfl) (by decide) ?_
    refine lv_iload_n hx hb dX10_sway_67 rfl (lv_at hl 1 rfl) ?_
    refine lv_ineg hx hb dX10_sway_68 ?_
    exact z_ireturn hC hI hf dX10_sway_69
  replace hf := zif_f q5 hf
  by_cases q6 : (((zgi σ 32 (66 : Int32).toNatClampNeg) >>> ((10 : Int32) &&& 31)) &&& 7) = 7
  · replace hf := zif_t q6 hf
    refine lv_tableIn (tgt := 62) hx hb dX10_sway_13 (by rw [q6]; decide) (by rw [q6]; decide) (by rw [q6]; rfl) (by decide) ?_
    exact bX10_sway_62 hC  hI (lv_sub hl [1] rfl) hf
  replace hf := zif_f q6 hf
  refine lv_tableOut (tgt := 70) hx hb dX10_sway_13 (zsw (fun k h1 h2 => by rcases (show k = 1 ∨ k = 2 ∨ k = 3 ∨ k = 4 ∨ k = 5 ∨ k = 6 ∨ k = 7 by omega) with rfl | rfl | rfl | rfl | rfl | rfl | rfl <;> assumption)) (by decide) ?_
  exact bX10_sway_70 hC  hI (lv_sub hl [] rfl) hf
set_option maxRecDepth 20000 in
theorem cX10_sway_met (st : Nat → Nat) (l : Launch) (D : va_G) (ad : Nat → Nat) (cy : Nat → ClassId) (σ : zSt) (x1 : Int32) (res : zSt × Int32) (hf : fX10_sway σ x1 = some res) (sz : Nat) : zMi st l yX10_sway wzX10_sway rmX10_sway [.ref (ad 5), .int x1] D (tC cy) (wC ad cy) sz σ res :=
  zMi.of (cc := cX10_sway) (maxL := 2) (ret := (some .int)) (by decide) rfl (Nat.le_of_ble_eq_true rfl) (fun p e s m args below meth c hC A hI ls hl => bX10_sway hC hI hl hf)
theorem hdX10_sway : yX10_sway.cls = RX10 ∧ yX10_sway.cls ≠ "java/lang/invoke/MethodHandle" ∧ yX10_sway.cls ≠ "java/lang/invoke/VarHandle" ∧ (parseMethodDescriptor yX10_sway.desc).map (fun d => d.parameters.length) = some 1 := by decide +kernel
def rmX10_movePhase : Room := { frames := 1, cells := 0, slots := 0, locals := 21 }
def wzX10_movePhase : List Cond := .code yX10_movePhase cX10_movePhase 5 none :: wsL_law
theorem hinX10_movePhase_X100 : ∀ w ∈ wsX100, w ∈ wzX10_movePhase := fun w h => List.mem_cons_of_mem _ (inlX10 w h)
def fX10_movePhase_22  (σ : zSt) (x1 : Int32) (x2 : Int32) (s0 : Int32) : Option (zSt) :=
  zck (zin (x2 &&& 15) 16) (
  zck (decide (¬ 4 = 0)) (
  zbv (((((2 * (zgi σ 5 4)) + s0) * (zt7 (x2 &&& 15).toNatClampNeg)) <<< ((zgi σ 5 5) &&& 31)) / 4) (fun v1 =>
  zck (zin (x1 + 2) 272) (
  zck (zin (x1 + 2) 272) (zbv (zsi σ 32 ((x1 + 2).toNatClampNeg) (((zgi σ 32 (x1 + 2).toNatClampNeg) + v1) &&& 524287)) (fun σ2 =>
  some σ2))))))
def fX10_movePhase  (σ : zSt) (x1 : Int32) (x2 : Int32) : Option (zSt) :=
  if (x2 &&& 64) = 0 then fX10_movePhase_22 σ x1 x2 0 else
  zck (decide (¬ 64 = 0)) (
  zbi (fX10_sway σ ((zgi σ 5 4) / 64)) (fun σ3 v4 =>
  fX10_movePhase_22 σ3 x1 x2 v4))
set_option maxRecDepth 20000 in
set_option maxHeartbeats 4000000 in
theorem bX10_movePhase_22 {st : Nat → Nat} {p : Program} {l : Launch} {e : Env} {s : State} {m : MethodId} {args : Array Value} {below : List Frame} {meth : Method} {c : Code} {D : va_G} {A : Nat → Prop} {ad : Nat → Nat} {cy : Nat → ClassId} (hC : zC p m c cX10_movePhase 5 s args wzX10_movePhase RX10 meth none)  {res : zSt} {H : Heap} {locs : List Loc} {σ : zSt} {ls : Array Slot} {x1 : Int32} {x2 : Int32} {s0 : Int32} (hI : zI st D (tC cy) (wC ad cy σ) A s H locs) (hl : lv_has ls 5 [(0, .ref (ad 5)), (1, .int x1), (2, .int x2)]) (hf : fX10_movePhase_22  σ x1 x2 s0 = some res) : W p l e rmX10_movePhase s m args below meth c H locs 0 0 (zQu below args s D (tC cy) (wC ad cy) A res) (F0 m 22 ls [.int s0]) := by
  have hx := hC.1
  have hb := hC.2.1
  unfold fX10_movePhase_22 at hf
  refine lv_istore_n (lv' := [(3, .int s0), (0, .ref (ad 5)), (1, .int x1), (2, .int x2)]) hx hb dX10_movePhase_22 rfl hl (by decide) rfl (fun ls hl => ?_)
  refine lv_iconst (v := 2) hx hb dX10_movePhase_23 (by decide) ?_
  refine lv_aload_n hx hb dX10_movePhase_24 rfl (lv_at hl 1 rfl) ?_
  refine z_get hC hI hinX10_movePhase_X100 5 (wC_e5 ad cy σ) rfl 4 (by decide) (List.mem_cons_of_mem _ zw42_16) rfl dX10_movePhase_25 ?_
  refine lv_imul hx hb dX10_movePhase_28 ?_
  refine lv_iload_n hx hb dX10_movePhase_29 rfl (lv_at hl 0 rfl) ?_
  refine lv_iadd hx hb dX10_movePhase_30 ?_
  refine z_gets hC hI 7 (by decide) (List.mem_cons_of_mem _ zw44_19) dX10_movePhase_31 ?_
  refine lv_iload_n hx hb dX10_movePhase_34 rfl (lv_at hl 3 rfl) ?_
  refine lv_bipush (v := 15) hx hb dX10_movePhase_35 (by decide) ?_
  refine lv_iand hx hb dX10_movePhase_37 ?_
  obtain ⟨q, hf⟩ := zck_use hf
  refine z_ti hC hI 7 (by decide) rfl rfl q rfl dX10_movePhase_38 ?_
  refine lv_imul hx hb dX10_movePhase_39 ?_
  refine lv_aload_n hx hb dX10_movePhase_40 rfl (lv_at hl 1 rfl) ?_
  refine z_get hC hI hinX10_movePhase_X100 5 (wC_e5 ad cy σ) rfl 5 (by decide) (List.mem_cons_of_mem _ zw42_17) rfl dX10_movePhase_41 ?_
  refine lv_ishl hx hb dX10_movePhase_44 ?_
  refine lv_iconst (v := 4) hx hb dX10_movePhase_45 (by decide) ?_
  obtain ⟨q, hf⟩ := zck_use hf
  refine lv_idiv hx hb dX10_movePhase_46 (of_decide_eq_true q) ?_
  refine lv_topi (fun v1 ev1 => ?_)
  replace hf := zbv_use ev1 hf
  refine lv_istore (lv' := [(4, .int v1), (3, .int s0), (0, .ref (ad 5)), (1, .int x1), (2, .int x2)]) hx hb dX10_movePhase_47 hl (by decide) rfl (fun ls hl => ?_)
  refine lv_aload_n hx hb dX10_movePhase_49 rfl (lv_at hl 2 rfl) ?_
  refine z_get hC hI hinX10_movePhase_X100 5 (wC_e5 ad cy σ) rfl 0 (by decide) (List.mem_cons_of_mem _ zw6_4) rfl dX10_movePhase_50 ?_
  refine lv_iload_n hx hb dX10_movePhase_53 rfl (lv_at hl 3 rfl) ?_
  refine lv_iconst (v := 2) hx hb dX10_movePhase_54 (by decide) ?_
  refine lv_iadd hx hb dX10_movePhase_55 ?_
  refine lv_aload_n hx hb dX10_movePhase_56 rfl (lv_at hl 2 rfl) ?_
  refine z_get hC hI hinX10_movePhase_X100 5 (wC_e5 ad cy σ) rfl 0 (by decide) (List.mem_cons_of_mem _ zw6_4) rfl dX10_movePhase_57 ?_
  refine lv_iload_n hx hb dX10_movePhase_60 rfl (lv_at hl 3 rfl) ?_
  refine lv_iconst (v := 2) hx hb dX10_movePhase_61 (by decide) ?_
  refine lv_iadd hx hb dX10_movePhase_62 ?_
  obtain ⟨q, hf⟩ := zck_use hf
  refine z_iald hC hI 32 19 (wC_e32 ad cy σ) (tC_t32 cy) q dX10_movePhase_63 ?_
  refine lv_iload hx hb dX10_movePhase_64 (lv_at hl 0 rfl) ?_
  refine lv_iadd hx hb dX10_movePhase_66 ?_
  refine lv_ldc (v := 524287) hx hb hC.2.2.2.1 (hC.2.2.2.2.1 _ (List.mem_cons_of_mem _ zw44_20)) dX10_movePhase_67 ?_
  refine lv_iand hx hb dX10_movePhase_69 ?_
  obtain ⟨q, hf⟩ := zck_use hf
  obtain ⟨σ2, eσ2⟩ : ∃ z, z = zsi σ 32 ((x1 + 2).toNatClampNeg) (((zgi σ 32 (x1 + 2).toNatClampNeg) + v1) &&& 524287) := ⟨_, rfl⟩
  replace hf := zbv_use eσ2 hf
  refine z_iast hC hI 32 19 (wC_e32 ad cy σ) (tC_t32 cy) q ((wC_s32 ad cy σ _ _).trans (congrArg (wC ad cy) eσ2.symm)) dX10_movePhase_70 (fun H locs hI => ?_)
  exact z_return hC hI hf dX10_movePhase_71
set_option maxRecDepth 20000 in
set_option maxHeartbeats 4000000 in
theorem bX10_movePhase {st : Nat → Nat} {p : Program} {l : Launch} {e : Env} {s : State} {m : MethodId} {args : Array Value} {below : List Frame} {meth : Method} {c : Code} {D : va_G} {A : Nat → Prop} {ad : Nat → Nat} {cy : Nat → ClassId} (hC : zC p m c cX10_movePhase 5 s args wzX10_movePhase RX10 meth none)  {res : zSt} {H : Heap} {locs : List Loc} {σ : zSt} {ls : Array Slot} {x1 : Int32} {x2 : Int32} (hI : zI st D (tC cy) (wC ad cy σ) A s H locs) (hl : lv_has ls 5 [(0, .ref (ad 5)), (1, .int x1), (2, .int x2)]) (hf : fX10_movePhase  σ x1 x2 = some res) : W p l e rmX10_movePhase s m args below meth c H locs 0 0 (zQu below args s D (tC cy) (wC ad cy) A res) (F0 m 0 ls []) := by
  have hx := hC.1
  have hb := hC.2.1
  unfold fX10_movePhase at hf
  refine lv_iload_n hx hb dX10_movePhase_0 rfl (lv_at hl 2 rfl) ?_
  refine lv_bipush (v := 64) hx hb dX10_movePhase_1 (by decide) ?_
  refine lv_iand hx hb dX10_movePhase_3 ?_
  refine lv_if_eq (tgt := 21) hx hb dX10_movePhase_4 (by decide) (fun q => ?_) (fun q => ?_)
  · replace hf := zif_t q hf
    refine lv_iconst (v := 0) hx hb dX10_movePhase_21 (by decide) ?_
    exact bX10_movePhase_22 hC  hI hl hf
  replace hf := zif_f q hf
  refine lv_aload_n hx hb dX10_movePhase_7 rfl (lv_at hl 0 rfl) ?_
  refine lv_aload_n hx hb dX10_movePhase_8 rfl (lv_at hl 0 rfl) ?_
  refine z_get hC hI hinX10_movePhase_X100 5 (wC_e5 ad cy σ) rfl 4 (by decide) (List.mem_cons_of_mem _ zw42_16) rfl dX10_movePhase_9 ?_
  refine lv_bipush (v := 64) hx hb dX10_movePhase_12 (by decide) ?_
  obtain ⟨q, hf⟩ := zck_use hf
  refine lv_idiv hx hb dX10_movePhase_14 (of_decide_eq_true q) ?_
  obtain ⟨σ3, v4, g3, hf⟩ := zbi_use hf
  refine z_callVi (As := [.int ((zgi σ 5 4) / 64)]) (rest := []) hC hI (cX10_sway_met st l D ad cy σ ((zgi σ 5 4) / 64) _ g3) (zgV zw44_21 zw44_22 zw44_23 zw2_13 zw45_0) rfl ⟨rfl, rfl⟩ 1 hdX10_sway ⟨Nat.le_of_ble_eq_true rfl, Nat.le_of_ble_eq_true rfl⟩ rfl rfl (wC_e5 ad cy σ) rfl hl rfl (Nat.le_of_ble_eq_true rfl) dX10_movePhase_15 ⟨Nat.zero_le _, Nat.zero_le _⟩ (fun H locs hI => ?_)
  refine lv_goto (tgt := 22) hx hb dX10_movePhase_18 (by decide) ?_
  exact bX10_movePhase_22 hC  hI hl hf
set_option maxRecDepth 20000 in
theorem cX10_movePhase_met (st : Nat → Nat) (l : Launch) (D : va_G) (ad : Nat → Nat) (cy : Nat → ClassId) (σ : zSt) (x1 : Int32) (x2 : Int32) (res : zSt) (hf : fX10_movePhase σ x1 x2 = some res) (sz : Nat) : zMu st l yX10_movePhase wzX10_movePhase rmX10_movePhase [.ref (ad 5), .int x1, .int x2] D (tC cy) (wC ad cy) sz σ res :=
  zMu.of (cc := cX10_movePhase) (maxL := 5) (ret := none) (by decide) rfl (Nat.le_of_ble_eq_true rfl) (fun p e s m args below meth c hC A hI ls hl => bX10_movePhase hC hI hl hf)
theorem hdX10_movePhase : yX10_movePhase.cls = RX10 ∧ yX10_movePhase.cls ≠ "java/lang/invoke/MethodHandle" ∧ yX10_movePhase.cls ≠ "java/lang/invoke/VarHandle" ∧ (parseMethodDescriptor yX10_movePhase.desc).map (fun d => d.parameters.length) = some 2 := by decide +kernel
def rmX10_drumPhase : Room := { frames := 0, cells := 0, slots := 0, locals := 0 }
def wzX10_drumPhase : List Cond := .code yX10_drumPhase cX10_drumPhase 7 (some .int) :: wsL_law
theorem hinX10_drumPhase_X100 : ∀ w ∈ wsX100, w ∈ wzX10_drumPhase := fun w h => List.mem_cons_of_mem _ (inlX10 w h)
def fX10_drumPhase_115  (σ : zSt) (s0 : Int32) : Option (zSt × Int32) :=
  some (σ, s0)
def fX10_drumPhase_155  (σ : zSt) (s0 : Int32) : Option (zSt × Int32) :=
  some (σ, s0)
def fX10_drumPhase_193  (σ : zSt) (s0 : Int32) : Option (zSt × Int32) :=
  some (σ, s0)
def fX10_drumPhase_82  (σ : zSt) (x1 : Int32) (x2 : Int32) (x5 : Int32) (s0 : Int32) : Option (zSt × Int32) :=
  if (zgi σ 5 3) = 8 then if x2 = 0 then fX10_drumPhase_115 σ x1 else
  if x5 = 0 then fX10_drumPhase_115 σ 256 else
  fX10_drumPhase_115 σ 768 else
  if x2 = 0 then if x5 = 0 then if s0 = 0 then fX10_drumPhase_155 σ 208 else
  fX10_drumPhase_155 σ 52 else
  if s0 = 0 then fX10_drumPhase_155 σ 564 else
  fX10_drumPhase_155 σ 720 else
  if (x1 &&& 512) = 0 then if s0 = 0 then fX10_drumPhase_193 σ 256 else
  fX10_drumPhase_193 σ 0 else
  if s0 = 0 then fX10_drumPhase_193 σ 512 else
  fX10_drumPhase_193 σ 768
def fX10_drumPhase_62  (σ : zSt) (x1 : Int32) (x2 : Int32) (s0 : Int32) : Option (zSt × Int32) :=
  zck (zin 65 272) (
  if ((zgi σ 32 (65 : Int32).toNatClampNeg) &&& 1) = 1 then fX10_drumPhase_82 σ x1 x2 s0 1 else
  fX10_drumPhase_82 σ x1 x2 s0 0)
def fX10_drumPhase  (σ : zSt) (x1 : Int32) (x2 : Int32) : Option (zSt × Int32) :=
  zck (zin 242 272) (
  zbv ((zgi σ 32 (242 : Int32).toNatClampNeg) >>> ((9 : Int32) &&& 31)) (fun v1 =>
  zck (zin 266 272) (
  zbv ((zgi σ 32 (266 : Int32).toNatClampNeg) >>> ((9 : Int32) &&& 31)) (fun v2 =>
  if (((((v1 >>> ((2 : Int32) &&& 31)) ^^^ (v1 >>> ((7 : Int32) &&& 31))) ||| ((v1 >>> ((3 : Int32) &&& 31)) ^^^ (v2 >>> ((5 : Int32) &&& 31)))) ||| ((v2 >>> ((3 : Int32) &&& 31)) ^^^ (v2 >>> ((5 : Int32) &&& 31)))) &&& 1) = 0 then fX10_drumPhase_62 σ x1 x2 0 else
  fX10_drumPhase_62 σ x1 x2 1))))
set_option maxRecDepth 20000 in
set_option maxHeartbeats 4000000 in
theorem bX10_drumPhase_115 {st : Nat → Nat} {p : Program} {l : Launch} {e : Env} {s : State} {m : MethodId} {args : Array Value} {below : List Frame} {meth : Method} {c : Code} {D : va_G} {A : Nat → Prop} {ad : Nat → Nat} {cy : Nat → ClassId} (hC : zC p m c cX10_drumPhase 7 s args wzX10_drumPhase RX10 meth (some .int))  {res : zSt × Int32} {H : Heap} {locs : List Loc} {σ : zSt} {ls : Array Slot} {s0 : Int32} (hI : zI st D (tC cy) (wC ad cy σ) A s H locs) (hl : lv_has ls 7 []) (hf : fX10_drumPhase_115  σ s0 = some res) : W p l e rmX10_drumPhase s m args below meth c H locs 0 0 (zQi below args s D (tC cy) (wC ad cy) A res) (F0 m 115 ls [.int s0]) := by
  have hx := hC.1
  have hb := hC.2.1
  unfold fX10_drumPhase_115 at hf
  exact z_ireturn hC hI hf dX10_drumPhase_115
set_option maxRecDepth 20000 in
set_option maxHeartbeats 4000000 in
theorem bX10_drumPhase_155 {st : Nat → Nat} {p : Program} {l : Launch} {e : Env} {s : State} {m : MethodId} {args : Array Value} {below : List Frame} {meth : Method} {c : Code} {D : va_G} {A : Nat → Prop} {ad : Nat → Nat} {cy : Nat → ClassId} (hC : zC p m c cX10_drumPhase 7 s args wzX10_drumPhase RX10 meth (some .int))  {res : zSt × Int32} {H : Heap} {locs : List Loc} {σ : zSt} {ls : Array Slot} {s0 : Int32} (hI : zI st D (tC cy) (wC ad cy σ) A s H locs) (hl : lv_has ls 7 []) (hf : fX10_drumPhase_155  σ s0 = some res) : W p l e rmX10_drumPhase s m args below meth c H locs 0 0 (zQi below args s D (tC cy) (wC ad cy) A res) (F0 m 155 ls [.int s0]) := by
  have hx := hC.1
  have hb := hC.2.1
  unfold fX10_drumPhase_155 at hf
  exact z_ireturn hC hI hf dX10_drumPhase_155
set_option maxRecDepth 20000 in
set_option maxHeartbeats 4000000 in
theorem bX10_drumPhase_193 {st : Nat → Nat} {p : Program} {l : Launch} {e : Env} {s : State} {m : MethodId} {args : Array Value} {below : List Frame} {meth : Method} {c : Code} {D : va_G} {A : Nat → Prop} {ad : Nat → Nat} {cy : Nat → ClassId} (hC : zC p m c cX10_drumPhase 7 s args wzX10_drumPhase RX10 meth (some .int))  {res : zSt × Int32} {H : Heap} {locs : List Loc} {σ : zSt} {ls : Array Slot} {s0 : Int32} (hI : zI st D (tC cy) (wC ad cy σ) A s H locs) (hl : lv_has ls 7 []) (hf : fX10_drumPhase_193  σ s0 = some res) : W p l e rmX10_drumPhase s m args below meth c H locs 0 0 (zQi below args s D (tC cy) (wC ad cy) A res) (F0 m 193 ls [.int s0]) := by
  have hx := hC.1
  have hb := hC.2.1
  unfold fX10_drumPhase_193 at hf
  exact z_ireturn hC hI hf dX10_drumPhase_193
set_option maxRecDepth 20000 in
set_option maxHeartbeats 4000000 in
theorem bX10_drumPhase_82 {st : Nat → Nat} {p : Program} {l : Launch} {e : Env} {s : State} {m : MethodId} {args : Array Value} {below : List Frame} {meth : Method} {c : Code} {D : va_G} {A : Nat → Prop} {ad : Nat → Nat} {cy : Nat → ClassId} (hC : zC p m c cX10_drumPhase 7 s args wzX10_drumPhase RX10 meth (some .int))  {res : zSt × Int32} {H : Heap} {locs : List Loc} {σ : zSt} {ls : Array Slot} {x1 : Int32} {x2 : Int32} {x5 : Int32} {s0 : Int32} (hI : zI st D (tC cy) (wC ad cy σ) A s H locs) (hl : lv_has ls 7 [(0, .ref (ad 5)), (1, .int x1), (2, .int x2), (5, .int x5)]) (hf : fX10_drumPhase_82  σ x1 x2 x5 s0 = some res) : W p l e rmX10_drumPhase s m args below meth c H locs 0 0 (zQi below args s D (tC cy) (wC ad cy) A res) (F0 m 82 ls [.int s0]) := by
  have hx := hC.1
  have hb := hC.2.1
  unfold fX10_drumPhase_82 at hf
  refine lv_istore (lv' := [(6, .int s0), (0, .ref (ad 5)), (1, .int x1), (2, .int x2), (5, .int x5)]) hx hb dX10_drumPhase_82 hl (by decide) rfl (fun ls hl => ?_)
  refine lv_aload_n hx hb dX10_drumPhase_84 rfl (lv_at hl 1 rfl) ?_
  refine z_get hC hI hinX10_drumPhase_X100 5 (wC_e5 ad cy σ) rfl 3 (by decide) (List.mem_cons_of_mem _ zw42_15) rfl dX10_drumPhase_85 ?_
  refine lv_bipush (v := 8) hx hb dX10_drumPhase_88 (by decide) ?_
  refine lv_icmp_ne (tgt := 116) hx hb dX10_drumPhase_90 (by decide) (fun q => ?_) (fun q => ?_)
  · replace hf := zif_f q hf
    refine lv_iload_n hx hb dX10_drumPhase_116 rfl (lv_at hl 3 rfl) ?_
    refine lv_if_ne (tgt := 156) hx hb dX10_drumPhase_117 (by decide) (fun q => ?_) (fun q => ?_)
    · replace hf := zif_f q hf
      refine lv_iload_n hx hb dX10_drumPhase_156 rfl (lv_at hl 2 rfl) ?_
      refine lv_sipush (v := 512) hx hb dX10_drumPhase_157 (by decide) ?_
      refine lv_iand hx hb dX10_drumPhase_160 ?_
      refine lv_if_eq (tgt := 181) hx hb dX10_drumPhase_161 (by decide) (fun q => ?_) (fun q => ?_)
      · replace hf := zif_t q hf
        refine lv_iload hx hb dX10_drumPhase_181 (lv_at hl 0 rfl) ?_
        refine lv_if_eq (tgt := 190) hx hb dX10_drumPhase_183 (by decide) (fun q => ?_) (fun q => ?_)
        · replace hf := zif_t q hf
          refine lv_sipush (v := 256) hx hb dX10_drumPhase_190 (by decide) ?_
          exact bX10_drumPhase_193 hC  hI (lv_sub hl [] rfl) hf
        replace hf := zif_f q hf
        refine lv_iconst (v := 0) hx hb dX10_drumPhase_186 (by decide) ?_
        refine lv_goto (tgt := 193) hx hb dX10_drumPhase_187 (by decide) ?_
        exact bX10_drumPhase_193 hC  hI (lv_sub hl [] rfl) hf
      replace hf := zif_f q hf
      refine lv_iload hx hb dX10_drumPhase_164 (lv_at hl 0 rfl) ?_
      refine lv_if_eq (tgt := 175) hx hb dX10_drumPhase_166 (by decide) (fun q => ?_) (fun q => ?_)
      · replace hf := zif_t q hf
        refine lv_sipush (v := 512) hx hb dX10_drumPhase_175 (by decide) ?_
        refine lv_goto (tgt := 193) hx hb dX10_drumPhase_178 (by decide) ?_
        exact bX10_drumPhase_193 hC  hI (lv_sub hl [] rfl) hf
      replace hf := zif_f q hf
      refine lv_sipush (v := 768) hx hb dX10_drumPhase_169 (by decide) ?_
      refine lv_goto (tgt := 193) hx hb dX10_drumPhase_172 (by decide) ?_
      exact bX10_drumPhase_193 hC  hI (lv_sub hl [] rfl) hf
    replace hf := zif_t q hf
    refine lv_iload hx hb dX10_drumPhase_120 (lv_at hl 4 rfl) ?_
    refine lv_if_eq (tgt := 142) hx hb dX10_drumPhase_122 (by decide) (fun q => ?_) (fun q => ?_)
    · replace hf := zif_t q hf
      refine lv_iload hx hb dX10_drumPhase_142 (lv_at hl 0 rfl) ?_
      refine lv_if_eq (tgt := 152) hx hb dX10_drumPhase_144 (by decide) (fun q => ?_) (fun q => ?_)
      · replace hf := zif_t q hf
        refine lv_sipush (v := 208) hx hb dX10_drumPhase_152 (by decide) ?_
        exact bX10_drumPhase_155 hC  hI (lv_sub hl [] rfl) hf
      replace hf := zif_f q hf
      refine lv_bipush (v := 52) hx hb dX10_drumPhase_147 (by decide) ?_
      refine lv_goto (tgt := 155) hx hb dX10_drumPhase_149 (by decide) ?_
      exact bX10_drumPhase_155 hC  hI (lv_sub hl [] rfl) hf
    replace hf := zif_f q hf
    refine lv_iload hx hb dX10_drumPhase_125 (lv_at hl 0 rfl) ?_
    refine lv_if_eq (tgt := 136) hx hb dX10_drumPhase_127 (by decide) (fun q => ?_) (fun q => ?_)
    · replace hf := zif_t q hf
      refine lv_sipush (v := 564) hx hb dX10_drumPhase_136 (by decide) ?_
      refine lv_goto (tgt := 155) hx hb dX10_drumPhase_139 (by decide) ?_
      exact bX10_drumPhase_155 hC  hI (lv_sub hl [] rfl) hf
    replace hf := zif_f q hf
    refine lv_sipush (v := 720) hx hb dX10_drumPhase_130 (by decide) ?_
    refine lv_goto (tgt := 155) hx hb dX10_drumPhase_133 (by decide) ?_
    exact bX10_drumPhase_155 hC  hI (lv_sub hl [] rfl) hf
  replace hf := zif_t q hf
  refine lv_iload_n hx hb dX10_drumPhase_93 rfl (lv_at hl 3 rfl) ?_
  refine lv_if_ne (tgt := 101) hx hb dX10_drumPhase_94 (by decide) (fun q => ?_) (fun q => ?_)
  · replace hf := zif_f q hf
    refine lv_iload hx hb dX10_drumPhase_101 (lv_at hl 4 rfl) ?_
    refine lv_if_eq (tgt := 112) hx hb dX10_drumPhase_103 (by decide) (fun q => ?_) (fun q => ?_)
    · replace hf := zif_t q hf
      refine lv_sipush (v := 256) hx hb dX10_drumPhase_112 (by decide) ?_
      exact bX10_drumPhase_115 hC  hI (lv_sub hl [] rfl) hf
    replace hf := zif_f q hf
    refine lv_sipush (v := 768) hx hb dX10_drumPhase_106 (by decide) ?_
    refine lv_goto (tgt := 115) hx hb dX10_drumPhase_109 (by decide) ?_
    exact bX10_drumPhase_115 hC  hI (lv_sub hl [] rfl) hf
  replace hf := zif_t q hf
  refine lv_iload_n hx hb dX10_drumPhase_97 rfl (lv_at hl 2 rfl) ?_
  refine lv_goto (tgt := 115) hx hb dX10_drumPhase_98 (by decide) ?_
  exact bX10_drumPhase_115 hC  hI (lv_sub hl [] rfl) hf
set_option maxRecDepth 20000 in
set_option maxHeartbeats 4000000 in
theorem bX10_drumPhase_62 {st : Nat → Nat} {p : Program} {l : Launch} {e : Env} {s : State} {m : MethodId} {args : Array Value} {below : List Frame} {meth : Method} {c : Code} {D : va_G} {A : Nat → Prop} {ad : Nat → Nat} {cy : Nat → ClassId} (hC : zC p m c cX10_drumPhase 7 s args wzX10_drumPhase RX10 meth (some .int))  {res : zSt × Int32} {H : Heap} {locs : List Loc} {σ : zSt} {ls : Array Slot} {x1 : Int32} {x2 : Int32} {s0 : Int32} (hI : zI st D (tC cy) (wC ad cy σ) A s H locs) (hl : lv_has ls 7 [(0, .ref (ad 5)), (1, .int x1), (2, .int x2)]) (hf : fX10_drumPhase_62  σ x1 x2 s0 = some res) : W p l e rmX10_drumPhase s m args below meth c H locs 0 0 (zQi below args s D (tC cy) (wC ad cy) A res) (F0 m 62 ls [.int s0]) := by
  have hx := hC.1
  have hb := hC.2.1
  unfold fX10_drumPhase_62 at hf
  refine lv_istore (lv' := [(5, .int s0), (0, .ref (ad 5)), (1, .int x1), (2, .int x2)]) hx hb dX10_drumPhase_62 hl (by decide) rfl (fun ls hl => ?_)
  refine lv_aload_n hx hb dX10_drumPhase_64 rfl (lv_at hl 1 rfl) ?_
  refine z_get hC hI hinX10_drumPhase_X100 5 (wC_e5 ad cy σ) rfl 0 (by decide) (List.mem_cons_of_mem _ zw6_4) rfl dX10_drumPhase_65 ?_
  refine lv_bipush (v := 65) hx hb dX10_drumPhase_68 (by decide) ?_
  obtain ⟨q, hf⟩ := zck_use hf
  refine z_iald hC hI 32 19 (wC_e32 ad cy σ) (tC_t32 cy) q dX10_drumPhase_70 ?_
  refine lv_iconst (v := 1) hx hb dX10_drumPhase_71 (by decide) ?_
  refine lv_iand hx hb dX10_drumPhase_72 ?_
  refine lv_iconst (v := 1) hx hb dX10_drumPhase_73 (by decide) ?_
  refine lv_icmp_ne (tgt := 81) hx hb dX10_drumPhase_74 (by decide) (fun q => ?_) (fun q => ?_)
  · replace hf := zif_f q hf
    refine lv_iconst (v := 0) hx hb dX10_drumPhase_81 (by decide) ?_
    exact bX10_drumPhase_82 hC  hI (lv_sub hl [1, 2, 3, 0] rfl) hf
  replace hf := zif_t q hf
  refine lv_iconst (v := 1) hx hb dX10_drumPhase_77 (by decide) ?_
  refine lv_goto (tgt := 82) hx hb dX10_drumPhase_78 (by decide) ?_
  exact bX10_drumPhase_82 hC  hI (lv_sub hl [1, 2, 3, 0] rfl) hf
set_option maxRecDepth 20000 in
set_option maxHeartbeats 4000000 in
theorem bX10_drumPhase {st : Nat → Nat} {p : Program} {l : Launch} {e : Env} {s : State} {m : MethodId} {args : Array Value} {below : List Frame} {meth : Method} {c : Code} {D : va_G} {A : Nat → Prop} {ad : Nat → Nat} {cy : Nat → ClassId} (hC : zC p m c cX10_drumPhase 7 s args wzX10_drumPhase RX10 meth (some .int))  {res : zSt × Int32} {H : Heap} {locs : List Loc} {σ : zSt} {ls : Array Slot} {x1 : Int32} {x2 : Int32} (hI : zI st D (tC cy) (wC ad cy σ) A s H locs) (hl : lv_has ls 7 [(0, .ref (ad 5)), (1, .int x1), (2, .int x2)]) (hf : fX10_drumPhase  σ x1 x2 = some res) : W p l e rmX10_drumPhase s m args below meth c H locs 0 0 (zQi below args s D (tC cy) (wC ad cy) A res) (F0 m 0 ls []) := by
  have hx := hC.1
  have hb := hC.2.1
  unfold fX10_drumPhase at hf
  refine lv_aload_n hx hb dX10_drumPhase_0 rfl (lv_at hl 0 rfl) ?_
  refine z_get hC hI hinX10_drumPhase_X100 5 (wC_e5 ad cy σ) rfl 0 (by decide) (List.mem_cons_of_mem _ zw6_4) rfl dX10_drumPhase_1 ?_
  refine lv_sipush (v := 242) hx hb dX10_drumPhase_4 (by decide) ?_
  obtain ⟨q, hf⟩ := zck_use hf
  refine z_iald hC hI 32 19 (wC_e32 ad cy σ) (tC_t32 cy) q dX10_drumPhase_7 ?_
  refine lv_bipush (v := 9) hx hb dX10_drumPhase_8 (by decide) ?_
  refine lv_ishr hx hb dX10_drumPhase_10 ?_
  refine lv_topi (fun v1 ev1 => ?_)
  replace hf := zbv_use ev1 hf
  refine lv_istore_n (lv' := [(3, .int v1), (0, .ref (ad 5)), (1, .int x1), (2, .int x2)]) hx hb dX10_drumPhase_11 rfl hl (by decide) rfl (fun ls hl => ?_)
  refine lv_aload_n hx hb dX10_drumPhase_12 rfl (lv_at hl 1 rfl) ?_
  refine z_get hC hI hinX10_drumPhase_X100 5 (wC_e5 ad cy σ) rfl 0 (by decide) (List.mem_cons_of_mem _ zw6_4) rfl dX10_drumPhase_13 ?_
  refine lv_sipush (v := 266) hx hb dX10_drumPhase_16 (by decide) ?_
  obtain ⟨q, hf⟩ := zck_use hf
  refine z_iald hC hI 32 19 (wC_e32 ad cy σ) (tC_t32 cy) q dX10_drumPhase_19 ?_
  refine lv_bipush (v := 9) hx hb dX10_drumPhase_20 (by decide) ?_
  refine lv_ishr hx hb dX10_drumPhase_22 ?_
  refine lv_topi (fun v2 ev2 => ?_)
  replace hf := zbv_use ev2 hf
  refine lv_istore (lv' := [(4, .int v2), (3, .int v1), (0, .ref (ad 5)), (1, .int x1), (2, .int x2)]) hx hb dX10_drumPhase_23 hl (by decide) rfl (fun ls hl => ?_)
  refine lv_iload_n hx hb dX10_drumPhase_25 rfl (lv_at hl 1 rfl) ?_
  refine lv_iconst (v := 2) hx hb dX10_drumPhase_26 (by decide) ?_
  refine lv_ishr hx hb dX10_drumPhase_27 ?_
  refine lv_iload_n hx hb dX10_drumPhase_28 rfl (lv_at hl 1 rfl) ?_
  refine lv_bipush (v := 7) hx hb dX10_drumPhase_29 (by decide) ?_
  refine lv_ishr hx hb dX10_drumPhase_31 ?_
  refine lv_ixor hx hb dX10_drumPhase_32 ?_
  refine lv_iload_n hx hb dX10_drumPhase_33 rfl (lv_at hl 1 rfl) ?_
  refine lv_iconst (v := 3) hx hb dX10_drumPhase_34 (by decide) ?_
  refine lv_ishr hx hb dX10_drumPhase_35 ?_
  refine lv_iload hx hb dX10_drumPhase_36 (lv_at hl 0 rfl) ?_
  refine lv_iconst (v := 5) hx hb dX10_drumPhase_38 (by decide) ?_
  refine lv_ishr hx hb dX10_drumPhase_39 ?_
  refine lv_ixor hx hb dX10_drumPhase_40 ?_
  refine lv_ior hx hb dX10_drumPhase_41 ?_
  refine lv_iload hx hb dX10_drumPhase_42 (lv_at hl 0 rfl) ?_
  refine lv_iconst (v := 3) hx hb dX10_drumPhase_44 (by decide) ?_
  refine lv_ishr hx hb dX10_drumPhase_45 ?_
  refine lv_iload hx hb dX10_drumPhase_46 (lv_at hl 0 rfl) ?_
  refine lv_iconst (v := 5) hx hb dX10_drumPhase_48 (by decide) ?_
  refine lv_ishr hx hb dX10_drumPhase_49 ?_
  refine lv_ixor hx hb dX10_drumPhase_50 ?_
  refine lv_ior hx hb dX10_drumPhase_51 ?_
  refine lv_iconst (v := 1) hx hb dX10_drumPhase_52 (by decide) ?_
  refine lv_iand hx hb dX10_drumPhase_53 ?_
  refine lv_if_eq (tgt := 61) hx hb dX10_drumPhase_54 (by decide) (fun q => ?_) (fun q => ?_)
  · replace hf := zif_t q hf
    refine lv_iconst (v := 0) hx hb dX10_drumPhase_61 (by decide) ?_
    exact bX10_drumPhase_62 hC  hI (lv_sub hl [2, 3, 4] rfl) hf
  replace hf := zif_f q hf
  refine lv_iconst (v := 1) hx hb dX10_drumPhase_57 (by decide) ?_
  refine lv_goto (tgt := 62) hx hb dX10_drumPhase_58 (by decide) ?_
  exact bX10_drumPhase_62 hC  hI (lv_sub hl [2, 3, 4] rfl) hf
set_option maxRecDepth 20000 in
theorem cX10_drumPhase_met (st : Nat → Nat) (l : Launch) (D : va_G) (ad : Nat → Nat) (cy : Nat → ClassId) (σ : zSt) (x1 : Int32) (x2 : Int32) (res : zSt × Int32) (hf : fX10_drumPhase σ x1 x2 = some res) (sz : Nat) : zMi st l yX10_drumPhase wzX10_drumPhase rmX10_drumPhase [.ref (ad 5), .int x1, .int x2] D (tC cy) (wC ad cy) sz σ res :=
  zMi.of (cc := cX10_drumPhase) (maxL := 7) (ret := (some .int)) (by decide) rfl (Nat.le_of_ble_eq_true rfl) (fun p e s m args below meth c hC A hI ls hl => bX10_drumPhase hC hI hl hf)
theorem hdX10_drumPhase : yX10_drumPhase.cls = RX10 ∧ yX10_drumPhase.cls ≠ "java/lang/invoke/MethodHandle" ∧ yX10_drumPhase.cls ≠ "java/lang/invoke/VarHandle" ∧ (parseMethodDescriptor yX10_drumPhase.desc).map (fun d => d.parameters.length) = some 2 := by decide +kernel
def rmX10_turnedPhase : Room := { frames := 1, cells := 0, slots := 0, locals := 26 }
def wzX10_turnedPhase : List Cond := .code yX10_turnedPhase cX10_turnedPhase 5 (some .int) :: wsL_law
theorem hinX10_turnedPhase_X100 : ∀ w ∈ wsX100, w ∈ wzX10_turnedPhase := fun w h => List.mem_cons_of_mem _ (inlX10 w h)
def fX10_turnedPhase_98  (σ : zSt) (s0 : Int32) : Option (zSt × Int32) :=
  some (σ, s0)
def fX10_turnedPhase_35  (σ : zSt) (x1 : Int32) (x2 : Int32) (x3 : Int32) : Option (zSt × Int32) :=
  if x2 = 1 then zck (zin ((x1 - 8) + 3) 272) (
  some (σ, x3 + (zgi σ 32 ((x1 - 8) + 3).toNatClampNeg))) else
  zbi (fX10_part σ 3) (fun σ1 v2 =>
  zbv (v2 &&& 7) (fun v3 =>
  if v3 = 0 then fX10_turnedPhase_98 σ1 x3 else
  zck (zin (x1 + 3) 272) (
  zck (zin (x1 + 4) 272) (
  fX10_turnedPhase_98 σ1 (x3 + (((zgi σ1 32 (x1 + 3).toNatClampNeg) + (zgi σ1 32 (x1 + 4).toNatClampNeg)) >>> ((9 - v3) &&& 31)))))))
def fX10_turnedPhase  (σ : zSt) (x1 : Int32) (x2 : Int32) : Option (zSt × Int32) :=
  zck (zin (x1 + 2) 272) (
  zbv ((zgi σ 32 (x1 + 2).toNatClampNeg) >>> ((9 : Int32) &&& 31)) (fun v4 =>
  if (zgi σ 5 2) = 0 then fX10_turnedPhase_35 σ x1 x2 v4 else
  if (zgi σ 5 3) < 7 then fX10_turnedPhase_35 σ x1 x2 v4 else
  zbi (fX10_drumPhase σ v4 x2) (fun σ5 v6 =>
  some (σ5, v6))))
set_option maxRecDepth 20000 in
set_option maxHeartbeats 4000000 in
theorem bX10_turnedPhase_98 {st : Nat → Nat} {p : Program} {l : Launch} {e : Env} {s : State} {m : MethodId} {args : Array Value} {below : List Frame} {meth : Method} {c : Code} {D : va_G} {A : Nat → Prop} {ad : Nat → Nat} {cy : Nat → ClassId} (hC : zC p m c cX10_turnedPhase 5 s args wzX10_turnedPhase RX10 meth (some .int))  {res : zSt × Int32} {H : Heap} {locs : List Loc} {σ : zSt} {ls : Array Slot} {s0 : Int32} (hI : zI st D (tC cy) (wC ad cy σ) A s H locs) (hl : lv_has ls 5 []) (hf : fX10_turnedPhase_98  σ s0 = some res) : W p l e rmX10_turnedPhase s m args below meth c H locs 0 0 (zQi below args s D (tC cy) (wC ad cy) A res) (F0 m 98 ls [.int s0]) := by
  have hx := hC.1
  have hb := hC.2.1
  unfold fX10_turnedPhase_98 at hf
  exact z_ireturn hC hI hf dX10_turnedPhase_98
set_option maxRecDepth 20000 in
set_option maxHeartbeats 4000000 in
theorem bX10_turnedPhase_35 {st : Nat → Nat} {p : Program} {l : Launch} {e : Env} {s : State} {m : MethodId} {args : Array Value} {below : List Frame} {meth : Method} {c : Code} {D : va_G} {A : Nat → Prop} {ad : Nat → Nat} {cy : Nat → ClassId} (hC : zC p m c cX10_turnedPhase 5 s args wzX10_turnedPhase RX10 meth (some .int))  {res : zSt × Int32} {H : Heap} {locs : List Loc} {σ : zSt} {ls : Array Slot} {x1 : Int32} {x2 : Int32} {x3 : Int32} (hI : zI st D (tC cy) (wC ad cy σ) A s H locs) (hl : lv_has ls 5 [(0, .ref (ad 5)), (1, .int x1), (2, .int x2), (3, .int x3)]) (hf : fX10_turnedPhase_35  σ x1 x2 x3 = some res) : W p l e rmX10_turnedPhase s m args below meth c H locs 0 0 (zQi below args s D (tC cy) (wC ad cy) A res) (F0 m 35 ls []) := by
  have hx := hC.1
  have hb := hC.2.1
  unfold fX10_turnedPhase_35 at hf
  refine lv_iload_n hx hb dX10_turnedPhase_35 rfl (lv_at hl 2 rfl) ?_
  refine lv_iconst (v := 1) hx hb dX10_turnedPhase_36 (by decide) ?_
  refine lv_icmp_ne (tgt := 54) hx hb dX10_turnedPhase_37 (by decide) (fun q => ?_) (fun q => ?_)
  · replace hf := zif_f q hf
    refine lv_aload_n hx hb dX10_turnedPhase_54 rfl (lv_at hl 0 rfl) ?_
    refine lv_iconst (v := 3) hx hb dX10_turnedPhase_55 (by decide) ?_
    obtain ⟨σ1, v2, g1, hf⟩ := zbi_use hf
    refine z_callVi (As := [.int 3]) (rest := []) hC hI (cX10_part_met st l D ad cy σ 3 _ g1) (zgV zw43_15 zw43_16 zw43_17 zw2_13 zw43_18) rfl ⟨rfl, rfl⟩ 1 hdX10_part ⟨Nat.le_of_ble_eq_true rfl, Nat.le_of_ble_eq_true rfl⟩ rfl rfl (wC_e5 ad cy σ) rfl hl rfl (Nat.le_of_ble_eq_true rfl) dX10_turnedPhase_56 ⟨Nat.zero_le _, Nat.zero_le _⟩ (fun H locs hI => ?_)
    refine lv_bipush (v := 7) hx hb dX10_turnedPhase_59 (by decide) ?_
    refine lv_iand hx hb dX10_turnedPhase_61 ?_
    refine lv_topi (fun v3 ev3 => ?_)
    replace hf := zbv_use ev3 hf
    refine lv_istore (lv' := [(4, .int v3), (0, .ref (ad 5)), (1, .int x1), (2, .int x2), (3, .int x3)]) hx hb dX10_turnedPhase_62 hl (by decide) rfl (fun ls hl => ?_)
    refine lv_iload hx hb dX10_turnedPhase_64 (lv_at hl 0 rfl) ?_
    refine lv_if_ne (tgt := 73) hx hb dX10_turnedPhase_66 (by decide) (fun q => ?_) (fun q => ?_)
    · replace hf := zif_f q hf
      refine lv_iload_n hx hb dX10_turnedPhase_73 rfl (lv_at hl 4 rfl) ?_
      refine lv_aload_n hx hb dX10_turnedPhase_74 rfl (lv_at hl 1 rfl) ?_
      refine z_get hC hI hinX10_turnedPhase_X100 5 (wC_e5 ad cy σ1) rfl 0 (by decide) (List.mem_cons_of_mem _ zw6_4) rfl dX10_turnedPhase_75 ?_
      refine lv_iload_n hx hb dX10_turnedPhase_78 rfl (lv_at hl 2 rfl) ?_
      refine lv_iconst (v := 3) hx hb dX10_turnedPhase_79 (by decide) ?_
      refine lv_iadd hx hb dX10_turnedPhase_80 ?_
      obtain ⟨q, hf⟩ := zck_use hf
      refine z_iald hC hI 32 19 (wC_e32 ad cy σ1) (tC_t32 cy) q dX10_turnedPhase_81 ?_
      refine lv_aload_n hx hb dX10_turnedPhase_82 rfl (lv_at hl 1 rfl) ?_
      refine z_get hC hI hinX10_turnedPhase_X100 5 (wC_e5 ad cy σ1) rfl 0 (by decide) (List.mem_cons_of_mem _ zw6_4) rfl dX10_turnedPhase_83 ?_
      refine lv_iload_n hx hb dX10_turnedPhase_86 rfl (lv_at hl 2 rfl) ?_
      refine lv_iconst (v := 4) hx hb dX10_turnedPhase_87 (by decide) ?_
      refine lv_iadd hx hb dX10_turnedPhase_88 ?_
      obtain ⟨q, hf⟩ := zck_use hf
      refine z_iald hC hI 32 19 (wC_e32 ad cy σ1) (tC_t32 cy) q dX10_turnedPhase_89 ?_
      refine lv_iadd hx hb dX10_turnedPhase_90 ?_
      refine lv_bipush (v := 9) hx hb dX10_turnedPhase_91 (by decide) ?_
      refine lv_iload hx hb dX10_turnedPhase_93 (lv_at hl 0 rfl) ?_
      refine lv_isub hx hb dX10_turnedPhase_95 ?_
      refine lv_ishr hx hb dX10_turnedPhase_96 ?_
      refine lv_iadd hx hb dX10_turnedPhase_97 ?_
      exact bX10_turnedPhase_98 hC  hI (lv_sub hl [] rfl) hf
    replace hf := zif_t q hf
    refine lv_iload_n hx hb dX10_turnedPhase_69 rfl (lv_at hl 4 rfl) ?_
    refine lv_goto (tgt := 98) hx hb dX10_turnedPhase_70 (by decide) ?_
    exact bX10_turnedPhase_98 hC  hI (lv_sub hl [] rfl) hf
  replace hf := zif_t q hf
  refine lv_iload_n hx hb dX10_turnedPhase_40 rfl (lv_at hl 3 rfl) ?_
  refine lv_aload_n hx hb dX10_turnedPhase_41 rfl (lv_at hl 0 rfl) ?_
  refine z_get hC hI hinX10_turnedPhase_X100 5 (wC_e5 ad cy σ) rfl 0 (by decide) (List.mem_cons_of_mem _ zw6_4) rfl dX10_turnedPhase_42 ?_
  refine lv_iload_n hx hb dX10_turnedPhase_45 rfl (lv_at hl 1 rfl) ?_
  refine lv_bipush (v := 8) hx hb dX10_turnedPhase_46 (by decide) ?_
  refine lv_isub hx hb dX10_turnedPhase_48 ?_
  refine lv_iconst (v := 3) hx hb dX10_turnedPhase_49 (by decide) ?_
  refine lv_iadd hx hb dX10_turnedPhase_50 ?_
  obtain ⟨q, hf⟩ := zck_use hf
  refine z_iald hC hI 32 19 (wC_e32 ad cy σ) (tC_t32 cy) q dX10_turnedPhase_51 ?_
  refine lv_iadd hx hb dX10_turnedPhase_52 ?_
  exact z_ireturn hC hI hf dX10_turnedPhase_53
set_option maxRecDepth 20000 in
set_option maxHeartbeats 4000000 in
theorem bX10_turnedPhase {st : Nat → Nat} {p : Program} {l : Launch} {e : Env} {s : State} {m : MethodId} {args : Array Value} {below : List Frame} {meth : Method} {c : Code} {D : va_G} {A : Nat → Prop} {ad : Nat → Nat} {cy : Nat → ClassId} (hC : zC p m c cX10_turnedPhase 5 s args wzX10_turnedPhase RX10 meth (some .int))  {res : zSt × Int32} {H : Heap} {locs : List Loc} {σ : zSt} {ls : Array Slot} {x1 : Int32} {x2 : Int32} (hI : zI st D (tC cy) (wC ad cy σ) A s H locs) (hl : lv_has ls 5 [(0, .ref (ad 5)), (1, .int x1), (2, .int x2)]) (hf : fX10_turnedPhase  σ x1 x2 = some res) : W p l e rmX10_turnedPhase s m args below meth c H locs 0 0 (zQi below args s D (tC cy) (wC ad cy) A res) (F0 m 0 ls []) := by
  have hx := hC.1
  have hb := hC.2.1
  unfold fX10_turnedPhase at hf
  refine lv_aload_n hx hb dX10_turnedPhase_0 rfl (lv_at hl 0 rfl) ?_
  refine z_get hC hI hinX10_turnedPhase_X100 5 (wC_e5 ad cy σ) rfl 0 (by decide) (List.mem_cons_of_mem _ zw6_4) rfl dX10_turnedPhase_1 ?_
  refine lv_iload_n hx hb dX10_turnedPhase_4 rfl (lv_at hl 1 rfl) ?_
  refine lv_iconst (v := 2) hx hb dX10_turnedPhase_5 (by decide) ?_
  refine lv_iadd hx hb dX10_turnedPhase_6 ?_
  obtain ⟨q, hf⟩ := zck_use hf
  refine z_iald hC hI 32 19 (wC_e32 ad cy σ) (tC_t32 cy) q dX10_turnedPhase_7 ?_
  refine lv_bipush (v := 9) hx hb dX10_turnedPhase_8 (by decide) ?_
  refine lv_ishr hx hb dX10_turnedPhase_10 ?_
  refine lv_topi (fun v4 ev4 => ?_)
  replace hf := zbv_use ev4 hf
  refine lv_istore_n (lv' := [(3, .int v4), (0, .ref (ad 5)), (1, .int x1), (2, .int x2)]) hx hb dX10_turnedPhase_11 rfl hl (by decide) rfl (fun ls hl => ?_)
  refine lv_aload_n hx hb dX10_turnedPhase_12 rfl (lv_at hl 1 rfl) ?_
  refine z_get hC hI hinX10_turnedPhase_X100 5 (wC_e5 ad cy σ) rfl 2 (by decide) (List.mem_cons_of_mem _ zw42_4) rfl dX10_turnedPhase_13 ?_
  refine lv_if_eq (tgt := 35) hx hb dX10_turnedPhase_16 (by decide) (fun q => ?_) (fun q => ?_)
  · replace hf := zif_t q hf
    exact bX10_turnedPhase_35 hC  hI (lv_sub hl [1, 2, 3, 0] rfl) hf
  replace hf := zif_f q hf
  refine lv_aload_n hx hb dX10_turnedPhase_19 rfl (lv_at hl 1 rfl) ?_
  refine z_get hC hI hinX10_turnedPhase_X100 5 (wC_e5 ad cy σ) rfl 3 (by decide) (List.mem_cons_of_mem _ zw42_15) rfl dX10_turnedPhase_20 ?_
  refine lv_bipush (v := 7) hx hb dX10_turnedPhase_23 (by decide) ?_
  refine lv_icmp_lt (tgt := 35) hx hb dX10_turnedPhase_25 (by decide) (fun q => ?_) (fun q => ?_)
  · replace hf := zif_t q hf
    exact bX10_turnedPhase_35 hC  hI (lv_sub hl [1, 2, 3, 0] rfl) hf
  replace hf := zif_f q hf
  refine lv_aload_n hx hb dX10_turnedPhase_28 rfl (lv_at hl 1 rfl) ?_
  refine lv_iload_n hx hb dX10_turnedPhase_29 rfl (lv_at hl 0 rfl) ?_
  refine lv_iload_n hx hb dX10_turnedPhase_30 rfl (lv_at hl 3 rfl) ?_
  obtain ⟨σ5, v6, g5, hf⟩ := zbi_use hf
  refine z_callVi (As := [.int v4, .int x2]) (rest := []) hC hI (cX10_drumPhase_met st l D ad cy σ v4 x2 _ g5) (zgV zw45_9 zw45_10 zw45_11 zw2_13 zw45_12) rfl ⟨rfl, rfl⟩ 2 hdX10_drumPhase ⟨Nat.le_of_ble_eq_true rfl, Nat.le_of_ble_eq_true rfl⟩ rfl rfl (wC_e5 ad cy σ) rfl hl rfl (Nat.le_of_ble_eq_true rfl) dX10_turnedPhase_31 ⟨Nat.zero_le _, Nat.zero_le _⟩ (fun H locs hI => ?_)
  exact z_ireturn hC hI hf dX10_turnedPhase_34
set_option maxRecDepth 20000 in
theorem cX10_turnedPhase_met (st : Nat → Nat) (l : Launch) (D : va_G) (ad : Nat → Nat) (cy : Nat → ClassId) (σ : zSt) (x1 : Int32) (x2 : Int32) (res : zSt × Int32) (hf : fX10_turnedPhase σ x1 x2 = some res) (sz : Nat) : zMi st l yX10_turnedPhase wzX10_turnedPhase rmX10_turnedPhase [.ref (ad 5), .int x1, .int x2] D (tC cy) (wC ad cy) sz σ res :=
  zMi.of (cc := cX10_turnedPhase) (maxL := 5) (ret := (some .int)) (by decide) rfl (Nat.le_of_ble_eq_true rfl) (fun p e s m args below meth c hC A hI ls hl => bX10_turnedPhase hC hI hl hf)
theorem hdX10_turnedPhase : yX10_turnedPhase.cls = RX10 ∧ yX10_turnedPhase.cls ≠ "java/lang/invoke/MethodHandle" ∧ yX10_turnedPhase.cls ≠ "java/lang/invoke/VarHandle" ∧ (parseMethodDescriptor yX10_turnedPhase.desc).map (fun d => d.parameters.length) = some 2 := by decide +kernel
