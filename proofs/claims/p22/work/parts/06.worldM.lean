def wMf0 (ad : Nat → Nat) (σ : zSt) : List Value := [.int (zgi σ 0 0), .ref (ad 1), .int (zgi σ 0 2), .int (zgi σ 0 3), .ref (ad 2), .int (zgi σ 0 5), .int (zgi σ 0 6), .int (zgi σ 0 7), .int (zgi σ 0 8), .int (zgi σ 0 9), .ref (ad 3), .ref (ad 4), .ref (ad 5), .ref (ad 6), .ref (ad 7), .ref (ad 8), .ref (ad 9), .ref (ad 10), .ref (ad 11), .int (zgi σ 0 19), .ref (ad 12), .ref (ad 13), .ref (ad 14), .ref (ad 15), .ref (ad 16), .ref (ad 17), .ref (ad 18), .ref (ad 19), .ref (ad 20), .ref (ad 21), .long (zgl σ 0 30), .int (zgi σ 0 31), .int (zgi σ 0 32), .int (zgi σ 0 33), .ref (ad 22), .ref (ad 23), .ref (ad 24), .ref (ad 25), .ref (ad 26), .int (zgi σ 0 39), .int (zgi σ 0 40), .int (zgi σ 0 41), .int (zgi σ 0 42), .int (zgi σ 0 43)]
def wM (ad : Nat → Nat) (cy : Nat → ClassId) (σ : zSt) : va_W := [(ad 0, .inr (14, wMf0 ad σ)), (ad 1, .inl (cy 1, 262656, .inl (zgi σ 1))), (ad 2, .inl (cy 2, 262144, .inl (zgi σ 2))), (ad 3, .inl (cy 3, 1048, .inl (zgi σ 3))), (ad 4, .inl (cy 4, 5, .inr (.inl (zgl σ 4)))), (ad 5, .inl (cy 5, 8192, .inl (zgi σ 5))), (ad 6, .inl (cy 6, 32768, .inl (zgi σ 6))), (ad 7, .inl (cy 7, 16384, .inl (zgi σ 7))), (ad 8, .inl (cy 8, 64, .inl (zgi σ 8))), (ad 9, .inl (cy 9, 61440, .inl (zgi σ 9))), (ad 10, .inl (cy 10, 4096, .inr (.inl (zgl σ 10)))), (ad 11, .inl (cy 11, 4096, .inr (.inl (zgl σ 11)))), (ad 12, .inl (cy 12, 1048, .inl (zgi σ 12))), (ad 13, .inl (cy 13, 5, .inr (.inl (zgl σ 13)))), (ad 14, .inl (cy 14, 8192, .inl (zgi σ 14))), (ad 15, .inl (cy 15, 32768, .inl (zgi σ 15))), (ad 16, .inl (cy 16, 16384, .inl (zgi σ 16))), (ad 17, .inl (cy 17, 64, .inl (zgi σ 17))), (ad 18, .inl (cy 18, 61440, .inl (zgi σ 18))), (ad 19, .inl (cy 19, 4096, .inr (.inl (zgl σ 19)))), (ad 20, .inl (cy 20, 4096, .inr (.inl (zgl σ 20)))), (ad 21, .inl (cy 21, 32, .inl (zgi σ 21))), (ad 22, .inl (cy 22, 256, .inl (zgi σ 22))), (ad 23, .inl (cy 23, 256, .inl (zgi σ 23))), (ad 24, .inl (cy 24, 256, .inl (zgi σ 24))), (ad 25, .inl (cy 25, 256, .inl (zgi σ 25))), (ad 26, .inl (cy 26, 40, .inl (zgi σ 26)))]
def tM (cy : Nat → ClassId) : List (ClassId × FieldType) := [(cy 1, .byte), (cy 2, .byte), (cy 3, .int), (cy 4, .long), (cy 5, .byte), (cy 6, .byte), (cy 7, .byte), (cy 8, .byte), (cy 9, .int), (cy 10, .long), (cy 11, .long), (cy 12, .int), (cy 13, .long), (cy 14, .byte), (cy 15, .byte), (cy 16, .byte), (cy 17, .byte), (cy 18, .int), (cy 19, .long), (cy 20, .long), (cy 21, .int), (cy 22, .int), (cy 23, .boolean), (cy 24, .int), (cy 25, .boolean), (cy 26, .int)]
theorem wM_e0 (ad : Nat → Nat) (cy : Nat → ClassId) (σ : zSt) : (wM ad cy σ)[0]? = some (ad 0, .inr (14, wMf0 ad σ)) := rfl
theorem wM_s0_0 (ad : Nat → Nat) (cy : Nat → ClassId) (σ : zSt) (v : Int32) : (wM ad cy σ).set 0 (ad 0, .inr (14, (wMf0 ad σ).set 0 (.int v))) = wM ad cy (zsi σ 0 0 v) := rfl
theorem wM_s0_2 (ad : Nat → Nat) (cy : Nat → ClassId) (σ : zSt) (v : Int32) : (wM ad cy σ).set 0 (ad 0, .inr (14, (wMf0 ad σ).set 2 (.int v))) = wM ad cy (zsi σ 0 2 v) := rfl
theorem wM_s0_5 (ad : Nat → Nat) (cy : Nat → ClassId) (σ : zSt) (v : Int32) : (wM ad cy σ).set 0 (ad 0, .inr (14, (wMf0 ad σ).set 5 (.int v))) = wM ad cy (zsi σ 0 5 v) := rfl
theorem wM_s0_6 (ad : Nat → Nat) (cy : Nat → ClassId) (σ : zSt) (v : Int32) : (wM ad cy σ).set 0 (ad 0, .inr (14, (wMf0 ad σ).set 6 (.int v))) = wM ad cy (zsi σ 0 6 v) := rfl
theorem wM_s0_7 (ad : Nat → Nat) (cy : Nat → ClassId) (σ : zSt) (v : Int32) : (wM ad cy σ).set 0 (ad 0, .inr (14, (wMf0 ad σ).set 7 (.int v))) = wM ad cy (zsi σ 0 7 v) := rfl
theorem wM_s0_8 (ad : Nat → Nat) (cy : Nat → ClassId) (σ : zSt) (v : Int32) : (wM ad cy σ).set 0 (ad 0, .inr (14, (wMf0 ad σ).set 8 (.int v))) = wM ad cy (zsi σ 0 8 v) := rfl
theorem wM_s0_9 (ad : Nat → Nat) (cy : Nat → ClassId) (σ : zSt) (v : Int32) : (wM ad cy σ).set 0 (ad 0, .inr (14, (wMf0 ad σ).set 9 (.int v))) = wM ad cy (zsi σ 0 9 v) := rfl
theorem wM_s0_19 (ad : Nat → Nat) (cy : Nat → ClassId) (σ : zSt) (v : Int32) : (wM ad cy σ).set 0 (ad 0, .inr (14, (wMf0 ad σ).set 19 (.int v))) = wM ad cy (zsi σ 0 19 v) := rfl
theorem wM_s0_30 (ad : Nat → Nat) (cy : Nat → ClassId) (σ : zSt) (v : Int64) : (wM ad cy σ).set 0 (ad 0, .inr (14, (wMf0 ad σ).set 30 (.long v))) = wM ad cy (zsl σ 0 30 v) := rfl
theorem wM_s0_31 (ad : Nat → Nat) (cy : Nat → ClassId) (σ : zSt) (v : Int32) : (wM ad cy σ).set 0 (ad 0, .inr (14, (wMf0 ad σ).set 31 (.int v))) = wM ad cy (zsi σ 0 31 v) := rfl
theorem wM_s0_32 (ad : Nat → Nat) (cy : Nat → ClassId) (σ : zSt) (v : Int32) : (wM ad cy σ).set 0 (ad 0, .inr (14, (wMf0 ad σ).set 32 (.int v))) = wM ad cy (zsi σ 0 32 v) := rfl
theorem wM_s0_33 (ad : Nat → Nat) (cy : Nat → ClassId) (σ : zSt) (v : Int32) : (wM ad cy σ).set 0 (ad 0, .inr (14, (wMf0 ad σ).set 33 (.int v))) = wM ad cy (zsi σ 0 33 v) := rfl
theorem wM_s0_39 (ad : Nat → Nat) (cy : Nat → ClassId) (σ : zSt) (v : Int32) : (wM ad cy σ).set 0 (ad 0, .inr (14, (wMf0 ad σ).set 39 (.int v))) = wM ad cy (zsi σ 0 39 v) := rfl
theorem wM_s0_40 (ad : Nat → Nat) (cy : Nat → ClassId) (σ : zSt) (v : Int32) : (wM ad cy σ).set 0 (ad 0, .inr (14, (wMf0 ad σ).set 40 (.int v))) = wM ad cy (zsi σ 0 40 v) := rfl
theorem wM_s0_41 (ad : Nat → Nat) (cy : Nat → ClassId) (σ : zSt) (v : Int32) : (wM ad cy σ).set 0 (ad 0, .inr (14, (wMf0 ad σ).set 41 (.int v))) = wM ad cy (zsi σ 0 41 v) := rfl
theorem wM_s0_42 (ad : Nat → Nat) (cy : Nat → ClassId) (σ : zSt) (v : Int32) : (wM ad cy σ).set 0 (ad 0, .inr (14, (wMf0 ad σ).set 42 (.int v))) = wM ad cy (zsi σ 0 42 v) := rfl
theorem wM_s0_43 (ad : Nat → Nat) (cy : Nat → ClassId) (σ : zSt) (v : Int32) : (wM ad cy σ).set 0 (ad 0, .inr (14, (wMf0 ad σ).set 43 (.int v))) = wM ad cy (zsi σ 0 43 v) := rfl
theorem wM_e1 (ad : Nat → Nat) (cy : Nat → ClassId) (σ : zSt) : (wM ad cy σ)[1]? = some (ad 1, .inl (cy 1, 262656, .inl (zgi σ 1))) := rfl
theorem wM_s1 (ad : Nat → Nat) (cy : Nat → ClassId) (σ : zSt) (j : Nat) (v : Int32) : (wM ad cy σ).set 1 (ad 1, .inl (cy 1, 262656, .inl (upd (zgi σ 1) j v))) = wM ad cy (zsi σ 1 j v) := rfl
theorem tM_t1 (cy : Nat → ClassId) : (tM cy)[0]? = some (cy 1, .byte) := rfl
theorem wM_e2 (ad : Nat → Nat) (cy : Nat → ClassId) (σ : zSt) : (wM ad cy σ)[2]? = some (ad 2, .inl (cy 2, 262144, .inl (zgi σ 2))) := rfl
theorem wM_s2 (ad : Nat → Nat) (cy : Nat → ClassId) (σ : zSt) (j : Nat) (v : Int32) : (wM ad cy σ).set 2 (ad 2, .inl (cy 2, 262144, .inl (upd (zgi σ 2) j v))) = wM ad cy (zsi σ 2 j v) := rfl
theorem tM_t2 (cy : Nat → ClassId) : (tM cy)[1]? = some (cy 2, .byte) := rfl
theorem wM_e3 (ad : Nat → Nat) (cy : Nat → ClassId) (σ : zSt) : (wM ad cy σ)[3]? = some (ad 3, .inl (cy 3, 1048, .inl (zgi σ 3))) := rfl
theorem wM_s3 (ad : Nat → Nat) (cy : Nat → ClassId) (σ : zSt) (j : Nat) (v : Int32) : (wM ad cy σ).set 3 (ad 3, .inl (cy 3, 1048, .inl (upd (zgi σ 3) j v))) = wM ad cy (zsi σ 3 j v) := rfl
theorem tM_t3 (cy : Nat → ClassId) : (tM cy)[2]? = some (cy 3, .int) := rfl
theorem wM_e4 (ad : Nat → Nat) (cy : Nat → ClassId) (σ : zSt) : (wM ad cy σ)[4]? = some (ad 4, .inl (cy 4, 5, .inr (.inl (zgl σ 4)))) := rfl
theorem wM_s4 (ad : Nat → Nat) (cy : Nat → ClassId) (σ : zSt) (j : Nat) (v : Int64) : (wM ad cy σ).set 4 (ad 4, .inl (cy 4, 5, .inr (.inl (vp_updL (zgl σ 4) j v)))) = wM ad cy (zsl σ 4 j v) := rfl
theorem tM_t4 (cy : Nat → ClassId) : (tM cy)[3]? = some (cy 4, .long) := rfl
theorem wM_e5 (ad : Nat → Nat) (cy : Nat → ClassId) (σ : zSt) : (wM ad cy σ)[5]? = some (ad 5, .inl (cy 5, 8192, .inl (zgi σ 5))) := rfl
theorem wM_s5 (ad : Nat → Nat) (cy : Nat → ClassId) (σ : zSt) (j : Nat) (v : Int32) : (wM ad cy σ).set 5 (ad 5, .inl (cy 5, 8192, .inl (upd (zgi σ 5) j v))) = wM ad cy (zsi σ 5 j v) := rfl
theorem tM_t5 (cy : Nat → ClassId) : (tM cy)[4]? = some (cy 5, .byte) := rfl
theorem wM_e6 (ad : Nat → Nat) (cy : Nat → ClassId) (σ : zSt) : (wM ad cy σ)[6]? = some (ad 6, .inl (cy 6, 32768, .inl (zgi σ 6))) := rfl
theorem wM_s6 (ad : Nat → Nat) (cy : Nat → ClassId) (σ : zSt) (j : Nat) (v : Int32) : (wM ad cy σ).set 6 (ad 6, .inl (cy 6, 32768, .inl (upd (zgi σ 6) j v))) = wM ad cy (zsi σ 6 j v) := rfl
theorem tM_t6 (cy : Nat → ClassId) : (tM cy)[5]? = some (cy 6, .byte) := rfl
theorem wM_e7 (ad : Nat → Nat) (cy : Nat → ClassId) (σ : zSt) : (wM ad cy σ)[7]? = some (ad 7, .inl (cy 7, 16384, .inl (zgi σ 7))) := rfl
theorem wM_s7 (ad : Nat → Nat) (cy : Nat → ClassId) (σ : zSt) (j : Nat) (v : Int32) : (wM ad cy σ).set 7 (ad 7, .inl (cy 7, 16384, .inl (upd (zgi σ 7) j v))) = wM ad cy (zsi σ 7 j v) := rfl
theorem tM_t7 (cy : Nat → ClassId) : (tM cy)[6]? = some (cy 7, .byte) := rfl
theorem wM_e8 (ad : Nat → Nat) (cy : Nat → ClassId) (σ : zSt) : (wM ad cy σ)[8]? = some (ad 8, .inl (cy 8, 64, .inl (zgi σ 8))) := rfl
theorem wM_s8 (ad : Nat → Nat) (cy : Nat → ClassId) (σ : zSt) (j : Nat) (v : Int32) : (wM ad cy σ).set 8 (ad 8, .inl (cy 8, 64, .inl (upd (zgi σ 8) j v))) = wM ad cy (zsi σ 8 j v) := rfl
theorem tM_t8 (cy : Nat → ClassId) : (tM cy)[7]? = some (cy 8, .byte) := rfl
theorem wM_e9 (ad : Nat → Nat) (cy : Nat → ClassId) (σ : zSt) : (wM ad cy σ)[9]? = some (ad 9, .inl (cy 9, 61440, .inl (zgi σ 9))) := rfl
theorem wM_s9 (ad : Nat → Nat) (cy : Nat → ClassId) (σ : zSt) (j : Nat) (v : Int32) : (wM ad cy σ).set 9 (ad 9, .inl (cy 9, 61440, .inl (upd (zgi σ 9) j v))) = wM ad cy (zsi σ 9 j v) := rfl
theorem tM_t9 (cy : Nat → ClassId) : (tM cy)[8]? = some (cy 9, .int) := rfl
theorem wM_e10 (ad : Nat → Nat) (cy : Nat → ClassId) (σ : zSt) : (wM ad cy σ)[10]? = some (ad 10, .inl (cy 10, 4096, .inr (.inl (zgl σ 10)))) := rfl
theorem wM_s10 (ad : Nat → Nat) (cy : Nat → ClassId) (σ : zSt) (j : Nat) (v : Int64) : (wM ad cy σ).set 10 (ad 10, .inl (cy 10, 4096, .inr (.inl (vp_updL (zgl σ 10) j v)))) = wM ad cy (zsl σ 10 j v) := rfl
theorem tM_t10 (cy : Nat → ClassId) : (tM cy)[9]? = some (cy 10, .long) := rfl
theorem wM_e11 (ad : Nat → Nat) (cy : Nat → ClassId) (σ : zSt) : (wM ad cy σ)[11]? = some (ad 11, .inl (cy 11, 4096, .inr (.inl (zgl σ 11)))) := rfl
theorem wM_s11 (ad : Nat → Nat) (cy : Nat → ClassId) (σ : zSt) (j : Nat) (v : Int64) : (wM ad cy σ).set 11 (ad 11, .inl (cy 11, 4096, .inr (.inl (vp_updL (zgl σ 11) j v)))) = wM ad cy (zsl σ 11 j v) := rfl
theorem tM_t11 (cy : Nat → ClassId) : (tM cy)[10]? = some (cy 11, .long) := rfl
theorem wM_e12 (ad : Nat → Nat) (cy : Nat → ClassId) (σ : zSt) : (wM ad cy σ)[12]? = some (ad 12, .inl (cy 12, 1048, .inl (zgi σ 12))) := rfl
theorem wM_s12 (ad : Nat → Nat) (cy : Nat → ClassId) (σ : zSt) (j : Nat) (v : Int32) : (wM ad cy σ).set 12 (ad 12, .inl (cy 12, 1048, .inl (upd (zgi σ 12) j v))) = wM ad cy (zsi σ 12 j v) := rfl
theorem tM_t12 (cy : Nat → ClassId) : (tM cy)[11]? = some (cy 12, .int) := rfl
theorem wM_e13 (ad : Nat → Nat) (cy : Nat → ClassId) (σ : zSt) : (wM ad cy σ)[13]? = some (ad 13, .inl (cy 13, 5, .inr (.inl (zgl σ 13)))) := rfl
theorem wM_s13 (ad : Nat → Nat) (cy : Nat → ClassId) (σ : zSt) (j : Nat) (v : Int64) : (wM ad cy σ).set 13 (ad 13, .inl (cy 13, 5, .inr (.inl (vp_updL (zgl σ 13) j v)))) = wM ad cy (zsl σ 13 j v) := rfl
theorem tM_t13 (cy : Nat → ClassId) : (tM cy)[12]? = some (cy 13, .long) := rfl
theorem wM_e14 (ad : Nat → Nat) (cy : Nat → ClassId) (σ : zSt) : (wM ad cy σ)[14]? = some (ad 14, .inl (cy 14, 8192, .inl (zgi σ 14))) := rfl
theorem wM_s14 (ad : Nat → Nat) (cy : Nat → ClassId) (σ : zSt) (j : Nat) (v : Int32) : (wM ad cy σ).set 14 (ad 14, .inl (cy 14, 8192, .inl (upd (zgi σ 14) j v))) = wM ad cy (zsi σ 14 j v) := rfl
theorem tM_t14 (cy : Nat → ClassId) : (tM cy)[13]? = some (cy 14, .byte) := rfl
theorem wM_e15 (ad : Nat → Nat) (cy : Nat → ClassId) (σ : zSt) : (wM ad cy σ)[15]? = some (ad 15, .inl (cy 15, 32768, .inl (zgi σ 15))) := rfl
theorem wM_s15 (ad : Nat → Nat) (cy : Nat → ClassId) (σ : zSt) (j : Nat) (v : Int32) : (wM ad cy σ).set 15 (ad 15, .inl (cy 15, 32768, .inl (upd (zgi σ 15) j v))) = wM ad cy (zsi σ 15 j v) := rfl
theorem tM_t15 (cy : Nat → ClassId) : (tM cy)[14]? = some (cy 15, .byte) := rfl
theorem wM_e16 (ad : Nat → Nat) (cy : Nat → ClassId) (σ : zSt) : (wM ad cy σ)[16]? = some (ad 16, .inl (cy 16, 16384, .inl (zgi σ 16))) := rfl
theorem wM_s16 (ad : Nat → Nat) (cy : Nat → ClassId) (σ : zSt) (j : Nat) (v : Int32) : (wM ad cy σ).set 16 (ad 16, .inl (cy 16, 16384, .inl (upd (zgi σ 16) j v))) = wM ad cy (zsi σ 16 j v) := rfl
theorem tM_t16 (cy : Nat → ClassId) : (tM cy)[15]? = some (cy 16, .byte) := rfl
theorem wM_e17 (ad : Nat → Nat) (cy : Nat → ClassId) (σ : zSt) : (wM ad cy σ)[17]? = some (ad 17, .inl (cy 17, 64, .inl (zgi σ 17))) := rfl
theorem wM_s17 (ad : Nat → Nat) (cy : Nat → ClassId) (σ : zSt) (j : Nat) (v : Int32) : (wM ad cy σ).set 17 (ad 17, .inl (cy 17, 64, .inl (upd (zgi σ 17) j v))) = wM ad cy (zsi σ 17 j v) := rfl
theorem tM_t17 (cy : Nat → ClassId) : (tM cy)[16]? = some (cy 17, .byte) := rfl
theorem wM_e18 (ad : Nat → Nat) (cy : Nat → ClassId) (σ : zSt) : (wM ad cy σ)[18]? = some (ad 18, .inl (cy 18, 61440, .inl (zgi σ 18))) := rfl
theorem wM_s18 (ad : Nat → Nat) (cy : Nat → ClassId) (σ : zSt) (j : Nat) (v : Int32) : (wM ad cy σ).set 18 (ad 18, .inl (cy 18, 61440, .inl (upd (zgi σ 18) j v))) = wM ad cy (zsi σ 18 j v) := rfl
theorem tM_t18 (cy : Nat → ClassId) : (tM cy)[17]? = some (cy 18, .int) := rfl
theorem wM_e19 (ad : Nat → Nat) (cy : Nat → ClassId) (σ : zSt) : (wM ad cy σ)[19]? = some (ad 19, .inl (cy 19, 4096, .inr (.inl (zgl σ 19)))) := rfl
theorem wM_s19 (ad : Nat → Nat) (cy : Nat → ClassId) (σ : zSt) (j : Nat) (v : Int64) : (wM ad cy σ).set 19 (ad 19, .inl (cy 19, 4096, .inr (.inl (vp_updL (zgl σ 19) j v)))) = wM ad cy (zsl σ 19 j v) := rfl
theorem tM_t19 (cy : Nat → ClassId) : (tM cy)[18]? = some (cy 19, .long) := rfl
theorem wM_e20 (ad : Nat → Nat) (cy : Nat → ClassId) (σ : zSt) : (wM ad cy σ)[20]? = some (ad 20, .inl (cy 20, 4096, .inr (.inl (zgl σ 20)))) := rfl
theorem wM_s20 (ad : Nat → Nat) (cy : Nat → ClassId) (σ : zSt) (j : Nat) (v : Int64) : (wM ad cy σ).set 20 (ad 20, .inl (cy 20, 4096, .inr (.inl (vp_updL (zgl σ 20) j v)))) = wM ad cy (zsl σ 20 j v) := rfl
theorem tM_t20 (cy : Nat → ClassId) : (tM cy)[19]? = some (cy 20, .long) := rfl
theorem wM_e21 (ad : Nat → Nat) (cy : Nat → ClassId) (σ : zSt) : (wM ad cy σ)[21]? = some (ad 21, .inl (cy 21, 32, .inl (zgi σ 21))) := rfl
theorem wM_s21 (ad : Nat → Nat) (cy : Nat → ClassId) (σ : zSt) (j : Nat) (v : Int32) : (wM ad cy σ).set 21 (ad 21, .inl (cy 21, 32, .inl (upd (zgi σ 21) j v))) = wM ad cy (zsi σ 21 j v) := rfl
theorem tM_t21 (cy : Nat → ClassId) : (tM cy)[20]? = some (cy 21, .int) := rfl
theorem wM_e22 (ad : Nat → Nat) (cy : Nat → ClassId) (σ : zSt) : (wM ad cy σ)[22]? = some (ad 22, .inl (cy 22, 256, .inl (zgi σ 22))) := rfl
theorem wM_s22 (ad : Nat → Nat) (cy : Nat → ClassId) (σ : zSt) (j : Nat) (v : Int32) : (wM ad cy σ).set 22 (ad 22, .inl (cy 22, 256, .inl (upd (zgi σ 22) j v))) = wM ad cy (zsi σ 22 j v) := rfl
theorem tM_t22 (cy : Nat → ClassId) : (tM cy)[21]? = some (cy 22, .int) := rfl
theorem wM_e23 (ad : Nat → Nat) (cy : Nat → ClassId) (σ : zSt) : (wM ad cy σ)[23]? = some (ad 23, .inl (cy 23, 256, .inl (zgi σ 23))) := rfl
theorem wM_s23 (ad : Nat → Nat) (cy : Nat → ClassId) (σ : zSt) (j : Nat) (v : Int32) : (wM ad cy σ).set 23 (ad 23, .inl (cy 23, 256, .inl (upd (zgi σ 23) j v))) = wM ad cy (zsi σ 23 j v) := rfl
theorem tM_t23 (cy : Nat → ClassId) : (tM cy)[22]? = some (cy 23, .boolean) := rfl
theorem wM_e24 (ad : Nat → Nat) (cy : Nat → ClassId) (σ : zSt) : (wM ad cy σ)[24]? = some (ad 24, .inl (cy 24, 256, .inl (zgi σ 24))) := rfl
theorem wM_s24 (ad : Nat → Nat) (cy : Nat → ClassId) (σ : zSt) (j : Nat) (v : Int32) : (wM ad cy σ).set 24 (ad 24, .inl (cy 24, 256, .inl (upd (zgi σ 24) j v))) = wM ad cy (zsi σ 24 j v) := rfl
theorem tM_t24 (cy : Nat → ClassId) : (tM cy)[23]? = some (cy 24, .int) := rfl
theorem wM_e25 (ad : Nat → Nat) (cy : Nat → ClassId) (σ : zSt) : (wM ad cy σ)[25]? = some (ad 25, .inl (cy 25, 256, .inl (zgi σ 25))) := rfl
theorem wM_s25 (ad : Nat → Nat) (cy : Nat → ClassId) (σ : zSt) (j : Nat) (v : Int32) : (wM ad cy σ).set 25 (ad 25, .inl (cy 25, 256, .inl (upd (zgi σ 25) j v))) = wM ad cy (zsi σ 25 j v) := rfl
theorem tM_t25 (cy : Nat → ClassId) : (tM cy)[24]? = some (cy 25, .boolean) := rfl
theorem wM_e26 (ad : Nat → Nat) (cy : Nat → ClassId) (σ : zSt) : (wM ad cy σ)[26]? = some (ad 26, .inl (cy 26, 40, .inl (zgi σ 26))) := rfl
theorem wM_s26 (ad : Nat → Nat) (cy : Nat → ClassId) (σ : zSt) (j : Nat) (v : Int32) : (wM ad cy σ).set 26 (ad 26, .inl (cy 26, 40, .inl (upd (zgi σ 26) j v))) = wM ad cy (zsi σ 26 j v) := rfl
theorem tM_t26 (cy : Nat → ClassId) : (tM cy)[25]? = some (cy 26, .int) := rfl
