def ztp (x : Int32) : Nat := if x = 0 then 13 else 14
def wCf0 (ad : Nat → Nat) (σ : zSt) : List Value := [.int (zgi σ 0 0), .ref (ad 1), .ref (ad 2), .ref (ad 3), .ref (ad 4), .ref (ad 5), .ref (ad 6), .ref (ad 7), .ref (ad 8), .ref (ad 9), .ref (ad 10), .int (zgi σ 0 11)]
def wCf1 (ad : Nat → Nat) (σ : zSt) : List Value := [.ref (ad (ztp (zgi σ 1 0))), .ref (ad (ztp (zgi σ 1 1))), .int (zgi σ 1 2), .int (zgi σ 1 3), .int (zgi σ 1 4), .int (zgi σ 1 5), .int (zgi σ 1 6), .int (zgi σ 1 7), .ref (ad 15), .ref (ad 16), .ref (ad 17), .ref (ad 18), .ref (ad 19), .ref (ad 20)]
def wCf2 (ad : Nat → Nat) (σ : zSt) : List Value := [.int (zgi σ 2 0), .int (zgi σ 2 1), .ref (ad 21), .ref (ad 22), .ref (ad 23), .ref (ad 24)]
def wCf3 (ad : Nat → Nat) (σ : zSt) : List Value := [.ref (ad 2), .int (zgi σ 3 1), .ref (ad 25), .ref (ad 26), .ref (ad 27), .ref (ad 28), .ref (ad 29), .int (zgi σ 3 7), .int (zgi σ 3 8)]
def wCf4 (ad : Nat → Nat) (σ : zSt) : List Value := [.ref (ad 30), .ref (ad 31)]
def wCf5 (ad : Nat → Nat) (σ : zSt) : List Value := [.ref (ad 32), .ref (ad 33), .int (zgi σ 5 2), .int (zgi σ 5 3), .int (zgi σ 5 4), .int (zgi σ 5 5), .long (zgl σ 5 6), .long (zgl σ 5 7)]
def wCf6 (ad : Nat → Nat) (σ : zSt) : List Value := [.int (zgi σ 6 0), .ref (ad 2), .ref (ad 4), .ref (ad 5), .ref (ad 34), .ref (ad 35)]
def wCf7 (ad : Nat → Nat) (σ : zSt) : List Value := [.ref (ad 1), .ref (ad 6), .ref (ad 36), .ref (ad 37), .int (zgi σ 7 4), .int (zgi σ 7 5)]
def wCf8 (ad : Nat → Nat) (σ : zSt) : List Value := [.ref (ad 4), .ref (ad 5), .ref (ad 11), .ref (ad 12), .ref (ad 38), .ref (ad 39)]
def wCf9 (ad : Nat → Nat) (σ : zSt) : List Value := [.ref (ad 40), .ref (ad 41), .ref (ad 42), .ref (ad 43), .ref (ad 44), .int (zgi σ 9 5)]
def wCf10 (ad : Nat → Nat) (σ : zSt) : List Value := [.ref (ad 1), .ref (ad 45), .int (zgi σ 10 2), .int (zgi σ 10 3), .int (zgi σ 10 4), .int (zgi σ 10 5), .int (zgi σ 10 6), .int (zgi σ 10 7), .int (zgi σ 10 8), .int (zgi σ 10 9), .int (zgi σ 10 10)]
def wCf11 (ad : Nat → Nat) (σ : zSt) : List Value := [.ref (ad 46), .ref (ad 47), .int (zgi σ 11 2), .int (zgi σ 11 3), .int (zgi σ 11 4), .int (zgi σ 11 5)]
def wCf12 (ad : Nat → Nat) (σ : zSt) : List Value := [.ref (ad 48), .ref (ad 49), .int (zgi σ 12 2), .int (zgi σ 12 3), .int (zgi σ 12 4), .int (zgi σ 12 5)]
def wC (ad : Nat → Nat) (cy : Nat → ClassId) (σ : zSt) : va_W := [(ad 0, .inr (13, wCf0 ad σ)), (ad 1, .inr (4, wCf1 ad σ)), (ad 2, .inr (11, wCf2 ad σ)), (ad 3, .inr (5, wCf3 ad σ)), (ad 4, .inr (9, wCf4 ad σ)), (ad 5, .inr (12, wCf5 ad σ)), (ad 6, .inr (6, wCf6 ad σ)), (ad 7, .inr (7, wCf7 ad σ)), (ad 8, .inr (2, wCf8 ad σ)), (ad 9, .inr (3, wCf9 ad σ)), (ad 10, .inr (10, wCf10 ad σ)), (ad 11, .inr (8, wCf11 ad σ)), (ad 12, .inr (8, wCf12 ad σ)), (ad 13, .inl (cy 13, 262656, .inl (zgi σ 13))), (ad 14, .inl (cy 14, 262656, .inl (zgi σ 14))), (ad 15, .inl (cy 15, 8192, .inl (zgi σ 15))), (ad 16, .inl (cy 16, 8192, .inl (zgi σ 16))), (ad 17, .inl (cy 17, 32768, .inl (zgi σ 17))), (ad 18, .inl (cy 18, 32768, .inl (zgi σ 18))), (ad 19, .inl (cy 19, 4, .inl (zgi σ 19))), (ad 20, .inl (cy 20, 4, .inl (zgi σ 20))), (ad 21, .inl (cy 21, 16384, .inl (zgi σ 21))), (ad 22, .inl (cy 22, 16384, .inl (zgi σ 22))), (ad 23, .inl (cy 23, 96, .inl (zgi σ 23))), (ad 24, .inl (cy 24, 96, .inl (zgi σ 24))), (ad 25, .inl (cy 25, 61440, .inl (zgi σ 25))), (ad 26, .inl (cy 26, 61440, .inl (zgi σ 26))), (ad 27, .inl (cy 27, 256, .inl (zgi σ 27))), (ad 28, .inl (cy 28, 256, .inl (zgi σ 28))), (ad 29, .inl (cy 29, 32, .inl (zgi σ 29))), (ad 30, .inl (cy 30, 19, .inl (zgi σ 30))), (ad 31, .inl (cy 31, 19, .inl (zgi σ 31))), (ad 32, .inl (cy 32, 272, .inl (zgi σ 32))), (ad 33, .inl (cy 33, 272, .inl (zgi σ 33))), (ad 34, .inl (cy 34, 12, .inl (zgi σ 34))), (ad 35, .inl (cy 35, 12, .inl (zgi σ 35))), (ad 36, .inl (cy 36, 29, .inl (zgi σ 36))), (ad 37, .inl (cy 37, 29, .inl (zgi σ 37))), (ad 38, .inl (cy 38, 7, .inr (.inl (zgl σ 38)))), (ad 39, .inl (cy 39, 7, .inr (.inl (zgl σ 39)))), (ad 40, .inl (cy 40, 9, .inl (zgi σ 40))), (ad 41, .inl (cy 41, 9, .inl (zgi σ 41))), (ad 42, .inl (cy 42, 770, .inl (zgi σ 42))), (ad 43, .inl (cy 43, 770, .inl (zgi σ 43))), (ad 44, .inl (cy 44, 32, .inl (zgi σ 44))), (ad 45, .inl (cy 45, 32, .inl (zgi σ 45))), (ad 46, .inl (cy 46, 4096, .inr (.inl (zgl σ 46)))), (ad 47, .inl (cy 47, 4096, .inr (.inl (zgl σ 47)))), (ad 48, .inl (cy 48, 4096, .inr (.inl (zgl σ 48)))), (ad 49, .inl (cy 49, 4096, .inr (.inl (zgl σ 49))))]
def tC (cy : Nat → ClassId) : List (ClassId × FieldType) := [(cy 13, .int), (cy 14, .int), (cy 15, .int), (cy 16, .int), (cy 17, .int), (cy 18, .int), (cy 19, .int), (cy 20, .int), (cy 21, .int), (cy 22, .int), (cy 23, .int), (cy 24, .int), (cy 25, .int), (cy 26, .int), (cy 27, .int), (cy 28, .int), (cy 29, .int), (cy 30, .int), (cy 31, .int), (cy 32, .int), (cy 33, .int), (cy 34, .int), (cy 35, .int), (cy 36, .int), (cy 37, .int), (cy 38, .long), (cy 39, .long), (cy 40, .int), (cy 41, .int), (cy 42, .int), (cy 43, .int), (cy 44, .int), (cy 45, .int), (cy 46, .long), (cy 47, .long), (cy 48, .long), (cy 49, .long)]
theorem wC_e0 (ad : Nat → Nat) (cy : Nat → ClassId) (σ : zSt) : (wC ad cy σ)[0]? = some (ad 0, .inr (13, wCf0 ad σ)) := rfl
theorem wC_s0_11 (ad : Nat → Nat) (cy : Nat → ClassId) (σ : zSt) (v : Int32) : (wC ad cy σ).set 0 (ad 0, .inr (13, (wCf0 ad σ).set 11 (.int v))) = wC ad cy (zsi σ 0 11 v) := rfl
theorem wC_e1 (ad : Nat → Nat) (cy : Nat → ClassId) (σ : zSt) : (wC ad cy σ)[1]? = some (ad 1, .inr (4, wCf1 ad σ)) := rfl
theorem wC_s1_0 (ad : Nat → Nat) (cy : Nat → ClassId) (σ : zSt) (v : Int32) : (wC ad cy σ).set 1 (ad 1, .inr (4, (wCf1 ad σ).set 0 (.ref (ad (ztp v))))) = wC ad cy (zsi σ 1 0 v) := rfl
theorem wC_s1_1 (ad : Nat → Nat) (cy : Nat → ClassId) (σ : zSt) (v : Int32) : (wC ad cy σ).set 1 (ad 1, .inr (4, (wCf1 ad σ).set 1 (.ref (ad (ztp v))))) = wC ad cy (zsi σ 1 1 v) := rfl
theorem wC_s1_2 (ad : Nat → Nat) (cy : Nat → ClassId) (σ : zSt) (v : Int32) : (wC ad cy σ).set 1 (ad 1, .inr (4, (wCf1 ad σ).set 2 (.int v))) = wC ad cy (zsi σ 1 2 v) := rfl
theorem wC_s1_3 (ad : Nat → Nat) (cy : Nat → ClassId) (σ : zSt) (v : Int32) : (wC ad cy σ).set 1 (ad 1, .inr (4, (wCf1 ad σ).set 3 (.int v))) = wC ad cy (zsi σ 1 3 v) := rfl
theorem wC_s1_4 (ad : Nat → Nat) (cy : Nat → ClassId) (σ : zSt) (v : Int32) : (wC ad cy σ).set 1 (ad 1, .inr (4, (wCf1 ad σ).set 4 (.int v))) = wC ad cy (zsi σ 1 4 v) := rfl
theorem wC_s1_5 (ad : Nat → Nat) (cy : Nat → ClassId) (σ : zSt) (v : Int32) : (wC ad cy σ).set 1 (ad 1, .inr (4, (wCf1 ad σ).set 5 (.int v))) = wC ad cy (zsi σ 1 5 v) := rfl
theorem wC_s1_6 (ad : Nat → Nat) (cy : Nat → ClassId) (σ : zSt) (v : Int32) : (wC ad cy σ).set 1 (ad 1, .inr (4, (wCf1 ad σ).set 6 (.int v))) = wC ad cy (zsi σ 1 6 v) := rfl
theorem wC_s1_7 (ad : Nat → Nat) (cy : Nat → ClassId) (σ : zSt) (v : Int32) : (wC ad cy σ).set 1 (ad 1, .inr (4, (wCf1 ad σ).set 7 (.int v))) = wC ad cy (zsi σ 1 7 v) := rfl
theorem wC_e2 (ad : Nat → Nat) (cy : Nat → ClassId) (σ : zSt) : (wC ad cy σ)[2]? = some (ad 2, .inr (11, wCf2 ad σ)) := rfl
theorem wC_e3 (ad : Nat → Nat) (cy : Nat → ClassId) (σ : zSt) : (wC ad cy σ)[3]? = some (ad 3, .inr (5, wCf3 ad σ)) := rfl
theorem wC_s3_7 (ad : Nat → Nat) (cy : Nat → ClassId) (σ : zSt) (v : Int32) : (wC ad cy σ).set 3 (ad 3, .inr (5, (wCf3 ad σ).set 7 (.int v))) = wC ad cy (zsi σ 3 7 v) := rfl
theorem wC_s3_8 (ad : Nat → Nat) (cy : Nat → ClassId) (σ : zSt) (v : Int32) : (wC ad cy σ).set 3 (ad 3, .inr (5, (wCf3 ad σ).set 8 (.int v))) = wC ad cy (zsi σ 3 8 v) := rfl
theorem wC_e4 (ad : Nat → Nat) (cy : Nat → ClassId) (σ : zSt) : (wC ad cy σ)[4]? = some (ad 4, .inr (9, wCf4 ad σ)) := rfl
theorem wC_e5 (ad : Nat → Nat) (cy : Nat → ClassId) (σ : zSt) : (wC ad cy σ)[5]? = some (ad 5, .inr (12, wCf5 ad σ)) := rfl
theorem wC_s5_2 (ad : Nat → Nat) (cy : Nat → ClassId) (σ : zSt) (v : Int32) : (wC ad cy σ).set 5 (ad 5, .inr (12, (wCf5 ad σ).set 2 (.int v))) = wC ad cy (zsi σ 5 2 v) := rfl
theorem wC_s5_3 (ad : Nat → Nat) (cy : Nat → ClassId) (σ : zSt) (v : Int32) : (wC ad cy σ).set 5 (ad 5, .inr (12, (wCf5 ad σ).set 3 (.int v))) = wC ad cy (zsi σ 5 3 v) := rfl
theorem wC_s5_4 (ad : Nat → Nat) (cy : Nat → ClassId) (σ : zSt) (v : Int32) : (wC ad cy σ).set 5 (ad 5, .inr (12, (wCf5 ad σ).set 4 (.int v))) = wC ad cy (zsi σ 5 4 v) := rfl
theorem wC_s5_5 (ad : Nat → Nat) (cy : Nat → ClassId) (σ : zSt) (v : Int32) : (wC ad cy σ).set 5 (ad 5, .inr (12, (wCf5 ad σ).set 5 (.int v))) = wC ad cy (zsi σ 5 5 v) := rfl
theorem wC_s5_6 (ad : Nat → Nat) (cy : Nat → ClassId) (σ : zSt) (v : Int64) : (wC ad cy σ).set 5 (ad 5, .inr (12, (wCf5 ad σ).set 6 (.long v))) = wC ad cy (zsl σ 5 6 v) := rfl
theorem wC_s5_7 (ad : Nat → Nat) (cy : Nat → ClassId) (σ : zSt) (v : Int64) : (wC ad cy σ).set 5 (ad 5, .inr (12, (wCf5 ad σ).set 7 (.long v))) = wC ad cy (zsl σ 5 7 v) := rfl
theorem wC_e6 (ad : Nat → Nat) (cy : Nat → ClassId) (σ : zSt) : (wC ad cy σ)[6]? = some (ad 6, .inr (6, wCf6 ad σ)) := rfl
theorem wC_e7 (ad : Nat → Nat) (cy : Nat → ClassId) (σ : zSt) : (wC ad cy σ)[7]? = some (ad 7, .inr (7, wCf7 ad σ)) := rfl
theorem wC_s7_4 (ad : Nat → Nat) (cy : Nat → ClassId) (σ : zSt) (v : Int32) : (wC ad cy σ).set 7 (ad 7, .inr (7, (wCf7 ad σ).set 4 (.int v))) = wC ad cy (zsi σ 7 4 v) := rfl
theorem wC_s7_5 (ad : Nat → Nat) (cy : Nat → ClassId) (σ : zSt) (v : Int32) : (wC ad cy σ).set 7 (ad 7, .inr (7, (wCf7 ad σ).set 5 (.int v))) = wC ad cy (zsi σ 7 5 v) := rfl
theorem wC_e8 (ad : Nat → Nat) (cy : Nat → ClassId) (σ : zSt) : (wC ad cy σ)[8]? = some (ad 8, .inr (2, wCf8 ad σ)) := rfl
theorem wC_e9 (ad : Nat → Nat) (cy : Nat → ClassId) (σ : zSt) : (wC ad cy σ)[9]? = some (ad 9, .inr (3, wCf9 ad σ)) := rfl
theorem wC_s9_5 (ad : Nat → Nat) (cy : Nat → ClassId) (σ : zSt) (v : Int32) : (wC ad cy σ).set 9 (ad 9, .inr (3, (wCf9 ad σ).set 5 (.int v))) = wC ad cy (zsi σ 9 5 v) := rfl
theorem wC_e10 (ad : Nat → Nat) (cy : Nat → ClassId) (σ : zSt) : (wC ad cy σ)[10]? = some (ad 10, .inr (10, wCf10 ad σ)) := rfl
theorem wC_s10_2 (ad : Nat → Nat) (cy : Nat → ClassId) (σ : zSt) (v : Int32) : (wC ad cy σ).set 10 (ad 10, .inr (10, (wCf10 ad σ).set 2 (.int v))) = wC ad cy (zsi σ 10 2 v) := rfl
theorem wC_s10_3 (ad : Nat → Nat) (cy : Nat → ClassId) (σ : zSt) (v : Int32) : (wC ad cy σ).set 10 (ad 10, .inr (10, (wCf10 ad σ).set 3 (.int v))) = wC ad cy (zsi σ 10 3 v) := rfl
theorem wC_s10_4 (ad : Nat → Nat) (cy : Nat → ClassId) (σ : zSt) (v : Int32) : (wC ad cy σ).set 10 (ad 10, .inr (10, (wCf10 ad σ).set 4 (.int v))) = wC ad cy (zsi σ 10 4 v) := rfl
theorem wC_s10_5 (ad : Nat → Nat) (cy : Nat → ClassId) (σ : zSt) (v : Int32) : (wC ad cy σ).set 10 (ad 10, .inr (10, (wCf10 ad σ).set 5 (.int v))) = wC ad cy (zsi σ 10 5 v) := rfl
theorem wC_s10_6 (ad : Nat → Nat) (cy : Nat → ClassId) (σ : zSt) (v : Int32) : (wC ad cy σ).set 10 (ad 10, .inr (10, (wCf10 ad σ).set 6 (.int v))) = wC ad cy (zsi σ 10 6 v) := rfl
theorem wC_s10_7 (ad : Nat → Nat) (cy : Nat → ClassId) (σ : zSt) (v : Int32) : (wC ad cy σ).set 10 (ad 10, .inr (10, (wCf10 ad σ).set 7 (.int v))) = wC ad cy (zsi σ 10 7 v) := rfl
theorem wC_s10_8 (ad : Nat → Nat) (cy : Nat → ClassId) (σ : zSt) (v : Int32) : (wC ad cy σ).set 10 (ad 10, .inr (10, (wCf10 ad σ).set 8 (.int v))) = wC ad cy (zsi σ 10 8 v) := rfl
theorem wC_s10_9 (ad : Nat → Nat) (cy : Nat → ClassId) (σ : zSt) (v : Int32) : (wC ad cy σ).set 10 (ad 10, .inr (10, (wCf10 ad σ).set 9 (.int v))) = wC ad cy (zsi σ 10 9 v) := rfl
theorem wC_s10_10 (ad : Nat → Nat) (cy : Nat → ClassId) (σ : zSt) (v : Int32) : (wC ad cy σ).set 10 (ad 10, .inr (10, (wCf10 ad σ).set 10 (.int v))) = wC ad cy (zsi σ 10 10 v) := rfl
theorem wC_e11 (ad : Nat → Nat) (cy : Nat → ClassId) (σ : zSt) : (wC ad cy σ)[11]? = some (ad 11, .inr (8, wCf11 ad σ)) := rfl
theorem wC_s11_2 (ad : Nat → Nat) (cy : Nat → ClassId) (σ : zSt) (v : Int32) : (wC ad cy σ).set 11 (ad 11, .inr (8, (wCf11 ad σ).set 2 (.int v))) = wC ad cy (zsi σ 11 2 v) := rfl
theorem wC_s11_3 (ad : Nat → Nat) (cy : Nat → ClassId) (σ : zSt) (v : Int32) : (wC ad cy σ).set 11 (ad 11, .inr (8, (wCf11 ad σ).set 3 (.int v))) = wC ad cy (zsi σ 11 3 v) := rfl
theorem wC_s11_4 (ad : Nat → Nat) (cy : Nat → ClassId) (σ : zSt) (v : Int32) : (wC ad cy σ).set 11 (ad 11, .inr (8, (wCf11 ad σ).set 4 (.int v))) = wC ad cy (zsi σ 11 4 v) := rfl
theorem wC_s11_5 (ad : Nat → Nat) (cy : Nat → ClassId) (σ : zSt) (v : Int32) : (wC ad cy σ).set 11 (ad 11, .inr (8, (wCf11 ad σ).set 5 (.int v))) = wC ad cy (zsi σ 11 5 v) := rfl
theorem wC_e12 (ad : Nat → Nat) (cy : Nat → ClassId) (σ : zSt) : (wC ad cy σ)[12]? = some (ad 12, .inr (8, wCf12 ad σ)) := rfl
theorem wC_s12_2 (ad : Nat → Nat) (cy : Nat → ClassId) (σ : zSt) (v : Int32) : (wC ad cy σ).set 12 (ad 12, .inr (8, (wCf12 ad σ).set 2 (.int v))) = wC ad cy (zsi σ 12 2 v) := rfl
theorem wC_s12_3 (ad : Nat → Nat) (cy : Nat → ClassId) (σ : zSt) (v : Int32) : (wC ad cy σ).set 12 (ad 12, .inr (8, (wCf12 ad σ).set 3 (.int v))) = wC ad cy (zsi σ 12 3 v) := rfl
theorem wC_s12_4 (ad : Nat → Nat) (cy : Nat → ClassId) (σ : zSt) (v : Int32) : (wC ad cy σ).set 12 (ad 12, .inr (8, (wCf12 ad σ).set 4 (.int v))) = wC ad cy (zsi σ 12 4 v) := rfl
theorem wC_s12_5 (ad : Nat → Nat) (cy : Nat → ClassId) (σ : zSt) (v : Int32) : (wC ad cy σ).set 12 (ad 12, .inr (8, (wCf12 ad σ).set 5 (.int v))) = wC ad cy (zsi σ 12 5 v) := rfl
theorem wC_e13 (ad : Nat → Nat) (cy : Nat → ClassId) (σ : zSt) : (wC ad cy σ)[13]? = some (ad 13, .inl (cy 13, 262656, .inl (zgi σ 13))) := rfl
theorem wC_s13 (ad : Nat → Nat) (cy : Nat → ClassId) (σ : zSt) (j : Nat) (v : Int32) : (wC ad cy σ).set 13 (ad 13, .inl (cy 13, 262656, .inl (upd (zgi σ 13) j v))) = wC ad cy (zsi σ 13 j v) := rfl
theorem tC_t13 (cy : Nat → ClassId) : (tC cy)[0]? = some (cy 13, .int) := rfl
theorem wC_e14 (ad : Nat → Nat) (cy : Nat → ClassId) (σ : zSt) : (wC ad cy σ)[14]? = some (ad 14, .inl (cy 14, 262656, .inl (zgi σ 14))) := rfl
theorem wC_s14 (ad : Nat → Nat) (cy : Nat → ClassId) (σ : zSt) (j : Nat) (v : Int32) : (wC ad cy σ).set 14 (ad 14, .inl (cy 14, 262656, .inl (upd (zgi σ 14) j v))) = wC ad cy (zsi σ 14 j v) := rfl
theorem tC_t14 (cy : Nat → ClassId) : (tC cy)[1]? = some (cy 14, .int) := rfl
theorem wC_e15 (ad : Nat → Nat) (cy : Nat → ClassId) (σ : zSt) : (wC ad cy σ)[15]? = some (ad 15, .inl (cy 15, 8192, .inl (zgi σ 15))) := rfl
theorem wC_s15 (ad : Nat → Nat) (cy : Nat → ClassId) (σ : zSt) (j : Nat) (v : Int32) : (wC ad cy σ).set 15 (ad 15, .inl (cy 15, 8192, .inl (upd (zgi σ 15) j v))) = wC ad cy (zsi σ 15 j v) := rfl
theorem tC_t15 (cy : Nat → ClassId) : (tC cy)[2]? = some (cy 15, .int) := rfl
theorem wC_e16 (ad : Nat → Nat) (cy : Nat → ClassId) (σ : zSt) : (wC ad cy σ)[16]? = some (ad 16, .inl (cy 16, 8192, .inl (zgi σ 16))) := rfl
theorem wC_s16 (ad : Nat → Nat) (cy : Nat → ClassId) (σ : zSt) (j : Nat) (v : Int32) : (wC ad cy σ).set 16 (ad 16, .inl (cy 16, 8192, .inl (upd (zgi σ 16) j v))) = wC ad cy (zsi σ 16 j v) := rfl
theorem tC_t16 (cy : Nat → ClassId) : (tC cy)[3]? = some (cy 16, .int) := rfl
theorem wC_e17 (ad : Nat → Nat) (cy : Nat → ClassId) (σ : zSt) : (wC ad cy σ)[17]? = some (ad 17, .inl (cy 17, 32768, .inl (zgi σ 17))) := rfl
theorem wC_s17 (ad : Nat → Nat) (cy : Nat → ClassId) (σ : zSt) (j : Nat) (v : Int32) : (wC ad cy σ).set 17 (ad 17, .inl (cy 17, 32768, .inl (upd (zgi σ 17) j v))) = wC ad cy (zsi σ 17 j v) := rfl
theorem tC_t17 (cy : Nat → ClassId) : (tC cy)[4]? = some (cy 17, .int) := rfl
theorem wC_e18 (ad : Nat → Nat) (cy : Nat → ClassId) (σ : zSt) : (wC ad cy σ)[18]? = some (ad 18, .inl (cy 18, 32768, .inl (zgi σ 18))) := rfl
theorem wC_s18 (ad : Nat → Nat) (cy : Nat → ClassId) (σ : zSt) (j : Nat) (v : Int32) : (wC ad cy σ).set 18 (ad 18, .inl (cy 18, 32768, .inl (upd (zgi σ 18) j v))) = wC ad cy (zsi σ 18 j v) := rfl
theorem tC_t18 (cy : Nat → ClassId) : (tC cy)[5]? = some (cy 18, .int) := rfl
theorem wC_e19 (ad : Nat → Nat) (cy : Nat → ClassId) (σ : zSt) : (wC ad cy σ)[19]? = some (ad 19, .inl (cy 19, 4, .inl (zgi σ 19))) := rfl
theorem wC_s19 (ad : Nat → Nat) (cy : Nat → ClassId) (σ : zSt) (j : Nat) (v : Int32) : (wC ad cy σ).set 19 (ad 19, .inl (cy 19, 4, .inl (upd (zgi σ 19) j v))) = wC ad cy (zsi σ 19 j v) := rfl
theorem tC_t19 (cy : Nat → ClassId) : (tC cy)[6]? = some (cy 19, .int) := rfl
theorem wC_e20 (ad : Nat → Nat) (cy : Nat → ClassId) (σ : zSt) : (wC ad cy σ)[20]? = some (ad 20, .inl (cy 20, 4, .inl (zgi σ 20))) := rfl
theorem wC_s20 (ad : Nat → Nat) (cy : Nat → ClassId) (σ : zSt) (j : Nat) (v : Int32) : (wC ad cy σ).set 20 (ad 20, .inl (cy 20, 4, .inl (upd (zgi σ 20) j v))) = wC ad cy (zsi σ 20 j v) := rfl
theorem tC_t20 (cy : Nat → ClassId) : (tC cy)[7]? = some (cy 20, .int) := rfl
theorem wC_e21 (ad : Nat → Nat) (cy : Nat → ClassId) (σ : zSt) : (wC ad cy σ)[21]? = some (ad 21, .inl (cy 21, 16384, .inl (zgi σ 21))) := rfl
theorem wC_s21 (ad : Nat → Nat) (cy : Nat → ClassId) (σ : zSt) (j : Nat) (v : Int32) : (wC ad cy σ).set 21 (ad 21, .inl (cy 21, 16384, .inl (upd (zgi σ 21) j v))) = wC ad cy (zsi σ 21 j v) := rfl
theorem tC_t21 (cy : Nat → ClassId) : (tC cy)[8]? = some (cy 21, .int) := rfl
theorem wC_e22 (ad : Nat → Nat) (cy : Nat → ClassId) (σ : zSt) : (wC ad cy σ)[22]? = some (ad 22, .inl (cy 22, 16384, .inl (zgi σ 22))) := rfl
theorem wC_s22 (ad : Nat → Nat) (cy : Nat → ClassId) (σ : zSt) (j : Nat) (v : Int32) : (wC ad cy σ).set 22 (ad 22, .inl (cy 22, 16384, .inl (upd (zgi σ 22) j v))) = wC ad cy (zsi σ 22 j v) := rfl
theorem tC_t22 (cy : Nat → ClassId) : (tC cy)[9]? = some (cy 22, .int) := rfl
theorem wC_e23 (ad : Nat → Nat) (cy : Nat → ClassId) (σ : zSt) : (wC ad cy σ)[23]? = some (ad 23, .inl (cy 23, 96, .inl (zgi σ 23))) := rfl
theorem wC_s23 (ad : Nat → Nat) (cy : Nat → ClassId) (σ : zSt) (j : Nat) (v : Int32) : (wC ad cy σ).set 23 (ad 23, .inl (cy 23, 96, .inl (upd (zgi σ 23) j v))) = wC ad cy (zsi σ 23 j v) := rfl
theorem tC_t23 (cy : Nat → ClassId) : (tC cy)[10]? = some (cy 23, .int) := rfl
theorem wC_e24 (ad : Nat → Nat) (cy : Nat → ClassId) (σ : zSt) : (wC ad cy σ)[24]? = some (ad 24, .inl (cy 24, 96, .inl (zgi σ 24))) := rfl
theorem wC_s24 (ad : Nat → Nat) (cy : Nat → ClassId) (σ : zSt) (j : Nat) (v : Int32) : (wC ad cy σ).set 24 (ad 24, .inl (cy 24, 96, .inl (upd (zgi σ 24) j v))) = wC ad cy (zsi σ 24 j v) := rfl
theorem tC_t24 (cy : Nat → ClassId) : (tC cy)[11]? = some (cy 24, .int) := rfl
theorem wC_e25 (ad : Nat → Nat) (cy : Nat → ClassId) (σ : zSt) : (wC ad cy σ)[25]? = some (ad 25, .inl (cy 25, 61440, .inl (zgi σ 25))) := rfl
theorem wC_s25 (ad : Nat → Nat) (cy : Nat → ClassId) (σ : zSt) (j : Nat) (v : Int32) : (wC ad cy σ).set 25 (ad 25, .inl (cy 25, 61440, .inl (upd (zgi σ 25) j v))) = wC ad cy (zsi σ 25 j v) := rfl
theorem tC_t25 (cy : Nat → ClassId) : (tC cy)[12]? = some (cy 25, .int) := rfl
theorem wC_e26 (ad : Nat → Nat) (cy : Nat → ClassId) (σ : zSt) : (wC ad cy σ)[26]? = some (ad 26, .inl (cy 26, 61440, .inl (zgi σ 26))) := rfl
theorem wC_s26 (ad : Nat → Nat) (cy : Nat → ClassId) (σ : zSt) (j : Nat) (v : Int32) : (wC ad cy σ).set 26 (ad 26, .inl (cy 26, 61440, .inl (upd (zgi σ 26) j v))) = wC ad cy (zsi σ 26 j v) := rfl
theorem tC_t26 (cy : Nat → ClassId) : (tC cy)[13]? = some (cy 26, .int) := rfl
theorem wC_e27 (ad : Nat → Nat) (cy : Nat → ClassId) (σ : zSt) : (wC ad cy σ)[27]? = some (ad 27, .inl (cy 27, 256, .inl (zgi σ 27))) := rfl
theorem wC_s27 (ad : Nat → Nat) (cy : Nat → ClassId) (σ : zSt) (j : Nat) (v : Int32) : (wC ad cy σ).set 27 (ad 27, .inl (cy 27, 256, .inl (upd (zgi σ 27) j v))) = wC ad cy (zsi σ 27 j v) := rfl
theorem tC_t27 (cy : Nat → ClassId) : (tC cy)[14]? = some (cy 27, .int) := rfl
theorem wC_e28 (ad : Nat → Nat) (cy : Nat → ClassId) (σ : zSt) : (wC ad cy σ)[28]? = some (ad 28, .inl (cy 28, 256, .inl (zgi σ 28))) := rfl
theorem wC_s28 (ad : Nat → Nat) (cy : Nat → ClassId) (σ : zSt) (j : Nat) (v : Int32) : (wC ad cy σ).set 28 (ad 28, .inl (cy 28, 256, .inl (upd (zgi σ 28) j v))) = wC ad cy (zsi σ 28 j v) := rfl
theorem tC_t28 (cy : Nat → ClassId) : (tC cy)[15]? = some (cy 28, .int) := rfl
theorem wC_e29 (ad : Nat → Nat) (cy : Nat → ClassId) (σ : zSt) : (wC ad cy σ)[29]? = some (ad 29, .inl (cy 29, 32, .inl (zgi σ 29))) := rfl
theorem wC_s29 (ad : Nat → Nat) (cy : Nat → ClassId) (σ : zSt) (j : Nat) (v : Int32) : (wC ad cy σ).set 29 (ad 29, .inl (cy 29, 32, .inl (upd (zgi σ 29) j v))) = wC ad cy (zsi σ 29 j v) := rfl
theorem tC_t29 (cy : Nat → ClassId) : (tC cy)[16]? = some (cy 29, .int) := rfl
theorem wC_e30 (ad : Nat → Nat) (cy : Nat → ClassId) (σ : zSt) : (wC ad cy σ)[30]? = some (ad 30, .inl (cy 30, 19, .inl (zgi σ 30))) := rfl
theorem wC_s30 (ad : Nat → Nat) (cy : Nat → ClassId) (σ : zSt) (j : Nat) (v : Int32) : (wC ad cy σ).set 30 (ad 30, .inl (cy 30, 19, .inl (upd (zgi σ 30) j v))) = wC ad cy (zsi σ 30 j v) := rfl
theorem tC_t30 (cy : Nat → ClassId) : (tC cy)[17]? = some (cy 30, .int) := rfl
theorem wC_e31 (ad : Nat → Nat) (cy : Nat → ClassId) (σ : zSt) : (wC ad cy σ)[31]? = some (ad 31, .inl (cy 31, 19, .inl (zgi σ 31))) := rfl
theorem wC_s31 (ad : Nat → Nat) (cy : Nat → ClassId) (σ : zSt) (j : Nat) (v : Int32) : (wC ad cy σ).set 31 (ad 31, .inl (cy 31, 19, .inl (upd (zgi σ 31) j v))) = wC ad cy (zsi σ 31 j v) := rfl
theorem tC_t31 (cy : Nat → ClassId) : (tC cy)[18]? = some (cy 31, .int) := rfl
theorem wC_e32 (ad : Nat → Nat) (cy : Nat → ClassId) (σ : zSt) : (wC ad cy σ)[32]? = some (ad 32, .inl (cy 32, 272, .inl (zgi σ 32))) := rfl
theorem wC_s32 (ad : Nat → Nat) (cy : Nat → ClassId) (σ : zSt) (j : Nat) (v : Int32) : (wC ad cy σ).set 32 (ad 32, .inl (cy 32, 272, .inl (upd (zgi σ 32) j v))) = wC ad cy (zsi σ 32 j v) := rfl
theorem tC_t32 (cy : Nat → ClassId) : (tC cy)[19]? = some (cy 32, .int) := rfl
theorem wC_e33 (ad : Nat → Nat) (cy : Nat → ClassId) (σ : zSt) : (wC ad cy σ)[33]? = some (ad 33, .inl (cy 33, 272, .inl (zgi σ 33))) := rfl
theorem wC_s33 (ad : Nat → Nat) (cy : Nat → ClassId) (σ : zSt) (j : Nat) (v : Int32) : (wC ad cy σ).set 33 (ad 33, .inl (cy 33, 272, .inl (upd (zgi σ 33) j v))) = wC ad cy (zsi σ 33 j v) := rfl
theorem tC_t33 (cy : Nat → ClassId) : (tC cy)[20]? = some (cy 33, .int) := rfl
theorem wC_e34 (ad : Nat → Nat) (cy : Nat → ClassId) (σ : zSt) : (wC ad cy σ)[34]? = some (ad 34, .inl (cy 34, 12, .inl (zgi σ 34))) := rfl
theorem wC_s34 (ad : Nat → Nat) (cy : Nat → ClassId) (σ : zSt) (j : Nat) (v : Int32) : (wC ad cy σ).set 34 (ad 34, .inl (cy 34, 12, .inl (upd (zgi σ 34) j v))) = wC ad cy (zsi σ 34 j v) := rfl
theorem tC_t34 (cy : Nat → ClassId) : (tC cy)[21]? = some (cy 34, .int) := rfl
theorem wC_e35 (ad : Nat → Nat) (cy : Nat → ClassId) (σ : zSt) : (wC ad cy σ)[35]? = some (ad 35, .inl (cy 35, 12, .inl (zgi σ 35))) := rfl
theorem wC_s35 (ad : Nat → Nat) (cy : Nat → ClassId) (σ : zSt) (j : Nat) (v : Int32) : (wC ad cy σ).set 35 (ad 35, .inl (cy 35, 12, .inl (upd (zgi σ 35) j v))) = wC ad cy (zsi σ 35 j v) := rfl
theorem tC_t35 (cy : Nat → ClassId) : (tC cy)[22]? = some (cy 35, .int) := rfl
theorem wC_e36 (ad : Nat → Nat) (cy : Nat → ClassId) (σ : zSt) : (wC ad cy σ)[36]? = some (ad 36, .inl (cy 36, 29, .inl (zgi σ 36))) := rfl
theorem wC_s36 (ad : Nat → Nat) (cy : Nat → ClassId) (σ : zSt) (j : Nat) (v : Int32) : (wC ad cy σ).set 36 (ad 36, .inl (cy 36, 29, .inl (upd (zgi σ 36) j v))) = wC ad cy (zsi σ 36 j v) := rfl
theorem tC_t36 (cy : Nat → ClassId) : (tC cy)[23]? = some (cy 36, .int) := rfl
theorem wC_e37 (ad : Nat → Nat) (cy : Nat → ClassId) (σ : zSt) : (wC ad cy σ)[37]? = some (ad 37, .inl (cy 37, 29, .inl (zgi σ 37))) := rfl
theorem wC_s37 (ad : Nat → Nat) (cy : Nat → ClassId) (σ : zSt) (j : Nat) (v : Int32) : (wC ad cy σ).set 37 (ad 37, .inl (cy 37, 29, .inl (upd (zgi σ 37) j v))) = wC ad cy (zsi σ 37 j v) := rfl
theorem tC_t37 (cy : Nat → ClassId) : (tC cy)[24]? = some (cy 37, .int) := rfl
theorem wC_e38 (ad : Nat → Nat) (cy : Nat → ClassId) (σ : zSt) : (wC ad cy σ)[38]? = some (ad 38, .inl (cy 38, 7, .inr (.inl (zgl σ 38)))) := rfl
theorem wC_s38 (ad : Nat → Nat) (cy : Nat → ClassId) (σ : zSt) (j : Nat) (v : Int64) : (wC ad cy σ).set 38 (ad 38, .inl (cy 38, 7, .inr (.inl (vp_updL (zgl σ 38) j v)))) = wC ad cy (zsl σ 38 j v) := rfl
theorem tC_t38 (cy : Nat → ClassId) : (tC cy)[25]? = some (cy 38, .long) := rfl
theorem wC_e39 (ad : Nat → Nat) (cy : Nat → ClassId) (σ : zSt) : (wC ad cy σ)[39]? = some (ad 39, .inl (cy 39, 7, .inr (.inl (zgl σ 39)))) := rfl
theorem wC_s39 (ad : Nat → Nat) (cy : Nat → ClassId) (σ : zSt) (j : Nat) (v : Int64) : (wC ad cy σ).set 39 (ad 39, .inl (cy 39, 7, .inr (.inl (vp_updL (zgl σ 39) j v)))) = wC ad cy (zsl σ 39 j v) := rfl
theorem tC_t39 (cy : Nat → ClassId) : (tC cy)[26]? = some (cy 39, .long) := rfl
theorem wC_e40 (ad : Nat → Nat) (cy : Nat → ClassId) (σ : zSt) : (wC ad cy σ)[40]? = some (ad 40, .inl (cy 40, 9, .inl (zgi σ 40))) := rfl
theorem wC_s40 (ad : Nat → Nat) (cy : Nat → ClassId) (σ : zSt) (j : Nat) (v : Int32) : (wC ad cy σ).set 40 (ad 40, .inl (cy 40, 9, .inl (upd (zgi σ 40) j v))) = wC ad cy (zsi σ 40 j v) := rfl
theorem tC_t40 (cy : Nat → ClassId) : (tC cy)[27]? = some (cy 40, .int) := rfl
theorem wC_e41 (ad : Nat → Nat) (cy : Nat → ClassId) (σ : zSt) : (wC ad cy σ)[41]? = some (ad 41, .inl (cy 41, 9, .inl (zgi σ 41))) := rfl
theorem wC_s41 (ad : Nat → Nat) (cy : Nat → ClassId) (σ : zSt) (j : Nat) (v : Int32) : (wC ad cy σ).set 41 (ad 41, .inl (cy 41, 9, .inl (upd (zgi σ 41) j v))) = wC ad cy (zsi σ 41 j v) := rfl
theorem tC_t41 (cy : Nat → ClassId) : (tC cy)[28]? = some (cy 41, .int) := rfl
theorem wC_e42 (ad : Nat → Nat) (cy : Nat → ClassId) (σ : zSt) : (wC ad cy σ)[42]? = some (ad 42, .inl (cy 42, 770, .inl (zgi σ 42))) := rfl
theorem wC_s42 (ad : Nat → Nat) (cy : Nat → ClassId) (σ : zSt) (j : Nat) (v : Int32) : (wC ad cy σ).set 42 (ad 42, .inl (cy 42, 770, .inl (upd (zgi σ 42) j v))) = wC ad cy (zsi σ 42 j v) := rfl
theorem tC_t42 (cy : Nat → ClassId) : (tC cy)[29]? = some (cy 42, .int) := rfl
theorem wC_e43 (ad : Nat → Nat) (cy : Nat → ClassId) (σ : zSt) : (wC ad cy σ)[43]? = some (ad 43, .inl (cy 43, 770, .inl (zgi σ 43))) := rfl
theorem wC_s43 (ad : Nat → Nat) (cy : Nat → ClassId) (σ : zSt) (j : Nat) (v : Int32) : (wC ad cy σ).set 43 (ad 43, .inl (cy 43, 770, .inl (upd (zgi σ 43) j v))) = wC ad cy (zsi σ 43 j v) := rfl
theorem tC_t43 (cy : Nat → ClassId) : (tC cy)[30]? = some (cy 43, .int) := rfl
theorem wC_e44 (ad : Nat → Nat) (cy : Nat → ClassId) (σ : zSt) : (wC ad cy σ)[44]? = some (ad 44, .inl (cy 44, 32, .inl (zgi σ 44))) := rfl
theorem wC_s44 (ad : Nat → Nat) (cy : Nat → ClassId) (σ : zSt) (j : Nat) (v : Int32) : (wC ad cy σ).set 44 (ad 44, .inl (cy 44, 32, .inl (upd (zgi σ 44) j v))) = wC ad cy (zsi σ 44 j v) := rfl
theorem tC_t44 (cy : Nat → ClassId) : (tC cy)[31]? = some (cy 44, .int) := rfl
theorem wC_e45 (ad : Nat → Nat) (cy : Nat → ClassId) (σ : zSt) : (wC ad cy σ)[45]? = some (ad 45, .inl (cy 45, 32, .inl (zgi σ 45))) := rfl
theorem wC_s45 (ad : Nat → Nat) (cy : Nat → ClassId) (σ : zSt) (j : Nat) (v : Int32) : (wC ad cy σ).set 45 (ad 45, .inl (cy 45, 32, .inl (upd (zgi σ 45) j v))) = wC ad cy (zsi σ 45 j v) := rfl
theorem tC_t45 (cy : Nat → ClassId) : (tC cy)[32]? = some (cy 45, .int) := rfl
theorem wC_e46 (ad : Nat → Nat) (cy : Nat → ClassId) (σ : zSt) : (wC ad cy σ)[46]? = some (ad 46, .inl (cy 46, 4096, .inr (.inl (zgl σ 46)))) := rfl
theorem wC_s46 (ad : Nat → Nat) (cy : Nat → ClassId) (σ : zSt) (j : Nat) (v : Int64) : (wC ad cy σ).set 46 (ad 46, .inl (cy 46, 4096, .inr (.inl (vp_updL (zgl σ 46) j v)))) = wC ad cy (zsl σ 46 j v) := rfl
theorem tC_t46 (cy : Nat → ClassId) : (tC cy)[33]? = some (cy 46, .long) := rfl
theorem wC_e47 (ad : Nat → Nat) (cy : Nat → ClassId) (σ : zSt) : (wC ad cy σ)[47]? = some (ad 47, .inl (cy 47, 4096, .inr (.inl (zgl σ 47)))) := rfl
theorem wC_s47 (ad : Nat → Nat) (cy : Nat → ClassId) (σ : zSt) (j : Nat) (v : Int64) : (wC ad cy σ).set 47 (ad 47, .inl (cy 47, 4096, .inr (.inl (vp_updL (zgl σ 47) j v)))) = wC ad cy (zsl σ 47 j v) := rfl
theorem tC_t47 (cy : Nat → ClassId) : (tC cy)[34]? = some (cy 47, .long) := rfl
theorem wC_e48 (ad : Nat → Nat) (cy : Nat → ClassId) (σ : zSt) : (wC ad cy σ)[48]? = some (ad 48, .inl (cy 48, 4096, .inr (.inl (zgl σ 48)))) := rfl
theorem wC_s48 (ad : Nat → Nat) (cy : Nat → ClassId) (σ : zSt) (j : Nat) (v : Int64) : (wC ad cy σ).set 48 (ad 48, .inl (cy 48, 4096, .inr (.inl (vp_updL (zgl σ 48) j v)))) = wC ad cy (zsl σ 48 j v) := rfl
theorem tC_t48 (cy : Nat → ClassId) : (tC cy)[35]? = some (cy 48, .long) := rfl
theorem wC_e49 (ad : Nat → Nat) (cy : Nat → ClassId) (σ : zSt) : (wC ad cy σ)[49]? = some (ad 49, .inl (cy 49, 4096, .inr (.inl (zgl σ 49)))) := rfl
theorem wC_s49 (ad : Nat → Nat) (cy : Nat → ClassId) (σ : zSt) (j : Nat) (v : Int64) : (wC ad cy σ).set 49 (ad 49, .inl (cy 49, 4096, .inr (.inl (vp_updL (zgl σ 49) j v)))) = wC ad cy (zsl σ 49 j v) := rfl
theorem tC_t49 (cy : Nat → ClassId) : (tC cy)[36]? = some (cy 49, .long) := rfl
theorem wC_e_tp (ad : Nat → Nat) (cy : Nat → ClassId) (σ : zSt) (x : Int32) : (wC ad cy σ)[ztp x]? = some (ad (ztp x), .inl (cy (ztp x), 262656, .inl (zgi σ (ztp x)))) := by
  unfold ztp; split <;> rfl
theorem tC_tp (cy : Nat → ClassId) (x : Int32) : (tC cy)[ztp x - 13]? = some (cy (ztp x), .int) := by
  unfold ztp; split <;> rfl
theorem wC_s_tp (ad : Nat → Nat) (cy : Nat → ClassId) (σ : zSt) (x : Int32) (j : Nat) (v : Int32) : (wC ad cy σ).set (ztp x) (ad (ztp x), .inl (cy (ztp x), 262656, .inl (upd (zgi σ (ztp x)) j v))) = wC ad cy (zsi σ (ztp x) j v) := by
  unfold ztp; split <;> rfl
