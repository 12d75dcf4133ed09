section ZJN0
-- ===== PART A: goes FIRST, ahead of the names: the tables' words, and 'selects' of the private methods out of them =====
theorem tm_1 {w : Jvm.Cond} (h : w ∈ tables_1_1) : w ∈ tables_1 := List.mem_append_left _ h
theorem tm_2 {w : Jvm.Cond} (h : w ∈ tables_1_2) : w ∈ tables_1 := List.mem_append_right _ (List.mem_append_left _ h)
theorem tm_3 {w : Jvm.Cond} (h : w ∈ tables_1_3) : w ∈ tables_1 := List.mem_append_right _ (List.mem_append_right _ (List.mem_append_left _ h))
theorem tm_4 {w : Jvm.Cond} (h : w ∈ tables_1_4) : w ∈ tables_1 := List.mem_append_right _ (List.mem_append_right _ (List.mem_append_right _ (List.mem_append_left _ h)))
theorem tm_5 {w : Jvm.Cond} (h : w ∈ tables_1_5) : w ∈ tables_1 := List.mem_append_right _ (List.mem_append_right _ (List.mem_append_right _ (List.mem_append_right _ (List.mem_append_left _ h))))
theorem tm_6 {w : Jvm.Cond} (h : w ∈ tables_1_6) : w ∈ tables_1 := List.mem_append_right _ (List.mem_append_right _ (List.mem_append_right _ (List.mem_append_right _ (List.mem_append_right _ (List.mem_append_left _ h)))))
theorem tm_7 {w : Jvm.Cond} (h : w ∈ tables_1_7) : w ∈ tables_1 := List.mem_append_right _ (List.mem_append_right _ (List.mem_append_right _ (List.mem_append_right _ (List.mem_append_right _ (List.mem_append_right _ (List.mem_append_left _ h))))))
theorem tm_8 {w : Jvm.Cond} (h : w ∈ tables_1_8) : w ∈ tables_1 := List.mem_append_right _ (List.mem_append_right _ (List.mem_append_right _ (List.mem_append_right _ (List.mem_append_right _ (List.mem_append_right _ (List.mem_append_right _ (List.mem_append_left _ h)))))))
theorem tm_9 {w : Jvm.Cond} (h : w ∈ tables_1_9) : w ∈ tables_1 := List.mem_append_right _ (List.mem_append_right _ (List.mem_append_right _ (List.mem_append_right _ (List.mem_append_right _ (List.mem_append_right _ (List.mem_append_right _ (List.mem_append_right _ (List.mem_append_left _ h))))))))
theorem tm_10 {w : Jvm.Cond} (h : w ∈ tables_1_10) : w ∈ tables_1 := List.mem_append_right _ (List.mem_append_right _ (List.mem_append_right _ (List.mem_append_right _ (List.mem_append_right _ (List.mem_append_right _ (List.mem_append_right _ (List.mem_append_right _ (List.mem_append_right _ (List.mem_append_left _ h)))))))))
theorem tm_11 {w : Jvm.Cond} (h : w ∈ tables_1_11) : w ∈ tables_1 := List.mem_append_right _ (List.mem_append_right _ (List.mem_append_right _ (List.mem_append_right _ (List.mem_append_right _ (List.mem_append_right _ (List.mem_append_right _ (List.mem_append_right _ (List.mem_append_right _ (List.mem_append_right _ (List.mem_append_left _ h))))))))))
theorem tm_12 {w : Jvm.Cond} (h : w ∈ tables_1_12) : w ∈ tables_1 := List.mem_append_right _ (List.mem_append_right _ (List.mem_append_right _ (List.mem_append_right _ (List.mem_append_right _ (List.mem_append_right _ (List.mem_append_right _ (List.mem_append_right _ (List.mem_append_right _ (List.mem_append_right _ (List.mem_append_right _ (List.mem_append_left _ h)))))))))))
theorem tm_13 {w : Jvm.Cond} (h : w ∈ tables_1_13) : w ∈ tables_1 := List.mem_append_right _ (List.mem_append_right _ (List.mem_append_right _ (List.mem_append_right _ (List.mem_append_right _ (List.mem_append_right _ (List.mem_append_right _ (List.mem_append_right _ (List.mem_append_right _ (List.mem_append_right _ (List.mem_append_right _ (List.mem_append_right _ (h))))))))))))
/-- a private method of a class that the tables say can be made, by its rows of tables_1 -/
def lw_okq (q : MethodName × Nat) : Prop := (q.1.cls ≠ "java/lang/invoke/MethodHandle" ∧ q.1.cls ≠ "java/lang/invoke/VarHandle") ∧ Cond.instantiable q.1.cls q.2 ∈ tables_1 ∧ Cond.privateMethod q.1 ∈ tables_1 ∧ Cond.instanceMethod q.1 ∈ tables_1
theorem lw_p0 : lw_okq (⟨"java/lang/Throwable", "fillInStackTrace", "(I)Ljava/lang/Throwable;"⟩, 6) := ⟨⟨by decide +kernel, by decide +kernel⟩, tm_1 (List.mem_of_getElem? (i := 210) (by decide +kernel)), tm_1 (List.mem_of_getElem? (i := 208) (by decide +kernel)), tm_1 (List.mem_of_getElem? (i := 209) (by decide +kernel))⟩
theorem lw_p1 : lw_okq (⟨"PadConsole$Memory", "findHeader", "()I"⟩, 14) := ⟨⟨by decide +kernel, by decide +kernel⟩, tm_1 (List.mem_of_getElem? (i := 40) (by decide +kernel)), tm_4 (List.mem_of_getElem? (i := 23) (by decide +kernel)), tm_4 (List.mem_of_getElem? (i := 24) (by decide +kernel))⟩
theorem lw_p2 : lw_okq (⟨"PadConsole$Memory", "romByte", "(I)I"⟩, 14) := ⟨⟨by decide +kernel, by decide +kernel⟩, tm_1 (List.mem_of_getElem? (i := 40) (by decide +kernel)), tm_4 (List.mem_of_getElem? (i := 29) (by decide +kernel)), tm_4 (List.mem_of_getElem? (i := 30) (by decide +kernel))⟩
theorem lw_p3 : lw_okq (⟨"PadConsole$Memory", "findPaging", "()I"⟩, 14) := ⟨⟨by decide +kernel, by decide +kernel⟩, tm_1 (List.mem_of_getElem? (i := 40) (by decide +kernel)), tm_4 (List.mem_of_getElem? (i := 35) (by decide +kernel)), tm_4 (List.mem_of_getElem? (i := 36) (by decide +kernel))⟩
theorem lw_p4 : lw_okq (⟨"PadConsole$Memory", "romWord", "(I)I"⟩, 14) := ⟨⟨by decide +kernel, by decide +kernel⟩, tm_1 (List.mem_of_getElem? (i := 40) (by decide +kernel)), tm_4 (List.mem_of_getElem? (i := 40) (by decide +kernel)), tm_4 (List.mem_of_getElem? (i := 41) (by decide +kernel))⟩
theorem lw_p5 : lw_okq (⟨"PadConsole", "clearAll", "()V"⟩, 12) := ⟨⟨by decide +kernel, by decide +kernel⟩, tm_1 (List.mem_of_getElem? (i := 32) (by decide +kernel)), tm_4 (List.mem_of_getElem? (i := 50) (by decide +kernel)), tm_4 (List.mem_of_getElem? (i := 51) (by decide +kernel))⟩
theorem lw_p6 : lw_okq (⟨"PadConsole$Teller", "take", "()I"⟩, 11) := ⟨⟨by decide +kernel, by decide +kernel⟩, tm_3 (List.mem_of_getElem? (i := 177) (by decide +kernel)), tm_4 (List.mem_of_getElem? (i := 100) (by decide +kernel)), tm_4 (List.mem_of_getElem? (i := 101) (by decide +kernel))⟩
theorem lw_p7 : lw_okq (⟨"PadConsole$Memory", "batteryIsIn", "()Z"⟩, 14) := ⟨⟨by decide +kernel, by decide +kernel⟩, tm_1 (List.mem_of_getElem? (i := 40) (by decide +kernel)), tm_4 (List.mem_of_getElem? (i := 109) (by decide +kernel)), tm_4 (List.mem_of_getElem? (i := 110) (by decide +kernel))⟩
theorem lw_p8 : lw_okq (⟨"PadConsole$Memory", "batteryPlace", "(I)I"⟩, 14) := ⟨⟨by decide +kernel, by decide +kernel⟩, tm_1 (List.mem_of_getElem? (i := 40) (by decide +kernel)), tm_4 (List.mem_of_getElem? (i := 113) (by decide +kernel)), tm_4 (List.mem_of_getElem? (i := 114) (by decide +kernel))⟩
theorem lw_p9 : lw_okq (⟨"PadConsole$Teller", "put", "(Ljava/lang/String;)V"⟩, 11) := ⟨⟨by decide +kernel, by decide +kernel⟩, tm_3 (List.mem_of_getElem? (i := 177) (by decide +kernel)), tm_4 (List.mem_of_getElem? (i := 118) (by decide +kernel)), tm_4 (List.mem_of_getElem? (i := 119) (by decide +kernel))⟩
theorem lw_p10 : lw_okq (⟨"PadConsole$Teller", "putMeant", "(I)V"⟩, 11) := ⟨⟨by decide +kernel, by decide +kernel⟩, tm_3 (List.mem_of_getElem? (i := 177) (by decide +kernel)), tm_4 (List.mem_of_getElem? (i := 147) (by decide +kernel)), tm_4 (List.mem_of_getElem? (i := 148) (by decide +kernel))⟩
theorem lw_p11 : lw_okq (⟨"PadConsole$Teller", "putOne", "(I)V"⟩, 11) := ⟨⟨by decide +kernel, by decide +kernel⟩, tm_3 (List.mem_of_getElem? (i := 177) (by decide +kernel)), tm_4 (List.mem_of_getElem? (i := 151) (by decide +kernel)), tm_4 (List.mem_of_getElem? (i := 152) (by decide +kernel))⟩
theorem lw_p12 : lw_okq (⟨"PadConsole$Teller", "putPlace", "(I)V"⟩, 11) := ⟨⟨by decide +kernel, by decide +kernel⟩, tm_3 (List.mem_of_getElem? (i := 177) (by decide +kernel)), tm_4 (List.mem_of_getElem? (i := 155) (by decide +kernel)), tm_4 (List.mem_of_getElem? (i := 156) (by decide +kernel))⟩
theorem lw_p13 : lw_okq (⟨"PadConsole$Teller", "putSign", "(I)V"⟩, 11) := ⟨⟨by decide +kernel, by decide +kernel⟩, tm_3 (List.mem_of_getElem? (i := 177) (by decide +kernel)), tm_4 (List.mem_of_getElem? (i := 159) (by decide +kernel)), tm_4 (List.mem_of_getElem? (i := 160) (by decide +kernel))⟩
theorem lw_p14 : lw_okq (⟨"PadConsole$Teller", "putHl", "()V"⟩, 11) := ⟨⟨by decide +kernel, by decide +kernel⟩, tm_3 (List.mem_of_getElem? (i := 177) (by decide +kernel)), tm_4 (List.mem_of_getElem? (i := 163) (by decide +kernel)), tm_4 (List.mem_of_getElem? (i := 164) (by decide +kernel))⟩
theorem lw_p15 : lw_okq (⟨"PadConsole$Teller", "putByte", "(I)V"⟩, 11) := ⟨⟨by decide +kernel, by decide +kernel⟩, tm_3 (List.mem_of_getElem? (i := 177) (by decide +kernel)), tm_4 (List.mem_of_getElem? (i := 167) (by decide +kernel)), tm_4 (List.mem_of_getElem? (i := 168) (by decide +kernel))⟩
def lw_privs_1 : List (MethodName × Nat) := [(⟨"java/lang/Throwable", "fillInStackTrace", "(I)Ljava/lang/Throwable;"⟩, 6), (⟨"PadConsole$Memory", "findHeader", "()I"⟩, 14), (⟨"PadConsole$Memory", "romByte", "(I)I"⟩, 14), (⟨"PadConsole$Memory", "findPaging", "()I"⟩, 14), (⟨"PadConsole$Memory", "romWord", "(I)I"⟩, 14), (⟨"PadConsole", "clearAll", "()V"⟩, 12), (⟨"PadConsole$Teller", "take", "()I"⟩, 11), (⟨"PadConsole$Memory", "batteryIsIn", "()Z"⟩, 14), (⟨"PadConsole$Memory", "batteryPlace", "(I)I"⟩, 14), (⟨"PadConsole$Teller", "put", "(Ljava/lang/String;)V"⟩, 11), (⟨"PadConsole$Teller", "putMeant", "(I)V"⟩, 11), (⟨"PadConsole$Teller", "putOne", "(I)V"⟩, 11), (⟨"PadConsole$Teller", "putPlace", "(I)V"⟩, 11), (⟨"PadConsole$Teller", "putSign", "(I)V"⟩, 11), (⟨"PadConsole$Teller", "putHl", "()V"⟩, 11), (⟨"PadConsole$Teller", "putByte", "(I)V"⟩, 11)]
theorem lw_r1 : ∀ q ∈ lw_privs_1, lw_okq q := List.forall_mem_cons.mpr ⟨lw_p0, List.forall_mem_cons.mpr ⟨lw_p1, List.forall_mem_cons.mpr ⟨lw_p2, List.forall_mem_cons.mpr ⟨lw_p3, List.forall_mem_cons.mpr ⟨lw_p4, List.forall_mem_cons.mpr ⟨lw_p5, List.forall_mem_cons.mpr ⟨lw_p6, List.forall_mem_cons.mpr ⟨lw_p7, List.forall_mem_cons.mpr ⟨lw_p8, List.forall_mem_cons.mpr ⟨lw_p9, List.forall_mem_cons.mpr ⟨lw_p10, List.forall_mem_cons.mpr ⟨lw_p11, List.forall_mem_cons.mpr ⟨lw_p12, List.forall_mem_cons.mpr ⟨lw_p13, List.forall_mem_cons.mpr ⟨lw_p14, List.forall_mem_cons.mpr ⟨lw_p15, fun _ h => absurd h List.not_mem_nil⟩⟩⟩⟩⟩⟩⟩⟩⟩⟩⟩⟩⟩⟩⟩⟩
theorem lw_p16 : lw_okq (⟨"PadConsole$Teller", "putName", "(Ljava/lang/String;I)V"⟩, 11) := ⟨⟨by decide +kernel, by decide +kernel⟩, tm_3 (List.mem_of_getElem? (i := 177) (by decide +kernel)), tm_4 (List.mem_of_getElem? (i := 173) (by decide +kernel)), tm_4 (List.mem_of_getElem? (i := 174) (by decide +kernel))⟩
theorem lw_p17 : lw_okq (⟨"PadConsole$Teller", "putTurned", "()V"⟩, 11) := ⟨⟨by decide +kernel, by decide +kernel⟩, tm_3 (List.mem_of_getElem? (i := 177) (by decide +kernel)), tm_4 (List.mem_of_getElem? (i := 177) (by decide +kernel)), tm_4 (List.mem_of_getElem? (i := 178) (by decide +kernel))⟩
theorem lw_p18 : lw_okq (⟨"PadConsole$Teller", "putPair", "(Ljava/lang/String;)V"⟩, 11) := ⟨⟨by decide +kernel, by decide +kernel⟩, tm_3 (List.mem_of_getElem? (i := 177) (by decide +kernel)), tm_4 (List.mem_of_getElem? (i := 182) (by decide +kernel)), tm_4 (List.mem_of_getElem? (i := 183) (by decide +kernel))⟩
theorem lw_p19 : lw_okq (⟨"PadConsole$Teller", "putWord", "(I)V"⟩, 11) := ⟨⟨by decide +kernel, by decide +kernel⟩, tm_3 (List.mem_of_getElem? (i := 177) (by decide +kernel)), tm_4 (List.mem_of_getElem? (i := 188) (by decide +kernel)), tm_4 (List.mem_of_getElem? (i := 189) (by decide +kernel))⟩
theorem lw_p20 : lw_okq (⟨"PadConsole$Teller", "patternsOf", "(I)Ljava/lang/String;"⟩, 11) := ⟨⟨by decide +kernel, by decide +kernel⟩, tm_3 (List.mem_of_getElem? (i := 177) (by decide +kernel)), tm_4 (List.mem_of_getElem? (i := 195) (by decide +kernel)), tm_4 (List.mem_of_getElem? (i := 196) (by decide +kernel))⟩
theorem lw_p21 : lw_okq (⟨"PadConsole$Teller", "split", "(I)V"⟩, 11) := ⟨⟨by decide +kernel, by decide +kernel⟩, tm_3 (List.mem_of_getElem? (i := 177) (by decide +kernel)), tm_4 (List.mem_of_getElem? (i := 199) (by decide +kernel)), tm_4 (List.mem_of_getElem? (i := 200) (by decide +kernel))⟩
theorem lw_p22 : lw_okq (⟨"PadConsole$Teller", "turnPatterns", "()Ljava/lang/String;"⟩, 11) := ⟨⟨by decide +kernel, by decide +kernel⟩, tm_3 (List.mem_of_getElem? (i := 177) (by decide +kernel)), tm_4 (List.mem_of_getElem? (i := 203) (by decide +kernel)), tm_4 (List.mem_of_getElem? (i := 204) (by decide +kernel))⟩
theorem lw_p23 : lw_okq (⟨"PadConsole$Teller", "blockPatterns", "()Ljava/lang/String;"⟩, 11) := ⟨⟨by decide +kernel, by decide +kernel⟩, tm_3 (List.mem_of_getElem? (i := 177) (by decide +kernel)), tm_4 (List.mem_of_getElem? (i := 211) (by decide +kernel)), tm_4 (List.mem_of_getElem? (i := 212) (by decide +kernel))⟩
theorem lw_p24 : lw_okq (⟨"PadConsole$Teller", "morePatterns", "()Ljava/lang/String;"⟩, 11) := ⟨⟨by decide +kernel, by decide +kernel⟩, tm_3 (List.mem_of_getElem? (i := 177) (by decide +kernel)), tm_4 (List.mem_of_getElem? (i := 219) (by decide +kernel)), tm_4 (List.mem_of_getElem? (i := 220) (by decide +kernel))⟩
theorem lw_p25 : lw_okq (⟨"PadConsole$Teller", "firstPatterns", "()Ljava/lang/String;"⟩, 11) := ⟨⟨by decide +kernel, by decide +kernel⟩, tm_3 (List.mem_of_getElem? (i := 177) (by decide +kernel)), tm_4 (List.mem_of_getElem? (i := 234) (by decide +kernel)), tm_4 (List.mem_of_getElem? (i := 235) (by decide +kernel))⟩
theorem lw_p26 : lw_okq (⟨"PadConsole$Teller", "lastPatterns", "()Ljava/lang/String;"⟩, 11) := ⟨⟨by decide +kernel, by decide +kernel⟩, tm_3 (List.mem_of_getElem? (i := 177) (by decide +kernel)), tm_5 (List.mem_of_getElem? (i := 9) (by decide +kernel)), tm_5 (List.mem_of_getElem? (i := 10) (by decide +kernel))⟩
theorem lw_p27 : lw_okq (⟨"PadConsole$Ports", "readHandy", "(I)I"⟩, 6) := ⟨⟨by decide +kernel, by decide +kernel⟩, tm_3 (List.mem_of_getElem? (i := 43) (by decide +kernel)), tm_5 (List.mem_of_getElem? (i := 100) (by decide +kernel)), tm_5 (List.mem_of_getElem? (i := 101) (by decide +kernel))⟩
theorem lw_p28 : lw_okq (⟨"PadConsole$Video", "readAhead", "()V"⟩, 6) := ⟨⟨by decide +kernel, by decide +kernel⟩, tm_1 (List.mem_of_getElem? (i := 93) (by decide +kernel)), tm_5 (List.mem_of_getElem? (i := 116) (by decide +kernel)), tm_5 (List.mem_of_getElem? (i := 117) (by decide +kernel))⟩
theorem lw_p29 : lw_okq (⟨"PadConsole$Ports", "readEvenPads", "()I"⟩, 6) := ⟨⟨by decide +kernel, by decide +kernel⟩, tm_3 (List.mem_of_getElem? (i := 43) (by decide +kernel)), tm_5 (List.mem_of_getElem? (i := 129) (by decide +kernel)), tm_5 (List.mem_of_getElem? (i := 130) (by decide +kernel))⟩
theorem lw_p30 : lw_okq (⟨"PadConsole$Ports", "readOddPads", "()I"⟩, 6) := ⟨⟨by decide +kernel, by decide +kernel⟩, tm_3 (List.mem_of_getElem? (i := 43) (by decide +kernel)), tm_5 (List.mem_of_getElem? (i := 133) (by decide +kernel)), tm_5 (List.mem_of_getElem? (i := 134) (by decide +kernel))⟩
theorem lw_p31 : lw_okq (⟨"PadConsole$Ports", "lines", "()I"⟩, 6) := ⟨⟨by decide +kernel, by decide +kernel⟩, tm_3 (List.mem_of_getElem? (i := 43) (by decide +kernel)), tm_5 (List.mem_of_getElem? (i := 137) (by decide +kernel)), tm_5 (List.mem_of_getElem? (i := 138) (by decide +kernel))⟩
def lw_privs_2 : List (MethodName × Nat) := [(⟨"PadConsole$Teller", "putName", "(Ljava/lang/String;I)V"⟩, 11), (⟨"PadConsole$Teller", "putTurned", "()V"⟩, 11), (⟨"PadConsole$Teller", "putPair", "(Ljava/lang/String;)V"⟩, 11), (⟨"PadConsole$Teller", "putWord", "(I)V"⟩, 11), (⟨"PadConsole$Teller", "patternsOf", "(I)Ljava/lang/String;"⟩, 11), (⟨"PadConsole$Teller", "split", "(I)V"⟩, 11), (⟨"PadConsole$Teller", "turnPatterns", "()Ljava/lang/String;"⟩, 11), (⟨"PadConsole$Teller", "blockPatterns", "()Ljava/lang/String;"⟩, 11), (⟨"PadConsole$Teller", "morePatterns", "()Ljava/lang/String;"⟩, 11), (⟨"PadConsole$Teller", "firstPatterns", "()Ljava/lang/String;"⟩, 11), (⟨"PadConsole$Teller", "lastPatterns", "()Ljava/lang/String;"⟩, 11), (⟨"PadConsole$Ports", "readHandy", "(I)I"⟩, 6), (⟨"PadConsole$Video", "readAhead", "()V"⟩, 6), (⟨"PadConsole$Ports", "readEvenPads", "()I"⟩, 6), (⟨"PadConsole$Ports", "readOddPads", "()I"⟩, 6), (⟨"PadConsole$Ports", "lines", "()I"⟩, 6)]
theorem lw_r2 : ∀ q ∈ lw_privs_2, lw_okq q := List.forall_mem_cons.mpr ⟨lw_p16, List.forall_mem_cons.mpr ⟨lw_p17, List.forall_mem_cons.mpr ⟨lw_p18, List.forall_mem_cons.mpr ⟨lw_p19, List.forall_mem_cons.mpr ⟨lw_p20, List.forall_mem_cons.mpr ⟨lw_p21, List.forall_mem_cons.mpr ⟨lw_p22, List.forall_mem_cons.mpr ⟨lw_p23, List.forall_mem_cons.mpr ⟨lw_p24, List.forall_mem_cons.mpr ⟨lw_p25, List.forall_mem_cons.mpr ⟨lw_p26, List.forall_mem_cons.mpr ⟨lw_p27, List.forall_mem_cons.mpr ⟨lw_p28, List.forall_mem_cons.mpr ⟨lw_p29, List.forall_mem_cons.mpr ⟨lw_p30, List.forall_mem_cons.mpr ⟨lw_p31, fun _ h => absurd h List.not_mem_nil⟩⟩⟩⟩⟩⟩⟩⟩⟩⟩⟩⟩⟩⟩⟩⟩
theorem lw_p32 : lw_okq (⟨"PadConsole$Ports", "writeHandy", "(II)V"⟩, 6) := ⟨⟨by decide +kernel, by decide +kernel⟩, tm_3 (List.mem_of_getElem? (i := 43) (by decide +kernel)), tm_5 (List.mem_of_getElem? (i := 149) (by decide +kernel)), tm_5 (List.mem_of_getElem? (i := 150) (by decide +kernel))⟩
theorem lw_p33 : lw_okq (⟨"PadConsole$Ports", "changeLines", "(II)V"⟩, 6) := ⟨⟨by decide +kernel, by decide +kernel⟩, tm_3 (List.mem_of_getElem? (i := 43) (by decide +kernel)), tm_5 (List.mem_of_getElem? (i := 157) (by decide +kernel)), tm_5 (List.mem_of_getElem? (i := 158) (by decide +kernel))⟩
theorem lw_p34 : lw_okq (⟨"PadConsole$Video", "writeColour", "(II)V"⟩, 6) := ⟨⟨by decide +kernel, by decide +kernel⟩, tm_1 (List.mem_of_getElem? (i := 93) (by decide +kernel)), tm_5 (List.mem_of_getElem? (i := 173) (by decide +kernel)), tm_5 (List.mem_of_getElem? (i := 174) (by decide +kernel))⟩
theorem lw_p35 : lw_okq (⟨"PadConsole$Memory", "decimal", "(I)I"⟩, 14) := ⟨⟨by decide +kernel, by decide +kernel⟩, tm_1 (List.mem_of_getElem? (i := 40) (by decide +kernel)), tm_6 (List.mem_of_getElem? (i := 44) (by decide +kernel)), tm_6 (List.mem_of_getElem? (i := 45) (by decide +kernel))⟩
theorem lw_p36 : lw_okq (⟨"PadConsole$Memory", "sumOfCard", "()I"⟩, 14) := ⟨⟨by decide +kernel, by decide +kernel⟩, tm_1 (List.mem_of_getElem? (i := 40) (by decide +kernel)), tm_6 (List.mem_of_getElem? (i := 48) (by decide +kernel)), tm_6 (List.mem_of_getElem? (i := 49) (by decide +kernel))⟩
theorem lw_p37 : lw_okq (⟨"PadConsole", "run", "(II)I"⟩, 12) := ⟨⟨by decide +kernel, by decide +kernel⟩, tm_1 (List.mem_of_getElem? (i := 32) (by decide +kernel)), tm_6 (List.mem_of_getElem? (i := 60) (by decide +kernel)), tm_6 (List.mem_of_getElem? (i := 61) (by decide +kernel))⟩
theorem lw_p38 : lw_okq (⟨"PadConsole$Desk", "placeOfStop", "(I)I"⟩, 6) := ⟨⟨by decide +kernel, by decide +kernel⟩, tm_3 (List.mem_of_getElem? (i := 151) (by decide +kernel)), tm_6 (List.mem_of_getElem? (i := 76) (by decide +kernel)), tm_6 (List.mem_of_getElem? (i := 77) (by decide +kernel))⟩
theorem lw_p39 : lw_okq (⟨"PadConsole$Processor", "breakOff", "(I)V"⟩, 6) := ⟨⟨by decide +kernel, by decide +kernel⟩, tm_3 (List.mem_of_getElem? (i := 72) (by decide +kernel)), tm_6 (List.mem_of_getElem? (i := 92) (by decide +kernel)), tm_6 (List.mem_of_getElem? (i := 93) (by decide +kernel))⟩
theorem lw_p40 : lw_okq (⟨"PadConsole$Processor", "growR", "()V"⟩, 6) := ⟨⟨by decide +kernel, by decide +kernel⟩, tm_3 (List.mem_of_getElem? (i := 72) (by decide +kernel)), tm_6 (List.mem_of_getElem? (i := 96) (by decide +kernel)), tm_6 (List.mem_of_getElem? (i := 97) (by decide +kernel))⟩
theorem lw_p41 : lw_okq (⟨"PadConsole$Processor", "push", "(I)V"⟩, 6) := ⟨⟨by decide +kernel, by decide +kernel⟩, tm_3 (List.mem_of_getElem? (i := 72) (by decide +kernel)), tm_6 (List.mem_of_getElem? (i := 100) (by decide +kernel)), tm_6 (List.mem_of_getElem? (i := 101) (by decide +kernel))⟩
theorem lw_p42 : lw_okq (⟨"PadConsole$Processor", "goTo", "(I)V"⟩, 6) := ⟨⟨by decide +kernel, by decide +kernel⟩, tm_3 (List.mem_of_getElem? (i := 72) (by decide +kernel)), tm_6 (List.mem_of_getElem? (i := 106) (by decide +kernel)), tm_6 (List.mem_of_getElem? (i := 107) (by decide +kernel))⟩
theorem lw_p43 : lw_okq (⟨"PadConsole$Processor", "readWord", "(I)I"⟩, 6) := ⟨⟨by decide +kernel, by decide +kernel⟩, tm_3 (List.mem_of_getElem? (i := 72) (by decide +kernel)), tm_6 (List.mem_of_getElem? (i := 110) (by decide +kernel)), tm_6 (List.mem_of_getElem? (i := 111) (by decide +kernel))⟩
theorem lw_p44 : lw_okq (⟨"PadConsole$Processor", "pairAt", "(I)I"⟩, 6) := ⟨⟨by decide +kernel, by decide +kernel⟩, tm_3 (List.mem_of_getElem? (i := 72) (by decide +kernel)), tm_6 (List.mem_of_getElem? (i := 119) (by decide +kernel)), tm_6 (List.mem_of_getElem? (i := 120) (by decide +kernel))⟩
theorem lw_p45 : lw_okq (⟨"PadConsole$Processor", "fetchOp", "()I"⟩, 6) := ⟨⟨by decide +kernel, by decide +kernel⟩, tm_3 (List.mem_of_getElem? (i := 72) (by decide +kernel)), tm_6 (List.mem_of_getElem? (i := 123) (by decide +kernel)), tm_6 (List.mem_of_getElem? (i := 124) (by decide +kernel))⟩
theorem lw_p46 : lw_okq (⟨"PadConsole$Processor", "fetch", "()I"⟩, 6) := ⟨⟨by decide +kernel, by decide +kernel⟩, tm_3 (List.mem_of_getElem? (i := 72) (by decide +kernel)), tm_6 (List.mem_of_getElem? (i := 127) (by decide +kernel)), tm_6 (List.mem_of_getElem? (i := 128) (by decide +kernel))⟩
theorem lw_p47 : lw_okq (⟨"PadConsole$Processor", "turnBeside", "()I"⟩, 6) := ⟨⟨by decide +kernel, by decide +kernel⟩, tm_3 (List.mem_of_getElem? (i := 72) (by decide +kernel)), tm_6 (List.mem_of_getElem? (i := 131) (by decide +kernel)), tm_6 (List.mem_of_getElem? (i := 132) (by decide +kernel))⟩
def lw_privs_3 : List (MethodName × Nat) := [(⟨"PadConsole$Ports", "writeHandy", "(II)V"⟩, 6), (⟨"PadConsole$Ports", "changeLines", "(II)V"⟩, 6), (⟨"PadConsole$Video", "writeColour", "(II)V"⟩, 6), (⟨"PadConsole$Memory", "decimal", "(I)I"⟩, 14), (⟨"PadConsole$Memory", "sumOfCard", "()I"⟩, 14), (⟨"PadConsole", "run", "(II)I"⟩, 12), (⟨"PadConsole$Desk", "placeOfStop", "(I)I"⟩, 6), (⟨"PadConsole$Processor", "breakOff", "(I)V"⟩, 6), (⟨"PadConsole$Processor", "growR", "()V"⟩, 6), (⟨"PadConsole$Processor", "push", "(I)V"⟩, 6), (⟨"PadConsole$Processor", "goTo", "(I)V"⟩, 6), (⟨"PadConsole$Processor", "readWord", "(I)I"⟩, 6), (⟨"PadConsole$Processor", "pairAt", "(I)I"⟩, 6), (⟨"PadConsole$Processor", "fetchOp", "()I"⟩, 6), (⟨"PadConsole$Processor", "fetch", "()I"⟩, 6), (⟨"PadConsole$Processor", "turnBeside", "()I"⟩, 6)]
theorem lw_r3 : ∀ q ∈ lw_privs_3, lw_okq q := List.forall_mem_cons.mpr ⟨lw_p32, List.forall_mem_cons.mpr ⟨lw_p33, List.forall_mem_cons.mpr ⟨lw_p34, List.forall_mem_cons.mpr ⟨lw_p35, List.forall_mem_cons.mpr ⟨lw_p36, List.forall_mem_cons.mpr ⟨lw_p37, List.forall_mem_cons.mpr ⟨lw_p38, List.forall_mem_cons.mpr ⟨lw_p39, List.forall_mem_cons.mpr ⟨lw_p40, List.forall_mem_cons.mpr ⟨lw_p41, List.forall_mem_cons.mpr ⟨lw_p42, List.forall_mem_cons.mpr ⟨lw_p43, List.forall_mem_cons.mpr ⟨lw_p44, List.forall_mem_cons.mpr ⟨lw_p45, List.forall_mem_cons.mpr ⟨lw_p46, List.forall_mem_cons.mpr ⟨lw_p47, fun _ h => absurd h List.not_mem_nil⟩⟩⟩⟩⟩⟩⟩⟩⟩⟩⟩⟩⟩⟩⟩⟩
theorem lw_p48 : lw_okq (⟨"PadConsole$Processor", "askBit", "(III)V"⟩, 6) := ⟨⟨by decide +kernel, by decide +kernel⟩, tm_3 (List.mem_of_getElem? (i := 72) (by decide +kernel)), tm_6 (List.mem_of_getElem? (i := 135) (by decide +kernel)), tm_6 (List.mem_of_getElem? (i := 136) (by decide +kernel))⟩
theorem lw_p49 : lw_okq (⟨"PadConsole$Processor", "turned", "(II)I"⟩, 6) := ⟨⟨by decide +kernel, by decide +kernel⟩, tm_3 (List.mem_of_getElem? (i := 72) (by decide +kernel)), tm_6 (List.mem_of_getElem? (i := 139) (by decide +kernel)), tm_6 (List.mem_of_getElem? (i := 140) (by decide +kernel))⟩
theorem lw_p50 : lw_okq (⟨"PadConsole$Processor", "turn", "(II)I"⟩, 6) := ⟨⟨by decide +kernel, by decide +kernel⟩, tm_3 (List.mem_of_getElem? (i := 72) (by decide +kernel)), tm_6 (List.mem_of_getElem? (i := 143) (by decide +kernel)), tm_6 (List.mem_of_getElem? (i := 144) (by decide +kernel))⟩
theorem lw_p51 : lw_okq (⟨"PadConsole$Processor", "putOne", "(II)V"⟩, 6) := ⟨⟨by decide +kernel, by decide +kernel⟩, tm_3 (List.mem_of_getElem? (i := 72) (by decide +kernel)), tm_6 (List.mem_of_getElem? (i := 159) (by decide +kernel)), tm_6 (List.mem_of_getElem? (i := 160) (by decide +kernel))⟩
theorem lw_p52 : lw_okq (⟨"PadConsole$Processor", "putPairHalf", "(II)V"⟩, 6) := ⟨⟨by decide +kernel, by decide +kernel⟩, tm_3 (List.mem_of_getElem? (i := 72) (by decide +kernel)), tm_6 (List.mem_of_getElem? (i := 163) (by decide +kernel)), tm_6 (List.mem_of_getElem? (i := 164) (by decide +kernel))⟩
theorem lw_p53 : lw_okq (⟨"PadConsole$Processor", "takePlace", "(I)I"⟩, 6) := ⟨⟨by decide +kernel, by decide +kernel⟩, tm_3 (List.mem_of_getElem? (i := 72) (by decide +kernel)), tm_6 (List.mem_of_getElem? (i := 168) (by decide +kernel)), tm_6 (List.mem_of_getElem? (i := 169) (by decide +kernel))⟩
theorem lw_p54 : lw_okq (⟨"PadConsole$Processor", "turns", "(I)I"⟩, 6) := ⟨⟨by decide +kernel, by decide +kernel⟩, tm_3 (List.mem_of_getElem? (i := 72) (by decide +kernel)), tm_6 (List.mem_of_getElem? (i := 173) (by decide +kernel)), tm_6 (List.mem_of_getElem? (i := 174) (by decide +kernel))⟩
theorem lw_p55 : lw_okq (⟨"PadConsole$Processor", "one", "(I)I"⟩, 6) := ⟨⟨by decide +kernel, by decide +kernel⟩, tm_3 (List.mem_of_getElem? (i := 72) (by decide +kernel)), tm_6 (List.mem_of_getElem? (i := 177) (by decide +kernel)), tm_6 (List.mem_of_getElem? (i := 178) (by decide +kernel))⟩
theorem lw_p56 : lw_okq (⟨"PadConsole$Processor", "block", "(I)I"⟩, 6) := ⟨⟨by decide +kernel, by decide +kernel⟩, tm_3 (List.mem_of_getElem? (i := 72) (by decide +kernel)), tm_6 (List.mem_of_getElem? (i := 181) (by decide +kernel)), tm_6 (List.mem_of_getElem? (i := 182) (by decide +kernel))⟩
theorem lw_p57 : lw_okq (⟨"PadConsole$Processor", "copyOne", "(I)Z"⟩, 6) := ⟨⟨by decide +kernel, by decide +kernel⟩, tm_3 (List.mem_of_getElem? (i := 72) (by decide +kernel)), tm_6 (List.mem_of_getElem? (i := 185) (by decide +kernel)), tm_6 (List.mem_of_getElem? (i := 186) (by decide +kernel))⟩
theorem lw_p58 : lw_okq (⟨"PadConsole$Processor", "putPairAt", "(II)V"⟩, 6) := ⟨⟨by decide +kernel, by decide +kernel⟩, tm_3 (List.mem_of_getElem? (i := 72) (by decide +kernel)), tm_6 (List.mem_of_getElem? (i := 189) (by decide +kernel)), tm_6 (List.mem_of_getElem? (i := 190) (by decide +kernel))⟩
theorem lw_p59 : lw_okq (⟨"PadConsole$Processor", "compareOne", "(I)Z"⟩, 6) := ⟨⟨by decide +kernel, by decide +kernel⟩, tm_3 (List.mem_of_getElem? (i := 72) (by decide +kernel)), tm_6 (List.mem_of_getElem? (i := 193) (by decide +kernel)), tm_6 (List.mem_of_getElem? (i := 194) (by decide +kernel))⟩
theorem lw_p60 : lw_okq (⟨"PadConsole$Processor", "takeOne", "(I)Z"⟩, 6) := ⟨⟨by decide +kernel, by decide +kernel⟩, tm_3 (List.mem_of_getElem? (i := 72) (by decide +kernel)), tm_6 (List.mem_of_getElem? (i := 197) (by decide +kernel)), tm_6 (List.mem_of_getElem? (i := 198) (by decide +kernel))⟩
theorem lw_p61 : lw_okq (⟨"PadConsole$Processor", "tellOfPort", "(II)V"⟩, 6) := ⟨⟨by decide +kernel, by decide +kernel⟩, tm_3 (List.mem_of_getElem? (i := 72) (by decide +kernel)), tm_6 (List.mem_of_getElem? (i := 202) (by decide +kernel)), tm_6 (List.mem_of_getElem? (i := 203) (by decide +kernel))⟩
theorem lw_p62 : lw_okq (⟨"PadConsole$Processor", "giveOne", "(I)Z"⟩, 6) := ⟨⟨by decide +kernel, by decide +kernel⟩, tm_3 (List.mem_of_getElem? (i := 72) (by decide +kernel)), tm_6 (List.mem_of_getElem? (i := 206) (by decide +kernel)), tm_6 (List.mem_of_getElem? (i := 207) (by decide +kernel))⟩
theorem lw_p63 : lw_okq (⟨"PadConsole$Processor", "behindEd", "(I)I"⟩, 6) := ⟨⟨by decide +kernel, by decide +kernel⟩, tm_3 (List.mem_of_getElem? (i := 72) (by decide +kernel)), tm_6 (List.mem_of_getElem? (i := 211) (by decide +kernel)), tm_6 (List.mem_of_getElem? (i := 212) (by decide +kernel))⟩
def lw_privs_4 : List (MethodName × Nat) := [(⟨"PadConsole$Processor", "askBit", "(III)V"⟩, 6), (⟨"PadConsole$Processor", "turned", "(II)I"⟩, 6), (⟨"PadConsole$Processor", "turn", "(II)I"⟩, 6), (⟨"PadConsole$Processor", "putOne", "(II)V"⟩, 6), (⟨"PadConsole$Processor", "putPairHalf", "(II)V"⟩, 6), (⟨"PadConsole$Processor", "takePlace", "(I)I"⟩, 6), (⟨"PadConsole$Processor", "turns", "(I)I"⟩, 6), (⟨"PadConsole$Processor", "one", "(I)I"⟩, 6), (⟨"PadConsole$Processor", "block", "(I)I"⟩, 6), (⟨"PadConsole$Processor", "copyOne", "(I)Z"⟩, 6), (⟨"PadConsole$Processor", "putPairAt", "(II)V"⟩, 6), (⟨"PadConsole$Processor", "compareOne", "(I)Z"⟩, 6), (⟨"PadConsole$Processor", "takeOne", "(I)Z"⟩, 6), (⟨"PadConsole$Processor", "tellOfPort", "(II)V"⟩, 6), (⟨"PadConsole$Processor", "giveOne", "(I)Z"⟩, 6), (⟨"PadConsole$Processor", "behindEd", "(I)I"⟩, 6)]
theorem lw_r4 : ∀ q ∈ lw_privs_4, lw_okq q := List.forall_mem_cons.mpr ⟨lw_p48, List.forall_mem_cons.mpr ⟨lw_p49, List.forall_mem_cons.mpr ⟨lw_p50, List.forall_mem_cons.mpr ⟨lw_p51, List.forall_mem_cons.mpr ⟨lw_p52, List.forall_mem_cons.mpr ⟨lw_p53, List.forall_mem_cons.mpr ⟨lw_p54, List.forall_mem_cons.mpr ⟨lw_p55, List.forall_mem_cons.mpr ⟨lw_p56, List.forall_mem_cons.mpr ⟨lw_p57, List.forall_mem_cons.mpr ⟨lw_p58, List.forall_mem_cons.mpr ⟨lw_p59, List.forall_mem_cons.mpr ⟨lw_p60, List.forall_mem_cons.mpr ⟨lw_p61, List.forall_mem_cons.mpr ⟨lw_p62, List.forall_mem_cons.mpr ⟨lw_p63, fun _ h => absurd h List.not_mem_nil⟩⟩⟩⟩⟩⟩⟩⟩⟩⟩⟩⟩⟩⟩⟩⟩
theorem lw_p64 : lw_okq (⟨"PadConsole$Processor", "takeFromPort", "(I)V"⟩, 6) := ⟨⟨by decide +kernel, by decide +kernel⟩, tm_3 (List.mem_of_getElem? (i := 72) (by decide +kernel)), tm_6 (List.mem_of_getElem? (i := 215) (by decide +kernel)), tm_6 (List.mem_of_getElem? (i := 216) (by decide +kernel))⟩
theorem lw_p65 : lw_okq (⟨"PadConsole$Processor", "takePair", "(I)I"⟩, 6) := ⟨⟨by decide +kernel, by decide +kernel⟩, tm_3 (List.mem_of_getElem? (i := 72) (by decide +kernel)), tm_6 (List.mem_of_getElem? (i := 219) (by decide +kernel)), tm_6 (List.mem_of_getElem? (i := 220) (by decide +kernel))⟩
theorem lw_p66 : lw_okq (⟨"PadConsole$Processor", "hl", "()I"⟩, 6) := ⟨⟨by decide +kernel, by decide +kernel⟩, tm_3 (List.mem_of_getElem? (i := 72) (by decide +kernel)), tm_6 (List.mem_of_getElem? (i := 223) (by decide +kernel)), tm_6 (List.mem_of_getElem? (i := 224) (by decide +kernel))⟩
theorem lw_p67 : lw_okq (⟨"PadConsole$Processor", "pair", "(I)I"⟩, 6) := ⟨⟨by decide +kernel, by decide +kernel⟩, tm_3 (List.mem_of_getElem? (i := 72) (by decide +kernel)), tm_6 (List.mem_of_getElem? (i := 227) (by decide +kernel)), tm_6 (List.mem_of_getElem? (i := 228) (by decide +kernel))⟩
theorem lw_p68 : lw_okq (⟨"PadConsole$Processor", "putWide", "(III)V"⟩, 6) := ⟨⟨by decide +kernel, by decide +kernel⟩, tm_3 (List.mem_of_getElem? (i := 72) (by decide +kernel)), tm_6 (List.mem_of_getElem? (i := 231) (by decide +kernel)), tm_6 (List.mem_of_getElem? (i := 232) (by decide +kernel))⟩
theorem lw_p69 : lw_okq (⟨"PadConsole$Processor", "putHl", "(I)V"⟩, 6) := ⟨⟨by decide +kernel, by decide +kernel⟩, tm_3 (List.mem_of_getElem? (i := 72) (by decide +kernel)), tm_6 (List.mem_of_getElem? (i := 235) (by decide +kernel)), tm_6 (List.mem_of_getElem? (i := 236) (by decide +kernel))⟩
theorem lw_p70 : lw_okq (⟨"PadConsole$Processor", "addPairAndCarry", "(I)I"⟩, 6) := ⟨⟨by decide +kernel, by decide +kernel⟩, tm_3 (List.mem_of_getElem? (i := 72) (by decide +kernel)), tm_7 (List.mem_of_getElem? (i := 0) (by decide +kernel)), tm_7 (List.mem_of_getElem? (i := 1) (by decide +kernel))⟩
theorem lw_p71 : lw_okq (⟨"PadConsole$Processor", "farPair", "(I)I"⟩, 6) := ⟨⟨by decide +kernel, by decide +kernel⟩, tm_3 (List.mem_of_getElem? (i := 72) (by decide +kernel)), tm_7 (List.mem_of_getElem? (i := 4) (by decide +kernel)), tm_7 (List.mem_of_getElem? (i := 5) (by decide +kernel))⟩
theorem lw_p72 : lw_okq (⟨"PadConsole$Processor", "fetchWord", "()I"⟩, 6) := ⟨⟨by decide +kernel, by decide +kernel⟩, tm_3 (List.mem_of_getElem? (i := 72) (by decide +kernel)), tm_7 (List.mem_of_getElem? (i := 8) (by decide +kernel)), tm_7 (List.mem_of_getElem? (i := 9) (by decide +kernel))⟩
theorem lw_p73 : lw_okq (⟨"PadConsole$Processor", "writeWord", "(II)V"⟩, 6) := ⟨⟨by decide +kernel, by decide +kernel⟩, tm_3 (List.mem_of_getElem? (i := 72) (by decide +kernel)), tm_7 (List.mem_of_getElem? (i := 12) (by decide +kernel)), tm_7 (List.mem_of_getElem? (i := 13) (by decide +kernel))⟩
theorem lw_p74 : lw_okq (⟨"PadConsole$Processor", "putPair", "(II)V"⟩, 6) := ⟨⟨by decide +kernel, by decide +kernel⟩, tm_3 (List.mem_of_getElem? (i := 72) (by decide +kernel)), tm_7 (List.mem_of_getElem? (i := 16) (by decide +kernel)), tm_7 (List.mem_of_getElem? (i := 17) (by decide +kernel))⟩
theorem lw_p75 : lw_okq (⟨"PadConsole$Processor", "difference", "(III)I"⟩, 6) := ⟨⟨by decide +kernel, by decide +kernel⟩, tm_3 (List.mem_of_getElem? (i := 72) (by decide +kernel)), tm_7 (List.mem_of_getElem? (i := 20) (by decide +kernel)), tm_7 (List.mem_of_getElem? (i := 21) (by decide +kernel))⟩
theorem lw_p76 : lw_okq (⟨"PadConsole$Processor", "pop", "()I"⟩, 6) := ⟨⟨by decide +kernel, by decide +kernel⟩, tm_3 (List.mem_of_getElem? (i := 72) (by decide +kernel)), tm_7 (List.mem_of_getElem? (i := 24) (by decide +kernel)), tm_7 (List.mem_of_getElem? (i := 25) (by decide +kernel))⟩
theorem lw_p77 : lw_okq (⟨"PadConsole$Processor", "moreOfA", "(I)I"⟩, 6) := ⟨⟨by decide +kernel, by decide +kernel⟩, tm_3 (List.mem_of_getElem? (i := 72) (by decide +kernel)), tm_7 (List.mem_of_getElem? (i := 29) (by decide +kernel)), tm_7 (List.mem_of_getElem? (i := 30) (by decide +kernel))⟩
theorem lw_p78 : lw_okq (⟨"PadConsole$Processor", "turnDigits", "(Z)V"⟩, 6) := ⟨⟨by decide +kernel, by decide +kernel⟩, tm_3 (List.mem_of_getElem? (i := 72) (by decide +kernel)), tm_7 (List.mem_of_getElem? (i := 33) (by decide +kernel)), tm_7 (List.mem_of_getElem? (i := 34) (by decide +kernel))⟩
theorem lw_p79 : lw_okq (⟨"PadConsole$Processor", "firstQuarter", "(I)I"⟩, 6) := ⟨⟨by decide +kernel, by decide +kernel⟩, tm_3 (List.mem_of_getElem? (i := 72) (by decide +kernel)), tm_7 (List.mem_of_getElem? (i := 37) (by decide +kernel)), tm_7 (List.mem_of_getElem? (i := 38) (by decide +kernel))⟩
def lw_privs_5 : List (MethodName × Nat) := [(⟨"PadConsole$Processor", "takeFromPort", "(I)V"⟩, 6), (⟨"PadConsole$Processor", "takePair", "(I)I"⟩, 6), (⟨"PadConsole$Processor", "hl", "()I"⟩, 6), (⟨"PadConsole$Processor", "pair", "(I)I"⟩, 6), (⟨"PadConsole$Processor", "putWide", "(III)V"⟩, 6), (⟨"PadConsole$Processor", "putHl", "(I)V"⟩, 6), (⟨"PadConsole$Processor", "addPairAndCarry", "(I)I"⟩, 6), (⟨"PadConsole$Processor", "farPair", "(I)I"⟩, 6), (⟨"PadConsole$Processor", "fetchWord", "()I"⟩, 6), (⟨"PadConsole$Processor", "writeWord", "(II)V"⟩, 6), (⟨"PadConsole$Processor", "putPair", "(II)V"⟩, 6), (⟨"PadConsole$Processor", "difference", "(III)I"⟩, 6), (⟨"PadConsole$Processor", "pop", "()I"⟩, 6), (⟨"PadConsole$Processor", "moreOfA", "(I)I"⟩, 6), (⟨"PadConsole$Processor", "turnDigits", "(Z)V"⟩, 6), (⟨"PadConsole$Processor", "firstQuarter", "(I)I"⟩, 6)]
theorem lw_r5 : ∀ q ∈ lw_privs_5, lw_okq q := List.forall_mem_cons.mpr ⟨lw_p64, List.forall_mem_cons.mpr ⟨lw_p65, List.forall_mem_cons.mpr ⟨lw_p66, List.forall_mem_cons.mpr ⟨lw_p67, List.forall_mem_cons.mpr ⟨lw_p68, List.forall_mem_cons.mpr ⟨lw_p69, List.forall_mem_cons.mpr ⟨lw_p70, List.forall_mem_cons.mpr ⟨lw_p71, List.forall_mem_cons.mpr ⟨lw_p72, List.forall_mem_cons.mpr ⟨lw_p73, List.forall_mem_cons.mpr ⟨lw_p74, List.forall_mem_cons.mpr ⟨lw_p75, List.forall_mem_cons.mpr ⟨lw_p76, List.forall_mem_cons.mpr ⟨lw_p77, List.forall_mem_cons.mpr ⟨lw_p78, List.forall_mem_cons.mpr ⟨lw_p79, fun _ h => absurd h List.not_mem_nil⟩⟩⟩⟩⟩⟩⟩⟩⟩⟩⟩⟩⟩⟩⟩⟩
theorem lw_p80 : lw_okq (⟨"PadConsole$Processor", "near", "(I)I"⟩, 6) := ⟨⟨by decide +kernel, by decide +kernel⟩, tm_3 (List.mem_of_getElem? (i := 72) (by decide +kernel)), tm_7 (List.mem_of_getElem? (i := 41) (by decide +kernel)), tm_7 (List.mem_of_getElem? (i := 42) (by decide +kernel))⟩
theorem lw_p81 : lw_okq (⟨"PadConsole$Processor", "changeWithOther", "(I)V"⟩, 6) := ⟨⟨by decide +kernel, by decide +kernel⟩, tm_3 (List.mem_of_getElem? (i := 72) (by decide +kernel)), tm_7 (List.mem_of_getElem? (i := 45) (by decide +kernel)), tm_7 (List.mem_of_getElem? (i := 46) (by decide +kernel))⟩
theorem lw_p82 : lw_okq (⟨"PadConsole$Processor", "holds", "(I)Z"⟩, 6) := ⟨⟨by decide +kernel, by decide +kernel⟩, tm_3 (List.mem_of_getElem? (i := 72) (by decide +kernel)), tm_7 (List.mem_of_getElem? (i := 49) (by decide +kernel)), tm_7 (List.mem_of_getElem? (i := 50) (by decide +kernel))⟩
theorem lw_p83 : lw_okq (⟨"PadConsole$Processor", "loadPair", "(I)I"⟩, 6) := ⟨⟨by decide +kernel, by decide +kernel⟩, tm_3 (List.mem_of_getElem? (i := 72) (by decide +kernel)), tm_7 (List.mem_of_getElem? (i := 55) (by decide +kernel)), tm_7 (List.mem_of_getElem? (i := 56) (by decide +kernel))⟩
theorem lw_p84 : lw_okq (⟨"PadConsole$Processor", "addPair", "(I)I"⟩, 6) := ⟨⟨by decide +kernel, by decide +kernel⟩, tm_3 (List.mem_of_getElem? (i := 72) (by decide +kernel)), tm_7 (List.mem_of_getElem? (i := 59) (by decide +kernel)), tm_7 (List.mem_of_getElem? (i := 60) (by decide +kernel))⟩
theorem lw_p85 : lw_okq (⟨"PadConsole$Processor", "far", "(I)I"⟩, 6) := ⟨⟨by decide +kernel, by decide +kernel⟩, tm_3 (List.mem_of_getElem? (i := 72) (by decide +kernel)), tm_7 (List.mem_of_getElem? (i := 63) (by decide +kernel)), tm_7 (List.mem_of_getElem? (i := 64) (by decide +kernel))⟩
theorem lw_p86 : lw_okq (⟨"PadConsole$Processor", "oneMore", "(I)I"⟩, 6) := ⟨⟨by decide +kernel, by decide +kernel⟩, tm_3 (List.mem_of_getElem? (i := 72) (by decide +kernel)), tm_7 (List.mem_of_getElem? (i := 67) (by decide +kernel)), tm_7 (List.mem_of_getElem? (i := 68) (by decide +kernel))⟩
theorem lw_p87 : lw_okq (⟨"PadConsole$Processor", "oneLess", "(I)I"⟩, 6) := ⟨⟨by decide +kernel, by decide +kernel⟩, tm_3 (List.mem_of_getElem? (i := 72) (by decide +kernel)), tm_7 (List.mem_of_getElem? (i := 71) (by decide +kernel)), tm_7 (List.mem_of_getElem? (i := 72) (by decide +kernel))⟩
theorem lw_p88 : lw_okq (⟨"PadConsole$Processor", "changeA", "(I)V"⟩, 6) := ⟨⟨by decide +kernel, by decide +kernel⟩, tm_3 (List.mem_of_getElem? (i := 72) (by decide +kernel)), tm_7 (List.mem_of_getElem? (i := 75) (by decide +kernel)), tm_7 (List.mem_of_getElem? (i := 76) (by decide +kernel))⟩
theorem lw_p89 : lw_okq (⟨"PadConsole$Processor", "adjustA", "()V"⟩, 6) := ⟨⟨by decide +kernel, by decide +kernel⟩, tm_3 (List.mem_of_getElem? (i := 72) (by decide +kernel)), tm_7 (List.mem_of_getElem? (i := 79) (by decide +kernel)), tm_7 (List.mem_of_getElem? (i := 80) (by decide +kernel))⟩
theorem lw_p90 : lw_okq (⟨"PadConsole$Processor", "move", "(I)I"⟩, 6) := ⟨⟨by decide +kernel, by decide +kernel⟩, tm_3 (List.mem_of_getElem? (i := 72) (by decide +kernel)), tm_7 (List.mem_of_getElem? (i := 83) (by decide +kernel)), tm_7 (List.mem_of_getElem? (i := 84) (by decide +kernel))⟩
theorem lw_p91 : lw_okq (⟨"PadConsole$Processor", "doWithRegister", "(I)I"⟩, 6) := ⟨⟨by decide +kernel, by decide +kernel⟩, tm_3 (List.mem_of_getElem? (i := 72) (by decide +kernel)), tm_7 (List.mem_of_getElem? (i := 87) (by decide +kernel)), tm_7 (List.mem_of_getElem? (i := 88) (by decide +kernel))⟩
theorem lw_p92 : lw_okq (⟨"PadConsole$Processor", "doWith", "(II)V"⟩, 6) := ⟨⟨by decide +kernel, by decide +kernel⟩, tm_3 (List.mem_of_getElem? (i := 72) (by decide +kernel)), tm_7 (List.mem_of_getElem? (i := 91) (by decide +kernel)), tm_7 (List.mem_of_getElem? (i := 92) (by decide +kernel))⟩
theorem lw_p93 : lw_okq (⟨"PadConsole$Processor", "sum", "(III)I"⟩, 6) := ⟨⟨by decide +kernel, by decide +kernel⟩, tm_3 (List.mem_of_getElem? (i := 72) (by decide +kernel)), tm_7 (List.mem_of_getElem? (i := 95) (by decide +kernel)), tm_7 (List.mem_of_getElem? (i := 96) (by decide +kernel))⟩
theorem lw_p94 : lw_okq (⟨"PadConsole$Processor", "exchange", "(I)I"⟩, 6) := ⟨⟨by decide +kernel, by decide +kernel⟩, tm_3 (List.mem_of_getElem? (i := 72) (by decide +kernel)), tm_7 (List.mem_of_getElem? (i := 99) (by decide +kernel)), tm_7 (List.mem_of_getElem? (i := 100) (by decide +kernel))⟩
theorem lw_p95 : lw_okq (⟨"PadConsole$Processor", "lastQuarter", "(I)I"⟩, 6) := ⟨⟨by decide +kernel, by decide +kernel⟩, tm_3 (List.mem_of_getElem? (i := 72) (by decide +kernel)), tm_7 (List.mem_of_getElem? (i := 103) (by decide +kernel)), tm_7 (List.mem_of_getElem? (i := 104) (by decide +kernel))⟩
def lw_privs_6 : List (MethodName × Nat) := [(⟨"PadConsole$Processor", "near", "(I)I"⟩, 6), (⟨"PadConsole$Processor", "changeWithOther", "(I)V"⟩, 6), (⟨"PadConsole$Processor", "holds", "(I)Z"⟩, 6), (⟨"PadConsole$Processor", "loadPair", "(I)I"⟩, 6), (⟨"PadConsole$Processor", "addPair", "(I)I"⟩, 6), (⟨"PadConsole$Processor", "far", "(I)I"⟩, 6), (⟨"PadConsole$Processor", "oneMore", "(I)I"⟩, 6), (⟨"PadConsole$Processor", "oneLess", "(I)I"⟩, 6), (⟨"PadConsole$Processor", "changeA", "(I)V"⟩, 6), (⟨"PadConsole$Processor", "adjustA", "()V"⟩, 6), (⟨"PadConsole$Processor", "move", "(I)I"⟩, 6), (⟨"PadConsole$Processor", "doWithRegister", "(I)I"⟩, 6), (⟨"PadConsole$Processor", "doWith", "(II)V"⟩, 6), (⟨"PadConsole$Processor", "sum", "(III)I"⟩, 6), (⟨"PadConsole$Processor", "exchange", "(I)I"⟩, 6), (⟨"PadConsole$Processor", "lastQuarter", "(I)I"⟩, 6)]
theorem lw_r6 : ∀ q ∈ lw_privs_6, lw_okq q := List.forall_mem_cons.mpr ⟨lw_p80, List.forall_mem_cons.mpr ⟨lw_p81, List.forall_mem_cons.mpr ⟨lw_p82, List.forall_mem_cons.mpr ⟨lw_p83, List.forall_mem_cons.mpr ⟨lw_p84, List.forall_mem_cons.mpr ⟨lw_p85, List.forall_mem_cons.mpr ⟨lw_p86, List.forall_mem_cons.mpr ⟨lw_p87, List.forall_mem_cons.mpr ⟨lw_p88, List.forall_mem_cons.mpr ⟨lw_p89, List.forall_mem_cons.mpr ⟨lw_p90, List.forall_mem_cons.mpr ⟨lw_p91, List.forall_mem_cons.mpr ⟨lw_p92, List.forall_mem_cons.mpr ⟨lw_p93, List.forall_mem_cons.mpr ⟨lw_p94, List.forall_mem_cons.mpr ⟨lw_p95, fun _ h => absurd h List.not_mem_nil⟩⟩⟩⟩⟩⟩⟩⟩⟩⟩⟩⟩⟩⟩⟩⟩
theorem lw_p96 : lw_okq (⟨"PadConsole$Processor", "popPair", "(I)I"⟩, 6) := ⟨⟨by decide +kernel, by decide +kernel⟩, tm_3 (List.mem_of_getElem? (i := 72) (by decide +kernel)), tm_7 (List.mem_of_getElem? (i := 107) (by decide +kernel)), tm_7 (List.mem_of_getElem? (i := 108) (by decide +kernel))⟩
theorem lw_p97 : lw_okq (⟨"PadConsole$Processor", "leave", "(I)I"⟩, 6) := ⟨⟨by decide +kernel, by decide +kernel⟩, tm_3 (List.mem_of_getElem? (i := 72) (by decide +kernel)), tm_7 (List.mem_of_getElem? (i := 111) (by decide +kernel)), tm_7 (List.mem_of_getElem? (i := 112) (by decide +kernel))⟩
theorem lw_p98 : lw_okq (⟨"PadConsole$Processor", "callIf", "(Z)I"⟩, 6) := ⟨⟨by decide +kernel, by decide +kernel⟩, tm_3 (List.mem_of_getElem? (i := 72) (by decide +kernel)), tm_7 (List.mem_of_getElem? (i := 115) (by decide +kernel)), tm_7 (List.mem_of_getElem? (i := 116) (by decide +kernel))⟩
theorem lw_p99 : lw_okq (⟨"PadConsole", "endLine", "()V"⟩, 12) := ⟨⟨by decide +kernel, by decide +kernel⟩, tm_1 (List.mem_of_getElem? (i := 32) (by decide +kernel)), tm_7 (List.mem_of_getElem? (i := 123) (by decide +kernel)), tm_7 (List.mem_of_getElem? (i := 124) (by decide +kernel))⟩
theorem lw_p100 : lw_okq (⟨"PadConsole$Painter", "drawTiles", "(I)V"⟩, 9) := ⟨⟨by decide +kernel, by decide +kernel⟩, tm_1 (List.mem_of_getElem? (i := 118) (by decide +kernel)), tm_7 (List.mem_of_getElem? (i := 142) (by decide +kernel)), tm_7 (List.mem_of_getElem? (i := 143) (by decide +kernel))⟩
theorem lw_p101 : lw_okq (⟨"PadConsole$Painter", "takeTile", "(II)V"⟩, 9) := ⟨⟨by decide +kernel, by decide +kernel⟩, tm_1 (List.mem_of_getElem? (i := 118) (by decide +kernel)), tm_7 (List.mem_of_getElem? (i := 147) (by decide +kernel)), tm_7 (List.mem_of_getElem? (i := 148) (by decide +kernel))⟩
theorem lw_p102 : lw_okq (⟨"PadConsole$Painter", "takePlanes", "(I)V"⟩, 9) := ⟨⟨by decide +kernel, by decide +kernel⟩, tm_1 (List.mem_of_getElem? (i := 118) (by decide +kernel)), tm_7 (List.mem_of_getElem? (i := 155) (by decide +kernel)), tm_7 (List.mem_of_getElem? (i := 156) (by decide +kernel))⟩
theorem lw_p103 : lw_okq (⟨"PadConsole$Painter", "drawSprites", "(I)V"⟩, 9) := ⟨⟨by decide +kernel, by decide +kernel⟩, tm_1 (List.mem_of_getElem? (i := 118) (by decide +kernel)), tm_7 (List.mem_of_getElem? (i := 163) (by decide +kernel)), tm_7 (List.mem_of_getElem? (i := 164) (by decide +kernel))⟩
theorem lw_p104 : lw_okq (⟨"PadConsole$Painter", "rowOfSprite", "(II)I"⟩, 9) := ⟨⟨by decide +kernel, by decide +kernel⟩, tm_1 (List.mem_of_getElem? (i := 118) (by decide +kernel)), tm_7 (List.mem_of_getElem? (i := 167) (by decide +kernel)), tm_7 (List.mem_of_getElem? (i := 168) (by decide +kernel))⟩
theorem lw_p105 : lw_okq (⟨"PadConsole$Painter", "drawSprite", "(II)V"⟩, 9) := ⟨⟨by decide +kernel, by decide +kernel⟩, tm_1 (List.mem_of_getElem? (i := 118) (by decide +kernel)), tm_7 (List.mem_of_getElem? (i := 175) (by decide +kernel)), tm_7 (List.mem_of_getElem? (i := 176) (by decide +kernel))⟩
theorem lw_p106 : lw_okq (⟨"PadConsole$Painter", "drawOld", "(II)V"⟩, 9) := ⟨⟨by decide +kernel, by decide +kernel⟩, tm_1 (List.mem_of_getElem? (i := 118) (by decide +kernel)), tm_7 (List.mem_of_getElem? (i := 180) (by decide +kernel)), tm_7 (List.mem_of_getElem? (i := 181) (by decide +kernel))⟩
theorem lw_p107 : lw_okq (⟨"PadConsole$Painter", "drawText", "(II)V"⟩, 9) := ⟨⟨by decide +kernel, by decide +kernel⟩, tm_1 (List.mem_of_getElem? (i := 118) (by decide +kernel)), tm_7 (List.mem_of_getElem? (i := 184) (by decide +kernel)), tm_7 (List.mem_of_getElem? (i := 185) (by decide +kernel))⟩
theorem lw_p108 : lw_okq (⟨"PadConsole$Painter", "patternAt", "(II)I"⟩, 9) := ⟨⟨by decide +kernel, by decide +kernel⟩, tm_1 (List.mem_of_getElem? (i := 118) (by decide +kernel)), tm_7 (List.mem_of_getElem? (i := 188) (by decide +kernel)), tm_7 (List.mem_of_getElem? (i := 189) (by decide +kernel))⟩
theorem lw_p109 : lw_okq (⟨"PadConsole$Painter", "drawPattern", "(III)V"⟩, 9) := ⟨⟨by decide +kernel, by decide +kernel⟩, tm_1 (List.mem_of_getElem? (i := 118) (by decide +kernel)), tm_7 (List.mem_of_getElem? (i := 192) (by decide +kernel)), tm_7 (List.mem_of_getElem? (i := 193) (by decide +kernel))⟩
theorem lw_p110 : lw_okq (⟨"PadConsole$Painter", "drawThird", "(III)V"⟩, 9) := ⟨⟨by decide +kernel, by decide +kernel⟩, tm_1 (List.mem_of_getElem? (i := 118) (by decide +kernel)), tm_7 (List.mem_of_getElem? (i := 196) (by decide +kernel)), tm_7 (List.mem_of_getElem? (i := 197) (by decide +kernel))⟩
theorem lw_p111 : lw_okq (⟨"PadConsole$Painter", "drawBlocks", "(III)V"⟩, 9) := ⟨⟨by decide +kernel, by decide +kernel⟩, tm_1 (List.mem_of_getElem? (i := 118) (by decide +kernel)), tm_7 (List.mem_of_getElem? (i := 200) (by decide +kernel)), tm_7 (List.mem_of_getElem? (i := 201) (by decide +kernel))⟩
def lw_privs_7 : List (MethodName × Nat) := [(⟨"PadConsole$Processor", "popPair", "(I)I"⟩, 6), (⟨"PadConsole$Processor", "leave", "(I)I"⟩, 6), (⟨"PadConsole$Processor", "callIf", "(Z)I"⟩, 6), (⟨"PadConsole", "endLine", "()V"⟩, 12), (⟨"PadConsole$Painter", "drawTiles", "(I)V"⟩, 9), (⟨"PadConsole$Painter", "takeTile", "(II)V"⟩, 9), (⟨"PadConsole$Painter", "takePlanes", "(I)V"⟩, 9), (⟨"PadConsole$Painter", "drawSprites", "(I)V"⟩, 9), (⟨"PadConsole$Painter", "rowOfSprite", "(II)I"⟩, 9), (⟨"PadConsole$Painter", "drawSprite", "(II)V"⟩, 9), (⟨"PadConsole$Painter", "drawOld", "(II)V"⟩, 9), (⟨"PadConsole$Painter", "drawText", "(II)V"⟩, 9), (⟨"PadConsole$Painter", "patternAt", "(II)I"⟩, 9), (⟨"PadConsole$Painter", "drawPattern", "(III)V"⟩, 9), (⟨"PadConsole$Painter", "drawThird", "(III)V"⟩, 9), (⟨"PadConsole$Painter", "drawBlocks", "(III)V"⟩, 9)]
theorem lw_r7 : ∀ q ∈ lw_privs_7, lw_okq q := List.forall_mem_cons.mpr ⟨lw_p96, List.forall_mem_cons.mpr ⟨lw_p97, List.forall_mem_cons.mpr ⟨lw_p98, List.forall_mem_cons.mpr ⟨lw_p99, List.forall_mem_cons.mpr ⟨lw_p100, List.forall_mem_cons.mpr ⟨lw_p101, List.forall_mem_cons.mpr ⟨lw_p102, List.forall_mem_cons.mpr ⟨lw_p103, List.forall_mem_cons.mpr ⟨lw_p104, List.forall_mem_cons.mpr ⟨lw_p105, List.forall_mem_cons.mpr ⟨lw_p106, List.forall_mem_cons.mpr ⟨lw_p107, List.forall_mem_cons.mpr ⟨lw_p108, List.forall_mem_cons.mpr ⟨lw_p109, List.forall_mem_cons.mpr ⟨lw_p110, List.forall_mem_cons.mpr ⟨lw_p111, fun _ h => absurd h List.not_mem_nil⟩⟩⟩⟩⟩⟩⟩⟩⟩⟩⟩⟩⟩⟩⟩⟩
theorem lw_p112 : lw_okq (⟨"PadConsole$Painter", "drawOldSprites", "(I)V"⟩, 9) := ⟨⟨by decide +kernel, by decide +kernel⟩, tm_1 (List.mem_of_getElem? (i := 118) (by decide +kernel)), tm_7 (List.mem_of_getElem? (i := 204) (by decide +kernel)), tm_7 (List.mem_of_getElem? (i := 205) (by decide +kernel))⟩
theorem lw_p113 : lw_okq (⟨"PadConsole$Painter", "drawOldSprite", "(II)V"⟩, 9) := ⟨⟨by decide +kernel, by decide +kernel⟩, tm_1 (List.mem_of_getElem? (i := 118) (by decide +kernel)), tm_7 (List.mem_of_getElem? (i := 212) (by decide +kernel)), tm_7 (List.mem_of_getElem? (i := 213) (by decide +kernel))⟩
theorem lw_p114 : lw_okq (⟨"PadConsole$Painter", "takeDot", "(II)V"⟩, 9) := ⟨⟨by decide +kernel, by decide +kernel⟩, tm_1 (List.mem_of_getElem? (i := 118) (by decide +kernel)), tm_7 (List.mem_of_getElem? (i := 216) (by decide +kernel)), tm_7 (List.mem_of_getElem? (i := 217) (by decide +kernel))⟩
theorem lw_p115 : lw_okq (⟨"PadConsole$Painter", "fillBack", "(I)V"⟩, 9) := ⟨⟨by decide +kernel, by decide +kernel⟩, tm_1 (List.mem_of_getElem? (i := 118) (by decide +kernel)), tm_7 (List.mem_of_getElem? (i := 220) (by decide +kernel)), tm_7 (List.mem_of_getElem? (i := 221) (by decide +kernel))⟩
theorem lw_p116 : lw_okq (⟨"PadConsole$Painter", "mixColours", "(I)V"⟩, 9) := ⟨⟨by decide +kernel, by decide +kernel⟩, tm_1 (List.mem_of_getElem? (i := 118) (by decide +kernel)), tm_7 (List.mem_of_getElem? (i := 224) (by decide +kernel)), tm_7 (List.mem_of_getElem? (i := 225) (by decide +kernel))⟩
theorem lw_p117 : lw_okq (⟨"PadConsole$Desk", "placeOfPlan", "(I)I"⟩, 6) := ⟨⟨by decide +kernel, by decide +kernel⟩, tm_3 (List.mem_of_getElem? (i := 151) (by decide +kernel)), tm_8 (List.mem_of_getElem? (i := 2) (by decide +kernel)), tm_8 (List.mem_of_getElem? (i := 3) (by decide +kernel))⟩
theorem lw_p118 : lw_okq (⟨"PadConsole$Clock", "addSample", "()V"⟩, 6) := ⟨⟨by decide +kernel, by decide +kernel⟩, tm_3 (List.mem_of_getElem? (i := 98) (by decide +kernel)), tm_8 (List.mem_of_getElem? (i := 15) (by decide +kernel)), tm_8 (List.mem_of_getElem? (i := 16) (by decide +kernel))⟩
theorem lw_p119 : lw_okq (⟨"PadConsole$Sound", "moveTone", "(I)V"⟩, 2) := ⟨⟨by decide +kernel, by decide +kernel⟩, tm_1 (List.mem_of_getElem? (i := 153) (by decide +kernel)), tm_8 (List.mem_of_getElem? (i := 23) (by decide +kernel)), tm_8 (List.mem_of_getElem? (i := 24) (by decide +kernel))⟩
theorem lw_p120 : lw_okq (⟨"PadConsole$Sound", "moveNoise", "()V"⟩, 2) := ⟨⟨by decide +kernel, by decide +kernel⟩, tm_1 (List.mem_of_getElem? (i := 153) (by decide +kernel)), tm_8 (List.mem_of_getElem? (i := 28) (by decide +kernel)), tm_8 (List.mem_of_getElem? (i := 29) (by decide +kernel))⟩
theorem lw_p121 : lw_okq (⟨"PadConsole$Waves", "takeOwnPatch", "()V"⟩, 8) := ⟨⟨by decide +kernel, by decide +kernel⟩, tm_3 (List.mem_of_getElem? (i := 7) (by decide +kernel)), tm_8 (List.mem_of_getElem? (i := 44) (by decide +kernel)), tm_8 (List.mem_of_getElem? (i := 45) (by decide +kernel))⟩
theorem lw_p122 : lw_okq (⟨"PadConsole$Waves", "takeChannel", "(I)V"⟩, 8) := ⟨⟨by decide +kernel, by decide +kernel⟩, tm_3 (List.mem_of_getElem? (i := 7) (by decide +kernel)), tm_8 (List.mem_of_getElem? (i := 48) (by decide +kernel)), tm_8 (List.mem_of_getElem? (i := 49) (by decide +kernel))⟩
theorem lw_p123 : lw_okq (⟨"PadConsole$Waves", "moveOperator", "(II)V"⟩, 8) := ⟨⟨by decide +kernel, by decide +kernel⟩, tm_3 (List.mem_of_getElem? (i := 7) (by decide +kernel)), tm_8 (List.mem_of_getElem? (i := 54) (by decide +kernel)), tm_8 (List.mem_of_getElem? (i := 55) (by decide +kernel))⟩
theorem lw_p124 : lw_okq (⟨"PadConsole$Waves", "isOn", "(I)Z"⟩, 8) := ⟨⟨by decide +kernel, by decide +kernel⟩, tm_3 (List.mem_of_getElem? (i := 7) (by decide +kernel)), tm_8 (List.mem_of_getElem? (i := 58) (by decide +kernel)), tm_8 (List.mem_of_getElem? (i := 59) (by decide +kernel))⟩
theorem lw_p125 : lw_okq (⟨"PadConsole$Waves", "moveLevel", "(II)V"⟩, 8) := ⟨⟨by decide +kernel, by decide +kernel⟩, tm_3 (List.mem_of_getElem? (i := 7) (by decide +kernel)), tm_8 (List.mem_of_getElem? (i := 62) (by decide +kernel)), tm_8 (List.mem_of_getElem? (i := 63) (by decide +kernel))⟩
theorem lw_p126 : lw_okq (⟨"PadConsole$Waves", "rateIn", "(II)I"⟩, 8) := ⟨⟨by decide +kernel, by decide +kernel⟩, tm_3 (List.mem_of_getElem? (i := 7) (by decide +kernel)), tm_8 (List.mem_of_getElem? (i := 66) (by decide +kernel)), tm_8 (List.mem_of_getElem? (i := 67) (by decide +kernel))⟩
theorem lw_p127 : lw_okq (⟨"PadConsole$Waves", "part", "(I)I"⟩, 8) := ⟨⟨by decide +kernel, by decide +kernel⟩, tm_3 (List.mem_of_getElem? (i := 7) (by decide +kernel)), tm_8 (List.mem_of_getElem? (i := 70) (by decide +kernel)), tm_8 (List.mem_of_getElem? (i := 71) (by decide +kernel))⟩
def lw_privs_8 : List (MethodName × Nat) := [(⟨"PadConsole$Painter", "drawOldSprites", "(I)V"⟩, 9), (⟨"PadConsole$Painter", "drawOldSprite", "(II)V"⟩, 9), (⟨"PadConsole$Painter", "takeDot", "(II)V"⟩, 9), (⟨"PadConsole$Painter", "fillBack", "(I)V"⟩, 9), (⟨"PadConsole$Painter", "mixColours", "(I)V"⟩, 9), (⟨"PadConsole$Desk", "placeOfPlan", "(I)I"⟩, 6), (⟨"PadConsole$Clock", "addSample", "()V"⟩, 6), (⟨"PadConsole$Sound", "moveTone", "(I)V"⟩, 2), (⟨"PadConsole$Sound", "moveNoise", "()V"⟩, 2), (⟨"PadConsole$Waves", "takeOwnPatch", "()V"⟩, 8), (⟨"PadConsole$Waves", "takeChannel", "(I)V"⟩, 8), (⟨"PadConsole$Waves", "moveOperator", "(II)V"⟩, 8), (⟨"PadConsole$Waves", "isOn", "(I)Z"⟩, 8), (⟨"PadConsole$Waves", "moveLevel", "(II)V"⟩, 8), (⟨"PadConsole$Waves", "rateIn", "(II)I"⟩, 8), (⟨"PadConsole$Waves", "part", "(I)I"⟩, 8)]
theorem lw_r8 : ∀ q ∈ lw_privs_8, lw_okq q := List.forall_mem_cons.mpr ⟨lw_p112, List.forall_mem_cons.mpr ⟨lw_p113, List.forall_mem_cons.mpr ⟨lw_p114, List.forall_mem_cons.mpr ⟨lw_p115, List.forall_mem_cons.mpr ⟨lw_p116, List.forall_mem_cons.mpr ⟨lw_p117, List.forall_mem_cons.mpr ⟨lw_p118, List.forall_mem_cons.mpr ⟨lw_p119, List.forall_mem_cons.mpr ⟨lw_p120, List.forall_mem_cons.mpr ⟨lw_p121, List.forall_mem_cons.mpr ⟨lw_p122, List.forall_mem_cons.mpr ⟨lw_p123, List.forall_mem_cons.mpr ⟨lw_p124, List.forall_mem_cons.mpr ⟨lw_p125, List.forall_mem_cons.mpr ⟨lw_p126, List.forall_mem_cons.mpr ⟨lw_p127, fun _ h => absurd h List.not_mem_nil⟩⟩⟩⟩⟩⟩⟩⟩⟩⟩⟩⟩⟩⟩⟩⟩
theorem lw_p128 : lw_okq (⟨"PadConsole$Waves", "louder", "(III)I"⟩, 8) := ⟨⟨by decide +kernel, by decide +kernel⟩, tm_3 (List.mem_of_getElem? (i := 7) (by decide +kernel)), tm_8 (List.mem_of_getElem? (i := 77) (by decide +kernel)), tm_8 (List.mem_of_getElem? (i := 78) (by decide +kernel))⟩
theorem lw_p129 : lw_okq (⟨"PadConsole$Waves", "slowTick", "()I"⟩, 8) := ⟨⟨by decide +kernel, by decide +kernel⟩, tm_3 (List.mem_of_getElem? (i := 7) (by decide +kernel)), tm_8 (List.mem_of_getElem? (i := 81) (by decide +kernel)), tm_8 (List.mem_of_getElem? (i := 82) (by decide +kernel))⟩
theorem lw_p130 : lw_okq (⟨"PadConsole$Waves", "tickAt", "(II)I"⟩, 8) := ⟨⟨by decide +kernel, by decide +kernel⟩, tm_3 (List.mem_of_getElem? (i := 7) (by decide +kernel)), tm_8 (List.mem_of_getElem? (i := 85) (by decide +kernel)), tm_8 (List.mem_of_getElem? (i := 86) (by decide +kernel))⟩
theorem lw_p131 : lw_okq (⟨"PadConsole$Waves", "softer", "(II)I"⟩, 8) := ⟨⟨by decide +kernel, by decide +kernel⟩, tm_3 (List.mem_of_getElem? (i := 7) (by decide +kernel)), tm_8 (List.mem_of_getElem? (i := 90) (by decide +kernel)), tm_8 (List.mem_of_getElem? (i := 91) (by decide +kernel))⟩
theorem lw_p132 : lw_okq (⟨"PadConsole$Waves", "moveState", "(II)V"⟩, 8) := ⟨⟨by decide +kernel, by decide +kernel⟩, tm_3 (List.mem_of_getElem? (i := 7) (by decide +kernel)), tm_8 (List.mem_of_getElem? (i := 94) (by decide +kernel)), tm_8 (List.mem_of_getElem? (i := 95) (by decide +kernel))⟩
theorem lw_p133 : lw_okq (⟨"PadConsole$Waves", "movePhase", "(II)V"⟩, 8) := ⟨⟨by decide +kernel, by decide +kernel⟩, tm_3 (List.mem_of_getElem? (i := 7) (by decide +kernel)), tm_8 (List.mem_of_getElem? (i := 98) (by decide +kernel)), tm_8 (List.mem_of_getElem? (i := 99) (by decide +kernel))⟩
theorem lw_p134 : lw_okq (⟨"PadConsole$Waves", "sway", "(I)I"⟩, 8) := ⟨⟨by decide +kernel, by decide +kernel⟩, tm_3 (List.mem_of_getElem? (i := 7) (by decide +kernel)), tm_8 (List.mem_of_getElem? (i := 102) (by decide +kernel)), tm_8 (List.mem_of_getElem? (i := 103) (by decide +kernel))⟩
theorem lw_p135 : lw_okq (⟨"PadConsole$Waves", "moveOut", "(II)V"⟩, 8) := ⟨⟨by decide +kernel, by decide +kernel⟩, tm_3 (List.mem_of_getElem? (i := 7) (by decide +kernel)), tm_8 (List.mem_of_getElem? (i := 109) (by decide +kernel)), tm_8 (List.mem_of_getElem? (i := 110) (by decide +kernel))⟩
theorem lw_p136 : lw_okq (⟨"PadConsole$Waves", "turnedPhase", "(II)I"⟩, 8) := ⟨⟨by decide +kernel, by decide +kernel⟩, tm_3 (List.mem_of_getElem? (i := 7) (by decide +kernel)), tm_8 (List.mem_of_getElem? (i := 113) (by decide +kernel)), tm_8 (List.mem_of_getElem? (i := 114) (by decide +kernel))⟩
theorem lw_p137 : lw_okq (⟨"PadConsole$Waves", "drumPhase", "(II)I"⟩, 8) := ⟨⟨by decide +kernel, by decide +kernel⟩, tm_3 (List.mem_of_getElem? (i := 7) (by decide +kernel)), tm_8 (List.mem_of_getElem? (i := 117) (by decide +kernel)), tm_8 (List.mem_of_getElem? (i := 118) (by decide +kernel))⟩
theorem lw_p138 : lw_okq (⟨"PadConsole$Waves", "softness", "(II)I"⟩, 8) := ⟨⟨by decide +kernel, by decide +kernel⟩, tm_3 (List.mem_of_getElem? (i := 7) (by decide +kernel)), tm_8 (List.mem_of_getElem? (i := 121) (by decide +kernel)), tm_8 (List.mem_of_getElem? (i := 122) (by decide +kernel))⟩
theorem lw_p139 : lw_okq (⟨"PadConsole$Waves", "scaled", "(I)I"⟩, 8) := ⟨⟨by decide +kernel, by decide +kernel⟩, tm_3 (List.mem_of_getElem? (i := 7) (by decide +kernel)), tm_8 (List.mem_of_getElem? (i := 125) (by decide +kernel)), tm_8 (List.mem_of_getElem? (i := 126) (by decide +kernel))⟩
theorem lw_p140 : lw_okq (⟨"PadConsole$Waves", "tremble", "()I"⟩, 8) := ⟨⟨by decide +kernel, by decide +kernel⟩, tm_3 (List.mem_of_getElem? (i := 7) (by decide +kernel)), tm_8 (List.mem_of_getElem? (i := 131) (by decide +kernel)), tm_8 (List.mem_of_getElem? (i := 132) (by decide +kernel))⟩
theorem lw_p141 : lw_okq (⟨"PadConsole$Clock", "addMix", "()V"⟩, 6) := ⟨⟨by decide +kernel, by decide +kernel⟩, tm_3 (List.mem_of_getElem? (i := 98) (by decide +kernel)), tm_8 (List.mem_of_getElem? (i := 144) (by decide +kernel)), tm_8 (List.mem_of_getElem? (i := 145) (by decide +kernel))⟩
theorem lw_p142 : lw_okq (⟨"PadConsole$Painter", "placeOf", "(I)I"⟩, 9) := ⟨⟨by decide +kernel, by decide +kernel⟩, tm_1 (List.mem_of_getElem? (i := 118) (by decide +kernel)), tm_9 (List.mem_of_getElem? (i := 137) (by decide +kernel)), tm_9 (List.mem_of_getElem? (i := 138) (by decide +kernel))⟩
theorem lw_p143 : lw_okq (⟨"PadConsoleModel", "anew", "()V"⟩, 44) := ⟨⟨by decide +kernel, by decide +kernel⟩, tm_9 (List.mem_of_getElem? (i := 228) (by decide +kernel)), tm_9 (List.mem_of_getElem? (i := 238) (by decide +kernel)), tm_9 (List.mem_of_getElem? (i := 239) (by decide +kernel))⟩
def lw_privs_9 : List (MethodName × Nat) := [(⟨"PadConsole$Waves", "louder", "(III)I"⟩, 8), (⟨"PadConsole$Waves", "slowTick", "()I"⟩, 8), (⟨"PadConsole$Waves", "tickAt", "(II)I"⟩, 8), (⟨"PadConsole$Waves", "softer", "(II)I"⟩, 8), (⟨"PadConsole$Waves", "moveState", "(II)V"⟩, 8), (⟨"PadConsole$Waves", "movePhase", "(II)V"⟩, 8), (⟨"PadConsole$Waves", "sway", "(I)I"⟩, 8), (⟨"PadConsole$Waves", "moveOut", "(II)V"⟩, 8), (⟨"PadConsole$Waves", "turnedPhase", "(II)I"⟩, 8), (⟨"PadConsole$Waves", "drumPhase", "(II)I"⟩, 8), (⟨"PadConsole$Waves", "softness", "(II)I"⟩, 8), (⟨"PadConsole$Waves", "scaled", "(I)I"⟩, 8), (⟨"PadConsole$Waves", "tremble", "()I"⟩, 8), (⟨"PadConsole$Clock", "addMix", "()V"⟩, 6), (⟨"PadConsole$Painter", "placeOf", "(I)I"⟩, 9), (⟨"PadConsoleModel", "anew", "()V"⟩, 44)]
theorem lw_r9 : ∀ q ∈ lw_privs_9, lw_okq q := List.forall_mem_cons.mpr ⟨lw_p128, List.forall_mem_cons.mpr ⟨lw_p129, List.forall_mem_cons.mpr ⟨lw_p130, List.forall_mem_cons.mpr ⟨lw_p131, List.forall_mem_cons.mpr ⟨lw_p132, List.forall_mem_cons.mpr ⟨lw_p133, List.forall_mem_cons.mpr ⟨lw_p134, List.forall_mem_cons.mpr ⟨lw_p135, List.forall_mem_cons.mpr ⟨lw_p136, List.forall_mem_cons.mpr ⟨lw_p137, List.forall_mem_cons.mpr ⟨lw_p138, List.forall_mem_cons.mpr ⟨lw_p139, List.forall_mem_cons.mpr ⟨lw_p140, List.forall_mem_cons.mpr ⟨lw_p141, List.forall_mem_cons.mpr ⟨lw_p142, List.forall_mem_cons.mpr ⟨lw_p143, fun _ h => absurd h List.not_mem_nil⟩⟩⟩⟩⟩⟩⟩⟩⟩⟩⟩⟩⟩⟩⟩⟩
theorem lw_p144 : lw_okq (⟨"PadConsoleModel", "fails", "(ZI)Z"⟩, 44) := ⟨⟨by decide +kernel, by decide +kernel⟩, tm_9 (List.mem_of_getElem? (i := 228) (by decide +kernel)), tm_10 (List.mem_of_getElem? (i := 149) (by decide +kernel)), tm_10 (List.mem_of_getElem? (i := 150) (by decide +kernel))⟩
theorem lw_p145 : lw_okq (⟨"PadConsoleModel", "isHeader", "(I)Z"⟩, 44) := ⟨⟨by decide +kernel, by decide +kernel⟩, tm_9 (List.mem_of_getElem? (i := 228) (by decide +kernel)), tm_10 (List.mem_of_getElem? (i := 165) (by decide +kernel)), tm_10 (List.mem_of_getElem? (i := 166) (by decide +kernel))⟩
theorem lw_p146 : lw_okq (⟨"PadConsoleModel", "bytesAt", "(II)I"⟩, 44) := ⟨⟨by decide +kernel, by decide +kernel⟩, tm_9 (List.mem_of_getElem? (i := 228) (by decide +kernel)), tm_10 (List.mem_of_getElem? (i := 170) (by decide +kernel)), tm_10 (List.mem_of_getElem? (i := 171) (by decide +kernel))⟩
theorem lw_p147 : lw_okq (⟨"PadConsoleModel", "tens", "(I)I"⟩, 44) := ⟨⟨by decide +kernel, by decide +kernel⟩, tm_9 (List.mem_of_getElem? (i := 228) (by decide +kernel)), tm_10 (List.mem_of_getElem? (i := 181) (by decide +kernel)), tm_10 (List.mem_of_getElem? (i := 182) (by decide +kernel))⟩
theorem lw_p148 : lw_okq (⟨"PadConsoleModel", "isStop", "(I)Z"⟩, 44) := ⟨⟨by decide +kernel, by decide +kernel⟩, tm_9 (List.mem_of_getElem? (i := 228) (by decide +kernel)), tm_10 (List.mem_of_getElem? (i := 190) (by decide +kernel)), tm_10 (List.mem_of_getElem? (i := 191) (by decide +kernel))⟩
theorem lw_p149 : lw_okq (⟨"PadConsoleModel", "once", "()V"⟩, 44) := ⟨⟨by decide +kernel, by decide +kernel⟩, tm_9 (List.mem_of_getElem? (i := 228) (by decide +kernel)), tm_10 (List.mem_of_getElem? (i := 194) (by decide +kernel)), tm_10 (List.mem_of_getElem? (i := 195) (by decide +kernel))⟩
theorem lw_p150 : lw_okq (⟨"PadConsoleModel", "answers", "()V"⟩, 44) := ⟨⟨by decide +kernel, by decide +kernel⟩, tm_9 (List.mem_of_getElem? (i := 228) (by decide +kernel)), tm_10 (List.mem_of_getElem? (i := 199) (by decide +kernel)), tm_10 (List.mem_of_getElem? (i := 200) (by decide +kernel))⟩
theorem lw_p151 : lw_okq (⟨"PadConsoleModel", "grows", "()V"⟩, 44) := ⟨⟨by decide +kernel, by decide +kernel⟩, tm_9 (List.mem_of_getElem? (i := 228) (by decide +kernel)), tm_10 (List.mem_of_getElem? (i := 203) (by decide +kernel)), tm_10 (List.mem_of_getElem? (i := 204) (by decide +kernel))⟩
theorem lw_p152 : lw_okq (⟨"PadConsoleModel", "call", "(I)V"⟩, 44) := ⟨⟨by decide +kernel, by decide +kernel⟩, tm_9 (List.mem_of_getElem? (i := 228) (by decide +kernel)), tm_10 (List.mem_of_getElem? (i := 207) (by decide +kernel)), tm_10 (List.mem_of_getElem? (i := 208) (by decide +kernel))⟩
theorem lw_p153 : lw_okq (⟨"PadConsoleModel", "push", "(I)V"⟩, 44) := ⟨⟨by decide +kernel, by decide +kernel⟩, tm_9 (List.mem_of_getElem? (i := 228) (by decide +kernel)), tm_10 (List.mem_of_getElem? (i := 211) (by decide +kernel)), tm_10 (List.mem_of_getElem? (i := 212) (by decide +kernel))⟩
theorem lw_p154 : lw_okq (⟨"PadConsoleModel", "write", "(II)V"⟩, 44) := ⟨⟨by decide +kernel, by decide +kernel⟩, tm_9 (List.mem_of_getElem? (i := 228) (by decide +kernel)), tm_10 (List.mem_of_getElem? (i := 215) (by decide +kernel)), tm_10 (List.mem_of_getElem? (i := 216) (by decide +kernel))⟩
theorem lw_p155 : lw_okq (⟨"PadConsoleModel", "isBattery", "(I)Z"⟩, 44) := ⟨⟨by decide +kernel, by decide +kernel⟩, tm_9 (List.mem_of_getElem? (i := 228) (by decide +kernel)), tm_10 (List.mem_of_getElem? (i := 219) (by decide +kernel)), tm_10 (List.mem_of_getElem? (i := 220) (by decide +kernel))⟩
theorem lw_p156 : lw_okq (⟨"PadConsoleModel", "batteryAt", "(I)I"⟩, 44) := ⟨⟨by decide +kernel, by decide +kernel⟩, tm_9 (List.mem_of_getElem? (i := 228) (by decide +kernel)), tm_10 (List.mem_of_getElem? (i := 223) (by decide +kernel)), tm_10 (List.mem_of_getElem? (i := 224) (by decide +kernel))⟩
theorem lw_p157 : lw_okq (⟨"PadConsoleModel", "asks", "()Z"⟩, 44) := ⟨⟨by decide +kernel, by decide +kernel⟩, tm_9 (List.mem_of_getElem? (i := 228) (by decide +kernel)), tm_10 (List.mem_of_getElem? (i := 230) (by decide +kernel)), tm_10 (List.mem_of_getElem? (i := 231) (by decide +kernel))⟩
theorem lw_p158 : lw_okq (⟨"PadConsoleModel", "bit", "(II)I"⟩, 44) := ⟨⟨by decide +kernel, by decide +kernel⟩, tm_9 (List.mem_of_getElem? (i := 228) (by decide +kernel)), tm_10 (List.mem_of_getElem? (i := 234) (by decide +kernel)), tm_10 (List.mem_of_getElem? (i := 235) (by decide +kernel))⟩
theorem lw_p159 : lw_okq (⟨"PadConsoleModel", "word", "(I)I"⟩, 44) := ⟨⟨by decide +kernel, by decide +kernel⟩, tm_9 (List.mem_of_getElem? (i := 228) (by decide +kernel)), tm_10 (List.mem_of_getElem? (i := 238) (by decide +kernel)), tm_10 (List.mem_of_getElem? (i := 239) (by decide +kernel))⟩
def lw_privs_10 : List (MethodName × Nat) := [(⟨"PadConsoleModel", "fails", "(ZI)Z"⟩, 44), (⟨"PadConsoleModel", "isHeader", "(I)Z"⟩, 44), (⟨"PadConsoleModel", "bytesAt", "(II)I"⟩, 44), (⟨"PadConsoleModel", "tens", "(I)I"⟩, 44), (⟨"PadConsoleModel", "isStop", "(I)Z"⟩, 44), (⟨"PadConsoleModel", "once", "()V"⟩, 44), (⟨"PadConsoleModel", "answers", "()V"⟩, 44), (⟨"PadConsoleModel", "grows", "()V"⟩, 44), (⟨"PadConsoleModel", "call", "(I)V"⟩, 44), (⟨"PadConsoleModel", "push", "(I)V"⟩, 44), (⟨"PadConsoleModel", "write", "(II)V"⟩, 44), (⟨"PadConsoleModel", "isBattery", "(I)Z"⟩, 44), (⟨"PadConsoleModel", "batteryAt", "(I)I"⟩, 44), (⟨"PadConsoleModel", "asks", "()Z"⟩, 44), (⟨"PadConsoleModel", "bit", "(II)I"⟩, 44), (⟨"PadConsoleModel", "word", "(I)I"⟩, 44)]
theorem lw_r10 : ∀ q ∈ lw_privs_10, lw_okq q := List.forall_mem_cons.mpr ⟨lw_p144, List.forall_mem_cons.mpr ⟨lw_p145, List.forall_mem_cons.mpr ⟨lw_p146, List.forall_mem_cons.mpr ⟨lw_p147, List.forall_mem_cons.mpr ⟨lw_p148, List.forall_mem_cons.mpr ⟨lw_p149, List.forall_mem_cons.mpr ⟨lw_p150, List.forall_mem_cons.mpr ⟨lw_p151, List.forall_mem_cons.mpr ⟨lw_p152, List.forall_mem_cons.mpr ⟨lw_p153, List.forall_mem_cons.mpr ⟨lw_p154, List.forall_mem_cons.mpr ⟨lw_p155, List.forall_mem_cons.mpr ⟨lw_p156, List.forall_mem_cons.mpr ⟨lw_p157, List.forall_mem_cons.mpr ⟨lw_p158, List.forall_mem_cons.mpr ⟨lw_p159, fun _ h => absurd h List.not_mem_nil⟩⟩⟩⟩⟩⟩⟩⟩⟩⟩⟩⟩⟩⟩⟩⟩
theorem lw_p160 : lw_okq (⟨"PadConsoleModel", "read", "(I)I"⟩, 44) := ⟨⟨by decide +kernel, by decide +kernel⟩, tm_9 (List.mem_of_getElem? (i := 228) (by decide +kernel)), tm_11 (List.mem_of_getElem? (i := 2) (by decide +kernel)), tm_11 (List.mem_of_getElem? (i := 3) (by decide +kernel))⟩
theorem lw_p161 : lw_okq (⟨"PadConsoleModel", "ofBank", "(II)I"⟩, 44) := ⟨⟨by decide +kernel, by decide +kernel⟩, tm_9 (List.mem_of_getElem? (i := 228) (by decide +kernel)), tm_11 (List.mem_of_getElem? (i := 6) (by decide +kernel)), tm_11 (List.mem_of_getElem? (i := 7) (by decide +kernel))⟩
theorem lw_p162 : lw_okq (⟨"PadConsoleModel", "instruction", "()I"⟩, 44) := ⟨⟨by decide +kernel, by decide +kernel⟩, tm_9 (List.mem_of_getElem? (i := 228) (by decide +kernel)), tm_11 (List.mem_of_getElem? (i := 10) (by decide +kernel)), tm_11 (List.mem_of_getElem? (i := 11) (by decide +kernel))⟩
theorem lw_p163 : lw_okq (⟨"PadConsoleModel", "fetch", "()I"⟩, 44) := ⟨⟨by decide +kernel, by decide +kernel⟩, tm_9 (List.mem_of_getElem? (i := 228) (by decide +kernel)), tm_11 (List.mem_of_getElem? (i := 14) (by decide +kernel)), tm_11 (List.mem_of_getElem? (i := 15) (by decide +kernel))⟩
theorem lw_p164 : lw_okq (⟨"PadConsoleModel", "next", "()I"⟩, 44) := ⟨⟨by decide +kernel, by decide +kernel⟩, tm_9 (List.mem_of_getElem? (i := 228) (by decide +kernel)), tm_11 (List.mem_of_getElem? (i := 18) (by decide +kernel)), tm_11 (List.mem_of_getElem? (i := 19) (by decide +kernel))⟩
theorem lw_p165 : lw_okq (⟨"PadConsoleModel", "plain", "(I)I"⟩, 44) := ⟨⟨by decide +kernel, by decide +kernel⟩, tm_9 (List.mem_of_getElem? (i := 228) (by decide +kernel)), tm_11 (List.mem_of_getElem? (i := 22) (by decide +kernel)), tm_11 (List.mem_of_getElem? (i := 23) (by decide +kernel))⟩
theorem lw_p166 : lw_okq (⟨"PadConsoleModel", "zero", "(II)I"⟩, 44) := ⟨⟨by decide +kernel, by decide +kernel⟩, tm_9 (List.mem_of_getElem? (i := 228) (by decide +kernel)), tm_11 (List.mem_of_getElem? (i := 26) (by decide +kernel)), tm_11 (List.mem_of_getElem? (i := 27) (by decide +kernel))⟩
theorem lw_p167 : lw_okq (⟨"PadConsoleModel", "change", "(II)V"⟩, 44) := ⟨⟨by decide +kernel, by decide +kernel⟩, tm_9 (List.mem_of_getElem? (i := 228) (by decide +kernel)), tm_11 (List.mem_of_getElem? (i := 30) (by decide +kernel)), tm_11 (List.mem_of_getElem? (i := 31) (by decide +kernel))⟩
theorem lw_p168 : lw_okq (⟨"PadConsoleModel", "cc", "(I)Z"⟩, 44) := ⟨⟨by decide +kernel, by decide +kernel⟩, tm_9 (List.mem_of_getElem? (i := 228) (by decide +kernel)), tm_11 (List.mem_of_getElem? (i := 37) (by decide +kernel)), tm_11 (List.mem_of_getElem? (i := 38) (by decide +kernel))⟩
theorem lw_p169 : lw_okq (⟨"PadConsoleModel", "flag", "(I)I"⟩, 44) := ⟨⟨by decide +kernel, by decide +kernel⟩, tm_9 (List.mem_of_getElem? (i := 228) (by decide +kernel)), tm_11 (List.mem_of_getElem? (i := 41) (by decide +kernel)), tm_11 (List.mem_of_getElem? (i := 42) (by decide +kernel))⟩
theorem lw_p170 : lw_okq (⟨"PadConsoleModel", "jump", "(I)V"⟩, 44) := ⟨⟨by decide +kernel, by decide +kernel⟩, tm_9 (List.mem_of_getElem? (i := 228) (by decide +kernel)), tm_11 (List.mem_of_getElem? (i := 45) (by decide +kernel)), tm_11 (List.mem_of_getElem? (i := 46) (by decide +kernel))⟩
theorem lw_p171 : lw_okq (⟨"PadConsoleModel", "nextWord", "()I"⟩, 44) := ⟨⟨by decide +kernel, by decide +kernel⟩, tm_9 (List.mem_of_getElem? (i := 228) (by decide +kernel)), tm_11 (List.mem_of_getElem? (i := 49) (by decide +kernel)), tm_11 (List.mem_of_getElem? (i := 50) (by decide +kernel))⟩
theorem lw_p172 : lw_okq (⟨"PadConsoleModel", "rpTo", "(II)V"⟩, 44) := ⟨⟨by decide +kernel, by decide +kernel⟩, tm_9 (List.mem_of_getElem? (i := 228) (by decide +kernel)), tm_11 (List.mem_of_getElem? (i := 53) (by decide +kernel)), tm_11 (List.mem_of_getElem? (i := 54) (by decide +kernel))⟩
theorem lw_p173 : lw_okq (⟨"PadConsoleModel", "pairTo", "(II)V"⟩, 44) := ⟨⟨by decide +kernel, by decide +kernel⟩, tm_9 (List.mem_of_getElem? (i := 228) (by decide +kernel)), tm_11 (List.mem_of_getElem? (i := 57) (by decide +kernel)), tm_11 (List.mem_of_getElem? (i := 58) (by decide +kernel))⟩
theorem lw_p174 : lw_okq (⟨"PadConsoleModel", "hlTo", "(I)V"⟩, 44) := ⟨⟨by decide +kernel, by decide +kernel⟩, tm_9 (List.mem_of_getElem? (i := 228) (by decide +kernel)), tm_11 (List.mem_of_getElem? (i := 61) (by decide +kernel)), tm_11 (List.mem_of_getElem? (i := 62) (by decide +kernel))⟩
theorem lw_p175 : lw_okq (⟨"PadConsoleModel", "hl", "()I"⟩, 44) := ⟨⟨by decide +kernel, by decide +kernel⟩, tm_9 (List.mem_of_getElem? (i := 228) (by decide +kernel)), tm_11 (List.mem_of_getElem? (i := 65) (by decide +kernel)), tm_11 (List.mem_of_getElem? (i := 66) (by decide +kernel))⟩
def lw_privs_11 : List (MethodName × Nat) := [(⟨"PadConsoleModel", "read", "(I)I"⟩, 44), (⟨"PadConsoleModel", "ofBank", "(II)I"⟩, 44), (⟨"PadConsoleModel", "instruction", "()I"⟩, 44), (⟨"PadConsoleModel", "fetch", "()I"⟩, 44), (⟨"PadConsoleModel", "next", "()I"⟩, 44), (⟨"PadConsoleModel", "plain", "(I)I"⟩, 44), (⟨"PadConsoleModel", "zero", "(II)I"⟩, 44), (⟨"PadConsoleModel", "change", "(II)V"⟩, 44), (⟨"PadConsoleModel", "cc", "(I)Z"⟩, 44), (⟨"PadConsoleModel", "flag", "(I)I"⟩, 44), (⟨"PadConsoleModel", "jump", "(I)V"⟩, 44), (⟨"PadConsoleModel", "nextWord", "()I"⟩, 44), (⟨"PadConsoleModel", "rpTo", "(II)V"⟩, 44), (⟨"PadConsoleModel", "pairTo", "(II)V"⟩, 44), (⟨"PadConsoleModel", "hlTo", "(I)V"⟩, 44), (⟨"PadConsoleModel", "hl", "()I"⟩, 44)]
theorem lw_r11 : ∀ q ∈ lw_privs_11, lw_okq q := List.forall_mem_cons.mpr ⟨lw_p160, List.forall_mem_cons.mpr ⟨lw_p161, List.forall_mem_cons.mpr ⟨lw_p162, List.forall_mem_cons.mpr ⟨lw_p163, List.forall_mem_cons.mpr ⟨lw_p164, List.forall_mem_cons.mpr ⟨lw_p165, List.forall_mem_cons.mpr ⟨lw_p166, List.forall_mem_cons.mpr ⟨lw_p167, List.forall_mem_cons.mpr ⟨lw_p168, List.forall_mem_cons.mpr ⟨lw_p169, List.forall_mem_cons.mpr ⟨lw_p170, List.forall_mem_cons.mpr ⟨lw_p171, List.forall_mem_cons.mpr ⟨lw_p172, List.forall_mem_cons.mpr ⟨lw_p173, List.forall_mem_cons.mpr ⟨lw_p174, List.forall_mem_cons.mpr ⟨lw_p175, fun _ h => absurd h List.not_mem_nil⟩⟩⟩⟩⟩⟩⟩⟩⟩⟩⟩⟩⟩⟩⟩⟩
theorem lw_p176 : lw_okq (⟨"PadConsoleModel", "pair", "(I)I"⟩, 44) := ⟨⟨by decide +kernel, by decide +kernel⟩, tm_9 (List.mem_of_getElem? (i := 228) (by decide +kernel)), tm_11 (List.mem_of_getElem? (i := 69) (by decide +kernel)), tm_11 (List.mem_of_getElem? (i := 70) (by decide +kernel))⟩
theorem lw_p177 : lw_okq (⟨"PadConsoleModel", "rp", "(I)I"⟩, 44) := ⟨⟨by decide +kernel, by decide +kernel⟩, tm_9 (List.mem_of_getElem? (i := 228) (by decide +kernel)), tm_11 (List.mem_of_getElem? (i := 73) (by decide +kernel)), tm_11 (List.mem_of_getElem? (i := 74) (by decide +kernel))⟩
theorem lw_p178 : lw_okq (⟨"PadConsoleModel", "put", "(IZ)V"⟩, 44) := ⟨⟨by decide +kernel, by decide +kernel⟩, tm_9 (List.mem_of_getElem? (i := 228) (by decide +kernel)), tm_11 (List.mem_of_getElem? (i := 77) (by decide +kernel)), tm_11 (List.mem_of_getElem? (i := 78) (by decide +kernel))⟩
theorem lw_p179 : lw_okq (⟨"PadConsoleModel", "xy", "(I)V"⟩, 44) := ⟨⟨by decide +kernel, by decide +kernel⟩, tm_9 (List.mem_of_getElem? (i := 228) (by decide +kernel)), tm_11 (List.mem_of_getElem? (i := 81) (by decide +kernel)), tm_11 (List.mem_of_getElem? (i := 82) (by decide +kernel))⟩
theorem lw_p180 : lw_okq (⟨"PadConsoleModel", "moves", "(IZ)I"⟩, 44) := ⟨⟨by decide +kernel, by decide +kernel⟩, tm_9 (List.mem_of_getElem? (i := 228) (by decide +kernel)), tm_11 (List.mem_of_getElem? (i := 85) (by decide +kernel)), tm_11 (List.mem_of_getElem? (i := 86) (by decide +kernel))⟩
theorem lw_p181 : lw_okq (⟨"PadConsoleModel", "wordTo", "(II)V"⟩, 44) := ⟨⟨by decide +kernel, by decide +kernel⟩, tm_9 (List.mem_of_getElem? (i := 228) (by decide +kernel)), tm_11 (List.mem_of_getElem? (i := 89) (by decide +kernel)), tm_11 (List.mem_of_getElem? (i := 90) (by decide +kernel))⟩
theorem lw_p182 : lw_okq (⟨"PadConsoleModel", "singles", "(II)I"⟩, 44) := ⟨⟨by decide +kernel, by decide +kernel⟩, tm_9 (List.mem_of_getElem? (i := 228) (by decide +kernel)), tm_11 (List.mem_of_getElem? (i := 93) (by decide +kernel)), tm_11 (List.mem_of_getElem? (i := 94) (by decide +kernel))⟩
theorem lw_p183 : lw_okq (⟨"PadConsoleModel", "rTo", "(II)V"⟩, 44) := ⟨⟨by decide +kernel, by decide +kernel⟩, tm_9 (List.mem_of_getElem? (i := 228) (by decide +kernel)), tm_11 (List.mem_of_getElem? (i := 97) (by decide +kernel)), tm_11 (List.mem_of_getElem? (i := 98) (by decide +kernel))⟩
theorem lw_p184 : lw_okq (⟨"PadConsoleModel", "m", "()I"⟩, 44) := ⟨⟨by decide +kernel, by decide +kernel⟩, tm_9 (List.mem_of_getElem? (i := 228) (by decide +kernel)), tm_11 (List.mem_of_getElem? (i := 101) (by decide +kernel)), tm_11 (List.mem_of_getElem? (i := 102) (by decide +kernel))⟩
theorem lw_p185 : lw_okq (⟨"PadConsoleModel", "\x72", "(I)I"⟩, 44) := ⟨⟨by decide +kernel, by decide +kernel⟩, tm_9 (List.mem_of_getElem? (i := 228) (by decide +kernel)), tm_11 (List.mem_of_getElem? (i := 106) (by decide +kernel)), tm_11 (List.mem_of_getElem? (i := 107) (by decide +kernel))⟩
theorem lw_p186 : lw_okq (⟨"PadConsoleModel", "by", "(I)V"⟩, 44) := ⟨⟨by decide +kernel, by decide +kernel⟩, tm_9 (List.mem_of_getElem? (i := 228) (by decide +kernel)), tm_11 (List.mem_of_getElem? (i := 110) (by decide +kernel)), tm_11 (List.mem_of_getElem? (i := 111) (by decide +kernel))⟩
theorem lw_p187 : lw_okq (⟨"PadConsoleModel", "turned", "(II)I"⟩, 44) := ⟨⟨by decide +kernel, by decide +kernel⟩, tm_9 (List.mem_of_getElem? (i := 228) (by decide +kernel)), tm_11 (List.mem_of_getElem? (i := 114) (by decide +kernel)), tm_11 (List.mem_of_getElem? (i := 115) (by decide +kernel))⟩
theorem lw_p188 : lw_okq (⟨"PadConsoleModel", "adjusts", "()V"⟩, 44) := ⟨⟨by decide +kernel, by decide +kernel⟩, tm_9 (List.mem_of_getElem? (i := 228) (by decide +kernel)), tm_11 (List.mem_of_getElem? (i := 118) (by decide +kernel)), tm_11 (List.mem_of_getElem? (i := 119) (by decide +kernel))⟩
theorem lw_p189 : lw_okq (⟨"PadConsoleModel", "does", "(II)V"⟩, 44) := ⟨⟨by decide +kernel, by decide +kernel⟩, tm_9 (List.mem_of_getElem? (i := 228) (by decide +kernel)), tm_11 (List.mem_of_getElem? (i := 125) (by decide +kernel)), tm_11 (List.mem_of_getElem? (i := 126) (by decide +kernel))⟩
theorem lw_p190 : lw_okq (⟨"PadConsoleModel", "three", "(II)I"⟩, 44) := ⟨⟨by decide +kernel, by decide +kernel⟩, tm_9 (List.mem_of_getElem? (i := 228) (by decide +kernel)), tm_11 (List.mem_of_getElem? (i := 129) (by decide +kernel)), tm_11 (List.mem_of_getElem? (i := 130) (by decide +kernel))⟩
theorem lw_p191 : lw_okq (⟨"PadConsoleModel", "pop", "()I"⟩, 44) := ⟨⟨by decide +kernel, by decide +kernel⟩, tm_9 (List.mem_of_getElem? (i := 228) (by decide +kernel)), tm_11 (List.mem_of_getElem? (i := 133) (by decide +kernel)), tm_11 (List.mem_of_getElem? (i := 134) (by decide +kernel))⟩
def lw_privs_12 : List (MethodName × Nat) := [(⟨"PadConsoleModel", "pair", "(I)I"⟩, 44), (⟨"PadConsoleModel", "rp", "(I)I"⟩, 44), (⟨"PadConsoleModel", "put", "(IZ)V"⟩, 44), (⟨"PadConsoleModel", "xy", "(I)V"⟩, 44), (⟨"PadConsoleModel", "moves", "(IZ)I"⟩, 44), (⟨"PadConsoleModel", "wordTo", "(II)V"⟩, 44), (⟨"PadConsoleModel", "singles", "(II)I"⟩, 44), (⟨"PadConsoleModel", "rTo", "(II)V"⟩, 44), (⟨"PadConsoleModel", "m", "()I"⟩, 44), (⟨"PadConsoleModel", "\x72", "(I)I"⟩, 44), (⟨"PadConsoleModel", "by", "(I)V"⟩, 44), (⟨"PadConsoleModel", "turned", "(II)I"⟩, 44), (⟨"PadConsoleModel", "adjusts", "()V"⟩, 44), (⟨"PadConsoleModel", "does", "(II)V"⟩, 44), (⟨"PadConsoleModel", "three", "(II)I"⟩, 44), (⟨"PadConsoleModel", "pop", "()I"⟩, 44)]
theorem lw_r12 : ∀ q ∈ lw_privs_12, lw_okq q := List.forall_mem_cons.mpr ⟨lw_p176, List.forall_mem_cons.mpr ⟨lw_p177, List.forall_mem_cons.mpr ⟨lw_p178, List.forall_mem_cons.mpr ⟨lw_p179, List.forall_mem_cons.mpr ⟨lw_p180, List.forall_mem_cons.mpr ⟨lw_p181, List.forall_mem_cons.mpr ⟨lw_p182, List.forall_mem_cons.mpr ⟨lw_p183, List.forall_mem_cons.mpr ⟨lw_p184, List.forall_mem_cons.mpr ⟨lw_p185, List.forall_mem_cons.mpr ⟨lw_p186, List.forall_mem_cons.mpr ⟨lw_p187, List.forall_mem_cons.mpr ⟨lw_p188, List.forall_mem_cons.mpr ⟨lw_p189, List.forall_mem_cons.mpr ⟨lw_p190, List.forall_mem_cons.mpr ⟨lw_p191, fun _ h => absurd h List.not_mem_nil⟩⟩⟩⟩⟩⟩⟩⟩⟩⟩⟩⟩⟩⟩⟩⟩
theorem lw_p192 : lw_okq (⟨"PadConsoleModel", "turns", "()I"⟩, 44) := ⟨⟨by decide +kernel, by decide +kernel⟩, tm_9 (List.mem_of_getElem? (i := 228) (by decide +kernel)), tm_11 (List.mem_of_getElem? (i := 137) (by decide +kernel)), tm_11 (List.mem_of_getElem? (i := 138) (by decide +kernel))⟩
theorem lw_p193 : lw_okq (⟨"PadConsoleModel", "turn", "(I)I"⟩, 44) := ⟨⟨by decide +kernel, by decide +kernel⟩, tm_9 (List.mem_of_getElem? (i := 228) (by decide +kernel)), tm_11 (List.mem_of_getElem? (i := 141) (by decide +kernel)), tm_11 (List.mem_of_getElem? (i := 142) (by decide +kernel))⟩
theorem lw_p194 : lw_okq (⟨"PadConsoleModel", "portTo", "(II)V"⟩, 44) := ⟨⟨by decide +kernel, by decide +kernel⟩, tm_9 (List.mem_of_getElem? (i := 228) (by decide +kernel)), tm_11 (List.mem_of_getElem? (i := 145) (by decide +kernel)), tm_11 (List.mem_of_getElem? (i := 146) (by decide +kernel))⟩
theorem lw_p195 : lw_okq (⟨"PadConsoleModel", "lineAt", "(I)I"⟩, 44) := ⟨⟨by decide +kernel, by decide +kernel⟩, tm_9 (List.mem_of_getElem? (i := 228) (by decide +kernel)), tm_11 (List.mem_of_getElem? (i := 149) (by decide +kernel)), tm_11 (List.mem_of_getElem? (i := 150) (by decide +kernel))⟩
theorem lw_p196 : lw_okq (⟨"PadConsoleModel", "hCount", "()I"⟩, 44) := ⟨⟨by decide +kernel, by decide +kernel⟩, tm_9 (List.mem_of_getElem? (i := 228) (by decide +kernel)), tm_11 (List.mem_of_getElem? (i := 153) (by decide +kernel)), tm_11 (List.mem_of_getElem? (i := 154) (by decide +kernel))⟩
theorem lw_p197 : lw_okq (⟨"PadConsoleModel", "noise", "(I)V"⟩, 44) := ⟨⟨by decide +kernel, by decide +kernel⟩, tm_9 (List.mem_of_getElem? (i := 228) (by decide +kernel)), tm_11 (List.mem_of_getElem? (i := 157) (by decide +kernel)), tm_11 (List.mem_of_getElem? (i := 158) (by decide +kernel))⟩
theorem lw_p198 : lw_okq (⟨"PadConsoleModel", "control", "(I)V"⟩, 44) := ⟨⟨by decide +kernel, by decide +kernel⟩, tm_9 (List.mem_of_getElem? (i := 228) (by decide +kernel)), tm_11 (List.mem_of_getElem? (i := 161) (by decide +kernel)), tm_11 (List.mem_of_getElem? (i := 162) (by decide +kernel))⟩
theorem lw_p199 : lw_okq (⟨"PadConsoleModel", "video8", "(I)I"⟩, 44) := ⟨⟨by decide +kernel, by decide +kernel⟩, tm_9 (List.mem_of_getElem? (i := 228) (by decide +kernel)), tm_11 (List.mem_of_getElem? (i := 165) (by decide +kernel)), tm_11 (List.mem_of_getElem? (i := 166) (by decide +kernel))⟩
theorem lw_p200 : lw_okq (⟨"PadConsoleModel", "further", "()V"⟩, 44) := ⟨⟨by decide +kernel, by decide +kernel⟩, tm_9 (List.mem_of_getElem? (i := 228) (by decide +kernel)), tm_11 (List.mem_of_getElem? (i := 169) (by decide +kernel)), tm_11 (List.mem_of_getElem? (i := 170) (by decide +kernel))⟩
theorem lw_p201 : lw_okq (⟨"PadConsoleModel", "dataTo", "(I)V"⟩, 44) := ⟨⟨by decide +kernel, by decide +kernel⟩, tm_9 (List.mem_of_getElem? (i := 228) (by decide +kernel)), tm_11 (List.mem_of_getElem? (i := 173) (by decide +kernel)), tm_11 (List.mem_of_getElem? (i := 174) (by decide +kernel))⟩
theorem lw_p202 : lw_okq (⟨"PadConsoleModel", "port", "(I)I"⟩, 44) := ⟨⟨by decide +kernel, by decide +kernel⟩, tm_9 (List.mem_of_getElem? (i := 228) (by decide +kernel)), tm_11 (List.mem_of_getElem? (i := 177) (by decide +kernel)), tm_11 (List.mem_of_getElem? (i := 178) (by decide +kernel))⟩
theorem lw_p203 : lw_okq (⟨"PadConsoleModel", "vCount", "()I"⟩, 44) := ⟨⟨by decide +kernel, by decide +kernel⟩, tm_9 (List.mem_of_getElem? (i := 228) (by decide +kernel)), tm_11 (List.mem_of_getElem? (i := 181) (by decide +kernel)), tm_11 (List.mem_of_getElem? (i := 182) (by decide +kernel))⟩
theorem lw_p204 : lw_okq (⟨"PadConsoleModel", "height", "()I"⟩, 44) := ⟨⟨by decide +kernel, by decide +kernel⟩, tm_9 (List.mem_of_getElem? (i := 228) (by decide +kernel)), tm_11 (List.mem_of_getElem? (i := 185) (by decide +kernel)), tm_11 (List.mem_of_getElem? (i := 186) (by decide +kernel))⟩
theorem lw_p205 : lw_okq (⟨"PadConsoleModel", "mode", "()I"⟩, 44) := ⟨⟨by decide +kernel, by decide +kernel⟩, tm_9 (List.mem_of_getElem? (i := 228) (by decide +kernel)), tm_11 (List.mem_of_getElem? (i := 189) (by decide +kernel)), tm_11 (List.mem_of_getElem? (i := 190) (by decide +kernel))⟩
theorem lw_p206 : lw_okq (⟨"PadConsoleModel", "status", "()I"⟩, 44) := ⟨⟨by decide +kernel, by decide +kernel⟩, tm_9 (List.mem_of_getElem? (i := 228) (by decide +kernel)), tm_11 (List.mem_of_getElem? (i := 193) (by decide +kernel)), tm_11 (List.mem_of_getElem? (i := 194) (by decide +kernel))⟩
theorem lw_p207 : lw_okq (⟨"PadConsoleModel", "data", "()I"⟩, 44) := ⟨⟨by decide +kernel, by decide +kernel⟩, tm_9 (List.mem_of_getElem? (i := 228) (by decide +kernel)), tm_11 (List.mem_of_getElem? (i := 197) (by decide +kernel)), tm_11 (List.mem_of_getElem? (i := 198) (by decide +kernel))⟩
def lw_privs_13 : List (MethodName × Nat) := [(⟨"PadConsoleModel", "turns", "()I"⟩, 44), (⟨"PadConsoleModel", "turn", "(I)I"⟩, 44), (⟨"PadConsoleModel", "portTo", "(II)V"⟩, 44), (⟨"PadConsoleModel", "lineAt", "(I)I"⟩, 44), (⟨"PadConsoleModel", "hCount", "()I"⟩, 44), (⟨"PadConsoleModel", "noise", "(I)V"⟩, 44), (⟨"PadConsoleModel", "control", "(I)V"⟩, 44), (⟨"PadConsoleModel", "video8", "(I)I"⟩, 44), (⟨"PadConsoleModel", "further", "()V"⟩, 44), (⟨"PadConsoleModel", "dataTo", "(I)V"⟩, 44), (⟨"PadConsoleModel", "port", "(I)I"⟩, 44), (⟨"PadConsoleModel", "vCount", "()I"⟩, 44), (⟨"PadConsoleModel", "height", "()I"⟩, 44), (⟨"PadConsoleModel", "mode", "()I"⟩, 44), (⟨"PadConsoleModel", "status", "()I"⟩, 44), (⟨"PadConsoleModel", "data", "()I"⟩, 44)]
theorem lw_r13 : ∀ q ∈ lw_privs_13, lw_okq q := List.forall_mem_cons.mpr ⟨lw_p192, List.forall_mem_cons.mpr ⟨lw_p193, List.forall_mem_cons.mpr ⟨lw_p194, List.forall_mem_cons.mpr ⟨lw_p195, List.forall_mem_cons.mpr ⟨lw_p196, List.forall_mem_cons.mpr ⟨lw_p197, List.forall_mem_cons.mpr ⟨lw_p198, List.forall_mem_cons.mpr ⟨lw_p199, List.forall_mem_cons.mpr ⟨lw_p200, List.forall_mem_cons.mpr ⟨lw_p201, List.forall_mem_cons.mpr ⟨lw_p202, List.forall_mem_cons.mpr ⟨lw_p203, List.forall_mem_cons.mpr ⟨lw_p204, List.forall_mem_cons.mpr ⟨lw_p205, List.forall_mem_cons.mpr ⟨lw_p206, List.forall_mem_cons.mpr ⟨lw_p207, fun _ h => absurd h List.not_mem_nil⟩⟩⟩⟩⟩⟩⟩⟩⟩⟩⟩⟩⟩⟩⟩⟩
theorem lw_p208 : lw_okq (⟨"PadConsoleModel", "without", "(III)I"⟩, 44) := ⟨⟨by decide +kernel, by decide +kernel⟩, tm_9 (List.mem_of_getElem? (i := 228) (by decide +kernel)), tm_11 (List.mem_of_getElem? (i := 201) (by decide +kernel)), tm_11 (List.mem_of_getElem? (i := 202) (by decide +kernel))⟩
theorem lw_p209 : lw_okq (⟨"PadConsoleModel", "more3", "(II)I"⟩, 44) := ⟨⟨by decide +kernel, by decide +kernel⟩, tm_9 (List.mem_of_getElem? (i := 228) (by decide +kernel)), tm_11 (List.mem_of_getElem? (i := 205) (by decide +kernel)), tm_11 (List.mem_of_getElem? (i := 206) (by decide +kernel))⟩
theorem lw_p210 : lw_okq (⟨"PadConsoleModel", "more", "(I)I"⟩, 44) := ⟨⟨by decide +kernel, by decide +kernel⟩, tm_9 (List.mem_of_getElem? (i := 228) (by decide +kernel)), tm_11 (List.mem_of_getElem? (i := 209) (by decide +kernel)), tm_11 (List.mem_of_getElem? (i := 210) (by decide +kernel))⟩
theorem lw_p211 : lw_okq (⟨"PadConsoleModel", "blocks", "(II)I"⟩, 44) := ⟨⟨by decide +kernel, by decide +kernel⟩, tm_9 (List.mem_of_getElem? (i := 228) (by decide +kernel)), tm_11 (List.mem_of_getElem? (i := 213) (by decide +kernel)), tm_11 (List.mem_of_getElem? (i := 214) (by decide +kernel))⟩
theorem lw_p212 : lw_okq (⟨"PadConsoleModel", "words", "(IZ)V"⟩, 44) := ⟨⟨by decide +kernel, by decide +kernel⟩, tm_9 (List.mem_of_getElem? (i := 228) (by decide +kernel)), tm_11 (List.mem_of_getElem? (i := 217) (by decide +kernel)), tm_11 (List.mem_of_getElem? (i := 218) (by decide +kernel))⟩
theorem lw_p213 : lw_okq (⟨"PadConsoleModel", "specials", "(I)I"⟩, 44) := ⟨⟨by decide +kernel, by decide +kernel⟩, tm_9 (List.mem_of_getElem? (i := 228) (by decide +kernel)), tm_11 (List.mem_of_getElem? (i := 221) (by decide +kernel)), tm_11 (List.mem_of_getElem? (i := 222) (by decide +kernel))⟩
theorem lw_p214 : lw_okq (⟨"PadConsoleModel", "prefixed", "(I)I"⟩, 44) := ⟨⟨by decide +kernel, by decide +kernel⟩, tm_9 (List.mem_of_getElem? (i := 228) (by decide +kernel)), tm_11 (List.mem_of_getElem? (i := 225) (by decide +kernel)), tm_11 (List.mem_of_getElem? (i := 226) (by decide +kernel))⟩
theorem lw_p215 : lw_okq (⟨"PadConsoleModel", "ends", "()V"⟩, 44) := ⟨⟨by decide +kernel, by decide +kernel⟩, tm_9 (List.mem_of_getElem? (i := 228) (by decide +kernel)), tm_11 (List.mem_of_getElem? (i := 229) (by decide +kernel)), tm_11 (List.mem_of_getElem? (i := 230) (by decide +kernel))⟩
theorem lw_p216 : lw_okq (⟨"PadConsoleModel", "draws", "(I)V"⟩, 44) := ⟨⟨by decide +kernel, by decide +kernel⟩, tm_9 (List.mem_of_getElem? (i := 228) (by decide +kernel)), tm_11 (List.mem_of_getElem? (i := 233) (by decide +kernel)), tm_11 (List.mem_of_getElem? (i := 234) (by decide +kernel))⟩
theorem lw_p217 : lw_okq (⟨"PadConsoleModel", "reg", "(I)I"⟩, 44) := ⟨⟨by decide +kernel, by decide +kernel⟩, tm_9 (List.mem_of_getElem? (i := 228) (by decide +kernel)), tm_11 (List.mem_of_getElem? (i := 237) (by decide +kernel)), tm_11 (List.mem_of_getElem? (i := 238) (by decide +kernel))⟩
theorem lw_p218 : lw_okq (⟨"PadConsoleModel", "tile", "(II)V"⟩, 44) := ⟨⟨by decide +kernel, by decide +kernel⟩, tm_9 (List.mem_of_getElem? (i := 228) (by decide +kernel)), tm_12 (List.mem_of_getElem? (i := 1) (by decide +kernel)), tm_12 (List.mem_of_getElem? (i := 2) (by decide +kernel))⟩
theorem lw_p219 : lw_okq (⟨"PadConsoleModel", "tileDot", "(III)I"⟩, 44) := ⟨⟨by decide +kernel, by decide +kernel⟩, tm_9 (List.mem_of_getElem? (i := 228) (by decide +kernel)), tm_12 (List.mem_of_getElem? (i := 5) (by decide +kernel)), tm_12 (List.mem_of_getElem? (i := 6) (by decide +kernel))⟩
theorem lw_p220 : lw_okq (⟨"PadConsoleModel", "sprites", "(I)V"⟩, 44) := ⟨⟨by decide +kernel, by decide +kernel⟩, tm_9 (List.mem_of_getElem? (i := 228) (by decide +kernel)), tm_12 (List.mem_of_getElem? (i := 9) (by decide +kernel)), tm_12 (List.mem_of_getElem? (i := 10) (by decide +kernel))⟩
theorem lw_p221 : lw_okq (⟨"PadConsoleModel", "old", "(II)I"⟩, 44) := ⟨⟨by decide +kernel, by decide +kernel⟩, tm_9 (List.mem_of_getElem? (i := 228) (by decide +kernel)), tm_12 (List.mem_of_getElem? (i := 13) (by decide +kernel)), tm_12 (List.mem_of_getElem? (i := 14) (by decide +kernel))⟩
theorem lw_p222 : lw_okq (⟨"PadConsoleModel", "oldSprites", "(I)V"⟩, 44) := ⟨⟨by decide +kernel, by decide +kernel⟩, tm_9 (List.mem_of_getElem? (i := 228) (by decide +kernel)), tm_12 (List.mem_of_getElem? (i := 17) (by decide +kernel)), tm_12 (List.mem_of_getElem? (i := 18) (by decide +kernel))⟩
theorem lw_p223 : lw_okq (⟨"PadConsoleModel", "colour", "(I)I"⟩, 44) := ⟨⟨by decide +kernel, by decide +kernel⟩, tm_9 (List.mem_of_getElem? (i := 228) (by decide +kernel)), tm_12 (List.mem_of_getElem? (i := 21) (by decide +kernel)), tm_12 (List.mem_of_getElem? (i := 22) (by decide +kernel))⟩
def lw_privs_14 : List (MethodName × Nat) := [(⟨"PadConsoleModel", "without", "(III)I"⟩, 44), (⟨"PadConsoleModel", "more3", "(II)I"⟩, 44), (⟨"PadConsoleModel", "more", "(I)I"⟩, 44), (⟨"PadConsoleModel", "blocks", "(II)I"⟩, 44), (⟨"PadConsoleModel", "words", "(IZ)V"⟩, 44), (⟨"PadConsoleModel", "specials", "(I)I"⟩, 44), (⟨"PadConsoleModel", "prefixed", "(I)I"⟩, 44), (⟨"PadConsoleModel", "ends", "()V"⟩, 44), (⟨"PadConsoleModel", "draws", "(I)V"⟩, 44), (⟨"PadConsoleModel", "reg", "(I)I"⟩, 44), (⟨"PadConsoleModel", "tile", "(II)V"⟩, 44), (⟨"PadConsoleModel", "tileDot", "(III)I"⟩, 44), (⟨"PadConsoleModel", "sprites", "(I)V"⟩, 44), (⟨"PadConsoleModel", "old", "(II)I"⟩, 44), (⟨"PadConsoleModel", "oldSprites", "(I)V"⟩, 44), (⟨"PadConsoleModel", "colour", "(I)I"⟩, 44)]
theorem lw_r14 : ∀ q ∈ lw_privs_14, lw_okq q := List.forall_mem_cons.mpr ⟨lw_p208, List.forall_mem_cons.mpr ⟨lw_p209, List.forall_mem_cons.mpr ⟨lw_p210, List.forall_mem_cons.mpr ⟨lw_p211, List.forall_mem_cons.mpr ⟨lw_p212, List.forall_mem_cons.mpr ⟨lw_p213, List.forall_mem_cons.mpr ⟨lw_p214, List.forall_mem_cons.mpr ⟨lw_p215, List.forall_mem_cons.mpr ⟨lw_p216, List.forall_mem_cons.mpr ⟨lw_p217, List.forall_mem_cons.mpr ⟨lw_p218, List.forall_mem_cons.mpr ⟨lw_p219, List.forall_mem_cons.mpr ⟨lw_p220, List.forall_mem_cons.mpr ⟨lw_p221, List.forall_mem_cons.mpr ⟨lw_p222, List.forall_mem_cons.mpr ⟨lw_p223, fun _ h => absurd h List.not_mem_nil⟩⟩⟩⟩⟩⟩⟩⟩⟩⟩⟩⟩⟩⟩⟩⟩
theorem lw_p224 : lw_okq (⟨"PadConsoleModel", "planned", "()V"⟩, 44) := ⟨⟨by decide +kernel, by decide +kernel⟩, tm_9 (List.mem_of_getElem? (i := 228) (by decide +kernel)), tm_12 (List.mem_of_getElem? (i := 25) (by decide +kernel)), tm_12 (List.mem_of_getElem? (i := 26) (by decide +kernel))⟩
theorem lw_p225 : lw_okq (⟨"PadConsoleModel", "sample", "()V"⟩, 44) := ⟨⟨by decide +kernel, by decide +kernel⟩, tm_9 (List.mem_of_getElem? (i := 228) (by decide +kernel)), tm_12 (List.mem_of_getElem? (i := 30) (by decide +kernel)), tm_12 (List.mem_of_getElem? (i := 31) (by decide +kernel))⟩
theorem lw_p226 : lw_okq (⟨"PadConsoleModel", "waves", "()V"⟩, 44) := ⟨⟨by decide +kernel, by decide +kernel⟩, tm_9 (List.mem_of_getElem? (i := 228) (by decide +kernel)), tm_12 (List.mem_of_getElem? (i := 39) (by decide +kernel)), tm_12 (List.mem_of_getElem? (i := 40) (by decide +kernel))⟩
theorem lw_p227 : lw_okq (⟨"PadConsoleModel", "operator", "(II)V"⟩, 44) := ⟨⟨by decide +kernel, by decide +kernel⟩, tm_9 (List.mem_of_getElem? (i := 228) (by decide +kernel)), tm_12 (List.mem_of_getElem? (i := 43) (by decide +kernel)), tm_12 (List.mem_of_getElem? (i := 44) (by decide +kernel))⟩
theorem lw_p228 : lw_okq (⟨"PadConsoleModel", "isOn", "(II)I"⟩, 44) := ⟨⟨by decide +kernel, by decide +kernel⟩, tm_9 (List.mem_of_getElem? (i := 228) (by decide +kernel)), tm_12 (List.mem_of_getElem? (i := 47) (by decide +kernel)), tm_12 (List.mem_of_getElem? (i := 48) (by decide +kernel))⟩
theorem lw_p229 : lw_okq (⟨"PadConsoleModel", "wreg", "(I)I"⟩, 44) := ⟨⟨by decide +kernel, by decide +kernel⟩, tm_9 (List.mem_of_getElem? (i := 228) (by decide +kernel)), tm_12 (List.mem_of_getElem? (i := 51) (by decide +kernel)), tm_12 (List.mem_of_getElem? (i := 52) (by decide +kernel))⟩
theorem lw_p230 : lw_okq (⟨"PadConsoleModel", "isRhythm", "(I)Z"⟩, 44) := ⟨⟨by decide +kernel, by decide +kernel⟩, tm_9 (List.mem_of_getElem? (i := 228) (by decide +kernel)), tm_12 (List.mem_of_getElem? (i := 55) (by decide +kernel)), tm_12 (List.mem_of_getElem? (i := 56) (by decide +kernel))⟩
theorem lw_p231 : lw_okq (⟨"PadConsoleModel", "envelope", "(III)V"⟩, 44) := ⟨⟨by decide +kernel, by decide +kernel⟩, tm_9 (List.mem_of_getElem? (i := 228) (by decide +kernel)), tm_12 (List.mem_of_getElem? (i := 59) (by decide +kernel)), tm_12 (List.mem_of_getElem? (i := 60) (by decide +kernel))⟩
theorem lw_p232 : lw_okq (⟨"PadConsoleModel", "rate", "(III)I"⟩, 44) := ⟨⟨by decide +kernel, by decide +kernel⟩, tm_9 (List.mem_of_getElem? (i := 228) (by decide +kernel)), tm_12 (List.mem_of_getElem? (i := 63) (by decide +kernel)), tm_12 (List.mem_of_getElem? (i := 64) (by decide +kernel))⟩
theorem lw_p233 : lw_okq (⟨"PadConsoleModel", "patchByte", "(II)I"⟩, 44) := ⟨⟨by decide +kernel, by decide +kernel⟩, tm_9 (List.mem_of_getElem? (i := 228) (by decide +kernel)), tm_12 (List.mem_of_getElem? (i := 67) (by decide +kernel)), tm_12 (List.mem_of_getElem? (i := 68) (by decide +kernel))⟩
theorem lw_p234 : lw_okq (⟨"PadConsoleModel", "block", "(I)I"⟩, 44) := ⟨⟨by decide +kernel, by decide +kernel⟩, tm_9 (List.mem_of_getElem? (i := 228) (by decide +kernel)), tm_12 (List.mem_of_getElem? (i := 76) (by decide +kernel)), tm_12 (List.mem_of_getElem? (i := 77) (by decide +kernel))⟩
theorem lw_p235 : lw_okq (⟨"PadConsoleModel", "f", "(I)I"⟩, 44) := ⟨⟨by decide +kernel, by decide +kernel⟩, tm_9 (List.mem_of_getElem? (i := 228) (by decide +kernel)), tm_12 (List.mem_of_getElem? (i := 80) (by decide +kernel)), tm_12 (List.mem_of_getElem? (i := 81) (by decide +kernel))⟩
theorem lw_p236 : lw_okq (⟨"PadConsoleModel", "phase", "(III)V"⟩, 44) := ⟨⟨by decide +kernel, by decide +kernel⟩, tm_9 (List.mem_of_getElem? (i := 228) (by decide +kernel)), tm_12 (List.mem_of_getElem? (i := 90) (by decide +kernel)), tm_12 (List.mem_of_getElem? (i := 91) (by decide +kernel))⟩
theorem lw_p237 : lw_okq (⟨"PadConsoleModel", "drum", "(III)I"⟩, 44) := ⟨⟨by decide +kernel, by decide +kernel⟩, tm_9 (List.mem_of_getElem? (i := 228) (by decide +kernel)), tm_12 (List.mem_of_getElem? (i := 96) (by decide +kernel)), tm_12 (List.mem_of_getElem? (i := 97) (by decide +kernel))⟩
theorem lw_p238 : lw_okq (⟨"PadConsoleModel", "waveAt", "(IIII)I"⟩, 44) := ⟨⟨by decide +kernel, by decide +kernel⟩, tm_9 (List.mem_of_getElem? (i := 228) (by decide +kernel)), tm_12 (List.mem_of_getElem? (i := 100) (by decide +kernel)), tm_12 (List.mem_of_getElem? (i := 101) (by decide +kernel))⟩
theorem lw_p239 : lw_okq (⟨"PadConsoleModel", "mixed", "()V"⟩, 44) := ⟨⟨by decide +kernel, by decide +kernel⟩, tm_9 (List.mem_of_getElem? (i := 228) (by decide +kernel)), tm_12 (List.mem_of_getElem? (i := 115) (by decide +kernel)), tm_12 (List.mem_of_getElem? (i := 116) (by decide +kernel))⟩
def lw_privs_15 : List (MethodName × Nat) := [(⟨"PadConsoleModel", "planned", "()V"⟩, 44), (⟨"PadConsoleModel", "sample", "()V"⟩, 44), (⟨"PadConsoleModel", "waves", "()V"⟩, 44), (⟨"PadConsoleModel", "operator", "(II)V"⟩, 44), (⟨"PadConsoleModel", "isOn", "(II)I"⟩, 44), (⟨"PadConsoleModel", "wreg", "(I)I"⟩, 44), (⟨"PadConsoleModel", "isRhythm", "(I)Z"⟩, 44), (⟨"PadConsoleModel", "envelope", "(III)V"⟩, 44), (⟨"PadConsoleModel", "rate", "(III)I"⟩, 44), (⟨"PadConsoleModel", "patchByte", "(II)I"⟩, 44), (⟨"PadConsoleModel", "block", "(I)I"⟩, 44), (⟨"PadConsoleModel", "f", "(I)I"⟩, 44), (⟨"PadConsoleModel", "phase", "(III)V"⟩, 44), (⟨"PadConsoleModel", "drum", "(III)I"⟩, 44), (⟨"PadConsoleModel", "waveAt", "(IIII)I"⟩, 44), (⟨"PadConsoleModel", "mixed", "()V"⟩, 44)]
theorem lw_r15 : ∀ q ∈ lw_privs_15, lw_okq q := List.forall_mem_cons.mpr ⟨lw_p224, List.forall_mem_cons.mpr ⟨lw_p225, List.forall_mem_cons.mpr ⟨lw_p226, List.forall_mem_cons.mpr ⟨lw_p227, List.forall_mem_cons.mpr ⟨lw_p228, List.forall_mem_cons.mpr ⟨lw_p229, List.forall_mem_cons.mpr ⟨lw_p230, List.forall_mem_cons.mpr ⟨lw_p231, List.forall_mem_cons.mpr ⟨lw_p232, List.forall_mem_cons.mpr ⟨lw_p233, List.forall_mem_cons.mpr ⟨lw_p234, List.forall_mem_cons.mpr ⟨lw_p235, List.forall_mem_cons.mpr ⟨lw_p236, List.forall_mem_cons.mpr ⟨lw_p237, List.forall_mem_cons.mpr ⟨lw_p238, List.forall_mem_cons.mpr ⟨lw_p239, fun _ h => absurd h List.not_mem_nil⟩⟩⟩⟩⟩⟩⟩⟩⟩⟩⟩⟩⟩⟩⟩⟩
theorem lw_p240 : lw_okq (⟨"PadConsoleModel", "taken", "()I"⟩, 44) := ⟨⟨by decide +kernel, by decide +kernel⟩, tm_9 (List.mem_of_getElem? (i := 228) (by decide +kernel)), tm_13 (List.mem_of_getElem? (i := 7) (by decide +kernel)), tm_13 (List.mem_of_getElem? (i := 8) (by decide +kernel))⟩
theorem lw_p241 : lw_okq (⟨"PadConsoleModel", "sayPrefixed", "(I)V"⟩, 44) := ⟨⟨by decide +kernel, by decide +kernel⟩, tm_9 (List.mem_of_getElem? (i := 228) (by decide +kernel)), tm_13 (List.mem_of_getElem? (i := 11) (by decide +kernel)), tm_13 (List.mem_of_getElem? (i := 12) (by decide +kernel))⟩
theorem lw_p242 : lw_okq (⟨"PadConsoleModel", "say", "(Ljava/lang/String;)V"⟩, 44) := ⟨⟨by decide +kernel, by decide +kernel⟩, tm_9 (List.mem_of_getElem? (i := 228) (by decide +kernel)), tm_13 (List.mem_of_getElem? (i := 16) (by decide +kernel)), tm_13 (List.mem_of_getElem? (i := 17) (by decide +kernel))⟩
theorem lw_p243 : lw_okq (⟨"PadConsoleModel", "sayTurn", "(I)V"⟩, 44) := ⟨⟨by decide +kernel, by decide +kernel⟩, tm_9 (List.mem_of_getElem? (i := 228) (by decide +kernel)), tm_13 (List.mem_of_getElem? (i := 21) (by decide +kernel)), tm_13 (List.mem_of_getElem? (i := 22) (by decide +kernel))⟩
theorem lw_p244 : lw_okq (⟨"PadConsoleModel", "hex", "(II)V"⟩, 44) := ⟨⟨by decide +kernel, by decide +kernel⟩, tm_9 (List.mem_of_getElem? (i := 228) (by decide +kernel)), tm_13 (List.mem_of_getElem? (i := 36) (by decide +kernel)), tm_13 (List.mem_of_getElem? (i := 37) (by decide +kernel))⟩
theorem lw_p245 : lw_okq (⟨"PadConsoleModel", "sayR", "(I)V"⟩, 44) := ⟨⟨by decide +kernel, by decide +kernel⟩, tm_9 (List.mem_of_getElem? (i := 228) (by decide +kernel)), tm_13 (List.mem_of_getElem? (i := 41) (by decide +kernel)), tm_13 (List.mem_of_getElem? (i := 42) (by decide +kernel))⟩
theorem lw_p246 : lw_okq (⟨"PadConsoleModel", "sayPlace", "()V"⟩, 44) := ⟨⟨by decide +kernel, by decide +kernel⟩, tm_9 (List.mem_of_getElem? (i := 228) (by decide +kernel)), tm_13 (List.mem_of_getElem? (i := 45) (by decide +kernel)), tm_13 (List.mem_of_getElem? (i := 46) (by decide +kernel))⟩
theorem lw_p247 : lw_okq (⟨"PadConsoleModel", "sayHl", "()V"⟩, 44) := ⟨⟨by decide +kernel, by decide +kernel⟩, tm_9 (List.mem_of_getElem? (i := 228) (by decide +kernel)), tm_13 (List.mem_of_getElem? (i := 55) (by decide +kernel)), tm_13 (List.mem_of_getElem? (i := 56) (by decide +kernel))⟩
theorem lw_p248 : lw_okq (⟨"PadConsoleModel", "sayPlain", "(I)V"⟩, 44) := ⟨⟨by decide +kernel, by decide +kernel⟩, tm_9 (List.mem_of_getElem? (i := 228) (by decide +kernel)), tm_13 (List.mem_of_getElem? (i := 69) (by decide +kernel)), tm_13 (List.mem_of_getElem? (i := 70) (by decide +kernel))⟩
theorem lw_p249 : lw_okq (⟨"PadConsoleModel", "sayZero", "(II)V"⟩, 44) := ⟨⟨by decide +kernel, by decide +kernel⟩, tm_9 (List.mem_of_getElem? (i := 228) (by decide +kernel)), tm_13 (List.mem_of_getElem? (i := 73) (by decide +kernel)), tm_13 (List.mem_of_getElem? (i := 74) (by decide +kernel))⟩
theorem lw_p250 : lw_okq (⟨"PadConsoleModel", "sayCc", "(I)V"⟩, 44) := ⟨⟨by decide +kernel, by decide +kernel⟩, tm_9 (List.mem_of_getElem? (i := 228) (by decide +kernel)), tm_13 (List.mem_of_getElem? (i := 80) (by decide +kernel)), tm_13 (List.mem_of_getElem? (i := 81) (by decide +kernel))⟩
theorem lw_p251 : lw_okq (⟨"PadConsoleModel", "sayJump", "()V"⟩, 44) := ⟨⟨by decide +kernel, by decide +kernel⟩, tm_9 (List.mem_of_getElem? (i := 228) (by decide +kernel)), tm_13 (List.mem_of_getElem? (i := 91) (by decide +kernel)), tm_13 (List.mem_of_getElem? (i := 92) (by decide +kernel))⟩
theorem lw_p252 : lw_okq (⟨"PadConsoleModel", "sayRp", "(IZ)V"⟩, 44) := ⟨⟨by decide +kernel, by decide +kernel⟩, tm_9 (List.mem_of_getElem? (i := 228) (by decide +kernel)), tm_13 (List.mem_of_getElem? (i := 97) (by decide +kernel)), tm_13 (List.mem_of_getElem? (i := 98) (by decide +kernel))⟩
theorem lw_p253 : lw_okq (⟨"PadConsoleModel", "takenWord", "()I"⟩, 44) := ⟨⟨by decide +kernel, by decide +kernel⟩, tm_9 (List.mem_of_getElem? (i := 228) (by decide +kernel)), tm_13 (List.mem_of_getElem? (i := 105) (by decide +kernel)), tm_13 (List.mem_of_getElem? (i := 106) (by decide +kernel))⟩
theorem lw_p254 : lw_okq (⟨"PadConsoleModel", "sayPlaced", "(I)V"⟩, 44) := ⟨⟨by decide +kernel, by decide +kernel⟩, tm_9 (List.mem_of_getElem? (i := 228) (by decide +kernel)), tm_13 (List.mem_of_getElem? (i := 113) (by decide +kernel)), tm_13 (List.mem_of_getElem? (i := 114) (by decide +kernel))⟩
theorem lw_p255 : lw_okq (⟨"PadConsoleModel", "saySingle", "(II)V"⟩, 44) := ⟨⟨by decide +kernel, by decide +kernel⟩, tm_9 (List.mem_of_getElem? (i := 228) (by decide +kernel)), tm_13 (List.mem_of_getElem? (i := 118) (by decide +kernel)), tm_13 (List.mem_of_getElem? (i := 119) (by decide +kernel))⟩
def lw_privs_16 : List (MethodName × Nat) := [(⟨"PadConsoleModel", "taken", "()I"⟩, 44), (⟨"PadConsoleModel", "sayPrefixed", "(I)V"⟩, 44), (⟨"PadConsoleModel", "say", "(Ljava/lang/String;)V"⟩, 44), (⟨"PadConsoleModel", "sayTurn", "(I)V"⟩, 44), (⟨"PadConsoleModel", "hex", "(II)V"⟩, 44), (⟨"PadConsoleModel", "sayR", "(I)V"⟩, 44), (⟨"PadConsoleModel", "sayPlace", "()V"⟩, 44), (⟨"PadConsoleModel", "sayHl", "()V"⟩, 44), (⟨"PadConsoleModel", "sayPlain", "(I)V"⟩, 44), (⟨"PadConsoleModel", "sayZero", "(II)V"⟩, 44), (⟨"PadConsoleModel", "sayCc", "(I)V"⟩, 44), (⟨"PadConsoleModel", "sayJump", "()V"⟩, 44), (⟨"PadConsoleModel", "sayRp", "(IZ)V"⟩, 44), (⟨"PadConsoleModel", "takenWord", "()I"⟩, 44), (⟨"PadConsoleModel", "sayPlaced", "(I)V"⟩, 44), (⟨"PadConsoleModel", "saySingle", "(II)V"⟩, 44)]
theorem lw_r16 : ∀ q ∈ lw_privs_16, lw_okq q := List.forall_mem_cons.mpr ⟨lw_p240, List.forall_mem_cons.mpr ⟨lw_p241, List.forall_mem_cons.mpr ⟨lw_p242, List.forall_mem_cons.mpr ⟨lw_p243, List.forall_mem_cons.mpr ⟨lw_p244, List.forall_mem_cons.mpr ⟨lw_p245, List.forall_mem_cons.mpr ⟨lw_p246, List.forall_mem_cons.mpr ⟨lw_p247, List.forall_mem_cons.mpr ⟨lw_p248, List.forall_mem_cons.mpr ⟨lw_p249, List.forall_mem_cons.mpr ⟨lw_p250, List.forall_mem_cons.mpr ⟨lw_p251, List.forall_mem_cons.mpr ⟨lw_p252, List.forall_mem_cons.mpr ⟨lw_p253, List.forall_mem_cons.mpr ⟨lw_p254, List.forall_mem_cons.mpr ⟨lw_p255, fun _ h => absurd h List.not_mem_nil⟩⟩⟩⟩⟩⟩⟩⟩⟩⟩⟩⟩⟩⟩⟩⟩
theorem lw_p256 : lw_okq (⟨"PadConsoleModel", "sayDo", "(I)V"⟩, 44) := ⟨⟨by decide +kernel, by decide +kernel⟩, tm_9 (List.mem_of_getElem? (i := 228) (by decide +kernel)), tm_13 (List.mem_of_getElem? (i := 131) (by decide +kernel)), tm_13 (List.mem_of_getElem? (i := 132) (by decide +kernel))⟩
theorem lw_p257 : lw_okq (⟨"PadConsoleModel", "sayThree", "(II)V"⟩, 44) := ⟨⟨by decide +kernel, by decide +kernel⟩, tm_9 (List.mem_of_getElem? (i := 228) (by decide +kernel)), tm_13 (List.mem_of_getElem? (i := 142) (by decide +kernel)), tm_13 (List.mem_of_getElem? (i := 143) (by decide +kernel))⟩
theorem lw_p258 : lw_okq (⟨"PadConsoleModel", "sayLast", "(II)V"⟩, 44) := ⟨⟨by decide +kernel, by decide +kernel⟩, tm_9 (List.mem_of_getElem? (i := 228) (by decide +kernel)), tm_13 (List.mem_of_getElem? (i := 160) (by decide +kernel)), tm_13 (List.mem_of_getElem? (i := 161) (by decide +kernel))⟩
theorem lw_p259 : lw_okq (⟨"PadConsoleModel", "sayMore", "(I)V"⟩, 44) := ⟨⟨by decide +kernel, by decide +kernel⟩, tm_9 (List.mem_of_getElem? (i := 228) (by decide +kernel)), tm_13 (List.mem_of_getElem? (i := 167) (by decide +kernel)), tm_13 (List.mem_of_getElem? (i := 168) (by decide +kernel))⟩
theorem lw_p260 : lw_okq (⟨"PadConsoleModel", "sayOdd", "(II)V"⟩, 44) := ⟨⟨by decide +kernel, by decide +kernel⟩, tm_9 (List.mem_of_getElem? (i := 228) (by decide +kernel)), tm_13 (List.mem_of_getElem? (i := 184) (by decide +kernel)), tm_13 (List.mem_of_getElem? (i := 185) (by decide +kernel))⟩
def lw_privs_17 : List (MethodName × Nat) := [(⟨"PadConsoleModel", "sayDo", "(I)V"⟩, 44), (⟨"PadConsoleModel", "sayThree", "(II)V"⟩, 44), (⟨"PadConsoleModel", "sayLast", "(II)V"⟩, 44), (⟨"PadConsoleModel", "sayMore", "(I)V"⟩, 44), (⟨"PadConsoleModel", "sayOdd", "(II)V"⟩, 44)]
theorem lw_r17 : ∀ q ∈ lw_privs_17, lw_okq q := List.forall_mem_cons.mpr ⟨lw_p256, List.forall_mem_cons.mpr ⟨lw_p257, List.forall_mem_cons.mpr ⟨lw_p258, List.forall_mem_cons.mpr ⟨lw_p259, List.forall_mem_cons.mpr ⟨lw_p260, fun _ h => absurd h List.not_mem_nil⟩⟩⟩⟩⟩
def lw_privs : List (MethodName × Nat) := lw_privs_1 ++ (lw_privs_2 ++ (lw_privs_3 ++ (lw_privs_4 ++ (lw_privs_5 ++ (lw_privs_6 ++ (lw_privs_7 ++ (lw_privs_8 ++ (lw_privs_9 ++ (lw_privs_10 ++ (lw_privs_11 ++ (lw_privs_12 ++ (lw_privs_13 ++ (lw_privs_14 ++ (lw_privs_15 ++ (lw_privs_16 ++ (lw_privs_17))))))))))))))))
def lw_tbl : List Cond := k2_sels lw_privs ++ tables_1
theorem lw_privs_ok : ∀ q ∈ lw_privs, lw_okq q := by
  show ∀ q ∈ lw_privs_1 ++ (lw_privs_2 ++ (lw_privs_3 ++ (lw_privs_4 ++ (lw_privs_5 ++ (lw_privs_6 ++ (lw_privs_7 ++ (lw_privs_8 ++ (lw_privs_9 ++ (lw_privs_10 ++ (lw_privs_11 ++ (lw_privs_12 ++ (lw_privs_13 ++ (lw_privs_14 ++ (lw_privs_15 ++ (lw_privs_16 ++ (lw_privs_17)))))))))))))))), lw_okq q
  exact List.forall_mem_append.mpr ⟨lw_r1, List.forall_mem_append.mpr ⟨lw_r2, List.forall_mem_append.mpr ⟨lw_r3, List.forall_mem_append.mpr ⟨lw_r4, List.forall_mem_append.mpr ⟨lw_r5, List.forall_mem_append.mpr ⟨lw_r6, List.forall_mem_append.mpr ⟨lw_r7, List.forall_mem_append.mpr ⟨lw_r8, List.forall_mem_append.mpr ⟨lw_r9, List.forall_mem_append.mpr ⟨lw_r10, List.forall_mem_append.mpr ⟨lw_r11, List.forall_mem_append.mpr ⟨lw_r12, List.forall_mem_append.mpr ⟨lw_r13, List.forall_mem_append.mpr ⟨lw_r14, List.forall_mem_append.mpr ⟨lw_r15, List.forall_mem_append.mpr ⟨lw_r16, lw_r17⟩⟩⟩⟩⟩⟩⟩⟩⟩⟩⟩⟩⟩⟩⟩⟩
end ZJN0
section ZJN1
/-! ===== BEGIN words of one list among another's, by their places ===== -/
theorem goodIn_r {big : List Cond} (ws : List Cond) (ps : List Nat) (hp : ws = ps.filterMap (fun i => big[i]?)) (h : ws.all goodWord = true) : GoodIn big ws := by
  intro w hw
  have h1 := List.all_eq_true.mp h w hw
  rw [hp] at hw
  obtain ⟨i, -, hi⟩ := List.mem_filterMap.mp hw
  have hm : w ∈ big := by first | exact List.mem_of_getElem? hi | exact List.getElem?_mem hi
  exact ⟨hm, good_of_word h1⟩
theorem goodIn_app {big a b : List Cond} (ha : GoodIn big a) (hb : GoodIn big b) : GoodIn big (a ++ b) := fun w h => (List.mem_append.mp h).elim (ha w) (hb w)
theorem goodIn_ca {big a b : List Cond} {c : Cond} (ha : GoodIn big (c :: a)) (hb : GoodIn big b) : GoodIn big (c :: (a ++ b)) := fun w h => (List.mem_cons.mp h).elim (fun e => ha w (List.mem_cons.mpr (Or.inl e))) (fun h => (List.mem_append.mp h).elim (fun h => ha w (List.mem_cons.mpr (Or.inr h))) (hb w))
theorem goodIn_sub {big ws : List Cond} (hm : ∀ w ∈ ws, w ∈ big) (h : ws.all goodWord = true) : GoodIn big ws := fun w hw => ⟨hm w hw, good_of_word (List.all_eq_true.mp h w hw)⟩
/-! ===== END ===== -/
def RX0 : String := "PadConsole$Clock"
def TX0 : u_T := fun k => match k with
  | 0 => ("PadConsole$Clock", "tones", "LPadConsole$Sound;", true)
  | 1 => ("PadConsole$Clock", "synth", "LPadConsole$Waves;", true)
  | 2 => ("PadConsole$Clock", "samples", "LPadConsole$Ring;", true)
  | 3 => ("PadConsole$Clock", "mixes", "LPadConsole$Ring;", true)
  | 4 => ("PadConsole$Clock", "counts", "[J", true)
  | _ => ("PadConsole$Clock", "kept", "[J", true)
def tyX0 : Nat → FieldType := fun k => match k with
  | 0 => .object "PadConsole$Sound"
  | 1 => .object "PadConsole$Waves"
  | 2 => .object "PadConsole$Ring"
  | 3 => .object "PadConsole$Ring"
  | 4 => .array .long
  | _ => .array .long
abbrev wsX00 : List Cond := u_ws RX0 TX0 6
theorem nmX0 : ∀ a, a < 6 → ∀ b, b < 6 → a ≠ b → (TX0 a).2.1 ≠ (TX0 b).2.1 := by decide +kernel
theorem tyX0_ok : ∀ k, k < 6 → parseFieldDescriptor (TX0 k).2.2.1 = some (tyX0 k) := by decide +kernel
abbrev cX0_init : ByteArray := prog_2_method_1_code
def yX0_init : MethodName := ⟨RX0, "<init>", "(LPadConsole$Sound;LPadConsole$Waves;)V"⟩
abbrev cX0_keep : ByteArray := prog_2_method_2_code
def yX0_keep : MethodName := ⟨RX0, "keep", "()V"⟩
abbrev cX0_bringBack : ByteArray := prog_2_method_3_code
def yX0_bringBack : MethodName := ⟨RX0, "bringBack", "()V"⟩
abbrev cX0_count : ByteArray := prog_2_method_4_code
def yX0_count : MethodName := ⟨RX0, "count", "(I)J"⟩
abbrev cX0_countPicture : ByteArray := prog_2_method_5_code
def yX0_countPicture : MethodName := ⟨RX0, "countPicture", "()V"⟩
abbrev cX0_pass : ByteArray := prog_2_method_6_code
def yX0_pass : MethodName := ⟨RX0, "pass", "(I)V"⟩
abbrev cX0_addSample : ByteArray := prog_2_method_7_code
def yX0_addSample : MethodName := ⟨RX0, "addSample", "()V"⟩
abbrev cX0_addMix : ByteArray := prog_2_method_8_code
def yX0_addMix : MethodName := ⟨RX0, "addMix", "()V"⟩
def RX1 : String := "PadConsole$Desk"
def TX1 : u_T := fun k => match k with
  | 0 => ("PadConsole$Desk", "stops", "[I", true)
  | 1 => ("PadConsole$Desk", "stopsKept", "[I", true)
  | 2 => ("PadConsole$Desk", "plans", "[I", true)
  | 3 => ("PadConsole$Desk", "plansKept", "[I", true)
  | 4 => ("PadConsole$Desk", "steps", "[I", true)
  | _ => ("PadConsole$Desk", "nextStep", "I", false)
def tyX1 : Nat → FieldType := fun k => match k with
  | 0 => .array .int
  | 1 => .array .int
  | 2 => .array .int
  | 3 => .array .int
  | 4 => .array .int
  | _ => .int
abbrev wsX10 : List Cond := u_ws RX1 TX1 6
theorem nmX1 : ∀ a, a < 6 → ∀ b, b < 6 → a ≠ b → (TX1 a).2.1 ≠ (TX1 b).2.1 := by decide +kernel
theorem tyX1_ok : ∀ k, k < 6 → parseFieldDescriptor (TX1 k).2.2.1 = some (tyX1 k) := by decide +kernel
abbrev cX1_init : ByteArray := prog_3_method_1_code
def yX1_init : MethodName := ⟨RX1, "<init>", "()V"⟩
abbrev cX1_keep : ByteArray := prog_3_method_2_code
def yX1_keep : MethodName := ⟨RX1, "keep", "()V"⟩
abbrev cX1_bringBack : ByteArray := prog_3_method_3_code
def yX1_bringBack : MethodName := ⟨RX1, "bringBack", "()V"⟩
abbrev cX1_noteStep : ByteArray := prog_3_method_4_code
def yX1_noteStep : MethodName := ⟨RX1, "noteStep", "(I)V"⟩
abbrev cX1_stepBack : ByteArray := prog_3_method_5_code
def yX1_stepBack : MethodName := ⟨RX1, "stepBack", "(I)I"⟩
abbrev cX1_stopCount : ByteArray := prog_3_method_6_code
def yX1_stopCount : MethodName := ⟨RX1, "stopCount", "()I"⟩
abbrev cX1_isStop : ByteArray := prog_3_method_7_code
def yX1_isStop : MethodName := ⟨RX1, "isStop", "(I)Z"⟩
abbrev cX1_placeOfStop : ByteArray := prog_3_method_8_code
def yX1_placeOfStop : MethodName := ⟨RX1, "placeOfStop", "(I)I"⟩
abbrev cX1_stopsBeside : ByteArray := prog_3_method_9_code
def yX1_stopsBeside : MethodName := ⟨RX1, "stopsBeside", "(I)I"⟩
abbrev cX1_changeStop : ByteArray := prog_3_method_10_code
def yX1_changeStop : MethodName := ⟨RX1, "changeStop", "(IZ)I"⟩
abbrev cX1_plansWaiting : ByteArray := prog_3_method_11_code
def yX1_plansWaiting : MethodName := ⟨RX1, "plansWaiting", "()I"⟩
abbrev cX1_placeOfPlan : ByteArray := prog_3_method_12_code
def yX1_placeOfPlan : MethodName := ⟨RX1, "placeOfPlan", "(I)I"⟩
abbrev cX1_leastPlan : ByteArray := prog_3_method_13_code
def yX1_leastPlan : MethodName := ⟨RX1, "leastPlan", "()I"⟩
abbrev cX1_addPlan : ByteArray := prog_3_method_14_code
def yX1_addPlan : MethodName := ⟨RX1, "addPlan", "(III)I"⟩
abbrev cX1_carryOutPlans : ByteArray := prog_3_method_15_code
def yX1_carryOutPlans : MethodName := ⟨RX1, "carryOutPlans", "(JLPadConsole$Ports;)V"⟩
def RX2 : String := "PadConsole$Memory"
def TX2 : u_T := fun k => match k with
  | 0 => ("PadConsole$Memory", "tape", "[I", false)
  | 1 => ("PadConsole$Memory", "rom", "[I", false)
  | 2 => ("PadConsole$Memory", "tapeLength", "I", false)
  | 3 => ("PadConsole$Memory", "base", "I", false)
  | 4 => ("PadConsole$Memory", "size", "I", false)
  | 5 => ("PadConsole$Memory", "banks", "I", false)
  | 6 => ("PadConsole$Memory", "paging", "I", false)
  | 7 => ("PadConsole$Memory", "header", "I", false)
  | 8 => ("PadConsole$Memory", "ram", "[I", true)
  | 9 => ("PadConsole$Memory", "ramKept", "[I", true)
  | 10 => ("PadConsole$Memory", "charged", "[I", true)
  | 11 => ("PadConsole$Memory", "chargedKept", "[I", true)
  | 12 => ("PadConsole$Memory", "pages", "[I", true)
  | _ => ("PadConsole$Memory", "pagesKept", "[I", true)
def tyX2 : Nat → FieldType := fun k => match k with
  | 0 => .array .int
  | 1 => .array .int
  | 2 => .int
  | 3 => .int
  | 4 => .int
  | 5 => .int
  | 6 => .int
  | 7 => .int
  | 8 => .array .int
  | 9 => .array .int
  | 10 => .array .int
  | 11 => .array .int
  | 12 => .array .int
  | _ => .array .int
abbrev wsX20 : List Cond := u_ws RX2 TX2 14
theorem nmX2 : ∀ a, a < 14 → ∀ b, b < 14 → a ≠ b → (TX2 a).2.1 ≠ (TX2 b).2.1 := by decide +kernel
theorem tyX2_ok : ∀ k, k < 14 → parseFieldDescriptor (TX2 k).2.2.1 = some (tyX2 k) := by decide +kernel
abbrev cX2_init : ByteArray := prog_4_method_1_code
def yX2_init : MethodName := ⟨RX2, "<init>", "()V"⟩
abbrev cX2_addToTape : ByteArray := prog_4_method_2_code
def yX2_addToTape : MethodName := ⟨RX2, "addToTape", "(I)V"⟩
abbrev cX2_repeatTape : ByteArray := prog_4_method_3_code
def yX2_repeatTape : MethodName := ⟨RX2, "repeatTape", "(I)V"⟩
abbrev cX2_changeTape : ByteArray := prog_4_method_4_code
def yX2_changeTape : MethodName := ⟨RX2, "changeTape", "(IJ)V"⟩
abbrev cX2_takeTape : ByteArray := prog_4_method_5_code
def yX2_takeTape : MethodName := ⟨RX2, "takeTape", "()I"⟩
abbrev cX2_findHeader : ByteArray := prog_4_method_6_code
def yX2_findHeader : MethodName := ⟨RX2, "findHeader", "()I"⟩
abbrev cX2_findPaging : ByteArray := prog_4_method_7_code
def yX2_findPaging : MethodName := ⟨RX2, "findPaging", "()I"⟩
abbrev cX2_romByte : ByteArray := prog_4_method_8_code
def yX2_romByte : MethodName := ⟨RX2, "romByte", "(I)I"⟩
abbrev cX2_romWord : ByteArray := prog_4_method_9_code
def yX2_romWord : MethodName := ⟨RX2, "romWord", "(I)I"⟩
abbrev cX2_aboutCard : ByteArray := prog_4_method_10_code
def yX2_aboutCard : MethodName := ⟨RX2, "aboutCard", "(I)I"⟩
abbrev cX2_decimal : ByteArray := prog_4_method_11_code
def yX2_decimal : MethodName := ⟨RX2, "decimal", "(I)I"⟩
abbrev cX2_sumOfCard : ByteArray := prog_4_method_12_code
def yX2_sumOfCard : MethodName := ⟨RX2, "sumOfCard", "()I"⟩
abbrev cX2_cardSize : ByteArray := prog_4_method_13_code
def yX2_cardSize : MethodName := ⟨RX2, "cardSize", "()I"⟩
abbrev cX2_page : ByteArray := prog_4_method_14_code
def yX2_page : MethodName := ⟨RX2, "page", "(I)I"⟩
abbrev cX2_read : ByteArray := prog_4_method_15_code
def yX2_read : MethodName := ⟨RX2, "read", "(I)I"⟩
abbrev cX2_write : ByteArray := prog_4_method_16_code
def yX2_write : MethodName := ⟨RX2, "write", "(II)V"⟩
abbrev cX2_batteryIsIn : ByteArray := prog_4_method_17_code
def yX2_batteryIsIn : MethodName := ⟨RX2, "batteryIsIn", "()Z"⟩
abbrev cX2_batteryPlace : ByteArray := prog_4_method_18_code
def yX2_batteryPlace : MethodName := ⟨RX2, "batteryPlace", "(I)I"⟩
abbrev cX2_batteryByte : ByteArray := prog_4_method_19_code
def yX2_batteryByte : MethodName := ⟨RX2, "batteryByte", "(I)I"⟩
abbrev cX2_clearBattery : ByteArray := prog_4_method_20_code
def yX2_clearBattery : MethodName := ⟨RX2, "clearBattery", "()V"⟩
abbrev cX2_clearRam : ByteArray := prog_4_method_21_code
def yX2_clearRam : MethodName := ⟨RX2, "clearRam", "()V"⟩
abbrev cX2_clearPages : ByteArray := prog_4_method_22_code
def yX2_clearPages : MethodName := ⟨RX2, "clearPages", "()V"⟩
abbrev cX2_keep : ByteArray := prog_4_method_23_code
def yX2_keep : MethodName := ⟨RX2, "keep", "()V"⟩
abbrev cX2_bringBack : ByteArray := prog_4_method_24_code
def yX2_bringBack : MethodName := ⟨RX2, "bringBack", "()V"⟩
def RX3 : String := "PadConsole$Painter"
def TX3 : u_T := fun k => match k with
  | 0 => ("PadConsole$Painter", "chip", "LPadConsole$Video;", true)
  | 1 => ("PadConsole$Painter", "handy", "Z", true)
  | 2 => ("PadConsole$Painter", "picture", "[I", true)
  | 3 => ("PadConsole$Painter", "kept", "[I", true)
  | 4 => ("PadConsole$Painter", "numbers", "[I", true)
  | 5 => ("PadConsole$Painter", "sprites", "[I", true)
  | 6 => ("PadConsole$Painter", "colours", "[I", true)
  | 7 => ("PadConsole$Painter", "planes", "I", false)
  | _ => ("PadConsole$Painter", "tileBits", "I", false)
def tyX3 : Nat → FieldType := fun k => match k with
  | 0 => .object "PadConsole$Video"
  | 1 => .boolean
  | 2 => .array .int
  | 3 => .array .int
  | 4 => .array .int
  | 5 => .array .int
  | 6 => .array .int
  | 7 => .int
  | _ => .int
abbrev wsX30 : List Cond := u_ws RX3 TX3 9
theorem nmX3 : ∀ a, a < 9 → ∀ b, b < 9 → a ≠ b → (TX3 a).2.1 ≠ (TX3 b).2.1 := by decide +kernel
theorem tyX3_ok : ∀ k, k < 9 → parseFieldDescriptor (TX3 k).2.2.1 = some (tyX3 k) := by decide +kernel
abbrev cX3_init : ByteArray := prog_5_method_1_code
def yX3_init : MethodName := ⟨RX3, "<init>", "(LPadConsole$Video;Z)V"⟩
abbrev cX3_keep : ByteArray := prog_5_method_2_code
def yX3_keep : MethodName := ⟨RX3, "keep", "()V"⟩
abbrev cX3_bringBack : ByteArray := prog_5_method_3_code
def yX3_bringBack : MethodName := ⟨RX3, "bringBack", "()V"⟩
abbrev cX3_width : ByteArray := prog_5_method_4_code
def yX3_width : MethodName := ⟨RX3, "width", "()I"⟩
abbrev cX3_height : ByteArray := prog_5_method_5_code
def yX3_height : MethodName := ⟨RX3, "height", "()I"⟩
abbrev cX3_dotAt : ByteArray := prog_5_method_6_code
def yX3_dotAt : MethodName := ⟨RX3, "dotAt", "(II)I"⟩
abbrev cX3_placeOf : ByteArray := prog_5_method_7_code
def yX3_placeOf : MethodName := ⟨RX3, "placeOf", "(I)I"⟩
abbrev cX3_sumOfLine : ByteArray := prog_5_method_8_code
def yX3_sumOfLine : MethodName := ⟨RX3, "sumOfLine", "(I)I"⟩
abbrev cX3_draw : ByteArray := prog_5_method_9_code
def yX3_draw : MethodName := ⟨RX3, "draw", "()V"⟩
abbrev cX3_mixColours : ByteArray := prog_5_method_10_code
def yX3_mixColours : MethodName := ⟨RX3, "mixColours", "(I)V"⟩
abbrev cX3_fillBack : ByteArray := prog_5_method_11_code
def yX3_fillBack : MethodName := ⟨RX3, "fillBack", "(I)V"⟩
abbrev cX3_drawTiles : ByteArray := prog_5_method_12_code
def yX3_drawTiles : MethodName := ⟨RX3, "drawTiles", "(I)V"⟩
abbrev cX3_takeTile : ByteArray := prog_5_method_13_code
def yX3_takeTile : MethodName := ⟨RX3, "takeTile", "(II)V"⟩
abbrev cX3_takePlanes : ByteArray := prog_5_method_14_code
def yX3_takePlanes : MethodName := ⟨RX3, "takePlanes", "(I)V"⟩
abbrev cX3_numberIn : ByteArray := prog_5_method_15_code
def yX3_numberIn : MethodName := ⟨RX3, "numberIn", "(II)I"⟩
abbrev cX3_drawSprites : ByteArray := prog_5_method_16_code
def yX3_drawSprites : MethodName := ⟨RX3, "drawSprites", "(I)V"⟩
abbrev cX3_rowOfSprite : ByteArray := prog_5_method_17_code
def yX3_rowOfSprite : MethodName := ⟨RX3, "rowOfSprite", "(II)I"⟩
abbrev cX3_drawSprite : ByteArray := prog_5_method_18_code
def yX3_drawSprite : MethodName := ⟨RX3, "drawSprite", "(II)V"⟩
abbrev cX3_drawOld : ByteArray := prog_5_method_19_code
def yX3_drawOld : MethodName := ⟨RX3, "drawOld", "(II)V"⟩
abbrev cX3_patternAt : ByteArray := prog_5_method_20_code
def yX3_patternAt : MethodName := ⟨RX3, "patternAt", "(II)I"⟩
abbrev cX3_drawText : ByteArray := prog_5_method_21_code
def yX3_drawText : MethodName := ⟨RX3, "drawText", "(II)V"⟩
abbrev cX3_drawPattern : ByteArray := prog_5_method_22_code
def yX3_drawPattern : MethodName := ⟨RX3, "drawPattern", "(III)V"⟩
abbrev cX3_drawThird : ByteArray := prog_5_method_23_code
def yX3_drawThird : MethodName := ⟨RX3, "drawThird", "(III)V"⟩
abbrev cX3_drawBlocks : ByteArray := prog_5_method_24_code
def yX3_drawBlocks : MethodName := ⟨RX3, "drawBlocks", "(III)V"⟩
abbrev cX3_drawOldSprites : ByteArray := prog_5_method_25_code
def yX3_drawOldSprites : MethodName := ⟨RX3, "drawOldSprites", "(I)V"⟩
abbrev cX3_drawOldSprite : ByteArray := prog_5_method_26_code
def yX3_drawOldSprite : MethodName := ⟨RX3, "drawOldSprite", "(II)V"⟩
abbrev cX3_takeDot : ByteArray := prog_5_method_27_code
def yX3_takeDot : MethodName := ⟨RX3, "takeDot", "(II)V"⟩
def RX4 : String := "PadConsole$Ports"
def TX4 : u_T := fun k => match k with
  | 0 => ("PadConsole$Ports", "handy", "Z", true)
  | 1 => ("PadConsole$Ports", "screen", "LPadConsole$Video;", true)
  | 2 => ("PadConsole$Ports", "tones", "LPadConsole$Sound;", true)
  | 3 => ("PadConsole$Ports", "synth", "LPadConsole$Waves;", true)
  | 4 => ("PadConsole$Ports", "p", "[I", true)
  | _ => ("PadConsole$Ports", "kept", "[I", true)
def tyX4 : Nat → FieldType := fun k => match k with
  | 0 => .boolean
  | 1 => .object "PadConsole$Video"
  | 2 => .object "PadConsole$Sound"
  | 3 => .object "PadConsole$Waves"
  | 4 => .array .int
  | _ => .array .int
abbrev wsX40 : List Cond := u_ws RX4 TX4 6
theorem nmX4 : ∀ a, a < 6 → ∀ b, b < 6 → a ≠ b → (TX4 a).2.1 ≠ (TX4 b).2.1 := by decide +kernel
theorem tyX4_ok : ∀ k, k < 6 → parseFieldDescriptor (TX4 k).2.2.1 = some (tyX4 k) := by decide +kernel
abbrev cX4_init : ByteArray := prog_6_method_1_code
def yX4_init : MethodName := ⟨RX4, "<init>", "(ZLPadConsole$Video;LPadConsole$Sound;LPadConsole$Waves;)V"⟩
abbrev cX4_clear : ByteArray := prog_6_method_2_code
def yX4_clear : MethodName := ⟨RX4, "clear", "()V"⟩
abbrev cX4_keep : ByteArray := prog_6_method_3_code
def yX4_keep : MethodName := ⟨RX4, "keep", "()V"⟩
abbrev cX4_bringBack : ByteArray := prog_6_method_4_code
def yX4_bringBack : MethodName := ⟨RX4, "bringBack", "()V"⟩
abbrev cX4_value : ByteArray := prog_6_method_5_code
def yX4_value : MethodName := ⟨RX4, "value", "(I)I"⟩
abbrev cX4_canPress : ByteArray := prog_6_method_6_code
def yX4_canPress : MethodName := ⟨RX4, "canPress", "(II)Z"⟩
abbrev cX4_holdButtons : ByteArray := prog_6_method_7_code
def yX4_holdButtons : MethodName := ⟨RX4, "holdButtons", "(II)V"⟩
abbrev cX4_holdStart : ByteArray := prog_6_method_8_code
def yX4_holdStart : MethodName := ⟨RX4, "holdStart", "(Z)V"⟩
abbrev cX4_moveLine : ByteArray := prog_6_method_9_code
def yX4_moveLine : MethodName := ⟨RX4, "moveLine", "(IZ)V"⟩
abbrev cX4_lines : ByteArray := prog_6_method_10_code
def yX4_lines : MethodName := ⟨RX4, "lines", "()I"⟩
abbrev cX4_changeLines : ByteArray := prog_6_method_11_code
def yX4_changeLines : MethodName := ⟨RX4, "changeLines", "(II)V"⟩
abbrev cX4_read : ByteArray := prog_6_method_12_code
def yX4_read : MethodName := ⟨RX4, "read", "(I)I"⟩
abbrev cX4_readHandy : ByteArray := prog_6_method_13_code
def yX4_readHandy : MethodName := ⟨RX4, "readHandy", "(I)I"⟩
abbrev cX4_readEvenPads : ByteArray := prog_6_method_14_code
def yX4_readEvenPads : MethodName := ⟨RX4, "readEvenPads", "()I"⟩
abbrev cX4_readOddPads : ByteArray := prog_6_method_15_code
def yX4_readOddPads : MethodName := ⟨RX4, "readOddPads", "()I"⟩
abbrev cX4_write : ByteArray := prog_6_method_16_code
def yX4_write : MethodName := ⟨RX4, "write", "(II)V"⟩
abbrev cX4_writeHandy : ByteArray := prog_6_method_17_code
def yX4_writeHandy : MethodName := ⟨RX4, "writeHandy", "(II)V"⟩
def RX5 : String := "PadConsole$Processor"
def TX5 : u_T := fun k => match k with
  | 0 => ("PadConsole$Processor", "memory", "LPadConsole$Memory;", true)
  | 1 => ("PadConsole$Processor", "ports", "LPadConsole$Ports;", true)
  | 2 => ("PadConsole$Processor", "\x72", "[I", true)
  | 3 => ("PadConsole$Processor", "kept", "[I", true)
  | 4 => ("PadConsole$Processor", "j", "I", false)
  | _ => ("PadConsole$Processor", "place", "I", false)
def tyX5 : Nat → FieldType := fun k => match k with
  | 0 => .object "PadConsole$Memory"
  | 1 => .object "PadConsole$Ports"
  | 2 => .array .int
  | 3 => .array .int
  | 4 => .int
  | _ => .int
abbrev wsX50 : List Cond := u_ws RX5 TX5 6
theorem nmX5 : ∀ a, a < 6 → ∀ b, b < 6 → a ≠ b → (TX5 a).2.1 ≠ (TX5 b).2.1 := by decide +kernel
theorem tyX5_ok : ∀ k, k < 6 → parseFieldDescriptor (TX5 k).2.2.1 = some (tyX5 k) := by decide +kernel
abbrev cX5_init : ByteArray := prog_7_method_1_code
def yX5_init : MethodName := ⟨RX5, "<init>", "(LPadConsole$Memory;LPadConsole$Ports;)V"⟩
abbrev cX5_clear : ByteArray := prog_7_method_2_code
def yX5_clear : MethodName := ⟨RX5, "clear", "()V"⟩
abbrev cX5_keep : ByteArray := prog_7_method_3_code
def yX5_keep : MethodName := ⟨RX5, "keep", "()V"⟩
abbrev cX5_bringBack : ByteArray := prog_7_method_4_code
def yX5_bringBack : MethodName := ⟨RX5, "bringBack", "()V"⟩
abbrev cX5_value : ByteArray := prog_7_method_5_code
def yX5_value : MethodName := ⟨RX5, "value", "(I)I"⟩
abbrev cX5_change : ByteArray := prog_7_method_6_code
def yX5_change : MethodName := ⟨RX5, "change", "(II)V"⟩
abbrev cX5_askForPause : ByteArray := prog_7_method_7_code
def yX5_askForPause : MethodName := ⟨RX5, "askForPause", "()V"⟩
abbrev cX5_answerCalls : ByteArray := prog_7_method_8_code
def yX5_answerCalls : MethodName := ⟨RX5, "answerCalls", "(Z)I"⟩
abbrev cX5_breakOff : ByteArray := prog_7_method_9_code
def yX5_breakOff : MethodName := ⟨RX5, "breakOff", "(I)V"⟩
abbrev cX5_carryOn : ByteArray := prog_7_method_10_code
def yX5_carryOn : MethodName := ⟨RX5, "carryOn", "()I"⟩
abbrev cX5_takePlace : ByteArray := prog_7_method_11_code
def yX5_takePlace : MethodName := ⟨RX5, "takePlace", "(I)I"⟩
abbrev cX5_meansPlace : ByteArray := prog_7_method_12_code
def yX5_meansPlace : MethodName := ⟨RX5, "meansPlace", "(I)Z"⟩
abbrev cX5_fetch : ByteArray := prog_7_method_13_code
def yX5_fetch : MethodName := ⟨RX5, "fetch", "()I"⟩
abbrev cX5_fetchOp : ByteArray := prog_7_method_14_code
def yX5_fetchOp : MethodName := ⟨RX5, "fetchOp", "()I"⟩
abbrev cX5_fetchWord : ByteArray := prog_7_method_15_code
def yX5_fetchWord : MethodName := ⟨RX5, "fetchWord", "()I"⟩
abbrev cX5_growR : ByteArray := prog_7_method_16_code
def yX5_growR : MethodName := ⟨RX5, "growR", "()V"⟩
abbrev cX5_readWord : ByteArray := prog_7_method_17_code
def yX5_readWord : MethodName := ⟨RX5, "readWord", "(I)I"⟩
abbrev cX5_writeWord : ByteArray := prog_7_method_18_code
def yX5_writeWord : MethodName := ⟨RX5, "writeWord", "(II)V"⟩
abbrev cX5_push : ByteArray := prog_7_method_19_code
def yX5_push : MethodName := ⟨RX5, "push", "(I)V"⟩
abbrev cX5_pop : ByteArray := prog_7_method_20_code
def yX5_pop : MethodName := ⟨RX5, "pop", "()I"⟩
abbrev cX5_goTo : ByteArray := prog_7_method_21_code
def yX5_goTo : MethodName := ⟨RX5, "goTo", "(I)V"⟩
abbrev cX5_pairAt : ByteArray := prog_7_method_22_code
def yX5_pairAt : MethodName := ⟨RX5, "pairAt", "(I)I"⟩
abbrev cX5_putPairAt : ByteArray := prog_7_method_23_code
def yX5_putPairAt : MethodName := ⟨RX5, "putPairAt", "(II)V"⟩
abbrev cX5_hl : ByteArray := prog_7_method_24_code
def yX5_hl : MethodName := ⟨RX5, "hl", "()I"⟩
abbrev cX5_putHl : ByteArray := prog_7_method_25_code
def yX5_putHl : MethodName := ⟨RX5, "putHl", "(I)V"⟩
abbrev cX5_pair : ByteArray := prog_7_method_26_code
def yX5_pair : MethodName := ⟨RX5, "pair", "(I)I"⟩
abbrev cX5_putPair : ByteArray := prog_7_method_27_code
def yX5_putPair : MethodName := ⟨RX5, "putPair", "(II)V"⟩
abbrev cX5_one : ByteArray := prog_7_method_28_code
def yX5_one : MethodName := ⟨RX5, "one", "(I)I"⟩
abbrev cX5_putOne : ByteArray := prog_7_method_29_code
def yX5_putOne : MethodName := ⟨RX5, "putOne", "(II)V"⟩
abbrev cX5_putPairHalf : ByteArray := prog_7_method_30_code
def yX5_putPairHalf : MethodName := ⟨RX5, "putPairHalf", "(II)V"⟩
abbrev cX5_holds : ByteArray := prog_7_method_31_code
def yX5_holds : MethodName := ⟨RX5, "holds", "(I)Z"⟩
abbrev cX5_by : ByteArray := prog_7_method_32_code
def yX5_by : MethodName := ⟨RX5, "by", "(I)I"⟩
abbrev cX5_parity : ByteArray := prog_7_method_33_code
def yX5_parity : MethodName := ⟨RX5, "parity", "(I)I"⟩
abbrev cX5_changeWithOther : ByteArray := prog_7_method_34_code
def yX5_changeWithOther : MethodName := ⟨RX5, "changeWithOther", "(I)V"⟩
abbrev cX5_firstQuarter : ByteArray := prog_7_method_35_code
def yX5_firstQuarter : MethodName := ⟨RX5, "firstQuarter", "(I)I"⟩
abbrev cX5_near : ByteArray := prog_7_method_36_code
def yX5_near : MethodName := ⟨RX5, "near", "(I)I"⟩
abbrev cX5_loadPair : ByteArray := prog_7_method_37_code
def yX5_loadPair : MethodName := ⟨RX5, "loadPair", "(I)I"⟩
abbrev cX5_addPair : ByteArray := prog_7_method_38_code
def yX5_addPair : MethodName := ⟨RX5, "addPair", "(I)I"⟩
abbrev cX5_far : ByteArray := prog_7_method_39_code
def yX5_far : MethodName := ⟨RX5, "far", "(I)I"⟩
abbrev cX5_oneMore : ByteArray := prog_7_method_40_code
def yX5_oneMore : MethodName := ⟨RX5, "oneMore", "(I)I"⟩
abbrev cX5_oneLess : ByteArray := prog_7_method_41_code
def yX5_oneLess : MethodName := ⟨RX5, "oneLess", "(I)I"⟩
abbrev cX5_changeA : ByteArray := prog_7_method_42_code
def yX5_changeA : MethodName := ⟨RX5, "changeA", "(I)V"⟩
abbrev cX5_adjustA : ByteArray := prog_7_method_43_code
def yX5_adjustA : MethodName := ⟨RX5, "adjustA", "()V"⟩
abbrev cX5_turn : ByteArray := prog_7_method_44_code
def yX5_turn : MethodName := ⟨RX5, "turn", "(II)I"⟩
abbrev cX5_move : ByteArray := prog_7_method_45_code
def yX5_move : MethodName := ⟨RX5, "move", "(I)I"⟩
abbrev cX5_doWithRegister : ByteArray := prog_7_method_46_code
def yX5_doWithRegister : MethodName := ⟨RX5, "doWithRegister", "(I)I"⟩
abbrev cX5_doWith : ByteArray := prog_7_method_47_code
def yX5_doWith : MethodName := ⟨RX5, "doWith", "(II)V"⟩
abbrev cX5_sum : ByteArray := prog_7_method_48_code
def yX5_sum : MethodName := ⟨RX5, "sum", "(III)I"⟩
abbrev cX5_difference : ByteArray := prog_7_method_49_code
def yX5_difference : MethodName := ⟨RX5, "difference", "(III)I"⟩
abbrev cX5_lastQuarter : ByteArray := prog_7_method_50_code
def yX5_lastQuarter : MethodName := ⟨RX5, "lastQuarter", "(I)I"⟩
abbrev cX5_popPair : ByteArray := prog_7_method_51_code
def yX5_popPair : MethodName := ⟨RX5, "popPair", "(I)I"⟩
abbrev cX5_leave : ByteArray := prog_7_method_52_code
def yX5_leave : MethodName := ⟨RX5, "leave", "(I)I"⟩
abbrev cX5_callIf : ByteArray := prog_7_method_53_code
def yX5_callIf : MethodName := ⟨RX5, "callIf", "(Z)I"⟩
abbrev cX5_exchange : ByteArray := prog_7_method_54_code
def yX5_exchange : MethodName := ⟨RX5, "exchange", "(I)I"⟩
abbrev cX5_turns : ByteArray := prog_7_method_55_code
def yX5_turns : MethodName := ⟨RX5, "turns", "(I)I"⟩
abbrev cX5_turnBeside : ByteArray := prog_7_method_56_code
def yX5_turnBeside : MethodName := ⟨RX5, "turnBeside", "()I"⟩
abbrev cX5_turned : ByteArray := prog_7_method_57_code
def yX5_turned : MethodName := ⟨RX5, "turned", "(II)I"⟩
abbrev cX5_askBit : ByteArray := prog_7_method_58_code
def yX5_askBit : MethodName := ⟨RX5, "askBit", "(III)V"⟩
abbrev cX5_behindEd : ByteArray := prog_7_method_59_code
def yX5_behindEd : MethodName := ⟨RX5, "behindEd", "(I)I"⟩
abbrev cX5_takeFromPort : ByteArray := prog_7_method_60_code
def yX5_takeFromPort : MethodName := ⟨RX5, "takeFromPort", "(I)V"⟩
abbrev cX5_takePair : ByteArray := prog_7_method_61_code
def yX5_takePair : MethodName := ⟨RX5, "takePair", "(I)I"⟩
abbrev cX5_addPairAndCarry : ByteArray := prog_7_method_62_code
def yX5_addPairAndCarry : MethodName := ⟨RX5, "addPairAndCarry", "(I)I"⟩
abbrev cX5_putWide : ByteArray := prog_7_method_63_code
def yX5_putWide : MethodName := ⟨RX5, "putWide", "(III)V"⟩
abbrev cX5_farPair : ByteArray := prog_7_method_64_code
def yX5_farPair : MethodName := ⟨RX5, "farPair", "(I)I"⟩
abbrev cX5_moreOfA : ByteArray := prog_7_method_65_code
def yX5_moreOfA : MethodName := ⟨RX5, "moreOfA", "(I)I"⟩
abbrev cX5_turnDigits : ByteArray := prog_7_method_66_code
def yX5_turnDigits : MethodName := ⟨RX5, "turnDigits", "(Z)V"⟩
abbrev cX5_block : ByteArray := prog_7_method_67_code
def yX5_block : MethodName := ⟨RX5, "block", "(I)I"⟩
abbrev cX5_copyOne : ByteArray := prog_7_method_68_code
def yX5_copyOne : MethodName := ⟨RX5, "copyOne", "(I)Z"⟩
abbrev cX5_compareOne : ByteArray := prog_7_method_69_code
def yX5_compareOne : MethodName := ⟨RX5, "compareOne", "(I)Z"⟩
abbrev cX5_takeOne : ByteArray := prog_7_method_70_code
def yX5_takeOne : MethodName := ⟨RX5, "takeOne", "(I)Z"⟩
abbrev cX5_giveOne : ByteArray := prog_7_method_71_code
def yX5_giveOne : MethodName := ⟨RX5, "giveOne", "(I)Z"⟩
abbrev cX5_tellOfPort : ByteArray := prog_7_method_72_code
def yX5_tellOfPort : MethodName := ⟨RX5, "tellOfPort", "(II)V"⟩
def RX6 : String := "PadConsole$Ring"
def TX6 : u_T := fun k => match k with
  | 0 => ("PadConsole$Ring", "values", "[J", true)
  | 1 => ("PadConsole$Ring", "kept", "[J", true)
  | 2 => ("PadConsole$Ring", "first", "I", false)
  | 3 => ("PadConsole$Ring", "count", "I", false)
  | 4 => ("PadConsole$Ring", "firstKept", "I", false)
  | _ => ("PadConsole$Ring", "countKept", "I", false)
def tyX6 : Nat → FieldType := fun k => match k with
  | 0 => .array .long
  | 1 => .array .long
  | 2 => .int
  | 3 => .int
  | 4 => .int
  | _ => .int
abbrev wsX60 : List Cond := u_ws RX6 TX6 6
theorem nmX6 : ∀ a, a < 6 → ∀ b, b < 6 → a ≠ b → (TX6 a).2.1 ≠ (TX6 b).2.1 := by decide +kernel
theorem tyX6_ok : ∀ k, k < 6 → parseFieldDescriptor (TX6 k).2.2.1 = some (tyX6 k) := by decide +kernel
abbrev cX6_init : ByteArray := prog_8_method_1_code
def yX6_init : MethodName := ⟨RX6, "<init>", "()V"⟩
abbrev cX6_add : ByteArray := prog_8_method_2_code
def yX6_add : MethodName := ⟨RX6, "add", "(J)V"⟩
abbrev cX6_size : ByteArray := prog_8_method_3_code
def yX6_size : MethodName := ⟨RX6, "size", "()I"⟩
abbrev cX6_takeFirst : ByteArray := prog_8_method_4_code
def yX6_takeFirst : MethodName := ⟨RX6, "takeFirst", "()J"⟩
abbrev cX6_keep : ByteArray := prog_8_method_5_code
def yX6_keep : MethodName := ⟨RX6, "keep", "()V"⟩
abbrev cX6_bringBack : ByteArray := prog_8_method_6_code
def yX6_bringBack : MethodName := ⟨RX6, "bringBack", "()V"⟩
def RX7 : String := "PadConsole$Sound"
def TX7 : u_T := fun k => match k with
  | 0 => ("PadConsole$Sound", "s", "[I", true)
  | _ => ("PadConsole$Sound", "kept", "[I", true)
def tyX7 : Nat → FieldType := fun k => match k with
  | 0 => .array .int
  | _ => .array .int
abbrev wsX70 : List Cond := u_ws RX7 TX7 2
theorem nmX7 : ∀ a, a < 2 → ∀ b, b < 2 → a ≠ b → (TX7 a).2.1 ≠ (TX7 b).2.1 := by decide +kernel
theorem tyX7_ok : ∀ k, k < 2 → parseFieldDescriptor (TX7 k).2.2.1 = some (tyX7 k) := by decide +kernel
abbrev cX7_init : ByteArray := prog_9_method_1_code
def yX7_init : MethodName := ⟨RX7, "<init>", "()V"⟩
abbrev cX7_clear : ByteArray := prog_9_method_2_code
def yX7_clear : MethodName := ⟨RX7, "clear", "()V"⟩
abbrev cX7_keep : ByteArray := prog_9_method_3_code
def yX7_keep : MethodName := ⟨RX7, "keep", "()V"⟩
abbrev cX7_bringBack : ByteArray := prog_9_method_4_code
def yX7_bringBack : MethodName := ⟨RX7, "bringBack", "()V"⟩
abbrev cX7_value : ByteArray := prog_9_method_5_code
def yX7_value : MethodName := ⟨RX7, "value", "(I)I"⟩
abbrev cX7_takeStereo : ByteArray := prog_9_method_6_code
def yX7_takeStereo : MethodName := ⟨RX7, "takeStereo", "(I)V"⟩
abbrev cX7_take : ByteArray := prog_9_method_7_code
def yX7_take : MethodName := ⟨RX7, "take", "(I)V"⟩
abbrev cX7_nextSample : ByteArray := prog_9_method_8_code
def yX7_nextSample : MethodName := ⟨RX7, "nextSample", "()I"⟩
abbrev cX7_moveTone : ByteArray := prog_9_method_9_code
def yX7_moveTone : MethodName := ⟨RX7, "moveTone", "(I)V"⟩
abbrev cX7_moveNoise : ByteArray := prog_9_method_10_code
def yX7_moveNoise : MethodName := ⟨RX7, "moveNoise", "()V"⟩
def RX8 : String := "PadConsole$Teller"
def TX8 : u_T := fun k => match k with
  | 0 => ("PadConsole$Teller", "memory", "LPadConsole$Memory;", true)
  | 1 => ("PadConsole$Teller", "signs", "[I", true)
  | 2 => ("PadConsole$Teller", "length", "I", false)
  | 3 => ("PadConsole$Teller", "at", "I", false)
  | 4 => ("PadConsole$Teller", "count", "I", false)
  | 5 => ("PadConsole$Teller", "x", "I", false)
  | 6 => ("PadConsole$Teller", "y", "I", false)
  | 7 => ("PadConsole$Teller", "z", "I", false)
  | 8 => ("PadConsole$Teller", "prefix", "I", false)
  | 9 => ("PadConsole$Teller", "beside", "Z", false)
  | _ => ("PadConsole$Teller", "early", "I", false)
def tyX8 : Nat → FieldType := fun k => match k with
  | 0 => .object "PadConsole$Memory"
  | 1 => .array .int
  | 2 => .int
  | 3 => .int
  | 4 => .int
  | 5 => .int
  | 6 => .int
  | 7 => .int
  | 8 => .int
  | 9 => .boolean
  | _ => .int
abbrev wsX80 : List Cond := u_ws RX8 TX8 11
theorem nmX8 : ∀ a, a < 11 → ∀ b, b < 11 → a ≠ b → (TX8 a).2.1 ≠ (TX8 b).2.1 := by decide +kernel
theorem tyX8_ok : ∀ k, k < 11 → parseFieldDescriptor (TX8 k).2.2.1 = some (tyX8 k) := by decide +kernel
abbrev cX8_init : ByteArray := prog_10_method_1_code
def yX8_init : MethodName := ⟨RX8, "<init>", "(LPadConsole$Memory;)V"⟩
abbrev cX8_write : ByteArray := prog_10_method_2_code
def yX8_write : MethodName := ⟨RX8, "write", "(I)I"⟩
abbrev cX8_take : ByteArray := prog_10_method_3_code
def yX8_take : MethodName := ⟨RX8, "take", "()I"⟩
abbrev cX8_split : ByteArray := prog_10_method_4_code
def yX8_split : MethodName := ⟨RX8, "split", "(I)V"⟩
abbrev cX8_eightFrom : ByteArray := prog_10_method_5_code
def yX8_eightFrom : MethodName := ⟨RX8, "eightFrom", "(I)J"⟩
abbrev cX8_patternsOf : ByteArray := prog_10_method_6_code
def yX8_patternsOf : MethodName := ⟨RX8, "patternsOf", "(I)Ljava/lang/String;"⟩
abbrev cX8_firstPatterns : ByteArray := prog_10_method_7_code
def yX8_firstPatterns : MethodName := ⟨RX8, "firstPatterns", "()Ljava/lang/String;"⟩
abbrev cX8_lastPatterns : ByteArray := prog_10_method_8_code
def yX8_lastPatterns : MethodName := ⟨RX8, "lastPatterns", "()Ljava/lang/String;"⟩
abbrev cX8_turnPatterns : ByteArray := prog_10_method_9_code
def yX8_turnPatterns : MethodName := ⟨RX8, "turnPatterns", "()Ljava/lang/String;"⟩
abbrev cX8_blockPatterns : ByteArray := prog_10_method_10_code
def yX8_blockPatterns : MethodName := ⟨RX8, "blockPatterns", "()Ljava/lang/String;"⟩
abbrev cX8_morePatterns : ByteArray := prog_10_method_11_code
def yX8_morePatterns : MethodName := ⟨RX8, "morePatterns", "()Ljava/lang/String;"⟩
abbrev cX8_put : ByteArray := prog_10_method_12_code
def yX8_put : MethodName := ⟨RX8, "put", "(Ljava/lang/String;)V"⟩
abbrev cX8_putSign : ByteArray := prog_10_method_13_code
def yX8_putSign : MethodName := ⟨RX8, "putSign", "(I)V"⟩
abbrev cX8_putMeant : ByteArray := prog_10_method_14_code
def yX8_putMeant : MethodName := ⟨RX8, "putMeant", "(I)V"⟩
abbrev cX8_putName : ByteArray := prog_10_method_15_code
def yX8_putName : MethodName := ⟨RX8, "putName", "(Ljava/lang/String;I)V"⟩
abbrev cX8_putOne : ByteArray := prog_10_method_16_code
def yX8_putOne : MethodName := ⟨RX8, "putOne", "(I)V"⟩
abbrev cX8_putTurned : ByteArray := prog_10_method_17_code
def yX8_putTurned : MethodName := ⟨RX8, "putTurned", "()V"⟩
abbrev cX8_putPair : ByteArray := prog_10_method_18_code
def yX8_putPair : MethodName := ⟨RX8, "putPair", "(Ljava/lang/String;)V"⟩
abbrev cX8_putHl : ByteArray := prog_10_method_19_code
def yX8_putHl : MethodName := ⟨RX8, "putHl", "()V"⟩
abbrev cX8_putPlace : ByteArray := prog_10_method_20_code
def yX8_putPlace : MethodName := ⟨RX8, "putPlace", "(I)V"⟩
abbrev cX8_putByte : ByteArray := prog_10_method_21_code
def yX8_putByte : MethodName := ⟨RX8, "putByte", "(I)V"⟩
abbrev cX8_putWord : ByteArray := prog_10_method_22_code
def yX8_putWord : MethodName := ⟨RX8, "putWord", "(I)V"⟩
def RX9 : String := "PadConsole$Video"
def TX9 : u_T := fun k => match k with
  | 0 => ("PadConsole$Video", "handy", "Z", true)
  | 1 => ("PadConsole$Video", "lines", "I", true)
  | 2 => ("PadConsole$Video", "vram", "[I", true)
  | 3 => ("PadConsole$Video", "vramKept", "[I", true)
  | 4 => ("PadConsole$Video", "s", "[I", true)
  | _ => ("PadConsole$Video", "kept", "[I", true)
def tyX9 : Nat → FieldType := fun k => match k with
  | 0 => .boolean
  | 1 => .int
  | 2 => .array .int
  | 3 => .array .int
  | 4 => .array .int
  | _ => .array .int
abbrev wsX90 : List Cond := u_ws RX9 TX9 6
theorem nmX9 : ∀ a, a < 6 → ∀ b, b < 6 → a ≠ b → (TX9 a).2.1 ≠ (TX9 b).2.1 := by decide +kernel
theorem tyX9_ok : ∀ k, k < 6 → parseFieldDescriptor (TX9 k).2.2.1 = some (tyX9 k) := by decide +kernel
abbrev cX9_init : ByteArray := prog_11_method_1_code
def yX9_init : MethodName := ⟨RX9, "<init>", "(ZI)V"⟩
abbrev cX9_clear : ByteArray := prog_11_method_2_code
def yX9_clear : MethodName := ⟨RX9, "clear", "()V"⟩
abbrev cX9_keep : ByteArray := prog_11_method_3_code
def yX9_keep : MethodName := ⟨RX9, "keep", "()V"⟩
abbrev cX9_bringBack : ByteArray := prog_11_method_4_code
def yX9_bringBack : MethodName := ⟨RX9, "bringBack", "()V"⟩
abbrev cX9_has : ByteArray := prog_11_method_5_code
def yX9_has : MethodName := ⟨RX9, "has", "(I)Z"⟩
abbrev cX9_value : ByteArray := prog_11_method_6_code
def yX9_value : MethodName := ⟨RX9, "value", "(I)I"⟩
abbrev cX9_held : ByteArray := prog_11_method_7_code
def yX9_held : MethodName := ⟨RX9, "held", "(I)I"⟩
abbrev cX9_vramByte : ByteArray := prog_11_method_8_code
def yX9_vramByte : MethodName := ⟨RX9, "vramByte", "(I)I"⟩
abbrev cX9_eightFrom : ByteArray := prog_11_method_9_code
def yX9_eightFrom : MethodName := ⟨RX9, "eightFrom", "(I)J"⟩
abbrev cX9_mark : ByteArray := prog_11_method_10_code
def yX9_mark : MethodName := ⟨RX9, "mark", "(I)V"⟩
abbrev cX9_markFifth : ByteArray := prog_11_method_11_code
def yX9_markFifth : MethodName := ⟨RX9, "markFifth", "(I)V"⟩
abbrev cX9_writeControl : ByteArray := prog_11_method_12_code
def yX9_writeControl : MethodName := ⟨RX9, "writeControl", "(I)V"⟩
abbrev cX9_readAhead : ByteArray := prog_11_method_13_code
def yX9_readAhead : MethodName := ⟨RX9, "readAhead", "()V"⟩
abbrev cX9_readStatus : ByteArray := prog_11_method_14_code
def yX9_readStatus : MethodName := ⟨RX9, "readStatus", "()I"⟩
abbrev cX9_readData : ByteArray := prog_11_method_15_code
def yX9_readData : MethodName := ⟨RX9, "readData", "()I"⟩
abbrev cX9_writeData : ByteArray := prog_11_method_16_code
def yX9_writeData : MethodName := ⟨RX9, "writeData", "(I)V"⟩
abbrev cX9_writeColour : ByteArray := prog_11_method_17_code
def yX9_writeColour : MethodName := ⟨RX9, "writeColour", "(II)V"⟩
abbrev cX9_asks : ByteArray := prog_11_method_18_code
def yX9_asks : MethodName := ⟨RX9, "asks", "()Z"⟩
abbrev cX9_mode : ByteArray := prog_11_method_19_code
def yX9_mode : MethodName := ⟨RX9, "mode", "()I"⟩
abbrev cX9_height : ByteArray := prog_11_method_20_code
def yX9_height : MethodName := ⟨RX9, "height", "()I"⟩
abbrev cX9_hCount : ByteArray := prog_11_method_21_code
def yX9_hCount : MethodName := ⟨RX9, "hCount", "()I"⟩
abbrev cX9_vCount : ByteArray := prog_11_method_22_code
def yX9_vCount : MethodName := ⟨RX9, "vCount", "()I"⟩
abbrev cX9_passes : ByteArray := prog_11_method_23_code
def yX9_passes : MethodName := ⟨RX9, "passes", "(I)Z"⟩
abbrev cX9_goesToNextLine : ByteArray := prog_11_method_24_code
def yX9_goesToNextLine : MethodName := ⟨RX9, "goesToNextLine", "()Z"⟩
def RX10 : String := "PadConsole$Waves"
def TX10 : u_T := fun k => match k with
  | 0 => ("PadConsole$Waves", "s", "[I", true)
  | 1 => ("PadConsole$Waves", "kept", "[I", true)
  | 2 => ("PadConsole$Waves", "rhythm", "Z", false)
  | 3 => ("PadConsole$Waves", "channel", "I", false)
  | 4 => ("PadConsole$Waves", "f", "I", false)
  | 5 => ("PadConsole$Waves", "block", "I", false)
  | 6 => ("PadConsole$Waves", "patch", "J", false)
  | _ => ("PadConsole$Waves", "ownPatch", "J", false)
def tyX10 : Nat → FieldType := fun k => match k with
  | 0 => .array .int
  | 1 => .array .int
  | 2 => .boolean
  | 3 => .int
  | 4 => .int
  | 5 => .int
  | 6 => .long
  | _ => .long
abbrev wsX100 : List Cond := u_ws RX10 TX10 8
theorem nmX10 : ∀ a, a < 8 → ∀ b, b < 8 → a ≠ b → (TX10 a).2.1 ≠ (TX10 b).2.1 := by decide +kernel
theorem tyX10_ok : ∀ k, k < 8 → parseFieldDescriptor (TX10 k).2.2.1 = some (tyX10 k) := by decide +kernel
abbrev cX10_init : ByteArray := prog_12_method_1_code
def yX10_init : MethodName := ⟨RX10, "<init>", "()V"⟩
abbrev cX10_clear : ByteArray := prog_12_method_2_code
def yX10_clear : MethodName := ⟨RX10, "clear", "()V"⟩
abbrev cX10_keep : ByteArray := prog_12_method_3_code
def yX10_keep : MethodName := ⟨RX10, "keep", "()V"⟩
abbrev cX10_bringBack : ByteArray := prog_12_method_4_code
def yX10_bringBack : MethodName := ⟨RX10, "bringBack", "()V"⟩
abbrev cX10_has : ByteArray := prog_12_method_5_code
def yX10_has : MethodName := ⟨RX10, "has", "(I)Z"⟩
abbrev cX10_value : ByteArray := prog_12_method_6_code
def yX10_value : MethodName := ⟨RX10, "value", "(I)I"⟩
abbrev cX10_heard : ByteArray := prog_12_method_7_code
def yX10_heard : MethodName := ⟨RX10, "heard", "()I"⟩
abbrev cX10_take : ByteArray := prog_12_method_8_code
def yX10_take : MethodName := ⟨RX10, "take", "(II)V"⟩
abbrev cX10_makeNext : ByteArray := prog_12_method_9_code
def yX10_makeNext : MethodName := ⟨RX10, "makeNext", "()V"⟩
abbrev cX10_takeChannel : ByteArray := prog_12_method_10_code
def yX10_takeChannel : MethodName := ⟨RX10, "takeChannel", "(I)V"⟩
abbrev cX10_takeOwnPatch : ByteArray := prog_12_method_11_code
def yX10_takeOwnPatch : MethodName := ⟨RX10, "takeOwnPatch", "()V"⟩
abbrev cX10_part : ByteArray := prog_12_method_12_code
def yX10_part : MethodName := ⟨RX10, "part", "(I)I"⟩
abbrev cX10_moveOperator : ByteArray := prog_12_method_13_code
def yX10_moveOperator : MethodName := ⟨RX10, "moveOperator", "(II)V"⟩
abbrev cX10_moveOut : ByteArray := prog_12_method_14_code
def yX10_moveOut : MethodName := ⟨RX10, "moveOut", "(II)V"⟩
abbrev cX10_isOn : ByteArray := prog_12_method_15_code
def yX10_isOn : MethodName := ⟨RX10, "isOn", "(I)Z"⟩
abbrev cX10_rateIn : ByteArray := prog_12_method_16_code
def yX10_rateIn : MethodName := ⟨RX10, "rateIn", "(II)I"⟩
abbrev cX10_moveLevel : ByteArray := prog_12_method_17_code
def yX10_moveLevel : MethodName := ⟨RX10, "moveLevel", "(II)V"⟩
abbrev cX10_louder : ByteArray := prog_12_method_18_code
def yX10_louder : MethodName := ⟨RX10, "louder", "(III)I"⟩
abbrev cX10_softer : ByteArray := prog_12_method_19_code
def yX10_softer : MethodName := ⟨RX10, "softer", "(II)I"⟩
abbrev cX10_slowTick : ByteArray := prog_12_method_20_code
def yX10_slowTick : MethodName := ⟨RX10, "slowTick", "()I"⟩
abbrev cX10_tickAt : ByteArray := prog_12_method_21_code
def yX10_tickAt : MethodName := ⟨RX10, "tickAt", "(II)I"⟩
abbrev cX10_moveState : ByteArray := prog_12_method_22_code
def yX10_moveState : MethodName := ⟨RX10, "moveState", "(II)V"⟩
abbrev cX10_movePhase : ByteArray := prog_12_method_23_code
def yX10_movePhase : MethodName := ⟨RX10, "movePhase", "(II)V"⟩
abbrev cX10_sway : ByteArray := prog_12_method_24_code
def yX10_sway : MethodName := ⟨RX10, "sway", "(I)I"⟩
abbrev cX10_turnedPhase : ByteArray := prog_12_method_25_code
def yX10_turnedPhase : MethodName := ⟨RX10, "turnedPhase", "(II)I"⟩
abbrev cX10_drumPhase : ByteArray := prog_12_method_26_code
def yX10_drumPhase : MethodName := ⟨RX10, "drumPhase", "(II)I"⟩
abbrev cX10_waveAt : ByteArray := prog_12_method_27_code
def yX10_waveAt : MethodName := ⟨RX10, "waveAt", "(IIZ)I"⟩
abbrev cX10_softness : ByteArray := prog_12_method_28_code
def yX10_softness : MethodName := ⟨RX10, "softness", "(II)I"⟩
abbrev cX10_tremble : ByteArray := prog_12_method_29_code
def yX10_tremble : MethodName := ⟨RX10, "tremble", "()I"⟩
abbrev cX10_scaled : ByteArray := prog_12_method_30_code
def yX10_scaled : MethodName := ⟨RX10, "scaled", "(I)I"⟩
def RX11 : String := "PadConsole"
def TX11 : u_T := fun k => match k with
  | 0 => ("PadConsole", "handy", "Z", true)
  | 1 => ("PadConsole", "memory", "LPadConsole$Memory;", true)
  | 2 => ("PadConsole", "screen", "LPadConsole$Video;", true)
  | 3 => ("PadConsole", "painter", "LPadConsole$Painter;", true)
  | 4 => ("PadConsole", "tones", "LPadConsole$Sound;", true)
  | 5 => ("PadConsole", "synth", "LPadConsole$Waves;", true)
  | 6 => ("PadConsole", "ports", "LPadConsole$Ports;", true)
  | 7 => ("PadConsole", "processor", "LPadConsole$Processor;", true)
  | 8 => ("PadConsole", "clock", "LPadConsole$Clock;", true)
  | 9 => ("PadConsole", "desk", "LPadConsole$Desk;", true)
  | 10 => ("PadConsole", "teller", "LPadConsole$Teller;", true)
  | _ => ("PadConsole", "saved", "Z", false)
def tyX11 : Nat → FieldType := fun k => match k with
  | 0 => .boolean
  | 1 => .object "PadConsole$Memory"
  | 2 => .object "PadConsole$Video"
  | 3 => .object "PadConsole$Painter"
  | 4 => .object "PadConsole$Sound"
  | 5 => .object "PadConsole$Waves"
  | 6 => .object "PadConsole$Ports"
  | 7 => .object "PadConsole$Processor"
  | 8 => .object "PadConsole$Clock"
  | 9 => .object "PadConsole$Desk"
  | 10 => .object "PadConsole$Teller"
  | _ => .boolean
abbrev wsX110 : List Cond := u_ws RX11 TX11 12
theorem nmX11 : ∀ a, a < 12 → ∀ b, b < 12 → a ≠ b → (TX11 a).2.1 ≠ (TX11 b).2.1 := by decide +kernel
theorem tyX11_ok : ∀ k, k < 12 → parseFieldDescriptor (TX11 k).2.2.1 = some (tyX11 k) := by decide +kernel
abbrev cX11_init : ByteArray := prog_1_method_1_code
def yX11_init : MethodName := ⟨RX11, "<init>", "(I)V"⟩
abbrev cX11_feed : ByteArray := prog_1_method_2_code
def yX11_feed : MethodName := ⟨RX11, "feed", "(IJJJ)I"⟩
abbrev cX11_grow : ByteArray := prog_1_method_3_code
def yX11_grow : MethodName := ⟨RX11, "grow", "(I)I"⟩
abbrev cX11_patch : ByteArray := prog_1_method_4_code
def yX11_patch : MethodName := ⟨RX11, "patch", "(IJ)V"⟩
abbrev cX11_load : ByteArray := prog_1_method_5_code
def yX11_load : MethodName := ⟨RX11, "load", "()I"⟩
abbrev cX11_card : ByteArray := prog_1_method_6_code
def yX11_card : MethodName := ⟨RX11, "card", "(I)I"⟩
abbrev cX11_step : ByteArray := prog_1_method_7_code
def yX11_step : MethodName := ⟨RX11, "step", "(I)I"⟩
abbrev cX11_picture : ByteArray := prog_1_method_8_code
def yX11_picture : MethodName := ⟨RX11, "picture", "(I)I"⟩
abbrev cX11_reset : ByteArray := prog_1_method_9_code
def yX11_reset : MethodName := ⟨RX11, "reset", "()V"⟩
abbrev cX11_pause : ByteArray := prog_1_method_10_code
def yX11_pause : MethodName := ⟨RX11, "pause", "()Z"⟩
abbrev cX11_press : ByteArray := prog_1_method_11_code
def yX11_press : MethodName := ⟨RX11, "press", "(II)V"⟩
abbrev cX11_start : ByteArray := prog_1_method_12_code
def yX11_start : MethodName := ⟨RX11, "start", "(Z)V"⟩
abbrev cX11_line : ByteArray := prog_1_method_13_code
def yX11_line : MethodName := ⟨RX11, "line", "(IZ)V"⟩
abbrev cX11_plan : ByteArray := prog_1_method_14_code
def yX11_plan : MethodName := ⟨RX11, "plan", "(III)I"⟩
abbrev cX11_tell : ByteArray := prog_1_method_15_code
def yX11_tell : MethodName := ⟨RX11, "tell", "(I)I"⟩
abbrev cX11_text : ByteArray := prog_1_method_16_code
def yX11_text : MethodName := ⟨RX11, "text", "(I)J"⟩
abbrev cX11_stop : ByteArray := prog_1_method_17_code
def yX11_stop : MethodName := ⟨RX11, "stop", "(IZ)I"⟩
abbrev cX11_save : ByteArray := prog_1_method_18_code
def yX11_save : MethodName := ⟨RX11, "save", "()V"⟩
abbrev cX11_restore : ByteArray := prog_1_method_19_code
def yX11_restore : MethodName := ⟨RX11, "restore", "()V"⟩
abbrev cX11_register : ByteArray := prog_1_method_20_code
def yX11_register : MethodName := ⟨RX11, "register", "(I)I"⟩
abbrev cX11_set : ByteArray := prog_1_method_21_code
def yX11_set : MethodName := ⟨RX11, "set", "(II)V"⟩
abbrev cX11_peek : ByteArray := prog_1_method_22_code
def yX11_peek : MethodName := ⟨RX11, "peek", "(I)I"⟩
abbrev cX11_poke : ByteArray := prog_1_method_23_code
def yX11_poke : MethodName := ⟨RX11, "poke", "(II)V"⟩
abbrev cX11_in : ByteArray := prog_1_method_24_code
def yX11_in : MethodName := ⟨RX11, "in", "(I)I"⟩
abbrev cX11_out : ByteArray := prog_1_method_25_code
def yX11_out : MethodName := ⟨RX11, "out", "(II)V"⟩
abbrev cX11_battery : ByteArray := prog_1_method_26_code
def yX11_battery : MethodName := ⟨RX11, "battery", "(I)I"⟩
abbrev cX11_wipe : ByteArray := prog_1_method_27_code
def yX11_wipe : MethodName := ⟨RX11, "wipe", "()V"⟩
abbrev cX11_video : ByteArray := prog_1_method_28_code
def yX11_video : MethodName := ⟨RX11, "video", "(I)J"⟩
abbrev cX11_chip : ByteArray := prog_1_method_29_code
def yX11_chip : MethodName := ⟨RX11, "chip", "(I)I"⟩
abbrev cX11_dot : ByteArray := prog_1_method_30_code
def yX11_dot : MethodName := ⟨RX11, "dot", "(II)I"⟩
abbrev cX11_row : ByteArray := prog_1_method_31_code
def yX11_row : MethodName := ⟨RX11, "row", "(I)I"⟩
abbrev cX11_hear : ByteArray := prog_1_method_32_code
def yX11_hear : MethodName := ⟨RX11, "hear", "()J"⟩
abbrev cX11_mix : ByteArray := prog_1_method_33_code
def yX11_mix : MethodName := ⟨RX11, "mix", "()J"⟩
abbrev cX11_wave : ByteArray := prog_1_method_34_code
def yX11_wave : MethodName := ⟨RX11, "wave", "(I)I"⟩
abbrev cX11_sound : ByteArray := prog_1_method_35_code
def yX11_sound : MethodName := ⟨RX11, "sound", "(I)I"⟩
abbrev cX11_trace : ByteArray := prog_1_method_36_code
def yX11_trace : MethodName := ⟨RX11, "trace", "(I)I"⟩
abbrev cX11_look : ByteArray := prog_1_method_37_code
def yX11_look : MethodName := ⟨RX11, "look", "(I)J"⟩
abbrev cX11_clearAll : ByteArray := prog_1_method_38_code
def yX11_clearAll : MethodName := ⟨RX11, "clearAll", "()V"⟩
abbrev cX11_run : ByteArray := prog_1_method_39_code
def yX11_run : MethodName := ⟨RX11, "run", "(II)I"⟩
abbrev cX11_endLine : ByteArray := prog_1_method_40_code
def yX11_endLine : MethodName := ⟨RX11, "endLine", "()V"⟩
def RX12 : String := "PadConsoleModel"
def TX12 : u_T := fun k => match k with
  | 0 => ("PadConsoleModel", "thrown", "I", false)
  | 1 => ("PadConsoleModel", "tape", "[B", true)
  | 2 => ("PadConsoleModel", "taped", "I", false)
  | 3 => ("PadConsoleModel", "kind", "I", true)
  | 4 => ("PadConsoleModel", "cartridge", "[B", true)
  | 5 => ("PadConsoleModel", "size", "I", false)
  | 6 => ("PadConsoleModel", "banks", "I", false)
  | 7 => ("PadConsoleModel", "paging", "I", false)
  | 8 => ("PadConsoleModel", "header", "I", false)
  | 9 => ("PadConsoleModel", "sum", "I", false)
  | 10 => ("PadConsoleModel", "n", "[I", true)
  | 11 => ("PadConsoleModel", "all", "[J", true)
  | 12 => ("PadConsoleModel", "ram", "[B", true)
  | 13 => ("PadConsoleModel", "battery", "[B", true)
  | 14 => ("PadConsoleModel", "vram", "[B", true)
  | 15 => ("PadConsoleModel", "cram", "[B", true)
  | 16 => ("PadConsoleModel", "dots", "[I", true)
  | 17 => ("PadConsoleModel", "samples", "[J", true)
  | 18 => ("PadConsoleModel", "mixes", "[J", true)
  | 19 => ("PadConsoleModel", "saved", "Z", false)
  | 20 => ("PadConsoleModel", "savedN", "[I", true)
  | 21 => ("PadConsoleModel", "savedAll", "[J", true)
  | 22 => ("PadConsoleModel", "savedRam", "[B", true)
  | 23 => ("PadConsoleModel", "savedBattery", "[B", true)
  | 24 => ("PadConsoleModel", "savedVram", "[B", true)
  | 25 => ("PadConsoleModel", "savedCram", "[B", true)
  | 26 => ("PadConsoleModel", "savedDots", "[I", true)
  | 27 => ("PadConsoleModel", "savedSamples", "[J", true)
  | 28 => ("PadConsoleModel", "savedMixes", "[J", true)
  | 29 => ("PadConsoleModel", "trace", "[I", true)
  | 30 => ("PadConsoleModel", "traced", "J", false)
  | 31 => ("PadConsoleModel", "instead", "I", false)
  | 32 => ("PadConsoleModel", "far", "Z", false)
  | 33 => ("PadConsoleModel", "came", "I", false)
  | 34 => ("PadConsoleModel", "line", "[I", true)
  | 35 => ("PadConsoleModel", "ahead", "[Z", true)
  | 36 => ("PadConsoleModel", "over", "[I", true)
  | 37 => ("PadConsoleModel", "one", "[Z", true)
  | 38 => ("PadConsoleModel", "text", "[I", true)
  | 39 => ("PadConsoleModel", "signs", "I", false)
  | 40 => ("PadConsoleModel", "from", "I", false)
  | 41 => ("PadConsoleModel", "index", "I", false)
  | 42 => ("PadConsoleModel", "placed", "Z", false)
  | _ => ("PadConsoleModel", "distance", "I", false)
def tyX12 : Nat → FieldType := fun k => match k with
  | 0 => .int
  | 1 => .array .byte
  | 2 => .int
  | 3 => .int
  | 4 => .array .byte
  | 5 => .int
  | 6 => .int
  | 7 => .int
  | 8 => .int
  | 9 => .int
  | 10 => .array .int
  | 11 => .array .long
  | 12 => .array .byte
  | 13 => .array .byte
  | 14 => .array .byte
  | 15 => .array .byte
  | 16 => .array .int
  | 17 => .array .long
  | 18 => .array .long
  | 19 => .boolean
  | 20 => .array .int
  | 21 => .array .long
  | 22 => .array .byte
  | 23 => .array .byte
  | 24 => .array .byte
  | 25 => .array .byte
  | 26 => .array .int
  | 27 => .array .long
  | 28 => .array .long
  | 29 => .array .int
  | 30 => .long
  | 31 => .int
  | 32 => .boolean
  | 33 => .int
  | 34 => .array .int
  | 35 => .array .boolean
  | 36 => .array .int
  | 37 => .array .boolean
  | 38 => .array .int
  | 39 => .int
  | 40 => .int
  | 41 => .int
  | 42 => .boolean
  | _ => .int
abbrev wsX120 : List Cond := u_ws RX12 TX12 44
theorem nmX12 : ∀ a, a < 44 → ∀ b, b < 44 → a ≠ b → (TX12 a).2.1 ≠ (TX12 b).2.1 := by decide +kernel
theorem tyX12_ok : ∀ k, k < 44 → parseFieldDescriptor (TX12 k).2.2.1 = some (tyX12 k) := by decide +kernel
abbrev cX12_init : ByteArray := prog_14_method_1_code
def yX12_init : MethodName := ⟨RX12, "<init>", "(I)V"⟩
abbrev cX12_thrown : ByteArray := prog_14_method_2_code
def yX12_thrown : MethodName := ⟨RX12, "thrown", "()I"⟩
abbrev cX12_fails : ByteArray := prog_14_method_3_code
def yX12_fails : MethodName := ⟨RX12, "fails", "(ZI)Z"⟩
abbrev cX12_within : ByteArray := prog_14_method_4_code
def yX12_within : MethodName := ⟨RX12, "within", "(JJJ)Z"⟩
abbrev cX12_feed : ByteArray := prog_14_method_5_code
def yX12_feed : MethodName := ⟨RX12, "feed", "(IJJJ)I"⟩
abbrev cX12_grow : ByteArray := prog_14_method_6_code
def yX12_grow : MethodName := ⟨RX12, "grow", "(I)I"⟩
abbrev cX12_patch : ByteArray := prog_14_method_7_code
def yX12_patch : MethodName := ⟨RX12, "patch", "(IJ)V"⟩
abbrev cX12_bytesAt : ByteArray := prog_14_method_8_code
def yX12_bytesAt : MethodName := ⟨RX12, "bytesAt", "(II)I"⟩
abbrev cX12_load : ByteArray := prog_14_method_9_code
def yX12_load : MethodName := ⟨RX12, "load", "()I"⟩
abbrev cX12_isHeader : ByteArray := prog_14_method_10_code
def yX12_isHeader : MethodName := ⟨RX12, "isHeader", "(I)Z"⟩
abbrev cX12_tens : ByteArray := prog_14_method_11_code
def yX12_tens : MethodName := ⟨RX12, "tens", "(I)I"⟩
abbrev cX12_card : ByteArray := prog_14_method_12_code
def yX12_card : MethodName := ⟨RX12, "card", "(I)I"⟩
abbrev cX12_ofBank : ByteArray := prog_14_method_13_code
def yX12_ofBank : MethodName := ⟨RX12, "ofBank", "(II)I"⟩
abbrev cX12_isBattery : ByteArray := prog_14_method_14_code
def yX12_isBattery : MethodName := ⟨RX12, "isBattery", "(I)Z"⟩
abbrev cX12_batteryAt : ByteArray := prog_14_method_15_code
def yX12_batteryAt : MethodName := ⟨RX12, "batteryAt", "(I)I"⟩
abbrev cX12_read : ByteArray := prog_14_method_16_code
def yX12_read : MethodName := ⟨RX12, "read", "(I)I"⟩
abbrev cX12_write : ByteArray := prog_14_method_17_code
def yX12_write : MethodName := ⟨RX12, "write", "(II)V"⟩
abbrev cX12_word : ByteArray := prog_14_method_18_code
def yX12_word : MethodName := ⟨RX12, "word", "(I)I"⟩
abbrev cX12_wordTo : ByteArray := prog_14_method_19_code
def yX12_wordTo : MethodName := ⟨RX12, "wordTo", "(II)V"⟩
abbrev cX12_anew : ByteArray := prog_14_method_20_code
def yX12_anew : MethodName := ⟨RX12, "anew", "()V"⟩
abbrev cX12_pair : ByteArray := prog_14_method_21_code
def yX12_pair : MethodName := ⟨RX12, "pair", "(I)I"⟩
abbrev cX12_pairTo : ByteArray := prog_14_method_22_code
def yX12_pairTo : MethodName := ⟨RX12, "pairTo", "(II)V"⟩
abbrev cX12_hl : ByteArray := prog_14_method_23_code
def yX12_hl : MethodName := ⟨RX12, "hl", "()I"⟩
abbrev cX12_hlTo : ByteArray := prog_14_method_24_code
def yX12_hlTo : MethodName := ⟨RX12, "hlTo", "(I)V"⟩
abbrev cX12_rp : ByteArray := prog_14_method_25_code
def yX12_rp : MethodName := ⟨RX12, "rp", "(I)I"⟩
abbrev cX12_rpTo : ByteArray := prog_14_method_26_code
def yX12_rpTo : MethodName := ⟨RX12, "rpTo", "(II)V"⟩
abbrev cX12_m : ByteArray := prog_14_method_27_code
def yX12_m : MethodName := ⟨RX12, "m", "()I"⟩
abbrev cX12_r : ByteArray := prog_14_method_28_code
def yX12_r : MethodName := ⟨RX12, "\x72", "(I)I"⟩
abbrev cX12_rTo : ByteArray := prog_14_method_29_code
def yX12_rTo : MethodName := ⟨RX12, "rTo", "(II)V"⟩
abbrev cX12_put : ByteArray := prog_14_method_30_code
def yX12_put : MethodName := ⟨RX12, "put", "(IZ)V"⟩
abbrev cX12_flag : ByteArray := prog_14_method_31_code
def yX12_flag : MethodName := ⟨RX12, "flag", "(I)I"⟩
abbrev cX12_xy : ByteArray := prog_14_method_32_code
def yX12_xy : MethodName := ⟨RX12, "xy", "(I)V"⟩
abbrev cX12_by : ByteArray := prog_14_method_33_code
def yX12_by : MethodName := ⟨RX12, "by", "(I)V"⟩
abbrev cX12_isEven : ByteArray := prog_14_method_34_code
def yX12_isEven : MethodName := ⟨RX12, "isEven", "(I)Z"⟩
abbrev cX12_cc : ByteArray := prog_14_method_35_code
def yX12_cc : MethodName := ⟨RX12, "cc", "(I)Z"⟩
abbrev cX12_push : ByteArray := prog_14_method_36_code
def yX12_push : MethodName := ⟨RX12, "push", "(I)V"⟩
abbrev cX12_pop : ByteArray := prog_14_method_37_code
def yX12_pop : MethodName := ⟨RX12, "pop", "()I"⟩
abbrev cX12_grows : ByteArray := prog_14_method_38_code
def yX12_grows : MethodName := ⟨RX12, "grows", "()V"⟩
abbrev cX12_next : ByteArray := prog_14_method_39_code
def yX12_next : MethodName := ⟨RX12, "next", "()I"⟩
abbrev cX12_fetch : ByteArray := prog_14_method_40_code
def yX12_fetch : MethodName := ⟨RX12, "fetch", "()I"⟩
abbrev cX12_nextWord : ByteArray := prog_14_method_41_code
def yX12_nextWord : MethodName := ⟨RX12, "nextWord", "()I"⟩
abbrev cX12_signed : ByteArray := prog_14_method_42_code
def yX12_signed : MethodName := ⟨RX12, "signed", "(I)I"⟩
abbrev cX12_call : ByteArray := prog_14_method_43_code
def yX12_call : MethodName := ⟨RX12, "call", "(I)V"⟩
abbrev cX12_instruction : ByteArray := prog_14_method_44_code
def yX12_instruction : MethodName := ⟨RX12, "instruction", "()I"⟩
abbrev cX12_plain : ByteArray := prog_14_method_45_code
def yX12_plain : MethodName := ⟨RX12, "plain", "(I)I"⟩
abbrev cX12_jump : ByteArray := prog_14_method_46_code
def yX12_jump : MethodName := ⟨RX12, "jump", "(I)V"⟩
abbrev cX12_change : ByteArray := prog_14_method_47_code
def yX12_change : MethodName := ⟨RX12, "change", "(II)V"⟩
abbrev cX12_zero : ByteArray := prog_14_method_48_code
def yX12_zero : MethodName := ⟨RX12, "zero", "(II)I"⟩
abbrev cX12_moves : ByteArray := prog_14_method_49_code
def yX12_moves : MethodName := ⟨RX12, "moves", "(IZ)I"⟩
abbrev cX12_singles : ByteArray := prog_14_method_50_code
def yX12_singles : MethodName := ⟨RX12, "singles", "(II)I"⟩
abbrev cX12_adjusts : ByteArray := prog_14_method_51_code
def yX12_adjusts : MethodName := ⟨RX12, "adjusts", "()V"⟩
abbrev cX12_turned : ByteArray := prog_14_method_52_code
def yX12_turned : MethodName := ⟨RX12, "turned", "(II)I"⟩
abbrev cX12_does : ByteArray := prog_14_method_53_code
def yX12_does : MethodName := ⟨RX12, "does", "(II)V"⟩
abbrev cX12_three : ByteArray := prog_14_method_54_code
def yX12_three : MethodName := ⟨RX12, "three", "(II)I"⟩
abbrev cX12_more3 : ByteArray := prog_14_method_55_code
def yX12_more3 : MethodName := ⟨RX12, "more3", "(II)I"⟩
abbrev cX12_prefixed : ByteArray := prog_14_method_56_code
def yX12_prefixed : MethodName := ⟨RX12, "prefixed", "(I)I"⟩
abbrev cX12_turns : ByteArray := prog_14_method_57_code
def yX12_turns : MethodName := ⟨RX12, "turns", "()I"⟩
abbrev cX12_turn : ByteArray := prog_14_method_58_code
def yX12_turn : MethodName := ⟨RX12, "turn", "(I)I"⟩
abbrev cX12_more : ByteArray := prog_14_method_59_code
def yX12_more : MethodName := ⟨RX12, "more", "(I)I"⟩
abbrev cX12_words : ByteArray := prog_14_method_60_code
def yX12_words : MethodName := ⟨RX12, "words", "(IZ)V"⟩
abbrev cX12_specials : ByteArray := prog_14_method_61_code
def yX12_specials : MethodName := ⟨RX12, "specials", "(I)I"⟩
abbrev cX12_blocks : ByteArray := prog_14_method_62_code
def yX12_blocks : MethodName := ⟨RX12, "blocks", "(II)I"⟩
abbrev cX12_lineAt : ByteArray := prog_14_method_63_code
def yX12_lineAt : MethodName := ⟨RX12, "lineAt", "(I)I"⟩
abbrev cX12_without : ByteArray := prog_14_method_64_code
def yX12_without : MethodName := ⟨RX12, "without", "(III)I"⟩
abbrev cX12_port : ByteArray := prog_14_method_65_code
def yX12_port : MethodName := ⟨RX12, "port", "(I)I"⟩
abbrev cX12_portTo : ByteArray := prog_14_method_66_code
def yX12_portTo : MethodName := ⟨RX12, "portTo", "(II)V"⟩
abbrev cX12_once : ByteArray := prog_14_method_67_code
def yX12_once : MethodName := ⟨RX12, "once", "()V"⟩
abbrev cX12_answers : ByteArray := prog_14_method_68_code
def yX12_answers : MethodName := ⟨RX12, "answers", "()V"⟩
abbrev cX12_isStop : ByteArray := prog_14_method_69_code
def yX12_isStop : MethodName := ⟨RX12, "isStop", "(I)Z"⟩
abbrev cX12_step : ByteArray := prog_14_method_70_code
def yX12_step : MethodName := ⟨RX12, "step", "(I)I"⟩
abbrev cX12_picture : ByteArray := prog_14_method_71_code
def yX12_picture : MethodName := ⟨RX12, "picture", "(I)I"⟩
abbrev cX12_reg : ByteArray := prog_14_method_72_code
def yX12_reg : MethodName := ⟨RX12, "reg", "(I)I"⟩
abbrev cX12_bit : ByteArray := prog_14_method_73_code
def yX12_bit : MethodName := ⟨RX12, "bit", "(II)I"⟩
abbrev cX12_asks : ByteArray := prog_14_method_74_code
def yX12_asks : MethodName := ⟨RX12, "asks", "()Z"⟩
abbrev cX12_mode : ByteArray := prog_14_method_75_code
def yX12_mode : MethodName := ⟨RX12, "mode", "()I"⟩
abbrev cX12_height : ByteArray := prog_14_method_76_code
def yX12_height : MethodName := ⟨RX12, "height", "()I"⟩
abbrev cX12_video8 : ByteArray := prog_14_method_77_code
def yX12_video8 : MethodName := ⟨RX12, "video8", "(I)I"⟩
abbrev cX12_further : ByteArray := prog_14_method_78_code
def yX12_further : MethodName := ⟨RX12, "further", "()V"⟩
abbrev cX12_control : ByteArray := prog_14_method_79_code
def yX12_control : MethodName := ⟨RX12, "control", "(I)V"⟩
abbrev cX12_status : ByteArray := prog_14_method_80_code
def yX12_status : MethodName := ⟨RX12, "status", "()I"⟩
abbrev cX12_data : ByteArray := prog_14_method_81_code
def yX12_data : MethodName := ⟨RX12, "data", "()I"⟩
abbrev cX12_dataTo : ByteArray := prog_14_method_82_code
def yX12_dataTo : MethodName := ⟨RX12, "dataTo", "(I)V"⟩
abbrev cX12_hCount : ByteArray := prog_14_method_83_code
def yX12_hCount : MethodName := ⟨RX12, "hCount", "()I"⟩
abbrev cX12_vCount : ByteArray := prog_14_method_84_code
def yX12_vCount : MethodName := ⟨RX12, "vCount", "()I"⟩
abbrev cX12_ends : ByteArray := prog_14_method_85_code
def yX12_ends : MethodName := ⟨RX12, "ends", "()V"⟩
abbrev cX12_draws : ByteArray := prog_14_method_86_code
def yX12_draws : MethodName := ⟨RX12, "draws", "(I)V"⟩
abbrev cX12_tileDot : ByteArray := prog_14_method_87_code
def yX12_tileDot : MethodName := ⟨RX12, "tileDot", "(III)I"⟩
abbrev cX12_tile : ByteArray := prog_14_method_88_code
def yX12_tile : MethodName := ⟨RX12, "tile", "(II)V"⟩
abbrev cX12_sprites : ByteArray := prog_14_method_89_code
def yX12_sprites : MethodName := ⟨RX12, "sprites", "(I)V"⟩
abbrev cX12_old : ByteArray := prog_14_method_90_code
def yX12_old : MethodName := ⟨RX12, "old", "(II)I"⟩
abbrev cX12_oldSprites : ByteArray := prog_14_method_91_code
def yX12_oldSprites : MethodName := ⟨RX12, "oldSprites", "(I)V"⟩
abbrev cX12_colour : ByteArray := prog_14_method_92_code
def yX12_colour : MethodName := ⟨RX12, "colour", "(I)I"⟩
abbrev cX12_dot : ByteArray := prog_14_method_93_code
def yX12_dot : MethodName := ⟨RX12, "dot", "(II)I"⟩
abbrev cX12_row : ByteArray := prog_14_method_94_code
def yX12_row : MethodName := ⟨RX12, "row", "(I)I"⟩
abbrev cX12_noise : ByteArray := prog_14_method_95_code
def yX12_noise : MethodName := ⟨RX12, "noise", "(I)V"⟩
abbrev cX12_loudness : ByteArray := prog_14_method_96_code
def yX12_loudness : MethodName := ⟨RX12, "loudness", "(I)I"⟩
abbrev cX12_sample : ByteArray := prog_14_method_97_code
def yX12_sample : MethodName := ⟨RX12, "sample", "()V"⟩
abbrev cX12_hear : ByteArray := prog_14_method_98_code
def yX12_hear : MethodName := ⟨RX12, "hear", "()J"⟩
abbrev cX12_sound : ByteArray := prog_14_method_99_code
def yX12_sound : MethodName := ⟨RX12, "sound", "(I)I"⟩
abbrev cX12_reset : ByteArray := prog_14_method_100_code
def yX12_reset : MethodName := ⟨RX12, "reset", "()V"⟩
abbrev cX12_pause : ByteArray := prog_14_method_101_code
def yX12_pause : MethodName := ⟨RX12, "pause", "()Z"⟩
abbrev cX12_press : ByteArray := prog_14_method_102_code
def yX12_press : MethodName := ⟨RX12, "press", "(II)V"⟩
abbrev cX12_start : ByteArray := prog_14_method_103_code
def yX12_start : MethodName := ⟨RX12, "start", "(Z)V"⟩
abbrev cX12_line : ByteArray := prog_14_method_104_code
def yX12_line : MethodName := ⟨RX12, "line", "(IZ)V"⟩
abbrev cX12_stop : ByteArray := prog_14_method_105_code
def yX12_stop : MethodName := ⟨RX12, "stop", "(IZ)I"⟩
abbrev cX12_save : ByteArray := prog_14_method_106_code
def yX12_save : MethodName := ⟨RX12, "save", "()V"⟩
abbrev cX12_restore : ByteArray := prog_14_method_107_code
def yX12_restore : MethodName := ⟨RX12, "restore", "()V"⟩
abbrev cX12_register : ByteArray := prog_14_method_108_code
def yX12_register : MethodName := ⟨RX12, "register", "(I)I"⟩
abbrev cX12_set : ByteArray := prog_14_method_109_code
def yX12_set : MethodName := ⟨RX12, "set", "(II)V"⟩
abbrev cX12_peek : ByteArray := prog_14_method_110_code
def yX12_peek : MethodName := ⟨RX12, "peek", "(I)I"⟩
abbrev cX12_poke : ByteArray := prog_14_method_111_code
def yX12_poke : MethodName := ⟨RX12, "poke", "(II)V"⟩
abbrev cX12_in : ByteArray := prog_14_method_112_code
def yX12_in : MethodName := ⟨RX12, "in", "(I)I"⟩
abbrev cX12_out : ByteArray := prog_14_method_113_code
def yX12_out : MethodName := ⟨RX12, "out", "(II)V"⟩
abbrev cX12_battery : ByteArray := prog_14_method_114_code
def yX12_battery : MethodName := ⟨RX12, "battery", "(I)I"⟩
abbrev cX12_wipe : ByteArray := prog_14_method_115_code
def yX12_wipe : MethodName := ⟨RX12, "wipe", "()V"⟩
abbrev cX12_video : ByteArray := prog_14_method_116_code
def yX12_video : MethodName := ⟨RX12, "video", "(I)J"⟩
abbrev cX12_chip : ByteArray := prog_14_method_117_code
def yX12_chip : MethodName := ⟨RX12, "chip", "(I)I"⟩
abbrev cX12_trace : ByteArray := prog_14_method_118_code
def yX12_trace : MethodName := ⟨RX12, "trace", "(I)I"⟩
abbrev cX12_look : ByteArray := prog_14_method_119_code
def yX12_look : MethodName := ⟨RX12, "look", "(I)J"⟩
abbrev cX12_wreg : ByteArray := prog_14_method_120_code
def yX12_wreg : MethodName := ⟨RX12, "wreg", "(I)I"⟩
abbrev cX12_isRhythm : ByteArray := prog_14_method_121_code
def yX12_isRhythm : MethodName := ⟨RX12, "isRhythm", "(I)Z"⟩
abbrev cX12_digit : ByteArray := prog_14_method_122_code
def yX12_digit : MethodName := ⟨RX12, "digit", "(I)I"⟩
abbrev cX12_patchByte : ByteArray := prog_14_method_123_code
def yX12_patchByte : MethodName := ⟨RX12, "patchByte", "(II)I"⟩
abbrev cX12_isOn : ByteArray := prog_14_method_124_code
def yX12_isOn : MethodName := ⟨RX12, "isOn", "(II)I"⟩
abbrev cX12_waves : ByteArray := prog_14_method_125_code
def yX12_waves : MethodName := ⟨RX12, "waves", "()V"⟩
abbrev cX12_operator : ByteArray := prog_14_method_126_code
def yX12_operator : MethodName := ⟨RX12, "operator", "(II)V"⟩
abbrev cX12_t : ByteArray := prog_14_method_127_code
def yX12_t : MethodName := ⟨RX12, "t", "(II)I"⟩
abbrev cX12_rate : ByteArray := prog_14_method_128_code
def yX12_rate : MethodName := ⟨RX12, "rate", "(III)I"⟩
abbrev cX12_f : ByteArray := prog_14_method_129_code
def yX12_f : MethodName := ⟨RX12, "f", "(I)I"⟩
abbrev cX12_block : ByteArray := prog_14_method_130_code
def yX12_block : MethodName := ⟨RX12, "block", "(I)I"⟩
abbrev cX12_envelope : ByteArray := prog_14_method_131_code
def yX12_envelope : MethodName := ⟨RX12, "envelope", "(III)V"⟩
abbrev cX12_phase : ByteArray := prog_14_method_132_code
def yX12_phase : MethodName := ⟨RX12, "phase", "(III)V"⟩
abbrev cX12_drum : ByteArray := prog_14_method_133_code
def yX12_drum : MethodName := ⟨RX12, "drum", "(III)I"⟩
abbrev cX12_kept : ByteArray := prog_14_method_134_code
def yX12_kept : MethodName := ⟨RX12, "kept", "(I)I"⟩
abbrev cX12_waveAt : ByteArray := prog_14_method_135_code
def yX12_waveAt : MethodName := ⟨RX12, "waveAt", "(IIII)I"⟩
abbrev cX12_mixed : ByteArray := prog_14_method_136_code
def yX12_mixed : MethodName := ⟨RX12, "mixed", "()V"⟩
abbrev cX12_mix : ByteArray := prog_14_method_137_code
def yX12_mix : MethodName := ⟨RX12, "mix", "()J"⟩
abbrev cX12_wave : ByteArray := prog_14_method_138_code
def yX12_wave : MethodName := ⟨RX12, "wave", "(I)I"⟩
abbrev cX12_plan : ByteArray := prog_14_method_139_code
def yX12_plan : MethodName := ⟨RX12, "plan", "(III)I"⟩
abbrev cX12_planned : ByteArray := prog_14_method_140_code
def yX12_planned : MethodName := ⟨RX12, "planned", "()V"⟩
abbrev cX12_say : ByteArray := prog_14_method_141_code
def yX12_say : MethodName := ⟨RX12, "say", "(Ljava/lang/String;)V"⟩
abbrev cX12_hex : ByteArray := prog_14_method_142_code
def yX12_hex : MethodName := ⟨RX12, "hex", "(II)V"⟩
abbrev cX12_taken : ByteArray := prog_14_method_143_code
def yX12_taken : MethodName := ⟨RX12, "taken", "()I"⟩
abbrev cX12_takenWord : ByteArray := prog_14_method_144_code
def yX12_takenWord : MethodName := ⟨RX12, "takenWord", "()I"⟩
abbrev cX12_sayHl : ByteArray := prog_14_method_145_code
def yX12_sayHl : MethodName := ⟨RX12, "sayHl", "()V"⟩
abbrev cX12_sayPlace : ByteArray := prog_14_method_146_code
def yX12_sayPlace : MethodName := ⟨RX12, "sayPlace", "()V"⟩
abbrev cX12_sayR : ByteArray := prog_14_method_147_code
def yX12_sayR : MethodName := ⟨RX12, "sayR", "(I)V"⟩
abbrev cX12_sayRp : ByteArray := prog_14_method_148_code
def yX12_sayRp : MethodName := ⟨RX12, "sayRp", "(IZ)V"⟩
abbrev cX12_sayCc : ByteArray := prog_14_method_149_code
def yX12_sayCc : MethodName := ⟨RX12, "sayCc", "(I)V"⟩
abbrev cX12_sayPlaced : ByteArray := prog_14_method_150_code
def yX12_sayPlaced : MethodName := ⟨RX12, "sayPlaced", "(I)V"⟩
abbrev cX12_sayJump : ByteArray := prog_14_method_151_code
def yX12_sayJump : MethodName := ⟨RX12, "sayJump", "()V"⟩
abbrev cX12_sayDo : ByteArray := prog_14_method_152_code
def yX12_sayDo : MethodName := ⟨RX12, "sayDo", "(I)V"⟩
abbrev cX12_tell : ByteArray := prog_14_method_153_code
def yX12_tell : MethodName := ⟨RX12, "tell", "(I)I"⟩
abbrev cX12_sayPrefixed : ByteArray := prog_14_method_154_code
def yX12_sayPrefixed : MethodName := ⟨RX12, "sayPrefixed", "(I)V"⟩
abbrev cX12_sayTurn : ByteArray := prog_14_method_155_code
def yX12_sayTurn : MethodName := ⟨RX12, "sayTurn", "(I)V"⟩
abbrev cX12_sayPlain : ByteArray := prog_14_method_156_code
def yX12_sayPlain : MethodName := ⟨RX12, "sayPlain", "(I)V"⟩
abbrev cX12_sayZero : ByteArray := prog_14_method_157_code
def yX12_sayZero : MethodName := ⟨RX12, "sayZero", "(II)V"⟩
abbrev cX12_saySingle : ByteArray := prog_14_method_158_code
def yX12_saySingle : MethodName := ⟨RX12, "saySingle", "(II)V"⟩
abbrev cX12_sayThree : ByteArray := prog_14_method_159_code
def yX12_sayThree : MethodName := ⟨RX12, "sayThree", "(II)V"⟩
abbrev cX12_sayLast : ByteArray := prog_14_method_160_code
def yX12_sayLast : MethodName := ⟨RX12, "sayLast", "(II)V"⟩
abbrev cX12_sayMore : ByteArray := prog_14_method_161_code
def yX12_sayMore : MethodName := ⟨RX12, "sayMore", "(I)V"⟩
abbrev cX12_sayOdd : ByteArray := prog_14_method_162_code
def yX12_sayOdd : MethodName := ⟨RX12, "sayOdd", "(II)V"⟩
abbrev cX12_text : ByteArray := prog_14_method_163_code
def yX12_text : MethodName := ⟨RX12, "text", "(I)J"⟩
def RJ5 : String := "java/lang/AbstractStringBuilder"
def TJ5 : u_T := fun k => match k with
  | _ => ("", "", "", false)
def tyJ5 : Nat → FieldType := fun k => match k with
  | _ => .int
abbrev wsJ50 : List Cond := u_ws RJ5 TJ5 0
theorem nmJ5 : ∀ a, a < 0 → ∀ b, b < 0 → a ≠ b → (TJ5 a).2.1 ≠ (TJ5 b).2.1 := by decide +kernel
theorem tyJ5_ok : ∀ k, k < 0 → parseFieldDescriptor (TJ5 k).2.2.1 = some (tyJ5 k) := by decide +kernel
abbrev cJ5_init_d00df : ByteArray := prog_15_method_2_code
def yJ5_init_d00df : MethodName := ⟨RJ5, "<init>", "(I)V"⟩
abbrev cJ5_length_8abf5 : ByteArray := prog_15_method_6_code
def yJ5_length_8abf5 : MethodName := ⟨RJ5, "length", "()I"⟩
abbrev cJ5_ensureCapacityInternal_d00df : ByteArray := prog_15_method_9_code
def yJ5_ensureCapacityInternal_d00df : MethodName := ⟨RJ5, "ensureCapacityInternal", "(I)V"⟩
abbrev cJ5_newCapacity_0f7a4 : ByteArray := prog_15_method_10_code
def yJ5_newCapacity_0f7a4 : MethodName := ⟨RJ5, "newCapacity", "(I)I"⟩
abbrev cJ5_inflate_da8c8 : ByteArray := prog_15_method_11_code
def yJ5_inflate_da8c8 : MethodName := ⟨RJ5, "inflate", "()V"⟩
abbrev cJ5_append_cf1ce : ByteArray := prog_15_method_22_code
def yJ5_append_cf1ce : MethodName := ⟨RJ5, "append", "(Ljava/lang/String;)Ljava/lang/AbstractStringBuilder;"⟩
abbrev cJ5_appendNull_278bc : ByteArray := prog_15_method_26_code
def yJ5_appendNull_278bc : MethodName := ⟨RJ5, "appendNull", "()Ljava/lang/AbstractStringBuilder;"⟩
abbrev cJ5_append_c97b9 : ByteArray := prog_15_method_32_code
def yJ5_append_c97b9 : MethodName := ⟨RJ5, "append", "(I)Ljava/lang/AbstractStringBuilder;"⟩
abbrev cJ5_getValue_6d5f1 : ByteArray := prog_15_method_64_code
def yJ5_getValue_6d5f1 : MethodName := ⟨RJ5, "getValue", "()[B"⟩
abbrev cJ5_isLatin1_aae02 : ByteArray := prog_15_method_68_code
def yJ5_isLatin1_aae02 : MethodName := ⟨RJ5, "isLatin1", "()Z"⟩
abbrev cJ5_inflateIfNeededFor_a7421 : ByteArray := prog_15_method_71_code
def yJ5_inflateIfNeededFor_a7421 : MethodName := ⟨RJ5, "inflateIfNeededFor", "(Ljava/lang/String;)V"⟩
abbrev cJ5_putStringAt_47b60 : ByteArray := prog_15_method_73_code
def yJ5_putStringAt_47b60 : MethodName := ⟨RJ5, "putStringAt", "(ILjava/lang/String;)V"⟩
def RJx8e188 : String := "java/lang/Cloneable"
def TJx8e188 : u_T := fun k => match k with
  | _ => ("", "", "", false)
def tyJx8e188 : Nat → FieldType := fun k => match k with
  | _ => .int
abbrev wsJx8e1880 : List Cond := u_ws RJx8e188 TJx8e188 0
theorem nmJx8e188 : ∀ a, a < 0 → ∀ b, b < 0 → a ≠ b → (TJx8e188 a).2.1 ≠ (TJx8e188 b).2.1 := by decide +kernel
theorem tyJx8e188_ok : ∀ k, k < 0 → parseFieldDescriptor (TJx8e188 k).2.2.1 = some (tyJx8e188 k) := by decide +kernel
def RJ6 : String := "java/lang/Integer"
def TJ6 : u_T := fun k => match k with
  | _ => ("", "", "", false)
def tyJ6 : Nat → FieldType := fun k => match k with
  | _ => .int
abbrev wsJ60 : List Cond := u_ws RJ6 TJ6 0
theorem nmJ6 : ∀ a, a < 0 → ∀ b, b < 0 → a ≠ b → (TJ6 a).2.1 ≠ (TJ6 b).2.1 := by decide +kernel
theorem tyJ6_ok : ∀ k, k < 0 → parseFieldDescriptor (TJ6 k).2.2.1 = some (tyJ6 k) := by decide +kernel
abbrev cJ6_getChars_ba4f3 : ByteArray := prog_20_method_12_code
def yJ6_getChars_ba4f3 : MethodName := ⟨RJ6, "getChars", "(II[B)I"⟩
abbrev cJ6_stringSize_0f7a4 : ByteArray := prog_20_method_13_code
def yJ6_stringSize_0f7a4 : MethodName := ⟨RJ6, "stringSize", "(I)I"⟩
abbrev cJ6_bitCount_0f7a4 : ByteArray := prog_20_method_49_code
def yJ6_bitCount_0f7a4 : MethodName := ⟨RJ6, "bitCount", "(I)I"⟩
def RJ9 : String := "java/lang/Math"
def TJ9 : u_T := fun k => match k with
  | _ => ("", "", "", false)
def tyJ9 : Nat → FieldType := fun k => match k with
  | _ => .int
abbrev wsJ90 : List Cond := u_ws RJ9 TJ9 0
theorem nmJ9 : ∀ a, a < 0 → ∀ b, b < 0 → a ≠ b → (TJ9 a).2.1 ≠ (TJ9 b).2.1 := by decide +kernel
theorem tyJ9_ok : ∀ k, k < 0 → parseFieldDescriptor (TJ9 k).2.2.1 = some (tyJ9 k) := by decide +kernel
abbrev cJ9_max_7cf53 : ByteArray := prog_21_method_65_code
def yJ9_max_7cf53 : MethodName := ⟨RJ9, "max", "(II)I"⟩
abbrev cJ9_max_f86c9 : ByteArray := prog_21_method_66_code
def yJ9_max_f86c9 : MethodName := ⟨RJ9, "max", "(JJ)J"⟩
abbrev cJ9_min_7cf53 : ByteArray := prog_21_method_69_code
def yJ9_min_7cf53 : MethodName := ⟨RJ9, "min", "(II)I"⟩
def RJ0 : String := "java/lang/String"
def TJ0 : u_T := fun k => match k with
  | 0 => ("java/lang/String", "value", "[B", true)
  | 1 => ("java/lang/String", "coder", "B", true)
  | 2 => ("java/lang/String", "hash", "I", false)
  | _ => ("java/lang/String", "hashIsZero", "Z", false)
def tyJ0 : Nat → FieldType := fun k => match k with
  | 0 => .array .byte
  | 1 => .byte
  | 2 => .int
  | _ => .boolean
abbrev wsJ00 : List Cond := u_ws RJ0 TJ0 4
theorem nmJ0 : ∀ a, a < 4 → ∀ b, b < 4 → a ≠ b → (TJ0 a).2.1 ≠ (TJ0 b).2.1 := by decide +kernel
theorem tyJ0_ok : ∀ k, k < 4 → parseFieldDescriptor (TJ0 k).2.2.1 = some (tyJ0 k) := by decide +kernel
abbrev cJ0_init_81219 : ByteArray := prog_23_method_53_code
def yJ0_init_81219 : MethodName := ⟨RJ0, "<init>", "(Ljava/lang/StringBuilder;)V"⟩
abbrev cJ0_length_8abf5 : ByteArray := prog_23_method_54_code
def yJ0_length_8abf5 : MethodName := ⟨RJ0, "length", "()I"⟩
abbrev cJ0_charAt_5068e : ByteArray := prog_23_method_56_code
def yJ0_charAt_5068e : MethodName := ⟨RJ0, "charAt", "(I)C"⟩
abbrev cJ0_getBytes_840e7 : ByteArray := prog_23_method_147_code
def yJ0_getBytes_840e7 : MethodName := ⟨RJ0, "getBytes", "([BIB)V"⟩
abbrev cJ0_init_db425 : ByteArray := prog_23_method_150_code
def yJ0_init_db425 : MethodName := ⟨RJ0, "<init>", "(Ljava/lang/AbstractStringBuilder;Ljava/lang/Void;)V"⟩
abbrev cJ0_coder_7d493 : ByteArray := prog_23_method_152_code
def yJ0_coder_7d493 : MethodName := ⟨RJ0, "coder", "()B"⟩
abbrev cJ0_isLatin1_aae02 : ByteArray := prog_23_method_154_code
def yJ0_isLatin1_aae02 : MethodName := ⟨RJ0, "isLatin1", "()Z"⟩
abbrev cJ0_checkIndex_df160 : ByteArray := prog_23_method_155_code
def yJ0_checkIndex_df160 : MethodName := ⟨RJ0, "checkIndex", "(II)V"⟩
abbrev cJ0_checkBoundsOffCount_cabcc : ByteArray := prog_23_method_157_code
def yJ0_checkBoundsOffCount_cabcc : MethodName := ⟨RJ0, "checkBoundsOffCount", "(III)I"⟩
abbrev cJ0_checkBoundsBeginEnd_23922 : ByteArray := prog_23_method_158_code
def yJ0_checkBoundsBeginEnd_23922 : MethodName := ⟨RJ0, "checkBoundsBeginEnd", "(III)V"⟩
def RJ4 : String := "java/lang/StringBuilder"
def TJ4 : u_T := fun k => match k with
  | 0 => ("java/lang/AbstractStringBuilder", "value", "[B", false)
  | 1 => ("java/lang/AbstractStringBuilder", "coder", "B", false)
  | 2 => ("java/lang/AbstractStringBuilder", "maybeLatin1", "Z", false)
  | _ => ("java/lang/AbstractStringBuilder", "count", "I", false)
def tyJ4 : Nat → FieldType := fun k => match k with
  | 0 => .array .byte
  | 1 => .byte
  | 2 => .boolean
  | _ => .int
abbrev wsJ40 : List Cond := u_ws RJ4 TJ4 4
theorem nmJ4 : ∀ a, a < 4 → ∀ b, b < 4 → a ≠ b → (TJ4 a).2.1 ≠ (TJ4 b).2.1 := by decide +kernel
theorem tyJ4_ok : ∀ k, k < 4 → parseFieldDescriptor (TJ4 k).2.2.1 = some (tyJ4 k) := by decide +kernel
abbrev cJ4_init_da8c8 : ByteArray := prog_24_method_1_code
def yJ4_init_da8c8 : MethodName := ⟨RJ4, "<init>", "()V"⟩
abbrev cJ4_append_15ec4 : ByteArray := prog_24_method_7_code
def yJ4_append_15ec4 : MethodName := ⟨RJ4, "append", "(Ljava/lang/String;)Ljava/lang/StringBuilder;"⟩
abbrev cJ4_append_bf812 : ByteArray := prog_24_method_15_code
def yJ4_append_bf812 : MethodName := ⟨RJ4, "append", "(I)Ljava/lang/StringBuilder;"⟩
abbrev cJ4_toString_0e30d : ByteArray := prog_24_method_42_code
def yJ4_toString_0e30d : MethodName := ⟨RJ4, "toString", "()Ljava/lang/String;"⟩
abbrev cJ4_length_8abf5 : ByteArray := prog_24_method_93_code
def yJ4_length_8abf5 : MethodName := ⟨RJ4, "length", "()I"⟩
def RJ1 : String := "java/lang/StringLatin1"
def TJ1 : u_T := fun k => match k with
  | _ => ("", "", "", false)
def tyJ1 : Nat → FieldType := fun k => match k with
  | _ => .int
abbrev wsJ10 : List Cond := u_ws RJ1 TJ1 0
theorem nmJ1 : ∀ a, a < 0 → ∀ b, b < 0 → a ≠ b → (TJ1 a).2.1 ≠ (TJ1 b).2.1 := by decide +kernel
theorem tyJ1_ok : ∀ k, k < 0 → parseFieldDescriptor (TJ1 k).2.2.1 = some (tyJ1 k) := by decide +kernel
abbrev cJ1_charAt_3b067 : ByteArray := prog_25_method_2_code
def yJ1_charAt_3b067 : MethodName := ⟨RJ1, "charAt", "([BI)C"⟩
abbrev cJ1_inflate_0e8fd : ByteArray := prog_25_method_50_code
def yJ1_inflate_0e8fd : MethodName := ⟨RJ1, "inflate", "([BI[BII)V"⟩
def RJ2 : String := "java/lang/StringUTF16"
def TJ2 : u_T := fun k => match k with
  | _ => ("", "", "", false)
def tyJ2 : Nat → FieldType := fun k => match k with
  | _ => .int
abbrev wsJ20 : List Cond := u_ws RJ2 TJ2 0
theorem nmJ2 : ∀ a, a < 0 → ∀ b, b < 0 → a ≠ b → (TJ2 a).2.1 ≠ (TJ2 b).2.1 := by decide +kernel
theorem tyJ2_ok : ∀ k, k < 0 → parseFieldDescriptor (TJ2 k).2.2.1 = some (tyJ2 k) := by decide +kernel
abbrev cJ2_newBytesFor_77867 : ByteArray := prog_26_method_2_code
def yJ2_newBytesFor_77867 : MethodName := ⟨RJ2, "newBytesFor", "(I)[B"⟩
abbrev cJ2_newBytesLength_0f7a4 : ByteArray := prog_26_method_3_code
def yJ2_newBytesLength_0f7a4 : MethodName := ⟨RJ2, "newBytesLength", "(I)I"⟩
abbrev cJ2_putChar_b72d1 : ByteArray := prog_26_method_4_code
def yJ2_putChar_b72d1 : MethodName := ⟨RJ2, "putChar", "([BII)V"⟩
abbrev cJ2_getChar_3b067 : ByteArray := prog_26_method_5_code
def yJ2_getChar_3b067 : MethodName := ⟨RJ2, "getChar", "([BI)C"⟩
abbrev cJ2_length_9d52b : ByteArray := prog_26_method_6_code
def yJ2_length_9d52b : MethodName := ⟨RJ2, "length", "([B)I"⟩
abbrev cJ2_coderFromArrayLen_85cad : ByteArray := prog_26_method_15_code
def yJ2_coderFromArrayLen_85cad : MethodName := ⟨RJ2, "coderFromArrayLen", "([BI)B"⟩
abbrev cJ2_compress_39247 : ByteArray := prog_26_method_17_code
def yJ2_compress_39247 : MethodName := ⟨RJ2, "compress", "([BII)[B"⟩
abbrev cJ2_compress_5af95 : ByteArray := prog_26_method_22_code
def yJ2_compress_5af95 : MethodName := ⟨RJ2, "compress", "([BI[BII)I"⟩
abbrev cJ2_getChars_46870 : ByteArray := prog_26_method_77_code
def yJ2_getChars_46870 : MethodName := ⟨RJ2, "getChars", "(III[B)I"⟩
abbrev cJ2_putCharsAt_cd4e5 : ByteArray := prog_26_method_81_code
def yJ2_putCharsAt_cd4e5 : MethodName := ⟨RJ2, "putCharsAt", "([BICCCC)I"⟩
abbrev cJ2_charAt_3b067 : ByteArray := prog_26_method_83_code
def yJ2_charAt_3b067 : MethodName := ⟨RJ2, "charAt", "([BI)C"⟩
abbrev cJ2_inflate_0e8fd : ByteArray := prog_26_method_86_code
def yJ2_inflate_0e8fd : MethodName := ⟨RJ2, "inflate", "([BI[BII)V"⟩
abbrev cJ2_getChars_ba4f3 : ByteArray := prog_26_method_89_code
def yJ2_getChars_ba4f3 : MethodName := ⟨RJ2, "getChars", "(II[B)I"⟩
abbrev cJ2_checkIndex_2214a : ByteArray := prog_26_method_91_code
def yJ2_checkIndex_2214a : MethodName := ⟨RJ2, "checkIndex", "(I[B)V"⟩
abbrev cJ2_checkBoundsBeginEnd_d044e : ByteArray := prog_26_method_93_code
def yJ2_checkBoundsBeginEnd_d044e : MethodName := ⟨RJ2, "checkBoundsBeginEnd", "(II[B)V"⟩
abbrev cJ2_checkBoundsOffCount_d044e : ByteArray := prog_26_method_94_code
def yJ2_checkBoundsOffCount_d044e : MethodName := ⟨RJ2, "checkBoundsOffCount", "(II[B)V"⟩
def RJ10 : String := "java/lang/System"
def TJ10 : u_T := fun k => match k with
  | _ => ("", "", "", false)
def tyJ10 : Nat → FieldType := fun k => match k with
  | _ => .int
abbrev wsJ100 : List Cond := u_ws RJ10 TJ10 0
theorem nmJ10 : ∀ a, a < 0 → ∀ b, b < 0 → a ≠ b → (TJ10 a).2.1 ≠ (TJ10 b).2.1 := by decide +kernel
theorem tyJ10_ok : ∀ k, k < 0 → parseFieldDescriptor (TJ10 k).2.2.1 = some (tyJ10 k) := by decide +kernel
def RJ7 : String := "java/util/Arrays"
def TJ7 : u_T := fun k => match k with
  | _ => ("", "", "", false)
def tyJ7 : Nat → FieldType := fun k => match k with
  | _ => .int
abbrev wsJ70 : List Cond := u_ws RJ7 TJ7 0
theorem nmJ7 : ∀ a, a < 0 → ∀ b, b < 0 → a ≠ b → (TJ7 a).2.1 ≠ (TJ7 b).2.1 := by decide +kernel
theorem tyJ7_ok : ∀ k, k < 0 → parseFieldDescriptor (TJ7 k).2.2.1 = some (tyJ7 k) := by decide +kernel
abbrev cJ7_rangeCheck_23922 : ByteArray := prog_29_method_30_code
def yJ7_rangeCheck_23922 : MethodName := ⟨RJ7, "rangeCheck", "(III)V"⟩
abbrev cJ7_fill_53178 : ByteArray := prog_29_method_103_code
def yJ7_fill_53178 : MethodName := ⟨RJ7, "fill", "([II)V"⟩
abbrev cJ7_fill_fda19 : ByteArray := prog_29_method_104_code
def yJ7_fill_fda19 : MethodName := ⟨RJ7, "fill", "([IIII)V"⟩
abbrev cJ7_copyOf_9075b : ByteArray := prog_29_method_121_code
def yJ7_copyOf_9075b : MethodName := ⟨RJ7, "copyOf", "([BI)[B"⟩
abbrev cJ7_checkLength_df160 : ByteArray := prog_29_method_131_code
def yJ7_checkLength_df160 : MethodName := ⟨RJ7, "checkLength", "(II)V"⟩
abbrev cJ7_copyOfRange_39247 : ByteArray := prog_29_method_132_code
def yJ7_copyOfRange_39247 : MethodName := ⟨RJ7, "copyOfRange", "([BII)[B"⟩
abbrev cJ7_copyOfRangeByte_39247 : ByteArray := prog_29_method_133_code
def yJ7_copyOfRangeByte_39247 : MethodName := ⟨RJ7, "copyOfRangeByte", "([BII)[B"⟩
def RJ8 : String := "jdk/internal/util/ArraysSupport"
def TJ8 : u_T := fun k => match k with
  | _ => ("", "", "", false)
def tyJ8 : Nat → FieldType := fun k => match k with
  | _ => .int
abbrev wsJ80 : List Cond := u_ws RJ8 TJ8 0
theorem nmJ8 : ∀ a, a < 0 → ∀ b, b < 0 → a ≠ b → (TJ8 a).2.1 ≠ (TJ8 b).2.1 := by decide +kernel
theorem tyJ8_ok : ∀ k, k < 0 → parseFieldDescriptor (TJ8 k).2.2.1 = some (tyJ8 k) := by decide +kernel
abbrev cJ8_newLength_cabcc : ByteArray := prog_31_method_27_code
def yJ8_newLength_cabcc : MethodName := ⟨RJ8, "newLength", "(III)I"⟩
abbrev cJ8_hugeLength_7cf53 : ByteArray := prog_31_method_28_code
def yJ8_hugeLength_7cf53 : MethodName := ⟨RJ8, "hugeLength", "(II)I"⟩
def RJ3 : String := "jdk/internal/util/Preconditions"
def TJ3 : u_T := fun k => match k with
  | _ => ("", "", "", false)
def tyJ3 : Nat → FieldType := fun k => match k with
  | _ => .int
abbrev wsJ30 : List Cond := u_ws RJ3 TJ3 0
theorem nmJ3 : ∀ a, a < 0 → ∀ b, b < 0 → a ≠ b → (TJ3 a).2.1 ≠ (TJ3 b).2.1 := by decide +kernel
theorem tyJ3_ok : ∀ k, k < 0 → parseFieldDescriptor (TJ3 k).2.2.1 = some (tyJ3 k) := by decide +kernel
abbrev cJ3_checkIndex_8e157 : ByteArray := prog_32_method_11_code
def yJ3_checkIndex_8e157 : MethodName := ⟨RJ3, "checkIndex", "(IILjava/util/function/BiFunction;)I"⟩
abbrev cJ3_checkFromToIndex_8c36e : ByteArray := prog_32_method_12_code
def yJ3_checkFromToIndex_8c36e : MethodName := ⟨RJ3, "checkFromToIndex", "(IIILjava/util/function/BiFunction;)I"⟩
abbrev cJ3_checkFromIndexSize_8c36e : ByteArray := prog_32_method_13_code
def yJ3_checkFromIndexSize_8c36e : MethodName := ⟨RJ3, "checkFromIndexSize", "(IIILjava/util/function/BiFunction;)I"⟩
def RL : String := "PadConsoleLaw"
abbrev cL_cell : ByteArray := method_2_code
def yL_cell : MethodName := ⟨RL, "cell", "([II)I"⟩
abbrev cL_feed : ByteArray := method_3_code
def yL_feed : MethodName := ⟨RL, "feed", "(LPadConsole;IJJJ[J)I"⟩
abbrev cL_grow : ByteArray := method_4_code
def yL_grow : MethodName := ⟨RL, "grow", "(LPadConsole;I[J)I"⟩
abbrev cL_patch : ByteArray := method_5_code
def yL_patch : MethodName := ⟨RL, "patch", "(LPadConsole;IJ)I"⟩
abbrev cL_card : ByteArray := method_6_code
def yL_card : MethodName := ⟨RL, "card", "(LPadConsole;I[J)I"⟩
abbrev cL_step : ByteArray := method_7_code
def yL_step : MethodName := ⟨RL, "step", "(LPadConsole;I[J)I"⟩
abbrev cL_picture : ByteArray := method_8_code
def yL_picture : MethodName := ⟨RL, "picture", "(LPadConsole;I[J)I"⟩
abbrev cL_press : ByteArray := method_9_code
def yL_press : MethodName := ⟨RL, "press", "(LPadConsole;II)I"⟩
abbrev cL_line : ByteArray := method_10_code
def yL_line : MethodName := ⟨RL, "line", "(LPadConsole;IZ)I"⟩
abbrev cL_plan : ByteArray := method_11_code
def yL_plan : MethodName := ⟨RL, "plan", "(LPadConsole;III[J)I"⟩
abbrev cL_text : ByteArray := method_12_code
def yL_text : MethodName := ⟨RL, "text", "(LPadConsole;I[J)I"⟩
abbrev cL_stop : ByteArray := method_13_code
def yL_stop : MethodName := ⟨RL, "stop", "(LPadConsole;IZ[J)I"⟩
abbrev cL_restore : ByteArray := method_14_code
def yL_restore : MethodName := ⟨RL, "restore", "(LPadConsole;)I"⟩
abbrev cL_register : ByteArray := method_15_code
def yL_register : MethodName := ⟨RL, "register", "(LPadConsole;I[J)I"⟩
abbrev cL_set : ByteArray := method_16_code
def yL_set : MethodName := ⟨RL, "set", "(LPadConsole;II)I"⟩
abbrev cL_battery : ByteArray := method_17_code
def yL_battery : MethodName := ⟨RL, "battery", "(LPadConsole;I[J)I"⟩
abbrev cL_chip : ByteArray := method_18_code
def yL_chip : MethodName := ⟨RL, "chip", "(LPadConsole;I[J)I"⟩
abbrev cL_dot : ByteArray := method_19_code
def yL_dot : MethodName := ⟨RL, "dot", "(LPadConsole;II[J)I"⟩
abbrev cL_row : ByteArray := method_20_code
def yL_row : MethodName := ⟨RL, "row", "(LPadConsole;I[J)I"⟩
abbrev cL_hear : ByteArray := method_21_code
def yL_hear : MethodName := ⟨RL, "hear", "(LPadConsole;[J)I"⟩
abbrev cL_mix : ByteArray := method_22_code
def yL_mix : MethodName := ⟨RL, "mix", "(LPadConsole;[J)I"⟩
abbrev cL_wave : ByteArray := method_23_code
def yL_wave : MethodName := ⟨RL, "wave", "(LPadConsole;I[J)I"⟩
abbrev cL_sound : ByteArray := method_24_code
def yL_sound : MethodName := ⟨RL, "sound", "(LPadConsole;I[J)I"⟩
abbrev cL_look : ByteArray := method_25_code
def yL_look : MethodName := ⟨RL, "look", "(LPadConsole;I[J)I"⟩
abbrev cL_law : ByteArray := code
def yL_law : MethodName := ⟨RL, "law", "([I)Z"⟩
abbrev vwCl : List vw_C := [(RJ0, TJ0, 4), (RJ4, TJ4, 4), (RX0, TX0, 6), (RX1, TX1, 6), (RX2, TX2, 14), (RX3, TX3, 9), (RX4, TX4, 6), (RX5, TX5, 6), (RX6, TX6, 6), (RX7, TX7, 2), (RX8, TX8, 11), (RX9, TX9, 6), (RX10, TX10, 8), (RX11, TX11, 12), (RX12, TX12, 44)]
end ZJN1
section ZJN2
/-! ===== BEGIN exceptions that leave a method, and their catching by the caller (launches without stack traces) ===== -/
section VXA
/-! The laws vx_back, vx_callV, vx_callS, vx_callSW, vx_throw0, vx_throwS follow proofs of the library, with one case more: JvmDerived/Free/Laws.lean (Back.of_free), Shelf42/LK1.lean (callV, callS), Shelf/KitTraced.lean (throwNew0V, throwNewS). -/

/-- where a method has thrown q: the class by its name, the cell, what was written, the world -/
def vx_T (XC : String → State → State → Prop) (st : State) (q : Addr) (t : State) (mc ms : Nat) (free : Addr → Prop) : Prop :=
  ∃ (E : String) (ce : Cell) (L : List Loc), XC E st t ∧ t.heap[q]? = some ce ∧ ce.vm = .none ∧ st.vm.findClass E = some ce.cls ∧ st.WarmedH t.vm ∧ st.sameButNew ({ t with vm := st.vm } : State) L mc ms ∧ ∀ z ∈ L, free z.base
def vx_Q (Qc : Array Value → State → Outcome → State → Prop) (XC : String → State → State → Prop) (mc ms : Nat) (free : Addr → Prop) : Array Value → State → Outcome → State → Prop := fun a st o t =>
  (Qc a st o t ∧ ∃ L, FrameEnd st o t L mc ms ∧ ∀ q ∈ L, free q.base) ∨ ∃ q, o = .threw q ∧ vx_T XC st q t mc ms free
/-- a callee that returns or throws -/
def vx_Met (l : Launch) (y : MethodName) (ws : List Cond) (rm : Room) (Pc : Array Value → State → Prop) (Qc : Array Value → State → Outcome → State → Prop) (XC : String → State → State → Prop) (mc ms : Nat) (free : Addr → Prop) : Prop :=
  MetFree l y (headSpec ws rm) Pc (fun _ _ _ _ _ => True) (vx_Q Qc XC mc ms free)
def vx_Post (XC : String → State → State → Prop) (mc ms : Nat) (free : Addr → Prop) : Pt → Array Value → Addr → Pt → Prop := fun A a q B =>
  ∃ (g : JFrame) (mk : MethodId) (t : State) (L : List Loc) (E : String) (ce : Cell), B.U.heap = t.heap ∧ B.U.vm = t.vm ∧ XC E (A.U.calling g mk a) t ∧ t.heap[q]? = some ce ∧ ce.vm = .none ∧ A.U.vm.findClass E = some ce.cls ∧ B.locs = A.locs ++ L ∧ (∀ z ∈ L, free z.base) ∧ B.cells = A.cells + mc ∧ B.slots = A.slots + ms
def vx_Back (l : Launch) (R : Room) (p : Program) (e : Env) (below : List Frame) (s : State) (sargs : Array Value) (y : MethodName) (len W9 : Nat)
    (Pre : Pt → Array Value → Prop) (Post : Pt → Array Value → Option Value → Pt → Prop) (PostX : Pt → Array Value → Addr → Pt → Prop) : Prop :=
  ∀ (m : MethodId) (meth : Method) (c : Code) (A : Pt) (g : JFrame) (ig : Instr) (mk : MethodId) (a : Array Value),
    Stand p l e R s m sargs below meth c A.U A.locs A.cells A.slots → g.method = m → g.locals.size = c.maxLocals → decode c.code g.pc = .ok (ig, len) →
    2 * g.monitorRoom + (g.stack.map fun v => v.category).sum ≤ W9 → A.U.methodNamed? y = some mk → Pre A a →
    (∃ (v : Option Value) (B : Pt), Stand p l e R s m sargs below meth c B.U B.locs B.cells B.slots ∧ Post A a v B ∧
      Steps p.tables e below (doInvoke e (A.U.setTop g) [] mk a).1 (B.U.setTop { g with pc := g.pc + len, stack := v.toList ++ g.stack })) ∨
    (∃ (q : Addr) (B : Pt), Stand p l e R s m sargs below meth c B.U B.locs B.cells B.slots ∧ PostX A a q B ∧
      Steps p.tables e below (doInvoke e (A.U.setTop g) [] mk a).1 ((B.U.setTop g).pushFrame (.throwing q)))
section Payer
variable {l : Launch} {R : Room} {p : Program} {e : Env} {below : List Frame} {s : State} {sargs : Array Value} {y : MethodName} {len W9 : Nat}
theorem vx_back {ws : List Cond} {rm : Room} {Pc : Array Value → State → Prop} {Qc : Array Value → State → Outcome → State → Prop} {XC : String → State → State → Prop} {mc ms : Nat} {free : Addr → Prop} {bytes : ByteArray} {maxL : Nat} {ret : Option FieldType}
    (hM : vx_Met l y ws rm Pc Qc XC mc ms free) (hblind : FrameBlind Pc) (hrc : rm.cells = mc) (hrs : rm.slots = ms)
    (hframes : rm.frames + 1 ≤ R.frames) (hlocals : W9 + (maxL + 11) + rm.locals ≤ R.locals)
    (hws : ∀ w ∈ ws, ∀ a' U, s.WarmedH U.vm → w.before a' U = true) (hcode : Cond.code y bytes maxL ret ∈ ws) (hinit : ∀ a' U, s.WarmedH U.vm → (Cond.initialized y.cls).before a' U = true) :
    vx_Back l R p e below s sargs y len W9 (PreOf R mc ms Pc) (PostOf Qc mc ms free) (vx_Post XC mc ms free) := by
  intro m meth c A g ig mk a X hg hsize hdg hW hn hp
  have h1 : (headSpec ws rm).pre.before a A.U = true := atoms_intro fun w hw => hws w hw _ _ X.warmed
  have h2 : (Cond.code y bytes maxL ret).before a A.U = true := hws _ hcode _ _ X.warmed
  have h3 : (Cond.initialized y.cls).before a A.U = true := hinit _ _ X.warmed
  have h4 : A.cells + (headSpec ws rm).room.cells ≤ R.cells := by rw [show (headSpec ws rm).room.cells = mc from hrc]; exact hp.1
  have h5 : A.slots + (headSpec ws rm).room.slots ≤ R.slots := by rw [show (headSpec ws rm).room.slots = ms from hrs]; exact hp.2.1
  have hPc : Pc a (A.U.calling g mk a) := hblind _ _ _ _ hp.2.2
  obtain ⟨U, Ls, c0, s0⟩ := A
  dsimp only [Pt.U, Pt.locs, Pt.cells, Pt.slots] at h1 h2 h3 h4 h5 X hn hPc ⊢
  obtain ⟨methY, cY, hmY, hcY, -, hlY, -, -, -, -⟩ := Cond.code_spec hn h2
  obtain ⟨kY, hkY, -⟩ := className_of_methodNamed hn
  have hinitY : kY.init = .initialized := Cond.initialized_spec (findClass_of_methodNamed hn) hkY h3
  have h : At U g.method c below := by rw [hg]; exact X.here
  have hlocals9 : W9 + (maxL + 11) + (headSpec ws rm).room.locals ≤ R.locals := hlocals
  have happ : (headSpec ws rm).appliesLoose y e.platform (U.calling g mk a) = true :=
    Spec.appliesLoose_calling (g := g) h hdg hn hkY hinitY
      (X.room_calling (g := g) (R' := (headSpec ws rm).room) hsize hmY hcY hframes (by rw [hlY]; omega) h4 h5) h1
  obtain ⟨mid, hmid⟩ := h.above
  have hfr : (U.setTop g).frames = (.java g :: mid) ++ below := by rw [State.frames_setTop' g h.top, hmid]; rfl
  obtain ⟨o, s₂, hsteps, -, hend, hq⟩ := Steps.callFree hM p X.admits X.cas X.clock (acts := []) hfr happ hPc trivial
  have hq' : vx_Q Qc XC mc ms free a (U.calling g mk a) o s₂ := hq
  rw [State.frames_setTop' g h.top] at hend
  obtain ⟨g₀, hg0⟩ := Option.isSome_iff_exists.mp h.top
  obtain ⟨r, hr⟩ := State.topJava?_eq_some.mp hg0
  have hr' : (({ U with heap := s₂.heap, slotsUsed := s₂.slotsUsed } : State).setVm s₂.vm).frames = .java g₀ :: r := hr
  rcases hq' with ⟨hqc, L, hfe, hL⟩ | ⟨q, rfl, E, ce, L, hx, hce, hcv, hcl, hW₂, hsm, hL⟩
  · obtain ⟨⟨v, rfl⟩, hW₂, e2, q2, q3, q4, q5, q6⟩ := id hfe
    have e3 : s₂ = ({ (U.calling g mk a).setFrames s₂.frames with heap := s₂.heap, slotsUsed := s₂.slotsUsed } : State).setVm s₂.vm := by
      have : s₂ = ({ s₂ with vm := (U.calling g mk a).vm } : State).setVm s₂.vm := rfl
      rw [e2] at this
      exact this
    obtain ⟨c₂, i₂, len₂, hc₂, hd₂, hf₂⟩ := hend
    have hW' : U.WarmedH s₂.vm := hW₂
    have hcc : c₂ = c := by
      have h1 : s₂.code? g.method = U.code? g.method := by
        rw [State.code?_eq, State.code?_eq, hW'.alike.method?]
      exact Option.some.inj (hc₂.symm.trans (h1.trans h.code))
    subst hcc
    have hlen : len₂ = len := by rw [hdg] at hd₂; cases hd₂; rfl
    subst hlen
    have hs₂ : s₂ = (({ U with heap := s₂.heap, slotsUsed := s₂.slotsUsed } : State).setVm s₂.vm).setTop { g with pc := g.pc + len₂, stack := v.toList ++ g.stack } := by
      refine e3.trans ?_
      rw [hf₂, State.calling_eq h.top, State.setFrames_setFrames, State.setTop_of_frames _ hr', hr]
      rfl
    have hsame : U.sameButNew ({ U with heap := s₂.heap, slotsUsed := s₂.slotsUsed } : State) L mc ms := by
      refine ⟨?_, q2, q3, q4, q5, q6⟩
      obtain ⟨t, ht, -⟩ := State.frames_cons hr
      show ({ U with heap := s₂.heap, slotsUsed := s₂.slotsUsed } : State) = { U.setFrames U.frames with heap := s₂.heap, slotsUsed := s₂.slotsUsed }
      rw [State.setFrames_self ht]
    subst hg
    refine Or.inl ⟨v, ⟨(({ U with heap := s₂.heap, slotsUsed := s₂.slotsUsed } : State).setVm s₂.vm), Ls ++ L, c0 + mc, s0 + ms⟩,
      ⟨X.admits, X.cas, X.clock, X.frames, X.room, X.hears, X.method, X.code, (X.here.setHeapUsed s₂.heap s₂.slotsUsed).setVm hW'.alike, X.tail, State.WarmedH.trans X.warmed hW', X.limits, X.bytes, X.same.trans (hsame.setVm s.vm)⟩,
      ⟨g, mk, s₂, L, rfl, rfl, hqc, rfl, hL, rfl, rfl⟩, ?_⟩
    show Steps p.tables e below _ ((({ U with heap := s₂.heap, slotsUsed := s₂.slotsUsed } : State).setVm s₂.vm).setTop { g with pc := g.pc + len₂, stack := v.toList ++ g.stack })
    rw [← hs₂]
    exact hsteps
  · obtain ⟨e2, q2, q3, q4, q5, q6⟩ := id hsm
    have e3 : s₂ = ({ (U.calling g mk a).setFrames s₂.frames with heap := s₂.heap, slotsUsed := s₂.slotsUsed } : State).setVm s₂.vm := by
      have : s₂ = ({ s₂ with vm := (U.calling g mk a).vm } : State).setVm s₂.vm := rfl
      rw [e2] at this
      exact this
    have hf₂ : s₂.frames = .throwing q :: .java g :: U.frames.tail := hend
    have hW' : U.WarmedH s₂.vm := hW₂
    have hs₂ : s₂ = ((({ U with heap := s₂.heap, slotsUsed := s₂.slotsUsed } : State).setVm s₂.vm).setTop g).pushFrame (.throwing q) := by
      refine e3.trans ?_
      rw [hf₂, State.calling_eq h.top, State.setFrames_setFrames, State.pushFrame, State.frames_setTop _ hr', State.setTop_of_frames _ hr', State.setFrames_setFrames, hr]
      rfl
    have hsame : U.sameButNew ({ U with heap := s₂.heap, slotsUsed := s₂.slotsUsed } : State) L mc ms := by
      refine ⟨?_, q2, q3, q4, q5, q6⟩
      obtain ⟨t, ht, -⟩ := State.frames_cons hr
      show ({ U with heap := s₂.heap, slotsUsed := s₂.slotsUsed } : State) = { U.setFrames U.frames with heap := s₂.heap, slotsUsed := s₂.slotsUsed }
      rw [State.setFrames_self ht]
    subst hg
    refine Or.inr ⟨q, ⟨(({ U with heap := s₂.heap, slotsUsed := s₂.slotsUsed } : State).setVm s₂.vm), Ls ++ L, c0 + mc, s0 + ms⟩,
      ⟨X.admits, X.cas, X.clock, X.frames, X.room, X.hears, X.method, X.code, (X.here.setHeapUsed s₂.heap s₂.slotsUsed).setVm hW'.alike, X.tail, State.WarmedH.trans X.warmed hW', X.limits, X.bytes, X.same.trans (hsame.setVm s.vm)⟩,
      ⟨g, mk, s₂, L, E, ce, rfl, rfl, hx, hce, hcv, hcl, rfl, hL, rfl, rfl⟩, ?_⟩
    show Steps p.tables e below _ (((({ U with heap := s₂.heap, slotsUsed := s₂.slotsUsed } : State).setVm s₂.vm).setTop g).pushFrame (.throwing q))
    rw [← hs₂]
    exact hsteps
end Payer
section Calls
variable {p : Program} {l : Launch} {e : Env} {R : Room} {s : State} {m : MethodId} {args : Array Value} {below : List Frame} {meth : Method} {c : Code} {T : State} {locs : List Loc} {cells slots : Nat}
theorem vx_callV (X : Stand p l e R s m args below meth c T locs cells slots) (hexec : p.tables.exec = Jvm.exec) {own C : String} {index : Nat} {y : MethodName} {bytes : ByteArray} {maxL : Nat} {ret : Option FieldType}
    (hown : s.vm.findClass own = some m.cls) (hlink : (Cond.methodLink own index y).before args s = true) (hinst : (Cond.instanceMethod y).before args s = true) (hsel : (Cond.selects C y y).before args s = true)
    (hcode : (Cond.code y bytes maxL ret).before args s = true) (hy : y.cls ≠ "java/lang/invoke/MethodHandle" ∧ y.cls ≠ "java/lang/invoke/VarHandle")
    {W9 : Nat} {Pre : Pt → Array Value → Prop} {Post : Pt → Array Value → Option Value → Pt → Prop} {PostX : Pt → Array Value → Addr → Pt → Prop} (hK : vx_Back l R p e below s args y 3 W9 Pre Post PostX)
    {b : Addr} {cellB : Cell} (hcell : T.heap[b]? = some cellB) (hobj : cellB.vm.isStatics = false) (hcls : s.vm.findClass C = some cellB.cls)
    {g : JFrame} (hg : g.method = m) (hsize : g.locals.size = c.maxLocals) {argsL rest : List Value} (hlen : ∀ sig, parseMethodDescriptor y.desc = some sig → argsL.length = sig.parameters.length)
    (hstack : g.stack = argsL.reverse ++ .ref b :: rest) (hW : 2 * g.monitorRoom + (rest.map fun v => v.category).sum ≤ W9) (hdg : decode c.code g.pc = .ok (.invokevirtual index, 3))
    (hpre : ∀ vm₁, s.WarmedH vm₁ → Pre ⟨T.setVm vm₁, locs, cells, slots⟩ (Value.ref b :: argsL).toArray) :
    (∃ (v : Option Value) (vm₁ : Vm) (B : Pt), s.WarmedH vm₁ ∧ Stand p l e R s m args below meth c B.U B.locs B.cells B.slots ∧ Post ⟨T.setVm vm₁, locs, cells, slots⟩ (Value.ref b :: argsL).toArray v B ∧
      ∀ target, Steps p.tables e below (B.U.setTop { g with pc := g.pc + 3, stack := v.toList ++ rest }) target → Steps p.tables e below (T.setTop g) target) ∨
    (∃ (q : Addr) (vm₁ : Vm) (B : Pt), s.WarmedH vm₁ ∧ Stand p l e R s m args below meth c B.U B.locs B.cells B.slots ∧ PostX ⟨T.setVm vm₁, locs, cells, slots⟩ (Value.ref b :: argsL).toArray q B ∧
      Steps p.tables e below (T.setTop g) ((B.U.setTop { g with stack := rest }).pushFrame (.throwing q))) := by
  obtain ⟨mk, methM, hnamed, hmethM, hstM, habM⟩ := Cond.instanceMethod_spec hinst
  obtain ⟨methM', cM, hmethM', -, -, -, -, -, -, hsigM⟩ := Cond.code_spec hnamed hcode
  cases hmethM.symm.trans hmethM'
  obtain ⟨c2, r2, m2, q1, q2, q3, q4, kP, hkP, hkPi⟩ := Cond.selects_spec hsel
  cases hcls.symm.trans q1
  cases (State.methodFound?_of_named hnamed hy).symm.trans q2
  cases hnamed.symm.trans q3
  have hselP : selectMethod e.platform s.vm cellB.cls mk = .method mk := by rw [Launch.admits_selectMethod X.admits]; exact q4
  obtain ⟨vm₁, X₁, hstep₁⟩ := X.invokevirtual hexec hown hlink hnamed hmethM hstM hkP hkPi hy (a := b) (cell := cellB) hcell
    (fun z h => by rw [h] at hobj; cases hobj) hselP hmethM habM hkP hkPi (g := g) hg (argsL := argsL) (rest := rest) (hlen _ hsigM) hstack hdg
  rcases hK m meth c ⟨T.setVm vm₁, locs, cells, slots⟩ { g with stack := rest } (.invokevirtual index) mk (Value.ref b :: argsL).toArray X₁ hg hsize hdg hW (X₁.named hnamed) (hpre vm₁ X₁.warmed) with ⟨v, B, X', hpost, hsteps⟩ | ⟨q, B, X', hpost, hsteps⟩
  · exact Or.inl ⟨v, vm₁, B, X₁.warmed, X', hpost, fun target h => hstep₁ _ fun acts => by rw [doInvoke_state]; exact hsteps.trans h⟩
  · exact Or.inr ⟨q, vm₁, B, X₁.warmed, X', hpost, hstep₁ _ fun acts => by rw [doInvoke_state]; exact hsteps⟩
theorem vx_callS (X : Stand p l e R s m args below meth c T locs cells slots) (hexec : p.tables.exec = Jvm.exec) {own : String} {index : Nat} {y : MethodName} {bytes : ByteArray} {maxL : Nat} {ret : Option FieldType}
    (hown : s.vm.findClass own = some m.cls) (hlink : (Cond.methodLink own index y).before args s = true) (hstat : (Cond.static y).before args s = true) (hinit : (Cond.initialized y.cls).before args s = true)
    (hcode : (Cond.code y bytes maxL ret).before args s = true) (hy : y.cls ≠ "java/lang/invoke/MethodHandle" ∧ y.cls ≠ "java/lang/invoke/VarHandle")
    {W9 : Nat} {Pre : Pt → Array Value → Prop} {Post : Pt → Array Value → Option Value → Pt → Prop} {PostX : Pt → Array Value → Addr → Pt → Prop} (hK : vx_Back l R p e below s args y 3 W9 Pre Post PostX)
    {g : JFrame} (hg : g.method = m) (hsize : g.locals.size = c.maxLocals) {argsL rest : List Value} (hlen : ∀ sig, parseMethodDescriptor y.desc = some sig → argsL.length = sig.parameters.length)
    (hstack : g.stack = argsL.reverse ++ rest) (hW : 2 * g.monitorRoom + (rest.map fun v => v.category).sum ≤ W9) (hdg : decode c.code g.pc = .ok (.invokestatic index, 3))
    (hpre : ∀ vm₁, s.WarmedH vm₁ → Pre ⟨T.setVm vm₁, locs, cells, slots⟩ argsL.toArray) :
    (∃ (v : Option Value) (vm₁ : Vm) (B : Pt), s.WarmedH vm₁ ∧ Stand p l e R s m args below meth c B.U B.locs B.cells B.slots ∧ Post ⟨T.setVm vm₁, locs, cells, slots⟩ argsL.toArray v B ∧
      ∀ target, Steps p.tables e below (B.U.setTop { g with pc := g.pc + 3, stack := v.toList ++ rest }) target → Steps p.tables e below (T.setTop g) target) ∨
    (∃ (q : Addr) (vm₁ : Vm) (B : Pt), s.WarmedH vm₁ ∧ Stand p l e R s m args below meth c B.U B.locs B.cells B.slots ∧ PostX ⟨T.setVm vm₁, locs, cells, slots⟩ argsL.toArray q B ∧
      Steps p.tables e below (T.setTop g) ((B.U.setTop { g with stack := rest }).pushFrame (.throwing q))) := by
  obtain ⟨mk, hnamed⟩ := Cond.code_named hcode
  obtain ⟨methM, cM, hmethM, -, -, -, -, -, -, hsigM⟩ := Cond.code_spec hnamed hcode
  have hstatic : methM.isStatic = true := Cond.static_spec hnamed hmethM hstat
  obtain ⟨kP, hkP, -⟩ := className_of_methodNamed hnamed
  have hinitP : kP.init = .initialized := Cond.initialized_spec (findClass_of_methodNamed hnamed) hkP hinit
  obtain ⟨vm₁, X₁, hstep₁⟩ := X.invokestatic hexec hown hlink hnamed hmethM hstatic hkP hinitP hy (g := g) hg (argsL := argsL) (rest := rest) (hlen _ hsigM) hstack hdg
  rcases hK m meth c ⟨T.setVm vm₁, locs, cells, slots⟩ { g with stack := rest } (.invokestatic index) mk argsL.toArray X₁ hg hsize hdg hW (X₁.named hnamed) (hpre vm₁ X₁.warmed) with ⟨v, B, X', hpost, hsteps⟩ | ⟨q, B, X', hpost, hsteps⟩
  · exact Or.inl ⟨v, vm₁, B, X₁.warmed, X', hpost, fun target h => hstep₁ _ fun acts => by rw [doInvoke_state]; exact hsteps.trans h⟩
  · exact Or.inr ⟨q, vm₁, B, X₁.warmed, X', hpost, hstep₁ _ fun acts => by rw [doInvoke_state]; exact hsteps⟩
end Calls
theorem vx_cls {s : State} {T : State} {vm₁ : Vm} {E : String} {k : ClassId} (hW : s.WarmedH vm₁) (h : (T.setVm vm₁).vm.findClass E = some k) : s.vm.findClass E = some k := by
  have h1 : vm₁.findClass E = some k := h
  rw [hW.alike.findClass] at h1
  exact h1
/-- the method's frame g, with q thrown over it -/
def vx_W (p : Program) (l : Launch) (e : Env) (R : Room) (s : State) (m : MethodId) (args : Array Value) (below : List Frame) (meth : Method) (c : Code) (H : Heap) (locs : List Loc) (cells slots : Nat) (Q : State → Prop) (g : JFrame) (q : Addr) : Prop :=
  ∀ T : State, T.heap = H → Stand p l e R s m args below meth c T locs cells slots → ∃ t, Steps p.tables e below ((T.setTop g).pushFrame (.throwing q)) t ∧ Q t
def vx_Run (p : Program) (l : Launch) (e : Env) (R : Room) (s : State) (m : MethodId) (args : Array Value) (below : List Frame) (meth : Method) (c : Code) (H : Heap) (locs : List Loc) (cells slots mc ms : Nat) (g : JFrame) (rest : List Value) (Qa : State → Outcome → State → Prop) (XC : String → State → State → Prop) (free : Addr → Prop) : Prop :=
  ∀ T : State, T.heap = H → Stand p l e R s m args below meth c T locs cells slots →
    (∃ (v : Option Value) (st₀ t T' : State) (L : List Loc), st₀.heap = H ∧ Stand p l e R s m args below meth c T' (locs ++ L) (cells + mc) (slots + ms) ∧ (∀ q ∈ L, free q.base) ∧ T'.heap = t.heap ∧ T'.vm = t.vm ∧ Qa st₀ (.returned v) t ∧
      Goes p e below T g T' { g with pc := g.pc + 3, stack := v.toList ++ rest }) ∨
    (∃ (q : Addr) (st₀ t T' : State) (L : List Loc) (E : String) (ce : Cell), st₀.heap = H ∧ Stand p l e R s m args below meth c T' (locs ++ L) (cells + mc) (slots + ms) ∧ (∀ z ∈ L, free z.base) ∧ T'.heap = t.heap ∧ T'.vm = t.vm ∧ XC E st₀ t ∧ t.heap[q]? = some ce ∧ ce.vm = .none ∧ s.vm.findClass E = some ce.cls ∧
      Steps p.tables e below (T.setTop g) ((T'.setTop { g with stack := rest }).pushFrame (.throwing q)))
def vx_X {S : Type} (px : S → Prop) (B : String → S → State → Prop) (A : Nat → Prop) : String → State → State → Prop := fun E st t => ∃ u : S, px u ∧ B E u t ∧ va_F A st t
section Runs
variable {p : Program} {l : Launch} {e : Env} {R : Room} {s : State} {m : MethodId} {args : Array Value} {below : List Frame} {meth : Method} {c : Code} {H : Heap} {locs : List Loc} {cells slots : Nat}
variable {y : MethodName} {bytes cc : ByteArray} {maxL nL mc ms n index : Nat} {ret : Option FieldType} {ws : List Cond} {rm : Room} {Pc : Array Value → State → Prop} {Qc : Array Value → State → Outcome → State → Prop} {XC : String → State → State → Prop} {free : Addr → Prop} {Ts : List Cond} {own C : String} {b : Addr} {As rest : List Value} {g : JFrame}
theorem vx_callBack (cb : CallB R s args own index y bytes maxL ret ws rm mc ms n) (hM : vx_Met l y ws rm Pc Qc XC mc ms free) (hbl : FrameBlind Pc) : vx_Back l R p e below s args y 3 8 (PreOf R mc ms Pc) (PostOf Qc mc ms free) (vx_Post XC mc ms free) := by
  obtain ⟨hrc, hrs, hfr, hlo, hws, hcw, -, hini, -⟩ := cb
  exact vx_back (bytes := bytes) (maxL := maxL) (ret := ret) hM hbl hrc hrs hfr hlo hws hcw (fun a' U hW => word_at hW (Or.inl (by first | rfl | simp [Cond.onTables, Cond.keeps, Cond.steady])) hini)
theorem vx_runV (S : CallFix p m c cc nL s args Ts own) (hM : vx_Met l y ws rm Pc Qc XC mc ms free) (cw : CallW R s args own C index y bytes maxL ret ws rm mc ms n) (hp : PreV s H C b Pc As)
    (hg : g.method = m) (hn : As.length = n) (hsize : g.locals.size = nL) (hstack : g.stack = As.reverse ++ .ref b :: rest) (hW : 2 * g.monitorRoom + (rest.map fun v => v.category).sum ≤ 8) (hdg : decode cc g.pc = .ok (.invokevirtual index, 3)) (hf : cells + mc ≤ R.cells ∧ slots + ms ≤ R.slots) :
    vx_Run p l e R s m args below meth c H locs cells slots mc ms g rest (Qc (Value.ref b :: As).toArray) XC free := by
  have hK : vx_Back l R p e below s args y 3 8 (PreOf R mc ms Pc) (PostOf Qc mc ms free) (vx_Post XC mc ms free) := vx_callBack cw.1 hM hp.1
  obtain ⟨⟨-, -, -, -, -, -, hcode, -, hy, hlen, hl⟩, hin, hse⟩ := cw
  obtain ⟨hx, hb, hml, ho, -⟩ := S
  obtain ⟨-, ⟨cellB, hcB, hoB, hclB⟩, hPc⟩ := hp
  intro T hT X
  rcases vx_callV X hx (C := C) (bytes := bytes) (maxL := maxL) (ret := ret) ho hl hin hse hcode hy hK (by rw [hT]; exact hcB) hoB hclB hg (hsize.trans hml.symm) (argsL := As) (rest := rest) (fun sig h => hn.trans (hlen sig h)) hstack hW (by rw [hb]; exact hdg)
    (fun vm₁ hW₁ => ⟨hf.1, hf.2, hPc (T.setVm vm₁) hT hW₁⟩) with ⟨v, vm₁, ⟨U', l2, c2, s2⟩, hW₁, X', ⟨g', mk, t, L, e1, e2, hq, h1, hL, h2, h3⟩, st⟩ | ⟨q, vm₁, ⟨U', l2, c2, s2⟩, hW₁, X', ⟨g', mk, t, L, E, ce, e1, e2, hq, hce, hcv, hcl, h1, hL, h2, h3⟩, st⟩
  · dsimp only [Pt.U, Pt.locs, Pt.cells, Pt.slots] at X' e1 e2 h1 h2 h3 st
    subst h1; subst h2; subst h3
    exact Or.inl ⟨v, (T.setVm vm₁).calling g' mk (Value.ref b :: As).toArray, t, U', L, hT, X', hL, e1, e2, hq, st⟩
  · dsimp only [Pt.U, Pt.locs, Pt.cells, Pt.slots] at X' e1 e2 h1 h2 h3 st hcl
    subst h1; subst h2; subst h3
    exact Or.inr ⟨q, (T.setVm vm₁).calling g' mk (Value.ref b :: As).toArray, t, U', L, E, ce, hT, X', hL, e1, e2, hq, hce, hcv, vx_cls hW₁ hcl, st⟩
theorem vx_runS (S : CallFix p m c cc nL s args Ts own) (hM : vx_Met l y ws rm Pc Qc XC mc ms free) (cw : CallB R s args own index y bytes maxL ret ws rm mc ms n ∧ (Cond.static y).before args s = true) (hp : PreS s H Pc As)
    (hg : g.method = m) (hn : As.length = n) (hsize : g.locals.size = nL) (hstack : g.stack = As.reverse ++ rest) (hW : 2 * g.monitorRoom + (rest.map fun v => v.category).sum ≤ 8) (hdg : decode cc g.pc = .ok (.invokestatic index, 3)) (hf : cells + mc ≤ R.cells ∧ slots + ms ≤ R.slots) :
    vx_Run p l e R s m args below meth c H locs cells slots mc ms g rest (Qc As.toArray) XC free := by
  have hK : vx_Back l R p e below s args y 3 8 (PreOf R mc ms Pc) (PostOf Qc mc ms free) (vx_Post XC mc ms free) := vx_callBack cw.1 hM hp.1
  obtain ⟨⟨-, -, -, -, -, -, hcode, hini, hy, hlen, hl⟩, hstt⟩ := cw
  obtain ⟨hx, hb, hml, ho, -⟩ := S
  intro T hT X
  rcases vx_callS X hx (bytes := bytes) (maxL := maxL) (ret := ret) ho hl hstt hini hcode hy hK hg (hsize.trans hml.symm) (argsL := As) (rest := rest) (fun sig h => hn.trans (hlen sig h)) hstack hW (by rw [hb]; exact hdg)
    (fun vm₁ hW₁ => ⟨hf.1, hf.2, hp.2 (T.setVm vm₁) hT hW₁⟩) with ⟨v, vm₁, ⟨U', l2, c2, s2⟩, hW₁, X', ⟨g', mk, t, L, e1, e2, hq, h1, hL, h2, h3⟩, st⟩ | ⟨q, vm₁, ⟨U', l2, c2, s2⟩, hW₁, X', ⟨g', mk, t, L, E, ce, e1, e2, hq, hce, hcv, hcl, h1, hL, h2, h3⟩, st⟩
  · dsimp only [Pt.U, Pt.locs, Pt.cells, Pt.slots] at X' e1 e2 h1 h2 h3 st
    subst h1; subst h2; subst h3
    exact Or.inl ⟨v, (T.setVm vm₁).calling g' mk As.toArray, t, U', L, hT, X', hL, e1, e2, hq, st⟩
  · dsimp only [Pt.U, Pt.locs, Pt.cells, Pt.slots] at X' e1 e2 h1 h2 h3 st hcl
    subst h1; subst h2; subst h3
    exact Or.inr ⟨q, (T.setVm vm₁).calling g' mk As.toArray, t, U', L, E, ce, hT, X', hL, e1, e2, hq, hce, hcv, vx_cls hW₁ hcl, st⟩
end Runs
section Rows
variable {p : Program} {l : Launch} {e : Env} {R : Room} {s : State} {m : MethodId} {args : Array Value} {below : List Frame} {meth : Method} {c : Code} {H : Heap} {locs : List Loc} {cells slots : Nat} {Q : State → Prop}
variable {mc ms : Nat} {free : Addr → Prop} {A0 A1 : Nat → Prop} {H0 : Heap} {a : Array Value} {pc : Nat} {ls : Array Slot} {st0 rest : List Value}
theorem vx_keep {st₀ t T' : State} {L : List Loc} (h0 : st₀.heap = H) (e1 : T'.heap = t.heap) (hS : va_S A0 H0 H locs) (hA : ∀ q, q < H.size → A1 q → A0 q) (hf : ∀ q, free q → A0 q) (hL : ∀ q ∈ L, free q.base) (hF : va_F A1 st₀ t) :
    H.size ≤ T'.heap.size ∧ (∀ q : Nat, q < H.size → ¬ A1 q → T'.heap[q]? = H[q]?) ∧ va_S A0 H0 T'.heap (locs ++ L) := by
  obtain ⟨hz, hk⟩ := hF
  rw [h0] at hz hk
  exact ⟨by rw [e1]; exact hz, fun q h1 h2 => by rw [e1]; exact hk q h1 h2,
    ⟨Nat.le_trans hS.1 (by rw [e1]; exact hz), fun q h1 h2 => by rw [e1, hk q (Nat.lt_of_lt_of_le h1 hS.1) (fun z => h2 (hA q (Nat.lt_of_lt_of_le h1 hS.1) z))]; exact hS.2.1 q h1 h2, fun q hq => by
      rcases List.mem_append.mp hq with h | h
      · exact hS.2.2 q h
      · exact hf _ (hL q h)⟩⟩
theorem vx_calli {S SX : Type} {post : Int32 → S → Prop} {px : SX → Prop} {B : S → State → Prop} {BX : String → SX → State → Prop} {AX : Nat → Prop} (hr : vx_Run p l e R s m args below meth c H locs cells slots mc ms (F0 m pc ls st0) rest (va_Qi post B A1 a) (vx_X px BX AX) free) (hS : va_S A0 H0 H locs) (hA : ∀ q, q < H.size → A1 q → A0 q) (hf : ∀ q, free q → A0 q) (hAX : ∀ q, q < H.size → AX q → A0 q)
    (kx : ∀ (E : String) (ce : Cell) (q9 : Addr) (u : SX) (t : State) (H1 : Heap) (locs1 : List Loc), t.heap = H1 → s.vm.Alike t.vm → px u → BX E u t → H.size ≤ H1.size → (∀ q : Nat, q < H.size → ¬ AX q → H1[q]? = H[q]?) → va_S A0 H0 H1 locs1 → H1[q9]? = some ce → ce.vm = .none → s.vm.findClass E = some ce.cls → vx_W p l e R s m args below meth c H1 locs1 (cells + mc) (slots + ms) Q (F0 m pc ls rest) q9)
    (kk : ∀ (r : Int32) (u : S) (t : State) (H1 : Heap) (locs1 : List Loc), t.heap = H1 → s.vm.Alike t.vm → post r u → B u t → H.size ≤ H1.size → (∀ q : Nat, q < H.size → ¬ A1 q → H1[q]? = H[q]?) → va_S A0 H0 H1 locs1 → W p l e R s m args below meth c H1 locs1 (cells + mc) (slots + ms) Q (F0 m (pc + 3) ls (.int r :: rest))) : W p l e R s m args below meth c H locs cells slots Q (F0 m pc ls st0) := by
  intro T hT X
  rcases hr T hT X with ⟨v, st₀, t, T', L, h0, X', hL, e1, e2, ⟨⟨r, u, hv, hp, hb⟩, hF⟩, st⟩ | ⟨q, st₀, t, T', L, E, ce, h0, X', hL, e1, e2, ⟨u, hp, hb, hF⟩, hce, hcv, hcl, st⟩
  · cases hv
    obtain ⟨k1, k2, k3⟩ := vx_keep h0 e1 hS hA hf hL hF
    obtain ⟨t2, a1, b1⟩ := kk r u t T'.heap (locs ++ L) e1.symm (by rw [← e2]; exact X'.warmed.alike) hp hb k1 k2 k3 T' rfl X'
    exact ⟨t2, st t2 a1, b1⟩
  · obtain ⟨k1, k2, k3⟩ := vx_keep h0 e1 hS hAX hf hL hF
    obtain ⟨t2, a1, b1⟩ := kx E ce q u t T'.heap (locs ++ L) e1.symm (by rw [← e2]; exact X'.warmed.alike) hp hb k1 k2 k3 (by rw [e1]; exact hce) hcv hcl T' rfl X'
    exact ⟨t2, st.trans a1, b1⟩
theorem vx_calll {S SX : Type} {post : Int64 → S → Prop} {px : SX → Prop} {B : S → State → Prop} {BX : String → SX → State → Prop} {AX : Nat → Prop} (hr : vx_Run p l e R s m args below meth c H locs cells slots mc ms (F0 m pc ls st0) rest (va_Ql post B A1 a) (vx_X px BX AX) free) (hS : va_S A0 H0 H locs) (hA : ∀ q, q < H.size → A1 q → A0 q) (hf : ∀ q, free q → A0 q) (hAX : ∀ q, q < H.size → AX q → A0 q)
    (kx : ∀ (E : String) (ce : Cell) (q9 : Addr) (u : SX) (t : State) (H1 : Heap) (locs1 : List Loc), t.heap = H1 → s.vm.Alike t.vm → px u → BX E u t → H.size ≤ H1.size → (∀ q : Nat, q < H.size → ¬ AX q → H1[q]? = H[q]?) → va_S A0 H0 H1 locs1 → H1[q9]? = some ce → ce.vm = .none → s.vm.findClass E = some ce.cls → vx_W p l e R s m args below meth c H1 locs1 (cells + mc) (slots + ms) Q (F0 m pc ls rest) q9)
    (kk : ∀ (r : Int64) (u : S) (t : State) (H1 : Heap) (locs1 : List Loc), t.heap = H1 → s.vm.Alike t.vm → post r u → B u t → H.size ≤ H1.size → (∀ q : Nat, q < H.size → ¬ A1 q → H1[q]? = H[q]?) → va_S A0 H0 H1 locs1 → W p l e R s m args below meth c H1 locs1 (cells + mc) (slots + ms) Q (F0 m (pc + 3) ls (.long r :: rest))) : W p l e R s m args below meth c H locs cells slots Q (F0 m pc ls st0) := by
  intro T hT X
  rcases hr T hT X with ⟨v, st₀, t, T', L, h0, X', hL, e1, e2, ⟨⟨r, u, hv, hp, hb⟩, hF⟩, st⟩ | ⟨q, st₀, t, T', L, E, ce, h0, X', hL, e1, e2, ⟨u, hp, hb, hF⟩, hce, hcv, hcl, st⟩
  · cases hv
    obtain ⟨k1, k2, k3⟩ := vx_keep h0 e1 hS hA hf hL hF
    obtain ⟨t2, a1, b1⟩ := kk r u t T'.heap (locs ++ L) e1.symm (by rw [← e2]; exact X'.warmed.alike) hp hb k1 k2 k3 T' rfl X'
    exact ⟨t2, st t2 a1, b1⟩
  · obtain ⟨k1, k2, k3⟩ := vx_keep h0 e1 hS hAX hf hL hF
    obtain ⟨t2, a1, b1⟩ := kx E ce q u t T'.heap (locs ++ L) e1.symm (by rw [← e2]; exact X'.warmed.alike) hp hb k1 k2 k3 (by rw [e1]; exact hce) hcv hcl T' rfl X'
    exact ⟨t2, st.trans a1, b1⟩
theorem vx_callf {S SX : Type} {post : UInt32 → S → Prop} {px : SX → Prop} {B : S → State → Prop} {BX : String → SX → State → Prop} {AX : Nat → Prop} (hr : vx_Run p l e R s m args below meth c H locs cells slots mc ms (F0 m pc ls st0) rest (va_Qf post B A1 a) (vx_X px BX AX) free) (hS : va_S A0 H0 H locs) (hA : ∀ q, q < H.size → A1 q → A0 q) (hf : ∀ q, free q → A0 q) (hAX : ∀ q, q < H.size → AX q → A0 q)
    (kx : ∀ (E : String) (ce : Cell) (q9 : Addr) (u : SX) (t : State) (H1 : Heap) (locs1 : List Loc), t.heap = H1 → s.vm.Alike t.vm → px u → BX E u t → H.size ≤ H1.size → (∀ q : Nat, q < H.size → ¬ AX q → H1[q]? = H[q]?) → va_S A0 H0 H1 locs1 → H1[q9]? = some ce → ce.vm = .none → s.vm.findClass E = some ce.cls → vx_W p l e R s m args below meth c H1 locs1 (cells + mc) (slots + ms) Q (F0 m pc ls rest) q9)
    (kk : ∀ (r : UInt32) (u : S) (t : State) (H1 : Heap) (locs1 : List Loc), t.heap = H1 → s.vm.Alike t.vm → post r u → B u t → H.size ≤ H1.size → (∀ q : Nat, q < H.size → ¬ A1 q → H1[q]? = H[q]?) → va_S A0 H0 H1 locs1 → W p l e R s m args below meth c H1 locs1 (cells + mc) (slots + ms) Q (F0 m (pc + 3) ls (.float r :: rest))) : W p l e R s m args below meth c H locs cells slots Q (F0 m pc ls st0) := by
  intro T hT X
  rcases hr T hT X with ⟨v, st₀, t, T', L, h0, X', hL, e1, e2, ⟨⟨r, u, hv, hp, hb⟩, hF⟩, st⟩ | ⟨q, st₀, t, T', L, E, ce, h0, X', hL, e1, e2, ⟨u, hp, hb, hF⟩, hce, hcv, hcl, st⟩
  · cases hv
    obtain ⟨k1, k2, k3⟩ := vx_keep h0 e1 hS hA hf hL hF
    obtain ⟨t2, a1, b1⟩ := kk r u t T'.heap (locs ++ L) e1.symm (by rw [← e2]; exact X'.warmed.alike) hp hb k1 k2 k3 T' rfl X'
    exact ⟨t2, st t2 a1, b1⟩
  · obtain ⟨k1, k2, k3⟩ := vx_keep h0 e1 hS hAX hf hL hF
    obtain ⟨t2, a1, b1⟩ := kx E ce q u t T'.heap (locs ++ L) e1.symm (by rw [← e2]; exact X'.warmed.alike) hp hb k1 k2 k3 (by rw [e1]; exact hce) hcv hcl T' rfl X'
    exact ⟨t2, st.trans a1, b1⟩
theorem vx_calld {S SX : Type} {post : UInt64 → S → Prop} {px : SX → Prop} {B : S → State → Prop} {BX : String → SX → State → Prop} {AX : Nat → Prop} (hr : vx_Run p l e R s m args below meth c H locs cells slots mc ms (F0 m pc ls st0) rest (va_Qd post B A1 a) (vx_X px BX AX) free) (hS : va_S A0 H0 H locs) (hA : ∀ q, q < H.size → A1 q → A0 q) (hf : ∀ q, free q → A0 q) (hAX : ∀ q, q < H.size → AX q → A0 q)
    (kx : ∀ (E : String) (ce : Cell) (q9 : Addr) (u : SX) (t : State) (H1 : Heap) (locs1 : List Loc), t.heap = H1 → s.vm.Alike t.vm → px u → BX E u t → H.size ≤ H1.size → (∀ q : Nat, q < H.size → ¬ AX q → H1[q]? = H[q]?) → va_S A0 H0 H1 locs1 → H1[q9]? = some ce → ce.vm = .none → s.vm.findClass E = some ce.cls → vx_W p l e R s m args below meth c H1 locs1 (cells + mc) (slots + ms) Q (F0 m pc ls rest) q9)
    (kk : ∀ (r : UInt64) (u : S) (t : State) (H1 : Heap) (locs1 : List Loc), t.heap = H1 → s.vm.Alike t.vm → post r u → B u t → H.size ≤ H1.size → (∀ q : Nat, q < H.size → ¬ A1 q → H1[q]? = H[q]?) → va_S A0 H0 H1 locs1 → W p l e R s m args below meth c H1 locs1 (cells + mc) (slots + ms) Q (F0 m (pc + 3) ls (.double r :: rest))) : W p l e R s m args below meth c H locs cells slots Q (F0 m pc ls st0) := by
  intro T hT X
  rcases hr T hT X with ⟨v, st₀, t, T', L, h0, X', hL, e1, e2, ⟨⟨r, u, hv, hp, hb⟩, hF⟩, st⟩ | ⟨q, st₀, t, T', L, E, ce, h0, X', hL, e1, e2, ⟨u, hp, hb, hF⟩, hce, hcv, hcl, st⟩
  · cases hv
    obtain ⟨k1, k2, k3⟩ := vx_keep h0 e1 hS hA hf hL hF
    obtain ⟨t2, a1, b1⟩ := kk r u t T'.heap (locs ++ L) e1.symm (by rw [← e2]; exact X'.warmed.alike) hp hb k1 k2 k3 T' rfl X'
    exact ⟨t2, st t2 a1, b1⟩
  · obtain ⟨k1, k2, k3⟩ := vx_keep h0 e1 hS hAX hf hL hF
    obtain ⟨t2, a1, b1⟩ := kx E ce q u t T'.heap (locs ++ L) e1.symm (by rw [← e2]; exact X'.warmed.alike) hp hb k1 k2 k3 (by rw [e1]; exact hce) hcv hcl T' rfl X'
    exact ⟨t2, st.trans a1, b1⟩
theorem vx_callv {S SX : Type} {post : S → Prop} {px : SX → Prop} {B : S → State → Prop} {BX : String → SX → State → Prop} {AX : Nat → Prop} (hr : vx_Run p l e R s m args below meth c H locs cells slots mc ms (F0 m pc ls st0) rest (va_Qv post B A1 a) (vx_X px BX AX) free) (hS : va_S A0 H0 H locs) (hA : ∀ q, q < H.size → A1 q → A0 q) (hf : ∀ q, free q → A0 q) (hAX : ∀ q, q < H.size → AX q → A0 q)
    (kx : ∀ (E : String) (ce : Cell) (q9 : Addr) (u : SX) (t : State) (H1 : Heap) (locs1 : List Loc), t.heap = H1 → s.vm.Alike t.vm → px u → BX E u t → H.size ≤ H1.size → (∀ q : Nat, q < H.size → ¬ AX q → H1[q]? = H[q]?) → va_S A0 H0 H1 locs1 → H1[q9]? = some ce → ce.vm = .none → s.vm.findClass E = some ce.cls → vx_W p l e R s m args below meth c H1 locs1 (cells + mc) (slots + ms) Q (F0 m pc ls rest) q9)
    (kk : ∀ (u : S) (t : State) (H1 : Heap) (locs1 : List Loc), t.heap = H1 → s.vm.Alike t.vm → post u → B u t → H.size ≤ H1.size → (∀ q : Nat, q < H.size → ¬ A1 q → H1[q]? = H[q]?) → va_S A0 H0 H1 locs1 → W p l e R s m args below meth c H1 locs1 (cells + mc) (slots + ms) Q (F0 m (pc + 3) ls (rest))) : W p l e R s m args below meth c H locs cells slots Q (F0 m pc ls st0) := by
  intro T hT X
  rcases hr T hT X with ⟨v, st₀, t, T', L, h0, X', hL, e1, e2, ⟨⟨u, hv, hp, hb⟩, hF⟩, st⟩ | ⟨q, st₀, t, T', L, E, ce, h0, X', hL, e1, e2, ⟨u, hp, hb, hF⟩, hce, hcv, hcl, st⟩
  · cases hv
    obtain ⟨k1, k2, k3⟩ := vx_keep h0 e1 hS hA hf hL hF
    obtain ⟨t2, a1, b1⟩ := kk u t T'.heap (locs ++ L) e1.symm (by rw [← e2]; exact X'.warmed.alike) hp hb k1 k2 k3 T' rfl X'
    exact ⟨t2, st t2 a1, b1⟩
  · obtain ⟨k1, k2, k3⟩ := vx_keep h0 e1 hS hAX hf hL hF
    obtain ⟨t2, a1, b1⟩ := kx E ce q u t T'.heap (locs ++ L) e1.symm (by rw [← e2]; exact X'.warmed.alike) hp hb k1 k2 k3 (by rw [e1]; exact hce) hcv hcl T' rfl X'
    exact ⟨t2, st.trans a1, b1⟩
/-- caught by the row x of this method's table; the rows ahead don't take it -/
theorem vx_catch {own name : String} {E : String} {ce : Cell} {q : Addr} (hown : s.vm.findClass own = some m.cls) (pre : List ExceptionTableEntry) (x : ExceptionTableEntry) (suf : List ExceptionTableEntry) (hsplit : c.exceptionTable.toList = pre ++ x :: suf)
    (hpass : ∀ z ∈ pre, covers z pc = false ∨ (z.catchType ≠ 0 ∧ ∃ nm : String, (Cond.classLink own z.catchType nm).before args s = true ∧ va_Nc E nm s)) (hx : covers x pc = true) (h0 : x.catchType ≠ 0)
    (hlink : (Cond.classLink own x.catchType name).before args s = true) (hcast : (Cond.castable E name).before args s = true) (hcell : H[q]? = some ce) (hv : ce.vm = .none) (hcl : s.vm.findClass E = some ce.cls)
    (kk : W p l e R s m args below meth c H locs cells slots Q (F0 m x.handlerPc ls [.ref q])) : vx_W p l e R s m args below meth c H locs cells slots Q (F0 m pc ls rest) q := by
  intro T hT X
  have hpl : e.platform.magicAccessors = ({} : Platform).magicAccessors := by rw [X.admits.platform]
  obtain ⟨c3, c4, hc3, hc4, hasg⟩ := Cond.castable_spec hcast
  cases Option.some.inj (hc3.symm.trans hcl)
  obtain ⟨c5, hc5, hcl5⟩ := Cond.classLink_spec hown hlink e.platform hpl
  cases Option.some.inj (hc4.symm.trans hc5)
  obtain ⟨vm', X', st⟩ := Jvm.Stand.thenCaughtThrough X q (g := F0 m pc ls rest) rfl (Steps.refl _) (by rw [hT]; exact hcell) (by rw [hv]; rfl) (by obtain ⟨k9, h9, -⟩ := Vm.findClass_spec hcl; exact ⟨k9, h9⟩) pre x suf hsplit
    (fun z hz => by
      rcases hpass z hz with h | ⟨hz0, nm, hl1, hn1⟩
      · exact Or.inl h
      · obtain ⟨c6, hc6, hcl6⟩ := Cond.classLink_spec hown hl1 e.platform hpl
        obtain ⟨a8, b8, h1, h2, h3⟩ := hn1
        cases Option.some.inj (h1.symm.trans hcl)
        cases Option.some.inj (h2.symm.trans hc6)
        exact Or.inr ⟨hz0, _, hcl6, h3⟩) hx (Or.inr ⟨h0, c4, hcl5, hasg⟩)
  obtain ⟨t, a1, b1⟩ := kk (T.setVm vm') hT X'
  exact ⟨t, st.trans a1, b1⟩
end Rows
section Ends
variable {p : Program} {l : Launch} {e : Env} {R : Room} {s : State} {m : MethodId} {args : Array Value} {below : List Frame} {meth : Method} {c : Code} {H : Heap} {locs : List Loc} {cells slots : Nat} {Q : State → Prop}
variable {mc ms : Nat} {free : Addr → Prop} {A0 A1 : Nat → Prop} {H0 : Heap} {a : Array Value} {ls : Array Slot} {st0 rest : List Value}
variable {Qc : Array Value → State → Outcome → State → Prop} {XC : String → State → State → Prop}
/-- what a body that may throw owes at its end -/
def vx_MQ (below : List Frame) (Qc : Array Value → State → Outcome → State → Prop) (XC : String → State → State → Prop) (a : Array Value) (s : State) (mc ms : Nat) (free : Addr → Prop) : State → Prop := fun t =>
  ∃ o, t.status = .running ∧ Ended t below o ∧ vx_Q Qc XC mc ms free a s o t
theorem vx_ret {g : JFrame} {mc ms : Nat} (k : W p l e R s m args below meth c H locs cells slots (MQ below Qc args s mc ms free) g) : W p l e R s m args below meth c H locs cells slots (vx_MQ below Qc XC args s mc ms free) g := by
  intro T hT X
  obtain ⟨t, a1, o, b1, b2, b3, b4⟩ := k T hT X
  exact ⟨t, a1, o, b1, b2, Or.inl ⟨b3, b4⟩⟩
/-- not caught here: it goes on to the caller -/
theorem vx_widen {g : JFrame} {q : Addr} {k n : Nat} (h1 : cells ≤ k) (h2 : slots ≤ n) (kk : vx_W p l e R s m args below meth c H locs k n Q g q) : vx_W p l e R s m args below meth c H locs cells slots Q g q := fun T hT X => kk T hT (stand_widen X h1 h2)
theorem vx_out {pc : Nat} {E : String} {ce : Cell} {q : Addr} {mc ms : Nat} (hout : ∀ x ∈ c.exceptionTable.toList, covers x pc = false) (hlocks : meth.locks = false) (hcell : H[q]? = some ce) (hv : ce.vm = .none) (hcl : s.vm.findClass E = some ce.cls)
    (hx : ∀ t : State, t.heap = H → s.vm.Alike t.vm → XC E s t) (hf : ∀ z ∈ locs, free z.base) (hc : cells ≤ mc) (hs : slots ≤ ms) :
    vx_W p l e R s m args below meth c H locs cells slots (vx_MQ below Qc XC args s mc ms free) (F0 m pc ls rest) q := by
  intro T hT X
  obtain ⟨st1, hrun, hend, hW, hsm⟩ := X.leaveThrown q (g := F0 m pc ls rest) rfl rfl rfl hout hlocks
  have hcell9 : (T.setFrames (.throwing q :: below)).heap[q]? = some ce := by
    show T.heap[q]? = some ce
    rw [hT]; exact hcell
  exact ⟨_, st1, .threw q, hrun, hend, Or.inr ⟨q, rfl, E, ce, locs, hx _ hT hW.alike, hcell9, hv, hcl, hW, hsm.mono hc hs, hf⟩⟩
theorem vx_frame {U : State} {k n : Nat} (h : s.sameButNew ({ U with vm := s.vm } : State) locs k n) : s.heap.size ≤ U.heap.size ∧ ∀ q : Nat, q < s.heap.size → (∀ z ∈ locs, z.base ≠ q) → U.heap[q]? = s.heap[q]? := by
  obtain ⟨-, h2, -, -, -, h6⟩ := h
  refine ⟨h2, fun q hq hz => ?_⟩
  obtain ⟨c9, e1, e2, e3, e4⟩ := h6 q _ (Array.getElem?_eq_getElem hq)
  have hs : c9.slots = (s.heap[q]).slots := Array.ext_getElem? fun i => e4 i fun hm => hz _ hm rfl
  have h9 : c9 = s.heap[q] := by
    rw [hs] at e2
    exact e2
  have e5 : U.heap[q]? = some c9 := e1
  rw [e5, h9, Array.getElem?_eq_getElem hq]
/-- the words of a throw but the four that speak of the heap -/
def vx_no (w : Cond) : Bool := decide (w ≠ .isRef (.static Bundle.tN "UNASSIGNED_STACK" Bundle.steD)) && decide (w ≠ .isRef (.static Bundle.tN "SUPPRESSED_SENTINEL" Bundle.listD)) && decide (w ≠ .laysStatic Bundle.tN "UNASSIGNED_STACK" Bundle.steD) && decide (w ≠ .laysStatic Bundle.tN "SUPPRESSED_SENTINEL" Bundle.listD)
def vx_at0 (own : String) (ic : Nat) (X : String) (names : List String) : List Cond := (Bundle.ownAtoms0 own ic X names).filter vx_no
def vx_atS (own : String) (ic : Nat) (X : String) (names : List String) : List Cond := (Bundle.ownAtoms own ic X names).filter vx_no
/-- a word that the tables alone decide, or a good one -/
def vx_ot (w : Cond) : Bool := w.onTables || goodWord w
theorem vx_ot_at {args a' : Array Value} {s U : State} {w : Cond} (hW : s.WarmedH U.vm) (hvm : s.vm = U.vm) (hg : vx_ot w = true) (h : w.before args s = true) : w.before a' U = true := by
  simp only [vx_ot, Bool.or_eq_true] at hg
  rcases hg with hg | hg
  · exact va_tabs hg hvm h
  · exact word_at hW (good_of_word hg) h
/-- a list's words: the good ones out of the method's own list, the others by premises of their own -/
theorem vx_hat {args : Array Value} {s : State} {L B : List Cond} (h1 : ∀ w ∈ L.filter goodWord, w.before args s = true) (h2 : ∀ w ∈ L.filter (fun w => !goodWord w), w ∈ B) (h3 : ∀ w ∈ B, w.before args s = true) : ∀ w ∈ L, w.before args s = true := by
  intro w hw
  by_cases g : goodWord w = true
  · exact h1 w (List.mem_filter.mpr ⟨hw, g⟩)
  · refine h3 w (h2 w (List.mem_filter.mpr ⟨hw, ?_⟩))
    show (!goodWord w) = true
    cases hgw : goodWord w
    · rfl
    · exact absurd hgw g
theorem vx_c {args : Array Value} {s : State} {w : Cond} {B : List Cond} (h : w.before args s = true) (t : ∀ w ∈ B, w.before args s = true) : ∀ w' ∈ w :: B, w'.before args s = true := fun w' h' => (List.mem_cons.mp h').elim (fun e => by rw [e]; exact h) (t w')
theorem vx_n {args : Array Value} {s : State} : ∀ w ∈ ([] : List Cond), w.before args s = true := fun _ h => nomatch h
theorem vx_own {args : Array Value} {s : State} {L : List Cond} (h1 : ∀ w ∈ L.filter vx_no, w.before args s = true)
    (hU : (Cond.isRef (.static Bundle.tN "UNASSIGNED_STACK" Bundle.steD)).before args s = true) (hN : (Cond.isRef (.static Bundle.tN "SUPPRESSED_SENTINEL" Bundle.listD)).before args s = true)
    (lU : (Cond.laysStatic Bundle.tN "UNASSIGNED_STACK" Bundle.steD).before args s = true) (lN : (Cond.laysStatic Bundle.tN "SUPPRESSED_SENTINEL" Bundle.listD).before args s = true) : ∀ w ∈ L, w.before args s = true := by
  intro w hw
  by_cases e1 : w = .isRef (.static Bundle.tN "UNASSIGNED_STACK" Bundle.steD)
  · rw [e1]; exact hU
  · by_cases e2 : w = .isRef (.static Bundle.tN "SUPPRESSED_SENTINEL" Bundle.listD)
    · rw [e2]; exact hN
    · by_cases e3 : w = .laysStatic Bundle.tN "UNASSIGNED_STACK" Bundle.steD
      · rw [e3]; exact lU
      · by_cases e4 : w = .laysStatic Bundle.tN "SUPPRESSED_SENTINEL" Bundle.listD
        · rw [e4]; exact lN
        · exact h1 w (List.mem_filter.mpr ⟨hw, by unfold vx_no; rw [decide_eq_true e1, decide_eq_true e2, decide_eq_true e3, decide_eq_true e4]; rfl⟩)
/-- where a static field lies, its class's statics cell in H -/
def vx_L (C n d : String) (A : Nat → Prop) (U : State) (H : Heap) : Prop := ∃ (c : ClassId) (k : Class) (i : Nat) (f : Field) (a : Nat) (cell : Cell), U.vm.findClass C = some c ∧ U.fieldFound? C n d = some (c, k, i, f) ∧ f.isStatic = true ∧ k.statics = some a ∧ H[a]? = some cell ∧ cell.vm.isStatics = true ∧ cell.cls = c ∧ f.slot < cell.slots.size ∧ k.staticTypes[f.slot]? = some f.type ∧ ¬ A a
theorem vx_L.moved {C n d : String} {A : Nat → Prop} {u U : State} {H : Heap} (hvm : u.vm.Alike U.vm) (h : vx_L C n d A u H) : vx_L C n d A U H := by
  obtain ⟨c, k, i, f, a, cell, h1, h2, h3, h4, h5, h6, h7, h8, h9, h10⟩ := h
  obtain ⟨k', hi', he⟩ := State.fieldFound?_setVm hvm h2
  exact ⟨c, k', i, f, a, cell, by rw [hvm.findClass]; exact h1, hi', h3, by rw [he]; exact h4, h5, h6, h7, h8, by rw [he]; exact h9, h10⟩
theorem vx_L.kept {C n d : String} {A : Nat → Prop} {U : State} {H H1 : Heap} (h : vx_L C n d A U H) (hq : ∀ a : Nat, a < H.size → ¬ A a → H1[a]? = H[a]?) : vx_L C n d A U H1 := by
  obtain ⟨c, k, i, f, a, cell, h1, h2, h3, h4, h5, h6, h7, h8, h9, h10⟩ := h
  exact ⟨c, k, i, f, a, cell, h1, h2, h3, h4, by rw [hq a (Array.getElem?_eq_some_iff.mp h5).1 h10]; exact h5, h6, h7, h8, h9, h10⟩
theorem vx_L.narrow {C n d : String} {A B : Nat → Prop} {U : State} {H : Heap} (h : vx_L C n d A U H) (hAB : ∀ q, B q → A q) : vx_L C n d B U H := by
  obtain ⟨c, k, i, f, a, cell, h1, h2, h3, h4, h5, h6, h7, h8, h9, h10⟩ := h
  exact ⟨c, k, i, f, a, cell, h1, h2, h3, h4, h5, h6, h7, h8, h9, fun z => h10 (hAB _ z)⟩
theorem vx_L.word {C n d : String} {A : Nat → Prop} {s : State} {args : Array Value} (h : vx_L C n d A s s.heap) : (Cond.laysStatic C n d).before args s = true := by
  obtain ⟨c, k, i, f, a, cell, h1, h2, h3, h4, h5, h6, h7, h8, h9, -⟩ := h
  show (Cond.laysStatic C n d).holds args s none s [] = true
  exact Cond.laysStatic_of h1 h2 h3 h4 h5 h6 h7 h8 h9
/-- .. and what it holds: null or some reference -/
def vx_Zq (C n d : String) (A : Nat → Prop) (U : State) (H : Heap) : Prop := va_Zq C n d A U H ∧ vx_L C n d A U H
theorem vx_Zq.moved {C n d : String} {A : Nat → Prop} {u U : State} {H : Heap} (hvm : u.vm.Alike U.vm) (h : vx_Zq C n d A u H) : vx_Zq C n d A U H := ⟨va_Zq.moved hvm h.1, vx_L.moved hvm h.2⟩
theorem vx_Zq.kept {C n d : String} {A : Nat → Prop} {U : State} {H H1 : Heap} (h : vx_Zq C n d A U H) (hq : ∀ a : Nat, a < H.size → ¬ A a → H1[a]? = H[a]?) : vx_Zq C n d A U H1 := ⟨va_Zq.kept h.1 hq, vx_L.kept h.2 hq⟩
theorem vx_Zq.narrow {C n d : String} {A B : Nat → Prop} {U : State} {H : Heap} (h : vx_Zq C n d A U H) (hAB : ∀ q, B q → A q) : vx_Zq C n d B U H := ⟨va_Zq.narrow h.1 hAB, vx_L.narrow h.2 hAB⟩
theorem vx_Zqof {args : Array Value} {s : State} {C n d : String} {A : Nat → Prop} (hl : (Cond.laysStatic C n d).before args s = true) (hini : (Cond.initialized C).before args s = true) (h : (Cond.isRef (.static C n d)).before args s = true) (hA : ∀ a : Nat, a < s.heap.size → ¬ A a) : vx_Zq C n d A s s.heap := by
  refine ⟨va_Zqof hl hini h hA, ?_⟩
  obtain ⟨c, k, i, f, a, cell, h1, h2, h3, h4, h5, h6, h7, h8, h9⟩ := Cond.laysStatic_spec hl
  exact ⟨c, k, i, f, a, cell, h1, h2, h3, h4, h5, h6, h7, h8, h9, hA a (Array.getElem?_eq_some_iff.mp h5).1⟩
theorem vx_isRef {C n d : String} {v : Value} {A : Nat → Prop} {s : State} {args : Array Value} (h : va_Z C n d v A s s.heap) (hv : v.isRef = true) : (Cond.isRef (.static C n d)).before args s = true := by
  obtain ⟨cf, kf, fi, f, a, cell, h1, h2, h3, h4, h5, h6, h7, -⟩ := h
  have he : (Term.static C n d).eval args s none [] s = some v := by
    simp [Term.eval, State.fieldNamed?, h1, h2, h4, h5, h6, h7]
  simp only [Cond.before, Cond.holds, Cond.value, he]
  cases v <;> simp_all [Value.isRef]
theorem vx_isRefq {C n d : String} {A : Nat → Prop} {s : State} {args : Array Value} (h : va_Zq C n d A s s.heap) : (Cond.isRef (.static C n d)).before args s = true := by
  rcases h with h | ⟨t, h⟩
  · exact vx_isRef h rfl
  · exact vx_isRef h rfl
/-- the same frame, seen from here: as if the method were called anew in this heap -/
theorem vx_rebase {T : State} (X : Stand p l e R s m args below meth c T locs cells slots) {R' : Room} (hf : R'.frames ≤ R.frames) (hl : R'.locals ≤ R.locals) (hc : cells + R'.cells ≤ R.cells) (hs : slots + R'.slots ≤ R.slots) :
    Stand p l e R' ((T.setVm s.vm).setFrames (.invoking m args :: below)) m args below meth c T [] 0 0 := by
  have htop : (T.setVm s.vm).topJava?.isSome := X.here.top
  have hF : ((T.setVm s.vm).setFrames (.invoking m args :: below)).frames = .invoking m args :: below := State.frames_setFrames _ (State.cur_lt_of_top htop)
  obtain ⟨g₀, hg0⟩ := Option.isSome_iff_exists.mp htop
  obtain ⟨r, hr⟩ := State.topJava?_eq_some.mp hg0
  have hl9 : e.platform.stackLimits (T.setVm s.vm).me = e.platform.stackLimits s.me := X.limits
  have hb9 : (T.setVm s.vm).me.stackBytes = s.me.stackBytes := X.bytes
  refine ⟨X.admits, X.cas, X.clock, hF, ?_, X.hears, X.method, X.code, X.here, X.tail, X.warmed, ?_, ?_, ?_⟩
  · have h := X.room
    have hU : ((T.setVm s.vm).setFrames (.invoking m args :: below)).localsInUse = s.localsInUse := by
      rw [State.localsInUse_invoking hF (meth := meth) (c := c) X.method X.code, State.localsInUse_invoking X.frames X.method X.code]
    simp only [State.hasRoom, Bool.and_eq_true, decide_eq_true_eq] at h ⊢
    obtain ⟨⟨⟨⟨h1, h2, h3, h4, h5, h6⟩, h7⟩, h8⟩, h9⟩ := h
    rw [X.frames, List.length_cons] at h2 h3
    have q1 := X.heapSize
    have q2 := X.used
    simp only [hF, hU, List.length_cons, State.stackLimits_setFrames, State.stackBytes_setFrames, hl9, hb9]
    refine ⟨⟨⟨⟨by omega, by omega, by omega, by omega, by omega, h6⟩, ?_⟩, ?_⟩, X.book⟩
    · show T.heap.size + R'.cells ≤ e.platform.maxCells
      omega
    · show T.slotsUsed + R'.slots ≤ e.platform.maxSlots
      omega
  · rw [State.stackLimits_setFrames]; rfl
  · rw [State.stackBytes_setFrames]; rfl
  · refine ⟨?_, Nat.le_refl _, Nat.le_refl _, ?_, ?_, fun a c9 h9 => ⟨c9, h9, rfl, rfl, fun _ _ => rfl⟩⟩
    · obtain ⟨t, ht, -⟩ := State.frames_cons hr
      show T.setVm s.vm = { ((T.setVm s.vm).setFrames (.invoking m args :: below)).setFrames (T.setVm s.vm).frames with heap := T.heap, slotsUsed := T.slotsUsed }
      rw [State.setFrames_setFrames, State.setFrames_self ht]
      rfl
    · show T.slotsUsed = T.slotsUsed + ((T.heap.toList.drop T.heap.size).map (·.slots.size)).sum
      rw [List.drop_eq_nil_of_le (Nat.le_of_eq Array.length_toList)]
      rfl
    · show ((T.heap.toList.drop T.heap.size).map (·.slots.size)).sum ≤ 0
      rw [List.drop_eq_nil_of_le (Nat.le_of_eq Array.length_toList)]
      exact Nat.le_refl _
/-- 'throw new E()': new; dup; invokespecial; athrow -/
theorem vx_throw0 {cc : ByteArray} {pc : Nat} (hexec : p.tables.exec = Jvm.exec) (hb : c.code = cc) (hl : l.stackTraces = false) {own cls : String} {names : List String} {ik ic mc ms : Nat} {A : Nat → Prop}
    (hown : s.vm.findClass own = some m.cls) (hcls : Bundle.fit cls = true) (hnames : ∀ n ∈ names, Bundle.fit n = true)
    (hk : (Cond.classLink own ik cls).before args s = true) (hini : (Cond.initialized cls).before args s = true) (hat : ∀ w ∈ vx_at0 own ic cls names, w.before args s = true)
    (hgood : ∀ w ∈ Cond.classLink own ik cls :: Cond.initialized cls :: vx_at0 own ic cls names, vx_ot w = true)
    (hU : vx_Zq Bundle.tN "UNASSIGNED_STACK" Bundle.steD A s s.heap) (hN : vx_Zq Bundle.tN "SUPPRESSED_SENTINEL" Bundle.listD A s s.heap) (hS : va_S A s.heap H locs) (hsize : ls.size = c.maxLocals)
    (d0 : decode cc pc = .ok (.new ik, 3)) (d3 : decode cc (pc + 3) = .ok (.dup, 1)) (d4 : decode cc (pc + 4) = .ok (.invokespecial ic, 3)) (d7 : decode cc (pc + 7) = .ok (.athrow, 1))
    (hout : ∀ x ∈ c.exceptionTable.toList, covers x (pc + 7) = false)
    (hRframes : names.length + 3 < R.frames) (hRlocals : (rest.map fun v => v.category).sum + (13 * (names.length + 1) + 42) ≤ R.locals) (hRcells : cells + 1 ≤ R.cells) (hRslots : slots + 6 ≤ R.slots) (hlocks : meth.locks = false)
    (hx : ∀ t : State, s.vm.Alike t.vm → H.size ≤ t.heap.size → (∀ q : Nat, q < H.size → t.heap[q]? = H[q]?) → XC cls s t)
    (hf : ∀ z ∈ locs, free z.base) (hc : cells + 1 ≤ mc) (hs : slots + 6 ≤ ms) :
    W p l e R s m args below meth c H locs cells slots (vx_MQ below Qc XC args s mc ms free) (F0 m pc ls rest) := by
  intro T hT X
  have htr : e.platform.stackTraces = false := (show e.platform.stackTraces = l.stackTraces by rw [X.admits.platform]).trans hl
  have Y := vx_rebase X (R' := { frames := R.frames, locals := R.locals, cells := 1, slots := 6 }) (Nat.le_refl _) (Nat.le_refl _) hRcells hRslots
  obtain ⟨s', hA⟩ : ∃ z, z = (T.setVm s.vm).setFrames (.invoking m args :: below) := ⟨_, rfl⟩
  rw [← hA] at Y
  have hvm : s'.vm = s.vm := by rw [hA]; rfl
  have hhp : s'.heap = H := by rw [hA]; exact hT
  have hW0 : s.WarmedH s'.vm := by rw [hvm]; exact State.WarmedH.refl s
  have hat' : ∀ w ∈ vx_at0 own ic cls names, w.before args s' = true := fun w hw => vx_ot_at hW0 hvm.symm (hgood w (List.mem_cons_of_mem _ (List.mem_cons_of_mem _ hw))) (hat w hw)
  have hk' : (Cond.classLink own ik cls).before args s' = true := vx_ot_at hW0 hvm.symm (hgood _ List.mem_cons_self) hk
  have hini' : (Cond.initialized cls).before args s' = true := vx_ot_at hW0 hvm.symm (hgood _ (List.mem_cons_of_mem _ List.mem_cons_self)) hini
  have hU' : vx_Zq Bundle.tN "UNASSIGNED_STACK" Bundle.steD A s' s'.heap := by rw [hhp]; exact vx_Zq.moved hW0.alike (hU.kept hS.2.1)
  have hN' : vx_Zq Bundle.tN "SUPPRESSED_SENTINEL" Bundle.listD A s' s'.heap := by rw [hhp]; exact vx_Zq.moved hW0.alike (hN.kept hS.2.1)
  have h : ∀ w ∈ Bundle.ownAtoms0 own ic cls names, w.before args s' = true := vx_own hat' (vx_isRefq hU'.1) (vx_isRefq hN'.1) hU'.2.word hN'.2.word
  have hown' : s'.vm.findClass own = some m.cls := by rw [hvm]; exact hown
  have hins : (Cond.instantiable cls 6).before args s' = true := h _ (by simp [Bundle.ownAtoms0])
  obtain ⟨vm₁, cX, kX, hfX, hkX, -, -, X₁, st1⟩ := Y.newCold hexec (own := own) (C := cls) (index := ik) (n := 6) hown' hk' hins hini'
    (g := F0 m pc ls rest) rfl (by rw [hb]; exact d0) (Nat.le_refl _) (Nat.le_refl _)
  generalize hT1 : (T.setVm vm₁).pushCell { cls := cX, slots := kX.instanceTypes.map defaultValue, vm := .none } = T1 at X₁ st1
  have hcat : (Value.ref T.heap.size).category = 1 := rfl
  have hcellA : T1.heap[T.heap.size]? = some (freshCell cX kX) := by rw [← hT1]; exact State.heap_pushCell_size _ _
  have d3' : decode c.code (pc + 3) = .ok (.dup, 1) := by rw [hb]; exact d3
  obtain ⟨U, hsteps, hrun, hend, hW, hsame, ce, hce, hO⟩ := X₁.ctorThrow0 hexec htr (own := own) (cls := cls) (names := names) (ic := ic) hown' hcls hnames h (fun x hx => nomatch hx) hfX hkX hcellA (by rw [hhp, hT]; exact Nat.le_refl _)
    (g := { method := m, pc := pc + 4, locals := ls, stack := .ref T.heap.size :: .ref T.heap.size :: rest, locked := none }) rfl hsize rfl rfl (rest := rest) rfl
    (by rw [hb]; exact d4) (by rw [hb]; exact d7) hout hRframes (by simp only [List.map_cons, List.sum_cons, hcat]; omega) hlocks
  obtain ⟨f1, f2⟩ := vx_frame hsame
  rw [hhp] at f1 f2
  have hWs : s.WarmedH U.vm := State.WarmedH.trans hW0 hW
  have hcl : s.vm.findClass cls = some ce.cls := by
    have h9 := hO.cls
    rw [hvm] at h9
    exact h9
  have hall : s.sameButNew ({ U with vm := s.vm } : State) locs mc ms := by
    subst hA
    obtain ⟨e1, e2⟩ := hsame
    rw [State.setFrames_setFrames] at e1
    have h2 : (T.setVm s.vm).sameButNew ({ U with vm := s.vm } : State) [] (0 + 1) (0 + 6) := ⟨e1, e2⟩
    have h3 := X.same.trans h2
    rw [List.append_nil] at h3
    exact h3.mono hc hs
  refine ⟨U, ?_, .threw T.heap.size, hrun, hend, Or.inr ⟨T.heap.size, rfl, cls, ce, locs, hx U hWs.alike f1 (fun q hq => f2 q hq (fun z hz => nomatch hz)), hce, hO.vm, hcl, hWs, hall, hf⟩⟩
  refine st1 _ ?_
  show Steps p.tables e below (T1.setTop { method := m, pc := pc + 3, locals := ls, stack := .ref T.heap.size :: rest, locked := none }) _
  jvm_step X₁.here [X₁.here.top, hexec, d3', Value.category]
  exact hsteps
/-- 'throw new E("text")': new; dup; ldc; invokespecial; athrow -/
theorem vx_throwS {cc : ByteArray} {pc : Nat} (hexec : p.tables.exec = Jvm.exec) (hb : c.code = cc) (hl : l.stackTraces = false) {own cls text : String} {names : List String} {ik is ic mc ms sa : Nat} {A : Nat → Prop}
    (hown : s.vm.findClass own = some m.cls) (hcls : Bundle.fit cls = true) (hnames : ∀ n ∈ names, Bundle.fit n = true)
    (hk : (Cond.classLink own ik cls).before args s = true) (hini : (Cond.initialized cls).before args s = true) (hstr : vk_R own is text sa s) (hat : ∀ w ∈ vx_atS own ic cls names, w.before args s = true)
    (hgood : ∀ w ∈ Cond.classLink own ik cls :: Cond.initialized cls :: vx_atS own ic cls names, vx_ot w = true)
    (hU : vx_Zq Bundle.tN "UNASSIGNED_STACK" Bundle.steD A s s.heap) (hN : vx_Zq Bundle.tN "SUPPRESSED_SENTINEL" Bundle.listD A s s.heap) (hS : va_S A s.heap H locs) (hsize : ls.size = c.maxLocals)
    (d0 : decode cc pc = .ok (.new ik, 3)) (d3 : decode cc (pc + 3) = .ok (.dup, 1)) (d4 : decode cc (pc + 4) = .ok (.ldc is, 2)) (d6 : decode cc (pc + 6) = .ok (.invokespecial ic, 3)) (d9 : decode cc (pc + 9) = .ok (.athrow, 1))
    (hout : ∀ x ∈ c.exceptionTable.toList, covers x (pc + 9) = false)
    (hRframes : names.length + 3 < R.frames) (hRlocals : (rest.map fun v => v.category).sum + (13 * (names.length + 1) + 43) ≤ R.locals) (hRcells : cells + 1 ≤ R.cells) (hRslots : slots + 6 ≤ R.slots) (hlocks : meth.locks = false)
    (hx : ∀ t : State, s.vm.Alike t.vm → H.size ≤ t.heap.size → (∀ q : Nat, q < H.size → t.heap[q]? = H[q]?) → XC cls s t)
    (hf : ∀ z ∈ locs, free z.base) (hc : cells + 1 ≤ mc) (hs : slots + 6 ≤ ms) :
    W p l e R s m args below meth c H locs cells slots (vx_MQ below Qc XC args s mc ms free) (F0 m pc ls rest) := by
  intro T hT X
  have htr : e.platform.stackTraces = false := (show e.platform.stackTraces = l.stackTraces by rw [X.admits.platform]).trans hl
  have Y := vx_rebase X (R' := { frames := R.frames, locals := R.locals, cells := 1, slots := 6 }) (Nat.le_refl _) (Nat.le_refl _) hRcells hRslots
  obtain ⟨s', hA⟩ : ∃ z, z = (T.setVm s.vm).setFrames (.invoking m args :: below) := ⟨_, rfl⟩
  rw [← hA] at Y
  have hvm : s'.vm = s.vm := by rw [hA]; rfl
  have hhp : s'.heap = H := by rw [hA]; exact hT
  have hW0 : s.WarmedH s'.vm := by rw [hvm]; exact State.WarmedH.refl s
  have hat' : ∀ w ∈ vx_atS own ic cls names, w.before args s' = true := fun w hw => vx_ot_at hW0 hvm.symm (hgood w (List.mem_cons_of_mem _ (List.mem_cons_of_mem _ hw))) (hat w hw)
  have hk' : (Cond.classLink own ik cls).before args s' = true := vx_ot_at hW0 hvm.symm (hgood _ List.mem_cons_self) hk
  have hini' : (Cond.initialized cls).before args s' = true := vx_ot_at hW0 hvm.symm (hgood _ (List.mem_cons_of_mem _ List.mem_cons_self)) hini
  have hU' : vx_Zq Bundle.tN "UNASSIGNED_STACK" Bundle.steD A s' s'.heap := by rw [hhp]; exact vx_Zq.moved hW0.alike (hU.kept hS.2.1)
  have hN' : vx_Zq Bundle.tN "SUPPRESSED_SENTINEL" Bundle.listD A s' s'.heap := by rw [hhp]; exact vx_Zq.moved hW0.alike (hN.kept hS.2.1)
  have h : ∀ w ∈ Bundle.ownAtoms own ic cls names, w.before args s' = true := vx_own hat' (vx_isRefq hU'.1) (vx_isRefq hN'.1) hU'.2.word hN'.2.word
  have hown' : s'.vm.findClass own = some m.cls := by rw [hvm]; exact hown
  have hins : (Cond.instantiable cls 6).before args s' = true := h _ (by simp [Bundle.ownAtoms])
  obtain ⟨vm₁, cX, kX, hfX, hkX, -, -, X₁, st1⟩ := Y.newCold hexec (own := own) (C := cls) (index := ik) (n := 6) hown' hk' hins hini'
    (g := F0 m pc ls rest) rfl (by rw [hb]; exact d0) (Nat.le_refl _) (Nat.le_refl _)
  generalize hT1 : (T.setVm vm₁).pushCell { cls := cX, slots := kX.instanceTypes.map defaultValue, vm := .none } = T1 at X₁ st1
  have hcat : (Value.ref T.heap.size).category = 1 := rfl
  have hcellA : T1.heap[T.heap.size]? = some (freshCell cX kX) := by rw [← hT1]; exact State.heap_pushCell_size _ _
  have d3' : decode c.code (pc + 3) = .ok (.dup, 1) := by rw [hb]; exact d3
  have d4' : decode c.code (pc + 4) = .ok (.ldc is, 2) := by rw [hb]; exact d4
  have hstr' : vk_R own is text sa s' := vk_R.warm hW0 hstr
  obtain ⟨U, hsteps, hrun, hend, hW, hsame, ce, hce, hO⟩ := X₁.ctorThrowS hexec htr (own := own) (cls := cls) (names := names) (ic := ic) hown' hcls hnames h (fun x hx => nomatch hx) hfX hkX hcellA (by rw [hhp, hT]; exact Nat.le_refl _) (msg := .ref sa) rfl
    (g := { method := m, pc := pc + 6, locals := ls, stack := .ref sa :: .ref T.heap.size :: .ref T.heap.size :: rest, locked := none }) rfl hsize rfl rfl (rest := rest) rfl
    (by rw [hb]; exact d6) (by rw [hb]; exact d9) hout hRframes (by simp only [List.map_cons, List.sum_cons, hcat]; omega) hlocks
  obtain ⟨f1, f2⟩ := vx_frame hsame
  rw [hhp] at f1 f2
  have hWs : s.WarmedH U.vm := State.WarmedH.trans hW0 hW
  have hcl : s.vm.findClass cls = some ce.cls := by
    have h9 := hO.cls
    rw [hvm] at h9
    exact h9
  have hall : s.sameButNew ({ U with vm := s.vm } : State) locs mc ms := by
    subst hA
    obtain ⟨e1, e2⟩ := hsame
    rw [State.setFrames_setFrames] at e1
    have h2 : (T.setVm s.vm).sameButNew ({ U with vm := s.vm } : State) [] (0 + 1) (0 + 6) := ⟨e1, e2⟩
    have h3 := X.same.trans h2
    rw [List.append_nil] at h3
    exact h3.mono hc hs
  refine ⟨U, ?_, .threw T.heap.size, hrun, hend, Or.inr ⟨T.heap.size, rfl, cls, ce, locs, hx U hWs.alike f1 (fun q hq => f2 q hq (fun z hz => nomatch hz)), hce, hO.vm, hcl, hWs, hall, hf⟩⟩
  refine st1 _ ?_
  show Steps p.tables e below (T1.setTop { method := m, pc := pc + 3, locals := ls, stack := .ref T.heap.size :: rest, locked := none }) _
  jvm_step X₁.here [X₁.here.top, hexec, d3', Value.category]
  exact X₁.ldcString hexec (own := own) (text := text) (index := is) (a := sa) hown' hstr'.1 hstr'.2
    (g := { method := m, pc := pc + 4, locals := ls, stack := .ref T.heap.size :: .ref T.heap.size :: rest, locked := none }) rfl d4' _ hsteps
/-- 'throw new E("text")', the text by a wide index -/
theorem vx_throwSW {cc : ByteArray} {pc : Nat} (hexec : p.tables.exec = Jvm.exec) (hb : c.code = cc) (hl : l.stackTraces = false) {own cls text : String} {names : List String} {ik is ic mc ms sa : Nat} {A : Nat → Prop}
    (hown : s.vm.findClass own = some m.cls) (hcls : Bundle.fit cls = true) (hnames : ∀ n ∈ names, Bundle.fit n = true)
    (hk : (Cond.classLink own ik cls).before args s = true) (hini : (Cond.initialized cls).before args s = true) (hstr : vk_R own is text sa s) (hat : ∀ w ∈ vx_atS own ic cls names, w.before args s = true)
    (hgood : ∀ w ∈ Cond.classLink own ik cls :: Cond.initialized cls :: vx_atS own ic cls names, vx_ot w = true)
    (hU : vx_Zq Bundle.tN "UNASSIGNED_STACK" Bundle.steD A s s.heap) (hN : vx_Zq Bundle.tN "SUPPRESSED_SENTINEL" Bundle.listD A s s.heap) (hS : va_S A s.heap H locs) (hsize : ls.size = c.maxLocals)
    (d0 : decode cc pc = .ok (.new ik, 3)) (d3 : decode cc (pc + 3) = .ok (.dup, 1)) (d4 : decode cc (pc + 4) = .ok (.ldc_w is, 3)) (d7 : decode cc (pc + 7) = .ok (.invokespecial ic, 3)) (d10 : decode cc (pc + 10) = .ok (.athrow, 1))
    (hout : ∀ x ∈ c.exceptionTable.toList, covers x (pc + 10) = false)
    (hRframes : names.length + 3 < R.frames) (hRlocals : (rest.map fun v => v.category).sum + (13 * (names.length + 1) + 43) ≤ R.locals) (hRcells : cells + 1 ≤ R.cells) (hRslots : slots + 6 ≤ R.slots) (hlocks : meth.locks = false)
    (hx : ∀ t : State, s.vm.Alike t.vm → H.size ≤ t.heap.size → (∀ q : Nat, q < H.size → t.heap[q]? = H[q]?) → XC cls s t)
    (hf : ∀ z ∈ locs, free z.base) (hc : cells + 1 ≤ mc) (hs : slots + 6 ≤ ms) :
    W p l e R s m args below meth c H locs cells slots (vx_MQ below Qc XC args s mc ms free) (F0 m pc ls rest) := by
  intro T hT X
  have htr : e.platform.stackTraces = false := (show e.platform.stackTraces = l.stackTraces by rw [X.admits.platform]).trans hl
  have Y := vx_rebase X (R' := { frames := R.frames, locals := R.locals, cells := 1, slots := 6 }) (Nat.le_refl _) (Nat.le_refl _) hRcells hRslots
  obtain ⟨s', hA⟩ : ∃ z, z = (T.setVm s.vm).setFrames (.invoking m args :: below) := ⟨_, rfl⟩
  rw [← hA] at Y
  have hvm : s'.vm = s.vm := by rw [hA]; rfl
  have hhp : s'.heap = H := by rw [hA]; exact hT
  have hW0 : s.WarmedH s'.vm := by rw [hvm]; exact State.WarmedH.refl s
  have hat' : ∀ w ∈ vx_atS own ic cls names, w.before args s' = true := fun w hw => vx_ot_at hW0 hvm.symm (hgood w (List.mem_cons_of_mem _ (List.mem_cons_of_mem _ hw))) (hat w hw)
  have hk' : (Cond.classLink own ik cls).before args s' = true := vx_ot_at hW0 hvm.symm (hgood _ List.mem_cons_self) hk
  have hini' : (Cond.initialized cls).before args s' = true := vx_ot_at hW0 hvm.symm (hgood _ (List.mem_cons_of_mem _ List.mem_cons_self)) hini
  have hU' : vx_Zq Bundle.tN "UNASSIGNED_STACK" Bundle.steD A s' s'.heap := by rw [hhp]; exact vx_Zq.moved hW0.alike (hU.kept hS.2.1)
  have hN' : vx_Zq Bundle.tN "SUPPRESSED_SENTINEL" Bundle.listD A s' s'.heap := by rw [hhp]; exact vx_Zq.moved hW0.alike (hN.kept hS.2.1)
  have h : ∀ w ∈ Bundle.ownAtoms own ic cls names, w.before args s' = true := vx_own hat' (vx_isRefq hU'.1) (vx_isRefq hN'.1) hU'.2.word hN'.2.word
  have hown' : s'.vm.findClass own = some m.cls := by rw [hvm]; exact hown
  have hins : (Cond.instantiable cls 6).before args s' = true := h _ (by simp [Bundle.ownAtoms])
  obtain ⟨vm₁, cX, kX, hfX, hkX, -, -, X₁, st1⟩ := Y.newCold hexec (own := own) (C := cls) (index := ik) (n := 6) hown' hk' hins hini'
    (g := F0 m pc ls rest) rfl (by rw [hb]; exact d0) (Nat.le_refl _) (Nat.le_refl _)
  generalize hT1 : (T.setVm vm₁).pushCell { cls := cX, slots := kX.instanceTypes.map defaultValue, vm := .none } = T1 at X₁ st1
  have hcat : (Value.ref T.heap.size).category = 1 := rfl
  have hcellA : T1.heap[T.heap.size]? = some (freshCell cX kX) := by rw [← hT1]; exact State.heap_pushCell_size _ _
  have d3' : decode c.code (pc + 3) = .ok (.dup, 1) := by rw [hb]; exact d3
  have d4' : decode c.code (pc + 4) = .ok (.ldc_w is, 3) := by rw [hb]; exact d4
  have hstr' : vk_R own is text sa s' := vk_R.warm hW0 hstr
  obtain ⟨U, hsteps, hrun, hend, hW, hsame, ce, hce, hO⟩ := X₁.ctorThrowS hexec htr (own := own) (cls := cls) (names := names) (ic := ic) hown' hcls hnames h (fun x hx => nomatch hx) hfX hkX hcellA (by rw [hhp, hT]; exact Nat.le_refl _) (msg := .ref sa) rfl
    (g := { method := m, pc := pc + 7, locals := ls, stack := .ref sa :: .ref T.heap.size :: .ref T.heap.size :: rest, locked := none }) rfl hsize rfl rfl (rest := rest) rfl
    (by rw [hb]; exact d7) (by rw [hb]; exact d10) hout hRframes (by simp only [List.map_cons, List.sum_cons, hcat]; omega) hlocks
  obtain ⟨f1, f2⟩ := vx_frame hsame
  rw [hhp] at f1 f2
  have hWs : s.WarmedH U.vm := State.WarmedH.trans hW0 hW
  have hcl : s.vm.findClass cls = some ce.cls := by
    have h9 := hO.cls
    rw [hvm] at h9
    exact h9
  have hall : s.sameButNew ({ U with vm := s.vm } : State) locs mc ms := by
    subst hA
    obtain ⟨e1, e2⟩ := hsame
    rw [State.setFrames_setFrames] at e1
    have h2 : (T.setVm s.vm).sameButNew ({ U with vm := s.vm } : State) [] (0 + 1) (0 + 6) := ⟨e1, e2⟩
    have h3 := X.same.trans h2
    rw [List.append_nil] at h3
    exact h3.mono hc hs
  refine ⟨U, ?_, .threw T.heap.size, hrun, hend, Or.inr ⟨T.heap.size, rfl, cls, ce, locs, hx U hWs.alike f1 (fun q hq => f2 q hq (fun z hz => nomatch hz)), hce, hO.vm, hcl, hWs, hall, hf⟩⟩
  refine st1 _ ?_
  show Steps p.tables e below (T1.setTop { method := m, pc := pc + 3, locals := ls, stack := .ref T.heap.size :: rest, locked := none }) _
  jvm_step X₁.here [X₁.here.top, hexec, d3', Value.category]
  exact X₁.ldcStringW hexec (own := own) (text := text) (index := is) (a := sa) hown' hstr'.1 hstr'.2
    (g := { method := m, pc := pc + 4, locals := ls, stack := .ref T.heap.size :: .ref T.heap.size :: rest, locked := none }) rfl d4' _ hsteps
end Ends
section Bodies
variable {l : Launch}
theorem vx_ofW {y : MethodName} {ws ws' : List Cond} {rm : Room} {Pc : Array Value → State → Prop} {Qc : Array Value → State → Outcome → State → Prop} {XC : String → State → State → Prop} {mc ms : Nat} {free : Addr → Prop} {cc : ByteArray} {maxL : Nat} {ret : Option FieldType}
    (hy : plainName y.cls = true) (hw : ws = Cond.code y cc maxL ret :: ws')
    (body : ∀ p e s m args below meth c s₁, BodyLoose p l y (headSpec ws rm) cc maxL ret e s m args below meth c s₁ → c.maxLocals = maxL → (∀ x ∈ c.exceptionTable.toList, False) → Pc args s →
      W p l e (headSpec ws rm).room s m args below meth c s.heap [] 0 0 (vx_MQ below Qc XC args s mc ms free) (entryFrame m args maxL)) : vx_Met l y ws rm Pc Qc XC mc ms free := by
  refine MetFree.of_bodyS (code := cc) (maxLocals := maxL) (ret := ret) hy ?_ ?_
  · intro args s m h hn
    obtain ⟨meth, c, h1, h2, h3, h4, h5, h6, -, -⟩ := Cond.code_spec hn (atoms_spec (ws := ws) h _ (by rw [hw]; exact List.mem_cons_self))
    exact ⟨meth, c, h1, h2, h3, h4, h5, h6⟩
  · intro p e s m args below meth c s₁ B hml hP _
    have hh0 : s₁.heap = s.heap := by rw [B.state]; rfl
    have ht : ∀ x ∈ c.exceptionTable.toList, False := by
      obtain ⟨meth9, c9, h1, h2, -, -, -, -, h7, -⟩ := Cond.code_spec B.named (atoms_spec (ws := ws) B.pre _ (by rw [hw]; exact List.mem_cons_self))
      cases Option.some.inj (h1.symm.trans B.method)
      cases Option.some.inj (h2.symm.trans (Stand.of_body B).code)
      intro x hx
      rw [Array.isEmpty_iff.mp h7] at hx
      cases hx
    obtain ⟨t, a1, o, b1, b2, b3⟩ := body p e s m args below meth c s₁ B hml ht hP s₁ hh0 (Stand.of_body B)
    exact ⟨t, o, a1, b1, b2, b3⟩
/-- the table of a body with handlers -/
theorem vx_table {p : Program} {x y : MethodName} {S : Spec} {cc bytes : ByteArray} {maxL maxL' : Nat} {ret ret' : Option FieldType} {e : Env} {s s₁ : State} {m : MethodId} {args : Array Value} {below : List Frame} {meth : Method} {c : Code} {hh : List (Nat × Nat × Nat × Nat)}
    (B : BodyLoose p l y S cc maxL ret e s m args below meth c s₁) (h : (Cond.codeWith y bytes maxL' ret' hh).before args s = true) : c.exceptionTable.toList = tableOf hh := by
  obtain ⟨m9, meth9, c9, hn9, h1, h2, -, -, h6, -⟩ := Cond.codeWith_spec h
  cases Option.some.inj (hn9.symm.trans B.named)
  cases Option.some.inj (h1.symm.trans B.method)
  cases Option.some.inj (h2.symm.trans (Stand.of_body B).code)
  rw [← h6, table_eq]
end Bodies
end VXA
/-! ===== END ===== -/
/-! ===== BEGIN a static call of a method with an exception table ===== -/
section VXS
variable {p : Program} {l : Launch} {e : Env} {R : Room} {s : State} {m : MethodId} {args : Array Value} {below : List Frame} {meth : Method} {c : Code} {T : State} {H : Heap} {locs : List Loc} {cells slots : Nat}
abbrev vx_CSW (R : Room) (s : State) (args : Array Value) (own : String) (index : Nat) (y : MethodName) (bytes : ByteArray) (maxL : Nat) (ret : Option FieldType) (hh : List (Nat × Nat × Nat × Nat)) (ws : List Cond) (rm : Room) (mc ms n : Nat) : Prop :=
  (rm.cells = mc ∧ rm.slots = ms ∧ rm.frames + 1 ≤ R.frames ∧ 8 + (maxL + 11) + rm.locals ≤ R.locals ∧ (∀ w ∈ ws, ∀ (a' : Array Value) (U : State), s.WarmedH U.vm → w.before a' U = true) ∧ Cond.codeWith y bytes maxL ret hh ∈ ws) ∧
  (Cond.codeWith y bytes maxL ret hh).before args s = true ∧ (Cond.initialized y.cls).before args s = true ∧ (y.cls ≠ "java/lang/invoke/MethodHandle" ∧ y.cls ≠ "java/lang/invoke/VarHandle") ∧
  (∀ sig, parseMethodDescriptor y.desc = some sig → n = sig.parameters.length) ∧ (Cond.methodLink own index y).before args s = true ∧ (Cond.static y).before args s = true
theorem vx_cwSW {own : String} {index maxL mc ms : Nat} {y : MethodName} {bytes : ByteArray} {ret : Option FieldType} {hh : List (Nat × Nat × Nat × Nat)} {Ts ws ws' : List Cond} {rm : Room} (n : Nat) (ht : ∀ w ∈ Ts, w.before args s = true) (hT : GoodIn Ts (va_wsS own index y ws)) (hw : ws = Cond.codeWith y bytes maxL ret hh :: ws') (hrc : rm.cells = mc) (hrs : rm.slots = ms)
    (hd : y.cls ≠ "java/lang/invoke/MethodHandle" ∧ y.cls ≠ "java/lang/invoke/VarHandle" ∧ (parseMethodDescriptor y.desc).map (fun d => d.parameters.length) = some n) (hR : rm.frames + 1 ≤ R.frames ∧ 8 + (maxL + 11) + rm.locals ≤ R.locals) :
    vx_CSW R s args own index y bytes maxL ret hh ws rm mc ms n := by
  have ok : ∀ w ∈ va_wsS own index y ws, w.before args s = true := fun w h => ht w (hT w h).1
  have hG : GoodIn Ts ws := fun w h => hT w (by unfold va_wsS; exact List.mem_append_right _ h)
  have hc : Cond.codeWith y bytes maxL ret hh ∈ ws := by rw [hw]; exact List.mem_cons_self
  refine ⟨⟨hrc, hrs, hR.1, hR.2, pay_in ht hG, hc⟩, ht _ (hG _ hc).1, ok _ (by simp [va_wsS]), ⟨hd.1, hd.2.1⟩, fun sig h => ?_, ok _ (by simp [va_wsS]), ok _ (by simp [va_wsS])⟩
  have h2 := hd.2.2
  rw [h] at h2
  exact (Option.some.inj h2).symm
theorem vx_callSW (X : Stand p l e R s m args below meth c T locs cells slots) (hexec : p.tables.exec = Jvm.exec) {own : String} {index : Nat} {y : MethodName} {bytes : ByteArray} {maxL : Nat} {ret : Option FieldType} {hh : List (Nat × Nat × Nat × Nat)}
    (hown : s.vm.findClass own = some m.cls) (hlink : (Cond.methodLink own index y).before args s = true) (hstat : (Cond.static y).before args s = true) (hinit : (Cond.initialized y.cls).before args s = true)
    (hcode : (Cond.codeWith y bytes maxL ret hh).before args s = true) (hy : y.cls ≠ "java/lang/invoke/MethodHandle" ∧ y.cls ≠ "java/lang/invoke/VarHandle")
    {W9 : Nat} {Pre : Pt → Array Value → Prop} {Post : Pt → Array Value → Option Value → Pt → Prop} (hK : Back l R p e below s args y 3 W9 Pre Post)
    {g : JFrame} (hg : g.method = m) (hsize : g.locals.size = c.maxLocals) {argsL rest : List Value} (hlen : ∀ sig, parseMethodDescriptor y.desc = some sig → argsL.length = sig.parameters.length)
    (hstack : g.stack = argsL.reverse ++ rest) (hW : 2 * g.monitorRoom + (rest.map fun v => v.category).sum ≤ W9) (hdg : decode c.code g.pc = .ok (.invokestatic index, 3))
    (hpre : ∀ vm₁, s.WarmedH vm₁ → Pre ⟨T.setVm vm₁, locs, cells, slots⟩ argsL.toArray) :
    ∃ (v : Option Value) (vm₁ : Vm) (B : Pt), s.WarmedH vm₁ ∧ Stand p l e R s m args below meth c B.U B.locs B.cells B.slots ∧ Post ⟨T.setVm vm₁, locs, cells, slots⟩ argsL.toArray v B ∧
      ∀ target, Steps p.tables e below (B.U.setTop { g with pc := g.pc + 3, stack := v.toList ++ rest }) target → Steps p.tables e below (T.setTop g) target := by
  obtain ⟨mk, methM, cM, hnamed, hmethM, -, -, -, -, -, -, hsigM⟩ := Cond.codeWith_spec hcode
  have hstatic : methM.isStatic = true := Cond.static_spec hnamed hmethM hstat
  obtain ⟨kP, hkP, -⟩ := className_of_methodNamed hnamed
  have hinitP : kP.init = .initialized := Cond.initialized_spec (findClass_of_methodNamed hnamed) hkP hinit
  obtain ⟨vm₁, X₁, hstep₁⟩ := X.invokestatic hexec hown hlink hnamed hmethM hstatic hkP hinitP hy (g := g) hg (argsL := argsL) (rest := rest) (hlen _ hsigM) hstack hdg
  obtain ⟨v, B, X', hpost, hsteps⟩ := hK m meth c ⟨T.setVm vm₁, locs, cells, slots⟩ { g with stack := rest } (.invokestatic index) mk argsL.toArray X₁ hg hsize hdg hW (X₁.named hnamed) (hpre vm₁ X₁.warmed)
  exact ⟨v, vm₁, B, X₁.warmed, X', hpost, fun target h => hstep₁ _ fun acts => by rw [doInvoke_state]; exact hsteps.trans h⟩
theorem vx_runSW {y : MethodName} {bytes cc : ByteArray} {maxL nL mc ms n index : Nat} {ret : Option FieldType} {hh : List (Nat × Nat × Nat × Nat)} {ws : List Cond} {rm : Room} {Pc : Array Value → State → Prop} {Qc : Array Value → State → Outcome → State → Prop} {free : Addr → Prop} {Ts : List Cond} {own : String} {As rest : List Value} {g : JFrame}
    (S : CallFix p m c cc nL s args Ts own) (hM : Met l y ws rm Pc Qc mc ms free) (cw : vx_CSW R s args own index y bytes maxL ret hh ws rm mc ms n) (hp : PreS s H Pc As)
    (hg : g.method = m) (hn : As.length = n) (hsize : g.locals.size = nL) (hstack : g.stack = As.reverse ++ rest) (hW : 2 * g.monitorRoom + (rest.map fun v => v.category).sum ≤ 8) (hdg : decode cc g.pc = .ok (.invokestatic index, 3)) (hf : cells + mc ≤ R.cells ∧ slots + ms ≤ R.slots) :
    va_Run p l e R s m args below meth c H locs cells slots mc ms g rest (Qc As.toArray) (free) := by
  obtain ⟨⟨hrc, hrs, hfr, hlo, hws, hcw⟩, hcode, hini, hy, hlen, hl, hstt⟩ := cw
  have hK : Back l R p e below s args y 3 8 (PreOf R mc ms Pc) (PostOf Qc mc ms free) := va_backW (hh := hh) (bytes := bytes) (maxL := maxL) (ret := ret) hM hp.1 hrc hrs hfr hlo hws hcw (fun a' U hW => word_at hW (Or.inl (by first | rfl | simp [Cond.onTables, Cond.keeps, Cond.steady])) hini)
  obtain ⟨hx, hb, hml, ho, -⟩ := S
  intro T hT X
  obtain ⟨v, vm₁, ⟨U', l2, c2, s2⟩, hW₁, X', ⟨g', mk, t, L, e1, e2, hq, h1, hL, h2, h3⟩, st⟩ := vx_callSW X hx (hh := hh) (bytes := bytes) (maxL := maxL) (ret := ret) ho hl hstt hini hcode hy hK hg (hsize.trans hml.symm) (argsL := As) (rest := rest) (fun sig h => hn.trans (hlen sig h)) hstack hW (by rw [hb]; exact hdg)
    (fun vm₁ hW₁ => ⟨hf.1, hf.2, hp.2 (T.setVm vm₁) hT hW₁⟩)
  dsimp only [Pt.U, Pt.locs, Pt.cells, Pt.slots] at X' e1 e2 h1 h2 h3 st
  subst h1; subst h2; subst h3
  exact ⟨v, (T.setVm vm₁).calling g' mk As.toArray, t, U', L, hT, X', hL, e1, e2, hq, st⟩
/-- not caught here, past rows that name other classes: it goes on to the caller -/
theorem vx_outP {p : Program} {l : Launch} {e : Env} {R : Room} {s : State} {m : MethodId} {args : Array Value} {below : List Frame} {meth : Method} {c : Code} {H : Heap} {locs : List Loc} {cells slots : Nat} {free : Addr → Prop} {ls : Array Slot} {rest : List Value} {Qc : Array Value → State → Outcome → State → Prop} {XC : String → State → State → Prop}
    {pc : Nat} {own E : String} {ce : Cell} {q : Addr} {mc ms : Nat} (hown : s.vm.findClass own = some m.cls) (hlocks : meth.locks = false)
    (hpass : ∀ z ∈ c.exceptionTable.toList, covers z pc = false ∨ (z.catchType ≠ 0 ∧ ∃ nm : String, (Cond.classLink own z.catchType nm).before args s = true ∧ va_Nc E nm s)) (hcell : H[q]? = some ce) (hv : ce.vm = .none) (hcl : s.vm.findClass E = some ce.cls)
    (hx : ∀ t : State, t.heap = H → s.vm.Alike t.vm → XC E s t) (hf : ∀ z ∈ locs, free z.base) (hc : cells ≤ mc) (hs : slots ≤ ms) :
    vx_W p l e R s m args below meth c H locs cells slots (vx_MQ below Qc XC args s mc ms free) (F0 m pc ls rest) q := by
  intro T hT X
  have hpl : e.platform.magicAccessors = ({} : Platform).magicAccessors := by rw [X.admits.platform]
  obtain ⟨vm', hW', X', st⟩ := Jvm.Stand.outThrough X hlocks q (g := F0 m pc ls rest) rfl rfl rfl (cell := ce) (by rw [hT]; exact hcell) (by rw [hv]; rfl)
    (by obtain ⟨k9, h9, -⟩ := Vm.findClass_spec hcl; exact ⟨k9, h9⟩) (fun z hz => by
      rcases hpass z hz with h | ⟨hz0, nm, hl1, hn1⟩
      · exact Or.inl h
      · obtain ⟨c6, hc6, hcl6⟩ := Cond.classLink_spec hown hl1 e.platform hpl
        obtain ⟨a8, b8, h1, h2, h3⟩ := hn1
        cases Option.some.inj (h1.symm.trans hcl)
        cases Option.some.inj (h2.symm.trans hc6)
        exact Or.inr ⟨hz0, _, hcl6, h3⟩)
  obtain ⟨g₀, hfr⟩ := X'.frames_eq
  have hcell9 : ((T.setVm vm').setFrames (.throwing q :: below)).heap[q]? = some ce := by
    show T.heap[q]? = some ce
    rw [hT]; exact hcell
  have hend : Ended ((T.setVm vm').setFrames (.throwing q :: below)) below (.threw q) := State.frames_setFrames _ (State.cur_lt_of_frames hfr)
  refine ⟨(T.setVm vm').setFrames (.throwing q :: below), ?_, .threw q, X'.here.running, hend, Or.inr ⟨q, rfl, E, ce, locs, hx _ hT (X'.ends _).1.alike, hcell9, hv, hcl, (X'.ends _).1, (X'.ends _).2.mono hc hs, hf⟩⟩
  rw [X.pushThrowing_eq]
  exact st
/-- a thing of a world lies in the heap -/
theorem vx_lt {D : va_G} {cl : List vw_C} {ws : va_W} {H1 : Heap} (h : va_P D cl ws H1) {k : Nat} {q : Nat × va_E} (hk : ws[k]? = some q) : q.1 < H1.size := (h k q hk).lt
end VXS
/-! ===== END ===== -/
/-! ===== BEGIN methods with a table of their own: called by a name, returning or throwing ===== -/
section VXH
/-! vx_backW, vx_callVX, vx_callSX, vx_callVW, vx_runVW, vx_runVX, vx_runSX, vx_ofWH follow the same proofs as their sisters above (Free/Laws.lean, Shelf42/LK1.lean); vx_outP calls Shelf42/NT130.lean (outThrough). -/
section
variable {l : Launch} {R : Room} {p : Program} {e : Env} {below : List Frame} {s : State} {sargs : Array Value} {y : MethodName} {len W9 : Nat}
theorem vx_backW {ws : List Cond} {rm : Room} {Pc : Array Value → State → Prop} {Qc : Array Value → State → Outcome → State → Prop} {XC : String → State → State → Prop} {mc ms : Nat} {free : Addr → Prop} {bytes : ByteArray} {maxL : Nat} {ret : Option FieldType} {hh : List (Nat × Nat × Nat × Nat)}
    (hM : vx_Met l y ws rm Pc Qc XC mc ms free) (hblind : FrameBlind Pc) (hrc : rm.cells = mc) (hrs : rm.slots = ms)
    (hframes : rm.frames + 1 ≤ R.frames) (hlocals : W9 + (maxL + 11) + rm.locals ≤ R.locals)
    (hws : ∀ w ∈ ws, ∀ a' U, s.WarmedH U.vm → w.before a' U = true) (hcode : Cond.codeWith y bytes maxL ret hh ∈ ws) (hinit : ∀ a' U, s.WarmedH U.vm → (Cond.initialized y.cls).before a' U = true) :
    vx_Back l R p e below s sargs y len W9 (PreOf R mc ms Pc) (PostOf Qc mc ms free) (vx_Post XC mc ms free) := by
  intro m meth c A g ig mk a X hg hsize hdg hW hn hp
  have h1 : (headSpec ws rm).pre.before a A.U = true := atoms_intro fun w hw => hws w hw _ _ X.warmed
  have h2 : (Cond.codeWith y bytes maxL ret hh).before a A.U = true := hws _ hcode _ _ X.warmed
  have h3 : (Cond.initialized y.cls).before a A.U = true := hinit _ _ X.warmed
  have h4 : A.cells + (headSpec ws rm).room.cells ≤ R.cells := by rw [show (headSpec ws rm).room.cells = mc from hrc]; exact hp.1
  have h5 : A.slots + (headSpec ws rm).room.slots ≤ R.slots := by rw [show (headSpec ws rm).room.slots = ms from hrs]; exact hp.2.1
  have hPc : Pc a (A.U.calling g mk a) := hblind _ _ _ _ hp.2.2
  obtain ⟨U, Ls, c0, s0⟩ := A
  dsimp only [Pt.U, Pt.locs, Pt.cells, Pt.slots] at h1 h2 h3 h4 h5 X hn hPc ⊢
  obtain ⟨m9, methY, cY, hn9, hmY, hcY, -, hlY, -⟩ := Cond.codeWith_spec h2
  cases Option.some.inj (hn9.symm.trans hn)
  obtain ⟨kY, hkY, -⟩ := className_of_methodNamed hn
  have hinitY : kY.init = .initialized := Cond.initialized_spec (findClass_of_methodNamed hn) hkY h3
  have h : At U g.method c below := by rw [hg]; exact X.here
  have hlocals9 : W9 + (maxL + 11) + (headSpec ws rm).room.locals ≤ R.locals := hlocals
  have happ : (headSpec ws rm).appliesLoose y e.platform (U.calling g mk a) = true :=
    Spec.appliesLoose_calling (g := g) h hdg hn hkY hinitY
      (X.room_calling (g := g) (R' := (headSpec ws rm).room) hsize hmY hcY hframes (by rw [hlY]; omega) h4 h5) h1
  obtain ⟨mid, hmid⟩ := h.above
  have hfr : (U.setTop g).frames = (.java g :: mid) ++ below := by rw [State.frames_setTop' g h.top, hmid]; rfl
  obtain ⟨o, s₂, hsteps, -, hend, hq⟩ := Steps.callFree hM p X.admits X.cas X.clock (acts := []) hfr happ hPc trivial
  have hq' : vx_Q Qc XC mc ms free a (U.calling g mk a) o s₂ := hq
  rw [State.frames_setTop' g h.top] at hend
  obtain ⟨g₀, hg0⟩ := Option.isSome_iff_exists.mp h.top
  obtain ⟨r, hr⟩ := State.topJava?_eq_some.mp hg0
  have hr' : (({ U with heap := s₂.heap, slotsUsed := s₂.slotsUsed } : State).setVm s₂.vm).frames = .java g₀ :: r := hr
  rcases hq' with ⟨hqc, L, hfe, hL⟩ | ⟨q, rfl, E, ce, L, hx, hce, hcv, hcl, hW₂, hsm, hL⟩
  · obtain ⟨⟨v, rfl⟩, hW₂, e2, q2, q3, q4, q5, q6⟩ := id hfe
    have e3 : s₂ = ({ (U.calling g mk a).setFrames s₂.frames with heap := s₂.heap, slotsUsed := s₂.slotsUsed } : State).setVm s₂.vm := by
      have : s₂ = ({ s₂ with vm := (U.calling g mk a).vm } : State).setVm s₂.vm := rfl
      rw [e2] at this
      exact this
    obtain ⟨c₂, i₂, len₂, hc₂, hd₂, hf₂⟩ := hend
    have hW' : U.WarmedH s₂.vm := hW₂
    have hcc : c₂ = c := by
      have h1 : s₂.code? g.method = U.code? g.method := by
        rw [State.code?_eq, State.code?_eq, hW'.alike.method?]
      exact Option.some.inj (hc₂.symm.trans (h1.trans h.code))
    subst hcc
    have hlen : len₂ = len := by rw [hdg] at hd₂; cases hd₂; rfl
    subst hlen
    have hs₂ : s₂ = (({ U with heap := s₂.heap, slotsUsed := s₂.slotsUsed } : State).setVm s₂.vm).setTop { g with pc := g.pc + len₂, stack := v.toList ++ g.stack } := by
      refine e3.trans ?_
      rw [hf₂, State.calling_eq h.top, State.setFrames_setFrames, State.setTop_of_frames _ hr', hr]
      rfl
    have hsame : U.sameButNew ({ U with heap := s₂.heap, slotsUsed := s₂.slotsUsed } : State) L mc ms := by
      refine ⟨?_, q2, q3, q4, q5, q6⟩
      obtain ⟨t, ht, -⟩ := State.frames_cons hr
      show ({ U with heap := s₂.heap, slotsUsed := s₂.slotsUsed } : State) = { U.setFrames U.frames with heap := s₂.heap, slotsUsed := s₂.slotsUsed }
      rw [State.setFrames_self ht]
    subst hg
    refine Or.inl ⟨v, ⟨(({ U with heap := s₂.heap, slotsUsed := s₂.slotsUsed } : State).setVm s₂.vm), Ls ++ L, c0 + mc, s0 + ms⟩,
      ⟨X.admits, X.cas, X.clock, X.frames, X.room, X.hears, X.method, X.code, (X.here.setHeapUsed s₂.heap s₂.slotsUsed).setVm hW'.alike, X.tail, State.WarmedH.trans X.warmed hW', X.limits, X.bytes, X.same.trans (hsame.setVm s.vm)⟩,
      ⟨g, mk, s₂, L, rfl, rfl, hqc, rfl, hL, rfl, rfl⟩, ?_⟩
    show Steps p.tables e below _ ((({ U with heap := s₂.heap, slotsUsed := s₂.slotsUsed } : State).setVm s₂.vm).setTop { g with pc := g.pc + len₂, stack := v.toList ++ g.stack })
    rw [← hs₂]
    exact hsteps
  · obtain ⟨e2, q2, q3, q4, q5, q6⟩ := id hsm
    have e3 : s₂ = ({ (U.calling g mk a).setFrames s₂.frames with heap := s₂.heap, slotsUsed := s₂.slotsUsed } : State).setVm s₂.vm := by
      have : s₂ = ({ s₂ with vm := (U.calling g mk a).vm } : State).setVm s₂.vm := rfl
      rw [e2] at this
      exact this
    have hf₂ : s₂.frames = .throwing q :: .java g :: U.frames.tail := hend
    have hW' : U.WarmedH s₂.vm := hW₂
    have hs₂ : s₂ = ((({ U with heap := s₂.heap, slotsUsed := s₂.slotsUsed } : State).setVm s₂.vm).setTop g).pushFrame (.throwing q) := by
      refine e3.trans ?_
      rw [hf₂, State.calling_eq h.top, State.setFrames_setFrames, State.pushFrame, State.frames_setTop _ hr', State.setTop_of_frames _ hr', State.setFrames_setFrames, hr]
      rfl
    have hsame : U.sameButNew ({ U with heap := s₂.heap, slotsUsed := s₂.slotsUsed } : State) L mc ms := by
      refine ⟨?_, q2, q3, q4, q5, q6⟩
      obtain ⟨t, ht, -⟩ := State.frames_cons hr
      show ({ U with heap := s₂.heap, slotsUsed := s₂.slotsUsed } : State) = { U.setFrames U.frames with heap := s₂.heap, slotsUsed := s₂.slotsUsed }
      rw [State.setFrames_self ht]
    subst hg
    refine Or.inr ⟨q, ⟨(({ U with heap := s₂.heap, slotsUsed := s₂.slotsUsed } : State).setVm s₂.vm), Ls ++ L, c0 + mc, s0 + ms⟩,
      ⟨X.admits, X.cas, X.clock, X.frames, X.room, X.hears, X.method, X.code, (X.here.setHeapUsed s₂.heap s₂.slotsUsed).setVm hW'.alike, X.tail, State.WarmedH.trans X.warmed hW', X.limits, X.bytes, X.same.trans (hsame.setVm s.vm)⟩,
      ⟨g, mk, s₂, L, E, ce, rfl, rfl, hx, hce, hcv, hcl, rfl, hL, rfl, rfl⟩, ?_⟩
    show Steps p.tables e below _ (((({ U with heap := s₂.heap, slotsUsed := s₂.slotsUsed } : State).setVm s₂.vm).setTop g).pushFrame (.throwing q))
    rw [← hs₂]
    exact hsteps
end
variable {p : Program} {l : Launch} {e : Env} {R : Room} {s : State} {m : MethodId} {args : Array Value} {below : List Frame} {meth : Method} {c : Code} {T : State} {H : Heap} {locs : List Loc} {cells slots : Nat}
theorem vx_callVX (X : Stand p l e R s m args below meth c T locs cells slots) (hexec : p.tables.exec = Jvm.exec) {own C : String} {index : Nat} {y : MethodName} {bytes : ByteArray} {maxL : Nat} {ret : Option FieldType} {hh : List (Nat × Nat × Nat × Nat)}
    (hown : s.vm.findClass own = some m.cls) (hlink : (Cond.methodLink own index y).before args s = true) (hinst : (Cond.instanceMethod y).before args s = true) (hsel : (Cond.selects C y y).before args s = true)
    (hcode : (Cond.codeWith y bytes maxL ret hh).before args s = true) (hy : y.cls ≠ "java/lang/invoke/MethodHandle" ∧ y.cls ≠ "java/lang/invoke/VarHandle")
    {W9 : Nat} {Pre : Pt → Array Value → Prop} {Post : Pt → Array Value → Option Value → Pt → Prop} {PostX : Pt → Array Value → Addr → Pt → Prop} (hK : vx_Back l R p e below s args y 3 W9 Pre Post PostX)
    {b : Addr} {cellB : Cell} (hcell : T.heap[b]? = some cellB) (hobj : cellB.vm.isStatics = false) (hcls : s.vm.findClass C = some cellB.cls)
    {g : JFrame} (hg : g.method = m) (hsize : g.locals.size = c.maxLocals) {argsL rest : List Value} (hlen : ∀ sig, parseMethodDescriptor y.desc = some sig → argsL.length = sig.parameters.length)
    (hstack : g.stack = argsL.reverse ++ .ref b :: rest) (hW : 2 * g.monitorRoom + (rest.map fun v => v.category).sum ≤ W9) (hdg : decode c.code g.pc = .ok (.invokevirtual index, 3))
    (hpre : ∀ vm₁, s.WarmedH vm₁ → Pre ⟨T.setVm vm₁, locs, cells, slots⟩ (Value.ref b :: argsL).toArray) :
    (∃ (v : Option Value) (vm₁ : Vm) (B : Pt), s.WarmedH vm₁ ∧ Stand p l e R s m args below meth c B.U B.locs B.cells B.slots ∧ Post ⟨T.setVm vm₁, locs, cells, slots⟩ (Value.ref b :: argsL).toArray v B ∧
      ∀ target, Steps p.tables e below (B.U.setTop { g with pc := g.pc + 3, stack := v.toList ++ rest }) target → Steps p.tables e below (T.setTop g) target) ∨
    (∃ (q : Addr) (vm₁ : Vm) (B : Pt), s.WarmedH vm₁ ∧ Stand p l e R s m args below meth c B.U B.locs B.cells B.slots ∧ PostX ⟨T.setVm vm₁, locs, cells, slots⟩ (Value.ref b :: argsL).toArray q B ∧
      Steps p.tables e below (T.setTop g) ((B.U.setTop { g with stack := rest }).pushFrame (.throwing q))) := by
  obtain ⟨mk, methM, hnamed, hmethM, hstM, habM⟩ := Cond.instanceMethod_spec hinst
  obtain ⟨m8, methM', cM, hn8, hmethM', -, -, -, -, -, -, hsigM⟩ := Cond.codeWith_spec hcode
  cases Option.some.inj (hn8.symm.trans hnamed)
  cases hmethM.symm.trans hmethM'
  obtain ⟨c2, r2, m2, q1, q2, q3, q4, kP, hkP, hkPi⟩ := Cond.selects_spec hsel
  cases hcls.symm.trans q1
  cases (State.methodFound?_of_named hnamed hy).symm.trans q2
  cases hnamed.symm.trans q3
  have hselP : selectMethod e.platform s.vm cellB.cls mk = .method mk := by rw [Launch.admits_selectMethod X.admits]; exact q4
  obtain ⟨vm₁, X₁, hstep₁⟩ := X.invokevirtual hexec hown hlink hnamed hmethM hstM hkP hkPi hy (a := b) (cell := cellB) hcell
    (fun z h => by rw [h] at hobj; cases hobj) hselP hmethM habM hkP hkPi (g := g) hg (argsL := argsL) (rest := rest) (hlen _ hsigM) hstack hdg
  rcases hK m meth c ⟨T.setVm vm₁, locs, cells, slots⟩ { g with stack := rest } (.invokevirtual index) mk (Value.ref b :: argsL).toArray X₁ hg hsize hdg hW (X₁.named hnamed) (hpre vm₁ X₁.warmed) with ⟨v, B, X', hpost, hsteps⟩ | ⟨q, B, X', hpost, hsteps⟩
  · exact Or.inl ⟨v, vm₁, B, X₁.warmed, X', hpost, fun target h => hstep₁ _ fun acts => by rw [doInvoke_state]; exact hsteps.trans h⟩
  · exact Or.inr ⟨q, vm₁, B, X₁.warmed, X', hpost, hstep₁ _ fun acts => by rw [doInvoke_state]; exact hsteps⟩
theorem vx_callSX (X : Stand p l e R s m args below meth c T locs cells slots) (hexec : p.tables.exec = Jvm.exec) {own : String} {index : Nat} {y : MethodName} {bytes : ByteArray} {maxL : Nat} {ret : Option FieldType} {hh : List (Nat × Nat × Nat × Nat)}
    (hown : s.vm.findClass own = some m.cls) (hlink : (Cond.methodLink own index y).before args s = true) (hstat : (Cond.static y).before args s = true) (hinit : (Cond.initialized y.cls).before args s = true)
    (hcode : (Cond.codeWith y bytes maxL ret hh).before args s = true) (hy : y.cls ≠ "java/lang/invoke/MethodHandle" ∧ y.cls ≠ "java/lang/invoke/VarHandle")
    {W9 : Nat} {Pre : Pt → Array Value → Prop} {Post : Pt → Array Value → Option Value → Pt → Prop} {PostX : Pt → Array Value → Addr → Pt → Prop} (hK : vx_Back l R p e below s args y 3 W9 Pre Post PostX)
    {g : JFrame} (hg : g.method = m) (hsize : g.locals.size = c.maxLocals) {argsL rest : List Value} (hlen : ∀ sig, parseMethodDescriptor y.desc = some sig → argsL.length = sig.parameters.length)
    (hstack : g.stack = argsL.reverse ++ rest) (hW : 2 * g.monitorRoom + (rest.map fun v => v.category).sum ≤ W9) (hdg : decode c.code g.pc = .ok (.invokestatic index, 3))
    (hpre : ∀ vm₁, s.WarmedH vm₁ → Pre ⟨T.setVm vm₁, locs, cells, slots⟩ argsL.toArray) :
    (∃ (v : Option Value) (vm₁ : Vm) (B : Pt), s.WarmedH vm₁ ∧ Stand p l e R s m args below meth c B.U B.locs B.cells B.slots ∧ Post ⟨T.setVm vm₁, locs, cells, slots⟩ argsL.toArray v B ∧
      ∀ target, Steps p.tables e below (B.U.setTop { g with pc := g.pc + 3, stack := v.toList ++ rest }) target → Steps p.tables e below (T.setTop g) target) ∨
    (∃ (q : Addr) (vm₁ : Vm) (B : Pt), s.WarmedH vm₁ ∧ Stand p l e R s m args below meth c B.U B.locs B.cells B.slots ∧ PostX ⟨T.setVm vm₁, locs, cells, slots⟩ argsL.toArray q B ∧
      Steps p.tables e below (T.setTop g) ((B.U.setTop { g with stack := rest }).pushFrame (.throwing q))) := by
  obtain ⟨mk, methM, cM, hnamed, hmethM, -, -, -, -, -, -, hsigM⟩ := Cond.codeWith_spec hcode
  have hstatic : methM.isStatic = true := Cond.static_spec hnamed hmethM hstat
  obtain ⟨kP, hkP, -⟩ := className_of_methodNamed hnamed
  have hinitP : kP.init = .initialized := Cond.initialized_spec (findClass_of_methodNamed hnamed) hkP hinit
  obtain ⟨vm₁, X₁, hstep₁⟩ := X.invokestatic hexec hown hlink hnamed hmethM hstatic hkP hinitP hy (g := g) hg (argsL := argsL) (rest := rest) (hlen _ hsigM) hstack hdg
  rcases hK m meth c ⟨T.setVm vm₁, locs, cells, slots⟩ { g with stack := rest } (.invokestatic index) mk argsL.toArray X₁ hg hsize hdg hW (X₁.named hnamed) (hpre vm₁ X₁.warmed) with ⟨v, B, X', hpost, hsteps⟩ | ⟨q, B, X', hpost, hsteps⟩
  · exact Or.inl ⟨v, vm₁, B, X₁.warmed, X', hpost, fun target h => hstep₁ _ fun acts => by rw [doInvoke_state]; exact hsteps.trans h⟩
  · exact Or.inr ⟨q, vm₁, B, X₁.warmed, X', hpost, hstep₁ _ fun acts => by rw [doInvoke_state]; exact hsteps⟩
theorem vx_callVW (X : Stand p l e R s m args below meth c T locs cells slots) (hexec : p.tables.exec = Jvm.exec) {own C : String} {index : Nat} {y : MethodName} {bytes : ByteArray} {maxL : Nat} {ret : Option FieldType} {hh : List (Nat × Nat × Nat × Nat)}
    (hown : s.vm.findClass own = some m.cls) (hlink : (Cond.methodLink own index y).before args s = true) (hinst : (Cond.instanceMethod y).before args s = true) (hsel : (Cond.selects C y y).before args s = true)
    (hcode : (Cond.codeWith y bytes maxL ret hh).before args s = true) (hy : y.cls ≠ "java/lang/invoke/MethodHandle" ∧ y.cls ≠ "java/lang/invoke/VarHandle")
    {W9 : Nat} {Pre : Pt → Array Value → Prop} {Post : Pt → Array Value → Option Value → Pt → Prop} (hK : Back l R p e below s args y 3 W9 Pre Post)
    {b : Addr} {cellB : Cell} (hcell : T.heap[b]? = some cellB) (hobj : cellB.vm.isStatics = false) (hcls : s.vm.findClass C = some cellB.cls)
    {g : JFrame} (hg : g.method = m) (hsize : g.locals.size = c.maxLocals) {argsL rest : List Value} (hlen : ∀ sig, parseMethodDescriptor y.desc = some sig → argsL.length = sig.parameters.length)
    (hstack : g.stack = argsL.reverse ++ .ref b :: rest) (hW : 2 * g.monitorRoom + (rest.map fun v => v.category).sum ≤ W9) (hdg : decode c.code g.pc = .ok (.invokevirtual index, 3))
    (hpre : ∀ vm₁, s.WarmedH vm₁ → Pre ⟨T.setVm vm₁, locs, cells, slots⟩ (Value.ref b :: argsL).toArray) :
    ∃ (v : Option Value) (vm₁ : Vm) (B : Pt), s.WarmedH vm₁ ∧ Stand p l e R s m args below meth c B.U B.locs B.cells B.slots ∧ Post ⟨T.setVm vm₁, locs, cells, slots⟩ (Value.ref b :: argsL).toArray v B ∧
      ∀ target, Steps p.tables e below (B.U.setTop { g with pc := g.pc + 3, stack := v.toList ++ rest }) target → Steps p.tables e below (T.setTop g) target := by
  obtain ⟨mk, methM, hnamed, hmethM, hstM, habM⟩ := Cond.instanceMethod_spec hinst
  obtain ⟨m8, methM', cM, hn8, hmethM', -, -, -, -, -, -, hsigM⟩ := Cond.codeWith_spec hcode
  cases Option.some.inj (hn8.symm.trans hnamed)
  cases hmethM.symm.trans hmethM'
  obtain ⟨c2, r2, m2, q1, q2, q3, q4, kP, hkP, hkPi⟩ := Cond.selects_spec hsel
  cases hcls.symm.trans q1
  cases (State.methodFound?_of_named hnamed hy).symm.trans q2
  cases hnamed.symm.trans q3
  have hselP : selectMethod e.platform s.vm cellB.cls mk = .method mk := by rw [Launch.admits_selectMethod X.admits]; exact q4
  obtain ⟨vm₁, X₁, hstep₁⟩ := X.invokevirtual hexec hown hlink hnamed hmethM hstM hkP hkPi hy (a := b) (cell := cellB) hcell
    (fun z h => by rw [h] at hobj; cases hobj) hselP hmethM habM hkP hkPi (g := g) hg (argsL := argsL) (rest := rest) (hlen _ hsigM) hstack hdg
  obtain ⟨v, B, X', hpost, hsteps⟩ := hK m meth c ⟨T.setVm vm₁, locs, cells, slots⟩ { g with stack := rest } (.invokevirtual index) mk (Value.ref b :: argsL).toArray X₁ hg hsize hdg hW (X₁.named hnamed) (hpre vm₁ X₁.warmed)
  exact ⟨v, vm₁, B, X₁.warmed, X', hpost, fun target h => hstep₁ _ fun acts => by rw [doInvoke_state]; exact hsteps.trans h⟩
abbrev vx_CVW (R : Room) (s : State) (args : Array Value) (own C : String) (index : Nat) (y : MethodName) (bytes : ByteArray) (maxL : Nat) (ret : Option FieldType) (hh : List (Nat × Nat × Nat × Nat)) (ws : List Cond) (rm : Room) (mc ms n : Nat) : Prop :=
  (rm.cells = mc ∧ rm.slots = ms ∧ rm.frames + 1 ≤ R.frames ∧ 8 + (maxL + 11) + rm.locals ≤ R.locals ∧ (∀ w ∈ ws, ∀ (a' : Array Value) (U : State), s.WarmedH U.vm → w.before a' U = true) ∧ Cond.codeWith y bytes maxL ret hh ∈ ws) ∧
  (Cond.codeWith y bytes maxL ret hh).before args s = true ∧ (Cond.initialized y.cls).before args s = true ∧ (y.cls ≠ "java/lang/invoke/MethodHandle" ∧ y.cls ≠ "java/lang/invoke/VarHandle") ∧
  (∀ sig, parseMethodDescriptor y.desc = some sig → n = sig.parameters.length) ∧ (Cond.methodLink own index y).before args s = true ∧ (Cond.instanceMethod y).before args s = true ∧ (Cond.selects C y y).before args s = true
theorem vx_cwVW {own C : String} {index maxL mc ms : Nat} {y : MethodName} {bytes : ByteArray} {ret : Option FieldType} {hh : List (Nat × Nat × Nat × Nat)} {Ts ws ws' : List Cond} {rm : Room} (n : Nat) (ht : ∀ w ∈ Ts, w.before args s = true) (hT : GoodIn Ts (wsV own index C y ws)) (hw : ws = Cond.codeWith y bytes maxL ret hh :: ws') (hrc : rm.cells = mc) (hrs : rm.slots = ms)
    (hd : y.cls = C ∧ y.cls ≠ "java/lang/invoke/MethodHandle" ∧ y.cls ≠ "java/lang/invoke/VarHandle" ∧ (parseMethodDescriptor y.desc).map (fun d => d.parameters.length) = some n) (hR : rm.frames + 1 ≤ R.frames ∧ 8 + (maxL + 11) + rm.locals ≤ R.locals) :
    vx_CVW R s args own C index y bytes maxL ret hh ws rm mc ms n := by
  obtain ⟨hC, hd⟩ := hd
  subst hC
  have ok : ∀ w ∈ wsV own index y.cls y ws, w.before args s = true := fun w h => ht w (hT w h).1
  have hG : GoodIn Ts ws := fun w h => hT w (by unfold wsV; exact List.mem_append_right _ h)
  have hc : Cond.codeWith y bytes maxL ret hh ∈ ws := by rw [hw]; exact List.mem_cons_self
  refine ⟨⟨hrc, hrs, hR.1, hR.2, pay_in ht hG, hc⟩, ht _ (hG _ hc).1, ok _ (by simp [wsV]), ⟨hd.1, hd.2.1⟩, fun sig h => ?_, ok _ (by simp [wsV]), ok _ (by simp [wsV]), ok _ (by simp [wsV])⟩
  have h2 := hd.2.2
  rw [h] at h2
  exact (Option.some.inj h2).symm
theorem vx_runVW {y : MethodName} {bytes cc : ByteArray} {maxL nL mc ms n index : Nat} {ret : Option FieldType} {hh : List (Nat × Nat × Nat × Nat)} {ws : List Cond} {rm : Room} {Pc : Array Value → State → Prop} {Qc : Array Value → State → Outcome → State → Prop} {free : Addr → Prop} {Ts : List Cond} {own C : String} {b : Addr} {As rest : List Value} {g : JFrame}
    (S : CallFix p m c cc nL s args Ts own) (hM : Met l y ws rm Pc Qc mc ms free) (cw : vx_CVW R s args own C index y bytes maxL ret hh ws rm mc ms n) (hp : PreV s H C b Pc As)
    (hg : g.method = m) (hn : As.length = n) (hsize : g.locals.size = nL) (hstack : g.stack = As.reverse ++ .ref b :: rest) (hW : 2 * g.monitorRoom + (rest.map fun v => v.category).sum ≤ 8) (hdg : decode cc g.pc = .ok (.invokevirtual index, 3)) (hf : cells + mc ≤ R.cells ∧ slots + ms ≤ R.slots) :
    va_Run p l e R s m args below meth c H locs cells slots mc ms g rest (Qc (Value.ref b :: As).toArray) free := by
  obtain ⟨⟨hrc, hrs, hfr, hlo, hws, hcw⟩, hcode, hini, hy, hlen, hl, hin, hse⟩ := cw
  have hK : Back l R p e below s args y 3 8 (PreOf R mc ms Pc) (PostOf Qc mc ms free) := va_backW (hh := hh) (bytes := bytes) (maxL := maxL) (ret := ret) hM hp.1 hrc hrs hfr hlo hws hcw (fun a' U hW => word_at hW (Or.inl (by first | rfl | simp [Cond.onTables, Cond.keeps, Cond.steady])) hini)
  obtain ⟨hx, hb, hml, ho, -⟩ := S
  obtain ⟨-, ⟨cellB, hcB, hoB, hclB⟩, hPc⟩ := hp
  intro T hT X
  obtain ⟨v, vm₁, ⟨U', l2, c2, s2⟩, hW₁, X', ⟨g', mk, t, L, e1, e2, hq, h1, hL, h2, h3⟩, st⟩ := vx_callVW X hx (C := C) (hh := hh) (bytes := bytes) (maxL := maxL) (ret := ret) ho hl hin hse hcode hy hK (by rw [hT]; exact hcB) hoB hclB hg (hsize.trans hml.symm) (argsL := As) (rest := rest) (fun sig h => hn.trans (hlen sig h)) hstack hW (by rw [hb]; exact hdg)
    (fun vm₁ hW₁ => ⟨hf.1, hf.2, hPc (T.setVm vm₁) hT hW₁⟩)
  dsimp only [Pt.U, Pt.locs, Pt.cells, Pt.slots] at X' e1 e2 h1 h2 h3 st
  subst h1; subst h2; subst h3
  exact ⟨v, (T.setVm vm₁).calling g' mk (Value.ref b :: As).toArray, t, U', L, hT, X', hL, e1, e2, hq, st⟩
section
variable {y : MethodName} {bytes cc : ByteArray} {maxL nL mc ms n index : Nat} {ret : Option FieldType} {ws : List Cond} {rm : Room} {Pc : Array Value → State → Prop} {Qc : Array Value → State → Outcome → State → Prop} {XC : String → State → State → Prop} {free : Addr → Prop} {Ts : List Cond} {own C : String} {b : Addr} {As rest : List Value} {g : JFrame}
theorem vx_runVX {hh : List (Nat × Nat × Nat × Nat)} (S : CallFix p m c cc nL s args Ts own) (hM : vx_Met l y ws rm Pc Qc XC mc ms free) (cw : vx_CVW R s args own C index y bytes maxL ret hh ws rm mc ms n) (hp : PreV s H C b Pc As)
    (hg : g.method = m) (hn : As.length = n) (hsize : g.locals.size = nL) (hstack : g.stack = As.reverse ++ .ref b :: rest) (hW : 2 * g.monitorRoom + (rest.map fun v => v.category).sum ≤ 8) (hdg : decode cc g.pc = .ok (.invokevirtual index, 3)) (hf : cells + mc ≤ R.cells ∧ slots + ms ≤ R.slots) :
    vx_Run p l e R s m args below meth c H locs cells slots mc ms g rest (Qc (Value.ref b :: As).toArray) XC free := by
  obtain ⟨⟨hrc, hrs, hfr, hlo, hws, hcw⟩, hcode, hini, hy, hlen, hl, hin, hse⟩ := cw
  have hK : vx_Back l R p e below s args y 3 8 (PreOf R mc ms Pc) (PostOf Qc mc ms free) (vx_Post XC mc ms free) := vx_backW (hh := hh) (bytes := bytes) (maxL := maxL) (ret := ret) hM hp.1 hrc hrs hfr hlo hws hcw (fun a' U hW => word_at hW (Or.inl (by first | rfl | simp [Cond.onTables, Cond.keeps, Cond.steady])) hini)
  obtain ⟨hx, hb, hml, ho, -⟩ := S
  obtain ⟨-, ⟨cellB, hcB, hoB, hclB⟩, hPc⟩ := hp
  intro T hT X
  rcases vx_callVX X hx (C := C) (hh := hh) (bytes := bytes) (maxL := maxL) (ret := ret) ho hl hin hse hcode hy hK (by rw [hT]; exact hcB) hoB hclB hg (hsize.trans hml.symm) (argsL := As) (rest := rest) (fun sig h => hn.trans (hlen sig h)) hstack hW (by rw [hb]; exact hdg)
    (fun vm₁ hW₁ => ⟨hf.1, hf.2, hPc (T.setVm vm₁) hT hW₁⟩) with ⟨v, vm₁, ⟨U', l2, c2, s2⟩, hW₁, X', ⟨g', mk, t, L, e1, e2, hq, h1, hL, h2, h3⟩, st⟩ | ⟨q, vm₁, ⟨U', l2, c2, s2⟩, hW₁, X', ⟨g', mk, t, L, E, ce, e1, e2, hq, hce, hcv, hcl, h1, hL, h2, h3⟩, st⟩
  · dsimp only [Pt.U, Pt.locs, Pt.cells, Pt.slots] at X' e1 e2 h1 h2 h3 st
    subst h1; subst h2; subst h3
    exact Or.inl ⟨v, (T.setVm vm₁).calling g' mk (Value.ref b :: As).toArray, t, U', L, hT, X', hL, e1, e2, hq, st⟩
  · dsimp only [Pt.U, Pt.locs, Pt.cells, Pt.slots] at X' e1 e2 h1 h2 h3 st hcl
    subst h1; subst h2; subst h3
    exact Or.inr ⟨q, (T.setVm vm₁).calling g' mk (Value.ref b :: As).toArray, t, U', L, E, ce, hT, X', hL, e1, e2, hq, hce, hcv, vx_cls hW₁ hcl, st⟩
theorem vx_runSX {hh : List (Nat × Nat × Nat × Nat)} (S : CallFix p m c cc nL s args Ts own) (hM : vx_Met l y ws rm Pc Qc XC mc ms free) (cw : vx_CSW R s args own index y bytes maxL ret hh ws rm mc ms n) (hp : PreS s H Pc As)
    (hg : g.method = m) (hn : As.length = n) (hsize : g.locals.size = nL) (hstack : g.stack = As.reverse ++ rest) (hW : 2 * g.monitorRoom + (rest.map fun v => v.category).sum ≤ 8) (hdg : decode cc g.pc = .ok (.invokestatic index, 3)) (hf : cells + mc ≤ R.cells ∧ slots + ms ≤ R.slots) :
    vx_Run p l e R s m args below meth c H locs cells slots mc ms g rest (Qc As.toArray) XC free := by
  obtain ⟨⟨hrc, hrs, hfr, hlo, hws, hcw⟩, hcode, hini, hy, hlen, hl, hstt⟩ := cw
  have hK : vx_Back l R p e below s args y 3 8 (PreOf R mc ms Pc) (PostOf Qc mc ms free) (vx_Post XC mc ms free) := vx_backW (hh := hh) (bytes := bytes) (maxL := maxL) (ret := ret) hM hp.1 hrc hrs hfr hlo hws hcw (fun a' U hW => word_at hW (Or.inl (by first | rfl | simp [Cond.onTables, Cond.keeps, Cond.steady])) hini)
  obtain ⟨hx, hb, hml, ho, -⟩ := S
  intro T hT X
  rcases vx_callSX X hx (hh := hh) (bytes := bytes) (maxL := maxL) (ret := ret) ho hl hstt hini hcode hy hK hg (hsize.trans hml.symm) (argsL := As) (rest := rest) (fun sig h => hn.trans (hlen sig h)) hstack hW (by rw [hb]; exact hdg)
    (fun vm₁ hW₁ => ⟨hf.1, hf.2, hp.2 (T.setVm vm₁) hT hW₁⟩) with ⟨v, vm₁, ⟨U', l2, c2, s2⟩, hW₁, X', ⟨g', mk, t, L, e1, e2, hq, h1, hL, h2, h3⟩, st⟩ | ⟨q, vm₁, ⟨U', l2, c2, s2⟩, hW₁, X', ⟨g', mk, t, L, E, ce, e1, e2, hq, hce, hcv, hcl, h1, hL, h2, h3⟩, st⟩
  · dsimp only [Pt.U, Pt.locs, Pt.cells, Pt.slots] at X' e1 e2 h1 h2 h3 st
    subst h1; subst h2; subst h3
    exact Or.inl ⟨v, (T.setVm vm₁).calling g' mk As.toArray, t, U', L, hT, X', hL, e1, e2, hq, st⟩
  · dsimp only [Pt.U, Pt.locs, Pt.cells, Pt.slots] at X' e1 e2 h1 h2 h3 st hcl
    subst h1; subst h2; subst h3
    exact Or.inr ⟨q, (T.setVm vm₁).calling g' mk As.toArray, t, U', L, E, ce, hT, X', hL, e1, e2, hq, hce, hcv, vx_cls hW₁ hcl, st⟩
end
end VXH
theorem vx_ofWH {l : Launch} {y : MethodName} {ws ws' : List Cond} {rm : Room} {Pc : Array Value → State → Prop} {Qc : Array Value → State → Outcome → State → Prop} {XC : String → State → State → Prop} {mc ms : Nat} {free : Addr → Prop} {cc : ByteArray} {maxL : Nat} {ret : Option FieldType} {hh : List (Nat × Nat × Nat × Nat)}
    (hy : plainName y.cls = true) (hw : ws = Cond.codeWith y cc maxL ret hh :: ws')
    (body : ∀ p e s m args below meth c s₁, BodyLoose p l y (headSpec ws rm) cc maxL ret e s m args below meth c s₁ → c.maxLocals = maxL → Pc args s →
      W p l e (headSpec ws rm).room s m args below meth c s.heap [] 0 0 (vx_MQ below Qc XC args s mc ms free) (entryFrame m args maxL)) : vx_Met l y ws rm Pc Qc XC mc ms free := by
  refine MetFree.of_bodyS (code := cc) (maxLocals := maxL) (ret := ret) hy ?_ ?_
  · intro args s m h hn
    obtain ⟨m9, meth, c, hn9, h1, h2, h3, h4, -, h5, h6, -⟩ := Cond.codeWith_spec (atoms_spec (ws := ws) h _ (by rw [hw]; exact List.mem_cons_self))
    cases hn.symm.trans hn9
    exact ⟨meth, c, h1, h2, h3, h4, h5, h6⟩
  · intro p e s m args below meth c s₁ B hml hP _
    have hh0 : s₁.heap = s.heap := by rw [B.state]; rfl
    obtain ⟨t, a1, o, b1, b2, b3⟩ := body p e s m args below meth c s₁ B hml hP s₁ hh0 (Stand.of_body B)
    exact ⟨t, o, a1, b1, b2, b3⟩
/-! ===== END ===== -/
end ZJN2
section ZJN3
/-! An exception whose own constructor hands its text on by any link (NoSuchElementException: 13), over the library's steps -/
def zx_tail (own : String) (ic : Nat) (X : String) : List Cond := [.methodLink own ic (Bundle.initS X), .instantiable X 6, .castable X X, .selects X Bundle.tFill0 Bundle.tFill0, .selects X Bundle.tFill Bundle.tFill, .lays X Bundle.tN "cause" "Ljava/lang/Throwable;", .lays X Bundle.tN "stackTrace" Bundle.steD, .lays X Bundle.tN "suppressedExceptions" Bundle.listD, .lays X Bundle.tN "detailMessage" "Ljava/lang/String;", .isRef (.static Bundle.tN "UNASSIGNED_STACK" Bundle.steD), .isRef (.static Bundle.tN "SUPPRESSED_SENTINEL" Bundle.listD), .fieldLink Bundle.tN 198 Bundle.tN "backtrace" "Ljava/lang/Object;", .lays Bundle.tN Bundle.tN "backtrace" "Ljava/lang/Object;", .lays X Bundle.tN "backtrace" "Ljava/lang/Object;"]
def zx_own (own : String) (ic : Nat) (X Y : String) (ix : Nat) (bs : ByteArray) (names : List String) : List Cond := Bundle.throwableAtoms ++ (Bundle.throwableSAtoms ++ ((Bundle.passSAtoms X Y ix bs ++ Bundle.chainSAtoms Y names) ++ zx_tail own ic X))
section ZXC
variable {p : Program} {l : Launch} {e : Env} {R : Room} {s : State} {m₀ : MethodId} {args : Array Value} {below : List Frame} {meth : Method} {c : Code} {W : State} {locs : List Loc} {cells slots : Nat}
set_option maxHeartbeats 1000000 in
theorem zx_ctor (X : Stand p l e R s m₀ args below meth c W locs cells slots) (hexec : p.tables.exec = Jvm.exec) (htr : e.platform.stackTraces = false) {own cls Y0 : String} {names : List String} {ic ix : Nat} {bs : ByteArray}
    (hown : s.vm.findClass own = some m₀.cls) (hcls : Bundle.fit cls = true) (hY0 : Bundle.fit Y0 = true) (hnames : ∀ n ∈ names, Bundle.fit n = true)
    (b0 : decode bs 0 = .ok (.aload_n 0, 1)) (b1 : decode bs 1 = .ok (.aload_n 1, 1)) (b2 : decode bs 2 = .ok (.invokespecial ix, 3)) (b5 : decode bs 5 = .ok (.return_, 1))
    (h : ∀ a ∈ zx_own own ic cls Y0 ix bs names, a.before args s = true)
    (hlocs : ∀ x ∈ locs, ∀ cell, s.heap[x.base]? = some cell → cell.vm.isStatics = false)
    {a : Addr} {cX : ClassId} {kX : Class} (hfX : s.vm.findClass cls = some cX) (hkX : s.vm.classes[cX]? = some kX) (hcell : W.heap[a]? = some (freshCell cX kX)) (hnew : s.heap.size ≤ a)
    {msg : Value} (hmsg : msg.isRef = true)
    {g : JFrame} (hg : g.method = m₀) (hsize : g.locals.size = c.maxLocals) (hlocked : g.locked = none) (hentered : g.entered = []) {rest : List Value} (hstack : g.stack = msg :: .ref a :: .ref a :: rest)
    (hd6 : decode c.code g.pc = .ok (.invokespecial ic, 3)) (hd9 : decode c.code (g.pc + 3) = .ok (.athrow, 1)) (hout : ∀ x ∈ c.exceptionTable.toList, covers x (g.pc + 3) = false)
    (hRf : names.length + 4 < R.frames) (hRl : 2 * g.monitorRoom + ((Value.ref a :: rest).map fun v => v.category).sum + (13 * (names.length + 2) + 42) ≤ R.locals) (hlocks : meth.locks = false) :
    ∃ U : State, Steps p.tables e below (W.setTop g) U ∧ U.status = .running ∧ Ended U below (.threw a) ∧ s.WarmedH U.vm ∧ s.sameButNew ({ U with vm := s.vm } : State) locs cells slots ∧ ∃ ce, U.heap[a]? = some ce ∧ s.vm.findClass cls = some ce.cls ∧ ce.vm = .none := by
  have howns : e.platform.frameOwnsMonitors = true := by rw [X.admits.platform]
  have hfin : e.platform.finalization = false := by rw [X.admits.platform]
  have hpl : e.platform.magicAccessors = ({} : Platform).magicAccessors := by rw [X.admits.platform]
  have hA : ∀ x ∈ Bundle.throwableAtoms, x.before args s = true := fun x hx => h x (List.mem_append_left _ hx)
  have hB : ∀ x ∈ Bundle.throwableSAtoms, x.before args s = true := fun x hx => h x (List.mem_append_right _ (List.mem_append_left _ hx))
  have hP : ∀ x ∈ Bundle.passSAtoms cls Y0 ix bs, x.before args s = true := fun x hx => h x (List.mem_append_right _ (List.mem_append_right _ (List.mem_append_left _ (List.mem_append_left _ hx))))
  have hQ : ∀ x ∈ Bundle.chainSAtoms Y0 names, x.before args s = true := fun x hx => h x (List.mem_append_right _ (List.mem_append_right _ (List.mem_append_left _ (List.mem_append_right _ hx))))
  have a' : ∀ x, x ∈ zx_tail own ic cls → x.holds args s none s [] = true := fun x hx => h x (List.mem_append_right _ (List.mem_append_right _ (List.mem_append_right _ hx)))
  obtain ⟨T, Z0, L, -, Y⟩ := ThrowableC.of_atoms (args := args) howns hfin hpl hA
  obtain ⟨Z, M, LZ, LM, hnZ⟩ := Init0T.ofS_atoms (args := args) hpl L Y hB
  obtain ⟨P1, L1, hP1m, hs1⟩ := PassC.ofS_atoms (args := args) (s := s) hpl (X := cls) (Y := Y0) (Bundle.fit_spec hcls).1 (Bundle.fit_spec hY0).2 b0 b1 b2 b5 hP
  obtain ⟨P2, Ps, hlen, L2, hL, hP2m, hlink2, hlink⟩ := Bundle.chainS (args := args) hpl hnZ names Y0 hY0 hnames hQ
  have hsup : P1.sup = P2.m := Option.some.inj (hs1.symm.trans hP2m)
  have hfound : s.vm.findClass cls = some P1.m.cls := findClass_of_methodNamed hP1m
  cases Option.some.inj (hfX.symm.trans hfound)
  obtain ⟨c1, kX', hc1, hk, hord, -, -, -⟩ := Cond.instantiable_spec (a' (.instantiable cls 6) (by simp [zx_tail]))
  cases Option.some.inj (hc1.symm.trans hfound)
  cases Option.some.inj (hkX.symm.trans hk)
  have hsel0 : selectMethod e.platform s.vm P1.m.cls T.fill0 = .method T.fill0 := by
    obtain ⟨c2, r2, m2, q1, q2, q3, q4, -⟩ := Cond.selects_spec (a' (.selects cls Bundle.tFill0 Bundle.tFill0) (by simp [zx_tail]))
    cases Option.some.inj (q1.symm.trans hfound)
    cases Option.some.inj (q2.symm.trans (State.methodFound?_of_named Y.fill0 (by decide)))
    cases Option.some.inj (q3.symm.trans Y.fill0)
    rw [Launch.admits_selectMethod X.admits]; exact q4
  have hselF : selectMethod e.platform s.vm P1.m.cls T.fill = .method T.fill := by
    obtain ⟨c2, r2, m2, q1, q2, q3, q4, -⟩ := Cond.selects_spec (a' (.selects cls Bundle.tFill Bundle.tFill) (by simp [zx_tail]))
    cases Option.some.inj (q1.symm.trans hfound)
    cases Option.some.inj (q2.symm.trans (State.methodFound?_of_named Y.fill (by decide)))
    cases Option.some.inj (q3.symm.trans Y.fill)
    rw [Launch.admits_selectMethod X.admits]; exact q4
  obtain ⟨cellS0, hcS0, hiss⟩ := Y.statics
  obtain ⟨u0, hu0⟩ := Cond.staticRefV Y.unassigned L.unassignedStatic L.statics hcS0 hiss (a' (.isRef (.static Bundle.tN "UNASSIGNED_STACK" Bundle.steD)) (by simp [zx_tail]))
  obtain ⟨sen, hsen⟩ := Cond.staticRefV Y.sentinel L.sentinelStatic L.statics hcS0 hiss (a' (.isRef (.static Bundle.tN "SUPPRESSED_SENTINEL" Bundle.listD)) (by simp [zx_tail]))
  obtain ⟨ci, ib, fB, hkb, hgb, hab, hsB, -, hnB, htB, hffB⟩ := Cond.ownField (t := .object "java/lang/Object") Y.found L.cls (by decide +kernel) (a' (.fieldLink Bundle.tN 198 Bundle.tN "backtrace" "Ljava/lang/Object;") (by simp [zx_tail])) (a' (.lays Bundle.tN Bundle.tN "backtrace" "Ljava/lang/Object;") (by simp [zx_tail])) e.platform hpl
  obtain ⟨cellS, hcS', heS, -, hkeep⟩ := X.same.2.2.2.2.2 T.aS cellS0 hcS0
  have hcellS : W.heap[T.aS]? = some cellS := hcS'
  have hout' : ∀ i, (⟨T.aS, i⟩ : Loc) ∉ locs := fun i hmem => by
    have := hlocs _ hmem cellS0 hcS0
    rw [hiss] at this; cases this
  have hknownS : cellS.vm ≠ .unknown := by
    rw [heS]; intro hu
    rw [show cellS0.vm = .unknown from hu] at hiss
    cases hiss
  have hneS : T.aS ≠ a := Nat.ne_of_lt (Nat.lt_of_lt_of_le (Array.getElem?_eq_some_iff.mp hcS0).1 hnew)
  obtain ⟨iM, hffM⟩ := Y.msg
  obtain ⟨tyC, dC, hdC, hdnC⟩ := Cond.laysAt hfound hk Y.cause (a' (.lays cls Bundle.tN "cause" "Ljava/lang/Throwable;") (by simp [zx_tail]))
  obtain ⟨tyS, dS, hdS, hdnS⟩ := Cond.laysAt hfound hk Y.stack (a' (.lays cls Bundle.tN "stackTrace" Bundle.steD) (by simp [zx_tail]))
  obtain ⟨tyP, dP, hdP, hdnP⟩ := Cond.laysAt hfound hk Y.supp (a' (.lays cls Bundle.tN "suppressedExceptions" Bundle.listD) (by simp [zx_tail]))
  obtain ⟨tyM, dM, hdM, hdnM⟩ := Cond.laysAt hfound hk hffM (a' (.lays cls Bundle.tN "detailMessage" "Ljava/lang/String;") (by simp [zx_tail]))
  obtain ⟨tyB, dB, hdB, hdnB⟩ := Cond.laysAt hfound hk hffB (a' (.lays cls Bundle.tN "backtrace" "Ljava/lang/Object;") (by simp [zx_tail]))
  have bC := Cond.laysApart hdB hdC hdnB hdnC (by rw [hnB, Y.causeName]; decide)
  have bS := Cond.laysApart hdB hdS hdnB hdnS (by rw [hnB, Y.stackName]; decide)
  have bP := Cond.laysApart hdB hdP hdnB hdnP (by rw [hnB, Y.suppName]; decide)
  have hskip : SkipFacts T e.platform s (fun u => u) u0 ((preparedCellV T.toThrowableT (freshCell P1.m.cls kX) a u0 sen).withEntry W.cur) :=
    ⟨{ ci198 := ci, i198 := ib, fBack := fB }, ⟨hkb, hgb, hab, hsB⟩, by
      have := fresh_default (c := P1.m.cls) tyB
      rw [htB] at this
      simpa [preparedCellV, Cell.setSlot, Cell.withEntry, Array.getElem?_setIfInBounds, bC, bS, bP, bC.symm, bS.symm, bP.symm, defaultValue] using this, fun _ _ => rfl⟩
  obtain ⟨tm, methC, cdC, kC, v1, hnC, -, -, -, -, -, -, -, hW1, st1⟩ := Steps.initColdS (tb := p.tables) (e := e) (below := below) (s := s) (U := W) X.here hexec X.warmed hpl hown (t := Bundle.initS cls) rfl rfl (Bundle.fit_spec hcls).2
    (a' (.methodLink own ic (Bundle.initS cls)) (by simp [zx_tail])) (hP (.instanceMethod (Bundle.initS cls)) (by simp [Bundle.passSAtoms])) (bytes := bs) (maxL := 2) (hP (.code (Bundle.initS cls) bs 2 none) (by simp [Bundle.passSAtoms]))
    (f := g) hg (a := a) (msg := msg) (rest := .ref a :: rest) hstack hd6
  cases Option.some.inj (hnC.symm.trans hP1m)
  have X1 := X.noted hW1
  obtain ⟨v2, X2, st2⟩ := X1.ctorMessageOffV hexec (g := { g with stack := .ref a :: rest }) hg hsize T L Z LZ M LM (P1 :: P2 :: Ps)
    (fun P hP9 => by
      rcases List.mem_cons.mp hP9 with r | hP9
      · subst r; exact L1
      · rcases List.mem_cons.mp hP9 with r | hP9
        · subst r; exact L2
        · exact hL P hP9) ⟨hsup, hlink2, hlink⟩ (u0 := u0) (sen := sen) (self := a) hmsg (cell := freshCell P1.m.cls kX) (cellS := cellS)
    hcell (fun _ => by simp) (by simp) rfl rfl hsel0 hselF hcellS hneS hknownS (by rw [hkeep _ (hout' _)]; exact hu0) (by rw [hkeep _ (hout' _)]; exact hsen)
    (Takes.of_laid hk hord tyC (by rw [Y.causeType]; rfl)) (Takes.of_laid hk hord tyS (by rw [Y.stackType]; exact fits_refV_array _ u0)) (Takes.of_laid hk hord tyP (by rw [Y.suppType]; exact fits_refV_object _ sen))
    (Takes.of_laid hk hord tyM (by rw [Y.msgType]; exact fits_refV_object _ ⟨msg, hmsg⟩)) Y.objLocals hskip htr [] hd6
    (by simp only [List.length_cons, hlen]; omega) (by simp only [List.length_cons, hlen]; exact hRl)
  obtain ⟨hwalk, hrun, hended, hWU, hsame⟩ := X2.athrowLeaves hexec (g := { g with stack := .ref a :: rest, pc := g.pc + 3 }) hg hlocked hentered hout (a := a) (rest := rest) rfl hd9
  have hlt : a < ((W.setVm v1).setVm v2).heap.size := (Array.getElem?_eq_some_iff.mp hcell).1
  have hU := heapAt_setCell_self (s := (W.setVm v1).setVm v2) (plainBareV T.toThrowableT (freshCell P1.m.cls kX) a u0 sen msg) hlt
  refine ⟨_, st1 _ (fun acts => ?_), hrun, hended, hWU, hsame.weaken (fun y hy hlt' => ?_) (Nat.le_refl _) (Nat.le_refl _), _, hU, hfound, rfl⟩
  · rw [doInvoke_state]
    exact st2 _ hwalk
  · rcases List.mem_append.mp hy with q | q
    · exact q
    · exfalso
      have hb : y.base = a := by
        simp only [List.mem_cons, List.not_mem_nil, or_false] at q
        rcases q with r | r | r | r | r <;> rw [r]
      rw [hb] at hlt'
      exact Nat.not_lt.mpr hnew hlt'
end ZXC
def zx_at (own : String) (ic : Nat) (X Y : String) (ix : Nat) (bs : ByteArray) (names : List String) : List Cond := (zx_own own ic X Y ix bs names).filter vx_no
section ZXE
variable {p : Program} {l : Launch} {e : Env} {R : Room} {s : State} {m : MethodId} {args : Array Value} {below : List Frame} {meth : Method} {c : Code} {H : Heap} {locs : List Loc} {cells slots : Nat} {Q : State → Prop}
variable {mc ms : Nat} {free : Addr → Prop} {A0 A1 : Nat → Prop} {H0 : Heap} {a : Array Value} {ls : Array Slot} {st0 rest : List Value}
variable {Qc : Array Value → State → Outcome → State → Prop} {XC : String → State → State → Prop}
theorem zx_throwS {cc : ByteArray} {pc : Nat} (hexec : p.tables.exec = Jvm.exec) (hb : c.code = cc) (hl : l.stackTraces = false) {own cls text : String} {Y0 : String} {ix : Nat} {bs : ByteArray} {names : List String} {ik is ic mc ms sa : Nat} {A : Nat → Prop}
    (hown : s.vm.findClass own = some m.cls) (hcls : Bundle.fit cls = true) (hY0 : Bundle.fit Y0 = true) (hnames : ∀ n ∈ names, Bundle.fit n = true) (b0 : decode bs 0 = .ok (.aload_n 0, 1)) (b1 : decode bs 1 = .ok (.aload_n 1, 1)) (b2 : decode bs 2 = .ok (.invokespecial ix, 3)) (b5 : decode bs 5 = .ok (.return_, 1))
    (hk : (Cond.classLink own ik cls).before args s = true) (hini : (Cond.initialized cls).before args s = true) (hstr : vk_R own is text sa s) (hat : ∀ w ∈ zx_at own ic cls Y0 ix bs names, w.before args s = true)
    (hgood : ∀ w ∈ Cond.classLink own ik cls :: Cond.initialized cls :: zx_at own ic cls Y0 ix bs names, vx_ot w = true)
    (hU : vx_Zq Bundle.tN "UNASSIGNED_STACK" Bundle.steD A s s.heap) (hN : vx_Zq Bundle.tN "SUPPRESSED_SENTINEL" Bundle.listD A s s.heap) (hS : va_S A s.heap H locs) (hsize : ls.size = c.maxLocals)
    (d0 : decode cc pc = .ok (.new ik, 3)) (d3 : decode cc (pc + 3) = .ok (.dup, 1)) (d4 : decode cc (pc + 4) = .ok (.ldc is, 2)) (d6 : decode cc (pc + 6) = .ok (.invokespecial ic, 3)) (d9 : decode cc (pc + 9) = .ok (.athrow, 1))
    (hout : ∀ x ∈ c.exceptionTable.toList, covers x (pc + 9) = false)
    (hRframes : names.length + 4 < R.frames) (hRlocals : (rest.map fun v => v.category).sum + (13 * (names.length + 2) + 43) ≤ R.locals) (hRcells : cells + 1 ≤ R.cells) (hRslots : slots + 6 ≤ R.slots) (hlocks : meth.locks = false)
    (hx : ∀ t : State, s.vm.Alike t.vm → H.size ≤ t.heap.size → (∀ q : Nat, q < H.size → t.heap[q]? = H[q]?) → XC cls s t)
    (hf : ∀ z ∈ locs, free z.base) (hc : cells + 1 ≤ mc) (hs : slots + 6 ≤ ms) :
    W p l e R s m args below meth c H locs cells slots (vx_MQ below Qc XC args s mc ms free) (F0 m pc ls rest) := by
  intro T hT X
  have htr : e.platform.stackTraces = false := (show e.platform.stackTraces = l.stackTraces by rw [X.admits.platform]).trans hl
  have Y := vx_rebase X (R' := { frames := R.frames, locals := R.locals, cells := 1, slots := 6 }) (Nat.le_refl _) (Nat.le_refl _) hRcells hRslots
  obtain ⟨s', hA⟩ : ∃ z, z = (T.setVm s.vm).setFrames (.invoking m args :: below) := ⟨_, rfl⟩
  rw [← hA] at Y
  have hvm : s'.vm = s.vm := by rw [hA]; rfl
  have hhp : s'.heap = H := by rw [hA]; exact hT
  have hW0 : s.WarmedH s'.vm := by rw [hvm]; exact State.WarmedH.refl s
  have hat' : ∀ w ∈ zx_at own ic cls Y0 ix bs names, w.before args s' = true := fun w hw => vx_ot_at hW0 hvm.symm (hgood w (List.mem_cons_of_mem _ (List.mem_cons_of_mem _ hw))) (hat w hw)
  have hk' : (Cond.classLink own ik cls).before args s' = true := vx_ot_at hW0 hvm.symm (hgood _ List.mem_cons_self) hk
  have hini' : (Cond.initialized cls).before args s' = true := vx_ot_at hW0 hvm.symm (hgood _ (List.mem_cons_of_mem _ List.mem_cons_self)) hini
  have hU' : vx_Zq Bundle.tN "UNASSIGNED_STACK" Bundle.steD A s' s'.heap := by rw [hhp]; exact vx_Zq.moved hW0.alike (hU.kept hS.2.1)
  have hN' : vx_Zq Bundle.tN "SUPPRESSED_SENTINEL" Bundle.listD A s' s'.heap := by rw [hhp]; exact vx_Zq.moved hW0.alike (hN.kept hS.2.1)
  have h : ∀ w ∈ zx_own own ic cls Y0 ix bs names, w.before args s' = true := vx_own hat' (vx_isRefq hU'.1) (vx_isRefq hN'.1) hU'.2.word hN'.2.word
  have hown' : s'.vm.findClass own = some m.cls := by rw [hvm]; exact hown
  have hins : (Cond.instantiable cls 6).before args s' = true := h _ (by simp [zx_own, zx_tail])
  obtain ⟨vm₁, cX, kX, hfX, hkX, -, -, X₁, st1⟩ := Y.newCold hexec (own := own) (C := cls) (index := ik) (n := 6) hown' hk' hins hini'
    (g := F0 m pc ls rest) rfl (by rw [hb]; exact d0) (Nat.le_refl _) (Nat.le_refl _)
  generalize hT1 : (T.setVm vm₁).pushCell { cls := cX, slots := kX.instanceTypes.map defaultValue, vm := .none } = T1 at X₁ st1
  have hcat : (Value.ref T.heap.size).category = 1 := rfl
  have hcellA : T1.heap[T.heap.size]? = some (freshCell cX kX) := by rw [← hT1]; exact State.heap_pushCell_size _ _
  have d3' : decode c.code (pc + 3) = .ok (.dup, 1) := by rw [hb]; exact d3
  have d4' : decode c.code (pc + 4) = .ok (.ldc is, 2) := by rw [hb]; exact d4
  have hstr' : vk_R own is text sa s' := vk_R.warm hW0 hstr
  obtain ⟨U, hsteps, hrun, hend, hW, hsame, ce, hce, hO, hOv⟩ := zx_ctor X₁ hexec htr (own := own) (cls := cls) (Y0 := Y0) (names := names) (ic := ic) (ix := ix) (bs := bs) hown' hcls hY0 hnames b0 b1 b2 b5 h (fun x hx => nomatch hx) hfX hkX hcellA (by rw [hhp, hT]; exact Nat.le_refl _) (msg := .ref sa) rfl
    (g := { method := m, pc := pc + 6, locals := ls, stack := .ref sa :: .ref T.heap.size :: .ref T.heap.size :: rest, locked := none }) rfl hsize rfl rfl (rest := rest) rfl
    (by rw [hb]; exact d6) (by rw [hb]; exact d9) hout hRframes (by simp only [List.map_cons, List.sum_cons, hcat]; omega) hlocks
  obtain ⟨f1, f2⟩ := vx_frame hsame
  rw [hhp] at f1 f2
  have hWs : s.WarmedH U.vm := State.WarmedH.trans hW0 hW
  have hcl : s.vm.findClass cls = some ce.cls := by
    have h9 := hO
    rw [hvm] at h9
    exact h9
  have hall : s.sameButNew ({ U with vm := s.vm } : State) locs mc ms := by
    subst hA
    obtain ⟨e1, e2⟩ := hsame
    rw [State.setFrames_setFrames] at e1
    have h2 : (T.setVm s.vm).sameButNew ({ U with vm := s.vm } : State) [] (0 + 1) (0 + 6) := ⟨e1, e2⟩
    have h3 := X.same.trans h2
    rw [List.append_nil] at h3
    exact h3.mono hc hs
  refine ⟨U, ?_, .threw T.heap.size, hrun, hend, Or.inr ⟨T.heap.size, rfl, cls, ce, locs, hx U hWs.alike f1 (fun q hq => f2 q hq (fun z hz => nomatch hz)), hce, hOv, hcl, hWs, hall, hf⟩⟩
  refine st1 _ ?_
  show Steps p.tables e below (T1.setTop { method := m, pc := pc + 3, locals := ls, stack := .ref T.heap.size :: rest, locked := none }) _
  jvm_step X₁.here [X₁.here.top, hexec, d3', Value.category]
  exact X₁.ldcString hexec (own := own) (text := text) (index := is) (a := sa) hown' hstr'.1 hstr'.2
    (g := { method := m, pc := pc + 4, locals := ls, stack := .ref T.heap.size :: .ref T.heap.size :: rest, locked := none }) rfl d4' _ hsteps
theorem zx_throwSW {cc : ByteArray} {pc : Nat} (hexec : p.tables.exec = Jvm.exec) (hb : c.code = cc) (hl : l.stackTraces = false) {own cls text : String} {Y0 : String} {ix : Nat} {bs : ByteArray} {names : List String} {ik is ic mc ms sa : Nat} {A : Nat → Prop}
    (hown : s.vm.findClass own = some m.cls) (hcls : Bundle.fit cls = true) (hY0 : Bundle.fit Y0 = true) (hnames : ∀ n ∈ names, Bundle.fit n = true) (b0 : decode bs 0 = .ok (.aload_n 0, 1)) (b1 : decode bs 1 = .ok (.aload_n 1, 1)) (b2 : decode bs 2 = .ok (.invokespecial ix, 3)) (b5 : decode bs 5 = .ok (.return_, 1))
    (hk : (Cond.classLink own ik cls).before args s = true) (hini : (Cond.initialized cls).before args s = true) (hstr : vk_R own is text sa s) (hat : ∀ w ∈ zx_at own ic cls Y0 ix bs names, w.before args s = true)
    (hgood : ∀ w ∈ Cond.classLink own ik cls :: Cond.initialized cls :: zx_at own ic cls Y0 ix bs names, vx_ot w = true)
    (hU : vx_Zq Bundle.tN "UNASSIGNED_STACK" Bundle.steD A s s.heap) (hN : vx_Zq Bundle.tN "SUPPRESSED_SENTINEL" Bundle.listD A s s.heap) (hS : va_S A s.heap H locs) (hsize : ls.size = c.maxLocals)
    (d0 : decode cc pc = .ok (.new ik, 3)) (d3 : decode cc (pc + 3) = .ok (.dup, 1)) (d4 : decode cc (pc + 4) = .ok (.ldc_w is, 3)) (d7 : decode cc (pc + 7) = .ok (.invokespecial ic, 3)) (d10 : decode cc (pc + 10) = .ok (.athrow, 1))
    (hout : ∀ x ∈ c.exceptionTable.toList, covers x (pc + 10) = false)
    (hRframes : names.length + 4 < R.frames) (hRlocals : (rest.map fun v => v.category).sum + (13 * (names.length + 2) + 43) ≤ R.locals) (hRcells : cells + 1 ≤ R.cells) (hRslots : slots + 6 ≤ R.slots) (hlocks : meth.locks = false)
    (hx : ∀ t : State, s.vm.Alike t.vm → H.size ≤ t.heap.size → (∀ q : Nat, q < H.size → t.heap[q]? = H[q]?) → XC cls s t)
    (hf : ∀ z ∈ locs, free z.base) (hc : cells + 1 ≤ mc) (hs : slots + 6 ≤ ms) :
    W p l e R s m args below meth c H locs cells slots (vx_MQ below Qc XC args s mc ms free) (F0 m pc ls rest) := by
  intro T hT X
  have htr : e.platform.stackTraces = false := (show e.platform.stackTraces = l.stackTraces by rw [X.admits.platform]).trans hl
  have Y := vx_rebase X (R' := { frames := R.frames, locals := R.locals, cells := 1, slots := 6 }) (Nat.le_refl _) (Nat.le_refl _) hRcells hRslots
  obtain ⟨s', hA⟩ : ∃ z, z = (T.setVm s.vm).setFrames (.invoking m args :: below) := ⟨_, rfl⟩
  rw [← hA] at Y
  have hvm : s'.vm = s.vm := by rw [hA]; rfl
  have hhp : s'.heap = H := by rw [hA]; exact hT
  have hW0 : s.WarmedH s'.vm := by rw [hvm]; exact State.WarmedH.refl s
  have hat' : ∀ w ∈ zx_at own ic cls Y0 ix bs names, w.before args s' = true := fun w hw => vx_ot_at hW0 hvm.symm (hgood w (List.mem_cons_of_mem _ (List.mem_cons_of_mem _ hw))) (hat w hw)
  have hk' : (Cond.classLink own ik cls).before args s' = true := vx_ot_at hW0 hvm.symm (hgood _ List.mem_cons_self) hk
  have hini' : (Cond.initialized cls).before args s' = true := vx_ot_at hW0 hvm.symm (hgood _ (List.mem_cons_of_mem _ List.mem_cons_self)) hini
  have hU' : vx_Zq Bundle.tN "UNASSIGNED_STACK" Bundle.steD A s' s'.heap := by rw [hhp]; exact vx_Zq.moved hW0.alike (hU.kept hS.2.1)
  have hN' : vx_Zq Bundle.tN "SUPPRESSED_SENTINEL" Bundle.listD A s' s'.heap := by rw [hhp]; exact vx_Zq.moved hW0.alike (hN.kept hS.2.1)
  have h : ∀ w ∈ zx_own own ic cls Y0 ix bs names, w.before args s' = true := vx_own hat' (vx_isRefq hU'.1) (vx_isRefq hN'.1) hU'.2.word hN'.2.word
  have hown' : s'.vm.findClass own = some m.cls := by rw [hvm]; exact hown
  have hins : (Cond.instantiable cls 6).before args s' = true := h _ (by simp [zx_own, zx_tail])
  obtain ⟨vm₁, cX, kX, hfX, hkX, -, -, X₁, st1⟩ := Y.newCold hexec (own := own) (C := cls) (index := ik) (n := 6) hown' hk' hins hini'
    (g := F0 m pc ls rest) rfl (by rw [hb]; exact d0) (Nat.le_refl _) (Nat.le_refl _)
  generalize hT1 : (T.setVm vm₁).pushCell { cls := cX, slots := kX.instanceTypes.map defaultValue, vm := .none } = T1 at X₁ st1
  have hcat : (Value.ref T.heap.size).category = 1 := rfl
  have hcellA : T1.heap[T.heap.size]? = some (freshCell cX kX) := by rw [← hT1]; exact State.heap_pushCell_size _ _
  have d3' : decode c.code (pc + 3) = .ok (.dup, 1) := by rw [hb]; exact d3
  have d4' : decode c.code (pc + 4) = .ok (.ldc_w is, 3) := by rw [hb]; exact d4
  have hstr' : vk_R own is text sa s' := vk_R.warm hW0 hstr
  obtain ⟨U, hsteps, hrun, hend, hW, hsame, ce, hce, hO, hOv⟩ := zx_ctor X₁ hexec htr (own := own) (cls := cls) (Y0 := Y0) (names := names) (ic := ic) (ix := ix) (bs := bs) hown' hcls hY0 hnames b0 b1 b2 b5 h (fun x hx => nomatch hx) hfX hkX hcellA (by rw [hhp, hT]; exact Nat.le_refl _) (msg := .ref sa) rfl
    (g := { method := m, pc := pc + 7, locals := ls, stack := .ref sa :: .ref T.heap.size :: .ref T.heap.size :: rest, locked := none }) rfl hsize rfl rfl (rest := rest) rfl
    (by rw [hb]; exact d7) (by rw [hb]; exact d10) hout hRframes (by simp only [List.map_cons, List.sum_cons, hcat]; omega) hlocks
  obtain ⟨f1, f2⟩ := vx_frame hsame
  rw [hhp] at f1 f2
  have hWs : s.WarmedH U.vm := State.WarmedH.trans hW0 hW
  have hcl : s.vm.findClass cls = some ce.cls := by
    have h9 := hO
    rw [hvm] at h9
    exact h9
  have hall : s.sameButNew ({ U with vm := s.vm } : State) locs mc ms := by
    subst hA
    obtain ⟨e1, e2⟩ := hsame
    rw [State.setFrames_setFrames] at e1
    have h2 : (T.setVm s.vm).sameButNew ({ U with vm := s.vm } : State) [] (0 + 1) (0 + 6) := ⟨e1, e2⟩
    have h3 := X.same.trans h2
    rw [List.append_nil] at h3
    exact h3.mono hc hs
  refine ⟨U, ?_, .threw T.heap.size, hrun, hend, Or.inr ⟨T.heap.size, rfl, cls, ce, locs, hx U hWs.alike f1 (fun q hq => f2 q hq (fun z hz => nomatch hz)), hce, hOv, hcl, hWs, hall, hf⟩⟩
  refine st1 _ ?_
  show Steps p.tables e below (T1.setTop { method := m, pc := pc + 3, locals := ls, stack := .ref T.heap.size :: rest, locked := none }) _
  jvm_step X₁.here [X₁.here.top, hexec, d3', Value.category]
  exact X₁.ldcStringW hexec (own := own) (text := text) (index := is) (a := sa) hown' hstr'.1 hstr'.2
    (g := { method := m, pc := pc + 4, locals := ls, stack := .ref T.heap.size :: .ref T.heap.size :: rest, locked := none }) rfl d4' _ hsteps
end ZXE
def zx_bs : ByteArray := ⟨#[0x2a, 0x2b, 0xb7, 0x00, 0x0d, 0xb1]⟩
end ZJN3
section ZJN4
/-- PadConsole$Memory.HEADER_SIGNS -/
noncomputable def zt0 (j : Nat) : Int32 := ([84, 77, 82, 32, 83, 69, 71, 65] : List Int32).getD j 0
/-- PadConsole$Memory.HEADER_PLACES -/
noncomputable def zt1 (j : Nat) : Int32 := ([32752, 16368, 8176] : List Int32).getD j 0
/-- PadConsole$Processor.CONDITIONS -/
noncomputable def zt2 (j : Nat) : Int32 := ([64, 1, 4, 128] : List Int32).getD j 0
/-- PadConsole$Painter.FIXED_COLOURS -/
noncomputable def zt3 (j : Nat) : Int32 := ([0, 0, 8, 12, 16, 48, 1, 60, 2, 3, 5, 15, 4, 51, 21, 63] : List Int32).getD j 0
/-- PadConsole$Sound.LOUD -/
noncomputable def zt4 (j : Nat) : Int32 := ([8191, 6506, 5168, 4105, 3261, 2590, 2057, 1634, 1298, 1031, 819, 650, 517, 410, 326, 0] : List Int32).getD j 0
/-- PadConsole$Waves.PATCHES -/
noncomputable def zt5 (j : Nat) : Int64 := ([8169844286657396759, 1387418806983795475, 1369543991049326883, 3558140606652117031, 3612201391012315176, 3540416471562780696, 2405235594084028423, 2531354032206905351, 7016919408688042007, 4711058885160956167, 1369519874944274436, 1711688950037881362, 7012117838701076546, 72432543769887490, 7008033145201377299, 72365525475813997, 72339072384280392, 360569449338263893] : List Int64).getD j 0
/-- PadConsole$Waves.TICKS -/
noncomputable def zt6 (j : Nat) : Int32 := ([170, 186, 238, 254] : List Int32).getD j 0
/-- PadConsole$Waves.MULTIPLES -/
noncomputable def zt7 (j : Nat) : Int32 := ([1, 2, 4, 6, 8, 10, 12, 14, 16, 18, 20, 20, 24, 24, 30, 30] : List Int32).getD j 0
/-- PadConsole$Waves.SCALES -/
noncomputable def zt8 (j : Nat) : Int32 := ([0, 48, 64, 74, 80, 86, 90, 94, 96, 100, 102, 104, 106, 108, 110, 112] : List Int32).getD j 0
/-- PadConsole$Waves.LOGS -/
noncomputable def zt9 (j : Nat) : Int32 := ([2137, 1731, 1543, 1419, 1326, 1252, 1190, 1137, 1091, 1050, 1013, 979, 949, 920, 894, 869, 846, 825, 804, 785, 767, 749, 732, 717, 701, 687, 672, 659, 646, 633, 621, 609, 598, 587, 576, 566, 556, 546, 536, 527, 518, 509, 501, 492, 484, 476, 468, 461, 453, 446, 439, 432, 425, 418, 411, 405, 399, 392, 386, 380, 375, 369, 363, 358, 352, 347, 341, 336, 331, 326, 321, 316, 311, 307, 302, 297, 293, 289, 284, 280, 276, 271, 267, 263, 259, 255, 251, 248, 244, 240, 236, 233, 229, 226, 222, 219, 215, 212, 209, 205, 202, 199, 196, 193, 190, 187, 184, 181, 178, 175, 172, 169, 167, 164, 161, 159, 156, 153, 151, 148, 146, 143, 141, 138, 136, 134, 131, 129, 127, 125, 122, 120, 118, 116, 114, 112, 110, 108, 106, 104, 102, 100, 98, 96, 94, 92, 91, 89, 87, 85, 83, 82, 80, 78, 77, 75, 74, 72, 70, 69, 67, 66, 64, 63, 62, 60, 59, 57, 56, 55, 53, 52, 51, 49, 48, 47, 46, 45, 43, 42, 41, 40, 39, 38, 37, 36, 35, 34, 33, 32, 31, 30, 29, 28, 27, 26, 25, 24, 23, 23, 22, 21, 20, 20, 19, 18, 17, 17, 16, 15, 15, 14, 13, 13, 12, 12, 11, 10, 10, 9, 9, 8, 8, 7, 7, 7, 6, 6, 5, 5, 5, 4, 4, 4, 3, 3, 3, 2, 2, 2, 2, 1, 1, 1, 1, 1, 1, 1, 0, 0, 0, 0, 0, 0, 0, 0] : List Int32).getD j 0
/-- PadConsole$Waves.POWERS -/
noncomputable def zt10 (j : Nat) : Int32 := ([0, 3, 6, 8, 11, 14, 17, 20, 22, 25, 28, 31, 34, 37, 40, 42, 45, 48, 51, 54, 57, 60, 63, 66, 69, 72, 75, 78, 81, 84, 87, 90, 93, 96, 99, 102, 105, 108, 111, 114, 117, 120, 123, 126, 130, 133, 136, 139, 142, 145, 148, 152, 155, 158, 161, 164, 168, 171, 174, 177, 181, 184, 187, 190, 194, 197, 200, 204, 207, 210, 214, 217, 220, 224, 227, 231, 234, 237, 241, 244, 248, 251, 255, 258, 262, 265, 268, 272, 276, 279, 283, 286, 290, 293, 297, 300, 304, 308, 311, 315, 318, 322, 326, 329, 333, 337, 340, 344, 348, 352, 355, 359, 363, 367, 370, 374, 378, 382, 385, 389, 393, 397, 401, 405, 409, 412, 416, 420, 424, 428, 432, 436, 440, 444, 448, 452, 456, 460, 464, 468, 472, 476, 480, 484, 488, 492, 496, 501, 505, 509, 513, 517, 521, 526, 530, 534, 538, 542, 547, 551, 555, 560, 564, 568, 572, 577, 581, 585, 590, 594, 599, 603, 607, 612, 616, 621, 625, 630, 634, 639, 643, 648, 652, 657, 661, 666, 670, 675, 680, 684, 689, 693, 698, 703, 708, 712, 717, 722, 726, 731, 736, 741, 745, 750, 755, 760, 765, 770, 774, 779, 784, 789, 794, 799, 804, 809, 814, 819, 824, 829, 834, 839, 844, 849, 854, 859, 864, 869, 874, 880, 885, 890, 895, 900, 906, 911, 916, 921, 927, 932, 937, 942, 948, 953, 959, 964, 969, 975, 980, 986, 991, 996, 1002, 1007, 1013, 1018] : List Int32).getD j 0
/-- PadConsoleModel.SINE -/
noncomputable def zt11 (j : Nat) : Int32 := ([2137, 1731, 1543, 1419, 1326, 1252, 1190, 1137, 1091, 1050, 1013, 979, 949, 920, 894, 869, 846, 825, 804, 785, 767, 749, 732, 717, 701, 687, 672, 659, 646, 633, 621, 609, 598, 587, 576, 566, 556, 546, 536, 527, 518, 509, 501, 492, 484, 476, 468, 461, 453, 446, 439, 432, 425, 418, 411, 405, 399, 392, 386, 380, 375, 369, 363, 358, 352, 347, 341, 336, 331, 326, 321, 316, 311, 307, 302, 297, 293, 289, 284, 280, 276, 271, 267, 263, 259, 255, 251, 248, 244, 240, 236, 233, 229, 226, 222, 219, 215, 212, 209, 205, 202, 199, 196, 193, 190, 187, 184, 181, 178, 175, 172, 169, 167, 164, 161, 159, 156, 153, 151, 148, 146, 143, 141, 138, 136, 134, 131, 129, 127, 125, 122, 120, 118, 116, 114, 112, 110, 108, 106, 104, 102, 100, 98, 96, 94, 92, 91, 89, 87, 85, 83, 82, 80, 78, 77, 75, 74, 72, 70, 69, 67, 66, 64, 63, 62, 60, 59, 57, 56, 55, 53, 52, 51, 49, 48, 47, 46, 45, 43, 42, 41, 40, 39, 38, 37, 36, 35, 34, 33, 32, 31, 30, 29, 28, 27, 26, 25, 24, 23, 23, 22, 21, 20, 20, 19, 18, 17, 17, 16, 15, 15, 14, 13, 13, 12, 12, 11, 10, 10, 9, 9, 8, 8, 7, 7, 7, 6, 6, 5, 5, 5, 4, 4, 4, 3, 3, 3, 2, 2, 2, 2, 1, 1, 1, 1, 1, 1, 1, 0, 0, 0, 0, 0, 0, 0, 0] : List Int32).getD j 0
/-- PadConsoleModel.POWER -/
noncomputable def zt12 (j : Nat) : Int32 := ([0, 3, 6, 8, 11, 14, 17, 20, 22, 25, 28, 31, 34, 37, 40, 42, 45, 48, 51, 54, 57, 60, 63, 66, 69, 72, 75, 78, 81, 84, 87, 90, 93, 96, 99, 102, 105, 108, 111, 114, 117, 120, 123, 126, 130, 133, 136, 139, 142, 145, 148, 152, 155, 158, 161, 164, 168, 171, 174, 177, 181, 184, 187, 190, 194, 197, 200, 204, 207, 210, 214, 217, 220, 224, 227, 231, 234, 237, 241, 244, 248, 251, 255, 258, 262, 265, 268, 272, 276, 279, 283, 286, 290, 293, 297, 300, 304, 308, 311, 315, 318, 322, 326, 329, 333, 337, 340, 344, 348, 352, 355, 359, 363, 367, 370, 374, 378, 382, 385, 389, 393, 397, 401, 405, 409, 412, 416, 420, 424, 428, 432, 436, 440, 444, 448, 452, 456, 460, 464, 468, 472, 476, 480, 484, 488, 492, 496, 501, 505, 509, 513, 517, 521, 526, 530, 534, 538, 542, 547, 551, 555, 560, 564, 568, 572, 577, 581, 585, 590, 594, 599, 603, 607, 612, 616, 621, 625, 630, 634, 639, 643, 648, 652, 657, 661, 666, 670, 675, 680, 684, 689, 693, 698, 703, 708, 712, 717, 722, 726, 731, 736, 741, 745, 750, 755, 760, 765, 770, 774, 779, 784, 789, 794, 799, 804, 809, 814, 819, 824, 829, 834, 839, 844, 849, 854, 859, 864, 869, 874, 880, 885, 890, 895, 900, 906, 911, 916, 921, 927, 932, 937, 942, 948, 953, 959, 964, 969, 975, 980, 986, 991, 996, 1002, 1007, 1013, 1018] : List Int32).getD j 0
noncomputable def zNS : Nat := 13
noncomputable def zsC : Nat → String := fun k => match k with
  | 0 => "PadConsole$Memory"
  | 1 => "PadConsole$Memory"
  | 2 => "PadConsole$Processor"
  | 3 => "PadConsole$Painter"
  | 4 => "PadConsole$Sound"
  | 5 => "PadConsole$Waves"
  | 6 => "PadConsole$Waves"
  | 7 => "PadConsole$Waves"
  | 8 => "PadConsole$Waves"
  | 9 => "PadConsole$Waves"
  | 10 => "PadConsole$Waves"
  | 11 => "PadConsoleModel"
  | _ => "PadConsoleModel"
noncomputable def zsN : Nat → String := fun k => match k with
  | 0 => "HEADER_SIGNS"
  | 1 => "HEADER_PLACES"
  | 2 => "CONDITIONS"
  | 3 => "FIXED_COLOURS"
  | 4 => "LOUD"
  | 5 => "PATCHES"
  | 6 => "TICKS"
  | 7 => "MULTIPLES"
  | 8 => "SCALES"
  | 9 => "LOGS"
  | 10 => "POWERS"
  | 11 => "SINE"
  | _ => "POWER"
noncomputable def zsD : Nat → String := fun k => match k with
  | 0 => "[I"
  | 1 => "[I"
  | 2 => "[I"
  | 3 => "[I"
  | 4 => "[I"
  | 5 => "[J"
  | 6 => "[I"
  | 7 => "[I"
  | 8 => "[I"
  | 9 => "[I"
  | 10 => "[I"
  | 11 => "[I"
  | _ => "[I"
noncomputable def zsY : Nat → FieldType := fun k => match k with
  | 0 => .int
  | 1 => .int
  | 2 => .int
  | 3 => .int
  | 4 => .int
  | 5 => .long
  | 6 => .int
  | 7 => .int
  | 8 => .int
  | 9 => .int
  | 10 => .int
  | 11 => .int
  | _ => .int
noncomputable def zsL : Nat → Nat := fun k => match k with
  | 0 => 8
  | 1 => 3
  | 2 => 4
  | 3 => 16
  | 4 => 16
  | 5 => 18
  | 6 => 4
  | 7 => 16
  | 8 => 16
  | 9 => 256
  | 10 => 256
  | 11 => 256
  | _ => 256
noncomputable def zsF : Nat → (Nat → Value) := fun k => match k with
  | 0 => (fun j => .int (zt0 j))
  | 1 => (fun j => .int (zt1 j))
  | 2 => (fun j => .int (zt2 j))
  | 3 => (fun j => .int (zt3 j))
  | 4 => (fun j => .int (zt4 j))
  | 5 => (fun j => .long (zt5 j))
  | 6 => (fun j => .int (zt6 j))
  | 7 => (fun j => .int (zt7 j))
  | 8 => (fun j => .int (zt8 j))
  | 9 => (fun j => .int (zt9 j))
  | 10 => (fun j => .int (zt10 j))
  | 11 => (fun j => .int (zt11 j))
  | _ => (fun j => .int (zt12 j))
noncomputable def zNK : Nat := 179
noncomputable def zkO : Nat → String := fun k => match k with
  | 0 => "PadConsole$Teller"
  | 1 => "PadConsole$Teller"
  | 2 => "PadConsole$Teller"
  | 3 => "PadConsole$Teller"
  | 4 => "PadConsole$Teller"
  | 5 => "PadConsole$Teller"
  | 6 => "PadConsole$Teller"
  | 7 => "PadConsole$Teller"
  | 8 => "PadConsole$Teller"
  | 9 => "PadConsole$Teller"
  | 10 => "PadConsole$Teller"
  | 11 => "PadConsole$Teller"
  | 12 => "PadConsole$Teller"
  | 13 => "PadConsole$Teller"
  | 14 => "PadConsole$Teller"
  | 15 => "PadConsole$Teller"
  | 16 => "PadConsole$Teller"
  | 17 => "PadConsole$Teller"
  | 18 => "PadConsole$Teller"
  | 19 => "PadConsole$Teller"
  | 20 => "PadConsole$Teller"
  | 21 => "PadConsole$Teller"
  | 22 => "PadConsole$Teller"
  | 23 => "PadConsole$Teller"
  | 24 => "PadConsole$Teller"
  | 25 => "PadConsole$Teller"
  | 26 => "PadConsole$Teller"
  | 27 => "PadConsole$Teller"
  | 28 => "PadConsole$Teller"
  | 29 => "PadConsole$Teller"
  | 30 => "PadConsole$Teller"
  | 31 => "PadConsole$Teller"
  | 32 => "PadConsole$Teller"
  | 33 => "PadConsole$Teller"
  | 34 => "PadConsole$Teller"
  | 35 => "PadConsole$Teller"
  | 36 => "PadConsole$Teller"
  | 37 => "PadConsole$Teller"
  | 38 => "PadConsole$Teller"
  | 39 => "PadConsole$Teller"
  | 40 => "PadConsole$Teller"
  | 41 => "PadConsole$Teller"
  | 42 => "PadConsole$Teller"
  | 43 => "PadConsole$Teller"
  | 44 => "PadConsole"
  | 45 => "PadConsole"
  | 46 => "PadConsole"
  | 47 => "PadConsole"
  | 48 => "PadConsole"
  | 49 => "PadConsole"
  | 50 => "PadConsole"
  | 51 => "PadConsole"
  | 52 => "PadConsole"
  | 53 => "PadConsole"
  | 54 => "PadConsole"
  | 55 => "PadConsole"
  | 56 => "PadConsole"
  | 57 => "PadConsole"
  | 58 => "PadConsole"
  | 59 => "PadConsole"
  | 60 => "PadConsole"
  | 61 => "PadConsole"
  | 62 => "PadConsole"
  | 63 => "PadConsole"
  | 64 => "PadConsole"
  | 65 => "PadConsole"
  | 66 => "PadConsole"
  | 67 => "PadConsole"
  | 68 => "PadConsole"
  | 69 => "PadConsole"
  | 70 => "PadConsoleModel"
  | 71 => "PadConsoleModel"
  | 72 => "PadConsoleModel"
  | 73 => "PadConsoleModel"
  | 74 => "PadConsoleModel"
  | 75 => "PadConsoleModel"
  | 76 => "PadConsoleModel"
  | 77 => "PadConsoleModel"
  | 78 => "PadConsoleModel"
  | 79 => "PadConsoleModel"
  | 80 => "PadConsoleModel"
  | 81 => "PadConsoleModel"
  | 82 => "PadConsoleModel"
  | 83 => "PadConsoleModel"
  | 84 => "PadConsoleModel"
  | 85 => "PadConsoleModel"
  | 86 => "PadConsoleModel"
  | 87 => "PadConsoleModel"
  | 88 => "PadConsoleModel"
  | 89 => "PadConsoleModel"
  | 90 => "PadConsoleModel"
  | 91 => "PadConsoleModel"
  | 92 => "PadConsoleModel"
  | 93 => "PadConsoleModel"
  | 94 => "PadConsoleModel"
  | 95 => "PadConsoleModel"
  | 96 => "PadConsoleModel"
  | 97 => "PadConsoleModel"
  | 98 => "PadConsoleModel"
  | 99 => "PadConsoleModel"
  | 100 => "PadConsoleModel"
  | 101 => "PadConsoleModel"
  | 102 => "PadConsoleModel"
  | 103 => "PadConsoleModel"
  | 104 => "PadConsoleModel"
  | 105 => "PadConsoleModel"
  | 106 => "PadConsoleModel"
  | 107 => "PadConsoleModel"
  | 108 => "PadConsoleModel"
  | 109 => "PadConsoleModel"
  | 110 => "PadConsoleModel"
  | 111 => "PadConsoleModel"
  | 112 => "PadConsoleModel"
  | 113 => "PadConsoleModel"
  | 114 => "PadConsoleModel"
  | 115 => "PadConsoleModel"
  | 116 => "PadConsoleModel"
  | 117 => "PadConsoleModel"
  | 118 => "PadConsoleModel"
  | 119 => "PadConsoleModel"
  | 120 => "PadConsoleModel"
  | 121 => "PadConsoleModel"
  | 122 => "PadConsoleModel"
  | 123 => "PadConsoleModel"
  | 124 => "PadConsoleModel"
  | 125 => "PadConsoleModel"
  | 126 => "PadConsoleModel"
  | 127 => "PadConsoleModel"
  | 128 => "PadConsoleModel"
  | 129 => "PadConsoleModel"
  | 130 => "PadConsoleModel"
  | 131 => "PadConsoleModel"
  | 132 => "PadConsoleModel"
  | 133 => "PadConsoleModel"
  | 134 => "PadConsoleModel"
  | 135 => "PadConsoleModel"
  | 136 => "PadConsoleModel"
  | 137 => "PadConsoleModel"
  | 138 => "PadConsoleModel"
  | 139 => "PadConsoleModel"
  | 140 => "PadConsoleModel"
  | 141 => "PadConsoleModel"
  | 142 => "PadConsoleModel"
  | 143 => "PadConsoleModel"
  | 144 => "PadConsoleModel"
  | 145 => "PadConsoleModel"
  | 146 => "PadConsoleModel"
  | 147 => "PadConsoleModel"
  | 148 => "PadConsoleModel"
  | 149 => "PadConsoleModel"
  | 150 => "PadConsoleModel"
  | 151 => "PadConsoleModel"
  | 152 => "PadConsoleModel"
  | 153 => "PadConsoleModel"
  | 154 => "PadConsoleModel"
  | 155 => "PadConsoleModel"
  | 156 => "PadConsoleModel"
  | 157 => "PadConsoleModel"
  | 158 => "PadConsoleModel"
  | 159 => "PadConsoleModel"
  | 160 => "PadConsoleModel"
  | 161 => "PadConsoleModel"
  | 162 => "PadConsoleModel"
  | 163 => "PadConsoleModel"
  | 164 => "PadConsoleModel"
  | 165 => "PadConsoleModel"
  | 166 => "PadConsoleModel"
  | 167 => "PadConsoleModel"
  | 168 => "PadConsoleModel"
  | 169 => "PadConsoleModel"
  | 170 => "PadConsoleModel"
  | 171 => "PadConsoleModel"
  | 172 => "PadConsoleModel"
  | 173 => "PadConsoleModel"
  | 174 => "PadConsoleModel"
  | 175 => "PadConsoleModel"
  | 176 => "PadConsoleModel"
  | 177 => "PadConsoleModel"
  | _ => "PadConsoleModel"
noncomputable def zkI : Nat → Nat := fun k => match k with
  | 0 => 45
  | 1 => 216
  | 2 => 214
  | 3 => 189
  | 4 => 194
  | 5 => 199
  | 6 => 131
  | 7 => 133
  | 8 => 135
  | 9 => 137
  | 10 => 139
  | 11 => 141
  | 12 => 143
  | 13 => 145
  | 14 => 147
  | 15 => 149
  | 16 => 151
  | 17 => 153
  | 18 => 155
  | 19 => 157
  | 20 => 159
  | 21 => 161
  | 22 => 163
  | 23 => 165
  | 24 => 167
  | 25 => 99
  | 26 => 101
  | 27 => 103
  | 28 => 105
  | 29 => 107
  | 30 => 109
  | 31 => 111
  | 32 => 113
  | 33 => 90
  | 34 => 92
  | 35 => 94
  | 36 => 115
  | 37 => 117
  | 38 => 119
  | 39 => 121
  | 40 => 123
  | 41 => 125
  | 42 => 127
  | 43 => 129
  | 44 => 97
  | 45 => 109
  | 46 => 116
  | 47 => 118
  | 48 => 123
  | 49 => 142
  | 50 => 148
  | 51 => 154
  | 52 => 164
  | 53 => 174
  | 54 => 183
  | 55 => 188
  | 56 => 202
  | 57 => 210
  | 58 => 215
  | 59 => 232
  | 60 => 245
  | 61 => 261
  | 62 => 274
  | 63 => 283
  | 64 => 288
  | 65 => 302
  | 66 => 311
  | 67 => 314
  | 68 => 317
  | 69 => 323
  | 70 => 467
  | 71 => 655
  | 72 => 662
  | 73 => 664
  | 74 => 666
  | 75 => 668
  | 76 => 670
  | 77 => 672
  | 78 => 674
  | 79 => 676
  | 80 => 678
  | 81 => 680
  | 82 => 682
  | 83 => 657
  | 84 => 566
  | 85 => 568
  | 86 => 570
  | 87 => 575
  | 88 => 577
  | 89 => 582
  | 90 => 554
  | 91 => 555
  | 92 => 557
  | 93 => 590
  | 94 => 592
  | 95 => 594
  | 96 => 596
  | 97 => 598
  | 98 => 600
  | 99 => 602
  | 100 => 703
  | 101 => 705
  | 102 => 707
  | 103 => 612
  | 104 => 614
  | 105 => 616
  | 106 => 618
  | 107 => 620
  | 108 => 622
  | 109 => 624
  | 110 => 627
  | 111 => 692
  | 112 => 604
  | 113 => 606
  | 114 => 608
  | 115 => 610
  | 116 => 721
  | 117 => 723
  | 118 => 725
  | 119 => 727
  | 120 => 625
  | 121 => 732
  | 122 => 734
  | 123 => 736
  | 124 => 738
  | 125 => 740
  | 126 => 742
  | 127 => 744
  | 128 => 746
  | 129 => 690
  | 130 => 629
  | 131 => 631
  | 132 => 633
  | 133 => 635
  | 134 => 637
  | 135 => 639
  | 136 => 641
  | 137 => 748
  | 138 => 750
  | 139 => 752
  | 140 => 754
  | 141 => 756
  | 142 => 758
  | 143 => 760
  | 144 => 762
  | 145 => 764
  | 146 => 766
  | 147 => 768
  | 148 => 770
  | 149 => 772
  | 150 => 774
  | 151 => 776
  | 152 => 778
  | 153 => 780
  | 154 => 782
  | 155 => 784
  | 156 => 786
  | 157 => 788
  | 158 => 790
  | 159 => 792
  | 160 => 794
  | 161 => 795
  | 162 => 797
  | 163 => 799
  | 164 => 801
  | 165 => 803
  | 166 => 805
  | 167 => 810
  | 168 => 812
  | 169 => 814
  | 170 => 816
  | 171 => 818
  | 172 => 820
  | 173 => 822
  | 174 => 824
  | 175 => 826
  | 176 => 828
  | 177 => 830
  | _ => 832
noncomputable def zkT : Nat → String := fun k => match k with
  | 0 => "nop"
  | 1 => "0123456789abcdef"
  | 2 => "b;c;d;e;h;l;(hl);a"
  | 3 => "bc;de;hl;sp"
  | 4 => "bc;de;hl;af"
  | 5 => "nz;z;nc;c;po;pe;p;m"
  | 6 => "rlc T;rrc T;rl T;rr T;sla T;sra T;sll T;srl T"
  | 7 => "bit B,T"
  | 8 => "res B,T"
  | 9 => "set B,T"
  | 10 => "ldi;ldd;ldir;lddr"
  | 11 => "cpi;cpd;cpir;cpdr"
  | 12 => "ini;ind;inir;indr"
  | 13 => "outi;outd;otir;otdr"
  | 14 => "in (c)"
  | 15 => "in Y,(c)"
  | 16 => "out (c),0"
  | 17 => "out (c),Y"
  | 18 => "sbc hl,P;adc hl,P"
  | 19 => "ld (W),P;ld P,(W)"
  | 20 => "neg"
  | 21 => "reti"
  | 22 => "retn"
  | 23 => "im 0;im 0;im 1;im 2"
  | 24 => "ld i,a;ld r,a;ld a,i;ld a,r;rrd;rld;nop;nop"
  | 25 => "nop;ex af,af2;djnz E;jr E;jr D,E;jr D,E;jr D,E;jr D,E"
  | 26 => "ld P,W;add J,P"
  | 27 => "ld (bc),a;ld a,(bc);ld (de),a;ld a,(de);ld (W),J;ld J,(W);ld (W),a;ld a,(W)"
  | 28 => "inc P;dec P"
  | 29 => "inc Y"
  | 30 => "dec Y"
  | 31 => "ld Y,N"
  | 32 => "rlca;rrca;rla;rra;daa;cpl;scf;ccf"
  | 33 => "halt"
  | 34 => "ld Y,Z"
  | 35 => "add Z;adc Z;sub Z;sbc Z;and Z;xor Z;or Z;cp Z"
  | 36 => "ret C"
  | 37 => "pop Q;ret;pop Q;exx;pop Q;jp (J);pop Q;ld sp,J"
  | 38 => "jp C,W"
  | 39 => "jp W;;out (N),a;in a,(N);ex (sp),J;ex de,J;di;ei"
  | 40 => "call C,W"
  | 41 => "push Q;call W"
  | 42 => "add N;adc N;sub N;sbc N;and N;xor N;or N;cp N"
  | 43 => "rst V"
  | 44 => "a call feeds 1 to 24 bytes"
  | 45 => "the tape is full"
  | 46 => "the tape can't have that length"
  | 47 => "the tape is empty"
  | 48 => "the tape has no eight bytes there"
  | 49 => "a cartridge has no such number"
  | 50 => "a call makes 1 to 20000 steps"
  | 51 => "a call makes 1 to 3 pictures"
  | 52 => "no such pad or buttons"
  | 53 => "there are the lines 0 and 1"
  | 54 => "plans go on in order, with a pad and its buttons"
  | 55 => "256 plans wait"
  | 56 => "the text has no such sign"
  | 57 => "an address is a word"
  | 58 => "there are 8 other break points"
  | 59 => "nothing is saved"
  | 60 => "there is no such register"
  | 61 => "the battery has no such byte"
  | 62 => "the video chip has no such number"
  | 63 => "the picture has no such dot"
  | 64 => "the picture has no such line"
  | 65 => "no sample waits"
  | 66 => "no mix waits"
  | 67 => "the waves have no such number"
  | 68 => "the sound chip has no such number"
  | 69 => "there is nothing to look at"
  | 70 => "71611e17d078001713411a0dd8f7231313019900f2c4112331610e07a864702732211e06e076002831221605e071001821611d078281100723212d14a272000761611b066465101741610b1885f7710713018311fae4100417c12407f8f8221261500c05c2f5204201015503c995030261418903f1e440130101180fdff86a6d01010000c8d8a74805010000f8aa5955"
  | 71 => "nop"
  | 72 => "rlc "
  | 73 => "rrc "
  | 74 => "rl "
  | 75 => "rr "
  | 76 => "sla "
  | 77 => "sra "
  | 78 => "sll "
  | 79 => "srl "
  | 80 => "bit "
  | 81 => "res "
  | 82 => "set "
  | 83 => ","
  | 84 => "(hl)"
  | 85 => "(ix"
  | 86 => "(iy"
  | 87 => "-"
  | 88 => "+"
  | 89 => ")"
  | 90 => "hl"
  | 91 => "ix"
  | 92 => "iy"
  | 93 => "b"
  | 94 => "c"
  | 95 => "d"
  | 96 => "e"
  | 97 => "h"
  | 98 => "l"
  | 99 => "a"
  | 100 => "ex af,af2"
  | 101 => "djnz "
  | 102 => "jr "
  | 103 => "nz"
  | 104 => "z"
  | 105 => "nc"
  | 106 => "po"
  | 107 => "pe"
  | 108 => "p"
  | 109 => "m"
  | 110 => "add "
  | 111 => "ld "
  | 112 => "bc"
  | 113 => "de"
  | 114 => "af"
  | 115 => "sp"
  | 116 => "dec "
  | 117 => "inc "
  | 118 => "(bc)"
  | 119 => "(de)"
  | 120 => "("
  | 121 => "rlca"
  | 122 => "rrca"
  | 123 => "rla"
  | 124 => "rra"
  | 125 => "daa"
  | 126 => "cpl"
  | 127 => "scf"
  | 128 => "ccf"
  | 129 => "halt"
  | 130 => "adc "
  | 131 => "sub "
  | 132 => "sbc "
  | 133 => "and "
  | 134 => "xor "
  | 135 => "or "
  | 136 => "cp "
  | 137 => "ret "
  | 138 => "pop "
  | 139 => "ret"
  | 140 => "exx"
  | 141 => "jp ("
  | 142 => "ld sp,"
  | 143 => "jp "
  | 144 => "out ("
  | 145 => "in a,("
  | 146 => "),a"
  | 147 => "ex (sp),"
  | 148 => "ex de,hl"
  | 149 => "di"
  | 150 => "ei"
  | 151 => "call "
  | 152 => "push "
  | 153 => "rst "
  | 154 => "ld"
  | 155 => "cp"
  | 156 => "in"
  | 157 => "out"
  | 158 => "ot"
  | 159 => "i"
  | 160 => "\x72"
  | 161 => "in "
  | 162 => "(c)"
  | 163 => "out (c),"
  | 164 => "0"
  | 165 => "sbc hl,"
  | 166 => "adc hl,"
  | 167 => "neg"
  | 168 => "reti"
  | 169 => "retn"
  | 170 => "im 0"
  | 171 => "im 1"
  | 172 => "im 2"
  | 173 => "ld i,a"
  | 174 => "ld r,a"
  | 175 => "ld a,i"
  | 176 => "ld a,\x72"
  | 177 => "rrd"
  | _ => "rld"
noncomputable def zkS : Nat → (List Int32) := fun k => match k with
  | 0 => [110, 111, 112]
  | 1 => [48, 49, 50, 51, 52, 53, 54, 55, 56, 57, 97, 98, 99, 100, 101, 102]
  | 2 => [98, 59, 99, 59, 100, 59, 101, 59, 104, 59, 108, 59, 40, 104, 108, 41, 59, 97]
  | 3 => [98, 99, 59, 100, 101, 59, 104, 108, 59, 115, 112]
  | 4 => [98, 99, 59, 100, 101, 59, 104, 108, 59, 97, 102]
  | 5 => [110, 122, 59, 122, 59, 110, 99, 59, 99, 59, 112, 111, 59, 112, 101, 59, 112, 59, 109]
  | 6 => [114, 108, 99, 32, 84, 59, 114, 114, 99, 32, 84, 59, 114, 108, 32, 84, 59, 114, 114, 32, 84, 59, 115, 108, 97, 32, 84, 59, 115, 114, 97, 32, 84, 59, 115, 108, 108, 32, 84, 59, 115, 114, 108, 32, 84]
  | 7 => [98, 105, 116, 32, 66, 44, 84]
  | 8 => [114, 101, 115, 32, 66, 44, 84]
  | 9 => [115, 101, 116, 32, 66, 44, 84]
  | 10 => [108, 100, 105, 59, 108, 100, 100, 59, 108, 100, 105, 114, 59, 108, 100, 100, 114]
  | 11 => [99, 112, 105, 59, 99, 112, 100, 59, 99, 112, 105, 114, 59, 99, 112, 100, 114]
  | 12 => [105, 110, 105, 59, 105, 110, 100, 59, 105, 110, 105, 114, 59, 105, 110, 100, 114]
  | 13 => [111, 117, 116, 105, 59, 111, 117, 116, 100, 59, 111, 116, 105, 114, 59, 111, 116, 100, 114]
  | 14 => [105, 110, 32, 40, 99, 41]
  | 15 => [105, 110, 32, 89, 44, 40, 99, 41]
  | 16 => [111, 117, 116, 32, 40, 99, 41, 44, 48]
  | 17 => [111, 117, 116, 32, 40, 99, 41, 44, 89]
  | 18 => [115, 98, 99, 32, 104, 108, 44, 80, 59, 97, 100, 99, 32, 104, 108, 44, 80]
  | 19 => [108, 100, 32, 40, 87, 41, 44, 80, 59, 108, 100, 32, 80, 44, 40, 87, 41]
  | 20 => [110, 101, 103]
  | 21 => [114, 101, 116, 105]
  | 22 => [114, 101, 116, 110]
  | 23 => [105, 109, 32, 48, 59, 105, 109, 32, 48, 59, 105, 109, 32, 49, 59, 105, 109, 32, 50]
  | 24 => [108, 100, 32, 105, 44, 97, 59, 108, 100, 32, 114, 44, 97, 59, 108, 100, 32, 97, 44, 105, 59, 108, 100, 32, 97, 44, 114, 59, 114, 114, 100, 59, 114, 108, 100, 59, 110, 111, 112, 59, 110, 111, 112]
  | 25 => [110, 111, 112, 59, 101, 120, 32, 97, 102, 44, 97, 102, 50, 59, 100, 106, 110, 122, 32, 69, 59, 106, 114, 32, 69, 59, 106, 114, 32, 68, 44, 69, 59, 106, 114, 32, 68, 44, 69, 59, 106, 114, 32, 68, 44, 69, 59, 106, 114, 32, 68, 44, 69]
  | 26 => [108, 100, 32, 80, 44, 87, 59, 97, 100, 100, 32, 74, 44, 80]
  | 27 => [108, 100, 32, 40, 98, 99, 41, 44, 97, 59, 108, 100, 32, 97, 44, 40, 98, 99, 41, 59, 108, 100, 32, 40, 100, 101, 41, 44, 97, 59, 108, 100, 32, 97, 44, 40, 100, 101, 41, 59, 108, 100, 32, 40, 87, 41, 44, 74, 59, 108, 100, 32, 74, 44, 40, 87, 41, 59, 108, 100, 32, 40, 87, 41, 44, 97, 59, 108, 100, 32, 97, 44, 40, 87, 41]
  | 28 => [105, 110, 99, 32, 80, 59, 100, 101, 99, 32, 80]
  | 29 => [105, 110, 99, 32, 89]
  | 30 => [100, 101, 99, 32, 89]
  | 31 => [108, 100, 32, 89, 44, 78]
  | 32 => [114, 108, 99, 97, 59, 114, 114, 99, 97, 59, 114, 108, 97, 59, 114, 114, 97, 59, 100, 97, 97, 59, 99, 112, 108, 59, 115, 99, 102, 59, 99, 99, 102]
  | 33 => [104, 97, 108, 116]
  | 34 => [108, 100, 32, 89, 44, 90]
  | 35 => [97, 100, 100, 32, 90, 59, 97, 100, 99, 32, 90, 59, 115, 117, 98, 32, 90, 59, 115, 98, 99, 32, 90, 59, 97, 110, 100, 32, 90, 59, 120, 111, 114, 32, 90, 59, 111, 114, 32, 90, 59, 99, 112, 32, 90]
  | 36 => [114, 101, 116, 32, 67]
  | 37 => [112, 111, 112, 32, 81, 59, 114, 101, 116, 59, 112, 111, 112, 32, 81, 59, 101, 120, 120, 59, 112, 111, 112, 32, 81, 59, 106, 112, 32, 40, 74, 41, 59, 112, 111, 112, 32, 81, 59, 108, 100, 32, 115, 112, 44, 74]
  | 38 => [106, 112, 32, 67, 44, 87]
  | 39 => [106, 112, 32, 87, 59, 59, 111, 117, 116, 32, 40, 78, 41, 44, 97, 59, 105, 110, 32, 97, 44, 40, 78, 41, 59, 101, 120, 32, 40, 115, 112, 41, 44, 74, 59, 101, 120, 32, 100, 101, 44, 74, 59, 100, 105, 59, 101, 105]
  | 40 => [99, 97, 108, 108, 32, 67, 44, 87]
  | 41 => [112, 117, 115, 104, 32, 81, 59, 99, 97, 108, 108, 32, 87]
  | 42 => [97, 100, 100, 32, 78, 59, 97, 100, 99, 32, 78, 59, 115, 117, 98, 32, 78, 59, 115, 98, 99, 32, 78, 59, 97, 110, 100, 32, 78, 59, 120, 111, 114, 32, 78, 59, 111, 114, 32, 78, 59, 99, 112, 32, 78]
  | 43 => [114, 115, 116, 32, 86]
  | 44 => [97, 32, 99, 97, 108, 108, 32, 102, 101, 101, 100, 115, 32, 49, 32, 116, 111, 32, 50, 52, 32, 98, 121, 116, 101, 115]
  | 45 => [116, 104, 101, 32, 116, 97, 112, 101, 32, 105, 115, 32, 102, 117, 108, 108]
  | 46 => [116, 104, 101, 32, 116, 97, 112, 101, 32, 99, 97, 110, 39, 116, 32, 104, 97, 118, 101, 32, 116, 104, 97, 116, 32, 108, 101, 110, 103, 116, 104]
  | 47 => [116, 104, 101, 32, 116, 97, 112, 101, 32, 105, 115, 32, 101, 109, 112, 116, 121]
  | 48 => [116, 104, 101, 32, 116, 97, 112, 101, 32, 104, 97, 115, 32, 110, 111, 32, 101, 105, 103, 104, 116, 32, 98, 121, 116, 101, 115, 32, 116, 104, 101, 114, 101]
  | 49 => [97, 32, 99, 97, 114, 116, 114, 105, 100, 103, 101, 32, 104, 97, 115, 32, 110, 111, 32, 115, 117, 99, 104, 32, 110, 117, 109, 98, 101, 114]
  | 50 => [97, 32, 99, 97, 108, 108, 32, 109, 97, 107, 101, 115, 32, 49, 32, 116, 111, 32, 50, 48, 48, 48, 48, 32, 115, 116, 101, 112, 115]
  | 51 => [97, 32, 99, 97, 108, 108, 32, 109, 97, 107, 101, 115, 32, 49, 32, 116, 111, 32, 51, 32, 112, 105, 99, 116, 117, 114, 101, 115]
  | 52 => [110, 111, 32, 115, 117, 99, 104, 32, 112, 97, 100, 32, 111, 114, 32, 98, 117, 116, 116, 111, 110, 115]
  | 53 => [116, 104, 101, 114, 101, 32, 97, 114, 101, 32, 116, 104, 101, 32, 108, 105, 110, 101, 115, 32, 48, 32, 97, 110, 100, 32, 49]
  | 54 => [112, 108, 97, 110, 115, 32, 103, 111, 32, 111, 110, 32, 105, 110, 32, 111, 114, 100, 101, 114, 44, 32, 119, 105, 116, 104, 32, 97, 32, 112, 97, 100, 32, 97, 110, 100, 32, 105, 116, 115, 32, 98, 117, 116, 116, 111, 110, 115]
  | 55 => [50, 53, 54, 32, 112, 108, 97, 110, 115, 32, 119, 97, 105, 116]
  | 56 => [116, 104, 101, 32, 116, 101, 120, 116, 32, 104, 97, 115, 32, 110, 111, 32, 115, 117, 99, 104, 32, 115, 105, 103, 110]
  | 57 => [97, 110, 32, 97, 100, 100, 114, 101, 115, 115, 32, 105, 115, 32, 97, 32, 119, 111, 114, 100]
  | 58 => [116, 104, 101, 114, 101, 32, 97, 114, 101, 32, 56, 32, 111, 116, 104, 101, 114, 32, 98, 114, 101, 97, 107, 32, 112, 111, 105, 110, 116, 115]
  | 59 => [110, 111, 116, 104, 105, 110, 103, 32, 105, 115, 32, 115, 97, 118, 101, 100]
  | 60 => [116, 104, 101, 114, 101, 32, 105, 115, 32, 110, 111, 32, 115, 117, 99, 104, 32, 114, 101, 103, 105, 115, 116, 101, 114]
  | 61 => [116, 104, 101, 32, 98, 97, 116, 116, 101, 114, 121, 32, 104, 97, 115, 32, 110, 111, 32, 115, 117, 99, 104, 32, 98, 121, 116, 101]
  | 62 => [116, 104, 101, 32, 118, 105, 100, 101, 111, 32, 99, 104, 105, 112, 32, 104, 97, 115, 32, 110, 111, 32, 115, 117, 99, 104, 32, 110, 117, 109, 98, 101, 114]
  | 63 => [116, 104, 101, 32, 112, 105, 99, 116, 117, 114, 101, 32, 104, 97, 115, 32, 110, 111, 32, 115, 117, 99, 104, 32, 100, 111, 116]
  | 64 => [116, 104, 101, 32, 112, 105, 99, 116, 117, 114, 101, 32, 104, 97, 115, 32, 110, 111, 32, 115, 117, 99, 104, 32, 108, 105, 110, 101]
  | 65 => [110, 111, 32, 115, 97, 109, 112, 108, 101, 32, 119, 97, 105, 116, 115]
  | 66 => [110, 111, 32, 109, 105, 120, 32, 119, 97, 105, 116, 115]
  | 67 => [116, 104, 101, 32, 119, 97, 118, 101, 115, 32, 104, 97, 118, 101, 32, 110, 111, 32, 115, 117, 99, 104, 32, 110, 117, 109, 98, 101, 114]
  | 68 => [116, 104, 101, 32, 115, 111, 117, 110, 100, 32, 99, 104, 105, 112, 32, 104, 97, 115, 32, 110, 111, 32, 115, 117, 99, 104, 32, 110, 117, 109, 98, 101, 114]
  | 69 => [116, 104, 101, 114, 101, 32, 105, 115, 32, 110, 111, 116, 104, 105, 110, 103, 32, 116, 111, 32, 108, 111, 111, 107, 32, 97, 116]
  | 70 => [55, 49, 54, 49, 49, 101, 49, 55, 100, 48, 55, 56, 48, 48, 49, 55, 49, 51, 52, 49, 49, 97, 48, 100, 100, 56, 102, 55, 50, 51, 49, 51, 49, 51, 48, 49, 57, 57, 48, 48, 102, 50, 99, 52, 49, 49, 50, 51, 51, 49, 54, 49, 48, 101, 48, 55, 97, 56, 54, 52, 55, 48, 50, 55, 51, 50, 50, 49, 49, 101, 48, 54, 101, 48, 55, 54, 48, 48, 50, 56, 51, 49, 50, 50, 49, 54, 48, 53, 101, 48, 55, 49, 48, 48, 49, 56, 50, 49, 54, 49, 49, 100, 48, 55, 56, 50, 56, 49, 49, 48, 48, 55, 50, 51, 50, 49, 50, 100, 49, 52, 97, 50, 55, 50, 48, 48, 48, 55, 54, 49, 54, 49, 49, 98, 48, 54, 54, 52, 54, 53, 49, 48, 49, 55, 52, 49, 54, 49, 48, 98, 49, 56, 56, 53, 102, 55, 55, 49, 48, 55, 49, 51, 48, 49, 56, 51, 49, 49, 102, 97, 101, 52, 49, 48, 48, 52, 49, 55, 99, 49, 50, 52, 48, 55, 102, 56, 102, 56, 50, 50, 49, 50, 54, 49, 53, 48, 48, 99, 48, 53, 99, 50, 102, 53, 50, 48, 52, 50, 48, 49, 48, 49, 53, 53, 48, 51, 99, 57, 57, 53, 48, 51, 48, 50, 54, 49, 52, 49, 56, 57, 48, 51, 102, 49, 101, 52, 52, 48, 49, 51, 48, 49, 48, 49, 49, 56, 48, 102, 100, 102, 102, 56, 54, 97, 54, 100, 48, 49, 48, 49, 48, 48, 48, 48, 99, 56, 100, 56, 97, 55, 52, 56, 48, 53, 48, 49, 48, 48, 48, 48, 102, 56, 97, 97, 53, 57, 53, 53]
  | 71 => [110, 111, 112]
  | 72 => [114, 108, 99, 32]
  | 73 => [114, 114, 99, 32]
  | 74 => [114, 108, 32]
  | 75 => [114, 114, 32]
  | 76 => [115, 108, 97, 32]
  | 77 => [115, 114, 97, 32]
  | 78 => [115, 108, 108, 32]
  | 79 => [115, 114, 108, 32]
  | 80 => [98, 105, 116, 32]
  | 81 => [114, 101, 115, 32]
  | 82 => [115, 101, 116, 32]
  | 83 => [44]
  | 84 => [40, 104, 108, 41]
  | 85 => [40, 105, 120]
  | 86 => [40, 105, 121]
  | 87 => [45]
  | 88 => [43]
  | 89 => [41]
  | 90 => [104, 108]
  | 91 => [105, 120]
  | 92 => [105, 121]
  | 93 => [98]
  | 94 => [99]
  | 95 => [100]
  | 96 => [101]
  | 97 => [104]
  | 98 => [108]
  | 99 => [97]
  | 100 => [101, 120, 32, 97, 102, 44, 97, 102, 50]
  | 101 => [100, 106, 110, 122, 32]
  | 102 => [106, 114, 32]
  | 103 => [110, 122]
  | 104 => [122]
  | 105 => [110, 99]
  | 106 => [112, 111]
  | 107 => [112, 101]
  | 108 => [112]
  | 109 => [109]
  | 110 => [97, 100, 100, 32]
  | 111 => [108, 100, 32]
  | 112 => [98, 99]
  | 113 => [100, 101]
  | 114 => [97, 102]
  | 115 => [115, 112]
  | 116 => [100, 101, 99, 32]
  | 117 => [105, 110, 99, 32]
  | 118 => [40, 98, 99, 41]
  | 119 => [40, 100, 101, 41]
  | 120 => [40]
  | 121 => [114, 108, 99, 97]
  | 122 => [114, 114, 99, 97]
  | 123 => [114, 108, 97]
  | 124 => [114, 114, 97]
  | 125 => [100, 97, 97]
  | 126 => [99, 112, 108]
  | 127 => [115, 99, 102]
  | 128 => [99, 99, 102]
  | 129 => [104, 97, 108, 116]
  | 130 => [97, 100, 99, 32]
  | 131 => [115, 117, 98, 32]
  | 132 => [115, 98, 99, 32]
  | 133 => [97, 110, 100, 32]
  | 134 => [120, 111, 114, 32]
  | 135 => [111, 114, 32]
  | 136 => [99, 112, 32]
  | 137 => [114, 101, 116, 32]
  | 138 => [112, 111, 112, 32]
  | 139 => [114, 101, 116]
  | 140 => [101, 120, 120]
  | 141 => [106, 112, 32, 40]
  | 142 => [108, 100, 32, 115, 112, 44]
  | 143 => [106, 112, 32]
  | 144 => [111, 117, 116, 32, 40]
  | 145 => [105, 110, 32, 97, 44, 40]
  | 146 => [41, 44, 97]
  | 147 => [101, 120, 32, 40, 115, 112, 41, 44]
  | 148 => [101, 120, 32, 100, 101, 44, 104, 108]
  | 149 => [100, 105]
  | 150 => [101, 105]
  | 151 => [99, 97, 108, 108, 32]
  | 152 => [112, 117, 115, 104, 32]
  | 153 => [114, 115, 116, 32]
  | 154 => [108, 100]
  | 155 => [99, 112]
  | 156 => [105, 110]
  | 157 => [111, 117, 116]
  | 158 => [111, 116]
  | 159 => [105]
  | 160 => [114]
  | 161 => [105, 110, 32]
  | 162 => [40, 99, 41]
  | 163 => [111, 117, 116, 32, 40, 99, 41, 44]
  | 164 => [48]
  | 165 => [115, 98, 99, 32, 104, 108, 44]
  | 166 => [97, 100, 99, 32, 104, 108, 44]
  | 167 => [110, 101, 103]
  | 168 => [114, 101, 116, 105]
  | 169 => [114, 101, 116, 110]
  | 170 => [105, 109, 32, 48]
  | 171 => [105, 109, 32, 49]
  | 172 => [105, 109, 32, 50]
  | 173 => [108, 100, 32, 105, 44, 97]
  | 174 => [108, 100, 32, 114, 44, 97]
  | 175 => [108, 100, 32, 97, 44, 105]
  | 176 => [108, 100, 32, 97, 44, 114]
  | 177 => [114, 114, 100]
  | _ => [114, 108, 100]
noncomputable def zkL (i : Nat) : Nat := (zkS i).length
noncomputable def zkB (i j : Nat) : Int32 := (zkS i).getD j 0
end ZJN4
section ZJN5
/-! BASE: states as two tables of numbers (cell, place), steps of pure functions, and the kit's rows over one world -/
noncomputable abbrev zSt : Type := (Nat → Nat → Int32) × (Nat → Nat → Int64)
noncomputable def zgi (σ : zSt) (k j : Nat) : Int32 := σ.1 k j
noncomputable def zgl (σ : zSt) (k j : Nat) : Int64 := σ.2 k j
noncomputable def zsi (σ : zSt) (k j : Nat) (v : Int32) : zSt := (fun a => bif Nat.beq a k then upd (σ.1 a) j v else σ.1 a, σ.2)
noncomputable def zsl (σ : zSt) (k j : Nat) (v : Int64) : zSt := (σ.1, fun a => bif Nat.beq a k then vp_updL (σ.2 a) j v else σ.2 a)
noncomputable def zbv {α β : Type} (x : α) (f : α → β) : β := f x
noncomputable def zck {α : Type} (b : Bool) (x : Option α) : Option α := bif b then x else none
noncomputable def zbi {α : Type} (o : Option (zSt × Int32)) (f : zSt → Int32 → Option α) : Option α := match o with | none => none | some r => f r.1 r.2
noncomputable def zbl {α : Type} (o : Option (zSt × Int64)) (f : zSt → Int64 → Option α) : Option α := match o with | none => none | some r => f r.1 r.2
noncomputable def zbu {α : Type} (o : Option zSt) (f : zSt → Option α) : Option α := match o with | none => none | some r => f r
noncomputable def zin (i : Int32) (n : Nat) : Bool := !(decide (i < 0) || decide (n ≤ i.toNatClampNeg))
noncomputable def zmax (x y : Int32) : Int32 := if x < y then y else x
noncomputable def zmin (x y : Int32) : Int32 := if y < x then y else x
noncomputable def zbo (x : Int32) : Bool := decide (x = 0) || decide (x = 1)
noncomputable def zfuel : Nat := 2000000
theorem zin_in {i : Int32} {n : Nat} (h : zin i n = true) : vp_in i n := by
  intro q
  rcases q with q | q <;> simp [zin, q] at h
theorem zbv_use {α β : Type} {x y : α} {f : α → β} {r : β} (e : y = x) (h : zbv x f = r) : f y = r := by subst e; exact h
theorem zck_use {α : Type} {b : Bool} {x : Option α} {r : α} (h : zck b x = some r) : b = true ∧ x = some r := by
  cases b
  · cases h
  · exact ⟨rfl, h⟩
theorem zbi_use {α : Type} {o : Option (zSt × Int32)} {f : zSt → Int32 → Option α} {r : α} (h : zbi o f = some r) : ∃ σ1 v, o = some (σ1, v) ∧ f σ1 v = some r := by
  cases o with
  | none => cases h
  | some q => exact ⟨q.1, q.2, rfl, h⟩
theorem zbl_use {α : Type} {o : Option (zSt × Int64)} {f : zSt → Int64 → Option α} {r : α} (h : zbl o f = some r) : ∃ σ1 v, o = some (σ1, v) ∧ f σ1 v = some r := by
  cases o with
  | none => cases h
  | some q => exact ⟨q.1, q.2, rfl, h⟩
noncomputable def zbk {α : Type} (o : Option (zSt × Nat)) (f : zSt → Nat → Option α) : Option α := match o with | none => none | some r => f r.1 r.2
theorem zbk_use {α : Type} {o : Option (zSt × Nat)} {f : zSt → Nat → Option α} {r : α} (h : zbk o f = some r) : ∃ σ1 v, o = some (σ1, v) ∧ f σ1 v = some r := by
  cases o with
  | none => cases h
  | some q => exact ⟨q.1, q.2, rfl, h⟩
theorem zbu_use {α : Type} {o : Option zSt} {f : zSt → Option α} {r : α} (h : zbu o f = some r) : ∃ σ1, o = some σ1 ∧ f σ1 = some r := by
  cases o with
  | none => cases h
  | some q => exact ⟨q, rfl, h⟩
theorem zif_t {α : Type} {P : Prop} {d : Decidable P} {x y r : α} (c : P) (h : @ite α P d x y = r) : x = r := by rw [if_pos c] at h; exact h
theorem zif_f {α : Type} {P : Prop} {d : Decidable P} {x y r : α} (c : ¬ P) (h : @ite α P d x y = r) : y = r := by rw [if_neg c] at h; exact h
noncomputable def zDl : List String := ["java/lang/RuntimeException", "java/lang/Exception", "java/lang/Throwable"]
noncomputable def zIn (n : String) : MethodName := ⟨n, "<init>", "(Ljava/lang/String;)V"⟩
/-- links to the constructors of nest mates -/
noncomputable def zNe : List (String × Nat × MethodName × String) := [(RX11, 15, yX2_init, "PadConsole"), (RX0, 9, yX6_init, "PadConsole")]
/-- the exceptions of the face, by number -/
noncomputable def zEx : Nat → String := fun k => match k with
  | 1 => "java/lang/IllegalArgumentException"
  | 2 => "java/lang/IllegalStateException"
  | _ => "java/util/NoSuchElementException"
/-- what stands outside the worlds and is never written: static rows, the String constants, statics of the JDK -/
noncomputable def zKs (st : Nat → Nat) (A : Nat → Prop) (U : State) (H : Heap) (i : Nat) : Prop := va_O "java/lang/String" (st (100 + i)) A U H ∧ va_OF "java/lang/String" "coder" "B" (.int 0) (st (100 + i)) A U H ∧ va_OF "java/lang/String" "value" "[B" (.ref (st (400 + i))) (st (100 + i)) A U H ∧ va_T .byte (st (400 + i)) (zkL i) (fun j => .int (zkB i j)) A U H
noncomputable def zT (st : Nat → Nat) (A : Nat → Prop) (U : State) (H : Heap) : Prop :=
  (∀ k, k < zNS → va_Z (zsC k) (zsN k) (zsD k) (.ref (st k)) A U H ∧ va_T (zsY k) (st k) (zsL k) (zsF k) A U H) ∧
  (∀ i, i < zNK → zKs st A U H i) ∧ (∀ i, i < zNK → vk_R (zkO i) (zkI i) (zkT i) (st (100 + i)) U) ∧
  va_Z "java/lang/String" "COMPACT_STRINGS" "Z" (.int 1) A U H ∧ va_Zq "jdk/internal/util/Preconditions" "SIOOBE_FORMATTER" "Ljava/util/function/BiFunction;" A U H ∧
  vx_Zq Bundle.tN "UNASSIGNED_STACK" Bundle.steD A U H ∧ vx_Zq Bundle.tN "SUPPRESSED_SENTINEL" Bundle.listD A U H ∧
  (∀ k, va_Nw (.castable (zEx k) (zEx k)) U) ∧ va_Nc (zEx 2) (zEx 1) U ∧ (∀ n ∈ zDl, va_Nw (.declares (zIn n)) U) ∧ (∀ q ∈ zNe, va_Nw (.methodLinkNest q.1 q.2.1 q.2.2.1 q.2.2.2) U)
theorem zT.alike {st : Nat → Nat} {A : Nat → Prop} {u U : State} {H : Heap} (hvm : u.vm.Alike U.vm) (hR : ∀ i, i < zNK → vk_R (zkO i) (zkI i) (zkT i) (st (100 + i)) u → vk_R (zkO i) (zkI i) (zkT i) (st (100 + i)) U) (hN : ∀ k, va_Nw (.castable (zEx k) (zEx k)) u → va_Nw (.castable (zEx k) (zEx k)) U) (hDn : ∀ x, va_Nw (.declares x) u → va_Nw (.declares x) U) (hMn : ∀ a i x h, va_Nw (.methodLinkNest a i x h) u → va_Nw (.methodLinkNest a i x h) U) (h : zT st A u H) : zT st A U H := by
  obtain ⟨h1, h2, h3, h4, h5, h6, h7, h8, h9, h10, h11⟩ := h
  exact ⟨fun k hk => ⟨va_Z.moved hvm (h1 k hk).1, va_T.moved hvm (h1 k hk).2⟩, fun i hi => ⟨va_O.moved hvm (h2 i hi).1, va_OF.moved hvm (h2 i hi).2.1, va_OF.moved hvm (h2 i hi).2.2.1, va_T.moved hvm (h2 i hi).2.2.2⟩, fun i hi => hR i hi (h3 i hi), va_Z.moved hvm h4, va_Zq.moved hvm h5, vx_Zq.moved hvm h6, vx_Zq.moved hvm h7, fun k => hN k (h8 k), va_Nc.moved hvm h9, fun n hn => hDn _ (h10 n hn), fun q hq => hMn _ _ _ _ (h11 q hq)⟩
theorem zT.warm {st : Nat → Nat} {A : Nat → Prop} {u U : State} {H : Heap} (hW : u.WarmedH U.vm) (h : zT st A u H) : zT st A U H := zT.alike hW.alike (fun _ _ q => vk_R.warm hW q) (fun _ q => va_Nw.warmC hW q) (fun _ q => va_Nw.warmD hW q) (fun _ _ _ _ q => va_Nw.warmM hW q) h
theorem zT.same {st : Nat → Nat} {A : Nat → Prop} {u U : State} {H : Heap} (hv : U.vm = u.vm) (h : zT st A u H) : zT st A U H := zT.alike (by rw [hv]; exact Vm.Alike.refl _) (fun _ _ q => vk_R.same hv q) (fun _ q => va_Nw.same rfl hv.symm q) (fun _ q => va_Nw.same rfl hv.symm q) (fun _ _ _ _ q => va_Nw.same rfl hv.symm q) h
theorem zT.kept {st : Nat → Nat} {A : Nat → Prop} {U : State} {H H1 : Heap} (h : zT st A U H) (hq : ∀ a : Nat, a < H.size → ¬ A a → H1[a]? = H[a]?) : zT st A U H1 := by
  obtain ⟨h1, h2, h3, h4, h5, h6, h7, h8, h9, h10, h11⟩ := h
  exact ⟨fun k hk => ⟨(h1 k hk).1.kept hq, (h1 k hk).2.kept hq⟩, fun i hi => ⟨(h2 i hi).1.kept hq, (h2 i hi).2.1.kept hq, (h2 i hi).2.2.1.kept hq, (h2 i hi).2.2.2.kept hq⟩, h3, h4.kept hq, h5.kept hq, h6.kept hq, h7.kept hq, h8, h9, h10, h11⟩
theorem zT.narrow {st : Nat → Nat} {A B : Nat → Prop} {U : State} {H : Heap} (h : zT st A U H) (hAB : ∀ q, B q → A q) : zT st B U H := by
  obtain ⟨h1, h2, h3, h4, h5, h6, h7, h8, h9, h10, h11⟩ := h
  exact ⟨fun k hk => ⟨(h1 k hk).1.narrow hAB, (h1 k hk).2.narrow hAB⟩, fun i hi => ⟨(h2 i hi).1.narrow hAB, (h2 i hi).2.1.narrow hAB, (h2 i hi).2.2.1.narrow hAB, (h2 i hi).2.2.2.narrow hAB⟩, h3, h4.narrow hAB, h5.narrow hAB, h6.narrow hAB, h7.narrow hAB, h8, h9, h10, h11⟩
/-- the world at a moment of a method: the tables, the cells, apart, and what has changed since its entry -/
noncomputable def zI (st : Nat → Nat) (D : va_G) (tys : List (ClassId × FieldType)) (w : va_W) (A : Nat → Prop) (s : State) (H : Heap) (locs : List Loc) : Prop :=
  va_K D vwCl tys s ∧ va_P D vwCl w H ∧ va_D A w ∧ va_S A s.heap H locs ∧ (∀ q, s.heap.size ≤ q → A q) ∧ zT st A s s.heap
/-- what stays through a method's body -/
noncomputable def zC (p : Program) (m : MethodId) (c : Code) (cc : ByteArray) (nL : Nat) (s : State) (args : Array Value) (Ts : List Cond) (own : String) (meth : Method) (ret : Option FieldType) : Prop :=
  p.tables.exec = Jvm.exec ∧ c.code = cc ∧ c.maxLocals = nL ∧ s.vm.findClass own = some m.cls ∧ (∀ w ∈ Ts, w.before args s = true) ∧ meth.sig.returnType = ret ∧ meth.locks = false
noncomputable def zP (st : Nat → Nat) (D : va_G) (tys : List (ClassId × FieldType)) (w : va_W) (sz : Nat) : State → Prop := fun U => U.heap.size = sz ∧ va_P D vwCl w U.heap ∧ va_K D vwCl tys U ∧ va_D (fun _ => True) w ∧ zT st (va_A w sz) U U.heap
noncomputable def zB (D : va_G) (tys : List (ClassId × FieldType)) (w : zSt → va_W) (A : Nat → Prop) (u : zSt) (t : State) : Prop := va_P D vwCl (w u) t.heap ∧ va_K D vwCl tys t ∧ va_D A (w u)
/-- contracts: an int, a long, nothing comes back -/
noncomputable def zMi (st : Nat → Nat) (l : Launch) (y : MethodName) (ws : List Cond) (rm : Room) (av : List Value) (D : va_G) (tys : List (ClassId × FieldType)) (w : zSt → va_W) (sz : Nat) (σ : zSt) (res : zSt × Int32) : Prop :=
  Met l y ws rm (va_Pc av (zP st D tys (w σ) sz)) (va_Qi (fun (r : Int32) (u : zSt) => (u, r) = res) (zB D tys w (va_A (w σ) sz)) (va_A (w σ) sz)) 0 0 (va_A (w σ) sz)
noncomputable def zMl (st : Nat → Nat) (l : Launch) (y : MethodName) (ws : List Cond) (rm : Room) (av : List Value) (D : va_G) (tys : List (ClassId × FieldType)) (w : zSt → va_W) (sz : Nat) (σ : zSt) (res : zSt × Int64) : Prop :=
  Met l y ws rm (va_Pc av (zP st D tys (w σ) sz)) (va_Ql (fun (r : Int64) (u : zSt) => (u, r) = res) (zB D tys w (va_A (w σ) sz)) (va_A (w σ) sz)) 0 0 (va_A (w σ) sz)
noncomputable def zMu (st : Nat → Nat) (l : Launch) (y : MethodName) (ws : List Cond) (rm : Room) (av : List Value) (D : va_G) (tys : List (ClassId × FieldType)) (w : zSt → va_W) (sz : Nat) (σ : zSt) (res : zSt) : Prop :=
  Met l y ws rm (va_Pc av (zP st D tys (w σ) sz)) (va_Qv (fun (u : zSt) => u = res) (zB D tys w (va_A (w σ) sz)) (va_A (w σ) sz)) 0 0 (va_A (w σ) sz)
/-- a String constant comes back, by its number -/
noncomputable def zMk (st : Nat → Nat) (l : Launch) (y : MethodName) (ws : List Cond) (rm : Room) (av : List Value) (D : va_G) (tys : List (ClassId × FieldType)) (w : zSt → va_W) (sz : Nat) (σ : zSt) (res : zSt × Nat) : Prop :=
  Met l y ws rm (va_Pc av (zP st D tys (w σ) sz)) (va_Qr (fun (u : zSt) => u = res.1) (fun u a t => a = st (100 + res.2) ∧ zB D tys w (va_A (w σ) sz) u t) (va_A (w σ) sz)) 0 0 (va_A (w σ) sz)
noncomputable def zQk (st : Nat → Nat) (below : List Frame) (args : Array Value) (s : State) (D : va_G) (tys : List (ClassId × FieldType)) (w : zSt → va_W) (A : Nat → Prop) (res : zSt × Nat) : State → Prop := MQ below (va_Qr (fun (u : zSt) => u = res.1) (fun u a t => a = st (100 + res.2) ∧ zB D tys w A u t) A) args s 0 0 A
/-- what a body must come to -/
noncomputable def zQi (below : List Frame) (args : Array Value) (s : State) (D : va_G) (tys : List (ClassId × FieldType)) (w : zSt → va_W) (A : Nat → Prop) (res : zSt × Int32) : State → Prop := MQ below (va_Qi (fun (r : Int32) (u : zSt) => (u, r) = res) (zB D tys w A) A) args s 0 0 A
noncomputable def zQl (below : List Frame) (args : Array Value) (s : State) (D : va_G) (tys : List (ClassId × FieldType)) (w : zSt → va_W) (A : Nat → Prop) (res : zSt × Int64) : State → Prop := MQ below (va_Ql (fun (r : Int64) (u : zSt) => (u, r) = res) (zB D tys w A) A) args s 0 0 A
noncomputable def zQu (below : List Frame) (args : Array Value) (s : State) (D : va_G) (tys : List (ClassId × FieldType)) (w : zSt → va_W) (A : Nat → Prop) (res : zSt) : State → Prop := MQ below (va_Qv (fun (u : zSt) => u = res) (zB D tys w A) A) args s 0 0 A
section ZR
variable {p : Program} {l : Launch} {e : Env} {R : Room} {s : State} {m : MethodId} {args : Array Value} {below : List Frame} {meth : Method} {c : Code} {H : Heap} {locs : List Loc} {cells slots : Nat} {Q : State → Prop}
variable {st : Nat → Nat} {D : va_G} {tys : List (ClassId × FieldType)} {A : Nat → Prop} {cc : ByteArray} {nL : Nat} {Ts : List Cond} {own : String} {pc : Nat} {ls : Array Slot} {rest : List Value} {a : Nat} {ret : Option FieldType} {lv0 : List (Nat × Value)}
theorem zI.start {w : zSt → va_W} {σ : zSt} {sz : Nat} (h : zP st D tys (w σ) sz s) : zI st D tys (w σ) (va_A (w σ) sz) s s.heap [] := by
  obtain ⟨hsz, hP, hK, hD, hT⟩ := h
  exact ⟨hK, hP, hD.self, va_S.rf, fun q h => by rw [hsz] at h; exact Or.inr h, hT⟩
/-- a method out of its body -/
theorem zMi.of {y : MethodName} {ws ws' : List Cond} {rm : Room} {av : List Value} {w : zSt → va_W} {sz : Nat} {σ : zSt} {res : zSt × Int32} {maxL : Nat} (hy : plainName y.cls = true) (hw : ws = Cond.code y cc maxL ret :: ws') (hle : (lg_sl av).length ≤ maxL)
    (k : ∀ (p : Program) (e : Env) (s : State) (m : MethodId) (args : Array Value) (below : List Frame) (meth : Method) (c : Code), zC p m c cc maxL s args ws y.cls meth ret → ∀ A : Nat → Prop, zI st D tys (w σ) A s s.heap [] → ∀ ls : Array Slot, lv_has ls maxL (lv_args 0 av) → W p l e (headSpec ws rm).room s m args below meth c s.heap [] 0 0 (zQi below args s D tys w A res) (F0 m 0 ls [])) : zMi st l y ws rm av D tys w sz σ res := by
  refine Met.ofW (cc := cc) (maxL := maxL) (ret := ret) hy hw ?_
  intro p e s m args below meth c s₁ B hml hv
  obtain ⟨rfl, hv⟩ := hv
  have hl := lv_entry av (n := maxL) hle
  rw [lg_entry_eq]
  exact k p e s m av.toArray below meth c ⟨B.exec, B.bytes, hml, findClass_of_methodNamed B.named, atoms_spec (ws := ws) B.pre, B.returns, B.notSynchronized⟩ _ (zI.start hv) _ hl
theorem zMl.of {y : MethodName} {ws ws' : List Cond} {rm : Room} {av : List Value} {w : zSt → va_W} {sz : Nat} {σ : zSt} {res : zSt × Int64} {maxL : Nat} (hy : plainName y.cls = true) (hw : ws = Cond.code y cc maxL ret :: ws') (hle : (lg_sl av).length ≤ maxL)
    (k : ∀ (p : Program) (e : Env) (s : State) (m : MethodId) (args : Array Value) (below : List Frame) (meth : Method) (c : Code), zC p m c cc maxL s args ws y.cls meth ret → ∀ A : Nat → Prop, zI st D tys (w σ) A s s.heap [] → ∀ ls : Array Slot, lv_has ls maxL (lv_args 0 av) → W p l e (headSpec ws rm).room s m args below meth c s.heap [] 0 0 (zQl below args s D tys w A res) (F0 m 0 ls [])) : zMl st l y ws rm av D tys w sz σ res := by
  refine Met.ofW (cc := cc) (maxL := maxL) (ret := ret) hy hw ?_
  intro p e s m args below meth c s₁ B hml hv
  obtain ⟨rfl, hv⟩ := hv
  have hl := lv_entry av (n := maxL) hle
  rw [lg_entry_eq]
  exact k p e s m av.toArray below meth c ⟨B.exec, B.bytes, hml, findClass_of_methodNamed B.named, atoms_spec (ws := ws) B.pre, B.returns, B.notSynchronized⟩ _ (zI.start hv) _ hl
theorem zMu.of {y : MethodName} {ws ws' : List Cond} {rm : Room} {av : List Value} {w : zSt → va_W} {sz : Nat} {σ : zSt} {res : zSt} {maxL : Nat} (hy : plainName y.cls = true) (hw : ws = Cond.code y cc maxL ret :: ws') (hle : (lg_sl av).length ≤ maxL)
    (k : ∀ (p : Program) (e : Env) (s : State) (m : MethodId) (args : Array Value) (below : List Frame) (meth : Method) (c : Code), zC p m c cc maxL s args ws y.cls meth ret → ∀ A : Nat → Prop, zI st D tys (w σ) A s s.heap [] → ∀ ls : Array Slot, lv_has ls maxL (lv_args 0 av) → W p l e (headSpec ws rm).room s m args below meth c s.heap [] 0 0 (zQu below args s D tys w A res) (F0 m 0 ls [])) : zMu st l y ws rm av D tys w sz σ res := by
  refine Met.ofW (cc := cc) (maxL := maxL) (ret := ret) hy hw ?_
  intro p e s m args below meth c s₁ B hml hv
  obtain ⟨rfl, hv⟩ := hv
  have hl := lv_entry av (n := maxL) hle
  rw [lg_entry_eq]
  exact k p e s m av.toArray below meth c ⟨B.exec, B.bytes, hml, findClass_of_methodNamed B.named, atoms_spec (ws := ws) B.pre, B.returns, B.notSynchronized⟩ _ (zI.start hv) _ hl
theorem zMk.of {y : MethodName} {ws ws' : List Cond} {rm : Room} {av : List Value} {w : zSt → va_W} {sz : Nat} {σ : zSt} {res : zSt × Nat} {maxL : Nat} (hy : plainName y.cls = true) (hw : ws = Cond.code y cc maxL ret :: ws') (hle : (lg_sl av).length ≤ maxL)
    (k : ∀ (p : Program) (e : Env) (s : State) (m : MethodId) (args : Array Value) (below : List Frame) (meth : Method) (c : Code), zC p m c cc maxL s args ws y.cls meth ret → ∀ A : Nat → Prop, zI st D tys (w σ) A s s.heap [] → ∀ ls : Array Slot, lv_has ls maxL (lv_args 0 av) → W p l e (headSpec ws rm).room s m args below meth c s.heap [] 0 0 (zQk st below args s D tys w A res) (F0 m 0 ls [])) : zMk st l y ws rm av D tys w sz σ res := by
  refine Met.ofW (cc := cc) (maxL := maxL) (ret := ret) hy hw ?_
  intro p e s m args below meth c s₁ B hml hv
  obtain ⟨rfl, hv⟩ := hv
  have hl := lv_entry av (n := maxL) hle
  rw [lg_entry_eq]
  exact k p e s m av.toArray below meth c ⟨B.exec, B.bytes, hml, findClass_of_methodNamed B.named, atoms_spec (ws := ws) B.pre, B.returns, B.notSynchronized⟩ _ (zI.start hv) _ hl
/-- ends -/
theorem z_areturn {cn : String} (hC : zC p m c cc nL s args Ts own meth (some (.object cn))) {w : zSt → va_W} {σ : zSt} (hI : zI st D tys (w σ) A s H locs) {i : Nat} {res : zSt × Nat} (hf : some (σ, i) = some res) (hdg : decode cc pc = .ok (.areturn, 1)) : W p l e R s m args below meth c H locs 0 0 (zQk st below args s D tys w A res) (F0 m pc ls [.ref (st (100 + i))]) := by
  obtain ⟨hx, hb, hml, hown, hts, hr, hlk⟩ := hC
  obtain ⟨hK, hP, hD, hS, hA, hT⟩ := hI
  cases Option.some.inj hf
  exact W.aret (v := .ref (st (100 + i))) hx hb hr (Or.inl ⟨cn, rfl⟩) (Or.inr ⟨_, rfl⟩) (fun t ht hW => ⟨⟨σ, st (100 + i), rfl, rfl, rfl, by rw [ht]; exact hP, va_K.moved hW.alike hK, hD⟩, hS.F ht⟩) hS.2.2 hdg hlk

theorem z_ireturn (hC : zC p m c cc nL s args Ts own meth (some .int)) {w : zSt → va_W} {σ : zSt} (hI : zI st D tys (w σ) A s H locs) {v : Int32} {res : zSt × Int32} (hf : some (σ, v) = some res) (hdg : decode cc pc = .ok (.ireturn, 1)) : W p l e R s m args below meth c H locs 0 0 (zQi below args s D tys w A res) (F0 m pc ls [.int v]) := by
  obtain ⟨hx, hb, hml, hown, hts, hr, hlk⟩ := hC
  obtain ⟨hK, hP, hD, hS, hA, hT⟩ := hI
  exact W.iret (v := v) hx hb hr (fun t ht hW => ⟨⟨v, σ, rfl, Option.some.inj hf, by rw [ht]; exact hP, va_K.moved hW.alike hK, hD⟩, hS.F ht⟩) hS.2.2 hdg hlk
theorem z_zreturn (hC : zC p m c cc nL s args Ts own meth (some .boolean)) {w : zSt → va_W} {σ : zSt} (hI : zI st D tys (w σ) A s H locs) {v : Int32} {res : zSt × Int32} (hn : narrow .boolean (.int v) = .int v) (hf : some (σ, v) = some res) (hdg : decode cc pc = .ok (.ireturn, 1)) : W p l e R s m args below meth c H locs 0 0 (zQi below args s D tys w A res) (F0 m pc ls [.int v]) := by
  obtain ⟨hx, hb, hml, hown, hts, hr, hlk⟩ := hC
  obtain ⟨hK, hP, hD, hS, hA, hT⟩ := hI
  exact W.zret (v := v) hx hb hr hn (fun t ht hW => ⟨⟨v, σ, rfl, Option.some.inj hf, by rw [ht]; exact hP, va_K.moved hW.alike hK, hD⟩, hS.F ht⟩) hS.2.2 hdg hlk
theorem z_lreturn (hC : zC p m c cc nL s args Ts own meth (some .long)) {w : zSt → va_W} {σ : zSt} (hI : zI st D tys (w σ) A s H locs) {v : Int64} {res : zSt × Int64} (hf : some (σ, v) = some res) (hdg : decode cc pc = .ok (.lreturn, 1)) : W p l e R s m args below meth c H locs 0 0 (zQl below args s D tys w A res) (F0 m pc ls [.long v]) := by
  obtain ⟨hx, hb, hml, hown, hts, hr, hlk⟩ := hC
  obtain ⟨hK, hP, hD, hS, hA, hT⟩ := hI
  exact W.lret (v := v) hx hb hr (fun t ht hW => ⟨⟨v, σ, rfl, Option.some.inj hf, by rw [ht]; exact hP, va_K.moved hW.alike hK, hD⟩, hS.F ht⟩) hS.2.2 hdg hlk
theorem z_return (hC : zC p m c cc nL s args Ts own meth none) {w : zSt → va_W} {σ : zSt} (hI : zI st D tys (w σ) A s H locs) {res : zSt} (hf : some σ = some res) (hdg : decode cc pc = .ok (.return_, 1)) : W p l e R s m args below meth c H locs 0 0 (zQu below args s D tys w A res) (F0 m pc ls []) := by
  obtain ⟨hx, hb, hml, hown, hts, hr, hlk⟩ := hC
  obtain ⟨hK, hP, hD, hS, hA, hT⟩ := hI
  exact W.vret hx hb hr (fun t ht hW => ⟨⟨σ, rfl, Option.some.inj hf, by rw [ht]; exact hP, va_K.moved hW.alike hK, hD⟩, hS.F ht⟩) hS.2.2 hdg hlk
/-- fields -/
theorem z_get (hC : zC p m c cc nL s args Ts own meth ret) {w : va_W} (hI : zI st D tys w A s H locs) {C : String} {T : u_T} {N ci index : Nat} (hin : ∀ w ∈ u_ws C T N, w ∈ Ts) (q0 : Nat) {fs : List Value} (he : w[q0]? = some (a, .inr (ci, fs))) (hc : vwCl[ci]? = some (C, T, N)) (k : Nat) (hk : k < N) (hlink : Cond.fieldLink own index (T k).1 (T k).2.1 (T k).2.2.1 ∈ Ts) {v : Value} (hv : fs[k]? = some v) (hdg : decode cc pc = .ok (.getfield index, 3))
    (kk : W p l e R s m args below meth c H locs cells slots Q (F0 m (pc + 3) ls (v :: rest))) : W p l e R s m args below meth c H locs cells slots Q (F0 m pc ls (.ref a :: rest)) :=
  va_get hC.1 hC.2.1 hC.2.2.2.2.1 hin hC.2.2.2.1 hI.1 hI.2.1 q0 he hc k hk (hC.2.2.2.2.1 _ hlink) (fun _ h => h) hv hdg kk
theorem z_put (hC : zC p m c cc nL s args Ts own meth ret) {w w1 : va_W} (hI : zI st D tys w A s H locs) {C : String} {T : u_T} {N ci index : Nat} (hin : ∀ w ∈ u_ws C T N, w ∈ Ts) {ty0 : Nat → FieldType} (hty : ∀ k, k < N → parseFieldDescriptor (T k).2.2.1 = some (ty0 k)) (hnm : ∀ a, a < N → ∀ b, b < N → a ≠ b → (T a).2.1 ≠ (T b).2.1) (q0 : Nat) {fs : List Value} (he : w[q0]? = some (a, .inr (ci, fs))) (hc : vwCl[ci]? = some (C, T, N)) (k : Nat) (hk : k < N) (hlink : Cond.fieldLink own index (T k).1 (T k).2.1 (T k).2.2.1 ∈ Ts) (hfin : (T k).2.2.2 = false) {v : Value} (hn : narrow (ty0 k) v = v) (hfit : fits (ty0 k) v = true) (hl : k < fs.length) (hs : w.set q0 (a, .inr (ci, fs.set k v)) = w1) (hdg : decode cc pc = .ok (.putfield index, 3))
    (kk : ∀ (H1 : Heap) (locs1 : List Loc), zI st D tys w1 A s H1 locs1 → W p l e R s m args below meth c H1 locs1 cells slots Q (F0 m (pc + 3) ls rest)) : W p l e R s m args below meth c H locs cells slots Q (F0 m pc ls (v :: .ref a :: rest)) := by
  subst hs
  exact va_put hC.1 hC.2.1 hC.2.2.2.2.1 hin ty0 hty hnm hC.2.2.2.1 hI.1 hI.2.1 hI.2.2.1 hI.2.2.2.1 q0 he hc k hk (hC.2.2.2.2.1 _ hlink) (fun _ h => h) hfin (hty k hk) hn hfit hl hdg (fun H1 locs1 h1 h2 h3 => kk H1 locs1 ⟨hI.1, h1, h2, h3, hI.2.2.2.2⟩)
/-- arrays -/
theorem z_iald (hC : zC p m c cc nL s args Ts own meth ret) {w : va_W} (hI : zI st D tys w A s H locs) (q0 t0 : Nat) {cA : ClassId} {n : Nat} {f : Nat → Int32} (ha : w[q0]? = some (a, .inl (cA, n, .inl f))) (ht : tys[t0]? = some (cA, .int)) {i : Int32} (hin : zin i n = true) (hdg : decode cc pc = .ok (.iaload, 1))
    (kk : W p l e R s m args below meth c H locs cells slots Q (F0 m (pc + 1) ls (.int (f i.toNatClampNeg) :: rest))) : W p l e R s m args below meth c H locs cells slots Q (F0 m pc ls (.int i :: .ref a :: rest)) :=
  va_iald hC.1 hC.2.1 hI.1 hI.2.1 q0 t0 ha ht (zin_in hin) hdg kk
theorem z_iast (hC : zC p m c cc nL s args Ts own meth ret) {w w1 : va_W} (hI : zI st D tys w A s H locs) (q0 t0 : Nat) {cA : ClassId} {n : Nat} {f : Nat → Int32} (ha : w[q0]? = some (a, .inl (cA, n, .inl f))) (ht : tys[t0]? = some (cA, .int)) {i x : Int32} (hin : zin i n = true) (hs : w.set q0 (a, .inl (cA, n, .inl (upd f i.toNatClampNeg x))) = w1) (hdg : decode cc pc = .ok (.iastore, 1))
    (kk : ∀ (H1 : Heap) (locs1 : List Loc), zI st D tys w1 A s H1 locs1 → W p l e R s m args below meth c H1 locs1 cells slots Q (F0 m (pc + 1) ls rest)) : W p l e R s m args below meth c H locs cells slots Q (F0 m pc ls (.int x :: .int i :: .ref a :: rest)) := by
  subst hs
  exact va_iast hC.1 hC.2.1 hI.1 hI.2.1 hI.2.2.1 hI.2.2.2.1 q0 t0 ha ht (zin_in hin) hdg (fun H1 locs1 h1 h2 h3 => kk H1 locs1 ⟨hI.1, h1, h2, h3, hI.2.2.2.2⟩)
theorem z_gets (hC : zC p m c cc nL s args Ts own meth ret) {w : va_W} (hI : zI st D tys w A s H locs) (k : Nat) (hk : k < zNS) {index : Nat} (hlink : Cond.fieldLink own index (zsC k) (zsN k) (zsD k) ∈ Ts) (hdg : decode cc pc = .ok (.getstatic index, 3))
    (kk : W p l e R s m args below meth c H locs cells slots Q (F0 m (pc + 3) ls (.ref (st k) :: rest))) : W p l e R s m args below meth c H locs cells slots Q (F0 m pc ls rest) :=
  va_gets hC.1 hC.2.1 (hI.2.2.2.2.2.1 k hk).1 hI.2.2.2.1 hC.2.2.2.1 (hC.2.2.2.2.1 _ hlink) (fun _ h => h) hdg kk
theorem z_ldcS (hC : zC p m c cc nL s args Ts own meth ret) {w : va_W} (hI : zI st D tys w A s H locs) (i : Nat) (hi : i < zNK) {index : Nat} (ho : zkO i = own) (hx : zkI i = index) (hdg : decode cc pc = .ok (.ldc index, 2))
    (kk : W p l e R s m args below meth c H locs cells slots Q (F0 m (pc + 2) ls (.ref (st (100 + i)) :: rest))) : W p l e R s m args below meth c H locs cells slots Q (F0 m pc ls rest) := by
  subst ho hx
  exact va_ldcS hC.1 hC.2.1 hC.2.2.2.1 (hI.2.2.2.2.2.2.2.1 i hi) hdg kk
theorem z_ldcSW (hC : zC p m c cc nL s args Ts own meth ret) {w : va_W} (hI : zI st D tys w A s H locs) (i : Nat) (hi : i < zNK) {index : Nat} (ho : zkO i = own) (hx : zkI i = index) (hdg : decode cc pc = .ok (.ldc_w index, 3))
    (kk : W p l e R s m args below meth c H locs cells slots Q (F0 m (pc + 3) ls (.ref (st (100 + i)) :: rest))) : W p l e R s m args below meth c H locs cells slots Q (F0 m pc ls rest) := by
  subst ho hx
  have hZ := hI.2.2.2.2.2.2.2.1 i hi
  intro T hT X
  obtain ⟨t, a1, b1⟩ := kk T hT X
  exact ⟨t, X.ldcStringW hC.1 hC.2.2.2.1 (text := zkT i) (a := st (100 + i)) hZ.1 hZ.2 (g := F0 m pc ls rest) rfl (by rw [hC.2.1]; exact hdg) t a1, b1⟩
theorem z_ti (hC : zC p m c cc nL s args Ts own meth ret) {w : va_W} (hI : zI st D tys w A s H locs) (k : Nat) (hk : k < zNS) (hy : zsY k = .int) {i v : Int32} {N : Nat} (hN : zsL k = N) (hin : zin i N = true) (hv : zsF k i.toNatClampNeg = .int v) (hdg : decode cc pc = .ok (.iaload, 1))
    (kk : W p l e R s m args below meth c H locs cells slots Q (F0 m (pc + 1) ls (.int v :: rest))) : W p l e R s m args below meth c H locs cells slots Q (F0 m pc ls (.int i :: .ref (st k) :: rest)) := by
  subst hN
  exact va_ti hC.1 hC.2.1 (hy ▸ (hI.2.2.2.2.2.1 k hk).2) hI.2.2.2.1 (zin_in hin) hv hdg kk
theorem z_tl (hC : zC p m c cc nL s args Ts own meth ret) {w : va_W} (hI : zI st D tys w A s H locs) (k : Nat) (hk : k < zNS) (hy : zsY k = .long) {i : Int32} {v : Int64} {N : Nat} (hN : zsL k = N) (hin : zin i N = true) (hv : zsF k i.toNatClampNeg = .long v) (hdg : decode cc pc = .ok (.laload, 1))
    (kk : W p l e R s m args below meth c H locs cells slots Q (F0 m (pc + 1) ls (.long v :: rest))) : W p l e R s m args below meth c H locs cells slots Q (F0 m pc ls (.int i :: .ref (st k) :: rest)) := by
  subst hN
  exact va_tl hC.1 hC.2.1 (hy ▸ (hI.2.2.2.2.2.1 k hk).2) hI.2.2.2.1 (zin_in hin) hv hdg kk
theorem z_tlen (hC : zC p m c cc nL s args Ts own meth ret) {w : va_W} (hI : zI st D tys w A s H locs) (k : Nat) (hk : k < zNS) {v : Int32} (hv : Int32.ofNat (zsL k) = v) (hdg : decode cc pc = .ok (.arraylength, 1))
    (kk : W p l e R s m args below meth c H locs cells slots Q (F0 m (pc + 1) ls (.int v :: rest))) : W p l e R s m args below meth c H locs cells slots Q (F0 m pc ls (.ref (st k) :: rest)) :=
  va_tlen hC.1 hC.2.1 (hI.2.2.2.2.2.1 k hk).2 hI.2.2.2.1 hv hdg kk
theorem z_alen (hC : zC p m c cc nL s args Ts own meth ret) {w : va_W} (hI : zI st D tys w A s H locs) (q0 t0 : Nat) {cA : ClassId} {x : vp_A} (ha : w[q0]? = some (a, .inl (cA, x))) {ty : FieldType} (ht : tys[t0]? = some (cA, ty)) {v : Int32} (hv : Int32.ofNat x.1 = v) (hdg : decode cc pc = .ok (.arraylength, 1))
    (kk : W p l e R s m args below meth c H locs cells slots Q (F0 m (pc + 1) ls (.int v :: rest))) : W p l e R s m args below meth c H locs cells slots Q (F0 m pc ls (.ref a :: rest)) :=
  va_alen hC.1 hC.2.1 hI.1 hI.2.1 q0 t0 ha ht hv hdg kk
theorem z_lald (hC : zC p m c cc nL s args Ts own meth ret) {w : va_W} (hI : zI st D tys w A s H locs) (q0 t0 : Nat) {cA : ClassId} {n : Nat} {f : Nat → Int64} (ha : w[q0]? = some (a, .inl (cA, n, .inr (.inl f)))) (ht : tys[t0]? = some (cA, .long)) {i : Int32} (hin : zin i n = true) (hdg : decode cc pc = .ok (.laload, 1))
    (kk : W p l e R s m args below meth c H locs cells slots Q (F0 m (pc + 1) ls (.long (f i.toNatClampNeg) :: rest))) : W p l e R s m args below meth c H locs cells slots Q (F0 m pc ls (.int i :: .ref a :: rest)) :=
  va_lald hC.1 hC.2.1 hI.1 hI.2.1 q0 t0 ha ht (zin_in hin) hdg kk
theorem z_last (hC : zC p m c cc nL s args Ts own meth ret) {w w1 : va_W} (hI : zI st D tys w A s H locs) (q0 t0 : Nat) {cA : ClassId} {n : Nat} {f : Nat → Int64} (ha : w[q0]? = some (a, .inl (cA, n, .inr (.inl f)))) (ht : tys[t0]? = some (cA, .long)) {i : Int32} {x : Int64} (hin : zin i n = true) (hs : w.set q0 (a, .inl (cA, n, .inr (.inl (vp_updL f i.toNatClampNeg x)))) = w1) (hdg : decode cc pc = .ok (.lastore, 1))
    (kk : ∀ (H1 : Heap) (locs1 : List Loc), zI st D tys w1 A s H1 locs1 → W p l e R s m args below meth c H1 locs1 cells slots Q (F0 m (pc + 1) ls rest)) : W p l e R s m args below meth c H locs cells slots Q (F0 m pc ls (.long x :: .int i :: .ref a :: rest)) := by
  subst hs
  exact va_last hC.1 hC.2.1 hI.1 hI.2.1 hI.2.2.1 hI.2.2.2.1 q0 t0 ha ht (zin_in hin) hdg (fun H1 locs1 h1 h2 h3 => kk H1 locs1 ⟨hI.1, h1, h2, h3, hI.2.2.2.2⟩)
theorem z_bald (hC : zC p m c cc nL s args Ts own meth ret) {w : va_W} (hI : zI st D tys w A s H locs) (q0 t0 : Nat) {cA : ClassId} {n : Nat} {f : Nat → Int32} (ha : w[q0]? = some (a, .inl (cA, n, .inl f))) (ht : tys[t0]? = some (cA, .byte)) {i : Int32} (hin : zin i n = true) (hdg : decode cc pc = .ok (.baload, 1))
    (kk : W p l e R s m args below meth c H locs cells slots Q (F0 m (pc + 1) ls (.int (f i.toNatClampNeg) :: rest))) : W p l e R s m args below meth c H locs cells slots Q (F0 m pc ls (.int i :: .ref a :: rest)) :=
  va_bald hC.1 hC.2.1 hI.1 hI.2.1 q0 t0 ha ht (zin_in hin) hdg kk
theorem z_zald (hC : zC p m c cc nL s args Ts own meth ret) {w : va_W} (hI : zI st D tys w A s H locs) (q0 t0 : Nat) {cA : ClassId} {n : Nat} {f : Nat → Int32} (ha : w[q0]? = some (a, .inl (cA, n, .inl f))) (ht : tys[t0]? = some (cA, .boolean)) {i : Int32} (hin : zin i n = true) (hdg : decode cc pc = .ok (.baload, 1))
    (kk : W p l e R s m args below meth c H locs cells slots Q (F0 m (pc + 1) ls (.int (f i.toNatClampNeg) :: rest))) : W p l e R s m args below meth c H locs cells slots Q (F0 m pc ls (.int i :: .ref a :: rest)) :=
  va_zald hC.1 hC.2.1 hI.1 hI.2.1 q0 t0 ha ht (zin_in hin) hdg kk
theorem z_bast (hC : zC p m c cc nL s args Ts own meth ret) {w w1 : va_W} (hI : zI st D tys w A s H locs) (q0 t0 : Nat) {cA : ClassId} {n : Nat} {f : Nat → Int32} (ha : w[q0]? = some (a, .inl (cA, n, .inl f))) (ht : tys[t0]? = some (cA, .byte)) {i x : Int32} (hin : zin i n = true) (hs : w.set q0 (a, .inl (cA, n, .inl (upd f i.toNatClampNeg (vp_nar .byte x)))) = w1) (hdg : decode cc pc = .ok (.bastore, 1))
    (kk : ∀ (H1 : Heap) (locs1 : List Loc), zI st D tys w1 A s H1 locs1 → W p l e R s m args below meth c H1 locs1 cells slots Q (F0 m (pc + 1) ls rest)) : W p l e R s m args below meth c H locs cells slots Q (F0 m pc ls (.int x :: .int i :: .ref a :: rest)) := by
  subst hs
  exact va_bast hC.1 hC.2.1 hI.1 hI.2.1 hI.2.2.1 hI.2.2.2.1 q0 t0 ha ht (zin_in hin) hdg (fun H1 locs1 h1 h2 h3 => kk H1 locs1 ⟨hI.1, h1, h2, h3, hI.2.2.2.2⟩)
theorem z_zast (hC : zC p m c cc nL s args Ts own meth ret) {w w1 : va_W} (hI : zI st D tys w A s H locs) (q0 t0 : Nat) {cA : ClassId} {n : Nat} {f : Nat → Int32} (ha : w[q0]? = some (a, .inl (cA, n, .inl f))) (ht : tys[t0]? = some (cA, .boolean)) {i x : Int32} (hin : zin i n = true) (hs : w.set q0 (a, .inl (cA, n, .inl (upd f i.toNatClampNeg (vp_nar .boolean x)))) = w1) (hdg : decode cc pc = .ok (.bastore, 1))
    (kk : ∀ (H1 : Heap) (locs1 : List Loc), zI st D tys w1 A s H1 locs1 → W p l e R s m args below meth c H1 locs1 cells slots Q (F0 m (pc + 1) ls rest)) : W p l e R s m args below meth c H locs cells slots Q (F0 m pc ls (.int x :: .int i :: .ref a :: rest)) := by
  subst hs
  exact va_zast hC.1 hC.2.1 hI.1 hI.2.1 hI.2.2.1 hI.2.2.2.1 q0 t0 ha ht (zin_in hin) hdg (fun H1 locs1 h1 h2 h3 => kk H1 locs1 ⟨hI.1, h1, h2, h3, hI.2.2.2.2⟩)
theorem z_mmax (hC : zC p m c cc nL s args Ts own meth ret) {index : Nat} (hlink : Cond.methodLink own index Lib.Math.max.name ∈ Ts) (hstat : Cond.static Lib.Math.max.name ∈ Ts) (hini : Cond.initialized "java/lang/Math" ∈ Ts) (hcode : Cond.code Lib.Math.max.name Lib.Math.max.code 2 (some .int) ∈ Ts) (hls : lv_has ls nL lv0) (hframes : 1 ≤ R.frames) (hlocals : (rest.map fun v => v.category).sum + 13 ≤ R.locals) (hcl : cells ≤ R.cells ∧ slots ≤ R.slots) {x y : Int32} (hdg : decode cc pc = .ok (.invokestatic index, 3))
    (kk : W p l e R s m args below meth c H locs cells slots Q (F0 m (pc + 3) ls (.int (zmax x y) :: rest))) : W p l e R s m args below meth c H locs cells slots Q (F0 m pc ls (.int y :: .int x :: rest)) :=
  va_mmax hC.1 hC.2.1 (hC.2.2.1.trans hls.1.symm) hC.2.2.2.1 (hC.2.2.2.2.1 _ hlink) (hC.2.2.2.2.1 _ hstat) (hC.2.2.2.2.1 _ hini) (hC.2.2.2.2.1 _ hcode) hframes hlocals hcl.1 hcl.2 hdg kk
theorem z_mmin (hC : zC p m c cc nL s args Ts own meth ret) {index : Nat} (hlink : Cond.methodLink own index Lib.Math.min.name ∈ Ts) (hstat : Cond.static Lib.Math.min.name ∈ Ts) (hini : Cond.initialized "java/lang/Math" ∈ Ts) (hcode : Cond.code Lib.Math.min.name Lib.Math.min.code 2 (some .int) ∈ Ts) (hls : lv_has ls nL lv0) (hframes : 1 ≤ R.frames) (hlocals : (rest.map fun v => v.category).sum + 13 ≤ R.locals) (hcl : cells ≤ R.cells ∧ slots ≤ R.slots) {x y : Int32} (hdg : decode cc pc = .ok (.invokestatic index, 3))
    (kk : W p l e R s m args below meth c H locs cells slots Q (F0 m (pc + 3) ls (.int (zmin x y) :: rest))) : W p l e R s m args below meth c H locs cells slots Q (F0 m pc ls (.int y :: .int x :: rest)) :=
  va_mmin hC.1 hC.2.1 (hC.2.2.1.trans hls.1.symm) hC.2.2.2.1 (hC.2.2.2.2.1 _ hlink) (hC.2.2.2.2.1 _ hstat) (hC.2.2.2.2.1 _ hini) (hC.2.2.2.2.1 _ hcode) hframes hlocals hcl.1 hcl.2 hdg kk
/-- calls of a method of an object of the world -/
theorem z_back {w : zSt → va_W} {σ σ1 : zSt} {H1 : Heap} {locs1 : List Loc} {t : State} (hI : zI st D tys (w σ) A s H locs) (ht : t.heap = H1) (hvm : s.vm.Alike t.vm) (hB : zB D tys w (va_A (w σ) H.size) σ1 t) (hS : va_S A s.heap H1 locs1) : zI st D tys (w σ1) A s H1 locs1 := by
  obtain ⟨hP1, hK1, hD1⟩ := hB
  rw [ht] at hP1
  exact ⟨hI.1, hP1, hD1.weaken (fun k q _ h => by
    rcases h with ⟨k2, e2, h⟩ | h
    · exact hI.2.2.1.2 k2 (q.1, e2) h
    · exact hI.2.2.2.2.1 _ (Nat.le_trans hI.2.2.2.1.1 h)), hS, hI.2.2.2.2⟩
theorem z_free {w : va_W} (hI : zI st D tys w A s H locs) : ∀ q, va_A w H.size q → A q := by
  intro q h
  rcases h with ⟨k2, e2, h⟩ | h
  · exact hI.2.2.1.2 k2 (q, e2) h
  · exact hI.2.2.2.2.1 _ (Nat.le_trans hI.2.2.2.1.1 h)
theorem zP.blind {av : List Value} {w : va_W} {sz : Nat} : FrameBlind (va_Pc av (zP st D tys w sz)) := fun a U g mk q => by
  obtain ⟨q0, q1, qP, qK, qD, qT⟩ := q
  exact ⟨q0, q1, qP, va_K.moved (u := U) (U := U.calling g mk a) (Vm.Alike.refl U.vm) qK, qD, zT.same (u := U) (U := U.calling g mk a) rfl qT⟩
theorem zP.at {av : List Value} {w : va_W} (hI : zI st D tys w A s H locs) : ∀ U : State, U.heap = H → s.WarmedH U.vm → va_Pc av (zP st D tys w H.size) av.toArray U := fun U hU hW =>
  ⟨rfl, by rw [hU], by rw [hU]; exact hI.2.1, va_K.moved hW.alike hI.1, hI.2.2.1.weaken (fun _ _ _ _ => trivial), by rw [hU]; exact zT.warm hW ((hI.2.2.2.2.2.kept hI.2.2.2.1.2.1).narrow (z_free hI))⟩
variable {y : MethodName} {ws ws' : List Cond} {rm : Room} {bytes : ByteArray} {maxL index n : Nat} {rt : Option FieldType} {C : String} {b : Nat} {As : List Value} {lv : List (Nat × Value)} {st0 : List Value}
theorem z_callVi (hC : zC p m c cc nL s args Ts own meth ret) {w : zSt → va_W} {σ σ1 : zSt} {r : Int32} (hI : zI st D tys (w σ) A s H locs) (hM : ∀ sz, zMi st l y ws rm (.ref b :: As) D tys w sz σ (σ1, r)) (hT : GoodIn Ts (wsV own index C y ws)) (hw : ws = Cond.code y bytes maxL rt :: ws') (hrm : rm.cells = 0 ∧ rm.slots = 0) (n : Nat)
    (hd : y.cls = C ∧ y.cls ≠ "java/lang/invoke/MethodHandle" ∧ y.cls ≠ "java/lang/invoke/VarHandle" ∧ (parseMethodDescriptor y.desc).map (fun d => d.parameters.length) = some n) (hR : rm.frames + 1 ≤ R.frames ∧ 8 + (maxL + 11) + rm.locals ≤ R.locals)
    {q0 ci : Nat} {q : vw_C} {fs : List Value} (hc : vwCl[ci]? = some q) (hq : q.1 = C) (he : (w σ)[q0]? = some (b, .inr (ci, fs))) (hn : As.length = n) (hl : lv_has ls nL lv) (hst : st0 = As.reverse ++ .ref b :: rest) (hW : (rest.map fun v => v.category).sum ≤ 8) (hdg : decode cc pc = .ok (.invokevirtual index, 3)) (hcl : cells ≤ R.cells ∧ slots ≤ R.slots)
    (kk : ∀ (H1 : Heap) (locs1 : List Loc), zI st D tys (w σ1) A s H1 locs1 → W p l e R s m args below meth c H1 locs1 cells slots Q (F0 m (pc + 3) ls (.int r :: rest))) : W p l e R s m args below meth c H locs cells slots Q (F0 m pc ls st0) := by
  subst hq
  refine va_calli (va_runV (As := As) (rest := rest) ⟨hC.1, hC.2.1, hC.2.2.1, hC.2.2.2.1, hC.2.2.2.2.1⟩ (hM H.size) (cwV n hC.2.2.2.2.1 hT hw hrm.1 hrm.2 hd hR) ⟨zP.blind, va_recv hI.1 hI.2.1 hc he, zP.at hI⟩ rfl hn hl.1 hst (lv_room hW) hdg hcl) hI.2.2.2.1 (fun q _ h => z_free hI q h) (z_free hI) (fun r' u t H1 locs1 ht hvm hw' hB _ _ hS => ?_)
  obtain ⟨rfl, rfl⟩ := Prod.mk.inj hw'
  exact kk H1 locs1 (z_back hI ht hvm hB hS)
theorem z_callVl (hC : zC p m c cc nL s args Ts own meth ret) {w : zSt → va_W} {σ σ1 : zSt} {r : Int64} (hI : zI st D tys (w σ) A s H locs) (hM : ∀ sz, zMl st l y ws rm (.ref b :: As) D tys w sz σ (σ1, r)) (hT : GoodIn Ts (wsV own index C y ws)) (hw : ws = Cond.code y bytes maxL rt :: ws') (hrm : rm.cells = 0 ∧ rm.slots = 0) (n : Nat)
    (hd : y.cls = C ∧ y.cls ≠ "java/lang/invoke/MethodHandle" ∧ y.cls ≠ "java/lang/invoke/VarHandle" ∧ (parseMethodDescriptor y.desc).map (fun d => d.parameters.length) = some n) (hR : rm.frames + 1 ≤ R.frames ∧ 8 + (maxL + 11) + rm.locals ≤ R.locals)
    {q0 ci : Nat} {q : vw_C} {fs : List Value} (hc : vwCl[ci]? = some q) (hq : q.1 = C) (he : (w σ)[q0]? = some (b, .inr (ci, fs))) (hn : As.length = n) (hl : lv_has ls nL lv) (hst : st0 = As.reverse ++ .ref b :: rest) (hW : (rest.map fun v => v.category).sum ≤ 8) (hdg : decode cc pc = .ok (.invokevirtual index, 3)) (hcl : cells ≤ R.cells ∧ slots ≤ R.slots)
    (kk : ∀ (H1 : Heap) (locs1 : List Loc), zI st D tys (w σ1) A s H1 locs1 → W p l e R s m args below meth c H1 locs1 cells slots Q (F0 m (pc + 3) ls (.long r :: rest))) : W p l e R s m args below meth c H locs cells slots Q (F0 m pc ls st0) := by
  subst hq
  refine va_calll (va_runV (As := As) (rest := rest) ⟨hC.1, hC.2.1, hC.2.2.1, hC.2.2.2.1, hC.2.2.2.2.1⟩ (hM H.size) (cwV n hC.2.2.2.2.1 hT hw hrm.1 hrm.2 hd hR) ⟨zP.blind, va_recv hI.1 hI.2.1 hc he, zP.at hI⟩ rfl hn hl.1 hst (lv_room hW) hdg hcl) hI.2.2.2.1 (fun q _ h => z_free hI q h) (z_free hI) (fun r' u t H1 locs1 ht hvm hw' hB _ _ hS => ?_)
  obtain ⟨rfl, rfl⟩ := Prod.mk.inj hw'
  exact kk H1 locs1 (z_back hI ht hvm hB hS)
theorem z_callVu (hC : zC p m c cc nL s args Ts own meth ret) {w : zSt → va_W} {σ σ1 : zSt} (hI : zI st D tys (w σ) A s H locs) (hM : ∀ sz, zMu st l y ws rm (.ref b :: As) D tys w sz σ σ1) (hT : GoodIn Ts (wsV own index C y ws)) (hw : ws = Cond.code y bytes maxL rt :: ws') (hrm : rm.cells = 0 ∧ rm.slots = 0) (n : Nat)
    (hd : y.cls = C ∧ y.cls ≠ "java/lang/invoke/MethodHandle" ∧ y.cls ≠ "java/lang/invoke/VarHandle" ∧ (parseMethodDescriptor y.desc).map (fun d => d.parameters.length) = some n) (hR : rm.frames + 1 ≤ R.frames ∧ 8 + (maxL + 11) + rm.locals ≤ R.locals)
    {q0 ci : Nat} {q : vw_C} {fs : List Value} (hc : vwCl[ci]? = some q) (hq : q.1 = C) (he : (w σ)[q0]? = some (b, .inr (ci, fs))) (hn : As.length = n) (hl : lv_has ls nL lv) (hst : st0 = As.reverse ++ .ref b :: rest) (hW : (rest.map fun v => v.category).sum ≤ 8) (hdg : decode cc pc = .ok (.invokevirtual index, 3)) (hcl : cells ≤ R.cells ∧ slots ≤ R.slots)
    (kk : ∀ (H1 : Heap) (locs1 : List Loc), zI st D tys (w σ1) A s H1 locs1 → W p l e R s m args below meth c H1 locs1 cells slots Q (F0 m (pc + 3) ls rest)) : W p l e R s m args below meth c H locs cells slots Q (F0 m pc ls st0) := by
  subst hq
  refine va_callv (va_runV (As := As) (rest := rest) ⟨hC.1, hC.2.1, hC.2.2.1, hC.2.2.2.1, hC.2.2.2.2.1⟩ (hM H.size) (cwV n hC.2.2.2.2.1 hT hw hrm.1 hrm.2 hd hR) ⟨zP.blind, va_recv hI.1 hI.2.1 hc he, zP.at hI⟩ rfl hn hl.1 hst (lv_room hW) hdg hcl) hI.2.2.2.1 (fun q _ h => z_free hI q h) (z_free hI) (fun u t H1 locs1 ht hvm hw' hB _ _ hS => ?_)
  subst hw'
  exact kk H1 locs1 (z_back hI ht hvm hB hS)
theorem z_recvK {w : va_W} (hI : zI st D tys w A s H locs) (i : Nat) (hi : i < zNK) : ∃ cell : Cell, H[st (100 + i)]? = some cell ∧ cell.vm.isStatics = false ∧ s.vm.findClass "java/lang/String" = some cell.cls := by
  obtain ⟨cell, h1, h2, h3, -⟩ := (hI.2.2.2.2.2.2.1 i hi).1.kept hI.2.2.2.1.2.1
  exact ⟨cell, h1, h2, h3⟩
theorem z_callVk (hC : zC p m c cc nL s args Ts own meth ret) {w : zSt → va_W} {σ σ1 : zSt} {r : Nat} (hI : zI st D tys (w σ) A s H locs) (hM : ∀ sz, zMk st l y ws rm (.ref b :: As) D tys w sz σ (σ1, r)) (hT : GoodIn Ts (wsV own index C y ws)) (hw : ws = Cond.code y bytes maxL rt :: ws') (hrm : rm.cells = 0 ∧ rm.slots = 0) (n : Nat)
    (hd : y.cls = C ∧ y.cls ≠ "java/lang/invoke/MethodHandle" ∧ y.cls ≠ "java/lang/invoke/VarHandle" ∧ (parseMethodDescriptor y.desc).map (fun d => d.parameters.length) = some n) (hR : rm.frames + 1 ≤ R.frames ∧ 8 + (maxL + 11) + rm.locals ≤ R.locals)
    {q0 ci : Nat} {q : vw_C} {fs : List Value} (hc : vwCl[ci]? = some q) (hq : q.1 = C) (he : (w σ)[q0]? = some (b, .inr (ci, fs))) (hn : As.length = n) (hl : lv_has ls nL lv) (hst : st0 = As.reverse ++ .ref b :: rest) (hW : (rest.map fun v => v.category).sum ≤ 8) (hdg : decode cc pc = .ok (.invokevirtual index, 3)) (hcl : cells ≤ R.cells ∧ slots ≤ R.slots)
    (kk : ∀ (H1 : Heap) (locs1 : List Loc), zI st D tys (w σ1) A s H1 locs1 → W p l e R s m args below meth c H1 locs1 cells slots Q (F0 m (pc + 3) ls (.ref (st (100 + r)) :: rest))) : W p l e R s m args below meth c H locs cells slots Q (F0 m pc ls st0) := by
  subst hq
  refine va_callr (va_runV (As := As) (rest := rest) ⟨hC.1, hC.2.1, hC.2.2.1, hC.2.2.2.1, hC.2.2.2.2.1⟩ (hM H.size) (cwV n hC.2.2.2.2.1 hT hw hrm.1 hrm.2 hd hR) ⟨zP.blind, va_recv hI.1 hI.2.1 hc he, zP.at hI⟩ rfl hn hl.1 hst (lv_room hW) hdg hcl) hI.2.2.2.1 (fun q _ h => z_free hI q h) (z_free hI) (fun u ra t H1 locs1 ht hvm hw' hB _ _ hS => ?_)
  obtain ⟨rfl, hB⟩ := hB
  subst hw'
  exact kk H1 locs1 (z_back hI ht hvm hB hS)
theorem z_callKi (hC : zC p m c cc nL s args Ts own meth ret) {w : zSt → va_W} {σ σ1 : zSt} {r : Int32} (hI : zI st D tys (w σ) A s H locs) {i : Nat} (hM : ∀ sz, zMi st l y ws rm (.ref (st (100 + i)) :: As) D tys w sz σ (σ1, r)) (hT : GoodIn Ts (wsV own index C y ws)) (hw : ws = Cond.code y bytes maxL rt :: ws') (hrm : rm.cells = 0 ∧ rm.slots = 0) (n : Nat)
    (hd : y.cls = C ∧ y.cls ≠ "java/lang/invoke/MethodHandle" ∧ y.cls ≠ "java/lang/invoke/VarHandle" ∧ (parseMethodDescriptor y.desc).map (fun d => d.parameters.length) = some n) (hR : rm.frames + 1 ≤ R.frames ∧ 8 + (maxL + 11) + rm.locals ≤ R.locals)
    (hi : i < zNK) (hq : "java/lang/String" = C) (hn : As.length = n) (hl : lv_has ls nL lv) (hst : st0 = As.reverse ++ .ref (st (100 + i)) :: rest) (hW : (rest.map fun v => v.category).sum ≤ 8) (hdg : decode cc pc = .ok (.invokevirtual index, 3)) (hcl : cells ≤ R.cells ∧ slots ≤ R.slots)
    (kk : ∀ (H1 : Heap) (locs1 : List Loc), zI st D tys (w σ1) A s H1 locs1 → W p l e R s m args below meth c H1 locs1 cells slots Q (F0 m (pc + 3) ls (.int r :: rest))) : W p l e R s m args below meth c H locs cells slots Q (F0 m pc ls st0) := by
  subst hq
  refine va_calli (va_runV (As := As) (rest := rest) ⟨hC.1, hC.2.1, hC.2.2.1, hC.2.2.2.1, hC.2.2.2.2.1⟩ (hM H.size) (cwV n hC.2.2.2.2.1 hT hw hrm.1 hrm.2 hd hR) ⟨zP.blind, z_recvK hI i hi, zP.at hI⟩ rfl hn hl.1 hst (lv_room hW) hdg hcl) hI.2.2.2.1 (fun q _ h => z_free hI q h) (z_free hI) (fun r' u t H1 locs1 ht hvm hw' hB _ _ hS => ?_)
  obtain ⟨rfl, rfl⟩ := Prod.mk.inj hw'
  exact kk H1 locs1 (z_back hI ht hvm hB hS)
theorem z_callSi (hC : zC p m c cc nL s args Ts own meth ret) {w : zSt → va_W} {σ σ1 : zSt} {r : Int32} (hI : zI st D tys (w σ) A s H locs) (hM : ∀ sz, zMi st l y ws rm As D tys w sz σ (σ1, r)) (hT : GoodIn Ts (va_wsS own index y ws)) (hw : ws = Cond.code y bytes maxL rt :: ws') (hrm : rm.cells = 0 ∧ rm.slots = 0) (n : Nat)
    (hd : y.cls ≠ "java/lang/invoke/MethodHandle" ∧ y.cls ≠ "java/lang/invoke/VarHandle" ∧ (parseMethodDescriptor y.desc).map (fun d => d.parameters.length) = some n) (hR : rm.frames + 1 ≤ R.frames ∧ 8 + (maxL + 11) + rm.locals ≤ R.locals)
    (hn : As.length = n) (hl : lv_has ls nL lv) (hst : st0 = As.reverse ++ rest) (hW : (rest.map fun v => v.category).sum ≤ 8) (hdg : decode cc pc = .ok (.invokestatic index, 3)) (hcl : cells ≤ R.cells ∧ slots ≤ R.slots)
    (kk : ∀ (H1 : Heap) (locs1 : List Loc), zI st D tys (w σ1) A s H1 locs1 → W p l e R s m args below meth c H1 locs1 cells slots Q (F0 m (pc + 3) ls (.int r :: rest))) : W p l e R s m args below meth c H locs cells slots Q (F0 m pc ls st0) := by
  refine va_calli (va_runS (As := As) (rest := rest) ⟨hC.1, hC.2.1, hC.2.2.1, hC.2.2.2.1, hC.2.2.2.2.1⟩ (hM H.size) (va_cwS n hC.2.2.2.2.1 hT hw hrm.1 hrm.2 hd hR) ⟨zP.blind, zP.at hI⟩ rfl hn hl.1 hst (lv_room hW) hdg hcl) hI.2.2.2.1 (fun q _ h => z_free hI q h) (z_free hI) (fun r' u t H1 locs1 ht hvm hw' hB _ _ hS => ?_)
  obtain ⟨rfl, rfl⟩ := Prod.mk.inj hw'
  exact kk H1 locs1 (z_back hI ht hvm hB hS)
theorem z_callSl (hC : zC p m c cc nL s args Ts own meth ret) {w : zSt → va_W} {σ σ1 : zSt} {r : Int64} (hI : zI st D tys (w σ) A s H locs) (hM : ∀ sz, zMl st l y ws rm As D tys w sz σ (σ1, r)) (hT : GoodIn Ts (va_wsS own index y ws)) (hw : ws = Cond.code y bytes maxL rt :: ws') (hrm : rm.cells = 0 ∧ rm.slots = 0) (n : Nat)
    (hd : y.cls ≠ "java/lang/invoke/MethodHandle" ∧ y.cls ≠ "java/lang/invoke/VarHandle" ∧ (parseMethodDescriptor y.desc).map (fun d => d.parameters.length) = some n) (hR : rm.frames + 1 ≤ R.frames ∧ 8 + (maxL + 11) + rm.locals ≤ R.locals)
    (hn : As.length = n) (hl : lv_has ls nL lv) (hst : st0 = As.reverse ++ rest) (hW : (rest.map fun v => v.category).sum ≤ 8) (hdg : decode cc pc = .ok (.invokestatic index, 3)) (hcl : cells ≤ R.cells ∧ slots ≤ R.slots)
    (kk : ∀ (H1 : Heap) (locs1 : List Loc), zI st D tys (w σ1) A s H1 locs1 → W p l e R s m args below meth c H1 locs1 cells slots Q (F0 m (pc + 3) ls (.long r :: rest))) : W p l e R s m args below meth c H locs cells slots Q (F0 m pc ls st0) := by
  refine va_calll (va_runS (As := As) (rest := rest) ⟨hC.1, hC.2.1, hC.2.2.1, hC.2.2.2.1, hC.2.2.2.2.1⟩ (hM H.size) (va_cwS n hC.2.2.2.2.1 hT hw hrm.1 hrm.2 hd hR) ⟨zP.blind, zP.at hI⟩ rfl hn hl.1 hst (lv_room hW) hdg hcl) hI.2.2.2.1 (fun q _ h => z_free hI q h) (z_free hI) (fun r' u t H1 locs1 ht hvm hw' hB _ _ hS => ?_)
  obtain ⟨rfl, rfl⟩ := Prod.mk.inj hw'
  exact kk H1 locs1 (z_back hI ht hvm hB hS)
theorem z_callSu (hC : zC p m c cc nL s args Ts own meth ret) {w : zSt → va_W} {σ σ1 : zSt} (hI : zI st D tys (w σ) A s H locs) (hM : ∀ sz, zMu st l y ws rm As D tys w sz σ σ1) (hT : GoodIn Ts (va_wsS own index y ws)) (hw : ws = Cond.code y bytes maxL rt :: ws') (hrm : rm.cells = 0 ∧ rm.slots = 0) (n : Nat)
    (hd : y.cls ≠ "java/lang/invoke/MethodHandle" ∧ y.cls ≠ "java/lang/invoke/VarHandle" ∧ (parseMethodDescriptor y.desc).map (fun d => d.parameters.length) = some n) (hR : rm.frames + 1 ≤ R.frames ∧ 8 + (maxL + 11) + rm.locals ≤ R.locals)
    (hn : As.length = n) (hl : lv_has ls nL lv) (hst : st0 = As.reverse ++ rest) (hW : (rest.map fun v => v.category).sum ≤ 8) (hdg : decode cc pc = .ok (.invokestatic index, 3)) (hcl : cells ≤ R.cells ∧ slots ≤ R.slots)
    (kk : ∀ (H1 : Heap) (locs1 : List Loc), zI st D tys (w σ1) A s H1 locs1 → W p l e R s m args below meth c H1 locs1 cells slots Q (F0 m (pc + 3) ls rest)) : W p l e R s m args below meth c H locs cells slots Q (F0 m pc ls st0) := by
  refine va_callv (va_runS (As := As) (rest := rest) ⟨hC.1, hC.2.1, hC.2.2.1, hC.2.2.2.1, hC.2.2.2.2.1⟩ (hM H.size) (va_cwS n hC.2.2.2.2.1 hT hw hrm.1 hrm.2 hd hR) ⟨zP.blind, zP.at hI⟩ rfl hn hl.1 hst (lv_room hW) hdg hcl) hI.2.2.2.1 (fun q _ h => z_free hI q h) (z_free hI) (fun u t H1 locs1 ht hvm hw' hB _ _ hS => ?_)
  subst hw'
  exact kk H1 locs1 (z_back hI ht hvm hB hS)
end ZR
end ZJN5
section ZJN6
/-! BASE 2: rows on numbers -/
noncomputable def zrem (x y : Int32) : Int32 := x - x / y * y
noncomputable def zreml (x y : Int64) : Int64 := x - x / y * y
noncomputable def zush (x y : Int32) : Int32 := (x.toUInt32 >>> (y.toUInt32 &&& Int32.toUInt32 31)).toInt32
noncomputable def zlshl (x : Int64) (y : Int32) : Int64 := x <<< (y.toInt64 &&& 63)
noncomputable def zlshr (x : Int64) (y : Int32) : Int64 := x >>> (y.toInt64 &&& 63)
noncomputable def zlushr (x : Int64) (y : Int32) : Int64 := (x.toUInt64 >>> (y.toInt64.toUInt64 &&& Int64.toUInt64 63)).toInt64
theorem zsw {x : Int32} {lo hi : Int} (h : ∀ k : Int, lo ≤ k → k ≤ hi → ¬ x = Int32.ofInt k) : x.toInt < lo ∨ hi < x.toInt := by
  by_cases h1 : x.toInt < lo
  · exact Or.inl h1
  by_cases h2 : hi < x.toInt
  · exact Or.inr h2
  exact absurd (Int32.ofInt_toInt x).symm (h x.toInt (by omega) (by omega))
theorem zbo_n {x : Int32} (h : zbo x = true) : narrow .boolean (.int x) = .int x := by
  simp only [zbo, Bool.or_eq_true, decide_eq_true_eq] at h
  rcases h with h | h <;> subst h <;> rfl
theorem zbo_f {x : Int32} (h : zbo x = true) : fits .boolean (.int x) = true := by
  simp only [zbo, Bool.or_eq_true, decide_eq_true_eq] at h
  rcases h with h | h <;> subst h <;> rfl
noncomputable def zcpi (σ : zSt) (k0 k1 sp dp n : Nat) : zSt := (fun a => bif Nat.beq a k1 then va_cpy (σ.1 k0) (σ.1 a) sp dp n else σ.1 a, σ.2)
noncomputable def zcpl (σ : zSt) (k0 k1 sp dp n : Nat) : zSt := (σ.1, fun a => bif Nat.beq a k1 then va_cpy (σ.2 k0) (σ.2 a) sp dp n else σ.2 a)
noncomputable def zco (sp dp n : Int32) (n0 n1 : Nat) : Bool := (!decide (sp < 0) && !decide (dp < 0)) && (!decide (n < 0) && (decide (sp.toNatClampNeg + n.toNatClampNeg ≤ n0) && decide (dp.toNatClampNeg + n.toNatClampNeg ≤ n1)))
theorem zco_use {sp dp n : Int32} {n0 n1 : Nat} (h : zco sp dp n n0 n1 = true) : ¬ sp < 0 ∧ ¬ dp < 0 ∧ ¬ n < 0 ∧ sp.toNatClampNeg + n.toNatClampNeg ≤ n0 ∧ dp.toNatClampNeg + n.toNatClampNeg ≤ n1 := by
  simp only [zco, Bool.and_eq_true, Bool.not_eq_true', decide_eq_false_iff_not, decide_eq_true_eq] at h
  exact ⟨h.1.1, h.1.2, h.2.1, h.2.2.1, h.2.2.2⟩
noncomputable def zmaxl (x y : Int64) : Int64 := if y < x then x else y
section ZR2
variable {p : Program} {l : Launch} {e : Env} {R : Room} {s : State} {m : MethodId} {args : Array Value} {below : List Frame} {meth : Method} {c : Code} {H : Heap} {locs : List Loc} {cells slots : Nat} {Q : State → Prop} {cc : ByteArray} {pc : Nat} {ls : Array Slot} {rest : List Value}
theorem z_irem (hexec : p.tables.exec = Jvm.exec) (hb : c.code = cc) {x y : Int32} (hdg : decode cc pc = .ok (.irem, 1)) (hne : ¬ y = 0)
    (k : W p l e R s m args below meth c H locs cells slots Q (F0 m (pc + 1) ls (.int (zrem x y) :: rest))) : W p l e R s m args below meth c H locs cells slots Q (F0 m pc ls (.int y :: .int x :: rest)) := lv_irem hexec hb hdg hne k
theorem z_lrem (hexec : p.tables.exec = Jvm.exec) (hb : c.code = cc) {x y : Int64} (hdg : decode cc pc = .ok (.lrem, 1)) (hne : ¬ y = 0)
    (k : W p l e R s m args below meth c H locs cells slots Q (F0 m (pc + 1) ls (.long (zreml x y) :: rest))) : W p l e R s m args below meth c H locs cells slots Q (F0 m pc ls (.long y :: .long x :: rest)) := lv_lrem hexec hb hdg hne k
variable {st : Nat → Nat} {D : va_G} {tys : List (ClassId × FieldType)} {A : Nat → Prop} {nL : Nat} {Ts : List Cond} {own : String} {a a0 : Nat} {ret : Option FieldType} {lv0 : List (Nat × Value)}
theorem z_mmaxl (hC : zC p m c cc nL s args Ts own meth ret) {index : Nat} (hlink : Cond.methodLink own index Lib.MathLoose.max_long.x ∈ Ts) (hstat : Cond.static Lib.MathLoose.max_long.x ∈ Ts) (hini : Cond.initialized "java/lang/Math" ∈ Ts) (hcode : Cond.code Lib.MathLoose.max_long.x Lib.MathLoose.max_long.code 4 (some .long) ∈ Ts) (hls : lv_has ls nL lv0) (hframes : 1 ≤ R.frames) (hlocals : (rest.map fun v => v.category).sum + 15 ≤ R.locals) (hcl : cells ≤ R.cells ∧ slots ≤ R.slots) {x y : Int64} (hdg : decode cc pc = .ok (.invokestatic index, 3))
    (kk : W p l e R s m args below meth c H locs cells slots Q (F0 m (pc + 3) ls (.long (zmaxl x y) :: rest))) : W p l e R s m args below meth c H locs cells slots Q (F0 m pc ls (.long y :: .long x :: rest)) :=
  va_mmax_long hC.1 hC.2.1 (hC.2.2.1.trans hls.1.symm) hC.2.2.2.1 (hC.2.2.2.2.1 _ hlink) (hC.2.2.2.2.1 _ hstat) (hC.2.2.2.2.1 _ hini) (hC.2.2.2.2.1 _ hcode) hframes hlocals hcl.1 hcl.2 hdg kk
theorem z_cpi (hC : zC p m c cc nL s args Ts own meth ret) {w w1 : va_W} (hI : zI st D tys w A s H locs) {index : Nat} (hlink : Cond.methodLink own index arraycopyName ∈ Ts) (hnat : Cond.native arraycopyName ∈ Ts) (hstat : Cond.static arraycopyName ∈ Ts) (hini : Cond.initialized "java/lang/System" ∈ Ts) (hls : lv_has ls nL lv0)
    (q0 q1 t0 t1 : Nat) {c0 c1 : ClassId} {n0 n1 : Nat} {f g : Nat → Int32} (ha0 : w[q0]? = some (a0, .inl (c0, n0, .inl f))) (ha1 : w[q1]? = some (a, .inl (c1, n1, .inl g))) (ht0 : tys[t0]? = some (c0, .int)) (ht1 : tys[t1]? = some (c1, .int)) {sp dp n : Int32} (hq : zco sp dp n n0 n1 = true) (hs : w.set q1 (a, .inl (c1, n1, .inl (va_cpy f g sp.toNatClampNeg dp.toNatClampNeg n.toNatClampNeg))) = w1)
    (hframes : 1 ≤ R.frames) (hlocals : (rest.map fun v => v.category).sum + (nativeFrameWords "java/lang/System" "arraycopy" 5 + 11) ≤ R.locals) (hdg : decode cc pc = .ok (.invokestatic index, 3))
    (kk : ∀ (H1 : Heap) (locs1 : List Loc), zI st D tys w1 A s H1 locs1 → W p l e R s m args below meth c H1 locs1 cells slots Q (F0 m (pc + 3) ls rest)) : W p l e R s m args below meth c H locs cells slots Q (F0 m pc ls (.int n :: .int dp :: .ref a :: .int sp :: .ref a0 :: rest)) := by
  subst hs
  obtain ⟨h1, h2, h3, h4, h5⟩ := zco_use hq
  exact va_copyi hC.1 hC.2.1 (hC.2.2.1.trans hls.1.symm) hC.2.2.2.1 (hC.2.2.2.2.1 _ hlink) (hC.2.2.2.2.1 _ hnat) (hC.2.2.2.2.1 _ hstat) (hC.2.2.2.2.1 _ hini) hI.1 hI.2.1 hI.2.2.1 hI.2.2.2.1 q0 q1 t0 t1 ha0 ha1 ht0 ht1 rfl h1 h2 h3 h4 h5 (fun _ _ => rfl) hframes hlocals hdg (fun H1 locs1 g1 g2 g3 => kk H1 locs1 ⟨hI.1, g1, g2, g3, hI.2.2.2.2⟩)
theorem z_cpl (hC : zC p m c cc nL s args Ts own meth ret) {w w1 : va_W} (hI : zI st D tys w A s H locs) {index : Nat} (hlink : Cond.methodLink own index arraycopyName ∈ Ts) (hnat : Cond.native arraycopyName ∈ Ts) (hstat : Cond.static arraycopyName ∈ Ts) (hini : Cond.initialized "java/lang/System" ∈ Ts) (hls : lv_has ls nL lv0)
    (q0 q1 t0 t1 : Nat) {c0 c1 : ClassId} {n0 n1 : Nat} {f g : Nat → Int64} (ha0 : w[q0]? = some (a0, .inl (c0, n0, .inr (.inl f)))) (ha1 : w[q1]? = some (a, .inl (c1, n1, .inr (.inl g)))) (ht0 : tys[t0]? = some (c0, .long)) (ht1 : tys[t1]? = some (c1, .long)) {sp dp n : Int32} (hq : zco sp dp n n0 n1 = true) (hs : w.set q1 (a, .inl (c1, n1, .inr (.inl (va_cpy f g sp.toNatClampNeg dp.toNatClampNeg n.toNatClampNeg)))) = w1)
    (hframes : 1 ≤ R.frames) (hlocals : (rest.map fun v => v.category).sum + (nativeFrameWords "java/lang/System" "arraycopy" 5 + 11) ≤ R.locals) (hdg : decode cc pc = .ok (.invokestatic index, 3))
    (kk : ∀ (H1 : Heap) (locs1 : List Loc), zI st D tys w1 A s H1 locs1 → W p l e R s m args below meth c H1 locs1 cells slots Q (F0 m (pc + 3) ls rest)) : W p l e R s m args below meth c H locs cells slots Q (F0 m pc ls (.int n :: .int dp :: .ref a :: .int sp :: .ref a0 :: rest)) := by
  subst hs
  obtain ⟨h1, h2, h3, h4, h5⟩ := zco_use hq
  exact va_copyl hC.1 hC.2.1 (hC.2.2.1.trans hls.1.symm) hC.2.2.2.1 (hC.2.2.2.2.1 _ hlink) (hC.2.2.2.2.1 _ hnat) (hC.2.2.2.2.1 _ hstat) (hC.2.2.2.2.1 _ hini) hI.1 hI.2.1 hI.2.2.1 hI.2.2.2.1 q0 q1 t0 t1 ha0 ha1 ht0 ht1 rfl h1 h2 h3 h4 h5 (fun _ _ => rfl) hframes hlocals hdg (fun H1 locs1 g1 g2 g3 => kk H1 locs1 ⟨hI.1, g1, g2, g3, hI.2.2.2.2⟩)
end ZR2
end ZJN6
section ZJN7
noncomputable def wsL_law0_r1 : List Cond := [Cond.classLink RL 8 RX11, Cond.instantiable RX11 12, Cond.initialized RX11, Cond.classLink RL 103 RX12, Cond.instantiable RX12 44, Cond.initialized RX12, Cond.arrayClass .long, Cond.constantLong RL 106 (4294967295), Cond.methodLink RL 94 yL_cell, Cond.static yL_cell, Cond.initialized RL, Cond.code yL_cell cL_cell 2 (some .int), Cond.methodLink RL 100 yX11_init, Cond.instanceMethod yX11_init, Cond.code yX11_init cX11_init 2 none, Cond.methodLink RX11 1 objectInit, Cond.instanceMethod objectInit, Cond.code objectInit ⟨#[0xb1]⟩ 1 none, Cond.fieldLink RX11 7 "PadConsole" "handy" "Z", Cond.classLink RX11 13 RX2, Cond.instantiable RX2 14, Cond.initialized RX2, Cond.fieldLink RX11 16 "PadConsole" "memory" "LPadConsole$Memory;", Cond.classLink RX11 20 RX9]
noncomputable def wsL_law0_r2 : List Cond := [Cond.instantiable RX9 6, Cond.initialized RX9, Cond.fieldLink RX11 25 "PadConsole" "screen" "LPadConsole$Video;", Cond.classLink RX11 29 RX3, Cond.instantiable RX3 9, Cond.initialized RX3, Cond.fieldLink RX11 34 "PadConsole" "painter" "LPadConsole$Painter;", Cond.classLink RX11 38 RX7, Cond.instantiable RX7 2, Cond.initialized RX7, Cond.fieldLink RX11 41 "PadConsole" "tones" "LPadConsole$Sound;", Cond.classLink RX11 45 RX10, Cond.instantiable RX10 8, Cond.initialized RX10, Cond.fieldLink RX11 48 "PadConsole" "synth" "LPadConsole$Waves;", Cond.classLink RX11 52 RX4, Cond.instantiable RX4 6, Cond.initialized RX4, Cond.fieldLink RX11 57 "PadConsole" "ports" "LPadConsole$Ports;", Cond.classLink RX11 61 RX5, Cond.instantiable RX5 6, Cond.initialized RX5, Cond.fieldLink RX11 66 "PadConsole" "processor" "LPadConsole$Processor;", Cond.classLink RX11 70 RX0]
noncomputable def wsL_law0_r3 : List Cond := [Cond.instantiable RX0 6, Cond.initialized RX0, Cond.fieldLink RX11 75 "PadConsole" "clock" "LPadConsole$Clock;", Cond.classLink RX11 79 RX1, Cond.instantiable RX1 6, Cond.initialized RX1, Cond.fieldLink RX11 82 "PadConsole" "desk" "LPadConsole$Desk;", Cond.classLink RX11 86 RX8, Cond.instantiable RX8 11, Cond.initialized RX8, Cond.fieldLink RX11 91 "PadConsole" "teller" "LPadConsole$Teller;", Cond.instanceMethod yX2_init, Cond.code yX2_init cX2_init 1 none, Cond.methodLink RX2 1 objectInit, Cond.constant RX2 9 (262656), Cond.arrayClass .int, Cond.fieldLink RX2 10 "PadConsole$Memory" "tape" "[I", Cond.fieldLink RX2 14 "PadConsole$Memory" "rom" "[I", Cond.fieldLink RX2 17 "PadConsole$Memory" "header" "I", Cond.fieldLink RX2 21 "PadConsole$Memory" "ram" "[I", Cond.fieldLink RX2 24 "PadConsole$Memory" "ramKept" "[I", Cond.constant RX2 27 (32768), Cond.fieldLink RX2 28 "PadConsole$Memory" "charged" "[I", Cond.fieldLink RX2 31 "PadConsole$Memory" "chargedKept" "[I"]
noncomputable def wsL_law0_r4 : List Cond := [Cond.fieldLink RX2 34 "PadConsole$Memory" "pages" "[I", Cond.fieldLink RX2 37 "PadConsole$Memory" "pagesKept" "[I", Cond.methodLink RX11 22 yX9_init, Cond.instanceMethod yX9_init, Cond.code yX9_init cX9_init 3 none, Cond.methodLink RX9 1 objectInit, Cond.fieldLink RX9 9 "PadConsole$Video" "vram" "[I", Cond.fieldLink RX9 13 "PadConsole$Video" "vramKept" "[I", Cond.fieldLink RX9 16 "PadConsole$Video" "s" "[I", Cond.fieldLink RX9 19 "PadConsole$Video" "kept" "[I", Cond.fieldLink RX9 22 "PadConsole$Video" "handy" "Z", Cond.fieldLink RX9 26 "PadConsole$Video" "lines" "I", Cond.methodLink RX11 31 yX3_init, Cond.instanceMethod yX3_init, Cond.code yX3_init cX3_init 3 none, Cond.methodLink RX3 1 objectInit, Cond.constant RX3 9 (61440), Cond.fieldLink RX3 10 "PadConsole$Painter" "picture" "[I", Cond.fieldLink RX3 14 "PadConsole$Painter" "kept" "[I", Cond.fieldLink RX3 17 "PadConsole$Painter" "numbers" "[I", Cond.fieldLink RX3 20 "PadConsole$Painter" "sprites" "[I", Cond.fieldLink RX3 23 "PadConsole$Painter" "colours" "[I", Cond.fieldLink RX3 26 "PadConsole$Painter" "chip" "LPadConsole$Video;", Cond.fieldLink RX3 30 "PadConsole$Painter" "handy" "Z"]
noncomputable def wsL_law0_r5 : List Cond := [Cond.methodLink RX11 40 yX7_init, Cond.instanceMethod yX7_init, Cond.code yX7_init cX7_init 1 none, Cond.methodLink RX7 1 objectInit, Cond.fieldLink RX7 9 "PadConsole$Sound" "s" "[I", Cond.fieldLink RX7 13 "PadConsole$Sound" "kept" "[I", Cond.methodLink RX7 16 yX7_clear, Cond.instanceMethod yX7_clear, Cond.selects RX7 yX7_clear yX7_clear, Cond.code yX7_clear cX7_clear 1 none, Cond.constant RX7 28 (32768), Cond.methodLink RX7 19 yJ7_fill_53178, Cond.static yJ7_fill_53178, Cond.initialized RJ7, Cond.code yJ7_fill_53178 cJ7_fill_53178 4 none, Cond.methodLink RX7 25 yJ7_fill_fda19, Cond.static yJ7_fill_fda19, Cond.code yJ7_fill_fda19 cJ7_fill_fda19 5 none, Cond.methodLink RJ7 13 yJ7_rangeCheck_23922, Cond.static yJ7_rangeCheck_23922, Cond.code yJ7_rangeCheck_23922 cJ7_rangeCheck_23922 3 none, Cond.classLink RJ7 45 RJ4, Cond.instantiable RJ4 4, Cond.initialized RJ4]
noncomputable def wsL_law0_r6 : List Cond := [Cond.methodLink RX11 47 yX10_init, Cond.instanceMethod yX10_init, Cond.code yX10_init cX10_init 1 none, Cond.methodLink RX10 1 objectInit, Cond.fieldLink RX10 9 "PadConsole$Waves" "s" "[I", Cond.fieldLink RX10 13 "PadConsole$Waves" "kept" "[I", Cond.methodLink RX10 16 yX10_clear, Cond.instanceMethod yX10_clear, Cond.selects RX10 yX10_clear yX10_clear, Cond.code yX10_clear cX10_clear 3 none, Cond.methodLink RX10 19 yJ7_fill_53178, Cond.methodLink RX11 54 yX4_init, Cond.instanceMethod yX4_init, Cond.code yX4_init cX4_init 5 none, Cond.methodLink RX4 1 objectInit, Cond.fieldLink RX4 9 "PadConsole$Ports" "p" "[I", Cond.fieldLink RX4 13 "PadConsole$Ports" "kept" "[I", Cond.fieldLink RX4 16 "PadConsole$Ports" "handy" "Z", Cond.fieldLink RX4 20 "PadConsole$Ports" "screen" "LPadConsole$Video;", Cond.fieldLink RX4 24 "PadConsole$Ports" "tones" "LPadConsole$Sound;", Cond.fieldLink RX4 28 "PadConsole$Ports" "synth" "LPadConsole$Waves;", Cond.methodLink RX4 32 yX4_clear, Cond.instanceMethod yX4_clear, Cond.selects RX4 yX4_clear yX4_clear]
noncomputable def wsL_law0_r7 : List Cond := [Cond.code yX4_clear cX4_clear 1 none, Cond.methodLink RX11 63 yX5_init, Cond.instanceMethod yX5_init, Cond.code yX5_init cX5_init 3 none, Cond.methodLink RX5 1 objectInit, Cond.fieldLink RX5 9 "PadConsole$Processor" "\x72" "[I", Cond.fieldLink RX5 13 "PadConsole$Processor" "kept" "[I", Cond.fieldLink RX5 16 "PadConsole$Processor" "j" "I", Cond.fieldLink RX5 20 "PadConsole$Processor" "memory" "LPadConsole$Memory;", Cond.fieldLink RX5 24 "PadConsole$Processor" "ports" "LPadConsole$Ports;", Cond.constant RX5 28 (57328), Cond.methodLink RX11 72 yX0_init, Cond.instanceMethod yX0_init, Cond.code yX0_init cX0_init 3 none, Cond.methodLink RX0 1 objectInit, Cond.classLink RX0 7 RX6, Cond.instantiable RX6 6, Cond.initialized RX6, Cond.fieldLink RX0 10 "PadConsole$Clock" "samples" "LPadConsole$Ring;", Cond.fieldLink RX0 16 "PadConsole$Clock" "mixes" "LPadConsole$Ring;", Cond.fieldLink RX0 19 "PadConsole$Clock" "counts" "[J", Cond.fieldLink RX0 23 "PadConsole$Clock" "kept" "[J", Cond.fieldLink RX0 26 "PadConsole$Clock" "tones" "LPadConsole$Sound;", Cond.fieldLink RX0 30 "PadConsole$Clock" "synth" "LPadConsole$Waves;"]
noncomputable def wsL_law0_r8 : List Cond := [Cond.instanceMethod yX6_init, Cond.code yX6_init cX6_init 1 none, Cond.methodLink RX6 1 objectInit, Cond.fieldLink RX6 9 "PadConsole$Ring" "values" "[J", Cond.fieldLink RX6 13 "PadConsole$Ring" "kept" "[J", Cond.methodLink RX11 81 yX1_init, Cond.instanceMethod yX1_init, Cond.code yX1_init cX1_init 1 none, Cond.methodLink RX1 1 objectInit, Cond.fieldLink RX1 9 "PadConsole$Desk" "stops" "[I", Cond.fieldLink RX1 13 "PadConsole$Desk" "stopsKept" "[I", Cond.fieldLink RX1 16 "PadConsole$Desk" "plans" "[I", Cond.fieldLink RX1 19 "PadConsole$Desk" "plansKept" "[I", Cond.fieldLink RX1 22 "PadConsole$Desk" "steps" "[I", Cond.methodLink RX1 25 yJ7_fill_53178, Cond.methodLink RX11 88 yX8_init, Cond.instanceMethod yX8_init, Cond.code yX8_init cX8_init 2 none, Cond.methodLink RX8 1 objectInit, Cond.fieldLink RX8 9 "PadConsole$Teller" "signs" "[I", Cond.fieldLink RX8 13 "PadConsole$Teller" "memory" "LPadConsole$Memory;", Cond.methodLink RL 105 yX12_init, Cond.instanceMethod yX12_init, Cond.code yX12_init cX12_init 2 none]
noncomputable def wsL_law0_r9 : List Cond := [Cond.methodLink RX12 1 objectInit, Cond.constant RX12 9 (262656), Cond.arrayClass .byte, Cond.fieldLink RX12 10 "PadConsoleModel" "tape" "[B", Cond.constant RX12 14 (262144), Cond.fieldLink RX12 15 "PadConsoleModel" "cartridge" "[B", Cond.fieldLink RX12 18 "PadConsoleModel" "header" "I", Cond.fieldLink RX12 22 "PadConsoleModel" "n" "[I", Cond.fieldLink RX12 26 "PadConsoleModel" "all" "[J", Cond.fieldLink RX12 30 "PadConsoleModel" "ram" "[B", Cond.constant RX12 33 (32768), Cond.fieldLink RX12 34 "PadConsoleModel" "battery" "[B", Cond.fieldLink RX12 37 "PadConsoleModel" "vram" "[B", Cond.fieldLink RX12 40 "PadConsoleModel" "cram" "[B", Cond.constant RX12 43 (61440), Cond.fieldLink RX12 44 "PadConsoleModel" "dots" "[I", Cond.fieldLink RX12 47 "PadConsoleModel" "samples" "[J", Cond.fieldLink RX12 50 "PadConsoleModel" "mixes" "[J", Cond.fieldLink RX12 53 "PadConsoleModel" "savedN" "[I", Cond.fieldLink RX12 56 "PadConsoleModel" "savedAll" "[J", Cond.fieldLink RX12 59 "PadConsoleModel" "savedRam" "[B", Cond.fieldLink RX12 62 "PadConsoleModel" "savedBattery" "[B", Cond.fieldLink RX12 65 "PadConsoleModel" "savedVram" "[B", Cond.fieldLink RX12 68 "PadConsoleModel" "savedCram" "[B"]
noncomputable def wsL_law0_r10 : List Cond := [Cond.fieldLink RX12 71 "PadConsoleModel" "savedDots" "[I", Cond.fieldLink RX12 74 "PadConsoleModel" "savedSamples" "[J", Cond.fieldLink RX12 77 "PadConsoleModel" "savedMixes" "[J", Cond.fieldLink RX12 80 "PadConsoleModel" "trace" "[I", Cond.fieldLink RX12 83 "PadConsoleModel" "line" "[I", Cond.arrayClass .boolean, Cond.fieldLink RX12 86 "PadConsoleModel" "ahead" "[Z", Cond.fieldLink RX12 90 "PadConsoleModel" "over" "[I", Cond.fieldLink RX12 93 "PadConsoleModel" "one" "[Z", Cond.fieldLink RX12 96 "PadConsoleModel" "text" "[I", Cond.fieldLink RX12 99 "PadConsoleModel" "kind" "I", Cond.methodLink RX12 102 yX12_anew, Cond.instanceMethod yX12_anew, Cond.selects RX12 yX12_anew yX12_anew, Cond.code yX12_anew cX12_anew 2 none, Cond.constant RX12 173 (57328), Cond.fieldLink RX12 137 "PadConsoleModel" "paging" "I", Cond.methodLink RL 108 yL_feed, Cond.static yL_feed, Cond.codeWith yL_feed cL_feed 10 (some .int) [(0, 15, 18, 13), (0, 15, 22, 15)], Cond.classLink RL 13 "java/lang/IllegalArgumentException", Cond.methodLink RL 7 yX11_feed, Cond.instanceMethod yX11_feed, Cond.selects RX11 yX11_feed yX11_feed]
noncomputable def wsL_law0_r11 : List Cond := [Cond.code yX11_feed cX11_feed 11 (some .int), Cond.classLink RX11 95 "java/lang/IllegalArgumentException", Cond.initialized "java/lang/IllegalArgumentException", Cond.classLink RX11 107 "java/lang/IllegalStateException", Cond.initialized "java/lang/IllegalStateException", Cond.fieldLink RX11 102 "PadConsole$Memory" "tapeLength" "I", Cond.constant RX11 106 (262656), Cond.methodLink RX11 112 yX2_addToTape, Cond.instanceMethod yX2_addToTape, Cond.selects RX2 yX2_addToTape yX2_addToTape, Cond.code yX2_addToTape cX2_addToTape 2 none, Cond.fieldLink RX2 40 "PadConsole$Memory" "tapeLength" "I", Cond.methodLink RL 111 yX12_feed, Cond.instanceMethod yX12_feed, Cond.selects RX12 yX12_feed yX12_feed, Cond.code yX12_feed cX12_feed 9 (some .int), Cond.constantLong RX12 108 (24), Cond.fieldLink RX12 118 "PadConsoleModel" "taped" "I", Cond.methodLink RX12 110 yX12_within, Cond.static yX12_within, Cond.code yX12_within cX12_within 6 (some .boolean), Cond.methodLink RX12 114 yX12_fails, Cond.instanceMethod yX12_fails, Cond.selects RX12 yX12_fails yX12_fails]
noncomputable def wsL_law0_r12 : List Cond := [Cond.code yX12_fails cX12_fails 3 (some .boolean), Cond.fieldLink RX12 105 "PadConsoleModel" "thrown" "I", Cond.methodLink RL 112 yL_grow, Cond.static yL_grow, Cond.codeWith yL_grow cL_grow 4 (some .int) [(0, 9, 12, 13), (0, 9, 15, 15)], Cond.methodLink RL 17 yX11_grow, Cond.instanceMethod yX11_grow, Cond.selects RX11 yX11_grow yX11_grow, Cond.code yX11_grow cX11_grow 3 (some .int), Cond.methodLink RX11 120 yX2_repeatTape, Cond.instanceMethod yX2_repeatTape, Cond.selects RX2 yX2_repeatTape yX2_repeatTape, Cond.code yX2_repeatTape cX2_repeatTape 5 none, Cond.methodLink RX2 43 Lib.Math.min.name, Cond.static Lib.Math.min.name, Cond.initialized "java/lang/Math", Cond.code Lib.Math.min.name Lib.Math.min.code 2 (some .int), Cond.methodLink RX2 49 Lib.Math.max.name, Cond.static Lib.Math.max.name, Cond.code Lib.Math.max.name Lib.Math.max.code 2 (some .int), Cond.methodLink RL 115 yX12_grow, Cond.instanceMethod yX12_grow, Cond.selects RX12 yX12_grow yX12_grow, Cond.code yX12_grow cX12_grow 3 (some .int)]
noncomputable def wsL_law0_r13 : List Cond := [Cond.methodLink RL 116 yL_patch, Cond.static yL_patch, Cond.codeWith yL_patch cL_patch 5 (some .int) [(0, 6, 9, 13)], Cond.methodLink RL 21 yX11_patch, Cond.instanceMethod yX11_patch, Cond.selects RX11 yX11_patch yX11_patch, Cond.code yX11_patch cX11_patch 4 none, Cond.methodLink RX11 125 yX2_changeTape, Cond.instanceMethod yX2_changeTape, Cond.selects RX2 yX2_changeTape yX2_changeTape, Cond.code yX2_changeTape cX2_changeTape 5 none, Cond.methodLink RL 119 yX12_patch, Cond.instanceMethod yX12_patch, Cond.selects RX12 yX12_patch yX12_patch, Cond.code yX12_patch cX12_patch 5 none, Cond.methodLink RL 120 yX11_load, Cond.instanceMethod yX11_load, Cond.selects RX11 yX11_load yX11_load, Cond.code yX11_load cX11_load 2 (some .int), Cond.fieldLink RX11 139 "PadConsole" "saved" "Z", Cond.methodLink RX11 129 yX2_takeTape, Cond.instanceMethod yX2_takeTape, Cond.selects RX2 yX2_takeTape yX2_takeTape, Cond.code yX2_takeTape cX2_takeTape 4 (some .int)]
noncomputable def wsL_law0_r14 : List Cond := [Cond.fieldLink RX2 52 "PadConsole$Memory" "base" "I", Cond.fieldLink RX2 55 "PadConsole$Memory" "size" "I", Cond.fieldLink RX2 58 "PadConsole$Memory" "banks" "I", Cond.fieldLink RX2 68 "PadConsole$Memory" "paging" "I", Cond.methodLink RX2 61 yX2_findHeader, Cond.instanceMethod yX2_findHeader, Cond.selects RX2 yX2_findHeader yX2_findHeader, Cond.code yX2_findHeader cX2_findHeader 7 (some .int), Cond.fieldLink RX2 71 "PadConsole$Memory" "HEADER_PLACES" "[I", Cond.fieldLink RX2 78 "PadConsole$Memory" "HEADER_SIGNS" "[I", Cond.methodLink RX2 74 yX2_romByte, Cond.instanceMethod yX2_romByte, Cond.selects RX2 yX2_romByte yX2_romByte, Cond.code yX2_romByte cX2_romByte 2 (some .int), Cond.methodLink RX2 65 yX2_findPaging, Cond.instanceMethod yX2_findPaging, Cond.selects RX2 yX2_findPaging yX2_findPaging, Cond.code yX2_findPaging cX2_findPaging 1 (some .int), Cond.constant RX2 81 (49152), Cond.constant RX2 85 (65536), Cond.methodLink RX2 82 yX2_romWord, Cond.instanceMethod yX2_romWord, Cond.selects RX2 yX2_romWord yX2_romWord, Cond.code yX2_romWord cX2_romWord 2 (some .int)]
noncomputable def wsL_law0_r15 : List Cond := [Cond.methodLink RX11 133 yX2_clearRam, Cond.instanceMethod yX2_clearRam, Cond.selects RX2 yX2_clearRam yX2_clearRam, Cond.code yX2_clearRam cX2_clearRam 1 none, Cond.methodLink RX2 103 yJ7_fill_53178, Cond.methodLink RX11 136 yX11_clearAll, Cond.instanceMethod yX11_clearAll, Cond.selects RX11 yX11_clearAll yX11_clearAll, Cond.code yX11_clearAll cX11_clearAll 1 none, Cond.methodLink RX11 338 yX2_clearPages, Cond.instanceMethod yX2_clearPages, Cond.selects RX2 yX2_clearPages yX2_clearPages, Cond.code yX2_clearPages cX2_clearPages 1 none, Cond.methodLink RX11 341 yX9_clear, Cond.instanceMethod yX9_clear, Cond.selects RX9 yX9_clear yX9_clear, Cond.code yX9_clear cX9_clear 1 none, Cond.methodLink RX9 30 yJ7_fill_53178, Cond.methodLink RX11 344 yX7_clear, Cond.methodLink RX11 345 yX10_clear, Cond.methodLink RX11 346 yX4_clear, Cond.methodLink RX11 347 yX5_clear, Cond.instanceMethod yX5_clear, Cond.selects RX5 yX5_clear yX5_clear]
noncomputable def wsL_law0_r16 : List Cond := [Cond.code yX5_clear cX5_clear 1 none, Cond.methodLink RX5 29 yJ7_fill_53178, Cond.methodLink RL 124 yX12_load, Cond.instanceMethod yX12_load, Cond.selects RX12 yX12_load yX12_load, Cond.code yX12_load cX12_load 7 (some .int), Cond.fieldLink RX12 121 "PadConsoleModel" "size" "I", Cond.fieldLink RX12 124 "PadConsoleModel" "banks" "I", Cond.constant RX12 131 (49152), Cond.constant RX12 136 (65536), Cond.fieldLink RX12 140 "PadConsoleModel" "sum" "I", Cond.constant RX12 143 (65535), Cond.fieldLink RX12 144 "PadConsoleModel" "saved" "Z", Cond.methodLink RX12 127 yX12_isHeader, Cond.instanceMethod yX12_isHeader, Cond.selects RX12 yX12_isHeader yX12_isHeader, Cond.code yX12_isHeader cX12_isHeader 3 (some .boolean), Cond.methodLink RX12 132 yX12_bytesAt, Cond.instanceMethod yX12_bytesAt, Cond.selects RX12 yX12_bytesAt yX12_bytesAt, Cond.code yX12_bytesAt cX12_bytesAt 5 (some .int), Cond.methodLink RL 125 yL_card, Cond.static yL_card, Cond.codeWith yL_card cL_card 4 (some .int) [(0, 9, 12, 13)]]
noncomputable def wsL_law0_r17 : List Cond := [Cond.methodLink RL 25 yX11_card, Cond.instanceMethod yX11_card, Cond.selects RX11 yX11_card yX11_card, Cond.code yX11_card cX11_card 2 (some .int), Cond.methodLink RX11 144 yX2_aboutCard, Cond.instanceMethod yX2_aboutCard, Cond.selects RX2 yX2_aboutCard yX2_aboutCard, Cond.code yX2_aboutCard cX2_aboutCard 2 (some .int), Cond.methodLink RX2 86 yX2_decimal, Cond.instanceMethod yX2_decimal, Cond.selects RX2 yX2_decimal yX2_decimal, Cond.code yX2_decimal cX2_decimal 3 (some .int), Cond.methodLink RX2 89 yX2_sumOfCard, Cond.instanceMethod yX2_sumOfCard, Cond.selects RX2 yX2_sumOfCard yX2_sumOfCard, Cond.code yX2_sumOfCard cX2_sumOfCard 4 (some .int), Cond.constant RX2 92 (65535), Cond.methodLink RL 127 yX12_card, Cond.instanceMethod yX12_card, Cond.selects RX12 yX12_card yX12_card, Cond.code yX12_card cX12_card 2 (some .int), Cond.constantLong RX12 148 (7), Cond.methodLink RX12 150 yX12_tens, Cond.instanceMethod yX12_tens]
noncomputable def wsL_law0_r18 : List Cond := [Cond.selects RX12 yX12_tens yX12_tens, Cond.code yX12_tens cX12_tens 2 (some .int), Cond.methodLink RL 128 yL_step, Cond.static yL_step, Cond.codeWith yL_step cL_step 4 (some .int) [(0, 9, 12, 13)], Cond.methodLink RL 28 yX11_step, Cond.instanceMethod yX11_step, Cond.selects RX11 yX11_step yX11_step, Cond.code yX11_step cX11_step 2 (some .int), Cond.methodLink RX11 150 yX11_run, Cond.instanceMethod yX11_run, Cond.selects RX11 yX11_run yX11_run, Cond.code yX11_run cX11_run 8 (some .int), Cond.methodLink RX11 325 yX0_count, Cond.instanceMethod yX0_count, Cond.selects RX0 yX0_count yX0_count, Cond.code yX0_count cX0_count 2 (some .long), Cond.methodLink RX11 247 yX5_value, Cond.instanceMethod yX5_value, Cond.selects RX5 yX5_value yX5_value, Cond.code yX5_value cX5_value 2 (some .int), Cond.methodLink RX11 348 yX1_isStop, Cond.instanceMethod yX1_isStop, Cond.selects RX1 yX1_isStop yX1_isStop]
noncomputable def wsL_law0_r19 : List Cond := [Cond.code yX1_isStop cX1_isStop 2 (some .boolean), Cond.methodLink RX1 41 yX1_placeOfStop, Cond.instanceMethod yX1_placeOfStop, Cond.selects RX1 yX1_placeOfStop yX1_placeOfStop, Cond.code yX1_placeOfStop cX1_placeOfStop 3 (some .int), Cond.methodLink RX11 351 yX1_noteStep, Cond.instanceMethod yX1_noteStep, Cond.selects RX1 yX1_noteStep yX1_noteStep, Cond.code yX1_noteStep cX1_noteStep 2 none, Cond.fieldLink RX1 37 "PadConsole$Desk" "nextStep" "I", Cond.methodLink RX11 354 yX9_asks, Cond.instanceMethod yX9_asks, Cond.selects RX9 yX9_asks yX9_asks, Cond.code yX9_asks cX9_asks 1 (some .boolean), Cond.methodLink RX11 358 yX5_answerCalls, Cond.instanceMethod yX5_answerCalls, Cond.selects RX5 yX5_answerCalls yX5_answerCalls, Cond.code yX5_answerCalls cX5_answerCalls 3 (some .int), Cond.methodLink RX5 48 yX5_breakOff, Cond.instanceMethod yX5_breakOff, Cond.selects RX5 yX5_breakOff yX5_breakOff, Cond.code yX5_breakOff cX5_breakOff 2 none, Cond.methodLink RX5 56 yX5_growR, Cond.instanceMethod yX5_growR]
noncomputable def wsL_law0_r20 : List Cond := [Cond.selects RX5 yX5_growR yX5_growR, Cond.code yX5_growR cX5_growR 1 none, Cond.methodLink RX5 59 yX5_push, Cond.instanceMethod yX5_push, Cond.selects RX5 yX5_push yX5_push, Cond.code yX5_push cX5_push 2 none, Cond.constant RX5 47 (65535), Cond.methodLink RX5 117 yX2_write, Cond.instanceMethod yX2_write, Cond.selects RX2 yX2_write yX2_write, Cond.code yX2_write cX2_write 4 none, Cond.constant RX2 100 (65532), Cond.constant RX2 101 (65533), Cond.constant RX2 102 (40960), Cond.methodLink RX2 93 yX2_batteryIsIn, Cond.instanceMethod yX2_batteryIsIn, Cond.selects RX2 yX2_batteryIsIn yX2_batteryIsIn, Cond.code yX2_batteryIsIn cX2_batteryIsIn 1 (some .boolean), Cond.methodLink RX2 97 yX2_batteryPlace, Cond.instanceMethod yX2_batteryPlace, Cond.selects RX2 yX2_batteryPlace yX2_batteryPlace, Cond.code yX2_batteryPlace cX2_batteryPlace 2 (some .int), Cond.methodLink RX5 62 yX5_goTo, Cond.instanceMethod yX5_goTo]
noncomputable def wsL_law0_r21 : List Cond := [Cond.selects RX5 yX5_goTo yX5_goTo, Cond.code yX5_goTo cX5_goTo 2 none, Cond.methodLink RX5 52 yX5_readWord, Cond.instanceMethod yX5_readWord, Cond.selects RX5 yX5_readWord yX5_readWord, Cond.code yX5_readWord cX5_readWord 2 (some .int), Cond.methodLink RX5 75 yX2_read, Cond.instanceMethod yX2_read, Cond.selects RX2 yX2_read yX2_read, Cond.code yX2_read cX2_read 7 (some .int), Cond.methodLink RX11 362 yX5_carryOn, Cond.instanceMethod yX5_carryOn, Cond.selects RX5 yX5_carryOn yX5_carryOn, Cond.code yX5_carryOn cX5_carryOn 4 (some .int), Cond.fieldLink RX5 68 "PadConsole$Processor" "place" "I", Cond.methodLink RX5 65 yX5_pairAt, Cond.instanceMethod yX5_pairAt, Cond.selects RX5 yX5_pairAt yX5_pairAt, Cond.code yX5_pairAt cX5_pairAt 2 (some .int), Cond.methodLink RX5 71 yX5_fetchOp, Cond.instanceMethod yX5_fetchOp, Cond.selects RX5 yX5_fetchOp yX5_fetchOp, Cond.code yX5_fetchOp cX5_fetchOp 1 (some .int), Cond.methodLink RX5 114 yX5_fetch]
noncomputable def wsL_law0_r22 : List Cond := [Cond.instanceMethod yX5_fetch, Cond.selects RX5 yX5_fetch yX5_fetch, Cond.code yX5_fetch cX5_fetch 2 (some .int), Cond.methodLink RX5 80 yX5_turnBeside, Cond.instanceMethod yX5_turnBeside, Cond.selects RX5 yX5_turnBeside yX5_turnBeside, Cond.code yX5_turnBeside cX5_turnBeside 4 (some .int), Cond.methodLink RX5 226 yX5_askBit, Cond.instanceMethod yX5_askBit, Cond.selects RX5 yX5_askBit yX5_askBit, Cond.code yX5_askBit cX5_askBit 5 none, Cond.methodLink RX5 230 yX5_turned, Cond.instanceMethod yX5_turned, Cond.selects RX5 yX5_turned yX5_turned, Cond.code yX5_turned cX5_turned 4 (some .int), Cond.methodLink RX5 193 yX5_turn, Cond.instanceMethod yX5_turn, Cond.selects RX5 yX5_turn yX5_turn, Cond.code yX5_turn cX5_turn 7 (some .int), Cond.methodLink RX5 187 yX5_by, Cond.static yX5_by, Cond.code yX5_by cX5_by 1 (some .int), Cond.methodLink RX5 196 yX5_parity, Cond.static yX5_parity]
noncomputable def wsL_law0_r23 : List Cond := [Cond.code yX5_parity cX5_parity 1 (some .int), Cond.methodLink RX5 137 yJ6_bitCount_0f7a4, Cond.static yJ6_bitCount_0f7a4, Cond.initialized RJ6, Cond.code yJ6_bitCount_0f7a4 cJ6_bitCount_0f7a4 1 (some .int), Cond.constant RJ6 265 (1431655765), Cond.constant RJ6 266 (858993459), Cond.constant RJ6 267 (252645135), Cond.methodLink RX5 166 yX5_putOne, Cond.instanceMethod yX5_putOne, Cond.selects RX5 yX5_putOne yX5_putOne, Cond.code yX5_putOne cX5_putOne 3 none, Cond.methodLink RX5 130 yX5_putPairHalf, Cond.instanceMethod yX5_putPairHalf, Cond.selects RX5 yX5_putPairHalf yX5_putPairHalf, Cond.code yX5_putPairHalf cX5_putPairHalf 3 none, Cond.constant RX5 133 (65280), Cond.methodLink RX5 83 yX5_takePlace, Cond.instanceMethod yX5_takePlace, Cond.selects RX5 yX5_takePlace yX5_takePlace, Cond.code yX5_takePlace cX5_takePlace 2 (some .int), Cond.methodLink RX5 110 yX5_meansPlace, Cond.static yX5_meansPlace, Cond.code yX5_meansPlace cX5_meansPlace 3 (some .boolean)]
noncomputable def wsL_law0_r24 : List Cond := [Cond.methodLink RX5 86 yX5_turns, Cond.instanceMethod yX5_turns, Cond.selects RX5 yX5_turns yX5_turns, Cond.code yX5_turns cX5_turns 4 (some .int), Cond.methodLink RX5 160 yX5_one, Cond.instanceMethod yX5_one, Cond.selects RX5 yX5_one yX5_one, Cond.code yX5_one cX5_one 2 (some .int), Cond.methodLink RX5 89 yX5_block, Cond.instanceMethod yX5_block, Cond.selects RX5 yX5_block yX5_block, Cond.code yX5_block cX5_block 4 (some .int), Cond.methodLink RX5 259 yX5_copyOne, Cond.instanceMethod yX5_copyOne, Cond.selects RX5 yX5_copyOne yX5_copyOne, Cond.code yX5_copyOne cX5_copyOne 5 (some .boolean), Cond.methodLink RX5 121 yX5_putPairAt, Cond.instanceMethod yX5_putPairAt, Cond.selects RX5 yX5_putPairAt yX5_putPairAt, Cond.code yX5_putPairAt cX5_putPairAt 3 none, Cond.methodLink RX5 262 yX5_compareOne, Cond.instanceMethod yX5_compareOne, Cond.selects RX5 yX5_compareOne yX5_compareOne, Cond.code yX5_compareOne cX5_compareOne 7 (some .boolean)]
noncomputable def wsL_law0_r25 : List Cond := [Cond.methodLink RX5 265 yX5_takeOne, Cond.instanceMethod yX5_takeOne, Cond.selects RX5 yX5_takeOne yX5_takeOne, Cond.code yX5_takeOne cX5_takeOne 3 (some .boolean), Cond.methodLink RX5 225 yX4_read, Cond.instanceMethod yX4_read, Cond.selects RX4 yX4_read yX4_read, Cond.code yX4_read cX4_read 3 (some .int), Cond.methodLink RX4 54 yX4_readHandy, Cond.instanceMethod yX4_readHandy, Cond.selects RX4 yX4_readHandy yX4_readHandy, Cond.code yX4_readHandy cX4_readHandy 2 (some .int), Cond.methodLink RX4 58 yX9_vCount, Cond.instanceMethod yX9_vCount, Cond.selects RX9 yX9_vCount yX9_vCount, Cond.code yX9_vCount cX9_vCount 5 (some .int), Cond.methodLink RX9 50 yX9_height, Cond.instanceMethod yX9_height, Cond.selects RX9 yX9_height yX9_height, Cond.code yX9_height cX9_height 1 (some .int), Cond.methodLink RX4 61 yX9_readData, Cond.instanceMethod yX9_readData, Cond.selects RX9 yX9_readData yX9_readData, Cond.code yX9_readData cX9_readData 2 (some .int)]
noncomputable def wsL_law0_r26 : List Cond := [Cond.methodLink RX9 63 yX9_readAhead, Cond.instanceMethod yX9_readAhead, Cond.selects RX9 yX9_readAhead yX9_readAhead, Cond.code yX9_readAhead cX9_readAhead 1 none, Cond.methodLink RX4 64 yX9_readStatus, Cond.instanceMethod yX9_readStatus, Cond.selects RX9 yX9_readStatus yX9_readStatus, Cond.code yX9_readStatus cX9_readStatus 2 (some .int), Cond.methodLink RX4 69 yX10_value, Cond.instanceMethod yX10_value, Cond.selects RX10 yX10_value yX10_value, Cond.code yX10_value cX10_value 2 (some .int), Cond.constant RX10 31 (65535), Cond.methodLink RX4 72 yX4_readEvenPads, Cond.instanceMethod yX4_readEvenPads, Cond.selects RX4 yX4_readEvenPads yX4_readEvenPads, Cond.code yX4_readEvenPads cX4_readEvenPads 2 (some .int), Cond.methodLink RX4 75 yX4_readOddPads, Cond.instanceMethod yX4_readOddPads, Cond.selects RX4 yX4_readOddPads yX4_readOddPads, Cond.code yX4_readOddPads cX4_readOddPads 2 (some .int), Cond.methodLink RX4 45 yX4_lines, Cond.instanceMethod yX4_lines, Cond.selects RX4 yX4_lines yX4_lines]
noncomputable def wsL_law0_r27 : List Cond := [Cond.code yX4_lines cX4_lines 4 (some .int), Cond.methodLink RX5 271 yX5_tellOfPort, Cond.instanceMethod yX5_tellOfPort, Cond.selects RX5 yX5_tellOfPort yX5_tellOfPort, Cond.code yX5_tellOfPort cX5_tellOfPort 3 none, Cond.methodLink RX5 268 yX5_giveOne, Cond.instanceMethod yX5_giveOne, Cond.selects RX5 yX5_giveOne yX5_giveOne, Cond.code yX5_giveOne cX5_giveOne 3 (some .boolean), Cond.methodLink RX5 222 yX4_write, Cond.instanceMethod yX4_write, Cond.selects RX4 yX4_write yX4_write, Cond.code yX4_write cX4_write 4 none, Cond.methodLink RX4 78 yX4_writeHandy, Cond.instanceMethod yX4_writeHandy, Cond.selects RX4 yX4_writeHandy yX4_writeHandy, Cond.code yX4_writeHandy cX4_writeHandy 3 none, Cond.methodLink RX4 95 yX7_takeStereo, Cond.instanceMethod yX7_takeStereo, Cond.selects RX7 yX7_takeStereo yX7_takeStereo, Cond.code yX7_takeStereo cX7_takeStereo 2 none, Cond.methodLink RX4 41 yX4_changeLines, Cond.instanceMethod yX4_changeLines, Cond.selects RX4 yX4_changeLines yX4_changeLines]
noncomputable def wsL_law0_r28 : List Cond := [Cond.code yX4_changeLines cX4_changeLines 4 none, Cond.methodLink RX4 49 yX9_hCount, Cond.instanceMethod yX9_hCount, Cond.selects RX9 yX9_hCount yX9_hCount, Cond.code yX9_hCount cX9_hCount 2 (some .int), Cond.methodLink RX4 81 yX7_take, Cond.instanceMethod yX7_take, Cond.selects RX7 yX7_take yX7_take, Cond.code yX7_take cX7_take 4 none, Cond.methodLink RX4 87 yX9_writeData, Cond.instanceMethod yX9_writeData, Cond.selects RX9 yX9_writeData yX9_writeData, Cond.code yX9_writeData cX9_writeData 3 none, Cond.methodLink RX9 66 yX9_writeColour, Cond.instanceMethod yX9_writeColour, Cond.selects RX9 yX9_writeColour yX9_writeColour, Cond.code yX9_writeColour cX9_writeColour 3 none, Cond.methodLink RX4 90 yX9_writeControl, Cond.instanceMethod yX9_writeControl, Cond.selects RX9 yX9_writeControl yX9_writeControl, Cond.code yX9_writeControl cX9_writeControl 2 none, Cond.methodLink RX4 93 yX10_take, Cond.instanceMethod yX10_take, Cond.selects RX10 yX10_take yX10_take]
noncomputable def wsL_law0_r29 : List Cond := [Cond.code yX10_take cX10_take 3 none, Cond.methodLink RX5 92 yX5_behindEd, Cond.instanceMethod yX5_behindEd, Cond.selects RX5 yX5_behindEd yX5_behindEd, Cond.code yX5_behindEd cX5_behindEd 3 (some .int), Cond.methodLink RX5 245 Lib.Math.max.name, Cond.methodLink RX5 233 yX5_takeFromPort, Cond.instanceMethod yX5_takeFromPort, Cond.selects RX5 yX5_takeFromPort yX5_takeFromPort, Cond.code yX5_takeFromPort cX5_takeFromPort 3 none, Cond.methodLink RX5 236 yX5_takePair, Cond.instanceMethod yX5_takePair, Cond.selects RX5 yX5_takePair yX5_takePair, Cond.code yX5_takePair cX5_takePair 6 (some .int), Cond.constant RX5 254 (32768), Cond.methodLink RX5 124 yX5_hl, Cond.instanceMethod yX5_hl, Cond.selects RX5 yX5_hl yX5_hl, Cond.code yX5_hl cX5_hl 1 (some .int), Cond.methodLink RX5 154 yX5_pair, Cond.instanceMethod yX5_pair, Cond.selects RX5 yX5_pair yX5_pair, Cond.code yX5_pair cX5_pair 2 (some .int), Cond.methodLink RX5 251 yX5_putWide]
noncomputable def wsL_law0_r30 : List Cond := [Cond.instanceMethod yX5_putWide, Cond.selects RX5 yX5_putWide yX5_putWide, Cond.code yX5_putWide cX5_putWide 4 none, Cond.methodLink RX5 127 yX5_putHl, Cond.instanceMethod yX5_putHl, Cond.selects RX5 yX5_putHl yX5_putHl, Cond.code yX5_putHl cX5_putHl 2 none, Cond.methodLink RX5 239 yX5_addPairAndCarry, Cond.instanceMethod yX5_addPairAndCarry, Cond.selects RX5 yX5_addPairAndCarry yX5_addPairAndCarry, Cond.code yX5_addPairAndCarry cX5_addPairAndCarry 6 (some .int), Cond.methodLink RX5 242 yX5_farPair, Cond.instanceMethod yX5_farPair, Cond.selects RX5 yX5_farPair yX5_farPair, Cond.code yX5_farPair cX5_farPair 3 (some .int), Cond.methodLink RX5 181 yX5_fetchWord, Cond.instanceMethod yX5_fetchWord, Cond.selects RX5 yX5_fetchWord yX5_fetchWord, Cond.code yX5_fetchWord cX5_fetchWord 2 (some .int), Cond.methodLink RX5 184 yX5_writeWord, Cond.instanceMethod yX5_writeWord, Cond.selects RX5 yX5_writeWord yX5_writeWord, Cond.code yX5_writeWord cX5_writeWord 3 none, Cond.methodLink RX5 157 yX5_putPair]
noncomputable def wsL_law0_r31 : List Cond := [Cond.instanceMethod yX5_putPair, Cond.selects RX5 yX5_putPair yX5_putPair, Cond.code yX5_putPair cX5_putPair 3 none, Cond.methodLink RX5 206 yX5_difference, Cond.instanceMethod yX5_difference, Cond.selects RX5 yX5_difference yX5_difference, Cond.code yX5_difference cX5_difference 7 (some .int), Cond.methodLink RX5 209 yX5_pop, Cond.instanceMethod yX5_pop, Cond.selects RX5 yX5_pop yX5_pop, Cond.code yX5_pop cX5_pop 2 (some .int), Cond.methodLink RX5 248 yX5_moreOfA, Cond.instanceMethod yX5_moreOfA, Cond.selects RX5 yX5_moreOfA yX5_moreOfA, Cond.code yX5_moreOfA cX5_moreOfA 2 (some .int), Cond.methodLink RX5 255 yX5_turnDigits, Cond.instanceMethod yX5_turnDigits, Cond.selects RX5 yX5_turnDigits yX5_turnDigits, Cond.code yX5_turnDigits cX5_turnDigits 5 none, Cond.methodLink RX5 95 yX5_firstQuarter, Cond.instanceMethod yX5_firstQuarter, Cond.selects RX5 yX5_firstQuarter yX5_firstQuarter, Cond.code yX5_firstQuarter cX5_firstQuarter 3 (some .int), Cond.methodLink RX5 142 yX5_near]
noncomputable def wsL_law0_r32 : List Cond := [Cond.instanceMethod yX5_near, Cond.selects RX5 yX5_near yX5_near, Cond.code yX5_near cX5_near 4 (some .int), Cond.methodLink RX5 175 yX5_changeWithOther, Cond.instanceMethod yX5_changeWithOther, Cond.selects RX5 yX5_changeWithOther yX5_changeWithOther, Cond.code yX5_changeWithOther cX5_changeWithOther 3 none, Cond.methodLink RX5 178 yX5_holds, Cond.instanceMethod yX5_holds, Cond.selects RX5 yX5_holds yX5_holds, Cond.code yX5_holds cX5_holds 2 (some .boolean), Cond.fieldLink RX5 134 "PadConsole$Processor" "CONDITIONS" "[I", Cond.methodLink RX5 145 yX5_loadPair, Cond.instanceMethod yX5_loadPair, Cond.selects RX5 yX5_loadPair yX5_loadPair, Cond.code yX5_loadPair cX5_loadPair 2 (some .int), Cond.methodLink RX5 148 yX5_addPair, Cond.instanceMethod yX5_addPair, Cond.selects RX5 yX5_addPair yX5_addPair, Cond.code yX5_addPair cX5_addPair 5 (some .int), Cond.methodLink RX5 151 yX5_far, Cond.instanceMethod yX5_far, Cond.selects RX5 yX5_far yX5_far, Cond.code yX5_far cX5_far 4 (some .int)]
noncomputable def wsL_law0_r33 : List Cond := [Cond.methodLink RX5 163 yX5_oneMore, Cond.instanceMethod yX5_oneMore, Cond.selects RX5 yX5_oneMore yX5_oneMore, Cond.code yX5_oneMore cX5_oneMore 3 (some .int), Cond.methodLink RX5 169 yX5_oneLess, Cond.instanceMethod yX5_oneLess, Cond.selects RX5 yX5_oneLess yX5_oneLess, Cond.code yX5_oneLess cX5_oneLess 3 (some .int), Cond.methodLink RX5 172 yX5_changeA, Cond.instanceMethod yX5_changeA, Cond.selects RX5 yX5_changeA yX5_changeA, Cond.code yX5_changeA cX5_changeA 4 none, Cond.methodLink RX5 190 yX5_adjustA, Cond.instanceMethod yX5_adjustA, Cond.selects RX5 yX5_adjustA yX5_adjustA, Cond.code yX5_adjustA cX5_adjustA 8 none, Cond.methodLink RX5 98 yX5_move, Cond.instanceMethod yX5_move, Cond.selects RX5 yX5_move yX5_move, Cond.code yX5_move cX5_move 4 (some .int), Cond.methodLink RX5 101 yX5_doWithRegister, Cond.instanceMethod yX5_doWithRegister, Cond.selects RX5 yX5_doWithRegister yX5_doWithRegister, Cond.code yX5_doWithRegister cX5_doWithRegister 2 (some .int)]
noncomputable def wsL_law0_r34 : List Cond := [Cond.methodLink RX5 199 yX5_doWith, Cond.instanceMethod yX5_doWith, Cond.selects RX5 yX5_doWith yX5_doWith, Cond.code yX5_doWith cX5_doWith 3 none, Cond.methodLink RX5 202 yX5_sum, Cond.instanceMethod yX5_sum, Cond.selects RX5 yX5_sum yX5_sum, Cond.code yX5_sum cX5_sum 7 (some .int), Cond.methodLink RX5 104 yX5_exchange, Cond.instanceMethod yX5_exchange, Cond.selects RX5 yX5_exchange yX5_exchange, Cond.code yX5_exchange cX5_exchange 3 (some .int), Cond.methodLink RX5 107 yX5_lastQuarter, Cond.instanceMethod yX5_lastQuarter, Cond.selects RX5 yX5_lastQuarter yX5_lastQuarter, Cond.code yX5_lastQuarter cX5_lastQuarter 3 (some .int), Cond.methodLink RX5 212 yX5_popPair, Cond.instanceMethod yX5_popPair, Cond.selects RX5 yX5_popPair yX5_popPair, Cond.code yX5_popPair cX5_popPair 3 (some .int), Cond.methodLink RX5 215 yX5_leave, Cond.instanceMethod yX5_leave, Cond.selects RX5 yX5_leave yX5_leave, Cond.code yX5_leave cX5_leave 3 (some .int)]
noncomputable def wsL_law0_r35 : List Cond := [Cond.methodLink RX5 218 yX5_callIf, Cond.instanceMethod yX5_callIf, Cond.selects RX5 yX5_callIf yX5_callIf, Cond.code yX5_callIf cX5_callIf 3 (some .int), Cond.methodLink RX11 365 yX9_passes, Cond.instanceMethod yX9_passes, Cond.selects RX9 yX9_passes yX9_passes, Cond.code yX9_passes cX9_passes 2 (some .boolean), Cond.methodLink RX11 368 yX11_endLine, Cond.instanceMethod yX11_endLine, Cond.selects RX11 yX11_endLine yX11_endLine, Cond.code yX11_endLine cX11_endLine 1 none, Cond.methodLink RX11 374 yX9_held, Cond.instanceMethod yX9_held, Cond.selects RX9 yX9_held yX9_held, Cond.code yX9_held cX9_held 2 (some .int), Cond.methodLink RX11 377 yX9_height, Cond.methodLink RX11 378 yX3_draw, Cond.instanceMethod yX3_draw, Cond.selects RX3 yX3_draw yX3_draw, Cond.code yX3_draw cX3_draw 5 none, Cond.methodLink RX3 62 yX9_held, Cond.methodLink RX3 65 yX9_mode, Cond.instanceMethod yX9_mode]
noncomputable def wsL_law0_r36 : List Cond := [Cond.selects RX9 yX9_mode yX9_mode, Cond.code yX9_mode cX9_mode 1 (some .int), Cond.methodLink RX3 68 yJ7_fill_53178, Cond.methodLink RX3 74 yX3_drawTiles, Cond.instanceMethod yX3_drawTiles, Cond.selects RX3 yX3_drawTiles yX3_drawTiles, Cond.code yX3_drawTiles cX3_drawTiles 14 none, Cond.fieldLink RX3 103 "PadConsole$Painter" "tileBits" "I", Cond.fieldLink RX3 107 "PadConsole$Painter" "planes" "I", Cond.methodLink RX3 40 yX9_height, Cond.methodLink RX3 100 yX3_takeTile, Cond.instanceMethod yX3_takeTile, Cond.selects RX3 yX3_takeTile yX3_takeTile, Cond.code yX3_takeTile cX3_takeTile 5 none, Cond.methodLink RX3 113 yX9_vramByte, Cond.instanceMethod yX9_vramByte, Cond.selects RX9 yX9_vramByte yX9_vramByte, Cond.code yX9_vramByte cX9_vramByte 2 (some .int), Cond.methodLink RX3 116 yX3_takePlanes, Cond.instanceMethod yX3_takePlanes, Cond.selects RX3 yX3_takePlanes yX3_takePlanes, Cond.code yX3_takePlanes cX3_takePlanes 2 none, Cond.methodLink RX3 110 yX3_numberIn, Cond.static yX3_numberIn]
noncomputable def wsL_law0_r37 : List Cond := [Cond.code yX3_numberIn cX3_numberIn 3 (some .int), Cond.constant RX3 119 (16843009), Cond.methodLink RX3 78 yX3_drawSprites, Cond.instanceMethod yX3_drawSprites, Cond.selects RX3 yX3_drawSprites yX3_drawSprites, Cond.code yX3_drawSprites cX3_drawSprites 8 none, Cond.methodLink RX3 120 yX3_rowOfSprite, Cond.instanceMethod yX3_rowOfSprite, Cond.selects RX3 yX3_rowOfSprite yX3_rowOfSprite, Cond.code yX3_rowOfSprite cX3_rowOfSprite 5 (some .int), Cond.methodLink RX3 123 yX9_mark, Cond.instanceMethod yX9_mark, Cond.selects RX9 yX9_mark yX9_mark, Cond.code yX9_mark cX9_mark 2 none, Cond.methodLink RX3 126 yX3_drawSprite, Cond.instanceMethod yX3_drawSprite, Cond.selects RX3 yX3_drawSprite yX3_drawSprite, Cond.code yX3_drawSprite cX3_drawSprite 10 none, Cond.methodLink RX3 81 yJ7_fill_fda19, Cond.methodLink RX3 84 yX3_drawOld, Cond.instanceMethod yX3_drawOld, Cond.selects RX3 yX3_drawOld yX3_drawOld, Cond.code yX3_drawOld cX3_drawOld 6 none, Cond.methodLink RX3 129 yX3_drawText]
noncomputable def wsL_law0_r38 : List Cond := [Cond.instanceMethod yX3_drawText, Cond.selects RX3 yX3_drawText yX3_drawText, Cond.code yX3_drawText cX3_drawText 7 none, Cond.methodLink RX3 132 yX3_patternAt, Cond.instanceMethod yX3_patternAt, Cond.selects RX3 yX3_patternAt yX3_patternAt, Cond.code yX3_patternAt cX3_patternAt 3 (some .int), Cond.methodLink RX3 135 yX3_drawPattern, Cond.instanceMethod yX3_drawPattern, Cond.selects RX3 yX3_drawPattern yX3_drawPattern, Cond.code yX3_drawPattern cX3_drawPattern 5 none, Cond.methodLink RX3 139 yX3_drawThird, Cond.instanceMethod yX3_drawThird, Cond.selects RX3 yX3_drawThird yX3_drawThird, Cond.code yX3_drawThird cX3_drawThird 9 none, Cond.methodLink RX3 142 yX3_drawBlocks, Cond.instanceMethod yX3_drawBlocks, Cond.selects RX3 yX3_drawBlocks yX3_drawBlocks, Cond.code yX3_drawBlocks cX3_drawBlocks 5 none, Cond.methodLink RX3 88 yX3_drawOldSprites, Cond.instanceMethod yX3_drawOldSprites, Cond.selects RX3 yX3_drawOldSprites yX3_drawOldSprites, Cond.code yX3_drawOldSprites cX3_drawOldSprites 8 none, Cond.methodLink RX3 145 yX9_markFifth]
noncomputable def wsL_law0_r39 : List Cond := [Cond.instanceMethod yX9_markFifth, Cond.selects RX9 yX9_markFifth yX9_markFifth, Cond.code yX9_markFifth cX9_markFifth 2 none, Cond.methodLink RX3 148 yX3_drawOldSprite, Cond.instanceMethod yX3_drawOldSprite, Cond.selects RX3 yX3_drawOldSprite yX3_drawOldSprite, Cond.code yX3_drawOldSprite cX3_drawOldSprite 13 none, Cond.methodLink RX3 151 yX3_takeDot, Cond.instanceMethod yX3_takeDot, Cond.selects RX3 yX3_takeDot yX3_takeDot, Cond.code yX3_takeDot cX3_takeDot 3 none, Cond.methodLink RX3 91 yX3_fillBack, Cond.instanceMethod yX3_fillBack, Cond.selects RX3 yX3_fillBack yX3_fillBack, Cond.code yX3_fillBack cX3_fillBack 3 none, Cond.methodLink RX3 94 yX3_mixColours, Cond.instanceMethod yX3_mixColours, Cond.selects RX3 yX3_mixColours yX3_mixColours, Cond.code yX3_mixColours cX3_mixColours 4 none, Cond.fieldLink RX3 97 "PadConsole$Painter" "FIXED_COLOURS" "[I", Cond.methodLink RX11 381 yX9_goesToNextLine, Cond.instanceMethod yX9_goesToNextLine, Cond.selects RX9 yX9_goesToNextLine yX9_goesToNextLine, Cond.code yX9_goesToNextLine cX9_goesToNextLine 3 (some .boolean)]
noncomputable def wsL_law0_r40 : List Cond := [Cond.methodLink RX11 384 yX0_countPicture, Cond.instanceMethod yX0_countPicture, Cond.selects RX0 yX0_countPicture yX0_countPicture, Cond.code yX0_countPicture cX0_countPicture 1 none, Cond.methodLink RX11 387 yX1_carryOutPlans, Cond.instanceMethod yX1_carryOutPlans, Cond.selects RX1 yX1_carryOutPlans yX1_carryOutPlans, Cond.code yX1_carryOutPlans cX1_carryOutPlans 6 none, Cond.methodLink RX1 49 yX1_placeOfPlan, Cond.instanceMethod yX1_placeOfPlan, Cond.selects RX1 yX1_placeOfPlan yX1_placeOfPlan, Cond.code yX1_placeOfPlan cX1_placeOfPlan 2 (some .int), Cond.methodLink RX1 52 yX4_holdButtons, Cond.instanceMethod yX4_holdButtons, Cond.selects RX4 yX4_holdButtons yX4_holdButtons, Cond.code yX4_holdButtons cX4_holdButtons 3 none, Cond.methodLink RX11 371 yX0_pass, Cond.instanceMethod yX0_pass, Cond.selects RX0 yX0_pass yX0_pass, Cond.code yX0_pass cX0_pass 8 none, Cond.constantLong RX0 46 (16), Cond.constantLong RX0 51 (72), Cond.constantLong RX0 58 (81), Cond.methodLink RX0 48 yX0_addSample]
noncomputable def wsL_law0_r41 : List Cond := [Cond.instanceMethod yX0_addSample, Cond.selects RX0 yX0_addSample yX0_addSample, Cond.code yX0_addSample cX0_addSample 2 none, Cond.constant RX0 73 (65535), Cond.methodLink RX0 63 yX7_nextSample, Cond.instanceMethod yX7_nextSample, Cond.selects RX7 yX7_nextSample yX7_nextSample, Cond.code yX7_nextSample cX7_nextSample 6 (some .int), Cond.fieldLink RX7 42 "PadConsole$Sound" "LOUD" "[I", Cond.methodLink RX7 35 yX7_moveTone, Cond.instanceMethod yX7_moveTone, Cond.selects RX7 yX7_moveTone yX7_moveTone, Cond.code yX7_moveTone cX7_moveTone 3 none, Cond.methodLink RX7 45 Lib.Math.max.name, Cond.methodLink RX7 39 yX7_moveNoise, Cond.instanceMethod yX7_moveNoise, Cond.selects RX7 yX7_moveNoise yX7_moveNoise, Cond.code yX7_moveNoise cX7_moveNoise 4 none, Cond.methodLink RX0 69 yX6_add, Cond.instanceMethod yX6_add, Cond.selects RX6 yX6_add yX6_add, Cond.code yX6_add cX6_add 3 none, Cond.fieldLink RX6 16 "PadConsole$Ring" "first" "I", Cond.fieldLink RX6 20 "PadConsole$Ring" "count" "I"]
noncomputable def wsL_law0_r42 : List Cond := [Cond.methodLink RX0 53 yX10_makeNext, Cond.instanceMethod yX10_makeNext, Cond.selects RX10 yX10_makeNext yX10_makeNext, Cond.code yX10_makeNext cX10_makeNext 5 none, Cond.fieldLink RX10 32 "PadConsole$Waves" "rhythm" "Z", Cond.constant RX10 47 (8389120), Cond.methodLink RX10 36 yX10_takeOwnPatch, Cond.instanceMethod yX10_takeOwnPatch, Cond.selects RX10 yX10_takeOwnPatch yX10_takeOwnPatch, Cond.code yX10_takeOwnPatch cX10_takeOwnPatch 2 none, Cond.fieldLink RX10 62 "PadConsole$Waves" "ownPatch" "J", Cond.methodLink RX10 39 yX10_takeChannel, Cond.instanceMethod yX10_takeChannel, Cond.selects RX10 yX10_takeChannel yX10_takeChannel, Cond.code yX10_takeChannel cX10_takeChannel 3 none, Cond.fieldLink RX10 48 "PadConsole$Waves" "channel" "I", Cond.fieldLink RX10 52 "PadConsole$Waves" "f" "I", Cond.fieldLink RX10 55 "PadConsole$Waves" "block" "I", Cond.fieldLink RX10 58 "PadConsole$Waves" "PATCHES" "[J", Cond.fieldLink RX10 66 "PadConsole$Waves" "patch" "J", Cond.methodLink RX10 43 yX10_moveOperator, Cond.instanceMethod yX10_moveOperator, Cond.selects RX10 yX10_moveOperator yX10_moveOperator, Cond.code yX10_moveOperator cX10_moveOperator 4 none]
noncomputable def wsL_law0_r43 : List Cond := [Cond.methodLink RX10 69 yX10_isOn, Cond.instanceMethod yX10_isOn, Cond.selects RX10 yX10_isOn yX10_isOn, Cond.code yX10_isOn cX10_isOn 2 (some .boolean), Cond.methodLink RX10 73 yX10_moveLevel, Cond.instanceMethod yX10_moveLevel, Cond.selects RX10 yX10_moveLevel yX10_moveLevel, Cond.code yX10_moveLevel cX10_moveLevel 7 none, Cond.methodLink RX10 103 Lib.Math.min.name, Cond.fieldLink RX10 108 "PadConsole$Waves" "TICKS" "[I", Cond.methodLink RX10 115 Lib.Math.max.name, Cond.methodLink RX10 100 yX10_rateIn, Cond.instanceMethod yX10_rateIn, Cond.selects RX10 yX10_rateIn yX10_rateIn, Cond.code yX10_rateIn cX10_rateIn 5 (some .int), Cond.methodLink RX10 76 yX10_part, Cond.instanceMethod yX10_part, Cond.selects RX10 yX10_part yX10_part, Cond.code yX10_part cX10_part 2 (some .int), Cond.methodLink RX10 111 yX10_louder, Cond.instanceMethod yX10_louder, Cond.selects RX10 yX10_louder yX10_louder, Cond.code yX10_louder cX10_louder 4 (some .int), Cond.methodLink RX10 121 yX10_slowTick]
noncomputable def wsL_law0_r44 : List Cond := [Cond.instanceMethod yX10_slowTick, Cond.selects RX10 yX10_slowTick yX10_slowTick, Cond.code yX10_slowTick cX10_slowTick 1 (some .int), Cond.methodLink RX10 125 yX10_tickAt, Cond.instanceMethod yX10_tickAt, Cond.selects RX10 yX10_tickAt yX10_tickAt, Cond.code yX10_tickAt cX10_tickAt 5 (some .int), Cond.methodLink RX10 118 yX10_softer, Cond.instanceMethod yX10_softer, Cond.selects RX10 yX10_softer yX10_softer, Cond.code yX10_softer cX10_softer 3 (some .int), Cond.methodLink RX10 80 yX10_moveState, Cond.instanceMethod yX10_moveState, Cond.selects RX10 yX10_moveState yX10_moveState, Cond.code yX10_moveState cX10_moveState 5 none, Cond.methodLink RX10 83 yX10_movePhase, Cond.instanceMethod yX10_movePhase, Cond.selects RX10 yX10_movePhase yX10_movePhase, Cond.code yX10_movePhase cX10_movePhase 5 none, Cond.fieldLink RX10 131 "PadConsole$Waves" "MULTIPLES" "[I", Cond.constant RX10 134 (524287), Cond.methodLink RX10 128 yX10_sway, Cond.instanceMethod yX10_sway, Cond.selects RX10 yX10_sway yX10_sway]
noncomputable def wsL_law0_r45 : List Cond := [Cond.code yX10_sway cX10_sway 2 (some .int), Cond.methodLink RX10 86 yX10_moveOut, Cond.instanceMethod yX10_moveOut, Cond.selects RX10 yX10_moveOut yX10_moveOut, Cond.code yX10_moveOut cX10_moveOut 4 none, Cond.methodLink RX10 89 yX10_turnedPhase, Cond.instanceMethod yX10_turnedPhase, Cond.selects RX10 yX10_turnedPhase yX10_turnedPhase, Cond.code yX10_turnedPhase cX10_turnedPhase 5 (some .int), Cond.methodLink RX10 135 yX10_drumPhase, Cond.instanceMethod yX10_drumPhase, Cond.selects RX10 yX10_drumPhase yX10_drumPhase, Cond.code yX10_drumPhase cX10_drumPhase 7 (some .int), Cond.methodLink RX10 93 yX10_softness, Cond.instanceMethod yX10_softness, Cond.selects RX10 yX10_softness yX10_softness, Cond.code yX10_softness cX10_softness 5 (some .int), Cond.methodLink RX10 144 yX10_scaled, Cond.instanceMethod yX10_scaled, Cond.selects RX10 yX10_scaled yX10_scaled, Cond.code yX10_scaled cX10_scaled 3 (some .int), Cond.fieldLink RX10 150 "PadConsole$Waves" "SCALES" "[I", Cond.methodLink RX10 147 yX10_tremble, Cond.instanceMethod yX10_tremble]
noncomputable def wsL_law0_r46 : List Cond := [Cond.selects RX10 yX10_tremble yX10_tremble, Cond.code yX10_tremble cX10_tremble 2 (some .int), Cond.methodLink RX10 96 yX10_waveAt, Cond.static yX10_waveAt, Cond.code yX10_waveAt cX10_waveAt 7 (some .int), Cond.fieldLink RX10 138 "PadConsole$Waves" "LOGS" "[I", Cond.fieldLink RX10 141 "PadConsole$Waves" "POWERS" "[I", Cond.methodLink RX0 60 yX0_addMix, Cond.instanceMethod yX0_addMix, Cond.selects RX0 yX0_addMix yX0_addMix, Cond.code yX0_addMix cX0_addMix 7 none, Cond.methodLink RX0 74 Lib.MathLoose.max_long.x, Cond.static Lib.MathLoose.max_long.x, Cond.code Lib.MathLoose.max_long.x Lib.MathLoose.max_long.code 4 (some .long), Cond.constantLong RX0 83 (65536), Cond.methodLink RX0 80 yX10_heard, Cond.instanceMethod yX10_heard, Cond.selects RX10 yX10_heard yX10_heard, Cond.code yX10_heard cX10_heard 1 (some .int), Cond.methodLink RL 130 yX12_step, Cond.instanceMethod yX12_step, Cond.selects RX12 yX12_step yX12_step, Cond.code yX12_step cX12_step 3 (some .int), Cond.constantLong RX12 385 (20000)]
noncomputable def wsL_law0_r47 : List Cond := [Cond.methodLink RX12 387 yX12_isStop, Cond.instanceMethod yX12_isStop, Cond.selects RX12 yX12_isStop yX12_isStop, Cond.code yX12_isStop cX12_isStop 3 (some .boolean), Cond.methodLink RX12 390 yX12_once, Cond.instanceMethod yX12_once, Cond.selects RX12 yX12_once yX12_once, Cond.code yX12_once cX12_once 7 none, Cond.fieldLink RX12 351 "PadConsoleModel" "traced" "J", Cond.constantLong RX12 355 (32), Cond.constantLong RX12 370 (16), Cond.constantLong RX12 375 (72), Cond.constantLong RX12 380 (81), Cond.methodLink RX12 357 yX12_answers, Cond.instanceMethod yX12_answers, Cond.selects RX12 yX12_answers yX12_answers, Cond.code yX12_answers cX12_answers 1 none, Cond.methodLink RX12 211 yX12_grows, Cond.instanceMethod yX12_grows, Cond.selects RX12 yX12_grows yX12_grows, Cond.code yX12_grows cX12_grows 1 none, Cond.methodLink RX12 299 yX12_call, Cond.instanceMethod yX12_call, Cond.selects RX12 yX12_call yX12_call]
noncomputable def wsL_law0_r48 : List Cond := [Cond.code yX12_call cX12_call 2 none, Cond.methodLink RX12 214 yX12_push, Cond.instanceMethod yX12_push, Cond.selects RX12 yX12_push yX12_push, Cond.code yX12_push cX12_push 2 none, Cond.methodLink RX12 169 yX12_write, Cond.instanceMethod yX12_write, Cond.selects RX12 yX12_write yX12_write, Cond.code yX12_write cX12_write 5 none, Cond.constant RX12 163 (65532), Cond.constant RX12 164 (65533), Cond.constant RX12 165 (40960), Cond.methodLink RX12 154 yX12_isBattery, Cond.instanceMethod yX12_isBattery, Cond.selects RX12 yX12_isBattery yX12_isBattery, Cond.code yX12_isBattery cX12_isBattery 2 (some .boolean), Cond.methodLink RX12 157 yX12_batteryAt, Cond.instanceMethod yX12_batteryAt, Cond.selects RX12 yX12_batteryAt yX12_batteryAt, Cond.code yX12_batteryAt cX12_batteryAt 2 (some .int), Cond.methodLink RX12 360 yX12_asks, Cond.instanceMethod yX12_asks, Cond.selects RX12 yX12_asks yX12_asks, Cond.code yX12_asks cX12_asks 1 (some .boolean)]
noncomputable def wsL_law0_r49 : List Cond := [Cond.methodLink RX12 395 yX12_bit, Cond.instanceMethod yX12_bit, Cond.selects RX12 yX12_bit yX12_bit, Cond.code yX12_bit cX12_bit 3 (some .int), Cond.methodLink RX12 269 yX12_word, Cond.instanceMethod yX12_word, Cond.selects RX12 yX12_word yX12_word, Cond.code yX12_word cX12_word 2 (some .int), Cond.methodLink RX12 166 yX12_read, Cond.instanceMethod yX12_read, Cond.selects RX12 yX12_read yX12_read, Cond.code yX12_read cX12_read 3 (some .int), Cond.methodLink RX12 160 yX12_ofBank, Cond.instanceMethod yX12_ofBank, Cond.selects RX12 yX12_ofBank yX12_ofBank, Cond.code yX12_ofBank cX12_ofBank 3 (some .int), Cond.methodLink RX12 364 yX12_instruction, Cond.instanceMethod yX12_instruction, Cond.selects RX12 yX12_instruction yX12_instruction, Cond.code yX12_instruction cX12_instruction 1 (some .int), Cond.fieldLink RX12 174 "PadConsoleModel" "instead" "I", Cond.fieldLink RX12 191 "PadConsoleModel" "far" "Z", Cond.methodLink RX12 217 yX12_fetch, Cond.instanceMethod yX12_fetch]
noncomputable def wsL_law0_r50 : List Cond := [Cond.selects RX12 yX12_fetch yX12_fetch, Cond.code yX12_fetch cX12_fetch 2 (some .int), Cond.methodLink RX12 208 yX12_next, Cond.instanceMethod yX12_next, Cond.selects RX12 yX12_next yX12_next, Cond.code yX12_next cX12_next 2 (some .int), Cond.methodLink RX12 220 yX12_plain, Cond.instanceMethod yX12_plain, Cond.selects RX12 yX12_plain yX12_plain, Cond.code yX12_plain cX12_plain 4 (some .int), Cond.methodLink RX12 223 yX12_zero, Cond.instanceMethod yX12_zero, Cond.selects RX12 yX12_zero yX12_zero, Cond.code yX12_zero cX12_zero 7 (some .int), Cond.methodLink RX12 244 yX12_change, Cond.instanceMethod yX12_change, Cond.selects RX12 yX12_change yX12_change, Cond.code yX12_change cX12_change 4 none, Cond.methodLink RX12 247 yX12_signed, Cond.static yX12_signed, Cond.code yX12_signed cX12_signed 1 (some .int), Cond.methodLink RX12 250 yX12_cc, Cond.instanceMethod yX12_cc, Cond.selects RX12 yX12_cc yX12_cc]
noncomputable def wsL_law0_r51 : List Cond := [Cond.code yX12_cc cX12_cc 2 (some .boolean), Cond.methodLink RX12 205 yX12_flag, Cond.instanceMethod yX12_flag, Cond.selects RX12 yX12_flag yX12_flag, Cond.code yX12_flag cX12_flag 2 (some .int), Cond.methodLink RX12 253 yX12_jump, Cond.instanceMethod yX12_jump, Cond.selects RX12 yX12_jump yX12_jump, Cond.code yX12_jump cX12_jump 2 none, Cond.methodLink RX12 256 yX12_nextWord, Cond.instanceMethod yX12_nextWord, Cond.selects RX12 yX12_nextWord yX12_nextWord, Cond.code yX12_nextWord cX12_nextWord 2 (some .int), Cond.methodLink RX12 259 yX12_rpTo, Cond.instanceMethod yX12_rpTo, Cond.selects RX12 yX12_rpTo yX12_rpTo, Cond.code yX12_rpTo cX12_rpTo 3 none, Cond.methodLink RX12 180 yX12_pairTo, Cond.instanceMethod yX12_pairTo, Cond.selects RX12 yX12_pairTo yX12_pairTo, Cond.code yX12_pairTo cX12_pairTo 3 none, Cond.methodLink RX12 187 yX12_hlTo, Cond.instanceMethod yX12_hlTo, Cond.selects RX12 yX12_hlTo yX12_hlTo]
noncomputable def wsL_law0_r52 : List Cond := [Cond.code yX12_hlTo cX12_hlTo 2 none, Cond.methodLink RX12 183 yX12_hl, Cond.instanceMethod yX12_hl, Cond.selects RX12 yX12_hl yX12_hl, Cond.code yX12_hl cX12_hl 1 (some .int), Cond.methodLink RX12 177 yX12_pair, Cond.instanceMethod yX12_pair, Cond.selects RX12 yX12_pair yX12_pair, Cond.code yX12_pair cX12_pair 2 (some .int), Cond.methodLink RX12 262 yX12_rp, Cond.instanceMethod yX12_rp, Cond.selects RX12 yX12_rp yX12_rp, Cond.code yX12_rp cX12_rp 2 (some .int), Cond.methodLink RX12 198 yX12_put, Cond.instanceMethod yX12_put, Cond.selects RX12 yX12_put yX12_put, Cond.code yX12_put cX12_put 3 none, Cond.methodLink RX12 202 yX12_xy, Cond.instanceMethod yX12_xy, Cond.selects RX12 yX12_xy yX12_xy, Cond.code yX12_xy cX12_xy 2 none, Cond.methodLink RX12 265 yX12_moves, Cond.instanceMethod yX12_moves, Cond.selects RX12 yX12_moves yX12_moves]
noncomputable def wsL_law0_r53 : List Cond := [Cond.code yX12_moves cX12_moves 4 (some .int), Cond.methodLink RX12 272 yX12_wordTo, Cond.instanceMethod yX12_wordTo, Cond.selects RX12 yX12_wordTo yX12_wordTo, Cond.code yX12_wordTo cX12_wordTo 3 none, Cond.methodLink RX12 226 yX12_singles, Cond.instanceMethod yX12_singles, Cond.selects RX12 yX12_singles yX12_singles, Cond.code yX12_singles cX12_singles 4 (some .int), Cond.methodLink RX12 232 yX12_rTo, Cond.instanceMethod yX12_rTo, Cond.selects RX12 yX12_rTo yX12_rTo, Cond.code yX12_rTo cX12_rTo 4 none, Cond.constant RX12 197 (65280), Cond.methodLink RX12 194 yX12_m, Cond.instanceMethod yX12_m, Cond.selects RX12 yX12_m yX12_m, Cond.code yX12_m cX12_m 1 (some .int), Cond.methodLink RX12 229 yX12_r, Cond.instanceMethod yX12_r, Cond.selects RX12 yX12_r yX12_r, Cond.code yX12_r cX12_r 2 (some .int), Cond.methodLink RX12 275 yX12_by, Cond.instanceMethod yX12_by]
noncomputable def wsL_law0_r54 : List Cond := [Cond.selects RX12 yX12_by yX12_by, Cond.code yX12_by cX12_by 2 none, Cond.methodLink RX12 278 yX12_turned, Cond.instanceMethod yX12_turned, Cond.selects RX12 yX12_turned yX12_turned, Cond.code yX12_turned cX12_turned 6 (some .int), Cond.methodLink RX12 281 yX12_adjusts, Cond.instanceMethod yX12_adjusts, Cond.selects RX12 yX12_adjusts yX12_adjusts, Cond.code yX12_adjusts cX12_adjusts 3 none, Cond.methodLink RX12 284 yX12_isEven, Cond.static yX12_isEven, Cond.code yX12_isEven cX12_isEven 3 (some .boolean), Cond.methodLink RX12 235 yX12_does, Cond.instanceMethod yX12_does, Cond.selects RX12 yX12_does yX12_does, Cond.code yX12_does cX12_does 8 none, Cond.methodLink RX12 238 yX12_three, Cond.instanceMethod yX12_three, Cond.selects RX12 yX12_three yX12_three, Cond.code yX12_three cX12_three 7 (some .int), Cond.methodLink RX12 287 yX12_pop, Cond.instanceMethod yX12_pop, Cond.selects RX12 yX12_pop yX12_pop]
noncomputable def wsL_law0_r55 : List Cond := [Cond.code yX12_pop cX12_pop 2 (some .int), Cond.methodLink RX12 290 yX12_turns, Cond.instanceMethod yX12_turns, Cond.selects RX12 yX12_turns yX12_turns, Cond.code yX12_turns cX12_turns 1 (some .int), Cond.methodLink RX12 308 yX12_turn, Cond.instanceMethod yX12_turn, Cond.selects RX12 yX12_turn yX12_turn, Cond.code yX12_turn cX12_turn 7 (some .int), Cond.fieldLink RX12 311 "PadConsoleModel" "came" "I", Cond.methodLink RX12 293 yX12_portTo, Cond.instanceMethod yX12_portTo, Cond.selects RX12 yX12_portTo yX12_portTo, Cond.code yX12_portTo cX12_portTo 6 none, Cond.methodLink RX12 332 yX12_lineAt, Cond.instanceMethod yX12_lineAt, Cond.selects RX12 yX12_lineAt yX12_lineAt, Cond.code yX12_lineAt cX12_lineAt 2 (some .int), Cond.methodLink RX12 339 yX12_hCount, Cond.instanceMethod yX12_hCount, Cond.selects RX12 yX12_hCount yX12_hCount, Cond.code yX12_hCount cX12_hCount 2 (some .int), Cond.methodLink RX12 342 yX12_noise, Cond.instanceMethod yX12_noise]
noncomputable def wsL_law0_r56 : List Cond := [Cond.selects RX12 yX12_noise yX12_noise, Cond.code yX12_noise cX12_noise 3 none, Cond.methodLink RX12 345 yX12_control, Cond.instanceMethod yX12_control, Cond.selects RX12 yX12_control yX12_control, Cond.code yX12_control cX12_control 2 none, Cond.methodLink RX12 401 yX12_video8, Cond.instanceMethod yX12_video8, Cond.selects RX12 yX12_video8 yX12_video8, Cond.code yX12_video8 cX12_video8 2 (some .int), Cond.methodLink RX12 404 yX12_further, Cond.instanceMethod yX12_further, Cond.selects RX12 yX12_further yX12_further, Cond.code yX12_further cX12_further 1 none, Cond.methodLink RX12 348 yX12_dataTo, Cond.instanceMethod yX12_dataTo, Cond.selects RX12 yX12_dataTo yX12_dataTo, Cond.code yX12_dataTo cX12_dataTo 3 none, Cond.methodLink RX12 296 yX12_port, Cond.instanceMethod yX12_port, Cond.selects RX12 yX12_port yX12_port, Cond.code yX12_port cX12_port 4 (some .int), Cond.methodLink RX12 323 yX12_vCount, Cond.instanceMethod yX12_vCount]
noncomputable def wsL_law0_r57 : List Cond := [Cond.selects RX12 yX12_vCount yX12_vCount, Cond.code yX12_vCount cX12_vCount 4 (some .int), Cond.methodLink RX12 407 yX12_height, Cond.instanceMethod yX12_height, Cond.selects RX12 yX12_height yX12_height, Cond.code yX12_height cX12_height 1 (some .int), Cond.methodLink RX12 398 yX12_mode, Cond.instanceMethod yX12_mode, Cond.selects RX12 yX12_mode yX12_mode, Cond.code yX12_mode cX12_mode 1 (some .int), Cond.methodLink RX12 326 yX12_status, Cond.instanceMethod yX12_status, Cond.selects RX12 yX12_status yX12_status, Cond.code yX12_status cX12_status 2 (some .int), Cond.methodLink RX12 329 yX12_data, Cond.instanceMethod yX12_data, Cond.selects RX12 yX12_data yX12_data, Cond.code yX12_data cX12_data 2 (some .int), Cond.methodLink RX12 335 yX12_without, Cond.instanceMethod yX12_without, Cond.selects RX12 yX12_without yX12_without, Cond.code yX12_without cX12_without 4 (some .int), Cond.methodLink RX12 241 yX12_more3, Cond.instanceMethod yX12_more3]
noncomputable def wsL_law0_r58 : List Cond := [Cond.selects RX12 yX12_more3 yX12_more3, Cond.code yX12_more3 cX12_more3 4 (some .int), Cond.methodLink RX12 302 yX12_more, Cond.instanceMethod yX12_more, Cond.selects RX12 yX12_more yX12_more, Cond.code yX12_more cX12_more 9 (some .int), Cond.methodLink RX12 314 yX12_blocks, Cond.instanceMethod yX12_blocks, Cond.selects RX12 yX12_blocks yX12_blocks, Cond.code yX12_blocks cX12_blocks 8 (some .int), Cond.methodLink RX12 317 yX12_words, Cond.instanceMethod yX12_words, Cond.selects RX12 yX12_words yX12_words, Cond.code yX12_words cX12_words 8 none, Cond.methodLink RX12 320 yX12_specials, Cond.instanceMethod yX12_specials, Cond.selects RX12 yX12_specials yX12_specials, Cond.code yX12_specials cX12_specials 5 (some .int), Cond.methodLink RX12 305 yX12_prefixed, Cond.instanceMethod yX12_prefixed, Cond.selects RX12 yX12_prefixed yX12_prefixed, Cond.code yX12_prefixed cX12_prefixed 8 (some .int), Cond.methodLink RX12 367 yX12_ends, Cond.instanceMethod yX12_ends]
noncomputable def wsL_law0_r59 : List Cond := [Cond.selects RX12 yX12_ends yX12_ends, Cond.code yX12_ends cX12_ends 2 none, Cond.methodLink RX12 410 yX12_draws, Cond.instanceMethod yX12_draws, Cond.selects RX12 yX12_draws yX12_draws, Cond.code yX12_draws cX12_draws 5 none, Cond.methodLink RX12 413 yX12_reg, Cond.instanceMethod yX12_reg, Cond.selects RX12 yX12_reg yX12_reg, Cond.code yX12_reg cX12_reg 2 (some .int), Cond.methodLink RX12 419 yX12_tile, Cond.instanceMethod yX12_tile, Cond.selects RX12 yX12_tile yX12_tile, Cond.code yX12_tile cX12_tile 13 none, Cond.methodLink RX12 434 yX12_tileDot, Cond.instanceMethod yX12_tileDot, Cond.selects RX12 yX12_tileDot yX12_tileDot, Cond.code yX12_tileDot cX12_tileDot 6 (some .int), Cond.methodLink RX12 422 yX12_sprites, Cond.instanceMethod yX12_sprites, Cond.selects RX12 yX12_sprites yX12_sprites, Cond.code yX12_sprites cX12_sprites 15 none, Cond.methodLink RX12 425 yX12_old, Cond.instanceMethod yX12_old]
noncomputable def wsL_law0_r60 : List Cond := [Cond.selects RX12 yX12_old yX12_old, Cond.code yX12_old cX12_old 10 (some .int), Cond.methodLink RX12 428 yX12_oldSprites, Cond.instanceMethod yX12_oldSprites, Cond.selects RX12 yX12_oldSprites yX12_oldSprites, Cond.code yX12_oldSprites cX12_oldSprites 16 none, Cond.methodLink RX12 431 yX12_colour, Cond.instanceMethod yX12_colour, Cond.selects RX12 yX12_colour yX12_colour, Cond.code yX12_colour cX12_colour 3 (some .int), Cond.methodLink RX12 416 yX12_planned, Cond.instanceMethod yX12_planned, Cond.selects RX12 yX12_planned yX12_planned, Cond.code yX12_planned cX12_planned 2 none, Cond.methodLink RX12 372 yX12_sample, Cond.instanceMethod yX12_sample, Cond.selects RX12 yX12_sample yX12_sample, Cond.code yX12_sample cX12_sample 7 none, Cond.constantLong RX12 440 (65536), Cond.methodLink RX12 437 yX12_loudness, Cond.static yX12_loudness, Cond.code yX12_loudness cX12_loudness 1 (some .int), Cond.methodLink RX12 377 yX12_waves, Cond.instanceMethod yX12_waves]
noncomputable def wsL_law0_r61 : List Cond := [Cond.selects RX12 yX12_waves yX12_waves, Cond.code yX12_waves cX12_waves 5 none, Cond.constant RX12 481 (8389120), Cond.methodLink RX12 478 yX12_operator, Cond.instanceMethod yX12_operator, Cond.selects RX12 yX12_operator yX12_operator, Cond.code yX12_operator cX12_operator 9 none, Cond.methodLink RX12 482 yX12_isOn, Cond.instanceMethod yX12_isOn, Cond.selects RX12 yX12_isOn yX12_isOn, Cond.code yX12_isOn cX12_isOn 5 (some .int), Cond.methodLink RX12 461 yX12_wreg, Cond.instanceMethod yX12_wreg, Cond.selects RX12 yX12_wreg yX12_wreg, Cond.code yX12_wreg cX12_wreg 2 (some .int), Cond.methodLink RX12 464 yX12_isRhythm, Cond.instanceMethod yX12_isRhythm, Cond.selects RX12 yX12_isRhythm yX12_isRhythm, Cond.code yX12_isRhythm cX12_isRhythm 2 (some .boolean), Cond.methodLink RX12 485 yX12_envelope, Cond.instanceMethod yX12_envelope, Cond.selects RX12 yX12_envelope yX12_envelope, Cond.code yX12_envelope cX12_envelope 16 none, Cond.constantLong RX12 511 (8)]
noncomputable def wsL_law0_r62 : List Cond := [Cond.constantLong RX12 516 (2), Cond.constantLong RX12 518 (4), Cond.methodLink RX12 502 yX12_rate, Cond.instanceMethod yX12_rate, Cond.selects RX12 yX12_rate yX12_rate, Cond.code yX12_rate cX12_rate 5 (some .int), Cond.methodLink RX12 489 yX12_patchByte, Cond.instanceMethod yX12_patchByte, Cond.selects RX12 yX12_patchByte yX12_patchByte, Cond.code yX12_patchByte cX12_patchByte 5 (some .int), Cond.methodLink RX12 469 yJ0_charAt_5068e, Cond.instanceMethod yJ0_charAt_5068e, Cond.selects RJ0 yJ0_charAt_5068e yJ0_charAt_5068e, Cond.initialized RJ0, Cond.code yJ0_charAt_5068e cJ0_charAt_5068e 2 (some .char), Cond.fieldLink RJ0 9 "java/lang/String" "value" "[B", Cond.methodLink RJ0 492 yJ0_isLatin1_aae02, Cond.instanceMethod yJ0_isLatin1_aae02, Cond.selects RJ0 yJ0_isLatin1_aae02 yJ0_isLatin1_aae02, Cond.code yJ0_isLatin1_aae02 cJ0_isLatin1_aae02 1 (some .boolean), Cond.fieldLink RJ0 38 "java/lang/String" "COMPACT_STRINGS" "Z", Cond.fieldLink RJ0 15 "java/lang/String" "coder" "B", Cond.methodLink RJ0 495 yJ1_charAt_3b067, Cond.static yJ1_charAt_3b067]
noncomputable def wsL_law0_r63 : List Cond := [Cond.initialized RJ1, Cond.code yJ1_charAt_3b067 cJ1_charAt_3b067 2 (some .char), Cond.methodLink RJ1 9 yJ0_checkIndex_df160, Cond.static yJ0_checkIndex_df160, Cond.code yJ0_checkIndex_df160 cJ0_checkIndex_df160 2 none, Cond.fieldLink RJ0 1053 "jdk/internal/util/Preconditions" "SIOOBE_FORMATTER" "Ljava/util/function/BiFunction;", Cond.methodLink RJ0 1059 yJ3_checkIndex_8e157, Cond.static yJ3_checkIndex_8e157, Cond.initialized RJ3, Cond.code yJ3_checkIndex_8e157 cJ3_checkIndex_8e157 3 (some .int), Cond.methodLink RJ0 498 yJ2_charAt_3b067, Cond.static yJ2_charAt_3b067, Cond.initialized RJ2, Cond.code yJ2_charAt_3b067 cJ2_charAt_3b067 2 (some .char), Cond.methodLink RJ2 67 yJ2_checkIndex_2214a, Cond.static yJ2_checkIndex_2214a, Cond.code yJ2_checkIndex_2214a cJ2_checkIndex_2214a 2 none, Cond.methodLink RJ2 48 yJ2_length_9d52b, Cond.static yJ2_length_9d52b, Cond.code yJ2_length_9d52b cJ2_length_9d52b 1 (some .int), Cond.methodLink RJ2 414 yJ0_checkIndex_df160, Cond.methodLink RJ2 71 yJ2_getChar_3b067, Cond.static yJ2_getChar_3b067, Cond.code yJ2_getChar_3b067 cJ2_getChar_3b067 2 (some .char)]
noncomputable def wsL_law0_r64 : List Cond := [Cond.fieldLink RJ2 44 "java/lang/StringUTF16" "$assertionsDisabled" "Z", Cond.fieldLink RJ2 59 "java/lang/StringUTF16" "HI_BYTE_SHIFT" "I", Cond.fieldLink RJ2 63 "java/lang/StringUTF16" "LO_BYTE_SHIFT" "I", Cond.methodLink RX12 475 yX12_digit, Cond.static yX12_digit, Cond.code yX12_digit cX12_digit 1 (some .int), Cond.methodLink RX12 505 yX12_block, Cond.instanceMethod yX12_block, Cond.selects RX12 yX12_block yX12_block, Cond.code yX12_block cX12_block 2 (some .int), Cond.methodLink RX12 508 yX12_f, Cond.instanceMethod yX12_f, Cond.selects RX12 yX12_f yX12_f, Cond.code yX12_f cX12_f 2 (some .int), Cond.methodLink RX12 513 yX12_t, Cond.static yX12_t, Cond.code yX12_t cX12_t 2 (some .int), Cond.methodLink RX12 492 yX12_phase, Cond.instanceMethod yX12_phase, Cond.selects RX12 yX12_phase yX12_phase, Cond.code yX12_phase cX12_phase 10 none, Cond.constantLong RX12 520 (1024), Cond.constant RX12 522 (524287), Cond.methodLink RX12 495 yX12_drum]
noncomputable def wsL_law0_r65 : List Cond := [Cond.instanceMethod yX12_drum, Cond.selects RX12 yX12_drum yX12_drum, Cond.code yX12_drum cX12_drum 8 (some .int), Cond.methodLink RX12 498 yX12_waveAt, Cond.instanceMethod yX12_waveAt, Cond.selects RX12 yX12_waveAt yX12_waveAt, Cond.code yX12_waveAt cX12_waveAt 17 (some .int), Cond.constantLong RX12 526 (64), Cond.constantLong RX12 528 (210), Cond.fieldLink RX12 530 "PadConsoleModel" "SINE" "[I", Cond.fieldLink RX12 533 "PadConsoleModel" "POWER" "[I", Cond.methodLink RX12 523 yX12_kept, Cond.static yX12_kept, Cond.code yX12_kept cX12_kept 1 (some .int), Cond.methodLink RX12 382 yX12_mixed, Cond.instanceMethod yX12_mixed, Cond.selects RX12 yX12_mixed yX12_mixed, Cond.code yX12_mixed cX12_mixed 5 none, Cond.methodLink RL 131 yL_picture, Cond.static yL_picture, Cond.codeWith yL_picture cL_picture 4 (some .int) [(0, 9, 12, 13)], Cond.methodLink RL 31 yX11_picture, Cond.instanceMethod yX11_picture, Cond.selects RX11 yX11_picture yX11_picture]
noncomputable def wsL_law0_r66 : List Cond := [Cond.code yX11_picture cX11_picture 2 (some .int), Cond.constant RX11 156 (1000000), Cond.methodLink RL 133 yX12_picture, Cond.instanceMethod yX12_picture, Cond.selects RX12 yX12_picture yX12_picture, Cond.code yX12_picture cX12_picture 5 (some .int), Cond.constantLong RX12 393 (3), Cond.methodLink RL 134 yX11_reset, Cond.instanceMethod yX11_reset, Cond.selects RX11 yX11_reset yX11_reset, Cond.code yX11_reset cX11_reset 1 none, Cond.methodLink RL 137 yX12_reset, Cond.instanceMethod yX12_reset, Cond.selects RX12 yX12_reset yX12_reset, Cond.code yX12_reset cX12_reset 1 none, Cond.methodLink RL 138 yX11_pause, Cond.instanceMethod yX11_pause, Cond.selects RX11 yX11_pause yX11_pause, Cond.code yX11_pause cX11_pause 1 (some .boolean), Cond.methodLink RX11 157 yX5_askForPause, Cond.instanceMethod yX5_askForPause, Cond.selects RX5 yX5_askForPause yX5_askForPause, Cond.code yX5_askForPause cX5_askForPause 1 none, Cond.methodLink RL 142 yX12_pause]
noncomputable def wsL_law0_r67 : List Cond := [Cond.instanceMethod yX12_pause, Cond.selects RX12 yX12_pause yX12_pause, Cond.code yX12_pause cX12_pause 1 (some .boolean), Cond.methodLink RL 143 yL_press, Cond.static yL_press, Cond.codeWith yL_press cL_press 4 (some .int) [(0, 6, 9, 13)], Cond.methodLink RL 34 yX11_press, Cond.instanceMethod yX11_press, Cond.selects RX11 yX11_press yX11_press, Cond.code yX11_press cX11_press 3 none, Cond.methodLink RX11 160 yX4_canPress, Cond.static yX4_canPress, Cond.code yX4_canPress cX4_canPress 2 (some .boolean), Cond.methodLink RX11 166 yX4_holdButtons, Cond.methodLink RL 146 yX12_press, Cond.instanceMethod yX12_press, Cond.selects RX12 yX12_press yX12_press, Cond.code yX12_press cX12_press 3 none, Cond.constantLong RX12 444 (63), Cond.methodLink RL 147 yX11_start, Cond.instanceMethod yX11_start, Cond.selects RX11 yX11_start yX11_start, Cond.code yX11_start cX11_start 2 none, Cond.methodLink RX11 170 yX4_holdStart]
noncomputable def wsL_law0_r68 : List Cond := [Cond.instanceMethod yX4_holdStart, Cond.selects RX4 yX4_holdStart yX4_holdStart, Cond.code yX4_holdStart cX4_holdStart 2 none, Cond.methodLink RL 151 yX12_start, Cond.instanceMethod yX12_start, Cond.selects RX12 yX12_start yX12_start, Cond.code yX12_start cX12_start 2 none, Cond.methodLink RL 152 yL_line, Cond.static yL_line, Cond.codeWith yL_line cL_line 4 (some .int) [(0, 6, 9, 13)], Cond.methodLink RL 38 yX11_line, Cond.instanceMethod yX11_line, Cond.selects RX11 yX11_line yX11_line, Cond.code yX11_line cX11_line 3 none, Cond.methodLink RX11 176 yX4_moveLine, Cond.instanceMethod yX4_moveLine, Cond.selects RX4 yX4_moveLine yX4_moveLine, Cond.code yX4_moveLine cX4_moveLine 3 none, Cond.methodLink RL 155 yX12_line, Cond.instanceMethod yX12_line, Cond.selects RX12 yX12_line yX12_line, Cond.code yX12_line cX12_line 4 none, Cond.methodLink RL 156 yL_plan, Cond.static yL_plan]
noncomputable def wsL_law0_r69 : List Cond := [Cond.codeWith yL_plan cL_plan 6 (some .int) [(0, 12, 15, 13), (0, 12, 19, 15)], Cond.methodLink RL 42 yX11_plan, Cond.instanceMethod yX11_plan, Cond.selects RX11 yX11_plan yX11_plan, Cond.code yX11_plan cX11_plan 4 (some .int), Cond.methodLink RX11 180 yX1_leastPlan, Cond.instanceMethod yX1_leastPlan, Cond.selects RX1 yX1_leastPlan yX1_leastPlan, Cond.code yX1_leastPlan cX1_leastPlan 1 (some .int), Cond.methodLink RX11 185 yX1_plansWaiting, Cond.instanceMethod yX1_plansWaiting, Cond.selects RX1 yX1_plansWaiting yX1_plansWaiting, Cond.code yX1_plansWaiting cX1_plansWaiting 1 (some .int), Cond.methodLink RX11 190 yX1_addPlan, Cond.instanceMethod yX1_addPlan, Cond.selects RX1 yX1_addPlan yX1_addPlan, Cond.code yX1_addPlan cX1_addPlan 5 (some .int), Cond.methodLink RL 159 yX12_plan, Cond.instanceMethod yX12_plan, Cond.selects RX12 yX12_plan yX12_plan, Cond.code yX12_plan cX12_plan 6 (some .int), Cond.methodLink RL 160 yX11_tell, Cond.instanceMethod yX11_tell, Cond.selects RX11 yX11_tell yX11_tell]
noncomputable def wsL_law0_r70 : List Cond := [Cond.code yX11_tell cX11_tell 2 (some .int), Cond.methodLink RX11 194 yX8_write, Cond.instanceMethod yX8_write, Cond.selects RX8 yX8_write yX8_write, Cond.code yX8_write cX8_write 4 (some .int), Cond.constant RX8 17 (65535), Cond.fieldLink RX8 18 "PadConsole$Teller" "at" "I", Cond.fieldLink RX8 22 "PadConsole$Teller" "count" "I", Cond.fieldLink RX8 25 "PadConsole$Teller" "length" "I", Cond.fieldLink RX8 28 "PadConsole$Teller" "prefix" "I", Cond.fieldLink RX8 31 "PadConsole$Teller" "beside" "Z", Cond.methodLink RX8 35 yX8_take, Cond.instanceMethod yX8_take, Cond.selects RX8 yX8_take yX8_take, Cond.code yX8_take cX8_take 2 (some .int), Cond.methodLink RX8 39 yX2_read, Cond.methodLink RX8 47 yX8_put, Cond.instanceMethod yX8_put, Cond.selects RX8 yX8_put yX8_put, Cond.code yX8_put cX8_put 6 none, Cond.fieldLink RX8 64 "PadConsole$Teller" "y" "I", Cond.methodLink RX8 169 yJ0_length_8abf5, Cond.instanceMethod yJ0_length_8abf5, Cond.selects RJ0 yJ0_length_8abf5 yJ0_length_8abf5]
noncomputable def wsL_law0_r71 : List Cond := [Cond.code yJ0_length_8abf5 cJ0_length_8abf5 1 (some .int), Cond.methodLink RJ0 335 yJ0_coder_7d493, Cond.instanceMethod yJ0_coder_7d493, Cond.selects RJ0 yJ0_coder_7d493 yJ0_coder_7d493, Cond.code yJ0_coder_7d493 cJ0_coder_7d493 1 (some .byte), Cond.methodLink RX8 173 yJ0_charAt_5068e, Cond.methodLink RX8 177 yX8_putMeant, Cond.instanceMethod yX8_putMeant, Cond.selects RX8 yX8_putMeant yX8_putMeant, Cond.code yX8_putMeant cX8_putMeant 2 none, Cond.fieldLink RX8 67 "PadConsole$Teller" "z" "I", Cond.methodLink RX8 183 yX8_putOne, Cond.instanceMethod yX8_putOne, Cond.selects RX8 yX8_putOne yX8_putOne, Cond.code yX8_putOne cX8_putOne 2 none, Cond.methodLink RX8 211 yX8_putPlace, Cond.instanceMethod yX8_putPlace, Cond.selects RX8 yX8_putPlace yX8_putPlace, Cond.code yX8_putPlace cX8_putPlace 2 none, Cond.methodLink RX8 180 yX8_putSign, Cond.instanceMethod yX8_putSign, Cond.selects RX8 yX8_putSign yX8_putSign, Cond.code yX8_putSign cX8_putSign 2 none, Cond.methodLink RX8 196 yX8_putHl]
noncomputable def wsL_law0_r72 : List Cond := [Cond.instanceMethod yX8_putHl, Cond.selects RX8 yX8_putHl yX8_putHl, Cond.code yX8_putHl cX8_putHl 1 none, Cond.methodLink RX8 205 yX8_putByte, Cond.instanceMethod yX8_putByte, Cond.selects RX8 yX8_putByte yX8_putByte, Cond.code yX8_putByte cX8_putByte 2 none, Cond.methodLink RX8 201 yX8_putName, Cond.instanceMethod yX8_putName, Cond.selects RX8 yX8_putName yX8_putName, Cond.code yX8_putName cX8_putName 5 none, Cond.methodLink RX8 186 yX8_putTurned, Cond.instanceMethod yX8_putTurned, Cond.selects RX8 yX8_putTurned yX8_putTurned, Cond.code yX8_putTurned cX8_putTurned 1 none, Cond.fieldLink RX8 70 "PadConsole$Teller" "early" "I", Cond.fieldLink RX8 61 "PadConsole$Teller" "x" "I", Cond.methodLink RX8 191 yX8_putPair, Cond.instanceMethod yX8_putPair, Cond.selects RX8 yX8_putPair yX8_putPair, Cond.code yX8_putPair cX8_putPair 2 none, Cond.methodLink RX8 208 yX8_putWord, Cond.instanceMethod yX8_putWord, Cond.selects RX8 yX8_putWord yX8_putWord]
noncomputable def wsL_law0_r73 : List Cond := [Cond.code yX8_putWord cX8_putWord 2 none, Cond.methodLink RX8 51 yX5_meansPlace, Cond.methodLink RX8 57 yX8_patternsOf, Cond.instanceMethod yX8_patternsOf, Cond.selects RX8 yX8_patternsOf yX8_patternsOf, Cond.code yX8_patternsOf cX8_patternsOf 2 (some (.object "java/lang/String")), Cond.methodLink RX8 73 yX8_split, Cond.instanceMethod yX8_split, Cond.selects RX8 yX8_split yX8_split, Cond.code yX8_split cX8_split 2 none, Cond.methodLink RX8 77 yX8_turnPatterns, Cond.instanceMethod yX8_turnPatterns, Cond.selects RX8 yX8_turnPatterns yX8_turnPatterns, Cond.code yX8_turnPatterns cX8_turnPatterns 1 (some (.object "java/lang/String")), Cond.methodLink RX8 81 yX8_blockPatterns, Cond.instanceMethod yX8_blockPatterns, Cond.selects RX8 yX8_blockPatterns yX8_blockPatterns, Cond.code yX8_blockPatterns cX8_blockPatterns 1 (some (.object "java/lang/String")), Cond.methodLink RX8 84 yX8_morePatterns, Cond.instanceMethod yX8_morePatterns, Cond.selects RX8 yX8_morePatterns yX8_morePatterns, Cond.code yX8_morePatterns cX8_morePatterns 1 (some (.object "java/lang/String")), Cond.methodLink RX8 87 yX8_firstPatterns, Cond.instanceMethod yX8_firstPatterns]
noncomputable def wsL_law0_r74 : List Cond := [Cond.selects RX8 yX8_firstPatterns yX8_firstPatterns, Cond.code yX8_firstPatterns cX8_firstPatterns 1 (some (.object "java/lang/String")), Cond.methodLink RX8 96 yX8_lastPatterns, Cond.instanceMethod yX8_lastPatterns, Cond.selects RX8 yX8_lastPatterns yX8_lastPatterns, Cond.code yX8_lastPatterns cX8_lastPatterns 1 (some (.object "java/lang/String")), Cond.methodLink RL 163 yX12_tell, Cond.instanceMethod yX12_tell, Cond.selects RX12 yX12_tell yX12_tell, Cond.code yX12_tell cX12_tell 4 (some .int), Cond.fieldLink RX12 458 "PadConsoleModel" "signs" "I", Cond.fieldLink RX12 545 "PadConsoleModel" "from" "I", Cond.fieldLink RX12 551 "PadConsoleModel" "index" "I", Cond.fieldLink RX12 563 "PadConsoleModel" "placed" "Z", Cond.methodLink RX12 548 yX12_taken, Cond.instanceMethod yX12_taken, Cond.selects RX12 yX12_taken yX12_taken, Cond.code yX12_taken cX12_taken 2 (some .int), Cond.methodLink RX12 643 yX12_sayPrefixed, Cond.instanceMethod yX12_sayPrefixed, Cond.selects RX12 yX12_sayPrefixed yX12_sayPrefixed, Cond.code yX12_sayPrefixed cX12_sayPrefixed 7 none, Cond.fieldLink RX12 572 "PadConsoleModel" "distance" "I", Cond.methodLink RX12 559 yX12_say]
noncomputable def wsL_law0_r75 : List Cond := [Cond.instanceMethod yX12_say, Cond.selects RX12 yX12_say yX12_say, Cond.code yX12_say cX12_say 3 none, Cond.methodLink RX12 542 yJ0_length_8abf5, Cond.methodLink RX12 646 yX12_sayTurn, Cond.instanceMethod yX12_sayTurn, Cond.selects RX12 yX12_sayTurn yX12_sayTurn, Cond.code yX12_sayTurn cX12_sayTurn 3 none, Cond.methodLink RX12 579 yX12_hex, Cond.instanceMethod yX12_hex, Cond.selects RX12 yX12_hex yX12_hex, Cond.code yX12_hex cX12_hex 5 none, Cond.methodLink RX12 659 yX12_sayR, Cond.instanceMethod yX12_sayR, Cond.selects RX12 yX12_sayR yX12_sayR, Cond.code yX12_sayR cX12_sayR 2 none, Cond.methodLink RX12 584 yX12_sayPlace, Cond.instanceMethod yX12_sayPlace, Cond.selects RX12 yX12_sayPlace yX12_sayPlace, Cond.code yX12_sayPlace cX12_sayPlace 1 none, Cond.methodLink RX12 587 yX12_sayHl, Cond.instanceMethod yX12_sayHl, Cond.selects RX12 yX12_sayHl yX12_sayHl, Cond.code yX12_sayHl cX12_sayHl 1 none]
noncomputable def wsL_law0_r76 : List Cond := [Cond.methodLink RX12 652 yX12_sayPlain, Cond.instanceMethod yX12_sayPlain, Cond.selects RX12 yX12_sayPlain yX12_sayPlain, Cond.code yX12_sayPlain cX12_sayPlain 4 none, Cond.methodLink RX12 684 yX12_sayZero, Cond.instanceMethod yX12_sayZero, Cond.selects RX12 yX12_sayZero yX12_sayZero, Cond.code yX12_sayZero cX12_sayZero 5 none, Cond.methodLink RX12 709 yX12_sayCc, Cond.instanceMethod yX12_sayCc, Cond.selects RX12 yX12_sayCc yX12_sayCc, Cond.code yX12_sayCc cX12_sayCc 2 none, Cond.methodLink RX12 712 yX12_sayJump, Cond.instanceMethod yX12_sayJump, Cond.selects RX12 yX12_sayJump yX12_sayJump, Cond.code yX12_sayJump cX12_sayJump 2 none, Cond.methodLink RX12 715 yX12_sayRp, Cond.instanceMethod yX12_sayRp, Cond.selects RX12 yX12_sayRp yX12_sayRp, Cond.code yX12_sayRp cX12_sayRp 3 none, Cond.methodLink RX12 718 yX12_takenWord, Cond.instanceMethod yX12_takenWord, Cond.selects RX12 yX12_takenWord yX12_takenWord, Cond.code yX12_takenWord cX12_takenWord 2 (some .int)]
noncomputable def wsL_law0_r77 : List Cond := [Cond.methodLink RX12 729 yX12_sayPlaced, Cond.instanceMethod yX12_sayPlaced, Cond.selects RX12 yX12_sayPlaced yX12_sayPlaced, Cond.code yX12_sayPlaced cX12_sayPlaced 2 none, Cond.methodLink RX12 687 yX12_saySingle, Cond.instanceMethod yX12_saySingle, Cond.selects RX12 yX12_saySingle yX12_saySingle, Cond.code yX12_saySingle cX12_saySingle 3 none, Cond.methodLink RX12 694 yX12_sayDo, Cond.instanceMethod yX12_sayDo, Cond.selects RX12 yX12_sayDo yX12_sayDo, Cond.code yX12_sayDo cX12_sayDo 2 none, Cond.methodLink RX12 697 yX12_sayThree, Cond.instanceMethod yX12_sayThree, Cond.selects RX12 yX12_sayThree yX12_sayThree, Cond.code yX12_sayThree cX12_sayThree 4 none, Cond.methodLink RX12 700 yX12_sayLast, Cond.instanceMethod yX12_sayLast, Cond.selects RX12 yX12_sayLast yX12_sayLast, Cond.code yX12_sayLast cX12_sayLast 4 none, Cond.methodLink RX12 649 yX12_sayMore, Cond.instanceMethod yX12_sayMore, Cond.selects RX12 yX12_sayMore yX12_sayMore, Cond.code yX12_sayMore cX12_sayMore 6 none]
noncomputable def wsL_law0_r78 : List Cond := [Cond.methodLink RX12 807 yX12_sayOdd, Cond.instanceMethod yX12_sayOdd, Cond.selects RX12 yX12_sayOdd yX12_sayOdd, Cond.code yX12_sayOdd cX12_sayOdd 3 none, Cond.methodLink RL 164 yL_text, Cond.static yL_text, Cond.codeWith yL_text cL_text 4 (some .int) [(0, 8, 11, 50)], Cond.classLink RL 50 "java/util/NoSuchElementException", Cond.methodLink RL 46 yX11_text, Cond.instanceMethod yX11_text, Cond.selects RX11 yX11_text yX11_text, Cond.code yX11_text cX11_text 2 (some .long), Cond.classLink RX11 200 "java/util/NoSuchElementException", Cond.initialized "java/util/NoSuchElementException", Cond.fieldLink RX11 197 "PadConsole$Teller" "length" "I", Cond.methodLink RX11 205 yX8_eightFrom, Cond.instanceMethod yX8_eightFrom, Cond.selects RX8 yX8_eightFrom yX8_eightFrom, Cond.code yX8_eightFrom cX8_eightFrom 6 (some .long), Cond.methodLink RL 166 yX12_text, Cond.instanceMethod yX12_text, Cond.selects RX12 yX12_text yX12_text, Cond.code yX12_text cX12_text 5 (some .long), Cond.methodLink RL 167 yL_stop]
noncomputable def wsL_law0_r79 : List Cond := [Cond.static yL_stop, Cond.codeWith yL_stop cL_stop 5 (some .int) [(0, 10, 13, 13), (0, 10, 17, 15)], Cond.methodLink RL 52 yX11_stop, Cond.instanceMethod yX11_stop, Cond.selects RX11 yX11_stop yX11_stop, Cond.code yX11_stop cX11_stop 3 (some .int), Cond.constant RX11 209 (65535), Cond.methodLink RX11 212 yX1_stopsBeside, Cond.instanceMethod yX1_stopsBeside, Cond.selects RX1 yX1_stopsBeside yX1_stopsBeside, Cond.code yX1_stopsBeside cX1_stopsBeside 2 (some .int), Cond.methodLink RX1 45 yX1_isStop, Cond.methodLink RX11 217 yX1_changeStop, Cond.instanceMethod yX1_changeStop, Cond.selects RX1 yX1_changeStop yX1_changeStop, Cond.code yX1_changeStop cX1_changeStop 5 (some .int), Cond.methodLink RL 170 yX12_stop, Cond.instanceMethod yX12_stop, Cond.selects RX12 yX12_stop yX12_stop, Cond.code yX12_stop cX12_stop 5 (some .int), Cond.constantLong RX12 446 (65535), Cond.methodLink RL 171 yX11_save, Cond.instanceMethod yX11_save, Cond.selects RX11 yX11_save yX11_save]
noncomputable def wsL_law0_r80 : List Cond := [Cond.code yX11_save cX11_save 1 none, Cond.methodLink RX11 221 yX2_keep, Cond.instanceMethod yX2_keep, Cond.selects RX2 yX2_keep yX2_keep, Cond.code yX2_keep cX2_keep 1 none, Cond.methodLink RX2 109 arraycopyName, Cond.native arraycopyName, Cond.static arraycopyName, Cond.initialized "java/lang/System", Cond.methodLink RX11 224 yX9_keep, Cond.instanceMethod yX9_keep, Cond.selects RX9 yX9_keep yX9_keep, Cond.code yX9_keep cX9_keep 1 none, Cond.methodLink RX9 36 arraycopyName, Cond.methodLink RX11 225 yX3_keep, Cond.instanceMethod yX3_keep, Cond.selects RX3 yX3_keep yX3_keep, Cond.code yX3_keep cX3_keep 1 none, Cond.methodLink RX3 34 arraycopyName, Cond.methodLink RX11 226 yX7_keep, Cond.instanceMethod yX7_keep, Cond.selects RX7 yX7_keep yX7_keep, Cond.code yX7_keep cX7_keep 1 none, Cond.methodLink RX7 29 arraycopyName]
noncomputable def wsL_law0_r81 : List Cond := [Cond.methodLink RX11 227 yX10_keep, Cond.instanceMethod yX10_keep, Cond.selects RX10 yX10_keep yX10_keep, Cond.code yX10_keep cX10_keep 1 none, Cond.methodLink RX10 25 arraycopyName, Cond.methodLink RX11 228 yX4_keep, Cond.instanceMethod yX4_keep, Cond.selects RX4 yX4_keep yX4_keep, Cond.code yX4_keep cX4_keep 1 none, Cond.methodLink RX4 35 arraycopyName, Cond.methodLink RX11 229 yX5_keep, Cond.instanceMethod yX5_keep, Cond.selects RX5 yX5_keep yX5_keep, Cond.code yX5_keep cX5_keep 1 none, Cond.methodLink RX5 35 arraycopyName, Cond.methodLink RX11 230 yX0_keep, Cond.instanceMethod yX0_keep, Cond.selects RX0 yX0_keep yX0_keep, Cond.code yX0_keep cX0_keep 1 none, Cond.methodLink RX0 34 arraycopyName, Cond.methodLink RX0 40 yX6_keep, Cond.instanceMethod yX6_keep, Cond.selects RX6 yX6_keep yX6_keep, Cond.code yX6_keep cX6_keep 1 none]
noncomputable def wsL_law0_r82 : List Cond := [Cond.methodLink RX6 23 arraycopyName, Cond.fieldLink RX6 29 "PadConsole$Ring" "firstKept" "I", Cond.fieldLink RX6 32 "PadConsole$Ring" "countKept" "I", Cond.methodLink RX11 231 yX1_keep, Cond.instanceMethod yX1_keep, Cond.selects RX1 yX1_keep yX1_keep, Cond.code yX1_keep cX1_keep 1 none, Cond.methodLink RX1 31 arraycopyName, Cond.methodLink RL 174 yX12_save, Cond.instanceMethod yX12_save, Cond.selects RX12 yX12_save yX12_save, Cond.code yX12_save cX12_save 2 none, Cond.methodLink RL 175 yL_restore, Cond.static yL_restore, Cond.codeWith yL_restore cL_restore 2 (some .int) [(0, 4, 7, 15)], Cond.classLink RL 15 "java/lang/IllegalStateException", Cond.methodLink RL 56 yX11_restore, Cond.instanceMethod yX11_restore, Cond.selects RX11 yX11_restore yX11_restore, Cond.code yX11_restore cX11_restore 1 none, Cond.methodLink RX11 234 yX2_bringBack, Cond.instanceMethod yX2_bringBack, Cond.selects RX2 yX2_bringBack yX2_bringBack, Cond.code yX2_bringBack cX2_bringBack 1 none]
noncomputable def wsL_law0_r83 : List Cond := [Cond.methodLink RX11 237 yX9_bringBack, Cond.instanceMethod yX9_bringBack, Cond.selects RX9 yX9_bringBack yX9_bringBack, Cond.code yX9_bringBack cX9_bringBack 1 none, Cond.methodLink RX11 238 yX3_bringBack, Cond.instanceMethod yX3_bringBack, Cond.selects RX3 yX3_bringBack yX3_bringBack, Cond.code yX3_bringBack cX3_bringBack 1 none, Cond.methodLink RX11 239 yX7_bringBack, Cond.instanceMethod yX7_bringBack, Cond.selects RX7 yX7_bringBack yX7_bringBack, Cond.code yX7_bringBack cX7_bringBack 1 none, Cond.methodLink RX11 240 yX10_bringBack, Cond.instanceMethod yX10_bringBack, Cond.selects RX10 yX10_bringBack yX10_bringBack, Cond.code yX10_bringBack cX10_bringBack 1 none, Cond.methodLink RX11 241 yX4_bringBack, Cond.instanceMethod yX4_bringBack, Cond.selects RX4 yX4_bringBack yX4_bringBack, Cond.code yX4_bringBack cX4_bringBack 1 none, Cond.methodLink RX11 242 yX5_bringBack, Cond.instanceMethod yX5_bringBack, Cond.selects RX5 yX5_bringBack yX5_bringBack, Cond.code yX5_bringBack cX5_bringBack 1 none]
noncomputable def wsL_law0_r84 : List Cond := [Cond.methodLink RX11 243 yX0_bringBack, Cond.instanceMethod yX0_bringBack, Cond.selects RX0 yX0_bringBack yX0_bringBack, Cond.code yX0_bringBack cX0_bringBack 1 none, Cond.methodLink RX0 43 yX6_bringBack, Cond.instanceMethod yX6_bringBack, Cond.selects RX6 yX6_bringBack yX6_bringBack, Cond.code yX6_bringBack cX6_bringBack 1 none, Cond.methodLink RX11 244 yX1_bringBack, Cond.instanceMethod yX1_bringBack, Cond.selects RX1 yX1_bringBack yX1_bringBack, Cond.code yX1_bringBack cX1_bringBack 1 none, Cond.methodLink RL 178 yX12_restore, Cond.instanceMethod yX12_restore, Cond.selects RX12 yX12_restore yX12_restore, Cond.code yX12_restore cX12_restore 2 none, Cond.methodLink RL 179 yL_register, Cond.static yL_register, Cond.codeWith yL_register cL_register 4 (some .int) [(0, 9, 12, 13)], Cond.methodLink RL 59 yX11_register, Cond.instanceMethod yX11_register, Cond.selects RX11 yX11_register yX11_register, Cond.code yX11_register cX11_register 2 (some .int), Cond.methodLink RL 181 yX12_register]
noncomputable def wsL_law0_r85 : List Cond := [Cond.instanceMethod yX12_register, Cond.selects RX12 yX12_register yX12_register, Cond.code yX12_register cX12_register 2 (some .int), Cond.constantLong RX12 448 (26), Cond.methodLink RL 182 yL_set, Cond.static yL_set, Cond.codeWith yL_set cL_set 4 (some .int) [(0, 6, 9, 13)], Cond.methodLink RL 62 yX11_set, Cond.instanceMethod yX11_set, Cond.selects RX11 yX11_set yX11_set, Cond.code yX11_set cX11_set 3 none, Cond.methodLink RX11 250 yX5_change, Cond.instanceMethod yX5_change, Cond.selects RX5 yX5_change yX5_change, Cond.code yX5_change cX5_change 3 none, Cond.methodLink RX5 41 Lib.Math.min.name, Cond.methodLink RL 184 yX12_set, Cond.instanceMethod yX12_set, Cond.selects RX12 yX12_set yX12_set, Cond.code yX12_set cX12_set 3 none, Cond.constantLong RX12 450 (25), Cond.methodLink RL 185 yX12_thrown, Cond.instanceMethod yX12_thrown, Cond.selects RX12 yX12_thrown yX12_thrown]
noncomputable def wsL_law0_r86 : List Cond := [Cond.code yX12_thrown cX12_thrown 1 (some .int), Cond.methodLink RL 188 yX11_peek, Cond.instanceMethod yX11_peek, Cond.selects RX11 yX11_peek yX11_peek, Cond.code yX11_peek cX11_peek 2 (some .int), Cond.methodLink RX11 253 yX2_read, Cond.methodLink RL 191 yX12_peek, Cond.instanceMethod yX12_peek, Cond.selects RX12 yX12_peek yX12_peek, Cond.code yX12_peek cX12_peek 2 (some .int), Cond.methodLink RL 192 yX11_poke, Cond.instanceMethod yX11_poke, Cond.selects RX11 yX11_poke yX11_poke, Cond.code yX11_poke cX11_poke 3 none, Cond.methodLink RX11 256 yX2_write, Cond.methodLink RL 195 yX12_poke, Cond.instanceMethod yX12_poke, Cond.selects RX12 yX12_poke yX12_poke, Cond.code yX12_poke cX12_poke 3 none, Cond.methodLink RL 196 yX11_in, Cond.instanceMethod yX11_in, Cond.selects RX11 yX11_in yX11_in, Cond.code yX11_in cX11_in 2 (some .int), Cond.methodLink RX11 258 yX4_read]
noncomputable def wsL_law0_r87 : List Cond := [Cond.methodLink RL 199 yX12_in, Cond.instanceMethod yX12_in, Cond.selects RX12 yX12_in yX12_in, Cond.code yX12_in cX12_in 2 (some .int), Cond.methodLink RL 200 yX11_out, Cond.instanceMethod yX11_out, Cond.selects RX11 yX11_out yX11_out, Cond.code yX11_out cX11_out 3 none, Cond.methodLink RX11 259 yX4_write, Cond.methodLink RL 203 yX12_out, Cond.instanceMethod yX12_out, Cond.selects RX12 yX12_out yX12_out, Cond.code yX12_out cX12_out 3 none, Cond.methodLink RL 204 yL_battery, Cond.static yL_battery, Cond.codeWith yL_battery cL_battery 4 (some .int) [(0, 9, 12, 50)], Cond.methodLink RL 65 yX11_battery, Cond.instanceMethod yX11_battery, Cond.selects RX11 yX11_battery yX11_battery, Cond.code yX11_battery cX11_battery 2 (some .int), Cond.constant RX11 260 (32768), Cond.methodLink RX11 263 yX2_batteryByte, Cond.instanceMethod yX2_batteryByte, Cond.selects RX2 yX2_batteryByte yX2_batteryByte]
noncomputable def wsL_law0_r88 : List Cond := [Cond.code yX2_batteryByte cX2_batteryByte 2 (some .int), Cond.methodLink RL 206 yX12_battery, Cond.instanceMethod yX12_battery, Cond.selects RX12 yX12_battery yX12_battery, Cond.code yX12_battery cX12_battery 2 (some .int), Cond.constantLong RX12 452 (32767), Cond.methodLink RL 207 yX11_wipe, Cond.instanceMethod yX11_wipe, Cond.selects RX11 yX11_wipe yX11_wipe, Cond.code yX11_wipe cX11_wipe 1 none, Cond.methodLink RX11 266 yX2_clearBattery, Cond.instanceMethod yX2_clearBattery, Cond.selects RX2 yX2_clearBattery yX2_clearBattery, Cond.code yX2_clearBattery cX2_clearBattery 1 none, Cond.methodLink RL 210 yX12_wipe, Cond.instanceMethod yX12_wipe, Cond.selects RX12 yX12_wipe yX12_wipe, Cond.code yX12_wipe cX12_wipe 2 none, Cond.methodLink RL 211 yX11_video, Cond.instanceMethod yX11_video, Cond.selects RX11 yX11_video yX11_video, Cond.code yX11_video cX11_video 2 (some .long), Cond.methodLink RX11 269 yX9_eightFrom, Cond.instanceMethod yX9_eightFrom]
noncomputable def wsL_law0_r89 : List Cond := [Cond.selects RX9 yX9_eightFrom yX9_eightFrom, Cond.code yX9_eightFrom cX9_eightFrom 5 (some .long), Cond.methodLink RL 214 yX12_video, Cond.instanceMethod yX12_video, Cond.selects RX12 yX12_video yX12_video, Cond.code yX12_video cX12_video 5 (some .long), Cond.methodLink RL 215 yL_chip, Cond.static yL_chip, Cond.codeWith yL_chip cL_chip 4 (some .int) [(0, 9, 12, 13)], Cond.methodLink RL 68 yX11_chip, Cond.instanceMethod yX11_chip, Cond.selects RX11 yX11_chip yX11_chip, Cond.code yX11_chip cX11_chip 2 (some .int), Cond.methodLink RX11 270 yX9_has, Cond.static yX9_has, Cond.code yX9_has cX9_has 1 (some .boolean), Cond.methodLink RX11 276 yX9_value, Cond.instanceMethod yX9_value, Cond.selects RX9 yX9_value yX9_value, Cond.code yX9_value cX9_value 2 (some .int), Cond.methodLink RX9 42 yX9_asks, Cond.methodLink RX9 46 yX9_mode, Cond.methodLink RX9 53 yX9_hCount, Cond.methodLink RX9 56 yX9_vCount]
noncomputable def wsL_law0_r90 : List Cond := [Cond.methodLink RX9 59 yX9_held, Cond.methodLink RL 217 yX12_chip, Cond.instanceMethod yX12_chip, Cond.selects RX12 yX12_chip yX12_chip, Cond.code yX12_chip cX12_chip 2 (some .int), Cond.constantLong RX12 454 (95), Cond.methodLink RL 218 yL_dot, Cond.static yL_dot, Cond.codeWith yL_dot cL_dot 5 (some .int) [(0, 10, 13, 50)], Cond.methodLink RL 71 yX11_dot, Cond.instanceMethod yX11_dot, Cond.selects RX11 yX11_dot yX11_dot, Cond.code yX11_dot cX11_dot 3 (some .int), Cond.methodLink RX11 277 yX3_width, Cond.instanceMethod yX3_width, Cond.selects RX3 yX3_width yX3_width, Cond.code yX3_width cX3_width 1 (some .int), Cond.methodLink RX11 280 yX3_height, Cond.instanceMethod yX3_height, Cond.selects RX3 yX3_height yX3_height, Cond.code yX3_height cX3_height 1 (some .int), Cond.methodLink RX11 285 yX3_dotAt, Cond.instanceMethod yX3_dotAt, Cond.selects RX3 yX3_dotAt yX3_dotAt]
noncomputable def wsL_law0_r91 : List Cond := [Cond.code yX3_dotAt cX3_dotAt 4 (some .int), Cond.methodLink RX3 46 yX3_placeOf, Cond.instanceMethod yX3_placeOf, Cond.selects RX3 yX3_placeOf yX3_placeOf, Cond.code yX3_placeOf cX3_placeOf 2 (some .int), Cond.methodLink RL 221 yX12_dot, Cond.instanceMethod yX12_dot, Cond.selects RX12 yX12_dot yX12_dot, Cond.code yX12_dot cX12_dot 4 (some .int), Cond.methodLink RL 222 yL_row, Cond.static yL_row, Cond.codeWith yL_row cL_row 4 (some .int) [(0, 9, 12, 50)], Cond.methodLink RL 75 yX11_row, Cond.instanceMethod yX11_row, Cond.selects RX11 yX11_row yX11_row, Cond.code yX11_row cX11_row 2 (some .int), Cond.methodLink RX11 290 yX3_sumOfLine, Cond.instanceMethod yX3_sumOfLine, Cond.selects RX3 yX3_sumOfLine yX3_sumOfLine, Cond.code yX3_sumOfLine cX3_sumOfLine 6 (some .int), Cond.methodLink RX3 53 Lib.Math.min.name, Cond.methodLink RX3 59 Lib.Math.max.name, Cond.methodLink RX3 50 yX3_width, Cond.methodLink RL 224 yX12_row]
noncomputable def wsL_law0_r92 : List Cond := [Cond.instanceMethod yX12_row, Cond.selects RX12 yX12_row yX12_row, Cond.code yX12_row cX12_row 5 (some .int), Cond.methodLink RL 225 yL_hear, Cond.static yL_hear, Cond.codeWith yL_hear cL_hear 3 (some .int) [(0, 7, 10, 50)], Cond.methodLink RL 78 yX11_hear, Cond.instanceMethod yX11_hear, Cond.selects RX11 yX11_hear yX11_hear, Cond.code yX11_hear cX11_hear 1 (some .long), Cond.fieldLink RX11 293 "PadConsole$Clock" "samples" "LPadConsole$Ring;", Cond.methodLink RX11 297 yX6_size, Cond.instanceMethod yX6_size, Cond.selects RX6 yX6_size yX6_size, Cond.code yX6_size cX6_size 1 (some .int), Cond.methodLink RX11 304 yX6_takeFirst, Cond.instanceMethod yX6_takeFirst, Cond.selects RX6 yX6_takeFirst yX6_takeFirst, Cond.code yX6_takeFirst cX6_takeFirst 3 (some .long), Cond.methodLink RL 228 yX12_hear, Cond.instanceMethod yX12_hear, Cond.selects RX12 yX12_hear yX12_hear, Cond.code yX12_hear cX12_hear 3 (some .long), Cond.methodLink RL 229 yL_mix]
noncomputable def wsL_law0_r93 : List Cond := [Cond.static yL_mix, Cond.codeWith yL_mix cL_mix 3 (some .int) [(0, 7, 10, 50)], Cond.methodLink RL 82 yX11_mix, Cond.instanceMethod yX11_mix, Cond.selects RX11 yX11_mix yX11_mix, Cond.code yX11_mix cX11_mix 1 (some .long), Cond.fieldLink RX11 308 "PadConsole$Clock" "mixes" "LPadConsole$Ring;", Cond.methodLink RL 231 yX12_mix, Cond.instanceMethod yX12_mix, Cond.selects RX12 yX12_mix yX12_mix, Cond.code yX12_mix cX12_mix 3 (some .long), Cond.methodLink RL 232 yL_wave, Cond.static yL_wave, Cond.codeWith yL_wave cL_wave 4 (some .int) [(0, 9, 12, 13)], Cond.methodLink RL 85 yX11_wave, Cond.instanceMethod yX11_wave, Cond.selects RX11 yX11_wave yX11_wave, Cond.code yX11_wave cX11_wave 2 (some .int), Cond.methodLink RX11 313 yX10_has, Cond.static yX10_has, Cond.code yX10_has cX10_has 1 (some .boolean), Cond.methodLink RX11 316 yX10_value, Cond.methodLink RL 234 yX12_wave, Cond.instanceMethod yX12_wave]
noncomputable def wsL_law0_r94 : List Cond := [Cond.selects RX12 yX12_wave yX12_wave, Cond.code yX12_wave cX12_wave 2 (some .int), Cond.constantLong RX12 536 (67), Cond.constantLong RX12 538 (128), Cond.constantLong RX12 540 (271), Cond.methodLink RL 235 yL_sound, Cond.static yL_sound, Cond.codeWith yL_sound cL_sound 4 (some .int) [(0, 9, 12, 13)], Cond.methodLink RL 88 yX11_sound, Cond.instanceMethod yX11_sound, Cond.selects RX11 yX11_sound yX11_sound, Cond.code yX11_sound cX11_sound 2 (some .int), Cond.methodLink RX11 319 yX7_value, Cond.instanceMethod yX7_value, Cond.selects RX7 yX7_value yX7_value, Cond.code yX7_value cX7_value 2 (some .int), Cond.methodLink RL 237 yX12_sound, Cond.instanceMethod yX12_sound, Cond.selects RX12 yX12_sound yX12_sound, Cond.code yX12_sound cX12_sound 2 (some .int), Cond.constantLong RX12 442 (18), Cond.methodLink RL 238 yX11_trace, Cond.instanceMethod yX11_trace, Cond.selects RX11 yX11_trace yX11_trace]
noncomputable def wsL_law0_r95 : List Cond := [Cond.code yX11_trace cX11_trace 2 (some .int), Cond.methodLink RX11 320 yX1_stepBack, Cond.instanceMethod yX1_stepBack, Cond.selects RX1 yX1_stepBack yX1_stepBack, Cond.code yX1_stepBack cX1_stepBack 2 (some .int), Cond.methodLink RL 241 yX12_trace, Cond.instanceMethod yX12_trace, Cond.selects RX12 yX12_trace yX12_trace, Cond.code yX12_trace cX12_trace 2 (some .int), Cond.constantLong RX12 456 (31), Cond.methodLink RL 242 yL_look, Cond.static yL_look, Cond.codeWith yL_look cL_look 4 (some .int) [(0, 8, 11, 13)], Cond.methodLink RL 91 yX11_look, Cond.instanceMethod yX11_look, Cond.selects RX11 yX11_look yX11_look, Cond.code yX11_look cX11_look 2 (some .long), Cond.methodLink RX11 328 yX1_stopCount, Cond.instanceMethod yX1_stopCount, Cond.selects RX1 yX1_stopCount yX1_stopCount, Cond.code yX1_stopCount cX1_stopCount 1 (some .int), Cond.methodLink RX11 331 yX2_cardSize, Cond.instanceMethod yX2_cardSize, Cond.selects RX2 yX2_cardSize yX2_cardSize]
noncomputable def wsL_law0_r96 : List Cond := [Cond.code yX2_cardSize cX2_cardSize 1 (some .int), Cond.methodLink RX11 334 yX2_page, Cond.instanceMethod yX2_page, Cond.selects RX2 yX2_page yX2_page, Cond.code yX2_page cX2_page 2 (some .int), Cond.methodLink RX11 337 yX4_value, Cond.instanceMethod yX4_value, Cond.selects RX4 yX4_value yX4_value, Cond.code yX4_value cX4_value 2 (some .int), Cond.methodLink RL 244 yX12_look, Cond.instanceMethod yX12_look, Cond.selects RX12 yX12_look yX12_look, Cond.code yX12_look cX12_look 2 (some .long)]
noncomputable def wsL_law0 : List Cond := (wsL_law0_r1 ++ (wsL_law0_r2 ++ (wsL_law0_r3 ++ (wsL_law0_r4 ++ (wsL_law0_r5 ++ (wsL_law0_r6 ++ (wsL_law0_r7 ++ (wsL_law0_r8 ++ (wsL_law0_r9 ++ (wsL_law0_r10 ++ (wsL_law0_r11 ++ (wsL_law0_r12 ++ (wsL_law0_r13 ++ (wsL_law0_r14 ++ (wsL_law0_r15 ++ (wsL_law0_r16 ++ (wsL_law0_r17 ++ (wsL_law0_r18 ++ (wsL_law0_r19 ++ (wsL_law0_r20 ++ (wsL_law0_r21 ++ (wsL_law0_r22 ++ (wsL_law0_r23 ++ (wsL_law0_r24 ++ (wsL_law0_r25 ++ (wsL_law0_r26 ++ (wsL_law0_r27 ++ (wsL_law0_r28 ++ (wsL_law0_r29 ++ (wsL_law0_r30 ++ (wsL_law0_r31 ++ (wsL_law0_r32 ++ (wsL_law0_r33 ++ (wsL_law0_r34 ++ (wsL_law0_r35 ++ (wsL_law0_r36 ++ (wsL_law0_r37 ++ (wsL_law0_r38 ++ (wsL_law0_r39 ++ (wsL_law0_r40 ++ (wsL_law0_r41 ++ (wsL_law0_r42 ++ (wsL_law0_r43 ++ (wsL_law0_r44 ++ (wsL_law0_r45 ++ (wsL_law0_r46 ++ (wsL_law0_r47 ++ (wsL_law0_r48 ++ (wsL_law0_r49 ++ (wsL_law0_r50 ++ (wsL_law0_r51 ++ (wsL_law0_r52 ++ (wsL_law0_r53 ++ (wsL_law0_r54 ++ (wsL_law0_r55 ++ (wsL_law0_r56 ++ (wsL_law0_r57 ++ (wsL_law0_r58 ++ (wsL_law0_r59 ++ (wsL_law0_r60 ++ (wsL_law0_r61 ++ (wsL_law0_r62 ++ (wsL_law0_r63 ++ (wsL_law0_r64 ++ (wsL_law0_r65 ++ (wsL_law0_r66 ++ (wsL_law0_r67 ++ (wsL_law0_r68 ++ (wsL_law0_r69 ++ (wsL_law0_r70 ++ (wsL_law0_r71 ++ (wsL_law0_r72 ++ (wsL_law0_r73 ++ (wsL_law0_r74 ++ (wsL_law0_r75 ++ (wsL_law0_r76 ++ (wsL_law0_r77 ++ (wsL_law0_r78 ++ (wsL_law0_r79 ++ (wsL_law0_r80 ++ (wsL_law0_r81 ++ (wsL_law0_r82 ++ (wsL_law0_r83 ++ (wsL_law0_r84 ++ (wsL_law0_r85 ++ (wsL_law0_r86 ++ (wsL_law0_r87 ++ (wsL_law0_r88 ++ (wsL_law0_r89 ++ (wsL_law0_r90 ++ (wsL_law0_r91 ++ (wsL_law0_r92 ++ (wsL_law0_r93 ++ (wsL_law0_r94 ++ (wsL_law0_r95 ++ wsL_law0_r96))))))))))))))))))))))))))))))))))))))))))))))))))))))))))))))))))))))))))))))))))))))))))))))) ++ wsX110 ++ wsX120 ++ wsX20 ++ wsX90 ++ wsX30 ++ wsX70 ++ wsX100 ++ wsX40 ++ wsX50 ++ wsX00 ++ wsX10 ++ wsX80 ++ wsJ40 ++ wsX60 ++ wsJ00 ++ ([] : List Cond)
noncomputable def wsL_law : List Cond := wsL_law0 ++ (vx_atS RX11 99 "java/lang/IllegalArgumentException" ["java/lang/RuntimeException", "java/lang/Exception"]).filter goodWord ++ (vx_atS RX11 111 "java/lang/IllegalStateException" ["java/lang/RuntimeException", "java/lang/Exception"]).filter goodWord ++ (zx_at RX11 204 "java/util/NoSuchElementException" "java/lang/RuntimeException" 13 zx_bs ["java/lang/Exception"]).filter goodWord
theorem inlX0 : ∀ w ∈ wsX00, w ∈ wsL_law := fun _ h => List.mem_append_left _ (List.mem_append_left _ (List.mem_append_left _ (List.mem_append_left _ (List.mem_append_left _ (List.mem_append_left _ (List.mem_append_left _ (List.mem_append_left _ (List.mem_append_left _ (List.mem_append_right _ h)))))))))
theorem inlX1 : ∀ w ∈ wsX10, w ∈ wsL_law := fun _ h => List.mem_append_left _ (List.mem_append_left _ (List.mem_append_left _ (List.mem_append_left _ (List.mem_append_left _ (List.mem_append_left _ (List.mem_append_left _ (List.mem_append_left _ (List.mem_append_right _ h))))))))
theorem inlX2 : ∀ w ∈ wsX20, w ∈ wsL_law := fun _ h => List.mem_append_left _ (List.mem_append_left _ (List.mem_append_left _ (List.mem_append_left _ (List.mem_append_left _ (List.mem_append_left _ (List.mem_append_left _ (List.mem_append_left _ (List.mem_append_left _ (List.mem_append_left _ (List.mem_append_left _ (List.mem_append_left _ (List.mem_append_left _ (List.mem_append_left _ (List.mem_append_left _ (List.mem_append_left _ (List.mem_append_right _ h))))))))))))))))
theorem inlX3 : ∀ w ∈ wsX30, w ∈ wsL_law := fun _ h => List.mem_append_left _ (List.mem_append_left _ (List.mem_append_left _ (List.mem_append_left _ (List.mem_append_left _ (List.mem_append_left _ (List.mem_append_left _ (List.mem_append_left _ (List.mem_append_left _ (List.mem_append_left _ (List.mem_append_left _ (List.mem_append_left _ (List.mem_append_left _ (List.mem_append_left _ (List.mem_append_right _ h))))))))))))))
theorem inlX4 : ∀ w ∈ wsX40, w ∈ wsL_law := fun _ h => List.mem_append_left _ (List.mem_append_left _ (List.mem_append_left _ (List.mem_append_left _ (List.mem_append_left _ (List.mem_append_left _ (List.mem_append_left _ (List.mem_append_left _ (List.mem_append_left _ (List.mem_append_left _ (List.mem_append_left _ (List.mem_append_right _ h)))))))))))
theorem inlX5 : ∀ w ∈ wsX50, w ∈ wsL_law := fun _ h => List.mem_append_left _ (List.mem_append_left _ (List.mem_append_left _ (List.mem_append_left _ (List.mem_append_left _ (List.mem_append_left _ (List.mem_append_left _ (List.mem_append_left _ (List.mem_append_left _ (List.mem_append_left _ (List.mem_append_right _ h))))))))))
theorem inlX6 : ∀ w ∈ wsX60, w ∈ wsL_law := fun _ h => List.mem_append_left _ (List.mem_append_left _ (List.mem_append_left _ (List.mem_append_left _ (List.mem_append_left _ (List.mem_append_right _ h)))))
theorem inlX7 : ∀ w ∈ wsX70, w ∈ wsL_law := fun _ h => List.mem_append_left _ (List.mem_append_left _ (List.mem_append_left _ (List.mem_append_left _ (List.mem_append_left _ (List.mem_append_left _ (List.mem_append_left _ (List.mem_append_left _ (List.mem_append_left _ (List.mem_append_left _ (List.mem_append_left _ (List.mem_append_left _ (List.mem_append_left _ (List.mem_append_right _ h)))))))))))))
theorem inlX8 : ∀ w ∈ wsX80, w ∈ wsL_law := fun _ h => List.mem_append_left _ (List.mem_append_left _ (List.mem_append_left _ (List.mem_append_left _ (List.mem_append_left _ (List.mem_append_left _ (List.mem_append_left _ (List.mem_append_right _ h)))))))
theorem inlX9 : ∀ w ∈ wsX90, w ∈ wsL_law := fun _ h => List.mem_append_left _ (List.mem_append_left _ (List.mem_append_left _ (List.mem_append_left _ (List.mem_append_left _ (List.mem_append_left _ (List.mem_append_left _ (List.mem_append_left _ (List.mem_append_left _ (List.mem_append_left _ (List.mem_append_left _ (List.mem_append_left _ (List.mem_append_left _ (List.mem_append_left _ (List.mem_append_left _ (List.mem_append_right _ h)))))))))))))))
theorem inlX10 : ∀ w ∈ wsX100, w ∈ wsL_law := fun _ h => List.mem_append_left _ (List.mem_append_left _ (List.mem_append_left _ (List.mem_append_left _ (List.mem_append_left _ (List.mem_append_left _ (List.mem_append_left _ (List.mem_append_left _ (List.mem_append_left _ (List.mem_append_left _ (List.mem_append_left _ (List.mem_append_left _ (List.mem_append_right _ h))))))))))))
theorem inlX11 : ∀ w ∈ wsX110, w ∈ wsL_law := fun _ h => List.mem_append_left _ (List.mem_append_left _ (List.mem_append_left _ (List.mem_append_left _ (List.mem_append_left _ (List.mem_append_left _ (List.mem_append_left _ (List.mem_append_left _ (List.mem_append_left _ (List.mem_append_left _ (List.mem_append_left _ (List.mem_append_left _ (List.mem_append_left _ (List.mem_append_left _ (List.mem_append_left _ (List.mem_append_left _ (List.mem_append_left _ (List.mem_append_left _ (List.mem_append_right _ h))))))))))))))))))
theorem inlX12 : ∀ w ∈ wsX120, w ∈ wsL_law := fun _ h => List.mem_append_left _ (List.mem_append_left _ (List.mem_append_left _ (List.mem_append_left _ (List.mem_append_left _ (List.mem_append_left _ (List.mem_append_left _ (List.mem_append_left _ (List.mem_append_left _ (List.mem_append_left _ (List.mem_append_left _ (List.mem_append_left _ (List.mem_append_left _ (List.mem_append_left _ (List.mem_append_left _ (List.mem_append_left _ (List.mem_append_left _ (List.mem_append_right _ h)))))))))))))))))
theorem zLaw0 : ∀ w ∈ wsL_law0, w ∈ wsL_law := fun w h => (List.mem_append_left _ (List.mem_append_left _ (List.mem_append_left _ h)))
theorem zr1 : ∀ w ∈ wsL_law0_r1, w ∈ wsL_law := fun w h => zLaw0 w (List.mem_append_left _ (List.mem_append_left _ (List.mem_append_left _ (List.mem_append_left _ (List.mem_append_left _ (List.mem_append_left _ (List.mem_append_left _ (List.mem_append_left _ (List.mem_append_left _ (List.mem_append_left _ (List.mem_append_left _ (List.mem_append_left _ (List.mem_append_left _ (List.mem_append_left _ (List.mem_append_left _ (List.mem_append_left _ (List.mem_append_left _ h)))))))))))))))))
theorem zr2 : ∀ w ∈ wsL_law0_r2, w ∈ wsL_law := fun w h => zLaw0 w (List.mem_append_left _ (List.mem_append_left _ (List.mem_append_left _ (List.mem_append_left _ (List.mem_append_left _ (List.mem_append_left _ (List.mem_append_left _ (List.mem_append_left _ (List.mem_append_left _ (List.mem_append_left _ (List.mem_append_left _ (List.mem_append_left _ (List.mem_append_left _ (List.mem_append_left _ (List.mem_append_left _ (List.mem_append_left _ (List.mem_append_right _ (List.mem_append_left _ h))))))))))))))))))
theorem zr3 : ∀ w ∈ wsL_law0_r3, w ∈ wsL_law := fun w h => zLaw0 w (List.mem_append_left _ (List.mem_append_left _ (List.mem_append_left _ (List.mem_append_left _ (List.mem_append_left _ (List.mem_append_left _ (List.mem_append_left _ (List.mem_append_left _ (List.mem_append_left _ (List.mem_append_left _ (List.mem_append_left _ (List.mem_append_left _ (List.mem_append_left _ (List.mem_append_left _ (List.mem_append_left _ (List.mem_append_left _ (List.mem_append_right _ (List.mem_append_right _ (List.mem_append_left _ h)))))))))))))))))))
theorem zr4 : ∀ w ∈ wsL_law0_r4, w ∈ wsL_law := fun w h => zLaw0 w (List.mem_append_left _ (List.mem_append_left _ (List.mem_append_left _ (List.mem_append_left _ (List.mem_append_left _ (List.mem_append_left _ (List.mem_append_left _ (List.mem_append_left _ (List.mem_append_left _ (List.mem_append_left _ (List.mem_append_left _ (List.mem_append_left _ (List.mem_append_left _ (List.mem_append_left _ (List.mem_append_left _ (List.mem_append_left _ (List.mem_append_right _ (List.mem_append_right _ (List.mem_append_right _ (List.mem_append_left _ h))))))))))))))))))))
theorem zr5 : ∀ w ∈ wsL_law0_r5, w ∈ wsL_law := fun w h => zLaw0 w (List.mem_append_left _ (List.mem_append_left _ (List.mem_append_left _ (List.mem_append_left _ (List.mem_append_left _ (List.mem_append_left _ (List.mem_append_left _ (List.mem_append_left _ (List.mem_append_left _ (List.mem_append_left _ (List.mem_append_left _ (List.mem_append_left _ (List.mem_append_left _ (List.mem_append_left _ (List.mem_append_left _ (List.mem_append_left _ (List.mem_append_right _ (List.mem_append_right _ (List.mem_append_right _ (List.mem_append_right _ (List.mem_append_left _ h)))))))))))))))))))))
theorem zr6 : ∀ w ∈ wsL_law0_r6, w ∈ wsL_law := fun w h => zLaw0 w (List.mem_append_left _ (List.mem_append_left _ (List.mem_append_left _ (List.mem_append_left _ (List.mem_append_left _ (List.mem_append_left _ (List.mem_append_left _ (List.mem_append_left _ (List.mem_append_left _ (List.mem_append_left _ (List.mem_append_left _ (List.mem_append_left _ (List.mem_append_left _ (List.mem_append_left _ (List.mem_append_left _ (List.mem_append_left _ (List.mem_append_right _ (List.mem_append_right _ (List.mem_append_right _ (List.mem_append_right _ (List.mem_append_right _ (List.mem_append_left _ h))))))))))))))))))))))
theorem zr7 : ∀ w ∈ wsL_law0_r7, w ∈ wsL_law := fun w h => zLaw0 w (List.mem_append_left _ (List.mem_append_left _ (List.mem_append_left _ (List.mem_append_left _ (List.mem_append_left _ (List.mem_append_left _ (List.mem_append_left _ (List.mem_append_left _ (List.mem_append_left _ (List.mem_append_left _ (List.mem_append_left _ (List.mem_append_left _ (List.mem_append_left _ (List.mem_append_left _ (List.mem_append_left _ (List.mem_append_left _ (List.mem_append_right _ (List.mem_append_right _ (List.mem_append_right _ (List.mem_append_right _ (List.mem_append_right _ (List.mem_append_right _ (List.mem_append_left _ h)))))))))))))))))))))))
theorem zr8 : ∀ w ∈ wsL_law0_r8, w ∈ wsL_law := fun w h => zLaw0 w (List.mem_append_left _ (List.mem_append_left _ (List.mem_append_left _ (List.mem_append_left _ (List.mem_append_left _ (List.mem_append_left _ (List.mem_append_left _ (List.mem_append_left _ (List.mem_append_left _ (List.mem_append_left _ (List.mem_append_left _ (List.mem_append_left _ (List.mem_append_left _ (List.mem_append_left _ (List.mem_append_left _ (List.mem_append_left _ (List.mem_append_right _ (List.mem_append_right _ (List.mem_append_right _ (List.mem_append_right _ (List.mem_append_right _ (List.mem_append_right _ (List.mem_append_right _ (List.mem_append_left _ h))))))))))))))))))))))))
theorem zr9 : ∀ w ∈ wsL_law0_r9, w ∈ wsL_law := fun w h => zLaw0 w (List.mem_append_left _ (List.mem_append_left _ (List.mem_append_left _ (List.mem_append_left _ (List.mem_append_left _ (List.mem_append_left _ (List.mem_append_left _ (List.mem_append_left _ (List.mem_append_left _ (List.mem_append_left _ (List.mem_append_left _ (List.mem_append_left _ (List.mem_append_left _ (List.mem_append_left _ (List.mem_append_left _ (List.mem_append_left _ (List.mem_append_right _ (List.mem_append_right _ (List.mem_append_right _ (List.mem_append_right _ (List.mem_append_right _ (List.mem_append_right _ (List.mem_append_right _ (List.mem_append_right _ (List.mem_append_left _ h)))))))))))))))))))))))))
theorem zr10 : ∀ w ∈ wsL_law0_r10, w ∈ wsL_law := fun w h => zLaw0 w (List.mem_append_left _ (List.mem_append_left _ (List.mem_append_left _ (List.mem_append_left _ (List.mem_append_left _ (List.mem_append_left _ (List.mem_append_left _ (List.mem_append_left _ (List.mem_append_left _ (List.mem_append_left _ (List.mem_append_left _ (List.mem_append_left _ (List.mem_append_left _ (List.mem_append_left _ (List.mem_append_left _ (List.mem_append_left _ (List.mem_append_right _ (List.mem_append_right _ (List.mem_append_right _ (List.mem_append_right _ (List.mem_append_right _ (List.mem_append_right _ (List.mem_append_right _ (List.mem_append_right _ (List.mem_append_right _ (List.mem_append_left _ h))))))))))))))))))))))))))
theorem zr11 : ∀ w ∈ wsL_law0_r11, w ∈ wsL_law := fun w h => zLaw0 w (List.mem_append_left _ (List.mem_append_left _ (List.mem_append_left _ (List.mem_append_left _ (List.mem_append_left _ (List.mem_append_left _ (List.mem_append_left _ (List.mem_append_left _ (List.mem_append_left _ (List.mem_append_left _ (List.mem_append_left _ (List.mem_append_left _ (List.mem_append_left _ (List.mem_append_left _ (List.mem_append_left _ (List.mem_append_left _ (List.mem_append_right _ (List.mem_append_right _ (List.mem_append_right _ (List.mem_append_right _ (List.mem_append_right _ (List.mem_append_right _ (List.mem_append_right _ (List.mem_append_right _ (List.mem_append_right _ (List.mem_append_right _ (List.mem_append_left _ h)))))))))))))))))))))))))))
theorem zr12 : ∀ w ∈ wsL_law0_r12, w ∈ wsL_law := fun w h => zLaw0 w (List.mem_append_left _ (List.mem_append_left _ (List.mem_append_left _ (List.mem_append_left _ (List.mem_append_left _ (List.mem_append_left _ (List.mem_append_left _ (List.mem_append_left _ (List.mem_append_left _ (List.mem_append_left _ (List.mem_append_left _ (List.mem_append_left _ (List.mem_append_left _ (List.mem_append_left _ (List.mem_append_left _ (List.mem_append_left _ (List.mem_append_right _ (List.mem_append_right _ (List.mem_append_right _ (List.mem_append_right _ (List.mem_append_right _ (List.mem_append_right _ (List.mem_append_right _ (List.mem_append_right _ (List.mem_append_right _ (List.mem_append_right _ (List.mem_append_right _ (List.mem_append_left _ h))))))))))))))))))))))))))))
theorem zr13 : ∀ w ∈ wsL_law0_r13, w ∈ wsL_law := fun w h => zLaw0 w (List.mem_append_left _ (List.mem_append_left _ (List.mem_append_left _ (List.mem_append_left _ (List.mem_append_left _ (List.mem_append_left _ (List.mem_append_left _ (List.mem_append_left _ (List.mem_append_left _ (List.mem_append_left _ (List.mem_append_left _ (List.mem_append_left _ (List.mem_append_left _ (List.mem_append_left _ (List.mem_append_left _ (List.mem_append_left _ (List.mem_append_right _ (List.mem_append_right _ (List.mem_append_right _ (List.mem_append_right _ (List.mem_append_right _ (List.mem_append_right _ (List.mem_append_right _ (List.mem_append_right _ (List.mem_append_right _ (List.mem_append_right _ (List.mem_append_right _ (List.mem_append_right _ (List.mem_append_left _ h)))))))))))))))))))))))))))))
theorem zr14 : ∀ w ∈ wsL_law0_r14, w ∈ wsL_law := fun w h => zLaw0 w (List.mem_append_left _ (List.mem_append_left _ (List.mem_append_left _ (List.mem_append_left _ (List.mem_append_left _ (List.mem_append_left _ (List.mem_append_left _ (List.mem_append_left _ (List.mem_append_left _ (List.mem_append_left _ (List.mem_append_left _ (List.mem_append_left _ (List.mem_append_left _ (List.mem_append_left _ (List.mem_append_left _ (List.mem_append_left _ (List.mem_append_right _ (List.mem_append_right _ (List.mem_append_right _ (List.mem_append_right _ (List.mem_append_right _ (List.mem_append_right _ (List.mem_append_right _ (List.mem_append_right _ (List.mem_append_right _ (List.mem_append_right _ (List.mem_append_right _ (List.mem_append_right _ (List.mem_append_right _ (List.mem_append_left _ h))))))))))))))))))))))))))))))
theorem zr15 : ∀ w ∈ wsL_law0_r15, w ∈ wsL_law := fun w h => zLaw0 w (List.mem_append_left _ (List.mem_append_left _ (List.mem_append_left _ (List.mem_append_left _ (List.mem_append_left _ (List.mem_append_left _ (List.mem_append_left _ (List.mem_append_left _ (List.mem_append_left _ (List.mem_append_left _ (List.mem_append_left _ (List.mem_append_left _ (List.mem_append_left _ (List.mem_append_left _ (List.mem_append_left _ (List.mem_append_left _ (List.mem_append_right _ (List.mem_append_right _ (List.mem_append_right _ (List.mem_append_right _ (List.mem_append_right _ (List.mem_append_right _ (List.mem_append_right _ (List.mem_append_right _ (List.mem_append_right _ (List.mem_append_right _ (List.mem_append_right _ (List.mem_append_right _ (List.mem_append_right _ (List.mem_append_right _ (List.mem_append_left _ h)))))))))))))))))))))))))))))))
theorem zr16 : ∀ w ∈ wsL_law0_r16, w ∈ wsL_law := fun w h => zLaw0 w (List.mem_append_left _ (List.mem_append_left _ (List.mem_append_left _ (List.mem_append_left _ (List.mem_append_left _ (List.mem_append_left _ (List.mem_append_left _ (List.mem_append_left _ (List.mem_append_left _ (List.mem_append_left _ (List.mem_append_left _ (List.mem_append_left _ (List.mem_append_left _ (List.mem_append_left _ (List.mem_append_left _ (List.mem_append_left _ (List.mem_append_right _ (List.mem_append_right _ (List.mem_append_right _ (List.mem_append_right _ (List.mem_append_right _ (List.mem_append_right _ (List.mem_append_right _ (List.mem_append_right _ (List.mem_append_right _ (List.mem_append_right _ (List.mem_append_right _ (List.mem_append_right _ (List.mem_append_right _ (List.mem_append_right _ (List.mem_append_right _ (List.mem_append_left _ h))))))))))))))))))))))))))))))))
theorem zr17 : ∀ w ∈ wsL_law0_r17, w ∈ wsL_law := fun w h => zLaw0 w (List.mem_append_left _ (List.mem_append_left _ (List.mem_append_left _ (List.mem_append_left _ (List.mem_append_left _ (List.mem_append_left _ (List.mem_append_left _ (List.mem_append_left _ (List.mem_append_left _ (List.mem_append_left _ (List.mem_append_left _ (List.mem_append_left _ (List.mem_append_left _ (List.mem_append_left _ (List.mem_append_left _ (List.mem_append_left _ (List.mem_append_right _ (List.mem_append_right _ (List.mem_append_right _ (List.mem_append_right _ (List.mem_append_right _ (List.mem_append_right _ (List.mem_append_right _ (List.mem_append_right _ (List.mem_append_right _ (List.mem_append_right _ (List.mem_append_right _ (List.mem_append_right _ (List.mem_append_right _ (List.mem_append_right _ (List.mem_append_right _ (List.mem_append_right _ (List.mem_append_left _ h)))))))))))))))))))))))))))))))))
theorem zr18 : ∀ w ∈ wsL_law0_r18, w ∈ wsL_law := fun w h => zLaw0 w (List.mem_append_left _ (List.mem_append_left _ (List.mem_append_left _ (List.mem_append_left _ (List.mem_append_left _ (List.mem_append_left _ (List.mem_append_left _ (List.mem_append_left _ (List.mem_append_left _ (List.mem_append_left _ (List.mem_append_left _ (List.mem_append_left _ (List.mem_append_left _ (List.mem_append_left _ (List.mem_append_left _ (List.mem_append_left _ (List.mem_append_right _ (List.mem_append_right _ (List.mem_append_right _ (List.mem_append_right _ (List.mem_append_right _ (List.mem_append_right _ (List.mem_append_right _ (List.mem_append_right _ (List.mem_append_right _ (List.mem_append_right _ (List.mem_append_right _ (List.mem_append_right _ (List.mem_append_right _ (List.mem_append_right _ (List.mem_append_right _ (List.mem_append_right _ (List.mem_append_right _ (List.mem_append_left _ h))))))))))))))))))))))))))))))))))
theorem zr19 : ∀ w ∈ wsL_law0_r19, w ∈ wsL_law := fun w h => zLaw0 w (List.mem_append_left _ (List.mem_append_left _ (List.mem_append_left _ (List.mem_append_left _ (List.mem_append_left _ (List.mem_append_left _ (List.mem_append_left _ (List.mem_append_left _ (List.mem_append_left _ (List.mem_append_left _ (List.mem_append_left _ (List.mem_append_left _ (List.mem_append_left _ (List.mem_append_left _ (List.mem_append_left _ (List.mem_append_left _ (List.mem_append_right _ (List.mem_append_right _ (List.mem_append_right _ (List.mem_append_right _ (List.mem_append_right _ (List.mem_append_right _ (List.mem_append_right _ (List.mem_append_right _ (List.mem_append_right _ (List.mem_append_right _ (List.mem_append_right _ (List.mem_append_right _ (List.mem_append_right _ (List.mem_append_right _ (List.mem_append_right _ (List.mem_append_right _ (List.mem_append_right _ (List.mem_append_right _ (List.mem_append_left _ h)))))))))))))))))))))))))))))))))))
theorem zr20 : ∀ w ∈ wsL_law0_r20, w ∈ wsL_law := fun w h => zLaw0 w (List.mem_append_left _ (List.mem_append_left _ (List.mem_append_left _ (List.mem_append_left _ (List.mem_append_left _ (List.mem_append_left _ (List.mem_append_left _ (List.mem_append_left _ (List.mem_append_left _ (List.mem_append_left _ (List.mem_append_left _ (List.mem_append_left _ (List.mem_append_left _ (List.mem_append_left _ (List.mem_append_left _ (List.mem_append_left _ (List.mem_append_right _ (List.mem_append_right _ (List.mem_append_right _ (List.mem_append_right _ (List.mem_append_right _ (List.mem_append_right _ (List.mem_append_right _ (List.mem_append_right _ (List.mem_append_right _ (List.mem_append_right _ (List.mem_append_right _ (List.mem_append_right _ (List.mem_append_right _ (List.mem_append_right _ (List.mem_append_right _ (List.mem_append_right _ (List.mem_append_right _ (List.mem_append_right _ (List.mem_append_right _ (List.mem_append_left _ h))))))))))))))))))))))))))))))))))))
theorem zr21 : ∀ w ∈ wsL_law0_r21, w ∈ wsL_law := fun w h => zLaw0 w (List.mem_append_left _ (List.mem_append_left _ (List.mem_append_left _ (List.mem_append_left _ (List.mem_append_left _ (List.mem_append_left _ (List.mem_append_left _ (List.mem_append_left _ (List.mem_append_left _ (List.mem_append_left _ (List.mem_append_left _ (List.mem_append_left _ (List.mem_append_left _ (List.mem_append_left _ (List.mem_append_left _ (List.mem_append_left _ (List.mem_append_right _ (List.mem_append_right _ (List.mem_append_right _ (List.mem_append_right _ (List.mem_append_right _ (List.mem_append_right _ (List.mem_append_right _ (List.mem_append_right _ (List.mem_append_right _ (List.mem_append_right _ (List.mem_append_right _ (List.mem_append_right _ (List.mem_append_right _ (List.mem_append_right _ (List.mem_append_right _ (List.mem_append_right _ (List.mem_append_right _ (List.mem_append_right _ (List.mem_append_right _ (List.mem_append_right _ (List.mem_append_left _ h)))))))))))))))))))))))))))))))))))))
theorem zr22 : ∀ w ∈ wsL_law0_r22, w ∈ wsL_law := fun w h => zLaw0 w (List.mem_append_left _ (List.mem_append_left _ (List.mem_append_left _ (List.mem_append_left _ (List.mem_append_left _ (List.mem_append_left _ (List.mem_append_left _ (List.mem_append_left _ (List.mem_append_left _ (List.mem_append_left _ (List.mem_append_left _ (List.mem_append_left _ (List.mem_append_left _ (List.mem_append_left _ (List.mem_append_left _ (List.mem_append_left _ (List.mem_append_right _ (List.mem_append_right _ (List.mem_append_right _ (List.mem_append_right _ (List.mem_append_right _ (List.mem_append_right _ (List.mem_append_right _ (List.mem_append_right _ (List.mem_append_right _ (List.mem_append_right _ (List.mem_append_right _ (List.mem_append_right _ (List.mem_append_right _ (List.mem_append_right _ (List.mem_append_right _ (List.mem_append_right _ (List.mem_append_right _ (List.mem_append_right _ (List.mem_append_right _ (List.mem_append_right _ (List.mem_append_right _ (List.mem_append_left _ h))))))))))))))))))))))))))))))))))))))
theorem zr23 : ∀ w ∈ wsL_law0_r23, w ∈ wsL_law := fun w h => zLaw0 w (List.mem_append_left _ (List.mem_append_left _ (List.mem_append_left _ (List.mem_append_left _ (List.mem_append_left _ (List.mem_append_left _ (List.mem_append_left _ (List.mem_append_left _ (List.mem_append_left _ (List.mem_append_left _ (List.mem_append_left _ (List.mem_append_left _ (List.mem_append_left _ (List.mem_append_left _ (List.mem_append_left _ (List.mem_append_left _ (List.mem_append_right _ (List.mem_append_right _ (List.mem_append_right _ (List.mem_append_right _ (List.mem_append_right _ (List.mem_append_right _ (List.mem_append_right _ (List.mem_append_right _ (List.mem_append_right _ (List.mem_append_right _ (List.mem_append_right _ (List.mem_append_right _ (List.mem_append_right _ (List.mem_append_right _ (List.mem_append_right _ (List.mem_append_right _ (List.mem_append_right _ (List.mem_append_right _ (List.mem_append_right _ (List.mem_append_right _ (List.mem_append_right _ (List.mem_append_right _ (List.mem_append_left _ h)))))))))))))))))))))))))))))))))))))))
theorem zr24 : ∀ w ∈ wsL_law0_r24, w ∈ wsL_law := fun w h => zLaw0 w (List.mem_append_left _ (List.mem_append_left _ (List.mem_append_left _ (List.mem_append_left _ (List.mem_append_left _ (List.mem_append_left _ (List.mem_append_left _ (List.mem_append_left _ (List.mem_append_left _ (List.mem_append_left _ (List.mem_append_left _ (List.mem_append_left _ (List.mem_append_left _ (List.mem_append_left _ (List.mem_append_left _ (List.mem_append_left _ (List.mem_append_right _ (List.mem_append_right _ (List.mem_append_right _ (List.mem_append_right _ (List.mem_append_right _ (List.mem_append_right _ (List.mem_append_right _ (List.mem_append_right _ (List.mem_append_right _ (List.mem_append_right _ (List.mem_append_right _ (List.mem_append_right _ (List.mem_append_right _ (List.mem_append_right _ (List.mem_append_right _ (List.mem_append_right _ (List.mem_append_right _ (List.mem_append_right _ (List.mem_append_right _ (List.mem_append_right _ (List.mem_append_right _ (List.mem_append_right _ (List.mem_append_right _ (List.mem_append_left _ h))))))))))))))))))))))))))))))))))))))))
theorem zr25 : ∀ w ∈ wsL_law0_r25, w ∈ wsL_law := fun w h => zLaw0 w (List.mem_append_left _ (List.mem_append_left _ (List.mem_append_left _ (List.mem_append_left _ (List.mem_append_left _ (List.mem_append_left _ (List.mem_append_left _ (List.mem_append_left _ (List.mem_append_left _ (List.mem_append_left _ (List.mem_append_left _ (List.mem_append_left _ (List.mem_append_left _ (List.mem_append_left _ (List.mem_append_left _ (List.mem_append_left _ (List.mem_append_right _ (List.mem_append_right _ (List.mem_append_right _ (List.mem_append_right _ (List.mem_append_right _ (List.mem_append_right _ (List.mem_append_right _ (List.mem_append_right _ (List.mem_append_right _ (List.mem_append_right _ (List.mem_append_right _ (List.mem_append_right _ (List.mem_append_right _ (List.mem_append_right _ (List.mem_append_right _ (List.mem_append_right _ (List.mem_append_right _ (List.mem_append_right _ (List.mem_append_right _ (List.mem_append_right _ (List.mem_append_right _ (List.mem_append_right _ (List.mem_append_right _ (List.mem_append_right _ (List.mem_append_left _ h)))))))))))))))))))))))))))))))))))))))))
theorem zr26 : ∀ w ∈ wsL_law0_r26, w ∈ wsL_law := fun w h => zLaw0 w (List.mem_append_left _ (List.mem_append_left _ (List.mem_append_left _ (List.mem_append_left _ (List.mem_append_left _ (List.mem_append_left _ (List.mem_append_left _ (List.mem_append_left _ (List.mem_append_left _ (List.mem_append_left _ (List.mem_append_left _ (List.mem_append_left _ (List.mem_append_left _ (List.mem_append_left _ (List.mem_append_left _ (List.mem_append_left _ (List.mem_append_right _ (List.mem_append_right _ (List.mem_append_right _ (List.mem_append_right _ (List.mem_append_right _ (List.mem_append_right _ (List.mem_append_right _ (List.mem_append_right _ (List.mem_append_right _ (List.mem_append_right _ (List.mem_append_right _ (List.mem_append_right _ (List.mem_append_right _ (List.mem_append_right _ (List.mem_append_right _ (List.mem_append_right _ (List.mem_append_right _ (List.mem_append_right _ (List.mem_append_right _ (List.mem_append_right _ (List.mem_append_right _ (List.mem_append_right _ (List.mem_append_right _ (List.mem_append_right _ (List.mem_append_right _ (List.mem_append_left _ h))))))))))))))))))))))))))))))))))))))))))
theorem zr27 : ∀ w ∈ wsL_law0_r27, w ∈ wsL_law := fun w h => zLaw0 w (List.mem_append_left _ (List.mem_append_left _ (List.mem_append_left _ (List.mem_append_left _ (List.mem_append_left _ (List.mem_append_left _ (List.mem_append_left _ (List.mem_append_left _ (List.mem_append_left _ (List.mem_append_left _ (List.mem_append_left _ (List.mem_append_left _ (List.mem_append_left _ (List.mem_append_left _ (List.mem_append_left _ (List.mem_append_left _ (List.mem_append_right _ (List.mem_append_right _ (List.mem_append_right _ (List.mem_append_right _ (List.mem_append_right _ (List.mem_append_right _ (List.mem_append_right _ (List.mem_append_right _ (List.mem_append_right _ (List.mem_append_right _ (List.mem_append_right _ (List.mem_append_right _ (List.mem_append_right _ (List.mem_append_right _ (List.mem_append_right _ (List.mem_append_right _ (List.mem_append_right _ (List.mem_append_right _ (List.mem_append_right _ (List.mem_append_right _ (List.mem_append_right _ (List.mem_append_right _ (List.mem_append_right _ (List.mem_append_right _ (List.mem_append_right _ (List.mem_append_right _ (List.mem_append_left _ h)))))))))))))))))))))))))))))))))))))))))))
theorem zr28 : ∀ w ∈ wsL_law0_r28, w ∈ wsL_law := fun w h => zLaw0 w (List.mem_append_left _ (List.mem_append_left _ (List.mem_append_left _ (List.mem_append_left _ (List.mem_append_left _ (List.mem_append_left _ (List.mem_append_left _ (List.mem_append_left _ (List.mem_append_left _ (List.mem_append_left _ (List.mem_append_left _ (List.mem_append_left _ (List.mem_append_left _ (List.mem_append_left _ (List.mem_append_left _ (List.mem_append_left _ (List.mem_append_right _ (List.mem_append_right _ (List.mem_append_right _ (List.mem_append_right _ (List.mem_append_right _ (List.mem_append_right _ (List.mem_append_right _ (List.mem_append_right _ (List.mem_append_right _ (List.mem_append_right _ (List.mem_append_right _ (List.mem_append_right _ (List.mem_append_right _ (List.mem_append_right _ (List.mem_append_right _ (List.mem_append_right _ (List.mem_append_right _ (List.mem_append_right _ (List.mem_append_right _ (List.mem_append_right _ (List.mem_append_right _ (List.mem_append_right _ (List.mem_append_right _ (List.mem_append_right _ (List.mem_append_right _ (List.mem_append_right _ (List.mem_append_right _ (List.mem_append_left _ h))))))))))))))))))))))))))))))))))))))))))))
theorem zr29 : ∀ w ∈ wsL_law0_r29, w ∈ wsL_law := fun w h => zLaw0 w (List.mem_append_left _ (List.mem_append_left _ (List.mem_append_left _ (List.mem_append_left _ (List.mem_append_left _ (List.mem_append_left _ (List.mem_append_left _ (List.mem_append_left _ (List.mem_append_left _ (List.mem_append_left _ (List.mem_append_left _ (List.mem_append_left _ (List.mem_append_left _ (List.mem_append_left _ (List.mem_append_left _ (List.mem_append_left _ (List.mem_append_right _ (List.mem_append_right _ (List.mem_append_right _ (List.mem_append_right _ (List.mem_append_right _ (List.mem_append_right _ (List.mem_append_right _ (List.mem_append_right _ (List.mem_append_right _ (List.mem_append_right _ (List.mem_append_right _ (List.mem_append_right _ (List.mem_append_right _ (List.mem_append_right _ (List.mem_append_right _ (List.mem_append_right _ (List.mem_append_right _ (List.mem_append_right _ (List.mem_append_right _ (List.mem_append_right _ (List.mem_append_right _ (List.mem_append_right _ (List.mem_append_right _ (List.mem_append_right _ (List.mem_append_right _ (List.mem_append_right _ (List.mem_append_right _ (List.mem_append_right _ (List.mem_append_left _ h)))))))))))))))))))))))))))))))))))))))))))))
theorem zr30 : ∀ w ∈ wsL_law0_r30, w ∈ wsL_law := fun w h => zLaw0 w (List.mem_append_left _ (List.mem_append_left _ (List.mem_append_left _ (List.mem_append_left _ (List.mem_append_left _ (List.mem_append_left _ (List.mem_append_left _ (List.mem_append_left _ (List.mem_append_left _ (List.mem_append_left _ (List.mem_append_left _ (List.mem_append_left _ (List.mem_append_left _ (List.mem_append_left _ (List.mem_append_left _ (List.mem_append_left _ (List.mem_append_right _ (List.mem_append_right _ (List.mem_append_right _ (List.mem_append_right _ (List.mem_append_right _ (List.mem_append_right _ (List.mem_append_right _ (List.mem_append_right _ (List.mem_append_right _ (List.mem_append_right _ (List.mem_append_right _ (List.mem_append_right _ (List.mem_append_right _ (List.mem_append_right _ (List.mem_append_right _ (List.mem_append_right _ (List.mem_append_right _ (List.mem_append_right _ (List.mem_append_right _ (List.mem_append_right _ (List.mem_append_right _ (List.mem_append_right _ (List.mem_append_right _ (List.mem_append_right _ (List.mem_append_right _ (List.mem_append_right _ (List.mem_append_right _ (List.mem_append_right _ (List.mem_append_right _ (List.mem_append_left _ h))))))))))))))))))))))))))))))))))))))))))))))
theorem zr31 : ∀ w ∈ wsL_law0_r31, w ∈ wsL_law := fun w h => zLaw0 w (List.mem_append_left _ (List.mem_append_left _ (List.mem_append_left _ (List.mem_append_left _ (List.mem_append_left _ (List.mem_append_left _ (List.mem_append_left _ (List.mem_append_left _ (List.mem_append_left _ (List.mem_append_left _ (List.mem_append_left _ (List.mem_append_left _ (List.mem_append_left _ (List.mem_append_left _ (List.mem_append_left _ (List.mem_append_left _ (List.mem_append_right _ (List.mem_append_right _ (List.mem_append_right _ (List.mem_append_right _ (List.mem_append_right _ (List.mem_append_right _ (List.mem_append_right _ (List.mem_append_right _ (List.mem_append_right _ (List.mem_append_right _ (List.mem_append_right _ (List.mem_append_right _ (List.mem_append_right _ (List.mem_append_right _ (List.mem_append_right _ (List.mem_append_right _ (List.mem_append_right _ (List.mem_append_right _ (List.mem_append_right _ (List.mem_append_right _ (List.mem_append_right _ (List.mem_append_right _ (List.mem_append_right _ (List.mem_append_right _ (List.mem_append_right _ (List.mem_append_right _ (List.mem_append_right _ (List.mem_append_right _ (List.mem_append_right _ (List.mem_append_right _ (List.mem_append_left _ h)))))))))))))))))))))))))))))))))))))))))))))))
theorem zr32 : ∀ w ∈ wsL_law0_r32, w ∈ wsL_law := fun w h => zLaw0 w (List.mem_append_left _ (List.mem_append_left _ (List.mem_append_left _ (List.mem_append_left _ (List.mem_append_left _ (List.mem_append_left _ (List.mem_append_left _ (List.mem_append_left _ (List.mem_append_left _ (List.mem_append_left _ (List.mem_append_left _ (List.mem_append_left _ (List.mem_append_left _ (List.mem_append_left _ (List.mem_append_left _ (List.mem_append_left _ (List.mem_append_right _ (List.mem_append_right _ (List.mem_append_right _ (List.mem_append_right _ (List.mem_append_right _ (List.mem_append_right _ (List.mem_append_right _ (List.mem_append_right _ (List.mem_append_right _ (List.mem_append_right _ (List.mem_append_right _ (List.mem_append_right _ (List.mem_append_right _ (List.mem_append_right _ (List.mem_append_right _ (List.mem_append_right _ (List.mem_append_right _ (List.mem_append_right _ (List.mem_append_right _ (List.mem_append_right _ (List.mem_append_right _ (List.mem_append_right _ (List.mem_append_right _ (List.mem_append_right _ (List.mem_append_right _ (List.mem_append_right _ (List.mem_append_right _ (List.mem_append_right _ (List.mem_append_right _ (List.mem_append_right _ (List.mem_append_right _ (List.mem_append_left _ h))))))))))))))))))))))))))))))))))))))))))))))))
theorem zr33 : ∀ w ∈ wsL_law0_r33, w ∈ wsL_law := fun w h => zLaw0 w (List.mem_append_left _ (List.mem_append_left _ (List.mem_append_left _ (List.mem_append_left _ (List.mem_append_left _ (List.mem_append_left _ (List.mem_append_left _ (List.mem_append_left _ (List.mem_append_left _ (List.mem_append_left _ (List.mem_append_left _ (List.mem_append_left _ (List.mem_append_left _ (List.mem_append_left _ (List.mem_append_left _ (List.mem_append_left _ (List.mem_append_right _ (List.mem_append_right _ (List.mem_append_right _ (List.mem_append_right _ (List.mem_append_right _ (List.mem_append_right _ (List.mem_append_right _ (List.mem_append_right _ (List.mem_append_right _ (List.mem_append_right _ (List.mem_append_right _ (List.mem_append_right _ (List.mem_append_right _ (List.mem_append_right _ (List.mem_append_right _ (List.mem_append_right _ (List.mem_append_right _ (List.mem_append_right _ (List.mem_append_right _ (List.mem_append_right _ (List.mem_append_right _ (List.mem_append_right _ (List.mem_append_right _ (List.mem_append_right _ (List.mem_append_right _ (List.mem_append_right _ (List.mem_append_right _ (List.mem_append_right _ (List.mem_append_right _ (List.mem_append_right _ (List.mem_append_right _ (List.mem_append_right _ (List.mem_append_left _ h)))))))))))))))))))))))))))))))))))))))))))))))))
theorem zr34 : ∀ w ∈ wsL_law0_r34, w ∈ wsL_law := fun w h => zLaw0 w (List.mem_append_left _ (List.mem_append_left _ (List.mem_append_left _ (List.mem_append_left _ (List.mem_append_left _ (List.mem_append_left _ (List.mem_append_left _ (List.mem_append_left _ (List.mem_append_left _ (List.mem_append_left _ (List.mem_append_left _ (List.mem_append_left _ (List.mem_append_left _ (List.mem_append_left _ (List.mem_append_left _ (List.mem_append_left _ (List.mem_append_right _ (List.mem_append_right _ (List.mem_append_right _ (List.mem_append_right _ (List.mem_append_right _ (List.mem_append_right _ (List.mem_append_right _ (List.mem_append_right _ (List.mem_append_right _ (List.mem_append_right _ (List.mem_append_right _ (List.mem_append_right _ (List.mem_append_right _ (List.mem_append_right _ (List.mem_append_right _ (List.mem_append_right _ (List.mem_append_right _ (List.mem_append_right _ (List.mem_append_right _ (List.mem_append_right _ (List.mem_append_right _ (List.mem_append_right _ (List.mem_append_right _ (List.mem_append_right _ (List.mem_append_right _ (List.mem_append_right _ (List.mem_append_right _ (List.mem_append_right _ (List.mem_append_right _ (List.mem_append_right _ (List.mem_append_right _ (List.mem_append_right _ (List.mem_append_right _ (List.mem_append_left _ h))))))))))))))))))))))))))))))))))))))))))))))))))
theorem zr35 : ∀ w ∈ wsL_law0_r35, w ∈ wsL_law := fun w h => zLaw0 w (List.mem_append_left _ (List.mem_append_left _ (List.mem_append_left _ (List.mem_append_left _ (List.mem_append_left _ (List.mem_append_left _ (List.mem_append_left _ (List.mem_append_left _ (List.mem_append_left _ (List.mem_append_left _ (List.mem_append_left _ (List.mem_append_left _ (List.mem_append_left _ (List.mem_append_left _ (List.mem_append_left _ (List.mem_append_left _ (List.mem_append_right _ (List.mem_append_right _ (List.mem_append_right _ (List.mem_append_right _ (List.mem_append_right _ (List.mem_append_right _ (List.mem_append_right _ (List.mem_append_right _ (List.mem_append_right _ (List.mem_append_right _ (List.mem_append_right _ (List.mem_append_right _ (List.mem_append_right _ (List.mem_append_right _ (List.mem_append_right _ (List.mem_append_right _ (List.mem_append_right _ (List.mem_append_right _ (List.mem_append_right _ (List.mem_append_right _ (List.mem_append_right _ (List.mem_append_right _ (List.mem_append_right _ (List.mem_append_right _ (List.mem_append_right _ (List.mem_append_right _ (List.mem_append_right _ (List.mem_append_right _ (List.mem_append_right _ (List.mem_append_right _ (List.mem_append_right _ (List.mem_append_right _ (List.mem_append_right _ (List.mem_append_right _ (List.mem_append_left _ h)))))))))))))))))))))))))))))))))))))))))))))))))))
theorem zr36 : ∀ w ∈ wsL_law0_r36, w ∈ wsL_law := fun w h => zLaw0 w (List.mem_append_left _ (List.mem_append_left _ (List.mem_append_left _ (List.mem_append_left _ (List.mem_append_left _ (List.mem_append_left _ (List.mem_append_left _ (List.mem_append_left _ (List.mem_append_left _ (List.mem_append_left _ (List.mem_append_left _ (List.mem_append_left _ (List.mem_append_left _ (List.mem_append_left _ (List.mem_append_left _ (List.mem_append_left _ (List.mem_append_right _ (List.mem_append_right _ (List.mem_append_right _ (List.mem_append_right _ (List.mem_append_right _ (List.mem_append_right _ (List.mem_append_right _ (List.mem_append_right _ (List.mem_append_right _ (List.mem_append_right _ (List.mem_append_right _ (List.mem_append_right _ (List.mem_append_right _ (List.mem_append_right _ (List.mem_append_right _ (List.mem_append_right _ (List.mem_append_right _ (List.mem_append_right _ (List.mem_append_right _ (List.mem_append_right _ (List.mem_append_right _ (List.mem_append_right _ (List.mem_append_right _ (List.mem_append_right _ (List.mem_append_right _ (List.mem_append_right _ (List.mem_append_right _ (List.mem_append_right _ (List.mem_append_right _ (List.mem_append_right _ (List.mem_append_right _ (List.mem_append_right _ (List.mem_append_right _ (List.mem_append_right _ (List.mem_append_right _ (List.mem_append_left _ h))))))))))))))))))))))))))))))))))))))))))))))))))))
theorem zr37 : ∀ w ∈ wsL_law0_r37, w ∈ wsL_law := fun w h => zLaw0 w (List.mem_append_left _ (List.mem_append_left _ (List.mem_append_left _ (List.mem_append_left _ (List.mem_append_left _ (List.mem_append_left _ (List.mem_append_left _ (List.mem_append_left _ (List.mem_append_left _ (List.mem_append_left _ (List.mem_append_left _ (List.mem_append_left _ (List.mem_append_left _ (List.mem_append_left _ (List.mem_append_left _ (List.mem_append_left _ (List.mem_append_right _ (List.mem_append_right _ (List.mem_append_right _ (List.mem_append_right _ (List.mem_append_right _ (List.mem_append_right _ (List.mem_append_right _ (List.mem_append_right _ (List.mem_append_right _ (List.mem_append_right _ (List.mem_append_right _ (List.mem_append_right _ (List.mem_append_right _ (List.mem_append_right _ (List.mem_append_right _ (List.mem_append_right _ (List.mem_append_right _ (List.mem_append_right _ (List.mem_append_right _ (List.mem_append_right _ (List.mem_append_right _ (List.mem_append_right _ (List.mem_append_right _ (List.mem_append_right _ (List.mem_append_right _ (List.mem_append_right _ (List.mem_append_right _ (List.mem_append_right _ (List.mem_append_right _ (List.mem_append_right _ (List.mem_append_right _ (List.mem_append_right _ (List.mem_append_right _ (List.mem_append_right _ (List.mem_append_right _ (List.mem_append_right _ (List.mem_append_left _ h)))))))))))))))))))))))))))))))))))))))))))))))))))))
theorem zr38 : ∀ w ∈ wsL_law0_r38, w ∈ wsL_law := fun w h => zLaw0 w (List.mem_append_left _ (List.mem_append_left _ (List.mem_append_left _ (List.mem_append_left _ (List.mem_append_left _ (List.mem_append_left _ (List.mem_append_left _ (List.mem_append_left _ (List.mem_append_left _ (List.mem_append_left _ (List.mem_append_left _ (List.mem_append_left _ (List.mem_append_left _ (List.mem_append_left _ (List.mem_append_left _ (List.mem_append_left _ (List.mem_append_right _ (List.mem_append_right _ (List.mem_append_right _ (List.mem_append_right _ (List.mem_append_right _ (List.mem_append_right _ (List.mem_append_right _ (List.mem_append_right _ (List.mem_append_right _ (List.mem_append_right _ (List.mem_append_right _ (List.mem_append_right _ (List.mem_append_right _ (List.mem_append_right _ (List.mem_append_right _ (List.mem_append_right _ (List.mem_append_right _ (List.mem_append_right _ (List.mem_append_right _ (List.mem_append_right _ (List.mem_append_right _ (List.mem_append_right _ (List.mem_append_right _ (List.mem_append_right _ (List.mem_append_right _ (List.mem_append_right _ (List.mem_append_right _ (List.mem_append_right _ (List.mem_append_right _ (List.mem_append_right _ (List.mem_append_right _ (List.mem_append_right _ (List.mem_append_right _ (List.mem_append_right _ (List.mem_append_right _ (List.mem_append_right _ (List.mem_append_right _ (List.mem_append_left _ h))))))))))))))))))))))))))))))))))))))))))))))))))))))
theorem zr39 : ∀ w ∈ wsL_law0_r39, w ∈ wsL_law := fun w h => zLaw0 w (List.mem_append_left _ (List.mem_append_left _ (List.mem_append_left _ (List.mem_append_left _ (List.mem_append_left _ (List.mem_append_left _ (List.mem_append_left _ (List.mem_append_left _ (List.mem_append_left _ (List.mem_append_left _ (List.mem_append_left _ (List.mem_append_left _ (List.mem_append_left _ (List.mem_append_left _ (List.mem_append_left _ (List.mem_append_left _ (List.mem_append_right _ (List.mem_append_right _ (List.mem_append_right _ (List.mem_append_right _ (List.mem_append_right _ (List.mem_append_right _ (List.mem_append_right _ (List.mem_append_right _ (List.mem_append_right _ (List.mem_append_right _ (List.mem_append_right _ (List.mem_append_right _ (List.mem_append_right _ (List.mem_append_right _ (List.mem_append_right _ (List.mem_append_right _ (List.mem_append_right _ (List.mem_append_right _ (List.mem_append_right _ (List.mem_append_right _ (List.mem_append_right _ (List.mem_append_right _ (List.mem_append_right _ (List.mem_append_right _ (List.mem_append_right _ (List.mem_append_right _ (List.mem_append_right _ (List.mem_append_right _ (List.mem_append_right _ (List.mem_append_right _ (List.mem_append_right _ (List.mem_append_right _ (List.mem_append_right _ (List.mem_append_right _ (List.mem_append_right _ (List.mem_append_right _ (List.mem_append_right _ (List.mem_append_right _ (List.mem_append_left _ h)))))))))))))))))))))))))))))))))))))))))))))))))))))))
theorem zr40 : ∀ w ∈ wsL_law0_r40, w ∈ wsL_law := fun w h => zLaw0 w (List.mem_append_left _ (List.mem_append_left _ (List.mem_append_left _ (List.mem_append_left _ (List.mem_append_left _ (List.mem_append_left _ (List.mem_append_left _ (List.mem_append_left _ (List.mem_append_left _ (List.mem_append_left _ (List.mem_append_left _ (List.mem_append_left _ (List.mem_append_left _ (List.mem_append_left _ (List.mem_append_left _ (List.mem_append_left _ (List.mem_append_right _ (List.mem_append_right _ (List.mem_append_right _ (List.mem_append_right _ (List.mem_append_right _ (List.mem_append_right _ (List.mem_append_right _ (List.mem_append_right _ (List.mem_append_right _ (List.mem_append_right _ (List.mem_append_right _ (List.mem_append_right _ (List.mem_append_right _ (List.mem_append_right _ (List.mem_append_right _ (List.mem_append_right _ (List.mem_append_right _ (List.mem_append_right _ (List.mem_append_right _ (List.mem_append_right _ (List.mem_append_right _ (List.mem_append_right _ (List.mem_append_right _ (List.mem_append_right _ (List.mem_append_right _ (List.mem_append_right _ (List.mem_append_right _ (List.mem_append_right _ (List.mem_append_right _ (List.mem_append_right _ (List.mem_append_right _ (List.mem_append_right _ (List.mem_append_right _ (List.mem_append_right _ (List.mem_append_right _ (List.mem_append_right _ (List.mem_append_right _ (List.mem_append_right _ (List.mem_append_right _ (List.mem_append_left _ h))))))))))))))))))))))))))))))))))))))))))))))))))))))))
theorem zr41 : ∀ w ∈ wsL_law0_r41, w ∈ wsL_law := fun w h => zLaw0 w (List.mem_append_left _ (List.mem_append_left _ (List.mem_append_left _ (List.mem_append_left _ (List.mem_append_left _ (List.mem_append_left _ (List.mem_append_left _ (List.mem_append_left _ (List.mem_append_left _ (List.mem_append_left _ (List.mem_append_left _ (List.mem_append_left _ (List.mem_append_left _ (List.mem_append_left _ (List.mem_append_left _ (List.mem_append_left _ (List.mem_append_right _ (List.mem_append_right _ (List.mem_append_right _ (List.mem_append_right _ (List.mem_append_right _ (List.mem_append_right _ (List.mem_append_right _ (List.mem_append_right _ (List.mem_append_right _ (List.mem_append_right _ (List.mem_append_right _ (List.mem_append_right _ (List.mem_append_right _ (List.mem_append_right _ (List.mem_append_right _ (List.mem_append_right _ (List.mem_append_right _ (List.mem_append_right _ (List.mem_append_right _ (List.mem_append_right _ (List.mem_append_right _ (List.mem_append_right _ (List.mem_append_right _ (List.mem_append_right _ (List.mem_append_right _ (List.mem_append_right _ (List.mem_append_right _ (List.mem_append_right _ (List.mem_append_right _ (List.mem_append_right _ (List.mem_append_right _ (List.mem_append_right _ (List.mem_append_right _ (List.mem_append_right _ (List.mem_append_right _ (List.mem_append_right _ (List.mem_append_right _ (List.mem_append_right _ (List.mem_append_right _ (List.mem_append_right _ (List.mem_append_left _ h)))))))))))))))))))))))))))))))))))))))))))))))))))))))))
theorem zr42 : ∀ w ∈ wsL_law0_r42, w ∈ wsL_law := fun w h => zLaw0 w (List.mem_append_left _ (List.mem_append_left _ (List.mem_append_left _ (List.mem_append_left _ (List.mem_append_left _ (List.mem_append_left _ (List.mem_append_left _ (List.mem_append_left _ (List.mem_append_left _ (List.mem_append_left _ (List.mem_append_left _ (List.mem_append_left _ (List.mem_append_left _ (List.mem_append_left _ (List.mem_append_left _ (List.mem_append_left _ (List.mem_append_right _ (List.mem_append_right _ (List.mem_append_right _ (List.mem_append_right _ (List.mem_append_right _ (List.mem_append_right _ (List.mem_append_right _ (List.mem_append_right _ (List.mem_append_right _ (List.mem_append_right _ (List.mem_append_right _ (List.mem_append_right _ (List.mem_append_right _ (List.mem_append_right _ (List.mem_append_right _ (List.mem_append_right _ (List.mem_append_right _ (List.mem_append_right _ (List.mem_append_right _ (List.mem_append_right _ (List.mem_append_right _ (List.mem_append_right _ (List.mem_append_right _ (List.mem_append_right _ (List.mem_append_right _ (List.mem_append_right _ (List.mem_append_right _ (List.mem_append_right _ (List.mem_append_right _ (List.mem_append_right _ (List.mem_append_right _ (List.mem_append_right _ (List.mem_append_right _ (List.mem_append_right _ (List.mem_append_right _ (List.mem_append_right _ (List.mem_append_right _ (List.mem_append_right _ (List.mem_append_right _ (List.mem_append_right _ (List.mem_append_right _ (List.mem_append_left _ h))))))))))))))))))))))))))))))))))))))))))))))))))))))))))
theorem zr43 : ∀ w ∈ wsL_law0_r43, w ∈ wsL_law := fun w h => zLaw0 w (List.mem_append_left _ (List.mem_append_left _ (List.mem_append_left _ (List.mem_append_left _ (List.mem_append_left _ (List.mem_append_left _ (List.mem_append_left _ (List.mem_append_left _ (List.mem_append_left _ (List.mem_append_left _ (List.mem_append_left _ (List.mem_append_left _ (List.mem_append_left _ (List.mem_append_left _ (List.mem_append_left _ (List.mem_append_left _ (List.mem_append_right _ (List.mem_append_right _ (List.mem_append_right _ (List.mem_append_right _ (List.mem_append_right _ (List.mem_append_right _ (List.mem_append_right _ (List.mem_append_right _ (List.mem_append_right _ (List.mem_append_right _ (List.mem_append_right _ (List.mem_append_right _ (List.mem_append_right _ (List.mem_append_right _ (List.mem_append_right _ (List.mem_append_right _ (List.mem_append_right _ (List.mem_append_right _ (List.mem_append_right _ (List.mem_append_right _ (List.mem_append_right _ (List.mem_append_right _ (List.mem_append_right _ (List.mem_append_right _ (List.mem_append_right _ (List.mem_append_right _ (List.mem_append_right _ (List.mem_append_right _ (List.mem_append_right _ (List.mem_append_right _ (List.mem_append_right _ (List.mem_append_right _ (List.mem_append_right _ (List.mem_append_right _ (List.mem_append_right _ (List.mem_append_right _ (List.mem_append_right _ (List.mem_append_right _ (List.mem_append_right _ (List.mem_append_right _ (List.mem_append_right _ (List.mem_append_right _ (List.mem_append_left _ h)))))))))))))))))))))))))))))))))))))))))))))))))))))))))))
theorem zr44 : ∀ w ∈ wsL_law0_r44, w ∈ wsL_law := fun w h => zLaw0 w (List.mem_append_left _ (List.mem_append_left _ (List.mem_append_left _ (List.mem_append_left _ (List.mem_append_left _ (List.mem_append_left _ (List.mem_append_left _ (List.mem_append_left _ (List.mem_append_left _ (List.mem_append_left _ (List.mem_append_left _ (List.mem_append_left _ (List.mem_append_left _ (List.mem_append_left _ (List.mem_append_left _ (List.mem_append_left _ (List.mem_append_right _ (List.mem_append_right _ (List.mem_append_right _ (List.mem_append_right _ (List.mem_append_right _ (List.mem_append_right _ (List.mem_append_right _ (List.mem_append_right _ (List.mem_append_right _ (List.mem_append_right _ (List.mem_append_right _ (List.mem_append_right _ (List.mem_append_right _ (List.mem_append_right _ (List.mem_append_right _ (List.mem_append_right _ (List.mem_append_right _ (List.mem_append_right _ (List.mem_append_right _ (List.mem_append_right _ (List.mem_append_right _ (List.mem_append_right _ (List.mem_append_right _ (List.mem_append_right _ (List.mem_append_right _ (List.mem_append_right _ (List.mem_append_right _ (List.mem_append_right _ (List.mem_append_right _ (List.mem_append_right _ (List.mem_append_right _ (List.mem_append_right _ (List.mem_append_right _ (List.mem_append_right _ (List.mem_append_right _ (List.mem_append_right _ (List.mem_append_right _ (List.mem_append_right _ (List.mem_append_right _ (List.mem_append_right _ (List.mem_append_right _ (List.mem_append_right _ (List.mem_append_right _ (List.mem_append_left _ h))))))))))))))))))))))))))))))))))))))))))))))))))))))))))))
theorem zr45 : ∀ w ∈ wsL_law0_r45, w ∈ wsL_law := fun w h => zLaw0 w (List.mem_append_left _ (List.mem_append_left _ (List.mem_append_left _ (List.mem_append_left _ (List.mem_append_left _ (List.mem_append_left _ (List.mem_append_left _ (List.mem_append_left _ (List.mem_append_left _ (List.mem_append_left _ (List.mem_append_left _ (List.mem_append_left _ (List.mem_append_left _ (List.mem_append_left _ (List.mem_append_left _ (List.mem_append_left _ (List.mem_append_right _ (List.mem_append_right _ (List.mem_append_right _ (List.mem_append_right _ (List.mem_append_right _ (List.mem_append_right _ (List.mem_append_right _ (List.mem_append_right _ (List.mem_append_right _ (List.mem_append_right _ (List.mem_append_right _ (List.mem_append_right _ (List.mem_append_right _ (List.mem_append_right _ (List.mem_append_right _ (List.mem_append_right _ (List.mem_append_right _ (List.mem_append_right _ (List.mem_append_right _ (List.mem_append_right _ (List.mem_append_right _ (List.mem_append_right _ (List.mem_append_right _ (List.mem_append_right _ (List.mem_append_right _ (List.mem_append_right _ (List.mem_append_right _ (List.mem_append_right _ (List.mem_append_right _ (List.mem_append_right _ (List.mem_append_right _ (List.mem_append_right _ (List.mem_append_right _ (List.mem_append_right _ (List.mem_append_right _ (List.mem_append_right _ (List.mem_append_right _ (List.mem_append_right _ (List.mem_append_right _ (List.mem_append_right _ (List.mem_append_right _ (List.mem_append_right _ (List.mem_append_right _ (List.mem_append_right _ (List.mem_append_left _ h)))))))))))))))))))))))))))))))))))))))))))))))))))))))))))))
theorem zr46 : ∀ w ∈ wsL_law0_r46, w ∈ wsL_law := fun w h => zLaw0 w (List.mem_append_left _ (List.mem_append_left _ (List.mem_append_left _ (List.mem_append_left _ (List.mem_append_left _ (List.mem_append_left _ (List.mem_append_left _ (List.mem_append_left _ (List.mem_append_left _ (List.mem_append_left _ (List.mem_append_left _ (List.mem_append_left _ (List.mem_append_left _ (List.mem_append_left _ (List.mem_append_left _ (List.mem_append_left _ (List.mem_append_right _ (List.mem_append_right _ (List.mem_append_right _ (List.mem_append_right _ (List.mem_append_right _ (List.mem_append_right _ (List.mem_append_right _ (List.mem_append_right _ (List.mem_append_right _ (List.mem_append_right _ (List.mem_append_right _ (List.mem_append_right _ (List.mem_append_right _ (List.mem_append_right _ (List.mem_append_right _ (List.mem_append_right _ (List.mem_append_right _ (List.mem_append_right _ (List.mem_append_right _ (List.mem_append_right _ (List.mem_append_right _ (List.mem_append_right _ (List.mem_append_right _ (List.mem_append_right _ (List.mem_append_right _ (List.mem_append_right _ (List.mem_append_right _ (List.mem_append_right _ (List.mem_append_right _ (List.mem_append_right _ (List.mem_append_right _ (List.mem_append_right _ (List.mem_append_right _ (List.mem_append_right _ (List.mem_append_right _ (List.mem_append_right _ (List.mem_append_right _ (List.mem_append_right _ (List.mem_append_right _ (List.mem_append_right _ (List.mem_append_right _ (List.mem_append_right _ (List.mem_append_right _ (List.mem_append_right _ (List.mem_append_right _ (List.mem_append_left _ h))))))))))))))))))))))))))))))))))))))))))))))))))))))))))))))
theorem zr47 : ∀ w ∈ wsL_law0_r47, w ∈ wsL_law := fun w h => zLaw0 w (List.mem_append_left _ (List.mem_append_left _ (List.mem_append_left _ (List.mem_append_left _ (List.mem_append_left _ (List.mem_append_left _ (List.mem_append_left _ (List.mem_append_left _ (List.mem_append_left _ (List.mem_append_left _ (List.mem_append_left _ (List.mem_append_left _ (List.mem_append_left _ (List.mem_append_left _ (List.mem_append_left _ (List.mem_append_left _ (List.mem_append_right _ (List.mem_append_right _ (List.mem_append_right _ (List.mem_append_right _ (List.mem_append_right _ (List.mem_append_right _ (List.mem_append_right _ (List.mem_append_right _ (List.mem_append_right _ (List.mem_append_right _ (List.mem_append_right _ (List.mem_append_right _ (List.mem_append_right _ (List.mem_append_right _ (List.mem_append_right _ (List.mem_append_right _ (List.mem_append_right _ (List.mem_append_right _ (List.mem_append_right _ (List.mem_append_right _ (List.mem_append_right _ (List.mem_append_right _ (List.mem_append_right _ (List.mem_append_right _ (List.mem_append_right _ (List.mem_append_right _ (List.mem_append_right _ (List.mem_append_right _ (List.mem_append_right _ (List.mem_append_right _ (List.mem_append_right _ (List.mem_append_right _ (List.mem_append_right _ (List.mem_append_right _ (List.mem_append_right _ (List.mem_append_right _ (List.mem_append_right _ (List.mem_append_right _ (List.mem_append_right _ (List.mem_append_right _ (List.mem_append_right _ (List.mem_append_right _ (List.mem_append_right _ (List.mem_append_right _ (List.mem_append_right _ (List.mem_append_right _ (List.mem_append_left _ h)))))))))))))))))))))))))))))))))))))))))))))))))))))))))))))))
theorem zr48 : ∀ w ∈ wsL_law0_r48, w ∈ wsL_law := fun w h => zLaw0 w (List.mem_append_left _ (List.mem_append_left _ (List.mem_append_left _ (List.mem_append_left _ (List.mem_append_left _ (List.mem_append_left _ (List.mem_append_left _ (List.mem_append_left _ (List.mem_append_left _ (List.mem_append_left _ (List.mem_append_left _ (List.mem_append_left _ (List.mem_append_left _ (List.mem_append_left _ (List.mem_append_left _ (List.mem_append_left _ (List.mem_append_right _ (List.mem_append_right _ (List.mem_append_right _ (List.mem_append_right _ (List.mem_append_right _ (List.mem_append_right _ (List.mem_append_right _ (List.mem_append_right _ (List.mem_append_right _ (List.mem_append_right _ (List.mem_append_right _ (List.mem_append_right _ (List.mem_append_right _ (List.mem_append_right _ (List.mem_append_right _ (List.mem_append_right _ (List.mem_append_right _ (List.mem_append_right _ (List.mem_append_right _ (List.mem_append_right _ (List.mem_append_right _ (List.mem_append_right _ (List.mem_append_right _ (List.mem_append_right _ (List.mem_append_right _ (List.mem_append_right _ (List.mem_append_right _ (List.mem_append_right _ (List.mem_append_right _ (List.mem_append_right _ (List.mem_append_right _ (List.mem_append_right _ (List.mem_append_right _ (List.mem_append_right _ (List.mem_append_right _ (List.mem_append_right _ (List.mem_append_right _ (List.mem_append_right _ (List.mem_append_right _ (List.mem_append_right _ (List.mem_append_right _ (List.mem_append_right _ (List.mem_append_right _ (List.mem_append_right _ (List.mem_append_right _ (List.mem_append_right _ (List.mem_append_right _ (List.mem_append_left _ h))))))))))))))))))))))))))))))))))))))))))))))))))))))))))))))))
theorem zr49 : ∀ w ∈ wsL_law0_r49, w ∈ wsL_law := fun w h => zLaw0 w (List.mem_append_left _ (List.mem_append_left _ (List.mem_append_left _ (List.mem_append_left _ (List.mem_append_left _ (List.mem_append_left _ (List.mem_append_left _ (List.mem_append_left _ (List.mem_append_left _ (List.mem_append_left _ (List.mem_append_left _ (List.mem_append_left _ (List.mem_append_left _ (List.mem_append_left _ (List.mem_append_left _ (List.mem_append_left _ (List.mem_append_right _ (List.mem_append_right _ (List.mem_append_right _ (List.mem_append_right _ (List.mem_append_right _ (List.mem_append_right _ (List.mem_append_right _ (List.mem_append_right _ (List.mem_append_right _ (List.mem_append_right _ (List.mem_append_right _ (List.mem_append_right _ (List.mem_append_right _ (List.mem_append_right _ (List.mem_append_right _ (List.mem_append_right _ (List.mem_append_right _ (List.mem_append_right _ (List.mem_append_right _ (List.mem_append_right _ (List.mem_append_right _ (List.mem_append_right _ (List.mem_append_right _ (List.mem_append_right _ (List.mem_append_right _ (List.mem_append_right _ (List.mem_append_right _ (List.mem_append_right _ (List.mem_append_right _ (List.mem_append_right _ (List.mem_append_right _ (List.mem_append_right _ (List.mem_append_right _ (List.mem_append_right _ (List.mem_append_right _ (List.mem_append_right _ (List.mem_append_right _ (List.mem_append_right _ (List.mem_append_right _ (List.mem_append_right _ (List.mem_append_right _ (List.mem_append_right _ (List.mem_append_right _ (List.mem_append_right _ (List.mem_append_right _ (List.mem_append_right _ (List.mem_append_right _ (List.mem_append_right _ (List.mem_append_left _ h)))))))))))))))))))))))))))))))))))))))))))))))))))))))))))))))))
theorem zr50 : ∀ w ∈ wsL_law0_r50, w ∈ wsL_law := fun w h => zLaw0 w (List.mem_append_left _ (List.mem_append_left _ (List.mem_append_left _ (List.mem_append_left _ (List.mem_append_left _ (List.mem_append_left _ (List.mem_append_left _ (List.mem_append_left _ (List.mem_append_left _ (List.mem_append_left _ (List.mem_append_left _ (List.mem_append_left _ (List.mem_append_left _ (List.mem_append_left _ (List.mem_append_left _ (List.mem_append_left _ (List.mem_append_right _ (List.mem_append_right _ (List.mem_append_right _ (List.mem_append_right _ (List.mem_append_right _ (List.mem_append_right _ (List.mem_append_right _ (List.mem_append_right _ (List.mem_append_right _ (List.mem_append_right _ (List.mem_append_right _ (List.mem_append_right _ (List.mem_append_right _ (List.mem_append_right _ (List.mem_append_right _ (List.mem_append_right _ (List.mem_append_right _ (List.mem_append_right _ (List.mem_append_right _ (List.mem_append_right _ (List.mem_append_right _ (List.mem_append_right _ (List.mem_append_right _ (List.mem_append_right _ (List.mem_append_right _ (List.mem_append_right _ (List.mem_append_right _ (List.mem_append_right _ (List.mem_append_right _ (List.mem_append_right _ (List.mem_append_right _ (List.mem_append_right _ (List.mem_append_right _ (List.mem_append_right _ (List.mem_append_right _ (List.mem_append_right _ (List.mem_append_right _ (List.mem_append_right _ (List.mem_append_right _ (List.mem_append_right _ (List.mem_append_right _ (List.mem_append_right _ (List.mem_append_right _ (List.mem_append_right _ (List.mem_append_right _ (List.mem_append_right _ (List.mem_append_right _ (List.mem_append_right _ (List.mem_append_right _ (List.mem_append_left _ h))))))))))))))))))))))))))))))))))))))))))))))))))))))))))))))))))
theorem zr51 : ∀ w ∈ wsL_law0_r51, w ∈ wsL_law := fun w h => zLaw0 w (List.mem_append_left _ (List.mem_append_left _ (List.mem_append_left _ (List.mem_append_left _ (List.mem_append_left _ (List.mem_append_left _ (List.mem_append_left _ (List.mem_append_left _ (List.mem_append_left _ (List.mem_append_left _ (List.mem_append_left _ (List.mem_append_left _ (List.mem_append_left _ (List.mem_append_left _ (List.mem_append_left _ (List.mem_append_left _ (List.mem_append_right _ (List.mem_append_right _ (List.mem_append_right _ (List.mem_append_right _ (List.mem_append_right _ (List.mem_append_right _ (List.mem_append_right _ (List.mem_append_right _ (List.mem_append_right _ (List.mem_append_right _ (List.mem_append_right _ (List.mem_append_right _ (List.mem_append_right _ (List.mem_append_right _ (List.mem_append_right _ (List.mem_append_right _ (List.mem_append_right _ (List.mem_append_right _ (List.mem_append_right _ (List.mem_append_right _ (List.mem_append_right _ (List.mem_append_right _ (List.mem_append_right _ (List.mem_append_right _ (List.mem_append_right _ (List.mem_append_right _ (List.mem_append_right _ (List.mem_append_right _ (List.mem_append_right _ (List.mem_append_right _ (List.mem_append_right _ (List.mem_append_right _ (List.mem_append_right _ (List.mem_append_right _ (List.mem_append_right _ (List.mem_append_right _ (List.mem_append_right _ (List.mem_append_right _ (List.mem_append_right _ (List.mem_append_right _ (List.mem_append_right _ (List.mem_append_right _ (List.mem_append_right _ (List.mem_append_right _ (List.mem_append_right _ (List.mem_append_right _ (List.mem_append_right _ (List.mem_append_right _ (List.mem_append_right _ (List.mem_append_right _ (List.mem_append_left _ h)))))))))))))))))))))))))))))))))))))))))))))))))))))))))))))))))))
theorem zr52 : ∀ w ∈ wsL_law0_r52, w ∈ wsL_law := fun w h => zLaw0 w (List.mem_append_left _ (List.mem_append_left _ (List.mem_append_left _ (List.mem_append_left _ (List.mem_append_left _ (List.mem_append_left _ (List.mem_append_left _ (List.mem_append_left _ (List.mem_append_left _ (List.mem_append_left _ (List.mem_append_left _ (List.mem_append_left _ (List.mem_append_left _ (List.mem_append_left _ (List.mem_append_left _ (List.mem_append_left _ (List.mem_append_right _ (List.mem_append_right _ (List.mem_append_right _ (List.mem_append_right _ (List.mem_append_right _ (List.mem_append_right _ (List.mem_append_right _ (List.mem_append_right _ (List.mem_append_right _ (List.mem_append_right _ (List.mem_append_right _ (List.mem_append_right _ (List.mem_append_right _ (List.mem_append_right _ (List.mem_append_right _ (List.mem_append_right _ (List.mem_append_right _ (List.mem_append_right _ (List.mem_append_right _ (List.mem_append_right _ (List.mem_append_right _ (List.mem_append_right _ (List.mem_append_right _ (List.mem_append_right _ (List.mem_append_right _ (List.mem_append_right _ (List.mem_append_right _ (List.mem_append_right _ (List.mem_append_right _ (List.mem_append_right _ (List.mem_append_right _ (List.mem_append_right _ (List.mem_append_right _ (List.mem_append_right _ (List.mem_append_right _ (List.mem_append_right _ (List.mem_append_right _ (List.mem_append_right _ (List.mem_append_right _ (List.mem_append_right _ (List.mem_append_right _ (List.mem_append_right _ (List.mem_append_right _ (List.mem_append_right _ (List.mem_append_right _ (List.mem_append_right _ (List.mem_append_right _ (List.mem_append_right _ (List.mem_append_right _ (List.mem_append_right _ (List.mem_append_right _ (List.mem_append_left _ h))))))))))))))))))))))))))))))))))))))))))))))))))))))))))))))))))))
theorem zr53 : ∀ w ∈ wsL_law0_r53, w ∈ wsL_law := fun w h => zLaw0 w (List.mem_append_left _ (List.mem_append_left _ (List.mem_append_left _ (List.mem_append_left _ (List.mem_append_left _ (List.mem_append_left _ (List.mem_append_left _ (List.mem_append_left _ (List.mem_append_left _ (List.mem_append_left _ (List.mem_append_left _ (List.mem_append_left _ (List.mem_append_left _ (List.mem_append_left _ (List.mem_append_left _ (List.mem_append_left _ (List.mem_append_right _ (List.mem_append_right _ (List.mem_append_right _ (List.mem_append_right _ (List.mem_append_right _ (List.mem_append_right _ (List.mem_append_right _ (List.mem_append_right _ (List.mem_append_right _ (List.mem_append_right _ (List.mem_append_right _ (List.mem_append_right _ (List.mem_append_right _ (List.mem_append_right _ (List.mem_append_right _ (List.mem_append_right _ (List.mem_append_right _ (List.mem_append_right _ (List.mem_append_right _ (List.mem_append_right _ (List.mem_append_right _ (List.mem_append_right _ (List.mem_append_right _ (List.mem_append_right _ (List.mem_append_right _ (List.mem_append_right _ (List.mem_append_right _ (List.mem_append_right _ (List.mem_append_right _ (List.mem_append_right _ (List.mem_append_right _ (List.mem_append_right _ (List.mem_append_right _ (List.mem_append_right _ (List.mem_append_right _ (List.mem_append_right _ (List.mem_append_right _ (List.mem_append_right _ (List.mem_append_right _ (List.mem_append_right _ (List.mem_append_right _ (List.mem_append_right _ (List.mem_append_right _ (List.mem_append_right _ (List.mem_append_right _ (List.mem_append_right _ (List.mem_append_right _ (List.mem_append_right _ (List.mem_append_right _ (List.mem_append_right _ (List.mem_append_right _ (List.mem_append_right _ (List.mem_append_left _ h)))))))))))))))))))))))))))))))))))))))))))))))))))))))))))))))))))))
theorem zr54 : ∀ w ∈ wsL_law0_r54, w ∈ wsL_law := fun w h => zLaw0 w (List.mem_append_left _ (List.mem_append_left _ (List.mem_append_left _ (List.mem_append_left _ (List.mem_append_left _ (List.mem_append_left _ (List.mem_append_left _ (List.mem_append_left _ (List.mem_append_left _ (List.mem_append_left _ (List.mem_append_left _ (List.mem_append_left _ (List.mem_append_left _ (List.mem_append_left _ (List.mem_append_left _ (List.mem_append_left _ (List.mem_append_right _ (List.mem_append_right _ (List.mem_append_right _ (List.mem_append_right _ (List.mem_append_right _ (List.mem_append_right _ (List.mem_append_right _ (List.mem_append_right _ (List.mem_append_right _ (List.mem_append_right _ (List.mem_append_right _ (List.mem_append_right _ (List.mem_append_right _ (List.mem_append_right _ (List.mem_append_right _ (List.mem_append_right _ (List.mem_append_right _ (List.mem_append_right _ (List.mem_append_right _ (List.mem_append_right _ (List.mem_append_right _ (List.mem_append_right _ (List.mem_append_right _ (List.mem_append_right _ (List.mem_append_right _ (List.mem_append_right _ (List.mem_append_right _ (List.mem_append_right _ (List.mem_append_right _ (List.mem_append_right _ (List.mem_append_right _ (List.mem_append_right _ (List.mem_append_right _ (List.mem_append_right _ (List.mem_append_right _ (List.mem_append_right _ (List.mem_append_right _ (List.mem_append_right _ (List.mem_append_right _ (List.mem_append_right _ (List.mem_append_right _ (List.mem_append_right _ (List.mem_append_right _ (List.mem_append_right _ (List.mem_append_right _ (List.mem_append_right _ (List.mem_append_right _ (List.mem_append_right _ (List.mem_append_right _ (List.mem_append_right _ (List.mem_append_right _ (List.mem_append_right _ (List.mem_append_right _ (List.mem_append_left _ h))))))))))))))))))))))))))))))))))))))))))))))))))))))))))))))))))))))
theorem zr55 : ∀ w ∈ wsL_law0_r55, w ∈ wsL_law := fun w h => zLaw0 w (List.mem_append_left _ (List.mem_append_left _ (List.mem_append_left _ (List.mem_append_left _ (List.mem_append_left _ (List.mem_append_left _ (List.mem_append_left _ (List.mem_append_left _ (List.mem_append_left _ (List.mem_append_left _ (List.mem_append_left _ (List.mem_append_left _ (List.mem_append_left _ (List.mem_append_left _ (List.mem_append_left _ (List.mem_append_left _ (List.mem_append_right _ (List.mem_append_right _ (List.mem_append_right _ (List.mem_append_right _ (List.mem_append_right _ (List.mem_append_right _ (List.mem_append_right _ (List.mem_append_right _ (List.mem_append_right _ (List.mem_append_right _ (List.mem_append_right _ (List.mem_append_right _ (List.mem_append_right _ (List.mem_append_right _ (List.mem_append_right _ (List.mem_append_right _ (List.mem_append_right _ (List.mem_append_right _ (List.mem_append_right _ (List.mem_append_right _ (List.mem_append_right _ (List.mem_append_right _ (List.mem_append_right _ (List.mem_append_right _ (List.mem_append_right _ (List.mem_append_right _ (List.mem_append_right _ (List.mem_append_right _ (List.mem_append_right _ (List.mem_append_right _ (List.mem_append_right _ (List.mem_append_right _ (List.mem_append_right _ (List.mem_append_right _ (List.mem_append_right _ (List.mem_append_right _ (List.mem_append_right _ (List.mem_append_right _ (List.mem_append_right _ (List.mem_append_right _ (List.mem_append_right _ (List.mem_append_right _ (List.mem_append_right _ (List.mem_append_right _ (List.mem_append_right _ (List.mem_append_right _ (List.mem_append_right _ (List.mem_append_right _ (List.mem_append_right _ (List.mem_append_right _ (List.mem_append_right _ (List.mem_append_right _ (List.mem_append_right _ (List.mem_append_right _ (List.mem_append_left _ h)))))))))))))))))))))))))))))))))))))))))))))))))))))))))))))))))))))))
theorem zr56 : ∀ w ∈ wsL_law0_r56, w ∈ wsL_law := fun w h => zLaw0 w (List.mem_append_left _ (List.mem_append_left _ (List.mem_append_left _ (List.mem_append_left _ (List.mem_append_left _ (List.mem_append_left _ (List.mem_append_left _ (List.mem_append_left _ (List.mem_append_left _ (List.mem_append_left _ (List.mem_append_left _ (List.mem_append_left _ (List.mem_append_left _ (List.mem_append_left _ (List.mem_append_left _ (List.mem_append_left _ (List.mem_append_right _ (List.mem_append_right _ (List.mem_append_right _ (List.mem_append_right _ (List.mem_append_right _ (List.mem_append_right _ (List.mem_append_right _ (List.mem_append_right _ (List.mem_append_right _ (List.mem_append_right _ (List.mem_append_right _ (List.mem_append_right _ (List.mem_append_right _ (List.mem_append_right _ (List.mem_append_right _ (List.mem_append_right _ (List.mem_append_right _ (List.mem_append_right _ (List.mem_append_right _ (List.mem_append_right _ (List.mem_append_right _ (List.mem_append_right _ (List.mem_append_right _ (List.mem_append_right _ (List.mem_append_right _ (List.mem_append_right _ (List.mem_append_right _ (List.mem_append_right _ (List.mem_append_right _ (List.mem_append_right _ (List.mem_append_right _ (List.mem_append_right _ (List.mem_append_right _ (List.mem_append_right _ (List.mem_append_right _ (List.mem_append_right _ (List.mem_append_right _ (List.mem_append_right _ (List.mem_append_right _ (List.mem_append_right _ (List.mem_append_right _ (List.mem_append_right _ (List.mem_append_right _ (List.mem_append_right _ (List.mem_append_right _ (List.mem_append_right _ (List.mem_append_right _ (List.mem_append_right _ (List.mem_append_right _ (List.mem_append_right _ (List.mem_append_right _ (List.mem_append_right _ (List.mem_append_right _ (List.mem_append_right _ (List.mem_append_right _ (List.mem_append_left _ h))))))))))))))))))))))))))))))))))))))))))))))))))))))))))))))))))))))))
theorem zr57 : ∀ w ∈ wsL_law0_r57, w ∈ wsL_law := fun w h => zLaw0 w (List.mem_append_left _ (List.mem_append_left _ (List.mem_append_left _ (List.mem_append_left _ (List.mem_append_left _ (List.mem_append_left _ (List.mem_append_left _ (List.mem_append_left _ (List.mem_append_left _ (List.mem_append_left _ (List.mem_append_left _ (List.mem_append_left _ (List.mem_append_left _ (List.mem_append_left _ (List.mem_append_left _ (List.mem_append_left _ (List.mem_append_right _ (List.mem_append_right _ (List.mem_append_right _ (List.mem_append_right _ (List.mem_append_right _ (List.mem_append_right _ (List.mem_append_right _ (List.mem_append_right _ (List.mem_append_right _ (List.mem_append_right _ (List.mem_append_right _ (List.mem_append_right _ (List.mem_append_right _ (List.mem_append_right _ (List.mem_append_right _ (List.mem_append_right _ (List.mem_append_right _ (List.mem_append_right _ (List.mem_append_right _ (List.mem_append_right _ (List.mem_append_right _ (List.mem_append_right _ (List.mem_append_right _ (List.mem_append_right _ (List.mem_append_right _ (List.mem_append_right _ (List.mem_append_right _ (List.mem_append_right _ (List.mem_append_right _ (List.mem_append_right _ (List.mem_append_right _ (List.mem_append_right _ (List.mem_append_right _ (List.mem_append_right _ (List.mem_append_right _ (List.mem_append_right _ (List.mem_append_right _ (List.mem_append_right _ (List.mem_append_right _ (List.mem_append_right _ (List.mem_append_right _ (List.mem_append_right _ (List.mem_append_right _ (List.mem_append_right _ (List.mem_append_right _ (List.mem_append_right _ (List.mem_append_right _ (List.mem_append_right _ (List.mem_append_right _ (List.mem_append_right _ (List.mem_append_right _ (List.mem_append_right _ (List.mem_append_right _ (List.mem_append_right _ (List.mem_append_right _ (List.mem_append_right _ (List.mem_append_left _ h)))))))))))))))))))))))))))))))))))))))))))))))))))))))))))))))))))))))))
theorem zr58 : ∀ w ∈ wsL_law0_r58, w ∈ wsL_law := fun w h => zLaw0 w (List.mem_append_left _ (List.mem_append_left _ (List.mem_append_left _ (List.mem_append_left _ (List.mem_append_left _ (List.mem_append_left _ (List.mem_append_left _ (List.mem_append_left _ (List.mem_append_left _ (List.mem_append_left _ (List.mem_append_left _ (List.mem_append_left _ (List.mem_append_left _ (List.mem_append_left _ (List.mem_append_left _ (List.mem_append_left _ (List.mem_append_right _ (List.mem_append_right _ (List.mem_append_right _ (List.mem_append_right _ (List.mem_append_right _ (List.mem_append_right _ (List.mem_append_right _ (List.mem_append_right _ (List.mem_append_right _ (List.mem_append_right _ (List.mem_append_right _ (List.mem_append_right _ (List.mem_append_right _ (List.mem_append_right _ (List.mem_append_right _ (List.mem_append_right _ (List.mem_append_right _ (List.mem_append_right _ (List.mem_append_right _ (List.mem_append_right _ (List.mem_append_right _ (List.mem_append_right _ (List.mem_append_right _ (List.mem_append_right _ (List.mem_append_right _ (List.mem_append_right _ (List.mem_append_right _ (List.mem_append_right _ (List.mem_append_right _ (List.mem_append_right _ (List.mem_append_right _ (List.mem_append_right _ (List.mem_append_right _ (List.mem_append_right _ (List.mem_append_right _ (List.mem_append_right _ (List.mem_append_right _ (List.mem_append_right _ (List.mem_append_right _ (List.mem_append_right _ (List.mem_append_right _ (List.mem_append_right _ (List.mem_append_right _ (List.mem_append_right _ (List.mem_append_right _ (List.mem_append_right _ (List.mem_append_right _ (List.mem_append_right _ (List.mem_append_right _ (List.mem_append_right _ (List.mem_append_right _ (List.mem_append_right _ (List.mem_append_right _ (List.mem_append_right _ (List.mem_append_right _ (List.mem_append_right _ (List.mem_append_right _ (List.mem_append_left _ h))))))))))))))))))))))))))))))))))))))))))))))))))))))))))))))))))))))))))
theorem zr59 : ∀ w ∈ wsL_law0_r59, w ∈ wsL_law := fun w h => zLaw0 w (List.mem_append_left _ (List.mem_append_left _ (List.mem_append_left _ (List.mem_append_left _ (List.mem_append_left _ (List.mem_append_left _ (List.mem_append_left _ (List.mem_append_left _ (List.mem_append_left _ (List.mem_append_left _ (List.mem_append_left _ (List.mem_append_left _ (List.mem_append_left _ (List.mem_append_left _ (List.mem_append_left _ (List.mem_append_left _ (List.mem_append_right _ (List.mem_append_right _ (List.mem_append_right _ (List.mem_append_right _ (List.mem_append_right _ (List.mem_append_right _ (List.mem_append_right _ (List.mem_append_right _ (List.mem_append_right _ (List.mem_append_right _ (List.mem_append_right _ (List.mem_append_right _ (List.mem_append_right _ (List.mem_append_right _ (List.mem_append_right _ (List.mem_append_right _ (List.mem_append_right _ (List.mem_append_right _ (List.mem_append_right _ (List.mem_append_right _ (List.mem_append_right _ (List.mem_append_right _ (List.mem_append_right _ (List.mem_append_right _ (List.mem_append_right _ (List.mem_append_right _ (List.mem_append_right _ (List.mem_append_right _ (List.mem_append_right _ (List.mem_append_right _ (List.mem_append_right _ (List.mem_append_right _ (List.mem_append_right _ (List.mem_append_right _ (List.mem_append_right _ (List.mem_append_right _ (List.mem_append_right _ (List.mem_append_right _ (List.mem_append_right _ (List.mem_append_right _ (List.mem_append_right _ (List.mem_append_right _ (List.mem_append_right _ (List.mem_append_right _ (List.mem_append_right _ (List.mem_append_right _ (List.mem_append_right _ (List.mem_append_right _ (List.mem_append_right _ (List.mem_append_right _ (List.mem_append_right _ (List.mem_append_right _ (List.mem_append_right _ (List.mem_append_right _ (List.mem_append_right _ (List.mem_append_right _ (List.mem_append_right _ (List.mem_append_right _ (List.mem_append_left _ h)))))))))))))))))))))))))))))))))))))))))))))))))))))))))))))))))))))))))))
theorem zr60 : ∀ w ∈ wsL_law0_r60, w ∈ wsL_law := fun w h => zLaw0 w (List.mem_append_left _ (List.mem_append_left _ (List.mem_append_left _ (List.mem_append_left _ (List.mem_append_left _ (List.mem_append_left _ (List.mem_append_left _ (List.mem_append_left _ (List.mem_append_left _ (List.mem_append_left _ (List.mem_append_left _ (List.mem_append_left _ (List.mem_append_left _ (List.mem_append_left _ (List.mem_append_left _ (List.mem_append_left _ (List.mem_append_right _ (List.mem_append_right _ (List.mem_append_right _ (List.mem_append_right _ (List.mem_append_right _ (List.mem_append_right _ (List.mem_append_right _ (List.mem_append_right _ (List.mem_append_right _ (List.mem_append_right _ (List.mem_append_right _ (List.mem_append_right _ (List.mem_append_right _ (List.mem_append_right _ (List.mem_append_right _ (List.mem_append_right _ (List.mem_append_right _ (List.mem_append_right _ (List.mem_append_right _ (List.mem_append_right _ (List.mem_append_right _ (List.mem_append_right _ (List.mem_append_right _ (List.mem_append_right _ (List.mem_append_right _ (List.mem_append_right _ (List.mem_append_right _ (List.mem_append_right _ (List.mem_append_right _ (List.mem_append_right _ (List.mem_append_right _ (List.mem_append_right _ (List.mem_append_right _ (List.mem_append_right _ (List.mem_append_right _ (List.mem_append_right _ (List.mem_append_right _ (List.mem_append_right _ (List.mem_append_right _ (List.mem_append_right _ (List.mem_append_right _ (List.mem_append_right _ (List.mem_append_right _ (List.mem_append_right _ (List.mem_append_right _ (List.mem_append_right _ (List.mem_append_right _ (List.mem_append_right _ (List.mem_append_right _ (List.mem_append_right _ (List.mem_append_right _ (List.mem_append_right _ (List.mem_append_right _ (List.mem_append_right _ (List.mem_append_right _ (List.mem_append_right _ (List.mem_append_right _ (List.mem_append_right _ (List.mem_append_right _ (List.mem_append_left _ h))))))))))))))))))))))))))))))))))))))))))))))))))))))))))))))))))))))))))))
theorem zr61 : ∀ w ∈ wsL_law0_r61, w ∈ wsL_law := fun w h => zLaw0 w (List.mem_append_left _ (List.mem_append_left _ (List.mem_append_left _ (List.mem_append_left _ (List.mem_append_left _ (List.mem_append_left _ (List.mem_append_left _ (List.mem_append_left _ (List.mem_append_left _ (List.mem_append_left _ (List.mem_append_left _ (List.mem_append_left _ (List.mem_append_left _ (List.mem_append_left _ (List.mem_append_left _ (List.mem_append_left _ (List.mem_append_right _ (List.mem_append_right _ (List.mem_append_right _ (List.mem_append_right _ (List.mem_append_right _ (List.mem_append_right _ (List.mem_append_right _ (List.mem_append_right _ (List.mem_append_right _ (List.mem_append_right _ (List.mem_append_right _ (List.mem_append_right _ (List.mem_append_right _ (List.mem_append_right _ (List.mem_append_right _ (List.mem_append_right _ (List.mem_append_right _ (List.mem_append_right _ (List.mem_append_right _ (List.mem_append_right _ (List.mem_append_right _ (List.mem_append_right _ (List.mem_append_right _ (List.mem_append_right _ (List.mem_append_right _ (List.mem_append_right _ (List.mem_append_right _ (List.mem_append_right _ (List.mem_append_right _ (List.mem_append_right _ (List.mem_append_right _ (List.mem_append_right _ (List.mem_append_right _ (List.mem_append_right _ (List.mem_append_right _ (List.mem_append_right _ (List.mem_append_right _ (List.mem_append_right _ (List.mem_append_right _ (List.mem_append_right _ (List.mem_append_right _ (List.mem_append_right _ (List.mem_append_right _ (List.mem_append_right _ (List.mem_append_right _ (List.mem_append_right _ (List.mem_append_right _ (List.mem_append_right _ (List.mem_append_right _ (List.mem_append_right _ (List.mem_append_right _ (List.mem_append_right _ (List.mem_append_right _ (List.mem_append_right _ (List.mem_append_right _ (List.mem_append_right _ (List.mem_append_right _ (List.mem_append_right _ (List.mem_append_right _ (List.mem_append_right _ (List.mem_append_left _ h)))))))))))))))))))))))))))))))))))))))))))))))))))))))))))))))))))))))))))))
theorem zr62 : ∀ w ∈ wsL_law0_r62, w ∈ wsL_law := fun w h => zLaw0 w (List.mem_append_left _ (List.mem_append_left _ (List.mem_append_left _ (List.mem_append_left _ (List.mem_append_left _ (List.mem_append_left _ (List.mem_append_left _ (List.mem_append_left _ (List.mem_append_left _ (List.mem_append_left _ (List.mem_append_left _ (List.mem_append_left _ (List.mem_append_left _ (List.mem_append_left _ (List.mem_append_left _ (List.mem_append_left _ (List.mem_append_right _ (List.mem_append_right _ (List.mem_append_right _ (List.mem_append_right _ (List.mem_append_right _ (List.mem_append_right _ (List.mem_append_right _ (List.mem_append_right _ (List.mem_append_right _ (List.mem_append_right _ (List.mem_append_right _ (List.mem_append_right _ (List.mem_append_right _ (List.mem_append_right _ (List.mem_append_right _ (List.mem_append_right _ (List.mem_append_right _ (List.mem_append_right _ (List.mem_append_right _ (List.mem_append_right _ (List.mem_append_right _ (List.mem_append_right _ (List.mem_append_right _ (List.mem_append_right _ (List.mem_append_right _ (List.mem_append_right _ (List.mem_append_right _ (List.mem_append_right _ (List.mem_append_right _ (List.mem_append_right _ (List.mem_append_right _ (List.mem_append_right _ (List.mem_append_right _ (List.mem_append_right _ (List.mem_append_right _ (List.mem_append_right _ (List.mem_append_right _ (List.mem_append_right _ (List.mem_append_right _ (List.mem_append_right _ (List.mem_append_right _ (List.mem_append_right _ (List.mem_append_right _ (List.mem_append_right _ (List.mem_append_right _ (List.mem_append_right _ (List.mem_append_right _ (List.mem_append_right _ (List.mem_append_right _ (List.mem_append_right _ (List.mem_append_right _ (List.mem_append_right _ (List.mem_append_right _ (List.mem_append_right _ (List.mem_append_right _ (List.mem_append_right _ (List.mem_append_right _ (List.mem_append_right _ (List.mem_append_right _ (List.mem_append_right _ (List.mem_append_right _ (List.mem_append_left _ h))))))))))))))))))))))))))))))))))))))))))))))))))))))))))))))))))))))))))))))
theorem zr63 : ∀ w ∈ wsL_law0_r63, w ∈ wsL_law := fun w h => zLaw0 w (List.mem_append_left _ (List.mem_append_left _ (List.mem_append_left _ (List.mem_append_left _ (List.mem_append_left _ (List.mem_append_left _ (List.mem_append_left _ (List.mem_append_left _ (List.mem_append_left _ (List.mem_append_left _ (List.mem_append_left _ (List.mem_append_left _ (List.mem_append_left _ (List.mem_append_left _ (List.mem_append_left _ (List.mem_append_left _ (List.mem_append_right _ (List.mem_append_right _ (List.mem_append_right _ (List.mem_append_right _ (List.mem_append_right _ (List.mem_append_right _ (List.mem_append_right _ (List.mem_append_right _ (List.mem_append_right _ (List.mem_append_right _ (List.mem_append_right _ (List.mem_append_right _ (List.mem_append_right _ (List.mem_append_right _ (List.mem_append_right _ (List.mem_append_right _ (List.mem_append_right _ (List.mem_append_right _ (List.mem_append_right _ (List.mem_append_right _ (List.mem_append_right _ (List.mem_append_right _ (List.mem_append_right _ (List.mem_append_right _ (List.mem_append_right _ (List.mem_append_right _ (List.mem_append_right _ (List.mem_append_right _ (List.mem_append_right _ (List.mem_append_right _ (List.mem_append_right _ (List.mem_append_right _ (List.mem_append_right _ (List.mem_append_right _ (List.mem_append_right _ (List.mem_append_right _ (List.mem_append_right _ (List.mem_append_right _ (List.mem_append_right _ (List.mem_append_right _ (List.mem_append_right _ (List.mem_append_right _ (List.mem_append_right _ (List.mem_append_right _ (List.mem_append_right _ (List.mem_append_right _ (List.mem_append_right _ (List.mem_append_right _ (List.mem_append_right _ (List.mem_append_right _ (List.mem_append_right _ (List.mem_append_right _ (List.mem_append_right _ (List.mem_append_right _ (List.mem_append_right _ (List.mem_append_right _ (List.mem_append_right _ (List.mem_append_right _ (List.mem_append_right _ (List.mem_append_right _ (List.mem_append_right _ (List.mem_append_right _ (List.mem_append_left _ h)))))))))))))))))))))))))))))))))))))))))))))))))))))))))))))))))))))))))))))))
theorem zr64 : ∀ w ∈ wsL_law0_r64, w ∈ wsL_law := fun w h => zLaw0 w (List.mem_append_left _ (List.mem_append_left _ (List.mem_append_left _ (List.mem_append_left _ (List.mem_append_left _ (List.mem_append_left _ (List.mem_append_left _ (List.mem_append_left _ (List.mem_append_left _ (List.mem_append_left _ (List.mem_append_left _ (List.mem_append_left _ (List.mem_append_left _ (List.mem_append_left _ (List.mem_append_left _ (List.mem_append_left _ (List.mem_append_right _ (List.mem_append_right _ (List.mem_append_right _ (List.mem_append_right _ (List.mem_append_right _ (List.mem_append_right _ (List.mem_append_right _ (List.mem_append_right _ (List.mem_append_right _ (List.mem_append_right _ (List.mem_append_right _ (List.mem_append_right _ (List.mem_append_right _ (List.mem_append_right _ (List.mem_append_right _ (List.mem_append_right _ (List.mem_append_right _ (List.mem_append_right _ (List.mem_append_right _ (List.mem_append_right _ (List.mem_append_right _ (List.mem_append_right _ (List.mem_append_right _ (List.mem_append_right _ (List.mem_append_right _ (List.mem_append_right _ (List.mem_append_right _ (List.mem_append_right _ (List.mem_append_right _ (List.mem_append_right _ (List.mem_append_right _ (List.mem_append_right _ (List.mem_append_right _ (List.mem_append_right _ (List.mem_append_right _ (List.mem_append_right _ (List.mem_append_right _ (List.mem_append_right _ (List.mem_append_right _ (List.mem_append_right _ (List.mem_append_right _ (List.mem_append_right _ (List.mem_append_right _ (List.mem_append_right _ (List.mem_append_right _ (List.mem_append_right _ (List.mem_append_right _ (List.mem_append_right _ (List.mem_append_right _ (List.mem_append_right _ (List.mem_append_right _ (List.mem_append_right _ (List.mem_append_right _ (List.mem_append_right _ (List.mem_append_right _ (List.mem_append_right _ (List.mem_append_right _ (List.mem_append_right _ (List.mem_append_right _ (List.mem_append_right _ (List.mem_append_right _ (List.mem_append_right _ (List.mem_append_right _ (List.mem_append_left _ h))))))))))))))))))))))))))))))))))))))))))))))))))))))))))))))))))))))))))))))))
theorem zr65 : ∀ w ∈ wsL_law0_r65, w ∈ wsL_law := fun w h => zLaw0 w (List.mem_append_left _ (List.mem_append_left _ (List.mem_append_left _ (List.mem_append_left _ (List.mem_append_left _ (List.mem_append_left _ (List.mem_append_left _ (List.mem_append_left _ (List.mem_append_left _ (List.mem_append_left _ (List.mem_append_left _ (List.mem_append_left _ (List.mem_append_left _ (List.mem_append_left _ (List.mem_append_left _ (List.mem_append_left _ (List.mem_append_right _ (List.mem_append_right _ (List.mem_append_right _ (List.mem_append_right _ (List.mem_append_right _ (List.mem_append_right _ (List.mem_append_right _ (List.mem_append_right _ (List.mem_append_right _ (List.mem_append_right _ (List.mem_append_right _ (List.mem_append_right _ (List.mem_append_right _ (List.mem_append_right _ (List.mem_append_right _ (List.mem_append_right _ (List.mem_append_right _ (List.mem_append_right _ (List.mem_append_right _ (List.mem_append_right _ (List.mem_append_right _ (List.mem_append_right _ (List.mem_append_right _ (List.mem_append_right _ (List.mem_append_right _ (List.mem_append_right _ (List.mem_append_right _ (List.mem_append_right _ (List.mem_append_right _ (List.mem_append_right _ (List.mem_append_right _ (List.mem_append_right _ (List.mem_append_right _ (List.mem_append_right _ (List.mem_append_right _ (List.mem_append_right _ (List.mem_append_right _ (List.mem_append_right _ (List.mem_append_right _ (List.mem_append_right _ (List.mem_append_right _ (List.mem_append_right _ (List.mem_append_right _ (List.mem_append_right _ (List.mem_append_right _ (List.mem_append_right _ (List.mem_append_right _ (List.mem_append_right _ (List.mem_append_right _ (List.mem_append_right _ (List.mem_append_right _ (List.mem_append_right _ (List.mem_append_right _ (List.mem_append_right _ (List.mem_append_right _ (List.mem_append_right _ (List.mem_append_right _ (List.mem_append_right _ (List.mem_append_right _ (List.mem_append_right _ (List.mem_append_right _ (List.mem_append_right _ (List.mem_append_right _ (List.mem_append_right _ (List.mem_append_left _ h)))))))))))))))))))))))))))))))))))))))))))))))))))))))))))))))))))))))))))))))))
theorem zr66 : ∀ w ∈ wsL_law0_r66, w ∈ wsL_law := fun w h => zLaw0 w (List.mem_append_left _ (List.mem_append_left _ (List.mem_append_left _ (List.mem_append_left _ (List.mem_append_left _ (List.mem_append_left _ (List.mem_append_left _ (List.mem_append_left _ (List.mem_append_left _ (List.mem_append_left _ (List.mem_append_left _ (List.mem_append_left _ (List.mem_append_left _ (List.mem_append_left _ (List.mem_append_left _ (List.mem_append_left _ (List.mem_append_right _ (List.mem_append_right _ (List.mem_append_right _ (List.mem_append_right _ (List.mem_append_right _ (List.mem_append_right _ (List.mem_append_right _ (List.mem_append_right _ (List.mem_append_right _ (List.mem_append_right _ (List.mem_append_right _ (List.mem_append_right _ (List.mem_append_right _ (List.mem_append_right _ (List.mem_append_right _ (List.mem_append_right _ (List.mem_append_right _ (List.mem_append_right _ (List.mem_append_right _ (List.mem_append_right _ (List.mem_append_right _ (List.mem_append_right _ (List.mem_append_right _ (List.mem_append_right _ (List.mem_append_right _ (List.mem_append_right _ (List.mem_append_right _ (List.mem_append_right _ (List.mem_append_right _ (List.mem_append_right _ (List.mem_append_right _ (List.mem_append_right _ (List.mem_append_right _ (List.mem_append_right _ (List.mem_append_right _ (List.mem_append_right _ (List.mem_append_right _ (List.mem_append_right _ (List.mem_append_right _ (List.mem_append_right _ (List.mem_append_right _ (List.mem_append_right _ (List.mem_append_right _ (List.mem_append_right _ (List.mem_append_right _ (List.mem_append_right _ (List.mem_append_right _ (List.mem_append_right _ (List.mem_append_right _ (List.mem_append_right _ (List.mem_append_right _ (List.mem_append_right _ (List.mem_append_right _ (List.mem_append_right _ (List.mem_append_right _ (List.mem_append_right _ (List.mem_append_right _ (List.mem_append_right _ (List.mem_append_right _ (List.mem_append_right _ (List.mem_append_right _ (List.mem_append_right _ (List.mem_append_right _ (List.mem_append_right _ (List.mem_append_right _ (List.mem_append_left _ h))))))))))))))))))))))))))))))))))))))))))))))))))))))))))))))))))))))))))))))))))
theorem zr67 : ∀ w ∈ wsL_law0_r67, w ∈ wsL_law := fun w h => zLaw0 w (List.mem_append_left _ (List.mem_append_left _ (List.mem_append_left _ (List.mem_append_left _ (List.mem_append_left _ (List.mem_append_left _ (List.mem_append_left _ (List.mem_append_left _ (List.mem_append_left _ (List.mem_append_left _ (List.mem_append_left _ (List.mem_append_left _ (List.mem_append_left _ (List.mem_append_left _ (List.mem_append_left _ (List.mem_append_left _ (List.mem_append_right _ (List.mem_append_right _ (List.mem_append_right _ (List.mem_append_right _ (List.mem_append_right _ (List.mem_append_right _ (List.mem_append_right _ (List.mem_append_right _ (List.mem_append_right _ (List.mem_append_right _ (List.mem_append_right _ (List.mem_append_right _ (List.mem_append_right _ (List.mem_append_right _ (List.mem_append_right _ (List.mem_append_right _ (List.mem_append_right _ (List.mem_append_right _ (List.mem_append_right _ (List.mem_append_right _ (List.mem_append_right _ (List.mem_append_right _ (List.mem_append_right _ (List.mem_append_right _ (List.mem_append_right _ (List.mem_append_right _ (List.mem_append_right _ (List.mem_append_right _ (List.mem_append_right _ (List.mem_append_right _ (List.mem_append_right _ (List.mem_append_right _ (List.mem_append_right _ (List.mem_append_right _ (List.mem_append_right _ (List.mem_append_right _ (List.mem_append_right _ (List.mem_append_right _ (List.mem_append_right _ (List.mem_append_right _ (List.mem_append_right _ (List.mem_append_right _ (List.mem_append_right _ (List.mem_append_right _ (List.mem_append_right _ (List.mem_append_right _ (List.mem_append_right _ (List.mem_append_right _ (List.mem_append_right _ (List.mem_append_right _ (List.mem_append_right _ (List.mem_append_right _ (List.mem_append_right _ (List.mem_append_right _ (List.mem_append_right _ (List.mem_append_right _ (List.mem_append_right _ (List.mem_append_right _ (List.mem_append_right _ (List.mem_append_right _ (List.mem_append_right _ (List.mem_append_right _ (List.mem_append_right _ (List.mem_append_right _ (List.mem_append_right _ (List.mem_append_right _ (List.mem_append_left _ h)))))))))))))))))))))))))))))))))))))))))))))))))))))))))))))))))))))))))))))))))))
theorem zr68 : ∀ w ∈ wsL_law0_r68, w ∈ wsL_law := fun w h => zLaw0 w (List.mem_append_left _ (List.mem_append_left _ (List.mem_append_left _ (List.mem_append_left _ (List.mem_append_left _ (List.mem_append_left _ (List.mem_append_left _ (List.mem_append_left _ (List.mem_append_left _ (List.mem_append_left _ (List.mem_append_left _ (List.mem_append_left _ (List.mem_append_left _ (List.mem_append_left _ (List.mem_append_left _ (List.mem_append_left _ (List.mem_append_right _ (List.mem_append_right _ (List.mem_append_right _ (List.mem_append_right _ (List.mem_append_right _ (List.mem_append_right _ (List.mem_append_right _ (List.mem_append_right _ (List.mem_append_right _ (List.mem_append_right _ (List.mem_append_right _ (List.mem_append_right _ (List.mem_append_right _ (List.mem_append_right _ (List.mem_append_right _ (List.mem_append_right _ (List.mem_append_right _ (List.mem_append_right _ (List.mem_append_right _ (List.mem_append_right _ (List.mem_append_right _ (List.mem_append_right _ (List.mem_append_right _ (List.mem_append_right _ (List.mem_append_right _ (List.mem_append_right _ (List.mem_append_right _ (List.mem_append_right _ (List.mem_append_right _ (List.mem_append_right _ (List.mem_append_right _ (List.mem_append_right _ (List.mem_append_right _ (List.mem_append_right _ (List.mem_append_right _ (List.mem_append_right _ (List.mem_append_right _ (List.mem_append_right _ (List.mem_append_right _ (List.mem_append_right _ (List.mem_append_right _ (List.mem_append_right _ (List.mem_append_right _ (List.mem_append_right _ (List.mem_append_right _ (List.mem_append_right _ (List.mem_append_right _ (List.mem_append_right _ (List.mem_append_right _ (List.mem_append_right _ (List.mem_append_right _ (List.mem_append_right _ (List.mem_append_right _ (List.mem_append_right _ (List.mem_append_right _ (List.mem_append_right _ (List.mem_append_right _ (List.mem_append_right _ (List.mem_append_right _ (List.mem_append_right _ (List.mem_append_right _ (List.mem_append_right _ (List.mem_append_right _ (List.mem_append_right _ (List.mem_append_right _ (List.mem_append_right _ (List.mem_append_right _ (List.mem_append_left _ h))))))))))))))))))))))))))))))))))))))))))))))))))))))))))))))))))))))))))))))))))))
theorem zr69 : ∀ w ∈ wsL_law0_r69, w ∈ wsL_law := fun w h => zLaw0 w (List.mem_append_left _ (List.mem_append_left _ (List.mem_append_left _ (List.mem_append_left _ (List.mem_append_left _ (List.mem_append_left _ (List.mem_append_left _ (List.mem_append_left _ (List.mem_append_left _ (List.mem_append_left _ (List.mem_append_left _ (List.mem_append_left _ (List.mem_append_left _ (List.mem_append_left _ (List.mem_append_left _ (List.mem_append_left _ (List.mem_append_right _ (List.mem_append_right _ (List.mem_append_right _ (List.mem_append_right _ (List.mem_append_right _ (List.mem_append_right _ (List.mem_append_right _ (List.mem_append_right _ (List.mem_append_right _ (List.mem_append_right _ (List.mem_append_right _ (List.mem_append_right _ (List.mem_append_right _ (List.mem_append_right _ (List.mem_append_right _ (List.mem_append_right _ (List.mem_append_right _ (List.mem_append_right _ (List.mem_append_right _ (List.mem_append_right _ (List.mem_append_right _ (List.mem_append_right _ (List.mem_append_right _ (List.mem_append_right _ (List.mem_append_right _ (List.mem_append_right _ (List.mem_append_right _ (List.mem_append_right _ (List.mem_append_right _ (List.mem_append_right _ (List.mem_append_right _ (List.mem_append_right _ (List.mem_append_right _ (List.mem_append_right _ (List.mem_append_right _ (List.mem_append_right _ (List.mem_append_right _ (List.mem_append_right _ (List.mem_append_right _ (List.mem_append_right _ (List.mem_append_right _ (List.mem_append_right _ (List.mem_append_right _ (List.mem_append_right _ (List.mem_append_right _ (List.mem_append_right _ (List.mem_append_right _ (List.mem_append_right _ (List.mem_append_right _ (List.mem_append_right _ (List.mem_append_right _ (List.mem_append_right _ (List.mem_append_right _ (List.mem_append_right _ (List.mem_append_right _ (List.mem_append_right _ (List.mem_append_right _ (List.mem_append_right _ (List.mem_append_right _ (List.mem_append_right _ (List.mem_append_right _ (List.mem_append_right _ (List.mem_append_right _ (List.mem_append_right _ (List.mem_append_right _ (List.mem_append_right _ (List.mem_append_right _ (List.mem_append_right _ (List.mem_append_left _ h)))))))))))))))))))))))))))))))))))))))))))))))))))))))))))))))))))))))))))))))))))))
theorem zr70 : ∀ w ∈ wsL_law0_r70, w ∈ wsL_law := fun w h => zLaw0 w (List.mem_append_left _ (List.mem_append_left _ (List.mem_append_left _ (List.mem_append_left _ (List.mem_append_left _ (List.mem_append_left _ (List.mem_append_left _ (List.mem_append_left _ (List.mem_append_left _ (List.mem_append_left _ (List.mem_append_left _ (List.mem_append_left _ (List.mem_append_left _ (List.mem_append_left _ (List.mem_append_left _ (List.mem_append_left _ (List.mem_append_right _ (List.mem_append_right _ (List.mem_append_right _ (List.mem_append_right _ (List.mem_append_right _ (List.mem_append_right _ (List.mem_append_right _ (List.mem_append_right _ (List.mem_append_right _ (List.mem_append_right _ (List.mem_append_right _ (List.mem_append_right _ (List.mem_append_right _ (List.mem_append_right _ (List.mem_append_right _ (List.mem_append_right _ (List.mem_append_right _ (List.mem_append_right _ (List.mem_append_right _ (List.mem_append_right _ (List.mem_append_right _ (List.mem_append_right _ (List.mem_append_right _ (List.mem_append_right _ (List.mem_append_right _ (List.mem_append_right _ (List.mem_append_right _ (List.mem_append_right _ (List.mem_append_right _ (List.mem_append_right _ (List.mem_append_right _ (List.mem_append_right _ (List.mem_append_right _ (List.mem_append_right _ (List.mem_append_right _ (List.mem_append_right _ (List.mem_append_right _ (List.mem_append_right _ (List.mem_append_right _ (List.mem_append_right _ (List.mem_append_right _ (List.mem_append_right _ (List.mem_append_right _ (List.mem_append_right _ (List.mem_append_right _ (List.mem_append_right _ (List.mem_append_right _ (List.mem_append_right _ (List.mem_append_right _ (List.mem_append_right _ (List.mem_append_right _ (List.mem_append_right _ (List.mem_append_right _ (List.mem_append_right _ (List.mem_append_right _ (List.mem_append_right _ (List.mem_append_right _ (List.mem_append_right _ (List.mem_append_right _ (List.mem_append_right _ (List.mem_append_right _ (List.mem_append_right _ (List.mem_append_right _ (List.mem_append_right _ (List.mem_append_right _ (List.mem_append_right _ (List.mem_append_right _ (List.mem_append_right _ (List.mem_append_right _ (List.mem_append_left _ h))))))))))))))))))))))))))))))))))))))))))))))))))))))))))))))))))))))))))))))))))))))
theorem zr71 : ∀ w ∈ wsL_law0_r71, w ∈ wsL_law := fun w h => zLaw0 w (List.mem_append_left _ (List.mem_append_left _ (List.mem_append_left _ (List.mem_append_left _ (List.mem_append_left _ (List.mem_append_left _ (List.mem_append_left _ (List.mem_append_left _ (List.mem_append_left _ (List.mem_append_left _ (List.mem_append_left _ (List.mem_append_left _ (List.mem_append_left _ (List.mem_append_left _ (List.mem_append_left _ (List.mem_append_left _ (List.mem_append_right _ (List.mem_append_right _ (List.mem_append_right _ (List.mem_append_right _ (List.mem_append_right _ (List.mem_append_right _ (List.mem_append_right _ (List.mem_append_right _ (List.mem_append_right _ (List.mem_append_right _ (List.mem_append_right _ (List.mem_append_right _ (List.mem_append_right _ (List.mem_append_right _ (List.mem_append_right _ (List.mem_append_right _ (List.mem_append_right _ (List.mem_append_right _ (List.mem_append_right _ (List.mem_append_right _ (List.mem_append_right _ (List.mem_append_right _ (List.mem_append_right _ (List.mem_append_right _ (List.mem_append_right _ (List.mem_append_right _ (List.mem_append_right _ (List.mem_append_right _ (List.mem_append_right _ (List.mem_append_right _ (List.mem_append_right _ (List.mem_append_right _ (List.mem_append_right _ (List.mem_append_right _ (List.mem_append_right _ (List.mem_append_right _ (List.mem_append_right _ (List.mem_append_right _ (List.mem_append_right _ (List.mem_append_right _ (List.mem_append_right _ (List.mem_append_right _ (List.mem_append_right _ (List.mem_append_right _ (List.mem_append_right _ (List.mem_append_right _ (List.mem_append_right _ (List.mem_append_right _ (List.mem_append_right _ (List.mem_append_right _ (List.mem_append_right _ (List.mem_append_right _ (List.mem_append_right _ (List.mem_append_right _ (List.mem_append_right _ (List.mem_append_right _ (List.mem_append_right _ (List.mem_append_right _ (List.mem_append_right _ (List.mem_append_right _ (List.mem_append_right _ (List.mem_append_right _ (List.mem_append_right _ (List.mem_append_right _ (List.mem_append_right _ (List.mem_append_right _ (List.mem_append_right _ (List.mem_append_right _ (List.mem_append_right _ (List.mem_append_right _ (List.mem_append_left _ h)))))))))))))))))))))))))))))))))))))))))))))))))))))))))))))))))))))))))))))))))))))))
theorem zr72 : ∀ w ∈ wsL_law0_r72, w ∈ wsL_law := fun w h => zLaw0 w (List.mem_append_left _ (List.mem_append_left _ (List.mem_append_left _ (List.mem_append_left _ (List.mem_append_left _ (List.mem_append_left _ (List.mem_append_left _ (List.mem_append_left _ (List.mem_append_left _ (List.mem_append_left _ (List.mem_append_left _ (List.mem_append_left _ (List.mem_append_left _ (List.mem_append_left _ (List.mem_append_left _ (List.mem_append_left _ (List.mem_append_right _ (List.mem_append_right _ (List.mem_append_right _ (List.mem_append_right _ (List.mem_append_right _ (List.mem_append_right _ (List.mem_append_right _ (List.mem_append_right _ (List.mem_append_right _ (List.mem_append_right _ (List.mem_append_right _ (List.mem_append_right _ (List.mem_append_right _ (List.mem_append_right _ (List.mem_append_right _ (List.mem_append_right _ (List.mem_append_right _ (List.mem_append_right _ (List.mem_append_right _ (List.mem_append_right _ (List.mem_append_right _ (List.mem_append_right _ (List.mem_append_right _ (List.mem_append_right _ (List.mem_append_right _ (List.mem_append_right _ (List.mem_append_right _ (List.mem_append_right _ (List.mem_append_right _ (List.mem_append_right _ (List.mem_append_right _ (List.mem_append_right _ (List.mem_append_right _ (List.mem_append_right _ (List.mem_append_right _ (List.mem_append_right _ (List.mem_append_right _ (List.mem_append_right _ (List.mem_append_right _ (List.mem_append_right _ (List.mem_append_right _ (List.mem_append_right _ (List.mem_append_right _ (List.mem_append_right _ (List.mem_append_right _ (List.mem_append_right _ (List.mem_append_right _ (List.mem_append_right _ (List.mem_append_right _ (List.mem_append_right _ (List.mem_append_right _ (List.mem_append_right _ (List.mem_append_right _ (List.mem_append_right _ (List.mem_append_right _ (List.mem_append_right _ (List.mem_append_right _ (List.mem_append_right _ (List.mem_append_right _ (List.mem_append_right _ (List.mem_append_right _ (List.mem_append_right _ (List.mem_append_right _ (List.mem_append_right _ (List.mem_append_right _ (List.mem_append_right _ (List.mem_append_right _ (List.mem_append_right _ (List.mem_append_right _ (List.mem_append_right _ (List.mem_append_right _ (List.mem_append_left _ h))))))))))))))))))))))))))))))))))))))))))))))))))))))))))))))))))))))))))))))))))))))))
theorem zr73 : ∀ w ∈ wsL_law0_r73, w ∈ wsL_law := fun w h => zLaw0 w (List.mem_append_left _ (List.mem_append_left _ (List.mem_append_left _ (List.mem_append_left _ (List.mem_append_left _ (List.mem_append_left _ (List.mem_append_left _ (List.mem_append_left _ (List.mem_append_left _ (List.mem_append_left _ (List.mem_append_left _ (List.mem_append_left _ (List.mem_append_left _ (List.mem_append_left _ (List.mem_append_left _ (List.mem_append_left _ (List.mem_append_right _ (List.mem_append_right _ (List.mem_append_right _ (List.mem_append_right _ (List.mem_append_right _ (List.mem_append_right _ (List.mem_append_right _ (List.mem_append_right _ (List.mem_append_right _ (List.mem_append_right _ (List.mem_append_right _ (List.mem_append_right _ (List.mem_append_right _ (List.mem_append_right _ (List.mem_append_right _ (List.mem_append_right _ (List.mem_append_right _ (List.mem_append_right _ (List.mem_append_right _ (List.mem_append_right _ (List.mem_append_right _ (List.mem_append_right _ (List.mem_append_right _ (List.mem_append_right _ (List.mem_append_right _ (List.mem_append_right _ (List.mem_append_right _ (List.mem_append_right _ (List.mem_append_right _ (List.mem_append_right _ (List.mem_append_right _ (List.mem_append_right _ (List.mem_append_right _ (List.mem_append_right _ (List.mem_append_right _ (List.mem_append_right _ (List.mem_append_right _ (List.mem_append_right _ (List.mem_append_right _ (List.mem_append_right _ (List.mem_append_right _ (List.mem_append_right _ (List.mem_append_right _ (List.mem_append_right _ (List.mem_append_right _ (List.mem_append_right _ (List.mem_append_right _ (List.mem_append_right _ (List.mem_append_right _ (List.mem_append_right _ (List.mem_append_right _ (List.mem_append_right _ (List.mem_append_right _ (List.mem_append_right _ (List.mem_append_right _ (List.mem_append_right _ (List.mem_append_right _ (List.mem_append_right _ (List.mem_append_right _ (List.mem_append_right _ (List.mem_append_right _ (List.mem_append_right _ (List.mem_append_right _ (List.mem_append_right _ (List.mem_append_right _ (List.mem_append_right _ (List.mem_append_right _ (List.mem_append_right _ (List.mem_append_right _ (List.mem_append_right _ (List.mem_append_right _ (List.mem_append_right _ (List.mem_append_left _ h)))))))))))))))))))))))))))))))))))))))))))))))))))))))))))))))))))))))))))))))))))))))))
theorem zr74 : ∀ w ∈ wsL_law0_r74, w ∈ wsL_law := fun w h => zLaw0 w (List.mem_append_left _ (List.mem_append_left _ (List.mem_append_left _ (List.mem_append_left _ (List.mem_append_left _ (List.mem_append_left _ (List.mem_append_left _ (List.mem_append_left _ (List.mem_append_left _ (List.mem_append_left _ (List.mem_append_left _ (List.mem_append_left _ (List.mem_append_left _ (List.mem_append_left _ (List.mem_append_left _ (List.mem_append_left _ (List.mem_append_right _ (List.mem_append_right _ (List.mem_append_right _ (List.mem_append_right _ (List.mem_append_right _ (List.mem_append_right _ (List.mem_append_right _ (List.mem_append_right _ (List.mem_append_right _ (List.mem_append_right _ (List.mem_append_right _ (List.mem_append_right _ (List.mem_append_right _ (List.mem_append_right _ (List.mem_append_right _ (List.mem_append_right _ (List.mem_append_right _ (List.mem_append_right _ (List.mem_append_right _ (List.mem_append_right _ (List.mem_append_right _ (List.mem_append_right _ (List.mem_append_right _ (List.mem_append_right _ (List.mem_append_right _ (List.mem_append_right _ (List.mem_append_right _ (List.mem_append_right _ (List.mem_append_right _ (List.mem_append_right _ (List.mem_append_right _ (List.mem_append_right _ (List.mem_append_right _ (List.mem_append_right _ (List.mem_append_right _ (List.mem_append_right _ (List.mem_append_right _ (List.mem_append_right _ (List.mem_append_right _ (List.mem_append_right _ (List.mem_append_right _ (List.mem_append_right _ (List.mem_append_right _ (List.mem_append_right _ (List.mem_append_right _ (List.mem_append_right _ (List.mem_append_right _ (List.mem_append_right _ (List.mem_append_right _ (List.mem_append_right _ (List.mem_append_right _ (List.mem_append_right _ (List.mem_append_right _ (List.mem_append_right _ (List.mem_append_right _ (List.mem_append_right _ (List.mem_append_right _ (List.mem_append_right _ (List.mem_append_right _ (List.mem_append_right _ (List.mem_append_right _ (List.mem_append_right _ (List.mem_append_right _ (List.mem_append_right _ (List.mem_append_right _ (List.mem_append_right _ (List.mem_append_right _ (List.mem_append_right _ (List.mem_append_right _ (List.mem_append_right _ (List.mem_append_right _ (List.mem_append_right _ (List.mem_append_right _ (List.mem_append_left _ h))))))))))))))))))))))))))))))))))))))))))))))))))))))))))))))))))))))))))))))))))))))))))
theorem zr75 : ∀ w ∈ wsL_law0_r75, w ∈ wsL_law := fun w h => zLaw0 w (List.mem_append_left _ (List.mem_append_left _ (List.mem_append_left _ (List.mem_append_left _ (List.mem_append_left _ (List.mem_append_left _ (List.mem_append_left _ (List.mem_append_left _ (List.mem_append_left _ (List.mem_append_left _ (List.mem_append_left _ (List.mem_append_left _ (List.mem_append_left _ (List.mem_append_left _ (List.mem_append_left _ (List.mem_append_left _ (List.mem_append_right _ (List.mem_append_right _ (List.mem_append_right _ (List.mem_append_right _ (List.mem_append_right _ (List.mem_append_right _ (List.mem_append_right _ (List.mem_append_right _ (List.mem_append_right _ (List.mem_append_right _ (List.mem_append_right _ (List.mem_append_right _ (List.mem_append_right _ (List.mem_append_right _ (List.mem_append_right _ (List.mem_append_right _ (List.mem_append_right _ (List.mem_append_right _ (List.mem_append_right _ (List.mem_append_right _ (List.mem_append_right _ (List.mem_append_right _ (List.mem_append_right _ (List.mem_append_right _ (List.mem_append_right _ (List.mem_append_right _ (List.mem_append_right _ (List.mem_append_right _ (List.mem_append_right _ (List.mem_append_right _ (List.mem_append_right _ (List.mem_append_right _ (List.mem_append_right _ (List.mem_append_right _ (List.mem_append_right _ (List.mem_append_right _ (List.mem_append_right _ (List.mem_append_right _ (List.mem_append_right _ (List.mem_append_right _ (List.mem_append_right _ (List.mem_append_right _ (List.mem_append_right _ (List.mem_append_right _ (List.mem_append_right _ (List.mem_append_right _ (List.mem_append_right _ (List.mem_append_right _ (List.mem_append_right _ (List.mem_append_right _ (List.mem_append_right _ (List.mem_append_right _ (List.mem_append_right _ (List.mem_append_right _ (List.mem_append_right _ (List.mem_append_right _ (List.mem_append_right _ (List.mem_append_right _ (List.mem_append_right _ (List.mem_append_right _ (List.mem_append_right _ (List.mem_append_right _ (List.mem_append_right _ (List.mem_append_right _ (List.mem_append_right _ (List.mem_append_right _ (List.mem_append_right _ (List.mem_append_right _ (List.mem_append_right _ (List.mem_append_right _ (List.mem_append_right _ (List.mem_append_right _ (List.mem_append_right _ (List.mem_append_right _ (List.mem_append_left _ h)))))))))))))))))))))))))))))))))))))))))))))))))))))))))))))))))))))))))))))))))))))))))))
theorem zr76 : ∀ w ∈ wsL_law0_r76, w ∈ wsL_law := fun w h => zLaw0 w (List.mem_append_left _ (List.mem_append_left _ (List.mem_append_left _ (List.mem_append_left _ (List.mem_append_left _ (List.mem_append_left _ (List.mem_append_left _ (List.mem_append_left _ (List.mem_append_left _ (List.mem_append_left _ (List.mem_append_left _ (List.mem_append_left _ (List.mem_append_left _ (List.mem_append_left _ (List.mem_append_left _ (List.mem_append_left _ (List.mem_append_right _ (List.mem_append_right _ (List.mem_append_right _ (List.mem_append_right _ (List.mem_append_right _ (List.mem_append_right _ (List.mem_append_right _ (List.mem_append_right _ (List.mem_append_right _ (List.mem_append_right _ (List.mem_append_right _ (List.mem_append_right _ (List.mem_append_right _ (List.mem_append_right _ (List.mem_append_right _ (List.mem_append_right _ (List.mem_append_right _ (List.mem_append_right _ (List.mem_append_right _ (List.mem_append_right _ (List.mem_append_right _ (List.mem_append_right _ (List.mem_append_right _ (List.mem_append_right _ (List.mem_append_right _ (List.mem_append_right _ (List.mem_append_right _ (List.mem_append_right _ (List.mem_append_right _ (List.mem_append_right _ (List.mem_append_right _ (List.mem_append_right _ (List.mem_append_right _ (List.mem_append_right _ (List.mem_append_right _ (List.mem_append_right _ (List.mem_append_right _ (List.mem_append_right _ (List.mem_append_right _ (List.mem_append_right _ (List.mem_append_right _ (List.mem_append_right _ (List.mem_append_right _ (List.mem_append_right _ (List.mem_append_right _ (List.mem_append_right _ (List.mem_append_right _ (List.mem_append_right _ (List.mem_append_right _ (List.mem_append_right _ (List.mem_append_right _ (List.mem_append_right _ (List.mem_append_right _ (List.mem_append_right _ (List.mem_append_right _ (List.mem_append_right _ (List.mem_append_right _ (List.mem_append_right _ (List.mem_append_right _ (List.mem_append_right _ (List.mem_append_right _ (List.mem_append_right _ (List.mem_append_right _ (List.mem_append_right _ (List.mem_append_right _ (List.mem_append_right _ (List.mem_append_right _ (List.mem_append_right _ (List.mem_append_right _ (List.mem_append_right _ (List.mem_append_right _ (List.mem_append_right _ (List.mem_append_right _ (List.mem_append_right _ (List.mem_append_right _ (List.mem_append_left _ h))))))))))))))))))))))))))))))))))))))))))))))))))))))))))))))))))))))))))))))))))))))))))))
theorem zr77 : ∀ w ∈ wsL_law0_r77, w ∈ wsL_law := fun w h => zLaw0 w (List.mem_append_left _ (List.mem_append_left _ (List.mem_append_left _ (List.mem_append_left _ (List.mem_append_left _ (List.mem_append_left _ (List.mem_append_left _ (List.mem_append_left _ (List.mem_append_left _ (List.mem_append_left _ (List.mem_append_left _ (List.mem_append_left _ (List.mem_append_left _ (List.mem_append_left _ (List.mem_append_left _ (List.mem_append_left _ (List.mem_append_right _ (List.mem_append_right _ (List.mem_append_right _ (List.mem_append_right _ (List.mem_append_right _ (List.mem_append_right _ (List.mem_append_right _ (List.mem_append_right _ (List.mem_append_right _ (List.mem_append_right _ (List.mem_append_right _ (List.mem_append_right _ (List.mem_append_right _ (List.mem_append_right _ (List.mem_append_right _ (List.mem_append_right _ (List.mem_append_right _ (List.mem_append_right _ (List.mem_append_right _ (List.mem_append_right _ (List.mem_append_right _ (List.mem_append_right _ (List.mem_append_right _ (List.mem_append_right _ (List.mem_append_right _ (List.mem_append_right _ (List.mem_append_right _ (List.mem_append_right _ (List.mem_append_right _ (List.mem_append_right _ (List.mem_append_right _ (List.mem_append_right _ (List.mem_append_right _ (List.mem_append_right _ (List.mem_append_right _ (List.mem_append_right _ (List.mem_append_right _ (List.mem_append_right _ (List.mem_append_right _ (List.mem_append_right _ (List.mem_append_right _ (List.mem_append_right _ (List.mem_append_right _ (List.mem_append_right _ (List.mem_append_right _ (List.mem_append_right _ (List.mem_append_right _ (List.mem_append_right _ (List.mem_append_right _ (List.mem_append_right _ (List.mem_append_right _ (List.mem_append_right _ (List.mem_append_right _ (List.mem_append_right _ (List.mem_append_right _ (List.mem_append_right _ (List.mem_append_right _ (List.mem_append_right _ (List.mem_append_right _ (List.mem_append_right _ (List.mem_append_right _ (List.mem_append_right _ (List.mem_append_right _ (List.mem_append_right _ (List.mem_append_right _ (List.mem_append_right _ (List.mem_append_right _ (List.mem_append_right _ (List.mem_append_right _ (List.mem_append_right _ (List.mem_append_right _ (List.mem_append_right _ (List.mem_append_right _ (List.mem_append_right _ (List.mem_append_right _ (List.mem_append_right _ (List.mem_append_left _ h)))))))))))))))))))))))))))))))))))))))))))))))))))))))))))))))))))))))))))))))))))))))))))))
theorem zr78 : ∀ w ∈ wsL_law0_r78, w ∈ wsL_law := fun w h => zLaw0 w (List.mem_append_left _ (List.mem_append_left _ (List.mem_append_left _ (List.mem_append_left _ (List.mem_append_left _ (List.mem_append_left _ (List.mem_append_left _ (List.mem_append_left _ (List.mem_append_left _ (List.mem_append_left _ (List.mem_append_left _ (List.mem_append_left _ (List.mem_append_left _ (List.mem_append_left _ (List.mem_append_left _ (List.mem_append_left _ (List.mem_append_right _ (List.mem_append_right _ (List.mem_append_right _ (List.mem_append_right _ (List.mem_append_right _ (List.mem_append_right _ (List.mem_append_right _ (List.mem_append_right _ (List.mem_append_right _ (List.mem_append_right _ (List.mem_append_right _ (List.mem_append_right _ (List.mem_append_right _ (List.mem_append_right _ (List.mem_append_right _ (List.mem_append_right _ (List.mem_append_right _ (List.mem_append_right _ (List.mem_append_right _ (List.mem_append_right _ (List.mem_append_right _ (List.mem_append_right _ (List.mem_append_right _ (List.mem_append_right _ (List.mem_append_right _ (List.mem_append_right _ (List.mem_append_right _ (List.mem_append_right _ (List.mem_append_right _ (List.mem_append_right _ (List.mem_append_right _ (List.mem_append_right _ (List.mem_append_right _ (List.mem_append_right _ (List.mem_append_right _ (List.mem_append_right _ (List.mem_append_right _ (List.mem_append_right _ (List.mem_append_right _ (List.mem_append_right _ (List.mem_append_right _ (List.mem_append_right _ (List.mem_append_right _ (List.mem_append_right _ (List.mem_append_right _ (List.mem_append_right _ (List.mem_append_right _ (List.mem_append_right _ (List.mem_append_right _ (List.mem_append_right _ (List.mem_append_right _ (List.mem_append_right _ (List.mem_append_right _ (List.mem_append_right _ (List.mem_append_right _ (List.mem_append_right _ (List.mem_append_right _ (List.mem_append_right _ (List.mem_append_right _ (List.mem_append_right _ (List.mem_append_right _ (List.mem_append_right _ (List.mem_append_right _ (List.mem_append_right _ (List.mem_append_right _ (List.mem_append_right _ (List.mem_append_right _ (List.mem_append_right _ (List.mem_append_right _ (List.mem_append_right _ (List.mem_append_right _ (List.mem_append_right _ (List.mem_append_right _ (List.mem_append_right _ (List.mem_append_right _ (List.mem_append_right _ (List.mem_append_right _ (List.mem_append_left _ h))))))))))))))))))))))))))))))))))))))))))))))))))))))))))))))))))))))))))))))))))))))))))))))
theorem zr79 : ∀ w ∈ wsL_law0_r79, w ∈ wsL_law := fun w h => zLaw0 w (List.mem_append_left _ (List.mem_append_left _ (List.mem_append_left _ (List.mem_append_left _ (List.mem_append_left _ (List.mem_append_left _ (List.mem_append_left _ (List.mem_append_left _ (List.mem_append_left _ (List.mem_append_left _ (List.mem_append_left _ (List.mem_append_left _ (List.mem_append_left _ (List.mem_append_left _ (List.mem_append_left _ (List.mem_append_left _ (List.mem_append_right _ (List.mem_append_right _ (List.mem_append_right _ (List.mem_append_right _ (List.mem_append_right _ (List.mem_append_right _ (List.mem_append_right _ (List.mem_append_right _ (List.mem_append_right _ (List.mem_append_right _ (List.mem_append_right _ (List.mem_append_right _ (List.mem_append_right _ (List.mem_append_right _ (List.mem_append_right _ (List.mem_append_right _ (List.mem_append_right _ (List.mem_append_right _ (List.mem_append_right _ (List.mem_append_right _ (List.mem_append_right _ (List.mem_append_right _ (List.mem_append_right _ (List.mem_append_right _ (List.mem_append_right _ (List.mem_append_right _ (List.mem_append_right _ (List.mem_append_right _ (List.mem_append_right _ (List.mem_append_right _ (List.mem_append_right _ (List.mem_append_right _ (List.mem_append_right _ (List.mem_append_right _ (List.mem_append_right _ (List.mem_append_right _ (List.mem_append_right _ (List.mem_append_right _ (List.mem_append_right _ (List.mem_append_right _ (List.mem_append_right _ (List.mem_append_right _ (List.mem_append_right _ (List.mem_append_right _ (List.mem_append_right _ (List.mem_append_right _ (List.mem_append_right _ (List.mem_append_right _ (List.mem_append_right _ (List.mem_append_right _ (List.mem_append_right _ (List.mem_append_right _ (List.mem_append_right _ (List.mem_append_right _ (List.mem_append_right _ (List.mem_append_right _ (List.mem_append_right _ (List.mem_append_right _ (List.mem_append_right _ (List.mem_append_right _ (List.mem_append_right _ (List.mem_append_right _ (List.mem_append_right _ (List.mem_append_right _ (List.mem_append_right _ (List.mem_append_right _ (List.mem_append_right _ (List.mem_append_right _ (List.mem_append_right _ (List.mem_append_right _ (List.mem_append_right _ (List.mem_append_right _ (List.mem_append_right _ (List.mem_append_right _ (List.mem_append_right _ (List.mem_append_right _ (List.mem_append_right _ (List.mem_append_right _ (List.mem_append_left _ h)))))))))))))))))))))))))))))))))))))))))))))))))))))))))))))))))))))))))))))))))))))))))))))))
theorem zr80 : ∀ w ∈ wsL_law0_r80, w ∈ wsL_law := fun w h => zLaw0 w (List.mem_append_left _ (List.mem_append_left _ (List.mem_append_left _ (List.mem_append_left _ (List.mem_append_left _ (List.mem_append_left _ (List.mem_append_left _ (List.mem_append_left _ (List.mem_append_left _ (List.mem_append_left _ (List.mem_append_left _ (List.mem_append_left _ (List.mem_append_left _ (List.mem_append_left _ (List.mem_append_left _ (List.mem_append_left _ (List.mem_append_right _ (List.mem_append_right _ (List.mem_append_right _ (List.mem_append_right _ (List.mem_append_right _ (List.mem_append_right _ (List.mem_append_right _ (List.mem_append_right _ (List.mem_append_right _ (List.mem_append_right _ (List.mem_append_right _ (List.mem_append_right _ (List.mem_append_right _ (List.mem_append_right _ (List.mem_append_right _ (List.mem_append_right _ (List.mem_append_right _ (List.mem_append_right _ (List.mem_append_right _ (List.mem_append_right _ (List.mem_append_right _ (List.mem_append_right _ (List.mem_append_right _ (List.mem_append_right _ (List.mem_append_right _ (List.mem_append_right _ (List.mem_append_right _ (List.mem_append_right _ (List.mem_append_right _ (List.mem_append_right _ (List.mem_append_right _ (List.mem_append_right _ (List.mem_append_right _ (List.mem_append_right _ (List.mem_append_right _ (List.mem_append_right _ (List.mem_append_right _ (List.mem_append_right _ (List.mem_append_right _ (List.mem_append_right _ (List.mem_append_right _ (List.mem_append_right _ (List.mem_append_right _ (List.mem_append_right _ (List.mem_append_right _ (List.mem_append_right _ (List.mem_append_right _ (List.mem_append_right _ (List.mem_append_right _ (List.mem_append_right _ (List.mem_append_right _ (List.mem_append_right _ (List.mem_append_right _ (List.mem_append_right _ (List.mem_append_right _ (List.mem_append_right _ (List.mem_append_right _ (List.mem_append_right _ (List.mem_append_right _ (List.mem_append_right _ (List.mem_append_right _ (List.mem_append_right _ (List.mem_append_right _ (List.mem_append_right _ (List.mem_append_right _ (List.mem_append_right _ (List.mem_append_right _ (List.mem_append_right _ (List.mem_append_right _ (List.mem_append_right _ (List.mem_append_right _ (List.mem_append_right _ (List.mem_append_right _ (List.mem_append_right _ (List.mem_append_right _ (List.mem_append_right _ (List.mem_append_right _ (List.mem_append_right _ (List.mem_append_right _ (List.mem_append_left _ h))))))))))))))))))))))))))))))))))))))))))))))))))))))))))))))))))))))))))))))))))))))))))))))))
theorem zr81 : ∀ w ∈ wsL_law0_r81, w ∈ wsL_law := fun w h => zLaw0 w (List.mem_append_left _ (List.mem_append_left _ (List.mem_append_left _ (List.mem_append_left _ (List.mem_append_left _ (List.mem_append_left _ (List.mem_append_left _ (List.mem_append_left _ (List.mem_append_left _ (List.mem_append_left _ (List.mem_append_left _ (List.mem_append_left _ (List.mem_append_left _ (List.mem_append_left _ (List.mem_append_left _ (List.mem_append_left _ (List.mem_append_right _ (List.mem_append_right _ (List.mem_append_right _ (List.mem_append_right _ (List.mem_append_right _ (List.mem_append_right _ (List.mem_append_right _ (List.mem_append_right _ (List.mem_append_right _ (List.mem_append_right _ (List.mem_append_right _ (List.mem_append_right _ (List.mem_append_right _ (List.mem_append_right _ (List.mem_append_right _ (List.mem_append_right _ (List.mem_append_right _ (List.mem_append_right _ (List.mem_append_right _ (List.mem_append_right _ (List.mem_append_right _ (List.mem_append_right _ (List.mem_append_right _ (List.mem_append_right _ (List.mem_append_right _ (List.mem_append_right _ (List.mem_append_right _ (List.mem_append_right _ (List.mem_append_right _ (List.mem_append_right _ (List.mem_append_right _ (List.mem_append_right _ (List.mem_append_right _ (List.mem_append_right _ (List.mem_append_right _ (List.mem_append_right _ (List.mem_append_right _ (List.mem_append_right _ (List.mem_append_right _ (List.mem_append_right _ (List.mem_append_right _ (List.mem_append_right _ (List.mem_append_right _ (List.mem_append_right _ (List.mem_append_right _ (List.mem_append_right _ (List.mem_append_right _ (List.mem_append_right _ (List.mem_append_right _ (List.mem_append_right _ (List.mem_append_right _ (List.mem_append_right _ (List.mem_append_right _ (List.mem_append_right _ (List.mem_append_right _ (List.mem_append_right _ (List.mem_append_right _ (List.mem_append_right _ (List.mem_append_right _ (List.mem_append_right _ (List.mem_append_right _ (List.mem_append_right _ (List.mem_append_right _ (List.mem_append_right _ (List.mem_append_right _ (List.mem_append_right _ (List.mem_append_right _ (List.mem_append_right _ (List.mem_append_right _ (List.mem_append_right _ (List.mem_append_right _ (List.mem_append_right _ (List.mem_append_right _ (List.mem_append_right _ (List.mem_append_right _ (List.mem_append_right _ (List.mem_append_right _ (List.mem_append_right _ (List.mem_append_right _ (List.mem_append_right _ (List.mem_append_left _ h)))))))))))))))))))))))))))))))))))))))))))))))))))))))))))))))))))))))))))))))))))))))))))))))))
theorem zr82 : ∀ w ∈ wsL_law0_r82, w ∈ wsL_law := fun w h => zLaw0 w (List.mem_append_left _ (List.mem_append_left _ (List.mem_append_left _ (List.mem_append_left _ (List.mem_append_left _ (List.mem_append_left _ (List.mem_append_left _ (List.mem_append_left _ (List.mem_append_left _ (List.mem_append_left _ (List.mem_append_left _ (List.mem_append_left _ (List.mem_append_left _ (List.mem_append_left _ (List.mem_append_left _ (List.mem_append_left _ (List.mem_append_right _ (List.mem_append_right _ (List.mem_append_right _ (List.mem_append_right _ (List.mem_append_right _ (List.mem_append_right _ (List.mem_append_right _ (List.mem_append_right _ (List.mem_append_right _ (List.mem_append_right _ (List.mem_append_right _ (List.mem_append_right _ (List.mem_append_right _ (List.mem_append_right _ (List.mem_append_right _ (List.mem_append_right _ (List.mem_append_right _ (List.mem_append_right _ (List.mem_append_right _ (List.mem_append_right _ (List.mem_append_right _ (List.mem_append_right _ (List.mem_append_right _ (List.mem_append_right _ (List.mem_append_right _ (List.mem_append_right _ (List.mem_append_right _ (List.mem_append_right _ (List.mem_append_right _ (List.mem_append_right _ (List.mem_append_right _ (List.mem_append_right _ (List.mem_append_right _ (List.mem_append_right _ (List.mem_append_right _ (List.mem_append_right _ (List.mem_append_right _ (List.mem_append_right _ (List.mem_append_right _ (List.mem_append_right _ (List.mem_append_right _ (List.mem_append_right _ (List.mem_append_right _ (List.mem_append_right _ (List.mem_append_right _ (List.mem_append_right _ (List.mem_append_right _ (List.mem_append_right _ (List.mem_append_right _ (List.mem_append_right _ (List.mem_append_right _ (List.mem_append_right _ (List.mem_append_right _ (List.mem_append_right _ (List.mem_append_right _ (List.mem_append_right _ (List.mem_append_right _ (List.mem_append_right _ (List.mem_append_right _ (List.mem_append_right _ (List.mem_append_right _ (List.mem_append_right _ (List.mem_append_right _ (List.mem_append_right _ (List.mem_append_right _ (List.mem_append_right _ (List.mem_append_right _ (List.mem_append_right _ (List.mem_append_right _ (List.mem_append_right _ (List.mem_append_right _ (List.mem_append_right _ (List.mem_append_right _ (List.mem_append_right _ (List.mem_append_right _ (List.mem_append_right _ (List.mem_append_right _ (List.mem_append_right _ (List.mem_append_right _ (List.mem_append_right _ (List.mem_append_right _ (List.mem_append_left _ h))))))))))))))))))))))))))))))))))))))))))))))))))))))))))))))))))))))))))))))))))))))))))))))))))
theorem zr83 : ∀ w ∈ wsL_law0_r83, w ∈ wsL_law := fun w h => zLaw0 w (List.mem_append_left _ (List.mem_append_left _ (List.mem_append_left _ (List.mem_append_left _ (List.mem_append_left _ (List.mem_append_left _ (List.mem_append_left _ (List.mem_append_left _ (List.mem_append_left _ (List.mem_append_left _ (List.mem_append_left _ (List.mem_append_left _ (List.mem_append_left _ (List.mem_append_left _ (List.mem_append_left _ (List.mem_append_left _ (List.mem_append_right _ (List.mem_append_right _ (List.mem_append_right _ (List.mem_append_right _ (List.mem_append_right _ (List.mem_append_right _ (List.mem_append_right _ (List.mem_append_right _ (List.mem_append_right _ (List.mem_append_right _ (List.mem_append_right _ (List.mem_append_right _ (List.mem_append_right _ (List.mem_append_right _ (List.mem_append_right _ (List.mem_append_right _ (List.mem_append_right _ (List.mem_append_right _ (List.mem_append_right _ (List.mem_append_right _ (List.mem_append_right _ (List.mem_append_right _ (List.mem_append_right _ (List.mem_append_right _ (List.mem_append_right _ (List.mem_append_right _ (List.mem_append_right _ (List.mem_append_right _ (List.mem_append_right _ (List.mem_append_right _ (List.mem_append_right _ (List.mem_append_right _ (List.mem_append_right _ (List.mem_append_right _ (List.mem_append_right _ (List.mem_append_right _ (List.mem_append_right _ (List.mem_append_right _ (List.mem_append_right _ (List.mem_append_right _ (List.mem_append_right _ (List.mem_append_right _ (List.mem_append_right _ (List.mem_append_right _ (List.mem_append_right _ (List.mem_append_right _ (List.mem_append_right _ (List.mem_append_right _ (List.mem_append_right _ (List.mem_append_right _ (List.mem_append_right _ (List.mem_append_right _ (List.mem_append_right _ (List.mem_append_right _ (List.mem_append_right _ (List.mem_append_right _ (List.mem_append_right _ (List.mem_append_right _ (List.mem_append_right _ (List.mem_append_right _ (List.mem_append_right _ (List.mem_append_right _ (List.mem_append_right _ (List.mem_append_right _ (List.mem_append_right _ (List.mem_append_right _ (List.mem_append_right _ (List.mem_append_right _ (List.mem_append_right _ (List.mem_append_right _ (List.mem_append_right _ (List.mem_append_right _ (List.mem_append_right _ (List.mem_append_right _ (List.mem_append_right _ (List.mem_append_right _ (List.mem_append_right _ (List.mem_append_right _ (List.mem_append_right _ (List.mem_append_right _ (List.mem_append_right _ (List.mem_append_right _ (List.mem_append_left _ h)))))))))))))))))))))))))))))))))))))))))))))))))))))))))))))))))))))))))))))))))))))))))))))))))))
theorem zr84 : ∀ w ∈ wsL_law0_r84, w ∈ wsL_law := fun w h => zLaw0 w (List.mem_append_left _ (List.mem_append_left _ (List.mem_append_left _ (List.mem_append_left _ (List.mem_append_left _ (List.mem_append_left _ (List.mem_append_left _ (List.mem_append_left _ (List.mem_append_left _ (List.mem_append_left _ (List.mem_append_left _ (List.mem_append_left _ (List.mem_append_left _ (List.mem_append_left _ (List.mem_append_left _ (List.mem_append_left _ (List.mem_append_right _ (List.mem_append_right _ (List.mem_append_right _ (List.mem_append_right _ (List.mem_append_right _ (List.mem_append_right _ (List.mem_append_right _ (List.mem_append_right _ (List.mem_append_right _ (List.mem_append_right _ (List.mem_append_right _ (List.mem_append_right _ (List.mem_append_right _ (List.mem_append_right _ (List.mem_append_right _ (List.mem_append_right _ (List.mem_append_right _ (List.mem_append_right _ (List.mem_append_right _ (List.mem_append_right _ (List.mem_append_right _ (List.mem_append_right _ (List.mem_append_right _ (List.mem_append_right _ (List.mem_append_right _ (List.mem_append_right _ (List.mem_append_right _ (List.mem_append_right _ (List.mem_append_right _ (List.mem_append_right _ (List.mem_append_right _ (List.mem_append_right _ (List.mem_append_right _ (List.mem_append_right _ (List.mem_append_right _ (List.mem_append_right _ (List.mem_append_right _ (List.mem_append_right _ (List.mem_append_right _ (List.mem_append_right _ (List.mem_append_right _ (List.mem_append_right _ (List.mem_append_right _ (List.mem_append_right _ (List.mem_append_right _ (List.mem_append_right _ (List.mem_append_right _ (List.mem_append_right _ (List.mem_append_right _ (List.mem_append_right _ (List.mem_append_right _ (List.mem_append_right _ (List.mem_append_right _ (List.mem_append_right _ (List.mem_append_right _ (List.mem_append_right _ (List.mem_append_right _ (List.mem_append_right _ (List.mem_append_right _ (List.mem_append_right _ (List.mem_append_right _ (List.mem_append_right _ (List.mem_append_right _ (List.mem_append_right _ (List.mem_append_right _ (List.mem_append_right _ (List.mem_append_right _ (List.mem_append_right _ (List.mem_append_right _ (List.mem_append_right _ (List.mem_append_right _ (List.mem_append_right _ (List.mem_append_right _ (List.mem_append_right _ (List.mem_append_right _ (List.mem_append_right _ (List.mem_append_right _ (List.mem_append_right _ (List.mem_append_right _ (List.mem_append_right _ (List.mem_append_right _ (List.mem_append_right _ (List.mem_append_right _ (List.mem_append_left _ h))))))))))))))))))))))))))))))))))))))))))))))))))))))))))))))))))))))))))))))))))))))))))))))))))))
theorem zr85 : ∀ w ∈ wsL_law0_r85, w ∈ wsL_law := fun w h => zLaw0 w (List.mem_append_left _ (List.mem_append_left _ (List.mem_append_left _ (List.mem_append_left _ (List.mem_append_left _ (List.mem_append_left _ (List.mem_append_left _ (List.mem_append_left _ (List.mem_append_left _ (List.mem_append_left _ (List.mem_append_left _ (List.mem_append_left _ (List.mem_append_left _ (List.mem_append_left _ (List.mem_append_left _ (List.mem_append_left _ (List.mem_append_right _ (List.mem_append_right _ (List.mem_append_right _ (List.mem_append_right _ (List.mem_append_right _ (List.mem_append_right _ (List.mem_append_right _ (List.mem_append_right _ (List.mem_append_right _ (List.mem_append_right _ (List.mem_append_right _ (List.mem_append_right _ (List.mem_append_right _ (List.mem_append_right _ (List.mem_append_right _ (List.mem_append_right _ (List.mem_append_right _ (List.mem_append_right _ (List.mem_append_right _ (List.mem_append_right _ (List.mem_append_right _ (List.mem_append_right _ (List.mem_append_right _ (List.mem_append_right _ (List.mem_append_right _ (List.mem_append_right _ (List.mem_append_right _ (List.mem_append_right _ (List.mem_append_right _ (List.mem_append_right _ (List.mem_append_right _ (List.mem_append_right _ (List.mem_append_right _ (List.mem_append_right _ (List.mem_append_right _ (List.mem_append_right _ (List.mem_append_right _ (List.mem_append_right _ (List.mem_append_right _ (List.mem_append_right _ (List.mem_append_right _ (List.mem_append_right _ (List.mem_append_right _ (List.mem_append_right _ (List.mem_append_right _ (List.mem_append_right _ (List.mem_append_right _ (List.mem_append_right _ (List.mem_append_right _ (List.mem_append_right _ (List.mem_append_right _ (List.mem_append_right _ (List.mem_append_right _ (List.mem_append_right _ (List.mem_append_right _ (List.mem_append_right _ (List.mem_append_right _ (List.mem_append_right _ (List.mem_append_right _ (List.mem_append_right _ (List.mem_append_right _ (List.mem_append_right _ (List.mem_append_right _ (List.mem_append_right _ (List.mem_append_right _ (List.mem_append_right _ (List.mem_append_right _ (List.mem_append_right _ (List.mem_append_right _ (List.mem_append_right _ (List.mem_append_right _ (List.mem_append_right _ (List.mem_append_right _ (List.mem_append_right _ (List.mem_append_right _ (List.mem_append_right _ (List.mem_append_right _ (List.mem_append_right _ (List.mem_append_right _ (List.mem_append_right _ (List.mem_append_right _ (List.mem_append_right _ (List.mem_append_right _ (List.mem_append_right _ (List.mem_append_left _ h)))))))))))))))))))))))))))))))))))))))))))))))))))))))))))))))))))))))))))))))))))))))))))))))))))))
theorem zr86 : ∀ w ∈ wsL_law0_r86, w ∈ wsL_law := fun w h => zLaw0 w (List.mem_append_left _ (List.mem_append_left _ (List.mem_append_left _ (List.mem_append_left _ (List.mem_append_left _ (List.mem_append_left _ (List.mem_append_left _ (List.mem_append_left _ (List.mem_append_left _ (List.mem_append_left _ (List.mem_append_left _ (List.mem_append_left _ (List.mem_append_left _ (List.mem_append_left _ (List.mem_append_left _ (List.mem_append_left _ (List.mem_append_right _ (List.mem_append_right _ (List.mem_append_right _ (List.mem_append_right _ (List.mem_append_right _ (List.mem_append_right _ (List.mem_append_right _ (List.mem_append_right _ (List.mem_append_right _ (List.mem_append_right _ (List.mem_append_right _ (List.mem_append_right _ (List.mem_append_right _ (List.mem_append_right _ (List.mem_append_right _ (List.mem_append_right _ (List.mem_append_right _ (List.mem_append_right _ (List.mem_append_right _ (List.mem_append_right _ (List.mem_append_right _ (List.mem_append_right _ (List.mem_append_right _ (List.mem_append_right _ (List.mem_append_right _ (List.mem_append_right _ (List.mem_append_right _ (List.mem_append_right _ (List.mem_append_right _ (List.mem_append_right _ (List.mem_append_right _ (List.mem_append_right _ (List.mem_append_right _ (List.mem_append_right _ (List.mem_append_right _ (List.mem_append_right _ (List.mem_append_right _ (List.mem_append_right _ (List.mem_append_right _ (List.mem_append_right _ (List.mem_append_right _ (List.mem_append_right _ (List.mem_append_right _ (List.mem_append_right _ (List.mem_append_right _ (List.mem_append_right _ (List.mem_append_right _ (List.mem_append_right _ (List.mem_append_right _ (List.mem_append_right _ (List.mem_append_right _ (List.mem_append_right _ (List.mem_append_right _ (List.mem_append_right _ (List.mem_append_right _ (List.mem_append_right _ (List.mem_append_right _ (List.mem_append_right _ (List.mem_append_right _ (List.mem_append_right _ (List.mem_append_right _ (List.mem_append_right _ (List.mem_append_right _ (List.mem_append_right _ (List.mem_append_right _ (List.mem_append_right _ (List.mem_append_right _ (List.mem_append_right _ (List.mem_append_right _ (List.mem_append_right _ (List.mem_append_right _ (List.mem_append_right _ (List.mem_append_right _ (List.mem_append_right _ (List.mem_append_right _ (List.mem_append_right _ (List.mem_append_right _ (List.mem_append_right _ (List.mem_append_right _ (List.mem_append_right _ (List.mem_append_right _ (List.mem_append_right _ (List.mem_append_right _ (List.mem_append_right _ (List.mem_append_right _ (List.mem_append_left _ h))))))))))))))))))))))))))))))))))))))))))))))))))))))))))))))))))))))))))))))))))))))))))))))))))))))
theorem zr87 : ∀ w ∈ wsL_law0_r87, w ∈ wsL_law := fun w h => zLaw0 w (List.mem_append_left _ (List.mem_append_left _ (List.mem_append_left _ (List.mem_append_left _ (List.mem_append_left _ (List.mem_append_left _ (List.mem_append_left _ (List.mem_append_left _ (List.mem_append_left _ (List.mem_append_left _ (List.mem_append_left _ (List.mem_append_left _ (List.mem_append_left _ (List.mem_append_left _ (List.mem_append_left _ (List.mem_append_left _ (List.mem_append_right _ (List.mem_append_right _ (List.mem_append_right _ (List.mem_append_right _ (List.mem_append_right _ (List.mem_append_right _ (List.mem_append_right _ (List.mem_append_right _ (List.mem_append_right _ (List.mem_append_right _ (List.mem_append_right _ (List.mem_append_right _ (List.mem_append_right _ (List.mem_append_right _ (List.mem_append_right _ (List.mem_append_right _ (List.mem_append_right _ (List.mem_append_right _ (List.mem_append_right _ (List.mem_append_right _ (List.mem_append_right _ (List.mem_append_right _ (List.mem_append_right _ (List.mem_append_right _ (List.mem_append_right _ (List.mem_append_right _ (List.mem_append_right _ (List.mem_append_right _ (List.mem_append_right _ (List.mem_append_right _ (List.mem_append_right _ (List.mem_append_right _ (List.mem_append_right _ (List.mem_append_right _ (List.mem_append_right _ (List.mem_append_right _ (List.mem_append_right _ (List.mem_append_right _ (List.mem_append_right _ (List.mem_append_right _ (List.mem_append_right _ (List.mem_append_right _ (List.mem_append_right _ (List.mem_append_right _ (List.mem_append_right _ (List.mem_append_right _ (List.mem_append_right _ (List.mem_append_right _ (List.mem_append_right _ (List.mem_append_right _ (List.mem_append_right _ (List.mem_append_right _ (List.mem_append_right _ (List.mem_append_right _ (List.mem_append_right _ (List.mem_append_right _ (List.mem_append_right _ (List.mem_append_right _ (List.mem_append_right _ (List.mem_append_right _ (List.mem_append_right _ (List.mem_append_right _ (List.mem_append_right _ (List.mem_append_right _ (List.mem_append_right _ (List.mem_append_right _ (List.mem_append_right _ (List.mem_append_right _ (List.mem_append_right _ (List.mem_append_right _ (List.mem_append_right _ (List.mem_append_right _ (List.mem_append_right _ (List.mem_append_right _ (List.mem_append_right _ (List.mem_append_right _ (List.mem_append_right _ (List.mem_append_right _ (List.mem_append_right _ (List.mem_append_right _ (List.mem_append_right _ (List.mem_append_right _ (List.mem_append_right _ (List.mem_append_right _ (List.mem_append_right _ (List.mem_append_right _ (List.mem_append_left _ h)))))))))))))))))))))))))))))))))))))))))))))))))))))))))))))))))))))))))))))))))))))))))))))))))))))))
theorem zr88 : ∀ w ∈ wsL_law0_r88, w ∈ wsL_law := fun w h => zLaw0 w (List.mem_append_left _ (List.mem_append_left _ (List.mem_append_left _ (List.mem_append_left _ (List.mem_append_left _ (List.mem_append_left _ (List.mem_append_left _ (List.mem_append_left _ (List.mem_append_left _ (List.mem_append_left _ (List.mem_append_left _ (List.mem_append_left _ (List.mem_append_left _ (List.mem_append_left _ (List.mem_append_left _ (List.mem_append_left _ (List.mem_append_right _ (List.mem_append_right _ (List.mem_append_right _ (List.mem_append_right _ (List.mem_append_right _ (List.mem_append_right _ (List.mem_append_right _ (List.mem_append_right _ (List.mem_append_right _ (List.mem_append_right _ (List.mem_append_right _ (List.mem_append_right _ (List.mem_append_right _ (List.mem_append_right _ (List.mem_append_right _ (List.mem_append_right _ (List.mem_append_right _ (List.mem_append_right _ (List.mem_append_right _ (List.mem_append_right _ (List.mem_append_right _ (List.mem_append_right _ (List.mem_append_right _ (List.mem_append_right _ (List.mem_append_right _ (List.mem_append_right _ (List.mem_append_right _ (List.mem_append_right _ (List.mem_append_right _ (List.mem_append_right _ (List.mem_append_right _ (List.mem_append_right _ (List.mem_append_right _ (List.mem_append_right _ (List.mem_append_right _ (List.mem_append_right _ (List.mem_append_right _ (List.mem_append_right _ (List.mem_append_right _ (List.mem_append_right _ (List.mem_append_right _ (List.mem_append_right _ (List.mem_append_right _ (List.mem_append_right _ (List.mem_append_right _ (List.mem_append_right _ (List.mem_append_right _ (List.mem_append_right _ (List.mem_append_right _ (List.mem_append_right _ (List.mem_append_right _ (List.mem_append_right _ (List.mem_append_right _ (List.mem_append_right _ (List.mem_append_right _ (List.mem_append_right _ (List.mem_append_right _ (List.mem_append_right _ (List.mem_append_right _ (List.mem_append_right _ (List.mem_append_right _ (List.mem_append_right _ (List.mem_append_right _ (List.mem_append_right _ (List.mem_append_right _ (List.mem_append_right _ (List.mem_append_right _ (List.mem_append_right _ (List.mem_append_right _ (List.mem_append_right _ (List.mem_append_right _ (List.mem_append_right _ (List.mem_append_right _ (List.mem_append_right _ (List.mem_append_right _ (List.mem_append_right _ (List.mem_append_right _ (List.mem_append_right _ (List.mem_append_right _ (List.mem_append_right _ (List.mem_append_right _ (List.mem_append_right _ (List.mem_append_right _ (List.mem_append_right _ (List.mem_append_right _ (List.mem_append_right _ (List.mem_append_right _ (List.mem_append_left _ h))))))))))))))))))))))))))))))))))))))))))))))))))))))))))))))))))))))))))))))))))))))))))))))))))))))))
theorem zr89 : ∀ w ∈ wsL_law0_r89, w ∈ wsL_law := fun w h => zLaw0 w (List.mem_append_left _ (List.mem_append_left _ (List.mem_append_left _ (List.mem_append_left _ (List.mem_append_left _ (List.mem_append_left _ (List.mem_append_left _ (List.mem_append_left _ (List.mem_append_left _ (List.mem_append_left _ (List.mem_append_left _ (List.mem_append_left _ (List.mem_append_left _ (List.mem_append_left _ (List.mem_append_left _ (List.mem_append_left _ (List.mem_append_right _ (List.mem_append_right _ (List.mem_append_right _ (List.mem_append_right _ (List.mem_append_right _ (List.mem_append_right _ (List.mem_append_right _ (List.mem_append_right _ (List.mem_append_right _ (List.mem_append_right _ (List.mem_append_right _ (List.mem_append_right _ (List.mem_append_right _ (List.mem_append_right _ (List.mem_append_right _ (List.mem_append_right _ (List.mem_append_right _ (List.mem_append_right _ (List.mem_append_right _ (List.mem_append_right _ (List.mem_append_right _ (List.mem_append_right _ (List.mem_append_right _ (List.mem_append_right _ (List.mem_append_right _ (List.mem_append_right _ (List.mem_append_right _ (List.mem_append_right _ (List.mem_append_right _ (List.mem_append_right _ (List.mem_append_right _ (List.mem_append_right _ (List.mem_append_right _ (List.mem_append_right _ (List.mem_append_right _ (List.mem_append_right _ (List.mem_append_right _ (List.mem_append_right _ (List.mem_append_right _ (List.mem_append_right _ (List.mem_append_right _ (List.mem_append_right _ (List.mem_append_right _ (List.mem_append_right _ (List.mem_append_right _ (List.mem_append_right _ (List.mem_append_right _ (List.mem_append_right _ (List.mem_append_right _ (List.mem_append_right _ (List.mem_append_right _ (List.mem_append_right _ (List.mem_append_right _ (List.mem_append_right _ (List.mem_append_right _ (List.mem_append_right _ (List.mem_append_right _ (List.mem_append_right _ (List.mem_append_right _ (List.mem_append_right _ (List.mem_append_right _ (List.mem_append_right _ (List.mem_append_right _ (List.mem_append_right _ (List.mem_append_right _ (List.mem_append_right _ (List.mem_append_right _ (List.mem_append_right _ (List.mem_append_right _ (List.mem_append_right _ (List.mem_append_right _ (List.mem_append_right _ (List.mem_append_right _ (List.mem_append_right _ (List.mem_append_right _ (List.mem_append_right _ (List.mem_append_right _ (List.mem_append_right _ (List.mem_append_right _ (List.mem_append_right _ (List.mem_append_right _ (List.mem_append_right _ (List.mem_append_right _ (List.mem_append_right _ (List.mem_append_right _ (List.mem_append_right _ (List.mem_append_right _ (List.mem_append_right _ (List.mem_append_left _ h)))))))))))))))))))))))))))))))))))))))))))))))))))))))))))))))))))))))))))))))))))))))))))))))))))))))))
theorem zr90 : ∀ w ∈ wsL_law0_r90, w ∈ wsL_law := fun w h => zLaw0 w (List.mem_append_left _ (List.mem_append_left _ (List.mem_append_left _ (List.mem_append_left _ (List.mem_append_left _ (List.mem_append_left _ (List.mem_append_left _ (List.mem_append_left _ (List.mem_append_left _ (List.mem_append_left _ (List.mem_append_left _ (List.mem_append_left _ (List.mem_append_left _ (List.mem_append_left _ (List.mem_append_left _ (List.mem_append_left _ (List.mem_append_right _ (List.mem_append_right _ (List.mem_append_right _ (List.mem_append_right _ (List.mem_append_right _ (List.mem_append_right _ (List.mem_append_right _ (List.mem_append_right _ (List.mem_append_right _ (List.mem_append_right _ (List.mem_append_right _ (List.mem_append_right _ (List.mem_append_right _ (List.mem_append_right _ (List.mem_append_right _ (List.mem_append_right _ (List.mem_append_right _ (List.mem_append_right _ (List.mem_append_right _ (List.mem_append_right _ (List.mem_append_right _ (List.mem_append_right _ (List.mem_append_right _ (List.mem_append_right _ (List.mem_append_right _ (List.mem_append_right _ (List.mem_append_right _ (List.mem_append_right _ (List.mem_append_right _ (List.mem_append_right _ (List.mem_append_right _ (List.mem_append_right _ (List.mem_append_right _ (List.mem_append_right _ (List.mem_append_right _ (List.mem_append_right _ (List.mem_append_right _ (List.mem_append_right _ (List.mem_append_right _ (List.mem_append_right _ (List.mem_append_right _ (List.mem_append_right _ (List.mem_append_right _ (List.mem_append_right _ (List.mem_append_right _ (List.mem_append_right _ (List.mem_append_right _ (List.mem_append_right _ (List.mem_append_right _ (List.mem_append_right _ (List.mem_append_right _ (List.mem_append_right _ (List.mem_append_right _ (List.mem_append_right _ (List.mem_append_right _ (List.mem_append_right _ (List.mem_append_right _ (List.mem_append_right _ (List.mem_append_right _ (List.mem_append_right _ (List.mem_append_right _ (List.mem_append_right _ (List.mem_append_right _ (List.mem_append_right _ (List.mem_append_right _ (List.mem_append_right _ (List.mem_append_right _ (List.mem_append_right _ (List.mem_append_right _ (List.mem_append_right _ (List.mem_append_right _ (List.mem_append_right _ (List.mem_append_right _ (List.mem_append_right _ (List.mem_append_right _ (List.mem_append_right _ (List.mem_append_right _ (List.mem_append_right _ (List.mem_append_right _ (List.mem_append_right _ (List.mem_append_right _ (List.mem_append_right _ (List.mem_append_right _ (List.mem_append_right _ (List.mem_append_right _ (List.mem_append_right _ (List.mem_append_right _ (List.mem_append_right _ (List.mem_append_right _ (List.mem_append_left _ h))))))))))))))))))))))))))))))))))))))))))))))))))))))))))))))))))))))))))))))))))))))))))))))))))))))))))
theorem zr91 : ∀ w ∈ wsL_law0_r91, w ∈ wsL_law := fun w h => zLaw0 w (List.mem_append_left _ (List.mem_append_left _ (List.mem_append_left _ (List.mem_append_left _ (List.mem_append_left _ (List.mem_append_left _ (List.mem_append_left _ (List.mem_append_left _ (List.mem_append_left _ (List.mem_append_left _ (List.mem_append_left _ (List.mem_append_left _ (List.mem_append_left _ (List.mem_append_left _ (List.mem_append_left _ (List.mem_append_left _ (List.mem_append_right _ (List.mem_append_right _ (List.mem_append_right _ (List.mem_append_right _ (List.mem_append_right _ (List.mem_append_right _ (List.mem_append_right _ (List.mem_append_right _ (List.mem_append_right _ (List.mem_append_right _ (List.mem_append_right _ (List.mem_append_right _ (List.mem_append_right _ (List.mem_append_right _ (List.mem_append_right _ (List.mem_append_right _ (List.mem_append_right _ (List.mem_append_right _ (List.mem_append_right _ (List.mem_append_right _ (List.mem_append_right _ (List.mem_append_right _ (List.mem_append_right _ (List.mem_append_right _ (List.mem_append_right _ (List.mem_append_right _ (List.mem_append_right _ (List.mem_append_right _ (List.mem_append_right _ (List.mem_append_right _ (List.mem_append_right _ (List.mem_append_right _ (List.mem_append_right _ (List.mem_append_right _ (List.mem_append_right _ (List.mem_append_right _ (List.mem_append_right _ (List.mem_append_right _ (List.mem_append_right _ (List.mem_append_right _ (List.mem_append_right _ (List.mem_append_right _ (List.mem_append_right _ (List.mem_append_right _ (List.mem_append_right _ (List.mem_append_right _ (List.mem_append_right _ (List.mem_append_right _ (List.mem_append_right _ (List.mem_append_right _ (List.mem_append_right _ (List.mem_append_right _ (List.mem_append_right _ (List.mem_append_right _ (List.mem_append_right _ (List.mem_append_right _ (List.mem_append_right _ (List.mem_append_right _ (List.mem_append_right _ (List.mem_append_right _ (List.mem_append_right _ (List.mem_append_right _ (List.mem_append_right _ (List.mem_append_right _ (List.mem_append_right _ (List.mem_append_right _ (List.mem_append_right _ (List.mem_append_right _ (List.mem_append_right _ (List.mem_append_right _ (List.mem_append_right _ (List.mem_append_right _ (List.mem_append_right _ (List.mem_append_right _ (List.mem_append_right _ (List.mem_append_right _ (List.mem_append_right _ (List.mem_append_right _ (List.mem_append_right _ (List.mem_append_right _ (List.mem_append_right _ (List.mem_append_right _ (List.mem_append_right _ (List.mem_append_right _ (List.mem_append_right _ (List.mem_append_right _ (List.mem_append_right _ (List.mem_append_right _ (List.mem_append_right _ (List.mem_append_right _ (List.mem_append_left _ h)))))))))))))))))))))))))))))))))))))))))))))))))))))))))))))))))))))))))))))))))))))))))))))))))))))))))))
theorem zr92 : ∀ w ∈ wsL_law0_r92, w ∈ wsL_law := fun w h => zLaw0 w (List.mem_append_left _ (List.mem_append_left _ (List.mem_append_left _ (List.mem_append_left _ (List.mem_append_left _ (List.mem_append_left _ (List.mem_append_left _ (List.mem_append_left _ (List.mem_append_left _ (List.mem_append_left _ (List.mem_append_left _ (List.mem_append_left _ (List.mem_append_left _ (List.mem_append_left _ (List.mem_append_left _ (List.mem_append_left _ (List.mem_append_right _ (List.mem_append_right _ (List.mem_append_right _ (List.mem_append_right _ (List.mem_append_right _ (List.mem_append_right _ (List.mem_append_right _ (List.mem_append_right _ (List.mem_append_right _ (List.mem_append_right _ (List.mem_append_right _ (List.mem_append_right _ (List.mem_append_right _ (List.mem_append_right _ (List.mem_append_right _ (List.mem_append_right _ (List.mem_append_right _ (List.mem_append_right _ (List.mem_append_right _ (List.mem_append_right _ (List.mem_append_right _ (List.mem_append_right _ (List.mem_append_right _ (List.mem_append_right _ (List.mem_append_right _ (List.mem_append_right _ (List.mem_append_right _ (List.mem_append_right _ (List.mem_append_right _ (List.mem_append_right _ (List.mem_append_right _ (List.mem_append_right _ (List.mem_append_right _ (List.mem_append_right _ (List.mem_append_right _ (List.mem_append_right _ (List.mem_append_right _ (List.mem_append_right _ (List.mem_append_right _ (List.mem_append_right _ (List.mem_append_right _ (List.mem_append_right _ (List.mem_append_right _ (List.mem_append_right _ (List.mem_append_right _ (List.mem_append_right _ (List.mem_append_right _ (List.mem_append_right _ (List.mem_append_right _ (List.mem_append_right _ (List.mem_append_right _ (List.mem_append_right _ (List.mem_append_right _ (List.mem_append_right _ (List.mem_append_right _ (List.mem_append_right _ (List.mem_append_right _ (List.mem_append_right _ (List.mem_append_right _ (List.mem_append_right _ (List.mem_append_right _ (List.mem_append_right _ (List.mem_append_right _ (List.mem_append_right _ (List.mem_append_right _ (List.mem_append_right _ (List.mem_append_right _ (List.mem_append_right _ (List.mem_append_right _ (List.mem_append_right _ (List.mem_append_right _ (List.mem_append_right _ (List.mem_append_right _ (List.mem_append_right _ (List.mem_append_right _ (List.mem_append_right _ (List.mem_append_right _ (List.mem_append_right _ (List.mem_append_right _ (List.mem_append_right _ (List.mem_append_right _ (List.mem_append_right _ (List.mem_append_right _ (List.mem_append_right _ (List.mem_append_right _ (List.mem_append_right _ (List.mem_append_right _ (List.mem_append_right _ (List.mem_append_right _ (List.mem_append_right _ (List.mem_append_right _ (List.mem_append_left _ h))))))))))))))))))))))))))))))))))))))))))))))))))))))))))))))))))))))))))))))))))))))))))))))))))))))))))))
theorem zr93 : ∀ w ∈ wsL_law0_r93, w ∈ wsL_law := fun w h => zLaw0 w (List.mem_append_left _ (List.mem_append_left _ (List.mem_append_left _ (List.mem_append_left _ (List.mem_append_left _ (List.mem_append_left _ (List.mem_append_left _ (List.mem_append_left _ (List.mem_append_left _ (List.mem_append_left _ (List.mem_append_left _ (List.mem_append_left _ (List.mem_append_left _ (List.mem_append_left _ (List.mem_append_left _ (List.mem_append_left _ (List.mem_append_right _ (List.mem_append_right _ (List.mem_append_right _ (List.mem_append_right _ (List.mem_append_right _ (List.mem_append_right _ (List.mem_append_right _ (List.mem_append_right _ (List.mem_append_right _ (List.mem_append_right _ (List.mem_append_right _ (List.mem_append_right _ (List.mem_append_right _ (List.mem_append_right _ (List.mem_append_right _ (List.mem_append_right _ (List.mem_append_right _ (List.mem_append_right _ (List.mem_append_right _ (List.mem_append_right _ (List.mem_append_right _ (List.mem_append_right _ (List.mem_append_right _ (List.mem_append_right _ (List.mem_append_right _ (List.mem_append_right _ (List.mem_append_right _ (List.mem_append_right _ (List.mem_append_right _ (List.mem_append_right _ (List.mem_append_right _ (List.mem_append_right _ (List.mem_append_right _ (List.mem_append_right _ (List.mem_append_right _ (List.mem_append_right _ (List.mem_append_right _ (List.mem_append_right _ (List.mem_append_right _ (List.mem_append_right _ (List.mem_append_right _ (List.mem_append_right _ (List.mem_append_right _ (List.mem_append_right _ (List.mem_append_right _ (List.mem_append_right _ (List.mem_append_right _ (List.mem_append_right _ (List.mem_append_right _ (List.mem_append_right _ (List.mem_append_right _ (List.mem_append_right _ (List.mem_append_right _ (List.mem_append_right _ (List.mem_append_right _ (List.mem_append_right _ (List.mem_append_right _ (List.mem_append_right _ (List.mem_append_right _ (List.mem_append_right _ (List.mem_append_right _ (List.mem_append_right _ (List.mem_append_right _ (List.mem_append_right _ (List.mem_append_right _ (List.mem_append_right _ (List.mem_append_right _ (List.mem_append_right _ (List.mem_append_right _ (List.mem_append_right _ (List.mem_append_right _ (List.mem_append_right _ (List.mem_append_right _ (List.mem_append_right _ (List.mem_append_right _ (List.mem_append_right _ (List.mem_append_right _ (List.mem_append_right _ (List.mem_append_right _ (List.mem_append_right _ (List.mem_append_right _ (List.mem_append_right _ (List.mem_append_right _ (List.mem_append_right _ (List.mem_append_right _ (List.mem_append_right _ (List.mem_append_right _ (List.mem_append_right _ (List.mem_append_right _ (List.mem_append_right _ (List.mem_append_right _ (List.mem_append_right _ (List.mem_append_left _ h)))))))))))))))))))))))))))))))))))))))))))))))))))))))))))))))))))))))))))))))))))))))))))))))))))))))))))))
theorem zr94 : ∀ w ∈ wsL_law0_r94, w ∈ wsL_law := fun w h => zLaw0 w (List.mem_append_left _ (List.mem_append_left _ (List.mem_append_left _ (List.mem_append_left _ (List.mem_append_left _ (List.mem_append_left _ (List.mem_append_left _ (List.mem_append_left _ (List.mem_append_left _ (List.mem_append_left _ (List.mem_append_left _ (List.mem_append_left _ (List.mem_append_left _ (List.mem_append_left _ (List.mem_append_left _ (List.mem_append_left _ (List.mem_append_right _ (List.mem_append_right _ (List.mem_append_right _ (List.mem_append_right _ (List.mem_append_right _ (List.mem_append_right _ (List.mem_append_right _ (List.mem_append_right _ (List.mem_append_right _ (List.mem_append_right _ (List.mem_append_right _ (List.mem_append_right _ (List.mem_append_right _ (List.mem_append_right _ (List.mem_append_right _ (List.mem_append_right _ (List.mem_append_right _ (List.mem_append_right _ (List.mem_append_right _ (List.mem_append_right _ (List.mem_append_right _ (List.mem_append_right _ (List.mem_append_right _ (List.mem_append_right _ (List.mem_append_right _ (List.mem_append_right _ (List.mem_append_right _ (List.mem_append_right _ (List.mem_append_right _ (List.mem_append_right _ (List.mem_append_right _ (List.mem_append_right _ (List.mem_append_right _ (List.mem_append_right _ (List.mem_append_right _ (List.mem_append_right _ (List.mem_append_right _ (List.mem_append_right _ (List.mem_append_right _ (List.mem_append_right _ (List.mem_append_right _ (List.mem_append_right _ (List.mem_append_right _ (List.mem_append_right _ (List.mem_append_right _ (List.mem_append_right _ (List.mem_append_right _ (List.mem_append_right _ (List.mem_append_right _ (List.mem_append_right _ (List.mem_append_right _ (List.mem_append_right _ (List.mem_append_right _ (List.mem_append_right _ (List.mem_append_right _ (List.mem_append_right _ (List.mem_append_right _ (List.mem_append_right _ (List.mem_append_right _ (List.mem_append_right _ (List.mem_append_right _ (List.mem_append_right _ (List.mem_append_right _ (List.mem_append_right _ (List.mem_append_right _ (List.mem_append_right _ (List.mem_append_right _ (List.mem_append_right _ (List.mem_append_right _ (List.mem_append_right _ (List.mem_append_right _ (List.mem_append_right _ (List.mem_append_right _ (List.mem_append_right _ (List.mem_append_right _ (List.mem_append_right _ (List.mem_append_right _ (List.mem_append_right _ (List.mem_append_right _ (List.mem_append_right _ (List.mem_append_right _ (List.mem_append_right _ (List.mem_append_right _ (List.mem_append_right _ (List.mem_append_right _ (List.mem_append_right _ (List.mem_append_right _ (List.mem_append_right _ (List.mem_append_right _ (List.mem_append_right _ (List.mem_append_right _ (List.mem_append_right _ (List.mem_append_right _ (List.mem_append_left _ h))))))))))))))))))))))))))))))))))))))))))))))))))))))))))))))))))))))))))))))))))))))))))))))))))))))))))))))
theorem zr95 : ∀ w ∈ wsL_law0_r95, w ∈ wsL_law := fun w h => zLaw0 w (List.mem_append_left _ (List.mem_append_left _ (List.mem_append_left _ (List.mem_append_left _ (List.mem_append_left _ (List.mem_append_left _ (List.mem_append_left _ (List.mem_append_left _ (List.mem_append_left _ (List.mem_append_left _ (List.mem_append_left _ (List.mem_append_left _ (List.mem_append_left _ (List.mem_append_left _ (List.mem_append_left _ (List.mem_append_left _ (List.mem_append_right _ (List.mem_append_right _ (List.mem_append_right _ (List.mem_append_right _ (List.mem_append_right _ (List.mem_append_right _ (List.mem_append_right _ (List.mem_append_right _ (List.mem_append_right _ (List.mem_append_right _ (List.mem_append_right _ (List.mem_append_right _ (List.mem_append_right _ (List.mem_append_right _ (List.mem_append_right _ (List.mem_append_right _ (List.mem_append_right _ (List.mem_append_right _ (List.mem_append_right _ (List.mem_append_right _ (List.mem_append_right _ (List.mem_append_right _ (List.mem_append_right _ (List.mem_append_right _ (List.mem_append_right _ (List.mem_append_right _ (List.mem_append_right _ (List.mem_append_right _ (List.mem_append_right _ (List.mem_append_right _ (List.mem_append_right _ (List.mem_append_right _ (List.mem_append_right _ (List.mem_append_right _ (List.mem_append_right _ (List.mem_append_right _ (List.mem_append_right _ (List.mem_append_right _ (List.mem_append_right _ (List.mem_append_right _ (List.mem_append_right _ (List.mem_append_right _ (List.mem_append_right _ (List.mem_append_right _ (List.mem_append_right _ (List.mem_append_right _ (List.mem_append_right _ (List.mem_append_right _ (List.mem_append_right _ (List.mem_append_right _ (List.mem_append_right _ (List.mem_append_right _ (List.mem_append_right _ (List.mem_append_right _ (List.mem_append_right _ (List.mem_append_right _ (List.mem_append_right _ (List.mem_append_right _ (List.mem_append_right _ (List.mem_append_right _ (List.mem_append_right _ (List.mem_append_right _ (List.mem_append_right _ (List.mem_append_right _ (List.mem_append_right _ (List.mem_append_right _ (List.mem_append_right _ (List.mem_append_right _ (List.mem_append_right _ (List.mem_append_right _ (List.mem_append_right _ (List.mem_append_right _ (List.mem_append_right _ (List.mem_append_right _ (List.mem_append_right _ (List.mem_append_right _ (List.mem_append_right _ (List.mem_append_right _ (List.mem_append_right _ (List.mem_append_right _ (List.mem_append_right _ (List.mem_append_right _ (List.mem_append_right _ (List.mem_append_right _ (List.mem_append_right _ (List.mem_append_right _ (List.mem_append_right _ (List.mem_append_right _ (List.mem_append_right _ (List.mem_append_right _ (List.mem_append_right _ (List.mem_append_right _ (List.mem_append_right _ (List.mem_append_right _ (List.mem_append_left _ h)))))))))))))))))))))))))))))))))))))))))))))))))))))))))))))))))))))))))))))))))))))))))))))))))))))))))))))))
theorem zr96 : ∀ w ∈ wsL_law0_r96, w ∈ wsL_law := fun w h => zLaw0 w (List.mem_append_left _ (List.mem_append_left _ (List.mem_append_left _ (List.mem_append_left _ (List.mem_append_left _ (List.mem_append_left _ (List.mem_append_left _ (List.mem_append_left _ (List.mem_append_left _ (List.mem_append_left _ (List.mem_append_left _ (List.mem_append_left _ (List.mem_append_left _ (List.mem_append_left _ (List.mem_append_left _ (List.mem_append_left _ (List.mem_append_right _ (List.mem_append_right _ (List.mem_append_right _ (List.mem_append_right _ (List.mem_append_right _ (List.mem_append_right _ (List.mem_append_right _ (List.mem_append_right _ (List.mem_append_right _ (List.mem_append_right _ (List.mem_append_right _ (List.mem_append_right _ (List.mem_append_right _ (List.mem_append_right _ (List.mem_append_right _ (List.mem_append_right _ (List.mem_append_right _ (List.mem_append_right _ (List.mem_append_right _ (List.mem_append_right _ (List.mem_append_right _ (List.mem_append_right _ (List.mem_append_right _ (List.mem_append_right _ (List.mem_append_right _ (List.mem_append_right _ (List.mem_append_right _ (List.mem_append_right _ (List.mem_append_right _ (List.mem_append_right _ (List.mem_append_right _ (List.mem_append_right _ (List.mem_append_right _ (List.mem_append_right _ (List.mem_append_right _ (List.mem_append_right _ (List.mem_append_right _ (List.mem_append_right _ (List.mem_append_right _ (List.mem_append_right _ (List.mem_append_right _ (List.mem_append_right _ (List.mem_append_right _ (List.mem_append_right _ (List.mem_append_right _ (List.mem_append_right _ (List.mem_append_right _ (List.mem_append_right _ (List.mem_append_right _ (List.mem_append_right _ (List.mem_append_right _ (List.mem_append_right _ (List.mem_append_right _ (List.mem_append_right _ (List.mem_append_right _ (List.mem_append_right _ (List.mem_append_right _ (List.mem_append_right _ (List.mem_append_right _ (List.mem_append_right _ (List.mem_append_right _ (List.mem_append_right _ (List.mem_append_right _ (List.mem_append_right _ (List.mem_append_right _ (List.mem_append_right _ (List.mem_append_right _ (List.mem_append_right _ (List.mem_append_right _ (List.mem_append_right _ (List.mem_append_right _ (List.mem_append_right _ (List.mem_append_right _ (List.mem_append_right _ (List.mem_append_right _ (List.mem_append_right _ (List.mem_append_right _ (List.mem_append_right _ (List.mem_append_right _ (List.mem_append_right _ (List.mem_append_right _ (List.mem_append_right _ (List.mem_append_right _ (List.mem_append_right _ (List.mem_append_right _ (List.mem_append_right _ (List.mem_append_right _ (List.mem_append_right _ (List.mem_append_right _ (List.mem_append_right _ (List.mem_append_right _ (List.mem_append_right _ (List.mem_append_right _ (List.mem_append_right _ (List.mem_append_right _ h)))))))))))))))))))))))))))))))))))))))))))))))))))))))))))))))))))))))))))))))))))))))))))))))))))))))))))))))
theorem zgood_all : ∀ w ∈ wsL_law, (w.onTables && w.keeps) = true ∨ ∃ ty, w = Cond.arrayClass ty := by
  have h : wsL_law.all goodWord = true := by decide +kernel
  intro w hw
  exact good_of_word (List.all_eq_true.mp h w hw)
theorem zgV {cd cd1 : Cond} {own C : String} {idx : Nat} {y : MethodName} (h1 : Cond.methodLink own idx y ∈ wsL_law) (h2 : Cond.instanceMethod y ∈ wsL_law) (h3 : Cond.selects C y y ∈ wsL_law) (h4 : Cond.initialized C ∈ wsL_law) (h5 : cd1 ∈ wsL_law) : GoodIn (cd :: wsL_law) (wsV own idx C y (cd1 :: wsL_law)) := by
  have key : ∀ w ∈ wsV own idx C y (cd1 :: wsL_law), w ∈ wsL_law := by
    intro w hw
    simp only [wsV, List.mem_append, List.mem_cons, List.not_mem_nil, or_false] at hw
    rcases hw with (rfl | rfl | rfl | rfl) | rfl | h
    · exact h1
    · exact h2
    · exact h3
    · exact h4
    · exact h5
    · exact h
  exact fun w hw => ⟨List.mem_cons_of_mem _ (key w hw), zgood_all w (key w hw)⟩
theorem zgS {cd cd1 : Cond} {own : String} {idx : Nat} {y : MethodName} (h1 : Cond.methodLink own idx y ∈ wsL_law) (h2 : Cond.static y ∈ wsL_law) (h3 : Cond.initialized y.cls ∈ wsL_law) (h5 : cd1 ∈ wsL_law) : GoodIn (cd :: wsL_law) (va_wsS own idx y (cd1 :: wsL_law)) := by
  have key : ∀ w ∈ va_wsS own idx y (cd1 :: wsL_law), w ∈ wsL_law := by
    intro w hw
    simp only [va_wsS, List.mem_append, List.mem_cons, List.not_mem_nil, or_false] at hw
    rcases hw with (rfl | rfl | rfl) | rfl | h
    · exact h1
    · exact h2
    · exact h3
    · exact h5
    · exact h
  exact fun w hw => ⟨List.mem_cons_of_mem _ (key w hw), zgood_all w (key w hw)⟩
theorem zw1_2 : Cond.initialized RX11 ∈ wsL_law := zr1 _ (List.mem_of_getElem? (i := 2) rfl)
theorem zw1_5 : Cond.initialized RX12 ∈ wsL_law := zr1 _ (List.mem_of_getElem? (i := 5) rfl)
theorem zw1_18 : Cond.fieldLink RX11 7 "PadConsole" "handy" "Z" ∈ wsL_law := zr1 _ (List.mem_of_getElem? (i := 18) rfl)
theorem zw1_21 : Cond.initialized RX2 ∈ wsL_law := zr1 _ (List.mem_of_getElem? (i := 21) rfl)
theorem zw1_22 : Cond.fieldLink RX11 16 "PadConsole" "memory" "LPadConsole$Memory;" ∈ wsL_law := zr1 _ (List.mem_of_getElem? (i := 22) rfl)
theorem zw2_1 : Cond.initialized RX9 ∈ wsL_law := zr2 _ (List.mem_of_getElem? (i := 1) rfl)
theorem zw2_2 : Cond.fieldLink RX11 25 "PadConsole" "screen" "LPadConsole$Video;" ∈ wsL_law := zr2 _ (List.mem_of_getElem? (i := 2) rfl)
theorem zw2_5 : Cond.initialized RX3 ∈ wsL_law := zr2 _ (List.mem_of_getElem? (i := 5) rfl)
theorem zw2_6 : Cond.fieldLink RX11 34 "PadConsole" "painter" "LPadConsole$Painter;" ∈ wsL_law := zr2 _ (List.mem_of_getElem? (i := 6) rfl)
theorem zw2_9 : Cond.initialized RX7 ∈ wsL_law := zr2 _ (List.mem_of_getElem? (i := 9) rfl)
theorem zw2_10 : Cond.fieldLink RX11 41 "PadConsole" "tones" "LPadConsole$Sound;" ∈ wsL_law := zr2 _ (List.mem_of_getElem? (i := 10) rfl)
theorem zw2_13 : Cond.initialized RX10 ∈ wsL_law := zr2 _ (List.mem_of_getElem? (i := 13) rfl)
theorem zw2_14 : Cond.fieldLink RX11 48 "PadConsole" "synth" "LPadConsole$Waves;" ∈ wsL_law := zr2 _ (List.mem_of_getElem? (i := 14) rfl)
theorem zw2_17 : Cond.initialized RX4 ∈ wsL_law := zr2 _ (List.mem_of_getElem? (i := 17) rfl)
theorem zw2_18 : Cond.fieldLink RX11 57 "PadConsole" "ports" "LPadConsole$Ports;" ∈ wsL_law := zr2 _ (List.mem_of_getElem? (i := 18) rfl)
theorem zw2_21 : Cond.initialized RX5 ∈ wsL_law := zr2 _ (List.mem_of_getElem? (i := 21) rfl)
theorem zw2_22 : Cond.fieldLink RX11 66 "PadConsole" "processor" "LPadConsole$Processor;" ∈ wsL_law := zr2 _ (List.mem_of_getElem? (i := 22) rfl)
theorem zw3_1 : Cond.initialized RX0 ∈ wsL_law := zr3 _ (List.mem_of_getElem? (i := 1) rfl)
theorem zw3_2 : Cond.fieldLink RX11 75 "PadConsole" "clock" "LPadConsole$Clock;" ∈ wsL_law := zr3 _ (List.mem_of_getElem? (i := 2) rfl)
theorem zw3_5 : Cond.initialized RX1 ∈ wsL_law := zr3 _ (List.mem_of_getElem? (i := 5) rfl)
theorem zw3_6 : Cond.fieldLink RX11 82 "PadConsole" "desk" "LPadConsole$Desk;" ∈ wsL_law := zr3 _ (List.mem_of_getElem? (i := 6) rfl)
theorem zw3_9 : Cond.initialized RX8 ∈ wsL_law := zr3 _ (List.mem_of_getElem? (i := 9) rfl)
theorem zw3_10 : Cond.fieldLink RX11 91 "PadConsole" "teller" "LPadConsole$Teller;" ∈ wsL_law := zr3 _ (List.mem_of_getElem? (i := 10) rfl)
theorem zw3_14 : Cond.constant RX2 9 (262656) ∈ wsL_law := zr3 _ (List.mem_of_getElem? (i := 14) rfl)
theorem zw3_16 : Cond.fieldLink RX2 10 "PadConsole$Memory" "tape" "[I" ∈ wsL_law := zr3 _ (List.mem_of_getElem? (i := 16) rfl)
theorem zw3_17 : Cond.fieldLink RX2 14 "PadConsole$Memory" "rom" "[I" ∈ wsL_law := zr3 _ (List.mem_of_getElem? (i := 17) rfl)
theorem zw3_18 : Cond.fieldLink RX2 17 "PadConsole$Memory" "header" "I" ∈ wsL_law := zr3 _ (List.mem_of_getElem? (i := 18) rfl)
theorem zw3_19 : Cond.fieldLink RX2 21 "PadConsole$Memory" "ram" "[I" ∈ wsL_law := zr3 _ (List.mem_of_getElem? (i := 19) rfl)
theorem zw3_20 : Cond.fieldLink RX2 24 "PadConsole$Memory" "ramKept" "[I" ∈ wsL_law := zr3 _ (List.mem_of_getElem? (i := 20) rfl)
theorem zw3_21 : Cond.constant RX2 27 (32768) ∈ wsL_law := zr3 _ (List.mem_of_getElem? (i := 21) rfl)
theorem zw3_22 : Cond.fieldLink RX2 28 "PadConsole$Memory" "charged" "[I" ∈ wsL_law := zr3 _ (List.mem_of_getElem? (i := 22) rfl)
theorem zw3_23 : Cond.fieldLink RX2 31 "PadConsole$Memory" "chargedKept" "[I" ∈ wsL_law := zr3 _ (List.mem_of_getElem? (i := 23) rfl)
theorem zw4_0 : Cond.fieldLink RX2 34 "PadConsole$Memory" "pages" "[I" ∈ wsL_law := zr4 _ (List.mem_of_getElem? (i := 0) rfl)
theorem zw4_1 : Cond.fieldLink RX2 37 "PadConsole$Memory" "pagesKept" "[I" ∈ wsL_law := zr4 _ (List.mem_of_getElem? (i := 1) rfl)
theorem zw4_6 : Cond.fieldLink RX9 9 "PadConsole$Video" "vram" "[I" ∈ wsL_law := zr4 _ (List.mem_of_getElem? (i := 6) rfl)
theorem zw4_7 : Cond.fieldLink RX9 13 "PadConsole$Video" "vramKept" "[I" ∈ wsL_law := zr4 _ (List.mem_of_getElem? (i := 7) rfl)
theorem zw4_8 : Cond.fieldLink RX9 16 "PadConsole$Video" "s" "[I" ∈ wsL_law := zr4 _ (List.mem_of_getElem? (i := 8) rfl)
theorem zw4_9 : Cond.fieldLink RX9 19 "PadConsole$Video" "kept" "[I" ∈ wsL_law := zr4 _ (List.mem_of_getElem? (i := 9) rfl)
theorem zw4_10 : Cond.fieldLink RX9 22 "PadConsole$Video" "handy" "Z" ∈ wsL_law := zr4 _ (List.mem_of_getElem? (i := 10) rfl)
theorem zw4_11 : Cond.fieldLink RX9 26 "PadConsole$Video" "lines" "I" ∈ wsL_law := zr4 _ (List.mem_of_getElem? (i := 11) rfl)
theorem zw4_17 : Cond.fieldLink RX3 10 "PadConsole$Painter" "picture" "[I" ∈ wsL_law := zr4 _ (List.mem_of_getElem? (i := 17) rfl)
theorem zw4_18 : Cond.fieldLink RX3 14 "PadConsole$Painter" "kept" "[I" ∈ wsL_law := zr4 _ (List.mem_of_getElem? (i := 18) rfl)
theorem zw4_19 : Cond.fieldLink RX3 17 "PadConsole$Painter" "numbers" "[I" ∈ wsL_law := zr4 _ (List.mem_of_getElem? (i := 19) rfl)
theorem zw4_20 : Cond.fieldLink RX3 20 "PadConsole$Painter" "sprites" "[I" ∈ wsL_law := zr4 _ (List.mem_of_getElem? (i := 20) rfl)
theorem zw4_21 : Cond.fieldLink RX3 23 "PadConsole$Painter" "colours" "[I" ∈ wsL_law := zr4 _ (List.mem_of_getElem? (i := 21) rfl)
theorem zw4_22 : Cond.fieldLink RX3 26 "PadConsole$Painter" "chip" "LPadConsole$Video;" ∈ wsL_law := zr4 _ (List.mem_of_getElem? (i := 22) rfl)
theorem zw4_23 : Cond.fieldLink RX3 30 "PadConsole$Painter" "handy" "Z" ∈ wsL_law := zr4 _ (List.mem_of_getElem? (i := 23) rfl)
theorem zw5_4 : Cond.fieldLink RX7 9 "PadConsole$Sound" "s" "[I" ∈ wsL_law := zr5 _ (List.mem_of_getElem? (i := 4) rfl)
theorem zw5_5 : Cond.fieldLink RX7 13 "PadConsole$Sound" "kept" "[I" ∈ wsL_law := zr5 _ (List.mem_of_getElem? (i := 5) rfl)
theorem zw5_7 : Cond.instanceMethod yX7_clear ∈ wsL_law := zr5 _ (List.mem_of_getElem? (i := 7) rfl)
theorem zw5_8 : Cond.selects RX7 yX7_clear yX7_clear ∈ wsL_law := zr5 _ (List.mem_of_getElem? (i := 8) rfl)
theorem zw5_9 : Cond.code yX7_clear cX7_clear 1 none ∈ wsL_law := zr5 _ (List.mem_of_getElem? (i := 9) rfl)
theorem zw5_10 : Cond.constant RX7 28 (32768) ∈ wsL_law := zr5 _ (List.mem_of_getElem? (i := 10) rfl)
theorem zw5_11 : Cond.methodLink RX7 19 yJ7_fill_53178 ∈ wsL_law := zr5 _ (List.mem_of_getElem? (i := 11) rfl)
theorem zw5_12 : Cond.static yJ7_fill_53178 ∈ wsL_law := zr5 _ (List.mem_of_getElem? (i := 12) rfl)
theorem zw5_13 : Cond.initialized RJ7 ∈ wsL_law := zr5 _ (List.mem_of_getElem? (i := 13) rfl)
theorem zw5_14 : Cond.code yJ7_fill_53178 cJ7_fill_53178 4 none ∈ wsL_law := zr5 _ (List.mem_of_getElem? (i := 14) rfl)
theorem zw5_15 : Cond.methodLink RX7 25 yJ7_fill_fda19 ∈ wsL_law := zr5 _ (List.mem_of_getElem? (i := 15) rfl)
theorem zw5_16 : Cond.static yJ7_fill_fda19 ∈ wsL_law := zr5 _ (List.mem_of_getElem? (i := 16) rfl)
theorem zw5_17 : Cond.code yJ7_fill_fda19 cJ7_fill_fda19 5 none ∈ wsL_law := zr5 _ (List.mem_of_getElem? (i := 17) rfl)
theorem zw5_18 : Cond.methodLink RJ7 13 yJ7_rangeCheck_23922 ∈ wsL_law := zr5 _ (List.mem_of_getElem? (i := 18) rfl)
theorem zw5_19 : Cond.static yJ7_rangeCheck_23922 ∈ wsL_law := zr5 _ (List.mem_of_getElem? (i := 19) rfl)
theorem zw5_20 : Cond.code yJ7_rangeCheck_23922 cJ7_rangeCheck_23922 3 none ∈ wsL_law := zr5 _ (List.mem_of_getElem? (i := 20) rfl)
theorem zw6_4 : Cond.fieldLink RX10 9 "PadConsole$Waves" "s" "[I" ∈ wsL_law := zr6 _ (List.mem_of_getElem? (i := 4) rfl)
theorem zw6_5 : Cond.fieldLink RX10 13 "PadConsole$Waves" "kept" "[I" ∈ wsL_law := zr6 _ (List.mem_of_getElem? (i := 5) rfl)
theorem zw6_7 : Cond.instanceMethod yX10_clear ∈ wsL_law := zr6 _ (List.mem_of_getElem? (i := 7) rfl)
theorem zw6_8 : Cond.selects RX10 yX10_clear yX10_clear ∈ wsL_law := zr6 _ (List.mem_of_getElem? (i := 8) rfl)
theorem zw6_9 : Cond.code yX10_clear cX10_clear 3 none ∈ wsL_law := zr6 _ (List.mem_of_getElem? (i := 9) rfl)
theorem zw6_10 : Cond.methodLink RX10 19 yJ7_fill_53178 ∈ wsL_law := zr6 _ (List.mem_of_getElem? (i := 10) rfl)
theorem zw6_15 : Cond.fieldLink RX4 9 "PadConsole$Ports" "p" "[I" ∈ wsL_law := zr6 _ (List.mem_of_getElem? (i := 15) rfl)
theorem zw6_16 : Cond.fieldLink RX4 13 "PadConsole$Ports" "kept" "[I" ∈ wsL_law := zr6 _ (List.mem_of_getElem? (i := 16) rfl)
theorem zw6_17 : Cond.fieldLink RX4 16 "PadConsole$Ports" "handy" "Z" ∈ wsL_law := zr6 _ (List.mem_of_getElem? (i := 17) rfl)
theorem zw6_18 : Cond.fieldLink RX4 20 "PadConsole$Ports" "screen" "LPadConsole$Video;" ∈ wsL_law := zr6 _ (List.mem_of_getElem? (i := 18) rfl)
theorem zw6_19 : Cond.fieldLink RX4 24 "PadConsole$Ports" "tones" "LPadConsole$Sound;" ∈ wsL_law := zr6 _ (List.mem_of_getElem? (i := 19) rfl)
theorem zw6_20 : Cond.fieldLink RX4 28 "PadConsole$Ports" "synth" "LPadConsole$Waves;" ∈ wsL_law := zr6 _ (List.mem_of_getElem? (i := 20) rfl)
theorem zw6_22 : Cond.instanceMethod yX4_clear ∈ wsL_law := zr6 _ (List.mem_of_getElem? (i := 22) rfl)
theorem zw6_23 : Cond.selects RX4 yX4_clear yX4_clear ∈ wsL_law := zr6 _ (List.mem_of_getElem? (i := 23) rfl)
theorem zw7_0 : Cond.code yX4_clear cX4_clear 1 none ∈ wsL_law := zr7 _ (List.mem_of_getElem? (i := 0) rfl)
theorem zw7_5 : Cond.fieldLink RX5 9 "PadConsole$Processor" "\x72" "[I" ∈ wsL_law := zr7 _ (List.mem_of_getElem? (i := 5) rfl)
theorem zw7_6 : Cond.fieldLink RX5 13 "PadConsole$Processor" "kept" "[I" ∈ wsL_law := zr7 _ (List.mem_of_getElem? (i := 6) rfl)
theorem zw7_7 : Cond.fieldLink RX5 16 "PadConsole$Processor" "j" "I" ∈ wsL_law := zr7 _ (List.mem_of_getElem? (i := 7) rfl)
theorem zw7_8 : Cond.fieldLink RX5 20 "PadConsole$Processor" "memory" "LPadConsole$Memory;" ∈ wsL_law := zr7 _ (List.mem_of_getElem? (i := 8) rfl)
theorem zw7_9 : Cond.fieldLink RX5 24 "PadConsole$Processor" "ports" "LPadConsole$Ports;" ∈ wsL_law := zr7 _ (List.mem_of_getElem? (i := 9) rfl)
theorem zw7_10 : Cond.constant RX5 28 (57328) ∈ wsL_law := zr7 _ (List.mem_of_getElem? (i := 10) rfl)
theorem zw7_17 : Cond.initialized RX6 ∈ wsL_law := zr7 _ (List.mem_of_getElem? (i := 17) rfl)
theorem zw7_18 : Cond.fieldLink RX0 10 "PadConsole$Clock" "samples" "LPadConsole$Ring;" ∈ wsL_law := zr7 _ (List.mem_of_getElem? (i := 18) rfl)
theorem zw7_19 : Cond.fieldLink RX0 16 "PadConsole$Clock" "mixes" "LPadConsole$Ring;" ∈ wsL_law := zr7 _ (List.mem_of_getElem? (i := 19) rfl)
theorem zw7_20 : Cond.fieldLink RX0 19 "PadConsole$Clock" "counts" "[J" ∈ wsL_law := zr7 _ (List.mem_of_getElem? (i := 20) rfl)
theorem zw7_21 : Cond.fieldLink RX0 23 "PadConsole$Clock" "kept" "[J" ∈ wsL_law := zr7 _ (List.mem_of_getElem? (i := 21) rfl)
theorem zw7_22 : Cond.fieldLink RX0 26 "PadConsole$Clock" "tones" "LPadConsole$Sound;" ∈ wsL_law := zr7 _ (List.mem_of_getElem? (i := 22) rfl)
theorem zw7_23 : Cond.fieldLink RX0 30 "PadConsole$Clock" "synth" "LPadConsole$Waves;" ∈ wsL_law := zr7 _ (List.mem_of_getElem? (i := 23) rfl)
theorem zw8_3 : Cond.fieldLink RX6 9 "PadConsole$Ring" "values" "[J" ∈ wsL_law := zr8 _ (List.mem_of_getElem? (i := 3) rfl)
theorem zw8_4 : Cond.fieldLink RX6 13 "PadConsole$Ring" "kept" "[J" ∈ wsL_law := zr8 _ (List.mem_of_getElem? (i := 4) rfl)
theorem zw8_9 : Cond.fieldLink RX1 9 "PadConsole$Desk" "stops" "[I" ∈ wsL_law := zr8 _ (List.mem_of_getElem? (i := 9) rfl)
theorem zw8_10 : Cond.fieldLink RX1 13 "PadConsole$Desk" "stopsKept" "[I" ∈ wsL_law := zr8 _ (List.mem_of_getElem? (i := 10) rfl)
theorem zw8_11 : Cond.fieldLink RX1 16 "PadConsole$Desk" "plans" "[I" ∈ wsL_law := zr8 _ (List.mem_of_getElem? (i := 11) rfl)
theorem zw8_12 : Cond.fieldLink RX1 19 "PadConsole$Desk" "plansKept" "[I" ∈ wsL_law := zr8 _ (List.mem_of_getElem? (i := 12) rfl)
theorem zw8_13 : Cond.fieldLink RX1 22 "PadConsole$Desk" "steps" "[I" ∈ wsL_law := zr8 _ (List.mem_of_getElem? (i := 13) rfl)
theorem zw8_19 : Cond.fieldLink RX8 9 "PadConsole$Teller" "signs" "[I" ∈ wsL_law := zr8 _ (List.mem_of_getElem? (i := 19) rfl)
theorem zw8_20 : Cond.fieldLink RX8 13 "PadConsole$Teller" "memory" "LPadConsole$Memory;" ∈ wsL_law := zr8 _ (List.mem_of_getElem? (i := 20) rfl)
theorem zw9_1 : Cond.constant RX12 9 (262656) ∈ wsL_law := zr9 _ (List.mem_of_getElem? (i := 1) rfl)
theorem zw9_3 : Cond.fieldLink RX12 10 "PadConsoleModel" "tape" "[B" ∈ wsL_law := zr9 _ (List.mem_of_getElem? (i := 3) rfl)
theorem zw9_4 : Cond.constant RX12 14 (262144) ∈ wsL_law := zr9 _ (List.mem_of_getElem? (i := 4) rfl)
theorem zw9_5 : Cond.fieldLink RX12 15 "PadConsoleModel" "cartridge" "[B" ∈ wsL_law := zr9 _ (List.mem_of_getElem? (i := 5) rfl)
theorem zw9_6 : Cond.fieldLink RX12 18 "PadConsoleModel" "header" "I" ∈ wsL_law := zr9 _ (List.mem_of_getElem? (i := 6) rfl)
theorem zw9_7 : Cond.fieldLink RX12 22 "PadConsoleModel" "n" "[I" ∈ wsL_law := zr9 _ (List.mem_of_getElem? (i := 7) rfl)
theorem zw9_8 : Cond.fieldLink RX12 26 "PadConsoleModel" "all" "[J" ∈ wsL_law := zr9 _ (List.mem_of_getElem? (i := 8) rfl)
theorem zw9_9 : Cond.fieldLink RX12 30 "PadConsoleModel" "ram" "[B" ∈ wsL_law := zr9 _ (List.mem_of_getElem? (i := 9) rfl)
theorem zw9_10 : Cond.constant RX12 33 (32768) ∈ wsL_law := zr9 _ (List.mem_of_getElem? (i := 10) rfl)
theorem zw9_11 : Cond.fieldLink RX12 34 "PadConsoleModel" "battery" "[B" ∈ wsL_law := zr9 _ (List.mem_of_getElem? (i := 11) rfl)
theorem zw9_12 : Cond.fieldLink RX12 37 "PadConsoleModel" "vram" "[B" ∈ wsL_law := zr9 _ (List.mem_of_getElem? (i := 12) rfl)
theorem zw9_13 : Cond.fieldLink RX12 40 "PadConsoleModel" "cram" "[B" ∈ wsL_law := zr9 _ (List.mem_of_getElem? (i := 13) rfl)
theorem zw9_14 : Cond.constant RX12 43 (61440) ∈ wsL_law := zr9 _ (List.mem_of_getElem? (i := 14) rfl)
theorem zw9_15 : Cond.fieldLink RX12 44 "PadConsoleModel" "dots" "[I" ∈ wsL_law := zr9 _ (List.mem_of_getElem? (i := 15) rfl)
theorem zw9_16 : Cond.fieldLink RX12 47 "PadConsoleModel" "samples" "[J" ∈ wsL_law := zr9 _ (List.mem_of_getElem? (i := 16) rfl)
theorem zw9_17 : Cond.fieldLink RX12 50 "PadConsoleModel" "mixes" "[J" ∈ wsL_law := zr9 _ (List.mem_of_getElem? (i := 17) rfl)
theorem zw9_18 : Cond.fieldLink RX12 53 "PadConsoleModel" "savedN" "[I" ∈ wsL_law := zr9 _ (List.mem_of_getElem? (i := 18) rfl)
theorem zw9_19 : Cond.fieldLink RX12 56 "PadConsoleModel" "savedAll" "[J" ∈ wsL_law := zr9 _ (List.mem_of_getElem? (i := 19) rfl)
theorem zw9_20 : Cond.fieldLink RX12 59 "PadConsoleModel" "savedRam" "[B" ∈ wsL_law := zr9 _ (List.mem_of_getElem? (i := 20) rfl)
theorem zw9_21 : Cond.fieldLink RX12 62 "PadConsoleModel" "savedBattery" "[B" ∈ wsL_law := zr9 _ (List.mem_of_getElem? (i := 21) rfl)
theorem zw9_22 : Cond.fieldLink RX12 65 "PadConsoleModel" "savedVram" "[B" ∈ wsL_law := zr9 _ (List.mem_of_getElem? (i := 22) rfl)
theorem zw9_23 : Cond.fieldLink RX12 68 "PadConsoleModel" "savedCram" "[B" ∈ wsL_law := zr9 _ (List.mem_of_getElem? (i := 23) rfl)
theorem zw10_0 : Cond.fieldLink RX12 71 "PadConsoleModel" "savedDots" "[I" ∈ wsL_law := zr10 _ (List.mem_of_getElem? (i := 0) rfl)
theorem zw10_1 : Cond.fieldLink RX12 74 "PadConsoleModel" "savedSamples" "[J" ∈ wsL_law := zr10 _ (List.mem_of_getElem? (i := 1) rfl)
theorem zw10_2 : Cond.fieldLink RX12 77 "PadConsoleModel" "savedMixes" "[J" ∈ wsL_law := zr10 _ (List.mem_of_getElem? (i := 2) rfl)
theorem zw10_3 : Cond.fieldLink RX12 80 "PadConsoleModel" "trace" "[I" ∈ wsL_law := zr10 _ (List.mem_of_getElem? (i := 3) rfl)
theorem zw10_4 : Cond.fieldLink RX12 83 "PadConsoleModel" "line" "[I" ∈ wsL_law := zr10 _ (List.mem_of_getElem? (i := 4) rfl)
theorem zw10_6 : Cond.fieldLink RX12 86 "PadConsoleModel" "ahead" "[Z" ∈ wsL_law := zr10 _ (List.mem_of_getElem? (i := 6) rfl)
theorem zw10_7 : Cond.fieldLink RX12 90 "PadConsoleModel" "over" "[I" ∈ wsL_law := zr10 _ (List.mem_of_getElem? (i := 7) rfl)
theorem zw10_8 : Cond.fieldLink RX12 93 "PadConsoleModel" "one" "[Z" ∈ wsL_law := zr10 _ (List.mem_of_getElem? (i := 8) rfl)
theorem zw10_9 : Cond.fieldLink RX12 96 "PadConsoleModel" "text" "[I" ∈ wsL_law := zr10 _ (List.mem_of_getElem? (i := 9) rfl)
theorem zw10_10 : Cond.fieldLink RX12 99 "PadConsoleModel" "kind" "I" ∈ wsL_law := zr10 _ (List.mem_of_getElem? (i := 10) rfl)
theorem zw10_11 : Cond.methodLink RX12 102 yX12_anew ∈ wsL_law := zr10 _ (List.mem_of_getElem? (i := 11) rfl)
theorem zw10_12 : Cond.instanceMethod yX12_anew ∈ wsL_law := zr10 _ (List.mem_of_getElem? (i := 12) rfl)
theorem zw10_13 : Cond.selects RX12 yX12_anew yX12_anew ∈ wsL_law := zr10 _ (List.mem_of_getElem? (i := 13) rfl)
theorem zw10_14 : Cond.code yX12_anew cX12_anew 2 none ∈ wsL_law := zr10 _ (List.mem_of_getElem? (i := 14) rfl)
theorem zw10_15 : Cond.constant RX12 173 (57328) ∈ wsL_law := zr10 _ (List.mem_of_getElem? (i := 15) rfl)
theorem zw10_16 : Cond.fieldLink RX12 137 "PadConsoleModel" "paging" "I" ∈ wsL_law := zr10 _ (List.mem_of_getElem? (i := 16) rfl)
theorem zw11_1 : Cond.classLink RX11 95 "java/lang/IllegalArgumentException" ∈ wsL_law := zr11 _ (List.mem_of_getElem? (i := 1) rfl)
theorem zw11_2 : Cond.initialized "java/lang/IllegalArgumentException" ∈ wsL_law := zr11 _ (List.mem_of_getElem? (i := 2) rfl)
theorem zw11_3 : Cond.classLink RX11 107 "java/lang/IllegalStateException" ∈ wsL_law := zr11 _ (List.mem_of_getElem? (i := 3) rfl)
theorem zw11_4 : Cond.initialized "java/lang/IllegalStateException" ∈ wsL_law := zr11 _ (List.mem_of_getElem? (i := 4) rfl)
theorem zw11_5 : Cond.fieldLink RX11 102 "PadConsole$Memory" "tapeLength" "I" ∈ wsL_law := zr11 _ (List.mem_of_getElem? (i := 5) rfl)
theorem zw11_6 : Cond.constant RX11 106 (262656) ∈ wsL_law := zr11 _ (List.mem_of_getElem? (i := 6) rfl)
theorem zw11_7 : Cond.methodLink RX11 112 yX2_addToTape ∈ wsL_law := zr11 _ (List.mem_of_getElem? (i := 7) rfl)
theorem zw11_8 : Cond.instanceMethod yX2_addToTape ∈ wsL_law := zr11 _ (List.mem_of_getElem? (i := 8) rfl)
theorem zw11_9 : Cond.selects RX2 yX2_addToTape yX2_addToTape ∈ wsL_law := zr11 _ (List.mem_of_getElem? (i := 9) rfl)
theorem zw11_10 : Cond.code yX2_addToTape cX2_addToTape 2 none ∈ wsL_law := zr11 _ (List.mem_of_getElem? (i := 10) rfl)
theorem zw11_11 : Cond.fieldLink RX2 40 "PadConsole$Memory" "tapeLength" "I" ∈ wsL_law := zr11 _ (List.mem_of_getElem? (i := 11) rfl)
theorem zw11_16 : Cond.constantLong RX12 108 (24) ∈ wsL_law := zr11 _ (List.mem_of_getElem? (i := 16) rfl)
theorem zw11_17 : Cond.fieldLink RX12 118 "PadConsoleModel" "taped" "I" ∈ wsL_law := zr11 _ (List.mem_of_getElem? (i := 17) rfl)
theorem zw11_18 : Cond.methodLink RX12 110 yX12_within ∈ wsL_law := zr11 _ (List.mem_of_getElem? (i := 18) rfl)
theorem zw11_19 : Cond.static yX12_within ∈ wsL_law := zr11 _ (List.mem_of_getElem? (i := 19) rfl)
theorem zw11_20 : Cond.code yX12_within cX12_within 6 (some .boolean) ∈ wsL_law := zr11 _ (List.mem_of_getElem? (i := 20) rfl)
theorem zw11_21 : Cond.methodLink RX12 114 yX12_fails ∈ wsL_law := zr11 _ (List.mem_of_getElem? (i := 21) rfl)
theorem zw11_22 : Cond.instanceMethod yX12_fails ∈ wsL_law := zr11 _ (List.mem_of_getElem? (i := 22) rfl)
theorem zw11_23 : Cond.selects RX12 yX12_fails yX12_fails ∈ wsL_law := zr11 _ (List.mem_of_getElem? (i := 23) rfl)
theorem zw12_0 : Cond.code yX12_fails cX12_fails 3 (some .boolean) ∈ wsL_law := zr12 _ (List.mem_of_getElem? (i := 0) rfl)
theorem zw12_1 : Cond.fieldLink RX12 105 "PadConsoleModel" "thrown" "I" ∈ wsL_law := zr12 _ (List.mem_of_getElem? (i := 1) rfl)
theorem zw12_9 : Cond.methodLink RX11 120 yX2_repeatTape ∈ wsL_law := zr12 _ (List.mem_of_getElem? (i := 9) rfl)
theorem zw12_10 : Cond.instanceMethod yX2_repeatTape ∈ wsL_law := zr12 _ (List.mem_of_getElem? (i := 10) rfl)
theorem zw12_11 : Cond.selects RX2 yX2_repeatTape yX2_repeatTape ∈ wsL_law := zr12 _ (List.mem_of_getElem? (i := 11) rfl)
theorem zw12_12 : Cond.code yX2_repeatTape cX2_repeatTape 5 none ∈ wsL_law := zr12 _ (List.mem_of_getElem? (i := 12) rfl)
theorem zw12_13 : Cond.methodLink RX2 43 Lib.Math.min.name ∈ wsL_law := zr12 _ (List.mem_of_getElem? (i := 13) rfl)
theorem zw12_14 : Cond.static Lib.Math.min.name ∈ wsL_law := zr12 _ (List.mem_of_getElem? (i := 14) rfl)
theorem zw12_15 : Cond.initialized "java/lang/Math" ∈ wsL_law := zr12 _ (List.mem_of_getElem? (i := 15) rfl)
theorem zw12_16 : Cond.code Lib.Math.min.name Lib.Math.min.code 2 (some .int) ∈ wsL_law := zr12 _ (List.mem_of_getElem? (i := 16) rfl)
theorem zw12_17 : Cond.methodLink RX2 49 Lib.Math.max.name ∈ wsL_law := zr12 _ (List.mem_of_getElem? (i := 17) rfl)
theorem zw12_18 : Cond.static Lib.Math.max.name ∈ wsL_law := zr12 _ (List.mem_of_getElem? (i := 18) rfl)
theorem zw12_19 : Cond.code Lib.Math.max.name Lib.Math.max.code 2 (some .int) ∈ wsL_law := zr12 _ (List.mem_of_getElem? (i := 19) rfl)
theorem zw13_7 : Cond.methodLink RX11 125 yX2_changeTape ∈ wsL_law := zr13 _ (List.mem_of_getElem? (i := 7) rfl)
theorem zw13_8 : Cond.instanceMethod yX2_changeTape ∈ wsL_law := zr13 _ (List.mem_of_getElem? (i := 8) rfl)
theorem zw13_9 : Cond.selects RX2 yX2_changeTape yX2_changeTape ∈ wsL_law := zr13 _ (List.mem_of_getElem? (i := 9) rfl)
theorem zw13_10 : Cond.code yX2_changeTape cX2_changeTape 5 none ∈ wsL_law := zr13 _ (List.mem_of_getElem? (i := 10) rfl)
theorem zw13_19 : Cond.fieldLink RX11 139 "PadConsole" "saved" "Z" ∈ wsL_law := zr13 _ (List.mem_of_getElem? (i := 19) rfl)
theorem zw13_20 : Cond.methodLink RX11 129 yX2_takeTape ∈ wsL_law := zr13 _ (List.mem_of_getElem? (i := 20) rfl)
theorem zw13_21 : Cond.instanceMethod yX2_takeTape ∈ wsL_law := zr13 _ (List.mem_of_getElem? (i := 21) rfl)
theorem zw13_22 : Cond.selects RX2 yX2_takeTape yX2_takeTape ∈ wsL_law := zr13 _ (List.mem_of_getElem? (i := 22) rfl)
theorem zw13_23 : Cond.code yX2_takeTape cX2_takeTape 4 (some .int) ∈ wsL_law := zr13 _ (List.mem_of_getElem? (i := 23) rfl)
theorem zw14_0 : Cond.fieldLink RX2 52 "PadConsole$Memory" "base" "I" ∈ wsL_law := zr14 _ (List.mem_of_getElem? (i := 0) rfl)
theorem zw14_1 : Cond.fieldLink RX2 55 "PadConsole$Memory" "size" "I" ∈ wsL_law := zr14 _ (List.mem_of_getElem? (i := 1) rfl)
theorem zw14_2 : Cond.fieldLink RX2 58 "PadConsole$Memory" "banks" "I" ∈ wsL_law := zr14 _ (List.mem_of_getElem? (i := 2) rfl)
theorem zw14_3 : Cond.fieldLink RX2 68 "PadConsole$Memory" "paging" "I" ∈ wsL_law := zr14 _ (List.mem_of_getElem? (i := 3) rfl)
theorem zw14_4 : Cond.methodLink RX2 61 yX2_findHeader ∈ wsL_law := zr14 _ (List.mem_of_getElem? (i := 4) rfl)
theorem zw14_5 : Cond.instanceMethod yX2_findHeader ∈ wsL_law := zr14 _ (List.mem_of_getElem? (i := 5) rfl)
theorem zw14_6 : Cond.selects RX2 yX2_findHeader yX2_findHeader ∈ wsL_law := zr14 _ (List.mem_of_getElem? (i := 6) rfl)
theorem zw14_7 : Cond.code yX2_findHeader cX2_findHeader 7 (some .int) ∈ wsL_law := zr14 _ (List.mem_of_getElem? (i := 7) rfl)
theorem zw14_8 : Cond.fieldLink RX2 71 "PadConsole$Memory" "HEADER_PLACES" "[I" ∈ wsL_law := zr14 _ (List.mem_of_getElem? (i := 8) rfl)
theorem zw14_9 : Cond.fieldLink RX2 78 "PadConsole$Memory" "HEADER_SIGNS" "[I" ∈ wsL_law := zr14 _ (List.mem_of_getElem? (i := 9) rfl)
theorem zw14_10 : Cond.methodLink RX2 74 yX2_romByte ∈ wsL_law := zr14 _ (List.mem_of_getElem? (i := 10) rfl)
theorem zw14_11 : Cond.instanceMethod yX2_romByte ∈ wsL_law := zr14 _ (List.mem_of_getElem? (i := 11) rfl)
theorem zw14_12 : Cond.selects RX2 yX2_romByte yX2_romByte ∈ wsL_law := zr14 _ (List.mem_of_getElem? (i := 12) rfl)
theorem zw14_13 : Cond.code yX2_romByte cX2_romByte 2 (some .int) ∈ wsL_law := zr14 _ (List.mem_of_getElem? (i := 13) rfl)
theorem zw14_14 : Cond.methodLink RX2 65 yX2_findPaging ∈ wsL_law := zr14 _ (List.mem_of_getElem? (i := 14) rfl)
theorem zw14_15 : Cond.instanceMethod yX2_findPaging ∈ wsL_law := zr14 _ (List.mem_of_getElem? (i := 15) rfl)
theorem zw14_16 : Cond.selects RX2 yX2_findPaging yX2_findPaging ∈ wsL_law := zr14 _ (List.mem_of_getElem? (i := 16) rfl)
theorem zw14_17 : Cond.code yX2_findPaging cX2_findPaging 1 (some .int) ∈ wsL_law := zr14 _ (List.mem_of_getElem? (i := 17) rfl)
theorem zw14_18 : Cond.constant RX2 81 (49152) ∈ wsL_law := zr14 _ (List.mem_of_getElem? (i := 18) rfl)
theorem zw14_19 : Cond.constant RX2 85 (65536) ∈ wsL_law := zr14 _ (List.mem_of_getElem? (i := 19) rfl)
theorem zw14_20 : Cond.methodLink RX2 82 yX2_romWord ∈ wsL_law := zr14 _ (List.mem_of_getElem? (i := 20) rfl)
theorem zw14_21 : Cond.instanceMethod yX2_romWord ∈ wsL_law := zr14 _ (List.mem_of_getElem? (i := 21) rfl)
theorem zw14_22 : Cond.selects RX2 yX2_romWord yX2_romWord ∈ wsL_law := zr14 _ (List.mem_of_getElem? (i := 22) rfl)
theorem zw14_23 : Cond.code yX2_romWord cX2_romWord 2 (some .int) ∈ wsL_law := zr14 _ (List.mem_of_getElem? (i := 23) rfl)
theorem zw15_0 : Cond.methodLink RX11 133 yX2_clearRam ∈ wsL_law := zr15 _ (List.mem_of_getElem? (i := 0) rfl)
theorem zw15_1 : Cond.instanceMethod yX2_clearRam ∈ wsL_law := zr15 _ (List.mem_of_getElem? (i := 1) rfl)
theorem zw15_2 : Cond.selects RX2 yX2_clearRam yX2_clearRam ∈ wsL_law := zr15 _ (List.mem_of_getElem? (i := 2) rfl)
theorem zw15_3 : Cond.code yX2_clearRam cX2_clearRam 1 none ∈ wsL_law := zr15 _ (List.mem_of_getElem? (i := 3) rfl)
theorem zw15_4 : Cond.methodLink RX2 103 yJ7_fill_53178 ∈ wsL_law := zr15 _ (List.mem_of_getElem? (i := 4) rfl)
theorem zw15_5 : Cond.methodLink RX11 136 yX11_clearAll ∈ wsL_law := zr15 _ (List.mem_of_getElem? (i := 5) rfl)
theorem zw15_6 : Cond.instanceMethod yX11_clearAll ∈ wsL_law := zr15 _ (List.mem_of_getElem? (i := 6) rfl)
theorem zw15_7 : Cond.selects RX11 yX11_clearAll yX11_clearAll ∈ wsL_law := zr15 _ (List.mem_of_getElem? (i := 7) rfl)
theorem zw15_8 : Cond.code yX11_clearAll cX11_clearAll 1 none ∈ wsL_law := zr15 _ (List.mem_of_getElem? (i := 8) rfl)
theorem zw15_9 : Cond.methodLink RX11 338 yX2_clearPages ∈ wsL_law := zr15 _ (List.mem_of_getElem? (i := 9) rfl)
theorem zw15_10 : Cond.instanceMethod yX2_clearPages ∈ wsL_law := zr15 _ (List.mem_of_getElem? (i := 10) rfl)
theorem zw15_11 : Cond.selects RX2 yX2_clearPages yX2_clearPages ∈ wsL_law := zr15 _ (List.mem_of_getElem? (i := 11) rfl)
theorem zw15_12 : Cond.code yX2_clearPages cX2_clearPages 1 none ∈ wsL_law := zr15 _ (List.mem_of_getElem? (i := 12) rfl)
theorem zw15_13 : Cond.methodLink RX11 341 yX9_clear ∈ wsL_law := zr15 _ (List.mem_of_getElem? (i := 13) rfl)
theorem zw15_14 : Cond.instanceMethod yX9_clear ∈ wsL_law := zr15 _ (List.mem_of_getElem? (i := 14) rfl)
theorem zw15_15 : Cond.selects RX9 yX9_clear yX9_clear ∈ wsL_law := zr15 _ (List.mem_of_getElem? (i := 15) rfl)
theorem zw15_16 : Cond.code yX9_clear cX9_clear 1 none ∈ wsL_law := zr15 _ (List.mem_of_getElem? (i := 16) rfl)
theorem zw15_17 : Cond.methodLink RX9 30 yJ7_fill_53178 ∈ wsL_law := zr15 _ (List.mem_of_getElem? (i := 17) rfl)
theorem zw15_18 : Cond.methodLink RX11 344 yX7_clear ∈ wsL_law := zr15 _ (List.mem_of_getElem? (i := 18) rfl)
theorem zw15_19 : Cond.methodLink RX11 345 yX10_clear ∈ wsL_law := zr15 _ (List.mem_of_getElem? (i := 19) rfl)
theorem zw15_20 : Cond.methodLink RX11 346 yX4_clear ∈ wsL_law := zr15 _ (List.mem_of_getElem? (i := 20) rfl)
theorem zw15_21 : Cond.methodLink RX11 347 yX5_clear ∈ wsL_law := zr15 _ (List.mem_of_getElem? (i := 21) rfl)
theorem zw15_22 : Cond.instanceMethod yX5_clear ∈ wsL_law := zr15 _ (List.mem_of_getElem? (i := 22) rfl)
theorem zw15_23 : Cond.selects RX5 yX5_clear yX5_clear ∈ wsL_law := zr15 _ (List.mem_of_getElem? (i := 23) rfl)
theorem zw16_0 : Cond.code yX5_clear cX5_clear 1 none ∈ wsL_law := zr16 _ (List.mem_of_getElem? (i := 0) rfl)
theorem zw16_1 : Cond.methodLink RX5 29 yJ7_fill_53178 ∈ wsL_law := zr16 _ (List.mem_of_getElem? (i := 1) rfl)
theorem zw16_6 : Cond.fieldLink RX12 121 "PadConsoleModel" "size" "I" ∈ wsL_law := zr16 _ (List.mem_of_getElem? (i := 6) rfl)
theorem zw16_7 : Cond.fieldLink RX12 124 "PadConsoleModel" "banks" "I" ∈ wsL_law := zr16 _ (List.mem_of_getElem? (i := 7) rfl)
theorem zw16_8 : Cond.constant RX12 131 (49152) ∈ wsL_law := zr16 _ (List.mem_of_getElem? (i := 8) rfl)
theorem zw16_9 : Cond.constant RX12 136 (65536) ∈ wsL_law := zr16 _ (List.mem_of_getElem? (i := 9) rfl)
theorem zw16_10 : Cond.fieldLink RX12 140 "PadConsoleModel" "sum" "I" ∈ wsL_law := zr16 _ (List.mem_of_getElem? (i := 10) rfl)
theorem zw16_11 : Cond.constant RX12 143 (65535) ∈ wsL_law := zr16 _ (List.mem_of_getElem? (i := 11) rfl)
theorem zw16_12 : Cond.fieldLink RX12 144 "PadConsoleModel" "saved" "Z" ∈ wsL_law := zr16 _ (List.mem_of_getElem? (i := 12) rfl)
theorem zw16_13 : Cond.methodLink RX12 127 yX12_isHeader ∈ wsL_law := zr16 _ (List.mem_of_getElem? (i := 13) rfl)
theorem zw16_14 : Cond.instanceMethod yX12_isHeader ∈ wsL_law := zr16 _ (List.mem_of_getElem? (i := 14) rfl)
theorem zw16_15 : Cond.selects RX12 yX12_isHeader yX12_isHeader ∈ wsL_law := zr16 _ (List.mem_of_getElem? (i := 15) rfl)
theorem zw16_16 : Cond.code yX12_isHeader cX12_isHeader 3 (some .boolean) ∈ wsL_law := zr16 _ (List.mem_of_getElem? (i := 16) rfl)
theorem zw16_17 : Cond.methodLink RX12 132 yX12_bytesAt ∈ wsL_law := zr16 _ (List.mem_of_getElem? (i := 17) rfl)
theorem zw16_18 : Cond.instanceMethod yX12_bytesAt ∈ wsL_law := zr16 _ (List.mem_of_getElem? (i := 18) rfl)
theorem zw16_19 : Cond.selects RX12 yX12_bytesAt yX12_bytesAt ∈ wsL_law := zr16 _ (List.mem_of_getElem? (i := 19) rfl)
theorem zw16_20 : Cond.code yX12_bytesAt cX12_bytesAt 5 (some .int) ∈ wsL_law := zr16 _ (List.mem_of_getElem? (i := 20) rfl)
theorem zw17_4 : Cond.methodLink RX11 144 yX2_aboutCard ∈ wsL_law := zr17 _ (List.mem_of_getElem? (i := 4) rfl)
theorem zw17_5 : Cond.instanceMethod yX2_aboutCard ∈ wsL_law := zr17 _ (List.mem_of_getElem? (i := 5) rfl)
theorem zw17_6 : Cond.selects RX2 yX2_aboutCard yX2_aboutCard ∈ wsL_law := zr17 _ (List.mem_of_getElem? (i := 6) rfl)
theorem zw17_7 : Cond.code yX2_aboutCard cX2_aboutCard 2 (some .int) ∈ wsL_law := zr17 _ (List.mem_of_getElem? (i := 7) rfl)
theorem zw17_8 : Cond.methodLink RX2 86 yX2_decimal ∈ wsL_law := zr17 _ (List.mem_of_getElem? (i := 8) rfl)
theorem zw17_9 : Cond.instanceMethod yX2_decimal ∈ wsL_law := zr17 _ (List.mem_of_getElem? (i := 9) rfl)
theorem zw17_10 : Cond.selects RX2 yX2_decimal yX2_decimal ∈ wsL_law := zr17 _ (List.mem_of_getElem? (i := 10) rfl)
theorem zw17_11 : Cond.code yX2_decimal cX2_decimal 3 (some .int) ∈ wsL_law := zr17 _ (List.mem_of_getElem? (i := 11) rfl)
theorem zw17_12 : Cond.methodLink RX2 89 yX2_sumOfCard ∈ wsL_law := zr17 _ (List.mem_of_getElem? (i := 12) rfl)
theorem zw17_13 : Cond.instanceMethod yX2_sumOfCard ∈ wsL_law := zr17 _ (List.mem_of_getElem? (i := 13) rfl)
theorem zw17_14 : Cond.selects RX2 yX2_sumOfCard yX2_sumOfCard ∈ wsL_law := zr17 _ (List.mem_of_getElem? (i := 14) rfl)
theorem zw17_15 : Cond.code yX2_sumOfCard cX2_sumOfCard 4 (some .int) ∈ wsL_law := zr17 _ (List.mem_of_getElem? (i := 15) rfl)
theorem zw17_16 : Cond.constant RX2 92 (65535) ∈ wsL_law := zr17 _ (List.mem_of_getElem? (i := 16) rfl)
theorem zw17_21 : Cond.constantLong RX12 148 (7) ∈ wsL_law := zr17 _ (List.mem_of_getElem? (i := 21) rfl)
theorem zw17_22 : Cond.methodLink RX12 150 yX12_tens ∈ wsL_law := zr17 _ (List.mem_of_getElem? (i := 22) rfl)
theorem zw17_23 : Cond.instanceMethod yX12_tens ∈ wsL_law := zr17 _ (List.mem_of_getElem? (i := 23) rfl)
theorem zw18_0 : Cond.selects RX12 yX12_tens yX12_tens ∈ wsL_law := zr18 _ (List.mem_of_getElem? (i := 0) rfl)
theorem zw18_1 : Cond.code yX12_tens cX12_tens 2 (some .int) ∈ wsL_law := zr18 _ (List.mem_of_getElem? (i := 1) rfl)
theorem zw18_9 : Cond.methodLink RX11 150 yX11_run ∈ wsL_law := zr18 _ (List.mem_of_getElem? (i := 9) rfl)
theorem zw18_10 : Cond.instanceMethod yX11_run ∈ wsL_law := zr18 _ (List.mem_of_getElem? (i := 10) rfl)
theorem zw18_11 : Cond.selects RX11 yX11_run yX11_run ∈ wsL_law := zr18 _ (List.mem_of_getElem? (i := 11) rfl)
theorem zw18_12 : Cond.code yX11_run cX11_run 8 (some .int) ∈ wsL_law := zr18 _ (List.mem_of_getElem? (i := 12) rfl)
theorem zw18_13 : Cond.methodLink RX11 325 yX0_count ∈ wsL_law := zr18 _ (List.mem_of_getElem? (i := 13) rfl)
theorem zw18_14 : Cond.instanceMethod yX0_count ∈ wsL_law := zr18 _ (List.mem_of_getElem? (i := 14) rfl)
theorem zw18_15 : Cond.selects RX0 yX0_count yX0_count ∈ wsL_law := zr18 _ (List.mem_of_getElem? (i := 15) rfl)
theorem zw18_16 : Cond.code yX0_count cX0_count 2 (some .long) ∈ wsL_law := zr18 _ (List.mem_of_getElem? (i := 16) rfl)
theorem zw18_17 : Cond.methodLink RX11 247 yX5_value ∈ wsL_law := zr18 _ (List.mem_of_getElem? (i := 17) rfl)
theorem zw18_18 : Cond.instanceMethod yX5_value ∈ wsL_law := zr18 _ (List.mem_of_getElem? (i := 18) rfl)
theorem zw18_19 : Cond.selects RX5 yX5_value yX5_value ∈ wsL_law := zr18 _ (List.mem_of_getElem? (i := 19) rfl)
theorem zw18_20 : Cond.code yX5_value cX5_value 2 (some .int) ∈ wsL_law := zr18 _ (List.mem_of_getElem? (i := 20) rfl)
theorem zw18_21 : Cond.methodLink RX11 348 yX1_isStop ∈ wsL_law := zr18 _ (List.mem_of_getElem? (i := 21) rfl)
theorem zw18_22 : Cond.instanceMethod yX1_isStop ∈ wsL_law := zr18 _ (List.mem_of_getElem? (i := 22) rfl)
theorem zw18_23 : Cond.selects RX1 yX1_isStop yX1_isStop ∈ wsL_law := zr18 _ (List.mem_of_getElem? (i := 23) rfl)
theorem zw19_0 : Cond.code yX1_isStop cX1_isStop 2 (some .boolean) ∈ wsL_law := zr19 _ (List.mem_of_getElem? (i := 0) rfl)
theorem zw19_1 : Cond.methodLink RX1 41 yX1_placeOfStop ∈ wsL_law := zr19 _ (List.mem_of_getElem? (i := 1) rfl)
theorem zw19_2 : Cond.instanceMethod yX1_placeOfStop ∈ wsL_law := zr19 _ (List.mem_of_getElem? (i := 2) rfl)
theorem zw19_3 : Cond.selects RX1 yX1_placeOfStop yX1_placeOfStop ∈ wsL_law := zr19 _ (List.mem_of_getElem? (i := 3) rfl)
theorem zw19_4 : Cond.code yX1_placeOfStop cX1_placeOfStop 3 (some .int) ∈ wsL_law := zr19 _ (List.mem_of_getElem? (i := 4) rfl)
theorem zw19_5 : Cond.methodLink RX11 351 yX1_noteStep ∈ wsL_law := zr19 _ (List.mem_of_getElem? (i := 5) rfl)
theorem zw19_6 : Cond.instanceMethod yX1_noteStep ∈ wsL_law := zr19 _ (List.mem_of_getElem? (i := 6) rfl)
theorem zw19_7 : Cond.selects RX1 yX1_noteStep yX1_noteStep ∈ wsL_law := zr19 _ (List.mem_of_getElem? (i := 7) rfl)
theorem zw19_8 : Cond.code yX1_noteStep cX1_noteStep 2 none ∈ wsL_law := zr19 _ (List.mem_of_getElem? (i := 8) rfl)
theorem zw19_9 : Cond.fieldLink RX1 37 "PadConsole$Desk" "nextStep" "I" ∈ wsL_law := zr19 _ (List.mem_of_getElem? (i := 9) rfl)
theorem zw19_10 : Cond.methodLink RX11 354 yX9_asks ∈ wsL_law := zr19 _ (List.mem_of_getElem? (i := 10) rfl)
theorem zw19_11 : Cond.instanceMethod yX9_asks ∈ wsL_law := zr19 _ (List.mem_of_getElem? (i := 11) rfl)
theorem zw19_12 : Cond.selects RX9 yX9_asks yX9_asks ∈ wsL_law := zr19 _ (List.mem_of_getElem? (i := 12) rfl)
theorem zw19_13 : Cond.code yX9_asks cX9_asks 1 (some .boolean) ∈ wsL_law := zr19 _ (List.mem_of_getElem? (i := 13) rfl)
theorem zw19_14 : Cond.methodLink RX11 358 yX5_answerCalls ∈ wsL_law := zr19 _ (List.mem_of_getElem? (i := 14) rfl)
theorem zw19_15 : Cond.instanceMethod yX5_answerCalls ∈ wsL_law := zr19 _ (List.mem_of_getElem? (i := 15) rfl)
theorem zw19_16 : Cond.selects RX5 yX5_answerCalls yX5_answerCalls ∈ wsL_law := zr19 _ (List.mem_of_getElem? (i := 16) rfl)
theorem zw19_17 : Cond.code yX5_answerCalls cX5_answerCalls 3 (some .int) ∈ wsL_law := zr19 _ (List.mem_of_getElem? (i := 17) rfl)
theorem zw19_18 : Cond.methodLink RX5 48 yX5_breakOff ∈ wsL_law := zr19 _ (List.mem_of_getElem? (i := 18) rfl)
theorem zw19_19 : Cond.instanceMethod yX5_breakOff ∈ wsL_law := zr19 _ (List.mem_of_getElem? (i := 19) rfl)
theorem zw19_20 : Cond.selects RX5 yX5_breakOff yX5_breakOff ∈ wsL_law := zr19 _ (List.mem_of_getElem? (i := 20) rfl)
theorem zw19_21 : Cond.code yX5_breakOff cX5_breakOff 2 none ∈ wsL_law := zr19 _ (List.mem_of_getElem? (i := 21) rfl)
theorem zw19_22 : Cond.methodLink RX5 56 yX5_growR ∈ wsL_law := zr19 _ (List.mem_of_getElem? (i := 22) rfl)
theorem zw19_23 : Cond.instanceMethod yX5_growR ∈ wsL_law := zr19 _ (List.mem_of_getElem? (i := 23) rfl)
theorem zw20_0 : Cond.selects RX5 yX5_growR yX5_growR ∈ wsL_law := zr20 _ (List.mem_of_getElem? (i := 0) rfl)
theorem zw20_1 : Cond.code yX5_growR cX5_growR 1 none ∈ wsL_law := zr20 _ (List.mem_of_getElem? (i := 1) rfl)
theorem zw20_2 : Cond.methodLink RX5 59 yX5_push ∈ wsL_law := zr20 _ (List.mem_of_getElem? (i := 2) rfl)
theorem zw20_3 : Cond.instanceMethod yX5_push ∈ wsL_law := zr20 _ (List.mem_of_getElem? (i := 3) rfl)
theorem zw20_4 : Cond.selects RX5 yX5_push yX5_push ∈ wsL_law := zr20 _ (List.mem_of_getElem? (i := 4) rfl)
theorem zw20_5 : Cond.code yX5_push cX5_push 2 none ∈ wsL_law := zr20 _ (List.mem_of_getElem? (i := 5) rfl)
theorem zw20_6 : Cond.constant RX5 47 (65535) ∈ wsL_law := zr20 _ (List.mem_of_getElem? (i := 6) rfl)
theorem zw20_7 : Cond.methodLink RX5 117 yX2_write ∈ wsL_law := zr20 _ (List.mem_of_getElem? (i := 7) rfl)
theorem zw20_8 : Cond.instanceMethod yX2_write ∈ wsL_law := zr20 _ (List.mem_of_getElem? (i := 8) rfl)
theorem zw20_9 : Cond.selects RX2 yX2_write yX2_write ∈ wsL_law := zr20 _ (List.mem_of_getElem? (i := 9) rfl)
theorem zw20_10 : Cond.code yX2_write cX2_write 4 none ∈ wsL_law := zr20 _ (List.mem_of_getElem? (i := 10) rfl)
theorem zw20_11 : Cond.constant RX2 100 (65532) ∈ wsL_law := zr20 _ (List.mem_of_getElem? (i := 11) rfl)
theorem zw20_12 : Cond.constant RX2 101 (65533) ∈ wsL_law := zr20 _ (List.mem_of_getElem? (i := 12) rfl)
theorem zw20_13 : Cond.constant RX2 102 (40960) ∈ wsL_law := zr20 _ (List.mem_of_getElem? (i := 13) rfl)
theorem zw20_14 : Cond.methodLink RX2 93 yX2_batteryIsIn ∈ wsL_law := zr20 _ (List.mem_of_getElem? (i := 14) rfl)
theorem zw20_15 : Cond.instanceMethod yX2_batteryIsIn ∈ wsL_law := zr20 _ (List.mem_of_getElem? (i := 15) rfl)
theorem zw20_16 : Cond.selects RX2 yX2_batteryIsIn yX2_batteryIsIn ∈ wsL_law := zr20 _ (List.mem_of_getElem? (i := 16) rfl)
theorem zw20_17 : Cond.code yX2_batteryIsIn cX2_batteryIsIn 1 (some .boolean) ∈ wsL_law := zr20 _ (List.mem_of_getElem? (i := 17) rfl)
theorem zw20_18 : Cond.methodLink RX2 97 yX2_batteryPlace ∈ wsL_law := zr20 _ (List.mem_of_getElem? (i := 18) rfl)
theorem zw20_19 : Cond.instanceMethod yX2_batteryPlace ∈ wsL_law := zr20 _ (List.mem_of_getElem? (i := 19) rfl)
theorem zw20_20 : Cond.selects RX2 yX2_batteryPlace yX2_batteryPlace ∈ wsL_law := zr20 _ (List.mem_of_getElem? (i := 20) rfl)
theorem zw20_21 : Cond.code yX2_batteryPlace cX2_batteryPlace 2 (some .int) ∈ wsL_law := zr20 _ (List.mem_of_getElem? (i := 21) rfl)
theorem zw20_22 : Cond.methodLink RX5 62 yX5_goTo ∈ wsL_law := zr20 _ (List.mem_of_getElem? (i := 22) rfl)
theorem zw20_23 : Cond.instanceMethod yX5_goTo ∈ wsL_law := zr20 _ (List.mem_of_getElem? (i := 23) rfl)
theorem zw21_0 : Cond.selects RX5 yX5_goTo yX5_goTo ∈ wsL_law := zr21 _ (List.mem_of_getElem? (i := 0) rfl)
theorem zw21_1 : Cond.code yX5_goTo cX5_goTo 2 none ∈ wsL_law := zr21 _ (List.mem_of_getElem? (i := 1) rfl)
theorem zw21_2 : Cond.methodLink RX5 52 yX5_readWord ∈ wsL_law := zr21 _ (List.mem_of_getElem? (i := 2) rfl)
theorem zw21_3 : Cond.instanceMethod yX5_readWord ∈ wsL_law := zr21 _ (List.mem_of_getElem? (i := 3) rfl)
theorem zw21_4 : Cond.selects RX5 yX5_readWord yX5_readWord ∈ wsL_law := zr21 _ (List.mem_of_getElem? (i := 4) rfl)
theorem zw21_5 : Cond.code yX5_readWord cX5_readWord 2 (some .int) ∈ wsL_law := zr21 _ (List.mem_of_getElem? (i := 5) rfl)
theorem zw21_6 : Cond.methodLink RX5 75 yX2_read ∈ wsL_law := zr21 _ (List.mem_of_getElem? (i := 6) rfl)
theorem zw21_7 : Cond.instanceMethod yX2_read ∈ wsL_law := zr21 _ (List.mem_of_getElem? (i := 7) rfl)
theorem zw21_8 : Cond.selects RX2 yX2_read yX2_read ∈ wsL_law := zr21 _ (List.mem_of_getElem? (i := 8) rfl)
theorem zw21_9 : Cond.code yX2_read cX2_read 7 (some .int) ∈ wsL_law := zr21 _ (List.mem_of_getElem? (i := 9) rfl)
theorem zw21_10 : Cond.methodLink RX11 362 yX5_carryOn ∈ wsL_law := zr21 _ (List.mem_of_getElem? (i := 10) rfl)
theorem zw21_11 : Cond.instanceMethod yX5_carryOn ∈ wsL_law := zr21 _ (List.mem_of_getElem? (i := 11) rfl)
theorem zw21_12 : Cond.selects RX5 yX5_carryOn yX5_carryOn ∈ wsL_law := zr21 _ (List.mem_of_getElem? (i := 12) rfl)
theorem zw21_13 : Cond.code yX5_carryOn cX5_carryOn 4 (some .int) ∈ wsL_law := zr21 _ (List.mem_of_getElem? (i := 13) rfl)
theorem zw21_14 : Cond.fieldLink RX5 68 "PadConsole$Processor" "place" "I" ∈ wsL_law := zr21 _ (List.mem_of_getElem? (i := 14) rfl)
theorem zw21_15 : Cond.methodLink RX5 65 yX5_pairAt ∈ wsL_law := zr21 _ (List.mem_of_getElem? (i := 15) rfl)
theorem zw21_16 : Cond.instanceMethod yX5_pairAt ∈ wsL_law := zr21 _ (List.mem_of_getElem? (i := 16) rfl)
theorem zw21_17 : Cond.selects RX5 yX5_pairAt yX5_pairAt ∈ wsL_law := zr21 _ (List.mem_of_getElem? (i := 17) rfl)
theorem zw21_18 : Cond.code yX5_pairAt cX5_pairAt 2 (some .int) ∈ wsL_law := zr21 _ (List.mem_of_getElem? (i := 18) rfl)
theorem zw21_19 : Cond.methodLink RX5 71 yX5_fetchOp ∈ wsL_law := zr21 _ (List.mem_of_getElem? (i := 19) rfl)
theorem zw21_20 : Cond.instanceMethod yX5_fetchOp ∈ wsL_law := zr21 _ (List.mem_of_getElem? (i := 20) rfl)
theorem zw21_21 : Cond.selects RX5 yX5_fetchOp yX5_fetchOp ∈ wsL_law := zr21 _ (List.mem_of_getElem? (i := 21) rfl)
theorem zw21_22 : Cond.code yX5_fetchOp cX5_fetchOp 1 (some .int) ∈ wsL_law := zr21 _ (List.mem_of_getElem? (i := 22) rfl)
theorem zw21_23 : Cond.methodLink RX5 114 yX5_fetch ∈ wsL_law := zr21 _ (List.mem_of_getElem? (i := 23) rfl)
theorem zw22_0 : Cond.instanceMethod yX5_fetch ∈ wsL_law := zr22 _ (List.mem_of_getElem? (i := 0) rfl)
theorem zw22_1 : Cond.selects RX5 yX5_fetch yX5_fetch ∈ wsL_law := zr22 _ (List.mem_of_getElem? (i := 1) rfl)
theorem zw22_2 : Cond.code yX5_fetch cX5_fetch 2 (some .int) ∈ wsL_law := zr22 _ (List.mem_of_getElem? (i := 2) rfl)
theorem zw22_3 : Cond.methodLink RX5 80 yX5_turnBeside ∈ wsL_law := zr22 _ (List.mem_of_getElem? (i := 3) rfl)
theorem zw22_4 : Cond.instanceMethod yX5_turnBeside ∈ wsL_law := zr22 _ (List.mem_of_getElem? (i := 4) rfl)
theorem zw22_5 : Cond.selects RX5 yX5_turnBeside yX5_turnBeside ∈ wsL_law := zr22 _ (List.mem_of_getElem? (i := 5) rfl)
theorem zw22_6 : Cond.code yX5_turnBeside cX5_turnBeside 4 (some .int) ∈ wsL_law := zr22 _ (List.mem_of_getElem? (i := 6) rfl)
theorem zw22_7 : Cond.methodLink RX5 226 yX5_askBit ∈ wsL_law := zr22 _ (List.mem_of_getElem? (i := 7) rfl)
theorem zw22_8 : Cond.instanceMethod yX5_askBit ∈ wsL_law := zr22 _ (List.mem_of_getElem? (i := 8) rfl)
theorem zw22_9 : Cond.selects RX5 yX5_askBit yX5_askBit ∈ wsL_law := zr22 _ (List.mem_of_getElem? (i := 9) rfl)
theorem zw22_10 : Cond.code yX5_askBit cX5_askBit 5 none ∈ wsL_law := zr22 _ (List.mem_of_getElem? (i := 10) rfl)
theorem zw22_11 : Cond.methodLink RX5 230 yX5_turned ∈ wsL_law := zr22 _ (List.mem_of_getElem? (i := 11) rfl)
theorem zw22_12 : Cond.instanceMethod yX5_turned ∈ wsL_law := zr22 _ (List.mem_of_getElem? (i := 12) rfl)
theorem zw22_13 : Cond.selects RX5 yX5_turned yX5_turned ∈ wsL_law := zr22 _ (List.mem_of_getElem? (i := 13) rfl)
theorem zw22_14 : Cond.code yX5_turned cX5_turned 4 (some .int) ∈ wsL_law := zr22 _ (List.mem_of_getElem? (i := 14) rfl)
theorem zw22_15 : Cond.methodLink RX5 193 yX5_turn ∈ wsL_law := zr22 _ (List.mem_of_getElem? (i := 15) rfl)
theorem zw22_16 : Cond.instanceMethod yX5_turn ∈ wsL_law := zr22 _ (List.mem_of_getElem? (i := 16) rfl)
theorem zw22_17 : Cond.selects RX5 yX5_turn yX5_turn ∈ wsL_law := zr22 _ (List.mem_of_getElem? (i := 17) rfl)
theorem zw22_18 : Cond.code yX5_turn cX5_turn 7 (some .int) ∈ wsL_law := zr22 _ (List.mem_of_getElem? (i := 18) rfl)
theorem zw22_19 : Cond.methodLink RX5 187 yX5_by ∈ wsL_law := zr22 _ (List.mem_of_getElem? (i := 19) rfl)
theorem zw22_20 : Cond.static yX5_by ∈ wsL_law := zr22 _ (List.mem_of_getElem? (i := 20) rfl)
theorem zw22_21 : Cond.code yX5_by cX5_by 1 (some .int) ∈ wsL_law := zr22 _ (List.mem_of_getElem? (i := 21) rfl)
theorem zw22_22 : Cond.methodLink RX5 196 yX5_parity ∈ wsL_law := zr22 _ (List.mem_of_getElem? (i := 22) rfl)
theorem zw22_23 : Cond.static yX5_parity ∈ wsL_law := zr22 _ (List.mem_of_getElem? (i := 23) rfl)
theorem zw23_0 : Cond.code yX5_parity cX5_parity 1 (some .int) ∈ wsL_law := zr23 _ (List.mem_of_getElem? (i := 0) rfl)
theorem zw23_1 : Cond.methodLink RX5 137 yJ6_bitCount_0f7a4 ∈ wsL_law := zr23 _ (List.mem_of_getElem? (i := 1) rfl)
theorem zw23_2 : Cond.static yJ6_bitCount_0f7a4 ∈ wsL_law := zr23 _ (List.mem_of_getElem? (i := 2) rfl)
theorem zw23_3 : Cond.initialized RJ6 ∈ wsL_law := zr23 _ (List.mem_of_getElem? (i := 3) rfl)
theorem zw23_4 : Cond.code yJ6_bitCount_0f7a4 cJ6_bitCount_0f7a4 1 (some .int) ∈ wsL_law := zr23 _ (List.mem_of_getElem? (i := 4) rfl)
theorem zw23_5 : Cond.constant RJ6 265 (1431655765) ∈ wsL_law := zr23 _ (List.mem_of_getElem? (i := 5) rfl)
theorem zw23_6 : Cond.constant RJ6 266 (858993459) ∈ wsL_law := zr23 _ (List.mem_of_getElem? (i := 6) rfl)
theorem zw23_7 : Cond.constant RJ6 267 (252645135) ∈ wsL_law := zr23 _ (List.mem_of_getElem? (i := 7) rfl)
theorem zw23_8 : Cond.methodLink RX5 166 yX5_putOne ∈ wsL_law := zr23 _ (List.mem_of_getElem? (i := 8) rfl)
theorem zw23_9 : Cond.instanceMethod yX5_putOne ∈ wsL_law := zr23 _ (List.mem_of_getElem? (i := 9) rfl)
theorem zw23_10 : Cond.selects RX5 yX5_putOne yX5_putOne ∈ wsL_law := zr23 _ (List.mem_of_getElem? (i := 10) rfl)
theorem zw23_11 : Cond.code yX5_putOne cX5_putOne 3 none ∈ wsL_law := zr23 _ (List.mem_of_getElem? (i := 11) rfl)
theorem zw23_12 : Cond.methodLink RX5 130 yX5_putPairHalf ∈ wsL_law := zr23 _ (List.mem_of_getElem? (i := 12) rfl)
theorem zw23_13 : Cond.instanceMethod yX5_putPairHalf ∈ wsL_law := zr23 _ (List.mem_of_getElem? (i := 13) rfl)
theorem zw23_14 : Cond.selects RX5 yX5_putPairHalf yX5_putPairHalf ∈ wsL_law := zr23 _ (List.mem_of_getElem? (i := 14) rfl)
theorem zw23_15 : Cond.code yX5_putPairHalf cX5_putPairHalf 3 none ∈ wsL_law := zr23 _ (List.mem_of_getElem? (i := 15) rfl)
theorem zw23_16 : Cond.constant RX5 133 (65280) ∈ wsL_law := zr23 _ (List.mem_of_getElem? (i := 16) rfl)
theorem zw23_17 : Cond.methodLink RX5 83 yX5_takePlace ∈ wsL_law := zr23 _ (List.mem_of_getElem? (i := 17) rfl)
theorem zw23_18 : Cond.instanceMethod yX5_takePlace ∈ wsL_law := zr23 _ (List.mem_of_getElem? (i := 18) rfl)
theorem zw23_19 : Cond.selects RX5 yX5_takePlace yX5_takePlace ∈ wsL_law := zr23 _ (List.mem_of_getElem? (i := 19) rfl)
theorem zw23_20 : Cond.code yX5_takePlace cX5_takePlace 2 (some .int) ∈ wsL_law := zr23 _ (List.mem_of_getElem? (i := 20) rfl)
theorem zw23_21 : Cond.methodLink RX5 110 yX5_meansPlace ∈ wsL_law := zr23 _ (List.mem_of_getElem? (i := 21) rfl)
theorem zw23_22 : Cond.static yX5_meansPlace ∈ wsL_law := zr23 _ (List.mem_of_getElem? (i := 22) rfl)
theorem zw23_23 : Cond.code yX5_meansPlace cX5_meansPlace 3 (some .boolean) ∈ wsL_law := zr23 _ (List.mem_of_getElem? (i := 23) rfl)
theorem zw24_0 : Cond.methodLink RX5 86 yX5_turns ∈ wsL_law := zr24 _ (List.mem_of_getElem? (i := 0) rfl)
theorem zw24_1 : Cond.instanceMethod yX5_turns ∈ wsL_law := zr24 _ (List.mem_of_getElem? (i := 1) rfl)
theorem zw24_2 : Cond.selects RX5 yX5_turns yX5_turns ∈ wsL_law := zr24 _ (List.mem_of_getElem? (i := 2) rfl)
theorem zw24_3 : Cond.code yX5_turns cX5_turns 4 (some .int) ∈ wsL_law := zr24 _ (List.mem_of_getElem? (i := 3) rfl)
theorem zw24_4 : Cond.methodLink RX5 160 yX5_one ∈ wsL_law := zr24 _ (List.mem_of_getElem? (i := 4) rfl)
theorem zw24_5 : Cond.instanceMethod yX5_one ∈ wsL_law := zr24 _ (List.mem_of_getElem? (i := 5) rfl)
theorem zw24_6 : Cond.selects RX5 yX5_one yX5_one ∈ wsL_law := zr24 _ (List.mem_of_getElem? (i := 6) rfl)
theorem zw24_7 : Cond.code yX5_one cX5_one 2 (some .int) ∈ wsL_law := zr24 _ (List.mem_of_getElem? (i := 7) rfl)
theorem zw24_8 : Cond.methodLink RX5 89 yX5_block ∈ wsL_law := zr24 _ (List.mem_of_getElem? (i := 8) rfl)
theorem zw24_9 : Cond.instanceMethod yX5_block ∈ wsL_law := zr24 _ (List.mem_of_getElem? (i := 9) rfl)
theorem zw24_10 : Cond.selects RX5 yX5_block yX5_block ∈ wsL_law := zr24 _ (List.mem_of_getElem? (i := 10) rfl)
theorem zw24_11 : Cond.code yX5_block cX5_block 4 (some .int) ∈ wsL_law := zr24 _ (List.mem_of_getElem? (i := 11) rfl)
theorem zw24_12 : Cond.methodLink RX5 259 yX5_copyOne ∈ wsL_law := zr24 _ (List.mem_of_getElem? (i := 12) rfl)
theorem zw24_13 : Cond.instanceMethod yX5_copyOne ∈ wsL_law := zr24 _ (List.mem_of_getElem? (i := 13) rfl)
theorem zw24_14 : Cond.selects RX5 yX5_copyOne yX5_copyOne ∈ wsL_law := zr24 _ (List.mem_of_getElem? (i := 14) rfl)
theorem zw24_15 : Cond.code yX5_copyOne cX5_copyOne 5 (some .boolean) ∈ wsL_law := zr24 _ (List.mem_of_getElem? (i := 15) rfl)
theorem zw24_16 : Cond.methodLink RX5 121 yX5_putPairAt ∈ wsL_law := zr24 _ (List.mem_of_getElem? (i := 16) rfl)
theorem zw24_17 : Cond.instanceMethod yX5_putPairAt ∈ wsL_law := zr24 _ (List.mem_of_getElem? (i := 17) rfl)
theorem zw24_18 : Cond.selects RX5 yX5_putPairAt yX5_putPairAt ∈ wsL_law := zr24 _ (List.mem_of_getElem? (i := 18) rfl)
theorem zw24_19 : Cond.code yX5_putPairAt cX5_putPairAt 3 none ∈ wsL_law := zr24 _ (List.mem_of_getElem? (i := 19) rfl)
theorem zw24_20 : Cond.methodLink RX5 262 yX5_compareOne ∈ wsL_law := zr24 _ (List.mem_of_getElem? (i := 20) rfl)
theorem zw24_21 : Cond.instanceMethod yX5_compareOne ∈ wsL_law := zr24 _ (List.mem_of_getElem? (i := 21) rfl)
theorem zw24_22 : Cond.selects RX5 yX5_compareOne yX5_compareOne ∈ wsL_law := zr24 _ (List.mem_of_getElem? (i := 22) rfl)
theorem zw24_23 : Cond.code yX5_compareOne cX5_compareOne 7 (some .boolean) ∈ wsL_law := zr24 _ (List.mem_of_getElem? (i := 23) rfl)
theorem zw25_0 : Cond.methodLink RX5 265 yX5_takeOne ∈ wsL_law := zr25 _ (List.mem_of_getElem? (i := 0) rfl)
theorem zw25_1 : Cond.instanceMethod yX5_takeOne ∈ wsL_law := zr25 _ (List.mem_of_getElem? (i := 1) rfl)
theorem zw25_2 : Cond.selects RX5 yX5_takeOne yX5_takeOne ∈ wsL_law := zr25 _ (List.mem_of_getElem? (i := 2) rfl)
theorem zw25_3 : Cond.code yX5_takeOne cX5_takeOne 3 (some .boolean) ∈ wsL_law := zr25 _ (List.mem_of_getElem? (i := 3) rfl)
theorem zw25_4 : Cond.methodLink RX5 225 yX4_read ∈ wsL_law := zr25 _ (List.mem_of_getElem? (i := 4) rfl)
theorem zw25_5 : Cond.instanceMethod yX4_read ∈ wsL_law := zr25 _ (List.mem_of_getElem? (i := 5) rfl)
theorem zw25_6 : Cond.selects RX4 yX4_read yX4_read ∈ wsL_law := zr25 _ (List.mem_of_getElem? (i := 6) rfl)
theorem zw25_7 : Cond.code yX4_read cX4_read 3 (some .int) ∈ wsL_law := zr25 _ (List.mem_of_getElem? (i := 7) rfl)
theorem zw25_8 : Cond.methodLink RX4 54 yX4_readHandy ∈ wsL_law := zr25 _ (List.mem_of_getElem? (i := 8) rfl)
theorem zw25_9 : Cond.instanceMethod yX4_readHandy ∈ wsL_law := zr25 _ (List.mem_of_getElem? (i := 9) rfl)
theorem zw25_10 : Cond.selects RX4 yX4_readHandy yX4_readHandy ∈ wsL_law := zr25 _ (List.mem_of_getElem? (i := 10) rfl)
theorem zw25_11 : Cond.code yX4_readHandy cX4_readHandy 2 (some .int) ∈ wsL_law := zr25 _ (List.mem_of_getElem? (i := 11) rfl)
theorem zw25_12 : Cond.methodLink RX4 58 yX9_vCount ∈ wsL_law := zr25 _ (List.mem_of_getElem? (i := 12) rfl)
theorem zw25_13 : Cond.instanceMethod yX9_vCount ∈ wsL_law := zr25 _ (List.mem_of_getElem? (i := 13) rfl)
theorem zw25_14 : Cond.selects RX9 yX9_vCount yX9_vCount ∈ wsL_law := zr25 _ (List.mem_of_getElem? (i := 14) rfl)
theorem zw25_15 : Cond.code yX9_vCount cX9_vCount 5 (some .int) ∈ wsL_law := zr25 _ (List.mem_of_getElem? (i := 15) rfl)
theorem zw25_16 : Cond.methodLink RX9 50 yX9_height ∈ wsL_law := zr25 _ (List.mem_of_getElem? (i := 16) rfl)
theorem zw25_17 : Cond.instanceMethod yX9_height ∈ wsL_law := zr25 _ (List.mem_of_getElem? (i := 17) rfl)
theorem zw25_18 : Cond.selects RX9 yX9_height yX9_height ∈ wsL_law := zr25 _ (List.mem_of_getElem? (i := 18) rfl)
theorem zw25_19 : Cond.code yX9_height cX9_height 1 (some .int) ∈ wsL_law := zr25 _ (List.mem_of_getElem? (i := 19) rfl)
theorem zw25_20 : Cond.methodLink RX4 61 yX9_readData ∈ wsL_law := zr25 _ (List.mem_of_getElem? (i := 20) rfl)
theorem zw25_21 : Cond.instanceMethod yX9_readData ∈ wsL_law := zr25 _ (List.mem_of_getElem? (i := 21) rfl)
theorem zw25_22 : Cond.selects RX9 yX9_readData yX9_readData ∈ wsL_law := zr25 _ (List.mem_of_getElem? (i := 22) rfl)
theorem zw25_23 : Cond.code yX9_readData cX9_readData 2 (some .int) ∈ wsL_law := zr25 _ (List.mem_of_getElem? (i := 23) rfl)
theorem zw26_0 : Cond.methodLink RX9 63 yX9_readAhead ∈ wsL_law := zr26 _ (List.mem_of_getElem? (i := 0) rfl)
theorem zw26_1 : Cond.instanceMethod yX9_readAhead ∈ wsL_law := zr26 _ (List.mem_of_getElem? (i := 1) rfl)
theorem zw26_2 : Cond.selects RX9 yX9_readAhead yX9_readAhead ∈ wsL_law := zr26 _ (List.mem_of_getElem? (i := 2) rfl)
theorem zw26_3 : Cond.code yX9_readAhead cX9_readAhead 1 none ∈ wsL_law := zr26 _ (List.mem_of_getElem? (i := 3) rfl)
theorem zw26_4 : Cond.methodLink RX4 64 yX9_readStatus ∈ wsL_law := zr26 _ (List.mem_of_getElem? (i := 4) rfl)
theorem zw26_5 : Cond.instanceMethod yX9_readStatus ∈ wsL_law := zr26 _ (List.mem_of_getElem? (i := 5) rfl)
theorem zw26_6 : Cond.selects RX9 yX9_readStatus yX9_readStatus ∈ wsL_law := zr26 _ (List.mem_of_getElem? (i := 6) rfl)
theorem zw26_7 : Cond.code yX9_readStatus cX9_readStatus 2 (some .int) ∈ wsL_law := zr26 _ (List.mem_of_getElem? (i := 7) rfl)
theorem zw26_8 : Cond.methodLink RX4 69 yX10_value ∈ wsL_law := zr26 _ (List.mem_of_getElem? (i := 8) rfl)
theorem zw26_9 : Cond.instanceMethod yX10_value ∈ wsL_law := zr26 _ (List.mem_of_getElem? (i := 9) rfl)
theorem zw26_10 : Cond.selects RX10 yX10_value yX10_value ∈ wsL_law := zr26 _ (List.mem_of_getElem? (i := 10) rfl)
theorem zw26_11 : Cond.code yX10_value cX10_value 2 (some .int) ∈ wsL_law := zr26 _ (List.mem_of_getElem? (i := 11) rfl)
theorem zw26_12 : Cond.constant RX10 31 (65535) ∈ wsL_law := zr26 _ (List.mem_of_getElem? (i := 12) rfl)
theorem zw26_13 : Cond.methodLink RX4 72 yX4_readEvenPads ∈ wsL_law := zr26 _ (List.mem_of_getElem? (i := 13) rfl)
theorem zw26_14 : Cond.instanceMethod yX4_readEvenPads ∈ wsL_law := zr26 _ (List.mem_of_getElem? (i := 14) rfl)
theorem zw26_15 : Cond.selects RX4 yX4_readEvenPads yX4_readEvenPads ∈ wsL_law := zr26 _ (List.mem_of_getElem? (i := 15) rfl)
theorem zw26_16 : Cond.code yX4_readEvenPads cX4_readEvenPads 2 (some .int) ∈ wsL_law := zr26 _ (List.mem_of_getElem? (i := 16) rfl)
theorem zw26_17 : Cond.methodLink RX4 75 yX4_readOddPads ∈ wsL_law := zr26 _ (List.mem_of_getElem? (i := 17) rfl)
theorem zw26_18 : Cond.instanceMethod yX4_readOddPads ∈ wsL_law := zr26 _ (List.mem_of_getElem? (i := 18) rfl)
theorem zw26_19 : Cond.selects RX4 yX4_readOddPads yX4_readOddPads ∈ wsL_law := zr26 _ (List.mem_of_getElem? (i := 19) rfl)
theorem zw26_20 : Cond.code yX4_readOddPads cX4_readOddPads 2 (some .int) ∈ wsL_law := zr26 _ (List.mem_of_getElem? (i := 20) rfl)
theorem zw26_21 : Cond.methodLink RX4 45 yX4_lines ∈ wsL_law := zr26 _ (List.mem_of_getElem? (i := 21) rfl)
theorem zw26_22 : Cond.instanceMethod yX4_lines ∈ wsL_law := zr26 _ (List.mem_of_getElem? (i := 22) rfl)
theorem zw26_23 : Cond.selects RX4 yX4_lines yX4_lines ∈ wsL_law := zr26 _ (List.mem_of_getElem? (i := 23) rfl)
theorem zw27_0 : Cond.code yX4_lines cX4_lines 4 (some .int) ∈ wsL_law := zr27 _ (List.mem_of_getElem? (i := 0) rfl)
theorem zw27_1 : Cond.methodLink RX5 271 yX5_tellOfPort ∈ wsL_law := zr27 _ (List.mem_of_getElem? (i := 1) rfl)
theorem zw27_2 : Cond.instanceMethod yX5_tellOfPort ∈ wsL_law := zr27 _ (List.mem_of_getElem? (i := 2) rfl)
theorem zw27_3 : Cond.selects RX5 yX5_tellOfPort yX5_tellOfPort ∈ wsL_law := zr27 _ (List.mem_of_getElem? (i := 3) rfl)
theorem zw27_4 : Cond.code yX5_tellOfPort cX5_tellOfPort 3 none ∈ wsL_law := zr27 _ (List.mem_of_getElem? (i := 4) rfl)
theorem zw27_5 : Cond.methodLink RX5 268 yX5_giveOne ∈ wsL_law := zr27 _ (List.mem_of_getElem? (i := 5) rfl)
theorem zw27_6 : Cond.instanceMethod yX5_giveOne ∈ wsL_law := zr27 _ (List.mem_of_getElem? (i := 6) rfl)
theorem zw27_7 : Cond.selects RX5 yX5_giveOne yX5_giveOne ∈ wsL_law := zr27 _ (List.mem_of_getElem? (i := 7) rfl)
theorem zw27_8 : Cond.code yX5_giveOne cX5_giveOne 3 (some .boolean) ∈ wsL_law := zr27 _ (List.mem_of_getElem? (i := 8) rfl)
theorem zw27_9 : Cond.methodLink RX5 222 yX4_write ∈ wsL_law := zr27 _ (List.mem_of_getElem? (i := 9) rfl)
theorem zw27_10 : Cond.instanceMethod yX4_write ∈ wsL_law := zr27 _ (List.mem_of_getElem? (i := 10) rfl)
theorem zw27_11 : Cond.selects RX4 yX4_write yX4_write ∈ wsL_law := zr27 _ (List.mem_of_getElem? (i := 11) rfl)
theorem zw27_12 : Cond.code yX4_write cX4_write 4 none ∈ wsL_law := zr27 _ (List.mem_of_getElem? (i := 12) rfl)
theorem zw27_13 : Cond.methodLink RX4 78 yX4_writeHandy ∈ wsL_law := zr27 _ (List.mem_of_getElem? (i := 13) rfl)
theorem zw27_14 : Cond.instanceMethod yX4_writeHandy ∈ wsL_law := zr27 _ (List.mem_of_getElem? (i := 14) rfl)
theorem zw27_15 : Cond.selects RX4 yX4_writeHandy yX4_writeHandy ∈ wsL_law := zr27 _ (List.mem_of_getElem? (i := 15) rfl)
theorem zw27_16 : Cond.code yX4_writeHandy cX4_writeHandy 3 none ∈ wsL_law := zr27 _ (List.mem_of_getElem? (i := 16) rfl)
theorem zw27_17 : Cond.methodLink RX4 95 yX7_takeStereo ∈ wsL_law := zr27 _ (List.mem_of_getElem? (i := 17) rfl)
theorem zw27_18 : Cond.instanceMethod yX7_takeStereo ∈ wsL_law := zr27 _ (List.mem_of_getElem? (i := 18) rfl)
theorem zw27_19 : Cond.selects RX7 yX7_takeStereo yX7_takeStereo ∈ wsL_law := zr27 _ (List.mem_of_getElem? (i := 19) rfl)
theorem zw27_20 : Cond.code yX7_takeStereo cX7_takeStereo 2 none ∈ wsL_law := zr27 _ (List.mem_of_getElem? (i := 20) rfl)
theorem zw27_21 : Cond.methodLink RX4 41 yX4_changeLines ∈ wsL_law := zr27 _ (List.mem_of_getElem? (i := 21) rfl)
theorem zw27_22 : Cond.instanceMethod yX4_changeLines ∈ wsL_law := zr27 _ (List.mem_of_getElem? (i := 22) rfl)
theorem zw27_23 : Cond.selects RX4 yX4_changeLines yX4_changeLines ∈ wsL_law := zr27 _ (List.mem_of_getElem? (i := 23) rfl)
theorem zw28_0 : Cond.code yX4_changeLines cX4_changeLines 4 none ∈ wsL_law := zr28 _ (List.mem_of_getElem? (i := 0) rfl)
theorem zw28_1 : Cond.methodLink RX4 49 yX9_hCount ∈ wsL_law := zr28 _ (List.mem_of_getElem? (i := 1) rfl)
theorem zw28_2 : Cond.instanceMethod yX9_hCount ∈ wsL_law := zr28 _ (List.mem_of_getElem? (i := 2) rfl)
theorem zw28_3 : Cond.selects RX9 yX9_hCount yX9_hCount ∈ wsL_law := zr28 _ (List.mem_of_getElem? (i := 3) rfl)
theorem zw28_4 : Cond.code yX9_hCount cX9_hCount 2 (some .int) ∈ wsL_law := zr28 _ (List.mem_of_getElem? (i := 4) rfl)
theorem zw28_5 : Cond.methodLink RX4 81 yX7_take ∈ wsL_law := zr28 _ (List.mem_of_getElem? (i := 5) rfl)
theorem zw28_6 : Cond.instanceMethod yX7_take ∈ wsL_law := zr28 _ (List.mem_of_getElem? (i := 6) rfl)
theorem zw28_7 : Cond.selects RX7 yX7_take yX7_take ∈ wsL_law := zr28 _ (List.mem_of_getElem? (i := 7) rfl)
theorem zw28_8 : Cond.code yX7_take cX7_take 4 none ∈ wsL_law := zr28 _ (List.mem_of_getElem? (i := 8) rfl)
theorem zw28_9 : Cond.methodLink RX4 87 yX9_writeData ∈ wsL_law := zr28 _ (List.mem_of_getElem? (i := 9) rfl)
theorem zw28_10 : Cond.instanceMethod yX9_writeData ∈ wsL_law := zr28 _ (List.mem_of_getElem? (i := 10) rfl)
theorem zw28_11 : Cond.selects RX9 yX9_writeData yX9_writeData ∈ wsL_law := zr28 _ (List.mem_of_getElem? (i := 11) rfl)
theorem zw28_12 : Cond.code yX9_writeData cX9_writeData 3 none ∈ wsL_law := zr28 _ (List.mem_of_getElem? (i := 12) rfl)
theorem zw28_13 : Cond.methodLink RX9 66 yX9_writeColour ∈ wsL_law := zr28 _ (List.mem_of_getElem? (i := 13) rfl)
theorem zw28_14 : Cond.instanceMethod yX9_writeColour ∈ wsL_law := zr28 _ (List.mem_of_getElem? (i := 14) rfl)
theorem zw28_15 : Cond.selects RX9 yX9_writeColour yX9_writeColour ∈ wsL_law := zr28 _ (List.mem_of_getElem? (i := 15) rfl)
theorem zw28_16 : Cond.code yX9_writeColour cX9_writeColour 3 none ∈ wsL_law := zr28 _ (List.mem_of_getElem? (i := 16) rfl)
theorem zw28_17 : Cond.methodLink RX4 90 yX9_writeControl ∈ wsL_law := zr28 _ (List.mem_of_getElem? (i := 17) rfl)
theorem zw28_18 : Cond.instanceMethod yX9_writeControl ∈ wsL_law := zr28 _ (List.mem_of_getElem? (i := 18) rfl)
theorem zw28_19 : Cond.selects RX9 yX9_writeControl yX9_writeControl ∈ wsL_law := zr28 _ (List.mem_of_getElem? (i := 19) rfl)
theorem zw28_20 : Cond.code yX9_writeControl cX9_writeControl 2 none ∈ wsL_law := zr28 _ (List.mem_of_getElem? (i := 20) rfl)
theorem zw28_21 : Cond.methodLink RX4 93 yX10_take ∈ wsL_law := zr28 _ (List.mem_of_getElem? (i := 21) rfl)
theorem zw28_22 : Cond.instanceMethod yX10_take ∈ wsL_law := zr28 _ (List.mem_of_getElem? (i := 22) rfl)
theorem zw28_23 : Cond.selects RX10 yX10_take yX10_take ∈ wsL_law := zr28 _ (List.mem_of_getElem? (i := 23) rfl)
theorem zw29_0 : Cond.code yX10_take cX10_take 3 none ∈ wsL_law := zr29 _ (List.mem_of_getElem? (i := 0) rfl)
theorem zw29_1 : Cond.methodLink RX5 92 yX5_behindEd ∈ wsL_law := zr29 _ (List.mem_of_getElem? (i := 1) rfl)
theorem zw29_2 : Cond.instanceMethod yX5_behindEd ∈ wsL_law := zr29 _ (List.mem_of_getElem? (i := 2) rfl)
theorem zw29_3 : Cond.selects RX5 yX5_behindEd yX5_behindEd ∈ wsL_law := zr29 _ (List.mem_of_getElem? (i := 3) rfl)
theorem zw29_4 : Cond.code yX5_behindEd cX5_behindEd 3 (some .int) ∈ wsL_law := zr29 _ (List.mem_of_getElem? (i := 4) rfl)
theorem zw29_5 : Cond.methodLink RX5 245 Lib.Math.max.name ∈ wsL_law := zr29 _ (List.mem_of_getElem? (i := 5) rfl)
theorem zw29_6 : Cond.methodLink RX5 233 yX5_takeFromPort ∈ wsL_law := zr29 _ (List.mem_of_getElem? (i := 6) rfl)
theorem zw29_7 : Cond.instanceMethod yX5_takeFromPort ∈ wsL_law := zr29 _ (List.mem_of_getElem? (i := 7) rfl)
theorem zw29_8 : Cond.selects RX5 yX5_takeFromPort yX5_takeFromPort ∈ wsL_law := zr29 _ (List.mem_of_getElem? (i := 8) rfl)
theorem zw29_9 : Cond.code yX5_takeFromPort cX5_takeFromPort 3 none ∈ wsL_law := zr29 _ (List.mem_of_getElem? (i := 9) rfl)
theorem zw29_10 : Cond.methodLink RX5 236 yX5_takePair ∈ wsL_law := zr29 _ (List.mem_of_getElem? (i := 10) rfl)
theorem zw29_11 : Cond.instanceMethod yX5_takePair ∈ wsL_law := zr29 _ (List.mem_of_getElem? (i := 11) rfl)
theorem zw29_12 : Cond.selects RX5 yX5_takePair yX5_takePair ∈ wsL_law := zr29 _ (List.mem_of_getElem? (i := 12) rfl)
theorem zw29_13 : Cond.code yX5_takePair cX5_takePair 6 (some .int) ∈ wsL_law := zr29 _ (List.mem_of_getElem? (i := 13) rfl)
theorem zw29_14 : Cond.constant RX5 254 (32768) ∈ wsL_law := zr29 _ (List.mem_of_getElem? (i := 14) rfl)
theorem zw29_15 : Cond.methodLink RX5 124 yX5_hl ∈ wsL_law := zr29 _ (List.mem_of_getElem? (i := 15) rfl)
theorem zw29_16 : Cond.instanceMethod yX5_hl ∈ wsL_law := zr29 _ (List.mem_of_getElem? (i := 16) rfl)
theorem zw29_17 : Cond.selects RX5 yX5_hl yX5_hl ∈ wsL_law := zr29 _ (List.mem_of_getElem? (i := 17) rfl)
theorem zw29_18 : Cond.code yX5_hl cX5_hl 1 (some .int) ∈ wsL_law := zr29 _ (List.mem_of_getElem? (i := 18) rfl)
theorem zw29_19 : Cond.methodLink RX5 154 yX5_pair ∈ wsL_law := zr29 _ (List.mem_of_getElem? (i := 19) rfl)
theorem zw29_20 : Cond.instanceMethod yX5_pair ∈ wsL_law := zr29 _ (List.mem_of_getElem? (i := 20) rfl)
theorem zw29_21 : Cond.selects RX5 yX5_pair yX5_pair ∈ wsL_law := zr29 _ (List.mem_of_getElem? (i := 21) rfl)
theorem zw29_22 : Cond.code yX5_pair cX5_pair 2 (some .int) ∈ wsL_law := zr29 _ (List.mem_of_getElem? (i := 22) rfl)
theorem zw29_23 : Cond.methodLink RX5 251 yX5_putWide ∈ wsL_law := zr29 _ (List.mem_of_getElem? (i := 23) rfl)
theorem zw30_0 : Cond.instanceMethod yX5_putWide ∈ wsL_law := zr30 _ (List.mem_of_getElem? (i := 0) rfl)
theorem zw30_1 : Cond.selects RX5 yX5_putWide yX5_putWide ∈ wsL_law := zr30 _ (List.mem_of_getElem? (i := 1) rfl)
theorem zw30_2 : Cond.code yX5_putWide cX5_putWide 4 none ∈ wsL_law := zr30 _ (List.mem_of_getElem? (i := 2) rfl)
theorem zw30_3 : Cond.methodLink RX5 127 yX5_putHl ∈ wsL_law := zr30 _ (List.mem_of_getElem? (i := 3) rfl)
theorem zw30_4 : Cond.instanceMethod yX5_putHl ∈ wsL_law := zr30 _ (List.mem_of_getElem? (i := 4) rfl)
theorem zw30_5 : Cond.selects RX5 yX5_putHl yX5_putHl ∈ wsL_law := zr30 _ (List.mem_of_getElem? (i := 5) rfl)
theorem zw30_6 : Cond.code yX5_putHl cX5_putHl 2 none ∈ wsL_law := zr30 _ (List.mem_of_getElem? (i := 6) rfl)
theorem zw30_7 : Cond.methodLink RX5 239 yX5_addPairAndCarry ∈ wsL_law := zr30 _ (List.mem_of_getElem? (i := 7) rfl)
theorem zw30_8 : Cond.instanceMethod yX5_addPairAndCarry ∈ wsL_law := zr30 _ (List.mem_of_getElem? (i := 8) rfl)
theorem zw30_9 : Cond.selects RX5 yX5_addPairAndCarry yX5_addPairAndCarry ∈ wsL_law := zr30 _ (List.mem_of_getElem? (i := 9) rfl)
theorem zw30_10 : Cond.code yX5_addPairAndCarry cX5_addPairAndCarry 6 (some .int) ∈ wsL_law := zr30 _ (List.mem_of_getElem? (i := 10) rfl)
theorem zw30_11 : Cond.methodLink RX5 242 yX5_farPair ∈ wsL_law := zr30 _ (List.mem_of_getElem? (i := 11) rfl)
theorem zw30_12 : Cond.instanceMethod yX5_farPair ∈ wsL_law := zr30 _ (List.mem_of_getElem? (i := 12) rfl)
theorem zw30_13 : Cond.selects RX5 yX5_farPair yX5_farPair ∈ wsL_law := zr30 _ (List.mem_of_getElem? (i := 13) rfl)
theorem zw30_14 : Cond.code yX5_farPair cX5_farPair 3 (some .int) ∈ wsL_law := zr30 _ (List.mem_of_getElem? (i := 14) rfl)
theorem zw30_15 : Cond.methodLink RX5 181 yX5_fetchWord ∈ wsL_law := zr30 _ (List.mem_of_getElem? (i := 15) rfl)
theorem zw30_16 : Cond.instanceMethod yX5_fetchWord ∈ wsL_law := zr30 _ (List.mem_of_getElem? (i := 16) rfl)
theorem zw30_17 : Cond.selects RX5 yX5_fetchWord yX5_fetchWord ∈ wsL_law := zr30 _ (List.mem_of_getElem? (i := 17) rfl)
theorem zw30_18 : Cond.code yX5_fetchWord cX5_fetchWord 2 (some .int) ∈ wsL_law := zr30 _ (List.mem_of_getElem? (i := 18) rfl)
theorem zw30_19 : Cond.methodLink RX5 184 yX5_writeWord ∈ wsL_law := zr30 _ (List.mem_of_getElem? (i := 19) rfl)
theorem zw30_20 : Cond.instanceMethod yX5_writeWord ∈ wsL_law := zr30 _ (List.mem_of_getElem? (i := 20) rfl)
theorem zw30_21 : Cond.selects RX5 yX5_writeWord yX5_writeWord ∈ wsL_law := zr30 _ (List.mem_of_getElem? (i := 21) rfl)
theorem zw30_22 : Cond.code yX5_writeWord cX5_writeWord 3 none ∈ wsL_law := zr30 _ (List.mem_of_getElem? (i := 22) rfl)
theorem zw30_23 : Cond.methodLink RX5 157 yX5_putPair ∈ wsL_law := zr30 _ (List.mem_of_getElem? (i := 23) rfl)
theorem zw31_0 : Cond.instanceMethod yX5_putPair ∈ wsL_law := zr31 _ (List.mem_of_getElem? (i := 0) rfl)
theorem zw31_1 : Cond.selects RX5 yX5_putPair yX5_putPair ∈ wsL_law := zr31 _ (List.mem_of_getElem? (i := 1) rfl)
theorem zw31_2 : Cond.code yX5_putPair cX5_putPair 3 none ∈ wsL_law := zr31 _ (List.mem_of_getElem? (i := 2) rfl)
theorem zw31_3 : Cond.methodLink RX5 206 yX5_difference ∈ wsL_law := zr31 _ (List.mem_of_getElem? (i := 3) rfl)
theorem zw31_4 : Cond.instanceMethod yX5_difference ∈ wsL_law := zr31 _ (List.mem_of_getElem? (i := 4) rfl)
theorem zw31_5 : Cond.selects RX5 yX5_difference yX5_difference ∈ wsL_law := zr31 _ (List.mem_of_getElem? (i := 5) rfl)
theorem zw31_6 : Cond.code yX5_difference cX5_difference 7 (some .int) ∈ wsL_law := zr31 _ (List.mem_of_getElem? (i := 6) rfl)
theorem zw31_7 : Cond.methodLink RX5 209 yX5_pop ∈ wsL_law := zr31 _ (List.mem_of_getElem? (i := 7) rfl)
theorem zw31_8 : Cond.instanceMethod yX5_pop ∈ wsL_law := zr31 _ (List.mem_of_getElem? (i := 8) rfl)
theorem zw31_9 : Cond.selects RX5 yX5_pop yX5_pop ∈ wsL_law := zr31 _ (List.mem_of_getElem? (i := 9) rfl)
theorem zw31_10 : Cond.code yX5_pop cX5_pop 2 (some .int) ∈ wsL_law := zr31 _ (List.mem_of_getElem? (i := 10) rfl)
theorem zw31_11 : Cond.methodLink RX5 248 yX5_moreOfA ∈ wsL_law := zr31 _ (List.mem_of_getElem? (i := 11) rfl)
theorem zw31_12 : Cond.instanceMethod yX5_moreOfA ∈ wsL_law := zr31 _ (List.mem_of_getElem? (i := 12) rfl)
theorem zw31_13 : Cond.selects RX5 yX5_moreOfA yX5_moreOfA ∈ wsL_law := zr31 _ (List.mem_of_getElem? (i := 13) rfl)
theorem zw31_14 : Cond.code yX5_moreOfA cX5_moreOfA 2 (some .int) ∈ wsL_law := zr31 _ (List.mem_of_getElem? (i := 14) rfl)
theorem zw31_15 : Cond.methodLink RX5 255 yX5_turnDigits ∈ wsL_law := zr31 _ (List.mem_of_getElem? (i := 15) rfl)
theorem zw31_16 : Cond.instanceMethod yX5_turnDigits ∈ wsL_law := zr31 _ (List.mem_of_getElem? (i := 16) rfl)
theorem zw31_17 : Cond.selects RX5 yX5_turnDigits yX5_turnDigits ∈ wsL_law := zr31 _ (List.mem_of_getElem? (i := 17) rfl)
theorem zw31_18 : Cond.code yX5_turnDigits cX5_turnDigits 5 none ∈ wsL_law := zr31 _ (List.mem_of_getElem? (i := 18) rfl)
theorem zw31_19 : Cond.methodLink RX5 95 yX5_firstQuarter ∈ wsL_law := zr31 _ (List.mem_of_getElem? (i := 19) rfl)
theorem zw31_20 : Cond.instanceMethod yX5_firstQuarter ∈ wsL_law := zr31 _ (List.mem_of_getElem? (i := 20) rfl)
theorem zw31_21 : Cond.selects RX5 yX5_firstQuarter yX5_firstQuarter ∈ wsL_law := zr31 _ (List.mem_of_getElem? (i := 21) rfl)
theorem zw31_22 : Cond.code yX5_firstQuarter cX5_firstQuarter 3 (some .int) ∈ wsL_law := zr31 _ (List.mem_of_getElem? (i := 22) rfl)
theorem zw31_23 : Cond.methodLink RX5 142 yX5_near ∈ wsL_law := zr31 _ (List.mem_of_getElem? (i := 23) rfl)
theorem zw32_0 : Cond.instanceMethod yX5_near ∈ wsL_law := zr32 _ (List.mem_of_getElem? (i := 0) rfl)
theorem zw32_1 : Cond.selects RX5 yX5_near yX5_near ∈ wsL_law := zr32 _ (List.mem_of_getElem? (i := 1) rfl)
theorem zw32_2 : Cond.code yX5_near cX5_near 4 (some .int) ∈ wsL_law := zr32 _ (List.mem_of_getElem? (i := 2) rfl)
theorem zw32_3 : Cond.methodLink RX5 175 yX5_changeWithOther ∈ wsL_law := zr32 _ (List.mem_of_getElem? (i := 3) rfl)
theorem zw32_4 : Cond.instanceMethod yX5_changeWithOther ∈ wsL_law := zr32 _ (List.mem_of_getElem? (i := 4) rfl)
theorem zw32_5 : Cond.selects RX5 yX5_changeWithOther yX5_changeWithOther ∈ wsL_law := zr32 _ (List.mem_of_getElem? (i := 5) rfl)
theorem zw32_6 : Cond.code yX5_changeWithOther cX5_changeWithOther 3 none ∈ wsL_law := zr32 _ (List.mem_of_getElem? (i := 6) rfl)
theorem zw32_7 : Cond.methodLink RX5 178 yX5_holds ∈ wsL_law := zr32 _ (List.mem_of_getElem? (i := 7) rfl)
theorem zw32_8 : Cond.instanceMethod yX5_holds ∈ wsL_law := zr32 _ (List.mem_of_getElem? (i := 8) rfl)
theorem zw32_9 : Cond.selects RX5 yX5_holds yX5_holds ∈ wsL_law := zr32 _ (List.mem_of_getElem? (i := 9) rfl)
theorem zw32_10 : Cond.code yX5_holds cX5_holds 2 (some .boolean) ∈ wsL_law := zr32 _ (List.mem_of_getElem? (i := 10) rfl)
theorem zw32_11 : Cond.fieldLink RX5 134 "PadConsole$Processor" "CONDITIONS" "[I" ∈ wsL_law := zr32 _ (List.mem_of_getElem? (i := 11) rfl)
theorem zw32_12 : Cond.methodLink RX5 145 yX5_loadPair ∈ wsL_law := zr32 _ (List.mem_of_getElem? (i := 12) rfl)
theorem zw32_13 : Cond.instanceMethod yX5_loadPair ∈ wsL_law := zr32 _ (List.mem_of_getElem? (i := 13) rfl)
theorem zw32_14 : Cond.selects RX5 yX5_loadPair yX5_loadPair ∈ wsL_law := zr32 _ (List.mem_of_getElem? (i := 14) rfl)
theorem zw32_15 : Cond.code yX5_loadPair cX5_loadPair 2 (some .int) ∈ wsL_law := zr32 _ (List.mem_of_getElem? (i := 15) rfl)
theorem zw32_16 : Cond.methodLink RX5 148 yX5_addPair ∈ wsL_law := zr32 _ (List.mem_of_getElem? (i := 16) rfl)
theorem zw32_17 : Cond.instanceMethod yX5_addPair ∈ wsL_law := zr32 _ (List.mem_of_getElem? (i := 17) rfl)
theorem zw32_18 : Cond.selects RX5 yX5_addPair yX5_addPair ∈ wsL_law := zr32 _ (List.mem_of_getElem? (i := 18) rfl)
theorem zw32_19 : Cond.code yX5_addPair cX5_addPair 5 (some .int) ∈ wsL_law := zr32 _ (List.mem_of_getElem? (i := 19) rfl)
theorem zw32_20 : Cond.methodLink RX5 151 yX5_far ∈ wsL_law := zr32 _ (List.mem_of_getElem? (i := 20) rfl)
theorem zw32_21 : Cond.instanceMethod yX5_far ∈ wsL_law := zr32 _ (List.mem_of_getElem? (i := 21) rfl)
theorem zw32_22 : Cond.selects RX5 yX5_far yX5_far ∈ wsL_law := zr32 _ (List.mem_of_getElem? (i := 22) rfl)
theorem zw32_23 : Cond.code yX5_far cX5_far 4 (some .int) ∈ wsL_law := zr32 _ (List.mem_of_getElem? (i := 23) rfl)
theorem zw33_0 : Cond.methodLink RX5 163 yX5_oneMore ∈ wsL_law := zr33 _ (List.mem_of_getElem? (i := 0) rfl)
theorem zw33_1 : Cond.instanceMethod yX5_oneMore ∈ wsL_law := zr33 _ (List.mem_of_getElem? (i := 1) rfl)
theorem zw33_2 : Cond.selects RX5 yX5_oneMore yX5_oneMore ∈ wsL_law := zr33 _ (List.mem_of_getElem? (i := 2) rfl)
theorem zw33_3 : Cond.code yX5_oneMore cX5_oneMore 3 (some .int) ∈ wsL_law := zr33 _ (List.mem_of_getElem? (i := 3) rfl)
theorem zw33_4 : Cond.methodLink RX5 169 yX5_oneLess ∈ wsL_law := zr33 _ (List.mem_of_getElem? (i := 4) rfl)
theorem zw33_5 : Cond.instanceMethod yX5_oneLess ∈ wsL_law := zr33 _ (List.mem_of_getElem? (i := 5) rfl)
theorem zw33_6 : Cond.selects RX5 yX5_oneLess yX5_oneLess ∈ wsL_law := zr33 _ (List.mem_of_getElem? (i := 6) rfl)
theorem zw33_7 : Cond.code yX5_oneLess cX5_oneLess 3 (some .int) ∈ wsL_law := zr33 _ (List.mem_of_getElem? (i := 7) rfl)
theorem zw33_8 : Cond.methodLink RX5 172 yX5_changeA ∈ wsL_law := zr33 _ (List.mem_of_getElem? (i := 8) rfl)
theorem zw33_9 : Cond.instanceMethod yX5_changeA ∈ wsL_law := zr33 _ (List.mem_of_getElem? (i := 9) rfl)
theorem zw33_10 : Cond.selects RX5 yX5_changeA yX5_changeA ∈ wsL_law := zr33 _ (List.mem_of_getElem? (i := 10) rfl)
theorem zw33_11 : Cond.code yX5_changeA cX5_changeA 4 none ∈ wsL_law := zr33 _ (List.mem_of_getElem? (i := 11) rfl)
theorem zw33_12 : Cond.methodLink RX5 190 yX5_adjustA ∈ wsL_law := zr33 _ (List.mem_of_getElem? (i := 12) rfl)
theorem zw33_13 : Cond.instanceMethod yX5_adjustA ∈ wsL_law := zr33 _ (List.mem_of_getElem? (i := 13) rfl)
theorem zw33_14 : Cond.selects RX5 yX5_adjustA yX5_adjustA ∈ wsL_law := zr33 _ (List.mem_of_getElem? (i := 14) rfl)
theorem zw33_15 : Cond.code yX5_adjustA cX5_adjustA 8 none ∈ wsL_law := zr33 _ (List.mem_of_getElem? (i := 15) rfl)
theorem zw33_16 : Cond.methodLink RX5 98 yX5_move ∈ wsL_law := zr33 _ (List.mem_of_getElem? (i := 16) rfl)
theorem zw33_17 : Cond.instanceMethod yX5_move ∈ wsL_law := zr33 _ (List.mem_of_getElem? (i := 17) rfl)
theorem zw33_18 : Cond.selects RX5 yX5_move yX5_move ∈ wsL_law := zr33 _ (List.mem_of_getElem? (i := 18) rfl)
theorem zw33_19 : Cond.code yX5_move cX5_move 4 (some .int) ∈ wsL_law := zr33 _ (List.mem_of_getElem? (i := 19) rfl)
theorem zw33_20 : Cond.methodLink RX5 101 yX5_doWithRegister ∈ wsL_law := zr33 _ (List.mem_of_getElem? (i := 20) rfl)
theorem zw33_21 : Cond.instanceMethod yX5_doWithRegister ∈ wsL_law := zr33 _ (List.mem_of_getElem? (i := 21) rfl)
theorem zw33_22 : Cond.selects RX5 yX5_doWithRegister yX5_doWithRegister ∈ wsL_law := zr33 _ (List.mem_of_getElem? (i := 22) rfl)
theorem zw33_23 : Cond.code yX5_doWithRegister cX5_doWithRegister 2 (some .int) ∈ wsL_law := zr33 _ (List.mem_of_getElem? (i := 23) rfl)
theorem zw34_0 : Cond.methodLink RX5 199 yX5_doWith ∈ wsL_law := zr34 _ (List.mem_of_getElem? (i := 0) rfl)
theorem zw34_1 : Cond.instanceMethod yX5_doWith ∈ wsL_law := zr34 _ (List.mem_of_getElem? (i := 1) rfl)
theorem zw34_2 : Cond.selects RX5 yX5_doWith yX5_doWith ∈ wsL_law := zr34 _ (List.mem_of_getElem? (i := 2) rfl)
theorem zw34_3 : Cond.code yX5_doWith cX5_doWith 3 none ∈ wsL_law := zr34 _ (List.mem_of_getElem? (i := 3) rfl)
theorem zw34_4 : Cond.methodLink RX5 202 yX5_sum ∈ wsL_law := zr34 _ (List.mem_of_getElem? (i := 4) rfl)
theorem zw34_5 : Cond.instanceMethod yX5_sum ∈ wsL_law := zr34 _ (List.mem_of_getElem? (i := 5) rfl)
theorem zw34_6 : Cond.selects RX5 yX5_sum yX5_sum ∈ wsL_law := zr34 _ (List.mem_of_getElem? (i := 6) rfl)
theorem zw34_7 : Cond.code yX5_sum cX5_sum 7 (some .int) ∈ wsL_law := zr34 _ (List.mem_of_getElem? (i := 7) rfl)
theorem zw34_8 : Cond.methodLink RX5 104 yX5_exchange ∈ wsL_law := zr34 _ (List.mem_of_getElem? (i := 8) rfl)
theorem zw34_9 : Cond.instanceMethod yX5_exchange ∈ wsL_law := zr34 _ (List.mem_of_getElem? (i := 9) rfl)
theorem zw34_10 : Cond.selects RX5 yX5_exchange yX5_exchange ∈ wsL_law := zr34 _ (List.mem_of_getElem? (i := 10) rfl)
theorem zw34_11 : Cond.code yX5_exchange cX5_exchange 3 (some .int) ∈ wsL_law := zr34 _ (List.mem_of_getElem? (i := 11) rfl)
theorem zw34_12 : Cond.methodLink RX5 107 yX5_lastQuarter ∈ wsL_law := zr34 _ (List.mem_of_getElem? (i := 12) rfl)
theorem zw34_13 : Cond.instanceMethod yX5_lastQuarter ∈ wsL_law := zr34 _ (List.mem_of_getElem? (i := 13) rfl)
theorem zw34_14 : Cond.selects RX5 yX5_lastQuarter yX5_lastQuarter ∈ wsL_law := zr34 _ (List.mem_of_getElem? (i := 14) rfl)
theorem zw34_15 : Cond.code yX5_lastQuarter cX5_lastQuarter 3 (some .int) ∈ wsL_law := zr34 _ (List.mem_of_getElem? (i := 15) rfl)
theorem zw34_16 : Cond.methodLink RX5 212 yX5_popPair ∈ wsL_law := zr34 _ (List.mem_of_getElem? (i := 16) rfl)
theorem zw34_17 : Cond.instanceMethod yX5_popPair ∈ wsL_law := zr34 _ (List.mem_of_getElem? (i := 17) rfl)
theorem zw34_18 : Cond.selects RX5 yX5_popPair yX5_popPair ∈ wsL_law := zr34 _ (List.mem_of_getElem? (i := 18) rfl)
theorem zw34_19 : Cond.code yX5_popPair cX5_popPair 3 (some .int) ∈ wsL_law := zr34 _ (List.mem_of_getElem? (i := 19) rfl)
theorem zw34_20 : Cond.methodLink RX5 215 yX5_leave ∈ wsL_law := zr34 _ (List.mem_of_getElem? (i := 20) rfl)
theorem zw34_21 : Cond.instanceMethod yX5_leave ∈ wsL_law := zr34 _ (List.mem_of_getElem? (i := 21) rfl)
theorem zw34_22 : Cond.selects RX5 yX5_leave yX5_leave ∈ wsL_law := zr34 _ (List.mem_of_getElem? (i := 22) rfl)
theorem zw34_23 : Cond.code yX5_leave cX5_leave 3 (some .int) ∈ wsL_law := zr34 _ (List.mem_of_getElem? (i := 23) rfl)
theorem zw35_0 : Cond.methodLink RX5 218 yX5_callIf ∈ wsL_law := zr35 _ (List.mem_of_getElem? (i := 0) rfl)
theorem zw35_1 : Cond.instanceMethod yX5_callIf ∈ wsL_law := zr35 _ (List.mem_of_getElem? (i := 1) rfl)
theorem zw35_2 : Cond.selects RX5 yX5_callIf yX5_callIf ∈ wsL_law := zr35 _ (List.mem_of_getElem? (i := 2) rfl)
theorem zw35_3 : Cond.code yX5_callIf cX5_callIf 3 (some .int) ∈ wsL_law := zr35 _ (List.mem_of_getElem? (i := 3) rfl)
theorem zw35_4 : Cond.methodLink RX11 365 yX9_passes ∈ wsL_law := zr35 _ (List.mem_of_getElem? (i := 4) rfl)
theorem zw35_5 : Cond.instanceMethod yX9_passes ∈ wsL_law := zr35 _ (List.mem_of_getElem? (i := 5) rfl)
theorem zw35_6 : Cond.selects RX9 yX9_passes yX9_passes ∈ wsL_law := zr35 _ (List.mem_of_getElem? (i := 6) rfl)
theorem zw35_7 : Cond.code yX9_passes cX9_passes 2 (some .boolean) ∈ wsL_law := zr35 _ (List.mem_of_getElem? (i := 7) rfl)
theorem zw35_8 : Cond.methodLink RX11 368 yX11_endLine ∈ wsL_law := zr35 _ (List.mem_of_getElem? (i := 8) rfl)
theorem zw35_9 : Cond.instanceMethod yX11_endLine ∈ wsL_law := zr35 _ (List.mem_of_getElem? (i := 9) rfl)
theorem zw35_10 : Cond.selects RX11 yX11_endLine yX11_endLine ∈ wsL_law := zr35 _ (List.mem_of_getElem? (i := 10) rfl)
theorem zw35_11 : Cond.code yX11_endLine cX11_endLine 1 none ∈ wsL_law := zr35 _ (List.mem_of_getElem? (i := 11) rfl)
theorem zw35_12 : Cond.methodLink RX11 374 yX9_held ∈ wsL_law := zr35 _ (List.mem_of_getElem? (i := 12) rfl)
theorem zw35_13 : Cond.instanceMethod yX9_held ∈ wsL_law := zr35 _ (List.mem_of_getElem? (i := 13) rfl)
theorem zw35_14 : Cond.selects RX9 yX9_held yX9_held ∈ wsL_law := zr35 _ (List.mem_of_getElem? (i := 14) rfl)
theorem zw35_15 : Cond.code yX9_held cX9_held 2 (some .int) ∈ wsL_law := zr35 _ (List.mem_of_getElem? (i := 15) rfl)
theorem zw35_16 : Cond.methodLink RX11 377 yX9_height ∈ wsL_law := zr35 _ (List.mem_of_getElem? (i := 16) rfl)
theorem zw35_17 : Cond.methodLink RX11 378 yX3_draw ∈ wsL_law := zr35 _ (List.mem_of_getElem? (i := 17) rfl)
theorem zw35_18 : Cond.instanceMethod yX3_draw ∈ wsL_law := zr35 _ (List.mem_of_getElem? (i := 18) rfl)
theorem zw35_19 : Cond.selects RX3 yX3_draw yX3_draw ∈ wsL_law := zr35 _ (List.mem_of_getElem? (i := 19) rfl)
theorem zw35_20 : Cond.code yX3_draw cX3_draw 5 none ∈ wsL_law := zr35 _ (List.mem_of_getElem? (i := 20) rfl)
theorem zw35_21 : Cond.methodLink RX3 62 yX9_held ∈ wsL_law := zr35 _ (List.mem_of_getElem? (i := 21) rfl)
theorem zw35_22 : Cond.methodLink RX3 65 yX9_mode ∈ wsL_law := zr35 _ (List.mem_of_getElem? (i := 22) rfl)
theorem zw35_23 : Cond.instanceMethod yX9_mode ∈ wsL_law := zr35 _ (List.mem_of_getElem? (i := 23) rfl)
theorem zw36_0 : Cond.selects RX9 yX9_mode yX9_mode ∈ wsL_law := zr36 _ (List.mem_of_getElem? (i := 0) rfl)
theorem zw36_1 : Cond.code yX9_mode cX9_mode 1 (some .int) ∈ wsL_law := zr36 _ (List.mem_of_getElem? (i := 1) rfl)
theorem zw36_2 : Cond.methodLink RX3 68 yJ7_fill_53178 ∈ wsL_law := zr36 _ (List.mem_of_getElem? (i := 2) rfl)
theorem zw36_3 : Cond.methodLink RX3 74 yX3_drawTiles ∈ wsL_law := zr36 _ (List.mem_of_getElem? (i := 3) rfl)
theorem zw36_4 : Cond.instanceMethod yX3_drawTiles ∈ wsL_law := zr36 _ (List.mem_of_getElem? (i := 4) rfl)
theorem zw36_5 : Cond.selects RX3 yX3_drawTiles yX3_drawTiles ∈ wsL_law := zr36 _ (List.mem_of_getElem? (i := 5) rfl)
theorem zw36_6 : Cond.code yX3_drawTiles cX3_drawTiles 14 none ∈ wsL_law := zr36 _ (List.mem_of_getElem? (i := 6) rfl)
theorem zw36_7 : Cond.fieldLink RX3 103 "PadConsole$Painter" "tileBits" "I" ∈ wsL_law := zr36 _ (List.mem_of_getElem? (i := 7) rfl)
theorem zw36_8 : Cond.fieldLink RX3 107 "PadConsole$Painter" "planes" "I" ∈ wsL_law := zr36 _ (List.mem_of_getElem? (i := 8) rfl)
theorem zw36_9 : Cond.methodLink RX3 40 yX9_height ∈ wsL_law := zr36 _ (List.mem_of_getElem? (i := 9) rfl)
theorem zw36_10 : Cond.methodLink RX3 100 yX3_takeTile ∈ wsL_law := zr36 _ (List.mem_of_getElem? (i := 10) rfl)
theorem zw36_11 : Cond.instanceMethod yX3_takeTile ∈ wsL_law := zr36 _ (List.mem_of_getElem? (i := 11) rfl)
theorem zw36_12 : Cond.selects RX3 yX3_takeTile yX3_takeTile ∈ wsL_law := zr36 _ (List.mem_of_getElem? (i := 12) rfl)
theorem zw36_13 : Cond.code yX3_takeTile cX3_takeTile 5 none ∈ wsL_law := zr36 _ (List.mem_of_getElem? (i := 13) rfl)
theorem zw36_14 : Cond.methodLink RX3 113 yX9_vramByte ∈ wsL_law := zr36 _ (List.mem_of_getElem? (i := 14) rfl)
theorem zw36_15 : Cond.instanceMethod yX9_vramByte ∈ wsL_law := zr36 _ (List.mem_of_getElem? (i := 15) rfl)
theorem zw36_16 : Cond.selects RX9 yX9_vramByte yX9_vramByte ∈ wsL_law := zr36 _ (List.mem_of_getElem? (i := 16) rfl)
theorem zw36_17 : Cond.code yX9_vramByte cX9_vramByte 2 (some .int) ∈ wsL_law := zr36 _ (List.mem_of_getElem? (i := 17) rfl)
theorem zw36_18 : Cond.methodLink RX3 116 yX3_takePlanes ∈ wsL_law := zr36 _ (List.mem_of_getElem? (i := 18) rfl)
theorem zw36_19 : Cond.instanceMethod yX3_takePlanes ∈ wsL_law := zr36 _ (List.mem_of_getElem? (i := 19) rfl)
theorem zw36_20 : Cond.selects RX3 yX3_takePlanes yX3_takePlanes ∈ wsL_law := zr36 _ (List.mem_of_getElem? (i := 20) rfl)
theorem zw36_21 : Cond.code yX3_takePlanes cX3_takePlanes 2 none ∈ wsL_law := zr36 _ (List.mem_of_getElem? (i := 21) rfl)
theorem zw36_22 : Cond.methodLink RX3 110 yX3_numberIn ∈ wsL_law := zr36 _ (List.mem_of_getElem? (i := 22) rfl)
theorem zw36_23 : Cond.static yX3_numberIn ∈ wsL_law := zr36 _ (List.mem_of_getElem? (i := 23) rfl)
theorem zw37_0 : Cond.code yX3_numberIn cX3_numberIn 3 (some .int) ∈ wsL_law := zr37 _ (List.mem_of_getElem? (i := 0) rfl)
theorem zw37_1 : Cond.constant RX3 119 (16843009) ∈ wsL_law := zr37 _ (List.mem_of_getElem? (i := 1) rfl)
theorem zw37_2 : Cond.methodLink RX3 78 yX3_drawSprites ∈ wsL_law := zr37 _ (List.mem_of_getElem? (i := 2) rfl)
theorem zw37_3 : Cond.instanceMethod yX3_drawSprites ∈ wsL_law := zr37 _ (List.mem_of_getElem? (i := 3) rfl)
theorem zw37_4 : Cond.selects RX3 yX3_drawSprites yX3_drawSprites ∈ wsL_law := zr37 _ (List.mem_of_getElem? (i := 4) rfl)
theorem zw37_5 : Cond.code yX3_drawSprites cX3_drawSprites 8 none ∈ wsL_law := zr37 _ (List.mem_of_getElem? (i := 5) rfl)
theorem zw37_6 : Cond.methodLink RX3 120 yX3_rowOfSprite ∈ wsL_law := zr37 _ (List.mem_of_getElem? (i := 6) rfl)
theorem zw37_7 : Cond.instanceMethod yX3_rowOfSprite ∈ wsL_law := zr37 _ (List.mem_of_getElem? (i := 7) rfl)
theorem zw37_8 : Cond.selects RX3 yX3_rowOfSprite yX3_rowOfSprite ∈ wsL_law := zr37 _ (List.mem_of_getElem? (i := 8) rfl)
theorem zw37_9 : Cond.code yX3_rowOfSprite cX3_rowOfSprite 5 (some .int) ∈ wsL_law := zr37 _ (List.mem_of_getElem? (i := 9) rfl)
theorem zw37_10 : Cond.methodLink RX3 123 yX9_mark ∈ wsL_law := zr37 _ (List.mem_of_getElem? (i := 10) rfl)
theorem zw37_11 : Cond.instanceMethod yX9_mark ∈ wsL_law := zr37 _ (List.mem_of_getElem? (i := 11) rfl)
theorem zw37_12 : Cond.selects RX9 yX9_mark yX9_mark ∈ wsL_law := zr37 _ (List.mem_of_getElem? (i := 12) rfl)
theorem zw37_13 : Cond.code yX9_mark cX9_mark 2 none ∈ wsL_law := zr37 _ (List.mem_of_getElem? (i := 13) rfl)
theorem zw37_14 : Cond.methodLink RX3 126 yX3_drawSprite ∈ wsL_law := zr37 _ (List.mem_of_getElem? (i := 14) rfl)
theorem zw37_15 : Cond.instanceMethod yX3_drawSprite ∈ wsL_law := zr37 _ (List.mem_of_getElem? (i := 15) rfl)
theorem zw37_16 : Cond.selects RX3 yX3_drawSprite yX3_drawSprite ∈ wsL_law := zr37 _ (List.mem_of_getElem? (i := 16) rfl)
theorem zw37_17 : Cond.code yX3_drawSprite cX3_drawSprite 10 none ∈ wsL_law := zr37 _ (List.mem_of_getElem? (i := 17) rfl)
theorem zw37_18 : Cond.methodLink RX3 81 yJ7_fill_fda19 ∈ wsL_law := zr37 _ (List.mem_of_getElem? (i := 18) rfl)
theorem zw37_19 : Cond.methodLink RX3 84 yX3_drawOld ∈ wsL_law := zr37 _ (List.mem_of_getElem? (i := 19) rfl)
theorem zw37_20 : Cond.instanceMethod yX3_drawOld ∈ wsL_law := zr37 _ (List.mem_of_getElem? (i := 20) rfl)
theorem zw37_21 : Cond.selects RX3 yX3_drawOld yX3_drawOld ∈ wsL_law := zr37 _ (List.mem_of_getElem? (i := 21) rfl)
theorem zw37_22 : Cond.code yX3_drawOld cX3_drawOld 6 none ∈ wsL_law := zr37 _ (List.mem_of_getElem? (i := 22) rfl)
theorem zw37_23 : Cond.methodLink RX3 129 yX3_drawText ∈ wsL_law := zr37 _ (List.mem_of_getElem? (i := 23) rfl)
theorem zw38_0 : Cond.instanceMethod yX3_drawText ∈ wsL_law := zr38 _ (List.mem_of_getElem? (i := 0) rfl)
theorem zw38_1 : Cond.selects RX3 yX3_drawText yX3_drawText ∈ wsL_law := zr38 _ (List.mem_of_getElem? (i := 1) rfl)
theorem zw38_2 : Cond.code yX3_drawText cX3_drawText 7 none ∈ wsL_law := zr38 _ (List.mem_of_getElem? (i := 2) rfl)
theorem zw38_3 : Cond.methodLink RX3 132 yX3_patternAt ∈ wsL_law := zr38 _ (List.mem_of_getElem? (i := 3) rfl)
theorem zw38_4 : Cond.instanceMethod yX3_patternAt ∈ wsL_law := zr38 _ (List.mem_of_getElem? (i := 4) rfl)
theorem zw38_5 : Cond.selects RX3 yX3_patternAt yX3_patternAt ∈ wsL_law := zr38 _ (List.mem_of_getElem? (i := 5) rfl)
theorem zw38_6 : Cond.code yX3_patternAt cX3_patternAt 3 (some .int) ∈ wsL_law := zr38 _ (List.mem_of_getElem? (i := 6) rfl)
theorem zw38_7 : Cond.methodLink RX3 135 yX3_drawPattern ∈ wsL_law := zr38 _ (List.mem_of_getElem? (i := 7) rfl)
theorem zw38_8 : Cond.instanceMethod yX3_drawPattern ∈ wsL_law := zr38 _ (List.mem_of_getElem? (i := 8) rfl)
theorem zw38_9 : Cond.selects RX3 yX3_drawPattern yX3_drawPattern ∈ wsL_law := zr38 _ (List.mem_of_getElem? (i := 9) rfl)
theorem zw38_10 : Cond.code yX3_drawPattern cX3_drawPattern 5 none ∈ wsL_law := zr38 _ (List.mem_of_getElem? (i := 10) rfl)
theorem zw38_11 : Cond.methodLink RX3 139 yX3_drawThird ∈ wsL_law := zr38 _ (List.mem_of_getElem? (i := 11) rfl)
theorem zw38_12 : Cond.instanceMethod yX3_drawThird ∈ wsL_law := zr38 _ (List.mem_of_getElem? (i := 12) rfl)
theorem zw38_13 : Cond.selects RX3 yX3_drawThird yX3_drawThird ∈ wsL_law := zr38 _ (List.mem_of_getElem? (i := 13) rfl)
theorem zw38_14 : Cond.code yX3_drawThird cX3_drawThird 9 none ∈ wsL_law := zr38 _ (List.mem_of_getElem? (i := 14) rfl)
theorem zw38_15 : Cond.methodLink RX3 142 yX3_drawBlocks ∈ wsL_law := zr38 _ (List.mem_of_getElem? (i := 15) rfl)
theorem zw38_16 : Cond.instanceMethod yX3_drawBlocks ∈ wsL_law := zr38 _ (List.mem_of_getElem? (i := 16) rfl)
theorem zw38_17 : Cond.selects RX3 yX3_drawBlocks yX3_drawBlocks ∈ wsL_law := zr38 _ (List.mem_of_getElem? (i := 17) rfl)
theorem zw38_18 : Cond.code yX3_drawBlocks cX3_drawBlocks 5 none ∈ wsL_law := zr38 _ (List.mem_of_getElem? (i := 18) rfl)
theorem zw38_19 : Cond.methodLink RX3 88 yX3_drawOldSprites ∈ wsL_law := zr38 _ (List.mem_of_getElem? (i := 19) rfl)
theorem zw38_20 : Cond.instanceMethod yX3_drawOldSprites ∈ wsL_law := zr38 _ (List.mem_of_getElem? (i := 20) rfl)
theorem zw38_21 : Cond.selects RX3 yX3_drawOldSprites yX3_drawOldSprites ∈ wsL_law := zr38 _ (List.mem_of_getElem? (i := 21) rfl)
theorem zw38_22 : Cond.code yX3_drawOldSprites cX3_drawOldSprites 8 none ∈ wsL_law := zr38 _ (List.mem_of_getElem? (i := 22) rfl)
theorem zw38_23 : Cond.methodLink RX3 145 yX9_markFifth ∈ wsL_law := zr38 _ (List.mem_of_getElem? (i := 23) rfl)
theorem zw39_0 : Cond.instanceMethod yX9_markFifth ∈ wsL_law := zr39 _ (List.mem_of_getElem? (i := 0) rfl)
theorem zw39_1 : Cond.selects RX9 yX9_markFifth yX9_markFifth ∈ wsL_law := zr39 _ (List.mem_of_getElem? (i := 1) rfl)
theorem zw39_2 : Cond.code yX9_markFifth cX9_markFifth 2 none ∈ wsL_law := zr39 _ (List.mem_of_getElem? (i := 2) rfl)
theorem zw39_3 : Cond.methodLink RX3 148 yX3_drawOldSprite ∈ wsL_law := zr39 _ (List.mem_of_getElem? (i := 3) rfl)
theorem zw39_4 : Cond.instanceMethod yX3_drawOldSprite ∈ wsL_law := zr39 _ (List.mem_of_getElem? (i := 4) rfl)
theorem zw39_5 : Cond.selects RX3 yX3_drawOldSprite yX3_drawOldSprite ∈ wsL_law := zr39 _ (List.mem_of_getElem? (i := 5) rfl)
theorem zw39_6 : Cond.code yX3_drawOldSprite cX3_drawOldSprite 13 none ∈ wsL_law := zr39 _ (List.mem_of_getElem? (i := 6) rfl)
theorem zw39_7 : Cond.methodLink RX3 151 yX3_takeDot ∈ wsL_law := zr39 _ (List.mem_of_getElem? (i := 7) rfl)
theorem zw39_8 : Cond.instanceMethod yX3_takeDot ∈ wsL_law := zr39 _ (List.mem_of_getElem? (i := 8) rfl)
theorem zw39_9 : Cond.selects RX3 yX3_takeDot yX3_takeDot ∈ wsL_law := zr39 _ (List.mem_of_getElem? (i := 9) rfl)
theorem zw39_10 : Cond.code yX3_takeDot cX3_takeDot 3 none ∈ wsL_law := zr39 _ (List.mem_of_getElem? (i := 10) rfl)
theorem zw39_11 : Cond.methodLink RX3 91 yX3_fillBack ∈ wsL_law := zr39 _ (List.mem_of_getElem? (i := 11) rfl)
theorem zw39_12 : Cond.instanceMethod yX3_fillBack ∈ wsL_law := zr39 _ (List.mem_of_getElem? (i := 12) rfl)
theorem zw39_13 : Cond.selects RX3 yX3_fillBack yX3_fillBack ∈ wsL_law := zr39 _ (List.mem_of_getElem? (i := 13) rfl)
theorem zw39_14 : Cond.code yX3_fillBack cX3_fillBack 3 none ∈ wsL_law := zr39 _ (List.mem_of_getElem? (i := 14) rfl)
theorem zw39_15 : Cond.methodLink RX3 94 yX3_mixColours ∈ wsL_law := zr39 _ (List.mem_of_getElem? (i := 15) rfl)
theorem zw39_16 : Cond.instanceMethod yX3_mixColours ∈ wsL_law := zr39 _ (List.mem_of_getElem? (i := 16) rfl)
theorem zw39_17 : Cond.selects RX3 yX3_mixColours yX3_mixColours ∈ wsL_law := zr39 _ (List.mem_of_getElem? (i := 17) rfl)
theorem zw39_18 : Cond.code yX3_mixColours cX3_mixColours 4 none ∈ wsL_law := zr39 _ (List.mem_of_getElem? (i := 18) rfl)
theorem zw39_19 : Cond.fieldLink RX3 97 "PadConsole$Painter" "FIXED_COLOURS" "[I" ∈ wsL_law := zr39 _ (List.mem_of_getElem? (i := 19) rfl)
theorem zw39_20 : Cond.methodLink RX11 381 yX9_goesToNextLine ∈ wsL_law := zr39 _ (List.mem_of_getElem? (i := 20) rfl)
theorem zw39_21 : Cond.instanceMethod yX9_goesToNextLine ∈ wsL_law := zr39 _ (List.mem_of_getElem? (i := 21) rfl)
theorem zw39_22 : Cond.selects RX9 yX9_goesToNextLine yX9_goesToNextLine ∈ wsL_law := zr39 _ (List.mem_of_getElem? (i := 22) rfl)
theorem zw39_23 : Cond.code yX9_goesToNextLine cX9_goesToNextLine 3 (some .boolean) ∈ wsL_law := zr39 _ (List.mem_of_getElem? (i := 23) rfl)
theorem zw40_0 : Cond.methodLink RX11 384 yX0_countPicture ∈ wsL_law := zr40 _ (List.mem_of_getElem? (i := 0) rfl)
theorem zw40_1 : Cond.instanceMethod yX0_countPicture ∈ wsL_law := zr40 _ (List.mem_of_getElem? (i := 1) rfl)
theorem zw40_2 : Cond.selects RX0 yX0_countPicture yX0_countPicture ∈ wsL_law := zr40 _ (List.mem_of_getElem? (i := 2) rfl)
theorem zw40_3 : Cond.code yX0_countPicture cX0_countPicture 1 none ∈ wsL_law := zr40 _ (List.mem_of_getElem? (i := 3) rfl)
theorem zw40_4 : Cond.methodLink RX11 387 yX1_carryOutPlans ∈ wsL_law := zr40 _ (List.mem_of_getElem? (i := 4) rfl)
theorem zw40_5 : Cond.instanceMethod yX1_carryOutPlans ∈ wsL_law := zr40 _ (List.mem_of_getElem? (i := 5) rfl)
theorem zw40_6 : Cond.selects RX1 yX1_carryOutPlans yX1_carryOutPlans ∈ wsL_law := zr40 _ (List.mem_of_getElem? (i := 6) rfl)
theorem zw40_7 : Cond.code yX1_carryOutPlans cX1_carryOutPlans 6 none ∈ wsL_law := zr40 _ (List.mem_of_getElem? (i := 7) rfl)
theorem zw40_8 : Cond.methodLink RX1 49 yX1_placeOfPlan ∈ wsL_law := zr40 _ (List.mem_of_getElem? (i := 8) rfl)
theorem zw40_9 : Cond.instanceMethod yX1_placeOfPlan ∈ wsL_law := zr40 _ (List.mem_of_getElem? (i := 9) rfl)
theorem zw40_10 : Cond.selects RX1 yX1_placeOfPlan yX1_placeOfPlan ∈ wsL_law := zr40 _ (List.mem_of_getElem? (i := 10) rfl)
theorem zw40_11 : Cond.code yX1_placeOfPlan cX1_placeOfPlan 2 (some .int) ∈ wsL_law := zr40 _ (List.mem_of_getElem? (i := 11) rfl)
theorem zw40_12 : Cond.methodLink RX1 52 yX4_holdButtons ∈ wsL_law := zr40 _ (List.mem_of_getElem? (i := 12) rfl)
theorem zw40_13 : Cond.instanceMethod yX4_holdButtons ∈ wsL_law := zr40 _ (List.mem_of_getElem? (i := 13) rfl)
theorem zw40_14 : Cond.selects RX4 yX4_holdButtons yX4_holdButtons ∈ wsL_law := zr40 _ (List.mem_of_getElem? (i := 14) rfl)
theorem zw40_15 : Cond.code yX4_holdButtons cX4_holdButtons 3 none ∈ wsL_law := zr40 _ (List.mem_of_getElem? (i := 15) rfl)
theorem zw40_16 : Cond.methodLink RX11 371 yX0_pass ∈ wsL_law := zr40 _ (List.mem_of_getElem? (i := 16) rfl)
theorem zw40_17 : Cond.instanceMethod yX0_pass ∈ wsL_law := zr40 _ (List.mem_of_getElem? (i := 17) rfl)
theorem zw40_18 : Cond.selects RX0 yX0_pass yX0_pass ∈ wsL_law := zr40 _ (List.mem_of_getElem? (i := 18) rfl)
theorem zw40_19 : Cond.code yX0_pass cX0_pass 8 none ∈ wsL_law := zr40 _ (List.mem_of_getElem? (i := 19) rfl)
theorem zw40_20 : Cond.constantLong RX0 46 (16) ∈ wsL_law := zr40 _ (List.mem_of_getElem? (i := 20) rfl)
theorem zw40_21 : Cond.constantLong RX0 51 (72) ∈ wsL_law := zr40 _ (List.mem_of_getElem? (i := 21) rfl)
theorem zw40_22 : Cond.constantLong RX0 58 (81) ∈ wsL_law := zr40 _ (List.mem_of_getElem? (i := 22) rfl)
theorem zw40_23 : Cond.methodLink RX0 48 yX0_addSample ∈ wsL_law := zr40 _ (List.mem_of_getElem? (i := 23) rfl)
theorem zw41_0 : Cond.instanceMethod yX0_addSample ∈ wsL_law := zr41 _ (List.mem_of_getElem? (i := 0) rfl)
theorem zw41_1 : Cond.selects RX0 yX0_addSample yX0_addSample ∈ wsL_law := zr41 _ (List.mem_of_getElem? (i := 1) rfl)
theorem zw41_2 : Cond.code yX0_addSample cX0_addSample 2 none ∈ wsL_law := zr41 _ (List.mem_of_getElem? (i := 2) rfl)
theorem zw41_3 : Cond.constant RX0 73 (65535) ∈ wsL_law := zr41 _ (List.mem_of_getElem? (i := 3) rfl)
theorem zw41_4 : Cond.methodLink RX0 63 yX7_nextSample ∈ wsL_law := zr41 _ (List.mem_of_getElem? (i := 4) rfl)
theorem zw41_5 : Cond.instanceMethod yX7_nextSample ∈ wsL_law := zr41 _ (List.mem_of_getElem? (i := 5) rfl)
theorem zw41_6 : Cond.selects RX7 yX7_nextSample yX7_nextSample ∈ wsL_law := zr41 _ (List.mem_of_getElem? (i := 6) rfl)
theorem zw41_7 : Cond.code yX7_nextSample cX7_nextSample 6 (some .int) ∈ wsL_law := zr41 _ (List.mem_of_getElem? (i := 7) rfl)
theorem zw41_8 : Cond.fieldLink RX7 42 "PadConsole$Sound" "LOUD" "[I" ∈ wsL_law := zr41 _ (List.mem_of_getElem? (i := 8) rfl)
theorem zw41_9 : Cond.methodLink RX7 35 yX7_moveTone ∈ wsL_law := zr41 _ (List.mem_of_getElem? (i := 9) rfl)
theorem zw41_10 : Cond.instanceMethod yX7_moveTone ∈ wsL_law := zr41 _ (List.mem_of_getElem? (i := 10) rfl)
theorem zw41_11 : Cond.selects RX7 yX7_moveTone yX7_moveTone ∈ wsL_law := zr41 _ (List.mem_of_getElem? (i := 11) rfl)
theorem zw41_12 : Cond.code yX7_moveTone cX7_moveTone 3 none ∈ wsL_law := zr41 _ (List.mem_of_getElem? (i := 12) rfl)
theorem zw41_13 : Cond.methodLink RX7 45 Lib.Math.max.name ∈ wsL_law := zr41 _ (List.mem_of_getElem? (i := 13) rfl)
theorem zw41_14 : Cond.methodLink RX7 39 yX7_moveNoise ∈ wsL_law := zr41 _ (List.mem_of_getElem? (i := 14) rfl)
theorem zw41_15 : Cond.instanceMethod yX7_moveNoise ∈ wsL_law := zr41 _ (List.mem_of_getElem? (i := 15) rfl)
theorem zw41_16 : Cond.selects RX7 yX7_moveNoise yX7_moveNoise ∈ wsL_law := zr41 _ (List.mem_of_getElem? (i := 16) rfl)
theorem zw41_17 : Cond.code yX7_moveNoise cX7_moveNoise 4 none ∈ wsL_law := zr41 _ (List.mem_of_getElem? (i := 17) rfl)
theorem zw41_18 : Cond.methodLink RX0 69 yX6_add ∈ wsL_law := zr41 _ (List.mem_of_getElem? (i := 18) rfl)
theorem zw41_19 : Cond.instanceMethod yX6_add ∈ wsL_law := zr41 _ (List.mem_of_getElem? (i := 19) rfl)
theorem zw41_20 : Cond.selects RX6 yX6_add yX6_add ∈ wsL_law := zr41 _ (List.mem_of_getElem? (i := 20) rfl)
theorem zw41_21 : Cond.code yX6_add cX6_add 3 none ∈ wsL_law := zr41 _ (List.mem_of_getElem? (i := 21) rfl)
theorem zw41_22 : Cond.fieldLink RX6 16 "PadConsole$Ring" "first" "I" ∈ wsL_law := zr41 _ (List.mem_of_getElem? (i := 22) rfl)
theorem zw41_23 : Cond.fieldLink RX6 20 "PadConsole$Ring" "count" "I" ∈ wsL_law := zr41 _ (List.mem_of_getElem? (i := 23) rfl)
theorem zw42_0 : Cond.methodLink RX0 53 yX10_makeNext ∈ wsL_law := zr42 _ (List.mem_of_getElem? (i := 0) rfl)
theorem zw42_1 : Cond.instanceMethod yX10_makeNext ∈ wsL_law := zr42 _ (List.mem_of_getElem? (i := 1) rfl)
theorem zw42_2 : Cond.selects RX10 yX10_makeNext yX10_makeNext ∈ wsL_law := zr42 _ (List.mem_of_getElem? (i := 2) rfl)
theorem zw42_3 : Cond.code yX10_makeNext cX10_makeNext 5 none ∈ wsL_law := zr42 _ (List.mem_of_getElem? (i := 3) rfl)
theorem zw42_4 : Cond.fieldLink RX10 32 "PadConsole$Waves" "rhythm" "Z" ∈ wsL_law := zr42 _ (List.mem_of_getElem? (i := 4) rfl)
theorem zw42_5 : Cond.constant RX10 47 (8389120) ∈ wsL_law := zr42 _ (List.mem_of_getElem? (i := 5) rfl)
theorem zw42_6 : Cond.methodLink RX10 36 yX10_takeOwnPatch ∈ wsL_law := zr42 _ (List.mem_of_getElem? (i := 6) rfl)
theorem zw42_7 : Cond.instanceMethod yX10_takeOwnPatch ∈ wsL_law := zr42 _ (List.mem_of_getElem? (i := 7) rfl)
theorem zw42_8 : Cond.selects RX10 yX10_takeOwnPatch yX10_takeOwnPatch ∈ wsL_law := zr42 _ (List.mem_of_getElem? (i := 8) rfl)
theorem zw42_9 : Cond.code yX10_takeOwnPatch cX10_takeOwnPatch 2 none ∈ wsL_law := zr42 _ (List.mem_of_getElem? (i := 9) rfl)
theorem zw42_10 : Cond.fieldLink RX10 62 "PadConsole$Waves" "ownPatch" "J" ∈ wsL_law := zr42 _ (List.mem_of_getElem? (i := 10) rfl)
theorem zw42_11 : Cond.methodLink RX10 39 yX10_takeChannel ∈ wsL_law := zr42 _ (List.mem_of_getElem? (i := 11) rfl)
theorem zw42_12 : Cond.instanceMethod yX10_takeChannel ∈ wsL_law := zr42 _ (List.mem_of_getElem? (i := 12) rfl)
theorem zw42_13 : Cond.selects RX10 yX10_takeChannel yX10_takeChannel ∈ wsL_law := zr42 _ (List.mem_of_getElem? (i := 13) rfl)
theorem zw42_14 : Cond.code yX10_takeChannel cX10_takeChannel 3 none ∈ wsL_law := zr42 _ (List.mem_of_getElem? (i := 14) rfl)
theorem zw42_15 : Cond.fieldLink RX10 48 "PadConsole$Waves" "channel" "I" ∈ wsL_law := zr42 _ (List.mem_of_getElem? (i := 15) rfl)
theorem zw42_16 : Cond.fieldLink RX10 52 "PadConsole$Waves" "f" "I" ∈ wsL_law := zr42 _ (List.mem_of_getElem? (i := 16) rfl)
theorem zw42_17 : Cond.fieldLink RX10 55 "PadConsole$Waves" "block" "I" ∈ wsL_law := zr42 _ (List.mem_of_getElem? (i := 17) rfl)
theorem zw42_18 : Cond.fieldLink RX10 58 "PadConsole$Waves" "PATCHES" "[J" ∈ wsL_law := zr42 _ (List.mem_of_getElem? (i := 18) rfl)
theorem zw42_19 : Cond.fieldLink RX10 66 "PadConsole$Waves" "patch" "J" ∈ wsL_law := zr42 _ (List.mem_of_getElem? (i := 19) rfl)
theorem zw42_20 : Cond.methodLink RX10 43 yX10_moveOperator ∈ wsL_law := zr42 _ (List.mem_of_getElem? (i := 20) rfl)
theorem zw42_21 : Cond.instanceMethod yX10_moveOperator ∈ wsL_law := zr42 _ (List.mem_of_getElem? (i := 21) rfl)
theorem zw42_22 : Cond.selects RX10 yX10_moveOperator yX10_moveOperator ∈ wsL_law := zr42 _ (List.mem_of_getElem? (i := 22) rfl)
theorem zw42_23 : Cond.code yX10_moveOperator cX10_moveOperator 4 none ∈ wsL_law := zr42 _ (List.mem_of_getElem? (i := 23) rfl)
theorem zw43_0 : Cond.methodLink RX10 69 yX10_isOn ∈ wsL_law := zr43 _ (List.mem_of_getElem? (i := 0) rfl)
theorem zw43_1 : Cond.instanceMethod yX10_isOn ∈ wsL_law := zr43 _ (List.mem_of_getElem? (i := 1) rfl)
theorem zw43_2 : Cond.selects RX10 yX10_isOn yX10_isOn ∈ wsL_law := zr43 _ (List.mem_of_getElem? (i := 2) rfl)
theorem zw43_3 : Cond.code yX10_isOn cX10_isOn 2 (some .boolean) ∈ wsL_law := zr43 _ (List.mem_of_getElem? (i := 3) rfl)
theorem zw43_4 : Cond.methodLink RX10 73 yX10_moveLevel ∈ wsL_law := zr43 _ (List.mem_of_getElem? (i := 4) rfl)
theorem zw43_5 : Cond.instanceMethod yX10_moveLevel ∈ wsL_law := zr43 _ (List.mem_of_getElem? (i := 5) rfl)
theorem zw43_6 : Cond.selects RX10 yX10_moveLevel yX10_moveLevel ∈ wsL_law := zr43 _ (List.mem_of_getElem? (i := 6) rfl)
theorem zw43_7 : Cond.code yX10_moveLevel cX10_moveLevel 7 none ∈ wsL_law := zr43 _ (List.mem_of_getElem? (i := 7) rfl)
theorem zw43_8 : Cond.methodLink RX10 103 Lib.Math.min.name ∈ wsL_law := zr43 _ (List.mem_of_getElem? (i := 8) rfl)
theorem zw43_9 : Cond.fieldLink RX10 108 "PadConsole$Waves" "TICKS" "[I" ∈ wsL_law := zr43 _ (List.mem_of_getElem? (i := 9) rfl)
theorem zw43_10 : Cond.methodLink RX10 115 Lib.Math.max.name ∈ wsL_law := zr43 _ (List.mem_of_getElem? (i := 10) rfl)
theorem zw43_11 : Cond.methodLink RX10 100 yX10_rateIn ∈ wsL_law := zr43 _ (List.mem_of_getElem? (i := 11) rfl)
theorem zw43_12 : Cond.instanceMethod yX10_rateIn ∈ wsL_law := zr43 _ (List.mem_of_getElem? (i := 12) rfl)
theorem zw43_13 : Cond.selects RX10 yX10_rateIn yX10_rateIn ∈ wsL_law := zr43 _ (List.mem_of_getElem? (i := 13) rfl)
theorem zw43_14 : Cond.code yX10_rateIn cX10_rateIn 5 (some .int) ∈ wsL_law := zr43 _ (List.mem_of_getElem? (i := 14) rfl)
theorem zw43_15 : Cond.methodLink RX10 76 yX10_part ∈ wsL_law := zr43 _ (List.mem_of_getElem? (i := 15) rfl)
theorem zw43_16 : Cond.instanceMethod yX10_part ∈ wsL_law := zr43 _ (List.mem_of_getElem? (i := 16) rfl)
theorem zw43_17 : Cond.selects RX10 yX10_part yX10_part ∈ wsL_law := zr43 _ (List.mem_of_getElem? (i := 17) rfl)
theorem zw43_18 : Cond.code yX10_part cX10_part 2 (some .int) ∈ wsL_law := zr43 _ (List.mem_of_getElem? (i := 18) rfl)
theorem zw43_19 : Cond.methodLink RX10 111 yX10_louder ∈ wsL_law := zr43 _ (List.mem_of_getElem? (i := 19) rfl)
theorem zw43_20 : Cond.instanceMethod yX10_louder ∈ wsL_law := zr43 _ (List.mem_of_getElem? (i := 20) rfl)
theorem zw43_21 : Cond.selects RX10 yX10_louder yX10_louder ∈ wsL_law := zr43 _ (List.mem_of_getElem? (i := 21) rfl)
theorem zw43_22 : Cond.code yX10_louder cX10_louder 4 (some .int) ∈ wsL_law := zr43 _ (List.mem_of_getElem? (i := 22) rfl)
theorem zw43_23 : Cond.methodLink RX10 121 yX10_slowTick ∈ wsL_law := zr43 _ (List.mem_of_getElem? (i := 23) rfl)
theorem zw44_0 : Cond.instanceMethod yX10_slowTick ∈ wsL_law := zr44 _ (List.mem_of_getElem? (i := 0) rfl)
theorem zw44_1 : Cond.selects RX10 yX10_slowTick yX10_slowTick ∈ wsL_law := zr44 _ (List.mem_of_getElem? (i := 1) rfl)
theorem zw44_2 : Cond.code yX10_slowTick cX10_slowTick 1 (some .int) ∈ wsL_law := zr44 _ (List.mem_of_getElem? (i := 2) rfl)
theorem zw44_3 : Cond.methodLink RX10 125 yX10_tickAt ∈ wsL_law := zr44 _ (List.mem_of_getElem? (i := 3) rfl)
theorem zw44_4 : Cond.instanceMethod yX10_tickAt ∈ wsL_law := zr44 _ (List.mem_of_getElem? (i := 4) rfl)
theorem zw44_5 : Cond.selects RX10 yX10_tickAt yX10_tickAt ∈ wsL_law := zr44 _ (List.mem_of_getElem? (i := 5) rfl)
theorem zw44_6 : Cond.code yX10_tickAt cX10_tickAt 5 (some .int) ∈ wsL_law := zr44 _ (List.mem_of_getElem? (i := 6) rfl)
theorem zw44_7 : Cond.methodLink RX10 118 yX10_softer ∈ wsL_law := zr44 _ (List.mem_of_getElem? (i := 7) rfl)
theorem zw44_8 : Cond.instanceMethod yX10_softer ∈ wsL_law := zr44 _ (List.mem_of_getElem? (i := 8) rfl)
theorem zw44_9 : Cond.selects RX10 yX10_softer yX10_softer ∈ wsL_law := zr44 _ (List.mem_of_getElem? (i := 9) rfl)
theorem zw44_10 : Cond.code yX10_softer cX10_softer 3 (some .int) ∈ wsL_law := zr44 _ (List.mem_of_getElem? (i := 10) rfl)
theorem zw44_11 : Cond.methodLink RX10 80 yX10_moveState ∈ wsL_law := zr44 _ (List.mem_of_getElem? (i := 11) rfl)
theorem zw44_12 : Cond.instanceMethod yX10_moveState ∈ wsL_law := zr44 _ (List.mem_of_getElem? (i := 12) rfl)
theorem zw44_13 : Cond.selects RX10 yX10_moveState yX10_moveState ∈ wsL_law := zr44 _ (List.mem_of_getElem? (i := 13) rfl)
theorem zw44_14 : Cond.code yX10_moveState cX10_moveState 5 none ∈ wsL_law := zr44 _ (List.mem_of_getElem? (i := 14) rfl)
theorem zw44_15 : Cond.methodLink RX10 83 yX10_movePhase ∈ wsL_law := zr44 _ (List.mem_of_getElem? (i := 15) rfl)
theorem zw44_16 : Cond.instanceMethod yX10_movePhase ∈ wsL_law := zr44 _ (List.mem_of_getElem? (i := 16) rfl)
theorem zw44_17 : Cond.selects RX10 yX10_movePhase yX10_movePhase ∈ wsL_law := zr44 _ (List.mem_of_getElem? (i := 17) rfl)
theorem zw44_18 : Cond.code yX10_movePhase cX10_movePhase 5 none ∈ wsL_law := zr44 _ (List.mem_of_getElem? (i := 18) rfl)
theorem zw44_19 : Cond.fieldLink RX10 131 "PadConsole$Waves" "MULTIPLES" "[I" ∈ wsL_law := zr44 _ (List.mem_of_getElem? (i := 19) rfl)
theorem zw44_20 : Cond.constant RX10 134 (524287) ∈ wsL_law := zr44 _ (List.mem_of_getElem? (i := 20) rfl)
theorem zw44_21 : Cond.methodLink RX10 128 yX10_sway ∈ wsL_law := zr44 _ (List.mem_of_getElem? (i := 21) rfl)
theorem zw44_22 : Cond.instanceMethod yX10_sway ∈ wsL_law := zr44 _ (List.mem_of_getElem? (i := 22) rfl)
theorem zw44_23 : Cond.selects RX10 yX10_sway yX10_sway ∈ wsL_law := zr44 _ (List.mem_of_getElem? (i := 23) rfl)
theorem zw45_0 : Cond.code yX10_sway cX10_sway 2 (some .int) ∈ wsL_law := zr45 _ (List.mem_of_getElem? (i := 0) rfl)
theorem zw45_1 : Cond.methodLink RX10 86 yX10_moveOut ∈ wsL_law := zr45 _ (List.mem_of_getElem? (i := 1) rfl)
theorem zw45_2 : Cond.instanceMethod yX10_moveOut ∈ wsL_law := zr45 _ (List.mem_of_getElem? (i := 2) rfl)
theorem zw45_3 : Cond.selects RX10 yX10_moveOut yX10_moveOut ∈ wsL_law := zr45 _ (List.mem_of_getElem? (i := 3) rfl)
theorem zw45_4 : Cond.code yX10_moveOut cX10_moveOut 4 none ∈ wsL_law := zr45 _ (List.mem_of_getElem? (i := 4) rfl)
theorem zw45_5 : Cond.methodLink RX10 89 yX10_turnedPhase ∈ wsL_law := zr45 _ (List.mem_of_getElem? (i := 5) rfl)
theorem zw45_6 : Cond.instanceMethod yX10_turnedPhase ∈ wsL_law := zr45 _ (List.mem_of_getElem? (i := 6) rfl)
theorem zw45_7 : Cond.selects RX10 yX10_turnedPhase yX10_turnedPhase ∈ wsL_law := zr45 _ (List.mem_of_getElem? (i := 7) rfl)
theorem zw45_8 : Cond.code yX10_turnedPhase cX10_turnedPhase 5 (some .int) ∈ wsL_law := zr45 _ (List.mem_of_getElem? (i := 8) rfl)
theorem zw45_9 : Cond.methodLink RX10 135 yX10_drumPhase ∈ wsL_law := zr45 _ (List.mem_of_getElem? (i := 9) rfl)
theorem zw45_10 : Cond.instanceMethod yX10_drumPhase ∈ wsL_law := zr45 _ (List.mem_of_getElem? (i := 10) rfl)
theorem zw45_11 : Cond.selects RX10 yX10_drumPhase yX10_drumPhase ∈ wsL_law := zr45 _ (List.mem_of_getElem? (i := 11) rfl)
theorem zw45_12 : Cond.code yX10_drumPhase cX10_drumPhase 7 (some .int) ∈ wsL_law := zr45 _ (List.mem_of_getElem? (i := 12) rfl)
theorem zw45_13 : Cond.methodLink RX10 93 yX10_softness ∈ wsL_law := zr45 _ (List.mem_of_getElem? (i := 13) rfl)
theorem zw45_14 : Cond.instanceMethod yX10_softness ∈ wsL_law := zr45 _ (List.mem_of_getElem? (i := 14) rfl)
theorem zw45_15 : Cond.selects RX10 yX10_softness yX10_softness ∈ wsL_law := zr45 _ (List.mem_of_getElem? (i := 15) rfl)
theorem zw45_16 : Cond.code yX10_softness cX10_softness 5 (some .int) ∈ wsL_law := zr45 _ (List.mem_of_getElem? (i := 16) rfl)
theorem zw45_17 : Cond.methodLink RX10 144 yX10_scaled ∈ wsL_law := zr45 _ (List.mem_of_getElem? (i := 17) rfl)
theorem zw45_18 : Cond.instanceMethod yX10_scaled ∈ wsL_law := zr45 _ (List.mem_of_getElem? (i := 18) rfl)
theorem zw45_19 : Cond.selects RX10 yX10_scaled yX10_scaled ∈ wsL_law := zr45 _ (List.mem_of_getElem? (i := 19) rfl)
theorem zw45_20 : Cond.code yX10_scaled cX10_scaled 3 (some .int) ∈ wsL_law := zr45 _ (List.mem_of_getElem? (i := 20) rfl)
theorem zw45_21 : Cond.fieldLink RX10 150 "PadConsole$Waves" "SCALES" "[I" ∈ wsL_law := zr45 _ (List.mem_of_getElem? (i := 21) rfl)
theorem zw45_22 : Cond.methodLink RX10 147 yX10_tremble ∈ wsL_law := zr45 _ (List.mem_of_getElem? (i := 22) rfl)
theorem zw45_23 : Cond.instanceMethod yX10_tremble ∈ wsL_law := zr45 _ (List.mem_of_getElem? (i := 23) rfl)
theorem zw46_0 : Cond.selects RX10 yX10_tremble yX10_tremble ∈ wsL_law := zr46 _ (List.mem_of_getElem? (i := 0) rfl)
theorem zw46_1 : Cond.code yX10_tremble cX10_tremble 2 (some .int) ∈ wsL_law := zr46 _ (List.mem_of_getElem? (i := 1) rfl)
theorem zw46_2 : Cond.methodLink RX10 96 yX10_waveAt ∈ wsL_law := zr46 _ (List.mem_of_getElem? (i := 2) rfl)
theorem zw46_3 : Cond.static yX10_waveAt ∈ wsL_law := zr46 _ (List.mem_of_getElem? (i := 3) rfl)
theorem zw46_4 : Cond.code yX10_waveAt cX10_waveAt 7 (some .int) ∈ wsL_law := zr46 _ (List.mem_of_getElem? (i := 4) rfl)
theorem zw46_5 : Cond.fieldLink RX10 138 "PadConsole$Waves" "LOGS" "[I" ∈ wsL_law := zr46 _ (List.mem_of_getElem? (i := 5) rfl)
theorem zw46_6 : Cond.fieldLink RX10 141 "PadConsole$Waves" "POWERS" "[I" ∈ wsL_law := zr46 _ (List.mem_of_getElem? (i := 6) rfl)
theorem zw46_7 : Cond.methodLink RX0 60 yX0_addMix ∈ wsL_law := zr46 _ (List.mem_of_getElem? (i := 7) rfl)
theorem zw46_8 : Cond.instanceMethod yX0_addMix ∈ wsL_law := zr46 _ (List.mem_of_getElem? (i := 8) rfl)
theorem zw46_9 : Cond.selects RX0 yX0_addMix yX0_addMix ∈ wsL_law := zr46 _ (List.mem_of_getElem? (i := 9) rfl)
theorem zw46_10 : Cond.code yX0_addMix cX0_addMix 7 none ∈ wsL_law := zr46 _ (List.mem_of_getElem? (i := 10) rfl)
theorem zw46_11 : Cond.methodLink RX0 74 Lib.MathLoose.max_long.x ∈ wsL_law := zr46 _ (List.mem_of_getElem? (i := 11) rfl)
theorem zw46_12 : Cond.static Lib.MathLoose.max_long.x ∈ wsL_law := zr46 _ (List.mem_of_getElem? (i := 12) rfl)
theorem zw46_13 : Cond.code Lib.MathLoose.max_long.x Lib.MathLoose.max_long.code 4 (some .long) ∈ wsL_law := zr46 _ (List.mem_of_getElem? (i := 13) rfl)
theorem zw46_14 : Cond.constantLong RX0 83 (65536) ∈ wsL_law := zr46 _ (List.mem_of_getElem? (i := 14) rfl)
theorem zw46_15 : Cond.methodLink RX0 80 yX10_heard ∈ wsL_law := zr46 _ (List.mem_of_getElem? (i := 15) rfl)
theorem zw46_16 : Cond.instanceMethod yX10_heard ∈ wsL_law := zr46 _ (List.mem_of_getElem? (i := 16) rfl)
theorem zw46_17 : Cond.selects RX10 yX10_heard yX10_heard ∈ wsL_law := zr46 _ (List.mem_of_getElem? (i := 17) rfl)
theorem zw46_18 : Cond.code yX10_heard cX10_heard 1 (some .int) ∈ wsL_law := zr46 _ (List.mem_of_getElem? (i := 18) rfl)
theorem zw46_23 : Cond.constantLong RX12 385 (20000) ∈ wsL_law := zr46 _ (List.mem_of_getElem? (i := 23) rfl)
theorem zw47_0 : Cond.methodLink RX12 387 yX12_isStop ∈ wsL_law := zr47 _ (List.mem_of_getElem? (i := 0) rfl)
theorem zw47_1 : Cond.instanceMethod yX12_isStop ∈ wsL_law := zr47 _ (List.mem_of_getElem? (i := 1) rfl)
theorem zw47_2 : Cond.selects RX12 yX12_isStop yX12_isStop ∈ wsL_law := zr47 _ (List.mem_of_getElem? (i := 2) rfl)
theorem zw47_3 : Cond.code yX12_isStop cX12_isStop 3 (some .boolean) ∈ wsL_law := zr47 _ (List.mem_of_getElem? (i := 3) rfl)
theorem zw47_4 : Cond.methodLink RX12 390 yX12_once ∈ wsL_law := zr47 _ (List.mem_of_getElem? (i := 4) rfl)
theorem zw47_5 : Cond.instanceMethod yX12_once ∈ wsL_law := zr47 _ (List.mem_of_getElem? (i := 5) rfl)
theorem zw47_6 : Cond.selects RX12 yX12_once yX12_once ∈ wsL_law := zr47 _ (List.mem_of_getElem? (i := 6) rfl)
theorem zw47_7 : Cond.code yX12_once cX12_once 7 none ∈ wsL_law := zr47 _ (List.mem_of_getElem? (i := 7) rfl)
theorem zw47_8 : Cond.fieldLink RX12 351 "PadConsoleModel" "traced" "J" ∈ wsL_law := zr47 _ (List.mem_of_getElem? (i := 8) rfl)
theorem zw47_9 : Cond.constantLong RX12 355 (32) ∈ wsL_law := zr47 _ (List.mem_of_getElem? (i := 9) rfl)
theorem zw47_10 : Cond.constantLong RX12 370 (16) ∈ wsL_law := zr47 _ (List.mem_of_getElem? (i := 10) rfl)
theorem zw47_11 : Cond.constantLong RX12 375 (72) ∈ wsL_law := zr47 _ (List.mem_of_getElem? (i := 11) rfl)
theorem zw47_12 : Cond.constantLong RX12 380 (81) ∈ wsL_law := zr47 _ (List.mem_of_getElem? (i := 12) rfl)
theorem zw47_13 : Cond.methodLink RX12 357 yX12_answers ∈ wsL_law := zr47 _ (List.mem_of_getElem? (i := 13) rfl)
theorem zw47_14 : Cond.instanceMethod yX12_answers ∈ wsL_law := zr47 _ (List.mem_of_getElem? (i := 14) rfl)
theorem zw47_15 : Cond.selects RX12 yX12_answers yX12_answers ∈ wsL_law := zr47 _ (List.mem_of_getElem? (i := 15) rfl)
theorem zw47_16 : Cond.code yX12_answers cX12_answers 1 none ∈ wsL_law := zr47 _ (List.mem_of_getElem? (i := 16) rfl)
theorem zw47_17 : Cond.methodLink RX12 211 yX12_grows ∈ wsL_law := zr47 _ (List.mem_of_getElem? (i := 17) rfl)
theorem zw47_18 : Cond.instanceMethod yX12_grows ∈ wsL_law := zr47 _ (List.mem_of_getElem? (i := 18) rfl)
theorem zw47_19 : Cond.selects RX12 yX12_grows yX12_grows ∈ wsL_law := zr47 _ (List.mem_of_getElem? (i := 19) rfl)
theorem zw47_20 : Cond.code yX12_grows cX12_grows 1 none ∈ wsL_law := zr47 _ (List.mem_of_getElem? (i := 20) rfl)
theorem zw47_21 : Cond.methodLink RX12 299 yX12_call ∈ wsL_law := zr47 _ (List.mem_of_getElem? (i := 21) rfl)
theorem zw47_22 : Cond.instanceMethod yX12_call ∈ wsL_law := zr47 _ (List.mem_of_getElem? (i := 22) rfl)
theorem zw47_23 : Cond.selects RX12 yX12_call yX12_call ∈ wsL_law := zr47 _ (List.mem_of_getElem? (i := 23) rfl)
theorem zw48_0 : Cond.code yX12_call cX12_call 2 none ∈ wsL_law := zr48 _ (List.mem_of_getElem? (i := 0) rfl)
theorem zw48_1 : Cond.methodLink RX12 214 yX12_push ∈ wsL_law := zr48 _ (List.mem_of_getElem? (i := 1) rfl)
theorem zw48_2 : Cond.instanceMethod yX12_push ∈ wsL_law := zr48 _ (List.mem_of_getElem? (i := 2) rfl)
theorem zw48_3 : Cond.selects RX12 yX12_push yX12_push ∈ wsL_law := zr48 _ (List.mem_of_getElem? (i := 3) rfl)
theorem zw48_4 : Cond.code yX12_push cX12_push 2 none ∈ wsL_law := zr48 _ (List.mem_of_getElem? (i := 4) rfl)
theorem zw48_5 : Cond.methodLink RX12 169 yX12_write ∈ wsL_law := zr48 _ (List.mem_of_getElem? (i := 5) rfl)
theorem zw48_6 : Cond.instanceMethod yX12_write ∈ wsL_law := zr48 _ (List.mem_of_getElem? (i := 6) rfl)
theorem zw48_7 : Cond.selects RX12 yX12_write yX12_write ∈ wsL_law := zr48 _ (List.mem_of_getElem? (i := 7) rfl)
theorem zw48_8 : Cond.code yX12_write cX12_write 5 none ∈ wsL_law := zr48 _ (List.mem_of_getElem? (i := 8) rfl)
theorem zw48_9 : Cond.constant RX12 163 (65532) ∈ wsL_law := zr48 _ (List.mem_of_getElem? (i := 9) rfl)
theorem zw48_10 : Cond.constant RX12 164 (65533) ∈ wsL_law := zr48 _ (List.mem_of_getElem? (i := 10) rfl)
theorem zw48_11 : Cond.constant RX12 165 (40960) ∈ wsL_law := zr48 _ (List.mem_of_getElem? (i := 11) rfl)
theorem zw48_12 : Cond.methodLink RX12 154 yX12_isBattery ∈ wsL_law := zr48 _ (List.mem_of_getElem? (i := 12) rfl)
theorem zw48_13 : Cond.instanceMethod yX12_isBattery ∈ wsL_law := zr48 _ (List.mem_of_getElem? (i := 13) rfl)
theorem zw48_14 : Cond.selects RX12 yX12_isBattery yX12_isBattery ∈ wsL_law := zr48 _ (List.mem_of_getElem? (i := 14) rfl)
theorem zw48_15 : Cond.code yX12_isBattery cX12_isBattery 2 (some .boolean) ∈ wsL_law := zr48 _ (List.mem_of_getElem? (i := 15) rfl)
theorem zw48_16 : Cond.methodLink RX12 157 yX12_batteryAt ∈ wsL_law := zr48 _ (List.mem_of_getElem? (i := 16) rfl)
theorem zw48_17 : Cond.instanceMethod yX12_batteryAt ∈ wsL_law := zr48 _ (List.mem_of_getElem? (i := 17) rfl)
theorem zw48_18 : Cond.selects RX12 yX12_batteryAt yX12_batteryAt ∈ wsL_law := zr48 _ (List.mem_of_getElem? (i := 18) rfl)
theorem zw48_19 : Cond.code yX12_batteryAt cX12_batteryAt 2 (some .int) ∈ wsL_law := zr48 _ (List.mem_of_getElem? (i := 19) rfl)
theorem zw48_20 : Cond.methodLink RX12 360 yX12_asks ∈ wsL_law := zr48 _ (List.mem_of_getElem? (i := 20) rfl)
theorem zw48_21 : Cond.instanceMethod yX12_asks ∈ wsL_law := zr48 _ (List.mem_of_getElem? (i := 21) rfl)
theorem zw48_22 : Cond.selects RX12 yX12_asks yX12_asks ∈ wsL_law := zr48 _ (List.mem_of_getElem? (i := 22) rfl)
theorem zw48_23 : Cond.code yX12_asks cX12_asks 1 (some .boolean) ∈ wsL_law := zr48 _ (List.mem_of_getElem? (i := 23) rfl)
theorem zw49_0 : Cond.methodLink RX12 395 yX12_bit ∈ wsL_law := zr49 _ (List.mem_of_getElem? (i := 0) rfl)
theorem zw49_1 : Cond.instanceMethod yX12_bit ∈ wsL_law := zr49 _ (List.mem_of_getElem? (i := 1) rfl)
theorem zw49_2 : Cond.selects RX12 yX12_bit yX12_bit ∈ wsL_law := zr49 _ (List.mem_of_getElem? (i := 2) rfl)
theorem zw49_3 : Cond.code yX12_bit cX12_bit 3 (some .int) ∈ wsL_law := zr49 _ (List.mem_of_getElem? (i := 3) rfl)
theorem zw49_4 : Cond.methodLink RX12 269 yX12_word ∈ wsL_law := zr49 _ (List.mem_of_getElem? (i := 4) rfl)
theorem zw49_5 : Cond.instanceMethod yX12_word ∈ wsL_law := zr49 _ (List.mem_of_getElem? (i := 5) rfl)
theorem zw49_6 : Cond.selects RX12 yX12_word yX12_word ∈ wsL_law := zr49 _ (List.mem_of_getElem? (i := 6) rfl)
theorem zw49_7 : Cond.code yX12_word cX12_word 2 (some .int) ∈ wsL_law := zr49 _ (List.mem_of_getElem? (i := 7) rfl)
theorem zw49_8 : Cond.methodLink RX12 166 yX12_read ∈ wsL_law := zr49 _ (List.mem_of_getElem? (i := 8) rfl)
theorem zw49_9 : Cond.instanceMethod yX12_read ∈ wsL_law := zr49 _ (List.mem_of_getElem? (i := 9) rfl)
theorem zw49_10 : Cond.selects RX12 yX12_read yX12_read ∈ wsL_law := zr49 _ (List.mem_of_getElem? (i := 10) rfl)
theorem zw49_11 : Cond.code yX12_read cX12_read 3 (some .int) ∈ wsL_law := zr49 _ (List.mem_of_getElem? (i := 11) rfl)
theorem zw49_12 : Cond.methodLink RX12 160 yX12_ofBank ∈ wsL_law := zr49 _ (List.mem_of_getElem? (i := 12) rfl)
theorem zw49_13 : Cond.instanceMethod yX12_ofBank ∈ wsL_law := zr49 _ (List.mem_of_getElem? (i := 13) rfl)
theorem zw49_14 : Cond.selects RX12 yX12_ofBank yX12_ofBank ∈ wsL_law := zr49 _ (List.mem_of_getElem? (i := 14) rfl)
theorem zw49_15 : Cond.code yX12_ofBank cX12_ofBank 3 (some .int) ∈ wsL_law := zr49 _ (List.mem_of_getElem? (i := 15) rfl)
theorem zw49_16 : Cond.methodLink RX12 364 yX12_instruction ∈ wsL_law := zr49 _ (List.mem_of_getElem? (i := 16) rfl)
theorem zw49_17 : Cond.instanceMethod yX12_instruction ∈ wsL_law := zr49 _ (List.mem_of_getElem? (i := 17) rfl)
theorem zw49_18 : Cond.selects RX12 yX12_instruction yX12_instruction ∈ wsL_law := zr49 _ (List.mem_of_getElem? (i := 18) rfl)
theorem zw49_19 : Cond.code yX12_instruction cX12_instruction 1 (some .int) ∈ wsL_law := zr49 _ (List.mem_of_getElem? (i := 19) rfl)
theorem zw49_20 : Cond.fieldLink RX12 174 "PadConsoleModel" "instead" "I" ∈ wsL_law := zr49 _ (List.mem_of_getElem? (i := 20) rfl)
theorem zw49_21 : Cond.fieldLink RX12 191 "PadConsoleModel" "far" "Z" ∈ wsL_law := zr49 _ (List.mem_of_getElem? (i := 21) rfl)
theorem zw49_22 : Cond.methodLink RX12 217 yX12_fetch ∈ wsL_law := zr49 _ (List.mem_of_getElem? (i := 22) rfl)
theorem zw49_23 : Cond.instanceMethod yX12_fetch ∈ wsL_law := zr49 _ (List.mem_of_getElem? (i := 23) rfl)
theorem zw50_0 : Cond.selects RX12 yX12_fetch yX12_fetch ∈ wsL_law := zr50 _ (List.mem_of_getElem? (i := 0) rfl)
theorem zw50_1 : Cond.code yX12_fetch cX12_fetch 2 (some .int) ∈ wsL_law := zr50 _ (List.mem_of_getElem? (i := 1) rfl)
theorem zw50_2 : Cond.methodLink RX12 208 yX12_next ∈ wsL_law := zr50 _ (List.mem_of_getElem? (i := 2) rfl)
theorem zw50_3 : Cond.instanceMethod yX12_next ∈ wsL_law := zr50 _ (List.mem_of_getElem? (i := 3) rfl)
theorem zw50_4 : Cond.selects RX12 yX12_next yX12_next ∈ wsL_law := zr50 _ (List.mem_of_getElem? (i := 4) rfl)
theorem zw50_5 : Cond.code yX12_next cX12_next 2 (some .int) ∈ wsL_law := zr50 _ (List.mem_of_getElem? (i := 5) rfl)
theorem zw50_6 : Cond.methodLink RX12 220 yX12_plain ∈ wsL_law := zr50 _ (List.mem_of_getElem? (i := 6) rfl)
theorem zw50_7 : Cond.instanceMethod yX12_plain ∈ wsL_law := zr50 _ (List.mem_of_getElem? (i := 7) rfl)
theorem zw50_8 : Cond.selects RX12 yX12_plain yX12_plain ∈ wsL_law := zr50 _ (List.mem_of_getElem? (i := 8) rfl)
theorem zw50_9 : Cond.code yX12_plain cX12_plain 4 (some .int) ∈ wsL_law := zr50 _ (List.mem_of_getElem? (i := 9) rfl)
theorem zw50_10 : Cond.methodLink RX12 223 yX12_zero ∈ wsL_law := zr50 _ (List.mem_of_getElem? (i := 10) rfl)
theorem zw50_11 : Cond.instanceMethod yX12_zero ∈ wsL_law := zr50 _ (List.mem_of_getElem? (i := 11) rfl)
theorem zw50_12 : Cond.selects RX12 yX12_zero yX12_zero ∈ wsL_law := zr50 _ (List.mem_of_getElem? (i := 12) rfl)
theorem zw50_13 : Cond.code yX12_zero cX12_zero 7 (some .int) ∈ wsL_law := zr50 _ (List.mem_of_getElem? (i := 13) rfl)
theorem zw50_14 : Cond.methodLink RX12 244 yX12_change ∈ wsL_law := zr50 _ (List.mem_of_getElem? (i := 14) rfl)
theorem zw50_15 : Cond.instanceMethod yX12_change ∈ wsL_law := zr50 _ (List.mem_of_getElem? (i := 15) rfl)
theorem zw50_16 : Cond.selects RX12 yX12_change yX12_change ∈ wsL_law := zr50 _ (List.mem_of_getElem? (i := 16) rfl)
theorem zw50_17 : Cond.code yX12_change cX12_change 4 none ∈ wsL_law := zr50 _ (List.mem_of_getElem? (i := 17) rfl)
theorem zw50_18 : Cond.methodLink RX12 247 yX12_signed ∈ wsL_law := zr50 _ (List.mem_of_getElem? (i := 18) rfl)
theorem zw50_19 : Cond.static yX12_signed ∈ wsL_law := zr50 _ (List.mem_of_getElem? (i := 19) rfl)
theorem zw50_20 : Cond.code yX12_signed cX12_signed 1 (some .int) ∈ wsL_law := zr50 _ (List.mem_of_getElem? (i := 20) rfl)
theorem zw50_21 : Cond.methodLink RX12 250 yX12_cc ∈ wsL_law := zr50 _ (List.mem_of_getElem? (i := 21) rfl)
theorem zw50_22 : Cond.instanceMethod yX12_cc ∈ wsL_law := zr50 _ (List.mem_of_getElem? (i := 22) rfl)
theorem zw50_23 : Cond.selects RX12 yX12_cc yX12_cc ∈ wsL_law := zr50 _ (List.mem_of_getElem? (i := 23) rfl)
theorem zw51_0 : Cond.code yX12_cc cX12_cc 2 (some .boolean) ∈ wsL_law := zr51 _ (List.mem_of_getElem? (i := 0) rfl)
theorem zw51_1 : Cond.methodLink RX12 205 yX12_flag ∈ wsL_law := zr51 _ (List.mem_of_getElem? (i := 1) rfl)
theorem zw51_2 : Cond.instanceMethod yX12_flag ∈ wsL_law := zr51 _ (List.mem_of_getElem? (i := 2) rfl)
theorem zw51_3 : Cond.selects RX12 yX12_flag yX12_flag ∈ wsL_law := zr51 _ (List.mem_of_getElem? (i := 3) rfl)
theorem zw51_4 : Cond.code yX12_flag cX12_flag 2 (some .int) ∈ wsL_law := zr51 _ (List.mem_of_getElem? (i := 4) rfl)
theorem zw51_5 : Cond.methodLink RX12 253 yX12_jump ∈ wsL_law := zr51 _ (List.mem_of_getElem? (i := 5) rfl)
theorem zw51_6 : Cond.instanceMethod yX12_jump ∈ wsL_law := zr51 _ (List.mem_of_getElem? (i := 6) rfl)
theorem zw51_7 : Cond.selects RX12 yX12_jump yX12_jump ∈ wsL_law := zr51 _ (List.mem_of_getElem? (i := 7) rfl)
theorem zw51_8 : Cond.code yX12_jump cX12_jump 2 none ∈ wsL_law := zr51 _ (List.mem_of_getElem? (i := 8) rfl)
theorem zw51_9 : Cond.methodLink RX12 256 yX12_nextWord ∈ wsL_law := zr51 _ (List.mem_of_getElem? (i := 9) rfl)
theorem zw51_10 : Cond.instanceMethod yX12_nextWord ∈ wsL_law := zr51 _ (List.mem_of_getElem? (i := 10) rfl)
theorem zw51_11 : Cond.selects RX12 yX12_nextWord yX12_nextWord ∈ wsL_law := zr51 _ (List.mem_of_getElem? (i := 11) rfl)
theorem zw51_12 : Cond.code yX12_nextWord cX12_nextWord 2 (some .int) ∈ wsL_law := zr51 _ (List.mem_of_getElem? (i := 12) rfl)
theorem zw51_13 : Cond.methodLink RX12 259 yX12_rpTo ∈ wsL_law := zr51 _ (List.mem_of_getElem? (i := 13) rfl)
theorem zw51_14 : Cond.instanceMethod yX12_rpTo ∈ wsL_law := zr51 _ (List.mem_of_getElem? (i := 14) rfl)
theorem zw51_15 : Cond.selects RX12 yX12_rpTo yX12_rpTo ∈ wsL_law := zr51 _ (List.mem_of_getElem? (i := 15) rfl)
theorem zw51_16 : Cond.code yX12_rpTo cX12_rpTo 3 none ∈ wsL_law := zr51 _ (List.mem_of_getElem? (i := 16) rfl)
theorem zw51_17 : Cond.methodLink RX12 180 yX12_pairTo ∈ wsL_law := zr51 _ (List.mem_of_getElem? (i := 17) rfl)
theorem zw51_18 : Cond.instanceMethod yX12_pairTo ∈ wsL_law := zr51 _ (List.mem_of_getElem? (i := 18) rfl)
theorem zw51_19 : Cond.selects RX12 yX12_pairTo yX12_pairTo ∈ wsL_law := zr51 _ (List.mem_of_getElem? (i := 19) rfl)
theorem zw51_20 : Cond.code yX12_pairTo cX12_pairTo 3 none ∈ wsL_law := zr51 _ (List.mem_of_getElem? (i := 20) rfl)
theorem zw51_21 : Cond.methodLink RX12 187 yX12_hlTo ∈ wsL_law := zr51 _ (List.mem_of_getElem? (i := 21) rfl)
theorem zw51_22 : Cond.instanceMethod yX12_hlTo ∈ wsL_law := zr51 _ (List.mem_of_getElem? (i := 22) rfl)
theorem zw51_23 : Cond.selects RX12 yX12_hlTo yX12_hlTo ∈ wsL_law := zr51 _ (List.mem_of_getElem? (i := 23) rfl)
theorem zw52_0 : Cond.code yX12_hlTo cX12_hlTo 2 none ∈ wsL_law := zr52 _ (List.mem_of_getElem? (i := 0) rfl)
theorem zw52_1 : Cond.methodLink RX12 183 yX12_hl ∈ wsL_law := zr52 _ (List.mem_of_getElem? (i := 1) rfl)
theorem zw52_2 : Cond.instanceMethod yX12_hl ∈ wsL_law := zr52 _ (List.mem_of_getElem? (i := 2) rfl)
theorem zw52_3 : Cond.selects RX12 yX12_hl yX12_hl ∈ wsL_law := zr52 _ (List.mem_of_getElem? (i := 3) rfl)
theorem zw52_4 : Cond.code yX12_hl cX12_hl 1 (some .int) ∈ wsL_law := zr52 _ (List.mem_of_getElem? (i := 4) rfl)
theorem zw52_5 : Cond.methodLink RX12 177 yX12_pair ∈ wsL_law := zr52 _ (List.mem_of_getElem? (i := 5) rfl)
theorem zw52_6 : Cond.instanceMethod yX12_pair ∈ wsL_law := zr52 _ (List.mem_of_getElem? (i := 6) rfl)
theorem zw52_7 : Cond.selects RX12 yX12_pair yX12_pair ∈ wsL_law := zr52 _ (List.mem_of_getElem? (i := 7) rfl)
theorem zw52_8 : Cond.code yX12_pair cX12_pair 2 (some .int) ∈ wsL_law := zr52 _ (List.mem_of_getElem? (i := 8) rfl)
theorem zw52_9 : Cond.methodLink RX12 262 yX12_rp ∈ wsL_law := zr52 _ (List.mem_of_getElem? (i := 9) rfl)
theorem zw52_10 : Cond.instanceMethod yX12_rp ∈ wsL_law := zr52 _ (List.mem_of_getElem? (i := 10) rfl)
theorem zw52_11 : Cond.selects RX12 yX12_rp yX12_rp ∈ wsL_law := zr52 _ (List.mem_of_getElem? (i := 11) rfl)
theorem zw52_12 : Cond.code yX12_rp cX12_rp 2 (some .int) ∈ wsL_law := zr52 _ (List.mem_of_getElem? (i := 12) rfl)
theorem zw52_13 : Cond.methodLink RX12 198 yX12_put ∈ wsL_law := zr52 _ (List.mem_of_getElem? (i := 13) rfl)
theorem zw52_14 : Cond.instanceMethod yX12_put ∈ wsL_law := zr52 _ (List.mem_of_getElem? (i := 14) rfl)
theorem zw52_15 : Cond.selects RX12 yX12_put yX12_put ∈ wsL_law := zr52 _ (List.mem_of_getElem? (i := 15) rfl)
theorem zw52_16 : Cond.code yX12_put cX12_put 3 none ∈ wsL_law := zr52 _ (List.mem_of_getElem? (i := 16) rfl)
theorem zw52_17 : Cond.methodLink RX12 202 yX12_xy ∈ wsL_law := zr52 _ (List.mem_of_getElem? (i := 17) rfl)
theorem zw52_18 : Cond.instanceMethod yX12_xy ∈ wsL_law := zr52 _ (List.mem_of_getElem? (i := 18) rfl)
theorem zw52_19 : Cond.selects RX12 yX12_xy yX12_xy ∈ wsL_law := zr52 _ (List.mem_of_getElem? (i := 19) rfl)
theorem zw52_20 : Cond.code yX12_xy cX12_xy 2 none ∈ wsL_law := zr52 _ (List.mem_of_getElem? (i := 20) rfl)
theorem zw52_21 : Cond.methodLink RX12 265 yX12_moves ∈ wsL_law := zr52 _ (List.mem_of_getElem? (i := 21) rfl)
theorem zw52_22 : Cond.instanceMethod yX12_moves ∈ wsL_law := zr52 _ (List.mem_of_getElem? (i := 22) rfl)
theorem zw52_23 : Cond.selects RX12 yX12_moves yX12_moves ∈ wsL_law := zr52 _ (List.mem_of_getElem? (i := 23) rfl)
theorem zw53_0 : Cond.code yX12_moves cX12_moves 4 (some .int) ∈ wsL_law := zr53 _ (List.mem_of_getElem? (i := 0) rfl)
theorem zw53_1 : Cond.methodLink RX12 272 yX12_wordTo ∈ wsL_law := zr53 _ (List.mem_of_getElem? (i := 1) rfl)
theorem zw53_2 : Cond.instanceMethod yX12_wordTo ∈ wsL_law := zr53 _ (List.mem_of_getElem? (i := 2) rfl)
theorem zw53_3 : Cond.selects RX12 yX12_wordTo yX12_wordTo ∈ wsL_law := zr53 _ (List.mem_of_getElem? (i := 3) rfl)
theorem zw53_4 : Cond.code yX12_wordTo cX12_wordTo 3 none ∈ wsL_law := zr53 _ (List.mem_of_getElem? (i := 4) rfl)
theorem zw53_5 : Cond.methodLink RX12 226 yX12_singles ∈ wsL_law := zr53 _ (List.mem_of_getElem? (i := 5) rfl)
theorem zw53_6 : Cond.instanceMethod yX12_singles ∈ wsL_law := zr53 _ (List.mem_of_getElem? (i := 6) rfl)
theorem zw53_7 : Cond.selects RX12 yX12_singles yX12_singles ∈ wsL_law := zr53 _ (List.mem_of_getElem? (i := 7) rfl)
theorem zw53_8 : Cond.code yX12_singles cX12_singles 4 (some .int) ∈ wsL_law := zr53 _ (List.mem_of_getElem? (i := 8) rfl)
theorem zw53_9 : Cond.methodLink RX12 232 yX12_rTo ∈ wsL_law := zr53 _ (List.mem_of_getElem? (i := 9) rfl)
theorem zw53_10 : Cond.instanceMethod yX12_rTo ∈ wsL_law := zr53 _ (List.mem_of_getElem? (i := 10) rfl)
theorem zw53_11 : Cond.selects RX12 yX12_rTo yX12_rTo ∈ wsL_law := zr53 _ (List.mem_of_getElem? (i := 11) rfl)
theorem zw53_12 : Cond.code yX12_rTo cX12_rTo 4 none ∈ wsL_law := zr53 _ (List.mem_of_getElem? (i := 12) rfl)
theorem zw53_13 : Cond.constant RX12 197 (65280) ∈ wsL_law := zr53 _ (List.mem_of_getElem? (i := 13) rfl)
theorem zw53_14 : Cond.methodLink RX12 194 yX12_m ∈ wsL_law := zr53 _ (List.mem_of_getElem? (i := 14) rfl)
theorem zw53_15 : Cond.instanceMethod yX12_m ∈ wsL_law := zr53 _ (List.mem_of_getElem? (i := 15) rfl)
theorem zw53_16 : Cond.selects RX12 yX12_m yX12_m ∈ wsL_law := zr53 _ (List.mem_of_getElem? (i := 16) rfl)
theorem zw53_17 : Cond.code yX12_m cX12_m 1 (some .int) ∈ wsL_law := zr53 _ (List.mem_of_getElem? (i := 17) rfl)
theorem zw53_18 : Cond.methodLink RX12 229 yX12_r ∈ wsL_law := zr53 _ (List.mem_of_getElem? (i := 18) rfl)
theorem zw53_19 : Cond.instanceMethod yX12_r ∈ wsL_law := zr53 _ (List.mem_of_getElem? (i := 19) rfl)
theorem zw53_20 : Cond.selects RX12 yX12_r yX12_r ∈ wsL_law := zr53 _ (List.mem_of_getElem? (i := 20) rfl)
theorem zw53_21 : Cond.code yX12_r cX12_r 2 (some .int) ∈ wsL_law := zr53 _ (List.mem_of_getElem? (i := 21) rfl)
theorem zw53_22 : Cond.methodLink RX12 275 yX12_by ∈ wsL_law := zr53 _ (List.mem_of_getElem? (i := 22) rfl)
theorem zw53_23 : Cond.instanceMethod yX12_by ∈ wsL_law := zr53 _ (List.mem_of_getElem? (i := 23) rfl)
theorem zw54_0 : Cond.selects RX12 yX12_by yX12_by ∈ wsL_law := zr54 _ (List.mem_of_getElem? (i := 0) rfl)
theorem zw54_1 : Cond.code yX12_by cX12_by 2 none ∈ wsL_law := zr54 _ (List.mem_of_getElem? (i := 1) rfl)
theorem zw54_2 : Cond.methodLink RX12 278 yX12_turned ∈ wsL_law := zr54 _ (List.mem_of_getElem? (i := 2) rfl)
theorem zw54_3 : Cond.instanceMethod yX12_turned ∈ wsL_law := zr54 _ (List.mem_of_getElem? (i := 3) rfl)
theorem zw54_4 : Cond.selects RX12 yX12_turned yX12_turned ∈ wsL_law := zr54 _ (List.mem_of_getElem? (i := 4) rfl)
theorem zw54_5 : Cond.code yX12_turned cX12_turned 6 (some .int) ∈ wsL_law := zr54 _ (List.mem_of_getElem? (i := 5) rfl)
theorem zw54_6 : Cond.methodLink RX12 281 yX12_adjusts ∈ wsL_law := zr54 _ (List.mem_of_getElem? (i := 6) rfl)
theorem zw54_7 : Cond.instanceMethod yX12_adjusts ∈ wsL_law := zr54 _ (List.mem_of_getElem? (i := 7) rfl)
theorem zw54_8 : Cond.selects RX12 yX12_adjusts yX12_adjusts ∈ wsL_law := zr54 _ (List.mem_of_getElem? (i := 8) rfl)
theorem zw54_9 : Cond.code yX12_adjusts cX12_adjusts 3 none ∈ wsL_law := zr54 _ (List.mem_of_getElem? (i := 9) rfl)
theorem zw54_10 : Cond.methodLink RX12 284 yX12_isEven ∈ wsL_law := zr54 _ (List.mem_of_getElem? (i := 10) rfl)
theorem zw54_11 : Cond.static yX12_isEven ∈ wsL_law := zr54 _ (List.mem_of_getElem? (i := 11) rfl)
theorem zw54_12 : Cond.code yX12_isEven cX12_isEven 3 (some .boolean) ∈ wsL_law := zr54 _ (List.mem_of_getElem? (i := 12) rfl)
theorem zw54_13 : Cond.methodLink RX12 235 yX12_does ∈ wsL_law := zr54 _ (List.mem_of_getElem? (i := 13) rfl)
theorem zw54_14 : Cond.instanceMethod yX12_does ∈ wsL_law := zr54 _ (List.mem_of_getElem? (i := 14) rfl)
theorem zw54_15 : Cond.selects RX12 yX12_does yX12_does ∈ wsL_law := zr54 _ (List.mem_of_getElem? (i := 15) rfl)
theorem zw54_16 : Cond.code yX12_does cX12_does 8 none ∈ wsL_law := zr54 _ (List.mem_of_getElem? (i := 16) rfl)
theorem zw54_17 : Cond.methodLink RX12 238 yX12_three ∈ wsL_law := zr54 _ (List.mem_of_getElem? (i := 17) rfl)
theorem zw54_18 : Cond.instanceMethod yX12_three ∈ wsL_law := zr54 _ (List.mem_of_getElem? (i := 18) rfl)
theorem zw54_19 : Cond.selects RX12 yX12_three yX12_three ∈ wsL_law := zr54 _ (List.mem_of_getElem? (i := 19) rfl)
theorem zw54_20 : Cond.code yX12_three cX12_three 7 (some .int) ∈ wsL_law := zr54 _ (List.mem_of_getElem? (i := 20) rfl)
theorem zw54_21 : Cond.methodLink RX12 287 yX12_pop ∈ wsL_law := zr54 _ (List.mem_of_getElem? (i := 21) rfl)
theorem zw54_22 : Cond.instanceMethod yX12_pop ∈ wsL_law := zr54 _ (List.mem_of_getElem? (i := 22) rfl)
theorem zw54_23 : Cond.selects RX12 yX12_pop yX12_pop ∈ wsL_law := zr54 _ (List.mem_of_getElem? (i := 23) rfl)
theorem zw55_0 : Cond.code yX12_pop cX12_pop 2 (some .int) ∈ wsL_law := zr55 _ (List.mem_of_getElem? (i := 0) rfl)
theorem zw55_1 : Cond.methodLink RX12 290 yX12_turns ∈ wsL_law := zr55 _ (List.mem_of_getElem? (i := 1) rfl)
theorem zw55_2 : Cond.instanceMethod yX12_turns ∈ wsL_law := zr55 _ (List.mem_of_getElem? (i := 2) rfl)
theorem zw55_3 : Cond.selects RX12 yX12_turns yX12_turns ∈ wsL_law := zr55 _ (List.mem_of_getElem? (i := 3) rfl)
theorem zw55_4 : Cond.code yX12_turns cX12_turns 1 (some .int) ∈ wsL_law := zr55 _ (List.mem_of_getElem? (i := 4) rfl)
theorem zw55_5 : Cond.methodLink RX12 308 yX12_turn ∈ wsL_law := zr55 _ (List.mem_of_getElem? (i := 5) rfl)
theorem zw55_6 : Cond.instanceMethod yX12_turn ∈ wsL_law := zr55 _ (List.mem_of_getElem? (i := 6) rfl)
theorem zw55_7 : Cond.selects RX12 yX12_turn yX12_turn ∈ wsL_law := zr55 _ (List.mem_of_getElem? (i := 7) rfl)
theorem zw55_8 : Cond.code yX12_turn cX12_turn 7 (some .int) ∈ wsL_law := zr55 _ (List.mem_of_getElem? (i := 8) rfl)
theorem zw55_9 : Cond.fieldLink RX12 311 "PadConsoleModel" "came" "I" ∈ wsL_law := zr55 _ (List.mem_of_getElem? (i := 9) rfl)
theorem zw55_10 : Cond.methodLink RX12 293 yX12_portTo ∈ wsL_law := zr55 _ (List.mem_of_getElem? (i := 10) rfl)
theorem zw55_11 : Cond.instanceMethod yX12_portTo ∈ wsL_law := zr55 _ (List.mem_of_getElem? (i := 11) rfl)
theorem zw55_12 : Cond.selects RX12 yX12_portTo yX12_portTo ∈ wsL_law := zr55 _ (List.mem_of_getElem? (i := 12) rfl)
theorem zw55_13 : Cond.code yX12_portTo cX12_portTo 6 none ∈ wsL_law := zr55 _ (List.mem_of_getElem? (i := 13) rfl)
theorem zw55_14 : Cond.methodLink RX12 332 yX12_lineAt ∈ wsL_law := zr55 _ (List.mem_of_getElem? (i := 14) rfl)
theorem zw55_15 : Cond.instanceMethod yX12_lineAt ∈ wsL_law := zr55 _ (List.mem_of_getElem? (i := 15) rfl)
theorem zw55_16 : Cond.selects RX12 yX12_lineAt yX12_lineAt ∈ wsL_law := zr55 _ (List.mem_of_getElem? (i := 16) rfl)
theorem zw55_17 : Cond.code yX12_lineAt cX12_lineAt 2 (some .int) ∈ wsL_law := zr55 _ (List.mem_of_getElem? (i := 17) rfl)
theorem zw55_18 : Cond.methodLink RX12 339 yX12_hCount ∈ wsL_law := zr55 _ (List.mem_of_getElem? (i := 18) rfl)
theorem zw55_19 : Cond.instanceMethod yX12_hCount ∈ wsL_law := zr55 _ (List.mem_of_getElem? (i := 19) rfl)
theorem zw55_20 : Cond.selects RX12 yX12_hCount yX12_hCount ∈ wsL_law := zr55 _ (List.mem_of_getElem? (i := 20) rfl)
theorem zw55_21 : Cond.code yX12_hCount cX12_hCount 2 (some .int) ∈ wsL_law := zr55 _ (List.mem_of_getElem? (i := 21) rfl)
theorem zw55_22 : Cond.methodLink RX12 342 yX12_noise ∈ wsL_law := zr55 _ (List.mem_of_getElem? (i := 22) rfl)
theorem zw55_23 : Cond.instanceMethod yX12_noise ∈ wsL_law := zr55 _ (List.mem_of_getElem? (i := 23) rfl)
theorem zw56_0 : Cond.selects RX12 yX12_noise yX12_noise ∈ wsL_law := zr56 _ (List.mem_of_getElem? (i := 0) rfl)
theorem zw56_1 : Cond.code yX12_noise cX12_noise 3 none ∈ wsL_law := zr56 _ (List.mem_of_getElem? (i := 1) rfl)
theorem zw56_2 : Cond.methodLink RX12 345 yX12_control ∈ wsL_law := zr56 _ (List.mem_of_getElem? (i := 2) rfl)
theorem zw56_3 : Cond.instanceMethod yX12_control ∈ wsL_law := zr56 _ (List.mem_of_getElem? (i := 3) rfl)
theorem zw56_4 : Cond.selects RX12 yX12_control yX12_control ∈ wsL_law := zr56 _ (List.mem_of_getElem? (i := 4) rfl)
theorem zw56_5 : Cond.code yX12_control cX12_control 2 none ∈ wsL_law := zr56 _ (List.mem_of_getElem? (i := 5) rfl)
theorem zw56_6 : Cond.methodLink RX12 401 yX12_video8 ∈ wsL_law := zr56 _ (List.mem_of_getElem? (i := 6) rfl)
theorem zw56_7 : Cond.instanceMethod yX12_video8 ∈ wsL_law := zr56 _ (List.mem_of_getElem? (i := 7) rfl)
theorem zw56_8 : Cond.selects RX12 yX12_video8 yX12_video8 ∈ wsL_law := zr56 _ (List.mem_of_getElem? (i := 8) rfl)
theorem zw56_9 : Cond.code yX12_video8 cX12_video8 2 (some .int) ∈ wsL_law := zr56 _ (List.mem_of_getElem? (i := 9) rfl)
theorem zw56_10 : Cond.methodLink RX12 404 yX12_further ∈ wsL_law := zr56 _ (List.mem_of_getElem? (i := 10) rfl)
theorem zw56_11 : Cond.instanceMethod yX12_further ∈ wsL_law := zr56 _ (List.mem_of_getElem? (i := 11) rfl)
theorem zw56_12 : Cond.selects RX12 yX12_further yX12_further ∈ wsL_law := zr56 _ (List.mem_of_getElem? (i := 12) rfl)
theorem zw56_13 : Cond.code yX12_further cX12_further 1 none ∈ wsL_law := zr56 _ (List.mem_of_getElem? (i := 13) rfl)
theorem zw56_14 : Cond.methodLink RX12 348 yX12_dataTo ∈ wsL_law := zr56 _ (List.mem_of_getElem? (i := 14) rfl)
theorem zw56_15 : Cond.instanceMethod yX12_dataTo ∈ wsL_law := zr56 _ (List.mem_of_getElem? (i := 15) rfl)
theorem zw56_16 : Cond.selects RX12 yX12_dataTo yX12_dataTo ∈ wsL_law := zr56 _ (List.mem_of_getElem? (i := 16) rfl)
theorem zw56_17 : Cond.code yX12_dataTo cX12_dataTo 3 none ∈ wsL_law := zr56 _ (List.mem_of_getElem? (i := 17) rfl)
theorem zw56_18 : Cond.methodLink RX12 296 yX12_port ∈ wsL_law := zr56 _ (List.mem_of_getElem? (i := 18) rfl)
theorem zw56_19 : Cond.instanceMethod yX12_port ∈ wsL_law := zr56 _ (List.mem_of_getElem? (i := 19) rfl)
theorem zw56_20 : Cond.selects RX12 yX12_port yX12_port ∈ wsL_law := zr56 _ (List.mem_of_getElem? (i := 20) rfl)
theorem zw56_21 : Cond.code yX12_port cX12_port 4 (some .int) ∈ wsL_law := zr56 _ (List.mem_of_getElem? (i := 21) rfl)
theorem zw56_22 : Cond.methodLink RX12 323 yX12_vCount ∈ wsL_law := zr56 _ (List.mem_of_getElem? (i := 22) rfl)
theorem zw56_23 : Cond.instanceMethod yX12_vCount ∈ wsL_law := zr56 _ (List.mem_of_getElem? (i := 23) rfl)
theorem zw57_0 : Cond.selects RX12 yX12_vCount yX12_vCount ∈ wsL_law := zr57 _ (List.mem_of_getElem? (i := 0) rfl)
theorem zw57_1 : Cond.code yX12_vCount cX12_vCount 4 (some .int) ∈ wsL_law := zr57 _ (List.mem_of_getElem? (i := 1) rfl)
theorem zw57_2 : Cond.methodLink RX12 407 yX12_height ∈ wsL_law := zr57 _ (List.mem_of_getElem? (i := 2) rfl)
theorem zw57_3 : Cond.instanceMethod yX12_height ∈ wsL_law := zr57 _ (List.mem_of_getElem? (i := 3) rfl)
theorem zw57_4 : Cond.selects RX12 yX12_height yX12_height ∈ wsL_law := zr57 _ (List.mem_of_getElem? (i := 4) rfl)
theorem zw57_5 : Cond.code yX12_height cX12_height 1 (some .int) ∈ wsL_law := zr57 _ (List.mem_of_getElem? (i := 5) rfl)
theorem zw57_6 : Cond.methodLink RX12 398 yX12_mode ∈ wsL_law := zr57 _ (List.mem_of_getElem? (i := 6) rfl)
theorem zw57_7 : Cond.instanceMethod yX12_mode ∈ wsL_law := zr57 _ (List.mem_of_getElem? (i := 7) rfl)
theorem zw57_8 : Cond.selects RX12 yX12_mode yX12_mode ∈ wsL_law := zr57 _ (List.mem_of_getElem? (i := 8) rfl)
theorem zw57_9 : Cond.code yX12_mode cX12_mode 1 (some .int) ∈ wsL_law := zr57 _ (List.mem_of_getElem? (i := 9) rfl)
theorem zw57_10 : Cond.methodLink RX12 326 yX12_status ∈ wsL_law := zr57 _ (List.mem_of_getElem? (i := 10) rfl)
theorem zw57_11 : Cond.instanceMethod yX12_status ∈ wsL_law := zr57 _ (List.mem_of_getElem? (i := 11) rfl)
theorem zw57_12 : Cond.selects RX12 yX12_status yX12_status ∈ wsL_law := zr57 _ (List.mem_of_getElem? (i := 12) rfl)
theorem zw57_13 : Cond.code yX12_status cX12_status 2 (some .int) ∈ wsL_law := zr57 _ (List.mem_of_getElem? (i := 13) rfl)
theorem zw57_14 : Cond.methodLink RX12 329 yX12_data ∈ wsL_law := zr57 _ (List.mem_of_getElem? (i := 14) rfl)
theorem zw57_15 : Cond.instanceMethod yX12_data ∈ wsL_law := zr57 _ (List.mem_of_getElem? (i := 15) rfl)
theorem zw57_16 : Cond.selects RX12 yX12_data yX12_data ∈ wsL_law := zr57 _ (List.mem_of_getElem? (i := 16) rfl)
theorem zw57_17 : Cond.code yX12_data cX12_data 2 (some .int) ∈ wsL_law := zr57 _ (List.mem_of_getElem? (i := 17) rfl)
theorem zw57_18 : Cond.methodLink RX12 335 yX12_without ∈ wsL_law := zr57 _ (List.mem_of_getElem? (i := 18) rfl)
theorem zw57_19 : Cond.instanceMethod yX12_without ∈ wsL_law := zr57 _ (List.mem_of_getElem? (i := 19) rfl)
theorem zw57_20 : Cond.selects RX12 yX12_without yX12_without ∈ wsL_law := zr57 _ (List.mem_of_getElem? (i := 20) rfl)
theorem zw57_21 : Cond.code yX12_without cX12_without 4 (some .int) ∈ wsL_law := zr57 _ (List.mem_of_getElem? (i := 21) rfl)
theorem zw57_22 : Cond.methodLink RX12 241 yX12_more3 ∈ wsL_law := zr57 _ (List.mem_of_getElem? (i := 22) rfl)
theorem zw57_23 : Cond.instanceMethod yX12_more3 ∈ wsL_law := zr57 _ (List.mem_of_getElem? (i := 23) rfl)
theorem zw58_0 : Cond.selects RX12 yX12_more3 yX12_more3 ∈ wsL_law := zr58 _ (List.mem_of_getElem? (i := 0) rfl)
theorem zw58_1 : Cond.code yX12_more3 cX12_more3 4 (some .int) ∈ wsL_law := zr58 _ (List.mem_of_getElem? (i := 1) rfl)
theorem zw58_2 : Cond.methodLink RX12 302 yX12_more ∈ wsL_law := zr58 _ (List.mem_of_getElem? (i := 2) rfl)
theorem zw58_3 : Cond.instanceMethod yX12_more ∈ wsL_law := zr58 _ (List.mem_of_getElem? (i := 3) rfl)
theorem zw58_4 : Cond.selects RX12 yX12_more yX12_more ∈ wsL_law := zr58 _ (List.mem_of_getElem? (i := 4) rfl)
theorem zw58_5 : Cond.code yX12_more cX12_more 9 (some .int) ∈ wsL_law := zr58 _ (List.mem_of_getElem? (i := 5) rfl)
theorem zw58_6 : Cond.methodLink RX12 314 yX12_blocks ∈ wsL_law := zr58 _ (List.mem_of_getElem? (i := 6) rfl)
theorem zw58_7 : Cond.instanceMethod yX12_blocks ∈ wsL_law := zr58 _ (List.mem_of_getElem? (i := 7) rfl)
theorem zw58_8 : Cond.selects RX12 yX12_blocks yX12_blocks ∈ wsL_law := zr58 _ (List.mem_of_getElem? (i := 8) rfl)
theorem zw58_9 : Cond.code yX12_blocks cX12_blocks 8 (some .int) ∈ wsL_law := zr58 _ (List.mem_of_getElem? (i := 9) rfl)
theorem zw58_10 : Cond.methodLink RX12 317 yX12_words ∈ wsL_law := zr58 _ (List.mem_of_getElem? (i := 10) rfl)
theorem zw58_11 : Cond.instanceMethod yX12_words ∈ wsL_law := zr58 _ (List.mem_of_getElem? (i := 11) rfl)
theorem zw58_12 : Cond.selects RX12 yX12_words yX12_words ∈ wsL_law := zr58 _ (List.mem_of_getElem? (i := 12) rfl)
theorem zw58_13 : Cond.code yX12_words cX12_words 8 none ∈ wsL_law := zr58 _ (List.mem_of_getElem? (i := 13) rfl)
theorem zw58_14 : Cond.methodLink RX12 320 yX12_specials ∈ wsL_law := zr58 _ (List.mem_of_getElem? (i := 14) rfl)
theorem zw58_15 : Cond.instanceMethod yX12_specials ∈ wsL_law := zr58 _ (List.mem_of_getElem? (i := 15) rfl)
theorem zw58_16 : Cond.selects RX12 yX12_specials yX12_specials ∈ wsL_law := zr58 _ (List.mem_of_getElem? (i := 16) rfl)
theorem zw58_17 : Cond.code yX12_specials cX12_specials 5 (some .int) ∈ wsL_law := zr58 _ (List.mem_of_getElem? (i := 17) rfl)
theorem zw58_18 : Cond.methodLink RX12 305 yX12_prefixed ∈ wsL_law := zr58 _ (List.mem_of_getElem? (i := 18) rfl)
theorem zw58_19 : Cond.instanceMethod yX12_prefixed ∈ wsL_law := zr58 _ (List.mem_of_getElem? (i := 19) rfl)
theorem zw58_20 : Cond.selects RX12 yX12_prefixed yX12_prefixed ∈ wsL_law := zr58 _ (List.mem_of_getElem? (i := 20) rfl)
theorem zw58_21 : Cond.code yX12_prefixed cX12_prefixed 8 (some .int) ∈ wsL_law := zr58 _ (List.mem_of_getElem? (i := 21) rfl)
theorem zw58_22 : Cond.methodLink RX12 367 yX12_ends ∈ wsL_law := zr58 _ (List.mem_of_getElem? (i := 22) rfl)
theorem zw58_23 : Cond.instanceMethod yX12_ends ∈ wsL_law := zr58 _ (List.mem_of_getElem? (i := 23) rfl)
theorem zw59_0 : Cond.selects RX12 yX12_ends yX12_ends ∈ wsL_law := zr59 _ (List.mem_of_getElem? (i := 0) rfl)
theorem zw59_1 : Cond.code yX12_ends cX12_ends 2 none ∈ wsL_law := zr59 _ (List.mem_of_getElem? (i := 1) rfl)
theorem zw59_2 : Cond.methodLink RX12 410 yX12_draws ∈ wsL_law := zr59 _ (List.mem_of_getElem? (i := 2) rfl)
theorem zw59_3 : Cond.instanceMethod yX12_draws ∈ wsL_law := zr59 _ (List.mem_of_getElem? (i := 3) rfl)
theorem zw59_4 : Cond.selects RX12 yX12_draws yX12_draws ∈ wsL_law := zr59 _ (List.mem_of_getElem? (i := 4) rfl)
theorem zw59_5 : Cond.code yX12_draws cX12_draws 5 none ∈ wsL_law := zr59 _ (List.mem_of_getElem? (i := 5) rfl)
theorem zw59_6 : Cond.methodLink RX12 413 yX12_reg ∈ wsL_law := zr59 _ (List.mem_of_getElem? (i := 6) rfl)
theorem zw59_7 : Cond.instanceMethod yX12_reg ∈ wsL_law := zr59 _ (List.mem_of_getElem? (i := 7) rfl)
theorem zw59_8 : Cond.selects RX12 yX12_reg yX12_reg ∈ wsL_law := zr59 _ (List.mem_of_getElem? (i := 8) rfl)
theorem zw59_9 : Cond.code yX12_reg cX12_reg 2 (some .int) ∈ wsL_law := zr59 _ (List.mem_of_getElem? (i := 9) rfl)
theorem zw59_10 : Cond.methodLink RX12 419 yX12_tile ∈ wsL_law := zr59 _ (List.mem_of_getElem? (i := 10) rfl)
theorem zw59_11 : Cond.instanceMethod yX12_tile ∈ wsL_law := zr59 _ (List.mem_of_getElem? (i := 11) rfl)
theorem zw59_12 : Cond.selects RX12 yX12_tile yX12_tile ∈ wsL_law := zr59 _ (List.mem_of_getElem? (i := 12) rfl)
theorem zw59_13 : Cond.code yX12_tile cX12_tile 13 none ∈ wsL_law := zr59 _ (List.mem_of_getElem? (i := 13) rfl)
theorem zw59_14 : Cond.methodLink RX12 434 yX12_tileDot ∈ wsL_law := zr59 _ (List.mem_of_getElem? (i := 14) rfl)
theorem zw59_15 : Cond.instanceMethod yX12_tileDot ∈ wsL_law := zr59 _ (List.mem_of_getElem? (i := 15) rfl)
theorem zw59_16 : Cond.selects RX12 yX12_tileDot yX12_tileDot ∈ wsL_law := zr59 _ (List.mem_of_getElem? (i := 16) rfl)
theorem zw59_17 : Cond.code yX12_tileDot cX12_tileDot 6 (some .int) ∈ wsL_law := zr59 _ (List.mem_of_getElem? (i := 17) rfl)
theorem zw59_18 : Cond.methodLink RX12 422 yX12_sprites ∈ wsL_law := zr59 _ (List.mem_of_getElem? (i := 18) rfl)
theorem zw59_19 : Cond.instanceMethod yX12_sprites ∈ wsL_law := zr59 _ (List.mem_of_getElem? (i := 19) rfl)
theorem zw59_20 : Cond.selects RX12 yX12_sprites yX12_sprites ∈ wsL_law := zr59 _ (List.mem_of_getElem? (i := 20) rfl)
theorem zw59_21 : Cond.code yX12_sprites cX12_sprites 15 none ∈ wsL_law := zr59 _ (List.mem_of_getElem? (i := 21) rfl)
theorem zw59_22 : Cond.methodLink RX12 425 yX12_old ∈ wsL_law := zr59 _ (List.mem_of_getElem? (i := 22) rfl)
theorem zw59_23 : Cond.instanceMethod yX12_old ∈ wsL_law := zr59 _ (List.mem_of_getElem? (i := 23) rfl)
theorem zw60_0 : Cond.selects RX12 yX12_old yX12_old ∈ wsL_law := zr60 _ (List.mem_of_getElem? (i := 0) rfl)
theorem zw60_1 : Cond.code yX12_old cX12_old 10 (some .int) ∈ wsL_law := zr60 _ (List.mem_of_getElem? (i := 1) rfl)
theorem zw60_2 : Cond.methodLink RX12 428 yX12_oldSprites ∈ wsL_law := zr60 _ (List.mem_of_getElem? (i := 2) rfl)
theorem zw60_3 : Cond.instanceMethod yX12_oldSprites ∈ wsL_law := zr60 _ (List.mem_of_getElem? (i := 3) rfl)
theorem zw60_4 : Cond.selects RX12 yX12_oldSprites yX12_oldSprites ∈ wsL_law := zr60 _ (List.mem_of_getElem? (i := 4) rfl)
theorem zw60_5 : Cond.code yX12_oldSprites cX12_oldSprites 16 none ∈ wsL_law := zr60 _ (List.mem_of_getElem? (i := 5) rfl)
theorem zw60_6 : Cond.methodLink RX12 431 yX12_colour ∈ wsL_law := zr60 _ (List.mem_of_getElem? (i := 6) rfl)
theorem zw60_7 : Cond.instanceMethod yX12_colour ∈ wsL_law := zr60 _ (List.mem_of_getElem? (i := 7) rfl)
theorem zw60_8 : Cond.selects RX12 yX12_colour yX12_colour ∈ wsL_law := zr60 _ (List.mem_of_getElem? (i := 8) rfl)
theorem zw60_9 : Cond.code yX12_colour cX12_colour 3 (some .int) ∈ wsL_law := zr60 _ (List.mem_of_getElem? (i := 9) rfl)
theorem zw60_10 : Cond.methodLink RX12 416 yX12_planned ∈ wsL_law := zr60 _ (List.mem_of_getElem? (i := 10) rfl)
theorem zw60_11 : Cond.instanceMethod yX12_planned ∈ wsL_law := zr60 _ (List.mem_of_getElem? (i := 11) rfl)
theorem zw60_12 : Cond.selects RX12 yX12_planned yX12_planned ∈ wsL_law := zr60 _ (List.mem_of_getElem? (i := 12) rfl)
theorem zw60_13 : Cond.code yX12_planned cX12_planned 2 none ∈ wsL_law := zr60 _ (List.mem_of_getElem? (i := 13) rfl)
theorem zw60_14 : Cond.methodLink RX12 372 yX12_sample ∈ wsL_law := zr60 _ (List.mem_of_getElem? (i := 14) rfl)
theorem zw60_15 : Cond.instanceMethod yX12_sample ∈ wsL_law := zr60 _ (List.mem_of_getElem? (i := 15) rfl)
theorem zw60_16 : Cond.selects RX12 yX12_sample yX12_sample ∈ wsL_law := zr60 _ (List.mem_of_getElem? (i := 16) rfl)
theorem zw60_17 : Cond.code yX12_sample cX12_sample 7 none ∈ wsL_law := zr60 _ (List.mem_of_getElem? (i := 17) rfl)
theorem zw60_18 : Cond.constantLong RX12 440 (65536) ∈ wsL_law := zr60 _ (List.mem_of_getElem? (i := 18) rfl)
theorem zw60_19 : Cond.methodLink RX12 437 yX12_loudness ∈ wsL_law := zr60 _ (List.mem_of_getElem? (i := 19) rfl)
theorem zw60_20 : Cond.static yX12_loudness ∈ wsL_law := zr60 _ (List.mem_of_getElem? (i := 20) rfl)
theorem zw60_21 : Cond.code yX12_loudness cX12_loudness 1 (some .int) ∈ wsL_law := zr60 _ (List.mem_of_getElem? (i := 21) rfl)
theorem zw60_22 : Cond.methodLink RX12 377 yX12_waves ∈ wsL_law := zr60 _ (List.mem_of_getElem? (i := 22) rfl)
theorem zw60_23 : Cond.instanceMethod yX12_waves ∈ wsL_law := zr60 _ (List.mem_of_getElem? (i := 23) rfl)
theorem zw61_0 : Cond.selects RX12 yX12_waves yX12_waves ∈ wsL_law := zr61 _ (List.mem_of_getElem? (i := 0) rfl)
theorem zw61_1 : Cond.code yX12_waves cX12_waves 5 none ∈ wsL_law := zr61 _ (List.mem_of_getElem? (i := 1) rfl)
theorem zw61_2 : Cond.constant RX12 481 (8389120) ∈ wsL_law := zr61 _ (List.mem_of_getElem? (i := 2) rfl)
theorem zw61_3 : Cond.methodLink RX12 478 yX12_operator ∈ wsL_law := zr61 _ (List.mem_of_getElem? (i := 3) rfl)
theorem zw61_4 : Cond.instanceMethod yX12_operator ∈ wsL_law := zr61 _ (List.mem_of_getElem? (i := 4) rfl)
theorem zw61_5 : Cond.selects RX12 yX12_operator yX12_operator ∈ wsL_law := zr61 _ (List.mem_of_getElem? (i := 5) rfl)
theorem zw61_6 : Cond.code yX12_operator cX12_operator 9 none ∈ wsL_law := zr61 _ (List.mem_of_getElem? (i := 6) rfl)
theorem zw61_7 : Cond.methodLink RX12 482 yX12_isOn ∈ wsL_law := zr61 _ (List.mem_of_getElem? (i := 7) rfl)
theorem zw61_8 : Cond.instanceMethod yX12_isOn ∈ wsL_law := zr61 _ (List.mem_of_getElem? (i := 8) rfl)
theorem zw61_9 : Cond.selects RX12 yX12_isOn yX12_isOn ∈ wsL_law := zr61 _ (List.mem_of_getElem? (i := 9) rfl)
theorem zw61_10 : Cond.code yX12_isOn cX12_isOn 5 (some .int) ∈ wsL_law := zr61 _ (List.mem_of_getElem? (i := 10) rfl)
theorem zw61_11 : Cond.methodLink RX12 461 yX12_wreg ∈ wsL_law := zr61 _ (List.mem_of_getElem? (i := 11) rfl)
theorem zw61_12 : Cond.instanceMethod yX12_wreg ∈ wsL_law := zr61 _ (List.mem_of_getElem? (i := 12) rfl)
theorem zw61_13 : Cond.selects RX12 yX12_wreg yX12_wreg ∈ wsL_law := zr61 _ (List.mem_of_getElem? (i := 13) rfl)
theorem zw61_14 : Cond.code yX12_wreg cX12_wreg 2 (some .int) ∈ wsL_law := zr61 _ (List.mem_of_getElem? (i := 14) rfl)
theorem zw61_15 : Cond.methodLink RX12 464 yX12_isRhythm ∈ wsL_law := zr61 _ (List.mem_of_getElem? (i := 15) rfl)
theorem zw61_16 : Cond.instanceMethod yX12_isRhythm ∈ wsL_law := zr61 _ (List.mem_of_getElem? (i := 16) rfl)
theorem zw61_17 : Cond.selects RX12 yX12_isRhythm yX12_isRhythm ∈ wsL_law := zr61 _ (List.mem_of_getElem? (i := 17) rfl)
theorem zw61_18 : Cond.code yX12_isRhythm cX12_isRhythm 2 (some .boolean) ∈ wsL_law := zr61 _ (List.mem_of_getElem? (i := 18) rfl)
theorem zw61_19 : Cond.methodLink RX12 485 yX12_envelope ∈ wsL_law := zr61 _ (List.mem_of_getElem? (i := 19) rfl)
theorem zw61_20 : Cond.instanceMethod yX12_envelope ∈ wsL_law := zr61 _ (List.mem_of_getElem? (i := 20) rfl)
theorem zw61_21 : Cond.selects RX12 yX12_envelope yX12_envelope ∈ wsL_law := zr61 _ (List.mem_of_getElem? (i := 21) rfl)
theorem zw61_22 : Cond.code yX12_envelope cX12_envelope 16 none ∈ wsL_law := zr61 _ (List.mem_of_getElem? (i := 22) rfl)
theorem zw61_23 : Cond.constantLong RX12 511 (8) ∈ wsL_law := zr61 _ (List.mem_of_getElem? (i := 23) rfl)
theorem zw62_0 : Cond.constantLong RX12 516 (2) ∈ wsL_law := zr62 _ (List.mem_of_getElem? (i := 0) rfl)
theorem zw62_1 : Cond.constantLong RX12 518 (4) ∈ wsL_law := zr62 _ (List.mem_of_getElem? (i := 1) rfl)
theorem zw62_2 : Cond.methodLink RX12 502 yX12_rate ∈ wsL_law := zr62 _ (List.mem_of_getElem? (i := 2) rfl)
theorem zw62_3 : Cond.instanceMethod yX12_rate ∈ wsL_law := zr62 _ (List.mem_of_getElem? (i := 3) rfl)
theorem zw62_4 : Cond.selects RX12 yX12_rate yX12_rate ∈ wsL_law := zr62 _ (List.mem_of_getElem? (i := 4) rfl)
theorem zw62_5 : Cond.code yX12_rate cX12_rate 5 (some .int) ∈ wsL_law := zr62 _ (List.mem_of_getElem? (i := 5) rfl)
theorem zw62_6 : Cond.methodLink RX12 489 yX12_patchByte ∈ wsL_law := zr62 _ (List.mem_of_getElem? (i := 6) rfl)
theorem zw62_7 : Cond.instanceMethod yX12_patchByte ∈ wsL_law := zr62 _ (List.mem_of_getElem? (i := 7) rfl)
theorem zw62_8 : Cond.selects RX12 yX12_patchByte yX12_patchByte ∈ wsL_law := zr62 _ (List.mem_of_getElem? (i := 8) rfl)
theorem zw62_9 : Cond.code yX12_patchByte cX12_patchByte 5 (some .int) ∈ wsL_law := zr62 _ (List.mem_of_getElem? (i := 9) rfl)
theorem zw62_10 : Cond.methodLink RX12 469 yJ0_charAt_5068e ∈ wsL_law := zr62 _ (List.mem_of_getElem? (i := 10) rfl)
theorem zw62_11 : Cond.instanceMethod yJ0_charAt_5068e ∈ wsL_law := zr62 _ (List.mem_of_getElem? (i := 11) rfl)
theorem zw62_12 : Cond.selects RJ0 yJ0_charAt_5068e yJ0_charAt_5068e ∈ wsL_law := zr62 _ (List.mem_of_getElem? (i := 12) rfl)
theorem zw62_13 : Cond.initialized RJ0 ∈ wsL_law := zr62 _ (List.mem_of_getElem? (i := 13) rfl)
theorem zw62_14 : Cond.code yJ0_charAt_5068e cJ0_charAt_5068e 2 (some .char) ∈ wsL_law := zr62 _ (List.mem_of_getElem? (i := 14) rfl)
theorem zw62_15 : Cond.fieldLink RJ0 9 "java/lang/String" "value" "[B" ∈ wsL_law := zr62 _ (List.mem_of_getElem? (i := 15) rfl)
theorem zw62_16 : Cond.methodLink RJ0 492 yJ0_isLatin1_aae02 ∈ wsL_law := zr62 _ (List.mem_of_getElem? (i := 16) rfl)
theorem zw62_17 : Cond.instanceMethod yJ0_isLatin1_aae02 ∈ wsL_law := zr62 _ (List.mem_of_getElem? (i := 17) rfl)
theorem zw62_18 : Cond.selects RJ0 yJ0_isLatin1_aae02 yJ0_isLatin1_aae02 ∈ wsL_law := zr62 _ (List.mem_of_getElem? (i := 18) rfl)
theorem zw62_19 : Cond.code yJ0_isLatin1_aae02 cJ0_isLatin1_aae02 1 (some .boolean) ∈ wsL_law := zr62 _ (List.mem_of_getElem? (i := 19) rfl)
theorem zw62_20 : Cond.fieldLink RJ0 38 "java/lang/String" "COMPACT_STRINGS" "Z" ∈ wsL_law := zr62 _ (List.mem_of_getElem? (i := 20) rfl)
theorem zw62_21 : Cond.fieldLink RJ0 15 "java/lang/String" "coder" "B" ∈ wsL_law := zr62 _ (List.mem_of_getElem? (i := 21) rfl)
theorem zw62_22 : Cond.methodLink RJ0 495 yJ1_charAt_3b067 ∈ wsL_law := zr62 _ (List.mem_of_getElem? (i := 22) rfl)
theorem zw62_23 : Cond.static yJ1_charAt_3b067 ∈ wsL_law := zr62 _ (List.mem_of_getElem? (i := 23) rfl)
theorem zw63_0 : Cond.initialized RJ1 ∈ wsL_law := zr63 _ (List.mem_of_getElem? (i := 0) rfl)
theorem zw63_1 : Cond.code yJ1_charAt_3b067 cJ1_charAt_3b067 2 (some .char) ∈ wsL_law := zr63 _ (List.mem_of_getElem? (i := 1) rfl)
theorem zw63_2 : Cond.methodLink RJ1 9 yJ0_checkIndex_df160 ∈ wsL_law := zr63 _ (List.mem_of_getElem? (i := 2) rfl)
theorem zw63_3 : Cond.static yJ0_checkIndex_df160 ∈ wsL_law := zr63 _ (List.mem_of_getElem? (i := 3) rfl)
theorem zw63_4 : Cond.code yJ0_checkIndex_df160 cJ0_checkIndex_df160 2 none ∈ wsL_law := zr63 _ (List.mem_of_getElem? (i := 4) rfl)
theorem zw63_5 : Cond.fieldLink RJ0 1053 "jdk/internal/util/Preconditions" "SIOOBE_FORMATTER" "Ljava/util/function/BiFunction;" ∈ wsL_law := zr63 _ (List.mem_of_getElem? (i := 5) rfl)
theorem zw63_6 : Cond.methodLink RJ0 1059 yJ3_checkIndex_8e157 ∈ wsL_law := zr63 _ (List.mem_of_getElem? (i := 6) rfl)
theorem zw63_7 : Cond.static yJ3_checkIndex_8e157 ∈ wsL_law := zr63 _ (List.mem_of_getElem? (i := 7) rfl)
theorem zw63_8 : Cond.initialized RJ3 ∈ wsL_law := zr63 _ (List.mem_of_getElem? (i := 8) rfl)
theorem zw63_9 : Cond.code yJ3_checkIndex_8e157 cJ3_checkIndex_8e157 3 (some .int) ∈ wsL_law := zr63 _ (List.mem_of_getElem? (i := 9) rfl)
theorem zw64_3 : Cond.methodLink RX12 475 yX12_digit ∈ wsL_law := zr64 _ (List.mem_of_getElem? (i := 3) rfl)
theorem zw64_4 : Cond.static yX12_digit ∈ wsL_law := zr64 _ (List.mem_of_getElem? (i := 4) rfl)
theorem zw64_5 : Cond.code yX12_digit cX12_digit 1 (some .int) ∈ wsL_law := zr64 _ (List.mem_of_getElem? (i := 5) rfl)
theorem zw64_6 : Cond.methodLink RX12 505 yX12_block ∈ wsL_law := zr64 _ (List.mem_of_getElem? (i := 6) rfl)
theorem zw64_7 : Cond.instanceMethod yX12_block ∈ wsL_law := zr64 _ (List.mem_of_getElem? (i := 7) rfl)
theorem zw64_8 : Cond.selects RX12 yX12_block yX12_block ∈ wsL_law := zr64 _ (List.mem_of_getElem? (i := 8) rfl)
theorem zw64_9 : Cond.code yX12_block cX12_block 2 (some .int) ∈ wsL_law := zr64 _ (List.mem_of_getElem? (i := 9) rfl)
theorem zw64_10 : Cond.methodLink RX12 508 yX12_f ∈ wsL_law := zr64 _ (List.mem_of_getElem? (i := 10) rfl)
theorem zw64_11 : Cond.instanceMethod yX12_f ∈ wsL_law := zr64 _ (List.mem_of_getElem? (i := 11) rfl)
theorem zw64_12 : Cond.selects RX12 yX12_f yX12_f ∈ wsL_law := zr64 _ (List.mem_of_getElem? (i := 12) rfl)
theorem zw64_13 : Cond.code yX12_f cX12_f 2 (some .int) ∈ wsL_law := zr64 _ (List.mem_of_getElem? (i := 13) rfl)
theorem zw64_14 : Cond.methodLink RX12 513 yX12_t ∈ wsL_law := zr64 _ (List.mem_of_getElem? (i := 14) rfl)
theorem zw64_15 : Cond.static yX12_t ∈ wsL_law := zr64 _ (List.mem_of_getElem? (i := 15) rfl)
theorem zw64_16 : Cond.code yX12_t cX12_t 2 (some .int) ∈ wsL_law := zr64 _ (List.mem_of_getElem? (i := 16) rfl)
theorem zw64_17 : Cond.methodLink RX12 492 yX12_phase ∈ wsL_law := zr64 _ (List.mem_of_getElem? (i := 17) rfl)
theorem zw64_18 : Cond.instanceMethod yX12_phase ∈ wsL_law := zr64 _ (List.mem_of_getElem? (i := 18) rfl)
theorem zw64_19 : Cond.selects RX12 yX12_phase yX12_phase ∈ wsL_law := zr64 _ (List.mem_of_getElem? (i := 19) rfl)
theorem zw64_20 : Cond.code yX12_phase cX12_phase 10 none ∈ wsL_law := zr64 _ (List.mem_of_getElem? (i := 20) rfl)
theorem zw64_21 : Cond.constantLong RX12 520 (1024) ∈ wsL_law := zr64 _ (List.mem_of_getElem? (i := 21) rfl)
theorem zw64_22 : Cond.constant RX12 522 (524287) ∈ wsL_law := zr64 _ (List.mem_of_getElem? (i := 22) rfl)
theorem zw64_23 : Cond.methodLink RX12 495 yX12_drum ∈ wsL_law := zr64 _ (List.mem_of_getElem? (i := 23) rfl)
theorem zw65_0 : Cond.instanceMethod yX12_drum ∈ wsL_law := zr65 _ (List.mem_of_getElem? (i := 0) rfl)
theorem zw65_1 : Cond.selects RX12 yX12_drum yX12_drum ∈ wsL_law := zr65 _ (List.mem_of_getElem? (i := 1) rfl)
theorem zw65_2 : Cond.code yX12_drum cX12_drum 8 (some .int) ∈ wsL_law := zr65 _ (List.mem_of_getElem? (i := 2) rfl)
theorem zw65_3 : Cond.methodLink RX12 498 yX12_waveAt ∈ wsL_law := zr65 _ (List.mem_of_getElem? (i := 3) rfl)
theorem zw65_4 : Cond.instanceMethod yX12_waveAt ∈ wsL_law := zr65 _ (List.mem_of_getElem? (i := 4) rfl)
theorem zw65_5 : Cond.selects RX12 yX12_waveAt yX12_waveAt ∈ wsL_law := zr65 _ (List.mem_of_getElem? (i := 5) rfl)
theorem zw65_6 : Cond.code yX12_waveAt cX12_waveAt 17 (some .int) ∈ wsL_law := zr65 _ (List.mem_of_getElem? (i := 6) rfl)
theorem zw65_7 : Cond.constantLong RX12 526 (64) ∈ wsL_law := zr65 _ (List.mem_of_getElem? (i := 7) rfl)
theorem zw65_8 : Cond.constantLong RX12 528 (210) ∈ wsL_law := zr65 _ (List.mem_of_getElem? (i := 8) rfl)
theorem zw65_9 : Cond.fieldLink RX12 530 "PadConsoleModel" "SINE" "[I" ∈ wsL_law := zr65 _ (List.mem_of_getElem? (i := 9) rfl)
theorem zw65_10 : Cond.fieldLink RX12 533 "PadConsoleModel" "POWER" "[I" ∈ wsL_law := zr65 _ (List.mem_of_getElem? (i := 10) rfl)
theorem zw65_11 : Cond.methodLink RX12 523 yX12_kept ∈ wsL_law := zr65 _ (List.mem_of_getElem? (i := 11) rfl)
theorem zw65_12 : Cond.static yX12_kept ∈ wsL_law := zr65 _ (List.mem_of_getElem? (i := 12) rfl)
theorem zw65_13 : Cond.code yX12_kept cX12_kept 1 (some .int) ∈ wsL_law := zr65 _ (List.mem_of_getElem? (i := 13) rfl)
theorem zw65_14 : Cond.methodLink RX12 382 yX12_mixed ∈ wsL_law := zr65 _ (List.mem_of_getElem? (i := 14) rfl)
theorem zw65_15 : Cond.instanceMethod yX12_mixed ∈ wsL_law := zr65 _ (List.mem_of_getElem? (i := 15) rfl)
theorem zw65_16 : Cond.selects RX12 yX12_mixed yX12_mixed ∈ wsL_law := zr65 _ (List.mem_of_getElem? (i := 16) rfl)
theorem zw65_17 : Cond.code yX12_mixed cX12_mixed 5 none ∈ wsL_law := zr65 _ (List.mem_of_getElem? (i := 17) rfl)
theorem zw66_1 : Cond.constant RX11 156 (1000000) ∈ wsL_law := zr66 _ (List.mem_of_getElem? (i := 1) rfl)
theorem zw66_6 : Cond.constantLong RX12 393 (3) ∈ wsL_law := zr66 _ (List.mem_of_getElem? (i := 6) rfl)
theorem zw66_19 : Cond.methodLink RX11 157 yX5_askForPause ∈ wsL_law := zr66 _ (List.mem_of_getElem? (i := 19) rfl)
theorem zw66_20 : Cond.instanceMethod yX5_askForPause ∈ wsL_law := zr66 _ (List.mem_of_getElem? (i := 20) rfl)
theorem zw66_21 : Cond.selects RX5 yX5_askForPause yX5_askForPause ∈ wsL_law := zr66 _ (List.mem_of_getElem? (i := 21) rfl)
theorem zw66_22 : Cond.code yX5_askForPause cX5_askForPause 1 none ∈ wsL_law := zr66 _ (List.mem_of_getElem? (i := 22) rfl)
theorem zw67_10 : Cond.methodLink RX11 160 yX4_canPress ∈ wsL_law := zr67 _ (List.mem_of_getElem? (i := 10) rfl)
theorem zw67_11 : Cond.static yX4_canPress ∈ wsL_law := zr67 _ (List.mem_of_getElem? (i := 11) rfl)
theorem zw67_12 : Cond.code yX4_canPress cX4_canPress 2 (some .boolean) ∈ wsL_law := zr67 _ (List.mem_of_getElem? (i := 12) rfl)
theorem zw67_13 : Cond.methodLink RX11 166 yX4_holdButtons ∈ wsL_law := zr67 _ (List.mem_of_getElem? (i := 13) rfl)
theorem zw67_18 : Cond.constantLong RX12 444 (63) ∈ wsL_law := zr67 _ (List.mem_of_getElem? (i := 18) rfl)
theorem zw67_23 : Cond.methodLink RX11 170 yX4_holdStart ∈ wsL_law := zr67 _ (List.mem_of_getElem? (i := 23) rfl)
theorem zw68_0 : Cond.instanceMethod yX4_holdStart ∈ wsL_law := zr68 _ (List.mem_of_getElem? (i := 0) rfl)
theorem zw68_1 : Cond.selects RX4 yX4_holdStart yX4_holdStart ∈ wsL_law := zr68 _ (List.mem_of_getElem? (i := 1) rfl)
theorem zw68_2 : Cond.code yX4_holdStart cX4_holdStart 2 none ∈ wsL_law := zr68 _ (List.mem_of_getElem? (i := 2) rfl)
theorem zw68_14 : Cond.methodLink RX11 176 yX4_moveLine ∈ wsL_law := zr68 _ (List.mem_of_getElem? (i := 14) rfl)
theorem zw68_15 : Cond.instanceMethod yX4_moveLine ∈ wsL_law := zr68 _ (List.mem_of_getElem? (i := 15) rfl)
theorem zw68_16 : Cond.selects RX4 yX4_moveLine yX4_moveLine ∈ wsL_law := zr68 _ (List.mem_of_getElem? (i := 16) rfl)
theorem zw68_17 : Cond.code yX4_moveLine cX4_moveLine 3 none ∈ wsL_law := zr68 _ (List.mem_of_getElem? (i := 17) rfl)
theorem zw69_5 : Cond.methodLink RX11 180 yX1_leastPlan ∈ wsL_law := zr69 _ (List.mem_of_getElem? (i := 5) rfl)
theorem zw69_6 : Cond.instanceMethod yX1_leastPlan ∈ wsL_law := zr69 _ (List.mem_of_getElem? (i := 6) rfl)
theorem zw69_7 : Cond.selects RX1 yX1_leastPlan yX1_leastPlan ∈ wsL_law := zr69 _ (List.mem_of_getElem? (i := 7) rfl)
theorem zw69_8 : Cond.code yX1_leastPlan cX1_leastPlan 1 (some .int) ∈ wsL_law := zr69 _ (List.mem_of_getElem? (i := 8) rfl)
theorem zw69_9 : Cond.methodLink RX11 185 yX1_plansWaiting ∈ wsL_law := zr69 _ (List.mem_of_getElem? (i := 9) rfl)
theorem zw69_10 : Cond.instanceMethod yX1_plansWaiting ∈ wsL_law := zr69 _ (List.mem_of_getElem? (i := 10) rfl)
theorem zw69_11 : Cond.selects RX1 yX1_plansWaiting yX1_plansWaiting ∈ wsL_law := zr69 _ (List.mem_of_getElem? (i := 11) rfl)
theorem zw69_12 : Cond.code yX1_plansWaiting cX1_plansWaiting 1 (some .int) ∈ wsL_law := zr69 _ (List.mem_of_getElem? (i := 12) rfl)
theorem zw69_13 : Cond.methodLink RX11 190 yX1_addPlan ∈ wsL_law := zr69 _ (List.mem_of_getElem? (i := 13) rfl)
theorem zw69_14 : Cond.instanceMethod yX1_addPlan ∈ wsL_law := zr69 _ (List.mem_of_getElem? (i := 14) rfl)
theorem zw69_15 : Cond.selects RX1 yX1_addPlan yX1_addPlan ∈ wsL_law := zr69 _ (List.mem_of_getElem? (i := 15) rfl)
theorem zw69_16 : Cond.code yX1_addPlan cX1_addPlan 5 (some .int) ∈ wsL_law := zr69 _ (List.mem_of_getElem? (i := 16) rfl)
theorem zw70_1 : Cond.methodLink RX11 194 yX8_write ∈ wsL_law := zr70 _ (List.mem_of_getElem? (i := 1) rfl)
theorem zw70_2 : Cond.instanceMethod yX8_write ∈ wsL_law := zr70 _ (List.mem_of_getElem? (i := 2) rfl)
theorem zw70_3 : Cond.selects RX8 yX8_write yX8_write ∈ wsL_law := zr70 _ (List.mem_of_getElem? (i := 3) rfl)
theorem zw70_4 : Cond.code yX8_write cX8_write 4 (some .int) ∈ wsL_law := zr70 _ (List.mem_of_getElem? (i := 4) rfl)
theorem zw70_5 : Cond.constant RX8 17 (65535) ∈ wsL_law := zr70 _ (List.mem_of_getElem? (i := 5) rfl)
theorem zw70_6 : Cond.fieldLink RX8 18 "PadConsole$Teller" "at" "I" ∈ wsL_law := zr70 _ (List.mem_of_getElem? (i := 6) rfl)
theorem zw70_7 : Cond.fieldLink RX8 22 "PadConsole$Teller" "count" "I" ∈ wsL_law := zr70 _ (List.mem_of_getElem? (i := 7) rfl)
theorem zw70_8 : Cond.fieldLink RX8 25 "PadConsole$Teller" "length" "I" ∈ wsL_law := zr70 _ (List.mem_of_getElem? (i := 8) rfl)
theorem zw70_9 : Cond.fieldLink RX8 28 "PadConsole$Teller" "prefix" "I" ∈ wsL_law := zr70 _ (List.mem_of_getElem? (i := 9) rfl)
theorem zw70_10 : Cond.fieldLink RX8 31 "PadConsole$Teller" "beside" "Z" ∈ wsL_law := zr70 _ (List.mem_of_getElem? (i := 10) rfl)
theorem zw70_11 : Cond.methodLink RX8 35 yX8_take ∈ wsL_law := zr70 _ (List.mem_of_getElem? (i := 11) rfl)
theorem zw70_12 : Cond.instanceMethod yX8_take ∈ wsL_law := zr70 _ (List.mem_of_getElem? (i := 12) rfl)
theorem zw70_13 : Cond.selects RX8 yX8_take yX8_take ∈ wsL_law := zr70 _ (List.mem_of_getElem? (i := 13) rfl)
theorem zw70_14 : Cond.code yX8_take cX8_take 2 (some .int) ∈ wsL_law := zr70 _ (List.mem_of_getElem? (i := 14) rfl)
theorem zw70_15 : Cond.methodLink RX8 39 yX2_read ∈ wsL_law := zr70 _ (List.mem_of_getElem? (i := 15) rfl)
theorem zw70_16 : Cond.methodLink RX8 47 yX8_put ∈ wsL_law := zr70 _ (List.mem_of_getElem? (i := 16) rfl)
theorem zw70_17 : Cond.instanceMethod yX8_put ∈ wsL_law := zr70 _ (List.mem_of_getElem? (i := 17) rfl)
theorem zw70_18 : Cond.selects RX8 yX8_put yX8_put ∈ wsL_law := zr70 _ (List.mem_of_getElem? (i := 18) rfl)
theorem zw70_19 : Cond.code yX8_put cX8_put 6 none ∈ wsL_law := zr70 _ (List.mem_of_getElem? (i := 19) rfl)
theorem zw70_20 : Cond.fieldLink RX8 64 "PadConsole$Teller" "y" "I" ∈ wsL_law := zr70 _ (List.mem_of_getElem? (i := 20) rfl)
theorem zw70_21 : Cond.methodLink RX8 169 yJ0_length_8abf5 ∈ wsL_law := zr70 _ (List.mem_of_getElem? (i := 21) rfl)
theorem zw70_22 : Cond.instanceMethod yJ0_length_8abf5 ∈ wsL_law := zr70 _ (List.mem_of_getElem? (i := 22) rfl)
theorem zw70_23 : Cond.selects RJ0 yJ0_length_8abf5 yJ0_length_8abf5 ∈ wsL_law := zr70 _ (List.mem_of_getElem? (i := 23) rfl)
theorem zw71_0 : Cond.code yJ0_length_8abf5 cJ0_length_8abf5 1 (some .int) ∈ wsL_law := zr71 _ (List.mem_of_getElem? (i := 0) rfl)
theorem zw71_1 : Cond.methodLink RJ0 335 yJ0_coder_7d493 ∈ wsL_law := zr71 _ (List.mem_of_getElem? (i := 1) rfl)
theorem zw71_2 : Cond.instanceMethod yJ0_coder_7d493 ∈ wsL_law := zr71 _ (List.mem_of_getElem? (i := 2) rfl)
theorem zw71_3 : Cond.selects RJ0 yJ0_coder_7d493 yJ0_coder_7d493 ∈ wsL_law := zr71 _ (List.mem_of_getElem? (i := 3) rfl)
theorem zw71_4 : Cond.code yJ0_coder_7d493 cJ0_coder_7d493 1 (some .byte) ∈ wsL_law := zr71 _ (List.mem_of_getElem? (i := 4) rfl)
theorem zw71_5 : Cond.methodLink RX8 173 yJ0_charAt_5068e ∈ wsL_law := zr71 _ (List.mem_of_getElem? (i := 5) rfl)
theorem zw71_6 : Cond.methodLink RX8 177 yX8_putMeant ∈ wsL_law := zr71 _ (List.mem_of_getElem? (i := 6) rfl)
theorem zw71_7 : Cond.instanceMethod yX8_putMeant ∈ wsL_law := zr71 _ (List.mem_of_getElem? (i := 7) rfl)
theorem zw71_8 : Cond.selects RX8 yX8_putMeant yX8_putMeant ∈ wsL_law := zr71 _ (List.mem_of_getElem? (i := 8) rfl)
theorem zw71_9 : Cond.code yX8_putMeant cX8_putMeant 2 none ∈ wsL_law := zr71 _ (List.mem_of_getElem? (i := 9) rfl)
theorem zw71_10 : Cond.fieldLink RX8 67 "PadConsole$Teller" "z" "I" ∈ wsL_law := zr71 _ (List.mem_of_getElem? (i := 10) rfl)
theorem zw71_11 : Cond.methodLink RX8 183 yX8_putOne ∈ wsL_law := zr71 _ (List.mem_of_getElem? (i := 11) rfl)
theorem zw71_12 : Cond.instanceMethod yX8_putOne ∈ wsL_law := zr71 _ (List.mem_of_getElem? (i := 12) rfl)
theorem zw71_13 : Cond.selects RX8 yX8_putOne yX8_putOne ∈ wsL_law := zr71 _ (List.mem_of_getElem? (i := 13) rfl)
theorem zw71_14 : Cond.code yX8_putOne cX8_putOne 2 none ∈ wsL_law := zr71 _ (List.mem_of_getElem? (i := 14) rfl)
theorem zw71_15 : Cond.methodLink RX8 211 yX8_putPlace ∈ wsL_law := zr71 _ (List.mem_of_getElem? (i := 15) rfl)
theorem zw71_16 : Cond.instanceMethod yX8_putPlace ∈ wsL_law := zr71 _ (List.mem_of_getElem? (i := 16) rfl)
theorem zw71_17 : Cond.selects RX8 yX8_putPlace yX8_putPlace ∈ wsL_law := zr71 _ (List.mem_of_getElem? (i := 17) rfl)
theorem zw71_18 : Cond.code yX8_putPlace cX8_putPlace 2 none ∈ wsL_law := zr71 _ (List.mem_of_getElem? (i := 18) rfl)
theorem zw71_19 : Cond.methodLink RX8 180 yX8_putSign ∈ wsL_law := zr71 _ (List.mem_of_getElem? (i := 19) rfl)
theorem zw71_20 : Cond.instanceMethod yX8_putSign ∈ wsL_law := zr71 _ (List.mem_of_getElem? (i := 20) rfl)
theorem zw71_21 : Cond.selects RX8 yX8_putSign yX8_putSign ∈ wsL_law := zr71 _ (List.mem_of_getElem? (i := 21) rfl)
theorem zw71_22 : Cond.code yX8_putSign cX8_putSign 2 none ∈ wsL_law := zr71 _ (List.mem_of_getElem? (i := 22) rfl)
theorem zw71_23 : Cond.methodLink RX8 196 yX8_putHl ∈ wsL_law := zr71 _ (List.mem_of_getElem? (i := 23) rfl)
theorem zw72_0 : Cond.instanceMethod yX8_putHl ∈ wsL_law := zr72 _ (List.mem_of_getElem? (i := 0) rfl)
theorem zw72_1 : Cond.selects RX8 yX8_putHl yX8_putHl ∈ wsL_law := zr72 _ (List.mem_of_getElem? (i := 1) rfl)
theorem zw72_2 : Cond.code yX8_putHl cX8_putHl 1 none ∈ wsL_law := zr72 _ (List.mem_of_getElem? (i := 2) rfl)
theorem zw72_3 : Cond.methodLink RX8 205 yX8_putByte ∈ wsL_law := zr72 _ (List.mem_of_getElem? (i := 3) rfl)
theorem zw72_4 : Cond.instanceMethod yX8_putByte ∈ wsL_law := zr72 _ (List.mem_of_getElem? (i := 4) rfl)
theorem zw72_5 : Cond.selects RX8 yX8_putByte yX8_putByte ∈ wsL_law := zr72 _ (List.mem_of_getElem? (i := 5) rfl)
theorem zw72_6 : Cond.code yX8_putByte cX8_putByte 2 none ∈ wsL_law := zr72 _ (List.mem_of_getElem? (i := 6) rfl)
theorem zw72_7 : Cond.methodLink RX8 201 yX8_putName ∈ wsL_law := zr72 _ (List.mem_of_getElem? (i := 7) rfl)
theorem zw72_8 : Cond.instanceMethod yX8_putName ∈ wsL_law := zr72 _ (List.mem_of_getElem? (i := 8) rfl)
theorem zw72_9 : Cond.selects RX8 yX8_putName yX8_putName ∈ wsL_law := zr72 _ (List.mem_of_getElem? (i := 9) rfl)
theorem zw72_10 : Cond.code yX8_putName cX8_putName 5 none ∈ wsL_law := zr72 _ (List.mem_of_getElem? (i := 10) rfl)
theorem zw72_11 : Cond.methodLink RX8 186 yX8_putTurned ∈ wsL_law := zr72 _ (List.mem_of_getElem? (i := 11) rfl)
theorem zw72_12 : Cond.instanceMethod yX8_putTurned ∈ wsL_law := zr72 _ (List.mem_of_getElem? (i := 12) rfl)
theorem zw72_13 : Cond.selects RX8 yX8_putTurned yX8_putTurned ∈ wsL_law := zr72 _ (List.mem_of_getElem? (i := 13) rfl)
theorem zw72_14 : Cond.code yX8_putTurned cX8_putTurned 1 none ∈ wsL_law := zr72 _ (List.mem_of_getElem? (i := 14) rfl)
theorem zw72_15 : Cond.fieldLink RX8 70 "PadConsole$Teller" "early" "I" ∈ wsL_law := zr72 _ (List.mem_of_getElem? (i := 15) rfl)
theorem zw72_16 : Cond.fieldLink RX8 61 "PadConsole$Teller" "x" "I" ∈ wsL_law := zr72 _ (List.mem_of_getElem? (i := 16) rfl)
theorem zw72_17 : Cond.methodLink RX8 191 yX8_putPair ∈ wsL_law := zr72 _ (List.mem_of_getElem? (i := 17) rfl)
theorem zw72_18 : Cond.instanceMethod yX8_putPair ∈ wsL_law := zr72 _ (List.mem_of_getElem? (i := 18) rfl)
theorem zw72_19 : Cond.selects RX8 yX8_putPair yX8_putPair ∈ wsL_law := zr72 _ (List.mem_of_getElem? (i := 19) rfl)
theorem zw72_20 : Cond.code yX8_putPair cX8_putPair 2 none ∈ wsL_law := zr72 _ (List.mem_of_getElem? (i := 20) rfl)
theorem zw72_21 : Cond.methodLink RX8 208 yX8_putWord ∈ wsL_law := zr72 _ (List.mem_of_getElem? (i := 21) rfl)
theorem zw72_22 : Cond.instanceMethod yX8_putWord ∈ wsL_law := zr72 _ (List.mem_of_getElem? (i := 22) rfl)
theorem zw72_23 : Cond.selects RX8 yX8_putWord yX8_putWord ∈ wsL_law := zr72 _ (List.mem_of_getElem? (i := 23) rfl)
theorem zw73_0 : Cond.code yX8_putWord cX8_putWord 2 none ∈ wsL_law := zr73 _ (List.mem_of_getElem? (i := 0) rfl)
theorem zw73_1 : Cond.methodLink RX8 51 yX5_meansPlace ∈ wsL_law := zr73 _ (List.mem_of_getElem? (i := 1) rfl)
theorem zw73_2 : Cond.methodLink RX8 57 yX8_patternsOf ∈ wsL_law := zr73 _ (List.mem_of_getElem? (i := 2) rfl)
theorem zw73_3 : Cond.instanceMethod yX8_patternsOf ∈ wsL_law := zr73 _ (List.mem_of_getElem? (i := 3) rfl)
theorem zw73_4 : Cond.selects RX8 yX8_patternsOf yX8_patternsOf ∈ wsL_law := zr73 _ (List.mem_of_getElem? (i := 4) rfl)
theorem zw73_5 : Cond.code yX8_patternsOf cX8_patternsOf 2 (some (.object "java/lang/String")) ∈ wsL_law := zr73 _ (List.mem_of_getElem? (i := 5) rfl)
theorem zw73_6 : Cond.methodLink RX8 73 yX8_split ∈ wsL_law := zr73 _ (List.mem_of_getElem? (i := 6) rfl)
theorem zw73_7 : Cond.instanceMethod yX8_split ∈ wsL_law := zr73 _ (List.mem_of_getElem? (i := 7) rfl)
theorem zw73_8 : Cond.selects RX8 yX8_split yX8_split ∈ wsL_law := zr73 _ (List.mem_of_getElem? (i := 8) rfl)
theorem zw73_9 : Cond.code yX8_split cX8_split 2 none ∈ wsL_law := zr73 _ (List.mem_of_getElem? (i := 9) rfl)
theorem zw73_10 : Cond.methodLink RX8 77 yX8_turnPatterns ∈ wsL_law := zr73 _ (List.mem_of_getElem? (i := 10) rfl)
theorem zw73_11 : Cond.instanceMethod yX8_turnPatterns ∈ wsL_law := zr73 _ (List.mem_of_getElem? (i := 11) rfl)
theorem zw73_12 : Cond.selects RX8 yX8_turnPatterns yX8_turnPatterns ∈ wsL_law := zr73 _ (List.mem_of_getElem? (i := 12) rfl)
theorem zw73_13 : Cond.code yX8_turnPatterns cX8_turnPatterns 1 (some (.object "java/lang/String")) ∈ wsL_law := zr73 _ (List.mem_of_getElem? (i := 13) rfl)
theorem zw73_14 : Cond.methodLink RX8 81 yX8_blockPatterns ∈ wsL_law := zr73 _ (List.mem_of_getElem? (i := 14) rfl)
theorem zw73_15 : Cond.instanceMethod yX8_blockPatterns ∈ wsL_law := zr73 _ (List.mem_of_getElem? (i := 15) rfl)
theorem zw73_16 : Cond.selects RX8 yX8_blockPatterns yX8_blockPatterns ∈ wsL_law := zr73 _ (List.mem_of_getElem? (i := 16) rfl)
theorem zw73_17 : Cond.code yX8_blockPatterns cX8_blockPatterns 1 (some (.object "java/lang/String")) ∈ wsL_law := zr73 _ (List.mem_of_getElem? (i := 17) rfl)
theorem zw73_18 : Cond.methodLink RX8 84 yX8_morePatterns ∈ wsL_law := zr73 _ (List.mem_of_getElem? (i := 18) rfl)
theorem zw73_19 : Cond.instanceMethod yX8_morePatterns ∈ wsL_law := zr73 _ (List.mem_of_getElem? (i := 19) rfl)
theorem zw73_20 : Cond.selects RX8 yX8_morePatterns yX8_morePatterns ∈ wsL_law := zr73 _ (List.mem_of_getElem? (i := 20) rfl)
theorem zw73_21 : Cond.code yX8_morePatterns cX8_morePatterns 1 (some (.object "java/lang/String")) ∈ wsL_law := zr73 _ (List.mem_of_getElem? (i := 21) rfl)
theorem zw73_22 : Cond.methodLink RX8 87 yX8_firstPatterns ∈ wsL_law := zr73 _ (List.mem_of_getElem? (i := 22) rfl)
theorem zw73_23 : Cond.instanceMethod yX8_firstPatterns ∈ wsL_law := zr73 _ (List.mem_of_getElem? (i := 23) rfl)
theorem zw74_0 : Cond.selects RX8 yX8_firstPatterns yX8_firstPatterns ∈ wsL_law := zr74 _ (List.mem_of_getElem? (i := 0) rfl)
theorem zw74_1 : Cond.code yX8_firstPatterns cX8_firstPatterns 1 (some (.object "java/lang/String")) ∈ wsL_law := zr74 _ (List.mem_of_getElem? (i := 1) rfl)
theorem zw74_2 : Cond.methodLink RX8 96 yX8_lastPatterns ∈ wsL_law := zr74 _ (List.mem_of_getElem? (i := 2) rfl)
theorem zw74_3 : Cond.instanceMethod yX8_lastPatterns ∈ wsL_law := zr74 _ (List.mem_of_getElem? (i := 3) rfl)
theorem zw74_4 : Cond.selects RX8 yX8_lastPatterns yX8_lastPatterns ∈ wsL_law := zr74 _ (List.mem_of_getElem? (i := 4) rfl)
theorem zw74_5 : Cond.code yX8_lastPatterns cX8_lastPatterns 1 (some (.object "java/lang/String")) ∈ wsL_law := zr74 _ (List.mem_of_getElem? (i := 5) rfl)
theorem zw74_10 : Cond.fieldLink RX12 458 "PadConsoleModel" "signs" "I" ∈ wsL_law := zr74 _ (List.mem_of_getElem? (i := 10) rfl)
theorem zw74_11 : Cond.fieldLink RX12 545 "PadConsoleModel" "from" "I" ∈ wsL_law := zr74 _ (List.mem_of_getElem? (i := 11) rfl)
theorem zw74_12 : Cond.fieldLink RX12 551 "PadConsoleModel" "index" "I" ∈ wsL_law := zr74 _ (List.mem_of_getElem? (i := 12) rfl)
theorem zw74_13 : Cond.fieldLink RX12 563 "PadConsoleModel" "placed" "Z" ∈ wsL_law := zr74 _ (List.mem_of_getElem? (i := 13) rfl)
theorem zw74_14 : Cond.methodLink RX12 548 yX12_taken ∈ wsL_law := zr74 _ (List.mem_of_getElem? (i := 14) rfl)
theorem zw74_15 : Cond.instanceMethod yX12_taken ∈ wsL_law := zr74 _ (List.mem_of_getElem? (i := 15) rfl)
theorem zw74_16 : Cond.selects RX12 yX12_taken yX12_taken ∈ wsL_law := zr74 _ (List.mem_of_getElem? (i := 16) rfl)
theorem zw74_17 : Cond.code yX12_taken cX12_taken 2 (some .int) ∈ wsL_law := zr74 _ (List.mem_of_getElem? (i := 17) rfl)
theorem zw74_18 : Cond.methodLink RX12 643 yX12_sayPrefixed ∈ wsL_law := zr74 _ (List.mem_of_getElem? (i := 18) rfl)
theorem zw74_19 : Cond.instanceMethod yX12_sayPrefixed ∈ wsL_law := zr74 _ (List.mem_of_getElem? (i := 19) rfl)
theorem zw74_20 : Cond.selects RX12 yX12_sayPrefixed yX12_sayPrefixed ∈ wsL_law := zr74 _ (List.mem_of_getElem? (i := 20) rfl)
theorem zw74_21 : Cond.code yX12_sayPrefixed cX12_sayPrefixed 7 none ∈ wsL_law := zr74 _ (List.mem_of_getElem? (i := 21) rfl)
theorem zw74_22 : Cond.fieldLink RX12 572 "PadConsoleModel" "distance" "I" ∈ wsL_law := zr74 _ (List.mem_of_getElem? (i := 22) rfl)
theorem zw74_23 : Cond.methodLink RX12 559 yX12_say ∈ wsL_law := zr74 _ (List.mem_of_getElem? (i := 23) rfl)
theorem zw75_0 : Cond.instanceMethod yX12_say ∈ wsL_law := zr75 _ (List.mem_of_getElem? (i := 0) rfl)
theorem zw75_1 : Cond.selects RX12 yX12_say yX12_say ∈ wsL_law := zr75 _ (List.mem_of_getElem? (i := 1) rfl)
theorem zw75_2 : Cond.code yX12_say cX12_say 3 none ∈ wsL_law := zr75 _ (List.mem_of_getElem? (i := 2) rfl)
theorem zw75_3 : Cond.methodLink RX12 542 yJ0_length_8abf5 ∈ wsL_law := zr75 _ (List.mem_of_getElem? (i := 3) rfl)
theorem zw75_4 : Cond.methodLink RX12 646 yX12_sayTurn ∈ wsL_law := zr75 _ (List.mem_of_getElem? (i := 4) rfl)
theorem zw75_5 : Cond.instanceMethod yX12_sayTurn ∈ wsL_law := zr75 _ (List.mem_of_getElem? (i := 5) rfl)
theorem zw75_6 : Cond.selects RX12 yX12_sayTurn yX12_sayTurn ∈ wsL_law := zr75 _ (List.mem_of_getElem? (i := 6) rfl)
theorem zw75_7 : Cond.code yX12_sayTurn cX12_sayTurn 3 none ∈ wsL_law := zr75 _ (List.mem_of_getElem? (i := 7) rfl)
theorem zw75_8 : Cond.methodLink RX12 579 yX12_hex ∈ wsL_law := zr75 _ (List.mem_of_getElem? (i := 8) rfl)
theorem zw75_9 : Cond.instanceMethod yX12_hex ∈ wsL_law := zr75 _ (List.mem_of_getElem? (i := 9) rfl)
theorem zw75_10 : Cond.selects RX12 yX12_hex yX12_hex ∈ wsL_law := zr75 _ (List.mem_of_getElem? (i := 10) rfl)
theorem zw75_11 : Cond.code yX12_hex cX12_hex 5 none ∈ wsL_law := zr75 _ (List.mem_of_getElem? (i := 11) rfl)
theorem zw75_12 : Cond.methodLink RX12 659 yX12_sayR ∈ wsL_law := zr75 _ (List.mem_of_getElem? (i := 12) rfl)
theorem zw75_13 : Cond.instanceMethod yX12_sayR ∈ wsL_law := zr75 _ (List.mem_of_getElem? (i := 13) rfl)
theorem zw75_14 : Cond.selects RX12 yX12_sayR yX12_sayR ∈ wsL_law := zr75 _ (List.mem_of_getElem? (i := 14) rfl)
theorem zw75_15 : Cond.code yX12_sayR cX12_sayR 2 none ∈ wsL_law := zr75 _ (List.mem_of_getElem? (i := 15) rfl)
theorem zw75_16 : Cond.methodLink RX12 584 yX12_sayPlace ∈ wsL_law := zr75 _ (List.mem_of_getElem? (i := 16) rfl)
theorem zw75_17 : Cond.instanceMethod yX12_sayPlace ∈ wsL_law := zr75 _ (List.mem_of_getElem? (i := 17) rfl)
theorem zw75_18 : Cond.selects RX12 yX12_sayPlace yX12_sayPlace ∈ wsL_law := zr75 _ (List.mem_of_getElem? (i := 18) rfl)
theorem zw75_19 : Cond.code yX12_sayPlace cX12_sayPlace 1 none ∈ wsL_law := zr75 _ (List.mem_of_getElem? (i := 19) rfl)
theorem zw75_20 : Cond.methodLink RX12 587 yX12_sayHl ∈ wsL_law := zr75 _ (List.mem_of_getElem? (i := 20) rfl)
theorem zw75_21 : Cond.instanceMethod yX12_sayHl ∈ wsL_law := zr75 _ (List.mem_of_getElem? (i := 21) rfl)
theorem zw75_22 : Cond.selects RX12 yX12_sayHl yX12_sayHl ∈ wsL_law := zr75 _ (List.mem_of_getElem? (i := 22) rfl)
theorem zw75_23 : Cond.code yX12_sayHl cX12_sayHl 1 none ∈ wsL_law := zr75 _ (List.mem_of_getElem? (i := 23) rfl)
theorem zw76_0 : Cond.methodLink RX12 652 yX12_sayPlain ∈ wsL_law := zr76 _ (List.mem_of_getElem? (i := 0) rfl)
theorem zw76_1 : Cond.instanceMethod yX12_sayPlain ∈ wsL_law := zr76 _ (List.mem_of_getElem? (i := 1) rfl)
theorem zw76_2 : Cond.selects RX12 yX12_sayPlain yX12_sayPlain ∈ wsL_law := zr76 _ (List.mem_of_getElem? (i := 2) rfl)
theorem zw76_3 : Cond.code yX12_sayPlain cX12_sayPlain 4 none ∈ wsL_law := zr76 _ (List.mem_of_getElem? (i := 3) rfl)
theorem zw76_4 : Cond.methodLink RX12 684 yX12_sayZero ∈ wsL_law := zr76 _ (List.mem_of_getElem? (i := 4) rfl)
theorem zw76_5 : Cond.instanceMethod yX12_sayZero ∈ wsL_law := zr76 _ (List.mem_of_getElem? (i := 5) rfl)
theorem zw76_6 : Cond.selects RX12 yX12_sayZero yX12_sayZero ∈ wsL_law := zr76 _ (List.mem_of_getElem? (i := 6) rfl)
theorem zw76_7 : Cond.code yX12_sayZero cX12_sayZero 5 none ∈ wsL_law := zr76 _ (List.mem_of_getElem? (i := 7) rfl)
theorem zw76_8 : Cond.methodLink RX12 709 yX12_sayCc ∈ wsL_law := zr76 _ (List.mem_of_getElem? (i := 8) rfl)
theorem zw76_9 : Cond.instanceMethod yX12_sayCc ∈ wsL_law := zr76 _ (List.mem_of_getElem? (i := 9) rfl)
theorem zw76_10 : Cond.selects RX12 yX12_sayCc yX12_sayCc ∈ wsL_law := zr76 _ (List.mem_of_getElem? (i := 10) rfl)
theorem zw76_11 : Cond.code yX12_sayCc cX12_sayCc 2 none ∈ wsL_law := zr76 _ (List.mem_of_getElem? (i := 11) rfl)
theorem zw76_12 : Cond.methodLink RX12 712 yX12_sayJump ∈ wsL_law := zr76 _ (List.mem_of_getElem? (i := 12) rfl)
theorem zw76_13 : Cond.instanceMethod yX12_sayJump ∈ wsL_law := zr76 _ (List.mem_of_getElem? (i := 13) rfl)
theorem zw76_14 : Cond.selects RX12 yX12_sayJump yX12_sayJump ∈ wsL_law := zr76 _ (List.mem_of_getElem? (i := 14) rfl)
theorem zw76_15 : Cond.code yX12_sayJump cX12_sayJump 2 none ∈ wsL_law := zr76 _ (List.mem_of_getElem? (i := 15) rfl)
theorem zw76_16 : Cond.methodLink RX12 715 yX12_sayRp ∈ wsL_law := zr76 _ (List.mem_of_getElem? (i := 16) rfl)
theorem zw76_17 : Cond.instanceMethod yX12_sayRp ∈ wsL_law := zr76 _ (List.mem_of_getElem? (i := 17) rfl)
theorem zw76_18 : Cond.selects RX12 yX12_sayRp yX12_sayRp ∈ wsL_law := zr76 _ (List.mem_of_getElem? (i := 18) rfl)
theorem zw76_19 : Cond.code yX12_sayRp cX12_sayRp 3 none ∈ wsL_law := zr76 _ (List.mem_of_getElem? (i := 19) rfl)
theorem zw76_20 : Cond.methodLink RX12 718 yX12_takenWord ∈ wsL_law := zr76 _ (List.mem_of_getElem? (i := 20) rfl)
theorem zw76_21 : Cond.instanceMethod yX12_takenWord ∈ wsL_law := zr76 _ (List.mem_of_getElem? (i := 21) rfl)
theorem zw76_22 : Cond.selects RX12 yX12_takenWord yX12_takenWord ∈ wsL_law := zr76 _ (List.mem_of_getElem? (i := 22) rfl)
theorem zw76_23 : Cond.code yX12_takenWord cX12_takenWord 2 (some .int) ∈ wsL_law := zr76 _ (List.mem_of_getElem? (i := 23) rfl)
theorem zw77_0 : Cond.methodLink RX12 729 yX12_sayPlaced ∈ wsL_law := zr77 _ (List.mem_of_getElem? (i := 0) rfl)
theorem zw77_1 : Cond.instanceMethod yX12_sayPlaced ∈ wsL_law := zr77 _ (List.mem_of_getElem? (i := 1) rfl)
theorem zw77_2 : Cond.selects RX12 yX12_sayPlaced yX12_sayPlaced ∈ wsL_law := zr77 _ (List.mem_of_getElem? (i := 2) rfl)
theorem zw77_3 : Cond.code yX12_sayPlaced cX12_sayPlaced 2 none ∈ wsL_law := zr77 _ (List.mem_of_getElem? (i := 3) rfl)
theorem zw77_4 : Cond.methodLink RX12 687 yX12_saySingle ∈ wsL_law := zr77 _ (List.mem_of_getElem? (i := 4) rfl)
theorem zw77_5 : Cond.instanceMethod yX12_saySingle ∈ wsL_law := zr77 _ (List.mem_of_getElem? (i := 5) rfl)
theorem zw77_6 : Cond.selects RX12 yX12_saySingle yX12_saySingle ∈ wsL_law := zr77 _ (List.mem_of_getElem? (i := 6) rfl)
theorem zw77_7 : Cond.code yX12_saySingle cX12_saySingle 3 none ∈ wsL_law := zr77 _ (List.mem_of_getElem? (i := 7) rfl)
theorem zw77_8 : Cond.methodLink RX12 694 yX12_sayDo ∈ wsL_law := zr77 _ (List.mem_of_getElem? (i := 8) rfl)
theorem zw77_9 : Cond.instanceMethod yX12_sayDo ∈ wsL_law := zr77 _ (List.mem_of_getElem? (i := 9) rfl)
theorem zw77_10 : Cond.selects RX12 yX12_sayDo yX12_sayDo ∈ wsL_law := zr77 _ (List.mem_of_getElem? (i := 10) rfl)
theorem zw77_11 : Cond.code yX12_sayDo cX12_sayDo 2 none ∈ wsL_law := zr77 _ (List.mem_of_getElem? (i := 11) rfl)
theorem zw77_12 : Cond.methodLink RX12 697 yX12_sayThree ∈ wsL_law := zr77 _ (List.mem_of_getElem? (i := 12) rfl)
theorem zw77_13 : Cond.instanceMethod yX12_sayThree ∈ wsL_law := zr77 _ (List.mem_of_getElem? (i := 13) rfl)
theorem zw77_14 : Cond.selects RX12 yX12_sayThree yX12_sayThree ∈ wsL_law := zr77 _ (List.mem_of_getElem? (i := 14) rfl)
theorem zw77_15 : Cond.code yX12_sayThree cX12_sayThree 4 none ∈ wsL_law := zr77 _ (List.mem_of_getElem? (i := 15) rfl)
theorem zw77_16 : Cond.methodLink RX12 700 yX12_sayLast ∈ wsL_law := zr77 _ (List.mem_of_getElem? (i := 16) rfl)
theorem zw77_17 : Cond.instanceMethod yX12_sayLast ∈ wsL_law := zr77 _ (List.mem_of_getElem? (i := 17) rfl)
theorem zw77_18 : Cond.selects RX12 yX12_sayLast yX12_sayLast ∈ wsL_law := zr77 _ (List.mem_of_getElem? (i := 18) rfl)
theorem zw77_19 : Cond.code yX12_sayLast cX12_sayLast 4 none ∈ wsL_law := zr77 _ (List.mem_of_getElem? (i := 19) rfl)
theorem zw77_20 : Cond.methodLink RX12 649 yX12_sayMore ∈ wsL_law := zr77 _ (List.mem_of_getElem? (i := 20) rfl)
theorem zw77_21 : Cond.instanceMethod yX12_sayMore ∈ wsL_law := zr77 _ (List.mem_of_getElem? (i := 21) rfl)
theorem zw77_22 : Cond.selects RX12 yX12_sayMore yX12_sayMore ∈ wsL_law := zr77 _ (List.mem_of_getElem? (i := 22) rfl)
theorem zw77_23 : Cond.code yX12_sayMore cX12_sayMore 6 none ∈ wsL_law := zr77 _ (List.mem_of_getElem? (i := 23) rfl)
theorem zw78_0 : Cond.methodLink RX12 807 yX12_sayOdd ∈ wsL_law := zr78 _ (List.mem_of_getElem? (i := 0) rfl)
theorem zw78_1 : Cond.instanceMethod yX12_sayOdd ∈ wsL_law := zr78 _ (List.mem_of_getElem? (i := 1) rfl)
theorem zw78_2 : Cond.selects RX12 yX12_sayOdd yX12_sayOdd ∈ wsL_law := zr78 _ (List.mem_of_getElem? (i := 2) rfl)
theorem zw78_3 : Cond.code yX12_sayOdd cX12_sayOdd 3 none ∈ wsL_law := zr78 _ (List.mem_of_getElem? (i := 3) rfl)
theorem zw78_12 : Cond.classLink RX11 200 "java/util/NoSuchElementException" ∈ wsL_law := zr78 _ (List.mem_of_getElem? (i := 12) rfl)
theorem zw78_13 : Cond.initialized "java/util/NoSuchElementException" ∈ wsL_law := zr78 _ (List.mem_of_getElem? (i := 13) rfl)
theorem zw78_14 : Cond.fieldLink RX11 197 "PadConsole$Teller" "length" "I" ∈ wsL_law := zr78 _ (List.mem_of_getElem? (i := 14) rfl)
theorem zw78_15 : Cond.methodLink RX11 205 yX8_eightFrom ∈ wsL_law := zr78 _ (List.mem_of_getElem? (i := 15) rfl)
theorem zw78_16 : Cond.instanceMethod yX8_eightFrom ∈ wsL_law := zr78 _ (List.mem_of_getElem? (i := 16) rfl)
theorem zw78_17 : Cond.selects RX8 yX8_eightFrom yX8_eightFrom ∈ wsL_law := zr78 _ (List.mem_of_getElem? (i := 17) rfl)
theorem zw78_18 : Cond.code yX8_eightFrom cX8_eightFrom 6 (some .long) ∈ wsL_law := zr78 _ (List.mem_of_getElem? (i := 18) rfl)
theorem zw79_6 : Cond.constant RX11 209 (65535) ∈ wsL_law := zr79 _ (List.mem_of_getElem? (i := 6) rfl)
theorem zw79_7 : Cond.methodLink RX11 212 yX1_stopsBeside ∈ wsL_law := zr79 _ (List.mem_of_getElem? (i := 7) rfl)
theorem zw79_8 : Cond.instanceMethod yX1_stopsBeside ∈ wsL_law := zr79 _ (List.mem_of_getElem? (i := 8) rfl)
theorem zw79_9 : Cond.selects RX1 yX1_stopsBeside yX1_stopsBeside ∈ wsL_law := zr79 _ (List.mem_of_getElem? (i := 9) rfl)
theorem zw79_10 : Cond.code yX1_stopsBeside cX1_stopsBeside 2 (some .int) ∈ wsL_law := zr79 _ (List.mem_of_getElem? (i := 10) rfl)
theorem zw79_11 : Cond.methodLink RX1 45 yX1_isStop ∈ wsL_law := zr79 _ (List.mem_of_getElem? (i := 11) rfl)
theorem zw79_12 : Cond.methodLink RX11 217 yX1_changeStop ∈ wsL_law := zr79 _ (List.mem_of_getElem? (i := 12) rfl)
theorem zw79_13 : Cond.instanceMethod yX1_changeStop ∈ wsL_law := zr79 _ (List.mem_of_getElem? (i := 13) rfl)
theorem zw79_14 : Cond.selects RX1 yX1_changeStop yX1_changeStop ∈ wsL_law := zr79 _ (List.mem_of_getElem? (i := 14) rfl)
theorem zw79_15 : Cond.code yX1_changeStop cX1_changeStop 5 (some .int) ∈ wsL_law := zr79 _ (List.mem_of_getElem? (i := 15) rfl)
theorem zw79_20 : Cond.constantLong RX12 446 (65535) ∈ wsL_law := zr79 _ (List.mem_of_getElem? (i := 20) rfl)
theorem zw80_1 : Cond.methodLink RX11 221 yX2_keep ∈ wsL_law := zr80 _ (List.mem_of_getElem? (i := 1) rfl)
theorem zw80_2 : Cond.instanceMethod yX2_keep ∈ wsL_law := zr80 _ (List.mem_of_getElem? (i := 2) rfl)
theorem zw80_3 : Cond.selects RX2 yX2_keep yX2_keep ∈ wsL_law := zr80 _ (List.mem_of_getElem? (i := 3) rfl)
theorem zw80_4 : Cond.code yX2_keep cX2_keep 1 none ∈ wsL_law := zr80 _ (List.mem_of_getElem? (i := 4) rfl)
theorem zw80_5 : Cond.methodLink RX2 109 arraycopyName ∈ wsL_law := zr80 _ (List.mem_of_getElem? (i := 5) rfl)
theorem zw80_6 : Cond.native arraycopyName ∈ wsL_law := zr80 _ (List.mem_of_getElem? (i := 6) rfl)
theorem zw80_7 : Cond.static arraycopyName ∈ wsL_law := zr80 _ (List.mem_of_getElem? (i := 7) rfl)
theorem zw80_8 : Cond.initialized "java/lang/System" ∈ wsL_law := zr80 _ (List.mem_of_getElem? (i := 8) rfl)
theorem zw80_9 : Cond.methodLink RX11 224 yX9_keep ∈ wsL_law := zr80 _ (List.mem_of_getElem? (i := 9) rfl)
theorem zw80_10 : Cond.instanceMethod yX9_keep ∈ wsL_law := zr80 _ (List.mem_of_getElem? (i := 10) rfl)
theorem zw80_11 : Cond.selects RX9 yX9_keep yX9_keep ∈ wsL_law := zr80 _ (List.mem_of_getElem? (i := 11) rfl)
theorem zw80_12 : Cond.code yX9_keep cX9_keep 1 none ∈ wsL_law := zr80 _ (List.mem_of_getElem? (i := 12) rfl)
theorem zw80_13 : Cond.methodLink RX9 36 arraycopyName ∈ wsL_law := zr80 _ (List.mem_of_getElem? (i := 13) rfl)
theorem zw80_14 : Cond.methodLink RX11 225 yX3_keep ∈ wsL_law := zr80 _ (List.mem_of_getElem? (i := 14) rfl)
theorem zw80_15 : Cond.instanceMethod yX3_keep ∈ wsL_law := zr80 _ (List.mem_of_getElem? (i := 15) rfl)
theorem zw80_16 : Cond.selects RX3 yX3_keep yX3_keep ∈ wsL_law := zr80 _ (List.mem_of_getElem? (i := 16) rfl)
theorem zw80_17 : Cond.code yX3_keep cX3_keep 1 none ∈ wsL_law := zr80 _ (List.mem_of_getElem? (i := 17) rfl)
theorem zw80_18 : Cond.methodLink RX3 34 arraycopyName ∈ wsL_law := zr80 _ (List.mem_of_getElem? (i := 18) rfl)
theorem zw80_19 : Cond.methodLink RX11 226 yX7_keep ∈ wsL_law := zr80 _ (List.mem_of_getElem? (i := 19) rfl)
theorem zw80_20 : Cond.instanceMethod yX7_keep ∈ wsL_law := zr80 _ (List.mem_of_getElem? (i := 20) rfl)
theorem zw80_21 : Cond.selects RX7 yX7_keep yX7_keep ∈ wsL_law := zr80 _ (List.mem_of_getElem? (i := 21) rfl)
theorem zw80_22 : Cond.code yX7_keep cX7_keep 1 none ∈ wsL_law := zr80 _ (List.mem_of_getElem? (i := 22) rfl)
theorem zw80_23 : Cond.methodLink RX7 29 arraycopyName ∈ wsL_law := zr80 _ (List.mem_of_getElem? (i := 23) rfl)
theorem zw81_0 : Cond.methodLink RX11 227 yX10_keep ∈ wsL_law := zr81 _ (List.mem_of_getElem? (i := 0) rfl)
theorem zw81_1 : Cond.instanceMethod yX10_keep ∈ wsL_law := zr81 _ (List.mem_of_getElem? (i := 1) rfl)
theorem zw81_2 : Cond.selects RX10 yX10_keep yX10_keep ∈ wsL_law := zr81 _ (List.mem_of_getElem? (i := 2) rfl)
theorem zw81_3 : Cond.code yX10_keep cX10_keep 1 none ∈ wsL_law := zr81 _ (List.mem_of_getElem? (i := 3) rfl)
theorem zw81_4 : Cond.methodLink RX10 25 arraycopyName ∈ wsL_law := zr81 _ (List.mem_of_getElem? (i := 4) rfl)
theorem zw81_5 : Cond.methodLink RX11 228 yX4_keep ∈ wsL_law := zr81 _ (List.mem_of_getElem? (i := 5) rfl)
theorem zw81_6 : Cond.instanceMethod yX4_keep ∈ wsL_law := zr81 _ (List.mem_of_getElem? (i := 6) rfl)
theorem zw81_7 : Cond.selects RX4 yX4_keep yX4_keep ∈ wsL_law := zr81 _ (List.mem_of_getElem? (i := 7) rfl)
theorem zw81_8 : Cond.code yX4_keep cX4_keep 1 none ∈ wsL_law := zr81 _ (List.mem_of_getElem? (i := 8) rfl)
theorem zw81_9 : Cond.methodLink RX4 35 arraycopyName ∈ wsL_law := zr81 _ (List.mem_of_getElem? (i := 9) rfl)
theorem zw81_10 : Cond.methodLink RX11 229 yX5_keep ∈ wsL_law := zr81 _ (List.mem_of_getElem? (i := 10) rfl)
theorem zw81_11 : Cond.instanceMethod yX5_keep ∈ wsL_law := zr81 _ (List.mem_of_getElem? (i := 11) rfl)
theorem zw81_12 : Cond.selects RX5 yX5_keep yX5_keep ∈ wsL_law := zr81 _ (List.mem_of_getElem? (i := 12) rfl)
theorem zw81_13 : Cond.code yX5_keep cX5_keep 1 none ∈ wsL_law := zr81 _ (List.mem_of_getElem? (i := 13) rfl)
theorem zw81_14 : Cond.methodLink RX5 35 arraycopyName ∈ wsL_law := zr81 _ (List.mem_of_getElem? (i := 14) rfl)
theorem zw81_15 : Cond.methodLink RX11 230 yX0_keep ∈ wsL_law := zr81 _ (List.mem_of_getElem? (i := 15) rfl)
theorem zw81_16 : Cond.instanceMethod yX0_keep ∈ wsL_law := zr81 _ (List.mem_of_getElem? (i := 16) rfl)
theorem zw81_17 : Cond.selects RX0 yX0_keep yX0_keep ∈ wsL_law := zr81 _ (List.mem_of_getElem? (i := 17) rfl)
theorem zw81_18 : Cond.code yX0_keep cX0_keep 1 none ∈ wsL_law := zr81 _ (List.mem_of_getElem? (i := 18) rfl)
theorem zw81_19 : Cond.methodLink RX0 34 arraycopyName ∈ wsL_law := zr81 _ (List.mem_of_getElem? (i := 19) rfl)
theorem zw81_20 : Cond.methodLink RX0 40 yX6_keep ∈ wsL_law := zr81 _ (List.mem_of_getElem? (i := 20) rfl)
theorem zw81_21 : Cond.instanceMethod yX6_keep ∈ wsL_law := zr81 _ (List.mem_of_getElem? (i := 21) rfl)
theorem zw81_22 : Cond.selects RX6 yX6_keep yX6_keep ∈ wsL_law := zr81 _ (List.mem_of_getElem? (i := 22) rfl)
theorem zw81_23 : Cond.code yX6_keep cX6_keep 1 none ∈ wsL_law := zr81 _ (List.mem_of_getElem? (i := 23) rfl)
theorem zw82_0 : Cond.methodLink RX6 23 arraycopyName ∈ wsL_law := zr82 _ (List.mem_of_getElem? (i := 0) rfl)
theorem zw82_1 : Cond.fieldLink RX6 29 "PadConsole$Ring" "firstKept" "I" ∈ wsL_law := zr82 _ (List.mem_of_getElem? (i := 1) rfl)
theorem zw82_2 : Cond.fieldLink RX6 32 "PadConsole$Ring" "countKept" "I" ∈ wsL_law := zr82 _ (List.mem_of_getElem? (i := 2) rfl)
theorem zw82_3 : Cond.methodLink RX11 231 yX1_keep ∈ wsL_law := zr82 _ (List.mem_of_getElem? (i := 3) rfl)
theorem zw82_4 : Cond.instanceMethod yX1_keep ∈ wsL_law := zr82 _ (List.mem_of_getElem? (i := 4) rfl)
theorem zw82_5 : Cond.selects RX1 yX1_keep yX1_keep ∈ wsL_law := zr82 _ (List.mem_of_getElem? (i := 5) rfl)
theorem zw82_6 : Cond.code yX1_keep cX1_keep 1 none ∈ wsL_law := zr82 _ (List.mem_of_getElem? (i := 6) rfl)
theorem zw82_7 : Cond.methodLink RX1 31 arraycopyName ∈ wsL_law := zr82 _ (List.mem_of_getElem? (i := 7) rfl)
theorem zw82_20 : Cond.methodLink RX11 234 yX2_bringBack ∈ wsL_law := zr82 _ (List.mem_of_getElem? (i := 20) rfl)
theorem zw82_21 : Cond.instanceMethod yX2_bringBack ∈ wsL_law := zr82 _ (List.mem_of_getElem? (i := 21) rfl)
theorem zw82_22 : Cond.selects RX2 yX2_bringBack yX2_bringBack ∈ wsL_law := zr82 _ (List.mem_of_getElem? (i := 22) rfl)
theorem zw82_23 : Cond.code yX2_bringBack cX2_bringBack 1 none ∈ wsL_law := zr82 _ (List.mem_of_getElem? (i := 23) rfl)
theorem zw83_0 : Cond.methodLink RX11 237 yX9_bringBack ∈ wsL_law := zr83 _ (List.mem_of_getElem? (i := 0) rfl)
theorem zw83_1 : Cond.instanceMethod yX9_bringBack ∈ wsL_law := zr83 _ (List.mem_of_getElem? (i := 1) rfl)
theorem zw83_2 : Cond.selects RX9 yX9_bringBack yX9_bringBack ∈ wsL_law := zr83 _ (List.mem_of_getElem? (i := 2) rfl)
theorem zw83_3 : Cond.code yX9_bringBack cX9_bringBack 1 none ∈ wsL_law := zr83 _ (List.mem_of_getElem? (i := 3) rfl)
theorem zw83_4 : Cond.methodLink RX11 238 yX3_bringBack ∈ wsL_law := zr83 _ (List.mem_of_getElem? (i := 4) rfl)
theorem zw83_5 : Cond.instanceMethod yX3_bringBack ∈ wsL_law := zr83 _ (List.mem_of_getElem? (i := 5) rfl)
theorem zw83_6 : Cond.selects RX3 yX3_bringBack yX3_bringBack ∈ wsL_law := zr83 _ (List.mem_of_getElem? (i := 6) rfl)
theorem zw83_7 : Cond.code yX3_bringBack cX3_bringBack 1 none ∈ wsL_law := zr83 _ (List.mem_of_getElem? (i := 7) rfl)
theorem zw83_8 : Cond.methodLink RX11 239 yX7_bringBack ∈ wsL_law := zr83 _ (List.mem_of_getElem? (i := 8) rfl)
theorem zw83_9 : Cond.instanceMethod yX7_bringBack ∈ wsL_law := zr83 _ (List.mem_of_getElem? (i := 9) rfl)
theorem zw83_10 : Cond.selects RX7 yX7_bringBack yX7_bringBack ∈ wsL_law := zr83 _ (List.mem_of_getElem? (i := 10) rfl)
theorem zw83_11 : Cond.code yX7_bringBack cX7_bringBack 1 none ∈ wsL_law := zr83 _ (List.mem_of_getElem? (i := 11) rfl)
theorem zw83_12 : Cond.methodLink RX11 240 yX10_bringBack ∈ wsL_law := zr83 _ (List.mem_of_getElem? (i := 12) rfl)
theorem zw83_13 : Cond.instanceMethod yX10_bringBack ∈ wsL_law := zr83 _ (List.mem_of_getElem? (i := 13) rfl)
theorem zw83_14 : Cond.selects RX10 yX10_bringBack yX10_bringBack ∈ wsL_law := zr83 _ (List.mem_of_getElem? (i := 14) rfl)
theorem zw83_15 : Cond.code yX10_bringBack cX10_bringBack 1 none ∈ wsL_law := zr83 _ (List.mem_of_getElem? (i := 15) rfl)
theorem zw83_16 : Cond.methodLink RX11 241 yX4_bringBack ∈ wsL_law := zr83 _ (List.mem_of_getElem? (i := 16) rfl)
theorem zw83_17 : Cond.instanceMethod yX4_bringBack ∈ wsL_law := zr83 _ (List.mem_of_getElem? (i := 17) rfl)
theorem zw83_18 : Cond.selects RX4 yX4_bringBack yX4_bringBack ∈ wsL_law := zr83 _ (List.mem_of_getElem? (i := 18) rfl)
theorem zw83_19 : Cond.code yX4_bringBack cX4_bringBack 1 none ∈ wsL_law := zr83 _ (List.mem_of_getElem? (i := 19) rfl)
theorem zw83_20 : Cond.methodLink RX11 242 yX5_bringBack ∈ wsL_law := zr83 _ (List.mem_of_getElem? (i := 20) rfl)
theorem zw83_21 : Cond.instanceMethod yX5_bringBack ∈ wsL_law := zr83 _ (List.mem_of_getElem? (i := 21) rfl)
theorem zw83_22 : Cond.selects RX5 yX5_bringBack yX5_bringBack ∈ wsL_law := zr83 _ (List.mem_of_getElem? (i := 22) rfl)
theorem zw83_23 : Cond.code yX5_bringBack cX5_bringBack 1 none ∈ wsL_law := zr83 _ (List.mem_of_getElem? (i := 23) rfl)
theorem zw84_0 : Cond.methodLink RX11 243 yX0_bringBack ∈ wsL_law := zr84 _ (List.mem_of_getElem? (i := 0) rfl)
theorem zw84_1 : Cond.instanceMethod yX0_bringBack ∈ wsL_law := zr84 _ (List.mem_of_getElem? (i := 1) rfl)
theorem zw84_2 : Cond.selects RX0 yX0_bringBack yX0_bringBack ∈ wsL_law := zr84 _ (List.mem_of_getElem? (i := 2) rfl)
theorem zw84_3 : Cond.code yX0_bringBack cX0_bringBack 1 none ∈ wsL_law := zr84 _ (List.mem_of_getElem? (i := 3) rfl)
theorem zw84_4 : Cond.methodLink RX0 43 yX6_bringBack ∈ wsL_law := zr84 _ (List.mem_of_getElem? (i := 4) rfl)
theorem zw84_5 : Cond.instanceMethod yX6_bringBack ∈ wsL_law := zr84 _ (List.mem_of_getElem? (i := 5) rfl)
theorem zw84_6 : Cond.selects RX6 yX6_bringBack yX6_bringBack ∈ wsL_law := zr84 _ (List.mem_of_getElem? (i := 6) rfl)
theorem zw84_7 : Cond.code yX6_bringBack cX6_bringBack 1 none ∈ wsL_law := zr84 _ (List.mem_of_getElem? (i := 7) rfl)
theorem zw84_8 : Cond.methodLink RX11 244 yX1_bringBack ∈ wsL_law := zr84 _ (List.mem_of_getElem? (i := 8) rfl)
theorem zw84_9 : Cond.instanceMethod yX1_bringBack ∈ wsL_law := zr84 _ (List.mem_of_getElem? (i := 9) rfl)
theorem zw84_10 : Cond.selects RX1 yX1_bringBack yX1_bringBack ∈ wsL_law := zr84 _ (List.mem_of_getElem? (i := 10) rfl)
theorem zw84_11 : Cond.code yX1_bringBack cX1_bringBack 1 none ∈ wsL_law := zr84 _ (List.mem_of_getElem? (i := 11) rfl)
theorem zw85_3 : Cond.constantLong RX12 448 (26) ∈ wsL_law := zr85 _ (List.mem_of_getElem? (i := 3) rfl)
theorem zw85_11 : Cond.methodLink RX11 250 yX5_change ∈ wsL_law := zr85 _ (List.mem_of_getElem? (i := 11) rfl)
theorem zw85_12 : Cond.instanceMethod yX5_change ∈ wsL_law := zr85 _ (List.mem_of_getElem? (i := 12) rfl)
theorem zw85_13 : Cond.selects RX5 yX5_change yX5_change ∈ wsL_law := zr85 _ (List.mem_of_getElem? (i := 13) rfl)
theorem zw85_14 : Cond.code yX5_change cX5_change 3 none ∈ wsL_law := zr85 _ (List.mem_of_getElem? (i := 14) rfl)
theorem zw85_15 : Cond.methodLink RX5 41 Lib.Math.min.name ∈ wsL_law := zr85 _ (List.mem_of_getElem? (i := 15) rfl)
theorem zw85_20 : Cond.constantLong RX12 450 (25) ∈ wsL_law := zr85 _ (List.mem_of_getElem? (i := 20) rfl)
theorem zw86_5 : Cond.methodLink RX11 253 yX2_read ∈ wsL_law := zr86 _ (List.mem_of_getElem? (i := 5) rfl)
theorem zw86_14 : Cond.methodLink RX11 256 yX2_write ∈ wsL_law := zr86 _ (List.mem_of_getElem? (i := 14) rfl)
theorem zw86_23 : Cond.methodLink RX11 258 yX4_read ∈ wsL_law := zr86 _ (List.mem_of_getElem? (i := 23) rfl)
theorem zw87_8 : Cond.methodLink RX11 259 yX4_write ∈ wsL_law := zr87 _ (List.mem_of_getElem? (i := 8) rfl)
theorem zw87_20 : Cond.constant RX11 260 (32768) ∈ wsL_law := zr87 _ (List.mem_of_getElem? (i := 20) rfl)
theorem zw87_21 : Cond.methodLink RX11 263 yX2_batteryByte ∈ wsL_law := zr87 _ (List.mem_of_getElem? (i := 21) rfl)
theorem zw87_22 : Cond.instanceMethod yX2_batteryByte ∈ wsL_law := zr87 _ (List.mem_of_getElem? (i := 22) rfl)
theorem zw87_23 : Cond.selects RX2 yX2_batteryByte yX2_batteryByte ∈ wsL_law := zr87 _ (List.mem_of_getElem? (i := 23) rfl)
theorem zw88_0 : Cond.code yX2_batteryByte cX2_batteryByte 2 (some .int) ∈ wsL_law := zr88 _ (List.mem_of_getElem? (i := 0) rfl)
theorem zw88_5 : Cond.constantLong RX12 452 (32767) ∈ wsL_law := zr88 _ (List.mem_of_getElem? (i := 5) rfl)
theorem zw88_10 : Cond.methodLink RX11 266 yX2_clearBattery ∈ wsL_law := zr88 _ (List.mem_of_getElem? (i := 10) rfl)
theorem zw88_11 : Cond.instanceMethod yX2_clearBattery ∈ wsL_law := zr88 _ (List.mem_of_getElem? (i := 11) rfl)
theorem zw88_12 : Cond.selects RX2 yX2_clearBattery yX2_clearBattery ∈ wsL_law := zr88 _ (List.mem_of_getElem? (i := 12) rfl)
theorem zw88_13 : Cond.code yX2_clearBattery cX2_clearBattery 1 none ∈ wsL_law := zr88 _ (List.mem_of_getElem? (i := 13) rfl)
theorem zw88_22 : Cond.methodLink RX11 269 yX9_eightFrom ∈ wsL_law := zr88 _ (List.mem_of_getElem? (i := 22) rfl)
theorem zw88_23 : Cond.instanceMethod yX9_eightFrom ∈ wsL_law := zr88 _ (List.mem_of_getElem? (i := 23) rfl)
theorem zw89_0 : Cond.selects RX9 yX9_eightFrom yX9_eightFrom ∈ wsL_law := zr89 _ (List.mem_of_getElem? (i := 0) rfl)
theorem zw89_1 : Cond.code yX9_eightFrom cX9_eightFrom 5 (some .long) ∈ wsL_law := zr89 _ (List.mem_of_getElem? (i := 1) rfl)
theorem zw89_13 : Cond.methodLink RX11 270 yX9_has ∈ wsL_law := zr89 _ (List.mem_of_getElem? (i := 13) rfl)
theorem zw89_14 : Cond.static yX9_has ∈ wsL_law := zr89 _ (List.mem_of_getElem? (i := 14) rfl)
theorem zw89_15 : Cond.code yX9_has cX9_has 1 (some .boolean) ∈ wsL_law := zr89 _ (List.mem_of_getElem? (i := 15) rfl)
theorem zw89_16 : Cond.methodLink RX11 276 yX9_value ∈ wsL_law := zr89 _ (List.mem_of_getElem? (i := 16) rfl)
theorem zw89_17 : Cond.instanceMethod yX9_value ∈ wsL_law := zr89 _ (List.mem_of_getElem? (i := 17) rfl)
theorem zw89_18 : Cond.selects RX9 yX9_value yX9_value ∈ wsL_law := zr89 _ (List.mem_of_getElem? (i := 18) rfl)
theorem zw89_19 : Cond.code yX9_value cX9_value 2 (some .int) ∈ wsL_law := zr89 _ (List.mem_of_getElem? (i := 19) rfl)
theorem zw89_20 : Cond.methodLink RX9 42 yX9_asks ∈ wsL_law := zr89 _ (List.mem_of_getElem? (i := 20) rfl)
theorem zw89_21 : Cond.methodLink RX9 46 yX9_mode ∈ wsL_law := zr89 _ (List.mem_of_getElem? (i := 21) rfl)
theorem zw89_22 : Cond.methodLink RX9 53 yX9_hCount ∈ wsL_law := zr89 _ (List.mem_of_getElem? (i := 22) rfl)
theorem zw89_23 : Cond.methodLink RX9 56 yX9_vCount ∈ wsL_law := zr89 _ (List.mem_of_getElem? (i := 23) rfl)
theorem zw90_0 : Cond.methodLink RX9 59 yX9_held ∈ wsL_law := zr90 _ (List.mem_of_getElem? (i := 0) rfl)
theorem zw90_5 : Cond.constantLong RX12 454 (95) ∈ wsL_law := zr90 _ (List.mem_of_getElem? (i := 5) rfl)
theorem zw90_13 : Cond.methodLink RX11 277 yX3_width ∈ wsL_law := zr90 _ (List.mem_of_getElem? (i := 13) rfl)
theorem zw90_14 : Cond.instanceMethod yX3_width ∈ wsL_law := zr90 _ (List.mem_of_getElem? (i := 14) rfl)
theorem zw90_15 : Cond.selects RX3 yX3_width yX3_width ∈ wsL_law := zr90 _ (List.mem_of_getElem? (i := 15) rfl)
theorem zw90_16 : Cond.code yX3_width cX3_width 1 (some .int) ∈ wsL_law := zr90 _ (List.mem_of_getElem? (i := 16) rfl)
theorem zw90_17 : Cond.methodLink RX11 280 yX3_height ∈ wsL_law := zr90 _ (List.mem_of_getElem? (i := 17) rfl)
theorem zw90_18 : Cond.instanceMethod yX3_height ∈ wsL_law := zr90 _ (List.mem_of_getElem? (i := 18) rfl)
theorem zw90_19 : Cond.selects RX3 yX3_height yX3_height ∈ wsL_law := zr90 _ (List.mem_of_getElem? (i := 19) rfl)
theorem zw90_20 : Cond.code yX3_height cX3_height 1 (some .int) ∈ wsL_law := zr90 _ (List.mem_of_getElem? (i := 20) rfl)
theorem zw90_21 : Cond.methodLink RX11 285 yX3_dotAt ∈ wsL_law := zr90 _ (List.mem_of_getElem? (i := 21) rfl)
theorem zw90_22 : Cond.instanceMethod yX3_dotAt ∈ wsL_law := zr90 _ (List.mem_of_getElem? (i := 22) rfl)
theorem zw90_23 : Cond.selects RX3 yX3_dotAt yX3_dotAt ∈ wsL_law := zr90 _ (List.mem_of_getElem? (i := 23) rfl)
theorem zw91_0 : Cond.code yX3_dotAt cX3_dotAt 4 (some .int) ∈ wsL_law := zr91 _ (List.mem_of_getElem? (i := 0) rfl)
theorem zw91_1 : Cond.methodLink RX3 46 yX3_placeOf ∈ wsL_law := zr91 _ (List.mem_of_getElem? (i := 1) rfl)
theorem zw91_2 : Cond.instanceMethod yX3_placeOf ∈ wsL_law := zr91 _ (List.mem_of_getElem? (i := 2) rfl)
theorem zw91_3 : Cond.selects RX3 yX3_placeOf yX3_placeOf ∈ wsL_law := zr91 _ (List.mem_of_getElem? (i := 3) rfl)
theorem zw91_4 : Cond.code yX3_placeOf cX3_placeOf 2 (some .int) ∈ wsL_law := zr91 _ (List.mem_of_getElem? (i := 4) rfl)
theorem zw91_16 : Cond.methodLink RX11 290 yX3_sumOfLine ∈ wsL_law := zr91 _ (List.mem_of_getElem? (i := 16) rfl)
theorem zw91_17 : Cond.instanceMethod yX3_sumOfLine ∈ wsL_law := zr91 _ (List.mem_of_getElem? (i := 17) rfl)
theorem zw91_18 : Cond.selects RX3 yX3_sumOfLine yX3_sumOfLine ∈ wsL_law := zr91 _ (List.mem_of_getElem? (i := 18) rfl)
theorem zw91_19 : Cond.code yX3_sumOfLine cX3_sumOfLine 6 (some .int) ∈ wsL_law := zr91 _ (List.mem_of_getElem? (i := 19) rfl)
theorem zw91_20 : Cond.methodLink RX3 53 Lib.Math.min.name ∈ wsL_law := zr91 _ (List.mem_of_getElem? (i := 20) rfl)
theorem zw91_21 : Cond.methodLink RX3 59 Lib.Math.max.name ∈ wsL_law := zr91 _ (List.mem_of_getElem? (i := 21) rfl)
theorem zw91_22 : Cond.methodLink RX3 50 yX3_width ∈ wsL_law := zr91 _ (List.mem_of_getElem? (i := 22) rfl)
theorem zw92_10 : Cond.fieldLink RX11 293 "PadConsole$Clock" "samples" "LPadConsole$Ring;" ∈ wsL_law := zr92 _ (List.mem_of_getElem? (i := 10) rfl)
theorem zw92_11 : Cond.methodLink RX11 297 yX6_size ∈ wsL_law := zr92 _ (List.mem_of_getElem? (i := 11) rfl)
theorem zw92_12 : Cond.instanceMethod yX6_size ∈ wsL_law := zr92 _ (List.mem_of_getElem? (i := 12) rfl)
theorem zw92_13 : Cond.selects RX6 yX6_size yX6_size ∈ wsL_law := zr92 _ (List.mem_of_getElem? (i := 13) rfl)
theorem zw92_14 : Cond.code yX6_size cX6_size 1 (some .int) ∈ wsL_law := zr92 _ (List.mem_of_getElem? (i := 14) rfl)
theorem zw92_15 : Cond.methodLink RX11 304 yX6_takeFirst ∈ wsL_law := zr92 _ (List.mem_of_getElem? (i := 15) rfl)
theorem zw92_16 : Cond.instanceMethod yX6_takeFirst ∈ wsL_law := zr92 _ (List.mem_of_getElem? (i := 16) rfl)
theorem zw92_17 : Cond.selects RX6 yX6_takeFirst yX6_takeFirst ∈ wsL_law := zr92 _ (List.mem_of_getElem? (i := 17) rfl)
theorem zw92_18 : Cond.code yX6_takeFirst cX6_takeFirst 3 (some .long) ∈ wsL_law := zr92 _ (List.mem_of_getElem? (i := 18) rfl)
theorem zw93_6 : Cond.fieldLink RX11 308 "PadConsole$Clock" "mixes" "LPadConsole$Ring;" ∈ wsL_law := zr93 _ (List.mem_of_getElem? (i := 6) rfl)
theorem zw93_18 : Cond.methodLink RX11 313 yX10_has ∈ wsL_law := zr93 _ (List.mem_of_getElem? (i := 18) rfl)
theorem zw93_19 : Cond.static yX10_has ∈ wsL_law := zr93 _ (List.mem_of_getElem? (i := 19) rfl)
theorem zw93_20 : Cond.code yX10_has cX10_has 1 (some .boolean) ∈ wsL_law := zr93 _ (List.mem_of_getElem? (i := 20) rfl)
theorem zw93_21 : Cond.methodLink RX11 316 yX10_value ∈ wsL_law := zr93 _ (List.mem_of_getElem? (i := 21) rfl)
theorem zw94_2 : Cond.constantLong RX12 536 (67) ∈ wsL_law := zr94 _ (List.mem_of_getElem? (i := 2) rfl)
theorem zw94_3 : Cond.constantLong RX12 538 (128) ∈ wsL_law := zr94 _ (List.mem_of_getElem? (i := 3) rfl)
theorem zw94_4 : Cond.constantLong RX12 540 (271) ∈ wsL_law := zr94 _ (List.mem_of_getElem? (i := 4) rfl)
theorem zw94_12 : Cond.methodLink RX11 319 yX7_value ∈ wsL_law := zr94 _ (List.mem_of_getElem? (i := 12) rfl)
theorem zw94_13 : Cond.instanceMethod yX7_value ∈ wsL_law := zr94 _ (List.mem_of_getElem? (i := 13) rfl)
theorem zw94_14 : Cond.selects RX7 yX7_value yX7_value ∈ wsL_law := zr94 _ (List.mem_of_getElem? (i := 14) rfl)
theorem zw94_15 : Cond.code yX7_value cX7_value 2 (some .int) ∈ wsL_law := zr94 _ (List.mem_of_getElem? (i := 15) rfl)
theorem zw94_20 : Cond.constantLong RX12 442 (18) ∈ wsL_law := zr94 _ (List.mem_of_getElem? (i := 20) rfl)
theorem zw95_1 : Cond.methodLink RX11 320 yX1_stepBack ∈ wsL_law := zr95 _ (List.mem_of_getElem? (i := 1) rfl)
theorem zw95_2 : Cond.instanceMethod yX1_stepBack ∈ wsL_law := zr95 _ (List.mem_of_getElem? (i := 2) rfl)
theorem zw95_3 : Cond.selects RX1 yX1_stepBack yX1_stepBack ∈ wsL_law := zr95 _ (List.mem_of_getElem? (i := 3) rfl)
theorem zw95_4 : Cond.code yX1_stepBack cX1_stepBack 2 (some .int) ∈ wsL_law := zr95 _ (List.mem_of_getElem? (i := 4) rfl)
theorem zw95_9 : Cond.constantLong RX12 456 (31) ∈ wsL_law := zr95 _ (List.mem_of_getElem? (i := 9) rfl)
theorem zw95_17 : Cond.methodLink RX11 328 yX1_stopCount ∈ wsL_law := zr95 _ (List.mem_of_getElem? (i := 17) rfl)
theorem zw95_18 : Cond.instanceMethod yX1_stopCount ∈ wsL_law := zr95 _ (List.mem_of_getElem? (i := 18) rfl)
theorem zw95_19 : Cond.selects RX1 yX1_stopCount yX1_stopCount ∈ wsL_law := zr95 _ (List.mem_of_getElem? (i := 19) rfl)
theorem zw95_20 : Cond.code yX1_stopCount cX1_stopCount 1 (some .int) ∈ wsL_law := zr95 _ (List.mem_of_getElem? (i := 20) rfl)
theorem zw95_21 : Cond.methodLink RX11 331 yX2_cardSize ∈ wsL_law := zr95 _ (List.mem_of_getElem? (i := 21) rfl)
theorem zw95_22 : Cond.instanceMethod yX2_cardSize ∈ wsL_law := zr95 _ (List.mem_of_getElem? (i := 22) rfl)
theorem zw95_23 : Cond.selects RX2 yX2_cardSize yX2_cardSize ∈ wsL_law := zr95 _ (List.mem_of_getElem? (i := 23) rfl)
theorem zw96_0 : Cond.code yX2_cardSize cX2_cardSize 1 (some .int) ∈ wsL_law := zr96 _ (List.mem_of_getElem? (i := 0) rfl)
theorem zw96_1 : Cond.methodLink RX11 334 yX2_page ∈ wsL_law := zr96 _ (List.mem_of_getElem? (i := 1) rfl)
theorem zw96_2 : Cond.instanceMethod yX2_page ∈ wsL_law := zr96 _ (List.mem_of_getElem? (i := 2) rfl)
theorem zw96_3 : Cond.selects RX2 yX2_page yX2_page ∈ wsL_law := zr96 _ (List.mem_of_getElem? (i := 3) rfl)
theorem zw96_4 : Cond.code yX2_page cX2_page 2 (some .int) ∈ wsL_law := zr96 _ (List.mem_of_getElem? (i := 4) rfl)
theorem zw96_5 : Cond.methodLink RX11 337 yX4_value ∈ wsL_law := zr96 _ (List.mem_of_getElem? (i := 5) rfl)
theorem zw96_6 : Cond.instanceMethod yX4_value ∈ wsL_law := zr96 _ (List.mem_of_getElem? (i := 6) rfl)
theorem zw96_7 : Cond.selects RX4 yX4_value yX4_value ∈ wsL_law := zr96 _ (List.mem_of_getElem? (i := 7) rfl)
theorem zw96_8 : Cond.code yX4_value cX4_value 2 (some .int) ∈ wsL_law := zr96 _ (List.mem_of_getElem? (i := 8) rfl)
end ZJN7
section ZJN8
/-! decode by the opcode's byte -/
noncomputable def zbyt (c : ByteArray) (p b : Nat) : Bool := if h : p < c.size then Nat.beq c[p].toNat b else false
theorem z_u1 {c : ByteArray} {p b : Nat} (h : zbyt c p b = true) : (Jvm.ClassFile.Reader.u1 : Jvm.ClassFile.Decoder Nat) c p = .ok (b, p + 1) := by
  unfold zbyt at h
  by_cases q : p < c.size
  · rw [dif_pos q] at h
    have e := Nat.eq_of_beq_eq_true h
    have r : (Jvm.ClassFile.Reader.u1 : Jvm.ClassFile.Decoder Nat) c p = (if h : p < c.size then (do set (p + 1); pure c[p].toNat : Jvm.ClassFile.Decoder Nat) else throw (Jvm.ClassFile.HasTruncated.truncated p)) c p := rfl
    rw [r, dif_pos q]
    show Except.ok (c[p].toNat, p + 1) = _
    rw [e]
  · rw [dif_neg q] at h
    cases h
theorem z_u2 {c : ByteArray} {p a b : Nat} (h : zbyt c p a = true) (k : zbyt c (p + 1) b = true) : (Jvm.ClassFile.Reader.u2 : Jvm.ClassFile.Decoder Nat) c p = .ok (a * 256 + b, p + 2) := by
  have r : (Jvm.ClassFile.Reader.u2 : Jvm.ClassFile.Decoder Nat) c p = Except.bind ((Jvm.ClassFile.Reader.u1 : Jvm.ClassFile.Decoder Nat) c p) (fun x => Except.bind ((Jvm.ClassFile.Reader.u1 : Jvm.ClassFile.Decoder Nat) c x.2) (fun y => .ok (x.1 * 256 + y.1, y.2))) := rfl
  rw [r, z_u1 h]
  show Except.bind ((Jvm.ClassFile.Reader.u1 : Jvm.ClassFile.Decoder Nat) c (p + 1)) _ = _
  rw [z_u1 k]
  rfl
/-- what follows the opcode -/
noncomputable def zFx : { F : Nat → Nat → Jvm.ClassFile.Decoder Jvm.ClassFile.Instr // ∀ pc, Jvm.ClassFile.Decoder.instr pc = (Jvm.ClassFile.Reader.u1 >>= F pc) } := ⟨_, fun _ => rfl⟩
theorem zd_0 {c : ByteArray} {pc b : Nat} {I : Jvm.ClassFile.Instr} {L : Nat} (h : zbyt c pc b = true) (k : zFx.1 pc b c (pc + 1) = .ok (I, pc + L)) : decode c pc = .ok (I, L) := by
  have r : decode c pc = Except.bind ((Jvm.ClassFile.Decoder.instr pc) c pc) (fun x => .ok (x.1, x.2 - pc)) := rfl
  have r2 : (Jvm.ClassFile.Reader.u1 >>= zFx.1 pc : Jvm.ClassFile.Decoder Jvm.ClassFile.Instr) c pc = Except.bind ((Jvm.ClassFile.Reader.u1 : Jvm.ClassFile.Decoder Nat) c pc) (fun x => zFx.1 pc x.1 c x.2) := rfl
  rw [r, zFx.2 pc, r2, z_u1 h]
  show Except.bind (zFx.1 pc b c (pc + 1)) _ = _
  rw [k]
  show Except.ok (I, pc + L - pc) = _
  rw [Nat.add_sub_cancel_left]
/-- a code's bytes as one number -/
noncomputable def zkd : List UInt8 → Nat → Bool
  | [], K => Nat.beq K 0
  | b :: l, K => Nat.beq b.toNat (K % 256) && zkd l (K / 256)
theorem zkd_at : ∀ (l : List UInt8) (K p : Nat) (h : p < l.length), zkd l K = true → l[p].toNat = K / 256 ^ p % 256
  | [], _, _, h, _ => absurd h (Nat.not_lt_zero _)
  | b :: l, K, 0, _, e => by
    unfold zkd at e
    rw [Bool.and_eq_true] at e
    have z := Nat.eq_of_beq_eq_true e.1
    show b.toNat = K / 256 ^ 0 % 256
    rw [Nat.pow_zero, Nat.div_one]
    exact z
  | b :: l, K, p + 1, h, e => by
    unfold zkd at e
    rw [Bool.and_eq_true] at e
    have z := zkd_at l (K / 256) p (Nat.lt_of_succ_lt_succ h) e.2
    show (l[p]'(Nat.lt_of_succ_lt_succ h)).toNat = K / 256 ^ (p + 1) % 256
    rw [Nat.pow_succ', ← Nat.div_div_eq_div_mul]
    exact z
noncomputable def zkn (N K p b : Nat) : Bool := Nat.blt p N && Nat.beq (Nat.mod (Nat.shiftRight K (Nat.mul 8 p)) 256) b
theorem zkn_eq (K p : Nat) : Nat.mod (Nat.shiftRight K (Nat.mul 8 p)) 256 = K / 256 ^ p % 256 := by
  have e2 : (2 : Nat) ^ 8 = 256 := rfl
  have e : K >>> (8 * p) = K / 256 ^ p := by
    rw [Nat.shiftRight_eq_div_pow, Nat.pow_mul, e2]
  exact congrArg (fun x => x % 256) e
theorem zkb {c : ByteArray} {N K p b : Nat} (h : zkd c.data.toList K = true) (hn : c.data.toList.length = N) (e : zkn N K p b = true) : zbyt c p b = true := by
  unfold zkn at e
  rw [Bool.and_eq_true, zkn_eq] at e
  have q : p < c.data.toList.length := by rw [hn]; exact Nat.le_of_ble_eq_true e.1
  have z := zkd_at c.data.toList K p q h
  have q2 : p < c.size := q
  unfold zbyt
  rw [dif_pos q2]
  have r : c[p] = c.data.toList[p] := rfl
  rw [r, z]
  exact e.2
noncomputable def zb2 (c : ByteArray) (p a b : Nat) : Bool := zbyt c p a && zbyt c (p + 1) b
noncomputable def zb3 (c : ByteArray) (p a b d : Nat) : Bool := zbyt c p a && (zbyt c (p + 1) b && zbyt c (p + 2) d)
theorem zkb2 {c : ByteArray} {N K p a b : Nat} (h : zkd c.data.toList K = true) (hn : c.data.toList.length = N) (e : (zkn N K p a && zkn N K (p + 1) b) = true) : zb2 c p a b = true := by
  rw [Bool.and_eq_true] at e
  unfold zb2
  rw [zkb h hn e.1, zkb h hn e.2]
  rfl
theorem zkb3 {c : ByteArray} {N K p a b d : Nat} (h : zkd c.data.toList K = true) (hn : c.data.toList.length = N) (e : (zkn N K p a && (zkn N K (p + 1) b && zkn N K (p + 2) d)) = true) : zb3 c p a b d = true := by
  rw [Bool.and_eq_true, Bool.and_eq_true] at e
  unfold zb3
  rw [zkb h hn e.1, zkb h hn e.2.1, zkb h hn e.2.2]
  rfl
theorem zd_u1 {c : ByteArray} {pc b b1 : Nat} {I : Nat → Jvm.ClassFile.Instr} (k : ∀ s, zFx.1 pc b c s = Except.bind ((Jvm.ClassFile.Reader.u1 : Jvm.ClassFile.Decoder Nat) c s) (fun x => .ok (I x.1, x.2))) (h : zb2 c pc b b1 = true) : decode c pc = .ok (I b1, 2) := by
  unfold zb2 at h
  rw [Bool.and_eq_true] at h
  refine zd_0 h.1 ?_
  rw [k, z_u1 h.2]
  rfl
theorem zd_u2 {c : ByteArray} {pc b b1 b2 : Nat} {I : Nat → Jvm.ClassFile.Instr} (k : ∀ s, zFx.1 pc b c s = Except.bind ((Jvm.ClassFile.Reader.u2 : Jvm.ClassFile.Decoder Nat) c s) (fun x => .ok (I x.1, x.2))) (h : zb3 c pc b b1 b2 = true) : decode c pc = .ok (I (b1 * 256 + b2), 3) := by
  unfold zb3 at h
  rw [Bool.and_eq_true, Bool.and_eq_true] at h
  refine zd_0 h.1 ?_
  rw [k, z_u2 h.2.1 h.2.2]
  rfl
theorem zd_s1 {c : ByteArray} {pc b b1 : Nat} {I : Int → Jvm.ClassFile.Instr} (k : ∀ s, zFx.1 pc b c s = Except.bind (Except.bind ((Jvm.ClassFile.Reader.u1 : Jvm.ClassFile.Decoder Nat) c s) (fun x => .ok (Jvm.ClassFile.Reader.signed 8 x.1, x.2))) (fun x => .ok (I x.1, x.2))) (h : zb2 c pc b b1 = true) : decode c pc = .ok (I (Jvm.ClassFile.Reader.signed 8 b1), 2) := by
  unfold zb2 at h
  rw [Bool.and_eq_true] at h
  refine zd_0 h.1 ?_
  rw [k, z_u1 h.2]
  rfl
theorem zd_s2 {c : ByteArray} {pc b b1 b2 : Nat} {I : Int → Jvm.ClassFile.Instr} (k : ∀ s, zFx.1 pc b c s = Except.bind (Except.bind ((Jvm.ClassFile.Reader.u2 : Jvm.ClassFile.Decoder Nat) c s) (fun x => .ok (Jvm.ClassFile.Reader.signed 16 x.1, x.2))) (fun x => .ok (I x.1, x.2))) (h : zb3 c pc b b1 b2 = true) : decode c pc = .ok (I (Jvm.ClassFile.Reader.signed 16 (b1 * 256 + b2)), 3) := by
  unfold zb3 at h
  rw [Bool.and_eq_true, Bool.and_eq_true] at h
  refine zd_0 h.1 ?_
  rw [k, z_u2 h.2.1 h.2.2]
  rfl
theorem zo_132 {c : ByteArray} {pc b1 b2 : Nat} {v : Int} (h : zb3 c pc 132 b1 b2 = true) (e : Jvm.ClassFile.Reader.signed 8 b2 = v) : decode c pc = .ok (.iinc b1 v, 3) := by
  unfold zb3 at h
  rw [Bool.and_eq_true, Bool.and_eq_true] at h
  refine zd_0 h.1 ?_
  have k : zFx.1 pc 132 c (pc + 1) = Except.bind ((Jvm.ClassFile.Reader.u1 : Jvm.ClassFile.Decoder Nat) c (pc + 1)) (fun x => Except.bind (Except.bind ((Jvm.ClassFile.Reader.u1 : Jvm.ClassFile.Decoder Nat) c x.2) (fun y => .ok (Jvm.ClassFile.Reader.signed 8 y.1, y.2))) (fun y => .ok (.iinc x.1 y.1, y.2))) := rfl
  rw [k, z_u1 h.2.1]
  show Except.bind (Except.bind ((Jvm.ClassFile.Reader.u1 : Jvm.ClassFile.Decoder Nat) c (pc + 1 + 1)) _) _ = _
  rw [z_u1 h.2.2, ← e]
  rfl
theorem zo_16 {c : ByteArray} {pc b1 : Nat} {v : Int} (h : zb2 c pc 16 b1 = true) (e : Jvm.ClassFile.Reader.signed 8 b1 = v) : decode c pc = .ok (.bipush v, 2) := by
  subst e
  exact zd_s1 (I := .bipush) (fun _ => rfl) h
theorem zo_1 {c : ByteArray} {pc : Nat} (h : zbyt c pc 1 = true) : decode c pc = .ok (.aconst_null, 1) := zd_0 h rfl
theorem zo_2 {c : ByteArray} {pc : Nat} (h : zbyt c pc 2 = true) : decode c pc = .ok (.iconst (-1), 1) := zd_0 h rfl
theorem zo_3 {c : ByteArray} {pc : Nat} (h : zbyt c pc 3 = true) : decode c pc = .ok (.iconst 0, 1) := zd_0 h rfl
theorem zo_4 {c : ByteArray} {pc : Nat} (h : zbyt c pc 4 = true) : decode c pc = .ok (.iconst 1, 1) := zd_0 h rfl
theorem zo_5 {c : ByteArray} {pc : Nat} (h : zbyt c pc 5 = true) : decode c pc = .ok (.iconst 2, 1) := zd_0 h rfl
theorem zo_6 {c : ByteArray} {pc : Nat} (h : zbyt c pc 6 = true) : decode c pc = .ok (.iconst 3, 1) := zd_0 h rfl
theorem zo_7 {c : ByteArray} {pc : Nat} (h : zbyt c pc 7 = true) : decode c pc = .ok (.iconst 4, 1) := zd_0 h rfl
theorem zo_8 {c : ByteArray} {pc : Nat} (h : zbyt c pc 8 = true) : decode c pc = .ok (.iconst 5, 1) := zd_0 h rfl
theorem zo_9 {c : ByteArray} {pc : Nat} (h : zbyt c pc 9 = true) : decode c pc = .ok (.lconst 0, 1) := zd_0 h rfl
theorem zo_10 {c : ByteArray} {pc : Nat} (h : zbyt c pc 10 = true) : decode c pc = .ok (.lconst 1, 1) := zd_0 h rfl
theorem zo_26 {c : ByteArray} {pc : Nat} (h : zbyt c pc 26 = true) : decode c pc = .ok (.iload_n 0, 1) := zd_0 h rfl
theorem zo_27 {c : ByteArray} {pc : Nat} (h : zbyt c pc 27 = true) : decode c pc = .ok (.iload_n 1, 1) := zd_0 h rfl
theorem zo_28 {c : ByteArray} {pc : Nat} (h : zbyt c pc 28 = true) : decode c pc = .ok (.iload_n 2, 1) := zd_0 h rfl
theorem zo_29 {c : ByteArray} {pc : Nat} (h : zbyt c pc 29 = true) : decode c pc = .ok (.iload_n 3, 1) := zd_0 h rfl
theorem zo_30 {c : ByteArray} {pc : Nat} (h : zbyt c pc 30 = true) : decode c pc = .ok (.lload_n 0, 1) := zd_0 h rfl
theorem zo_31 {c : ByteArray} {pc : Nat} (h : zbyt c pc 31 = true) : decode c pc = .ok (.lload_n 1, 1) := zd_0 h rfl
theorem zo_32 {c : ByteArray} {pc : Nat} (h : zbyt c pc 32 = true) : decode c pc = .ok (.lload_n 2, 1) := zd_0 h rfl
theorem zo_33 {c : ByteArray} {pc : Nat} (h : zbyt c pc 33 = true) : decode c pc = .ok (.lload_n 3, 1) := zd_0 h rfl
theorem zo_42 {c : ByteArray} {pc : Nat} (h : zbyt c pc 42 = true) : decode c pc = .ok (.aload_n 0, 1) := zd_0 h rfl
theorem zo_43 {c : ByteArray} {pc : Nat} (h : zbyt c pc 43 = true) : decode c pc = .ok (.aload_n 1, 1) := zd_0 h rfl
theorem zo_44 {c : ByteArray} {pc : Nat} (h : zbyt c pc 44 = true) : decode c pc = .ok (.aload_n 2, 1) := zd_0 h rfl
theorem zo_45 {c : ByteArray} {pc : Nat} (h : zbyt c pc 45 = true) : decode c pc = .ok (.aload_n 3, 1) := zd_0 h rfl
theorem zo_46 {c : ByteArray} {pc : Nat} (h : zbyt c pc 46 = true) : decode c pc = .ok (.iaload, 1) := zd_0 h rfl
theorem zo_47 {c : ByteArray} {pc : Nat} (h : zbyt c pc 47 = true) : decode c pc = .ok (.laload, 1) := zd_0 h rfl
theorem zo_51 {c : ByteArray} {pc : Nat} (h : zbyt c pc 51 = true) : decode c pc = .ok (.baload, 1) := zd_0 h rfl
theorem zo_59 {c : ByteArray} {pc : Nat} (h : zbyt c pc 59 = true) : decode c pc = .ok (.istore_n 0, 1) := zd_0 h rfl
theorem zo_60 {c : ByteArray} {pc : Nat} (h : zbyt c pc 60 = true) : decode c pc = .ok (.istore_n 1, 1) := zd_0 h rfl
theorem zo_61 {c : ByteArray} {pc : Nat} (h : zbyt c pc 61 = true) : decode c pc = .ok (.istore_n 2, 1) := zd_0 h rfl
theorem zo_62 {c : ByteArray} {pc : Nat} (h : zbyt c pc 62 = true) : decode c pc = .ok (.istore_n 3, 1) := zd_0 h rfl
theorem zo_63 {c : ByteArray} {pc : Nat} (h : zbyt c pc 63 = true) : decode c pc = .ok (.lstore_n 0, 1) := zd_0 h rfl
theorem zo_64 {c : ByteArray} {pc : Nat} (h : zbyt c pc 64 = true) : decode c pc = .ok (.lstore_n 1, 1) := zd_0 h rfl
theorem zo_65 {c : ByteArray} {pc : Nat} (h : zbyt c pc 65 = true) : decode c pc = .ok (.lstore_n 2, 1) := zd_0 h rfl
theorem zo_66 {c : ByteArray} {pc : Nat} (h : zbyt c pc 66 = true) : decode c pc = .ok (.lstore_n 3, 1) := zd_0 h rfl
theorem zo_75 {c : ByteArray} {pc : Nat} (h : zbyt c pc 75 = true) : decode c pc = .ok (.astore_n 0, 1) := zd_0 h rfl
theorem zo_76 {c : ByteArray} {pc : Nat} (h : zbyt c pc 76 = true) : decode c pc = .ok (.astore_n 1, 1) := zd_0 h rfl
theorem zo_77 {c : ByteArray} {pc : Nat} (h : zbyt c pc 77 = true) : decode c pc = .ok (.astore_n 2, 1) := zd_0 h rfl
theorem zo_78 {c : ByteArray} {pc : Nat} (h : zbyt c pc 78 = true) : decode c pc = .ok (.astore_n 3, 1) := zd_0 h rfl
theorem zo_79 {c : ByteArray} {pc : Nat} (h : zbyt c pc 79 = true) : decode c pc = .ok (.iastore, 1) := zd_0 h rfl
theorem zo_80 {c : ByteArray} {pc : Nat} (h : zbyt c pc 80 = true) : decode c pc = .ok (.lastore, 1) := zd_0 h rfl
theorem zo_84 {c : ByteArray} {pc : Nat} (h : zbyt c pc 84 = true) : decode c pc = .ok (.bastore, 1) := zd_0 h rfl
theorem zo_87 {c : ByteArray} {pc : Nat} (h : zbyt c pc 87 = true) : decode c pc = .ok (.pop, 1) := zd_0 h rfl
theorem zo_89 {c : ByteArray} {pc : Nat} (h : zbyt c pc 89 = true) : decode c pc = .ok (.dup, 1) := zd_0 h rfl
theorem zo_92 {c : ByteArray} {pc : Nat} (h : zbyt c pc 92 = true) : decode c pc = .ok (.dup2, 1) := zd_0 h rfl
theorem zo_96 {c : ByteArray} {pc : Nat} (h : zbyt c pc 96 = true) : decode c pc = .ok (.iadd, 1) := zd_0 h rfl
theorem zo_97 {c : ByteArray} {pc : Nat} (h : zbyt c pc 97 = true) : decode c pc = .ok (.ladd, 1) := zd_0 h rfl
theorem zo_100 {c : ByteArray} {pc : Nat} (h : zbyt c pc 100 = true) : decode c pc = .ok (.isub, 1) := zd_0 h rfl
theorem zo_101 {c : ByteArray} {pc : Nat} (h : zbyt c pc 101 = true) : decode c pc = .ok (.lsub, 1) := zd_0 h rfl
theorem zo_104 {c : ByteArray} {pc : Nat} (h : zbyt c pc 104 = true) : decode c pc = .ok (.imul, 1) := zd_0 h rfl
theorem zo_105 {c : ByteArray} {pc : Nat} (h : zbyt c pc 105 = true) : decode c pc = .ok (.lmul, 1) := zd_0 h rfl
theorem zo_108 {c : ByteArray} {pc : Nat} (h : zbyt c pc 108 = true) : decode c pc = .ok (.idiv, 1) := zd_0 h rfl
theorem zo_109 {c : ByteArray} {pc : Nat} (h : zbyt c pc 109 = true) : decode c pc = .ok (.ldiv, 1) := zd_0 h rfl
theorem zo_112 {c : ByteArray} {pc : Nat} (h : zbyt c pc 112 = true) : decode c pc = .ok (.irem, 1) := zd_0 h rfl
theorem zo_113 {c : ByteArray} {pc : Nat} (h : zbyt c pc 113 = true) : decode c pc = .ok (.lrem, 1) := zd_0 h rfl
theorem zo_116 {c : ByteArray} {pc : Nat} (h : zbyt c pc 116 = true) : decode c pc = .ok (.ineg, 1) := zd_0 h rfl
theorem zo_120 {c : ByteArray} {pc : Nat} (h : zbyt c pc 120 = true) : decode c pc = .ok (.ishl, 1) := zd_0 h rfl
theorem zo_121 {c : ByteArray} {pc : Nat} (h : zbyt c pc 121 = true) : decode c pc = .ok (.lshl, 1) := zd_0 h rfl
theorem zo_122 {c : ByteArray} {pc : Nat} (h : zbyt c pc 122 = true) : decode c pc = .ok (.ishr, 1) := zd_0 h rfl
theorem zo_123 {c : ByteArray} {pc : Nat} (h : zbyt c pc 123 = true) : decode c pc = .ok (.lshr, 1) := zd_0 h rfl
theorem zo_124 {c : ByteArray} {pc : Nat} (h : zbyt c pc 124 = true) : decode c pc = .ok (.iushr, 1) := zd_0 h rfl
theorem zo_125 {c : ByteArray} {pc : Nat} (h : zbyt c pc 125 = true) : decode c pc = .ok (.lushr, 1) := zd_0 h rfl
theorem zo_126 {c : ByteArray} {pc : Nat} (h : zbyt c pc 126 = true) : decode c pc = .ok (.iand, 1) := zd_0 h rfl
theorem zo_127 {c : ByteArray} {pc : Nat} (h : zbyt c pc 127 = true) : decode c pc = .ok (.land, 1) := zd_0 h rfl
theorem zo_128 {c : ByteArray} {pc : Nat} (h : zbyt c pc 128 = true) : decode c pc = .ok (.ior, 1) := zd_0 h rfl
theorem zo_129 {c : ByteArray} {pc : Nat} (h : zbyt c pc 129 = true) : decode c pc = .ok (.lor, 1) := zd_0 h rfl
theorem zo_130 {c : ByteArray} {pc : Nat} (h : zbyt c pc 130 = true) : decode c pc = .ok (.ixor, 1) := zd_0 h rfl
theorem zo_131 {c : ByteArray} {pc : Nat} (h : zbyt c pc 131 = true) : decode c pc = .ok (.lxor, 1) := zd_0 h rfl
theorem zo_133 {c : ByteArray} {pc : Nat} (h : zbyt c pc 133 = true) : decode c pc = .ok (.i2l, 1) := zd_0 h rfl
theorem zo_136 {c : ByteArray} {pc : Nat} (h : zbyt c pc 136 = true) : decode c pc = .ok (.l2i, 1) := zd_0 h rfl
theorem zo_145 {c : ByteArray} {pc : Nat} (h : zbyt c pc 145 = true) : decode c pc = .ok (.i2b, 1) := zd_0 h rfl
theorem zo_146 {c : ByteArray} {pc : Nat} (h : zbyt c pc 146 = true) : decode c pc = .ok (.i2c, 1) := zd_0 h rfl
theorem zo_148 {c : ByteArray} {pc : Nat} (h : zbyt c pc 148 = true) : decode c pc = .ok (.lcmp, 1) := zd_0 h rfl
theorem zo_172 {c : ByteArray} {pc : Nat} (h : zbyt c pc 172 = true) : decode c pc = .ok (.ireturn, 1) := zd_0 h rfl
theorem zo_173 {c : ByteArray} {pc : Nat} (h : zbyt c pc 173 = true) : decode c pc = .ok (.lreturn, 1) := zd_0 h rfl
theorem zo_176 {c : ByteArray} {pc : Nat} (h : zbyt c pc 176 = true) : decode c pc = .ok (.areturn, 1) := zd_0 h rfl
theorem zo_177 {c : ByteArray} {pc : Nat} (h : zbyt c pc 177 = true) : decode c pc = .ok (.return_, 1) := zd_0 h rfl
theorem zo_190 {c : ByteArray} {pc : Nat} (h : zbyt c pc 190 = true) : decode c pc = .ok (.arraylength, 1) := zd_0 h rfl
theorem zo_191 {c : ByteArray} {pc : Nat} (h : zbyt c pc 191 = true) : decode c pc = .ok (.athrow, 1) := zd_0 h rfl
theorem zo_18 {c : ByteArray} {pc b1 : Nat} (h : zb2 c pc 18 b1 = true) : decode c pc = .ok (.ldc b1, 2) := zd_u1 (I := .ldc) (fun _ => rfl) h
theorem zo_21 {c : ByteArray} {pc b1 : Nat} (h : zb2 c pc 21 b1 = true) : decode c pc = .ok (.iload b1, 2) := zd_u1 (I := .iload) (fun _ => rfl) h
theorem zo_22 {c : ByteArray} {pc b1 : Nat} (h : zb2 c pc 22 b1 = true) : decode c pc = .ok (.lload b1, 2) := zd_u1 (I := .lload) (fun _ => rfl) h
theorem zo_25 {c : ByteArray} {pc b1 : Nat} (h : zb2 c pc 25 b1 = true) : decode c pc = .ok (.aload b1, 2) := zd_u1 (I := .aload) (fun _ => rfl) h
theorem zo_54 {c : ByteArray} {pc b1 : Nat} (h : zb2 c pc 54 b1 = true) : decode c pc = .ok (.istore b1, 2) := zd_u1 (I := .istore) (fun _ => rfl) h
theorem zo_55 {c : ByteArray} {pc b1 : Nat} (h : zb2 c pc 55 b1 = true) : decode c pc = .ok (.lstore b1, 2) := zd_u1 (I := .lstore) (fun _ => rfl) h
theorem zo_58 {c : ByteArray} {pc b1 : Nat} (h : zb2 c pc 58 b1 = true) : decode c pc = .ok (.astore b1, 2) := zd_u1 (I := .astore) (fun _ => rfl) h
theorem zo_19 {c : ByteArray} {pc b1 b2 n : Nat} (h : zb3 c pc 19 b1 b2 = true) (e : b1 * 256 + b2 = n) : decode c pc = .ok (.ldc_w n, 3) := by
  subst e
  exact zd_u2 (I := .ldc_w) (fun _ => rfl) h
theorem zo_178 {c : ByteArray} {pc b1 b2 n : Nat} (h : zb3 c pc 178 b1 b2 = true) (e : b1 * 256 + b2 = n) : decode c pc = .ok (.getstatic n, 3) := by
  subst e
  exact zd_u2 (I := .getstatic) (fun _ => rfl) h
theorem zo_180 {c : ByteArray} {pc b1 b2 n : Nat} (h : zb3 c pc 180 b1 b2 = true) (e : b1 * 256 + b2 = n) : decode c pc = .ok (.getfield n, 3) := by
  subst e
  exact zd_u2 (I := .getfield) (fun _ => rfl) h
theorem zo_181 {c : ByteArray} {pc b1 b2 n : Nat} (h : zb3 c pc 181 b1 b2 = true) (e : b1 * 256 + b2 = n) : decode c pc = .ok (.putfield n, 3) := by
  subst e
  exact zd_u2 (I := .putfield) (fun _ => rfl) h
theorem zo_182 {c : ByteArray} {pc b1 b2 n : Nat} (h : zb3 c pc 182 b1 b2 = true) (e : b1 * 256 + b2 = n) : decode c pc = .ok (.invokevirtual n, 3) := by
  subst e
  exact zd_u2 (I := .invokevirtual) (fun _ => rfl) h
theorem zo_183 {c : ByteArray} {pc b1 b2 n : Nat} (h : zb3 c pc 183 b1 b2 = true) (e : b1 * 256 + b2 = n) : decode c pc = .ok (.invokespecial n, 3) := by
  subst e
  exact zd_u2 (I := .invokespecial) (fun _ => rfl) h
theorem zo_184 {c : ByteArray} {pc b1 b2 n : Nat} (h : zb3 c pc 184 b1 b2 = true) (e : b1 * 256 + b2 = n) : decode c pc = .ok (.invokestatic n, 3) := by
  subst e
  exact zd_u2 (I := .invokestatic) (fun _ => rfl) h
theorem zo_187 {c : ByteArray} {pc b1 b2 n : Nat} (h : zb3 c pc 187 b1 b2 = true) (e : b1 * 256 + b2 = n) : decode c pc = .ok (.new n, 3) := by
  subst e
  exact zd_u2 (I := .new) (fun _ => rfl) h
theorem zo_17 {c : ByteArray} {pc b1 b2 : Nat} {v : Int} (h : zb3 c pc 17 b1 b2 = true) (e : Jvm.ClassFile.Reader.signed 16 (b1 * 256 + b2) = v) : decode c pc = .ok (.sipush v, 3) := by
  subst e
  exact zd_s2 (I := .sipush) (fun _ => rfl) h
theorem zo_153 {c : ByteArray} {pc b1 b2 : Nat} {v : Int} (h : zb3 c pc 153 b1 b2 = true) (e : Jvm.ClassFile.Reader.signed 16 (b1 * 256 + b2) = v) : decode c pc = .ok (.ifCond .eq v, 3) := by
  subst e
  exact zd_s2 (I := .ifCond .eq) (fun _ => rfl) h
theorem zo_154 {c : ByteArray} {pc b1 b2 : Nat} {v : Int} (h : zb3 c pc 154 b1 b2 = true) (e : Jvm.ClassFile.Reader.signed 16 (b1 * 256 + b2) = v) : decode c pc = .ok (.ifCond .ne v, 3) := by
  subst e
  exact zd_s2 (I := .ifCond .ne) (fun _ => rfl) h
theorem zo_155 {c : ByteArray} {pc b1 b2 : Nat} {v : Int} (h : zb3 c pc 155 b1 b2 = true) (e : Jvm.ClassFile.Reader.signed 16 (b1 * 256 + b2) = v) : decode c pc = .ok (.ifCond .lt v, 3) := by
  subst e
  exact zd_s2 (I := .ifCond .lt) (fun _ => rfl) h
theorem zo_156 {c : ByteArray} {pc b1 b2 : Nat} {v : Int} (h : zb3 c pc 156 b1 b2 = true) (e : Jvm.ClassFile.Reader.signed 16 (b1 * 256 + b2) = v) : decode c pc = .ok (.ifCond .ge v, 3) := by
  subst e
  exact zd_s2 (I := .ifCond .ge) (fun _ => rfl) h
theorem zo_157 {c : ByteArray} {pc b1 b2 : Nat} {v : Int} (h : zb3 c pc 157 b1 b2 = true) (e : Jvm.ClassFile.Reader.signed 16 (b1 * 256 + b2) = v) : decode c pc = .ok (.ifCond .gt v, 3) := by
  subst e
  exact zd_s2 (I := .ifCond .gt) (fun _ => rfl) h
theorem zo_158 {c : ByteArray} {pc b1 b2 : Nat} {v : Int} (h : zb3 c pc 158 b1 b2 = true) (e : Jvm.ClassFile.Reader.signed 16 (b1 * 256 + b2) = v) : decode c pc = .ok (.ifCond .le v, 3) := by
  subst e
  exact zd_s2 (I := .ifCond .le) (fun _ => rfl) h
theorem zo_159 {c : ByteArray} {pc b1 b2 : Nat} {v : Int} (h : zb3 c pc 159 b1 b2 = true) (e : Jvm.ClassFile.Reader.signed 16 (b1 * 256 + b2) = v) : decode c pc = .ok (.if_icmp .eq v, 3) := by
  subst e
  exact zd_s2 (I := .if_icmp .eq) (fun _ => rfl) h
theorem zo_160 {c : ByteArray} {pc b1 b2 : Nat} {v : Int} (h : zb3 c pc 160 b1 b2 = true) (e : Jvm.ClassFile.Reader.signed 16 (b1 * 256 + b2) = v) : decode c pc = .ok (.if_icmp .ne v, 3) := by
  subst e
  exact zd_s2 (I := .if_icmp .ne) (fun _ => rfl) h
theorem zo_161 {c : ByteArray} {pc b1 b2 : Nat} {v : Int} (h : zb3 c pc 161 b1 b2 = true) (e : Jvm.ClassFile.Reader.signed 16 (b1 * 256 + b2) = v) : decode c pc = .ok (.if_icmp .lt v, 3) := by
  subst e
  exact zd_s2 (I := .if_icmp .lt) (fun _ => rfl) h
theorem zo_162 {c : ByteArray} {pc b1 b2 : Nat} {v : Int} (h : zb3 c pc 162 b1 b2 = true) (e : Jvm.ClassFile.Reader.signed 16 (b1 * 256 + b2) = v) : decode c pc = .ok (.if_icmp .ge v, 3) := by
  subst e
  exact zd_s2 (I := .if_icmp .ge) (fun _ => rfl) h
theorem zo_163 {c : ByteArray} {pc b1 b2 : Nat} {v : Int} (h : zb3 c pc 163 b1 b2 = true) (e : Jvm.ClassFile.Reader.signed 16 (b1 * 256 + b2) = v) : decode c pc = .ok (.if_icmp .gt v, 3) := by
  subst e
  exact zd_s2 (I := .if_icmp .gt) (fun _ => rfl) h
theorem zo_164 {c : ByteArray} {pc b1 b2 : Nat} {v : Int} (h : zb3 c pc 164 b1 b2 = true) (e : Jvm.ClassFile.Reader.signed 16 (b1 * 256 + b2) = v) : decode c pc = .ok (.if_icmp .le v, 3) := by
  subst e
  exact zd_s2 (I := .if_icmp .le) (fun _ => rfl) h
theorem zo_167 {c : ByteArray} {pc b1 b2 : Nat} {v : Int} (h : zb3 c pc 167 b1 b2 = true) (e : Jvm.ClassFile.Reader.signed 16 (b1 * 256 + b2) = v) : decode c pc = .ok (.goto v, 3) := by
  subst e
  exact zd_s2 (I := .goto) (fun _ => rfl) h
end ZJN8
section ZJN9
noncomputable def wzJ0_coder_7d493 : List Cond := .code yJ0_coder_7d493 cJ0_coder_7d493 1 (some .byte) :: wsL_law
noncomputable def wzJ0_isLatin1_aae02 : List Cond := .code yJ0_isLatin1_aae02 cJ0_isLatin1_aae02 1 (some .boolean) :: wsL_law
noncomputable def wzJ0_length_8abf5 : List Cond := .code yJ0_length_8abf5 cJ0_length_8abf5 1 (some .int) :: wsL_law
noncomputable def wzJ3_checkIndex_8e157 : List Cond := .code yJ3_checkIndex_8e157 cJ3_checkIndex_8e157 3 (some .int) :: wsL_law
noncomputable def wzJ0_checkIndex_df160 : List Cond := .code yJ0_checkIndex_df160 cJ0_checkIndex_df160 2 none :: wsL_law
noncomputable def wzJ1_charAt_3b067 : List Cond := .code yJ1_charAt_3b067 cJ1_charAt_3b067 2 (some .char) :: wsL_law
noncomputable def wzJ0_charAt_5068e : List Cond := .code yJ0_charAt_5068e cJ0_charAt_5068e 2 (some .char) :: wsL_law
noncomputable def kn_cJ0_length_8abf5 : Nat := 0xac7a4f01b62abe0900b42a
theorem zk_cJ0_length_8abf5 : zkd cJ0_length_8abf5.data.toList kn_cJ0_length_8abf5 = true := by decide +kernel
theorem zn_cJ0_length_8abf5 : cJ0_length_8abf5.data.toList.length = 11 := by decide +kernel
theorem dJ0_length_8abf5_0 : decode cJ0_length_8abf5 0 = .ok (.aload_n 0, 1) := zo_42 (zkb zk_cJ0_length_8abf5 zn_cJ0_length_8abf5 rfl)
theorem dJ0_length_8abf5_1 : decode cJ0_length_8abf5 1 = .ok (.getfield 9, 3) := zo_180 (b1 := 0) (b2 := 9) (zkb3 zk_cJ0_length_8abf5 zn_cJ0_length_8abf5 rfl) rfl
theorem dJ0_length_8abf5_4 : decode cJ0_length_8abf5 4 = .ok (.arraylength, 1) := zo_190 (zkb zk_cJ0_length_8abf5 zn_cJ0_length_8abf5 rfl)
theorem dJ0_length_8abf5_5 : decode cJ0_length_8abf5 5 = .ok (.aload_n 0, 1) := zo_42 (zkb zk_cJ0_length_8abf5 zn_cJ0_length_8abf5 rfl)
theorem dJ0_length_8abf5_6 : decode cJ0_length_8abf5 6 = .ok (.invokevirtual 335, 3) := zo_182 (b1 := 1) (b2 := 79) (zkb3 zk_cJ0_length_8abf5 zn_cJ0_length_8abf5 rfl) rfl
theorem dJ0_length_8abf5_9 : decode cJ0_length_8abf5 9 = .ok (.ishr, 1) := zo_122 (zkb zk_cJ0_length_8abf5 zn_cJ0_length_8abf5 rfl)
theorem dJ0_length_8abf5_10 : decode cJ0_length_8abf5 10 = .ok (.ireturn, 1) := zo_172 (zkb zk_cJ0_length_8abf5 zn_cJ0_length_8abf5 rfl)
noncomputable def kn_cJ0_charAt_5068e : Nat := 0xacf201b81b0900b42aacef01b81b0900b42a0c0099ec01b62a
theorem zk_cJ0_charAt_5068e : zkd cJ0_charAt_5068e.data.toList kn_cJ0_charAt_5068e = true := by decide +kernel
theorem zn_cJ0_charAt_5068e : cJ0_charAt_5068e.data.toList.length = 25 := by decide +kernel
theorem dJ0_charAt_5068e_0 : decode cJ0_charAt_5068e 0 = .ok (.aload_n 0, 1) := zo_42 (zkb zk_cJ0_charAt_5068e zn_cJ0_charAt_5068e rfl)
theorem dJ0_charAt_5068e_1 : decode cJ0_charAt_5068e 1 = .ok (.invokevirtual 492, 3) := zo_182 (b1 := 1) (b2 := 236) (zkb3 zk_cJ0_charAt_5068e zn_cJ0_charAt_5068e rfl) rfl
theorem dJ0_charAt_5068e_4 : decode cJ0_charAt_5068e 4 = .ok (.ifCond .eq 12, 3) := zo_153 (b1 := 0) (b2 := 12) (zkb3 zk_cJ0_charAt_5068e zn_cJ0_charAt_5068e rfl) rfl
theorem dJ0_charAt_5068e_7 : decode cJ0_charAt_5068e 7 = .ok (.aload_n 0, 1) := zo_42 (zkb zk_cJ0_charAt_5068e zn_cJ0_charAt_5068e rfl)
theorem dJ0_charAt_5068e_8 : decode cJ0_charAt_5068e 8 = .ok (.getfield 9, 3) := zo_180 (b1 := 0) (b2 := 9) (zkb3 zk_cJ0_charAt_5068e zn_cJ0_charAt_5068e rfl) rfl
theorem dJ0_charAt_5068e_11 : decode cJ0_charAt_5068e 11 = .ok (.iload_n 1, 1) := zo_27 (zkb zk_cJ0_charAt_5068e zn_cJ0_charAt_5068e rfl)
theorem dJ0_charAt_5068e_12 : decode cJ0_charAt_5068e 12 = .ok (.invokestatic 495, 3) := zo_184 (b1 := 1) (b2 := 239) (zkb3 zk_cJ0_charAt_5068e zn_cJ0_charAt_5068e rfl) rfl
theorem dJ0_charAt_5068e_15 : decode cJ0_charAt_5068e 15 = .ok (.ireturn, 1) := zo_172 (zkb zk_cJ0_charAt_5068e zn_cJ0_charAt_5068e rfl)
theorem dJ0_charAt_5068e_16 : decode cJ0_charAt_5068e 16 = .ok (.aload_n 0, 1) := zo_42 (zkb zk_cJ0_charAt_5068e zn_cJ0_charAt_5068e rfl)
theorem dJ0_charAt_5068e_17 : decode cJ0_charAt_5068e 17 = .ok (.getfield 9, 3) := zo_180 (b1 := 0) (b2 := 9) (zkb3 zk_cJ0_charAt_5068e zn_cJ0_charAt_5068e rfl) rfl
theorem dJ0_charAt_5068e_20 : decode cJ0_charAt_5068e 20 = .ok (.iload_n 1, 1) := zo_27 (zkb zk_cJ0_charAt_5068e zn_cJ0_charAt_5068e rfl)
theorem dJ0_charAt_5068e_21 : decode cJ0_charAt_5068e 21 = .ok (.invokestatic 498, 3) := zo_184 (b1 := 1) (b2 := 242) (zkb3 zk_cJ0_charAt_5068e zn_cJ0_charAt_5068e rfl) rfl
theorem dJ0_charAt_5068e_24 : decode cJ0_charAt_5068e 24 = .ok (.ireturn, 1) := zo_172 (zkb zk_cJ0_charAt_5068e zn_cJ0_charAt_5068e rfl)
noncomputable def kn_cJ0_coder_7d493 : Nat := 0xac040400a70f00b42a0a00992600b2
theorem zk_cJ0_coder_7d493 : zkd cJ0_coder_7d493.data.toList kn_cJ0_coder_7d493 = true := by decide +kernel
theorem zn_cJ0_coder_7d493 : cJ0_coder_7d493.data.toList.length = 15 := by decide +kernel
theorem dJ0_coder_7d493_0 : decode cJ0_coder_7d493 0 = .ok (.getstatic 38, 3) := zo_178 (b1 := 0) (b2 := 38) (zkb3 zk_cJ0_coder_7d493 zn_cJ0_coder_7d493 rfl) rfl
theorem dJ0_coder_7d493_3 : decode cJ0_coder_7d493 3 = .ok (.ifCond .eq 10, 3) := zo_153 (b1 := 0) (b2 := 10) (zkb3 zk_cJ0_coder_7d493 zn_cJ0_coder_7d493 rfl) rfl
theorem dJ0_coder_7d493_6 : decode cJ0_coder_7d493 6 = .ok (.aload_n 0, 1) := zo_42 (zkb zk_cJ0_coder_7d493 zn_cJ0_coder_7d493 rfl)
theorem dJ0_coder_7d493_7 : decode cJ0_coder_7d493 7 = .ok (.getfield 15, 3) := zo_180 (b1 := 0) (b2 := 15) (zkb3 zk_cJ0_coder_7d493 zn_cJ0_coder_7d493 rfl) rfl
theorem dJ0_coder_7d493_10 : decode cJ0_coder_7d493 10 = .ok (.goto 4, 3) := zo_167 (b1 := 0) (b2 := 4) (zkb3 zk_cJ0_coder_7d493 zn_cJ0_coder_7d493 rfl) rfl
theorem dJ0_coder_7d493_13 : decode cJ0_coder_7d493 13 = .ok (.iconst 1, 1) := zo_4 (zkb zk_cJ0_coder_7d493 zn_cJ0_coder_7d493 rfl)
theorem dJ0_coder_7d493_14 : decode cJ0_coder_7d493 14 = .ok (.ireturn, 1) := zo_172 (zkb zk_cJ0_coder_7d493 zn_cJ0_coder_7d493 rfl)
noncomputable def kn_cJ0_isLatin1_aae02 : Nat := 0xac030400a70407009a0f00b42a0e00992600b2
theorem zk_cJ0_isLatin1_aae02 : zkd cJ0_isLatin1_aae02.data.toList kn_cJ0_isLatin1_aae02 = true := by decide +kernel
theorem zn_cJ0_isLatin1_aae02 : cJ0_isLatin1_aae02.data.toList.length = 19 := by decide +kernel
theorem dJ0_isLatin1_aae02_0 : decode cJ0_isLatin1_aae02 0 = .ok (.getstatic 38, 3) := zo_178 (b1 := 0) (b2 := 38) (zkb3 zk_cJ0_isLatin1_aae02 zn_cJ0_isLatin1_aae02 rfl) rfl
theorem dJ0_isLatin1_aae02_3 : decode cJ0_isLatin1_aae02 3 = .ok (.ifCond .eq 14, 3) := zo_153 (b1 := 0) (b2 := 14) (zkb3 zk_cJ0_isLatin1_aae02 zn_cJ0_isLatin1_aae02 rfl) rfl
theorem dJ0_isLatin1_aae02_6 : decode cJ0_isLatin1_aae02 6 = .ok (.aload_n 0, 1) := zo_42 (zkb zk_cJ0_isLatin1_aae02 zn_cJ0_isLatin1_aae02 rfl)
theorem dJ0_isLatin1_aae02_7 : decode cJ0_isLatin1_aae02 7 = .ok (.getfield 15, 3) := zo_180 (b1 := 0) (b2 := 15) (zkb3 zk_cJ0_isLatin1_aae02 zn_cJ0_isLatin1_aae02 rfl) rfl
theorem dJ0_isLatin1_aae02_10 : decode cJ0_isLatin1_aae02 10 = .ok (.ifCond .ne 7, 3) := zo_154 (b1 := 0) (b2 := 7) (zkb3 zk_cJ0_isLatin1_aae02 zn_cJ0_isLatin1_aae02 rfl) rfl
theorem dJ0_isLatin1_aae02_13 : decode cJ0_isLatin1_aae02 13 = .ok (.iconst 1, 1) := zo_4 (zkb zk_cJ0_isLatin1_aae02 zn_cJ0_isLatin1_aae02 rfl)
theorem dJ0_isLatin1_aae02_14 : decode cJ0_isLatin1_aae02 14 = .ok (.goto 4, 3) := zo_167 (b1 := 0) (b2 := 4) (zkb3 zk_cJ0_isLatin1_aae02 zn_cJ0_isLatin1_aae02 rfl) rfl
theorem dJ0_isLatin1_aae02_17 : decode cJ0_isLatin1_aae02 17 = .ok (.iconst 0, 1) := zo_3 (zkb zk_cJ0_isLatin1_aae02 zn_cJ0_isLatin1_aae02 rfl)
theorem dJ0_isLatin1_aae02_18 : decode cJ0_isLatin1_aae02 18 = .ok (.ireturn, 1) := zo_172 (zkb zk_cJ0_isLatin1_aae02 zn_cJ0_isLatin1_aae02 rfl)
noncomputable def kn_cJ0_checkIndex_df160 : Nat := 0xb1572304b81d04b21b1a
theorem zk_cJ0_checkIndex_df160 : zkd cJ0_checkIndex_df160.data.toList kn_cJ0_checkIndex_df160 = true := by decide +kernel
theorem zn_cJ0_checkIndex_df160 : cJ0_checkIndex_df160.data.toList.length = 10 := by decide +kernel
theorem dJ0_checkIndex_df160_0 : decode cJ0_checkIndex_df160 0 = .ok (.iload_n 0, 1) := zo_26 (zkb zk_cJ0_checkIndex_df160 zn_cJ0_checkIndex_df160 rfl)
theorem dJ0_checkIndex_df160_1 : decode cJ0_checkIndex_df160 1 = .ok (.iload_n 1, 1) := zo_27 (zkb zk_cJ0_checkIndex_df160 zn_cJ0_checkIndex_df160 rfl)
theorem dJ0_checkIndex_df160_2 : decode cJ0_checkIndex_df160 2 = .ok (.getstatic 1053, 3) := zo_178 (b1 := 4) (b2 := 29) (zkb3 zk_cJ0_checkIndex_df160 zn_cJ0_checkIndex_df160 rfl) rfl
theorem dJ0_checkIndex_df160_5 : decode cJ0_checkIndex_df160 5 = .ok (.invokestatic 1059, 3) := zo_184 (b1 := 4) (b2 := 35) (zkb3 zk_cJ0_checkIndex_df160 zn_cJ0_checkIndex_df160 rfl) rfl
theorem dJ0_checkIndex_df160_8 : decode cJ0_checkIndex_df160 8 = .ok (.pop, 1) := zo_87 (zkb zk_cJ0_checkIndex_df160 zn_cJ0_checkIndex_df160 rfl)
theorem dJ0_checkIndex_df160_9 : decode cJ0_checkIndex_df160 9 = .ok (.return_, 1) := zo_177 (zkb zk_cJ0_checkIndex_df160 zn_cJ0_checkIndex_df160 rfl)
noncomputable def kn_cJ1_charAt_3b067 : Nat := 0xac927eff0011331b2a0900b8be2a1b
theorem zk_cJ1_charAt_3b067 : zkd cJ1_charAt_3b067.data.toList kn_cJ1_charAt_3b067 = true := by decide +kernel
theorem zn_cJ1_charAt_3b067 : cJ1_charAt_3b067.data.toList.length = 15 := by decide +kernel
theorem dJ1_charAt_3b067_0 : decode cJ1_charAt_3b067 0 = .ok (.iload_n 1, 1) := zo_27 (zkb zk_cJ1_charAt_3b067 zn_cJ1_charAt_3b067 rfl)
theorem dJ1_charAt_3b067_1 : decode cJ1_charAt_3b067 1 = .ok (.aload_n 0, 1) := zo_42 (zkb zk_cJ1_charAt_3b067 zn_cJ1_charAt_3b067 rfl)
theorem dJ1_charAt_3b067_2 : decode cJ1_charAt_3b067 2 = .ok (.arraylength, 1) := zo_190 (zkb zk_cJ1_charAt_3b067 zn_cJ1_charAt_3b067 rfl)
theorem dJ1_charAt_3b067_3 : decode cJ1_charAt_3b067 3 = .ok (.invokestatic 9, 3) := zo_184 (b1 := 0) (b2 := 9) (zkb3 zk_cJ1_charAt_3b067 zn_cJ1_charAt_3b067 rfl) rfl
theorem dJ1_charAt_3b067_6 : decode cJ1_charAt_3b067 6 = .ok (.aload_n 0, 1) := zo_42 (zkb zk_cJ1_charAt_3b067 zn_cJ1_charAt_3b067 rfl)
theorem dJ1_charAt_3b067_7 : decode cJ1_charAt_3b067 7 = .ok (.iload_n 1, 1) := zo_27 (zkb zk_cJ1_charAt_3b067 zn_cJ1_charAt_3b067 rfl)
theorem dJ1_charAt_3b067_8 : decode cJ1_charAt_3b067 8 = .ok (.baload, 1) := zo_51 (zkb zk_cJ1_charAt_3b067 zn_cJ1_charAt_3b067 rfl)
theorem dJ1_charAt_3b067_9 : decode cJ1_charAt_3b067 9 = .ok (.sipush 255, 3) := zo_17 (b1 := 0) (b2 := 255) (zkb3 zk_cJ1_charAt_3b067 zn_cJ1_charAt_3b067 rfl) rfl
theorem dJ1_charAt_3b067_12 : decode cJ1_charAt_3b067 12 = .ok (.iand, 1) := zo_126 (zkb zk_cJ1_charAt_3b067 zn_cJ1_charAt_3b067 rfl)
theorem dJ1_charAt_3b067_13 : decode cJ1_charAt_3b067 13 = .ok (.i2c, 1) := zo_146 (zkb zk_cJ1_charAt_3b067 zn_cJ1_charAt_3b067 rfl)
theorem dJ1_charAt_3b067_14 : decode cJ1_charAt_3b067 14 = .ok (.ireturn, 1) := zo_172 (zkb zk_cJ1_charAt_3b067 zn_cJ1_charAt_3b067 rfl)
noncomputable def kn_cJ3_checkIndex_8e157 : Nat := 0xac1abf5f00b81b1a2c0a00a11b1a08009b1a
theorem zk_cJ3_checkIndex_8e157 : zkd cJ3_checkIndex_8e157.data.toList kn_cJ3_checkIndex_8e157 = true := by decide +kernel
theorem zn_cJ3_checkIndex_8e157 : cJ3_checkIndex_8e157.data.toList.length = 18 := by decide +kernel
theorem dJ3_checkIndex_8e157_0 : decode cJ3_checkIndex_8e157 0 = .ok (.iload_n 0, 1) := zo_26 (zkb zk_cJ3_checkIndex_8e157 zn_cJ3_checkIndex_8e157 rfl)
theorem dJ3_checkIndex_8e157_1 : decode cJ3_checkIndex_8e157 1 = .ok (.ifCond .lt 8, 3) := zo_155 (b1 := 0) (b2 := 8) (zkb3 zk_cJ3_checkIndex_8e157 zn_cJ3_checkIndex_8e157 rfl) rfl
theorem dJ3_checkIndex_8e157_4 : decode cJ3_checkIndex_8e157 4 = .ok (.iload_n 0, 1) := zo_26 (zkb zk_cJ3_checkIndex_8e157 zn_cJ3_checkIndex_8e157 rfl)
theorem dJ3_checkIndex_8e157_5 : decode cJ3_checkIndex_8e157 5 = .ok (.iload_n 1, 1) := zo_27 (zkb zk_cJ3_checkIndex_8e157 zn_cJ3_checkIndex_8e157 rfl)
theorem dJ3_checkIndex_8e157_6 : decode cJ3_checkIndex_8e157 6 = .ok (.if_icmp .lt 10, 3) := zo_161 (b1 := 0) (b2 := 10) (zkb3 zk_cJ3_checkIndex_8e157 zn_cJ3_checkIndex_8e157 rfl) rfl
theorem dJ3_checkIndex_8e157_9 : decode cJ3_checkIndex_8e157 9 = .ok (.aload_n 2, 1) := zo_44 (zkb zk_cJ3_checkIndex_8e157 zn_cJ3_checkIndex_8e157 rfl)
theorem dJ3_checkIndex_8e157_10 : decode cJ3_checkIndex_8e157 10 = .ok (.iload_n 0, 1) := zo_26 (zkb zk_cJ3_checkIndex_8e157 zn_cJ3_checkIndex_8e157 rfl)
theorem dJ3_checkIndex_8e157_11 : decode cJ3_checkIndex_8e157 11 = .ok (.iload_n 1, 1) := zo_27 (zkb zk_cJ3_checkIndex_8e157 zn_cJ3_checkIndex_8e157 rfl)
theorem dJ3_checkIndex_8e157_12 : decode cJ3_checkIndex_8e157 12 = .ok (.invokestatic 95, 3) := zo_184 (b1 := 0) (b2 := 95) (zkb3 zk_cJ3_checkIndex_8e157 zn_cJ3_checkIndex_8e157 rfl) rfl
theorem dJ3_checkIndex_8e157_15 : decode cJ3_checkIndex_8e157 15 = .ok (.athrow, 1) := zo_191 (zkb zk_cJ3_checkIndex_8e157 zn_cJ3_checkIndex_8e157 rfl)
theorem dJ3_checkIndex_8e157_16 : decode cJ3_checkIndex_8e157 16 = .ok (.iload_n 0, 1) := zo_26 (zkb zk_cJ3_checkIndex_8e157 zn_cJ3_checkIndex_8e157 rfl)
theorem dJ3_checkIndex_8e157_17 : decode cJ3_checkIndex_8e157 17 = .ok (.ireturn, 1) := zo_172 (zkb zk_cJ3_checkIndex_8e157 zn_cJ3_checkIndex_8e157 rfl)
/-! String constants: length() and charAt(k), by the JDK's own code -/
noncomputable def zkC (i j : Nat) : Int32 := ((zkB i j &&& 255).toUInt32 % 65536).toInt32
noncomputable def zkN (i : Nat) : Int32 := Int32.ofNat (zkL i)
section ZS
variable {p : Program} {l : Launch} {e : Env} {R : Room} {s : State} {m : MethodId} {args : Array Value} {below : List Frame} {meth : Method} {c : Code} {H : Heap} {locs : List Loc} {cells slots : Nat} {Q : State → Prop}
variable {st : Nat → Nat} {D : va_G} {tys : List (ClassId × FieldType)} {A : Nat → Prop} {cc : ByteArray} {nL : Nat} {Ts : List Cond} {own : String} {pc : Nat} {ls : Array Slot} {rest : List Value} {ret : Option FieldType}
theorem z_compact (hC : zC p m c cc nL s args Ts own meth ret) {w : va_W} (hI : zI st D tys w A s H locs) {index : Nat} (hlink : Cond.fieldLink own index "java/lang/String" "COMPACT_STRINGS" "Z" ∈ Ts) (hdg : decode cc pc = .ok (.getstatic index, 3))
    (kk : W p l e R s m args below meth c H locs cells slots Q (F0 m (pc + 3) ls (.int 1 :: rest))) : W p l e R s m args below meth c H locs cells slots Q (F0 m pc ls rest) :=
  va_gets hC.1 hC.2.1 hI.2.2.2.2.2.2.2.2.1 hI.2.2.2.1 hC.2.2.2.1 (hC.2.2.2.2.1 _ hlink) (fun _ h => h) hdg kk
theorem z_kcoder (hC : zC p m c cc nL s args Ts own meth ret) {w : va_W} (hI : zI st D tys w A s H locs) {i : Nat} (hi : i < zNK) {index : Nat} (hlink : Cond.fieldLink own index "java/lang/String" "coder" "B" ∈ Ts) (hdg : decode cc pc = .ok (.getfield index, 3))
    (kk : W p l e R s m args below meth c H locs cells slots Q (F0 m (pc + 3) ls (.int 0 :: rest))) : W p l e R s m args below meth c H locs cells slots Q (F0 m pc ls (.ref (st (100 + i)) :: rest)) :=
  vk_getf hC.1 hC.2.1 (hI.2.2.2.2.2.2.1 i hi).2.1 hI.2.2.2.1 hC.2.2.2.1 (hC.2.2.2.2.1 _ hlink) (fun _ h => h) hdg kk
theorem z_kvalue (hC : zC p m c cc nL s args Ts own meth ret) {w : va_W} (hI : zI st D tys w A s H locs) {i : Nat} (hi : i < zNK) {index : Nat} (hlink : Cond.fieldLink own index "java/lang/String" "value" "[B" ∈ Ts) (hdg : decode cc pc = .ok (.getfield index, 3))
    (kk : W p l e R s m args below meth c H locs cells slots Q (F0 m (pc + 3) ls (.ref (st (400 + i)) :: rest))) : W p l e R s m args below meth c H locs cells slots Q (F0 m pc ls (.ref (st (100 + i)) :: rest)) :=
  vk_getf hC.1 hC.2.1 (hI.2.2.2.2.2.2.1 i hi).2.2.1 hI.2.2.2.1 hC.2.2.2.1 (hC.2.2.2.2.1 _ hlink) (fun _ h => h) hdg kk
theorem z_nreturn {ty : FieldType} (hC : zC p m c cc nL s args Ts own meth (some ty)) {w : zSt → va_W} {σ : zSt} (hI : zI st D tys (w σ) A s H locs) {v : Int32} {res : zSt × Int32} (hn : narrow ty (.int v) = .int v) (hf : some (σ, v) = some res) (hdg : decode cc pc = .ok (.ireturn, 1)) : W p l e R s m args below meth c H locs 0 0 (zQi below args s D tys w A res) (F0 m pc ls [.int v]) := by
  obtain ⟨hx, hb, hml, hown, hts, hr, hlk⟩ := hC
  obtain ⟨hK, hP, hD, hS, hA, hT⟩ := hI
  exact W.zret (v := v) hx hb hr hn (fun t ht hW => ⟨⟨v, σ, rfl, Option.some.inj hf, by rw [ht]; exact hP, va_K.moved hW.alike hK, hD⟩, hS.F ht⟩) hS.2.2 hdg hlk
end ZS
noncomputable def rmK0 : Room := { frames := 0, cells := 0, slots := 0, locals := 0 }
noncomputable def rmK1 : Room := { frames := 1, cells := 0, slots := 0, locals := 32 }
noncomputable def rmK2 : Room := { frames := 2, cells := 0, slots := 0, locals := 64 }
noncomputable def rmK3 : Room := { frames := 3, cells := 0, slots := 0, locals := 96 }
noncomputable def rmK4 : Room := { frames := 4, cells := 0, slots := 0, locals := 128 }
theorem cJ0_coder_met (st : Nat → Nat) (l : Launch) (D : va_G) (tys : List (ClassId × FieldType)) (w : zSt → va_W) (σ : zSt) (i : Nat) (hi : i < zNK) (sz : Nat) : zMi st l yJ0_coder_7d493 wzJ0_coder_7d493 rmK0 [.ref (st (100 + i))] D tys w sz σ (σ, 0) :=
  zMi.of (cc := cJ0_coder_7d493) (maxL := 1) (ret := some .byte) (by decide) rfl (Nat.le_of_ble_eq_true rfl) (fun p e s m args below meth c hC A hI ls hl => by
    have hx := hC.1
    have hb := hC.2.1
    refine z_compact hC hI (List.mem_cons_of_mem _ zw62_20) dJ0_coder_7d493_0 ?_
    refine lv_if_eq (tgt := 13) hx hb dJ0_coder_7d493_3 (by decide) (fun q => absurd q (by decide)) (fun _ => ?_)
    refine lv_aload_n hx hb dJ0_coder_7d493_6 rfl (lv_at hl 0 rfl) ?_
    refine z_kcoder hC hI hi (List.mem_cons_of_mem _ zw62_21) dJ0_coder_7d493_7 ?_
    refine lv_goto (tgt := 14) hx hb dJ0_coder_7d493_10 (by decide) ?_
    exact z_nreturn hC hI rfl rfl dJ0_coder_7d493_14)
theorem cJ0_isLatin1_met (st : Nat → Nat) (l : Launch) (D : va_G) (tys : List (ClassId × FieldType)) (w : zSt → va_W) (σ : zSt) (i : Nat) (hi : i < zNK) (sz : Nat) : zMi st l yJ0_isLatin1_aae02 wzJ0_isLatin1_aae02 rmK0 [.ref (st (100 + i))] D tys w sz σ (σ, 1) :=
  zMi.of (cc := cJ0_isLatin1_aae02) (maxL := 1) (ret := some .boolean) (by decide) rfl (Nat.le_of_ble_eq_true rfl) (fun p e s m args below meth c hC A hI ls hl => by
    have hx := hC.1
    have hb := hC.2.1
    refine z_compact hC hI (List.mem_cons_of_mem _ zw62_20) dJ0_isLatin1_aae02_0 ?_
    refine lv_if_eq (tgt := 17) hx hb dJ0_isLatin1_aae02_3 (by decide) (fun q => absurd q (by decide)) (fun _ => ?_)
    refine lv_aload_n hx hb dJ0_isLatin1_aae02_6 rfl (lv_at hl 0 rfl) ?_
    refine z_kcoder hC hI hi (List.mem_cons_of_mem _ zw62_21) dJ0_isLatin1_aae02_7 ?_
    refine lv_if_ne (tgt := 17) hx hb dJ0_isLatin1_aae02_10 (by decide) (fun q => absurd rfl q) (fun _ => ?_)
    refine lv_iconst (v := 1) hx hb dJ0_isLatin1_aae02_13 (by decide) ?_
    refine lv_goto (tgt := 18) hx hb dJ0_isLatin1_aae02_14 (by decide) ?_
    exact z_nreturn hC hI rfl rfl dJ0_isLatin1_aae02_18)
theorem hdJ0_coder : yJ0_coder_7d493.cls = RJ0 ∧ yJ0_coder_7d493.cls ≠ "java/lang/invoke/MethodHandle" ∧ yJ0_coder_7d493.cls ≠ "java/lang/invoke/VarHandle" ∧ (parseMethodDescriptor yJ0_coder_7d493.desc).map (fun d => d.parameters.length) = some 0 := by decide +kernel
theorem hdJ0_isLatin1 : yJ0_isLatin1_aae02.cls = RJ0 ∧ yJ0_isLatin1_aae02.cls ≠ "java/lang/invoke/MethodHandle" ∧ yJ0_isLatin1_aae02.cls ≠ "java/lang/invoke/VarHandle" ∧ (parseMethodDescriptor yJ0_isLatin1_aae02.desc).map (fun d => d.parameters.length) = some 0 := by decide +kernel
theorem hdJ0_length : yJ0_length_8abf5.cls = RJ0 ∧ yJ0_length_8abf5.cls ≠ "java/lang/invoke/MethodHandle" ∧ yJ0_length_8abf5.cls ≠ "java/lang/invoke/VarHandle" ∧ (parseMethodDescriptor yJ0_length_8abf5.desc).map (fun d => d.parameters.length) = some 0 := by decide +kernel
theorem hdJ0_charAt : yJ0_charAt_5068e.cls = RJ0 ∧ yJ0_charAt_5068e.cls ≠ "java/lang/invoke/MethodHandle" ∧ yJ0_charAt_5068e.cls ≠ "java/lang/invoke/VarHandle" ∧ (parseMethodDescriptor yJ0_charAt_5068e.desc).map (fun d => d.parameters.length) = some 1 := by decide +kernel
theorem hdJ1_charAt : yJ1_charAt_3b067.cls ≠ "java/lang/invoke/MethodHandle" ∧ yJ1_charAt_3b067.cls ≠ "java/lang/invoke/VarHandle" ∧ (parseMethodDescriptor yJ1_charAt_3b067.desc).map (fun d => d.parameters.length) = some 2 := by decide +kernel
theorem hdJ0_checkIndex : yJ0_checkIndex_df160.cls ≠ "java/lang/invoke/MethodHandle" ∧ yJ0_checkIndex_df160.cls ≠ "java/lang/invoke/VarHandle" ∧ (parseMethodDescriptor yJ0_checkIndex_df160.desc).map (fun d => d.parameters.length) = some 2 := by decide +kernel
theorem hdJ3_checkIndex : yJ3_checkIndex_8e157.cls ≠ "java/lang/invoke/MethodHandle" ∧ yJ3_checkIndex_8e157.cls ≠ "java/lang/invoke/VarHandle" ∧ (parseMethodDescriptor yJ3_checkIndex_8e157.desc).map (fun d => d.parameters.length) = some 3 := by decide +kernel
theorem zkN_shr (i : Nat) : zkN i >>> ((0 : Int32) &&& 31) = zkN i := sb_shr0 _
theorem cJ0_length_met (st : Nat → Nat) (l : Launch) (D : va_G) (tys : List (ClassId × FieldType)) (w : zSt → va_W) (σ : zSt) (i : Nat) (hi : i < zNK) (sz : Nat) : zMi st l yJ0_length_8abf5 wzJ0_length_8abf5 rmK1 [.ref (st (100 + i))] D tys w sz σ (σ, zkN i) :=
  zMi.of (cc := cJ0_length_8abf5) (maxL := 1) (ret := some .int) (by decide) rfl (Nat.le_of_ble_eq_true rfl) (fun p e s m args below meth c hC A hI ls hl => by
    have hx := hC.1
    have hb := hC.2.1
    refine lv_aload_n hx hb dJ0_length_8abf5_0 rfl (lv_at hl 0 rfl) ?_
    refine z_kvalue hC hI hi (List.mem_cons_of_mem _ zw62_15) dJ0_length_8abf5_1 ?_
    refine va_tlen (v := zkN i) hx hb (hI.2.2.2.2.2.2.1 i hi).2.2.2 hI.2.2.2.1 rfl dJ0_length_8abf5_4 ?_
    refine lv_aload_n hx hb dJ0_length_8abf5_5 rfl (lv_at hl 0 rfl) ?_
    refine z_callKi (As := []) (rest := [.int (zkN i)]) hC hI (cJ0_coder_met st l D tys w σ i hi) (zgV zw71_1 zw71_2 zw71_3 zw62_13 zw71_4) rfl ⟨rfl, rfl⟩ 0 hdJ0_coder ⟨Nat.le_of_ble_eq_true rfl, Nat.le_of_ble_eq_true rfl⟩ hi rfl rfl hl rfl (Nat.le_of_ble_eq_true rfl) dJ0_length_8abf5_6 ⟨Nat.zero_le _, Nat.zero_le _⟩ (fun H locs hI => ?_)
    refine lv_ishr hx hb dJ0_length_8abf5_9 ?_
    rw [zkN_shr]
    exact z_ireturn hC hI rfl dJ0_length_8abf5_10)
theorem cJ3_checkIndex_met (st : Nat → Nat) (l : Launch) (D : va_G) (tys : List (ClassId × FieldType)) (w : zSt → va_W) (σ : zSt) (x n : Int32) (v : Value) (hv : v = .null ∨ ∃ t, v = .ref t) (h1 : ¬ x < 0) (h2 : x < n) (sz : Nat) : zMi st l yJ3_checkIndex_8e157 wzJ3_checkIndex_8e157 rmK0 [.int x, .int n, v] D tys w sz σ (σ, x) := by
  have hle : (lg_sl [.int x, .int n, v]).length ≤ 3 := by
    rcases hv with rfl | ⟨t, rfl⟩ <;> exact Nat.le_of_ble_eq_true rfl
  refine zMi.of (cc := cJ3_checkIndex_8e157) (maxL := 3) (ret := some .int) (by decide) rfl hle (fun p e s m args below meth c hC A hI ls hl => ?_)
  have hx := hC.1
  have hb := hC.2.1
  have hl : lv_has ls 3 [(0, .int x), (1, .int n)] := by
    rcases hv with rfl | ⟨t, rfl⟩ <;> exact lv_sub hl [0, 1] rfl
  refine lv_iload_n hx hb dJ3_checkIndex_8e157_0 rfl (lv_at hl 0 rfl) ?_
  refine lv_if_lt (tgt := 9) hx hb dJ3_checkIndex_8e157_1 (by decide) (fun q => absurd q h1) (fun _ => ?_)
  refine lv_iload_n hx hb dJ3_checkIndex_8e157_4 rfl (lv_at hl 0 rfl) ?_
  refine lv_iload_n hx hb dJ3_checkIndex_8e157_5 rfl (lv_at hl 1 rfl) ?_
  refine lv_icmp_lt (tgt := 16) hx hb dJ3_checkIndex_8e157_6 (by decide) (fun _ => ?_) (fun q => absurd h2 q)
  refine lv_iload_n hx hb dJ3_checkIndex_8e157_16 rfl (lv_at hl 0 rfl) ?_
  exact z_ireturn hC hI rfl dJ3_checkIndex_8e157_17
theorem cJ0_checkIndex_met (st : Nat → Nat) (l : Launch) (D : va_G) (tys : List (ClassId × FieldType)) (w : zSt → va_W) (σ : zSt) (x n : Int32) (h1 : ¬ x < 0) (h2 : x < n) (sz : Nat) : zMu st l yJ0_checkIndex_df160 wzJ0_checkIndex_df160 rmK1 [.int x, .int n] D tys w sz σ σ :=
  zMu.of (cc := cJ0_checkIndex_df160) (maxL := 2) (ret := none) (by decide) rfl (Nat.le_of_ble_eq_true rfl) (fun p e s m args below meth c hC A hI ls hl => by
    have hx := hC.1
    have hb := hC.2.1
    refine lv_iload_n hx hb dJ0_checkIndex_df160_0 rfl (lv_at hl 0 rfl) ?_
    refine lv_iload_n hx hb dJ0_checkIndex_df160_1 rfl (lv_at hl 1 rfl) ?_
    have hlk : (Cond.fieldLink RJ0 1053 "jdk/internal/util/Preconditions" "SIOOBE_FORMATTER" "Ljava/util/function/BiFunction;").before args s = true := hC.2.2.2.2.1 _ (List.mem_cons_of_mem _ zw63_5)
    have key : ∀ v : Value, (v = .null ∨ ∃ t, v = .ref t) → W p l e (headSpec wzJ0_checkIndex_df160 rmK1).room s m args below meth c s.heap [] 0 0 (zQu below args s D tys w A σ) (F0 m 5 ls [v, .int n, .int x]) := by
      intro v hv
      refine z_callSi (As := [.int x, .int n, v]) (rest := []) hC hI (cJ3_checkIndex_met st l D tys w σ x n v hv h1 h2) (zgS zw63_6 zw63_7 zw63_8 zw63_9) rfl ⟨rfl, rfl⟩ 3 hdJ3_checkIndex ⟨Nat.le_of_ble_eq_true rfl, Nat.le_of_ble_eq_true rfl⟩ rfl hl rfl (Nat.le_of_ble_eq_true rfl) dJ0_checkIndex_df160_5 ⟨Nat.zero_le _, Nat.zero_le _⟩ (fun H locs hI => ?_)
      refine lv_pop hx hb dJ0_checkIndex_df160_8 rfl ?_
      exact z_return hC hI rfl dJ0_checkIndex_df160_9
    rcases hI.2.2.2.2.2.2.2.2.2.1 with hz | ⟨t, hz⟩
    · exact va_gets hx hb hz hI.2.2.2.1 hC.2.2.2.1 hlk (fun _ h => h) dJ0_checkIndex_df160_2 (key .null (Or.inl rfl))
    · exact va_gets hx hb hz hI.2.2.2.1 hC.2.2.2.1 hlk (fun _ h => h) dJ0_checkIndex_df160_2 (key (.ref t) (Or.inr ⟨t, rfl⟩)))
theorem zin_lt {x : Int32} {i : Nat} (hq : zin x (zkL i) = true) (hL : zkL i < 2 ^ 31) : ¬ x < 0 ∧ x < zkN i := by
  obtain ⟨j, hj, rfl⟩ := vp_in_of (zin_in hq) hL
  exact ⟨nI_pos (by omega), nI_lt hj hL⟩
theorem zkL_lt : ∀ i, i < zNK → zkL i < 2 ^ 31 := by decide +kernel
theorem cJ1_charAt_met (st : Nat → Nat) (l : Launch) (D : va_G) (tys : List (ClassId × FieldType)) (w : zSt → va_W) (σ : zSt) (i : Nat) (hi : i < zNK) (x : Int32) (hq : zin x (zkL i) = true) (sz : Nat) : zMi st l yJ1_charAt_3b067 wzJ1_charAt_3b067 rmK2 [.ref (st (400 + i)), .int x] D tys w sz σ (σ, zkC i x.toNatClampNeg) :=
  zMi.of (cc := cJ1_charAt_3b067) (maxL := 2) (ret := some .char) (by decide) rfl (Nat.le_of_ble_eq_true rfl) (fun p e s m args below meth c hC A hI ls hl => by
    have hx := hC.1
    have hb := hC.2.1
    obtain ⟨h1, h2⟩ := zin_lt hq (zkL_lt i hi)
    refine lv_iload_n hx hb dJ1_charAt_3b067_0 rfl (lv_at hl 1 rfl) ?_
    refine lv_aload_n hx hb dJ1_charAt_3b067_1 rfl (lv_at hl 0 rfl) ?_
    refine va_tlen (v := zkN i) hx hb (hI.2.2.2.2.2.2.1 i hi).2.2.2 hI.2.2.2.1 rfl dJ1_charAt_3b067_2 ?_
    refine z_callSu (As := [.int x, .int (zkN i)]) (rest := []) hC hI (cJ0_checkIndex_met st l D tys w σ x (zkN i) h1 h2) (zgS zw63_2 zw63_3 zw62_13 zw63_4) rfl ⟨rfl, rfl⟩ 2 hdJ0_checkIndex ⟨Nat.le_of_ble_eq_true rfl, Nat.le_of_ble_eq_true rfl⟩ rfl hl rfl (Nat.le_of_ble_eq_true rfl) dJ1_charAt_3b067_3 ⟨Nat.zero_le _, Nat.zero_le _⟩ (fun H locs hI => ?_)
    refine lv_aload_n hx hb dJ1_charAt_3b067_6 rfl (lv_at hl 0 rfl) ?_
    refine lv_iload_n hx hb dJ1_charAt_3b067_7 rfl (lv_at hl 1 rfl) ?_
    refine va_tb (v := .int (zkB i x.toNatClampNeg)) hx hb (hI.2.2.2.2.2.2.1 i hi).2.2.2 hI.2.2.2.1 (zin_in hq) rfl dJ1_charAt_3b067_8 ?_
    refine lv_sipush (v := 255) hx hb dJ1_charAt_3b067_9 (by decide) ?_
    refine lv_iand hx hb dJ1_charAt_3b067_12 ?_
    refine lv_i2c (v := zkC i x.toNatClampNeg) hx hb dJ1_charAt_3b067_13 rfl ?_
    exact z_nreturn hC hI (pk_nc _) rfl dJ1_charAt_3b067_14)
theorem cJ0_charAt_met (st : Nat → Nat) (l : Launch) (D : va_G) (tys : List (ClassId × FieldType)) (w : zSt → va_W) (σ : zSt) (i : Nat) (hi : i < zNK) (x : Int32) (hq : zin x (zkL i) = true) (sz : Nat) : zMi st l yJ0_charAt_5068e wzJ0_charAt_5068e rmK3 [.ref (st (100 + i)), .int x] D tys w sz σ (σ, zkC i x.toNatClampNeg) :=
  zMi.of (cc := cJ0_charAt_5068e) (maxL := 2) (ret := some .char) (by decide) rfl (Nat.le_of_ble_eq_true rfl) (fun p e s m args below meth c hC A hI ls hl => by
    have hx := hC.1
    have hb := hC.2.1
    refine lv_aload_n hx hb dJ0_charAt_5068e_0 rfl (lv_at hl 0 rfl) ?_
    refine z_callKi (As := []) (rest := []) hC hI (cJ0_isLatin1_met st l D tys w σ i hi) (zgV zw62_16 zw62_17 zw62_18 zw62_13 zw62_19) rfl ⟨rfl, rfl⟩ 0 hdJ0_isLatin1 ⟨Nat.le_of_ble_eq_true rfl, Nat.le_of_ble_eq_true rfl⟩ hi rfl rfl hl rfl (Nat.le_of_ble_eq_true rfl) dJ0_charAt_5068e_1 ⟨Nat.zero_le _, Nat.zero_le _⟩ (fun H locs hI => ?_)
    refine lv_if_eq (tgt := 16) hx hb dJ0_charAt_5068e_4 (by decide) (fun q => absurd q (by decide)) (fun _ => ?_)
    refine lv_aload_n hx hb dJ0_charAt_5068e_7 rfl (lv_at hl 0 rfl) ?_
    refine z_kvalue hC hI hi (List.mem_cons_of_mem _ zw62_15) dJ0_charAt_5068e_8 ?_
    refine lv_iload_n hx hb dJ0_charAt_5068e_11 rfl (lv_at hl 1 rfl) ?_
    refine z_callSi (As := [.ref (st (400 + i)), .int x]) (rest := []) hC hI (cJ1_charAt_met st l D tys w σ i hi x hq) (zgS zw62_22 zw62_23 zw63_0 zw63_1) rfl ⟨rfl, rfl⟩ 2 hdJ1_charAt ⟨Nat.le_of_ble_eq_true rfl, Nat.le_of_ble_eq_true rfl⟩ rfl hl rfl (Nat.le_of_ble_eq_true rfl) dJ0_charAt_5068e_12 ⟨Nat.zero_le _, Nat.zero_le _⟩ (fun H locs hI => ?_)
    exact z_nreturn hC hI (pk_nc _) rfl dJ0_charAt_5068e_15)
end ZJN9
section ZJN10
/-! Methods that return or throw -/
noncomputable abbrev zRi : Type := (zSt × Int32) ⊕ (zSt × Nat)
noncomputable abbrev zRl : Type := (zSt × Int64) ⊕ (zSt × Nat)
noncomputable abbrev zRu : Type := zSt ⊕ (zSt × Nat)
/-- where it has thrown: which exception, and the world -/
noncomputable def zXX {ρ : Type} (D : va_G) (tys : List (ClassId × FieldType)) (w : zSt → va_W) (A : Nat → Prop) (res : ρ ⊕ (zSt × Nat)) : String → State → State → Prop := vx_X (fun _ : zSt => True) (fun E u t => (∃ k, Sum.inr (u, k) = res ∧ E = zEx k) ∧ zB D tys w A u t) A
noncomputable def zXi (st : Nat → Nat) (l : Launch) (y : MethodName) (ws : List Cond) (rm : Room) (av : List Value) (D : va_G) (tys : List (ClassId × FieldType)) (w : zSt → va_W) (sz : Nat) (σ : zSt) (res : zRi) : Prop :=
  vx_Met l y ws rm (va_Pc av (zP st D tys (w σ) sz)) (va_Qi (fun (r : Int32) (u : zSt) => Sum.inl (u, r) = res) (zB D tys w (va_A (w σ) sz)) (va_A (w σ) sz)) (zXX D tys w (va_A (w σ) sz) res) 1 6 (va_A (w σ) sz)
noncomputable def zXl (st : Nat → Nat) (l : Launch) (y : MethodName) (ws : List Cond) (rm : Room) (av : List Value) (D : va_G) (tys : List (ClassId × FieldType)) (w : zSt → va_W) (sz : Nat) (σ : zSt) (res : zRl) : Prop :=
  vx_Met l y ws rm (va_Pc av (zP st D tys (w σ) sz)) (va_Ql (fun (r : Int64) (u : zSt) => Sum.inl (u, r) = res) (zB D tys w (va_A (w σ) sz)) (va_A (w σ) sz)) (zXX D tys w (va_A (w σ) sz) res) 1 6 (va_A (w σ) sz)
noncomputable def zXu (st : Nat → Nat) (l : Launch) (y : MethodName) (ws : List Cond) (rm : Room) (av : List Value) (D : va_G) (tys : List (ClassId × FieldType)) (w : zSt → va_W) (sz : Nat) (σ : zSt) (res : zRu) : Prop :=
  vx_Met l y ws rm (va_Pc av (zP st D tys (w σ) sz)) (va_Qv (fun (u : zSt) => Sum.inl u = res) (zB D tys w (va_A (w σ) sz)) (va_A (w σ) sz)) (zXX D tys w (va_A (w σ) sz) res) 1 6 (va_A (w σ) sz)
noncomputable def zXQi (below : List Frame) (args : Array Value) (s : State) (D : va_G) (tys : List (ClassId × FieldType)) (w : zSt → va_W) (A : Nat → Prop) (res : zRi) : State → Prop := vx_MQ below (va_Qi (fun (r : Int32) (u : zSt) => Sum.inl (u, r) = res) (zB D tys w A) A) (zXX D tys w A res) args s 1 6 A
noncomputable def zXQl (below : List Frame) (args : Array Value) (s : State) (D : va_G) (tys : List (ClassId × FieldType)) (w : zSt → va_W) (A : Nat → Prop) (res : zRl) : State → Prop := vx_MQ below (va_Ql (fun (r : Int64) (u : zSt) => Sum.inl (u, r) = res) (zB D tys w A) A) (zXX D tys w A res) args s 1 6 A
noncomputable def zXQu (below : List Frame) (args : Array Value) (s : State) (D : va_G) (tys : List (ClassId × FieldType)) (w : zSt → va_W) (A : Nat → Prop) (res : zRu) : State → Prop := vx_MQ below (va_Qv (fun (u : zSt) => Sum.inl u = res) (zB D tys w A) A) (zXX D tys w A res) args s 1 6 A
section ZX
variable {p : Program} {l : Launch} {e : Env} {R : Room} {s : State} {m : MethodId} {args : Array Value} {below : List Frame} {meth : Method} {c : Code} {H : Heap} {locs : List Loc} {cells slots : Nat} {Q : State → Prop}
variable {st : Nat → Nat} {D : va_G} {tys : List (ClassId × FieldType)} {A : Nat → Prop} {cc : ByteArray} {nL : Nat} {Ts : List Cond} {own : String} {pc : Nat} {ls : Array Slot} {rest : List Value} {ret : Option FieldType} {lv0 : List (Nat × Value)}
theorem zXi.of {y : MethodName} {ws ws' : List Cond} {rm : Room} {av : List Value} {w : zSt → va_W} {sz : Nat} {σ : zSt} {res : zRi} {maxL : Nat} (hy : plainName y.cls = true) (hw : ws = Cond.code y cc maxL ret :: ws') (hle : (lg_sl av).length ≤ maxL)
    (k : ∀ (p : Program) (e : Env) (s : State) (m : MethodId) (args : Array Value) (below : List Frame) (meth : Method) (c : Code), zC p m c cc maxL s args ws y.cls meth ret → (∀ x ∈ c.exceptionTable.toList, False) → ∀ A : Nat → Prop, zI st D tys (w σ) A s s.heap [] → ∀ ls : Array Slot, lv_has ls maxL (lv_args 0 av) → W p l e (headSpec ws rm).room s m args below meth c s.heap [] 0 0 (zXQi below args s D tys w A res) (F0 m 0 ls [])) : zXi st l y ws rm av D tys w sz σ res := by
  refine vx_ofW (cc := cc) (maxL := maxL) (ret := ret) hy hw ?_
  intro p e s m args below meth c s₁ B hml hE hv
  obtain ⟨rfl, hv⟩ := hv
  have hl := lv_entry av (n := maxL) hle
  rw [lg_entry_eq]
  exact k p e s m av.toArray below meth c ⟨B.exec, B.bytes, hml, findClass_of_methodNamed B.named, atoms_spec (ws := ws) B.pre, B.returns, B.notSynchronized⟩ hE _ (zI.start hv) _ hl
theorem zXl.of {y : MethodName} {ws ws' : List Cond} {rm : Room} {av : List Value} {w : zSt → va_W} {sz : Nat} {σ : zSt} {res : zRl} {maxL : Nat} (hy : plainName y.cls = true) (hw : ws = Cond.code y cc maxL ret :: ws') (hle : (lg_sl av).length ≤ maxL)
    (k : ∀ (p : Program) (e : Env) (s : State) (m : MethodId) (args : Array Value) (below : List Frame) (meth : Method) (c : Code), zC p m c cc maxL s args ws y.cls meth ret → (∀ x ∈ c.exceptionTable.toList, False) → ∀ A : Nat → Prop, zI st D tys (w σ) A s s.heap [] → ∀ ls : Array Slot, lv_has ls maxL (lv_args 0 av) → W p l e (headSpec ws rm).room s m args below meth c s.heap [] 0 0 (zXQl below args s D tys w A res) (F0 m 0 ls [])) : zXl st l y ws rm av D tys w sz σ res := by
  refine vx_ofW (cc := cc) (maxL := maxL) (ret := ret) hy hw ?_
  intro p e s m args below meth c s₁ B hml hE hv
  obtain ⟨rfl, hv⟩ := hv
  have hl := lv_entry av (n := maxL) hle
  rw [lg_entry_eq]
  exact k p e s m av.toArray below meth c ⟨B.exec, B.bytes, hml, findClass_of_methodNamed B.named, atoms_spec (ws := ws) B.pre, B.returns, B.notSynchronized⟩ hE _ (zI.start hv) _ hl
theorem zXu.of {y : MethodName} {ws ws' : List Cond} {rm : Room} {av : List Value} {w : zSt → va_W} {sz : Nat} {σ : zSt} {res : zRu} {maxL : Nat} (hy : plainName y.cls = true) (hw : ws = Cond.code y cc maxL ret :: ws') (hle : (lg_sl av).length ≤ maxL)
    (k : ∀ (p : Program) (e : Env) (s : State) (m : MethodId) (args : Array Value) (below : List Frame) (meth : Method) (c : Code), zC p m c cc maxL s args ws y.cls meth ret → (∀ x ∈ c.exceptionTable.toList, False) → ∀ A : Nat → Prop, zI st D tys (w σ) A s s.heap [] → ∀ ls : Array Slot, lv_has ls maxL (lv_args 0 av) → W p l e (headSpec ws rm).room s m args below meth c s.heap [] 0 0 (zXQu below args s D tys w A res) (F0 m 0 ls [])) : zXu st l y ws rm av D tys w sz σ res := by
  refine vx_ofW (cc := cc) (maxL := maxL) (ret := ret) hy hw ?_
  intro p e s m args below meth c s₁ B hml hE hv
  obtain ⟨rfl, hv⟩ := hv
  have hl := lv_entry av (n := maxL) hle
  rw [lg_entry_eq]
  exact k p e s m av.toArray below meth c ⟨B.exec, B.bytes, hml, findClass_of_methodNamed B.named, atoms_spec (ws := ws) B.pre, B.returns, B.notSynchronized⟩ hE _ (zI.start hv) _ hl
theorem z_xireturn (hC : zC p m c cc nL s args Ts own meth (some .int)) {w : zSt → va_W} {σ : zSt} (hI : zI st D tys (w σ) A s H locs) {v : Int32} {res : zRi} (hf : some (Sum.inl (σ, v)) = some res) (hdg : decode cc pc = .ok (.ireturn, 1)) : W p l e R s m args below meth c H locs 0 0 (zXQi below args s D tys w A res) (F0 m pc ls [.int v]) := by
  obtain ⟨hx, hb, hml, hown, hts, hr, hlk⟩ := hC
  obtain ⟨hK, hP, hD, hS, hA, hT⟩ := hI
  refine W.widen (k := 1) (n := 6) (Nat.zero_le _) (Nat.zero_le _) (vx_ret ?_)
  exact W.iret (v := v) hx hb hr (fun t ht hW => ⟨⟨v, σ, rfl, Option.some.inj hf, by rw [ht]; exact hP, va_K.moved hW.alike hK, hD⟩, hS.F ht⟩) hS.2.2 hdg hlk
theorem z_xlreturn (hC : zC p m c cc nL s args Ts own meth (some .long)) {w : zSt → va_W} {σ : zSt} (hI : zI st D tys (w σ) A s H locs) {v : Int64} {res : zRl} (hf : some (Sum.inl (σ, v)) = some res) (hdg : decode cc pc = .ok (.lreturn, 1)) : W p l e R s m args below meth c H locs 0 0 (zXQl below args s D tys w A res) (F0 m pc ls [.long v]) := by
  obtain ⟨hx, hb, hml, hown, hts, hr, hlk⟩ := hC
  obtain ⟨hK, hP, hD, hS, hA, hT⟩ := hI
  refine W.widen (k := 1) (n := 6) (Nat.zero_le _) (Nat.zero_le _) (vx_ret ?_)
  exact W.lret (v := v) hx hb hr (fun t ht hW => ⟨⟨v, σ, rfl, Option.some.inj hf, by rw [ht]; exact hP, va_K.moved hW.alike hK, hD⟩, hS.F ht⟩) hS.2.2 hdg hlk
theorem z_xreturn (hC : zC p m c cc nL s args Ts own meth none) {w : zSt → va_W} {σ : zSt} (hI : zI st D tys (w σ) A s H locs) {res : zRu} (hf : some (Sum.inl σ) = some res) (hdg : decode cc pc = .ok (.return_, 1)) : W p l e R s m args below meth c H locs 0 0 (zXQu below args s D tys w A res) (F0 m pc ls []) := by
  obtain ⟨hx, hb, hml, hown, hts, hr, hlk⟩ := hC
  obtain ⟨hK, hP, hD, hS, hA, hT⟩ := hI
  refine W.widen (k := 1) (n := 6) (Nat.zero_le _) (Nat.zero_le _) (vx_ret ?_)
  exact W.vret hx hb hr (fun t ht hW => ⟨⟨σ, rfl, Option.some.inj hf, by rw [ht]; exact hP, va_K.moved hW.alike hK, hD⟩, hS.F ht⟩) hS.2.2 hdg hlk
/-- behind a throw: the world is as it was -/
theorem z_xx {ρ : Type} {w : zSt → va_W} {σ : zSt} (hI : zI st D tys (w σ) A s H locs) {k : Nat} {res : ρ ⊕ (zSt × Nat)} (hf : Sum.inr (σ, k) = res) : ∀ t : State, s.vm.Alike t.vm → H.size ≤ t.heap.size → (∀ q : Nat, q < H.size → t.heap[q]? = H[q]?) → zXX D tys w A res (zEx k) s t := by
  intro t hvm hsz hq
  obtain ⟨hK, hP, hD, hS, hA, hT⟩ := hI
  refine ⟨σ, trivial, ⟨⟨k, hf, rfl⟩, fun i q hi => ?_, va_K.moved hvm hK, hD⟩, Nat.le_trans hS.1 hsz, fun q h1 h2 => ?_⟩
  · exact (hP i q hi).kept (hq q.1 (hP i q hi).lt)
  · exact (hq q (Nat.lt_of_lt_of_le h1 hS.1)).trans (hS.2.1 q h1 h2)
noncomputable abbrev zY0 : String := "java/lang/RuntimeException"
noncomputable abbrev zNm1 : List String := ["java/lang/Exception"]
noncomputable abbrev zNm : List String := ["java/lang/RuntimeException", "java/lang/Exception"]
theorem z_throw (hC : zC p m c cc nL s args Ts own meth ret) (hE : ∀ x ∈ c.exceptionTable.toList, False) (hst : l.stackTraces = false) {ρ : Type} {w : zSt → va_W} {σ : zSt} (hI : zI st D tys (w σ) A s H locs) (hl : lv_has ls nL lv0) {Qc : Array Value → State → Outcome → State → Prop} {res : ρ ⊕ (zSt × Nat)} (k : Nat) (hf : some (Sum.inr (σ, k)) = some res)
    {ik is ic : Nat} (hcls : Bundle.fit (zEx k) = true) (hk : Cond.classLink own ik (zEx k) ∈ Ts) (hini : Cond.initialized (zEx k) ∈ Ts) (i : Nat) (hi : i < zNK) (ho : zkO i = own) (hx : zkI i = is)
    (hat : ∀ w ∈ (vx_atS own ic (zEx k) zNm).filter goodWord, w ∈ Ts) (hno : ∀ w ∈ (vx_atS own ic (zEx k) zNm).filter (fun w => !goodWord w), w ∈ ([.castable (zEx k) (zEx k), .declares (zIn "java/lang/RuntimeException"), .declares (zIn "java/lang/Exception"), .declares (zIn "java/lang/Throwable")] : List Cond)) (hgood : ∀ w ∈ Cond.classLink own ik (zEx k) :: Cond.initialized (zEx k) :: vx_atS own ic (zEx k) zNm, vx_ot w = true)
    (d0 : decode cc pc = .ok (.new ik, 3)) (d3 : decode cc (pc + 3) = .ok (.dup, 1)) (d4 : decode cc (pc + 4) = .ok (.ldc is, 2)) (d6 : decode cc (pc + 6) = .ok (.invokespecial ic, 3)) (d9 : decode cc (pc + 9) = .ok (.athrow, 1))
    (hRf : 5 < R.frames) (hRl : (rest.map fun v => v.category).sum + 82 ≤ R.locals) (hRc : 1 ≤ R.cells) (hRs : 6 ≤ R.slots) : W p l e R s m args below meth c H locs 0 0 (vx_MQ below Qc (zXX D tys w A res) args s 1 6 A) (F0 m pc ls rest) := by
  subst ho hx
  obtain ⟨hxx, hb, hml, hown, hts, hr, hlk⟩ := id hC
  have hT := hI.2.2.2.2.2
  exact vx_throwS (names := zNm) hxx hb hst hown hcls (by decide) (hts _ hk) (hts _ hini) (hT.2.2.1 i hi) (vx_hat (fun w hw => hts w (hat w hw)) hno (vx_c (va_Nw.use rfl (hT.2.2.2.2.2.2.2.1 k)) (vx_c (va_Nw.use rfl (hT.2.2.2.2.2.2.2.2.2.1 _ (by decide))) (vx_c (va_Nw.use rfl (hT.2.2.2.2.2.2.2.2.2.1 _ (by decide))) (vx_c (va_Nw.use rfl (hT.2.2.2.2.2.2.2.2.2.1 _ (by decide))) vx_n))))) hgood hT.2.2.2.2.2.1 hT.2.2.2.2.2.2.1 hI.2.2.2.1 (hl.1.trans hml.symm) d0 d3 d4 d6 d9 (fun x h => (hE x h).elim) hRf hRl (by omega) (by omega) hlk (z_xx hI (Option.some.inj hf)) hI.2.2.2.1.2.2 (by omega) (by omega)
theorem z_throwW (hC : zC p m c cc nL s args Ts own meth ret) (hE : ∀ x ∈ c.exceptionTable.toList, False) (hst : l.stackTraces = false) {ρ : Type} {w : zSt → va_W} {σ : zSt} (hI : zI st D tys (w σ) A s H locs) (hl : lv_has ls nL lv0) {Qc : Array Value → State → Outcome → State → Prop} {res : ρ ⊕ (zSt × Nat)} (k : Nat) (hf : some (Sum.inr (σ, k)) = some res)
    {ik is ic : Nat} (hcls : Bundle.fit (zEx k) = true) (hk : Cond.classLink own ik (zEx k) ∈ Ts) (hini : Cond.initialized (zEx k) ∈ Ts) (i : Nat) (hi : i < zNK) (ho : zkO i = own) (hx : zkI i = is)
    (hat : ∀ w ∈ (vx_atS own ic (zEx k) zNm).filter goodWord, w ∈ Ts) (hno : ∀ w ∈ (vx_atS own ic (zEx k) zNm).filter (fun w => !goodWord w), w ∈ ([.castable (zEx k) (zEx k), .declares (zIn "java/lang/RuntimeException"), .declares (zIn "java/lang/Exception"), .declares (zIn "java/lang/Throwable")] : List Cond)) (hgood : ∀ w ∈ Cond.classLink own ik (zEx k) :: Cond.initialized (zEx k) :: vx_atS own ic (zEx k) zNm, vx_ot w = true)
    (d0 : decode cc pc = .ok (.new ik, 3)) (d3 : decode cc (pc + 3) = .ok (.dup, 1)) (d4 : decode cc (pc + 4) = .ok (.ldc_w is, 3)) (d7 : decode cc (pc + 7) = .ok (.invokespecial ic, 3)) (d10 : decode cc (pc + 10) = .ok (.athrow, 1))
    (hRf : 5 < R.frames) (hRl : (rest.map fun v => v.category).sum + 82 ≤ R.locals) (hRc : 1 ≤ R.cells) (hRs : 6 ≤ R.slots) : W p l e R s m args below meth c H locs 0 0 (vx_MQ below Qc (zXX D tys w A res) args s 1 6 A) (F0 m pc ls rest) := by
  subst ho hx
  obtain ⟨hxx, hb, hml, hown, hts, hr, hlk⟩ := id hC
  have hT := hI.2.2.2.2.2
  exact vx_throwSW (names := zNm) hxx hb hst hown hcls (by decide) (hts _ hk) (hts _ hini) (hT.2.2.1 i hi) (vx_hat (fun w hw => hts w (hat w hw)) hno (vx_c (va_Nw.use rfl (hT.2.2.2.2.2.2.2.1 k)) (vx_c (va_Nw.use rfl (hT.2.2.2.2.2.2.2.2.2.1 _ (by decide))) (vx_c (va_Nw.use rfl (hT.2.2.2.2.2.2.2.2.2.1 _ (by decide))) (vx_c (va_Nw.use rfl (hT.2.2.2.2.2.2.2.2.2.1 _ (by decide))) vx_n))))) hgood hT.2.2.2.2.2.1 hT.2.2.2.2.2.2.1 hI.2.2.2.1 (hl.1.trans hml.symm) d0 d3 d4 d7 d10 (fun x h => (hE x h).elim) hRf hRl (by omega) (by omega) hlk (z_xx hI (Option.some.inj hf)) hI.2.2.2.1.2.2 (by omega) (by omega)
theorem z_throw3 (hC : zC p m c cc nL s args Ts own meth ret) (hE : ∀ x ∈ c.exceptionTable.toList, False) (hst : l.stackTraces = false) {ρ : Type} {w : zSt → va_W} {σ : zSt} (hI : zI st D tys (w σ) A s H locs) (hl : lv_has ls nL lv0) {Qc : Array Value → State → Outcome → State → Prop} {res : ρ ⊕ (zSt × Nat)} (k : Nat) (hf : some (Sum.inr (σ, k)) = some res)
    {ik is ic : Nat} (hcls : Bundle.fit (zEx k) = true) (hk : Cond.classLink own ik (zEx k) ∈ Ts) (hini : Cond.initialized (zEx k) ∈ Ts) (i : Nat) (hi : i < zNK) (ho : zkO i = own) (hx : zkI i = is)
    (hat : ∀ w ∈ (zx_at own ic (zEx k) zY0 13 zx_bs zNm1).filter goodWord, w ∈ Ts) (hno : ∀ w ∈ (zx_at own ic (zEx k) zY0 13 zx_bs zNm1).filter (fun w => !goodWord w), w ∈ ([.castable (zEx k) (zEx k), .declares (zIn "java/lang/RuntimeException"), .declares (zIn "java/lang/Exception"), .declares (zIn "java/lang/Throwable")] : List Cond)) (hgood : ∀ w ∈ Cond.classLink own ik (zEx k) :: Cond.initialized (zEx k) :: zx_at own ic (zEx k) zY0 13 zx_bs zNm1, vx_ot w = true)
    (d0 : decode cc pc = .ok (.new ik, 3)) (d3 : decode cc (pc + 3) = .ok (.dup, 1)) (d4 : decode cc (pc + 4) = .ok (.ldc is, 2)) (d6 : decode cc (pc + 6) = .ok (.invokespecial ic, 3)) (d9 : decode cc (pc + 9) = .ok (.athrow, 1))
    (hRf : 5 < R.frames) (hRl : (rest.map fun v => v.category).sum + 82 ≤ R.locals) (hRc : 1 ≤ R.cells) (hRs : 6 ≤ R.slots) : W p l e R s m args below meth c H locs 0 0 (vx_MQ below Qc (zXX D tys w A res) args s 1 6 A) (F0 m pc ls rest) := by
  subst ho hx
  obtain ⟨hxx, hb, hml, hown, hts, hr, hlk⟩ := id hC
  have hT := hI.2.2.2.2.2
  exact zx_throwS (names := zNm1) hxx hb hst hown hcls (by decide) (by decide) (by decide +kernel) (by decide +kernel) (by decide +kernel) (by decide +kernel) (hts _ hk) (hts _ hini) (hT.2.2.1 i hi) (vx_hat (fun w hw => hts w (hat w hw)) hno (vx_c (va_Nw.use rfl (hT.2.2.2.2.2.2.2.1 k)) (vx_c (va_Nw.use rfl (hT.2.2.2.2.2.2.2.2.2.1 _ (by decide))) (vx_c (va_Nw.use rfl (hT.2.2.2.2.2.2.2.2.2.1 _ (by decide))) (vx_c (va_Nw.use rfl (hT.2.2.2.2.2.2.2.2.2.1 _ (by decide))) vx_n))))) hgood hT.2.2.2.2.2.1 hT.2.2.2.2.2.2.1 hI.2.2.2.1 (hl.1.trans hml.symm) d0 d3 d4 d6 d9 (fun x h => (hE x h).elim) hRf hRl (by omega) (by omega) hlk (z_xx hI (Option.some.inj hf)) hI.2.2.2.1.2.2 (by omega) (by omega)
theorem z_throw3W (hC : zC p m c cc nL s args Ts own meth ret) (hE : ∀ x ∈ c.exceptionTable.toList, False) (hst : l.stackTraces = false) {ρ : Type} {w : zSt → va_W} {σ : zSt} (hI : zI st D tys (w σ) A s H locs) (hl : lv_has ls nL lv0) {Qc : Array Value → State → Outcome → State → Prop} {res : ρ ⊕ (zSt × Nat)} (k : Nat) (hf : some (Sum.inr (σ, k)) = some res)
    {ik is ic : Nat} (hcls : Bundle.fit (zEx k) = true) (hk : Cond.classLink own ik (zEx k) ∈ Ts) (hini : Cond.initialized (zEx k) ∈ Ts) (i : Nat) (hi : i < zNK) (ho : zkO i = own) (hx : zkI i = is)
    (hat : ∀ w ∈ (zx_at own ic (zEx k) zY0 13 zx_bs zNm1).filter goodWord, w ∈ Ts) (hno : ∀ w ∈ (zx_at own ic (zEx k) zY0 13 zx_bs zNm1).filter (fun w => !goodWord w), w ∈ ([.castable (zEx k) (zEx k), .declares (zIn "java/lang/RuntimeException"), .declares (zIn "java/lang/Exception"), .declares (zIn "java/lang/Throwable")] : List Cond)) (hgood : ∀ w ∈ Cond.classLink own ik (zEx k) :: Cond.initialized (zEx k) :: zx_at own ic (zEx k) zY0 13 zx_bs zNm1, vx_ot w = true)
    (d0 : decode cc pc = .ok (.new ik, 3)) (d3 : decode cc (pc + 3) = .ok (.dup, 1)) (d4 : decode cc (pc + 4) = .ok (.ldc_w is, 3)) (d7 : decode cc (pc + 7) = .ok (.invokespecial ic, 3)) (d10 : decode cc (pc + 10) = .ok (.athrow, 1))
    (hRf : 5 < R.frames) (hRl : (rest.map fun v => v.category).sum + 82 ≤ R.locals) (hRc : 1 ≤ R.cells) (hRs : 6 ≤ R.slots) : W p l e R s m args below meth c H locs 0 0 (vx_MQ below Qc (zXX D tys w A res) args s 1 6 A) (F0 m pc ls rest) := by
  subst ho hx
  obtain ⟨hxx, hb, hml, hown, hts, hr, hlk⟩ := id hC
  have hT := hI.2.2.2.2.2
  exact zx_throwSW (names := zNm1) hxx hb hst hown hcls (by decide) (by decide) (by decide +kernel) (by decide +kernel) (by decide +kernel) (by decide +kernel) (hts _ hk) (hts _ hini) (hT.2.2.1 i hi) (vx_hat (fun w hw => hts w (hat w hw)) hno (vx_c (va_Nw.use rfl (hT.2.2.2.2.2.2.2.1 k)) (vx_c (va_Nw.use rfl (hT.2.2.2.2.2.2.2.2.2.1 _ (by decide))) (vx_c (va_Nw.use rfl (hT.2.2.2.2.2.2.2.2.2.1 _ (by decide))) (vx_c (va_Nw.use rfl (hT.2.2.2.2.2.2.2.2.2.1 _ (by decide))) vx_n))))) hgood hT.2.2.2.2.2.1 hT.2.2.2.2.2.2.1 hI.2.2.2.1 (hl.1.trans hml.symm) d0 d3 d4 d7 d10 (fun x h => (hE x h).elim) hRf hRl (by omega) (by omega) hlk (z_xx hI (Option.some.inj hf)) hI.2.2.2.1.2.2 (by omega) (by omega)
end ZX
theorem zXg1 : ∀ w ∈ Cond.classLink RX11 95 (zEx 1) :: Cond.initialized (zEx 1) :: vx_atS RX11 99 (zEx 1) zNm, vx_ot w = true := by decide +kernel
theorem zXn1 : ∀ w ∈ (vx_atS RX11 99 (zEx 1) zNm).filter (fun w => !goodWord w), w ∈ ([.castable (zEx 1) (zEx 1), .declares (zIn "java/lang/RuntimeException"), .declares (zIn "java/lang/Exception"), .declares (zIn "java/lang/Throwable")] : List Cond) := by decide +kernel
theorem zXg2 : ∀ w ∈ Cond.classLink RX11 107 (zEx 2) :: Cond.initialized (zEx 2) :: vx_atS RX11 111 (zEx 2) zNm, vx_ot w = true := by decide +kernel
theorem zXn2 : ∀ w ∈ (vx_atS RX11 111 (zEx 2) zNm).filter (fun w => !goodWord w), w ∈ ([.castable (zEx 2) (zEx 2), .declares (zIn "java/lang/RuntimeException"), .declares (zIn "java/lang/Exception"), .declares (zIn "java/lang/Throwable")] : List Cond) := by decide +kernel
theorem zXg3 : ∀ w ∈ Cond.classLink RX11 200 (zEx 3) :: Cond.initialized (zEx 3) :: zx_at RX11 204 (zEx 3) zY0 13 zx_bs zNm1, vx_ot w = true := by decide +kernel
theorem zXn3 : ∀ w ∈ (zx_at RX11 204 (zEx 3) zY0 13 zx_bs zNm1).filter (fun w => !goodWord w), w ∈ ([.castable (zEx 3) (zEx 3), .declares (zIn "java/lang/RuntimeException"), .declares (zIn "java/lang/Exception"), .declares (zIn "java/lang/Throwable")] : List Cond) := by decide +kernel
theorem zx1 : ∀ w ∈ (vx_atS RX11 99 (zEx 1) zNm).filter goodWord, w ∈ wsL_law := fun _ h => List.mem_append_left _ (List.mem_append_left _ (List.mem_append_right _ h))
theorem zx2 : ∀ w ∈ (vx_atS RX11 111 (zEx 2) zNm).filter goodWord, w ∈ wsL_law := fun _ h => List.mem_append_left _ (List.mem_append_right _ h)
theorem zx3 : ∀ w ∈ (zx_at RX11 204 (zEx 3) zY0 13 zx_bs zNm1).filter goodWord, w ∈ wsL_law := fun _ h => List.mem_append_right _ h
end ZJN10
