/-! decode by the opcode's byte -/
def zbyt (c : ByteArray) (p b : Nat) : Bool := if h : p < c.size then Nat.beq c[p].toNat b else false
theorem z_u1 {c : ByteArray} {p b : Nat} (h : zbyt c p b = true) : (Jvm.ClassFile.Reader.u1 : Jvm.ClassFile.Decoder Nat) c p = .ok (b, p + 1) := by
  unfold zbyt at h
  by_cases q : p < c.size
  · rw [dif_pos q] at h
    have e := Nat.eq_of_beq_eq_true h
    have r : (Jvm.ClassFile.Reader.u1 : Jvm.ClassFile.Decoder Nat) c p = (if h : p < c.size then (do set (p + 1); pure c[p].toNat : Jvm.ClassFile.Decoder Nat) else throw (Jvm.ClassFile.HasTruncated.truncated p)) c p := rfl
    rw [r, dif_pos q]
    show Except.ok (c[p].toNat, p + 1) = _
    rw [e]
  · rw [dif_neg q] at h
    cases h
theorem z_u2 {c : ByteArray} {p a b : Nat} (h : zbyt c p a = true) (k : zbyt c (p + 1) b = true) : (Jvm.ClassFile.Reader.u2 : Jvm.ClassFile.Decoder Nat) c p = .ok (a * 256 + b, p + 2) := by
  have r : (Jvm.ClassFile.Reader.u2 : Jvm.ClassFile.Decoder Nat) c p = Except.bind ((Jvm.ClassFile.Reader.u1 : Jvm.ClassFile.Decoder Nat) c p) (fun x => Except.bind ((Jvm.ClassFile.Reader.u1 : Jvm.ClassFile.Decoder Nat) c x.2) (fun y => .ok (x.1 * 256 + y.1, y.2))) := rfl
  rw [r, z_u1 h]
  show Except.bind ((Jvm.ClassFile.Reader.u1 : Jvm.ClassFile.Decoder Nat) c (p + 1)) _ = _
  rw [z_u1 k]
  rfl
/-- what follows the opcode -/
def zFx : { F : Nat → Nat → Jvm.ClassFile.Decoder Jvm.ClassFile.Instr // ∀ pc, Jvm.ClassFile.Decoder.instr pc = (Jvm.ClassFile.Reader.u1 >>= F pc) } := ⟨_, fun _ => rfl⟩
theorem zd_0 {c : ByteArray} {pc b : Nat} {I : Jvm.ClassFile.Instr} {L : Nat} (h : zbyt c pc b = true) (k : zFx.1 pc b c (pc + 1) = .ok (I, pc + L)) : decode c pc = .ok (I, L) := by
  have r : decode c pc = Except.bind ((Jvm.ClassFile.Decoder.instr pc) c pc) (fun x => .ok (x.1, x.2 - pc)) := rfl
  have r2 : (Jvm.ClassFile.Reader.u1 >>= zFx.1 pc : Jvm.ClassFile.Decoder Jvm.ClassFile.Instr) c pc = Except.bind ((Jvm.ClassFile.Reader.u1 : Jvm.ClassFile.Decoder Nat) c pc) (fun x => zFx.1 pc x.1 c x.2) := rfl
  rw [r, zFx.2 pc, r2, z_u1 h]
  show Except.bind (zFx.1 pc b c (pc + 1)) _ = _
  rw [k]
  show Except.ok (I, pc + L - pc) = _
  rw [Nat.add_sub_cancel_left]
/-- a code's bytes as one number -/
def zkd : List UInt8 → Nat → Bool
  | [], K => Nat.beq K 0
  | b :: l, K => Nat.beq b.toNat (K % 256) && zkd l (K / 256)
theorem zkd_at : ∀ (l : List UInt8) (K p : Nat) (h : p < l.length), zkd l K = true → l[p].toNat = K / 256 ^ p % 256
  | [], _, _, h, _ => absurd h (Nat.not_lt_zero _)
  | b :: l, K, 0, _, e => by
    unfold zkd at e
    rw [Bool.and_eq_true] at e
    have z := Nat.eq_of_beq_eq_true e.1
    show b.toNat = K / 256 ^ 0 % 256
    rw [Nat.pow_zero, Nat.div_one]
    exact z
  | b :: l, K, p + 1, h, e => by
    unfold zkd at e
    rw [Bool.and_eq_true] at e
    have z := zkd_at l (K / 256) p (Nat.lt_of_succ_lt_succ h) e.2
    show (l[p]'(Nat.lt_of_succ_lt_succ h)).toNat = K / 256 ^ (p + 1) % 256
    rw [Nat.pow_succ', ← Nat.div_div_eq_div_mul]
    exact z
def zkn (N K p b : Nat) : Bool := Nat.blt p N && Nat.beq (K / 256 ^ p % 256) b
theorem zkb {c : ByteArray} {N K p b : Nat} (h : zkd c.data.toList K = true) (hn : c.data.toList.length = N) (e : zkn N K p b = true) : zbyt c p b = true := by
  unfold zkn at e
  rw [Bool.and_eq_true] at e
  have q : p < c.data.toList.length := by rw [hn]; exact Nat.le_of_ble_eq_true e.1
  have z := zkd_at c.data.toList K p q h
  have q2 : p < c.size := q
  unfold zbyt
  rw [dif_pos q2]
  have r : c[p] = c.data.toList[p] := rfl
  rw [r, z]
  exact e.2
def zb2 (c : ByteArray) (p a b : Nat) : Bool := zbyt c p a && zbyt c (p + 1) b
def zb3 (c : ByteArray) (p a b d : Nat) : Bool := zbyt c p a && (zbyt c (p + 1) b && zbyt c (p + 2) d)
theorem zkb2 {c : ByteArray} {N K p a b : Nat} (h : zkd c.data.toList K = true) (hn : c.data.toList.length = N) (e : (zkn N K p a && zkn N K (p + 1) b) = true) : zb2 c p a b = true := by
  rw [Bool.and_eq_true] at e
  unfold zb2
  rw [zkb h hn e.1, zkb h hn e.2]
  rfl
theorem zkb3 {c : ByteArray} {N K p a b d : Nat} (h : zkd c.data.toList K = true) (hn : c.data.toList.length = N) (e : (zkn N K p a && (zkn N K (p + 1) b && zkn N K (p + 2) d)) = true) : zb3 c p a b d = true := by
  rw [Bool.and_eq_true, Bool.and_eq_true] at e
  unfold zb3
  rw [zkb h hn e.1, zkb h hn e.2.1, zkb h hn e.2.2]
  rfl
theorem zd_u1 {c : ByteArray} {pc b b1 : Nat} {I : Nat → Jvm.ClassFile.Instr} (k : ∀ s, zFx.1 pc b c s = Except.bind ((Jvm.ClassFile.Reader.u1 : Jvm.ClassFile.Decoder Nat) c s) (fun x => .ok (I x.1, x.2))) (h : zb2 c pc b b1 = true) : decode c pc = .ok (I b1, 2) := by
  unfold zb2 at h
  rw [Bool.and_eq_true] at h
  refine zd_0 h.1 ?_
  rw [k, z_u1 h.2]
  rfl
theorem zd_u2 {c : ByteArray} {pc b b1 b2 : Nat} {I : Nat → Jvm.ClassFile.Instr} (k : ∀ s, zFx.1 pc b c s = Except.bind ((Jvm.ClassFile.Reader.u2 : Jvm.ClassFile.Decoder Nat) c s) (fun x => .ok (I x.1, x.2))) (h : zb3 c pc b b1 b2 = true) : decode c pc = .ok (I (b1 * 256 + b2), 3) := by
  unfold zb3 at h
  rw [Bool.and_eq_true, Bool.and_eq_true] at h
  refine zd_0 h.1 ?_
  rw [k, z_u2 h.2.1 h.2.2]
  rfl
theorem zd_s1 {c : ByteArray} {pc b b1 : Nat} {I : Int → Jvm.ClassFile.Instr} (k : ∀ s, zFx.1 pc b c s = Except.bind (Except.bind ((Jvm.ClassFile.Reader.u1 : Jvm.ClassFile.Decoder Nat) c s) (fun x => .ok (Jvm.ClassFile.Reader.signed 8 x.1, x.2))) (fun x => .ok (I x.1, x.2))) (h : zb2 c pc b b1 = true) : decode c pc = .ok (I (Jvm.ClassFile.Reader.signed 8 b1), 2) := by
  unfold zb2 at h
  rw [Bool.and_eq_true] at h
  refine zd_0 h.1 ?_
  rw [k, z_u1 h.2]
  rfl
theorem zd_s2 {c : ByteArray} {pc b b1 b2 : Nat} {I : Int → Jvm.ClassFile.Instr} (k : ∀ s, zFx.1 pc b c s = Except.bind (Except.bind ((Jvm.ClassFile.Reader.u2 : Jvm.ClassFile.Decoder Nat) c s) (fun x => .ok (Jvm.ClassFile.Reader.signed 16 x.1, x.2))) (fun x => .ok (I x.1, x.2))) (h : zb3 c pc b b1 b2 = true) : decode c pc = .ok (I (Jvm.ClassFile.Reader.signed 16 (b1 * 256 + b2)), 3) := by
  unfold zb3 at h
  rw [Bool.and_eq_true, Bool.and_eq_true] at h
  refine zd_0 h.1 ?_
  rw [k, z_u2 h.2.1 h.2.2]
  rfl
theorem zo_132 {c : ByteArray} {pc b1 b2 : Nat} {v : Int} (h : zb3 c pc 132 b1 b2 = true) (e : Jvm.ClassFile.Reader.signed 8 b2 = v) : decode c pc = .ok (.iinc b1 v, 3) := by
  unfold zb3 at h
  rw [Bool.and_eq_true, Bool.and_eq_true] at h
  refine zd_0 h.1 ?_
  have k : zFx.1 pc 132 c (pc + 1) = Except.bind ((Jvm.ClassFile.Reader.u1 : Jvm.ClassFile.Decoder Nat) c (pc + 1)) (fun x => Except.bind (Except.bind ((Jvm.ClassFile.Reader.u1 : Jvm.ClassFile.Decoder Nat) c x.2) (fun y => .ok (Jvm.ClassFile.Reader.signed 8 y.1, y.2))) (fun y => .ok (.iinc x.1 y.1, y.2))) := rfl
  rw [k, z_u1 h.2.1]
  show Except.bind (Except.bind ((Jvm.ClassFile.Reader.u1 : Jvm.ClassFile.Decoder Nat) c (pc + 1 + 1)) _) _ = _
  rw [z_u1 h.2.2, ← e]
  rfl
theorem zo_16 {c : ByteArray} {pc b1 : Nat} {v : Int} (h : zb2 c pc 16 b1 = true) (e : Jvm.ClassFile.Reader.signed 8 b1 = v) : decode c pc = .ok (.bipush v, 2) := by
  subst e
  exact zd_s1 (I := .bipush) (fun _ => rfl) h
theorem zo_1 {c : ByteArray} {pc : Nat} (h : zbyt c pc 1 = true) : decode c pc = .ok (.aconst_null, 1) := zd_0 h rfl
theorem zo_2 {c : ByteArray} {pc : Nat} (h : zbyt c pc 2 = true) : decode c pc = .ok (.iconst (-1), 1) := zd_0 h rfl
theorem zo_3 {c : ByteArray} {pc : Nat} (h : zbyt c pc 3 = true) : decode c pc = .ok (.iconst 0, 1) := zd_0 h rfl
theorem zo_4 {c : ByteArray} {pc : Nat} (h : zbyt c pc 4 = true) : decode c pc = .ok (.iconst 1, 1) := zd_0 h rfl
theorem zo_5 {c : ByteArray} {pc : Nat} (h : zbyt c pc 5 = true) : decode c pc = .ok (.iconst 2, 1) := zd_0 h rfl
theorem zo_6 {c : ByteArray} {pc : Nat} (h : zbyt c pc 6 = true) : decode c pc = .ok (.iconst 3, 1) := zd_0 h rfl
theorem zo_7 {c : ByteArray} {pc : Nat} (h : zbyt c pc 7 = true) : decode c pc = .ok (.iconst 4, 1) := zd_0 h rfl
theorem zo_8 {c : ByteArray} {pc : Nat} (h : zbyt c pc 8 = true) : decode c pc = .ok (.iconst 5, 1) := zd_0 h rfl
theorem zo_9 {c : ByteArray} {pc : Nat} (h : zbyt c pc 9 = true) : decode c pc = .ok (.lconst 0, 1) := zd_0 h rfl
theorem zo_10 {c : ByteArray} {pc : Nat} (h : zbyt c pc 10 = true) : decode c pc = .ok (.lconst 1, 1) := zd_0 h rfl
theorem zo_26 {c : ByteArray} {pc : Nat} (h : zbyt c pc 26 = true) : decode c pc = .ok (.iload_n 0, 1) := zd_0 h rfl
theorem zo_27 {c : ByteArray} {pc : Nat} (h : zbyt c pc 27 = true) : decode c pc = .ok (.iload_n 1, 1) := zd_0 h rfl
theorem zo_28 {c : ByteArray} {pc : Nat} (h : zbyt c pc 28 = true) : decode c pc = .ok (.iload_n 2, 1) := zd_0 h rfl
theorem zo_29 {c : ByteArray} {pc : Nat} (h : zbyt c pc 29 = true) : decode c pc = .ok (.iload_n 3, 1) := zd_0 h rfl
theorem zo_30 {c : ByteArray} {pc : Nat} (h : zbyt c pc 30 = true) : decode c pc = .ok (.lload_n 0, 1) := zd_0 h rfl
theorem zo_31 {c : ByteArray} {pc : Nat} (h : zbyt c pc 31 = true) : decode c pc = .ok (.lload_n 1, 1) := zd_0 h rfl
theorem zo_32 {c : ByteArray} {pc : Nat} (h : zbyt c pc 32 = true) : decode c pc = .ok (.lload_n 2, 1) := zd_0 h rfl
theorem zo_33 {c : ByteArray} {pc : Nat} (h : zbyt c pc 33 = true) : decode c pc = .ok (.lload_n 3, 1) := zd_0 h rfl
theorem zo_42 {c : ByteArray} {pc : Nat} (h : zbyt c pc 42 = true) : decode c pc = .ok (.aload_n 0, 1) := zd_0 h rfl
theorem zo_43 {c : ByteArray} {pc : Nat} (h : zbyt c pc 43 = true) : decode c pc = .ok (.aload_n 1, 1) := zd_0 h rfl
theorem zo_44 {c : ByteArray} {pc : Nat} (h : zbyt c pc 44 = true) : decode c pc = .ok (.aload_n 2, 1) := zd_0 h rfl
theorem zo_45 {c : ByteArray} {pc : Nat} (h : zbyt c pc 45 = true) : decode c pc = .ok (.aload_n 3, 1) := zd_0 h rfl
theorem zo_46 {c : ByteArray} {pc : Nat} (h : zbyt c pc 46 = true) : decode c pc = .ok (.iaload, 1) := zd_0 h rfl
theorem zo_47 {c : ByteArray} {pc : Nat} (h : zbyt c pc 47 = true) : decode c pc = .ok (.laload, 1) := zd_0 h rfl
theorem zo_51 {c : ByteArray} {pc : Nat} (h : zbyt c pc 51 = true) : decode c pc = .ok (.baload, 1) := zd_0 h rfl
theorem zo_59 {c : ByteArray} {pc : Nat} (h : zbyt c pc 59 = true) : decode c pc = .ok (.istore_n 0, 1) := zd_0 h rfl
theorem zo_60 {c : ByteArray} {pc : Nat} (h : zbyt c pc 60 = true) : decode c pc = .ok (.istore_n 1, 1) := zd_0 h rfl
theorem zo_61 {c : ByteArray} {pc : Nat} (h : zbyt c pc 61 = true) : decode c pc = .ok (.istore_n 2, 1) := zd_0 h rfl
theorem zo_62 {c : ByteArray} {pc : Nat} (h : zbyt c pc 62 = true) : decode c pc = .ok (.istore_n 3, 1) := zd_0 h rfl
theorem zo_63 {c : ByteArray} {pc : Nat} (h : zbyt c pc 63 = true) : decode c pc = .ok (.lstore_n 0, 1) := zd_0 h rfl
theorem zo_64 {c : ByteArray} {pc : Nat} (h : zbyt c pc 64 = true) : decode c pc = .ok (.lstore_n 1, 1) := zd_0 h rfl
theorem zo_65 {c : ByteArray} {pc : Nat} (h : zbyt c pc 65 = true) : decode c pc = .ok (.lstore_n 2, 1) := zd_0 h rfl
theorem zo_66 {c : ByteArray} {pc : Nat} (h : zbyt c pc 66 = true) : decode c pc = .ok (.lstore_n 3, 1) := zd_0 h rfl
theorem zo_75 {c : ByteArray} {pc : Nat} (h : zbyt c pc 75 = true) : decode c pc = .ok (.astore_n 0, 1) := zd_0 h rfl
theorem zo_76 {c : ByteArray} {pc : Nat} (h : zbyt c pc 76 = true) : decode c pc = .ok (.astore_n 1, 1) := zd_0 h rfl
theorem zo_77 {c : ByteArray} {pc : Nat} (h : zbyt c pc 77 = true) : decode c pc = .ok (.astore_n 2, 1) := zd_0 h rfl
theorem zo_78 {c : ByteArray} {pc : Nat} (h : zbyt c pc 78 = true) : decode c pc = .ok (.astore_n 3, 1) := zd_0 h rfl
theorem zo_79 {c : ByteArray} {pc : Nat} (h : zbyt c pc 79 = true) : decode c pc = .ok (.iastore, 1) := zd_0 h rfl
theorem zo_80 {c : ByteArray} {pc : Nat} (h : zbyt c pc 80 = true) : decode c pc = .ok (.lastore, 1) := zd_0 h rfl
theorem zo_84 {c : ByteArray} {pc : Nat} (h : zbyt c pc 84 = true) : decode c pc = .ok (.bastore, 1) := zd_0 h rfl
theorem zo_87 {c : ByteArray} {pc : Nat} (h : zbyt c pc 87 = true) : decode c pc = .ok (.pop, 1) := zd_0 h rfl
theorem zo_89 {c : ByteArray} {pc : Nat} (h : zbyt c pc 89 = true) : decode c pc = .ok (.dup, 1) := zd_0 h rfl
theorem zo_92 {c : ByteArray} {pc : Nat} (h : zbyt c pc 92 = true) : decode c pc = .ok (.dup2, 1) := zd_0 h rfl
theorem zo_96 {c : ByteArray} {pc : Nat} (h : zbyt c pc 96 = true) : decode c pc = .ok (.iadd, 1) := zd_0 h rfl
theorem zo_97 {c : ByteArray} {pc : Nat} (h : zbyt c pc 97 = true) : decode c pc = .ok (.ladd, 1) := zd_0 h rfl
theorem zo_100 {c : ByteArray} {pc : Nat} (h : zbyt c pc 100 = true) : decode c pc = .ok (.isub, 1) := zd_0 h rfl
theorem zo_101 {c : ByteArray} {pc : Nat} (h : zbyt c pc 101 = true) : decode c pc = .ok (.lsub, 1) := zd_0 h rfl
theorem zo_104 {c : ByteArray} {pc : Nat} (h : zbyt c pc 104 = true) : decode c pc = .ok (.imul, 1) := zd_0 h rfl
theorem zo_105 {c : ByteArray} {pc : Nat} (h : zbyt c pc 105 = true) : decode c pc = .ok (.lmul, 1) := zd_0 h rfl
theorem zo_108 {c : ByteArray} {pc : Nat} (h : zbyt c pc 108 = true) : decode c pc = .ok (.idiv, 1) := zd_0 h rfl
theorem zo_109 {c : ByteArray} {pc : Nat} (h : zbyt c pc 109 = true) : decode c pc = .ok (.ldiv, 1) := zd_0 h rfl
theorem zo_112 {c : ByteArray} {pc : Nat} (h : zbyt c pc 112 = true) : decode c pc = .ok (.irem, 1) := zd_0 h rfl
theorem zo_113 {c : ByteArray} {pc : Nat} (h : zbyt c pc 113 = true) : decode c pc = .ok (.lrem, 1) := zd_0 h rfl
theorem zo_116 {c : ByteArray} {pc : Nat} (h : zbyt c pc 116 = true) : decode c pc = .ok (.ineg, 1) := zd_0 h rfl
theorem zo_120 {c : ByteArray} {pc : Nat} (h : zbyt c pc 120 = true) : decode c pc = .ok (.ishl, 1) := zd_0 h rfl
theorem zo_121 {c : ByteArray} {pc : Nat} (h : zbyt c pc 121 = true) : decode c pc = .ok (.lshl, 1) := zd_0 h rfl
theorem zo_122 {c : ByteArray} {pc : Nat} (h : zbyt c pc 122 = true) : decode c pc = .ok (.ishr, 1) := zd_0 h rfl
theorem zo_123 {c : ByteArray} {pc : Nat} (h : zbyt c pc 123 = true) : decode c pc = .ok (.lshr, 1) := zd_0 h rfl
theorem zo_124 {c : ByteArray} {pc : Nat} (h : zbyt c pc 124 = true) : decode c pc = .ok (.iushr, 1) := zd_0 h rfl
theorem zo_125 {c : ByteArray} {pc : Nat} (h : zbyt c pc 125 = true) : decode c pc = .ok (.lushr, 1) := zd_0 h rfl
theorem zo_126 {c : ByteArray} {pc : Nat} (h : zbyt c pc 126 = true) : decode c pc = .ok (.iand, 1) := zd_0 h rfl
theorem zo_127 {c : ByteArray} {pc : Nat} (h : zbyt c pc 127 = true) : decode c pc = .ok (.land, 1) := zd_0 h rfl
theorem zo_128 {c : ByteArray} {pc : Nat} (h : zbyt c pc 128 = true) : decode c pc = .ok (.ior, 1) := zd_0 h rfl
theorem zo_129 {c : ByteArray} {pc : Nat} (h : zbyt c pc 129 = true) : decode c pc = .ok (.lor, 1) := zd_0 h rfl
theorem zo_130 {c : ByteArray} {pc : Nat} (h : zbyt c pc 130 = true) : decode c pc = .ok (.ixor, 1) := zd_0 h rfl
theorem zo_131 {c : ByteArray} {pc : Nat} (h : zbyt c pc 131 = true) : decode c pc = .ok (.lxor, 1) := zd_0 h rfl
theorem zo_133 {c : ByteArray} {pc : Nat} (h : zbyt c pc 133 = true) : decode c pc = .ok (.i2l, 1) := zd_0 h rfl
theorem zo_136 {c : ByteArray} {pc : Nat} (h : zbyt c pc 136 = true) : decode c pc = .ok (.l2i, 1) := zd_0 h rfl
theorem zo_145 {c : ByteArray} {pc : Nat} (h : zbyt c pc 145 = true) : decode c pc = .ok (.i2b, 1) := zd_0 h rfl
theorem zo_146 {c : ByteArray} {pc : Nat} (h : zbyt c pc 146 = true) : decode c pc = .ok (.i2c, 1) := zd_0 h rfl
theorem zo_148 {c : ByteArray} {pc : Nat} (h : zbyt c pc 148 = true) : decode c pc = .ok (.lcmp, 1) := zd_0 h rfl
theorem zo_172 {c : ByteArray} {pc : Nat} (h : zbyt c pc 172 = true) : decode c pc = .ok (.ireturn, 1) := zd_0 h rfl
theorem zo_173 {c : ByteArray} {pc : Nat} (h : zbyt c pc 173 = true) : decode c pc = .ok (.lreturn, 1) := zd_0 h rfl
theorem zo_176 {c : ByteArray} {pc : Nat} (h : zbyt c pc 176 = true) : decode c pc = .ok (.areturn, 1) := zd_0 h rfl
theorem zo_177 {c : ByteArray} {pc : Nat} (h : zbyt c pc 177 = true) : decode c pc = .ok (.return_, 1) := zd_0 h rfl
theorem zo_190 {c : ByteArray} {pc : Nat} (h : zbyt c pc 190 = true) : decode c pc = .ok (.arraylength, 1) := zd_0 h rfl
theorem zo_191 {c : ByteArray} {pc : Nat} (h : zbyt c pc 191 = true) : decode c pc = .ok (.athrow, 1) := zd_0 h rfl
theorem zo_18 {c : ByteArray} {pc b1 : Nat} (h : zb2 c pc 18 b1 = true) : decode c pc = .ok (.ldc b1, 2) := zd_u1 (I := .ldc) (fun _ => rfl) h
theorem zo_21 {c : ByteArray} {pc b1 : Nat} (h : zb2 c pc 21 b1 = true) : decode c pc = .ok (.iload b1, 2) := zd_u1 (I := .iload) (fun _ => rfl) h
theorem zo_22 {c : ByteArray} {pc b1 : Nat} (h : zb2 c pc 22 b1 = true) : decode c pc = .ok (.lload b1, 2) := zd_u1 (I := .lload) (fun _ => rfl) h
theorem zo_25 {c : ByteArray} {pc b1 : Nat} (h : zb2 c pc 25 b1 = true) : decode c pc = .ok (.aload b1, 2) := zd_u1 (I := .aload) (fun _ => rfl) h
theorem zo_54 {c : ByteArray} {pc b1 : Nat} (h : zb2 c pc 54 b1 = true) : decode c pc = .ok (.istore b1, 2) := zd_u1 (I := .istore) (fun _ => rfl) h
theorem zo_55 {c : ByteArray} {pc b1 : Nat} (h : zb2 c pc 55 b1 = true) : decode c pc = .ok (.lstore b1, 2) := zd_u1 (I := .lstore) (fun _ => rfl) h
theorem zo_58 {c : ByteArray} {pc b1 : Nat} (h : zb2 c pc 58 b1 = true) : decode c pc = .ok (.astore b1, 2) := zd_u1 (I := .astore) (fun _ => rfl) h
theorem zo_19 {c : ByteArray} {pc b1 b2 n : Nat} (h : zb3 c pc 19 b1 b2 = true) (e : b1 * 256 + b2 = n) : decode c pc = .ok (.ldc_w n, 3) := by
  subst e
  exact zd_u2 (I := .ldc_w) (fun _ => rfl) h
theorem zo_178 {c : ByteArray} {pc b1 b2 n : Nat} (h : zb3 c pc 178 b1 b2 = true) (e : b1 * 256 + b2 = n) : decode c pc = .ok (.getstatic n, 3) := by
  subst e
  exact zd_u2 (I := .getstatic) (fun _ => rfl) h
theorem zo_180 {c : ByteArray} {pc b1 b2 n : Nat} (h : zb3 c pc 180 b1 b2 = true) (e : b1 * 256 + b2 = n) : decode c pc = .ok (.getfield n, 3) := by
  subst e
  exact zd_u2 (I := .getfield) (fun _ => rfl) h
theorem zo_181 {c : ByteArray} {pc b1 b2 n : Nat} (h : zb3 c pc 181 b1 b2 = true) (e : b1 * 256 + b2 = n) : decode c pc = .ok (.putfield n, 3) := by
  subst e
  exact zd_u2 (I := .putfield) (fun _ => rfl) h
theorem zo_182 {c : ByteArray} {pc b1 b2 n : Nat} (h : zb3 c pc 182 b1 b2 = true) (e : b1 * 256 + b2 = n) : decode c pc = .ok (.invokevirtual n, 3) := by
  subst e
  exact zd_u2 (I := .invokevirtual) (fun _ => rfl) h
theorem zo_183 {c : ByteArray} {pc b1 b2 n : Nat} (h : zb3 c pc 183 b1 b2 = true) (e : b1 * 256 + b2 = n) : decode c pc = .ok (.invokespecial n, 3) := by
  subst e
  exact zd_u2 (I := .invokespecial) (fun _ => rfl) h
theorem zo_184 {c : ByteArray} {pc b1 b2 n : Nat} (h : zb3 c pc 184 b1 b2 = true) (e : b1 * 256 + b2 = n) : decode c pc = .ok (.invokestatic n, 3) := by
  subst e
  exact zd_u2 (I := .invokestatic) (fun _ => rfl) h
theorem zo_187 {c : ByteArray} {pc b1 b2 n : Nat} (h : zb3 c pc 187 b1 b2 = true) (e : b1 * 256 + b2 = n) : decode c pc = .ok (.new n, 3) := by
  subst e
  exact zd_u2 (I := .new) (fun _ => rfl) h
theorem zo_17 {c : ByteArray} {pc b1 b2 : Nat} {v : Int} (h : zb3 c pc 17 b1 b2 = true) (e : Jvm.ClassFile.Reader.signed 16 (b1 * 256 + b2) = v) : decode c pc = .ok (.sipush v, 3) := by
  subst e
  exact zd_s2 (I := .sipush) (fun _ => rfl) h
theorem zo_153 {c : ByteArray} {pc b1 b2 : Nat} {v : Int} (h : zb3 c pc 153 b1 b2 = true) (e : Jvm.ClassFile.Reader.signed 16 (b1 * 256 + b2) = v) : decode c pc = .ok (.ifCond .eq v, 3) := by
  subst e
  exact zd_s2 (I := .ifCond .eq) (fun _ => rfl) h
theorem zo_154 {c : ByteArray} {pc b1 b2 : Nat} {v : Int} (h : zb3 c pc 154 b1 b2 = true) (e : Jvm.ClassFile.Reader.signed 16 (b1 * 256 + b2) = v) : decode c pc = .ok (.ifCond .ne v, 3) := by
  subst e
  exact zd_s2 (I := .ifCond .ne) (fun _ => rfl) h
theorem zo_155 {c : ByteArray} {pc b1 b2 : Nat} {v : Int} (h : zb3 c pc 155 b1 b2 = true) (e : Jvm.ClassFile.Reader.signed 16 (b1 * 256 + b2) = v) : decode c pc = .ok (.ifCond .lt v, 3) := by
  subst e
  exact zd_s2 (I := .ifCond .lt) (fun _ => rfl) h
theorem zo_156 {c : ByteArray} {pc b1 b2 : Nat} {v : Int} (h : zb3 c pc 156 b1 b2 = true) (e : Jvm.ClassFile.Reader.signed 16 (b1 * 256 + b2) = v) : decode c pc = .ok (.ifCond .ge v, 3) := by
  subst e
  exact zd_s2 (I := .ifCond .ge) (fun _ => rfl) h
theorem zo_157 {c : ByteArray} {pc b1 b2 : Nat} {v : Int} (h : zb3 c pc 157 b1 b2 = true) (e : Jvm.ClassFile.Reader.signed 16 (b1 * 256 + b2) = v) : decode c pc = .ok (.ifCond .gt v, 3) := by
  subst e
  exact zd_s2 (I := .ifCond .gt) (fun _ => rfl) h
theorem zo_158 {c : ByteArray} {pc b1 b2 : Nat} {v : Int} (h : zb3 c pc 158 b1 b2 = true) (e : Jvm.ClassFile.Reader.signed 16 (b1 * 256 + b2) = v) : decode c pc = .ok (.ifCond .le v, 3) := by
  subst e
  exact zd_s2 (I := .ifCond .le) (fun _ => rfl) h
theorem zo_159 {c : ByteArray} {pc b1 b2 : Nat} {v : Int} (h : zb3 c pc 159 b1 b2 = true) (e : Jvm.ClassFile.Reader.signed 16 (b1 * 256 + b2) = v) : decode c pc = .ok (.if_icmp .eq v, 3) := by
  subst e
  exact zd_s2 (I := .if_icmp .eq) (fun _ => rfl) h
theorem zo_160 {c : ByteArray} {pc b1 b2 : Nat} {v : Int} (h : zb3 c pc 160 b1 b2 = true) (e : Jvm.ClassFile.Reader.signed 16 (b1 * 256 + b2) = v) : decode c pc = .ok (.if_icmp .ne v, 3) := by
  subst e
  exact zd_s2 (I := .if_icmp .ne) (fun _ => rfl) h
theorem zo_161 {c : ByteArray} {pc b1 b2 : Nat} {v : Int} (h : zb3 c pc 161 b1 b2 = true) (e : Jvm.ClassFile.Reader.signed 16 (b1 * 256 + b2) = v) : decode c pc = .ok (.if_icmp .lt v, 3) := by
  subst e
  exact zd_s2 (I := .if_icmp .lt) (fun _ => rfl) h
theorem zo_162 {c : ByteArray} {pc b1 b2 : Nat} {v : Int} (h : zb3 c pc 162 b1 b2 = true) (e : Jvm.ClassFile.Reader.signed 16 (b1 * 256 + b2) = v) : decode c pc = .ok (.if_icmp .ge v, 3) := by
  subst e
  exact zd_s2 (I := .if_icmp .ge) (fun _ => rfl) h
theorem zo_163 {c : ByteArray} {pc b1 b2 : Nat} {v : Int} (h : zb3 c pc 163 b1 b2 = true) (e : Jvm.ClassFile.Reader.signed 16 (b1 * 256 + b2) = v) : decode c pc = .ok (.if_icmp .gt v, 3) := by
  subst e
  exact zd_s2 (I := .if_icmp .gt) (fun _ => rfl) h
theorem zo_164 {c : ByteArray} {pc b1 b2 : Nat} {v : Int} (h : zb3 c pc 164 b1 b2 = true) (e : Jvm.ClassFile.Reader.signed 16 (b1 * 256 + b2) = v) : decode c pc = .ok (.if_icmp .le v, 3) := by
  subst e
  exact zd_s2 (I := .if_icmp .le) (fun _ => rfl) h
theorem zo_167 {c : ByteArray} {pc b1 b2 : Nat} {v : Int} (h : zb3 c pc 167 b1 b2 = true) (e : Jvm.ClassFile.Reader.signed 16 (b1 * 256 + b2) = v) : decode c pc = .ok (.goto v, 3) := by
  subst e
  exact zd_s2 (I := .goto) (fun _ => rfl) h
