/-! ===== the bytes of a method, read once (laid by wip/tools/mk34d.py) ===== -/
section DB
variable {code : ByteArray} {pc c : Nat} {b b1 b2 : UInt8} {r : List UInt8}
theorem d_sz (h : code.data.toList.drop pc = b :: r) : pc < code.size := by
  have w := congrArg List.length h
  rw [List.length_drop, List.length_cons, Array.length_toList] at w
  show pc < code.data.size
  omega
theorem d_gt (h : code.data.toList.drop pc = b :: r) (hl : pc < code.size) : code[pc]'hl = b := by
  have w : code.data.toList[pc]? = some b := by
    rw [← List.head?_drop, h]
    rfl
  obtain ⟨w1, w2⟩ := List.getElem?_eq_some_iff.mp w
  show code.data[pc]'hl = b
  rw [← Array.getElem_toList]
  exact w2
theorem d_tl (h : code.data.toList.drop pc = b :: r) : code.data.toList.drop (pc + 1) = r := by
  rw [← List.tail_drop, h]
  rfl
theorem d_u1 (h : code.data.toList.drop pc = b :: r) : (Jvm.ClassFile.Reader.u1 : Jvm.ClassFile.Decoder Nat) code pc = .ok (b.toNat, pc + 1) := by
  have hl := d_sz h
  have hg := d_gt h hl
  unfold Jvm.ClassFile.Reader.u1
  show ((if h : pc < code.size then (do set (pc + 1); Pure.pure (code[pc]'h).toNat) else throw (Jvm.ClassFile.HasTruncated.truncated pc) : Jvm.ClassFile.Decoder Nat) code pc) = _
  rw [dif_pos hl]
  show Except.ok ((code[pc]'hl).toNat, pc + 1) = _
  rw [hg]
theorem d_bd {α β : Type} {m : Jvm.ClassFile.Decoder α} {G : α → Jvm.ClassFile.Decoder β} {a : α} {s : Nat} (hu : m code pc = .ok (a, s)) : (m >>= G) code pc = G a code s := by
  show Except.bind (m code pc) (fun p => G p.1 code p.2) = _
  rw [hu]
  rfl
theorem d_s1 (h : code.data.toList.drop pc = b :: r) : (Jvm.ClassFile.Reader.s1 : Jvm.ClassFile.Decoder Int) code pc = .ok (Jvm.ClassFile.Reader.signed 8 b.toNat, pc + 1) := by
  unfold Jvm.ClassFile.Reader.s1
  show Except.map (fun p : Nat × Nat => (Jvm.ClassFile.Reader.signed 8 p.1, p.2)) ((Jvm.ClassFile.Reader.u1 : Jvm.ClassFile.Decoder Nat) code pc) = _
  rw [d_u1 h]
  rfl
theorem d_u2 (h : code.data.toList.drop pc = b1 :: b2 :: r) : (Jvm.ClassFile.Reader.u2 : Jvm.ClassFile.Decoder Nat) code pc = .ok (b1.toNat * 256 + b2.toNat, pc + 2) := by
  unfold Jvm.ClassFile.Reader.u2
  rw [d_bd (d_u1 h), d_bd (d_u1 (d_tl h))]
  rfl
theorem d_s2 (h : code.data.toList.drop pc = b1 :: b2 :: r) : (Jvm.ClassFile.Reader.s2 : Jvm.ClassFile.Decoder Int) code pc = .ok (Jvm.ClassFile.Reader.signed 16 (b1.toNat * 256 + b2.toNat), pc + 2) := by
  unfold Jvm.ClassFile.Reader.s2
  show Except.map (fun p : Nat × Nat => (Jvm.ClassFile.Reader.signed 16 p.1, p.2)) ((Jvm.ClassFile.Reader.u2 : Jvm.ClassFile.Decoder Nat) code pc) = _
  rw [d_u2 h]
  rfl
/-- what an instruction's first byte chooses -/
def d_F : {F : Nat → Nat → Jvm.ClassFile.Decoder Instr // ∀ pc, Jvm.ClassFile.Decoder.instr pc = (Jvm.ClassFile.Reader.u1 >>= F pc)} := ⟨_, fun _ => rfl⟩
def d_N : {F : Nat → Nat → Jvm.ClassFile.Decoder Instr // ∀ pc, Jvm.ClassFile.Decoder.newarray pc = (Jvm.ClassFile.Reader.u1 >>= F pc)} := ⟨_, fun _ => rfl⟩
theorem d_dec (h : code.data.toList.drop pc = b :: r) {i : Instr} {n : Nat} (hF : d_F.1 pc b.toNat code (pc + 1) = .ok (i, pc + n)) : decode code pc = .ok (i, n) := by
  show Except.bind ((Jvm.ClassFile.Decoder.instr pc) code pc) (fun p => Except.ok (p.1, p.2 - pc)) = _
  rw [d_F.2, d_bd (d_u1 h), hF]
  show Except.ok (i, pc + n - pc) = _
  rw [Nat.add_sub_cancel_left]
theorem d_0 {i : Instr} (hF : ∀ pc, d_F.1 pc c = Pure.pure i) (h : code.data.toList.drop pc = b :: r) (hb : b.toNat = c) : decode code pc = .ok (i, 1) := d_dec h (by
  rw [hb, hF]
  rfl)
theorem d_1 {g : Nat → Instr} (hF : ∀ pc, d_F.1 pc c = (Jvm.ClassFile.Reader.u1 >>= fun x => Pure.pure (g x))) (h : code.data.toList.drop pc = b :: b1 :: r) (hb : b.toNat = c) {x : Nat} (hx : (b1.toNat : Int) = (x : Int)) : decode code pc = .ok (g x, 2) := d_dec h (by
  rw [hb, hF, d_bd (d_u1 (d_tl h)), Int.ofNat.inj hx]
  rfl)
theorem d_1s {g : Int → Instr} (hF : ∀ pc, d_F.1 pc c = (Jvm.ClassFile.Reader.s1 >>= fun x => Pure.pure (g x))) (h : code.data.toList.drop pc = b :: b1 :: r) (hb : b.toNat = c) {x : Int} (hx : Jvm.ClassFile.Reader.signed 8 b1.toNat = x) : decode code pc = .ok (g x, 2) := d_dec h (by
  rw [hb, hF, d_bd (d_s1 (d_tl h)), hx]
  rfl)
theorem d_2 {g : Nat → Instr} (hF : ∀ pc, d_F.1 pc c = (Jvm.ClassFile.Reader.u2 >>= fun x => Pure.pure (g x))) (h : code.data.toList.drop pc = b :: b1 :: b2 :: r) (hb : b.toNat = c) {x : Nat} (hx : ((b1.toNat * 256 + b2.toNat : Nat) : Int) = (x : Int)) : decode code pc = .ok (g x, 3) := d_dec h (by
  rw [hb, hF, d_bd (d_u2 (d_tl h)), Int.ofNat.inj hx]
  rfl)
theorem d_2s {g : Int → Instr} (hF : ∀ pc, d_F.1 pc c = (Jvm.ClassFile.Reader.s2 >>= fun x => Pure.pure (g x))) (h : code.data.toList.drop pc = b :: b1 :: b2 :: r) (hb : b.toNat = c) {x : Int} (hx : Jvm.ClassFile.Reader.signed 16 (b1.toNat * 256 + b2.toNat) = x) : decode code pc = .ok (g x, 3) := d_dec h (by
  rw [hb, hF, d_bd (d_s2 (d_tl h)), hx]
  rfl)
theorem d_ii {x : Nat} {y : Int} (h : code.data.toList.drop pc = b :: b1 :: b2 :: r) (hb : b.toNat = 132) (hx : (b1.toNat : Int) = (x : Int)) (hy : Jvm.ClassFile.Reader.signed 8 b2.toNat = y) : decode code pc = .ok (.iinc x y, 3) := d_dec h (by
  rw [hb, show d_F.1 pc 132 = (Jvm.ClassFile.Reader.u1 >>= fun x => Jvm.ClassFile.Reader.s1 >>= fun y => Pure.pure (.iinc x y)) from rfl, d_bd (d_u1 (d_tl h)), d_bd (d_s1 (d_tl (d_tl h))), Int.ofNat.inj hx, hy]
  rfl)
theorem d_na {t : Jvm.ClassFile.ArrayType} (hN : ∀ pc, d_N.1 pc c = Pure.pure (.newarray t)) (h : code.data.toList.drop pc = b :: b1 :: r) (hb : b.toNat = 188) (hx : (b1.toNat : Int) = (c : Int)) : decode code pc = .ok (.newarray t, 2) := d_dec h (by
  rw [hb, show d_F.1 pc 188 = Jvm.ClassFile.Decoder.newarray pc from rfl, d_N.2, d_bd (d_u1 (d_tl h)), Int.ofNat.inj hx, hN]
  rfl)
end DB
/-- an instruction's form: how its operands are written, its first byte, its operands -/
def a_fm (i : Instr) : Option (Nat × Nat × Int × Int) := match i with
  | .iaload => some (0, 46, 0, 0)
  | .laload => some (0, 47, 0, 0)
  | .aaload => some (0, 50, 0, 0)
  | .baload => some (0, 51, 0, 0)
  | .caload => some (0, 52, 0, 0)
  | .iastore => some (0, 79, 0, 0)
  | .lastore => some (0, 80, 0, 0)
  | .aastore => some (0, 83, 0, 0)
  | .bastore => some (0, 84, 0, 0)
  | .castore => some (0, 85, 0, 0)
  | .pop => some (0, 87, 0, 0)
  | .dup => some (0, 89, 0, 0)
  | .dup2 => some (0, 92, 0, 0)
  | .iadd => some (0, 96, 0, 0)
  | .ladd => some (0, 97, 0, 0)
  | .isub => some (0, 100, 0, 0)
  | .lsub => some (0, 101, 0, 0)
  | .imul => some (0, 104, 0, 0)
  | .lmul => some (0, 105, 0, 0)
  | .idiv => some (0, 108, 0, 0)
  | .ldiv => some (0, 109, 0, 0)
  | .irem => some (0, 112, 0, 0)
  | .lrem => some (0, 113, 0, 0)
  | .ineg => some (0, 116, 0, 0)
  | .lneg => some (0, 117, 0, 0)
  | .ishl => some (0, 120, 0, 0)
  | .lshl => some (0, 121, 0, 0)
  | .ishr => some (0, 122, 0, 0)
  | .lshr => some (0, 123, 0, 0)
  | .iushr => some (0, 124, 0, 0)
  | .lushr => some (0, 125, 0, 0)
  | .iand => some (0, 126, 0, 0)
  | .land => some (0, 127, 0, 0)
  | .ior => some (0, 128, 0, 0)
  | .lor => some (0, 129, 0, 0)
  | .ixor => some (0, 130, 0, 0)
  | .lxor => some (0, 131, 0, 0)
  | .i2l => some (0, 133, 0, 0)
  | .l2i => some (0, 136, 0, 0)
  | .i2b => some (0, 145, 0, 0)
  | .i2c => some (0, 146, 0, 0)
  | .i2s => some (0, 147, 0, 0)
  | .lcmp => some (0, 148, 0, 0)
  | .ireturn => some (0, 172, 0, 0)
  | .lreturn => some (0, 173, 0, 0)
  | .areturn => some (0, 176, 0, 0)
  | .return_ => some (0, 177, 0, 0)
  | .arraylength => some (0, 190, 0, 0)
  | .athrow => some (0, 191, 0, 0)
  | .iload_n n => some (0, 26 + n.1, 0, 0)
  | .lload_n n => some (0, 30 + n.1, 0, 0)
  | .aload_n n => some (0, 42 + n.1, 0, 0)
  | .istore_n n => some (0, 59 + n.1, 0, 0)
  | .lstore_n n => some (0, 63 + n.1, 0, 0)
  | .astore_n n => some (0, 75 + n.1, 0, 0)
  | .lconst n => some (0, 9 + n.1, 0, 0)
  | .iconst v => if v = -1 then some (0, 2, 0, 0) else if v = 0 then some (0, 3, 0, 0) else if v = 1 then some (0, 4, 0, 0) else if v = 2 then some (0, 5, 0, 0) else if v = 3 then some (0, 6, 0, 0) else if v = 4 then some (0, 7, 0, 0) else if v = 5 then some (0, 8, 0, 0) else none
  | .ldc x => some (1, 18, x, 0)
  | .iload x => some (1, 21, x, 0)
  | .lload x => some (1, 22, x, 0)
  | .aload x => some (1, 25, x, 0)
  | .istore x => some (1, 54, x, 0)
  | .lstore x => some (1, 55, x, 0)
  | .astore x => some (1, 58, x, 0)
  | .bipush x => some (2, 16, x, 0)
  | .ldc_w x => some (3, 19, x, 0)
  | .ldc2_w x => some (3, 20, x, 0)
  | .getstatic x => some (3, 178, x, 0)
  | .putstatic x => some (3, 179, x, 0)
  | .getfield x => some (3, 180, x, 0)
  | .putfield x => some (3, 181, x, 0)
  | .invokevirtual x => some (3, 182, x, 0)
  | .invokespecial x => some (3, 183, x, 0)
  | .invokestatic x => some (3, 184, x, 0)
  | .new x => some (3, 187, x, 0)
  | .anewarray x => some (3, 189, x, 0)
  | .sipush x => some (4, 17, x, 0)
  | .goto x => some (4, 167, x, 0)
  | .ifCond c x => some (4, (match c with | .eq => 153 | .ne => 154 | .lt => 155 | .ge => 156 | .gt => 157 | .le => 158), x, 0)
  | .if_icmp c x => some (4, (match c with | .eq => 159 | .ne => 160 | .lt => 161 | .ge => 162 | .gt => 163 | .le => 164), x, 0)
  | .newarray t => some (1, 188, (match t with | .boolean => 4 | .char => 5 | .float => 6 | .double => 7 | .byte => 8 | .short => 9 | .int => 10 | .long => 11), 0)
  | .iinc x y => some (5, 132, x, y)
  | _ => none
def a_P (i : Instr) : Option (Nat × Nat × Int × Int) → Prop
  | some (0, c, _, _) => ∀ (code : ByteArray) (pc : Nat) (b : UInt8) (r : List UInt8), code.data.toList.drop pc = b :: r → b.toNat = c → decode code pc = .ok (i, 1)
  | some (1, c, x, _) => ∀ (code : ByteArray) (pc : Nat) (b b1 : UInt8) (r : List UInt8), code.data.toList.drop pc = b :: b1 :: r → b.toNat = c → (b1.toNat : Int) = x → decode code pc = .ok (i, 2)
  | some (2, c, x, _) => ∀ (code : ByteArray) (pc : Nat) (b b1 : UInt8) (r : List UInt8), code.data.toList.drop pc = b :: b1 :: r → b.toNat = c → Jvm.ClassFile.Reader.signed 8 b1.toNat = x → decode code pc = .ok (i, 2)
  | some (3, c, x, _) => ∀ (code : ByteArray) (pc : Nat) (b b1 b2 : UInt8) (r : List UInt8), code.data.toList.drop pc = b :: b1 :: b2 :: r → b.toNat = c → ((b1.toNat * 256 + b2.toNat : Nat) : Int) = x → decode code pc = .ok (i, 3)
  | some (4, c, x, _) => ∀ (code : ByteArray) (pc : Nat) (b b1 b2 : UInt8) (r : List UInt8), code.data.toList.drop pc = b :: b1 :: b2 :: r → b.toNat = c → Jvm.ClassFile.Reader.signed 16 (b1.toNat * 256 + b2.toNat) = x → decode code pc = .ok (i, 3)
  | some (5, c, x, y) => ∀ (code : ByteArray) (pc : Nat) (b b1 b2 : UInt8) (r : List UInt8), code.data.toList.drop pc = b :: b1 :: b2 :: r → b.toNat = c → (b1.toNat : Int) = x → Jvm.ClassFile.Reader.signed 8 b2.toNat = y → decode code pc = .ok (i, 3)
  | _ => True
theorem a_fm_P (i : Instr) : a_P i (a_fm i) := by
  cases i with
  | iaload => exact fun _ _ _ _ h hb => d_0 (fun _ => rfl) h hb
  | laload => exact fun _ _ _ _ h hb => d_0 (fun _ => rfl) h hb
  | aaload => exact fun _ _ _ _ h hb => d_0 (fun _ => rfl) h hb
  | baload => exact fun _ _ _ _ h hb => d_0 (fun _ => rfl) h hb
  | caload => exact fun _ _ _ _ h hb => d_0 (fun _ => rfl) h hb
  | iastore => exact fun _ _ _ _ h hb => d_0 (fun _ => rfl) h hb
  | lastore => exact fun _ _ _ _ h hb => d_0 (fun _ => rfl) h hb
  | aastore => exact fun _ _ _ _ h hb => d_0 (fun _ => rfl) h hb
  | bastore => exact fun _ _ _ _ h hb => d_0 (fun _ => rfl) h hb
  | castore => exact fun _ _ _ _ h hb => d_0 (fun _ => rfl) h hb
  | pop => exact fun _ _ _ _ h hb => d_0 (fun _ => rfl) h hb
  | dup => exact fun _ _ _ _ h hb => d_0 (fun _ => rfl) h hb
  | dup2 => exact fun _ _ _ _ h hb => d_0 (fun _ => rfl) h hb
  | iadd => exact fun _ _ _ _ h hb => d_0 (fun _ => rfl) h hb
  | ladd => exact fun _ _ _ _ h hb => d_0 (fun _ => rfl) h hb
  | isub => exact fun _ _ _ _ h hb => d_0 (fun _ => rfl) h hb
  | lsub => exact fun _ _ _ _ h hb => d_0 (fun _ => rfl) h hb
  | imul => exact fun _ _ _ _ h hb => d_0 (fun _ => rfl) h hb
  | lmul => exact fun _ _ _ _ h hb => d_0 (fun _ => rfl) h hb
  | idiv => exact fun _ _ _ _ h hb => d_0 (fun _ => rfl) h hb
  | ldiv => exact fun _ _ _ _ h hb => d_0 (fun _ => rfl) h hb
  | irem => exact fun _ _ _ _ h hb => d_0 (fun _ => rfl) h hb
  | lrem => exact fun _ _ _ _ h hb => d_0 (fun _ => rfl) h hb
  | ineg => exact fun _ _ _ _ h hb => d_0 (fun _ => rfl) h hb
  | lneg => exact fun _ _ _ _ h hb => d_0 (fun _ => rfl) h hb
  | ishl => exact fun _ _ _ _ h hb => d_0 (fun _ => rfl) h hb
  | lshl => exact fun _ _ _ _ h hb => d_0 (fun _ => rfl) h hb
  | ishr => exact fun _ _ _ _ h hb => d_0 (fun _ => rfl) h hb
  | lshr => exact fun _ _ _ _ h hb => d_0 (fun _ => rfl) h hb
  | iushr => exact fun _ _ _ _ h hb => d_0 (fun _ => rfl) h hb
  | lushr => exact fun _ _ _ _ h hb => d_0 (fun _ => rfl) h hb
  | iand => exact fun _ _ _ _ h hb => d_0 (fun _ => rfl) h hb
  | land => exact fun _ _ _ _ h hb => d_0 (fun _ => rfl) h hb
  | ior => exact fun _ _ _ _ h hb => d_0 (fun _ => rfl) h hb
  | lor => exact fun _ _ _ _ h hb => d_0 (fun _ => rfl) h hb
  | ixor => exact fun _ _ _ _ h hb => d_0 (fun _ => rfl) h hb
  | lxor => exact fun _ _ _ _ h hb => d_0 (fun _ => rfl) h hb
  | i2l => exact fun _ _ _ _ h hb => d_0 (fun _ => rfl) h hb
  | l2i => exact fun _ _ _ _ h hb => d_0 (fun _ => rfl) h hb
  | i2b => exact fun _ _ _ _ h hb => d_0 (fun _ => rfl) h hb
  | i2c => exact fun _ _ _ _ h hb => d_0 (fun _ => rfl) h hb
  | i2s => exact fun _ _ _ _ h hb => d_0 (fun _ => rfl) h hb
  | lcmp => exact fun _ _ _ _ h hb => d_0 (fun _ => rfl) h hb
  | ireturn => exact fun _ _ _ _ h hb => d_0 (fun _ => rfl) h hb
  | lreturn => exact fun _ _ _ _ h hb => d_0 (fun _ => rfl) h hb
  | areturn => exact fun _ _ _ _ h hb => d_0 (fun _ => rfl) h hb
  | return_ => exact fun _ _ _ _ h hb => d_0 (fun _ => rfl) h hb
  | arraylength => exact fun _ _ _ _ h hb => d_0 (fun _ => rfl) h hb
  | athrow => exact fun _ _ _ _ h hb => d_0 (fun _ => rfl) h hb
  | iload_n n => match n with
    | ⟨0, _⟩ => exact fun _ _ _ _ h hb => d_0 (fun _ => rfl) h hb
    | ⟨1, _⟩ => exact fun _ _ _ _ h hb => d_0 (fun _ => rfl) h hb
    | ⟨2, _⟩ => exact fun _ _ _ _ h hb => d_0 (fun _ => rfl) h hb
    | ⟨3, _⟩ => exact fun _ _ _ _ h hb => d_0 (fun _ => rfl) h hb
  | lload_n n => match n with
    | ⟨0, _⟩ => exact fun _ _ _ _ h hb => d_0 (fun _ => rfl) h hb
    | ⟨1, _⟩ => exact fun _ _ _ _ h hb => d_0 (fun _ => rfl) h hb
    | ⟨2, _⟩ => exact fun _ _ _ _ h hb => d_0 (fun _ => rfl) h hb
    | ⟨3, _⟩ => exact fun _ _ _ _ h hb => d_0 (fun _ => rfl) h hb
  | aload_n n => match n with
    | ⟨0, _⟩ => exact fun _ _ _ _ h hb => d_0 (fun _ => rfl) h hb
    | ⟨1, _⟩ => exact fun _ _ _ _ h hb => d_0 (fun _ => rfl) h hb
    | ⟨2, _⟩ => exact fun _ _ _ _ h hb => d_0 (fun _ => rfl) h hb
    | ⟨3, _⟩ => exact fun _ _ _ _ h hb => d_0 (fun _ => rfl) h hb
  | istore_n n => match n with
    | ⟨0, _⟩ => exact fun _ _ _ _ h hb => d_0 (fun _ => rfl) h hb
    | ⟨1, _⟩ => exact fun _ _ _ _ h hb => d_0 (fun _ => rfl) h hb
    | ⟨2, _⟩ => exact fun _ _ _ _ h hb => d_0 (fun _ => rfl) h hb
    | ⟨3, _⟩ => exact fun _ _ _ _ h hb => d_0 (fun _ => rfl) h hb
  | lstore_n n => match n with
    | ⟨0, _⟩ => exact fun _ _ _ _ h hb => d_0 (fun _ => rfl) h hb
    | ⟨1, _⟩ => exact fun _ _ _ _ h hb => d_0 (fun _ => rfl) h hb
    | ⟨2, _⟩ => exact fun _ _ _ _ h hb => d_0 (fun _ => rfl) h hb
    | ⟨3, _⟩ => exact fun _ _ _ _ h hb => d_0 (fun _ => rfl) h hb
  | astore_n n => match n with
    | ⟨0, _⟩ => exact fun _ _ _ _ h hb => d_0 (fun _ => rfl) h hb
    | ⟨1, _⟩ => exact fun _ _ _ _ h hb => d_0 (fun _ => rfl) h hb
    | ⟨2, _⟩ => exact fun _ _ _ _ h hb => d_0 (fun _ => rfl) h hb
    | ⟨3, _⟩ => exact fun _ _ _ _ h hb => d_0 (fun _ => rfl) h hb
  | lconst n => match n with
    | ⟨0, _⟩ => exact fun _ _ _ _ h hb => d_0 (fun _ => rfl) h hb
    | ⟨1, _⟩ => exact fun _ _ _ _ h hb => d_0 (fun _ => rfl) h hb
  | iconst v =>
    show a_P _ (if v = -1 then some (0, 2, 0, 0) else if v = 0 then some (0, 3, 0, 0) else if v = 1 then some (0, 4, 0, 0) else if v = 2 then some (0, 5, 0, 0) else if v = 3 then some (0, 6, 0, 0) else if v = 4 then some (0, 7, 0, 0) else if v = 5 then some (0, 8, 0, 0) else none)
    by_cases q0 : v = -1
    · rw [if_pos q0, q0]
      exact fun _ _ _ _ h hb => d_0 (fun _ => rfl) h hb
    rw [if_neg q0]
    by_cases q1 : v = 0
    · rw [if_pos q1, q1]
      exact fun _ _ _ _ h hb => d_0 (fun _ => rfl) h hb
    rw [if_neg q1]
    by_cases q2 : v = 1
    · rw [if_pos q2, q2]
      exact fun _ _ _ _ h hb => d_0 (fun _ => rfl) h hb
    rw [if_neg q2]
    by_cases q3 : v = 2
    · rw [if_pos q3, q3]
      exact fun _ _ _ _ h hb => d_0 (fun _ => rfl) h hb
    rw [if_neg q3]
    by_cases q4 : v = 3
    · rw [if_pos q4, q4]
      exact fun _ _ _ _ h hb => d_0 (fun _ => rfl) h hb
    rw [if_neg q4]
    by_cases q5 : v = 4
    · rw [if_pos q5, q5]
      exact fun _ _ _ _ h hb => d_0 (fun _ => rfl) h hb
    rw [if_neg q5]
    by_cases q6 : v = 5
    · rw [if_pos q6, q6]
      exact fun _ _ _ _ h hb => d_0 (fun _ => rfl) h hb
    rw [if_neg q6]
    trivial
  | ldc x => exact fun _ _ _ _ _ h hb hx => d_1 (g := .ldc) (fun _ => rfl) h hb hx
  | iload x => exact fun _ _ _ _ _ h hb hx => d_1 (g := .iload) (fun _ => rfl) h hb hx
  | lload x => exact fun _ _ _ _ _ h hb hx => d_1 (g := .lload) (fun _ => rfl) h hb hx
  | aload x => exact fun _ _ _ _ _ h hb hx => d_1 (g := .aload) (fun _ => rfl) h hb hx
  | istore x => exact fun _ _ _ _ _ h hb hx => d_1 (g := .istore) (fun _ => rfl) h hb hx
  | lstore x => exact fun _ _ _ _ _ h hb hx => d_1 (g := .lstore) (fun _ => rfl) h hb hx
  | astore x => exact fun _ _ _ _ _ h hb hx => d_1 (g := .astore) (fun _ => rfl) h hb hx
  | bipush x => exact fun _ _ _ _ _ h hb hx => d_1s (g := .bipush) (fun _ => rfl) h hb hx
  | ldc_w x => exact fun _ _ _ _ _ _ h hb hx => d_2 (g := .ldc_w) (fun _ => rfl) h hb hx
  | ldc2_w x => exact fun _ _ _ _ _ _ h hb hx => d_2 (g := .ldc2_w) (fun _ => rfl) h hb hx
  | getstatic x => exact fun _ _ _ _ _ _ h hb hx => d_2 (g := .getstatic) (fun _ => rfl) h hb hx
  | putstatic x => exact fun _ _ _ _ _ _ h hb hx => d_2 (g := .putstatic) (fun _ => rfl) h hb hx
  | getfield x => exact fun _ _ _ _ _ _ h hb hx => d_2 (g := .getfield) (fun _ => rfl) h hb hx
  | putfield x => exact fun _ _ _ _ _ _ h hb hx => d_2 (g := .putfield) (fun _ => rfl) h hb hx
  | invokevirtual x => exact fun _ _ _ _ _ _ h hb hx => d_2 (g := .invokevirtual) (fun _ => rfl) h hb hx
  | invokespecial x => exact fun _ _ _ _ _ _ h hb hx => d_2 (g := .invokespecial) (fun _ => rfl) h hb hx
  | invokestatic x => exact fun _ _ _ _ _ _ h hb hx => d_2 (g := .invokestatic) (fun _ => rfl) h hb hx
  | new x => exact fun _ _ _ _ _ _ h hb hx => d_2 (g := .new) (fun _ => rfl) h hb hx
  | anewarray x => exact fun _ _ _ _ _ _ h hb hx => d_2 (g := .anewarray) (fun _ => rfl) h hb hx
  | sipush x => exact fun _ _ _ _ _ _ h hb hx => d_2s (g := .sipush) (fun _ => rfl) h hb hx
  | goto x => exact fun _ _ _ _ _ _ h hb hx => d_2s (g := .goto) (fun _ => rfl) h hb hx
  | ifCond c x => cases c with
    | eq => exact fun _ _ _ _ _ _ h hb hx => d_2s (g := .ifCond .eq) (fun _ => rfl) h hb hx
    | ne => exact fun _ _ _ _ _ _ h hb hx => d_2s (g := .ifCond .ne) (fun _ => rfl) h hb hx
    | lt => exact fun _ _ _ _ _ _ h hb hx => d_2s (g := .ifCond .lt) (fun _ => rfl) h hb hx
    | ge => exact fun _ _ _ _ _ _ h hb hx => d_2s (g := .ifCond .ge) (fun _ => rfl) h hb hx
    | gt => exact fun _ _ _ _ _ _ h hb hx => d_2s (g := .ifCond .gt) (fun _ => rfl) h hb hx
    | le => exact fun _ _ _ _ _ _ h hb hx => d_2s (g := .ifCond .le) (fun _ => rfl) h hb hx
  | if_icmp c x => cases c with
    | eq => exact fun _ _ _ _ _ _ h hb hx => d_2s (g := .if_icmp .eq) (fun _ => rfl) h hb hx
    | ne => exact fun _ _ _ _ _ _ h hb hx => d_2s (g := .if_icmp .ne) (fun _ => rfl) h hb hx
    | lt => exact fun _ _ _ _ _ _ h hb hx => d_2s (g := .if_icmp .lt) (fun _ => rfl) h hb hx
    | ge => exact fun _ _ _ _ _ _ h hb hx => d_2s (g := .if_icmp .ge) (fun _ => rfl) h hb hx
    | gt => exact fun _ _ _ _ _ _ h hb hx => d_2s (g := .if_icmp .gt) (fun _ => rfl) h hb hx
    | le => exact fun _ _ _ _ _ _ h hb hx => d_2s (g := .if_icmp .le) (fun _ => rfl) h hb hx
  | newarray t => cases t with
    | boolean => exact fun _ _ _ _ _ h hb hx => d_na (c := 4) (fun _ => rfl) h hb hx
    | char => exact fun _ _ _ _ _ h hb hx => d_na (c := 5) (fun _ => rfl) h hb hx
    | float => exact fun _ _ _ _ _ h hb hx => d_na (c := 6) (fun _ => rfl) h hb hx
    | double => exact fun _ _ _ _ _ h hb hx => d_na (c := 7) (fun _ => rfl) h hb hx
    | byte => exact fun _ _ _ _ _ h hb hx => d_na (c := 8) (fun _ => rfl) h hb hx
    | short => exact fun _ _ _ _ _ h hb hx => d_na (c := 9) (fun _ => rfl) h hb hx
    | int => exact fun _ _ _ _ _ h hb hx => d_na (c := 10) (fun _ => rfl) h hb hx
    | long => exact fun _ _ _ _ _ h hb hx => d_na (c := 11) (fun _ => rfl) h hb hx
  | iinc x y => exact fun _ _ _ _ _ _ h hb hx hy => d_ii h hb hx hy
  | _ => trivial
/-- the bytes ahead are those of the instruction -/
def a_bt (i : Instr) (len : Nat) (l : List UInt8) : Bool := match a_fm i with
  | some (0, c, _, _) => (match l with
    | b :: _ => Nat.beq b.toNat c && Nat.beq len 1
    | [] => false)
  | some (1, c, x, _) => (match l with
    | b :: b1 :: _ => Nat.beq b.toNat c && decide ((b1.toNat : Int) = x) && Nat.beq len 2
    | _ => false)
  | some (2, c, x, _) => (match l with
    | b :: b1 :: _ => Nat.beq b.toNat c && decide (Jvm.ClassFile.Reader.signed 8 b1.toNat = x) && Nat.beq len 2
    | _ => false)
  | some (3, c, x, _) => (match l with
    | b :: b1 :: b2 :: _ => Nat.beq b.toNat c && decide (((b1.toNat * 256 + b2.toNat : Nat) : Int) = x) && Nat.beq len 3
    | _ => false)
  | some (4, c, x, _) => (match l with
    | b :: b1 :: b2 :: _ => Nat.beq b.toNat c && decide (Jvm.ClassFile.Reader.signed 16 (b1.toNat * 256 + b2.toNat) = x) && Nat.beq len 3
    | _ => false)
  | some (5, c, x, y) => (match l with
    | b :: b1 :: b2 :: _ => Nat.beq b.toNat c && decide ((b1.toNat : Int) = x) && decide (Jvm.ClassFile.Reader.signed 8 b2.toNat = y) && Nat.beq len 3
    | _ => false)
  | _ => false
theorem a_bt_ok {i : Instr} {len : Nat} {l : List UInt8} {code : ByteArray} {pc : Nat} (e : code.data.toList.drop pc = l) (h : a_bt i len l = true) : decode code pc = .ok (i, len) := by
  have hP := a_fm_P i
  unfold a_bt at h
  generalize a_fm i = f at hP h
  split at h
  · split at h
    · simp only [Bool.and_eq_true, Nat.beq_eq] at h
      rw [h.2]
      exact hP _ _ _ _ e h.1
    · cases h
  · split at h
    · simp only [Bool.and_eq_true, Nat.beq_eq, decide_eq_true_eq] at h
      rw [h.2]
      exact hP _ _ _ _ _ e h.1.1 h.1.2
    · cases h
  · split at h
    · simp only [Bool.and_eq_true, Nat.beq_eq, decide_eq_true_eq] at h
      rw [h.2]
      exact hP _ _ _ _ _ e h.1.1 h.1.2
    · cases h
  · split at h
    · simp only [Bool.and_eq_true, Nat.beq_eq, decide_eq_true_eq] at h
      rw [h.2]
      exact hP _ _ _ _ _ _ e h.1.1 h.1.2
    · cases h
  · split at h
    · simp only [Bool.and_eq_true, Nat.beq_eq, decide_eq_true_eq] at h
      rw [h.2]
      exact hP _ _ _ _ _ _ e h.1.1 h.1.2
    · cases h
  · split at h
    · simp only [Bool.and_eq_true, Nat.beq_eq, decide_eq_true_eq] at h
      rw [h.2]
      exact hP _ _ _ _ _ _ e h.1.1.1 h.1.1.2 h.1.2
    · cases h
  · cases h
/-- all instructions of a method, its bytes read once -/
def a_wk (Z : List aZ) (M : aM) : List (Nat × aI) → Nat → List UInt8 → Bool
  | [], _, _ => true
  | q :: t, pc, l => Nat.ble pc q.1 && (match l.drop (q.1 - pc) with
    | [] => false
    | b :: r => (a_bt q.2.1 q.2.2.1 (b :: r) || decide (decode M.2.1 q.1 = .ok (q.2.1, q.2.2.1))) && decide (a_ln q.2.1 q.2.2.1 = q.2.2.1) && a_lk Z M q.1 q.2.1 q.2.2.2 && a_wk Z M t q.1 (b :: r))
theorem a_wk_ok {Z : List aZ} {M : aM} : ∀ (t : List (Nat × aI)) (pc : Nat) (l : List UInt8), M.2.1.data.toList.drop pc = l → a_wk Z M t pc l = true → t.all (a_okb Z M) = true := by
  intro t
  induction t with
  | nil => intro _ _ _ _; rfl
  | cons q t ih =>
    intro pc l e h
    unfold a_wk at h
    rw [Bool.and_eq_true] at h
    obtain ⟨h1, h2⟩ := h
    have h1 := Nat.le_of_ble_eq_true h1
    have e2 : M.2.1.data.toList.drop q.1 = l.drop (q.1 - pc) := by
      rw [← e, List.drop_drop, Nat.add_sub_cancel' h1]
    split at h2
    · cases h2
    · rename_i b r w
      rw [w] at e2
      simp only [Bool.and_eq_true] at h2
      obtain ⟨⟨⟨a1, a2⟩, a3⟩, a4⟩ := h2
      rw [List.all_cons, Bool.and_eq_true]
      refine ⟨?_, ih _ _ e2 a4⟩
      unfold a_okb
      rw [Bool.and_eq_true, Bool.and_eq_true]
      refine ⟨⟨?_, a2⟩, a3⟩
      rw [Bool.or_eq_true] at a1
      rcases a1 with a1 | a1
      · exact decide_eq_true (a_bt_ok e2 a1)
      · exact a1
/-- two rows of bytes -/
def a_lq : List UInt8 → List UInt8 → Bool
  | [], [] => true
  | a :: r, b :: s => Nat.beq a.toNat b.toNat && a_lq r s
  | _, _ => false
theorem a_lq_eq : ∀ {l m : List UInt8}, a_lq l m = true → l = m
  | [], [], _ => rfl
  | a :: r, b :: s, h => by
    have h2 : (Nat.beq a.toNat b.toNat && a_lq r s) = true := h
    rw [Bool.and_eq_true] at h2
    rw [UInt8.toNat_inj.mp (Nat.eq_of_beq_eq_true h2.1), a_lq_eq h2.2]
  | [], _ :: _, h => by cases h
  | _ :: _, [], h => by cases h
theorem a_lq_b {b c : ByteArray} (h : a_lq b.data.toList c.data.toList = true) : b = c := by
  have e := a_lq_eq h
  cases b with
  | mk b => cases c with
    | mk c =>
      cases b
      cases c
      cases e
      rfl
/-- a word that tells a method's code stands at its place -/
def a_cw (j : Nat) (q : aZ) : Bool := match (a_chunk (j / 1000))[j % 1000]? with
  | some (.code n b k r) => decide (n = q.1.1) && a_lq b.data.toList q.1.2.1.data.toList && decide (k = q.1.2.2.1) && decide (r = q.1.2.2.2.1) && goodWord (.code q.1.1 q.1.2.1 q.1.2.2.1 q.1.2.2.2.1)
  | _ => false
theorem a_cw_ok {j : Nat} {q : aZ} (h : a_cw j q = true) : a_has j (.code q.1.1 q.1.2.1 q.1.2.2.1 q.1.2.2.2.1) = true := by
  unfold a_cw at h
  split at h
  · rename_i n b k r e
    simp only [Bool.and_eq_true, decide_eq_true_eq] at h
    obtain ⟨⟨⟨⟨h1, h2⟩, h3⟩, h4⟩, h5⟩ := h
    have h2 := a_lq_b h2
    subst h1 h3 h4
    rw [h2] at e
    unfold a_has
    rw [Bool.and_eq_true]
    exact ⟨decide_eq_true e, h5⟩
  · cases h
def a_hd (q : aZ) : Bool := decide (q.1.2.2.1 ≤ 41) && decide (q.1.1.cls ≠ "java/lang/invoke/MethodHandle") && decide (q.1.1.cls ≠ "java/lang/invoke/VarHandle") && decide ((parseMethodDescriptor q.1.1.desc).map (fun d => d.parameters.length) = some q.1.2.2.2.2.1) && plainFor q.1.1 &&
  a_has (q.2.2.getD 0 0) (.initialized q.1.1.cls)
/-- a method's own words, its bytes held against the word's from first to last -/
def a_mb2 (q : aZ) : Bool := match q.2.1 with
  | 0 => a_hd q && (a_cw (q.2.2.getD 1 0) q && a_has (q.2.2.getD 2 0) (.instanceMethod q.1.1) && a_has (q.2.2.getD 3 0) (.selects q.1.1.cls q.1.1 q.1.1))
  | 1 => a_hd q && (a_cw (q.2.2.getD 1 0) q && a_has (q.2.2.getD 2 0) (.static q.1.1))
  | 2 => a_hd q && (a_cw (q.2.2.getD 1 0) q && a_has (q.2.2.getD 2 0) (.instanceMethod q.1.1) && decide (q.1.1.name = "<init>") && decide (q.1.2.2.2.1 = none))
  | _ => a_mb q
theorem a_mb2_ok : ∀ {q : aZ}, a_mb2 q = true → a_mb q = true
  | (M, 0, ws), h => by
    have h : (a_hd (M, 0, ws) && (a_cw (ws.getD 1 0) (M, 0, ws) && a_has (ws.getD 2 0) (.instanceMethod M.1) && a_has (ws.getD 3 0) (.selects M.1.cls M.1 M.1))) = true := h
    show (a_hd (M, 0, ws) && (a_has (ws.getD 1 0) (.code M.1 M.2.1 M.2.2.1 M.2.2.2.1) && a_has (ws.getD 2 0) (.instanceMethod M.1) && a_has (ws.getD 3 0) (.selects M.1.cls M.1 M.1))) = true
    rw [Bool.and_eq_true, Bool.and_eq_true, Bool.and_eq_true] at h ⊢
    exact ⟨h.1, ⟨a_cw_ok h.2.1.1, h.2.1.2⟩, h.2.2⟩
  | (M, 1, ws), h => by
    have h : (a_hd (M, 1, ws) && (a_cw (ws.getD 1 0) (M, 1, ws) && a_has (ws.getD 2 0) (.static M.1))) = true := h
    show (a_hd (M, 1, ws) && (a_has (ws.getD 1 0) (.code M.1 M.2.1 M.2.2.1 M.2.2.2.1) && a_has (ws.getD 2 0) (.static M.1))) = true
    rw [Bool.and_eq_true, Bool.and_eq_true] at h ⊢
    exact ⟨h.1, a_cw_ok h.2.1, h.2.2⟩
  | (M, 2, ws), h => by
    have h : (a_hd (M, 2, ws) && (a_cw (ws.getD 1 0) (M, 2, ws) && a_has (ws.getD 2 0) (.instanceMethod M.1) && decide (M.1.name = "<init>") && decide (M.2.2.2.1 = none))) = true := h
    show (a_hd (M, 2, ws) && (a_has (ws.getD 1 0) (.code M.1 M.2.1 M.2.2.1 M.2.2.2.1) && a_has (ws.getD 2 0) (.instanceMethod M.1) && decide (M.1.name = "<init>") && decide (M.2.2.2.1 = none))) = true
    rw [Bool.and_eq_true, Bool.and_eq_true, Bool.and_eq_true, Bool.and_eq_true] at h ⊢
    exact ⟨h.1, ⟨⟨a_cw_ok h.2.1.1.1, h.2.1.1.2⟩, h.2.1.2⟩, h.2.2⟩
  | (_, _ + 3, _), h => h
theorem a_wk0 {Z : List aZ} {q : aZ} {M : aM} {c : List (Nat × aI)} (h : a_mb2 q = true ∧ a_wk Z M c 0 M.2.1.data.toList = true) : a_mb q = true ∧ c.all (a_okb Z M) = true := ⟨a_mb2_ok h.1, a_wk_ok c 0 _ rfl h.2⟩
