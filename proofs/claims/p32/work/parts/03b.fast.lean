/-! ===== a quick check that the rows are what the bytes say (printed by program) ===== -/
section T03b
set_option maxRecDepth 100000
/-- from a place on these bytes stand -/
def By (code : ByteArray) : Nat → List Nat → Prop
  | _, [] => True
  | p, b :: r => (∃ h : p < code.size, code[p].toNat = b) ∧ By code (p + 1) r
variable {code : ByteArray} {p q n : Nat}
theorem u1_run (h : p < code.size) : Reader.runAt (ε := DecodeError) Reader.u1 code p = .ok (code[p].toNat, p + 1) := by
  have e : (dite (p < code.size) (fun h => (do set (p + 1); pure code[p].toNat : Reader DecodeError Nat)) (fun _ => throw (HasTruncated.truncated p))) = (do set (p + 1); pure code[p].toNat : Reader DecodeError Nat) := dif_pos h
  show Reader.runAt (dite (p < code.size) (fun h => (do set (p + 1); pure code[p].toNat : Reader DecodeError Nat)) (fun _ => throw (HasTruncated.truncated p))) code p = _
  rw [e]
  rfl
theorem bind_run {α β : Type} {r : Reader DecodeError α} {f : α → Reader DecodeError β} {a : α} (h : Reader.runAt r code p = .ok (a, q)) : Reader.runAt (r >>= f) code p = Reader.runAt (f a) code q := by
  have h : r code p = .ok (a, q) := h
  show Except.bind (r code p) _ = _
  rw [h]
  rfl
theorem map_run {α β : Type} {r : Reader DecodeError α} {f : α → β} {a : α} (h : Reader.runAt r code p = .ok (a, q)) : Reader.runAt (f <$> r) code p = .ok (f a, q) := by
  have h : r code p = .ok (a, q) := h
  show Except.bind (r code p) _ = _
  rw [h]
  rfl
theorem u2_run (h0 : p < code.size) (h1 : p + 1 < code.size) : Reader.runAt (ε := DecodeError) Reader.u2 code p = .ok (code[p].toNat * 256 + code[p + 1].toNat, p + 1 + 1) := by
  unfold Reader.u2
  rw [bind_run (u1_run h0), bind_run (u1_run h1)]
  rfl
theorem dc_of {i : Instr} (h : Reader.runAt (Decoder.instr p) code p = .ok (i, p + n)) : decode code p = .ok (i, n) := by
  unfold decode
  rw [h]
  show Except.ok (i, p + n - p) = _
  rw [Nat.add_sub_cancel_left]
theorem sg8 {x : Int} (h : -128 ≤ x ∧ x ≤ 127) : Reader.signed 8 (x % 256).toNat = x := by
  unfold Reader.signed
  rw [show (2 : Nat) ^ (8 - 1) = 128 by decide, show ((2 ^ 8 : Nat) : Int) = 256 by decide]
  split <;> omega
theorem sg16 {x : Int} (h : -32768 ≤ x ∧ x ≤ 32767) : Reader.signed 16 ((x % 65536).toNat / 256 * 256 + (x % 65536).toNat % 256) = x := by
  unfold Reader.signed
  rw [show (2 : Nat) ^ (16 - 1) = 32768 by decide, show ((2 ^ 16 : Nat) : Int) = 65536 by decide]
  split <;> omega
/-- an operand of one byte with a sign, of two -/
def en1 (x : Int) (r : List Nat) : List Nat := if -128 ≤ x ∧ x ≤ 127 then r ++ [(x % 256).toNat] else []
def enk (x : Int) : List Nat := if x = -1 then [2] else if x = 0 then [3] else if x = 1 then [4] else if x = 2 then [5] else if x = 3 then [6] else if x = 4 then [7] else if x = 5 then [8] else []
def en2 (op : Nat) (x : Int) : List Nat := if -32768 ≤ x ∧ x ≤ 32767 then [op, (x % 65536).toNat / 256, (x % 65536).toNat % 256] else []
/-- the bytes of an instruction, of those that are known here -/
def enc : Instr → List Nat
  | .aaload => [50]
  | .aastore => [83]
  | .aconst_null => [1]
  | .areturn => [176]
  | .arraylength => [190]
  | .athrow => [191]
  | .baload => [51]
  | .bastore => [84]
  | .dup => [89]
  | .dup2 => [92]
  | .i2b => [145]
  | .i2c => [146]
  | .i2l => [133]
  | .iadd => [96]
  | .iaload => [46]
  | .iand => [126]
  | .iastore => [79]
  | .idiv => [108]
  | .imul => [104]
  | .ineg => [116]
  | .ior => [128]
  | .irem => [112]
  | .ireturn => [172]
  | .ishl => [120]
  | .ishr => [122]
  | .isub => [100]
  | .iushr => [124]
  | .ixor => [130]
  | .l2i => [136]
  | .ladd => [97]
  | .laload => [47]
  | .lastore => [80]
  | .lcmp => [148]
  | .ldiv => [109]
  | .lmul => [105]
  | .lreturn => [173]
  | .pop => [87]
  | .return_ => [177]
  | .aload_n k => [42 + k.val]
  | .astore_n k => [75 + k.val]
  | .iload_n k => [26 + k.val]
  | .istore_n k => [59 + k.val]
  | .lload_n k => [30 + k.val]
  | .lstore_n k => [63 + k.val]
  | .lconst k => [9 + k.val]
  | .iconst x => enk x
  | .aload x => [25, x]
  | .astore x => [58, x]
  | .iload x => [21, x]
  | .istore x => [54, x]
  | .lload x => [22, x]
  | .lstore x => [55, x]
  | .ldc x => [18, x]
  | .bipush x => en1 x [16]
  | .anewarray x => [189, x / 256, x % 256]
  | .getfield x => [180, x / 256, x % 256]
  | .getstatic x => [178, x / 256, x % 256]
  | .invokespecial x => [183, x / 256, x % 256]
  | .invokestatic x => [184, x / 256, x % 256]
  | .invokevirtual x => [182, x / 256, x % 256]
  | .ldc2_w x => [20, x / 256, x % 256]
  | .ldc_w x => [19, x / 256, x % 256]
  | .new x => [187, x / 256, x % 256]
  | .putfield x => [181, x / 256, x % 256]
  | .sipush x => en2 17 x
  | .goto x => en2 167 x
  | .ifnull x => en2 198 x
  | .ifnonnull x => en2 199 x
  | .ifCond .eq x => en2 153 x
  | .ifCond .ne x => en2 154 x
  | .ifCond .lt x => en2 155 x
  | .ifCond .ge x => en2 156 x
  | .ifCond .gt x => en2 157 x
  | .ifCond .le x => en2 158 x
  | .if_icmp .eq x => en2 159 x
  | .if_icmp .ne x => en2 160 x
  | .if_icmp .lt x => en2 161 x
  | .if_icmp .ge x => en2 162 x
  | .if_icmp .gt x => en2 163 x
  | .if_icmp .le x => en2 164 x
  | .if_acmp .eq x => en2 165 x
  | .if_acmp .ne x => en2 166 x
  | .iinc i x => en1 x [132, i]
  | .newarray .byte => [188, 8]
  | .newarray .int => [188, 10]
  | .newarray .long => [188, 11]
  | _ => []
theorem en_aaload (h : By code p [50]) : decode code p = .ok (.aaload, 1) := by
  obtain ⟨⟨h0, e0⟩, -⟩ := h
  refine dc_of (n := 1) ?_; unfold Decoder.instr; rw [bind_run (u1_run h0), e0]; rfl
theorem en_aastore (h : By code p [83]) : decode code p = .ok (.aastore, 1) := by
  obtain ⟨⟨h0, e0⟩, -⟩ := h
  refine dc_of (n := 1) ?_; unfold Decoder.instr; rw [bind_run (u1_run h0), e0]; rfl
theorem en_aconst_null (h : By code p [1]) : decode code p = .ok (.aconst_null, 1) := by
  obtain ⟨⟨h0, e0⟩, -⟩ := h
  refine dc_of (n := 1) ?_; unfold Decoder.instr; rw [bind_run (u1_run h0), e0]; rfl
theorem en_areturn (h : By code p [176]) : decode code p = .ok (.areturn, 1) := by
  obtain ⟨⟨h0, e0⟩, -⟩ := h
  refine dc_of (n := 1) ?_; unfold Decoder.instr; rw [bind_run (u1_run h0), e0]; rfl
theorem en_arraylength (h : By code p [190]) : decode code p = .ok (.arraylength, 1) := by
  obtain ⟨⟨h0, e0⟩, -⟩ := h
  refine dc_of (n := 1) ?_; unfold Decoder.instr; rw [bind_run (u1_run h0), e0]; rfl
theorem en_athrow (h : By code p [191]) : decode code p = .ok (.athrow, 1) := by
  obtain ⟨⟨h0, e0⟩, -⟩ := h
  refine dc_of (n := 1) ?_; unfold Decoder.instr; rw [bind_run (u1_run h0), e0]; rfl
theorem en_baload (h : By code p [51]) : decode code p = .ok (.baload, 1) := by
  obtain ⟨⟨h0, e0⟩, -⟩ := h
  refine dc_of (n := 1) ?_; unfold Decoder.instr; rw [bind_run (u1_run h0), e0]; rfl
theorem en_bastore (h : By code p [84]) : decode code p = .ok (.bastore, 1) := by
  obtain ⟨⟨h0, e0⟩, -⟩ := h
  refine dc_of (n := 1) ?_; unfold Decoder.instr; rw [bind_run (u1_run h0), e0]; rfl
theorem en_dup (h : By code p [89]) : decode code p = .ok (.dup, 1) := by
  obtain ⟨⟨h0, e0⟩, -⟩ := h
  refine dc_of (n := 1) ?_; unfold Decoder.instr; rw [bind_run (u1_run h0), e0]; rfl
theorem en_dup2 (h : By code p [92]) : decode code p = .ok (.dup2, 1) := by
  obtain ⟨⟨h0, e0⟩, -⟩ := h
  refine dc_of (n := 1) ?_; unfold Decoder.instr; rw [bind_run (u1_run h0), e0]; rfl
theorem en_i2b (h : By code p [145]) : decode code p = .ok (.i2b, 1) := by
  obtain ⟨⟨h0, e0⟩, -⟩ := h
  refine dc_of (n := 1) ?_; unfold Decoder.instr; rw [bind_run (u1_run h0), e0]; rfl
theorem en_i2c (h : By code p [146]) : decode code p = .ok (.i2c, 1) := by
  obtain ⟨⟨h0, e0⟩, -⟩ := h
  refine dc_of (n := 1) ?_; unfold Decoder.instr; rw [bind_run (u1_run h0), e0]; rfl
theorem en_i2l (h : By code p [133]) : decode code p = .ok (.i2l, 1) := by
  obtain ⟨⟨h0, e0⟩, -⟩ := h
  refine dc_of (n := 1) ?_; unfold Decoder.instr; rw [bind_run (u1_run h0), e0]; rfl
theorem en_iadd (h : By code p [96]) : decode code p = .ok (.iadd, 1) := by
  obtain ⟨⟨h0, e0⟩, -⟩ := h
  refine dc_of (n := 1) ?_; unfold Decoder.instr; rw [bind_run (u1_run h0), e0]; rfl
theorem en_iaload (h : By code p [46]) : decode code p = .ok (.iaload, 1) := by
  obtain ⟨⟨h0, e0⟩, -⟩ := h
  refine dc_of (n := 1) ?_; unfold Decoder.instr; rw [bind_run (u1_run h0), e0]; rfl
theorem en_iand (h : By code p [126]) : decode code p = .ok (.iand, 1) := by
  obtain ⟨⟨h0, e0⟩, -⟩ := h
  refine dc_of (n := 1) ?_; unfold Decoder.instr; rw [bind_run (u1_run h0), e0]; rfl
theorem en_iastore (h : By code p [79]) : decode code p = .ok (.iastore, 1) := by
  obtain ⟨⟨h0, e0⟩, -⟩ := h
  refine dc_of (n := 1) ?_; unfold Decoder.instr; rw [bind_run (u1_run h0), e0]; rfl
theorem en_idiv (h : By code p [108]) : decode code p = .ok (.idiv, 1) := by
  obtain ⟨⟨h0, e0⟩, -⟩ := h
  refine dc_of (n := 1) ?_; unfold Decoder.instr; rw [bind_run (u1_run h0), e0]; rfl
theorem en_imul (h : By code p [104]) : decode code p = .ok (.imul, 1) := by
  obtain ⟨⟨h0, e0⟩, -⟩ := h
  refine dc_of (n := 1) ?_; unfold Decoder.instr; rw [bind_run (u1_run h0), e0]; rfl
theorem en_ineg (h : By code p [116]) : decode code p = .ok (.ineg, 1) := by
  obtain ⟨⟨h0, e0⟩, -⟩ := h
  refine dc_of (n := 1) ?_; unfold Decoder.instr; rw [bind_run (u1_run h0), e0]; rfl
theorem en_ior (h : By code p [128]) : decode code p = .ok (.ior, 1) := by
  obtain ⟨⟨h0, e0⟩, -⟩ := h
  refine dc_of (n := 1) ?_; unfold Decoder.instr; rw [bind_run (u1_run h0), e0]; rfl
theorem en_irem (h : By code p [112]) : decode code p = .ok (.irem, 1) := by
  obtain ⟨⟨h0, e0⟩, -⟩ := h
  refine dc_of (n := 1) ?_; unfold Decoder.instr; rw [bind_run (u1_run h0), e0]; rfl
theorem en_ireturn (h : By code p [172]) : decode code p = .ok (.ireturn, 1) := by
  obtain ⟨⟨h0, e0⟩, -⟩ := h
  refine dc_of (n := 1) ?_; unfold Decoder.instr; rw [bind_run (u1_run h0), e0]; rfl
theorem en_ishl (h : By code p [120]) : decode code p = .ok (.ishl, 1) := by
  obtain ⟨⟨h0, e0⟩, -⟩ := h
  refine dc_of (n := 1) ?_; unfold Decoder.instr; rw [bind_run (u1_run h0), e0]; rfl
theorem en_ishr (h : By code p [122]) : decode code p = .ok (.ishr, 1) := by
  obtain ⟨⟨h0, e0⟩, -⟩ := h
  refine dc_of (n := 1) ?_; unfold Decoder.instr; rw [bind_run (u1_run h0), e0]; rfl
theorem en_isub (h : By code p [100]) : decode code p = .ok (.isub, 1) := by
  obtain ⟨⟨h0, e0⟩, -⟩ := h
  refine dc_of (n := 1) ?_; unfold Decoder.instr; rw [bind_run (u1_run h0), e0]; rfl
theorem en_iushr (h : By code p [124]) : decode code p = .ok (.iushr, 1) := by
  obtain ⟨⟨h0, e0⟩, -⟩ := h
  refine dc_of (n := 1) ?_; unfold Decoder.instr; rw [bind_run (u1_run h0), e0]; rfl
theorem en_ixor (h : By code p [130]) : decode code p = .ok (.ixor, 1) := by
  obtain ⟨⟨h0, e0⟩, -⟩ := h
  refine dc_of (n := 1) ?_; unfold Decoder.instr; rw [bind_run (u1_run h0), e0]; rfl
theorem en_l2i (h : By code p [136]) : decode code p = .ok (.l2i, 1) := by
  obtain ⟨⟨h0, e0⟩, -⟩ := h
  refine dc_of (n := 1) ?_; unfold Decoder.instr; rw [bind_run (u1_run h0), e0]; rfl
theorem en_ladd (h : By code p [97]) : decode code p = .ok (.ladd, 1) := by
  obtain ⟨⟨h0, e0⟩, -⟩ := h
  refine dc_of (n := 1) ?_; unfold Decoder.instr; rw [bind_run (u1_run h0), e0]; rfl
theorem en_laload (h : By code p [47]) : decode code p = .ok (.laload, 1) := by
  obtain ⟨⟨h0, e0⟩, -⟩ := h
  refine dc_of (n := 1) ?_; unfold Decoder.instr; rw [bind_run (u1_run h0), e0]; rfl
theorem en_lastore (h : By code p [80]) : decode code p = .ok (.lastore, 1) := by
  obtain ⟨⟨h0, e0⟩, -⟩ := h
  refine dc_of (n := 1) ?_; unfold Decoder.instr; rw [bind_run (u1_run h0), e0]; rfl
theorem en_lcmp (h : By code p [148]) : decode code p = .ok (.lcmp, 1) := by
  obtain ⟨⟨h0, e0⟩, -⟩ := h
  refine dc_of (n := 1) ?_; unfold Decoder.instr; rw [bind_run (u1_run h0), e0]; rfl
theorem en_ldiv (h : By code p [109]) : decode code p = .ok (.ldiv, 1) := by
  obtain ⟨⟨h0, e0⟩, -⟩ := h
  refine dc_of (n := 1) ?_; unfold Decoder.instr; rw [bind_run (u1_run h0), e0]; rfl
theorem en_lmul (h : By code p [105]) : decode code p = .ok (.lmul, 1) := by
  obtain ⟨⟨h0, e0⟩, -⟩ := h
  refine dc_of (n := 1) ?_; unfold Decoder.instr; rw [bind_run (u1_run h0), e0]; rfl
theorem en_lreturn (h : By code p [173]) : decode code p = .ok (.lreturn, 1) := by
  obtain ⟨⟨h0, e0⟩, -⟩ := h
  refine dc_of (n := 1) ?_; unfold Decoder.instr; rw [bind_run (u1_run h0), e0]; rfl
theorem en_pop (h : By code p [87]) : decode code p = .ok (.pop, 1) := by
  obtain ⟨⟨h0, e0⟩, -⟩ := h
  refine dc_of (n := 1) ?_; unfold Decoder.instr; rw [bind_run (u1_run h0), e0]; rfl
theorem en_return_ (h : By code p [177]) : decode code p = .ok (.return_, 1) := by
  obtain ⟨⟨h0, e0⟩, -⟩ := h
  refine dc_of (n := 1) ?_; unfold Decoder.instr; rw [bind_run (u1_run h0), e0]; rfl
theorem en_aload_n_0 (h : By code p [42]) : decode code p = .ok (.aload_n 0, 1) := by
  obtain ⟨⟨h0, e0⟩, -⟩ := h
  refine dc_of (n := 1) ?_; unfold Decoder.instr; rw [bind_run (u1_run h0), e0]; rfl
theorem en_aload_n_1 (h : By code p [43]) : decode code p = .ok (.aload_n 1, 1) := by
  obtain ⟨⟨h0, e0⟩, -⟩ := h
  refine dc_of (n := 1) ?_; unfold Decoder.instr; rw [bind_run (u1_run h0), e0]; rfl
theorem en_aload_n_2 (h : By code p [44]) : decode code p = .ok (.aload_n 2, 1) := by
  obtain ⟨⟨h0, e0⟩, -⟩ := h
  refine dc_of (n := 1) ?_; unfold Decoder.instr; rw [bind_run (u1_run h0), e0]; rfl
theorem en_aload_n_3 (h : By code p [45]) : decode code p = .ok (.aload_n 3, 1) := by
  obtain ⟨⟨h0, e0⟩, -⟩ := h
  refine dc_of (n := 1) ?_; unfold Decoder.instr; rw [bind_run (u1_run h0), e0]; rfl
theorem en_astore_n_0 (h : By code p [75]) : decode code p = .ok (.astore_n 0, 1) := by
  obtain ⟨⟨h0, e0⟩, -⟩ := h
  refine dc_of (n := 1) ?_; unfold Decoder.instr; rw [bind_run (u1_run h0), e0]; rfl
theorem en_astore_n_1 (h : By code p [76]) : decode code p = .ok (.astore_n 1, 1) := by
  obtain ⟨⟨h0, e0⟩, -⟩ := h
  refine dc_of (n := 1) ?_; unfold Decoder.instr; rw [bind_run (u1_run h0), e0]; rfl
theorem en_astore_n_2 (h : By code p [77]) : decode code p = .ok (.astore_n 2, 1) := by
  obtain ⟨⟨h0, e0⟩, -⟩ := h
  refine dc_of (n := 1) ?_; unfold Decoder.instr; rw [bind_run (u1_run h0), e0]; rfl
theorem en_astore_n_3 (h : By code p [78]) : decode code p = .ok (.astore_n 3, 1) := by
  obtain ⟨⟨h0, e0⟩, -⟩ := h
  refine dc_of (n := 1) ?_; unfold Decoder.instr; rw [bind_run (u1_run h0), e0]; rfl
theorem en_iload_n_0 (h : By code p [26]) : decode code p = .ok (.iload_n 0, 1) := by
  obtain ⟨⟨h0, e0⟩, -⟩ := h
  refine dc_of (n := 1) ?_; unfold Decoder.instr; rw [bind_run (u1_run h0), e0]; rfl
theorem en_iload_n_1 (h : By code p [27]) : decode code p = .ok (.iload_n 1, 1) := by
  obtain ⟨⟨h0, e0⟩, -⟩ := h
  refine dc_of (n := 1) ?_; unfold Decoder.instr; rw [bind_run (u1_run h0), e0]; rfl
theorem en_iload_n_2 (h : By code p [28]) : decode code p = .ok (.iload_n 2, 1) := by
  obtain ⟨⟨h0, e0⟩, -⟩ := h
  refine dc_of (n := 1) ?_; unfold Decoder.instr; rw [bind_run (u1_run h0), e0]; rfl
theorem en_iload_n_3 (h : By code p [29]) : decode code p = .ok (.iload_n 3, 1) := by
  obtain ⟨⟨h0, e0⟩, -⟩ := h
  refine dc_of (n := 1) ?_; unfold Decoder.instr; rw [bind_run (u1_run h0), e0]; rfl
theorem en_istore_n_0 (h : By code p [59]) : decode code p = .ok (.istore_n 0, 1) := by
  obtain ⟨⟨h0, e0⟩, -⟩ := h
  refine dc_of (n := 1) ?_; unfold Decoder.instr; rw [bind_run (u1_run h0), e0]; rfl
theorem en_istore_n_1 (h : By code p [60]) : decode code p = .ok (.istore_n 1, 1) := by
  obtain ⟨⟨h0, e0⟩, -⟩ := h
  refine dc_of (n := 1) ?_; unfold Decoder.instr; rw [bind_run (u1_run h0), e0]; rfl
theorem en_istore_n_2 (h : By code p [61]) : decode code p = .ok (.istore_n 2, 1) := by
  obtain ⟨⟨h0, e0⟩, -⟩ := h
  refine dc_of (n := 1) ?_; unfold Decoder.instr; rw [bind_run (u1_run h0), e0]; rfl
theorem en_istore_n_3 (h : By code p [62]) : decode code p = .ok (.istore_n 3, 1) := by
  obtain ⟨⟨h0, e0⟩, -⟩ := h
  refine dc_of (n := 1) ?_; unfold Decoder.instr; rw [bind_run (u1_run h0), e0]; rfl
theorem en_lload_n_0 (h : By code p [30]) : decode code p = .ok (.lload_n 0, 1) := by
  obtain ⟨⟨h0, e0⟩, -⟩ := h
  refine dc_of (n := 1) ?_; unfold Decoder.instr; rw [bind_run (u1_run h0), e0]; rfl
theorem en_lload_n_1 (h : By code p [31]) : decode code p = .ok (.lload_n 1, 1) := by
  obtain ⟨⟨h0, e0⟩, -⟩ := h
  refine dc_of (n := 1) ?_; unfold Decoder.instr; rw [bind_run (u1_run h0), e0]; rfl
theorem en_lload_n_2 (h : By code p [32]) : decode code p = .ok (.lload_n 2, 1) := by
  obtain ⟨⟨h0, e0⟩, -⟩ := h
  refine dc_of (n := 1) ?_; unfold Decoder.instr; rw [bind_run (u1_run h0), e0]; rfl
theorem en_lload_n_3 (h : By code p [33]) : decode code p = .ok (.lload_n 3, 1) := by
  obtain ⟨⟨h0, e0⟩, -⟩ := h
  refine dc_of (n := 1) ?_; unfold Decoder.instr; rw [bind_run (u1_run h0), e0]; rfl
theorem en_lstore_n_0 (h : By code p [63]) : decode code p = .ok (.lstore_n 0, 1) := by
  obtain ⟨⟨h0, e0⟩, -⟩ := h
  refine dc_of (n := 1) ?_; unfold Decoder.instr; rw [bind_run (u1_run h0), e0]; rfl
theorem en_lstore_n_1 (h : By code p [64]) : decode code p = .ok (.lstore_n 1, 1) := by
  obtain ⟨⟨h0, e0⟩, -⟩ := h
  refine dc_of (n := 1) ?_; unfold Decoder.instr; rw [bind_run (u1_run h0), e0]; rfl
theorem en_lstore_n_2 (h : By code p [65]) : decode code p = .ok (.lstore_n 2, 1) := by
  obtain ⟨⟨h0, e0⟩, -⟩ := h
  refine dc_of (n := 1) ?_; unfold Decoder.instr; rw [bind_run (u1_run h0), e0]; rfl
theorem en_lstore_n_3 (h : By code p [66]) : decode code p = .ok (.lstore_n 3, 1) := by
  obtain ⟨⟨h0, e0⟩, -⟩ := h
  refine dc_of (n := 1) ?_; unfold Decoder.instr; rw [bind_run (u1_run h0), e0]; rfl
theorem en_lconst_0 (h : By code p [9]) : decode code p = .ok (.lconst 0, 1) := by
  obtain ⟨⟨h0, e0⟩, -⟩ := h
  refine dc_of (n := 1) ?_; unfold Decoder.instr; rw [bind_run (u1_run h0), e0]; rfl
theorem en_lconst_1 (h : By code p [10]) : decode code p = .ok (.lconst 1, 1) := by
  obtain ⟨⟨h0, e0⟩, -⟩ := h
  refine dc_of (n := 1) ?_; unfold Decoder.instr; rw [bind_run (u1_run h0), e0]; rfl
theorem en_iconst_0 (h : By code p [2]) : decode code p = .ok (.iconst (-1), 1) := by
  obtain ⟨⟨h0, e0⟩, -⟩ := h
  refine dc_of (n := 1) ?_; unfold Decoder.instr; rw [bind_run (u1_run h0), e0]; rfl
theorem en_iconst_1 (h : By code p [3]) : decode code p = .ok (.iconst (0), 1) := by
  obtain ⟨⟨h0, e0⟩, -⟩ := h
  refine dc_of (n := 1) ?_; unfold Decoder.instr; rw [bind_run (u1_run h0), e0]; rfl
theorem en_iconst_2 (h : By code p [4]) : decode code p = .ok (.iconst (1), 1) := by
  obtain ⟨⟨h0, e0⟩, -⟩ := h
  refine dc_of (n := 1) ?_; unfold Decoder.instr; rw [bind_run (u1_run h0), e0]; rfl
theorem en_iconst_3 (h : By code p [5]) : decode code p = .ok (.iconst (2), 1) := by
  obtain ⟨⟨h0, e0⟩, -⟩ := h
  refine dc_of (n := 1) ?_; unfold Decoder.instr; rw [bind_run (u1_run h0), e0]; rfl
theorem en_iconst_4 (h : By code p [6]) : decode code p = .ok (.iconst (3), 1) := by
  obtain ⟨⟨h0, e0⟩, -⟩ := h
  refine dc_of (n := 1) ?_; unfold Decoder.instr; rw [bind_run (u1_run h0), e0]; rfl
theorem en_iconst_5 (h : By code p [7]) : decode code p = .ok (.iconst (4), 1) := by
  obtain ⟨⟨h0, e0⟩, -⟩ := h
  refine dc_of (n := 1) ?_; unfold Decoder.instr; rw [bind_run (u1_run h0), e0]; rfl
theorem en_iconst_6 (h : By code p [8]) : decode code p = .ok (.iconst (5), 1) := by
  obtain ⟨⟨h0, e0⟩, -⟩ := h
  refine dc_of (n := 1) ?_; unfold Decoder.instr; rw [bind_run (u1_run h0), e0]; rfl
theorem en_aload {x : Nat} (h : By code p [25, x]) : decode code p = .ok (.aload x, 2) := by
  obtain ⟨⟨h0, e0⟩, ⟨h1, e1⟩, -⟩ := h
  refine dc_of (n := 2) ?_; unfold Decoder.instr; rw [bind_run (u1_run h0), e0]; show Reader.runAt (Reader.u1 >>= fun a => pure (Instr.aload a)) code (p + 1) = _; rw [bind_run (u1_run h1), e1]; rfl
theorem en_astore {x : Nat} (h : By code p [58, x]) : decode code p = .ok (.astore x, 2) := by
  obtain ⟨⟨h0, e0⟩, ⟨h1, e1⟩, -⟩ := h
  refine dc_of (n := 2) ?_; unfold Decoder.instr; rw [bind_run (u1_run h0), e0]; show Reader.runAt (Reader.u1 >>= fun a => pure (Instr.astore a)) code (p + 1) = _; rw [bind_run (u1_run h1), e1]; rfl
theorem en_iload {x : Nat} (h : By code p [21, x]) : decode code p = .ok (.iload x, 2) := by
  obtain ⟨⟨h0, e0⟩, ⟨h1, e1⟩, -⟩ := h
  refine dc_of (n := 2) ?_; unfold Decoder.instr; rw [bind_run (u1_run h0), e0]; show Reader.runAt (Reader.u1 >>= fun a => pure (Instr.iload a)) code (p + 1) = _; rw [bind_run (u1_run h1), e1]; rfl
theorem en_istore {x : Nat} (h : By code p [54, x]) : decode code p = .ok (.istore x, 2) := by
  obtain ⟨⟨h0, e0⟩, ⟨h1, e1⟩, -⟩ := h
  refine dc_of (n := 2) ?_; unfold Decoder.instr; rw [bind_run (u1_run h0), e0]; show Reader.runAt (Reader.u1 >>= fun a => pure (Instr.istore a)) code (p + 1) = _; rw [bind_run (u1_run h1), e1]; rfl
theorem en_lload {x : Nat} (h : By code p [22, x]) : decode code p = .ok (.lload x, 2) := by
  obtain ⟨⟨h0, e0⟩, ⟨h1, e1⟩, -⟩ := h
  refine dc_of (n := 2) ?_; unfold Decoder.instr; rw [bind_run (u1_run h0), e0]; show Reader.runAt (Reader.u1 >>= fun a => pure (Instr.lload a)) code (p + 1) = _; rw [bind_run (u1_run h1), e1]; rfl
theorem en_lstore {x : Nat} (h : By code p [55, x]) : decode code p = .ok (.lstore x, 2) := by
  obtain ⟨⟨h0, e0⟩, ⟨h1, e1⟩, -⟩ := h
  refine dc_of (n := 2) ?_; unfold Decoder.instr; rw [bind_run (u1_run h0), e0]; show Reader.runAt (Reader.u1 >>= fun a => pure (Instr.lstore a)) code (p + 1) = _; rw [bind_run (u1_run h1), e1]; rfl
theorem en_ldc {x : Nat} (h : By code p [18, x]) : decode code p = .ok (.ldc x, 2) := by
  obtain ⟨⟨h0, e0⟩, ⟨h1, e1⟩, -⟩ := h
  refine dc_of (n := 2) ?_; unfold Decoder.instr; rw [bind_run (u1_run h0), e0]; show Reader.runAt (Reader.u1 >>= fun a => pure (Instr.ldc a)) code (p + 1) = _; rw [bind_run (u1_run h1), e1]; rfl
theorem s1_run (h : p < code.size) : Reader.runAt (ε := DecodeError) Reader.s1 code p = .ok (Reader.signed 8 code[p].toNat, p + 1) := map_run (u1_run h)
theorem s2_run (h0 : p < code.size) (h1 : p + 1 < code.size) : Reader.runAt (ε := DecodeError) Reader.s2 code p = .ok (Reader.signed 16 (code[p].toNat * 256 + code[p + 1].toNat), p + 1 + 1) := map_run (u2_run h0 h1)
theorem en_bipush {x : Int} (hx : -128 ≤ x ∧ x ≤ 127) (h : By code p [16, (x % 256).toNat]) : decode code p = .ok (.bipush x, 2) := by
  obtain ⟨⟨h0, e0⟩, ⟨h1, e1⟩, -⟩ := h
  refine dc_of (n := 2) ?_; unfold Decoder.instr; rw [bind_run (u1_run h0), e0]; show Reader.runAt (Reader.s1 >>= fun a => pure (Instr.bipush a)) code (p + 1) = _; rw [bind_run (s1_run h1), e1, sg8 hx]; rfl
theorem en_anewarray {x : Nat} (h : By code p [189, x / 256, x % 256]) : decode code p = .ok (.anewarray x, 3) := by
  obtain ⟨⟨h0, e0⟩, ⟨h1, e1⟩, ⟨h2, e2⟩, -⟩ := h
  refine dc_of (n := 3) ?_; unfold Decoder.instr; rw [bind_run (u1_run h0), e0]; show Reader.runAt (Reader.u2 >>= fun a => pure (Instr.anewarray a)) code (p + 1) = _; rw [bind_run (u2_run h1 h2), e1, e2, show x / 256 * 256 + x % 256 = x by omega]; rfl
theorem en_getfield {x : Nat} (h : By code p [180, x / 256, x % 256]) : decode code p = .ok (.getfield x, 3) := by
  obtain ⟨⟨h0, e0⟩, ⟨h1, e1⟩, ⟨h2, e2⟩, -⟩ := h
  refine dc_of (n := 3) ?_; unfold Decoder.instr; rw [bind_run (u1_run h0), e0]; show Reader.runAt (Reader.u2 >>= fun a => pure (Instr.getfield a)) code (p + 1) = _; rw [bind_run (u2_run h1 h2), e1, e2, show x / 256 * 256 + x % 256 = x by omega]; rfl
theorem en_getstatic {x : Nat} (h : By code p [178, x / 256, x % 256]) : decode code p = .ok (.getstatic x, 3) := by
  obtain ⟨⟨h0, e0⟩, ⟨h1, e1⟩, ⟨h2, e2⟩, -⟩ := h
  refine dc_of (n := 3) ?_; unfold Decoder.instr; rw [bind_run (u1_run h0), e0]; show Reader.runAt (Reader.u2 >>= fun a => pure (Instr.getstatic a)) code (p + 1) = _; rw [bind_run (u2_run h1 h2), e1, e2, show x / 256 * 256 + x % 256 = x by omega]; rfl
theorem en_invokespecial {x : Nat} (h : By code p [183, x / 256, x % 256]) : decode code p = .ok (.invokespecial x, 3) := by
  obtain ⟨⟨h0, e0⟩, ⟨h1, e1⟩, ⟨h2, e2⟩, -⟩ := h
  refine dc_of (n := 3) ?_; unfold Decoder.instr; rw [bind_run (u1_run h0), e0]; show Reader.runAt (Reader.u2 >>= fun a => pure (Instr.invokespecial a)) code (p + 1) = _; rw [bind_run (u2_run h1 h2), e1, e2, show x / 256 * 256 + x % 256 = x by omega]; rfl
theorem en_invokestatic {x : Nat} (h : By code p [184, x / 256, x % 256]) : decode code p = .ok (.invokestatic x, 3) := by
  obtain ⟨⟨h0, e0⟩, ⟨h1, e1⟩, ⟨h2, e2⟩, -⟩ := h
  refine dc_of (n := 3) ?_; unfold Decoder.instr; rw [bind_run (u1_run h0), e0]; show Reader.runAt (Reader.u2 >>= fun a => pure (Instr.invokestatic a)) code (p + 1) = _; rw [bind_run (u2_run h1 h2), e1, e2, show x / 256 * 256 + x % 256 = x by omega]; rfl
theorem en_invokevirtual {x : Nat} (h : By code p [182, x / 256, x % 256]) : decode code p = .ok (.invokevirtual x, 3) := by
  obtain ⟨⟨h0, e0⟩, ⟨h1, e1⟩, ⟨h2, e2⟩, -⟩ := h
  refine dc_of (n := 3) ?_; unfold Decoder.instr; rw [bind_run (u1_run h0), e0]; show Reader.runAt (Reader.u2 >>= fun a => pure (Instr.invokevirtual a)) code (p + 1) = _; rw [bind_run (u2_run h1 h2), e1, e2, show x / 256 * 256 + x % 256 = x by omega]; rfl
theorem en_ldc2_w {x : Nat} (h : By code p [20, x / 256, x % 256]) : decode code p = .ok (.ldc2_w x, 3) := by
  obtain ⟨⟨h0, e0⟩, ⟨h1, e1⟩, ⟨h2, e2⟩, -⟩ := h
  refine dc_of (n := 3) ?_; unfold Decoder.instr; rw [bind_run (u1_run h0), e0]; show Reader.runAt (Reader.u2 >>= fun a => pure (Instr.ldc2_w a)) code (p + 1) = _; rw [bind_run (u2_run h1 h2), e1, e2, show x / 256 * 256 + x % 256 = x by omega]; rfl
theorem en_ldc_w {x : Nat} (h : By code p [19, x / 256, x % 256]) : decode code p = .ok (.ldc_w x, 3) := by
  obtain ⟨⟨h0, e0⟩, ⟨h1, e1⟩, ⟨h2, e2⟩, -⟩ := h
  refine dc_of (n := 3) ?_; unfold Decoder.instr; rw [bind_run (u1_run h0), e0]; show Reader.runAt (Reader.u2 >>= fun a => pure (Instr.ldc_w a)) code (p + 1) = _; rw [bind_run (u2_run h1 h2), e1, e2, show x / 256 * 256 + x % 256 = x by omega]; rfl
theorem en_new {x : Nat} (h : By code p [187, x / 256, x % 256]) : decode code p = .ok (.new x, 3) := by
  obtain ⟨⟨h0, e0⟩, ⟨h1, e1⟩, ⟨h2, e2⟩, -⟩ := h
  refine dc_of (n := 3) ?_; unfold Decoder.instr; rw [bind_run (u1_run h0), e0]; show Reader.runAt (Reader.u2 >>= fun a => pure (Instr.new a)) code (p + 1) = _; rw [bind_run (u2_run h1 h2), e1, e2, show x / 256 * 256 + x % 256 = x by omega]; rfl
theorem en_putfield {x : Nat} (h : By code p [181, x / 256, x % 256]) : decode code p = .ok (.putfield x, 3) := by
  obtain ⟨⟨h0, e0⟩, ⟨h1, e1⟩, ⟨h2, e2⟩, -⟩ := h
  refine dc_of (n := 3) ?_; unfold Decoder.instr; rw [bind_run (u1_run h0), e0]; show Reader.runAt (Reader.u2 >>= fun a => pure (Instr.putfield a)) code (p + 1) = _; rw [bind_run (u2_run h1 h2), e1, e2, show x / 256 * 256 + x % 256 = x by omega]; rfl
theorem en_sipush {x : Int} (hx : -32768 ≤ x ∧ x ≤ 32767) (h : By code p [17, (x % 65536).toNat / 256, (x % 65536).toNat % 256]) : decode code p = .ok (.sipush x, 3) := by
  obtain ⟨⟨h0, e0⟩, ⟨h1, e1⟩, ⟨h2, e2⟩, -⟩ := h
  refine dc_of (n := 3) ?_; unfold Decoder.instr; rw [bind_run (u1_run h0), e0]; show Reader.runAt (Reader.s2 >>= fun a => pure (Instr.sipush a)) code (p + 1) = _; rw [bind_run (s2_run h1 h2), e1, e2, sg16 hx]; rfl
theorem en_goto {x : Int} (hx : -32768 ≤ x ∧ x ≤ 32767) (h : By code p [167, (x % 65536).toNat / 256, (x % 65536).toNat % 256]) : decode code p = .ok (.goto x, 3) := by
  obtain ⟨⟨h0, e0⟩, ⟨h1, e1⟩, ⟨h2, e2⟩, -⟩ := h
  refine dc_of (n := 3) ?_; unfold Decoder.instr; rw [bind_run (u1_run h0), e0]; show Reader.runAt (Reader.s2 >>= fun a => pure (Instr.goto a)) code (p + 1) = _; rw [bind_run (s2_run h1 h2), e1, e2, sg16 hx]; rfl
theorem en_ifnull {x : Int} (hx : -32768 ≤ x ∧ x ≤ 32767) (h : By code p [198, (x % 65536).toNat / 256, (x % 65536).toNat % 256]) : decode code p = .ok (.ifnull x, 3) := by
  obtain ⟨⟨h0, e0⟩, ⟨h1, e1⟩, ⟨h2, e2⟩, -⟩ := h
  refine dc_of (n := 3) ?_; unfold Decoder.instr; rw [bind_run (u1_run h0), e0]; show Reader.runAt (Reader.s2 >>= fun a => pure (Instr.ifnull a)) code (p + 1) = _; rw [bind_run (s2_run h1 h2), e1, e2, sg16 hx]; rfl
theorem en_ifnonnull {x : Int} (hx : -32768 ≤ x ∧ x ≤ 32767) (h : By code p [199, (x % 65536).toNat / 256, (x % 65536).toNat % 256]) : decode code p = .ok (.ifnonnull x, 3) := by
  obtain ⟨⟨h0, e0⟩, ⟨h1, e1⟩, ⟨h2, e2⟩, -⟩ := h
  refine dc_of (n := 3) ?_; unfold Decoder.instr; rw [bind_run (u1_run h0), e0]; show Reader.runAt (Reader.s2 >>= fun a => pure (Instr.ifnonnull a)) code (p + 1) = _; rw [bind_run (s2_run h1 h2), e1, e2, sg16 hx]; rfl
theorem en_ifCond_eq {x : Int} (hx : -32768 ≤ x ∧ x ≤ 32767) (h : By code p [153, (x % 65536).toNat / 256, (x % 65536).toNat % 256]) : decode code p = .ok (.ifCond .eq x, 3) := by
  obtain ⟨⟨h0, e0⟩, ⟨h1, e1⟩, ⟨h2, e2⟩, -⟩ := h
  refine dc_of (n := 3) ?_; unfold Decoder.instr; rw [bind_run (u1_run h0), e0]; show Reader.runAt (Reader.s2 >>= fun a => pure (Instr.ifCond .eq a)) code (p + 1) = _; rw [bind_run (s2_run h1 h2), e1, e2, sg16 hx]; rfl
theorem en_ifCond_ne {x : Int} (hx : -32768 ≤ x ∧ x ≤ 32767) (h : By code p [154, (x % 65536).toNat / 256, (x % 65536).toNat % 256]) : decode code p = .ok (.ifCond .ne x, 3) := by
  obtain ⟨⟨h0, e0⟩, ⟨h1, e1⟩, ⟨h2, e2⟩, -⟩ := h
  refine dc_of (n := 3) ?_; unfold Decoder.instr; rw [bind_run (u1_run h0), e0]; show Reader.runAt (Reader.s2 >>= fun a => pure (Instr.ifCond .ne a)) code (p + 1) = _; rw [bind_run (s2_run h1 h2), e1, e2, sg16 hx]; rfl
theorem en_ifCond_lt {x : Int} (hx : -32768 ≤ x ∧ x ≤ 32767) (h : By code p [155, (x % 65536).toNat / 256, (x % 65536).toNat % 256]) : decode code p = .ok (.ifCond .lt x, 3) := by
  obtain ⟨⟨h0, e0⟩, ⟨h1, e1⟩, ⟨h2, e2⟩, -⟩ := h
  refine dc_of (n := 3) ?_; unfold Decoder.instr; rw [bind_run (u1_run h0), e0]; show Reader.runAt (Reader.s2 >>= fun a => pure (Instr.ifCond .lt a)) code (p + 1) = _; rw [bind_run (s2_run h1 h2), e1, e2, sg16 hx]; rfl
theorem en_ifCond_ge {x : Int} (hx : -32768 ≤ x ∧ x ≤ 32767) (h : By code p [156, (x % 65536).toNat / 256, (x % 65536).toNat % 256]) : decode code p = .ok (.ifCond .ge x, 3) := by
  obtain ⟨⟨h0, e0⟩, ⟨h1, e1⟩, ⟨h2, e2⟩, -⟩ := h
  refine dc_of (n := 3) ?_; unfold Decoder.instr; rw [bind_run (u1_run h0), e0]; show Reader.runAt (Reader.s2 >>= fun a => pure (Instr.ifCond .ge a)) code (p + 1) = _; rw [bind_run (s2_run h1 h2), e1, e2, sg16 hx]; rfl
theorem en_ifCond_gt {x : Int} (hx : -32768 ≤ x ∧ x ≤ 32767) (h : By code p [157, (x % 65536).toNat / 256, (x % 65536).toNat % 256]) : decode code p = .ok (.ifCond .gt x, 3) := by
  obtain ⟨⟨h0, e0⟩, ⟨h1, e1⟩, ⟨h2, e2⟩, -⟩ := h
  refine dc_of (n := 3) ?_; unfold Decoder.instr; rw [bind_run (u1_run h0), e0]; show Reader.runAt (Reader.s2 >>= fun a => pure (Instr.ifCond .gt a)) code (p + 1) = _; rw [bind_run (s2_run h1 h2), e1, e2, sg16 hx]; rfl
theorem en_ifCond_le {x : Int} (hx : -32768 ≤ x ∧ x ≤ 32767) (h : By code p [158, (x % 65536).toNat / 256, (x % 65536).toNat % 256]) : decode code p = .ok (.ifCond .le x, 3) := by
  obtain ⟨⟨h0, e0⟩, ⟨h1, e1⟩, ⟨h2, e2⟩, -⟩ := h
  refine dc_of (n := 3) ?_; unfold Decoder.instr; rw [bind_run (u1_run h0), e0]; show Reader.runAt (Reader.s2 >>= fun a => pure (Instr.ifCond .le a)) code (p + 1) = _; rw [bind_run (s2_run h1 h2), e1, e2, sg16 hx]; rfl
theorem en_if_icmp_eq {x : Int} (hx : -32768 ≤ x ∧ x ≤ 32767) (h : By code p [159, (x % 65536).toNat / 256, (x % 65536).toNat % 256]) : decode code p = .ok (.if_icmp .eq x, 3) := by
  obtain ⟨⟨h0, e0⟩, ⟨h1, e1⟩, ⟨h2, e2⟩, -⟩ := h
  refine dc_of (n := 3) ?_; unfold Decoder.instr; rw [bind_run (u1_run h0), e0]; show Reader.runAt (Reader.s2 >>= fun a => pure (Instr.if_icmp .eq a)) code (p + 1) = _; rw [bind_run (s2_run h1 h2), e1, e2, sg16 hx]; rfl
theorem en_if_icmp_ne {x : Int} (hx : -32768 ≤ x ∧ x ≤ 32767) (h : By code p [160, (x % 65536).toNat / 256, (x % 65536).toNat % 256]) : decode code p = .ok (.if_icmp .ne x, 3) := by
  obtain ⟨⟨h0, e0⟩, ⟨h1, e1⟩, ⟨h2, e2⟩, -⟩ := h
  refine dc_of (n := 3) ?_; unfold Decoder.instr; rw [bind_run (u1_run h0), e0]; show Reader.runAt (Reader.s2 >>= fun a => pure (Instr.if_icmp .ne a)) code (p + 1) = _; rw [bind_run (s2_run h1 h2), e1, e2, sg16 hx]; rfl
theorem en_if_icmp_lt {x : Int} (hx : -32768 ≤ x ∧ x ≤ 32767) (h : By code p [161, (x % 65536).toNat / 256, (x % 65536).toNat % 256]) : decode code p = .ok (.if_icmp .lt x, 3) := by
  obtain ⟨⟨h0, e0⟩, ⟨h1, e1⟩, ⟨h2, e2⟩, -⟩ := h
  refine dc_of (n := 3) ?_; unfold Decoder.instr; rw [bind_run (u1_run h0), e0]; show Reader.runAt (Reader.s2 >>= fun a => pure (Instr.if_icmp .lt a)) code (p + 1) = _; rw [bind_run (s2_run h1 h2), e1, e2, sg16 hx]; rfl
theorem en_if_icmp_ge {x : Int} (hx : -32768 ≤ x ∧ x ≤ 32767) (h : By code p [162, (x % 65536).toNat / 256, (x % 65536).toNat % 256]) : decode code p = .ok (.if_icmp .ge x, 3) := by
  obtain ⟨⟨h0, e0⟩, ⟨h1, e1⟩, ⟨h2, e2⟩, -⟩ := h
  refine dc_of (n := 3) ?_; unfold Decoder.instr; rw [bind_run (u1_run h0), e0]; show Reader.runAt (Reader.s2 >>= fun a => pure (Instr.if_icmp .ge a)) code (p + 1) = _; rw [bind_run (s2_run h1 h2), e1, e2, sg16 hx]; rfl
theorem en_if_icmp_gt {x : Int} (hx : -32768 ≤ x ∧ x ≤ 32767) (h : By code p [163, (x % 65536).toNat / 256, (x % 65536).toNat % 256]) : decode code p = .ok (.if_icmp .gt x, 3) := by
  obtain ⟨⟨h0, e0⟩, ⟨h1, e1⟩, ⟨h2, e2⟩, -⟩ := h
  refine dc_of (n := 3) ?_; unfold Decoder.instr; rw [bind_run (u1_run h0), e0]; show Reader.runAt (Reader.s2 >>= fun a => pure (Instr.if_icmp .gt a)) code (p + 1) = _; rw [bind_run (s2_run h1 h2), e1, e2, sg16 hx]; rfl
theorem en_if_icmp_le {x : Int} (hx : -32768 ≤ x ∧ x ≤ 32767) (h : By code p [164, (x % 65536).toNat / 256, (x % 65536).toNat % 256]) : decode code p = .ok (.if_icmp .le x, 3) := by
  obtain ⟨⟨h0, e0⟩, ⟨h1, e1⟩, ⟨h2, e2⟩, -⟩ := h
  refine dc_of (n := 3) ?_; unfold Decoder.instr; rw [bind_run (u1_run h0), e0]; show Reader.runAt (Reader.s2 >>= fun a => pure (Instr.if_icmp .le a)) code (p + 1) = _; rw [bind_run (s2_run h1 h2), e1, e2, sg16 hx]; rfl
theorem en_if_acmp_eq {x : Int} (hx : -32768 ≤ x ∧ x ≤ 32767) (h : By code p [165, (x % 65536).toNat / 256, (x % 65536).toNat % 256]) : decode code p = .ok (.if_acmp .eq x, 3) := by
  obtain ⟨⟨h0, e0⟩, ⟨h1, e1⟩, ⟨h2, e2⟩, -⟩ := h
  refine dc_of (n := 3) ?_; unfold Decoder.instr; rw [bind_run (u1_run h0), e0]; show Reader.runAt (Reader.s2 >>= fun a => pure (Instr.if_acmp .eq a)) code (p + 1) = _; rw [bind_run (s2_run h1 h2), e1, e2, sg16 hx]; rfl
theorem en_if_acmp_ne {x : Int} (hx : -32768 ≤ x ∧ x ≤ 32767) (h : By code p [166, (x % 65536).toNat / 256, (x % 65536).toNat % 256]) : decode code p = .ok (.if_acmp .ne x, 3) := by
  obtain ⟨⟨h0, e0⟩, ⟨h1, e1⟩, ⟨h2, e2⟩, -⟩ := h
  refine dc_of (n := 3) ?_; unfold Decoder.instr; rw [bind_run (u1_run h0), e0]; show Reader.runAt (Reader.s2 >>= fun a => pure (Instr.if_acmp .ne a)) code (p + 1) = _; rw [bind_run (s2_run h1 h2), e1, e2, sg16 hx]; rfl
theorem en_iinc {i : Nat} {x : Int} (hx : -128 ≤ x ∧ x ≤ 127) (h : By code p [132, i, (x % 256).toNat]) : decode code p = .ok (.iinc i x, 3) := by
  obtain ⟨⟨h0, e0⟩, ⟨h1, e1⟩, ⟨h2, e2⟩, -⟩ := h
  refine dc_of (n := 3) ?_; unfold Decoder.instr; rw [bind_run (u1_run h0), e0]; show Reader.runAt (Reader.u1 >>= fun a => Reader.s1 >>= fun b => pure (Instr.iinc a b)) code (p + 1) = _; rw [bind_run (u1_run h1), bind_run (s1_run h2), e1, e2, sg8 hx]; rfl
theorem en_newarray_byte (h : By code p [188, 8]) : decode code p = .ok (.newarray .byte, 2) := by
  obtain ⟨⟨h0, e0⟩, ⟨h1, e1⟩, -⟩ := h
  refine dc_of (n := 2) ?_; unfold Decoder.instr; rw [bind_run (u1_run h0), e0]; show Reader.runAt (Decoder.newarray p) code (p + 1) = _; unfold Decoder.newarray; rw [bind_run (u1_run h1), e1]; rfl
theorem en_newarray_int (h : By code p [188, 10]) : decode code p = .ok (.newarray .int, 2) := by
  obtain ⟨⟨h0, e0⟩, ⟨h1, e1⟩, -⟩ := h
  refine dc_of (n := 2) ?_; unfold Decoder.instr; rw [bind_run (u1_run h0), e0]; show Reader.runAt (Decoder.newarray p) code (p + 1) = _; unfold Decoder.newarray; rw [bind_run (u1_run h1), e1]; rfl
theorem en_newarray_long (h : By code p [188, 11]) : decode code p = .ok (.newarray .long, 2) := by
  obtain ⟨⟨h0, e0⟩, ⟨h1, e1⟩, -⟩ := h
  refine dc_of (n := 2) ?_; unfold Decoder.instr; rw [bind_run (u1_run h0), e0]; show Reader.runAt (Decoder.newarray p) code (p + 1) = _; unfold Decoder.newarray; rw [bind_run (u1_run h1), e1]; rfl
theorem enc_ok {i : Instr} (hne : enc i ≠ []) (h : By code p (enc i)) : decode code p = .ok (i, (enc i).length) := by
  cases i with
  | aaload => exact en_aaload h
  | aastore => exact en_aastore h
  | aconst_null => exact en_aconst_null h
  | areturn => exact en_areturn h
  | arraylength => exact en_arraylength h
  | athrow => exact en_athrow h
  | baload => exact en_baload h
  | bastore => exact en_bastore h
  | dup => exact en_dup h
  | dup2 => exact en_dup2 h
  | i2b => exact en_i2b h
  | i2c => exact en_i2c h
  | i2l => exact en_i2l h
  | iadd => exact en_iadd h
  | iaload => exact en_iaload h
  | iand => exact en_iand h
  | iastore => exact en_iastore h
  | idiv => exact en_idiv h
  | imul => exact en_imul h
  | ineg => exact en_ineg h
  | ior => exact en_ior h
  | irem => exact en_irem h
  | ireturn => exact en_ireturn h
  | ishl => exact en_ishl h
  | ishr => exact en_ishr h
  | isub => exact en_isub h
  | iushr => exact en_iushr h
  | ixor => exact en_ixor h
  | l2i => exact en_l2i h
  | ladd => exact en_ladd h
  | laload => exact en_laload h
  | lastore => exact en_lastore h
  | lcmp => exact en_lcmp h
  | ldiv => exact en_ldiv h
  | lmul => exact en_lmul h
  | lreturn => exact en_lreturn h
  | pop => exact en_pop h
  | return_ => exact en_return_ h
  | aload_n k =>
    obtain ⟨k, hk⟩ := k
    rcases k with _ | _ | _ | _ | k
    · exact en_aload_n_0 h
    · exact en_aload_n_1 h
    · exact en_aload_n_2 h
    · exact en_aload_n_3 h
    · exact absurd hk (by omega)
  | astore_n k =>
    obtain ⟨k, hk⟩ := k
    rcases k with _ | _ | _ | _ | k
    · exact en_astore_n_0 h
    · exact en_astore_n_1 h
    · exact en_astore_n_2 h
    · exact en_astore_n_3 h
    · exact absurd hk (by omega)
  | iload_n k =>
    obtain ⟨k, hk⟩ := k
    rcases k with _ | _ | _ | _ | k
    · exact en_iload_n_0 h
    · exact en_iload_n_1 h
    · exact en_iload_n_2 h
    · exact en_iload_n_3 h
    · exact absurd hk (by omega)
  | istore_n k =>
    obtain ⟨k, hk⟩ := k
    rcases k with _ | _ | _ | _ | k
    · exact en_istore_n_0 h
    · exact en_istore_n_1 h
    · exact en_istore_n_2 h
    · exact en_istore_n_3 h
    · exact absurd hk (by omega)
  | lload_n k =>
    obtain ⟨k, hk⟩ := k
    rcases k with _ | _ | _ | _ | k
    · exact en_lload_n_0 h
    · exact en_lload_n_1 h
    · exact en_lload_n_2 h
    · exact en_lload_n_3 h
    · exact absurd hk (by omega)
  | lstore_n k =>
    obtain ⟨k, hk⟩ := k
    rcases k with _ | _ | _ | _ | k
    · exact en_lstore_n_0 h
    · exact en_lstore_n_1 h
    · exact en_lstore_n_2 h
    · exact en_lstore_n_3 h
    · exact absurd hk (by omega)
  | lconst k =>
    obtain ⟨k, hk⟩ := k
    rcases k with _ | _ | k
    · exact en_lconst_0 h
    · exact en_lconst_1 h
    · exact absurd hk (by omega)
  | iconst x =>
    have hne : enk x ≠ [] := hne
    have h : By code p (enk x) := h
    show decode code p = .ok (.iconst x, (enk x).length)
    unfold enk at hne h ⊢
    by_cases c0 : x = -1
    · subst c0
      exact en_iconst_0 h
    rw [if_neg c0] at hne h ⊢
    by_cases c1 : x = 0
    · subst c1
      exact en_iconst_1 h
    rw [if_neg c1] at hne h ⊢
    by_cases c2 : x = 1
    · subst c2
      exact en_iconst_2 h
    rw [if_neg c2] at hne h ⊢
    by_cases c3 : x = 2
    · subst c3
      exact en_iconst_3 h
    rw [if_neg c3] at hne h ⊢
    by_cases c4 : x = 3
    · subst c4
      exact en_iconst_4 h
    rw [if_neg c4] at hne h ⊢
    by_cases c5 : x = 4
    · subst c5
      exact en_iconst_5 h
    rw [if_neg c5] at hne h ⊢
    by_cases c6 : x = 5
    · subst c6
      exact en_iconst_6 h
    rw [if_neg c6] at hne h ⊢
    exact absurd rfl hne
  | aload x => exact en_aload h
  | astore x => exact en_astore h
  | iload x => exact en_iload h
  | istore x => exact en_istore h
  | lload x => exact en_lload h
  | lstore x => exact en_lstore h
  | ldc x => exact en_ldc h
  | bipush x =>
    have hne : en1 x [16] ≠ [] := hne
    have h : By code p (en1 x [16]) := h
    show decode code p = .ok (.bipush x, (en1 x [16]).length)
    unfold en1 at hne h ⊢
    by_cases c : -128 ≤ x ∧ x ≤ 127
    · rw [if_pos c] at h ⊢
      exact en_bipush c h
    · rw [if_neg c] at hne
      exact absurd rfl hne
  | anewarray x => exact en_anewarray h
  | getfield x => exact en_getfield h
  | getstatic x => exact en_getstatic h
  | invokespecial x => exact en_invokespecial h
  | invokestatic x => exact en_invokestatic h
  | invokevirtual x => exact en_invokevirtual h
  | ldc2_w x => exact en_ldc2_w h
  | ldc_w x => exact en_ldc_w h
  | new x => exact en_new h
  | putfield x => exact en_putfield h
  | sipush x =>
    have hne : en2 17 x ≠ [] := hne
    have h : By code p (en2 17 x) := h
    show decode code p = .ok (.sipush x, (en2 17 x).length)
    unfold en2 at hne h ⊢
    by_cases c : -32768 ≤ x ∧ x ≤ 32767
    · rw [if_pos c] at h ⊢
      exact en_sipush c h
    · rw [if_neg c] at hne
      exact absurd rfl hne
  | goto x =>
    have hne : en2 167 x ≠ [] := hne
    have h : By code p (en2 167 x) := h
    show decode code p = .ok (.goto x, (en2 167 x).length)
    unfold en2 at hne h ⊢
    by_cases c : -32768 ≤ x ∧ x ≤ 32767
    · rw [if_pos c] at h ⊢
      exact en_goto c h
    · rw [if_neg c] at hne
      exact absurd rfl hne
  | ifnull x =>
    have hne : en2 198 x ≠ [] := hne
    have h : By code p (en2 198 x) := h
    show decode code p = .ok (.ifnull x, (en2 198 x).length)
    unfold en2 at hne h ⊢
    by_cases c : -32768 ≤ x ∧ x ≤ 32767
    · rw [if_pos c] at h ⊢
      exact en_ifnull c h
    · rw [if_neg c] at hne
      exact absurd rfl hne
  | ifnonnull x =>
    have hne : en2 199 x ≠ [] := hne
    have h : By code p (en2 199 x) := h
    show decode code p = .ok (.ifnonnull x, (en2 199 x).length)
    unfold en2 at hne h ⊢
    by_cases c : -32768 ≤ x ∧ x ≤ 32767
    · rw [if_pos c] at h ⊢
      exact en_ifnonnull c h
    · rw [if_neg c] at hne
      exact absurd rfl hne
  | ifCond c0 x =>
    cases c0 with
    | eq =>
      have hne : en2 153 x ≠ [] := hne
      have h : By code p (en2 153 x) := h
      show decode code p = .ok (.ifCond .eq x, (en2 153 x).length)
      unfold en2 at hne h ⊢
      by_cases c : -32768 ≤ x ∧ x ≤ 32767
      · rw [if_pos c] at h ⊢
        exact en_ifCond_eq c h
      · rw [if_neg c] at hne
        exact absurd rfl hne
    | ne =>
      have hne : en2 154 x ≠ [] := hne
      have h : By code p (en2 154 x) := h
      show decode code p = .ok (.ifCond .ne x, (en2 154 x).length)
      unfold en2 at hne h ⊢
      by_cases c : -32768 ≤ x ∧ x ≤ 32767
      · rw [if_pos c] at h ⊢
        exact en_ifCond_ne c h
      · rw [if_neg c] at hne
        exact absurd rfl hne
    | lt =>
      have hne : en2 155 x ≠ [] := hne
      have h : By code p (en2 155 x) := h
      show decode code p = .ok (.ifCond .lt x, (en2 155 x).length)
      unfold en2 at hne h ⊢
      by_cases c : -32768 ≤ x ∧ x ≤ 32767
      · rw [if_pos c] at h ⊢
        exact en_ifCond_lt c h
      · rw [if_neg c] at hne
        exact absurd rfl hne
    | ge =>
      have hne : en2 156 x ≠ [] := hne
      have h : By code p (en2 156 x) := h
      show decode code p = .ok (.ifCond .ge x, (en2 156 x).length)
      unfold en2 at hne h ⊢
      by_cases c : -32768 ≤ x ∧ x ≤ 32767
      · rw [if_pos c] at h ⊢
        exact en_ifCond_ge c h
      · rw [if_neg c] at hne
        exact absurd rfl hne
    | gt =>
      have hne : en2 157 x ≠ [] := hne
      have h : By code p (en2 157 x) := h
      show decode code p = .ok (.ifCond .gt x, (en2 157 x).length)
      unfold en2 at hne h ⊢
      by_cases c : -32768 ≤ x ∧ x ≤ 32767
      · rw [if_pos c] at h ⊢
        exact en_ifCond_gt c h
      · rw [if_neg c] at hne
        exact absurd rfl hne
    | le =>
      have hne : en2 158 x ≠ [] := hne
      have h : By code p (en2 158 x) := h
      show decode code p = .ok (.ifCond .le x, (en2 158 x).length)
      unfold en2 at hne h ⊢
      by_cases c : -32768 ≤ x ∧ x ≤ 32767
      · rw [if_pos c] at h ⊢
        exact en_ifCond_le c h
      · rw [if_neg c] at hne
        exact absurd rfl hne
  | if_icmp c0 x =>
    cases c0 with
    | eq =>
      have hne : en2 159 x ≠ [] := hne
      have h : By code p (en2 159 x) := h
      show decode code p = .ok (.if_icmp .eq x, (en2 159 x).length)
      unfold en2 at hne h ⊢
      by_cases c : -32768 ≤ x ∧ x ≤ 32767
      · rw [if_pos c] at h ⊢
        exact en_if_icmp_eq c h
      · rw [if_neg c] at hne
        exact absurd rfl hne
    | ne =>
      have hne : en2 160 x ≠ [] := hne
      have h : By code p (en2 160 x) := h
      show decode code p = .ok (.if_icmp .ne x, (en2 160 x).length)
      unfold en2 at hne h ⊢
      by_cases c : -32768 ≤ x ∧ x ≤ 32767
      · rw [if_pos c] at h ⊢
        exact en_if_icmp_ne c h
      · rw [if_neg c] at hne
        exact absurd rfl hne
    | lt =>
      have hne : en2 161 x ≠ [] := hne
      have h : By code p (en2 161 x) := h
      show decode code p = .ok (.if_icmp .lt x, (en2 161 x).length)
      unfold en2 at hne h ⊢
      by_cases c : -32768 ≤ x ∧ x ≤ 32767
      · rw [if_pos c] at h ⊢
        exact en_if_icmp_lt c h
      · rw [if_neg c] at hne
        exact absurd rfl hne
    | ge =>
      have hne : en2 162 x ≠ [] := hne
      have h : By code p (en2 162 x) := h
      show decode code p = .ok (.if_icmp .ge x, (en2 162 x).length)
      unfold en2 at hne h ⊢
      by_cases c : -32768 ≤ x ∧ x ≤ 32767
      · rw [if_pos c] at h ⊢
        exact en_if_icmp_ge c h
      · rw [if_neg c] at hne
        exact absurd rfl hne
    | gt =>
      have hne : en2 163 x ≠ [] := hne
      have h : By code p (en2 163 x) := h
      show decode code p = .ok (.if_icmp .gt x, (en2 163 x).length)
      unfold en2 at hne h ⊢
      by_cases c : -32768 ≤ x ∧ x ≤ 32767
      · rw [if_pos c] at h ⊢
        exact en_if_icmp_gt c h
      · rw [if_neg c] at hne
        exact absurd rfl hne
    | le =>
      have hne : en2 164 x ≠ [] := hne
      have h : By code p (en2 164 x) := h
      show decode code p = .ok (.if_icmp .le x, (en2 164 x).length)
      unfold en2 at hne h ⊢
      by_cases c : -32768 ≤ x ∧ x ≤ 32767
      · rw [if_pos c] at h ⊢
        exact en_if_icmp_le c h
      · rw [if_neg c] at hne
        exact absurd rfl hne
  | if_acmp c0 x =>
    cases c0 with
    | eq =>
      have hne : en2 165 x ≠ [] := hne
      have h : By code p (en2 165 x) := h
      show decode code p = .ok (.if_acmp .eq x, (en2 165 x).length)
      unfold en2 at hne h ⊢
      by_cases c : -32768 ≤ x ∧ x ≤ 32767
      · rw [if_pos c] at h ⊢
        exact en_if_acmp_eq c h
      · rw [if_neg c] at hne
        exact absurd rfl hne
    | ne =>
      have hne : en2 166 x ≠ [] := hne
      have h : By code p (en2 166 x) := h
      show decode code p = .ok (.if_acmp .ne x, (en2 166 x).length)
      unfold en2 at hne h ⊢
      by_cases c : -32768 ≤ x ∧ x ≤ 32767
      · rw [if_pos c] at h ⊢
        exact en_if_acmp_ne c h
      · rw [if_neg c] at hne
        exact absurd rfl hne
  | iinc i x =>
    have hne : en1 x [132, i] ≠ [] := hne
    have h : By code p (en1 x [132, i]) := h
    show decode code p = .ok (.iinc i x, (en1 x [132, i]).length)
    unfold en1 at hne h ⊢
    by_cases c : -128 ≤ x ∧ x ≤ 127
    · rw [if_pos c] at h ⊢
      exact en_iinc c h
    · rw [if_neg c] at hne
      exact absurd rfl hne
  | newarray t =>
    cases t with
    | byte => exact en_newarray_byte h
    | int => exact en_newarray_int h
    | long => exact en_newarray_long h
    | _ => exact absurd rfl hne
  | _ => exact absurd rfl hne
/-- do these bytes begin so -/
def mtB : List Nat → List UInt8 → Bool
  | [], _ => true
  | a :: r, l => match l with
    | [] => false
    | b :: s => Nat.beq b.toNat a && mtB r s
theorem mtB_by {L : List UInt8} : ∀ (bs : List Nat) (q : Nat), mtB bs (L.drop q) = true → By ⟨⟨L⟩⟩ q bs := by
  intro bs
  induction bs with
  | nil => exact fun _ _ => trivial
  | cons a r ih =>
    intro q h
    by_cases hq : q < L.length
    · rw [List.drop_eq_getElem_cons hq] at h
      have h : (Nat.beq L[q].toNat a && mtB r (L.drop (q + 1))) = true := h
      rw [Bool.and_eq_true] at h
      exact ⟨⟨hq, Nat.eq_of_beq_eq_true h.1⟩, ih _ h.2⟩
    · rw [List.drop_eq_nil_of_le (by omega)] at h
      cases h
/-- one row, the bytes from its place on at hand -/
def okF (C : aM) (l : List UInt8) (e : aE) : Bool := match enc e.2.1 with
  | [] => okE C e
  | bs => mtB bs l && (Nat.beq (e.1 + bs.length) e.2.2.1 && ((Nat.beq (ilen e.2.1) 0 || Nat.beq (e.1 + ilen e.2.1) e.2.2.1) && okX e.1 e.2))
theorem okF_ok {C : aM} {L : List UInt8} {e : aE} (hC : C.2.1 = ⟨⟨L⟩⟩) (h : okF C (L.drop e.1) e = true) : okE C e = true := by
  unfold okF at h
  have key : enc e.2.1 ≠ [] → (mtB (enc e.2.1) (L.drop e.1) && (Nat.beq (e.1 + (enc e.2.1).length) e.2.2.1 && ((Nat.beq (ilen e.2.1) 0 || Nat.beq (e.1 + ilen e.2.1) e.2.2.1) && okX e.1 e.2))) = true → okE C e = true := by
    intro hne h
    rw [Bool.and_eq_true, Bool.and_eq_true] at h
    obtain ⟨h1, h2, h3⟩ := h
    have h2 := Nat.eq_of_beq_eq_true h2
    have d := enc_ok hne (mtB_by _ _ h1)
    rw [← hC] at d
    unfold okE
    rw [Bool.and_eq_true, Bool.and_eq_true]
    exact ⟨decide_eq_true (by rw [d, ← h2, Nat.add_sub_cancel_left]), Nat.ble_eq_true_of_le (by omega), h3⟩
  cases hb : enc e.2.1 with
  | nil =>
    rw [hb] at h
    exact h
  | cons a r =>
    rw [hb] at h
    exact key (by rw [hb]; exact List.cons_ne_nil _ _) (by rw [hb]; exact h)
def chkB (C : aM) : List UInt8 → Nat → List aE → Bool
  | _, _, [] => true
  | l, p, e :: r => Nat.ble p e.1 && (okF C (l.drop (e.1 - p)) e && chkB C (l.drop (e.1 - p)) e.1 r)
theorem chkB_ok {C : aM} {L : List UInt8} (hC : C.2.1 = ⟨⟨L⟩⟩) : ∀ (rows : List aE) (p : Nat), chkB C (L.drop p) p rows = true → rows.all (okE C) = true := by
  intro rows
  induction rows with
  | nil => exact fun _ _ => rfl
  | cons e r ih =>
    intro p h
    have h : (Nat.ble p e.1 && (okF C ((L.drop p).drop (e.1 - p)) e && chkB C ((L.drop p).drop (e.1 - p)) e.1 r)) = true := h
    rw [Bool.and_eq_true, Bool.and_eq_true] at h
    obtain ⟨h1, h2, h3⟩ := h
    have h1 := Nat.le_of_ble_eq_true h1
    rw [List.drop_drop, show p + (e.1 - p) = e.1 by omega] at h2 h3
    rw [List.all_cons, okF_ok hC h2, ih _ h3]
    rfl
/-- the chunks of rows, each with the bytes from its first place on -/
def chkC (C : aM) : List UInt8 → Nat → List (List aE) → Bool
  | _, _, [] => true
  | l, p, [] :: r => chkC C l p r
  | l, p, (e :: s) :: r => Nat.ble p e.1 && (chkB C (l.drop (e.1 - p)) e.1 (e :: s) && chkC C (l.drop (e.1 - p)) e.1 r)
theorem chkC_ok {C : aM} {L : List UInt8} (hC : C.2.1 = ⟨⟨L⟩⟩) : ∀ (ch : List (List aE)) (p : Nat), chkC C (L.drop p) p ch = true → ch.all (fun r => r.all (okE C)) = true := by
  intro ch
  induction ch with
  | nil => exact fun _ _ => rfl
  | cons x r ih =>
    intro p h
    cases x with
    | nil =>
      rw [List.all_cons, ih p h]
      rfl
    | cons e s =>
      have h : (Nat.ble p e.1 && (chkB C ((L.drop p).drop (e.1 - p)) e.1 (e :: s) && chkC C ((L.drop p).drop (e.1 - p)) e.1 r)) = true := h
      rw [Bool.and_eq_true, Bool.and_eq_true] at h
      obtain ⟨h1, h2, h3⟩ := h
      have h1 := Nat.le_of_ble_eq_true h1
      rw [List.drop_drop, show p + (e.1 - p) = e.1 by omega] at h2 h3
      rw [List.all_cons, chkB_ok hC _ _ h2, ih _ h3]
      rfl
def okQ (C : aM) : Bool := plainName C.1.cls && chkC C C.2.1.data.toList 0 C.2.2.2.2.2
theorem okM_q {C : aM} (h : okQ C = true) : okM C = true := by
  unfold okQ at h
  unfold okM
  rw [Bool.and_eq_true] at h ⊢
  exact ⟨h.1, chkC_ok (L := C.2.1.data.toList) rfl _ 0 h.2⟩
end T03b
