/-! the bytes of an instruction, by opcode -/
def sm_by (code : ByteArray) (p : Nat) : Option Nat := if h : p < code.size then some code[p].toNat else none
theorem sm_u1 {code : ByteArray} {p b : Nat} (h : sm_by code p = some b) : (Reader.u1 : Decoder Nat) code p = .ok (b, p + 1) := by
  unfold sm_by at h
  split at h
  · rename_i hp
    cases h
    show (dite (p < code.size) (fun h => (do set (p + 1); Pure.pure code[p].toNat : Decoder Nat)) (fun _ => throw (HasTruncated.truncated p))) code p = _
    rw [dif_pos hp]
    rfl
  · cases h
theorem sm_bd {α β : Type} {mm : Decoder α} {k : α → Decoder β} {code : ByteArray} {p p1 : Nat} {a : α} (h : mm code p = .ok (a, p1)) : (mm >>= k) code p = k a code p1 := by
  show Except.bind (mm code p) (fun r => k r.1 code r.2) = _
  rw [h]
  rfl
theorem sm_u2 {code : ByteArray} {p x y : Nat} (h1 : sm_by code p = some x) (h2 : sm_by code (p + 1) = some y) : (Reader.u2 : Decoder Nat) code p = .ok (x * 256 + y, p + 2) := by
  unfold Reader.u2
  rw [sm_bd (sm_u1 h1), sm_bd (sm_u1 h2)]
  rfl
theorem sm_fm {α β : Type} {f : α → β} {mm : Decoder α} {code : ByteArray} {p p1 : Nat} {a : α} (h : mm code p = .ok (a, p1)) : (f <$> mm) code p = .ok (f a, p1) := by
  show Except.bind (mm code p) (fun r => .ok (f r.1, r.2)) = _
  rw [h]
  rfl
theorem sm_s1 {code : ByteArray} {p x : Nat} (h1 : sm_by code p = some x) : (Reader.s1 : Decoder Int) code p = .ok (Reader.signed 8 x, p + 1) := sm_fm (sm_u1 h1)
theorem sm_s2 {code : ByteArray} {p x y : Nat} (h1 : sm_by code p = some x) (h2 : sm_by code (p + 1) = some y) : (Reader.s2 : Decoder Int) code p = .ok (Reader.signed 16 (x * 256 + y), p + 2) := sm_fm (sm_u2 h1 h2)
theorem sm_dc {code : ByteArray} {pc n : Nat} {ins : Instr} (e : (Decoder.instr pc) code pc = .ok (ins, pc + n)) : decode code pc = .ok (ins, n) := by
  unfold decode Reader.runAt
  show Except.bind ((Decoder.instr pc) code pc) (fun r => .ok (r.1, r.2 - pc)) = _
  rw [e]
  show Except.ok (ins, pc + n - pc) = _
  rw [Nat.add_sub_cancel_left]
set_option maxRecDepth 100000 in
theorem dk_iaload {code : ByteArray} {pc : Nat} (h0 : sm_by code pc = some 46) : decode code pc = .ok (.iaload, 1) := by
  refine sm_dc ?_
  unfold Decoder.instr
  rw [sm_bd (sm_u1 h0)]
  rfl
set_option maxRecDepth 100000 in
theorem dk_laload {code : ByteArray} {pc : Nat} (h0 : sm_by code pc = some 47) : decode code pc = .ok (.laload, 1) := by
  refine sm_dc ?_
  unfold Decoder.instr
  rw [sm_bd (sm_u1 h0)]
  rfl
set_option maxRecDepth 100000 in
theorem dk_aaload {code : ByteArray} {pc : Nat} (h0 : sm_by code pc = some 50) : decode code pc = .ok (.aaload, 1) := by
  refine sm_dc ?_
  unfold Decoder.instr
  rw [sm_bd (sm_u1 h0)]
  rfl
set_option maxRecDepth 100000 in
theorem dk_baload {code : ByteArray} {pc : Nat} (h0 : sm_by code pc = some 51) : decode code pc = .ok (.baload, 1) := by
  refine sm_dc ?_
  unfold Decoder.instr
  rw [sm_bd (sm_u1 h0)]
  rfl
set_option maxRecDepth 100000 in
theorem dk_iastore {code : ByteArray} {pc : Nat} (h0 : sm_by code pc = some 79) : decode code pc = .ok (.iastore, 1) := by
  refine sm_dc ?_
  unfold Decoder.instr
  rw [sm_bd (sm_u1 h0)]
  rfl
set_option maxRecDepth 100000 in
theorem dk_lastore {code : ByteArray} {pc : Nat} (h0 : sm_by code pc = some 80) : decode code pc = .ok (.lastore, 1) := by
  refine sm_dc ?_
  unfold Decoder.instr
  rw [sm_bd (sm_u1 h0)]
  rfl
set_option maxRecDepth 100000 in
theorem dk_aastore {code : ByteArray} {pc : Nat} (h0 : sm_by code pc = some 83) : decode code pc = .ok (.aastore, 1) := by
  refine sm_dc ?_
  unfold Decoder.instr
  rw [sm_bd (sm_u1 h0)]
  rfl
set_option maxRecDepth 100000 in
theorem dk_bastore {code : ByteArray} {pc : Nat} (h0 : sm_by code pc = some 84) : decode code pc = .ok (.bastore, 1) := by
  refine sm_dc ?_
  unfold Decoder.instr
  rw [sm_bd (sm_u1 h0)]
  rfl
set_option maxRecDepth 100000 in
theorem dk_pop {code : ByteArray} {pc : Nat} (h0 : sm_by code pc = some 87) : decode code pc = .ok (.pop, 1) := by
  refine sm_dc ?_
  unfold Decoder.instr
  rw [sm_bd (sm_u1 h0)]
  rfl
set_option maxRecDepth 100000 in
theorem dk_dup {code : ByteArray} {pc : Nat} (h0 : sm_by code pc = some 89) : decode code pc = .ok (.dup, 1) := by
  refine sm_dc ?_
  unfold Decoder.instr
  rw [sm_bd (sm_u1 h0)]
  rfl
set_option maxRecDepth 100000 in
theorem dk_dup2 {code : ByteArray} {pc : Nat} (h0 : sm_by code pc = some 92) : decode code pc = .ok (.dup2, 1) := by
  refine sm_dc ?_
  unfold Decoder.instr
  rw [sm_bd (sm_u1 h0)]
  rfl
set_option maxRecDepth 100000 in
theorem dk_iadd {code : ByteArray} {pc : Nat} (h0 : sm_by code pc = some 96) : decode code pc = .ok (.iadd, 1) := by
  refine sm_dc ?_
  unfold Decoder.instr
  rw [sm_bd (sm_u1 h0)]
  rfl
set_option maxRecDepth 100000 in
theorem dk_ladd {code : ByteArray} {pc : Nat} (h0 : sm_by code pc = some 97) : decode code pc = .ok (.ladd, 1) := by
  refine sm_dc ?_
  unfold Decoder.instr
  rw [sm_bd (sm_u1 h0)]
  rfl
set_option maxRecDepth 100000 in
theorem dk_isub {code : ByteArray} {pc : Nat} (h0 : sm_by code pc = some 100) : decode code pc = .ok (.isub, 1) := by
  refine sm_dc ?_
  unfold Decoder.instr
  rw [sm_bd (sm_u1 h0)]
  rfl
set_option maxRecDepth 100000 in
theorem dk_lsub {code : ByteArray} {pc : Nat} (h0 : sm_by code pc = some 101) : decode code pc = .ok (.lsub, 1) := by
  refine sm_dc ?_
  unfold Decoder.instr
  rw [sm_bd (sm_u1 h0)]
  rfl
set_option maxRecDepth 100000 in
theorem dk_imul {code : ByteArray} {pc : Nat} (h0 : sm_by code pc = some 104) : decode code pc = .ok (.imul, 1) := by
  refine sm_dc ?_
  unfold Decoder.instr
  rw [sm_bd (sm_u1 h0)]
  rfl
set_option maxRecDepth 100000 in
theorem dk_lmul {code : ByteArray} {pc : Nat} (h0 : sm_by code pc = some 105) : decode code pc = .ok (.lmul, 1) := by
  refine sm_dc ?_
  unfold Decoder.instr
  rw [sm_bd (sm_u1 h0)]
  rfl
set_option maxRecDepth 100000 in
theorem dk_idiv {code : ByteArray} {pc : Nat} (h0 : sm_by code pc = some 108) : decode code pc = .ok (.idiv, 1) := by
  refine sm_dc ?_
  unfold Decoder.instr
  rw [sm_bd (sm_u1 h0)]
  rfl
set_option maxRecDepth 100000 in
theorem dk_ldiv {code : ByteArray} {pc : Nat} (h0 : sm_by code pc = some 109) : decode code pc = .ok (.ldiv, 1) := by
  refine sm_dc ?_
  unfold Decoder.instr
  rw [sm_bd (sm_u1 h0)]
  rfl
set_option maxRecDepth 100000 in
theorem dk_irem {code : ByteArray} {pc : Nat} (h0 : sm_by code pc = some 112) : decode code pc = .ok (.irem, 1) := by
  refine sm_dc ?_
  unfold Decoder.instr
  rw [sm_bd (sm_u1 h0)]
  rfl
set_option maxRecDepth 100000 in
theorem dk_lrem {code : ByteArray} {pc : Nat} (h0 : sm_by code pc = some 113) : decode code pc = .ok (.lrem, 1) := by
  refine sm_dc ?_
  unfold Decoder.instr
  rw [sm_bd (sm_u1 h0)]
  rfl
set_option maxRecDepth 100000 in
theorem dk_ineg {code : ByteArray} {pc : Nat} (h0 : sm_by code pc = some 116) : decode code pc = .ok (.ineg, 1) := by
  refine sm_dc ?_
  unfold Decoder.instr
  rw [sm_bd (sm_u1 h0)]
  rfl
set_option maxRecDepth 100000 in
theorem dk_lneg {code : ByteArray} {pc : Nat} (h0 : sm_by code pc = some 117) : decode code pc = .ok (.lneg, 1) := by
  refine sm_dc ?_
  unfold Decoder.instr
  rw [sm_bd (sm_u1 h0)]
  rfl
set_option maxRecDepth 100000 in
theorem dk_ishl {code : ByteArray} {pc : Nat} (h0 : sm_by code pc = some 120) : decode code pc = .ok (.ishl, 1) := by
  refine sm_dc ?_
  unfold Decoder.instr
  rw [sm_bd (sm_u1 h0)]
  rfl
set_option maxRecDepth 100000 in
theorem dk_lshl {code : ByteArray} {pc : Nat} (h0 : sm_by code pc = some 121) : decode code pc = .ok (.lshl, 1) := by
  refine sm_dc ?_
  unfold Decoder.instr
  rw [sm_bd (sm_u1 h0)]
  rfl
set_option maxRecDepth 100000 in
theorem dk_ishr {code : ByteArray} {pc : Nat} (h0 : sm_by code pc = some 122) : decode code pc = .ok (.ishr, 1) := by
  refine sm_dc ?_
  unfold Decoder.instr
  rw [sm_bd (sm_u1 h0)]
  rfl
set_option maxRecDepth 100000 in
theorem dk_lshr {code : ByteArray} {pc : Nat} (h0 : sm_by code pc = some 123) : decode code pc = .ok (.lshr, 1) := by
  refine sm_dc ?_
  unfold Decoder.instr
  rw [sm_bd (sm_u1 h0)]
  rfl
set_option maxRecDepth 100000 in
theorem dk_iushr {code : ByteArray} {pc : Nat} (h0 : sm_by code pc = some 124) : decode code pc = .ok (.iushr, 1) := by
  refine sm_dc ?_
  unfold Decoder.instr
  rw [sm_bd (sm_u1 h0)]
  rfl
set_option maxRecDepth 100000 in
theorem dk_lushr {code : ByteArray} {pc : Nat} (h0 : sm_by code pc = some 125) : decode code pc = .ok (.lushr, 1) := by
  refine sm_dc ?_
  unfold Decoder.instr
  rw [sm_bd (sm_u1 h0)]
  rfl
set_option maxRecDepth 100000 in
theorem dk_iand {code : ByteArray} {pc : Nat} (h0 : sm_by code pc = some 126) : decode code pc = .ok (.iand, 1) := by
  refine sm_dc ?_
  unfold Decoder.instr
  rw [sm_bd (sm_u1 h0)]
  rfl
set_option maxRecDepth 100000 in
theorem dk_land {code : ByteArray} {pc : Nat} (h0 : sm_by code pc = some 127) : decode code pc = .ok (.land, 1) := by
  refine sm_dc ?_
  unfold Decoder.instr
  rw [sm_bd (sm_u1 h0)]
  rfl
set_option maxRecDepth 100000 in
theorem dk_lor {code : ByteArray} {pc : Nat} (h0 : sm_by code pc = some 129) : decode code pc = .ok (.lor, 1) := by
  refine sm_dc ?_
  unfold Decoder.instr
  rw [sm_bd (sm_u1 h0)]
  rfl
set_option maxRecDepth 100000 in
theorem dk_lxor {code : ByteArray} {pc : Nat} (h0 : sm_by code pc = some 131) : decode code pc = .ok (.lxor, 1) := by
  refine sm_dc ?_
  unfold Decoder.instr
  rw [sm_bd (sm_u1 h0)]
  rfl
set_option maxRecDepth 100000 in
theorem dk_i2l {code : ByteArray} {pc : Nat} (h0 : sm_by code pc = some 133) : decode code pc = .ok (.i2l, 1) := by
  refine sm_dc ?_
  unfold Decoder.instr
  rw [sm_bd (sm_u1 h0)]
  rfl
set_option maxRecDepth 100000 in
theorem dk_l2i {code : ByteArray} {pc : Nat} (h0 : sm_by code pc = some 136) : decode code pc = .ok (.l2i, 1) := by
  refine sm_dc ?_
  unfold Decoder.instr
  rw [sm_bd (sm_u1 h0)]
  rfl
set_option maxRecDepth 100000 in
theorem dk_i2b {code : ByteArray} {pc : Nat} (h0 : sm_by code pc = some 145) : decode code pc = .ok (.i2b, 1) := by
  refine sm_dc ?_
  unfold Decoder.instr
  rw [sm_bd (sm_u1 h0)]
  rfl
set_option maxRecDepth 100000 in
theorem dk_i2c {code : ByteArray} {pc : Nat} (h0 : sm_by code pc = some 146) : decode code pc = .ok (.i2c, 1) := by
  refine sm_dc ?_
  unfold Decoder.instr
  rw [sm_bd (sm_u1 h0)]
  rfl
set_option maxRecDepth 100000 in
theorem dk_i2s {code : ByteArray} {pc : Nat} (h0 : sm_by code pc = some 147) : decode code pc = .ok (.i2s, 1) := by
  refine sm_dc ?_
  unfold Decoder.instr
  rw [sm_bd (sm_u1 h0)]
  rfl
set_option maxRecDepth 100000 in
theorem dk_lcmp {code : ByteArray} {pc : Nat} (h0 : sm_by code pc = some 148) : decode code pc = .ok (.lcmp, 1) := by
  refine sm_dc ?_
  unfold Decoder.instr
  rw [sm_bd (sm_u1 h0)]
  rfl
set_option maxRecDepth 100000 in
theorem dk_ireturn {code : ByteArray} {pc : Nat} (h0 : sm_by code pc = some 172) : decode code pc = .ok (.ireturn, 1) := by
  refine sm_dc ?_
  unfold Decoder.instr
  rw [sm_bd (sm_u1 h0)]
  rfl
set_option maxRecDepth 100000 in
theorem dk_lreturn {code : ByteArray} {pc : Nat} (h0 : sm_by code pc = some 173) : decode code pc = .ok (.lreturn, 1) := by
  refine sm_dc ?_
  unfold Decoder.instr
  rw [sm_bd (sm_u1 h0)]
  rfl
set_option maxRecDepth 100000 in
theorem dk_areturn {code : ByteArray} {pc : Nat} (h0 : sm_by code pc = some 176) : decode code pc = .ok (.areturn, 1) := by
  refine sm_dc ?_
  unfold Decoder.instr
  rw [sm_bd (sm_u1 h0)]
  rfl
set_option maxRecDepth 100000 in
theorem dk_return_ {code : ByteArray} {pc : Nat} (h0 : sm_by code pc = some 177) : decode code pc = .ok (.return_, 1) := by
  refine sm_dc ?_
  unfold Decoder.instr
  rw [sm_bd (sm_u1 h0)]
  rfl
set_option maxRecDepth 100000 in
theorem dk_arraylength {code : ByteArray} {pc : Nat} (h0 : sm_by code pc = some 190) : decode code pc = .ok (.arraylength, 1) := by
  refine sm_dc ?_
  unfold Decoder.instr
  rw [sm_bd (sm_u1 h0)]
  rfl
set_option maxRecDepth 100000 in
theorem dk_iconst_m1 {code : ByteArray} {pc : Nat} (h0 : sm_by code pc = some 2) : decode code pc = .ok (.iconst (-1), 1) := by
  refine sm_dc ?_
  unfold Decoder.instr
  rw [sm_bd (sm_u1 h0)]
  rfl
set_option maxRecDepth 100000 in
theorem dk_iconst_0 {code : ByteArray} {pc : Nat} (h0 : sm_by code pc = some 3) : decode code pc = .ok (.iconst (0), 1) := by
  refine sm_dc ?_
  unfold Decoder.instr
  rw [sm_bd (sm_u1 h0)]
  rfl
set_option maxRecDepth 100000 in
theorem dk_iconst_1 {code : ByteArray} {pc : Nat} (h0 : sm_by code pc = some 4) : decode code pc = .ok (.iconst (1), 1) := by
  refine sm_dc ?_
  unfold Decoder.instr
  rw [sm_bd (sm_u1 h0)]
  rfl
set_option maxRecDepth 100000 in
theorem dk_iconst_2 {code : ByteArray} {pc : Nat} (h0 : sm_by code pc = some 5) : decode code pc = .ok (.iconst (2), 1) := by
  refine sm_dc ?_
  unfold Decoder.instr
  rw [sm_bd (sm_u1 h0)]
  rfl
set_option maxRecDepth 100000 in
theorem dk_iconst_3 {code : ByteArray} {pc : Nat} (h0 : sm_by code pc = some 6) : decode code pc = .ok (.iconst (3), 1) := by
  refine sm_dc ?_
  unfold Decoder.instr
  rw [sm_bd (sm_u1 h0)]
  rfl
set_option maxRecDepth 100000 in
theorem dk_iconst_4 {code : ByteArray} {pc : Nat} (h0 : sm_by code pc = some 7) : decode code pc = .ok (.iconst (4), 1) := by
  refine sm_dc ?_
  unfold Decoder.instr
  rw [sm_bd (sm_u1 h0)]
  rfl
set_option maxRecDepth 100000 in
theorem dk_iconst_5 {code : ByteArray} {pc : Nat} (h0 : sm_by code pc = some 8) : decode code pc = .ok (.iconst (5), 1) := by
  refine sm_dc ?_
  unfold Decoder.instr
  rw [sm_bd (sm_u1 h0)]
  rfl
set_option maxRecDepth 100000 in
theorem dk_lconst_0 {code : ByteArray} {pc : Nat} (h0 : sm_by code pc = some 9) : decode code pc = .ok (.lconst 0, 1) := by
  refine sm_dc ?_
  unfold Decoder.instr
  rw [sm_bd (sm_u1 h0)]
  rfl
set_option maxRecDepth 100000 in
theorem dk_lconst_1 {code : ByteArray} {pc : Nat} (h0 : sm_by code pc = some 10) : decode code pc = .ok (.lconst 1, 1) := by
  refine sm_dc ?_
  unfold Decoder.instr
  rw [sm_bd (sm_u1 h0)]
  rfl
set_option maxRecDepth 100000 in
theorem dk_iload_n0 {code : ByteArray} {pc : Nat} (h0 : sm_by code pc = some 26) : decode code pc = .ok (.iload_n 0, 1) := by
  refine sm_dc ?_
  unfold Decoder.instr
  rw [sm_bd (sm_u1 h0)]
  rfl
set_option maxRecDepth 100000 in
theorem dk_iload_n1 {code : ByteArray} {pc : Nat} (h0 : sm_by code pc = some 27) : decode code pc = .ok (.iload_n 1, 1) := by
  refine sm_dc ?_
  unfold Decoder.instr
  rw [sm_bd (sm_u1 h0)]
  rfl
set_option maxRecDepth 100000 in
theorem dk_iload_n2 {code : ByteArray} {pc : Nat} (h0 : sm_by code pc = some 28) : decode code pc = .ok (.iload_n 2, 1) := by
  refine sm_dc ?_
  unfold Decoder.instr
  rw [sm_bd (sm_u1 h0)]
  rfl
set_option maxRecDepth 100000 in
theorem dk_iload_n3 {code : ByteArray} {pc : Nat} (h0 : sm_by code pc = some 29) : decode code pc = .ok (.iload_n 3, 1) := by
  refine sm_dc ?_
  unfold Decoder.instr
  rw [sm_bd (sm_u1 h0)]
  rfl
set_option maxRecDepth 100000 in
theorem dk_lload_n0 {code : ByteArray} {pc : Nat} (h0 : sm_by code pc = some 30) : decode code pc = .ok (.lload_n 0, 1) := by
  refine sm_dc ?_
  unfold Decoder.instr
  rw [sm_bd (sm_u1 h0)]
  rfl
set_option maxRecDepth 100000 in
theorem dk_lload_n1 {code : ByteArray} {pc : Nat} (h0 : sm_by code pc = some 31) : decode code pc = .ok (.lload_n 1, 1) := by
  refine sm_dc ?_
  unfold Decoder.instr
  rw [sm_bd (sm_u1 h0)]
  rfl
set_option maxRecDepth 100000 in
theorem dk_lload_n2 {code : ByteArray} {pc : Nat} (h0 : sm_by code pc = some 32) : decode code pc = .ok (.lload_n 2, 1) := by
  refine sm_dc ?_
  unfold Decoder.instr
  rw [sm_bd (sm_u1 h0)]
  rfl
set_option maxRecDepth 100000 in
theorem dk_lload_n3 {code : ByteArray} {pc : Nat} (h0 : sm_by code pc = some 33) : decode code pc = .ok (.lload_n 3, 1) := by
  refine sm_dc ?_
  unfold Decoder.instr
  rw [sm_bd (sm_u1 h0)]
  rfl
set_option maxRecDepth 100000 in
theorem dk_aload_n0 {code : ByteArray} {pc : Nat} (h0 : sm_by code pc = some 42) : decode code pc = .ok (.aload_n 0, 1) := by
  refine sm_dc ?_
  unfold Decoder.instr
  rw [sm_bd (sm_u1 h0)]
  rfl
set_option maxRecDepth 100000 in
theorem dk_aload_n1 {code : ByteArray} {pc : Nat} (h0 : sm_by code pc = some 43) : decode code pc = .ok (.aload_n 1, 1) := by
  refine sm_dc ?_
  unfold Decoder.instr
  rw [sm_bd (sm_u1 h0)]
  rfl
set_option maxRecDepth 100000 in
theorem dk_aload_n2 {code : ByteArray} {pc : Nat} (h0 : sm_by code pc = some 44) : decode code pc = .ok (.aload_n 2, 1) := by
  refine sm_dc ?_
  unfold Decoder.instr
  rw [sm_bd (sm_u1 h0)]
  rfl
set_option maxRecDepth 100000 in
theorem dk_aload_n3 {code : ByteArray} {pc : Nat} (h0 : sm_by code pc = some 45) : decode code pc = .ok (.aload_n 3, 1) := by
  refine sm_dc ?_
  unfold Decoder.instr
  rw [sm_bd (sm_u1 h0)]
  rfl
set_option maxRecDepth 100000 in
theorem dk_istore_n0 {code : ByteArray} {pc : Nat} (h0 : sm_by code pc = some 59) : decode code pc = .ok (.istore_n 0, 1) := by
  refine sm_dc ?_
  unfold Decoder.instr
  rw [sm_bd (sm_u1 h0)]
  rfl
set_option maxRecDepth 100000 in
theorem dk_istore_n1 {code : ByteArray} {pc : Nat} (h0 : sm_by code pc = some 60) : decode code pc = .ok (.istore_n 1, 1) := by
  refine sm_dc ?_
  unfold Decoder.instr
  rw [sm_bd (sm_u1 h0)]
  rfl
set_option maxRecDepth 100000 in
theorem dk_istore_n2 {code : ByteArray} {pc : Nat} (h0 : sm_by code pc = some 61) : decode code pc = .ok (.istore_n 2, 1) := by
  refine sm_dc ?_
  unfold Decoder.instr
  rw [sm_bd (sm_u1 h0)]
  rfl
set_option maxRecDepth 100000 in
theorem dk_istore_n3 {code : ByteArray} {pc : Nat} (h0 : sm_by code pc = some 62) : decode code pc = .ok (.istore_n 3, 1) := by
  refine sm_dc ?_
  unfold Decoder.instr
  rw [sm_bd (sm_u1 h0)]
  rfl
set_option maxRecDepth 100000 in
theorem dk_lstore_n0 {code : ByteArray} {pc : Nat} (h0 : sm_by code pc = some 63) : decode code pc = .ok (.lstore_n 0, 1) := by
  refine sm_dc ?_
  unfold Decoder.instr
  rw [sm_bd (sm_u1 h0)]
  rfl
set_option maxRecDepth 100000 in
theorem dk_lstore_n1 {code : ByteArray} {pc : Nat} (h0 : sm_by code pc = some 64) : decode code pc = .ok (.lstore_n 1, 1) := by
  refine sm_dc ?_
  unfold Decoder.instr
  rw [sm_bd (sm_u1 h0)]
  rfl
set_option maxRecDepth 100000 in
theorem dk_lstore_n2 {code : ByteArray} {pc : Nat} (h0 : sm_by code pc = some 65) : decode code pc = .ok (.lstore_n 2, 1) := by
  refine sm_dc ?_
  unfold Decoder.instr
  rw [sm_bd (sm_u1 h0)]
  rfl
set_option maxRecDepth 100000 in
theorem dk_lstore_n3 {code : ByteArray} {pc : Nat} (h0 : sm_by code pc = some 66) : decode code pc = .ok (.lstore_n 3, 1) := by
  refine sm_dc ?_
  unfold Decoder.instr
  rw [sm_bd (sm_u1 h0)]
  rfl
set_option maxRecDepth 100000 in
theorem dk_astore_n0 {code : ByteArray} {pc : Nat} (h0 : sm_by code pc = some 75) : decode code pc = .ok (.astore_n 0, 1) := by
  refine sm_dc ?_
  unfold Decoder.instr
  rw [sm_bd (sm_u1 h0)]
  rfl
set_option maxRecDepth 100000 in
theorem dk_astore_n1 {code : ByteArray} {pc : Nat} (h0 : sm_by code pc = some 76) : decode code pc = .ok (.astore_n 1, 1) := by
  refine sm_dc ?_
  unfold Decoder.instr
  rw [sm_bd (sm_u1 h0)]
  rfl
set_option maxRecDepth 100000 in
theorem dk_astore_n2 {code : ByteArray} {pc : Nat} (h0 : sm_by code pc = some 77) : decode code pc = .ok (.astore_n 2, 1) := by
  refine sm_dc ?_
  unfold Decoder.instr
  rw [sm_bd (sm_u1 h0)]
  rfl
set_option maxRecDepth 100000 in
theorem dk_astore_n3 {code : ByteArray} {pc : Nat} (h0 : sm_by code pc = some 78) : decode code pc = .ok (.astore_n 3, 1) := by
  refine sm_dc ?_
  unfold Decoder.instr
  rw [sm_bd (sm_u1 h0)]
  rfl
set_option maxRecDepth 100000 in
theorem dk_bipush {code : ByteArray} {pc x : Nat} (h0 : sm_by code pc = some 16) (h1 : sm_by code (pc + 1) = some x) : decode code pc = .ok (Instr.bipush (Reader.signed 8 x), 2) := by
  refine sm_dc ?_
  unfold Decoder.instr
  rw [sm_bd (sm_u1 h0)]
  show ((Reader.s1 : Decoder Int) >>= fun v => Pure.pure (Instr.bipush v)) code (pc + 1) = _
  rw [sm_bd (sm_s1 h1)]
  rfl
set_option maxRecDepth 100000 in
theorem dk_ldc {code : ByteArray} {pc x : Nat} (h0 : sm_by code pc = some 18) (h1 : sm_by code (pc + 1) = some x) : decode code pc = .ok (Instr.ldc (x), 2) := by
  refine sm_dc ?_
  unfold Decoder.instr
  rw [sm_bd (sm_u1 h0)]
  show ((Reader.u1 : Decoder Nat) >>= fun v => Pure.pure (Instr.ldc v)) code (pc + 1) = _
  rw [sm_bd (sm_u1 h1)]
  rfl
set_option maxRecDepth 100000 in
theorem dk_iload {code : ByteArray} {pc x : Nat} (h0 : sm_by code pc = some 21) (h1 : sm_by code (pc + 1) = some x) : decode code pc = .ok (Instr.iload (x), 2) := by
  refine sm_dc ?_
  unfold Decoder.instr
  rw [sm_bd (sm_u1 h0)]
  show ((Reader.u1 : Decoder Nat) >>= fun v => Pure.pure (Instr.iload v)) code (pc + 1) = _
  rw [sm_bd (sm_u1 h1)]
  rfl
set_option maxRecDepth 100000 in
theorem dk_lload {code : ByteArray} {pc x : Nat} (h0 : sm_by code pc = some 22) (h1 : sm_by code (pc + 1) = some x) : decode code pc = .ok (Instr.lload (x), 2) := by
  refine sm_dc ?_
  unfold Decoder.instr
  rw [sm_bd (sm_u1 h0)]
  show ((Reader.u1 : Decoder Nat) >>= fun v => Pure.pure (Instr.lload v)) code (pc + 1) = _
  rw [sm_bd (sm_u1 h1)]
  rfl
set_option maxRecDepth 100000 in
theorem dk_aload {code : ByteArray} {pc x : Nat} (h0 : sm_by code pc = some 25) (h1 : sm_by code (pc + 1) = some x) : decode code pc = .ok (Instr.aload (x), 2) := by
  refine sm_dc ?_
  unfold Decoder.instr
  rw [sm_bd (sm_u1 h0)]
  show ((Reader.u1 : Decoder Nat) >>= fun v => Pure.pure (Instr.aload v)) code (pc + 1) = _
  rw [sm_bd (sm_u1 h1)]
  rfl
set_option maxRecDepth 100000 in
theorem dk_istore {code : ByteArray} {pc x : Nat} (h0 : sm_by code pc = some 54) (h1 : sm_by code (pc + 1) = some x) : decode code pc = .ok (Instr.istore (x), 2) := by
  refine sm_dc ?_
  unfold Decoder.instr
  rw [sm_bd (sm_u1 h0)]
  show ((Reader.u1 : Decoder Nat) >>= fun v => Pure.pure (Instr.istore v)) code (pc + 1) = _
  rw [sm_bd (sm_u1 h1)]
  rfl
set_option maxRecDepth 100000 in
theorem dk_lstore {code : ByteArray} {pc x : Nat} (h0 : sm_by code pc = some 55) (h1 : sm_by code (pc + 1) = some x) : decode code pc = .ok (Instr.lstore (x), 2) := by
  refine sm_dc ?_
  unfold Decoder.instr
  rw [sm_bd (sm_u1 h0)]
  show ((Reader.u1 : Decoder Nat) >>= fun v => Pure.pure (Instr.lstore v)) code (pc + 1) = _
  rw [sm_bd (sm_u1 h1)]
  rfl
set_option maxRecDepth 100000 in
theorem dk_astore {code : ByteArray} {pc x : Nat} (h0 : sm_by code pc = some 58) (h1 : sm_by code (pc + 1) = some x) : decode code pc = .ok (Instr.astore (x), 2) := by
  refine sm_dc ?_
  unfold Decoder.instr
  rw [sm_bd (sm_u1 h0)]
  show ((Reader.u1 : Decoder Nat) >>= fun v => Pure.pure (Instr.astore v)) code (pc + 1) = _
  rw [sm_bd (sm_u1 h1)]
  rfl
set_option maxRecDepth 100000 in
theorem dk_sipush {code : ByteArray} {pc x y : Nat} (h0 : sm_by code pc = some 17) (h1 : sm_by code (pc + 1) = some x) (h2 : sm_by code (pc + 2) = some y) : decode code pc = .ok (Instr.sipush (Reader.signed 16 (x * 256 + y)), 3) := by
  refine sm_dc ?_
  unfold Decoder.instr
  rw [sm_bd (sm_u1 h0)]
  show ((Reader.s2 : Decoder Int) >>= fun v => Pure.pure (Instr.sipush v)) code (pc + 1) = _
  rw [sm_bd (sm_s2 h1 h2)]
  rfl
set_option maxRecDepth 100000 in
theorem dk_ldc2_w {code : ByteArray} {pc x y : Nat} (h0 : sm_by code pc = some 20) (h1 : sm_by code (pc + 1) = some x) (h2 : sm_by code (pc + 2) = some y) : decode code pc = .ok (Instr.ldc2_w (x * 256 + y), 3) := by
  refine sm_dc ?_
  unfold Decoder.instr
  rw [sm_bd (sm_u1 h0)]
  show ((Reader.u2 : Decoder Nat) >>= fun v => Pure.pure (Instr.ldc2_w v)) code (pc + 1) = _
  rw [sm_bd (sm_u2 h1 h2)]
  rfl
set_option maxRecDepth 100000 in
theorem dk_getstatic {code : ByteArray} {pc x y : Nat} (h0 : sm_by code pc = some 178) (h1 : sm_by code (pc + 1) = some x) (h2 : sm_by code (pc + 2) = some y) : decode code pc = .ok (Instr.getstatic (x * 256 + y), 3) := by
  refine sm_dc ?_
  unfold Decoder.instr
  rw [sm_bd (sm_u1 h0)]
  show ((Reader.u2 : Decoder Nat) >>= fun v => Pure.pure (Instr.getstatic v)) code (pc + 1) = _
  rw [sm_bd (sm_u2 h1 h2)]
  rfl
set_option maxRecDepth 100000 in
theorem dk_getfield {code : ByteArray} {pc x y : Nat} (h0 : sm_by code pc = some 180) (h1 : sm_by code (pc + 1) = some x) (h2 : sm_by code (pc + 2) = some y) : decode code pc = .ok (Instr.getfield (x * 256 + y), 3) := by
  refine sm_dc ?_
  unfold Decoder.instr
  rw [sm_bd (sm_u1 h0)]
  show ((Reader.u2 : Decoder Nat) >>= fun v => Pure.pure (Instr.getfield v)) code (pc + 1) = _
  rw [sm_bd (sm_u2 h1 h2)]
  rfl
set_option maxRecDepth 100000 in
theorem dk_putfield {code : ByteArray} {pc x y : Nat} (h0 : sm_by code pc = some 181) (h1 : sm_by code (pc + 1) = some x) (h2 : sm_by code (pc + 2) = some y) : decode code pc = .ok (Instr.putfield (x * 256 + y), 3) := by
  refine sm_dc ?_
  unfold Decoder.instr
  rw [sm_bd (sm_u1 h0)]
  show ((Reader.u2 : Decoder Nat) >>= fun v => Pure.pure (Instr.putfield v)) code (pc + 1) = _
  rw [sm_bd (sm_u2 h1 h2)]
  rfl
set_option maxRecDepth 100000 in
theorem dk_invokevirtual {code : ByteArray} {pc x y : Nat} (h0 : sm_by code pc = some 182) (h1 : sm_by code (pc + 1) = some x) (h2 : sm_by code (pc + 2) = some y) : decode code pc = .ok (Instr.invokevirtual (x * 256 + y), 3) := by
  refine sm_dc ?_
  unfold Decoder.instr
  rw [sm_bd (sm_u1 h0)]
  show ((Reader.u2 : Decoder Nat) >>= fun v => Pure.pure (Instr.invokevirtual v)) code (pc + 1) = _
  rw [sm_bd (sm_u2 h1 h2)]
  rfl
set_option maxRecDepth 100000 in
theorem dk_invokespecial {code : ByteArray} {pc x y : Nat} (h0 : sm_by code pc = some 183) (h1 : sm_by code (pc + 1) = some x) (h2 : sm_by code (pc + 2) = some y) : decode code pc = .ok (Instr.invokespecial (x * 256 + y), 3) := by
  refine sm_dc ?_
  unfold Decoder.instr
  rw [sm_bd (sm_u1 h0)]
  show ((Reader.u2 : Decoder Nat) >>= fun v => Pure.pure (Instr.invokespecial v)) code (pc + 1) = _
  rw [sm_bd (sm_u2 h1 h2)]
  rfl
set_option maxRecDepth 100000 in
theorem dk_invokestatic {code : ByteArray} {pc x y : Nat} (h0 : sm_by code pc = some 184) (h1 : sm_by code (pc + 1) = some x) (h2 : sm_by code (pc + 2) = some y) : decode code pc = .ok (Instr.invokestatic (x * 256 + y), 3) := by
  refine sm_dc ?_
  unfold Decoder.instr
  rw [sm_bd (sm_u1 h0)]
  show ((Reader.u2 : Decoder Nat) >>= fun v => Pure.pure (Instr.invokestatic v)) code (pc + 1) = _
  rw [sm_bd (sm_u2 h1 h2)]
  rfl
set_option maxRecDepth 100000 in
theorem dk_new {code : ByteArray} {pc x y : Nat} (h0 : sm_by code pc = some 187) (h1 : sm_by code (pc + 1) = some x) (h2 : sm_by code (pc + 2) = some y) : decode code pc = .ok (Instr.new (x * 256 + y), 3) := by
  refine sm_dc ?_
  unfold Decoder.instr
  rw [sm_bd (sm_u1 h0)]
  show ((Reader.u2 : Decoder Nat) >>= fun v => Pure.pure (Instr.new v)) code (pc + 1) = _
  rw [sm_bd (sm_u2 h1 h2)]
  rfl
set_option maxRecDepth 100000 in
theorem dk_anewarray {code : ByteArray} {pc x y : Nat} (h0 : sm_by code pc = some 189) (h1 : sm_by code (pc + 1) = some x) (h2 : sm_by code (pc + 2) = some y) : decode code pc = .ok (Instr.anewarray (x * 256 + y), 3) := by
  refine sm_dc ?_
  unfold Decoder.instr
  rw [sm_bd (sm_u1 h0)]
  show ((Reader.u2 : Decoder Nat) >>= fun v => Pure.pure (Instr.anewarray v)) code (pc + 1) = _
  rw [sm_bd (sm_u2 h1 h2)]
  rfl
set_option maxRecDepth 100000 in
theorem dk_if_eq {code : ByteArray} {pc x y : Nat} (h0 : sm_by code pc = some 153) (h1 : sm_by code (pc + 1) = some x) (h2 : sm_by code (pc + 2) = some y) : decode code pc = .ok (Instr.ifCond .eq (Reader.signed 16 (x * 256 + y)), 3) := by
  refine sm_dc ?_
  unfold Decoder.instr
  rw [sm_bd (sm_u1 h0)]
  show ((Reader.s2 : Decoder Int) >>= fun v => Pure.pure (Instr.ifCond .eq v)) code (pc + 1) = _
  rw [sm_bd (sm_s2 h1 h2)]
  rfl
set_option maxRecDepth 100000 in
theorem dk_icmp_eq {code : ByteArray} {pc x y : Nat} (h0 : sm_by code pc = some 159) (h1 : sm_by code (pc + 1) = some x) (h2 : sm_by code (pc + 2) = some y) : decode code pc = .ok (Instr.if_icmp .eq (Reader.signed 16 (x * 256 + y)), 3) := by
  refine sm_dc ?_
  unfold Decoder.instr
  rw [sm_bd (sm_u1 h0)]
  show ((Reader.s2 : Decoder Int) >>= fun v => Pure.pure (Instr.if_icmp .eq v)) code (pc + 1) = _
  rw [sm_bd (sm_s2 h1 h2)]
  rfl
set_option maxRecDepth 100000 in
theorem dk_if_ne {code : ByteArray} {pc x y : Nat} (h0 : sm_by code pc = some 154) (h1 : sm_by code (pc + 1) = some x) (h2 : sm_by code (pc + 2) = some y) : decode code pc = .ok (Instr.ifCond .ne (Reader.signed 16 (x * 256 + y)), 3) := by
  refine sm_dc ?_
  unfold Decoder.instr
  rw [sm_bd (sm_u1 h0)]
  show ((Reader.s2 : Decoder Int) >>= fun v => Pure.pure (Instr.ifCond .ne v)) code (pc + 1) = _
  rw [sm_bd (sm_s2 h1 h2)]
  rfl
set_option maxRecDepth 100000 in
theorem dk_icmp_ne {code : ByteArray} {pc x y : Nat} (h0 : sm_by code pc = some 160) (h1 : sm_by code (pc + 1) = some x) (h2 : sm_by code (pc + 2) = some y) : decode code pc = .ok (Instr.if_icmp .ne (Reader.signed 16 (x * 256 + y)), 3) := by
  refine sm_dc ?_
  unfold Decoder.instr
  rw [sm_bd (sm_u1 h0)]
  show ((Reader.s2 : Decoder Int) >>= fun v => Pure.pure (Instr.if_icmp .ne v)) code (pc + 1) = _
  rw [sm_bd (sm_s2 h1 h2)]
  rfl
set_option maxRecDepth 100000 in
theorem dk_if_lt {code : ByteArray} {pc x y : Nat} (h0 : sm_by code pc = some 155) (h1 : sm_by code (pc + 1) = some x) (h2 : sm_by code (pc + 2) = some y) : decode code pc = .ok (Instr.ifCond .lt (Reader.signed 16 (x * 256 + y)), 3) := by
  refine sm_dc ?_
  unfold Decoder.instr
  rw [sm_bd (sm_u1 h0)]
  show ((Reader.s2 : Decoder Int) >>= fun v => Pure.pure (Instr.ifCond .lt v)) code (pc + 1) = _
  rw [sm_bd (sm_s2 h1 h2)]
  rfl
set_option maxRecDepth 100000 in
theorem dk_icmp_lt {code : ByteArray} {pc x y : Nat} (h0 : sm_by code pc = some 161) (h1 : sm_by code (pc + 1) = some x) (h2 : sm_by code (pc + 2) = some y) : decode code pc = .ok (Instr.if_icmp .lt (Reader.signed 16 (x * 256 + y)), 3) := by
  refine sm_dc ?_
  unfold Decoder.instr
  rw [sm_bd (sm_u1 h0)]
  show ((Reader.s2 : Decoder Int) >>= fun v => Pure.pure (Instr.if_icmp .lt v)) code (pc + 1) = _
  rw [sm_bd (sm_s2 h1 h2)]
  rfl
set_option maxRecDepth 100000 in
theorem dk_if_ge {code : ByteArray} {pc x y : Nat} (h0 : sm_by code pc = some 156) (h1 : sm_by code (pc + 1) = some x) (h2 : sm_by code (pc + 2) = some y) : decode code pc = .ok (Instr.ifCond .ge (Reader.signed 16 (x * 256 + y)), 3) := by
  refine sm_dc ?_
  unfold Decoder.instr
  rw [sm_bd (sm_u1 h0)]
  show ((Reader.s2 : Decoder Int) >>= fun v => Pure.pure (Instr.ifCond .ge v)) code (pc + 1) = _
  rw [sm_bd (sm_s2 h1 h2)]
  rfl
set_option maxRecDepth 100000 in
theorem dk_icmp_ge {code : ByteArray} {pc x y : Nat} (h0 : sm_by code pc = some 162) (h1 : sm_by code (pc + 1) = some x) (h2 : sm_by code (pc + 2) = some y) : decode code pc = .ok (Instr.if_icmp .ge (Reader.signed 16 (x * 256 + y)), 3) := by
  refine sm_dc ?_
  unfold Decoder.instr
  rw [sm_bd (sm_u1 h0)]
  show ((Reader.s2 : Decoder Int) >>= fun v => Pure.pure (Instr.if_icmp .ge v)) code (pc + 1) = _
  rw [sm_bd (sm_s2 h1 h2)]
  rfl
set_option maxRecDepth 100000 in
theorem dk_if_gt {code : ByteArray} {pc x y : Nat} (h0 : sm_by code pc = some 157) (h1 : sm_by code (pc + 1) = some x) (h2 : sm_by code (pc + 2) = some y) : decode code pc = .ok (Instr.ifCond .gt (Reader.signed 16 (x * 256 + y)), 3) := by
  refine sm_dc ?_
  unfold Decoder.instr
  rw [sm_bd (sm_u1 h0)]
  show ((Reader.s2 : Decoder Int) >>= fun v => Pure.pure (Instr.ifCond .gt v)) code (pc + 1) = _
  rw [sm_bd (sm_s2 h1 h2)]
  rfl
set_option maxRecDepth 100000 in
theorem dk_icmp_gt {code : ByteArray} {pc x y : Nat} (h0 : sm_by code pc = some 163) (h1 : sm_by code (pc + 1) = some x) (h2 : sm_by code (pc + 2) = some y) : decode code pc = .ok (Instr.if_icmp .gt (Reader.signed 16 (x * 256 + y)), 3) := by
  refine sm_dc ?_
  unfold Decoder.instr
  rw [sm_bd (sm_u1 h0)]
  show ((Reader.s2 : Decoder Int) >>= fun v => Pure.pure (Instr.if_icmp .gt v)) code (pc + 1) = _
  rw [sm_bd (sm_s2 h1 h2)]
  rfl
set_option maxRecDepth 100000 in
theorem dk_if_le {code : ByteArray} {pc x y : Nat} (h0 : sm_by code pc = some 158) (h1 : sm_by code (pc + 1) = some x) (h2 : sm_by code (pc + 2) = some y) : decode code pc = .ok (Instr.ifCond .le (Reader.signed 16 (x * 256 + y)), 3) := by
  refine sm_dc ?_
  unfold Decoder.instr
  rw [sm_bd (sm_u1 h0)]
  show ((Reader.s2 : Decoder Int) >>= fun v => Pure.pure (Instr.ifCond .le v)) code (pc + 1) = _
  rw [sm_bd (sm_s2 h1 h2)]
  rfl
set_option maxRecDepth 100000 in
theorem dk_icmp_le {code : ByteArray} {pc x y : Nat} (h0 : sm_by code pc = some 164) (h1 : sm_by code (pc + 1) = some x) (h2 : sm_by code (pc + 2) = some y) : decode code pc = .ok (Instr.if_icmp .le (Reader.signed 16 (x * 256 + y)), 3) := by
  refine sm_dc ?_
  unfold Decoder.instr
  rw [sm_bd (sm_u1 h0)]
  show ((Reader.s2 : Decoder Int) >>= fun v => Pure.pure (Instr.if_icmp .le v)) code (pc + 1) = _
  rw [sm_bd (sm_s2 h1 h2)]
  rfl
set_option maxRecDepth 100000 in
theorem dk_goto {code : ByteArray} {pc x y : Nat} (h0 : sm_by code pc = some 167) (h1 : sm_by code (pc + 1) = some x) (h2 : sm_by code (pc + 2) = some y) : decode code pc = .ok (Instr.goto (Reader.signed 16 (x * 256 + y)), 3) := by
  refine sm_dc ?_
  unfold Decoder.instr
  rw [sm_bd (sm_u1 h0)]
  show ((Reader.s2 : Decoder Int) >>= fun v => Pure.pure (Instr.goto v)) code (pc + 1) = _
  rw [sm_bd (sm_s2 h1 h2)]
  rfl
set_option maxRecDepth 100000 in
theorem dk_ifnonnull {code : ByteArray} {pc x y : Nat} (h0 : sm_by code pc = some 199) (h1 : sm_by code (pc + 1) = some x) (h2 : sm_by code (pc + 2) = some y) : decode code pc = .ok (Instr.ifnonnull (Reader.signed 16 (x * 256 + y)), 3) := by
  refine sm_dc ?_
  unfold Decoder.instr
  rw [sm_bd (sm_u1 h0)]
  show ((Reader.s2 : Decoder Int) >>= fun v => Pure.pure (Instr.ifnonnull v)) code (pc + 1) = _
  rw [sm_bd (sm_s2 h1 h2)]
  rfl
set_option maxRecDepth 100000 in
theorem dk_iinc {code : ByteArray} {pc x y : Nat} (h0 : sm_by code pc = some 132) (h1 : sm_by code (pc + 1) = some x) (h2 : sm_by code (pc + 2) = some y) : decode code pc = .ok (.iinc x (Reader.signed 8 y), 3) := by
  refine sm_dc ?_
  unfold Decoder.instr
  rw [sm_bd (sm_u1 h0)]
  show ((Reader.u1 : Decoder Nat) >>= fun u => (Reader.s1 : Decoder Int) >>= fun v => Pure.pure (Instr.iinc u v)) code (pc + 1) = _
  rw [sm_bd (sm_u1 h1), sm_bd (sm_s1 h2)]
  rfl
set_option maxRecDepth 100000 in
theorem dk_newarray_boolean {code : ByteArray} {pc : Nat} (h0 : sm_by code pc = some 188) (h1 : sm_by code (pc + 1) = some 4) : decode code pc = .ok (.newarray .boolean, 2) := by
  refine sm_dc ?_
  unfold Decoder.instr
  rw [sm_bd (sm_u1 h0)]
  show (Decoder.newarray pc) code (pc + 1) = _
  unfold Decoder.newarray
  rw [sm_bd (sm_u1 h1)]
  rfl
set_option maxRecDepth 100000 in
theorem dk_newarray_int {code : ByteArray} {pc : Nat} (h0 : sm_by code pc = some 188) (h1 : sm_by code (pc + 1) = some 10) : decode code pc = .ok (.newarray .int, 2) := by
  refine sm_dc ?_
  unfold Decoder.instr
  rw [sm_bd (sm_u1 h0)]
  show (Decoder.newarray pc) code (pc + 1) = _
  unfold Decoder.newarray
  rw [sm_bd (sm_u1 h1)]
  rfl
set_option maxRecDepth 100000 in
theorem dk_newarray_long {code : ByteArray} {pc : Nat} (h0 : sm_by code pc = some 188) (h1 : sm_by code (pc + 1) = some 11) : decode code pc = .ok (.newarray .long, 2) := by
  refine sm_dc ?_
  unfold Decoder.instr
  rw [sm_bd (sm_u1 h0)]
  show (Decoder.newarray pc) code (pc + 1) = _
  unfold Decoder.newarray
  rw [sm_bd (sm_u1 h1)]
  rfl
