/-! THE CHECKER of a program's tables: decided by the kernel, once -/
def sm_len (i : sm_I) : Nat := match i.1 with
  | .bipush _ => 2
  | .ldc _ => 2
  | .iload _ => 2
  | .lload _ => 2
  | .aload _ => 2
  | .istore _ => 2
  | .lstore _ => 2
  | .astore _ => 2
  | .newarray _ => 2
  | .sipush _ => 3
  | .ldc2_w _ => 3
  | .getstatic _ => 3
  | .getfield _ => 3
  | .putfield _ => 3
  | .invokevirtual _ => 3
  | .invokespecial _ => 3
  | .invokestatic _ => 3
  | .new _ => 3
  | .anewarray _ => 3
  | .iinc _ _ => 3
  | .goto _ => 3
  | .ifnonnull _ => 3
  | .ifCond _ _ => 3
  | .if_icmp _ _ => 3
  | .tableswitch _ _ _ _ => i.2.1
  | .lookupswitch _ _ => i.2.1
  | _ => 1
def sm_o1 (r : List Nat) (f : Nat → Bool) : Bool := match r with
  | x :: _ => f x
  | _ => false
def sm_o2 (r : List Nat) (f : Nat → Nat → Bool) : Bool := match r with
  | x :: y :: _ => f x y
  | _ => false
/-- the instruction is what its bytes say -/
def sm_cd (cc : ByteArray) (pc : Nat) (i : sm_I) (op : Nat) (r : List Nat) : Bool := match i.1 with
  | .iconst n => decide ((op : Int) = 3 + n) && decide (-1 ≤ n) && decide (n ≤ 5)
  | .lconst n => Nat.beq op (9 + n)
  | .iload_n k => Nat.beq op (26 + k)
  | .lload_n k => Nat.beq op (30 + k)
  | .aload_n k => Nat.beq op (42 + k)
  | .istore_n k => Nat.beq op (59 + k)
  | .lstore_n k => Nat.beq op (63 + k)
  | .astore_n k => Nat.beq op (75 + k)
  | .bipush n => Nat.beq op 16 && sm_o1 r (fun x => decide (n = Reader.signed 8 x))
  | .ldc k => Nat.beq op 18 && sm_o1 r (fun x => Nat.beq k x)
  | .iload k => Nat.beq op 21 && sm_o1 r (fun x => Nat.beq k x)
  | .lload k => Nat.beq op 22 && sm_o1 r (fun x => Nat.beq k x)
  | .aload k => Nat.beq op 25 && sm_o1 r (fun x => Nat.beq k x)
  | .istore k => Nat.beq op 54 && sm_o1 r (fun x => Nat.beq k x)
  | .lstore k => Nat.beq op 55 && sm_o1 r (fun x => Nat.beq k x)
  | .astore k => Nat.beq op 58 && sm_o1 r (fun x => Nat.beq k x)
  | .sipush n => Nat.beq op 17 && sm_o2 r (fun x y => decide (n = Reader.signed 16 (x * 256 + y)))
  | .ldc2_w k => Nat.beq op 20 && sm_o2 r (fun x y => Nat.beq k (x * 256 + y))
  | .getstatic k => Nat.beq op 178 && sm_o2 r (fun x y => Nat.beq k (x * 256 + y))
  | .getfield k => Nat.beq op 180 && sm_o2 r (fun x y => Nat.beq k (x * 256 + y))
  | .putfield k => Nat.beq op 181 && sm_o2 r (fun x y => Nat.beq k (x * 256 + y))
  | .invokevirtual k => Nat.beq op 182 && sm_o2 r (fun x y => Nat.beq k (x * 256 + y))
  | .invokespecial k => Nat.beq op 183 && sm_o2 r (fun x y => Nat.beq k (x * 256 + y))
  | .invokestatic k => Nat.beq op 184 && sm_o2 r (fun x y => Nat.beq k (x * 256 + y))
  | .new k => Nat.beq op 187 && sm_o2 r (fun x y => Nat.beq k (x * 256 + y))
  | .anewarray k => Nat.beq op 189 && sm_o2 r (fun x y => Nat.beq k (x * 256 + y))
  | .ifCond .eq n => Nat.beq op 153 && sm_o2 r (fun x y => decide (n = Reader.signed 16 (x * 256 + y)))
  | .ifCond .ne n => Nat.beq op 154 && sm_o2 r (fun x y => decide (n = Reader.signed 16 (x * 256 + y)))
  | .ifCond .lt n => Nat.beq op 155 && sm_o2 r (fun x y => decide (n = Reader.signed 16 (x * 256 + y)))
  | .ifCond .ge n => Nat.beq op 156 && sm_o2 r (fun x y => decide (n = Reader.signed 16 (x * 256 + y)))
  | .ifCond .gt n => Nat.beq op 157 && sm_o2 r (fun x y => decide (n = Reader.signed 16 (x * 256 + y)))
  | .ifCond .le n => Nat.beq op 158 && sm_o2 r (fun x y => decide (n = Reader.signed 16 (x * 256 + y)))
  | .if_icmp .eq n => Nat.beq op 159 && sm_o2 r (fun x y => decide (n = Reader.signed 16 (x * 256 + y)))
  | .if_icmp .ne n => Nat.beq op 160 && sm_o2 r (fun x y => decide (n = Reader.signed 16 (x * 256 + y)))
  | .if_icmp .lt n => Nat.beq op 161 && sm_o2 r (fun x y => decide (n = Reader.signed 16 (x * 256 + y)))
  | .if_icmp .ge n => Nat.beq op 162 && sm_o2 r (fun x y => decide (n = Reader.signed 16 (x * 256 + y)))
  | .if_icmp .gt n => Nat.beq op 163 && sm_o2 r (fun x y => decide (n = Reader.signed 16 (x * 256 + y)))
  | .if_icmp .le n => Nat.beq op 164 && sm_o2 r (fun x y => decide (n = Reader.signed 16 (x * 256 + y)))
  | .goto n => Nat.beq op 167 && sm_o2 r (fun x y => decide (n = Reader.signed 16 (x * 256 + y)))
  | .ifnonnull n => Nat.beq op 199 && sm_o2 r (fun x y => decide (n = Reader.signed 16 (x * 256 + y)))
  | .iinc k n => Nat.beq op 132 && sm_o2 r (fun x y => Nat.beq k x && decide (n = Reader.signed 8 y))
  | .newarray .boolean => Nat.beq op 188 && sm_o1 r (fun x => Nat.beq x 4)
  | .newarray .int => Nat.beq op 188 && sm_o1 r (fun x => Nat.beq x 10)
  | .newarray .long => Nat.beq op 188 && sm_o1 r (fun x => Nat.beq x 11)
  | .iaload => Nat.beq op 46
  | .laload => Nat.beq op 47
  | .aaload => Nat.beq op 50
  | .baload => Nat.beq op 51
  | .iastore => Nat.beq op 79
  | .lastore => Nat.beq op 80
  | .aastore => Nat.beq op 83
  | .bastore => Nat.beq op 84
  | .pop => Nat.beq op 87
  | .dup => Nat.beq op 89
  | .dup2 => Nat.beq op 92
  | .iadd => Nat.beq op 96
  | .ladd => Nat.beq op 97
  | .isub => Nat.beq op 100
  | .lsub => Nat.beq op 101
  | .imul => Nat.beq op 104
  | .lmul => Nat.beq op 105
  | .idiv => Nat.beq op 108
  | .ldiv => Nat.beq op 109
  | .irem => Nat.beq op 112
  | .lrem => Nat.beq op 113
  | .ineg => Nat.beq op 116
  | .lneg => Nat.beq op 117
  | .ishl => Nat.beq op 120
  | .lshl => Nat.beq op 121
  | .ishr => Nat.beq op 122
  | .lshr => Nat.beq op 123
  | .iushr => Nat.beq op 124
  | .lushr => Nat.beq op 125
  | .iand => Nat.beq op 126
  | .land => Nat.beq op 127
  | .lor => Nat.beq op 129
  | .lxor => Nat.beq op 131
  | .i2l => Nat.beq op 133
  | .l2i => Nat.beq op 136
  | .i2b => Nat.beq op 145
  | .i2c => Nat.beq op 146
  | .i2s => Nat.beq op 147
  | .lcmp => Nat.beq op 148
  | .ireturn => Nat.beq op 172
  | .lreturn => Nat.beq op 173
  | .areturn => Nat.beq op 176
  | .return_ => Nat.beq op 177
  | .arraylength => Nat.beq op 190
  | .tableswitch d lo hi offs => decide (decode cc pc = .ok (.tableswitch d lo hi offs, i.2.1))
  | .lookupswitch d ps => decide (decode cc pc = .ok (.lookupswitch d ps, i.2.1))
  | _ => false
theorem sm_o1_of {r : List Nat} {f : Nat → Bool} (h : sm_o1 r f = true) : ∃ x, r[0]? = some x ∧ f x = true := by
  unfold sm_o1 at h
  split at h
  · exact ⟨_, rfl, h⟩
  · cases h
theorem sm_o2_of {r : List Nat} {f : Nat → Nat → Bool} (h : sm_o2 r f = true) : ∃ x y, r[0]? = some x ∧ r[1]? = some y ∧ f x y = true := by
  unfold sm_o2 at h
  split at h
  · exact ⟨_, _, rfl, rfl, h⟩
  · cases h
theorem sm_cd_ok {cc : ByteArray} {pc : Nat} {i : sm_I} {op : Nat} {r : List Nat} (h : sm_cd cc pc i op r = true) (h0 : sm_by cc pc = some op) (hr : ∀ k b, r[k]? = some b → sm_by cc (pc + 1 + k) = some b) : decode cc pc = .ok (i.1, sm_len i) := by
  have e1 : ∀ b, r[0]? = some b → sm_by cc (pc + 1) = some b := fun b q => hr 0 b q
  have e2 : ∀ b, r[1]? = some b → sm_by cc (pc + 2) = some b := fun b q => hr 1 b q
  unfold sm_cd at h
  unfold sm_len
  split at h
  · rename_i n he
    rw [he]
    simp only [Bool.and_eq_true, decide_eq_true_eq] at h
    obtain ⟨⟨ho, l1⟩, l2⟩ := h
    have : n = -1 ∨ n = 0 ∨ n = 1 ∨ n = 2 ∨ n = 3 ∨ n = 4 ∨ n = 5 := by omega
    rcases this with rfl | rfl | rfl | rfl | rfl | rfl | rfl
    · have : op = 2 := by omega
      subst this; exact dk_iconst_m1 h0
    · have : op = 3 := by omega
      subst this; exact dk_iconst_0 h0
    · have : op = 4 := by omega
      subst this; exact dk_iconst_1 h0
    · have : op = 5 := by omega
      subst this; exact dk_iconst_2 h0
    · have : op = 6 := by omega
      subst this; exact dk_iconst_3 h0
    · have : op = 7 := by omega
      subst this; exact dk_iconst_4 h0
    · have : op = 8 := by omega
      subst this; exact dk_iconst_5 h0
  · rename_i n he
    rw [he]
    have ho := Nat.eq_of_beq_eq_true h
    match n, ho with
    | 0, ho => subst ho; exact dk_lconst_0 h0
    | 1, ho => subst ho; exact dk_lconst_1 h0
  · rename_i n he
    rw [he]
    have ho := Nat.eq_of_beq_eq_true h
    match n, ho with
    | 0, ho => subst ho; exact dk_iload_n0 h0
    | 1, ho => subst ho; exact dk_iload_n1 h0
    | 2, ho => subst ho; exact dk_iload_n2 h0
    | 3, ho => subst ho; exact dk_iload_n3 h0
  · rename_i n he
    rw [he]
    have ho := Nat.eq_of_beq_eq_true h
    match n, ho with
    | 0, ho => subst ho; exact dk_lload_n0 h0
    | 1, ho => subst ho; exact dk_lload_n1 h0
    | 2, ho => subst ho; exact dk_lload_n2 h0
    | 3, ho => subst ho; exact dk_lload_n3 h0
  · rename_i n he
    rw [he]
    have ho := Nat.eq_of_beq_eq_true h
    match n, ho with
    | 0, ho => subst ho; exact dk_aload_n0 h0
    | 1, ho => subst ho; exact dk_aload_n1 h0
    | 2, ho => subst ho; exact dk_aload_n2 h0
    | 3, ho => subst ho; exact dk_aload_n3 h0
  · rename_i n he
    rw [he]
    have ho := Nat.eq_of_beq_eq_true h
    match n, ho with
    | 0, ho => subst ho; exact dk_istore_n0 h0
    | 1, ho => subst ho; exact dk_istore_n1 h0
    | 2, ho => subst ho; exact dk_istore_n2 h0
    | 3, ho => subst ho; exact dk_istore_n3 h0
  · rename_i n he
    rw [he]
    have ho := Nat.eq_of_beq_eq_true h
    match n, ho with
    | 0, ho => subst ho; exact dk_lstore_n0 h0
    | 1, ho => subst ho; exact dk_lstore_n1 h0
    | 2, ho => subst ho; exact dk_lstore_n2 h0
    | 3, ho => subst ho; exact dk_lstore_n3 h0
  · rename_i n he
    rw [he]
    have ho := Nat.eq_of_beq_eq_true h
    match n, ho with
    | 0, ho => subst ho; exact dk_astore_n0 h0
    | 1, ho => subst ho; exact dk_astore_n1 h0
    | 2, ho => subst ho; exact dk_astore_n2 h0
    | 3, ho => subst ho; exact dk_astore_n3 h0
  · rename_i n he
    rw [he]
    rw [Bool.and_eq_true] at h
    obtain ⟨x, q1, q2⟩ := sm_o1_of h.2
    have ho := Nat.eq_of_beq_eq_true h.1
    have q2 := of_decide_eq_true q2
    subst ho; subst q2
    exact dk_bipush h0 (e1 _ q1)
  · rename_i n he
    rw [he]
    rw [Bool.and_eq_true] at h
    obtain ⟨x, q1, q2⟩ := sm_o1_of h.2
    have ho := Nat.eq_of_beq_eq_true h.1
    have q2 := Nat.eq_of_beq_eq_true q2
    subst ho; subst q2
    exact dk_ldc h0 (e1 _ q1)
  · rename_i n he
    rw [he]
    rw [Bool.and_eq_true] at h
    obtain ⟨x, q1, q2⟩ := sm_o1_of h.2
    have ho := Nat.eq_of_beq_eq_true h.1
    have q2 := Nat.eq_of_beq_eq_true q2
    subst ho; subst q2
    exact dk_iload h0 (e1 _ q1)
  · rename_i n he
    rw [he]
    rw [Bool.and_eq_true] at h
    obtain ⟨x, q1, q2⟩ := sm_o1_of h.2
    have ho := Nat.eq_of_beq_eq_true h.1
    have q2 := Nat.eq_of_beq_eq_true q2
    subst ho; subst q2
    exact dk_lload h0 (e1 _ q1)
  · rename_i n he
    rw [he]
    rw [Bool.and_eq_true] at h
    obtain ⟨x, q1, q2⟩ := sm_o1_of h.2
    have ho := Nat.eq_of_beq_eq_true h.1
    have q2 := Nat.eq_of_beq_eq_true q2
    subst ho; subst q2
    exact dk_aload h0 (e1 _ q1)
  · rename_i n he
    rw [he]
    rw [Bool.and_eq_true] at h
    obtain ⟨x, q1, q2⟩ := sm_o1_of h.2
    have ho := Nat.eq_of_beq_eq_true h.1
    have q2 := Nat.eq_of_beq_eq_true q2
    subst ho; subst q2
    exact dk_istore h0 (e1 _ q1)
  · rename_i n he
    rw [he]
    rw [Bool.and_eq_true] at h
    obtain ⟨x, q1, q2⟩ := sm_o1_of h.2
    have ho := Nat.eq_of_beq_eq_true h.1
    have q2 := Nat.eq_of_beq_eq_true q2
    subst ho; subst q2
    exact dk_lstore h0 (e1 _ q1)
  · rename_i n he
    rw [he]
    rw [Bool.and_eq_true] at h
    obtain ⟨x, q1, q2⟩ := sm_o1_of h.2
    have ho := Nat.eq_of_beq_eq_true h.1
    have q2 := Nat.eq_of_beq_eq_true q2
    subst ho; subst q2
    exact dk_astore h0 (e1 _ q1)
  · rename_i n he
    rw [he]
    rw [Bool.and_eq_true] at h
    obtain ⟨x, y, q1, q3, q2⟩ := sm_o2_of h.2
    have ho := Nat.eq_of_beq_eq_true h.1
    have q2 := of_decide_eq_true q2
    subst ho; subst q2
    exact dk_sipush h0 (e1 _ q1) (e2 _ q3)
  · rename_i n he
    rw [he]
    rw [Bool.and_eq_true] at h
    obtain ⟨x, y, q1, q3, q2⟩ := sm_o2_of h.2
    have ho := Nat.eq_of_beq_eq_true h.1
    have q2 := Nat.eq_of_beq_eq_true q2
    subst ho; subst q2
    exact dk_ldc2_w h0 (e1 _ q1) (e2 _ q3)
  · rename_i n he
    rw [he]
    rw [Bool.and_eq_true] at h
    obtain ⟨x, y, q1, q3, q2⟩ := sm_o2_of h.2
    have ho := Nat.eq_of_beq_eq_true h.1
    have q2 := Nat.eq_of_beq_eq_true q2
    subst ho; subst q2
    exact dk_getstatic h0 (e1 _ q1) (e2 _ q3)
  · rename_i n he
    rw [he]
    rw [Bool.and_eq_true] at h
    obtain ⟨x, y, q1, q3, q2⟩ := sm_o2_of h.2
    have ho := Nat.eq_of_beq_eq_true h.1
    have q2 := Nat.eq_of_beq_eq_true q2
    subst ho; subst q2
    exact dk_getfield h0 (e1 _ q1) (e2 _ q3)
  · rename_i n he
    rw [he]
    rw [Bool.and_eq_true] at h
    obtain ⟨x, y, q1, q3, q2⟩ := sm_o2_of h.2
    have ho := Nat.eq_of_beq_eq_true h.1
    have q2 := Nat.eq_of_beq_eq_true q2
    subst ho; subst q2
    exact dk_putfield h0 (e1 _ q1) (e2 _ q3)
  · rename_i n he
    rw [he]
    rw [Bool.and_eq_true] at h
    obtain ⟨x, y, q1, q3, q2⟩ := sm_o2_of h.2
    have ho := Nat.eq_of_beq_eq_true h.1
    have q2 := Nat.eq_of_beq_eq_true q2
    subst ho; subst q2
    exact dk_invokevirtual h0 (e1 _ q1) (e2 _ q3)
  · rename_i n he
    rw [he]
    rw [Bool.and_eq_true] at h
    obtain ⟨x, y, q1, q3, q2⟩ := sm_o2_of h.2
    have ho := Nat.eq_of_beq_eq_true h.1
    have q2 := Nat.eq_of_beq_eq_true q2
    subst ho; subst q2
    exact dk_invokespecial h0 (e1 _ q1) (e2 _ q3)
  · rename_i n he
    rw [he]
    rw [Bool.and_eq_true] at h
    obtain ⟨x, y, q1, q3, q2⟩ := sm_o2_of h.2
    have ho := Nat.eq_of_beq_eq_true h.1
    have q2 := Nat.eq_of_beq_eq_true q2
    subst ho; subst q2
    exact dk_invokestatic h0 (e1 _ q1) (e2 _ q3)
  · rename_i n he
    rw [he]
    rw [Bool.and_eq_true] at h
    obtain ⟨x, y, q1, q3, q2⟩ := sm_o2_of h.2
    have ho := Nat.eq_of_beq_eq_true h.1
    have q2 := Nat.eq_of_beq_eq_true q2
    subst ho; subst q2
    exact dk_new h0 (e1 _ q1) (e2 _ q3)
  · rename_i n he
    rw [he]
    rw [Bool.and_eq_true] at h
    obtain ⟨x, y, q1, q3, q2⟩ := sm_o2_of h.2
    have ho := Nat.eq_of_beq_eq_true h.1
    have q2 := Nat.eq_of_beq_eq_true q2
    subst ho; subst q2
    exact dk_anewarray h0 (e1 _ q1) (e2 _ q3)
  · rename_i n he
    rw [he]
    rw [Bool.and_eq_true] at h
    obtain ⟨x, y, q1, q3, q2⟩ := sm_o2_of h.2
    have ho := Nat.eq_of_beq_eq_true h.1
    have q2 := of_decide_eq_true q2
    subst ho; subst q2
    exact dk_if_eq h0 (e1 _ q1) (e2 _ q3)
  · rename_i n he
    rw [he]
    rw [Bool.and_eq_true] at h
    obtain ⟨x, y, q1, q3, q2⟩ := sm_o2_of h.2
    have ho := Nat.eq_of_beq_eq_true h.1
    have q2 := of_decide_eq_true q2
    subst ho; subst q2
    exact dk_if_ne h0 (e1 _ q1) (e2 _ q3)
  · rename_i n he
    rw [he]
    rw [Bool.and_eq_true] at h
    obtain ⟨x, y, q1, q3, q2⟩ := sm_o2_of h.2
    have ho := Nat.eq_of_beq_eq_true h.1
    have q2 := of_decide_eq_true q2
    subst ho; subst q2
    exact dk_if_lt h0 (e1 _ q1) (e2 _ q3)
  · rename_i n he
    rw [he]
    rw [Bool.and_eq_true] at h
    obtain ⟨x, y, q1, q3, q2⟩ := sm_o2_of h.2
    have ho := Nat.eq_of_beq_eq_true h.1
    have q2 := of_decide_eq_true q2
    subst ho; subst q2
    exact dk_if_ge h0 (e1 _ q1) (e2 _ q3)
  · rename_i n he
    rw [he]
    rw [Bool.and_eq_true] at h
    obtain ⟨x, y, q1, q3, q2⟩ := sm_o2_of h.2
    have ho := Nat.eq_of_beq_eq_true h.1
    have q2 := of_decide_eq_true q2
    subst ho; subst q2
    exact dk_if_gt h0 (e1 _ q1) (e2 _ q3)
  · rename_i n he
    rw [he]
    rw [Bool.and_eq_true] at h
    obtain ⟨x, y, q1, q3, q2⟩ := sm_o2_of h.2
    have ho := Nat.eq_of_beq_eq_true h.1
    have q2 := of_decide_eq_true q2
    subst ho; subst q2
    exact dk_if_le h0 (e1 _ q1) (e2 _ q3)
  · rename_i n he
    rw [he]
    rw [Bool.and_eq_true] at h
    obtain ⟨x, y, q1, q3, q2⟩ := sm_o2_of h.2
    have ho := Nat.eq_of_beq_eq_true h.1
    have q2 := of_decide_eq_true q2
    subst ho; subst q2
    exact dk_icmp_eq h0 (e1 _ q1) (e2 _ q3)
  · rename_i n he
    rw [he]
    rw [Bool.and_eq_true] at h
    obtain ⟨x, y, q1, q3, q2⟩ := sm_o2_of h.2
    have ho := Nat.eq_of_beq_eq_true h.1
    have q2 := of_decide_eq_true q2
    subst ho; subst q2
    exact dk_icmp_ne h0 (e1 _ q1) (e2 _ q3)
  · rename_i n he
    rw [he]
    rw [Bool.and_eq_true] at h
    obtain ⟨x, y, q1, q3, q2⟩ := sm_o2_of h.2
    have ho := Nat.eq_of_beq_eq_true h.1
    have q2 := of_decide_eq_true q2
    subst ho; subst q2
    exact dk_icmp_lt h0 (e1 _ q1) (e2 _ q3)
  · rename_i n he
    rw [he]
    rw [Bool.and_eq_true] at h
    obtain ⟨x, y, q1, q3, q2⟩ := sm_o2_of h.2
    have ho := Nat.eq_of_beq_eq_true h.1
    have q2 := of_decide_eq_true q2
    subst ho; subst q2
    exact dk_icmp_ge h0 (e1 _ q1) (e2 _ q3)
  · rename_i n he
    rw [he]
    rw [Bool.and_eq_true] at h
    obtain ⟨x, y, q1, q3, q2⟩ := sm_o2_of h.2
    have ho := Nat.eq_of_beq_eq_true h.1
    have q2 := of_decide_eq_true q2
    subst ho; subst q2
    exact dk_icmp_gt h0 (e1 _ q1) (e2 _ q3)
  · rename_i n he
    rw [he]
    rw [Bool.and_eq_true] at h
    obtain ⟨x, y, q1, q3, q2⟩ := sm_o2_of h.2
    have ho := Nat.eq_of_beq_eq_true h.1
    have q2 := of_decide_eq_true q2
    subst ho; subst q2
    exact dk_icmp_le h0 (e1 _ q1) (e2 _ q3)
  · rename_i n he
    rw [he]
    rw [Bool.and_eq_true] at h
    obtain ⟨x, y, q1, q3, q2⟩ := sm_o2_of h.2
    have ho := Nat.eq_of_beq_eq_true h.1
    have q2 := of_decide_eq_true q2
    subst ho; subst q2
    exact dk_goto h0 (e1 _ q1) (e2 _ q3)
  · rename_i n he
    rw [he]
    rw [Bool.and_eq_true] at h
    obtain ⟨x, y, q1, q3, q2⟩ := sm_o2_of h.2
    have ho := Nat.eq_of_beq_eq_true h.1
    have q2 := of_decide_eq_true q2
    subst ho; subst q2
    exact dk_ifnonnull h0 (e1 _ q1) (e2 _ q3)
  · rename_i k n he
    rw [he]
    rw [Bool.and_eq_true] at h
    obtain ⟨x, y, q1, q3, q2⟩ := sm_o2_of h.2
    rw [Bool.and_eq_true] at q2
    have ho := Nat.eq_of_beq_eq_true h.1
    have q4 := Nat.eq_of_beq_eq_true q2.1
    have q5 := of_decide_eq_true q2.2
    subst ho; subst q4; subst q5
    exact dk_iinc h0 (e1 _ q1) (e2 _ q3)
  · rename_i he
    rw [he]
    rw [Bool.and_eq_true] at h
    obtain ⟨x, q1, q2⟩ := sm_o1_of h.2
    have ho := Nat.eq_of_beq_eq_true h.1
    have q2 := Nat.eq_of_beq_eq_true q2
    subst ho; subst q2
    exact dk_newarray_boolean h0 (e1 _ q1)
  · rename_i he
    rw [he]
    rw [Bool.and_eq_true] at h
    obtain ⟨x, q1, q2⟩ := sm_o1_of h.2
    have ho := Nat.eq_of_beq_eq_true h.1
    have q2 := Nat.eq_of_beq_eq_true q2
    subst ho; subst q2
    exact dk_newarray_int h0 (e1 _ q1)
  · rename_i he
    rw [he]
    rw [Bool.and_eq_true] at h
    obtain ⟨x, q1, q2⟩ := sm_o1_of h.2
    have ho := Nat.eq_of_beq_eq_true h.1
    have q2 := Nat.eq_of_beq_eq_true q2
    subst ho; subst q2
    exact dk_newarray_long h0 (e1 _ q1)
  · rename_i he
    rw [he]
    have ho := Nat.eq_of_beq_eq_true h
    subst ho
    exact dk_iaload h0
  · rename_i he
    rw [he]
    have ho := Nat.eq_of_beq_eq_true h
    subst ho
    exact dk_laload h0
  · rename_i he
    rw [he]
    have ho := Nat.eq_of_beq_eq_true h
    subst ho
    exact dk_aaload h0
  · rename_i he
    rw [he]
    have ho := Nat.eq_of_beq_eq_true h
    subst ho
    exact dk_baload h0
  · rename_i he
    rw [he]
    have ho := Nat.eq_of_beq_eq_true h
    subst ho
    exact dk_iastore h0
  · rename_i he
    rw [he]
    have ho := Nat.eq_of_beq_eq_true h
    subst ho
    exact dk_lastore h0
  · rename_i he
    rw [he]
    have ho := Nat.eq_of_beq_eq_true h
    subst ho
    exact dk_aastore h0
  · rename_i he
    rw [he]
    have ho := Nat.eq_of_beq_eq_true h
    subst ho
    exact dk_bastore h0
  · rename_i he
    rw [he]
    have ho := Nat.eq_of_beq_eq_true h
    subst ho
    exact dk_pop h0
  · rename_i he
    rw [he]
    have ho := Nat.eq_of_beq_eq_true h
    subst ho
    exact dk_dup h0
  · rename_i he
    rw [he]
    have ho := Nat.eq_of_beq_eq_true h
    subst ho
    exact dk_dup2 h0
  · rename_i he
    rw [he]
    have ho := Nat.eq_of_beq_eq_true h
    subst ho
    exact dk_iadd h0
  · rename_i he
    rw [he]
    have ho := Nat.eq_of_beq_eq_true h
    subst ho
    exact dk_ladd h0
  · rename_i he
    rw [he]
    have ho := Nat.eq_of_beq_eq_true h
    subst ho
    exact dk_isub h0
  · rename_i he
    rw [he]
    have ho := Nat.eq_of_beq_eq_true h
    subst ho
    exact dk_lsub h0
  · rename_i he
    rw [he]
    have ho := Nat.eq_of_beq_eq_true h
    subst ho
    exact dk_imul h0
  · rename_i he
    rw [he]
    have ho := Nat.eq_of_beq_eq_true h
    subst ho
    exact dk_lmul h0
  · rename_i he
    rw [he]
    have ho := Nat.eq_of_beq_eq_true h
    subst ho
    exact dk_idiv h0
  · rename_i he
    rw [he]
    have ho := Nat.eq_of_beq_eq_true h
    subst ho
    exact dk_ldiv h0
  · rename_i he
    rw [he]
    have ho := Nat.eq_of_beq_eq_true h
    subst ho
    exact dk_irem h0
  · rename_i he
    rw [he]
    have ho := Nat.eq_of_beq_eq_true h
    subst ho
    exact dk_lrem h0
  · rename_i he
    rw [he]
    have ho := Nat.eq_of_beq_eq_true h
    subst ho
    exact dk_ineg h0
  · rename_i he
    rw [he]
    have ho := Nat.eq_of_beq_eq_true h
    subst ho
    exact dk_lneg h0
  · rename_i he
    rw [he]
    have ho := Nat.eq_of_beq_eq_true h
    subst ho
    exact dk_ishl h0
  · rename_i he
    rw [he]
    have ho := Nat.eq_of_beq_eq_true h
    subst ho
    exact dk_lshl h0
  · rename_i he
    rw [he]
    have ho := Nat.eq_of_beq_eq_true h
    subst ho
    exact dk_ishr h0
  · rename_i he
    rw [he]
    have ho := Nat.eq_of_beq_eq_true h
    subst ho
    exact dk_lshr h0
  · rename_i he
    rw [he]
    have ho := Nat.eq_of_beq_eq_true h
    subst ho
    exact dk_iushr h0
  · rename_i he
    rw [he]
    have ho := Nat.eq_of_beq_eq_true h
    subst ho
    exact dk_lushr h0
  · rename_i he
    rw [he]
    have ho := Nat.eq_of_beq_eq_true h
    subst ho
    exact dk_iand h0
  · rename_i he
    rw [he]
    have ho := Nat.eq_of_beq_eq_true h
    subst ho
    exact dk_land h0
  · rename_i he
    rw [he]
    have ho := Nat.eq_of_beq_eq_true h
    subst ho
    exact dk_lor h0
  · rename_i he
    rw [he]
    have ho := Nat.eq_of_beq_eq_true h
    subst ho
    exact dk_lxor h0
  · rename_i he
    rw [he]
    have ho := Nat.eq_of_beq_eq_true h
    subst ho
    exact dk_i2l h0
  · rename_i he
    rw [he]
    have ho := Nat.eq_of_beq_eq_true h
    subst ho
    exact dk_l2i h0
  · rename_i he
    rw [he]
    have ho := Nat.eq_of_beq_eq_true h
    subst ho
    exact dk_i2b h0
  · rename_i he
    rw [he]
    have ho := Nat.eq_of_beq_eq_true h
    subst ho
    exact dk_i2c h0
  · rename_i he
    rw [he]
    have ho := Nat.eq_of_beq_eq_true h
    subst ho
    exact dk_i2s h0
  · rename_i he
    rw [he]
    have ho := Nat.eq_of_beq_eq_true h
    subst ho
    exact dk_lcmp h0
  · rename_i he
    rw [he]
    have ho := Nat.eq_of_beq_eq_true h
    subst ho
    exact dk_ireturn h0
  · rename_i he
    rw [he]
    have ho := Nat.eq_of_beq_eq_true h
    subst ho
    exact dk_lreturn h0
  · rename_i he
    rw [he]
    have ho := Nat.eq_of_beq_eq_true h
    subst ho
    exact dk_areturn h0
  · rename_i he
    rw [he]
    have ho := Nat.eq_of_beq_eq_true h
    subst ho
    exact dk_return_ h0
  · rename_i he
    rw [he]
    have ho := Nat.eq_of_beq_eq_true h
    subst ho
    exact dk_arraylength h0
  · rename_i he
    rw [he]
    exact of_decide_eq_true h
  · rename_i he
    rw [he]
    exact of_decide_eq_true h
  · cases h
