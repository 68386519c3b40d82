/-! THE SIMPLE MACHINE: bytecode over a logical heap. Cells have logical numbers (ids); ids below the base count are the ones that stand for good. -/
/-- ints, longs, references (fields of objects and places of arrays), class of a cell, length of an array, cells made, slots made -/
abbrev sm_H : Type := (Nat → Nat → Int32) × (Nat → Nat → Int64) × (Nat → Nat → Option Nat) × (Nat → Nat) × (Nat → Nat) × Nat × Nat
/-- base count, base classes, base lengths, final references of the base, static int arrays, static long arrays, indexOf in the one String constant -/
abbrev sm_G : Type := Nat × (Nat → Nat) × (Nat → Nat) × (Nat → Nat → Option Nat) × (Nat → Nat × (Nat → Int32)) × (Nat → Nat × (Nat → Int64)) × (Int32 → Int32)
abbrev sm_H.n (h : sm_H) : Nat := h.2.2.2.2.2.1
abbrev sm_H.sl (h : sm_H) : Nat := h.2.2.2.2.2.2
abbrev sm_in (i : Int32) (n : Nat) : Prop := ¬ (i < 0 ∨ n ≤ i.toNatClampNeg)
def sm_ov : Option Nat → Value
  | none => .null
  | some i => .ref i
def sm_live (G : sm_G) (h : sm_H) (a : Nat) : Bool := Nat.blt a G.1 || Nat.blt a (G.1 + h.n)
def sm_cl (G : sm_G) (h : sm_H) (a : Nat) : Nat := bif Nat.blt a G.1 then G.2.1 a else h.2.2.2.1 a
def sm_ln (G : sm_G) (h : sm_H) (a : Nat) : Nat := bif Nat.blt a G.1 then G.2.2.1 a else h.2.2.2.2.1 a
def sm_is (G : sm_G) (h : sm_H) (a c : Nat) : Bool := sm_live G h a && Nat.beq (sm_cl G h a) c
def sm_rr (G : sm_G) (h : sm_H) (a k : Nat) : Option Nat := match G.2.2.2.1 a k with
  | some b => some b
  | none => h.2.2.1 a k
def sm_wI (h : sm_H) (a k : Nat) (x : Int32) : sm_H := (va_up h.1 a (upd (h.1 a) k x), h.2)
def sm_wJ (h : sm_H) (a k : Nat) (x : Int64) : sm_H := (h.1, va_up h.2.1 a (vp_updL (h.2.1 a) k x), h.2.2)
def sm_wR (h : sm_H) (a k : Nat) (o : Option Nat) : sm_H := (h.1, h.2.1, va_up h.2.2.1 a (va_up (h.2.2.1 a) k o), h.2.2.2)
/-- fields: t = 0 int, 1 long, 2 reference, 3 boolean -/
def sm_gf (G : sm_G) (h : sm_H) (a c k t : Nat) : Option Value := bif sm_is G h a c then some (match t with
  | 0 => .int (h.1 a k)
  | 1 => .long (h.2.1 a k)
  | 2 => sm_ov (sm_rr G h a k)
  | _ => .int (h.1 a k)) else none
def sm_pf (G : sm_G) (h : sm_H) (a c k t : Nat) (v : Value) : Option sm_H := bif sm_is G h a c then (match t with
  | 0 => (match v with
    | .int x => some (sm_wI h a k x)
    | _ => none)
  | 1 => (match v with
    | .long x => some (sm_wJ h a k x)
    | _ => none)
  | 2 => (match G.2.2.2.1 a k with
    | some _ => none
    | none => (match v with
      | .ref b => some (sm_wR h a k (some b))
      | _ => none))
  | _ => (match v with
    | .int x => if x = 0 ∨ x = 1 then some (sm_wI h a k x) else none
    | _ => none)) else none
/-- arrays: class 100 int, 101 long, 102 boolean, 103 references; ids from 1000000 on are static arrays -/
def sm_ldI (G : sm_G) (h : sm_H) (a : Nat) (i : Int32) : Option Int32 := bif Nat.ble 1000000 a then (if a < 1000008 ∧ sm_in i (G.2.2.2.2.1 (a - 1000000)).1 then some ((G.2.2.2.2.1 (a - 1000000)).2 i.toNatClampNeg) else none)
  else bif sm_is G h a 100 then (if sm_in i (sm_ln G h a) then some (h.1 a i.toNatClampNeg) else none) else none
def sm_ldJ (G : sm_G) (h : sm_H) (a : Nat) (i : Int32) : Option Int64 := bif Nat.ble 2000000 a then (if a < 2000008 ∧ sm_in i (G.2.2.2.2.2.1 (a - 2000000)).1 then some ((G.2.2.2.2.2.1 (a - 2000000)).2 i.toNatClampNeg) else none)
  else bif sm_is G h a 101 then (if sm_in i (sm_ln G h a) then some (h.2.1 a i.toNatClampNeg) else none) else none
def sm_ldZ (G : sm_G) (h : sm_H) (a : Nat) (i : Int32) : Option Int32 := bif sm_is G h a 102 then (if sm_in i (sm_ln G h a) then some (h.1 a i.toNatClampNeg) else none) else none
def sm_ldR (G : sm_G) (h : sm_H) (a : Nat) (i : Int32) : Option (Option Nat) := bif sm_is G h a 103 then (if sm_in i (sm_ln G h a) then some (h.2.2.1 a i.toNatClampNeg) else none) else none
def sm_stI (G : sm_G) (h : sm_H) (a : Nat) (i x : Int32) : Option sm_H := bif sm_is G h a 100 then (if sm_in i (sm_ln G h a) then some (sm_wI h a i.toNatClampNeg x) else none) else none
def sm_stJ (G : sm_G) (h : sm_H) (a : Nat) (i : Int32) (x : Int64) : Option sm_H := bif sm_is G h a 101 then (if sm_in i (sm_ln G h a) then some (sm_wJ h a i.toNatClampNeg x) else none) else none
def sm_stZ (G : sm_G) (h : sm_H) (a : Nat) (i x : Int32) : Option sm_H := bif sm_is G h a 102 then (if sm_in i (sm_ln G h a) then some (sm_wI h a i.toNatClampNeg (vp_nar .boolean x)) else none) else none
def sm_stR (G : sm_G) (h : sm_H) (e a : Nat) (i : Int32) (b : Nat) : Option sm_H := bif sm_is G h a 103 && sm_is G h b e then (if sm_in i (sm_ln G h a) then some (sm_wR h a i.toNatClampNeg (some b)) else none) else none
def sm_al (G : sm_G) (h : sm_H) (a : Nat) : Option Int32 := bif Nat.ble 1000000 a then (if a < 1000008 then some (Int32.ofNat (G.2.2.2.2.1 (a - 1000000)).1) else if 2000000 ≤ a ∧ a < 2000008 then some (Int32.ofNat (G.2.2.2.2.2.1 (a - 2000000)).1) else none)
  else bif sm_live G h a && (Nat.ble 100 (sm_cl G h a) && Nat.blt (sm_cl G h a) 104) then some (Int32.ofNat (sm_ln G h a)) else none
def sm_cpI (G : sm_G) (h : sm_H) (a : Nat) (sp : Int32) (b : Nat) (dp n : Int32) : Option sm_H := bif sm_is G h a 100 && sm_is G h b 100 then (if ¬ sp < 0 ∧ ¬ dp < 0 ∧ ¬ n < 0 ∧ sp.toNatClampNeg + n.toNatClampNeg ≤ sm_ln G h a ∧ dp.toNatClampNeg + n.toNatClampNeg ≤ sm_ln G h b then
  some (va_up h.1 b (va_cpy (h.1 a) (h.1 b) sp.toNatClampNeg dp.toNatClampNeg n.toNatClampNeg), h.2) else none) else none
def sm_cpJ (G : sm_G) (h : sm_H) (a : Nat) (sp : Int32) (b : Nat) (dp n : Int32) : Option sm_H := bif sm_is G h a 101 && sm_is G h b 101 then (if ¬ sp < 0 ∧ ¬ dp < 0 ∧ ¬ n < 0 ∧ sp.toNatClampNeg + n.toNatClampNeg ≤ sm_ln G h a ∧ dp.toNatClampNeg + n.toNatClampNeg ≤ sm_ln G h b then
  some (h.1, va_up h.2.1 b (va_cpy (h.2.1 a) (h.2.1 b) sp.toNatClampNeg dp.toNatClampNeg n.toNatClampNeg), h.2.2) else none) else none
def sm_mk (G : sm_G) (h : sm_H) (c n : Nat) : sm_H := (va_up h.1 (G.1 + h.n) (fun _ => 0), va_up h.2.1 (G.1 + h.n) (fun _ => 0), va_up h.2.2.1 (G.1 + h.n) (fun _ => none), va_up h.2.2.2.1 (G.1 + h.n) c, va_up h.2.2.2.2.1 (G.1 + h.n) n, h.n + 1, h.sl + n)
/-- locals, by their places -/
abbrev sm_L : Type := List (Option Value)
def sm_kill (lc : sm_L) : Nat → sm_L
  | 0 => lc
  | j + 1 => match lc[j]? with
    | some (some (.long _)) => lc.set j none
    | some (some (.double _)) => lc.set j none
    | _ => lc
def sm_set1 (lc : sm_L) (i : Nat) (v : Value) : sm_L := (sm_kill lc i).set i (some v)
def sm_set2 (lc : sm_L) (i : Nat) (v : Value) : sm_L := ((sm_kill lc i).set i (some v)).set (i + 1) none
/-- an instruction: as decoded, numbers (a place, a target, a class, a callee ..), the place of its word, a constant -/
abbrev sm_I : Type := Instr × Nat × Nat × Nat × Nat × Value
abbrev sm_ii (f : Int32 → Int32 → Int32) : List Value → Option (List Value)
  | .int y :: .int x :: r => some (.int (f x y) :: r)
  | _ => none
abbrev sm_jj (f : Int64 → Int64 → Int64) : List Value → Option (List Value)
  | .long y :: .long x :: r => some (.long (f x y) :: r)
  | _ => none
abbrev sm_ji (f : Int64 → Int32 → Int64) : List Value → Option (List Value)
  | .int y :: .long x :: r => some (.long (f x y) :: r)
  | _ => none
abbrev sm_i (f : Int32 → Value) : List Value → Option (List Value)
  | .int x :: r => some (f x :: r)
  | _ => none
abbrev sm_j (f : Int64 → Value) : List Value → Option (List Value)
  | .long x :: r => some (f x :: r)
  | _ => none
/-- what one instruction does to the operand stack alone -/
def sm_alu (ins : Instr) (st : List Value) : Option (List Value) := match ins with
  | .iadd => sm_ii (fun x y => x + y) st
  | .isub => sm_ii (fun x y => x - y) st
  | .imul => sm_ii (fun x y => x * y) st
  | .iand => sm_ii (fun x y => x &&& y) st
  | .ishl => sm_ii (fun x y => x <<< (y &&& 31)) st
  | .ishr => sm_ii (fun x y => x >>> (y &&& 31)) st
  | .iushr => sm_ii (fun x y => (x.toUInt32 >>> (y.toUInt32 &&& Int32.toUInt32 31)).toInt32) st
  | .ineg => sm_i (fun x => .int (-x)) st
  | .idiv => (match st with
    | .int y :: .int x :: r => if y = 0 then none else some (.int (x / y) :: r)
    | _ => none)
  | .irem => (match st with
    | .int y :: .int x :: r => if y = 0 then none else some (.int (x - x / y * y) :: r)
    | _ => none)
  | .ladd => sm_jj (fun x y => x + y) st
  | .lsub => sm_jj (fun x y => x - y) st
  | .lmul => sm_jj (fun x y => x * y) st
  | .land => sm_jj (fun x y => x &&& y) st
  | .lor => sm_jj (fun x y => x ||| y) st
  | .lxor => sm_jj (fun x y => x ^^^ y) st
  | .lshl => sm_ji (fun x y => x <<< (y.toInt64 &&& 63)) st
  | .lshr => sm_ji (fun x y => x >>> (y.toInt64 &&& 63)) st
  | .lushr => sm_ji (fun x y => (x.toUInt64 >>> (y.toInt64.toUInt64 &&& Int64.toUInt64 63)).toInt64) st
  | .lneg => sm_j (fun x => .long (-x)) st
  | .ldiv => (match st with
    | .long y :: .long x :: r => if y = 0 then none else some (.long (x / y) :: r)
    | _ => none)
  | .lrem => (match st with
    | .long y :: .long x :: r => if y = 0 then none else some (.long (x - x / y * y) :: r)
    | _ => none)
  | .lcmp => (match st with
    | .long y :: .long x :: r => some (.int (lg_cmp x y) :: r)
    | _ => none)
  | .i2l => sm_i (fun x => .long x.toInt64) st
  | .l2i => sm_j (fun x => .int x.toInt32) st
  | .i2b => sm_i (fun x => .int x.toInt8.toInt32) st
  | .i2s => sm_i (fun x => .int x.toInt16.toInt32) st
  | .i2c => sm_i (fun x => .int (x.toUInt32 % 65536).toInt32) st
  | .dup => (match st with
    | .int x :: r => some (.int x :: .int x :: r)
    | .ref x :: r => some (.ref x :: .ref x :: r)
    | _ => none)
  | .pop => (match st with
    | .int _ :: r => some r
    | .ref _ :: r => some r
    | _ => none)
  | .dup2 => (match st with
    | .int x :: .ref y :: r => some (.int x :: .ref y :: .int x :: .ref y :: r)
    | .int x :: .int y :: r => some (.int x :: .int y :: .int x :: .int y :: r)
    | .long x :: r => some (.long x :: .long x :: r)
    | _ => none)
  | _ => none
/-- one instruction that ends nothing and calls nothing -/
def sm_one (G : sm_G) (i : sm_I) (pc : Nat) (lc : sm_L) (st : List Value) (h : sm_H) : Option (Nat × sm_L × List Value × sm_H) := match i.1 with
  | .iconst _ => some (pc + 1, lc, i.2.2.2.2.2 :: st, h)
  | .lconst _ => some (pc + 1, lc, i.2.2.2.2.2 :: st, h)
  | .bipush _ => some (pc + 2, lc, i.2.2.2.2.2 :: st, h)
  | .sipush _ => some (pc + 3, lc, i.2.2.2.2.2 :: st, h)
  | .ldc _ => some (pc + 2, lc, i.2.2.2.2.2 :: st, h)
  | .ldc2_w _ => some (pc + 3, lc, i.2.2.2.2.2 :: st, h)
  | .getstatic _ => some (pc + 3, lc, i.2.2.2.2.2 :: st, h)
  | .iload_n _ => (match lc[i.2.1]? with
    | some (some (.int x)) => some (pc + 1, lc, .int x :: st, h)
    | _ => none)
  | .iload _ => (match lc[i.2.1]? with
    | some (some (.int x)) => some (pc + 2, lc, .int x :: st, h)
    | _ => none)
  | .lload_n _ => (match lc[i.2.1]? with
    | some (some (.long x)) => some (pc + 1, lc, .long x :: st, h)
    | _ => none)
  | .lload _ => (match lc[i.2.1]? with
    | some (some (.long x)) => some (pc + 2, lc, .long x :: st, h)
    | _ => none)
  | .aload_n _ => (match lc[i.2.1]? with
    | some (some (.ref x)) => some (pc + 1, lc, .ref x :: st, h)
    | _ => none)
  | .aload _ => (match lc[i.2.1]? with
    | some (some (.ref x)) => some (pc + 2, lc, .ref x :: st, h)
    | _ => none)
  | .istore_n _ => (match st with
    | .int x :: r => some (pc + 1, sm_set1 lc i.2.1 (.int x), r, h)
    | _ => none)
  | .istore _ => (match st with
    | .int x :: r => some (pc + 2, sm_set1 lc i.2.1 (.int x), r, h)
    | _ => none)
  | .astore_n _ => (match st with
    | .ref x :: r => some (pc + 1, sm_set1 lc i.2.1 (.ref x), r, h)
    | _ => none)
  | .astore _ => (match st with
    | .ref x :: r => some (pc + 2, sm_set1 lc i.2.1 (.ref x), r, h)
    | _ => none)
  | .lstore_n _ => (match st with
    | .long x :: r => some (pc + 1, sm_set2 lc i.2.1 (.long x), r, h)
    | _ => none)
  | .lstore _ => (match st with
    | .long x :: r => some (pc + 2, sm_set2 lc i.2.1 (.long x), r, h)
    | _ => none)
  | .iinc _ _ => (match lc[i.2.1]?, i.2.2.2.2.2 with
    | some (some (.int x)), .int k => some (pc + 3, sm_set1 lc i.2.1 (.int (x + k)), st, h)
    | _, _ => none)
  | .goto _ => some (i.2.1, lc, st, h)
  | .getfield _ => (match st with
    | .ref a :: r => (match sm_gf G h a i.2.1 i.2.2.1 i.2.2.2.1 with
      | some v => some (pc + 3, lc, v :: r, h)
      | none => none)
    | _ => none)
  | .putfield _ => (match st with
    | v :: .ref a :: r => (match sm_pf G h a i.2.1 i.2.2.1 i.2.2.2.1 v with
      | some h' => some (pc + 3, lc, r, h')
      | none => none)
    | _ => none)
  | .iaload => (match st with
    | .int k :: .ref a :: r => (match sm_ldI G h a k with
      | some x => some (pc + 1, lc, .int x :: r, h)
      | none => none)
    | _ => none)
  | .laload => (match st with
    | .int k :: .ref a :: r => (match sm_ldJ G h a k with
      | some x => some (pc + 1, lc, .long x :: r, h)
      | none => none)
    | _ => none)
  | .baload => (match st with
    | .int k :: .ref a :: r => (match sm_ldZ G h a k with
      | some x => some (pc + 1, lc, .int x :: r, h)
      | none => none)
    | _ => none)
  | .aaload => (match st with
    | .int k :: .ref a :: r => (match sm_ldR G h a k with
      | some o => some (pc + 1, lc, sm_ov o :: r, h)
      | none => none)
    | _ => none)
  | .iastore => (match st with
    | .int x :: .int k :: .ref a :: r => (match sm_stI G h a k x with
      | some h' => some (pc + 1, lc, r, h')
      | none => none)
    | _ => none)
  | .lastore => (match st with
    | .long x :: .int k :: .ref a :: r => (match sm_stJ G h a k x with
      | some h' => some (pc + 1, lc, r, h')
      | none => none)
    | _ => none)
  | .bastore => (match st with
    | .int x :: .int k :: .ref a :: r => (match sm_stZ G h a k x with
      | some h' => some (pc + 1, lc, r, h')
      | none => none)
    | _ => none)
  | .aastore => (match st with
    | .ref b :: .int k :: .ref a :: r => (match sm_stR G h i.2.1 a k b with
      | some h' => some (pc + 1, lc, r, h')
      | none => none)
    | _ => none)
  | .arraylength => (match st with
    | .ref a :: r => (match sm_al G h a with
      | some x => some (pc + 1, lc, .int x :: r, h)
      | none => none)
    | _ => none)
  | .new _ => some (pc + 3, lc, .ref (G.1 + h.n) :: st, sm_mk G h i.2.1 i.2.2.1)
  | .newarray _ => (match st with
    | .int n :: r => if n < 0 then none else some (pc + 2, lc, .ref (G.1 + h.n) :: r, sm_mk G h i.2.1 n.toNatClampNeg)
    | _ => none)
  | .anewarray _ => (match st with
    | .int n :: r => if n < 0 then none else some (pc + 3, lc, .ref (G.1 + h.n) :: r, sm_mk G h i.2.1 n.toNatClampNeg)
    | _ => none)
  | ins => (match sm_alu ins st with
    | some st' => some (pc + 1, lc, st', h)
    | none => none)
def sm_q (c : ClassFile.Cond) (x y : Int32) : Prop := match c with
  | .eq => x = y
  | .ne => ¬ x = y
  | .lt => x < y
  | .ge => y ≤ x
  | .gt => y < x
  | .le => x ≤ y
/-- where a switch goes -/
def sm_sw (pc : Nat) (ins : Instr) (x : Int32) (t : Nat) : Prop := match ins with
  | .tableswitch d lo hi offs => ((x.toInt < lo ∨ hi < x.toInt) ∧ (pc : Int) + d = (t : Int)) ∨ (¬ x.toInt < lo ∧ ¬ hi < x.toInt ∧ ∃ off, offs[(x.toInt - lo).toNat]? = some off ∧ (pc : Int) + off = (t : Int))
  | .lookupswitch d ps => (ps.toList.zip (ps.toList.drop 1)).all (fun (a, next) => a.1 < next.1) = true ∧ (pc : Int) + Op.lookupswitch.offset ps.toList d x.toInt = (t : Int)
  | _ => False
/-- an instruction that ends, calls, or goes two ways; k: what holds from where it goes on. rt: 3 for a method that answers a boolean -/
def sm_end (G : sm_G) (call : Nat → List Value → sm_H → Option Value × sm_H → Prop) (rt : Nat) (i : sm_I) (pc : Nat) (lc : sm_L) (st : List Value) (h : sm_H) (res : Option Value × sm_H) (k : Nat → sm_L → List Value → sm_H → Prop) : Prop := match i.1 with
  | .ifCond c _ => ∃ x r, st = .int x :: r ∧ (sm_q c x 0 → k i.2.1 lc r h) ∧ (¬ sm_q c x 0 → k (pc + 3) lc r h)
  | .if_icmp c _ => ∃ y x r, st = .int y :: .int x :: r ∧ (sm_q c x y → k i.2.1 lc r h) ∧ (¬ sm_q c x y → k (pc + 3) lc r h)
  | .ifnonnull _ => ∃ o r, st = sm_ov o :: r ∧ (o ≠ none → k i.2.1 lc r h) ∧ (o = none → k (pc + 3) lc r h)
  | .tableswitch d lo hi offs => ∃ x r t, st = .int x :: r ∧ sm_sw pc (.tableswitch d lo hi offs) x t ∧ k t lc r h
  | .lookupswitch d ps => ∃ x r t, st = .int x :: r ∧ sm_sw pc (.lookupswitch d ps) x t ∧ k t lc r h
  | .invokestatic _ => (i.2.2.2.1 = 0 ∧ ∃ As r v h', st = As.reverse ++ r ∧ As.length = i.2.2.1 ∧ (r.map fun v => v.category).sum ≤ 8 ∧ call i.2.1 As h (v, h') ∧ k (pc + 3) lc (v.toList ++ r) h')
    ∨ (i.2.2.2.1 = 7 ∧ ∃ n dp b sp a r h', st = .int n :: .int dp :: .ref b :: .int sp :: .ref a :: r ∧ (r.map fun v => v.category).sum ≤ 8 ∧ sm_cpI G h a sp b dp n = some h' ∧ k (pc + 3) lc r h')
    ∨ (i.2.2.2.1 = 8 ∧ ∃ n dp b sp a r h', st = .int n :: .int dp :: .ref b :: .int sp :: .ref a :: r ∧ (r.map fun v => v.category).sum ≤ 8 ∧ sm_cpJ G h a sp b dp n = some h' ∧ k (pc + 3) lc r h')
    ∨ (i.2.2.2.1 = 9 ∧ ∃ y x r, st = .int y :: .int x :: r ∧ (r.map fun v => v.category).sum ≤ 8 ∧ k (pc + 3) lc (.int (if x < y then y else x) :: r) h)
    ∨ (i.2.2.2.1 = 10 ∧ ∃ y x r, st = .int y :: .int x :: r ∧ (r.map fun v => v.category).sum ≤ 8 ∧ k (pc + 3) lc (.int (if y < x then y else x) :: r) h)
  | .invokevirtual _ => (i.2.2.2.1 < 200 ∧ ∃ As a r v h', st = As.reverse ++ .ref a :: r ∧ As.length = i.2.2.1 ∧ (r.map fun v => v.category).sum ≤ 8 ∧ sm_is G h a i.2.2.2.1 = true ∧ call i.2.1 (.ref a :: As) h (v, h') ∧ k (pc + 3) lc (v.toList ++ r) h')
    ∨ (i.2.2.2.1 = 200 ∧ ∃ x r, st = .int x :: .ref 3000000 :: r ∧ (r.map fun v => v.category).sum ≤ 8 ∧ k (pc + 3) lc (.int (G.2.2.2.2.2.2 x) :: r) h)
  | .invokespecial _ => (i.2.2.2.1 = 0 ∧ ∃ a r, st = .ref a :: r ∧ (r.map fun v => v.category).sum ≤ 8 ∧ k (pc + 3) lc r h) ∨ ((i.2.2.2.1 = 1 ∨ i.2.2.2.1 = 2) ∧ ∃ As a r h', st = As.reverse ++ .ref a :: r ∧ As.length = i.2.2.1 ∧ (r.map fun v => v.category).sum ≤ 8 ∧ call i.2.1 (.ref a :: As) h (none, h') ∧ k (pc + 3) lc r h')
  | .ireturn => ∃ x, st = [.int x] ∧ (rt = 3 → x = 0 ∨ x = 1) ∧ res = (some (.int x), h)
  | .lreturn => ∃ x, st = [.long x] ∧ res = (some (.long x), h)
  | .areturn => ∃ a, st = [.ref a] ∧ res = (some (.ref a), h)
  | .return_ => st = [] ∧ res = (none, h)
  | _ => False
def sm_go (G : sm_G) (call : Nat → List Value → sm_H → Option Value × sm_H → Prop) (T : Nat → Option sm_I) (rt : Nat) : Nat → Nat → sm_L → List Value → sm_H → Option Value × sm_H → Prop
  | 0, _, _, _, _, _ => False
  | n + 1, pc, lc, st, h, res => match T pc with
    | none => False
    | some i => (match sm_one G i pc lc st h with
      | some (pc', lc', st', h') => sm_go G call T rt n pc' lc' st' h' res
      | none => sm_end G call rt i pc lc st h res (fun pc' lc' st' h' => sm_go G call T rt n pc' lc' st' h' res))
/-- the locals at a method's entry -/
def sm_ent : List Value → sm_L
  | [] => []
  | v :: vs => (match v with
    | .long _ => some v :: none :: sm_ent vs
    | .double _ => some v :: none :: sm_ent vs
    | _ => some v :: sm_ent vs)
/-- a method called at depth d: its code, its locals' count, its kind of answer -/
def sm_run (G : sm_G) (T : Nat → Nat → Option sm_I) (mL rt : Nat → Nat) : Nat → Nat → List Value → sm_H → Option Value × sm_H → Prop
  | 0, _, _, _, _ => False
  | d + 1, j, As, h, res => (sm_ent As).length ≤ mL j ∧ ∃ n, sm_go G (sm_run G T mL rt d) (T j) (rt j) n 0 (sm_ent As ++ List.replicate (mL j - (sm_ent As).length) none) [] h res
