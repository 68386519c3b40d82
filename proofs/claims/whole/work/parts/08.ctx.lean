/-! THE CONTRACT of a method as the simple machine runs it -/
/-- static arrays (with their fields' names), and what is said of the String constant -/
abbrev sm_X : Type := List (String × String × String × Nat) × (Nat → (Nat → Prop) → State → Prop)
def sm_stat (G : sm_G) (X : sm_X) (A : Nat → Prop) (ad : Nat → Nat) (U : State) : Prop := (∀ j, j < 8 → va_T .int (ad (1000000 + j)) (G.2.2.2.2.1 j).1 (fun k => .int ((G.2.2.2.2.1 j).2 k)) A U U.heap) ∧ (∀ j, j < 8 → va_T .long (ad (2000000 + j)) (G.2.2.2.2.2.1 j).1 (fun k => .long ((G.2.2.2.2.2.1 j).2 k)) A U U.heap) ∧ (∀ q ∈ X.1, va_Z q.1 q.2.1 q.2.2.1 (.ref (ad q.2.2.2)) A U U.heap ∧ 1000000 ≤ q.2.2.2) ∧ X.2 (ad 3000000) A U
/-- what is said of the String constant goes on where nothing of it is written -/
def sm_Xok (X : sm_X) : Prop := ∀ (a : Nat) (A B : Nat → Prop) (s U : State), X.2 a A s → (∀ q, B q → A q) → (∀ q : Nat, q < s.heap.size → ¬ A q → U.heap[q]? = s.heap[q]?) → s.vm.Alike U.vm → (s.vm = U.vm ∨ s.WarmedH U.vm) → X.2 a B U
theorem sm_stat_call {G : sm_G} {X : sm_X} (hX : sm_Xok X) {A B : Nat → Prop} {ad : Nat → Nat} {s U : State} (h : sm_stat G X A ad s) (hB : ∀ q, B q → A q) (hk : ∀ q : Nat, q < s.heap.size → ¬ A q → U.heap[q]? = s.heap[q]?) (hvm : s.vm.Alike U.vm) (hvw : s.vm = U.vm ∨ s.WarmedH U.vm) : sm_stat G X B ad U :=
  ⟨fun j hj => (((h.1 j hj).kept hk).narrow hB).moved hvm, fun j hj => (((h.2.1 j hj).kept hk).narrow hB).moved hvm, fun q hq => ⟨(((h.2.2.1 q hq).1.kept hk).narrow hB).moved hvm, (h.2.2.1 q hq).2⟩, hX _ A B s U h.2.2.2 hB hk hvm hvw⟩
theorem sm_stat_ext {G : sm_G} {X : sm_X} {A : Nat → Prop} {ad ad' : Nat → Nat} {U : State} (h : sm_stat G X A ad U) (he : ∀ a, 1000000 ≤ a → ad' a = ad a) : sm_stat G X A ad' U := by
  refine ⟨fun j hj => ?_, fun j hj => ?_, fun q hq => ?_, ?_⟩
  · rw [he _ (by omega)]; exact h.1 j hj
  · rw [he _ (by omega)]; exact h.2.1 j hj
  · rw [he _ (h.2.2.1 q hq).2]; exact h.2.2.1 q hq
  · rw [he _ (by omega)]; exact h.2.2.2
def sm_Pre (G : sm_G) (F : sm_F) (kA : Nat → ClassId) (D : va_G) (CL : List vw_C) (eT : String) (X : sm_X) (ad : Nat → Nat) (h : sm_H) (As : List Value) (sz : Nat) : Array Value → State → Prop :=
  va_Pc (As.map (sm_r ad)) (fun U => U.heap.size = sz ∧ va_P D CL (sm_ws G F kA h ad) U.heap ∧ va_K D CL (sm_ty kA eT) U ∧ va_D (fun _ => True) (sm_ws G F kA h ad) ∧ sm_stat G X (va_A (sm_ws G F kA h ad) sz) ad U)
def sm_Post (G : sm_G) (F : sm_F) (kA : Nat → ClassId) (D : va_G) (CL : List vw_C) (ad : Nat → Nat) (h : sm_H) (res : Option Value × sm_H) (A : Nat → Prop) : Array Value → State → Outcome → State → Prop := fun _ st o t =>
  (∃ ad' : Nat → Nat, (∀ a, a < G.1 + h.n ∨ 1000000 ≤ a → ad' a = ad a) ∧ o = .returned (res.1.map (sm_r ad')) ∧ va_P D CL (sm_ws G F kA res.2 ad') t.heap ∧ va_D A (sm_ws G F kA res.2 ad')) ∧ va_F A st t
theorem sm_blind {G : sm_G} {F : sm_F} {kA : Nat → ClassId} {D : va_G} {CL : List vw_C} {eT : String} {X : sm_X} (hX : sm_Xok X) {ad : Nat → Nat} {h : sm_H} {As : List Value} {sz : Nat} : FrameBlind (sm_Pre G F kA D CL eT X ad h As sz) := by
  intro a U g mk ⟨q0, q1, qP, qK, qD, qS⟩
  exact ⟨q0, q1, qP, va_K.moved (u := U) (U := U.calling g mk a) (Vm.Alike.refl U.vm) qK, qD, sm_stat_call hX (U := U.calling g mk a) qS (fun _ h => h) (fun _ _ _ => rfl) (Vm.Alike.refl U.vm) (Or.inl rfl)⟩
section SMcall
variable {p : Program} {l : Launch} {e : Env} {R : Room} {s : State} {m : MethodId} {args : Array Value} {below : List Frame} {meth : Method} {c : Code} {H H0 : Heap} {locs : List Loc} {cells slots : Nat} {Q : State → Prop}
variable {cc : ByteArray} {pc : Nat} {ls : Array Slot} {rest st0 : List Value} {a : Array Value}
variable {G : sm_G} {F : sm_F} {kA : Nat → ClassId} {D : va_G} {CL : List vw_C} {eT : String} {A0 A1 : Nat → Prop} {h : sm_H} {ad : Nat → Nat} {res : Option Value × sm_H} {mc ms : Nat} {free : Addr → Prop}
theorem sm_Wcall (hr : va_Run p l e R s m args below meth c H locs cells slots mc ms (F0 m pc ls st0) rest (sm_Post G F kA D CL ad h res A1 a) free) (hS : va_S A0 H0 H locs) (hA : ∀ q, A1 q → A0 q) (hf : ∀ q, free q → A0 q)
    (kk : ∀ (ad' : Nat → Nat) (H1 : Heap) (locs1 : List Loc), (∀ a, a < G.1 + h.n ∨ 1000000 ≤ a → ad' a = ad a) → va_P D CL (sm_ws G F kA res.2 ad') H1 → va_D A0 (sm_ws G F kA res.2 ad') → va_S A0 H0 H1 locs1 → W p l e R s m args below meth c H1 locs1 (cells + mc) (slots + ms) Q (F0 m (pc + 3) ls ((res.1.map (sm_r ad')).toList ++ rest))) : W p l e R s m args below meth c H locs cells slots Q (F0 m pc ls st0) := by
  intro T hT X
  obtain ⟨v, st₀, t, T', L, h0, X', hL, e1, e2, ⟨⟨ad', hext, hv, hP, hD⟩, hz, hk⟩, st⟩ := hr T hT X
  cases hv
  rw [h0] at hz hk
  obtain ⟨t2, a1, b1⟩ := kk ad' T'.heap (locs ++ L) hext (by rw [e1]; exact hP) (hD.weaken (fun _ _ _ q => hA _ q))
    ⟨Nat.le_trans hS.1 (by rw [e1]; exact hz), fun q h1 h2 => by rw [e1, hk q (Nat.lt_of_lt_of_le h1 hS.1) (fun z => h2 (hA q z))]; exact hS.2.1 q h1 h2, fun q hq => by
      rcases List.mem_append.mp hq with h | h
      · exact hS.2.2 q h
      · exact hf _ (hL q h)⟩ T' rfl X'
  exact ⟨t2, st t2 a1, b1⟩
end SMcall
/-- the methods: names, code, count of locals, kind of answer (as a type, and 3 for a boolean) -/
abbrev sm_Y : Type := (Nat → MethodName) × (Nat → ByteArray) × (Nat → Nat) × (Nat → Option FieldType) × (Nat → Nat)
def sm_W (Ts : List Cond) (Y : sm_Y) (j : Nat) : List Cond := Cond.code (Y.1 j) (Y.2.1 j) (Y.2.2.1 j) (Y.2.2.2.1 j) :: Ts
def sm_RM (d : Nat) (h : sm_H) (res : Option Value × sm_H) : Room := { frames := d + 6, cells := res.2.n - h.n, slots := res.2.sl - h.sl, locals := 80 * (d + 6) }
/-- every call that the simple machine does at depth d is a contract -/
def sm_Met (l : Launch) (G : sm_G) (F : sm_F) (kA : Nat → ClassId) (D : va_G) (CL : List vw_C) (eT : String) (X : sm_X) (Ts : List Cond) (Y : sm_Y) (d : Nat) (call : Nat → List Value → sm_H → Option Value × sm_H → Prop) : Prop :=
  ∀ j As h res, call j As h res → sm_okh G h → sm_oks (G.1 + h.n) As → G.1 + res.2.n ≤ 1000000 → res.2.sl - h.sl ≤ 60000000 → ∀ (ad : Nat → Nat) (sz : Nat),
    Met l (Y.1 j) (sm_W Ts Y j) (sm_RM d h res) (sm_Pre G F kA D CL eT X ad h As sz) (sm_Post G F kA D CL ad h res (va_A (sm_ws G F kA h ad) sz)) (res.2.n - h.n) (res.2.sl - h.sl) (va_A (sm_ws G F kA h ad) sz)
/-- what a call's words say of the callee -/
def sm_yok (Ts : List Cond) (Y : sm_Y) (j n : Nat) : Prop := Cond.code (Y.1 j) (Y.2.1 j) (Y.2.2.1 j) (Y.2.2.2.1 j) ∈ Ts ∧ Cond.initialized (Y.1 j).cls ∈ Ts ∧ ((Y.1 j).cls ≠ "java/lang/invoke/MethodHandle" ∧ (Y.1 j).cls ≠ "java/lang/invoke/VarHandle" ∧ (parseMethodDescriptor (Y.1 j).desc).map (fun d => d.parameters.length) = some n) ∧ Y.2.2.1 j ≤ 60
/-- an instruction's numbers are what its bytes say, and its words are there -/
def sm_val (Ts : List Cond) (CL : List vw_C) (F : sm_F) (eT : String) (X : sm_X) (Y : sm_Y) (own : String) (isI : Prop) (cc : ByteArray) (nL pc : Nat) (i : sm_I) : Prop := match i.1 with
  | .iconst n => decode cc pc = .ok (.iconst n, 1) ∧ i.2.2.2.2.2 = .int (Int32.ofInt n)
  | .lconst n => decode cc pc = .ok (.lconst n, 1) ∧ i.2.2.2.2.2 = .long (Int64.ofNat (n : Nat))
  | .bipush n => decode cc pc = .ok (.bipush n, 2) ∧ i.2.2.2.2.2 = .int (Int8.ofInt n).toInt32
  | .sipush n => decode cc pc = .ok (.sipush n, 3) ∧ i.2.2.2.2.2 = .int (Int16.ofInt n).toInt32
  | .ldc idx => decode cc pc = .ok (.ldc idx, 2) ∧ ((∃ x, i.2.2.2.2.2 = .int x ∧ Cond.constant own idx x ∈ Ts) ∨ (i.2.2.2.2.2 = .ref 3000000 ∧ ∃ tx, ∀ a A U, X.2 a A U → vk_R own idx tx a U))
  | .ldc2_w idx => decode cc pc = .ok (.ldc2_w idx, 3) ∧ ∃ x, i.2.2.2.2.2 = .long x ∧ Cond.constantLong own idx x ∈ Ts
  | .getstatic idx => decode cc pc = .ok (.getstatic idx, 3) ∧ ∃ q ∈ X.1, i.2.2.2.2.2 = .ref q.2.2.2 ∧ Cond.fieldLink own idx q.1 q.2.1 q.2.2.1 ∈ Ts
  | .iload_n k => decode cc pc = .ok (.iload_n k, 1) ∧ (k : Nat) = i.2.1
  | .iload k => decode cc pc = .ok (.iload k, 2) ∧ k = i.2.1
  | .lload_n k => decode cc pc = .ok (.lload_n k, 1) ∧ (k : Nat) = i.2.1
  | .lload k => decode cc pc = .ok (.lload k, 2) ∧ k = i.2.1
  | .aload_n k => decode cc pc = .ok (.aload_n k, 1) ∧ (k : Nat) = i.2.1
  | .aload k => decode cc pc = .ok (.aload k, 2) ∧ k = i.2.1
  | .istore_n k => decode cc pc = .ok (.istore_n k, 1) ∧ (k : Nat) = i.2.1 ∧ i.2.1 < nL
  | .istore k => decode cc pc = .ok (.istore k, 2) ∧ k = i.2.1 ∧ i.2.1 < nL
  | .astore_n k => decode cc pc = .ok (.astore_n k, 1) ∧ (k : Nat) = i.2.1 ∧ i.2.1 < nL
  | .astore k => decode cc pc = .ok (.astore k, 2) ∧ k = i.2.1 ∧ i.2.1 < nL
  | .lstore_n k => decode cc pc = .ok (.lstore_n k, 1) ∧ (k : Nat) = i.2.1 ∧ i.2.1 + 1 < nL
  | .lstore k => decode cc pc = .ok (.lstore k, 2) ∧ k = i.2.1 ∧ i.2.1 + 1 < nL
  | .iinc k n => decode cc pc = .ok (.iinc k n, 3) ∧ k = i.2.1 ∧ i.2.1 < nL ∧ i.2.2.2.2.2 = .int (Int32.ofInt n)
  | .goto off => decode cc pc = .ok (.goto off, 3) ∧ (pc : Int) + off = (i.2.1 : Int)
  | .getfield idx => decode cc pc = .ok (.getfield idx, 3) ∧ ∃ C T N, CL[i.2.1]? = some (C, T, N) ∧ i.2.2.1 < N ∧ F.2 i.2.1 i.2.2.1 = i.2.2.2.1 ∧ Cond.fieldLink own idx C (T i.2.2.1).2.1 (T i.2.2.1).2.2.1 ∈ Ts
  | .putfield idx => decode cc pc = .ok (.putfield idx, 3) ∧ ∃ C T N, CL[i.2.1]? = some (C, T, N) ∧ i.2.2.1 < N ∧ F.2 i.2.1 i.2.2.1 = i.2.2.2.1 ∧ Cond.fieldLink own idx C (T i.2.2.1).2.1 (T i.2.2.1).2.2.1 ∈ Ts ∧ ((T i.2.2.1).2.2.2 = true → isI ∧ C = own)
  | .iaload => decode cc pc = .ok (.iaload, 1)
  | .laload => decode cc pc = .ok (.laload, 1)
  | .baload => decode cc pc = .ok (.baload, 1)
  | .aaload => decode cc pc = .ok (.aaload, 1)
  | .iastore => decode cc pc = .ok (.iastore, 1)
  | .lastore => decode cc pc = .ok (.lastore, 1)
  | .bastore => decode cc pc = .ok (.bastore, 1)
  | .aastore => decode cc pc = .ok (.aastore, 1) ∧ ∃ T N, CL[i.2.1]? = some (eT, T, N)
  | .arraylength => decode cc pc = .ok (.arraylength, 1)
  | .new idx => decode cc pc = .ok (.new idx, 3) ∧ ∃ C T, CL[i.2.1]? = some (C, T, i.2.2.1) ∧ Cond.classLink own idx C ∈ Ts ∧ Cond.instantiable C i.2.2.1 ∈ Ts ∧ Cond.initialized C ∈ Ts
  | .newarray t => decode cc pc = .ok (.newarray t, 2) ∧ ((t = .int ∧ i.2.1 = 100 ∧ Cond.arrayClass .int ∈ Ts) ∨ (t = .long ∧ i.2.1 = 101 ∧ Cond.arrayClass .long ∈ Ts) ∨ (t = .boolean ∧ i.2.1 = 102 ∧ Cond.arrayClass .boolean ∈ Ts))
  | .anewarray idx => decode cc pc = .ok (.anewarray idx, 3) ∧ i.2.1 = 103 ∧ Cond.classLink own idx eT ∈ Ts ∧ ∀ a A U, X.2 a A U → va_AO eT U
  | .ifCond q off => decode cc pc = .ok (.ifCond q off, 3) ∧ (pc : Int) + off = (i.2.1 : Int)
  | .if_icmp q off => decode cc pc = .ok (.if_icmp q off, 3) ∧ (pc : Int) + off = (i.2.1 : Int)
  | .ifnonnull off => decode cc pc = .ok (.ifnonnull off, 3) ∧ (pc : Int) + off = (i.2.1 : Int)
  | .tableswitch d lo hi offs => ∃ len, decode cc pc = .ok (.tableswitch d lo hi offs, len)
  | .lookupswitch d ps => ∃ len, decode cc pc = .ok (.lookupswitch d ps, len)
  | .invokestatic idx => decode cc pc = .ok (.invokestatic idx, 3) ∧ (i.2.2.2.1 = 0 → sm_yok Ts Y i.2.1 i.2.2.1 ∧ Cond.methodLink own idx (Y.1 i.2.1) ∈ Ts ∧ Cond.static (Y.1 i.2.1) ∈ Ts) ∧ (i.2.2.2.1 = 7 ∨ i.2.2.2.1 = 8 → Cond.methodLink own idx arraycopyName ∈ Ts ∧ Cond.native arraycopyName ∈ Ts ∧ Cond.static arraycopyName ∈ Ts ∧ Cond.initialized "java/lang/System" ∈ Ts) ∧ (i.2.2.2.1 = 9 → Cond.methodLink own idx Lib.Math.max.name ∈ Ts ∧ Cond.static Lib.Math.max.name ∈ Ts ∧ Cond.initialized "java/lang/Math" ∈ Ts ∧ Cond.code Lib.Math.max.name Lib.Math.max.code 2 (some .int) ∈ Ts) ∧ (i.2.2.2.1 = 10 → Cond.methodLink own idx Lib.Math.min.name ∈ Ts ∧ Cond.static Lib.Math.min.name ∈ Ts ∧ Cond.initialized "java/lang/Math" ∈ Ts ∧ Cond.code Lib.Math.min.name Lib.Math.min.code 2 (some .int) ∈ Ts)
  | .invokevirtual idx => decode cc pc = .ok (.invokevirtual idx, 3) ∧ (i.2.2.2.1 < 200 → ∃ T N, CL[i.2.2.2.1]? = some ((Y.1 i.2.1).cls, T, N) ∧ sm_yok Ts Y i.2.1 i.2.2.1 ∧ Cond.methodLink own idx (Y.1 i.2.1) ∈ Ts ∧ Cond.instanceMethod (Y.1 i.2.1) ∈ Ts ∧ Cond.selects (Y.1 i.2.1).cls (Y.1 i.2.1) (Y.1 i.2.1) ∈ Ts)
  | .invokespecial idx => decode cc pc = .ok (.invokespecial idx, 3) ∧ (i.2.2.2.1 = 0 → Cond.methodLink own idx Lib.objectInit ∈ Ts ∧ Cond.instanceMethod Lib.objectInit ∈ Ts ∧ Cond.code Lib.objectInit ⟨#[0xb1]⟩ 1 none ∈ Ts) ∧ (i.2.2.2.1 = 1 ∨ i.2.2.2.1 = 2 → sm_yok Ts Y i.2.1 i.2.2.1 ∧ Y.2.2.2.1 i.2.1 = none ∧ (Y.1 i.2.1).name = "<init>" ∧ Cond.instanceMethod (Y.1 i.2.1) ∈ Ts) ∧ (i.2.2.2.1 = 1 → Cond.methodLink own idx (Y.1 i.2.1) ∈ Ts) ∧ (i.2.2.2.1 = 2 → ∃ host, ∀ a A U, X.2 a A U → va_Nw (.methodLinkNest own idx (Y.1 i.2.1) host) U)
  | .ireturn => decode cc pc = .ok (.ireturn, 1)
  | .lreturn => decode cc pc = .ok (.lreturn, 1)
  | .areturn => decode cc pc = .ok (.areturn, 1)
  | .return_ => decode cc pc = .ok (.return_, 1)
  | ins => decode cc pc = .ok (ins, 1)
