/-! the numbers of an instruction, and its words -/
/-- what the checker looks up: words by place; a method's flags (1 static, 2 by its class, 3 a constructor), its count of parameters; static fields; the String constant's own class and place; nest mates' constructors (own class, place, callee, host) -/
abbrev sm_Q : Type := (Nat → Option Cond) × (Nat → Nat) × (Nat → Nat) × List (String × String × String × Nat) × (String × Nat) × List (String × Nat × Nat × String)
def sm_cp (K : sm_Q) (CL : List vw_C) (F : sm_F) (eC : Nat) (Y : sm_Y) (own : String) (isI : Bool) (nL pc : Nat) (i : sm_I) : Bool := match i.1 with
  | .iconst n => decide (i.2.2.2.2.2 = .int (Int32.ofInt n))
  | .lconst n => decide (i.2.2.2.2.2 = .long (Int64.ofNat (n : Nat)))
  | .bipush n => decide (i.2.2.2.2.2 = .int (Int8.ofInt n).toInt32)
  | .sipush n => decide (i.2.2.2.2.2 = .int (Int16.ofInt n).toInt32)
  | .ldc idx => (match i.2.2.2.2.2 with
    | .int x => decide (K.1 i.2.2.2.2.1 = some (.constant own idx x))
    | .ref r => Nat.beq r 3000000 && decide (K.2.2.2.2.1 = (own, idx))
    | _ => false)
  | .ldc2_w idx => (match i.2.2.2.2.2 with
    | .long x => decide (K.1 i.2.2.2.2.1 = some (.constantLong own idx x))
    | _ => false)
  | .getstatic idx => (match K.2.2.2.1[i.2.1]?, i.2.2.2.2.2 with
    | some q, .ref r => Nat.beq r q.2.2.2 && Nat.ble 1000000 r && decide (K.1 i.2.2.2.2.1 = some (.fieldLink own idx q.1 q.2.1 q.2.2.1))
    | _, _ => false)
  | .iload_n k => Nat.beq k i.2.1
  | .iload k => Nat.beq k i.2.1
  | .lload_n k => Nat.beq k i.2.1
  | .lload k => Nat.beq k i.2.1
  | .aload_n k => Nat.beq k i.2.1
  | .aload k => Nat.beq k i.2.1
  | .istore_n k => Nat.beq k i.2.1 && Nat.blt i.2.1 nL
  | .istore k => Nat.beq k i.2.1 && Nat.blt i.2.1 nL
  | .astore_n k => Nat.beq k i.2.1 && Nat.blt i.2.1 nL
  | .astore k => Nat.beq k i.2.1 && Nat.blt i.2.1 nL
  | .lstore_n k => Nat.beq k i.2.1 && Nat.blt (i.2.1 + 1) nL
  | .lstore k => Nat.beq k i.2.1 && Nat.blt (i.2.1 + 1) nL
  | .iinc k n => Nat.beq k i.2.1 && Nat.blt i.2.1 nL && decide (i.2.2.2.2.2 = .int (Int32.ofInt n))
  | .goto off => decide ((pc : Int) + off = (i.2.1 : Int))
  | .ifCond _ off => decide ((pc : Int) + off = (i.2.1 : Int))
  | .if_icmp _ off => decide ((pc : Int) + off = (i.2.1 : Int))
  | .ifnonnull off => decide ((pc : Int) + off = (i.2.1 : Int))
  | .getfield idx => (match CL[i.2.1]? with
    | some q => Nat.blt i.2.2.1 q.2.2 && Nat.beq (F.2 i.2.1 i.2.2.1) i.2.2.2.1 && decide (K.1 i.2.2.2.2.1 = some (.fieldLink own idx q.1 (q.2.1 i.2.2.1).2.1 (q.2.1 i.2.2.1).2.2.1))
    | none => false)
  | .putfield idx => (match CL[i.2.1]? with
    | some q => Nat.blt i.2.2.1 q.2.2 && Nat.beq (F.2 i.2.1 i.2.2.1) i.2.2.2.1 && decide (K.1 i.2.2.2.2.1 = some (.fieldLink own idx q.1 (q.2.1 i.2.2.1).2.1 (q.2.1 i.2.2.1).2.2.1)) && (!(q.2.1 i.2.2.1).2.2.2 || (isI && decide (q.1 = own)))
    | none => false)
  | .aastore => Nat.beq i.2.1 eC
  | .new idx => (match CL[i.2.1]? with
    | some q => Nat.beq i.2.2.1 q.2.2 && decide (K.1 i.2.2.2.2.1 = some (.classLink own idx q.1))
    | none => false)
  | .newarray t => (match t with
    | .int => Nat.beq i.2.1 100
    | .long => Nat.beq i.2.1 101
    | .boolean => Nat.beq i.2.1 102
    | _ => false)
  | .anewarray idx => Nat.beq i.2.1 103 && (match CL[eC]? with
    | some q => decide (K.1 i.2.2.2.2.1 = some (.classLink own idx q.1))
    | none => false)
  | .invokestatic idx => bif Nat.beq i.2.2.2.1 0 then Nat.beq (K.2.1 i.2.1) 1 && Nat.beq (K.2.2.1 i.2.1) i.2.2.1 && decide (K.1 i.2.2.2.2.1 = some (.methodLink own idx (Y.1 i.2.1))) else bif Nat.ble i.2.2.2.1 8 then decide (K.1 i.2.2.2.2.1 = some (.methodLink own idx arraycopyName)) else bif Nat.beq i.2.2.2.1 9 then decide (K.1 i.2.2.2.2.1 = some (.methodLink own idx Lib.Math.max.name)) else decide (K.1 i.2.2.2.2.1 = some (.methodLink own idx Lib.Math.min.name))
  | .invokevirtual idx => bif Nat.blt i.2.2.2.1 200 then Nat.beq (K.2.1 i.2.1) 2 && Nat.beq (K.2.2.1 i.2.1) i.2.2.1 && (match CL[i.2.2.2.1]? with
    | some q => decide ((Y.1 i.2.1).cls = q.1)
    | none => false) && decide (K.1 i.2.2.2.2.1 = some (.methodLink own idx (Y.1 i.2.1))) else true
  | .invokespecial idx => bif Nat.beq i.2.2.2.1 0 then decide (K.1 i.2.2.2.2.1 = some (.methodLink own idx Lib.objectInit)) else Nat.beq (K.2.1 i.2.1) 3 && Nat.beq (K.2.2.1 i.2.1) i.2.2.1 && (bif Nat.beq i.2.2.2.1 1 then decide (K.1 i.2.2.2.2.1 = some (.methodLink own idx (Y.1 i.2.1))) else (match K.2.2.2.2.2[i.2.2.2.2.1]? with
    | some q => decide (q.1 = own) && Nat.beq q.2.1 idx && Nat.beq q.2.2.1 i.2.1
    | none => false))
  | _ => true
/-- what stands behind the checker's tables -/
def sm_Kok (K : sm_Q) (Ts : List Cond) (CL : List vw_C) (eC : Nat) (eT : String) (X : sm_X) (Y : sm_Y) : Prop :=
  (∀ q w, K.1 q = some w → w ∈ Ts) ∧ (∀ j, K.2.1 j = 1 → sm_yok Ts Y j (K.2.2.1 j) ∧ Cond.static (Y.1 j) ∈ Ts) ∧ (∀ j, K.2.1 j = 2 → sm_yok Ts Y j (K.2.2.1 j) ∧ Cond.instanceMethod (Y.1 j) ∈ Ts ∧ Cond.selects (Y.1 j).cls (Y.1 j) (Y.1 j) ∈ Ts) ∧ (∀ j, K.2.1 j = 3 → sm_yok Ts Y j (K.2.2.1 j) ∧ Cond.instanceMethod (Y.1 j) ∈ Ts ∧ Y.2.2.2.1 j = none ∧ (Y.1 j).name = "<init>") ∧ K.2.2.2.1 = X.1 ∧
  (∃ tx, ∀ a A U, X.2 a A U → vk_R K.2.2.2.2.1.1 K.2.2.2.2.1.2 tx a U) ∧ (∀ q ∈ K.2.2.2.2.2, ∀ a A U, X.2 a A U → va_Nw (.methodLinkNest q.1 q.2.1 (Y.1 q.2.2.1) q.2.2.2) U) ∧ (∃ T N, CL[eC]? = some (eT, T, N)) ∧
  (∀ (ci : Nat) (q : vw_C), CL[ci]? = some q → Cond.instantiable q.1 q.2.2 ∈ Ts ∧ Cond.initialized q.1 ∈ Ts) ∧ Cond.arrayClass .int ∈ Ts ∧ Cond.arrayClass .long ∈ Ts ∧ Cond.arrayClass .boolean ∈ Ts ∧ (∀ a A U, X.2 a A U → va_AO eT U) ∧ (Cond.native arraycopyName ∈ Ts ∧ Cond.static arraycopyName ∈ Ts ∧ Cond.initialized "java/lang/System" ∈ Ts) ∧ (Cond.instanceMethod Lib.objectInit ∈ Ts ∧ Cond.code Lib.objectInit ⟨#[0xb1]⟩ 1 none ∈ Ts) ∧ (Cond.static Lib.Math.max.name ∈ Ts ∧ Cond.initialized "java/lang/Math" ∈ Ts ∧ Cond.code Lib.Math.max.name Lib.Math.max.code 2 (some .int) ∈ Ts) ∧ (Cond.static Lib.Math.min.name ∈ Ts ∧ Cond.initialized "java/lang/Math" ∈ Ts ∧ Cond.code Lib.Math.min.name Lib.Math.min.code 2 (some .int) ∈ Ts)
theorem sm_cp_ok {K : sm_Q} {Ts : List Cond} {CL : List vw_C} {F : sm_F} {eC : Nat} {eT : String} {X : sm_X} {Y : sm_Y} {own : String} {isI : Bool} {cc : ByteArray} {nL pc : Nat} {i : sm_I} (hK : sm_Kok K Ts CL eC eT X Y) (h : sm_cp K CL F eC Y own isI nL pc i = true) (hd : decode cc pc = .ok (i.1, sm_len i)) (hcd : ∃ op r, sm_cd cc pc i op r = true) : sm_val Ts CL F eT X Y own (isI = true) cc nL pc i := by
  obtain ⟨k1, k2, k3, k4, k5, k6, k7, k8, k9, k10, k11, k12, k13, k14, k15, k16, k17⟩ := hK
  unfold sm_cp at h
  split at h
  · rename_i k he
    simp only [sm_len, he] at hd
    simp only [sm_val, he]
    exact ⟨hd, of_decide_eq_true h⟩
  · rename_i k he
    simp only [sm_len, he] at hd
    simp only [sm_val, he]
    exact ⟨hd, of_decide_eq_true h⟩
  · rename_i k he
    simp only [sm_len, he] at hd
    simp only [sm_val, he]
    exact ⟨hd, of_decide_eq_true h⟩
  · rename_i k he
    simp only [sm_len, he] at hd
    simp only [sm_val, he]
    exact ⟨hd, of_decide_eq_true h⟩
  · rename_i k he
    simp only [sm_len, he] at hd
    simp only [sm_val, he]
    refine ⟨hd, ?_⟩
    split at h
    · rename_i x ev
      exact Or.inl ⟨x, ev, k1 _ _ (of_decide_eq_true h)⟩
    · rename_i r ev
      rw [Bool.and_eq_true] at h
      have e1 := Nat.eq_of_beq_eq_true h.1
      have e2 := of_decide_eq_true h.2
      obtain ⟨tx, ht⟩ := k6
      rw [e2] at ht
      exact Or.inr ⟨by rw [ev, e1], tx, ht⟩
    · cases h
  · rename_i k he
    simp only [sm_len, he] at hd
    simp only [sm_val, he]
    refine ⟨hd, ?_⟩
    split at h
    · rename_i x ev
      exact ⟨x, ev, k1 _ _ (of_decide_eq_true h)⟩
    · cases h
  · rename_i k he
    simp only [sm_len, he] at hd
    simp only [sm_val, he]
    refine ⟨hd, ?_⟩
    split at h
    · rename_i q r eq ev
      rw [Bool.and_eq_true, Bool.and_eq_true] at h
      have e1 := Nat.eq_of_beq_eq_true h.1.1
      rw [k5] at eq
      exact ⟨q, List.mem_of_getElem? eq, by rw [ev, e1], k1 _ _ (of_decide_eq_true h.2)⟩
    · cases h
  · rename_i k he
    simp only [sm_len, he] at hd
    simp only [sm_val, he]
    exact ⟨hd, Nat.eq_of_beq_eq_true h⟩
  · rename_i k he
    simp only [sm_len, he] at hd
    simp only [sm_val, he]
    exact ⟨hd, Nat.eq_of_beq_eq_true h⟩
  · rename_i k he
    simp only [sm_len, he] at hd
    simp only [sm_val, he]
    exact ⟨hd, Nat.eq_of_beq_eq_true h⟩
  · rename_i k he
    simp only [sm_len, he] at hd
    simp only [sm_val, he]
    exact ⟨hd, Nat.eq_of_beq_eq_true h⟩
  · rename_i k he
    simp only [sm_len, he] at hd
    simp only [sm_val, he]
    exact ⟨hd, Nat.eq_of_beq_eq_true h⟩
  · rename_i k he
    simp only [sm_len, he] at hd
    simp only [sm_val, he]
    exact ⟨hd, Nat.eq_of_beq_eq_true h⟩
  · rename_i k he
    simp only [sm_len, he] at hd
    simp only [sm_val, he]
    rw [Bool.and_eq_true] at h
    exact ⟨hd, Nat.eq_of_beq_eq_true h.1, Nat.blt_eq.mp h.2⟩
  · rename_i k he
    simp only [sm_len, he] at hd
    simp only [sm_val, he]
    rw [Bool.and_eq_true] at h
    exact ⟨hd, Nat.eq_of_beq_eq_true h.1, Nat.blt_eq.mp h.2⟩
  · rename_i k he
    simp only [sm_len, he] at hd
    simp only [sm_val, he]
    rw [Bool.and_eq_true] at h
    exact ⟨hd, Nat.eq_of_beq_eq_true h.1, Nat.blt_eq.mp h.2⟩
  · rename_i k he
    simp only [sm_len, he] at hd
    simp only [sm_val, he]
    rw [Bool.and_eq_true] at h
    exact ⟨hd, Nat.eq_of_beq_eq_true h.1, Nat.blt_eq.mp h.2⟩
  · rename_i k he
    simp only [sm_len, he] at hd
    simp only [sm_val, he]
    rw [Bool.and_eq_true] at h
    exact ⟨hd, Nat.eq_of_beq_eq_true h.1, Nat.blt_eq.mp h.2⟩
  · rename_i k he
    simp only [sm_len, he] at hd
    simp only [sm_val, he]
    rw [Bool.and_eq_true] at h
    exact ⟨hd, Nat.eq_of_beq_eq_true h.1, Nat.blt_eq.mp h.2⟩
  · rename_i k n he
    simp only [sm_len, he] at hd
    simp only [sm_val, he]
    rw [Bool.and_eq_true, Bool.and_eq_true] at h
    exact ⟨hd, Nat.eq_of_beq_eq_true h.1.1, Nat.blt_eq.mp h.1.2, of_decide_eq_true h.2⟩
  · rename_i off he
    simp only [sm_len, he] at hd
    simp only [sm_val, he]
    exact ⟨hd, of_decide_eq_true h⟩
  · rename_i cq off he
    simp only [sm_len, he] at hd
    simp only [sm_val, he]
    exact ⟨hd, of_decide_eq_true h⟩
  · rename_i cq off he
    simp only [sm_len, he] at hd
    simp only [sm_val, he]
    exact ⟨hd, of_decide_eq_true h⟩
  · rename_i off he
    simp only [sm_len, he] at hd
    simp only [sm_val, he]
    exact ⟨hd, of_decide_eq_true h⟩
  · rename_i k he
    simp only [sm_len, he] at hd
    simp only [sm_val, he]
    refine ⟨hd, ?_⟩
    split at h
    · rename_i q eq
      rw [Bool.and_eq_true, Bool.and_eq_true] at h
      exact ⟨q.1, q.2.1, q.2.2, eq, Nat.blt_eq.mp h.1.1, Nat.eq_of_beq_eq_true h.1.2, k1 _ _ (of_decide_eq_true h.2)⟩
    · cases h
  · rename_i k he
    simp only [sm_len, he] at hd
    simp only [sm_val, he]
    refine ⟨hd, ?_⟩
    split at h
    · rename_i q eq
      rw [Bool.and_eq_true, Bool.and_eq_true, Bool.and_eq_true] at h
      refine ⟨q.1, q.2.1, q.2.2, eq, Nat.blt_eq.mp h.1.1.1, Nat.eq_of_beq_eq_true h.1.1.2, k1 _ _ (of_decide_eq_true h.1.2), fun hf => ?_⟩
      have h2 := h.2
      rw [hf] at h2
      simp only [Bool.not_true, Bool.false_or, Bool.and_eq_true, decide_eq_true_eq] at h2
      exact h2
    · cases h
  · rename_i he
    simp only [sm_len, he] at hd
    simp only [sm_val, he]
    obtain ⟨TT, NN, e8⟩ := k8
    exact ⟨hd, TT, NN, by rw [Nat.eq_of_beq_eq_true h]; exact e8⟩
  · rename_i k he
    simp only [sm_len, he] at hd
    simp only [sm_val, he]
    refine ⟨hd, ?_⟩
    split at h
    · rename_i q eq
      rw [Bool.and_eq_true] at h
      have e1 := Nat.eq_of_beq_eq_true h.1
      exact ⟨q.1, q.2.1, by rw [eq, e1], k1 _ _ (of_decide_eq_true h.2), by rw [e1]; exact (k9 _ _ eq).1, (k9 _ _ eq).2⟩
    · cases h
  · rename_i t he
    simp only [sm_len, he] at hd
    simp only [sm_val, he]
    refine ⟨hd, ?_⟩
    split at h
    · exact Or.inl ⟨rfl, Nat.eq_of_beq_eq_true h, k10⟩
    · exact Or.inr (Or.inl ⟨rfl, Nat.eq_of_beq_eq_true h, k11⟩)
    · exact Or.inr (Or.inr ⟨rfl, Nat.eq_of_beq_eq_true h, k12⟩)
    · cases h
  · rename_i k he
    simp only [sm_len, he] at hd
    simp only [sm_val, he]
    rw [Bool.and_eq_true] at h
    obtain ⟨TT, NN, e8⟩ := k8
    have h2 := h.2
    rw [e8] at h2
    exact ⟨hd, Nat.eq_of_beq_eq_true h.1, k1 _ _ (of_decide_eq_true h2), k13⟩
  · rename_i k he
    simp only [sm_len, he] at hd
    simp only [sm_val, he]
    refine ⟨hd, fun e0 => ?_, fun e0 => ?_, fun e0 => ?_, fun e0 => ?_⟩
    · rw [e0] at h
      have h : (Nat.beq (K.2.1 i.2.1) 1 && Nat.beq (K.2.2.1 i.2.1) i.2.2.1 && decide (K.1 i.2.2.2.2.1 = some (.methodLink own k (Y.1 i.2.1)))) = true := h
      rw [Bool.and_eq_true, Bool.and_eq_true] at h
      have z := k2 _ (Nat.eq_of_beq_eq_true h.1.1)
      rw [Nat.eq_of_beq_eq_true h.1.2] at z
      exact ⟨z.1, k1 _ _ (of_decide_eq_true h.2), z.2⟩
    · rcases e0 with e0 | e0
      · rw [e0] at h
        exact ⟨k1 _ _ (of_decide_eq_true h), k14⟩
      · rw [e0] at h
        exact ⟨k1 _ _ (of_decide_eq_true h), k14⟩
    · rw [e0] at h
      exact ⟨k1 _ _ (of_decide_eq_true h), k16⟩
    · rw [e0] at h
      exact ⟨k1 _ _ (of_decide_eq_true h), k17⟩
  · rename_i k he
    simp only [sm_len, he] at hd
    simp only [sm_val, he]
    refine ⟨hd, fun e0 => ?_⟩
    rw [Nat.blt_eq.mpr e0] at h
    simp only [cond_true] at h
    rw [Bool.and_eq_true, Bool.and_eq_true, Bool.and_eq_true] at h
    have z := k3 _ (Nat.eq_of_beq_eq_true h.1.1.1)
    rw [Nat.eq_of_beq_eq_true h.1.1.2] at z
    have h2 := h.1.2
    split at h2
    · rename_i q eq
      have e3 := of_decide_eq_true h2
      exact ⟨q.2.1, q.2.2, by rw [eq, e3], z.1, k1 _ _ (of_decide_eq_true h.2), z.2.1, z.2.2⟩
    · cases h2
  · rename_i k he
    simp only [sm_len, he] at hd
    simp only [sm_val, he]
    refine ⟨hd, fun e0 => ?_, fun e0 => ?_, fun e0 => ?_, fun e0 => ?_⟩
    · rw [e0] at h
      exact ⟨k1 _ _ (of_decide_eq_true h), k15⟩
    all_goals
      have hn : Nat.beq i.2.2.2.1 0 = false := by
        cases wq : Nat.beq i.2.2.2.1 0 with
        | false => rfl
        | true => have := Nat.eq_of_beq_eq_true wq; omega
      rw [hn] at h
      simp only [cond_false] at h
      rw [Bool.and_eq_true, Bool.and_eq_true] at h
      have z := k4 _ (Nat.eq_of_beq_eq_true h.1.1)
      rw [Nat.eq_of_beq_eq_true h.1.2] at z
    · exact ⟨z.1, z.2.2.1, z.2.2.2, z.2.1⟩
    · have h2 := h.2
      rw [e0] at h2
      exact k1 _ _ (of_decide_eq_true h2)
    · have h2 := h.2
      rw [e0] at h2
      have hn1 : Nat.beq 2 1 = false := rfl
      rw [hn1] at h2
      simp only [cond_false] at h2
      split at h2
      · rename_i q eq
        rw [Bool.and_eq_true, Bool.and_eq_true] at h2
        have z7 := k7 q (List.mem_of_getElem? eq)
        rw [of_decide_eq_true h2.1.1, Nat.eq_of_beq_eq_true h2.1.2, Nat.eq_of_beq_eq_true h2.2] at z7
        exact ⟨_, z7⟩
      · cases h2
  · obtain ⟨op, r, hcd⟩ := hcd
    unfold sm_cd at hcd
    split at hcd
    all_goals first
      | (cases hcd; done)
      | (rename_i he; simp only [sm_len, he] at hd; simp only [sm_val, he]; first | exact hd | exact ⟨_, hd⟩)
      | (exfalso; simp_all; done)
