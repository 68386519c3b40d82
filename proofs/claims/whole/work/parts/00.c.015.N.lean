def isTh (h : sm_H) (o p q sz : Nat) : Prop := sm_is G0 h o 8 = true ∧ sm_rr G0 h o 0 = some p ∧ sm_rr G0 h o 1 = some q ∧ sm_is G0 h p 101 = true ∧ sm_ln G0 h p = sz ∧ sm_is G0 h q 100 = true ∧ sm_ln G0 h q = sz ∧ p < 1000000 ∧ q < 1000000 ∧ sz ≤ 100
theorem th29 (h : sm_H) : isTh h 29 30 31 100 := ⟨rfl, rfl, rfl, rfl, rfl, rfl, rfl, by decide, by decide, by decide⟩
theorem th23 (h : sm_H) : isTh h 23 24 25 100 := ⟨rfl, rfl, rfl, rfl, rfl, rfl, rfl, by decide, by decide, by decide⟩
theorem th26 (h : sm_H) : isTh h 26 27 28 0 := ⟨rfl, rfl, rfl, rfl, rfl, rfl, rfl, by decide, by decide, by decide⟩
theorem alD_ar {h : sm_H} {p : Nat} (hp : p < 1000000) (hc : sm_is G0 h p 100 = true ∨ sm_is G0 h p 101 = true) : alD h p = some (I3 (sm_ln G0 h p)) := by
  unfold alD sm_al
  have e : Nat.ble 1000000 p = false := by
    cases q : Nat.ble 1000000 p with
    | false => rfl
    | true => have := Nat.le_of_ble_eq_true q; omega
  rw [e]
  show (bif sm_live G0 h p && (Nat.ble 100 (sm_cl G0 h p) && Nat.blt (sm_cl G0 h p) 104) then some (Int32.ofNat (sm_ln G0 h p)) else none) = _
  rcases hc with hc | hc
  · unfold sm_is at hc
    simp only [Bool.and_eq_true] at hc
    rw [hc.1, Nat.eq_of_beq_eq_true hc.2]
    rfl
  · unfold sm_is at hc
    simp only [Bool.and_eq_true] at hc
    rw [hc.1, Nat.eq_of_beq_eq_true hc.2]
    rfl
theorem ldD_ar {h : sm_H} {p k : Nat} (hp : p < 1000000) (hc : sm_is G0 h p 100 = true) (hk : k < sm_ln G0 h p) (hs : sm_ln G0 h p ≤ 100) : ldD h p (I3 k) = some (h.1 p k) := by
  unfold ldD sm_ldI
  have e : Nat.ble 1000000 p = false := by
    cases q : Nat.ble 1000000 p with
    | false => rfl
    | true => have := Nat.le_of_ble_eq_true q; omega
  rw [e, hc]
  show (if sm_in (I3 k) (sm_ln G0 h p) then some (h.1 p (I3 k).toNatClampNeg) else none) = _
  rw [if_pos (sm_in_I3 hk (by omega)), I3_clamp (by omega)]
theorem ldDJ_ar {h : sm_H} {p k : Nat} (hp : p < 1000000) (hc : sm_is G0 h p 101 = true) (hk : k < sm_ln G0 h p) (hs : sm_ln G0 h p ≤ 100) : ldDJ h p (I3 k) = some (h.2.1 p k) := by
  unfold ldDJ sm_ldJ
  have e : Nat.ble 2000000 p = false := by
    cases q : Nat.ble 2000000 p with
    | false => rfl
    | true => have := Nat.le_of_ble_eq_true q; omega
  rw [e, hc]
  show (if sm_in (I3 k) (sm_ln G0 h p) then some (h.2.1 p (I3 k).toNatClampNeg) else none) = _
  rw [if_pos (sm_in_I3 hk (by omega)), I3_clamp (by omega)]
theorem C_thsz {h : sm_H} {o p q sz : Nat} (t : isTh h o p q sz) : F_216 o h = some (I3 sz, h) := by
  obtain ⟨t1, t2, t3, t4, t5, t6, t7, t8, t9, t10⟩ := t
  have a := alD_ar t8 (Or.inr t4)
  rw [t5] at a
  simp (disch := omega) only [F_216_0, F_216, ↓reduceIte, if_true, if_false, ite_self, Option.bind_some, Option.map_some, wI_rd, wJ_rd, wI_2, wJ_1, wJ_22, I3_lit, I3_add, I3_mul, I3_lt, I3_le, I3_inj, I3_nn', I3_n1, I3_n2, m2m1, ldI_I, ldJ_I, ldZ_I, stI_I, stJ_I, true_or, or_true, false_or, or_false, true_and, and_true, false_and, and_false, not_true_eq_false, not_false_eq_true, reduceCtorEq, Nat.reduceEqDiff, Nat.lt_irrefl, Nat.not_lt_zero, Nat.le_refl, Nat.reduceLT, Nat.reduceLeDiff, eq_self, zbbI, bbI0, bbI1, decide_eq_false_iff_not, decide_eq_true_eq, Bool.not_eq_false, Bool.not_eq_true, Bool.not_true, Bool.not_false, cond_true, cond_false, t1, t2, a]
theorem C_thhas {h : sm_H} {o p q sz : Nat} (t : isTh h o p q sz) (x : Int32) : F_217 o x h = some (b2 (inR x sz), h) := by
  obtain ⟨t1, t2, t3, t4, t5, t6, t7, t8, t9, t10⟩ := t
  have a := alD_ar t8 (Or.inr t4)
  rw [t5] at a
  rcases I3_cases x with ⟨k, hk, rfl⟩ | hx
  · rw [inR_I hk]
    by_cases c : k < sz
    · simp (disch := omega) only [F_217_18, F_217_17, F_217_0, F_217, ↓reduceIte, if_true, if_false, ite_self, Option.bind_some, Option.map_some, wI_rd, wJ_rd, wI_2, wJ_1, wJ_22, I3_lit, I3_add, I3_mul, I3_lt, I3_le, I3_inj, I3_nn', I3_n1, I3_n2, m2m1, ldI_I, ldJ_I, ldZ_I, stI_I, stJ_I, true_or, or_true, false_or, or_false, true_and, and_true, false_and, and_false, not_true_eq_false, not_false_eq_true, reduceCtorEq, Nat.reduceEqDiff, Nat.lt_irrefl, Nat.not_lt_zero, Nat.le_refl, Nat.reduceLT, Nat.reduceLeDiff, eq_self, zbbI, bbI0, bbI1, decide_eq_false_iff_not, decide_eq_true_eq, Bool.not_eq_false, Bool.not_eq_true, Bool.not_true, Bool.not_false, cond_true, cond_false, t1, t2, a, show ¬ sz ≤ k by omega, c, decide_true]; rfl
    · simp (disch := omega) only [F_217_18, F_217_17, F_217_0, F_217, ↓reduceIte, if_true, if_false, ite_self, Option.bind_some, Option.map_some, wI_rd, wJ_rd, wI_2, wJ_1, wJ_22, I3_lit, I3_add, I3_mul, I3_lt, I3_le, I3_inj, I3_nn', I3_n1, I3_n2, m2m1, ldI_I, ldJ_I, ldZ_I, stI_I, stJ_I, true_or, or_true, false_or, or_false, true_and, and_true, false_and, and_false, not_true_eq_false, not_false_eq_true, reduceCtorEq, Nat.reduceEqDiff, Nat.lt_irrefl, Nat.not_lt_zero, Nat.le_refl, Nat.reduceLT, Nat.reduceLeDiff, eq_self, zbbI, bbI0, bbI1, decide_eq_false_iff_not, decide_eq_true_eq, Bool.not_eq_false, Bool.not_eq_true, Bool.not_true, Bool.not_false, cond_true, cond_false, t1, t2, a, show sz ≤ k by omega, c, decide_false]; rfl
  · have lt0 : x < I3 0 := hx
    rcases inR_c x sz (by omega) with ⟨k, h1, h2, h3⟩ | h3
    · exact absurd h2 (neg_ne_I3 hx (by omega))
    · rw [h3]; simp (disch := omega) only [F_217_18, F_217_17, F_217_0, F_217, ↓reduceIte, if_true, if_false, ite_self, Option.bind_some, Option.map_some, wI_rd, wJ_rd, wI_2, wJ_1, wJ_22, I3_lit, I3_add, I3_mul, I3_lt, I3_le, I3_inj, I3_nn', I3_n1, I3_n2, m2m1, ldI_I, ldJ_I, ldZ_I, stI_I, stJ_I, true_or, or_true, false_or, or_false, true_and, and_true, false_and, and_false, not_true_eq_false, not_false_eq_true, reduceCtorEq, Nat.reduceEqDiff, Nat.lt_irrefl, Nat.not_lt_zero, Nat.le_refl, Nat.reduceLT, Nat.reduceLeDiff, eq_self, zbbI, bbI0, bbI1, decide_eq_false_iff_not, decide_eq_true_eq, Bool.not_eq_false, Bool.not_eq_true, Bool.not_true, Bool.not_false, cond_true, cond_false, lt0]; rfl
theorem C_thnum {h : sm_H} {o p q sz : Nat} (t : isTh h o p q sz) {k : Nat} (hk : k < sz) : F_218 o (I3 k) h = some (h.2.1 p k, h) := by
  obtain ⟨t1, t2, t3, t4, t5, t6, t7, t8, t9, t10⟩ := t
  have a := alD_ar t8 (Or.inr t4)
  rw [t5] at a
  have l := ldDJ_ar t8 t4 (k := k) (by omega) (by omega)
  simp (disch := omega) only [F_218_23, F_218_22, F_218_0, F_218, ↓reduceIte, if_true, if_false, ite_self, Option.bind_some, Option.map_some, wI_rd, wJ_rd, wI_2, wJ_1, wJ_22, I3_lit, I3_add, I3_mul, I3_lt, I3_le, I3_inj, I3_nn', I3_n1, I3_n2, m2m1, ldI_I, ldJ_I, ldZ_I, stI_I, stJ_I, true_or, or_true, false_or, or_false, true_and, and_true, false_and, and_false, not_true_eq_false, not_false_eq_true, reduceCtorEq, Nat.reduceEqDiff, Nat.lt_irrefl, Nat.not_lt_zero, Nat.le_refl, Nat.reduceLT, Nat.reduceLeDiff, eq_self, zbbI, bbI0, bbI1, decide_eq_false_iff_not, decide_eq_true_eq, Bool.not_eq_false, Bool.not_eq_true, Bool.not_true, Bool.not_false, cond_true, cond_false, t1, t2, a, show ¬ sz ≤ k by omega, l]
theorem C_thtag {h : sm_H} {o p q sz : Nat} (t : isTh h o p q sz) {k : Nat} (hk : k < sz) : F_219 o (I3 k) h = some (h.1 q k, h) := by
  obtain ⟨t1, t2, t3, t4, t5, t6, t7, t8, t9, t10⟩ := t
  have a := alD_ar t9 (Or.inl t6)
  rw [t7] at a
  have l := ldD_ar t9 t6 (k := k) (by omega) (by omega)
  simp (disch := omega) only [F_219_23, F_219_22, F_219_0, F_219, ↓reduceIte, if_true, if_false, ite_self, Option.bind_some, Option.map_some, wI_rd, wJ_rd, wI_2, wJ_1, wJ_22, I3_lit, I3_add, I3_mul, I3_lt, I3_le, I3_inj, I3_nn', I3_n1, I3_n2, m2m1, ldI_I, ldJ_I, ldZ_I, stI_I, stJ_I, true_or, or_true, false_or, or_false, true_and, and_true, false_and, and_false, not_true_eq_false, not_false_eq_true, reduceCtorEq, Nat.reduceEqDiff, Nat.lt_irrefl, Nat.not_lt_zero, Nat.le_refl, Nat.reduceLT, Nat.reduceLeDiff, eq_self, zbbI, bbI0, bbI1, decide_eq_false_iff_not, decide_eq_true_eq, Bool.not_eq_false, Bool.not_eq_true, Bool.not_true, Bool.not_false, cond_true, cond_false, t1, t3, a, show ¬ sz ≤ k by omega, l]
theorem C_thchg {h : sm_H} {o p q sz : Nat} (t : isTh h o p q sz) {k : Nat} (hk : k < sz) (n : Int64) (g : Int32) : F_221 o (I3 k) n g h = some (sm_wI (sm_wJ h p k n) q k g) := by
  have hh := C_thhas t (I3 k)
  rw [inR_I (by have := t.2.2.2.2.2.2.2.2.2; omega)] at hh
  obtain ⟨t1, t2, t3, t4, t5, t6, t7, t8, t9, t10⟩ := t
  have s1 : sm_stJ G0 h p (I3 k) n = some (sm_wJ h p k n) := by
    unfold sm_stJ
    rw [t4]
    show (if sm_in (I3 k) (sm_ln G0 h p) then some (sm_wJ h p (I3 k).toNatClampNeg n) else none) = _
    rw [if_pos (sm_in_I3 (by omega) (by omega)), I3_clamp (by omega)]
  have s2 : sm_stI G0 (sm_wJ h p k n) q (I3 k) g = some (sm_wI (sm_wJ h p k n) q k g) := by
    unfold sm_stI
    rw [show sm_is G0 (sm_wJ h p k n) q 100 = true from t6]
    show (if sm_in (I3 k) (sm_ln G0 h q) then some (sm_wI (sm_wJ h p k n) q (I3 k).toNatClampNeg g) else none) = _
    rw [if_pos (sm_in_I3 (by omega) (by omega)), I3_clamp (by omega)]
  have t1' : sm_is G0 (sm_wJ h p k n) o 8 = true := t1
  have t3' : sm_rr G0 (sm_wJ h p k n) o 1 = some q := t3
  simp (disch := omega) only [F_221_23, F_221_0, F_221, ↓reduceIte, if_true, if_false, ite_self, Option.bind_some, Option.map_some, wI_rd, wJ_rd, wI_2, wJ_1, wJ_22, I3_lit, I3_add, I3_mul, I3_lt, I3_le, I3_inj, I3_nn', I3_n1, I3_n2, m2m1, ldI_I, ldJ_I, ldZ_I, stI_I, stJ_I, true_or, or_true, false_or, or_false, true_and, and_true, false_and, and_false, not_true_eq_false, not_false_eq_true, reduceCtorEq, Nat.reduceEqDiff, Nat.lt_irrefl, Nat.not_lt_zero, Nat.le_refl, Nat.reduceLT, Nat.reduceLeDiff, eq_self, zbbI, bbI0, bbI1, decide_eq_false_iff_not, decide_eq_true_eq, Bool.not_eq_false, Bool.not_eq_true, Bool.not_true, Bool.not_false, cond_true, cond_false, t1, t2, hh, hk, decide_true, s1, s2, t1', t3']
