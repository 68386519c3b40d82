theorem I6_toInt {n : Nat} (h : n < 2147483648) : (I6 n).toInt = (n : Int) := Int64.toInt_ofNat_of_lt (by omega)
theorem I6_32 {n : Nat} : Int64.toInt32 (I6 n) = I3 n := by
  unfold I6 I3
  exact Int64.toInt32_ofNat ..
theorem I3_64 {n : Nat} (h : n < 2147483648) : Int32.toInt64 (I3 n) = I6 n := by
  rw [← Int64.toInt_inj, toI64, I3_toInt h, I6_toInt h]
theorem is_live {h : sm_H} {o c : Nat} (h1 : 131 ≤ o) (h2 : o < 131 + h.2.2.2.2.2.1) (h3 : h.2.2.2.1 o = c) : sm_is G0 h o c = true := by
  unfold sm_is sm_live sm_cl
  have e : Nat.blt o G0.1 = false := by
    cases q : Nat.blt o G0.1 with
    | false => rfl
    | true => have := Nat.blt_eq.mp q; have e131 : G0.1 = 131 := rfl; omega
  have e2 : Nat.blt o (G0.1 + h.2.2.2.2.2.1) = true := Nat.blt_eq.mpr h2
  rw [e]
  show ((false || Nat.blt o (G0.1 + h.2.2.2.2.2.1)) && Nat.beq (h.2.2.2.1 o) c) = true
  rw [e2, h3, Nat.beq_refl]; rfl
theorem fr_hi {o k : Nat} (h1 : 131 ≤ o) : G0.2.2.2.1 o k = none := by
  show (P_fr.getD o []).getD k none = none
  rw [List.getD_eq_getElem?_getD (l := P_fr), List.getElem?_eq_none (Nat.le_trans (by decide +kernel) h1)]
  rfl
theorem rr_hi {h : sm_H} {o k : Nat} (h1 : 131 ≤ o) : sm_rr G0 h o k = h.2.2.1 o k := by
  unfold sm_rr; rw [fr_hi h1]
theorem ln_hi {h : sm_H} {o : Nat} (h1 : 131 ≤ o) : sm_ln G0 h o = h.2.2.2.2.1 o := by
  unfold sm_ln
  have e : Nat.blt o G0.1 = false := by
    cases q : Nat.blt o G0.1 with
    | false => rfl
    | true => have := Nat.blt_eq.mp q; have e131 : G0.1 = 131 := rfl; omega
  rw [e]; rfl
theorem szX_le {g : sm_H} (wX : wfX g) {t : Nat} (ht : t < nX g) : szX g t ≤ 100 := by
  have := (wX.2.1 t ht).1.2
  unfold szX
  split <;> omega
theorem thX {h g : sm_H} (wX : wfX g) (c : cXh h g) {t : Nat} (ht : t < nX g) : isTh h (131 + 3 * t) (132 + 3 * t) (133 + 3 * t) (szX g t) := by
  have x1 : nX g ≤ 1000 := wX.1.2
  obtain ⟨c1, -, c2⟩ := c
  obtain ⟨d1, d2, d3, d4, d5, d6, d7, d8, d9⟩ := c2 t ht
  exact ⟨is_live (by omega) (by rw [c1]; omega) d2, (rr_hi (by omega)).trans d3, (rr_hi (by omega)).trans d4, is_live (by omega) (by rw [c1]; omega) d5, (ln_hi (by omega)).trans d7, is_live (by omega) (by rw [c1]; omega) d6, (ln_hi (by omega)).trans d8, by omega, by omega, szX_le wX ht⟩
theorem C_thing {h g : sm_H} (wX : wfX g) (cX : cX h g) (c : cXh h g) {t : Nat} (ht : t < nX g) : F_147 (I6 t) h = some (131 + 3 * t, h) := by
  have x1 : nX g ≤ 1000 := wX.1.2
  have e1 : h.1 21 2 = I3 (nX g) := cX.1.trans wX.1.1
  have l : sm_ldR G0 h 22 (I3 t) = some (some (131 + 3 * t)) := by
    have d1 := (c.2.2 t ht).1
    show (if sm_in (I3 t) 1000 then some (h.2.2.1 22 (I3 t).toNatClampNeg) else none) = _
    rw [if_pos (sm_in_I3 (by omega) (by omega)), I3_clamp (by omega), d1]
  have e0 : (0 : Int64).toInt = 0 := rfl
  show F_147_0 (I6 t) h = _
  unfold F_147_0
  rw [if_neg (by rw [cmp_lt, I6_toInt (by omega), e0]; omega), e1, if_pos (by rw [cmp_lt, I6_toInt (by omega), toI64, I3_toInt (by omega)]; omega), I6_32, l]
  rfl
theorem C_thing0 {h g : sm_H} (wX : wfX g) (cX : cX h g) : F_147 (Int32.toInt64 (-1)) h = some (26, h) := by
  show F_147_0 _ h = _
  unfold F_147_0
  rw [if_pos (by rw [cmp_lt]; decide)]
  rfl
theorem R_toldOf {g : sm_H} (wX : wfX g) {q : Nat} (hq : q < 2147483648) {n : Int64} (ho : okO g q n ∨ q = 0) : F_406 (I3 q) n g = some (if 15 ≤ q ∧ q ≤ 17 then Int32.toInt64 (g.1 97 (tn (Int64.toInt32 n))) else if 20 ≤ q then 0 else n, g) := by
  have x1 : nX g ≤ 1000 := wX.1.2
  have RR := R_isRow (h := g) (a := q) hq
  by_cases c : 15 ≤ q ∧ q ≤ 17
  · rw [decide_eq_true c] at RR
    rw [if_pos c]
    have ho := ho.resolve_right (by omega)
    rcases ho with h1 | ⟨h1, t, h2, h3, h4⟩ | h1 | h1
    · omega
    · subst h3
      rw [I6_32]
      unfold tn
      rw [I3_clamp (by omega)]
      simp (disch := omega) only [F_406_27, F_406_0, F_406, ↓reduceIte, if_true, if_false, ite_self, Option.bind_some, Option.map_some, wI_rd, wJ_rd, wI_2, wJ_1, wJ_22, I3_lit, I3_add, I3_mul, I3_lt, I3_le, I3_inj, I3_nn', I3_n1, I3_n2, m2m1, ldI_I, ldJ_I, ldZ_I, stI_I, stJ_I, true_or, or_true, false_or, or_false, true_and, and_true, false_and, and_false, not_true_eq_false, not_false_eq_true, reduceCtorEq, Nat.reduceEqDiff, Nat.lt_irrefl, Nat.not_lt_zero, Nat.le_refl, Nat.reduceLT, Nat.reduceLeDiff, eq_self, zbbI, bbI0, bbI1, decide_eq_false_iff_not, decide_eq_true_eq, Bool.not_eq_false, Bool.not_eq_true, Bool.not_true, Bool.not_false, cond_true, cond_false, RR, I6_32]
    · omega
    · omega
  · rw [decide_eq_false c] at RR
    rw [if_neg c]
    by_cases d : 20 ≤ q
    · rw [if_pos d]; simp (disch := omega) only [F_406_27, F_406_0, F_406, ↓reduceIte, if_true, if_false, ite_self, Option.bind_some, Option.map_some, wI_rd, wJ_rd, wI_2, wJ_1, wJ_22, I3_lit, I3_add, I3_mul, I3_lt, I3_le, I3_inj, I3_nn', I3_n1, I3_n2, m2m1, ldI_I, ldJ_I, ldZ_I, stI_I, stJ_I, true_or, or_true, false_or, or_false, true_and, and_true, false_and, and_false, not_true_eq_false, not_false_eq_true, reduceCtorEq, Nat.reduceEqDiff, Nat.lt_irrefl, Nat.not_lt_zero, Nat.le_refl, Nat.reduceLT, Nat.reduceLeDiff, eq_self, zbbI, bbI0, bbI1, decide_eq_false_iff_not, decide_eq_true_eq, Bool.not_eq_false, Bool.not_eq_true, Bool.not_true, Bool.not_false, cond_true, cond_false, RR, show ¬ q < 20 by omega]
    · rw [if_neg d]; simp (disch := omega) only [F_406_27, F_406_0, F_406, ↓reduceIte, if_true, if_false, ite_self, Option.bind_some, Option.map_some, wI_rd, wJ_rd, wI_2, wJ_1, wJ_22, I3_lit, I3_add, I3_mul, I3_lt, I3_le, I3_inj, I3_nn', I3_n1, I3_n2, m2m1, ldI_I, ldJ_I, ldZ_I, stI_I, stJ_I, true_or, or_true, false_or, or_false, true_and, and_true, false_and, and_false, not_true_eq_false, not_false_eq_true, reduceCtorEq, Nat.reduceEqDiff, Nat.lt_irrefl, Nat.not_lt_zero, Nat.le_refl, Nat.reduceLT, Nat.reduceLeDiff, eq_self, zbbI, bbI0, bbI1, decide_eq_false_iff_not, decide_eq_true_eq, Bool.not_eq_false, Bool.not_eq_true, Bool.not_true, Bool.not_false, cond_true, cond_false, RR, show q < 20 by omega]
theorem C_numberOf {h g : sm_H} (wK : wfK g) (cK : cK h g) (wX : wfX g) (cX : cX h g) (c : cXh h g) {q : Nat} (hq : q < 20 + nC g) {n : Int64} (ho : okO g q n ∨ q = 0) : F_148 n (I3 q) h = some (if 15 ≤ q ∧ q ≤ 17 then Int32.toInt64 (g.1 97 (tn (Int64.toInt32 n))) else if 20 ≤ q then 0 else n, h) := by
  have h12 := wK.2.1
  have x1 : nX g ≤ 1000 := wX.1.2
  have RR := C_isRow (h := h) (a := q) (by omega)
  have RC := C_isC wK cK (x := q) (by omega)
  by_cases c1 : 15 ≤ q ∧ q ≤ 17
  · rw [decide_eq_true c1] at RR
    rw [if_pos c1]
    have ho := ho.resolve_right (by omega)
    rcases ho with h1 | ⟨h1, t, h2, h3, h4⟩ | h1 | h1
    · omega
    · subst h3
      have th := thX wX c h2
      have e97 : g.1 97 t = I3 (szX g t) := by
        have := (wX.2.1 t h2).1.1
        unfold szX
        rw [h4]
        unfold tn
        rw [I3_clamp (by omega), if_pos (by omega)]
        exact this
      rw [I6_32]
      unfold tn
      rw [I3_clamp (by omega), e97]
      have s := C_thsz th
      have l := th.1
      simp (disch := omega) only [F_148_37, F_148_0, F_148, ↓reduceIte, if_true, if_false, ite_self, Option.bind_some, Option.map_some, wI_rd, wJ_rd, wI_2, wJ_1, wJ_22, I3_lit, I3_add, I3_mul, I3_lt, I3_le, I3_inj, I3_nn', I3_n1, I3_n2, m2m1, ldI_I, ldJ_I, ldZ_I, stI_I, stJ_I, true_or, or_true, false_or, or_false, true_and, and_true, false_and, and_false, not_true_eq_false, not_false_eq_true, reduceCtorEq, Nat.reduceEqDiff, Nat.lt_irrefl, Nat.not_lt_zero, Nat.le_refl, Nat.reduceLT, Nat.reduceLeDiff, eq_self, zbbI, bbI0, bbI1, decide_eq_false_iff_not, decide_eq_true_eq, Bool.not_eq_false, Bool.not_eq_true, Bool.not_true, Bool.not_false, cond_true, cond_false, RR, C_thing wX cX c h2, l, s]
    · omega
    · omega
  · rw [decide_eq_false c1] at RR
    rw [if_neg c1]
    by_cases d : 20 ≤ q
    · rw [decide_eq_true (show 20 ≤ q ∧ q < 20 + nC g by omega)] at RC
      rw [if_pos d]; simp (disch := omega) only [F_148_37, F_148_0, F_148, ↓reduceIte, if_true, if_false, ite_self, Option.bind_some, Option.map_some, wI_rd, wJ_rd, wI_2, wJ_1, wJ_22, I3_lit, I3_add, I3_mul, I3_lt, I3_le, I3_inj, I3_nn', I3_n1, I3_n2, m2m1, ldI_I, ldJ_I, ldZ_I, stI_I, stJ_I, true_or, or_true, false_or, or_false, true_and, and_true, false_and, and_false, not_true_eq_false, not_false_eq_true, reduceCtorEq, Nat.reduceEqDiff, Nat.lt_irrefl, Nat.not_lt_zero, Nat.le_refl, Nat.reduceLT, Nat.reduceLeDiff, eq_self, zbbI, bbI0, bbI1, decide_eq_false_iff_not, decide_eq_true_eq, Bool.not_eq_false, Bool.not_eq_true, Bool.not_true, Bool.not_false, cond_true, cond_false, RR, RC]
    · rw [decide_eq_false (show ¬ (20 ≤ q ∧ q < 20 + nC g) by omega)] at RC
      rw [if_neg d]; simp (disch := omega) only [F_148_37, F_148_0, F_148, ↓reduceIte, if_true, if_false, ite_self, Option.bind_some, Option.map_some, wI_rd, wJ_rd, wI_2, wJ_1, wJ_22, I3_lit, I3_add, I3_mul, I3_lt, I3_le, I3_inj, I3_nn', I3_n1, I3_n2, m2m1, ldI_I, ldJ_I, ldZ_I, stI_I, stJ_I, true_or, or_true, false_or, or_false, true_and, and_true, false_and, and_false, not_true_eq_false, not_false_eq_true, reduceCtorEq, Nat.reduceEqDiff, Nat.lt_irrefl, Nat.not_lt_zero, Nat.le_refl, Nat.reduceLT, Nat.reduceLeDiff, eq_self, zbbI, bbI0, bbI1, decide_eq_false_iff_not, decide_eq_true_eq, Bool.not_eq_false, Bool.not_eq_true, Bool.not_true, Bool.not_false, cond_true, cond_false, RR, RC]
