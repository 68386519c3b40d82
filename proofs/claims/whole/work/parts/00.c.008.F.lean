theorem C_belowN {h g : sm_H} (wK : wfK g) (cK : cK h g) {x y : Nat} (hx : x < 20 + nC g) (hy : y < 20 + nC g) : F_60 (I3 x) (I3 y) h = some (b2 (B g x y), h) := by
  have h12 := wK.2.1
  rw [C_below wK cK]
  unfold BK
  rw [isK_I wK (by omega), isK_I wK (by omega), I3_clamp (by omega), I3_clamp (by omega)]
  simp [hx, hy]
theorem C_isBox {h : sm_H} {a : Nat} (ha : a < 2147483648) : F_58 (I3 a) h = some (b2 (decide (9 ≤ a ∧ a ≤ 14)), h) := by
  simp (disch := omega) only [F_58_17, F_58_16, F_58_0, F_58, ↓reduceIte, if_true, if_false, ite_self, Option.bind_some, Option.map_some, wI_rd, wJ_rd, wI_2, wJ_1, wJ_22, I3_lit, I3_add, I3_mul, I3_lt, I3_le, I3_inj, I3_nn', I3_n1, I3_n2, m2m1, ldI_I, ldJ_I, ldZ_I, stI_I, stJ_I, true_or, or_true, false_or, or_false, true_and, and_true, false_and, and_false, not_true_eq_false, not_false_eq_true, reduceCtorEq, Nat.reduceEqDiff, Nat.lt_irrefl, Nat.not_lt_zero, Nat.le_refl, Nat.reduceLT, Nat.reduceLeDiff, eq_self, zbbI, bbI0, bbI1, decide_eq_false_iff_not, decide_eq_true_eq, Bool.not_eq_false, Bool.not_eq_true, Bool.not_true, Bool.not_false, cond_true, cond_false]
  (repeat' split) <;> first | (refine leaf0 ?_; omega) | (refine leaf1 ?_; omega) | (refine leafb ?_; omega) | (exfalso; omega)
theorem R_isBox {h : sm_H} {a : Nat} (ha : a < 2147483648) : F_292 (I3 a) h = some (b2 (decide (9 ≤ a ∧ a ≤ 14)), h) := by
  simp (disch := omega) only [F_292_17, F_292_16, F_292_0, F_292, ↓reduceIte, if_true, if_false, ite_self, Option.bind_some, Option.map_some, wI_rd, wJ_rd, wI_2, wJ_1, wJ_22, I3_lit, I3_add, I3_mul, I3_lt, I3_le, I3_inj, I3_nn', I3_n1, I3_n2, m2m1, ldI_I, ldJ_I, ldZ_I, stI_I, stJ_I, true_or, or_true, false_or, or_false, true_and, and_true, false_and, and_false, not_true_eq_false, not_false_eq_true, reduceCtorEq, Nat.reduceEqDiff, Nat.lt_irrefl, Nat.not_lt_zero, Nat.le_refl, Nat.reduceLT, Nat.reduceLeDiff, eq_self, zbbI, bbI0, bbI1, decide_eq_false_iff_not, decide_eq_true_eq, Bool.not_eq_false, Bool.not_eq_true, Bool.not_true, Bool.not_false, cond_true, cond_false]
  (repeat' split) <;> first | (refine leaf0 ?_; omega) | (refine leaf1 ?_; omega) | (refine leafb ?_; omega) | (exfalso; omega)
theorem C_isRow {h : sm_H} {a : Nat} (ha : a < 2147483648) : F_59 (I3 a) h = some (b2 (decide (15 ≤ a ∧ a ≤ 17)), h) := by
  simp (disch := omega) only [F_59_17, F_59_16, F_59_0, F_59, ↓reduceIte, if_true, if_false, ite_self, Option.bind_some, Option.map_some, wI_rd, wJ_rd, wI_2, wJ_1, wJ_22, I3_lit, I3_add, I3_mul, I3_lt, I3_le, I3_inj, I3_nn', I3_n1, I3_n2, m2m1, ldI_I, ldJ_I, ldZ_I, stI_I, stJ_I, true_or, or_true, false_or, or_false, true_and, and_true, false_and, and_false, not_true_eq_false, not_false_eq_true, reduceCtorEq, Nat.reduceEqDiff, Nat.lt_irrefl, Nat.not_lt_zero, Nat.le_refl, Nat.reduceLT, Nat.reduceLeDiff, eq_self, zbbI, bbI0, bbI1, decide_eq_false_iff_not, decide_eq_true_eq, Bool.not_eq_false, Bool.not_eq_true, Bool.not_true, Bool.not_false, cond_true, cond_false]
  (repeat' split) <;> first | (refine leaf0 ?_; omega) | (refine leaf1 ?_; omega) | (refine leafb ?_; omega) | (exfalso; omega)
theorem R_isRow {h : sm_H} {a : Nat} (ha : a < 2147483648) : F_293 (I3 a) h = some (b2 (decide (15 ≤ a ∧ a ≤ 17)), h) := by
  simp (disch := omega) only [F_293_17, F_293_16, F_293_0, F_293, ↓reduceIte, if_true, if_false, ite_self, Option.bind_some, Option.map_some, wI_rd, wJ_rd, wI_2, wJ_1, wJ_22, I3_lit, I3_add, I3_mul, I3_lt, I3_le, I3_inj, I3_nn', I3_n1, I3_n2, m2m1, ldI_I, ldJ_I, ldZ_I, stI_I, stJ_I, true_or, or_true, false_or, or_false, true_and, and_true, false_and, and_false, not_true_eq_false, not_false_eq_true, reduceCtorEq, Nat.reduceEqDiff, Nat.lt_irrefl, Nat.not_lt_zero, Nat.le_refl, Nat.reduceLT, Nat.reduceLeDiff, eq_self, zbbI, bbI0, bbI1, decide_eq_false_iff_not, decide_eq_true_eq, Bool.not_eq_false, Bool.not_eq_true, Bool.not_true, Bool.not_false, cond_true, cond_false]
  (repeat' split) <;> first | (refine leaf0 ?_; omega) | (refine leaf1 ?_; omega) | (refine leafb ?_; omega) | (exfalso; omega)
theorem C_plain {h : sm_H} {a : Nat} (ha : a < 2147483648) : F_56 (I3 a) h = some (b2 (decide (1 ≤ a ∧ a ≤ 6)), h) := by
  simp (disch := omega) only [F_56_16, F_56_15, F_56_0, F_56, ↓reduceIte, if_true, if_false, ite_self, Option.bind_some, Option.map_some, wI_rd, wJ_rd, wI_2, wJ_1, wJ_22, I3_lit, I3_add, I3_mul, I3_lt, I3_le, I3_inj, I3_nn', I3_n1, I3_n2, m2m1, ldI_I, ldJ_I, ldZ_I, stI_I, stJ_I, true_or, or_true, false_or, or_false, true_and, and_true, false_and, and_false, not_true_eq_false, not_false_eq_true, reduceCtorEq, Nat.reduceEqDiff, Nat.lt_irrefl, Nat.not_lt_zero, Nat.le_refl, Nat.reduceLT, Nat.reduceLeDiff, eq_self, zbbI, bbI0, bbI1, decide_eq_false_iff_not, decide_eq_true_eq, Bool.not_eq_false, Bool.not_eq_true, Bool.not_true, Bool.not_false, cond_true, cond_false]
  (repeat' split) <;> first | (refine leaf0 ?_; omega) | (refine leaf1 ?_; omega) | (refine leafb ?_; omega) | (exfalso; omega)
theorem sb2 {c d : Bool} {g : sm_H} (h : c = d) : (some (b2 c, g) : Option (Int32 × sm_H)) = some (b2 d, g) := by rw [h]
theorem R_mayBe {g : sm_H} (wK : wfK g) {a b : Nat} (ha : a < 20 + nC g) (hb : b < 20 + nC g) (f r : Bool) : F_297 (I3 a) (I3 b) (b2 f) (b2 r) g = some (b2 (mayB g a b f r), g) := by
  have h12 := wK.2.1
  by_cases e : a = b
  · have m : mayB g a b f r = true := by simp only [mayB, e, if_true]
    rw [m]; simp (disch := omega) only [F_297_148, F_297_147, F_297_143, F_297_120, F_297_115, F_297_50, F_297_49, F_297_44, F_297_15, F_297_0, F_297, ↓reduceIte, if_true, if_false, ite_self, Option.bind_some, Option.map_some, wI_rd, wJ_rd, wI_2, wJ_1, wJ_22, I3_lit, I3_add, I3_mul, I3_lt, I3_le, I3_inj, I3_nn', I3_n1, I3_n2, m2m1, ldI_I, ldJ_I, ldZ_I, stI_I, stJ_I, true_or, or_true, false_or, or_false, true_and, and_true, false_and, and_false, not_true_eq_false, not_false_eq_true, reduceCtorEq, Nat.reduceEqDiff, Nat.lt_irrefl, Nat.not_lt_zero, Nat.le_refl, Nat.reduceLT, Nat.reduceLeDiff, eq_self, zbbI, bbI0, bbI1, decide_eq_false_iff_not, decide_eq_true_eq, Bool.not_eq_false, Bool.not_eq_true, Bool.not_true, Bool.not_false, cond_true, cond_false, e]; rfl
  by_cases a0 : a = 0
  · subst a0
    have m : mayB g 0 b f r = r := by simp only [mayB, e, if_true, if_false]
    rw [m]; simp (disch := omega) only [F_297_148, F_297_147, F_297_143, F_297_120, F_297_115, F_297_50, F_297_49, F_297_44, F_297_15, F_297_0, F_297, ↓reduceIte, if_true, if_false, ite_self, Option.bind_some, Option.map_some, wI_rd, wJ_rd, wI_2, wJ_1, wJ_22, I3_lit, I3_add, I3_mul, I3_lt, I3_le, I3_inj, I3_nn', I3_n1, I3_n2, m2m1, ldI_I, ldJ_I, ldZ_I, stI_I, stJ_I, true_or, or_true, false_or, or_false, true_and, and_true, false_and, and_false, not_true_eq_false, not_false_eq_true, reduceCtorEq, Nat.reduceEqDiff, Nat.lt_irrefl, Nat.not_lt_zero, Nat.le_refl, Nat.reduceLT, Nat.reduceLeDiff, eq_self, zbbI, bbI0, bbI1, decide_eq_false_iff_not, decide_eq_true_eq, Bool.not_eq_false, Bool.not_eq_true, Bool.not_true, Bool.not_false, cond_true, cond_false, e]; cases r <;> rfl
  by_cases b0 : b = 0
  · subst b0
    have m : mayB g a 0 f r = r := by simp only [mayB, e, a0, if_true, if_false]
    rw [m]; simp (disch := omega) only [F_297_148, F_297_147, F_297_143, F_297_120, F_297_115, F_297_50, F_297_49, F_297_44, F_297_15, F_297_0, F_297, ↓reduceIte, if_true, if_false, ite_self, Option.bind_some, Option.map_some, wI_rd, wJ_rd, wI_2, wJ_1, wJ_22, I3_lit, I3_add, I3_mul, I3_lt, I3_le, I3_inj, I3_nn', I3_n1, I3_n2, m2m1, ldI_I, ldJ_I, ldZ_I, stI_I, stJ_I, true_or, or_true, false_or, or_false, true_and, and_true, false_and, and_false, not_true_eq_false, not_false_eq_true, reduceCtorEq, Nat.reduceEqDiff, Nat.lt_irrefl, Nat.not_lt_zero, Nat.le_refl, Nat.reduceLT, Nat.reduceLeDiff, eq_self, zbbI, bbI0, bbI1, decide_eq_false_iff_not, decide_eq_true_eq, Bool.not_eq_false, Bool.not_eq_true, Bool.not_true, Bool.not_false, cond_true, cond_false, e, a0]; cases r <;> rfl
  by_cases a6 : a ≤ 6
  · by_cases b6 : b ≤ 6
    · have m : mayB g a b f r = (f || widB a b) := by simp only [mayB, e, a0, b0, a6, b6, if_true, if_false]
      have W := R_wid (g := g) (a := a) (b := b) (by omega) (by omega)
      rw [m]
      have fa : 1 ≤ a := by omega
      have fb : 1 ≤ b := by omega
      cases f with
      | true => simp (disch := omega) only [F_297_148, F_297_147, F_297_143, F_297_120, F_297_115, F_297_50, F_297_49, F_297_44, F_297_15, F_297_0, F_297, ↓reduceIte, if_true, if_false, ite_self, Option.bind_some, Option.map_some, wI_rd, wJ_rd, wI_2, wJ_1, wJ_22, I3_lit, I3_add, I3_mul, I3_lt, I3_le, I3_inj, I3_nn', I3_n1, I3_n2, m2m1, ldI_I, ldJ_I, ldZ_I, stI_I, stJ_I, true_or, or_true, false_or, or_false, true_and, and_true, false_and, and_false, not_true_eq_false, not_false_eq_true, reduceCtorEq, Nat.reduceEqDiff, Nat.lt_irrefl, Nat.not_lt_zero, Nat.le_refl, Nat.reduceLT, Nat.reduceLeDiff, eq_self, zbbI, bbI0, bbI1, decide_eq_false_iff_not, decide_eq_true_eq, Bool.not_eq_false, Bool.not_eq_true, Bool.not_true, Bool.not_false, cond_true, cond_false, e, a0, b0, R_plain, fa, fb, a6, b6, decide_true, b2_t]; rfl
      | false =>
        generalize widB a b = ww at W ⊢
        cases ww <;> simp (disch := omega) only [F_297_148, F_297_147, F_297_143, F_297_120, F_297_115, F_297_50, F_297_49, F_297_44, F_297_15, F_297_0, F_297, ↓reduceIte, if_true, if_false, ite_self, Option.bind_some, Option.map_some, wI_rd, wJ_rd, wI_2, wJ_1, wJ_22, I3_lit, I3_add, I3_mul, I3_lt, I3_le, I3_inj, I3_nn', I3_n1, I3_n2, m2m1, ldI_I, ldJ_I, ldZ_I, stI_I, stJ_I, true_or, or_true, false_or, or_false, true_and, and_true, false_and, and_false, not_true_eq_false, not_false_eq_true, reduceCtorEq, Nat.reduceEqDiff, Nat.lt_irrefl, Nat.not_lt_zero, Nat.le_refl, Nat.reduceLT, Nat.reduceLeDiff, eq_self, zbbI, bbI0, bbI1, decide_eq_false_iff_not, decide_eq_true_eq, Bool.not_eq_false, Bool.not_eq_true, Bool.not_true, Bool.not_false, cond_true, cond_false, e, a0, b0, R_plain, W, fa, fb, a6, b6, decide_true, decide_false, b2_f, Bool.false_or, Bool.or_false, b2_t] <;> rfl
    · have m : mayB g a b f r = B g (a + 8) b := by simp only [mayB, e, a0, b0, a6, b6, if_true, if_false]
      rw [m]
      have RB := R_below wK (x := a + 8) (o := b) (by omega) (by omega)
      have fa : 1 ≤ a := by omega
      generalize B g (a + 8) b = bb at RB ⊢
      have h1 : F_297_50 (I3 a) (I3 b) (b2 f) g = some (b2 bb, g) := by
        have RP := R_plain (g := g) (a := a) (by omega)
        rw [decide_eq_true (show 1 ≤ a ∧ a ≤ 6 by omega)] at RP
        unfold F_297_50
        rw [RP]
        show (F_295 (I3 a + 8) (I3 b) g).bind _ = _
        rw [I3_lit, I3_add, RB]
        show (if b2 bb = 0 ∨ b2 bb = 1 then some (b2 bb, g) else none) = _
        rw [if_pos (b2_ok bb)]
      show F_297_0 (I3 a) (I3 b) (b2 f) (b2 r) g = _
      simp (disch := omega) only [↓reduceIte, if_true, if_false, ite_self, Option.bind_some, Option.map_some, wI_rd, wJ_rd, wI_2, wJ_1, wJ_22, I3_lit, I3_add, I3_mul, I3_lt, I3_le, I3_inj, I3_nn', I3_n1, I3_n2, m2m1, ldI_I, ldJ_I, ldZ_I, stI_I, stJ_I, true_or, or_true, false_or, or_false, true_and, and_true, false_and, and_false, not_true_eq_false, not_false_eq_true, reduceCtorEq, Nat.reduceEqDiff, Nat.lt_irrefl, Nat.not_lt_zero, Nat.le_refl, Nat.reduceLT, Nat.reduceLeDiff, eq_self, zbbI, bbI0, bbI1, decide_eq_false_iff_not, decide_eq_true_eq, Bool.not_eq_false, Bool.not_eq_true, Bool.not_true, Bool.not_false, cond_true, cond_false, F_297_0, e, a0, b0, R_plain, fa, a6, b6, decide_true, decide_false, h1]
  · by_cases b7 : 7 ≤ b
    · have m : mayB g a b f r = true := by simp only [mayB, e, a0, b0, a6, b7, if_true, if_false]
      rw [m]
      simp (disch := omega) only [F_297_148, F_297_147, F_297_143, F_297_120, F_297_115, F_297_50, F_297_49, F_297_44, F_297_15, F_297_0, F_297, ↓reduceIte, if_true, if_false, ite_self, Option.bind_some, Option.map_some, wI_rd, wJ_rd, wI_2, wJ_1, wJ_22, I3_lit, I3_add, I3_mul, I3_lt, I3_le, I3_inj, I3_nn', I3_n1, I3_n2, m2m1, ldI_I, ldJ_I, ldZ_I, stI_I, stJ_I, true_or, or_true, false_or, or_false, true_and, and_true, false_and, and_false, not_true_eq_false, not_false_eq_true, reduceCtorEq, Nat.reduceEqDiff, Nat.lt_irrefl, Nat.not_lt_zero, Nat.le_refl, Nat.reduceLT, Nat.reduceLeDiff, eq_self, zbbI, bbI0, bbI1, decide_eq_false_iff_not, decide_eq_true_eq, Bool.not_eq_false, Bool.not_eq_true, Bool.not_true, Bool.not_false, cond_true, cond_false, e, a0, b0, R_plain, R_ref, a6, b7, decide_true, decide_false]; rfl
    have fb : 1 ≤ b := by omega
    have b6 : b ≤ 6 := by omega
    by_cases a7 : a = 7
    · subst a7
      have m : mayB g 7 b f r = true := by simp only [mayB, e, a0, b0, a6, b7, if_true, if_false]
      rw [m]
      simp (disch := omega) only [F_297_148, F_297_147, F_297_143, F_297_120, F_297_115, F_297_50, F_297_49, F_297_44, F_297_15, F_297_0, F_297, ↓reduceIte, if_true, if_false, ite_self, Option.bind_some, Option.map_some, wI_rd, wJ_rd, wI_2, wJ_1, wJ_22, I3_lit, I3_add, I3_mul, I3_lt, I3_le, I3_inj, I3_nn', I3_n1, I3_n2, m2m1, ldI_I, ldJ_I, ldZ_I, stI_I, stJ_I, true_or, or_true, false_or, or_false, true_and, and_true, false_and, and_false, not_true_eq_false, not_false_eq_true, reduceCtorEq, Nat.reduceEqDiff, Nat.lt_irrefl, Nat.not_lt_zero, Nat.le_refl, Nat.reduceLT, Nat.reduceLeDiff, eq_self, zbbI, bbI0, bbI1, decide_eq_false_iff_not, decide_eq_true_eq, Bool.not_eq_false, Bool.not_eq_true, Bool.not_true, Bool.not_false, cond_true, cond_false, e, a0, b0, R_plain, R_ref, b7, decide_true, decide_false]; rfl
    by_cases a8 : a = 8
    · subst a8
      have m : mayB g 8 b f r = (f || decide (b = 2 ∨ b = 3 ∨ b = 5 ∨ b = 6)) := by simp only [mayB, e, a0, b0, a6, b7, a7, if_true, if_false]
      rw [m]
      cases f with
      | true => simp (disch := omega) only [F_297_148, F_297_147, F_297_143, F_297_120, F_297_115, F_297_50, F_297_49, F_297_44, F_297_15, F_297_0, F_297, ↓reduceIte, if_true, if_false, ite_self, Option.bind_some, Option.map_some, wI_rd, wJ_rd, wI_2, wJ_1, wJ_22, I3_lit, I3_add, I3_mul, I3_lt, I3_le, I3_inj, I3_nn', I3_n1, I3_n2, m2m1, ldI_I, ldJ_I, ldZ_I, stI_I, stJ_I, true_or, or_true, false_or, or_false, true_and, and_true, false_and, and_false, not_true_eq_false, not_false_eq_true, reduceCtorEq, Nat.reduceEqDiff, Nat.lt_irrefl, Nat.not_lt_zero, Nat.le_refl, Nat.reduceLT, Nat.reduceLeDiff, eq_self, zbbI, bbI0, bbI1, decide_eq_false_iff_not, decide_eq_true_eq, Bool.not_eq_false, Bool.not_eq_true, Bool.not_true, Bool.not_false, cond_true, cond_false, e, a0, b0, R_plain, R_ref, b7, decide_true, decide_false, b2_t]; rfl
      | false =>
        rw [Bool.false_or]
        generalize hX : decide (b = 2 ∨ b = 3 ∨ b = 5 ∨ b = 6) = X
        simp (disch := omega) only [F_297_148, F_297_147, F_297_143, F_297_120, F_297_115, F_297_50, F_297_49, F_297_44, F_297_15, F_297_0, F_297, ↓reduceIte, if_true, if_false, ite_self, Option.bind_some, Option.map_some, wI_rd, wJ_rd, wI_2, wJ_1, wJ_22, I3_lit, I3_add, I3_mul, I3_lt, I3_le, I3_inj, I3_nn', I3_n1, I3_n2, m2m1, ldI_I, ldJ_I, ldZ_I, stI_I, stJ_I, true_or, or_true, false_or, or_false, true_and, and_true, false_and, and_false, not_true_eq_false, not_false_eq_true, reduceCtorEq, Nat.reduceEqDiff, Nat.lt_irrefl, Nat.not_lt_zero, Nat.le_refl, Nat.reduceLT, Nat.reduceLeDiff, eq_self, zbbI, bbI0, bbI1, decide_eq_false_iff_not, decide_eq_true_eq, Bool.not_eq_false, Bool.not_eq_true, Bool.not_true, Bool.not_false, cond_true, cond_false, e, a0, b0, R_plain, R_ref, b7, decide_true, decide_false, b2_f]
        subst hX
        (repeat' split) <;> first | (refine leaf0 ?_; omega) | (refine leaf1 ?_; omega) | (refine leafb ?_; omega) | (exfalso; omega)
    by_cases a14 : 9 ≤ a ∧ a ≤ 14
    · have m : mayB g a b f r = (f || (decide (a - 8 = b) || widB (a - 8) b)) := by simp only [mayB, e, a0, b0, a6, b7, a7, a8, a14, and_self, if_true, if_false]
      have W := R_wid (g := g) (a := a - 8) (b := b) (by omega) (by omega)
      rw [m]
      cases f with
      | true => simp (disch := omega) only [F_297_148, F_297_147, F_297_143, F_297_120, F_297_115, F_297_50, F_297_49, F_297_44, F_297_15, F_297_0, F_297, ↓reduceIte, if_true, if_false, ite_self, Option.bind_some, Option.map_some, wI_rd, wJ_rd, wI_2, wJ_1, wJ_22, I3_lit, I3_add, I3_mul, I3_lt, I3_le, I3_inj, I3_nn', I3_n1, I3_n2, m2m1, ldI_I, ldJ_I, ldZ_I, stI_I, stJ_I, true_or, or_true, false_or, or_false, true_and, and_true, false_and, and_false, not_true_eq_false, not_false_eq_true, reduceCtorEq, Nat.reduceEqDiff, Nat.lt_irrefl, Nat.not_lt_zero, Nat.le_refl, Nat.reduceLT, Nat.reduceLeDiff, eq_self, zbbI, bbI0, bbI1, decide_eq_false_iff_not, decide_eq_true_eq, Bool.not_eq_false, Bool.not_eq_true, Bool.not_true, Bool.not_false, cond_true, cond_false, e, a0, b0, R_plain, R_ref, R_isBox, a6, a7, a8, a14, b7, decide_true, decide_false, b2_t]; rfl
      | false =>
        rw [Bool.false_or]
        generalize (decide (a - 8 = b) || widB (a - 8) b) = ww at W ⊢
        cases ww <;> simp (disch := omega) only [F_297_148, F_297_147, F_297_143, F_297_120, F_297_115, F_297_50, F_297_49, F_297_44, F_297_15, F_297_0, F_297, ↓reduceIte, if_true, if_false, ite_self, Option.bind_some, Option.map_some, wI_rd, wJ_rd, wI_2, wJ_1, wJ_22, I3_lit, I3_add, I3_mul, I3_lt, I3_le, I3_inj, I3_nn', I3_n1, I3_n2, m2m1, ldI_I, ldJ_I, ldZ_I, stI_I, stJ_I, true_or, or_true, false_or, or_false, true_and, and_true, false_and, and_false, not_true_eq_false, not_false_eq_true, reduceCtorEq, Nat.reduceEqDiff, Nat.lt_irrefl, Nat.not_lt_zero, Nat.le_refl, Nat.reduceLT, Nat.reduceLeDiff, eq_self, zbbI, bbI0, bbI1, decide_eq_false_iff_not, decide_eq_true_eq, Bool.not_eq_false, Bool.not_eq_true, Bool.not_true, Bool.not_false, cond_true, cond_false, e, a0, b0, R_plain, R_ref, R_isBox, W, a6, a7, a8, a14, b7, decide_true, decide_false, b2_f, b2_t, I3_sub] <;> rfl
    · have m : mayB g a b f r = false := by simp only [mayB, e, a0, b0, a6, b7, a7, a8, a14, if_true, if_false]
      rw [m]
      simp (disch := omega) only [F_297_148, F_297_147, F_297_143, F_297_120, F_297_115, F_297_50, F_297_49, F_297_44, F_297_15, F_297_0, F_297, ↓reduceIte, if_true, if_false, ite_self, Option.bind_some, Option.map_some, wI_rd, wJ_rd, wI_2, wJ_1, wJ_22, I3_lit, I3_add, I3_mul, I3_lt, I3_le, I3_inj, I3_nn', I3_n1, I3_n2, m2m1, ldI_I, ldJ_I, ldZ_I, stI_I, stJ_I, true_or, or_true, false_or, or_false, true_and, and_true, false_and, and_false, not_true_eq_false, not_false_eq_true, reduceCtorEq, Nat.reduceEqDiff, Nat.lt_irrefl, Nat.not_lt_zero, Nat.le_refl, Nat.reduceLT, Nat.reduceLeDiff, eq_self, zbbI, bbI0, bbI1, decide_eq_false_iff_not, decide_eq_true_eq, Bool.not_eq_false, Bool.not_eq_true, Bool.not_true, Bool.not_false, cond_true, cond_false, e, a0, b0, R_plain, R_ref, R_isBox, a6, a7, a8, a14, b7, decide_true, decide_false]; rfl
theorem R_kind {g : sm_H} (wK : wfK g) (x : Int32) : F_289 x g = some (b2 (inR x (20 + nC g)), g) := by
  have h12 := wK.2.1
  have e := wK.1
  simp only [F_289_20, F_289_19, F_289_0, F_289, true_or, or_true, if_true]
  rw [rng1 (n := 20 + nC g) (by rw [e, I3_lit, I3_add]) (by omega), cb2]
theorem R_isC {g : sm_H} (wK : wfK g) {x : Nat} (hx : x < 2147483648) : F_387 (I3 x) g = some (b2 (decide (20 ≤ x ∧ x < 20 + nC g)), g) := by
  have h12 := wK.2.1
  have RK := R_kind wK (I3 x)
  rw [inR_I hx] at RK
  by_cases c : 20 ≤ x
  · by_cases d : x < 20 + nC g
    · simp (disch := omega) only [F_387_19, F_387_18, F_387_0, F_387, ↓reduceIte, if_true, if_false, ite_self, Option.bind_some, Option.map_some, wI_rd, wJ_rd, wI_2, wJ_1, wJ_22, I3_lit, I3_add, I3_mul, I3_lt, I3_le, I3_inj, I3_nn', I3_n1, I3_n2, m2m1, ldI_I, ldJ_I, ldZ_I, stI_I, stJ_I, true_or, or_true, false_or, or_false, true_and, and_true, false_and, and_false, not_true_eq_false, not_false_eq_true, reduceCtorEq, Nat.reduceEqDiff, Nat.lt_irrefl, Nat.not_lt_zero, Nat.le_refl, Nat.reduceLT, Nat.reduceLeDiff, eq_self, zbbI, bbI0, bbI1, decide_eq_false_iff_not, decide_eq_true_eq, Bool.not_eq_false, Bool.not_eq_true, Bool.not_true, Bool.not_false, cond_true, cond_false, RK, show ¬ x < 20 by omega, c, d, decide_true]; rfl
    · simp (disch := omega) only [F_387_19, F_387_18, F_387_0, F_387, ↓reduceIte, if_true, if_false, ite_self, Option.bind_some, Option.map_some, wI_rd, wJ_rd, wI_2, wJ_1, wJ_22, I3_lit, I3_add, I3_mul, I3_lt, I3_le, I3_inj, I3_nn', I3_n1, I3_n2, m2m1, ldI_I, ldJ_I, ldZ_I, stI_I, stJ_I, true_or, or_true, false_or, or_false, true_and, and_true, false_and, and_false, not_true_eq_false, not_false_eq_true, reduceCtorEq, Nat.reduceEqDiff, Nat.lt_irrefl, Nat.not_lt_zero, Nat.le_refl, Nat.reduceLT, Nat.reduceLeDiff, eq_self, zbbI, bbI0, bbI1, decide_eq_false_iff_not, decide_eq_true_eq, Bool.not_eq_false, Bool.not_eq_true, Bool.not_true, Bool.not_false, cond_true, cond_false, RK, show ¬ x < 20 by omega, c, d, decide_true, decide_false]; rfl
  · simp (disch := omega) only [F_387_19, F_387_18, F_387_0, F_387, ↓reduceIte, if_true, if_false, ite_self, Option.bind_some, Option.map_some, wI_rd, wJ_rd, wI_2, wJ_1, wJ_22, I3_lit, I3_add, I3_mul, I3_lt, I3_le, I3_inj, I3_nn', I3_n1, I3_n2, m2m1, ldI_I, ldJ_I, ldZ_I, stI_I, stJ_I, true_or, or_true, false_or, or_false, true_and, and_true, false_and, and_false, not_true_eq_false, not_false_eq_true, reduceCtorEq, Nat.reduceEqDiff, Nat.lt_irrefl, Nat.not_lt_zero, Nat.le_refl, Nat.reduceLT, Nat.reduceLeDiff, eq_self, zbbI, bbI0, bbI1, decide_eq_false_iff_not, decide_eq_true_eq, Bool.not_eq_false, Bool.not_eq_true, Bool.not_true, Bool.not_false, cond_true, cond_false, show x < 20 by omega, c, decide_false]; rfl
theorem R_isC_n {g : sm_H} {x : Int32} (hx : x < 0) : F_387 x g = some (0, g) := by
  have l : x < I3 20 := neg_lt_I3 hx (by decide)
  simp (disch := omega) only [F_387_19, F_387_18, F_387_0, F_387, ↓reduceIte, if_true, if_false, ite_self, Option.bind_some, Option.map_some, wI_rd, wJ_rd, wI_2, wJ_1, wJ_22, I3_lit, I3_add, I3_mul, I3_lt, I3_le, I3_inj, I3_nn', I3_n1, I3_n2, m2m1, ldI_I, ldJ_I, ldZ_I, stI_I, stJ_I, true_or, or_true, false_or, or_false, true_and, and_true, false_and, and_false, not_true_eq_false, not_false_eq_true, reduceCtorEq, Nat.reduceEqDiff, Nat.lt_irrefl, Nat.not_lt_zero, Nat.le_refl, Nat.reduceLT, Nat.reduceLeDiff, eq_self, zbbI, bbI0, bbI1, decide_eq_false_iff_not, decide_eq_true_eq, Bool.not_eq_false, Bool.not_eq_true, Bool.not_true, Bool.not_false, cond_true, cond_false, l]
theorem C_has {h g : sm_H} (wK : wfK g) (cK : cK h g) (x : Int32) : F_53 x h = some (b2 (inR x (20 + nC g)), h) := by
  have h12 := wK.2.1
  simp only [F_53_17, F_53_16, F_53_0, F_53, true_or, or_true, if_true]
  rw [rng1 (n := 20 + nC g) cK.1 (by omega), cb2]
theorem C_isC {h g : sm_H} (wK : wfK g) (cK : cK h g) {x : Nat} (hx : x < 2147483648) : F_55 (I3 x) h = some (b2 (decide (20 ≤ x ∧ x < 20 + nC g)), h) := by
  have h12 := wK.2.1
  by_cases c : 20 ≤ x
  · by_cases d : x < 20 + nC g
    · simp (disch := omega) only [F_55_19, F_55_18, F_55_0, F_55, ↓reduceIte, if_true, if_false, ite_self, Option.bind_some, Option.map_some, wI_rd, wJ_rd, wI_2, wJ_1, wJ_22, I3_lit, I3_add, I3_mul, I3_lt, I3_le, I3_inj, I3_nn', I3_n1, I3_n2, m2m1, ldI_I, ldJ_I, ldZ_I, stI_I, stJ_I, true_or, or_true, false_or, or_false, true_and, and_true, false_and, and_false, not_true_eq_false, not_false_eq_true, reduceCtorEq, Nat.reduceEqDiff, Nat.lt_irrefl, Nat.not_lt_zero, Nat.le_refl, Nat.reduceLT, Nat.reduceLeDiff, eq_self, zbbI, bbI0, bbI1, decide_eq_false_iff_not, decide_eq_true_eq, Bool.not_eq_false, Bool.not_eq_true, Bool.not_true, Bool.not_false, cond_true, cond_false, cK.1, show ¬ x < 20 by omega, c, d, decide_true, show ¬ 20 + nC g ≤ x by omega]; rfl
    · simp (disch := omega) only [F_55_19, F_55_18, F_55_0, F_55, ↓reduceIte, if_true, if_false, ite_self, Option.bind_some, Option.map_some, wI_rd, wJ_rd, wI_2, wJ_1, wJ_22, I3_lit, I3_add, I3_mul, I3_lt, I3_le, I3_inj, I3_nn', I3_n1, I3_n2, m2m1, ldI_I, ldJ_I, ldZ_I, stI_I, stJ_I, true_or, or_true, false_or, or_false, true_and, and_true, false_and, and_false, not_true_eq_false, not_false_eq_true, reduceCtorEq, Nat.reduceEqDiff, Nat.lt_irrefl, Nat.not_lt_zero, Nat.le_refl, Nat.reduceLT, Nat.reduceLeDiff, eq_self, zbbI, bbI0, bbI1, decide_eq_false_iff_not, decide_eq_true_eq, Bool.not_eq_false, Bool.not_eq_true, Bool.not_true, Bool.not_false, cond_true, cond_false, cK.1, show ¬ x < 20 by omega, c, d, decide_true, decide_false, show 20 + nC g ≤ x by omega]; rfl
  · simp (disch := omega) only [F_55_19, F_55_18, F_55_0, F_55, ↓reduceIte, if_true, if_false, ite_self, Option.bind_some, Option.map_some, wI_rd, wJ_rd, wI_2, wJ_1, wJ_22, I3_lit, I3_add, I3_mul, I3_lt, I3_le, I3_inj, I3_nn', I3_n1, I3_n2, m2m1, ldI_I, ldJ_I, ldZ_I, stI_I, stJ_I, true_or, or_true, false_or, or_false, true_and, and_true, false_and, and_false, not_true_eq_false, not_false_eq_true, reduceCtorEq, Nat.reduceEqDiff, Nat.lt_irrefl, Nat.not_lt_zero, Nat.le_refl, Nat.reduceLT, Nat.reduceLeDiff, eq_self, zbbI, bbI0, bbI1, decide_eq_false_iff_not, decide_eq_true_eq, Bool.not_eq_false, Bool.not_eq_true, Bool.not_true, Bool.not_false, cond_true, cond_false, show x < 20 by omega, c, decide_false]; rfl
theorem C_isC_n {h : sm_H} {x : Int32} (hx : x < 0) : F_55 x h = some (0, h) := by
  have l : x < I3 20 := neg_lt_I3 hx (by decide)
  simp (disch := omega) only [F_55_19, F_55_18, F_55_0, F_55, ↓reduceIte, if_true, if_false, ite_self, Option.bind_some, Option.map_some, wI_rd, wJ_rd, wI_2, wJ_1, wJ_22, I3_lit, I3_add, I3_mul, I3_lt, I3_le, I3_inj, I3_nn', I3_n1, I3_n2, m2m1, ldI_I, ldJ_I, ldZ_I, stI_I, stJ_I, true_or, or_true, false_or, or_false, true_and, and_true, false_and, and_false, not_true_eq_false, not_false_eq_true, reduceCtorEq, Nat.reduceEqDiff, Nat.lt_irrefl, Nat.not_lt_zero, Nat.le_refl, Nat.reduceLT, Nat.reduceLeDiff, eq_self, zbbI, bbI0, bbI1, decide_eq_false_iff_not, decide_eq_true_eq, Bool.not_eq_false, Bool.not_eq_true, Bool.not_true, Bool.not_false, cond_true, cond_false, l]
