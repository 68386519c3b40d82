theorem C_allows {h g : sm_H} (wK : wfK g) (cK : cK h g) {a b : Nat} (a1 : 0 < a) (ha : a < 20 + nC g) (b1 : 0 < b) (hb : b < 20 + nC g) (f : Bool) : F_64 (I3 a) (I3 b) (b2 f) h = some (b2 (mayB g a b f false), h) := by
  have h12 := wK.2.1
  have c1 := cK.1
  have na : ¬ a ≤ 0 := by omega
  have nb : ¬ b ≤ 0 := by omega
  have ka : ¬ 20 + nC g ≤ a := by omega
  have a0 : ¬ a = 0 := by omega
  have b0 : ¬ b = 0 := by omega
  by_cases e : a = b
  · have m : mayB g a b f false = true := by simp only [mayB, e, if_true]
    rw [m]; simp (disch := omega) only [F_64_49, F_64_164, F_64_163, F_64_159, F_64_126, F_64_121, F_64_82, F_64_81, F_64_76, F_64_43, F_64_24, F_64_0, F_64, ↓reduceIte, if_true, if_false, ite_self, Option.bind_some, Option.map_some, wI_rd, wJ_rd, wI_2, wJ_1, wJ_22, I3_lit, I3_add, I3_mul, I3_lt, I3_le, I3_inj, I3_nn', I3_n1, I3_n2, m2m1, ldI_I, ldJ_I, ldZ_I, stI_I, stJ_I, true_or, or_true, false_or, or_false, true_and, and_true, false_and, and_false, not_true_eq_false, not_false_eq_true, reduceCtorEq, Nat.reduceEqDiff, Nat.lt_irrefl, Nat.not_lt_zero, Nat.le_refl, Nat.reduceLT, Nat.reduceLeDiff, eq_self, zbbI, bbI0, bbI1, decide_eq_false_iff_not, decide_eq_true_eq, Bool.not_eq_false, Bool.not_eq_true, Bool.not_true, Bool.not_false, cond_true, cond_false, c1, na, nb, ka, hb, e, show ¬ 20 + nC g ≤ b by omega]; try rfl
  by_cases a6 : a ≤ 6
  · have a7 : a < 7 := by omega
    have n7 : ¬ a = 7 := by omega
    have n6 : ¬ 6 < a := by omega
    by_cases b6 : b ≤ 6
    · have m : mayB g a b f false = (f || widB a b) := by simp only [mayB, e, a0, b0, a6, b6, if_true, if_false]
      have W := C_widN (g := h) (a := a) (b := b) (by omega) (by omega)
      have m6 : ¬ 6 < b := by omega
      rw [m]
      cases f with
      | true => simp (disch := omega) only [F_64_49, F_64_164, F_64_163, F_64_159, F_64_126, F_64_121, F_64_82, F_64_81, F_64_76, F_64_43, F_64_24, F_64_0, F_64, ↓reduceIte, if_true, if_false, ite_self, Option.bind_some, Option.map_some, wI_rd, wJ_rd, wI_2, wJ_1, wJ_22, I3_lit, I3_add, I3_mul, I3_lt, I3_le, I3_inj, I3_nn', I3_n1, I3_n2, m2m1, ldI_I, ldJ_I, ldZ_I, stI_I, stJ_I, true_or, or_true, false_or, or_false, true_and, and_true, false_and, and_false, not_true_eq_false, not_false_eq_true, reduceCtorEq, Nat.reduceEqDiff, Nat.lt_irrefl, Nat.not_lt_zero, Nat.le_refl, Nat.reduceLT, Nat.reduceLeDiff, eq_self, zbbI, bbI0, bbI1, decide_eq_false_iff_not, decide_eq_true_eq, Bool.not_eq_false, Bool.not_eq_true, Bool.not_true, Bool.not_false, cond_true, cond_false, c1, na, nb, ka, hb, e, a7, n7, n6, m6, b2_t]; try rfl
      | false =>
        generalize widB a b = ww at W ⊢
        cases ww <;> simp (disch := omega) only [F_64_49, F_64_164, F_64_163, F_64_159, F_64_126, F_64_121, F_64_82, F_64_81, F_64_76, F_64_43, F_64_24, F_64_0, F_64, ↓reduceIte, if_true, if_false, ite_self, Option.bind_some, Option.map_some, wI_rd, wJ_rd, wI_2, wJ_1, wJ_22, I3_lit, I3_add, I3_mul, I3_lt, I3_le, I3_inj, I3_nn', I3_n1, I3_n2, m2m1, ldI_I, ldJ_I, ldZ_I, stI_I, stJ_I, true_or, or_true, false_or, or_false, true_and, and_true, false_and, and_false, not_true_eq_false, not_false_eq_true, reduceCtorEq, Nat.reduceEqDiff, Nat.lt_irrefl, Nat.not_lt_zero, Nat.le_refl, Nat.reduceLT, Nat.reduceLeDiff, eq_self, zbbI, bbI0, bbI1, decide_eq_false_iff_not, decide_eq_true_eq, Bool.not_eq_false, Bool.not_eq_true, Bool.not_true, Bool.not_false, cond_true, cond_false, c1, na, nb, ka, hb, e, a7, n7, n6, m6, b2_t, b2_f, W] <;> rfl
    · have m : mayB g a b f false = B g (a + 8) b := by simp only [mayB, e, a0, b0, a6, b6, if_true, if_false]
      rw [m]
      have RB := C_belowN wK cK (x := a + 8) (y := b) (by omega) hb
      have m6 : 6 < b := by omega
      generalize B g (a + 8) b = bb at RB ⊢
      have h1 : F_64_82 (I3 a) (I3 b) (b2 f) h = some (b2 bb, h) := by
        unfold F_64_82
        rw [if_neg (by rw [I3_lit, I3_lt (by decide) (by omega)]; exact n6), I3_lit, I3_add, RB]
        show (if b2 bb = 0 ∨ b2 bb = 1 then some (b2 bb, h) else none) = _
        rw [if_pos (b2_ok bb)]
      simp (disch := omega) only [↓reduceIte, if_true, if_false, ite_self, Option.bind_some, Option.map_some, wI_rd, wJ_rd, wI_2, wJ_1, wJ_22, I3_lit, I3_add, I3_mul, I3_lt, I3_le, I3_inj, I3_nn', I3_n1, I3_n2, m2m1, ldI_I, ldJ_I, ldZ_I, stI_I, stJ_I, true_or, or_true, false_or, or_false, true_and, and_true, false_and, and_false, not_true_eq_false, not_false_eq_true, reduceCtorEq, Nat.reduceEqDiff, Nat.lt_irrefl, Nat.not_lt_zero, Nat.le_refl, Nat.reduceLT, Nat.reduceLeDiff, eq_self, zbbI, bbI0, bbI1, decide_eq_false_iff_not, decide_eq_true_eq, Bool.not_eq_false, Bool.not_eq_true, Bool.not_true, Bool.not_false, cond_true, cond_false, F_64, F_64_0, F_64_43, c1, na, nb, ka, hb, e, a7, n7, n6, m6, h1]
  · have a7 : ¬ a < 7 := by omega
    have n6 : 6 < a := by omega
    by_cases b7 : 7 ≤ b
    · have m : mayB g a b f false = true := by simp only [mayB, e, a0, b0, a6, b7, if_true, if_false]
      rw [m]
      simp (disch := omega) only [F_64_49, F_64_164, F_64_163, F_64_159, F_64_126, F_64_121, F_64_82, F_64_81, F_64_76, F_64_43, F_64_24, F_64_0, F_64, ↓reduceIte, if_true, if_false, ite_self, Option.bind_some, Option.map_some, wI_rd, wJ_rd, wI_2, wJ_1, wJ_22, I3_lit, I3_add, I3_mul, I3_lt, I3_le, I3_inj, I3_nn', I3_n1, I3_n2, m2m1, ldI_I, ldJ_I, ldZ_I, stI_I, stJ_I, true_or, or_true, false_or, or_false, true_and, and_true, false_and, and_false, not_true_eq_false, not_false_eq_true, reduceCtorEq, Nat.reduceEqDiff, Nat.lt_irrefl, Nat.not_lt_zero, Nat.le_refl, Nat.reduceLT, Nat.reduceLeDiff, eq_self, zbbI, bbI0, bbI1, decide_eq_false_iff_not, decide_eq_true_eq, Bool.not_eq_false, Bool.not_eq_true, Bool.not_true, Bool.not_false, cond_true, cond_false, c1, na, nb, ka, hb, e, a7, b7]; try rfl
    by_cases q7 : a = 7
    · subst q7
      have m : mayB g 7 b f false = true := by simp only [mayB, e, a0, b0, a6, b7, if_true, if_false]
      rw [m]
      simp (disch := omega) only [F_64_49, F_64_164, F_64_163, F_64_159, F_64_126, F_64_121, F_64_82, F_64_81, F_64_76, F_64_43, F_64_24, F_64_0, F_64, ↓reduceIte, if_true, if_false, ite_self, Option.bind_some, Option.map_some, wI_rd, wJ_rd, wI_2, wJ_1, wJ_22, I3_lit, I3_add, I3_mul, I3_lt, I3_le, I3_inj, I3_nn', I3_n1, I3_n2, m2m1, ldI_I, ldJ_I, ldZ_I, stI_I, stJ_I, true_or, or_true, false_or, or_false, true_and, and_true, false_and, and_false, not_true_eq_false, not_false_eq_true, reduceCtorEq, Nat.reduceEqDiff, Nat.lt_irrefl, Nat.not_lt_zero, Nat.le_refl, Nat.reduceLT, Nat.reduceLeDiff, eq_self, zbbI, bbI0, bbI1, decide_eq_false_iff_not, decide_eq_true_eq, Bool.not_eq_false, Bool.not_eq_true, Bool.not_true, Bool.not_false, cond_true, cond_false, c1, na, nb, ka, hb, e, b7]; try rfl
    by_cases a8 : a = 8
    · subst a8
      have m : mayB g 8 b f false = (f || decide (b = 2 ∨ b = 3 ∨ b = 5 ∨ b = 6)) := by simp only [mayB, e, a0, b0, a6, b7, q7, if_true, if_false]
      rw [m]
      cases f with
      | true => simp (disch := omega) only [F_64_49, F_64_164, F_64_163, F_64_159, F_64_126, F_64_121, F_64_82, F_64_81, F_64_76, F_64_43, F_64_24, F_64_0, F_64, ↓reduceIte, if_true, if_false, ite_self, Option.bind_some, Option.map_some, wI_rd, wJ_rd, wI_2, wJ_1, wJ_22, I3_lit, I3_add, I3_mul, I3_lt, I3_le, I3_inj, I3_nn', I3_n1, I3_n2, m2m1, ldI_I, ldJ_I, ldZ_I, stI_I, stJ_I, true_or, or_true, false_or, or_false, true_and, and_true, false_and, and_false, not_true_eq_false, not_false_eq_true, reduceCtorEq, Nat.reduceEqDiff, Nat.lt_irrefl, Nat.not_lt_zero, Nat.le_refl, Nat.reduceLT, Nat.reduceLeDiff, eq_self, zbbI, bbI0, bbI1, decide_eq_false_iff_not, decide_eq_true_eq, Bool.not_eq_false, Bool.not_eq_true, Bool.not_true, Bool.not_false, cond_true, cond_false, c1, na, nb, ka, hb, e, b7, b2_t]; try rfl
      | false =>
        rw [Bool.false_or]
        have RB := C_belowN wK cK (x := b + 8) (y := 8) (by omega) (by omega)
        rw [B_8 wK (b + 8) (by omega) (by omega)] at RB
        have ed : decide (b + 8 = 10 ∨ b + 8 = 11 ∨ b + 8 = 13 ∨ b + 8 = 14) = decide (b = 2 ∨ b = 3 ∨ b = 5 ∨ b = 6) := decide_eq_decide.mpr (by omega)
        rw [ed] at RB
        generalize decide (b = 2 ∨ b = 3 ∨ b = 5 ∨ b = 6) = X at RB ⊢
        cases X <;> simp (disch := omega) only [F_64_49, F_64_164, F_64_163, F_64_159, F_64_126, F_64_121, F_64_82, F_64_81, F_64_76, F_64_43, F_64_24, F_64_0, F_64, ↓reduceIte, if_true, if_false, ite_self, Option.bind_some, Option.map_some, wI_rd, wJ_rd, wI_2, wJ_1, wJ_22, I3_lit, I3_add, I3_mul, I3_lt, I3_le, I3_inj, I3_nn', I3_n1, I3_n2, m2m1, ldI_I, ldJ_I, ldZ_I, stI_I, stJ_I, true_or, or_true, false_or, or_false, true_and, and_true, false_and, and_false, not_true_eq_false, not_false_eq_true, reduceCtorEq, Nat.reduceEqDiff, Nat.lt_irrefl, Nat.not_lt_zero, Nat.le_refl, Nat.reduceLT, Nat.reduceLeDiff, eq_self, zbbI, bbI0, bbI1, decide_eq_false_iff_not, decide_eq_true_eq, Bool.not_eq_false, Bool.not_eq_true, Bool.not_true, Bool.not_false, cond_true, cond_false, c1, na, nb, ka, hb, e, b7, b2_f, b2_t, RB] <;> rfl
    by_cases a14 : 9 ≤ a ∧ a ≤ 14
    · have m : mayB g a b f false = (f || (decide (a - 8 = b) || widB (a - 8) b)) := by simp only [mayB, e, a0, b0, a6, b7, q7, a8, a14, and_self, if_true, if_false]
      have W := C_widN (g := h) (a := a - 8) (b := b) (by omega) (by omega)
      have BX := C_isBox (h := h) (a := a) (by omega)
      rw [decide_eq_true a14] at BX
      rw [m]
      cases f with
      | true => simp (disch := omega) only [F_64_49, F_64_164, F_64_163, F_64_159, F_64_126, F_64_121, F_64_82, F_64_81, F_64_76, F_64_43, F_64_24, F_64_0, F_64, ↓reduceIte, if_true, if_false, ite_self, Option.bind_some, Option.map_some, wI_rd, wJ_rd, wI_2, wJ_1, wJ_22, I3_lit, I3_add, I3_mul, I3_lt, I3_le, I3_inj, I3_nn', I3_n1, I3_n2, m2m1, ldI_I, ldJ_I, ldZ_I, stI_I, stJ_I, true_or, or_true, false_or, or_false, true_and, and_true, false_and, and_false, not_true_eq_false, not_false_eq_true, reduceCtorEq, Nat.reduceEqDiff, Nat.lt_irrefl, Nat.not_lt_zero, Nat.le_refl, Nat.reduceLT, Nat.reduceLeDiff, eq_self, zbbI, bbI0, bbI1, decide_eq_false_iff_not, decide_eq_true_eq, Bool.not_eq_false, Bool.not_eq_true, Bool.not_true, Bool.not_false, cond_true, cond_false, c1, na, nb, ka, hb, e, a7, n6, b7, q7, a8, b2_t, BX]; try rfl
      | false =>
        rw [Bool.false_or]
        by_cases q : a - 8 = b
        · rw [decide_eq_true q]; simp (disch := omega) only [F_64_49, F_64_164, F_64_163, F_64_159, F_64_126, F_64_121, F_64_82, F_64_81, F_64_76, F_64_43, F_64_24, F_64_0, F_64, ↓reduceIte, if_true, if_false, ite_self, Option.bind_some, Option.map_some, wI_rd, wJ_rd, wI_2, wJ_1, wJ_22, I3_lit, I3_add, I3_mul, I3_lt, I3_le, I3_inj, I3_nn', I3_n1, I3_n2, m2m1, ldI_I, ldJ_I, ldZ_I, stI_I, stJ_I, true_or, or_true, false_or, or_false, true_and, and_true, false_and, and_false, not_true_eq_false, not_false_eq_true, reduceCtorEq, Nat.reduceEqDiff, Nat.lt_irrefl, Nat.not_lt_zero, Nat.le_refl, Nat.reduceLT, Nat.reduceLeDiff, eq_self, zbbI, bbI0, bbI1, decide_eq_false_iff_not, decide_eq_true_eq, Bool.not_eq_false, Bool.not_eq_true, Bool.not_true, Bool.not_false, cond_true, cond_false, c1, na, nb, ka, hb, e, a7, n6, b7, q7, a8, b2_t, b2_f, BX, I3_sub, q]; try rfl
        · rw [decide_eq_false q, Bool.false_or]
          generalize widB (a - 8) b = ww at W ⊢
          cases ww <;> simp (disch := omega) only [F_64_49, F_64_164, F_64_163, F_64_159, F_64_126, F_64_121, F_64_82, F_64_81, F_64_76, F_64_43, F_64_24, F_64_0, F_64, ↓reduceIte, if_true, if_false, ite_self, Option.bind_some, Option.map_some, wI_rd, wJ_rd, wI_2, wJ_1, wJ_22, I3_lit, I3_add, I3_mul, I3_lt, I3_le, I3_inj, I3_nn', I3_n1, I3_n2, m2m1, ldI_I, ldJ_I, ldZ_I, stI_I, stJ_I, true_or, or_true, false_or, or_false, true_and, and_true, false_and, and_false, not_true_eq_false, not_false_eq_true, reduceCtorEq, Nat.reduceEqDiff, Nat.lt_irrefl, Nat.not_lt_zero, Nat.le_refl, Nat.reduceLT, Nat.reduceLeDiff, eq_self, zbbI, bbI0, bbI1, decide_eq_false_iff_not, decide_eq_true_eq, Bool.not_eq_false, Bool.not_eq_true, Bool.not_true, Bool.not_false, cond_true, cond_false, c1, na, nb, ka, hb, e, a7, n6, b7, q7, a8, b2_t, b2_f, BX, I3_sub, q, W] <;> rfl
    · have m : mayB g a b f false = false := by simp only [mayB, e, a0, b0, a6, b7, q7, a8, a14, if_true, if_false]
      have BX := C_isBox (h := h) (a := a) (by omega)
      rw [decide_eq_false a14] at BX
      rw [m]
      simp (disch := omega) only [F_64_49, F_64_164, F_64_163, F_64_159, F_64_126, F_64_121, F_64_82, F_64_81, F_64_76, F_64_43, F_64_24, F_64_0, F_64, ↓reduceIte, if_true, if_false, ite_self, Option.bind_some, Option.map_some, wI_rd, wJ_rd, wI_2, wJ_1, wJ_22, I3_lit, I3_add, I3_mul, I3_lt, I3_le, I3_inj, I3_nn', I3_n1, I3_n2, m2m1, ldI_I, ldJ_I, ldZ_I, stI_I, stJ_I, true_or, or_true, false_or, or_false, true_and, and_true, false_and, and_false, not_true_eq_false, not_false_eq_true, reduceCtorEq, Nat.reduceEqDiff, Nat.lt_irrefl, Nat.not_lt_zero, Nat.le_refl, Nat.reduceLT, Nat.reduceLeDiff, eq_self, zbbI, bbI0, bbI1, decide_eq_false_iff_not, decide_eq_true_eq, Bool.not_eq_false, Bool.not_eq_true, Bool.not_true, Bool.not_false, cond_true, cond_false, c1, na, nb, ka, hb, e, a7, n6, b7, q7, a8, b2_t, b2_f, BX]; try rfl
theorem C_allows_o {h g : sm_H} (wK : wfK g) (cK : cK h g) {x y : Int32} (f : Int32) (hx : inR x (20 + nC g) = false ∨ x = 0 ∨ inR y (20 + nC g) = false ∨ y = 0) : F_64 x y f h = some (0, h) := by
  have h12 := wK.2.1
  have key : ∀ z : Int32, inR z (20 + nC g) = false ∨ z = 0 → z ≤ 0 ∨ ¬ z < I3 (20 + nC g) := by
    intro z hz
    rcases I3_cases z with ⟨k, hk, rfl⟩ | hn
    · rcases hz with hz | hz
      · rw [inR_I hk] at hz
        right; rw [I3_lt hk (by omega)]; simpa using hz
      · left; rw [hz]; exact Int32.le_refl 0
    · left; exact Int32.le_of_lt hn
  show F_64_0 x y f h = _
  unfold F_64_0 F_64_24
  rw [cK.1]
  have nl : ∀ z : Int32, (¬ z < I3 (20 + nC g)) → I3 (20 + nC g) ≤ z := fun z hz => Int32.not_lt.mp hz
  rcases Classical.em (x ≤ 0) with c1 | c1
  · rw [if_pos c1]
  rw [if_neg c1]
  rcases Classical.em (I3 (20 + nC g) ≤ x) with c2 | c2
  · rw [if_pos c2]
  rw [if_neg c2]
  rcases Classical.em (y ≤ 0) with c3 | c3
  · rw [if_pos c3]
  rw [if_neg c3]
  rcases Classical.em (y < I3 (20 + nC g)) with c4 | c4
  · exfalso
    have hxx : ¬ (inR x (20 + nC g) = false ∨ x = 0) := fun z => by
      rcases key x z with q | q
      · exact c1 q
      · exact c2 (nl x q)
    have hyy : ¬ (inR y (20 + nC g) = false ∨ y = 0) := fun z => by
      rcases key y z with q | q
      · exact c3 q
      · exact q c4
    rcases hx with z | z | z | z
    · exact hxx (Or.inl z)
    · exact hxx (Or.inr z)
    · exact hyy (Or.inl z)
    · exact hyy (Or.inr z)
  · rw [if_neg c4]
theorem op_may {h : sm_H} (x y : Int32) (f : Bool) (I : I0 h) : ∃ v h1 h2, F_287 x y (b2 f) h = some (v, h1) ∧ F_469 x y (b2 f) h1 = some (v, h2) ∧ I0 h2 := by
  have wK := I.1
  have cK := I.2.1
  have h12 := wK.2.1
  have K1 := R_kind wK x
  have K2 := R_kind wK y
  rcases inR_c x (20 + nC h) (by omega) with ⟨a, ha, rfl, hi⟩ | hi
  · rcases inR_c y (20 + nC h) (by omega) with ⟨b, hb, rfl, hj⟩ | hj
    · by_cases a0 : a = 0
      · subst a0
        refine ⟨0, h, h, ?_, ?_, I⟩
        · simp (disch := omega) only [F_287_0, F_287, ↓reduceIte, if_true, if_false, ite_self, Option.bind_some, Option.map_some, wI_rd, wJ_rd, wI_2, wJ_1, wJ_22, I3_lit, I3_add, I3_mul, I3_lt, I3_le, I3_inj, I3_nn', I3_n1, I3_n2, m2m1, ldI_I, ldJ_I, ldZ_I, stI_I, stJ_I, true_or, or_true, false_or, or_false, true_and, and_true, false_and, and_false, not_true_eq_false, not_false_eq_true, reduceCtorEq, Nat.reduceEqDiff, Nat.lt_irrefl, Nat.not_lt_zero, Nat.le_refl, Nat.reduceLT, Nat.reduceLeDiff, eq_self, zbbI, bbI0, bbI1, decide_eq_false_iff_not, decide_eq_true_eq, Bool.not_eq_false, Bool.not_eq_true, Bool.not_true, Bool.not_false, cond_true, cond_false, C_allows_o wK cK (b2 f) (x := I3 0) (y := I3 b) (Or.inr (Or.inl rfl))]
        · simp (disch := omega) only [F_469_40, F_469_39, F_469_0, F_469, ↓reduceIte, if_true, if_false, ite_self, Option.bind_some, Option.map_some, wI_rd, wJ_rd, wI_2, wJ_1, wJ_22, I3_lit, I3_add, I3_mul, I3_lt, I3_le, I3_inj, I3_nn', I3_n1, I3_n2, m2m1, ldI_I, ldJ_I, ldZ_I, stI_I, stJ_I, true_or, or_true, false_or, or_false, true_and, and_true, false_and, and_false, not_true_eq_false, not_false_eq_true, reduceCtorEq, Nat.reduceEqDiff, Nat.lt_irrefl, Nat.not_lt_zero, Nat.le_refl, Nat.reduceLT, Nat.reduceLeDiff, eq_self, zbbI, bbI0, bbI1, decide_eq_false_iff_not, decide_eq_true_eq, Bool.not_eq_false, Bool.not_eq_true, Bool.not_true, Bool.not_false, cond_true, cond_false, K1, K2, hi, hj]; try rfl
      by_cases b0 : b = 0
      · subst b0
        refine ⟨0, h, h, ?_, ?_, I⟩
        · simp (disch := omega) only [F_287_0, F_287, ↓reduceIte, if_true, if_false, ite_self, Option.bind_some, Option.map_some, wI_rd, wJ_rd, wI_2, wJ_1, wJ_22, I3_lit, I3_add, I3_mul, I3_lt, I3_le, I3_inj, I3_nn', I3_n1, I3_n2, m2m1, ldI_I, ldJ_I, ldZ_I, stI_I, stJ_I, true_or, or_true, false_or, or_false, true_and, and_true, false_and, and_false, not_true_eq_false, not_false_eq_true, reduceCtorEq, Nat.reduceEqDiff, Nat.lt_irrefl, Nat.not_lt_zero, Nat.le_refl, Nat.reduceLT, Nat.reduceLeDiff, eq_self, zbbI, bbI0, bbI1, decide_eq_false_iff_not, decide_eq_true_eq, Bool.not_eq_false, Bool.not_eq_true, Bool.not_true, Bool.not_false, cond_true, cond_false, C_allows_o wK cK (b2 f) (x := I3 a) (y := I3 0) (Or.inr (Or.inr (Or.inr rfl)))]
        · simp (disch := omega) only [F_469_40, F_469_39, F_469_0, F_469, ↓reduceIte, if_true, if_false, ite_self, Option.bind_some, Option.map_some, wI_rd, wJ_rd, wI_2, wJ_1, wJ_22, I3_lit, I3_add, I3_mul, I3_lt, I3_le, I3_inj, I3_nn', I3_n1, I3_n2, m2m1, ldI_I, ldJ_I, ldZ_I, stI_I, stJ_I, true_or, or_true, false_or, or_false, true_and, and_true, false_and, and_false, not_true_eq_false, not_false_eq_true, reduceCtorEq, Nat.reduceEqDiff, Nat.lt_irrefl, Nat.not_lt_zero, Nat.le_refl, Nat.reduceLT, Nat.reduceLeDiff, eq_self, zbbI, bbI0, bbI1, decide_eq_false_iff_not, decide_eq_true_eq, Bool.not_eq_false, Bool.not_eq_true, Bool.not_true, Bool.not_false, cond_true, cond_false, K1, K2, hi, hj, a0]; try rfl
      have M := R_mayBe wK ha hb f false
      have M : F_297 (I3 a) (I3 b) (b2 f) (I3 0) h = some (b2 (mayB h a b f false), h) := M
      refine ⟨b2 (mayB h a b f false), h, h, ?_, ?_, I⟩
      · simp (disch := omega) only [F_287_0, F_287, ↓reduceIte, if_true, if_false, ite_self, Option.bind_some, Option.map_some, wI_rd, wJ_rd, wI_2, wJ_1, wJ_22, I3_lit, I3_add, I3_mul, I3_lt, I3_le, I3_inj, I3_nn', I3_n1, I3_n2, m2m1, ldI_I, ldJ_I, ldZ_I, stI_I, stJ_I, true_or, or_true, false_or, or_false, true_and, and_true, false_and, and_false, not_true_eq_false, not_false_eq_true, reduceCtorEq, Nat.reduceEqDiff, Nat.lt_irrefl, Nat.not_lt_zero, Nat.le_refl, Nat.reduceLT, Nat.reduceLeDiff, eq_self, zbbI, bbI0, bbI1, decide_eq_false_iff_not, decide_eq_true_eq, Bool.not_eq_false, Bool.not_eq_true, Bool.not_true, Bool.not_false, cond_true, cond_false, C_allows wK cK (by omega) ha (by omega) hb f]; cases mayB h a b f false <;> rfl
      · generalize mayB h a b f false = X at M ⊢
        cases X <;> simp (disch := omega) only [F_469_40, F_469_39, F_469_0, F_469, ↓reduceIte, if_true, if_false, ite_self, Option.bind_some, Option.map_some, wI_rd, wJ_rd, wI_2, wJ_1, wJ_22, I3_lit, I3_add, I3_mul, I3_lt, I3_le, I3_inj, I3_nn', I3_n1, I3_n2, m2m1, ldI_I, ldJ_I, ldZ_I, stI_I, stJ_I, true_or, or_true, false_or, or_false, true_and, and_true, false_and, and_false, not_true_eq_false, not_false_eq_true, reduceCtorEq, Nat.reduceEqDiff, Nat.lt_irrefl, Nat.not_lt_zero, Nat.le_refl, Nat.reduceLT, Nat.reduceLeDiff, eq_self, zbbI, bbI0, bbI1, decide_eq_false_iff_not, decide_eq_true_eq, Bool.not_eq_false, Bool.not_eq_true, Bool.not_true, Bool.not_false, cond_true, cond_false, K1, K2, hi, hj, a0, b0, M] <;> rfl
    · refine ⟨0, h, h, ?_, ?_, I⟩
      · simp (disch := omega) only [F_287_0, F_287, ↓reduceIte, if_true, if_false, ite_self, Option.bind_some, Option.map_some, wI_rd, wJ_rd, wI_2, wJ_1, wJ_22, I3_lit, I3_add, I3_mul, I3_lt, I3_le, I3_inj, I3_nn', I3_n1, I3_n2, m2m1, ldI_I, ldJ_I, ldZ_I, stI_I, stJ_I, true_or, or_true, false_or, or_false, true_and, and_true, false_and, and_false, not_true_eq_false, not_false_eq_true, reduceCtorEq, Nat.reduceEqDiff, Nat.lt_irrefl, Nat.not_lt_zero, Nat.le_refl, Nat.reduceLT, Nat.reduceLeDiff, eq_self, zbbI, bbI0, bbI1, decide_eq_false_iff_not, decide_eq_true_eq, Bool.not_eq_false, Bool.not_eq_true, Bool.not_true, Bool.not_false, cond_true, cond_false, C_allows_o wK cK (b2 f) (x := I3 a) (y := y) (Or.inr (Or.inr (Or.inl hj)))]
      · simp (disch := omega) only [F_469_40, F_469_39, F_469_0, F_469, ↓reduceIte, if_true, if_false, ite_self, Option.bind_some, Option.map_some, wI_rd, wJ_rd, wI_2, wJ_1, wJ_22, I3_lit, I3_add, I3_mul, I3_lt, I3_le, I3_inj, I3_nn', I3_n1, I3_n2, m2m1, ldI_I, ldJ_I, ldZ_I, stI_I, stJ_I, true_or, or_true, false_or, or_false, true_and, and_true, false_and, and_false, not_true_eq_false, not_false_eq_true, reduceCtorEq, Nat.reduceEqDiff, Nat.lt_irrefl, Nat.not_lt_zero, Nat.le_refl, Nat.reduceLT, Nat.reduceLeDiff, eq_self, zbbI, bbI0, bbI1, decide_eq_false_iff_not, decide_eq_true_eq, Bool.not_eq_false, Bool.not_eq_true, Bool.not_true, Bool.not_false, cond_true, cond_false, K1, K2, hi, hj]
  · refine ⟨0, h, h, ?_, ?_, I⟩
    · simp (disch := omega) only [F_287_0, F_287, ↓reduceIte, if_true, if_false, ite_self, Option.bind_some, Option.map_some, wI_rd, wJ_rd, wI_2, wJ_1, wJ_22, I3_lit, I3_add, I3_mul, I3_lt, I3_le, I3_inj, I3_nn', I3_n1, I3_n2, m2m1, ldI_I, ldJ_I, ldZ_I, stI_I, stJ_I, true_or, or_true, false_or, or_false, true_and, and_true, false_and, and_false, not_true_eq_false, not_false_eq_true, reduceCtorEq, Nat.reduceEqDiff, Nat.lt_irrefl, Nat.not_lt_zero, Nat.le_refl, Nat.reduceLT, Nat.reduceLeDiff, eq_self, zbbI, bbI0, bbI1, decide_eq_false_iff_not, decide_eq_true_eq, Bool.not_eq_false, Bool.not_eq_true, Bool.not_true, Bool.not_false, cond_true, cond_false, C_allows_o wK cK (b2 f) (x := x) (y := y) (Or.inl hi)]
    · simp (disch := omega) only [F_469_40, F_469_39, F_469_0, F_469, ↓reduceIte, if_true, if_false, ite_self, Option.bind_some, Option.map_some, wI_rd, wJ_rd, wI_2, wJ_1, wJ_22, I3_lit, I3_add, I3_mul, I3_lt, I3_le, I3_inj, I3_nn', I3_n1, I3_n2, m2m1, ldI_I, ldJ_I, ldZ_I, stI_I, stJ_I, true_or, or_true, false_or, or_false, true_and, and_true, false_and, and_false, not_true_eq_false, not_false_eq_true, reduceCtorEq, Nat.reduceEqDiff, Nat.lt_irrefl, Nat.not_lt_zero, Nat.le_refl, Nat.reduceLT, Nat.reduceLeDiff, eq_self, zbbI, bbI0, bbI1, decide_eq_false_iff_not, decide_eq_true_eq, Bool.not_eq_false, Bool.not_eq_true, Bool.not_true, Bool.not_false, cond_true, cond_false, K1, hi]
