theorem I3_add_c (a b c : Nat) : I3 (a * b + c) = I3 (b * a + c) := by rw [Nat.mul_comm]
theorem C_form {h g : sm_H} (wH : wfH0 g) (cH : cH h g) {a : Nat} (ha : a < nH g) : F_37 (I3 a) h = some (g.1 75 a, h) := by
  have e2 : g.1 67 18 = I3 (nH g) := wH.1.1
  have e3 : nH g ≤ 500 := wH.1.2
  have hi : inR (I3 a) (nH g) = true := by rw [inR_I (by omega)]; simp [ha]
  have hv := (cH.2.1 a (by omega)).1
  simp only [F_37_22, F_37_21, F_37_0, F_37]
  rw [rng1 (cH.1.trans e2) (by omega), hi]
  simp (disch := omega) only [↓reduceIte, if_true, if_false, ite_self, Option.bind_some, Option.map_some, wI_rd, wJ_rd, wI_2, wJ_1, wJ_22, I3_lit, I3_add, I3_mul, I3_lt, I3_le, I3_inj, I3_nn', I3_n1, I3_n2, m2m1, ldI_I, ldJ_I, ldZ_I, stI_I, stJ_I, true_or, or_true, false_or, or_false, true_and, and_true, false_and, and_false, not_true_eq_false, not_false_eq_true, reduceCtorEq, Nat.reduceEqDiff, Nat.lt_irrefl, Nat.not_lt_zero, Nat.le_refl, Nat.reduceLT, Nat.reduceLeDiff, eq_self, b2_if, b2_I, zbb, Bool.not_true, Bool.not_false, cond_true, cond_false, hv]
theorem C_form_o {h g : sm_H} (wH : wfH0 g) (cH : cH h g) {x : Int32} (hi : inR x (nH g) = false) : F_37 x h = some (-1, h) := by
  have e2 : g.1 67 18 = I3 (nH g) := wH.1.1
  have e3 : nH g ≤ 500 := wH.1.2
  simp only [F_37_22, F_37_21, F_37_0, F_37]
  rw [rng1 (cH.1.trans e2) (by omega), hi]
  rfl
theorem C_ha {h g : sm_H} (wH : wfH0 g) (cH : cH h g) {a : Nat} (ha : a < nH g) : F_38 (I3 a) h = some (g.1 77 a, h) := by
  have e2 : g.1 67 18 = I3 (nH g) := wH.1.1
  have e3 : nH g ≤ 500 := wH.1.2
  have hi : inR (I3 a) (nH g) = true := by rw [inR_I (by omega)]; simp [ha]
  have hv := (cH.2.1 a (by omega)).2.1
  simp only [F_38_22, F_38_21, F_38_0, F_38]
  rw [rng1 (cH.1.trans e2) (by omega), hi]
  simp (disch := omega) only [↓reduceIte, if_true, if_false, ite_self, Option.bind_some, Option.map_some, wI_rd, wJ_rd, wI_2, wJ_1, wJ_22, I3_lit, I3_add, I3_mul, I3_lt, I3_le, I3_inj, I3_nn', I3_n1, I3_n2, m2m1, ldI_I, ldJ_I, ldZ_I, stI_I, stJ_I, true_or, or_true, false_or, or_false, true_and, and_true, false_and, and_false, not_true_eq_false, not_false_eq_true, reduceCtorEq, Nat.reduceEqDiff, Nat.lt_irrefl, Nat.not_lt_zero, Nat.le_refl, Nat.reduceLT, Nat.reduceLeDiff, eq_self, b2_if, b2_I, zbb, Bool.not_true, Bool.not_false, cond_true, cond_false, hv]
theorem C_ha_o {h g : sm_H} (wH : wfH0 g) (cH : cH h g) {x : Int32} (hi : inR x (nH g) = false) : F_38 x h = some (0, h) := by
  have e2 : g.1 67 18 = I3 (nH g) := wH.1.1
  have e3 : nH g ≤ 500 := wH.1.2
  simp only [F_38_22, F_38_21, F_38_0, F_38]
  rw [rng1 (cH.1.trans e2) (by omega), hi]
  rfl
theorem C_hb {h g : sm_H} (wH : wfH0 g) (cH : cH h g) {a : Nat} (ha : a < nH g) : F_39 (I3 a) h = some (g.1 78 a, h) := by
  have e2 : g.1 67 18 = I3 (nH g) := wH.1.1
  have e3 : nH g ≤ 500 := wH.1.2
  have hi : inR (I3 a) (nH g) = true := by rw [inR_I (by omega)]; simp [ha]
  have hv := (cH.2.1 a (by omega)).2.2.1
  simp only [F_39_22, F_39_21, F_39_0, F_39]
  rw [rng1 (cH.1.trans e2) (by omega), hi]
  simp (disch := omega) only [↓reduceIte, if_true, if_false, ite_self, Option.bind_some, Option.map_some, wI_rd, wJ_rd, wI_2, wJ_1, wJ_22, I3_lit, I3_add, I3_mul, I3_lt, I3_le, I3_inj, I3_nn', I3_n1, I3_n2, m2m1, ldI_I, ldJ_I, ldZ_I, stI_I, stJ_I, true_or, or_true, false_or, or_false, true_and, and_true, false_and, and_false, not_true_eq_false, not_false_eq_true, reduceCtorEq, Nat.reduceEqDiff, Nat.lt_irrefl, Nat.not_lt_zero, Nat.le_refl, Nat.reduceLT, Nat.reduceLeDiff, eq_self, b2_if, b2_I, zbb, Bool.not_true, Bool.not_false, cond_true, cond_false, hv]
theorem C_hb_o {h g : sm_H} (wH : wfH0 g) (cH : cH h g) {x : Int32} (hi : inR x (nH g) = false) : F_39 x h = some (0, h) := by
  have e2 : g.1 67 18 = I3 (nH g) := wH.1.1
  have e3 : nH g ≤ 500 := wH.1.2
  simp only [F_39_22, F_39_21, F_39_0, F_39]
  rw [rng1 (cH.1.trans e2) (by omega), hi]
  rfl
theorem C_hc {h g : sm_H} (wH : wfH0 g) (cH : cH h g) {a : Nat} (ha : a < nH g) : F_40 (I3 a) h = some (g.2.1 79 a, h) := by
  have e2 : g.1 67 18 = I3 (nH g) := wH.1.1
  have e3 : nH g ≤ 500 := wH.1.2
  have hi : inR (I3 a) (nH g) = true := by rw [inR_I (by omega)]; simp [ha]
  have hv := (cH.2.1 a (by omega)).2.2.2.1
  simp only [F_40_22, F_40_21, F_40_0, F_40]
  rw [rng1 (cH.1.trans e2) (by omega), hi]
  simp (disch := omega) only [↓reduceIte, if_true, if_false, ite_self, Option.bind_some, Option.map_some, wI_rd, wJ_rd, wI_2, wJ_1, wJ_22, I3_lit, I3_add, I3_mul, I3_lt, I3_le, I3_inj, I3_nn', I3_n1, I3_n2, m2m1, ldI_I, ldJ_I, ldZ_I, stI_I, stJ_I, true_or, or_true, false_or, or_false, true_and, and_true, false_and, and_false, not_true_eq_false, not_false_eq_true, reduceCtorEq, Nat.reduceEqDiff, Nat.lt_irrefl, Nat.not_lt_zero, Nat.le_refl, Nat.reduceLT, Nat.reduceLeDiff, eq_self, b2_if, b2_I, zbb, Bool.not_true, Bool.not_false, cond_true, cond_false, hv]
theorem C_hc_o {h g : sm_H} (wH : wfH0 g) (cH : cH h g) {x : Int32} (hi : inR x (nH g) = false) : F_40 x h = some (0, h) := by
  have e2 : g.1 67 18 = I3 (nH g) := wH.1.1
  have e3 : nH g ≤ 500 := wH.1.2
  simp only [F_40_22, F_40_21, F_40_0, F_40]
  rw [rng1 (cH.1.trans e2) (by omega), hi]
  rfl
theorem C_typeOf {h g : sm_H} (wH : wfH0 g) (cH : cH h g) {a : Nat} (ha : a < nH g) : F_41 (I3 a) h = some (g.1 76 a, h) := by
  have e2 : g.1 67 18 = I3 (nH g) := wH.1.1
  have e3 : nH g ≤ 500 := wH.1.2
  have hi : inR (I3 a) (nH g) = true := by rw [inR_I (by omega)]; simp [ha]
  have hv := (cH.2.1 a (by omega)).2.2.2.2.2
  simp only [F_41_22, F_41_21, F_41_0, F_41]
  rw [rng1 (cH.1.trans e2) (by omega), hi]
  simp (disch := omega) only [↓reduceIte, if_true, if_false, ite_self, Option.bind_some, Option.map_some, wI_rd, wJ_rd, wI_2, wJ_1, wJ_22, I3_lit, I3_add, I3_mul, I3_lt, I3_le, I3_inj, I3_nn', I3_n1, I3_n2, m2m1, ldI_I, ldJ_I, ldZ_I, stI_I, stJ_I, true_or, or_true, false_or, or_false, true_and, and_true, false_and, and_false, not_true_eq_false, not_false_eq_true, reduceCtorEq, Nat.reduceEqDiff, Nat.lt_irrefl, Nat.not_lt_zero, Nat.le_refl, Nat.reduceLT, Nat.reduceLeDiff, eq_self, b2_if, b2_I, zbb, Bool.not_true, Bool.not_false, cond_true, cond_false, hv]
theorem C_typeOf_o {h g : sm_H} (wH : wfH0 g) (cH : cH h g) {x : Int32} (hi : inR x (nH g) = false) : F_41 x h = some (-1, h) := by
  have e2 : g.1 67 18 = I3 (nH g) := wH.1.1
  have e3 : nH g ≤ 500 := wH.1.2
  simp only [F_41_22, F_41_21, F_41_0, F_41]
  rw [rng1 (cH.1.trans e2) (by omega), hi]
  rfl
theorem C_partsOf {h g : sm_H} (wH : wfH0 g) (cH : cH h g) {a : Nat} (ha : a < nH g) : F_42 (I3 a) h = some (g.1 80 a, h) := by
  have e2 : g.1 67 18 = I3 (nH g) := wH.1.1
  have e3 : nH g ≤ 500 := wH.1.2
  have hi : inR (I3 a) (nH g) = true := by rw [inR_I (by omega)]; simp [ha]
  have hv := (cH.2.1 a (by omega)).2.2.2.2.1
  simp only [F_42_22, F_42_21, F_42_0, F_42]
  rw [rng1 (cH.1.trans e2) (by omega), hi]
  simp (disch := omega) only [↓reduceIte, if_true, if_false, ite_self, Option.bind_some, Option.map_some, wI_rd, wJ_rd, wI_2, wJ_1, wJ_22, I3_lit, I3_add, I3_mul, I3_lt, I3_le, I3_inj, I3_nn', I3_n1, I3_n2, m2m1, ldI_I, ldJ_I, ldZ_I, stI_I, stJ_I, true_or, or_true, false_or, or_false, true_and, and_true, false_and, and_false, not_true_eq_false, not_false_eq_true, reduceCtorEq, Nat.reduceEqDiff, Nat.lt_irrefl, Nat.not_lt_zero, Nat.le_refl, Nat.reduceLT, Nat.reduceLeDiff, eq_self, b2_if, b2_I, zbb, Bool.not_true, Bool.not_false, cond_true, cond_false, hv]
theorem C_partsOf_o {h g : sm_H} (wH : wfH0 g) (cH : cH h g) {x : Int32} (hi : inR x (nH g) = false) : F_42 x h = some (0, h) := by
  have e2 : g.1 67 18 = I3 (nH g) := wH.1.1
  have e3 : nH g ≤ 500 := wH.1.2
  simp only [F_42_22, F_42_21, F_42_0, F_42]
  rw [rng1 (cH.1.trans e2) (by omega), hi]
  rfl
theorem C_resultOf {h g : sm_H} (wH : wfH0 g) (cH : cH h g) {a : Nat} (ha : a < nH g) : F_44 (I3 a) h = some (g.1 72 (ty g a), h) := by
  have e2 : g.1 67 18 = I3 (nH g) := wH.1.1
  have e3 : nH g ≤ 500 := wH.1.2
  have hi : inR (I3 a) (nH g) = true := by rw [inR_I (by omega)]; simp [ha]
  have hv := (cH.2.2.2 a ha).1
  simp only [F_44_22, F_44_21, F_44_0, F_44]
  rw [rng1 (cH.1.trans e2) (by omega), hi]
  simp (disch := omega) only [↓reduceIte, if_true, if_false, ite_self, Option.bind_some, Option.map_some, wI_rd, wJ_rd, wI_2, wJ_1, wJ_22, I3_lit, I3_add, I3_mul, I3_lt, I3_le, I3_inj, I3_nn', I3_n1, I3_n2, m2m1, ldI_I, ldJ_I, ldZ_I, stI_I, stJ_I, true_or, or_true, false_or, or_false, true_and, and_true, false_and, and_false, not_true_eq_false, not_false_eq_true, reduceCtorEq, Nat.reduceEqDiff, Nat.lt_irrefl, Nat.not_lt_zero, Nat.le_refl, Nat.reduceLT, Nat.reduceLeDiff, eq_self, b2_if, b2_I, zbb, Bool.not_true, Bool.not_false, cond_true, cond_false, hv]
theorem C_resultOf_o {h g : sm_H} (wH : wfH0 g) (cH : cH h g) {x : Int32} (hi : inR x (nH g) = false) : F_44 x h = some (-1, h) := by
  have e2 : g.1 67 18 = I3 (nH g) := wH.1.1
  have e3 : nH g ≤ 500 := wH.1.2
  simp only [F_44_22, F_44_21, F_44_0, F_44]
  rw [rng1 (cH.1.trans e2) (by omega), hi]
  rfl
theorem C_placesOf {h g : sm_H} (wH : wfH0 g) (cH : cH h g) {a : Nat} (ha : a < nH g) : F_45 (I3 a) h = some (g.1 73 (ty g a), h) := by
  have e2 : g.1 67 18 = I3 (nH g) := wH.1.1
  have e3 : nH g ≤ 500 := wH.1.2
  have hi : inR (I3 a) (nH g) = true := by rw [inR_I (by omega)]; simp [ha]
  have hv := (cH.2.2.2 a ha).2.1
  simp only [F_45_22, F_45_21, F_45_0, F_45]
  rw [rng1 (cH.1.trans e2) (by omega), hi]
  simp (disch := omega) only [↓reduceIte, if_true, if_false, ite_self, Option.bind_some, Option.map_some, wI_rd, wJ_rd, wI_2, wJ_1, wJ_22, I3_lit, I3_add, I3_mul, I3_lt, I3_le, I3_inj, I3_nn', I3_n1, I3_n2, m2m1, ldI_I, ldJ_I, ldZ_I, stI_I, stJ_I, true_or, or_true, false_or, or_false, true_and, and_true, false_and, and_false, not_true_eq_false, not_false_eq_true, reduceCtorEq, Nat.reduceEqDiff, Nat.lt_irrefl, Nat.not_lt_zero, Nat.le_refl, Nat.reduceLT, Nat.reduceLeDiff, eq_self, b2_if, b2_I, zbb, Bool.not_true, Bool.not_false, cond_true, cond_false, hv]
theorem C_placesOf_o {h g : sm_H} (wH : wfH0 g) (cH : cH h g) {x : Int32} (hi : inR x (nH g) = false) : F_45 x h = some (0, h) := by
  have e2 : g.1 67 18 = I3 (nH g) := wH.1.1
  have e3 : nH g ≤ 500 := wH.1.2
  simp only [F_45_22, F_45_21, F_45_0, F_45]
  rw [rng1 (cH.1.trans e2) (by omega), hi]
  rfl
theorem C_part {h g : sm_H} (wH : wfH0 g) (cH : cH h g) {a k : Nat} (ha : a < nH g) (hk : k < pm g a) : F_43 (I3 a) (I3 k) h = some (g.1 81 (24 * a + k), h) := by
  have e2 : g.1 67 18 = I3 (nH g) := wH.1.1
  have e3 : nH g ≤ 500 := wH.1.2
  have e4 : g.1 80 a = I3 (pm g a) := (wH.2 a ha).2.2.2.1
  have e5 : pm g a ≤ 20 := (wH.2 a ha).2.2.2.2
  have hi : inR (I3 a) (nH g) = true := by rw [inR_I (by omega)]; simp [ha]
  have hv : h.1 15 a = I3 (pm g a) := (cH.2.1 a (by omega)).2.2.2.2.1.trans e4
  have hp := cH.2.2.1 a k (by omega) (by omega)
  simp only [F_43_26, F_43_0, F_43]
  rw [rng1 (cH.1.trans e2) (by omega), hi]
  simp (disch := omega) only [↓reduceIte, if_true, if_false, ite_self, Option.bind_some, Option.map_some, wI_rd, wJ_rd, wI_2, wJ_1, wJ_22, I3_lit, I3_add, I3_mul, I3_lt, I3_le, I3_inj, I3_nn', I3_n1, I3_n2, m2m1, ldI_I, ldJ_I, ldZ_I, stI_I, stJ_I, true_or, or_true, false_or, or_false, true_and, and_true, false_and, and_false, not_true_eq_false, not_false_eq_true, reduceCtorEq, Nat.reduceEqDiff, Nat.lt_irrefl, Nat.not_lt_zero, Nat.le_refl, Nat.reduceLT, Nat.reduceLeDiff, eq_self, b2_if, b2_I, zbb, Bool.not_true, Bool.not_false, cond_true, cond_false, hv, hp, hk, if_neg (I3_nn (show k < 2147483648 by omega))]
theorem C_part_o {h g : sm_H} (wH : wfH0 g) (cH : cH h g) {a : Nat} {x : Int32} (ha : a < nH g) (hx : inR x (pm g a) = false) : F_43 (I3 a) x h = some (-1, h) := by
  have e2 : g.1 67 18 = I3 (nH g) := wH.1.1
  have e3 : nH g ≤ 500 := wH.1.2
  have e4 : g.1 80 a = I3 (pm g a) := (wH.2 a ha).2.2.2.1
  have e5 : pm g a ≤ 20 := (wH.2 a ha).2.2.2.2
  have hi : inR (I3 a) (nH g) = true := by rw [inR_I (by omega)]; simp [ha]
  have hv : h.1 15 a = I3 (pm g a) := (cH.2.1 a (by omega)).2.2.2.2.1.trans e4
  simp only [F_43_26, F_43_0, F_43]
  rw [rng1 (cH.1.trans e2) (by omega), hi, ldI_I (by omega) (by omega)]
  simp only [cond_true, Option.bind_some, hv]
  rw [rng2 (n := pm g a) rfl (by omega), hx]
  rfl
theorem C_part_n {h g : sm_H} (wH : wfH0 g) (cH : cH h g) {x y : Int32} (hx : inR x (nH g) = false) : F_43 x y h = some (-1, h) := by
  have e2 : g.1 67 18 = I3 (nH g) := wH.1.1
  have e3 : nH g ≤ 500 := wH.1.2
  simp only [F_43_26, F_43_0, F_43]
  rw [rng1 (cH.1.trans e2) (by omega), hx]
  rfl
theorem C_place {h g : sm_H} (wT : wfT g) (wH : wfH0 g) (cH : cH h g) {a k : Nat} (ha : a < nH g) (hk : k < tM g (ty g a)) : F_46 (I3 a) (I3 k) h = some (g.1 74 (10 * ty g a + k), h) := by
  have e2 : g.1 67 18 = I3 (nH g) := wH.1.1
  have e3 : nH g ≤ 500 := wH.1.2
  have e4 : g.1 73 (ty g a) = I3 (tM g (ty g a)) := (wT.2.1 (ty g a) (wH.2 a ha).2.2.1).2.1.1
  have e5 : tM g (ty g a) ≤ 10 := (wT.2.1 (ty g a) (wH.2 a ha).2.2.1).2.1.2
  have hi : inR (I3 a) (nH g) = true := by rw [inR_I (by omega)]; simp [ha]
  have hv : h.1 19 a = I3 (tM g (ty g a)) := (cH.2.2.2 a ha).2.1.trans e4
  have hp := (cH.2.2.2 a ha).2.2 k hk
  simp only [F_46_26, F_46_0, F_46]
  rw [rng1 (cH.1.trans e2) (by omega), hi]
  simp (disch := omega) only [↓reduceIte, if_true, if_false, ite_self, Option.bind_some, Option.map_some, wI_rd, wJ_rd, wI_2, wJ_1, wJ_22, I3_lit, I3_add, I3_mul, I3_lt, I3_le, I3_inj, I3_nn', I3_n1, I3_n2, m2m1, ldI_I, ldJ_I, ldZ_I, stI_I, stJ_I, true_or, or_true, false_or, or_false, true_and, and_true, false_and, and_false, not_true_eq_false, not_false_eq_true, reduceCtorEq, Nat.reduceEqDiff, Nat.lt_irrefl, Nat.not_lt_zero, Nat.le_refl, Nat.reduceLT, Nat.reduceLeDiff, eq_self, b2_if, b2_I, zbb, Bool.not_true, Bool.not_false, cond_true, cond_false, hv, hp, hk, if_neg (I3_nn (show k < 2147483648 by omega))]
theorem C_place_o {h g : sm_H} (wT : wfT g) (wH : wfH0 g) (cH : cH h g) {a : Nat} {x : Int32} (ha : a < nH g) (hx : inR x (tM g (ty g a)) = false) : F_46 (I3 a) x h = some (-1, h) := by
  have e2 : g.1 67 18 = I3 (nH g) := wH.1.1
  have e3 : nH g ≤ 500 := wH.1.2
  have e4 : g.1 73 (ty g a) = I3 (tM g (ty g a)) := (wT.2.1 (ty g a) (wH.2 a ha).2.2.1).2.1.1
  have e5 : tM g (ty g a) ≤ 10 := (wT.2.1 (ty g a) (wH.2 a ha).2.2.1).2.1.2
  have hi : inR (I3 a) (nH g) = true := by rw [inR_I (by omega)]; simp [ha]
  have hv : h.1 19 a = I3 (tM g (ty g a)) := (cH.2.2.2 a ha).2.1.trans e4
  simp only [F_46_26, F_46_0, F_46]
  rw [rng1 (cH.1.trans e2) (by omega), hi, ldI_I (by omega) (by omega)]
  simp only [cond_true, Option.bind_some, hv]
  rw [rng2 (n := tM g (ty g a)) rfl (by omega), hx]
  rfl
theorem C_place_n {h g : sm_H} (wH : wfH0 g) (cH : cH h g) {x y : Int32} (hx : inR x (nH g) = false) : F_46 x y h = some (-1, h) := by
  have e2 : g.1 67 18 = I3 (nH g) := wH.1.1
  have e3 : nH g ≤ 500 := wH.1.2
  simp only [F_46_26, F_46_0, F_46]
  rw [rng1 (cH.1.trans e2) (by omega), hx]
  rfl
theorem C_hasHg {h g : sm_H} (wH : wfH0 g) (cH : cH h g) (x : Int32) : F_36 x h = some (b2 (inR x (nH g)), h) := C_hasH (cH.1.trans wH.1.1) wH.1.2 x
theorem R_isHg {g : sm_H} (wH : wfH0 g) (x : Int32) : F_304 x g = some (b2 (inR x (nH g)), g) := R_isH wH.1.1 wH.1.2 x
theorem C_hasT {h g : sm_H} (wT : wfT g) (cT : cT h g) (x : Int32) : F_224 x h = some (b2 (inR x (nT g)), h) := by
  have e2 : g.1 67 10 = I3 (nT g) := wT.1.1
  have e3 : nT g ≤ 300 := wT.1.2
  simp only [F_224_17, F_224_16, F_224_0, F_224, true_or, or_true, if_true]
  rw [rng1 (cT.1.trans e2) (by omega), cb2]
theorem R_isT {g : sm_H} (wT : wfT g) (x : Int32) : F_303 x g = some (b2 (inR x (nT g)), g) := by
  have e2 : g.1 67 10 = I3 (nT g) := wT.1.1
  have e3 : nT g ≤ 300 := wT.1.2
  simp only [F_303_17, F_303_16, F_303_0, F_303, true_or, or_true, if_true]
  rw [rng1 e2 (by omega), cb2]
theorem C_tres {h g : sm_H} (wT : wfT g) (cT : cT h g) {t : Nat} (ht : t < nT g) : F_225 (I3 t) h = some (g.1 72 t, h) := by
  have e2 : g.1 67 10 = I3 (nT g) := wT.1.1
  have e3 : nT g ≤ 300 := wT.1.2
  have hi : inR (I3 t) (nT g) = true := by rw [inR_I (by omega)]; simp [ht]
  have hv := (cT.2.1 t (by omega)).1
  simp only [F_225_22, F_225_21, F_225_0, F_225]
  rw [rng1 (cT.1.trans e2) (by omega), hi]
  simp (disch := omega) only [↓reduceIte, if_true, if_false, ite_self, Option.bind_some, Option.map_some, wI_rd, wJ_rd, wI_2, wJ_1, wJ_22, I3_lit, I3_add, I3_mul, I3_lt, I3_le, I3_inj, I3_nn', I3_n1, I3_n2, m2m1, ldI_I, ldJ_I, ldZ_I, stI_I, stJ_I, true_or, or_true, false_or, or_false, true_and, and_true, false_and, and_false, not_true_eq_false, not_false_eq_true, reduceCtorEq, Nat.reduceEqDiff, Nat.lt_irrefl, Nat.not_lt_zero, Nat.le_refl, Nat.reduceLT, Nat.reduceLeDiff, eq_self, b2_if, b2_I, zbb, Bool.not_true, Bool.not_false, cond_true, cond_false, hv]
theorem C_tres_o {h g : sm_H} (wT : wfT g) (cT : cT h g) {x : Int32} (hi : inR x (nT g) = false) : F_225 x h = some (-1, h) := by
  have e2 : g.1 67 10 = I3 (nT g) := wT.1.1
  have e3 : nT g ≤ 300 := wT.1.2
  simp only [F_225_22, F_225_21, F_225_0, F_225]
  rw [rng1 (cT.1.trans e2) (by omega), hi]
  rfl
theorem C_tmany {h g : sm_H} (wT : wfT g) (cT : cT h g) {t : Nat} (ht : t < nT g) : F_226 (I3 t) h = some (g.1 73 t, h) := by
  have e2 : g.1 67 10 = I3 (nT g) := wT.1.1
  have e3 : nT g ≤ 300 := wT.1.2
  have hi : inR (I3 t) (nT g) = true := by rw [inR_I (by omega)]; simp [ht]
  have hv := (cT.2.1 t (by omega)).2
  simp only [F_226_22, F_226_21, F_226_0, F_226]
  rw [rng1 (cT.1.trans e2) (by omega), hi]
  simp (disch := omega) only [↓reduceIte, if_true, if_false, ite_self, Option.bind_some, Option.map_some, wI_rd, wJ_rd, wI_2, wJ_1, wJ_22, I3_lit, I3_add, I3_mul, I3_lt, I3_le, I3_inj, I3_nn', I3_n1, I3_n2, m2m1, ldI_I, ldJ_I, ldZ_I, stI_I, stJ_I, true_or, or_true, false_or, or_false, true_and, and_true, false_and, and_false, not_true_eq_false, not_false_eq_true, reduceCtorEq, Nat.reduceEqDiff, Nat.lt_irrefl, Nat.not_lt_zero, Nat.le_refl, Nat.reduceLT, Nat.reduceLeDiff, eq_self, b2_if, b2_I, zbb, Bool.not_true, Bool.not_false, cond_true, cond_false, hv]
theorem C_tmany_o {h g : sm_H} (wT : wfT g) (cT : cT h g) {x : Int32} (hi : inR x (nT g) = false) : F_226 x h = some (0, h) := by
  have e2 : g.1 67 10 = I3 (nT g) := wT.1.1
  have e3 : nT g ≤ 300 := wT.1.2
  simp only [F_226_22, F_226_21, F_226_0, F_226]
  rw [rng1 (cT.1.trans e2) (by omega), hi]
  rfl
theorem C_tplace {h g : sm_H} (wT : wfT g) (cT : cT h g) {t k : Nat} (ht : t < nT g) (hk : k < tM g t) : F_227 (I3 t) (I3 k) h = some (g.1 74 (10 * t + k), h) := by
  have e2 : g.1 67 10 = I3 (nT g) := wT.1.1
  have e3 : nT g ≤ 300 := wT.1.2
  have e4 : g.1 73 t = I3 (tM g t) := (wT.2.1 t ht).2.1.1
  have e5 : tM g t ≤ 10 := (wT.2.1 t ht).2.1.2
  have hi : inR (I3 t) (nT g) = true := by rw [inR_I (by omega)]; simp [ht]
  have hv : h.1 7 t = I3 (tM g t) := (cT.2.1 t (by omega)).2.trans e4
  have hp : h.1 8 (t * 10 + k) = g.1 74 (10 * t + k) := by rw [Nat.mul_comm]; exact cT.2.2 (10 * t + k) (by omega)
  simp only [F_227_26, F_227_0, F_227]
  rw [rng1 (cT.1.trans e2) (by omega), hi]
  simp (disch := omega) only [↓reduceIte, if_true, if_false, ite_self, Option.bind_some, Option.map_some, wI_rd, wJ_rd, wI_2, wJ_1, wJ_22, I3_lit, I3_add, I3_mul, I3_lt, I3_le, I3_inj, I3_nn', I3_n1, I3_n2, m2m1, ldI_I, ldJ_I, ldZ_I, stI_I, stJ_I, true_or, or_true, false_or, or_false, true_and, and_true, false_and, and_false, not_true_eq_false, not_false_eq_true, reduceCtorEq, Nat.reduceEqDiff, Nat.lt_irrefl, Nat.not_lt_zero, Nat.le_refl, Nat.reduceLT, Nat.reduceLeDiff, eq_self, b2_if, b2_I, zbb, Bool.not_true, Bool.not_false, cond_true, cond_false, hv, hp, hk, if_neg (I3_nn (show k < 2147483648 by omega))]
theorem C_tplace_o {h g : sm_H} (wT : wfT g) (cT : cT h g) {t : Nat} {x : Int32} (ht : t < nT g) (hx : inR x (tM g t) = false) : F_227 (I3 t) x h = some (-1, h) := by
  have e2 : g.1 67 10 = I3 (nT g) := wT.1.1
  have e3 : nT g ≤ 300 := wT.1.2
  have e4 : g.1 73 t = I3 (tM g t) := (wT.2.1 t ht).2.1.1
  have e5 : tM g t ≤ 10 := (wT.2.1 t ht).2.1.2
  have hi : inR (I3 t) (nT g) = true := by rw [inR_I (by omega)]; simp [ht]
  have hv : h.1 7 t = I3 (tM g t) := (cT.2.1 t (by omega)).2.trans e4
  simp only [F_227_26, F_227_0, F_227]
  rw [rng1 (cT.1.trans e2) (by omega), hi, ldI_I (by omega) (by omega)]
  simp only [cond_true, Option.bind_some, hv]
  rw [rng2 (n := tM g t) rfl (by omega), hx]
  rfl
theorem C_tplace_n {h g : sm_H} (wT : wfT g) (cT : cT h g) {x y : Int32} (hx : inR x (nT g) = false) : F_227 x y h = some (-1, h) := by
  have e2 : g.1 67 10 = I3 (nT g) := wT.1.1
  have e3 : nT g ≤ 300 := wT.1.2
  simp only [F_227_26, F_227_0, F_227]
  rw [rng1 (cT.1.trans e2) (by omega), hx]
  rfl
