theorem op_aim {h : sm_H} (x y : Int32) (I : I0 h) : ∃ v h1 h2, F_272 x y h = some (v, h1) ∧ F_399 x y h1 = some (v, h2) ∧ I0 h2 := by
  obtain ⟨wK, cK, wT, cT, wH, cH, wM, cM, cR, cP, cG, cO, cV, wX, cX, cXh, cU, cY, cF, cZ⟩ := id I
  obtain ⟨r1, ⟨r2, r3⟩, r4, r5⟩ := id cG
  have e3 : nH h ≤ 500 := wH.1.2
  have r5 : ∀ k, k < tn (h.1 67 35) → ∃ a, a < nH h ∧ h.1 92 k = I3 a := r5
  generalize hn : tn (h.1 67 35) = n at r2 r3 r5
  have CP := C_hasTg (r1.trans r2) (by omega) x
  have RO := R_outI (h := h) (n := n) (by omega) x
  have CH := C_hasHg wH cH y
  have RH := R_isHg wH y
  rcases inR_c x n (by omega) with ⟨a, ha, rfl, hi⟩ | hi
  · rcases inR_c y (nH h) (by omega) with ⟨b, hb, rfl, hj⟩ | hj
    · obtain ⟨c, hc, ec⟩ := r5 a (by omega)
      have ec1 := (r4 a (by omega)).trans ec
      have T1 := C_typeOf wH cH hb
      have T2 := C_typeOf wH cH hc
      by_cases q : h.1 76 c = h.1 76 b
      · skip
        have B0 := I1_base I
        have wF : wfF (sm_wI (sm_wI h 32 a (I3 b)) 92 a (I3 b)) := by
          have w500 : nH h ≤ 500 := wH.1.2
          have e92 : ∀ k, (sm_wI (sm_wI h 32 a (I3 b)) 92 a (I3 b)).1 92 k = if k = a then I3 b else h.1 92 k := fun k => rfl
          have tb : tn (I3 b) = b := I3_clamp (by omega)
          have tc : tn (I3 c) = c := I3_clamp (by omega)
          refine wfF_ext B0 (fun k hk => ?_) ⟨Nat.le_refl _, fun _ _ => rfl, Nat.le_refl _, fun _ _ => rfl, ⟨Nat.le_refl _, fun _ _ => ⟨rfl, rfl, fun _ _ => rfl⟩⟩, Nat.le_refl _, fun _ _ => rfl, Nat.le_refl _, fun k hk => ?_, Nat.le_refl _, ⟨Nat.le_refl _, fun _ _ => ⟨rfl, rfl, rfl, rfl, rfl, rfl⟩⟩⟩ ⟨rfl, fun _ _ => ⟨rfl, rfl, rfl, rfl, rfl⟩, fun _ _ _ _ => rfl⟩ ⟨rfl, fun _ _ => rfl⟩ cZ.2
          · rw [e92]
            by_cases z : k = a
            · rw [if_pos z, tb]; exact hb
            · rw [if_neg z]; exact B0.g k hk
          · rw [e92]
            by_cases z : k = a
            · rw [if_pos z, tb, z, ec, tc]
              show tn (h.1 76 b) = tn (h.1 76 c)
              rw [q]
            · rw [if_neg z]; rfl
        refine ⟨1, sm_wI h 32 a (I3 b), sm_wI (sm_wI h 32 a (I3 b)) 92 a (I3 b), ?_, ?_, wK, cK, wT, cT, wH, cH, wM, cM, cR, cP, ⟨r1, ⟨by rw [← hn] at r2; exact r2, by rw [← hn] at r3; exact r3⟩, fun k hk => ?_, fun k hk => ?_⟩, cO, cV, wX, cX, cXh_fr (by repeat first | exact hi_rfl | refine hi_wI ?_ (by decide) | refine hi_wJ ?_ (by decide)) cXh, cU, cY, cF, cZ.1, wF⟩
        · simp (disch := omega) only [F_272_22, F_272_0, F_272, F_157_18, F_157_0, F_157, F_158_15, F_158_0, F_158, ↓reduceIte, if_true, if_false, ite_self, Option.bind_some, Option.map_some, wI_rd, wJ_rd, wI_2, wJ_1, wJ_22, I3_lit, I3_add, I3_mul, I3_lt, I3_le, I3_inj, I3_nn', I3_n1, I3_n2, m2m1, ldI_I, ldJ_I, ldZ_I, stI_I, stJ_I, true_or, or_true, false_or, or_false, true_and, and_true, false_and, and_false, not_true_eq_false, not_false_eq_true, reduceCtorEq, Nat.reduceEqDiff, Nat.lt_irrefl, Nat.not_lt_zero, Nat.le_refl, Nat.reduceLT, Nat.reduceLeDiff, eq_self, b2_if, b2_I, zbb, Bool.not_true, Bool.not_false, cond_true, cond_false, CP, CH, hi, hj, ec1, T1, T2, q, CP, hi]
        · have RO' := R_outI (h := sm_wI h 32 a (I3 b)) (n := n) (by omega) (I3 a)
          have RH' : F_304 (I3 b) (sm_wI h 32 a (I3 b)) = _ := R_isHg (g := sm_wI h 32 a (I3 b)) wH (I3 b)
          have hj' : inR (I3 b) (nH (sm_wI h 32 a (I3 b))) = true := hj
          have r2' : (sm_wI h 32 a (I3 b)).1 67 35 = I3 n := r2
          simp (disch := omega) only [F_399_44, F_399_0, F_399, ↓reduceIte, if_true, if_false, ite_self, Option.bind_some, Option.map_some, wI_rd, wJ_rd, wI_2, wJ_1, wJ_22, I3_lit, I3_add, I3_mul, I3_lt, I3_le, I3_inj, I3_nn', I3_n1, I3_n2, m2m1, ldI_I, ldJ_I, ldZ_I, stI_I, stJ_I, true_or, or_true, false_or, or_false, true_and, and_true, false_and, and_false, not_true_eq_false, not_false_eq_true, reduceCtorEq, Nat.reduceEqDiff, Nat.lt_irrefl, Nat.not_lt_zero, Nat.le_refl, Nat.reduceLT, Nat.reduceLeDiff, eq_self, b2_if, b2_I, zbb, Bool.not_true, Bool.not_false, cond_true, cond_false, r2, RO', RH', hi, hj', ec, q]
        · exact upd_eq (p := h.1 32) (q := h.1 92) (y := 0) (r4 k hk)
        · show ∃ c, c < nH h ∧ (if k = a then I3 b else h.1 92 k) = I3 c
          by_cases q : k = a
          · exact ⟨b, hb, if_pos q⟩
          · rw [if_neg q]; exact r5 k (by rw [← hn]; exact hk)
      · refine ⟨0, h, h, ?_, ?_, I⟩
        · simp (disch := omega) only [F_272_22, F_272_0, F_272, F_157_18, F_157_0, F_157, F_158_15, F_158_0, F_158, ↓reduceIte, if_true, if_false, ite_self, Option.bind_some, Option.map_some, wI_rd, wJ_rd, wI_2, wJ_1, wJ_22, I3_lit, I3_add, I3_mul, I3_lt, I3_le, I3_inj, I3_nn', I3_n1, I3_n2, m2m1, ldI_I, ldJ_I, ldZ_I, stI_I, stJ_I, true_or, or_true, false_or, or_false, true_and, and_true, false_and, and_false, not_true_eq_false, not_false_eq_true, reduceCtorEq, Nat.reduceEqDiff, Nat.lt_irrefl, Nat.not_lt_zero, Nat.le_refl, Nat.reduceLT, Nat.reduceLeDiff, eq_self, b2_if, b2_I, zbb, Bool.not_true, Bool.not_false, cond_true, cond_false, CP, CH, hi, hj, ec1, T1, T2, q, CP, hi]
        · simp (disch := omega) only [F_399_44, F_399_0, F_399, ↓reduceIte, if_true, if_false, ite_self, Option.bind_some, Option.map_some, wI_rd, wJ_rd, wI_2, wJ_1, wJ_22, I3_lit, I3_add, I3_mul, I3_lt, I3_le, I3_inj, I3_nn', I3_n1, I3_n2, m2m1, ldI_I, ldJ_I, ldZ_I, stI_I, stJ_I, true_or, or_true, false_or, or_false, true_and, and_true, false_and, and_false, not_true_eq_false, not_false_eq_true, reduceCtorEq, Nat.reduceEqDiff, Nat.lt_irrefl, Nat.not_lt_zero, Nat.le_refl, Nat.reduceLT, Nat.reduceLeDiff, eq_self, b2_if, b2_I, zbb, Bool.not_true, Bool.not_false, cond_true, cond_false, r2, RO, RH, hi, hj, ec, if_neg (fun z : h.1 76 b = h.1 76 c => q z.symm)]
    · refine ⟨0, h, h, ?_, ?_, I⟩
      · simp (disch := omega) only [F_272_22, F_272_0, F_272, ↓reduceIte, if_true, if_false, ite_self, Option.bind_some, Option.map_some, wI_rd, wJ_rd, wI_2, wJ_1, wJ_22, I3_lit, I3_add, I3_mul, I3_lt, I3_le, I3_inj, I3_nn', I3_n1, I3_n2, m2m1, ldI_I, ldJ_I, ldZ_I, stI_I, stJ_I, true_or, or_true, false_or, or_false, true_and, and_true, false_and, and_false, not_true_eq_false, not_false_eq_true, reduceCtorEq, Nat.reduceEqDiff, Nat.lt_irrefl, Nat.not_lt_zero, Nat.le_refl, Nat.reduceLT, Nat.reduceLeDiff, eq_self, b2_if, b2_I, zbb, Bool.not_true, Bool.not_false, cond_true, cond_false, CP, CH, hi, hj]
      · simp (disch := omega) only [F_399_44, F_399_0, F_399, ↓reduceIte, if_true, if_false, ite_self, Option.bind_some, Option.map_some, wI_rd, wJ_rd, wI_2, wJ_1, wJ_22, I3_lit, I3_add, I3_mul, I3_lt, I3_le, I3_inj, I3_nn', I3_n1, I3_n2, m2m1, ldI_I, ldJ_I, ldZ_I, stI_I, stJ_I, true_or, or_true, false_or, or_false, true_and, and_true, false_and, and_false, not_true_eq_false, not_false_eq_true, reduceCtorEq, Nat.reduceEqDiff, Nat.lt_irrefl, Nat.not_lt_zero, Nat.le_refl, Nat.reduceLT, Nat.reduceLeDiff, eq_self, b2_if, b2_I, zbb, Bool.not_true, Bool.not_false, cond_true, cond_false, r2, RO, RH, hi, hj]
  · refine ⟨0, h, h, ?_, ?_, I⟩
    · simp (disch := omega) only [F_272_22, F_272_0, F_272, ↓reduceIte, if_true, if_false, ite_self, Option.bind_some, Option.map_some, wI_rd, wJ_rd, wI_2, wJ_1, wJ_22, I3_lit, I3_add, I3_mul, I3_lt, I3_le, I3_inj, I3_nn', I3_n1, I3_n2, m2m1, ldI_I, ldJ_I, ldZ_I, stI_I, stJ_I, true_or, or_true, false_or, or_false, true_and, and_true, false_and, and_false, not_true_eq_false, not_false_eq_true, reduceCtorEq, Nat.reduceEqDiff, Nat.lt_irrefl, Nat.not_lt_zero, Nat.le_refl, Nat.reduceLT, Nat.reduceLeDiff, eq_self, b2_if, b2_I, zbb, Bool.not_true, Bool.not_false, cond_true, cond_false, CP, hi]
    · simp (disch := omega) only [F_399_44, F_399_0, F_399, ↓reduceIte, if_true, if_false, ite_self, Option.bind_some, Option.map_some, wI_rd, wJ_rd, wI_2, wJ_1, wJ_22, I3_lit, I3_add, I3_mul, I3_lt, I3_le, I3_inj, I3_nn', I3_n1, I3_n2, m2m1, ldI_I, ldJ_I, ldZ_I, stI_I, stJ_I, true_or, or_true, false_or, or_false, true_and, and_true, false_and, and_false, not_true_eq_false, not_false_eq_true, reduceCtorEq, Nat.reduceEqDiff, Nat.lt_irrefl, Nat.not_lt_zero, Nat.le_refl, Nat.reduceLT, Nat.reduceLeDiff, eq_self, b2_if, b2_I, zbb, Bool.not_true, Bool.not_false, cond_true, cond_false, r2, RO, hi]
theorem op_told {h : sm_H} (x : Int32) (I : I0 h) : ∃ v h1 h2, F_277 x h = some (v, h1) ∧ F_405 x h1 = some (v, h2) ∧ I0 h2 := by
  obtain ⟨wK, cK, wT, cT, wH, cH, wM, cM, cR, cP, cG, cO, cV, wX, cX, cXh, cU, cY, cF, cZ⟩ := id I
  obtain ⟨u1, u2, u3, u4, -⟩ := cU
  simp only [F_277_0, F_277, F_405_0, F_405, F_143_0, F_143, F_144_0, F_144, F_223_0, F_223, F_35_0, F_35, F_112_0, F_112, F_72_0, F_72, Option.bind_some, cX.1, cV.1, cT.1, cH.1, cM.1, u1, u2, u3, u4]
  have e : ∀ (v : Int32), ∃ w h1 h2, (some (v, h) : Option (Int32 × sm_H)) = some (w, h1) ∧ (some (v, h1) : Option (Int32 × sm_H)) = some (w, h2) ∧ I0 h2 := fun v => ⟨v, h, h, rfl, rfl, I⟩
  by_cases c0 : x = 0
  · subst c0; exact ⟨_, h, h, rfl, rfl, I⟩
  by_cases c1 : x = 1
  · subst c1; exact ⟨_, h, h, rfl, rfl, I⟩
  by_cases c2 : x = 2
  · subst c2; exact ⟨_, h, h, rfl, rfl, I⟩
  by_cases c3 : x = 3
  · subst c3; exact ⟨_, h, h, rfl, rfl, I⟩
  by_cases c4 : x = 4
  · subst c4; exact ⟨_, h, h, rfl, rfl, I⟩
  by_cases c5 : x = 5
  · subst c5; exact ⟨_, h, h, rfl, rfl, I⟩
  by_cases c6 : x = 6
  · subst c6; exact ⟨_, h, h, rfl, rfl, I⟩
  by_cases c7 : x = 7
  · subst c7; exact ⟨_, h, h, rfl, rfl, I⟩
  by_cases c8 : x = 8
  · subst c8; exact ⟨_, h, h, rfl, rfl, I⟩
  simp only [c0, c1, c2, c3, c4, c5, c6, c7, c8, if_false]
  exact ⟨-1, h, h, rfl, rfl, I⟩
theorem op_typeAbout {h : sm_H} (x y : Int32) (I : I0 h) : ∃ v h1 h2, F_262 x y h = some (v, h1) ∧ F_383 x y h1 = some (v, h2) ∧ I0 h2 := by
  obtain ⟨wK, cK, wT, cT, wH, cH, wM, cM, cR, cP, cG, cO, cV, wX, cX, cXh, cU, cY, cF, cZ⟩ := id I
  have e3 : nT h ≤ 300 := wT.1.2
  have RT := R_isT wT x
  have CT := C_hasT wT cT x
  rcases inR_c x (nT h) (by omega) with ⟨t, ht, rfl, hi⟩ | hi
  · have m1 : h.1 73 t = I3 (tM h t) := (wT.2.1 t ht).2.1.1
    have m2 : tM h t ≤ 10 := (wT.2.1 t ht).2.1.2
    by_cases c1 : y = -1
    · subst c1
      refine ⟨h.1 72 t, h, h, ?_, ?_, I⟩
      · simp only [F_262_43, F_262_0, F_262, if_true, C_tres wT cT ht, Option.bind_some]
      · simp (disch := omega) only [F_383_64, F_383_63, F_383_0, F_383, ↓reduceIte, if_true, if_false, ite_self, Option.bind_some, Option.map_some, wI_rd, wJ_rd, wI_2, wJ_1, wJ_22, I3_lit, I3_add, I3_mul, I3_lt, I3_le, I3_inj, I3_nn', I3_n1, I3_n2, m2m1, ldI_I, ldJ_I, ldZ_I, stI_I, stJ_I, true_or, or_true, false_or, or_false, true_and, and_true, false_and, and_false, not_true_eq_false, not_false_eq_true, reduceCtorEq, Nat.reduceEqDiff, Nat.lt_irrefl, Nat.not_lt_zero, Nat.le_refl, Nat.reduceLT, Nat.reduceLeDiff, eq_self, b2_if, b2_I, zbb, Bool.not_true, Bool.not_false, cond_true, cond_false, RT, hi]
    by_cases c2 : y = -2
    · subst c2
      refine ⟨h.1 73 t, h, h, ?_, ?_, I⟩
      · simp only [F_262_43, F_262_0, F_262, if_neg c1, if_true, C_tmany wT cT ht, CT, hi, Option.bind_some]; rfl
      · simp (disch := omega) only [F_383_64, F_383_63, F_383_0, F_383, ↓reduceIte, if_true, if_false, ite_self, Option.bind_some, Option.map_some, wI_rd, wJ_rd, wI_2, wJ_1, wJ_22, I3_lit, I3_add, I3_mul, I3_lt, I3_le, I3_inj, I3_nn', I3_n1, I3_n2, m2m1, ldI_I, ldJ_I, ldZ_I, stI_I, stJ_I, true_or, or_true, false_or, or_false, true_and, and_true, false_and, and_false, not_true_eq_false, not_false_eq_true, reduceCtorEq, Nat.reduceEqDiff, Nat.lt_irrefl, Nat.not_lt_zero, Nat.le_refl, Nat.reduceLT, Nat.reduceLeDiff, eq_self, b2_if, b2_I, zbb, Bool.not_true, Bool.not_false, cond_true, cond_false, RT, hi, if_neg c1, if_true]
    rcases inR_c y (tM h t) (by omega) with ⟨k, hk, rfl, hj⟩ | hj
    · refine ⟨h.1 74 (10 * t + k), h, h, ?_, ?_, I⟩
      · simp only [F_262_43, F_262_0, F_262, if_neg c1, if_neg c2, C_tplace wT cT ht hk, Option.bind_some]
      · simp (disch := omega) only [F_383_64, F_383_63, F_383_0, F_383, ↓reduceIte, if_true, if_false, ite_self, Option.bind_some, Option.map_some, wI_rd, wJ_rd, wI_2, wJ_1, wJ_22, I3_lit, I3_add, I3_mul, I3_lt, I3_le, I3_inj, I3_nn', I3_n1, I3_n2, m2m1, ldI_I, ldJ_I, ldZ_I, stI_I, stJ_I, true_or, or_true, false_or, or_false, true_and, and_true, false_and, and_false, not_true_eq_false, not_false_eq_true, reduceCtorEq, Nat.reduceEqDiff, Nat.lt_irrefl, Nat.not_lt_zero, Nat.le_refl, Nat.reduceLT, Nat.reduceLeDiff, eq_self, b2_if, b2_I, zbb, Bool.not_true, Bool.not_false, cond_true, cond_false, RT, hi, if_neg c1, if_neg c2, m1, show ¬ tM h t ≤ k by omega]
    · refine ⟨-1, h, h, ?_, ?_, I⟩
      · simp only [F_262_43, F_262_0, F_262, if_neg c1, if_neg c2, C_tplace_o wT cT ht hj, Option.bind_some]
      · simp only [F_383_64, F_383_63, F_383_0, F_383, RT, hi, Option.bind_some, if_neg c1, if_neg c2]
        rw [ldI_I (by omega) (by omega)]
        simp only [Option.bind_some, m1]
        rw [rng1 (n := tM h t) rfl (by omega), hj]
        rfl
  · refine ⟨-1, h, h, ?_, ?_, I⟩
    · by_cases c1 : y = -1
      · simp only [F_262_43, F_262_0, F_262, if_pos c1, C_tres_o wT cT hi, Option.bind_some]
      by_cases c2 : y = -2
      · simp only [F_262_43, F_262_0, F_262, if_neg c1, if_pos c2, CT, hi, Option.bind_some]; rfl
      simp only [F_262_43, F_262_0, F_262, if_neg c1, if_neg c2, C_tplace_n wT cT hi, Option.bind_some]
    · simp only [F_383_64, F_383_63, F_383_0, F_383, RT, hi]; rfl
theorem op_constant {h : sm_H} (x : Int32) (I : I0 h) : ∃ v h1 h2, F_266 x h = some (v, h1) ∧ F_386 x h1 = some (v, h2) ∧ I0 h2 := by
  obtain ⟨wK, cK, wT, cT, wH, cH, wM, cM, cR, cP, cG, cO, cV, wX, cX, cXh, cU, cY, cF, cZ⟩ := id I
  have e3 : nH h ≤ 500 := wH.1.2
  have RH := R_isHg wH x
  rcases inR_c x (nH h) (by omega) with ⟨a, ha, rfl, hi⟩ | hi
  · refine ⟨h.2.1 79 a, h, h, ?_, ?_, I⟩
    rotate_left
    · simp (disch := omega) only [F_386_18, F_386_0, F_386, ↓reduceIte, if_true, if_false, ite_self, Option.bind_some, Option.map_some, wI_rd, wJ_rd, wI_2, wJ_1, wJ_22, I3_lit, I3_add, I3_mul, I3_lt, I3_le, I3_inj, I3_nn', I3_n1, I3_n2, m2m1, ldI_I, ldJ_I, ldZ_I, stI_I, stJ_I, true_or, or_true, false_or, or_false, true_and, and_true, false_and, and_false, not_true_eq_false, not_false_eq_true, reduceCtorEq, Nat.reduceEqDiff, Nat.lt_irrefl, Nat.not_lt_zero, Nat.le_refl, Nat.reduceLT, Nat.reduceLeDiff, eq_self, b2_if, b2_I, zbb, Bool.not_true, Bool.not_false, cond_true, cond_false, RH, hi]
    · simp only [F_266_0, F_266, C_hc wH cH ha, Option.bind_some]
  · refine ⟨0, h, h, ?_, ?_, I⟩
    · simp only [F_266_0, F_266, C_hc_o wH cH hi, Option.bind_some]
    · simp only [F_386_18, F_386_0, F_386, RH, hi]; rfl
theorem op_handle {h : sm_H} (x y : Int32) (I : I0 h) : ∃ v h1 h2, F_265 x y h = some (v, h1) ∧ F_385 x y h1 = some (v, h2) ∧ I0 h2 := by
  obtain ⟨wK, cK, wT, cT, wH, cH, wM, cM, cR, cP, cG, cO, cV, wX, cX, cXh, cU, cY, cF, cZ⟩ := id I
  have e3 : nH h ≤ 500 := wH.1.2
  have RH := R_isHg wH x
  have CH := C_hasHg wH cH x
  rcases inR_c x (nH h) (by omega) with ⟨a, ha, rfl, hi⟩ | hi
  · have m1 : h.1 80 a = I3 (pm h a) := (wH.2 a ha).2.2.2.1
    have m2 : pm h a ≤ 20 := (wH.2 a ha).2.2.2.2
    rcases I3_cases y with ⟨k, hk, rfl⟩ | hy
    · rcases (show k = 0 ∨ k = 1 ∨ k = 2 ∨ k = 3 ∨ k = 4 ∨ 5 ≤ k by omega) with rfl | rfl | rfl | rfl | rfl | h5
      · refine ⟨h.1 76 a, h, h, ?_, ?_, I⟩
        · simp (disch := omega) only [F_265_15, F_265_0, F_265, ↓reduceIte, if_true, if_false, ite_self, Option.bind_some, Option.map_some, wI_rd, wJ_rd, wI_2, wJ_1, wJ_22, I3_lit, I3_add, I3_mul, I3_lt, I3_le, I3_inj, I3_nn', I3_n1, I3_n2, m2m1, ldI_I, ldJ_I, ldZ_I, stI_I, stJ_I, true_or, or_true, false_or, or_false, true_and, and_true, false_and, and_false, not_true_eq_false, not_false_eq_true, reduceCtorEq, Nat.reduceEqDiff, Nat.lt_irrefl, Nat.not_lt_zero, Nat.le_refl, Nat.reduceLT, Nat.reduceLeDiff, eq_self, b2_if, b2_I, zbb, Bool.not_true, Bool.not_false, cond_true, cond_false, CH, hi, C_typeOf wH cH ha]
        · simp (disch := omega) only [F_385_113, F_385_112, F_385_0, F_385, ↓reduceIte, if_true, if_false, ite_self, Option.bind_some, Option.map_some, wI_rd, wJ_rd, wI_2, wJ_1, wJ_22, I3_lit, I3_add, I3_mul, I3_lt, I3_le, I3_inj, I3_nn', I3_n1, I3_n2, m2m1, ldI_I, ldJ_I, ldZ_I, stI_I, stJ_I, true_or, or_true, false_or, or_false, true_and, and_true, false_and, and_false, not_true_eq_false, not_false_eq_true, reduceCtorEq, Nat.reduceEqDiff, Nat.lt_irrefl, Nat.not_lt_zero, Nat.le_refl, Nat.reduceLT, Nat.reduceLeDiff, eq_self, b2_if, b2_I, zbb, Bool.not_true, Bool.not_false, cond_true, cond_false, RH, hi]
      · refine ⟨h.1 75 a, h, h, ?_, ?_, I⟩
        · simp (disch := omega) only [F_265_15, F_265_0, F_265, ↓reduceIte, if_true, if_false, ite_self, Option.bind_some, Option.map_some, wI_rd, wJ_rd, wI_2, wJ_1, wJ_22, I3_lit, I3_add, I3_mul, I3_lt, I3_le, I3_inj, I3_nn', I3_n1, I3_n2, m2m1, ldI_I, ldJ_I, ldZ_I, stI_I, stJ_I, true_or, or_true, false_or, or_false, true_and, and_true, false_and, and_false, not_true_eq_false, not_false_eq_true, reduceCtorEq, Nat.reduceEqDiff, Nat.lt_irrefl, Nat.not_lt_zero, Nat.le_refl, Nat.reduceLT, Nat.reduceLeDiff, eq_self, b2_if, b2_I, zbb, Bool.not_true, Bool.not_false, cond_true, cond_false, CH, hi, C_form wH cH ha, Nat.zero_le]
        · simp (disch := omega) only [F_385_113, F_385_112, F_385_0, F_385, ↓reduceIte, if_true, if_false, ite_self, Option.bind_some, Option.map_some, wI_rd, wJ_rd, wI_2, wJ_1, wJ_22, I3_lit, I3_add, I3_mul, I3_lt, I3_le, I3_inj, I3_nn', I3_n1, I3_n2, m2m1, ldI_I, ldJ_I, ldZ_I, stI_I, stJ_I, true_or, or_true, false_or, or_false, true_and, and_true, false_and, and_false, not_true_eq_false, not_false_eq_true, reduceCtorEq, Nat.reduceEqDiff, Nat.lt_irrefl, Nat.not_lt_zero, Nat.le_refl, Nat.reduceLT, Nat.reduceLeDiff, eq_self, b2_if, b2_I, zbb, Bool.not_true, Bool.not_false, cond_true, cond_false, RH, hi]
      · refine ⟨h.1 77 a, h, h, ?_, ?_, I⟩
        · simp (disch := omega) only [F_265_15, F_265_0, F_265, ↓reduceIte, if_true, if_false, ite_self, Option.bind_some, Option.map_some, wI_rd, wJ_rd, wI_2, wJ_1, wJ_22, I3_lit, I3_add, I3_mul, I3_lt, I3_le, I3_inj, I3_nn', I3_n1, I3_n2, m2m1, ldI_I, ldJ_I, ldZ_I, stI_I, stJ_I, true_or, or_true, false_or, or_false, true_and, and_true, false_and, and_false, not_true_eq_false, not_false_eq_true, reduceCtorEq, Nat.reduceEqDiff, Nat.lt_irrefl, Nat.not_lt_zero, Nat.le_refl, Nat.reduceLT, Nat.reduceLeDiff, eq_self, b2_if, b2_I, zbb, Bool.not_true, Bool.not_false, cond_true, cond_false, CH, hi, C_ha wH cH ha, Nat.zero_le]
        · simp (disch := omega) only [F_385_113, F_385_112, F_385_0, F_385, ↓reduceIte, if_true, if_false, ite_self, Option.bind_some, Option.map_some, wI_rd, wJ_rd, wI_2, wJ_1, wJ_22, I3_lit, I3_add, I3_mul, I3_lt, I3_le, I3_inj, I3_nn', I3_n1, I3_n2, m2m1, ldI_I, ldJ_I, ldZ_I, stI_I, stJ_I, true_or, or_true, false_or, or_false, true_and, and_true, false_and, and_false, not_true_eq_false, not_false_eq_true, reduceCtorEq, Nat.reduceEqDiff, Nat.lt_irrefl, Nat.not_lt_zero, Nat.le_refl, Nat.reduceLT, Nat.reduceLeDiff, eq_self, b2_if, b2_I, zbb, Bool.not_true, Bool.not_false, cond_true, cond_false, RH, hi]
      · refine ⟨h.1 78 a, h, h, ?_, ?_, I⟩
        · simp (disch := omega) only [F_265_15, F_265_0, F_265, ↓reduceIte, if_true, if_false, ite_self, Option.bind_some, Option.map_some, wI_rd, wJ_rd, wI_2, wJ_1, wJ_22, I3_lit, I3_add, I3_mul, I3_lt, I3_le, I3_inj, I3_nn', I3_n1, I3_n2, m2m1, ldI_I, ldJ_I, ldZ_I, stI_I, stJ_I, true_or, or_true, false_or, or_false, true_and, and_true, false_and, and_false, not_true_eq_false, not_false_eq_true, reduceCtorEq, Nat.reduceEqDiff, Nat.lt_irrefl, Nat.not_lt_zero, Nat.le_refl, Nat.reduceLT, Nat.reduceLeDiff, eq_self, b2_if, b2_I, zbb, Bool.not_true, Bool.not_false, cond_true, cond_false, CH, hi, C_hb wH cH ha, Nat.zero_le]
        · simp (disch := omega) only [F_385_113, F_385_112, F_385_0, F_385, ↓reduceIte, if_true, if_false, ite_self, Option.bind_some, Option.map_some, wI_rd, wJ_rd, wI_2, wJ_1, wJ_22, I3_lit, I3_add, I3_mul, I3_lt, I3_le, I3_inj, I3_nn', I3_n1, I3_n2, m2m1, ldI_I, ldJ_I, ldZ_I, stI_I, stJ_I, true_or, or_true, false_or, or_false, true_and, and_true, false_and, and_false, not_true_eq_false, not_false_eq_true, reduceCtorEq, Nat.reduceEqDiff, Nat.lt_irrefl, Nat.not_lt_zero, Nat.le_refl, Nat.reduceLT, Nat.reduceLeDiff, eq_self, b2_if, b2_I, zbb, Bool.not_true, Bool.not_false, cond_true, cond_false, RH, hi]
      · refine ⟨h.1 80 a, h, h, ?_, ?_, I⟩
        · simp (disch := omega) only [F_265_15, F_265_0, F_265, ↓reduceIte, if_true, if_false, ite_self, Option.bind_some, Option.map_some, wI_rd, wJ_rd, wI_2, wJ_1, wJ_22, I3_lit, I3_add, I3_mul, I3_lt, I3_le, I3_inj, I3_nn', I3_n1, I3_n2, m2m1, ldI_I, ldJ_I, ldZ_I, stI_I, stJ_I, true_or, or_true, false_or, or_false, true_and, and_true, false_and, and_false, not_true_eq_false, not_false_eq_true, reduceCtorEq, Nat.reduceEqDiff, Nat.lt_irrefl, Nat.not_lt_zero, Nat.le_refl, Nat.reduceLT, Nat.reduceLeDiff, eq_self, b2_if, b2_I, zbb, Bool.not_true, Bool.not_false, cond_true, cond_false, CH, hi, C_partsOf wH cH ha, Nat.zero_le]
        · simp (disch := omega) only [F_385_113, F_385_112, F_385_0, F_385, ↓reduceIte, if_true, if_false, ite_self, Option.bind_some, Option.map_some, wI_rd, wJ_rd, wI_2, wJ_1, wJ_22, I3_lit, I3_add, I3_mul, I3_lt, I3_le, I3_inj, I3_nn', I3_n1, I3_n2, m2m1, ldI_I, ldJ_I, ldZ_I, stI_I, stJ_I, true_or, or_true, false_or, or_false, true_and, and_true, false_and, and_false, not_true_eq_false, not_false_eq_true, reduceCtorEq, Nat.reduceEqDiff, Nat.lt_irrefl, Nat.not_lt_zero, Nat.le_refl, Nat.reduceLT, Nat.reduceLeDiff, eq_self, b2_if, b2_I, zbb, Bool.not_true, Bool.not_false, cond_true, cond_false, RH, hi]
      · have n0 : ¬ k = 0 := by omega
        have n1 : ¬ k = 1 := by omega
        have n2 : ¬ k = 2 := by omega
        have n3 : ¬ k = 3 := by omega
        have n4 : ¬ k = 4 := by omega
        by_cases c : k - 5 < pm h a
        · have hx : 24 * a + k - 5 = 24 * a + (k - 5) := by omega
          refine ⟨h.1 81 (24 * a + (k - 5)), h, h, ?_, ?_, I⟩
          · simp (disch := omega) only [F_265_15, F_265_0, F_265, ↓reduceIte, if_true, if_false, ite_self, Option.bind_some, Option.map_some, wI_rd, wJ_rd, wI_2, wJ_1, wJ_22, I3_lit, I3_add, I3_mul, I3_lt, I3_le, I3_inj, I3_nn', I3_n1, I3_n2, m2m1, ldI_I, ldJ_I, ldZ_I, stI_I, stJ_I, true_or, or_true, false_or, or_false, true_and, and_true, false_and, and_false, not_true_eq_false, not_false_eq_true, reduceCtorEq, Nat.reduceEqDiff, Nat.lt_irrefl, Nat.not_lt_zero, Nat.le_refl, Nat.reduceLT, Nat.reduceLeDiff, eq_self, b2_if, b2_I, zbb, Bool.not_true, Bool.not_false, cond_true, cond_false, CH, hi, n0, n1, n2, n3, n4, I3_sub, C_part wH cH ha c, Nat.zero_le]
          · simp (disch := omega) only [F_385_113, F_385_112, F_385_0, F_385, ↓reduceIte, if_true, if_false, ite_self, Option.bind_some, Option.map_some, wI_rd, wJ_rd, wI_2, wJ_1, wJ_22, I3_lit, I3_add, I3_mul, I3_lt, I3_le, I3_inj, I3_nn', I3_n1, I3_n2, m2m1, ldI_I, ldJ_I, ldZ_I, stI_I, stJ_I, true_or, or_true, false_or, or_false, true_and, and_true, false_and, and_false, not_true_eq_false, not_false_eq_true, reduceCtorEq, Nat.reduceEqDiff, Nat.lt_irrefl, Nat.not_lt_zero, Nat.le_refl, Nat.reduceLT, Nat.reduceLeDiff, eq_self, b2_if, b2_I, zbb, Bool.not_true, Bool.not_false, cond_true, cond_false, RH, hi, n0, n1, n2, n3, n4, show ¬ k < 5 by omega, m1, I3_sub, hx, show ¬ pm h a ≤ k - 5 by omega]
        · have ho : inR (I3 (k - 5)) (pm h a) = false := by rw [inR_I (by omega)]; simp [c]
          refine ⟨-1, h, h, ?_, ?_, I⟩
          · simp (disch := omega) only [F_265_15, F_265_0, F_265, ↓reduceIte, if_true, if_false, ite_self, Option.bind_some, Option.map_some, wI_rd, wJ_rd, wI_2, wJ_1, wJ_22, I3_lit, I3_add, I3_mul, I3_lt, I3_le, I3_inj, I3_nn', I3_n1, I3_n2, m2m1, ldI_I, ldJ_I, ldZ_I, stI_I, stJ_I, true_or, or_true, false_or, or_false, true_and, and_true, false_and, and_false, not_true_eq_false, not_false_eq_true, reduceCtorEq, Nat.reduceEqDiff, Nat.lt_irrefl, Nat.not_lt_zero, Nat.le_refl, Nat.reduceLT, Nat.reduceLeDiff, eq_self, b2_if, b2_I, zbb, Bool.not_true, Bool.not_false, cond_true, cond_false, CH, hi, n0, n1, n2, n3, n4, I3_sub, C_part_o wH cH ha ho, Nat.zero_le]
          · simp (disch := omega) only [F_385_113, F_385_112, F_385_0, F_385, ↓reduceIte, if_true, if_false, ite_self, Option.bind_some, Option.map_some, wI_rd, wJ_rd, wI_2, wJ_1, wJ_22, I3_lit, I3_add, I3_mul, I3_lt, I3_le, I3_inj, I3_nn', I3_n1, I3_n2, m2m1, ldI_I, ldJ_I, ldZ_I, stI_I, stJ_I, true_or, or_true, false_or, or_false, true_and, and_true, false_and, and_false, not_true_eq_false, not_false_eq_true, reduceCtorEq, Nat.reduceEqDiff, Nat.lt_irrefl, Nat.not_lt_zero, Nat.le_refl, Nat.reduceLT, Nat.reduceLeDiff, eq_self, b2_if, b2_I, zbb, Bool.not_true, Bool.not_false, cond_true, cond_false, RH, hi, n0, n1, n2, n3, n4, show ¬ k < 5 by omega, m1, I3_sub, show pm h a ≤ k - 5 by omega]
    · have nn : ∀ k : Nat, k < 2147483648 → (y = I3 k) = False := fun k hk => eq_false (neg_ne_I3 hy hk)
      refine ⟨-1, h, h, ?_, ?_, I⟩
      · simp (disch := omega) only [F_265_15, F_265_0, F_265, ↓reduceIte, if_true, if_false, ite_self, Option.bind_some, Option.map_some, wI_rd, wJ_rd, wI_2, wJ_1, wJ_22, I3_lit, I3_add, I3_mul, I3_lt, I3_le, I3_inj, I3_nn', I3_n1, I3_n2, m2m1, ldI_I, ldJ_I, ldZ_I, stI_I, stJ_I, true_or, or_true, false_or, or_false, true_and, and_true, false_and, and_false, not_true_eq_false, not_false_eq_true, reduceCtorEq, Nat.reduceEqDiff, Nat.lt_irrefl, Nat.not_lt_zero, Nat.le_refl, Nat.reduceLT, Nat.reduceLeDiff, eq_self, b2_if, b2_I, zbb, Bool.not_true, Bool.not_false, cond_true, cond_false, CH, hi, show (I3 0 ≤ y) = False from eq_false (Int32.not_le.mpr hy)]
      · have l5 : y < I3 5 := neg_lt_I3 hy (by decide)
        simp (disch := omega) only [F_385_113, F_385_112, F_385_0, F_385, ↓reduceIte, if_true, if_false, ite_self, Option.bind_some, Option.map_some, wI_rd, wJ_rd, wI_2, wJ_1, wJ_22, I3_lit, I3_add, I3_mul, I3_lt, I3_le, I3_inj, I3_nn', I3_n1, I3_n2, m2m1, ldI_I, ldJ_I, ldZ_I, stI_I, stJ_I, true_or, or_true, false_or, or_false, true_and, and_true, false_and, and_false, not_true_eq_false, not_false_eq_true, reduceCtorEq, Nat.reduceEqDiff, Nat.lt_irrefl, Nat.not_lt_zero, Nat.le_refl, Nat.reduceLT, Nat.reduceLeDiff, eq_self, b2_if, b2_I, zbb, Bool.not_true, Bool.not_false, cond_true, cond_false, RH, hi, nn, l5]
  · refine ⟨-1, h, h, ?_, ?_, I⟩
    · simp only [F_265_15, F_265_0, F_265, CH, hi]; rfl
    · simp only [F_385_113, F_385_112, F_385_0, F_385, RH, hi]; rfl
