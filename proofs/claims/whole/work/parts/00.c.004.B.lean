theorem op_refused {h : sm_H} (I : I0 h) : ∃ v h1 h2, F_270 h = some (v, h1) ∧ F_397 h1 = some (v, h2) ∧ I0 h2 := by
  have cZ : cZ h h := I.2.2.2.2.2.2.2.2.2.2.2.2.2.2.2.2.2.2.2.1
  refine ⟨_, h, h, rfl, ?_, I⟩
  show some (h.1 67 19, h) = some (h.1 0 12, h)
  rw [show h.1 0 12 = h.1 67 19 from cZ.1]
theorem op_pass {h : sm_H} (x : Int64) (I : I0 h) : ∃ v h1 h2, F_275 x h = some (v, h1) ∧ F_402 x h1 = some (v, h2) ∧ I0 h2 := by
  obtain ⟨wK, cK, wT, cT, wH, cH, wM, cM, cR, cP, cG, cO, cV, wX, cX, cXh, cU, cY, cF, cZ⟩ := id I
  obtain ⟨r1, ⟨r2, r3⟩, r4⟩ := cP
  generalize hn : tn (h.1 67 68) = n at r2 r3
  by_cases c : n = 10
  · refine ⟨0, h, h, ?_, ?_, I⟩
    · simp (disch := omega) only [F_275_0, F_275, ↓reduceIte, if_true, if_false, ite_self, Option.bind_some, Option.map_some, wI_rd, wJ_rd, wI_2, wJ_1, wJ_22, I3_lit, I3_add, I3_mul, I3_lt, I3_le, I3_inj, I3_nn', I3_n1, I3_n2, m2m1, ldI_I, ldJ_I, ldZ_I, stI_I, stJ_I, true_or, or_true, false_or, or_false, true_and, and_true, false_and, and_false, not_true_eq_false, not_false_eq_true, reduceCtorEq, Nat.reduceEqDiff, Nat.lt_irrefl, Nat.not_lt_zero, Nat.le_refl, Nat.reduceLT, Nat.reduceLeDiff, eq_self, b2_if, b2_I, zbb, Bool.not_true, Bool.not_false, cond_true, cond_false, r1, r2, c]
    · simp (disch := omega) only [F_402_0, F_402, ↓reduceIte, if_true, if_false, ite_self, Option.bind_some, Option.map_some, wI_rd, wJ_rd, wI_2, wJ_1, wJ_22, I3_lit, I3_add, I3_mul, I3_lt, I3_le, I3_inj, I3_nn', I3_n1, I3_n2, m2m1, ldI_I, ldJ_I, ldZ_I, stI_I, stJ_I, true_or, or_true, false_or, or_false, true_and, and_true, false_and, and_false, not_true_eq_false, not_false_eq_true, reduceCtorEq, Nat.reduceEqDiff, Nat.lt_irrefl, Nat.not_lt_zero, Nat.le_refl, Nat.reduceLT, Nat.reduceLeDiff, eq_self, b2_if, b2_I, zbb, Bool.not_true, Bool.not_false, cond_true, cond_false, r2, c]
  · refine ⟨1, sm_wI (sm_wJ h 66 n x) 0 11 (I3 (n + 1)), sm_wI (sm_wJ (sm_wI (sm_wJ h 66 n x) 0 11 (I3 (n + 1))) 110 n x) 67 68 (I3 (n + 1)), ?_, ?_, wK, cK, wT, cT, wH, cH, wM, cM, cR, ⟨rfl, cnt_up (by omega) (by decide), fun k hk => ?_⟩, cG, cO, cV, wX, cX, cXh_fr (by repeat first | exact hi_rfl | refine hi_wI ?_ (by decide) | refine hi_wJ ?_ (by decide)) cXh, cU, cY, cF, cZ⟩
    · simp (disch := omega) only [F_275_0, F_275, ↓reduceIte, if_true, if_false, ite_self, Option.bind_some, Option.map_some, wI_rd, wJ_rd, wI_2, wJ_1, wJ_22, I3_lit, I3_add, I3_mul, I3_lt, I3_le, I3_inj, I3_nn', I3_n1, I3_n2, m2m1, ldI_I, ldJ_I, ldZ_I, stI_I, stJ_I, true_or, or_true, false_or, or_false, true_and, and_true, false_and, and_false, not_true_eq_false, not_false_eq_true, reduceCtorEq, Nat.reduceEqDiff, Nat.lt_irrefl, Nat.not_lt_zero, Nat.le_refl, Nat.reduceLT, Nat.reduceLeDiff, eq_self, b2_if, b2_I, zbb, Bool.not_true, Bool.not_false, cond_true, cond_false, r1, r2, c, show n < 10 by omega]
    · simp (disch := omega) only [F_402_0, F_402, ↓reduceIte, if_true, if_false, ite_self, Option.bind_some, Option.map_some, wI_rd, wJ_rd, wI_2, wJ_1, wJ_22, I3_lit, I3_add, I3_mul, I3_lt, I3_le, I3_inj, I3_nn', I3_n1, I3_n2, m2m1, ldI_I, ldJ_I, ldZ_I, stI_I, stJ_I, true_or, or_true, false_or, or_false, true_and, and_true, false_and, and_false, not_true_eq_false, not_false_eq_true, reduceCtorEq, Nat.reduceEqDiff, Nat.lt_irrefl, Nat.not_lt_zero, Nat.le_refl, Nat.reduceLT, Nat.reduceLeDiff, eq_self, b2_if, b2_I, zbb, Bool.not_true, Bool.not_false, cond_true, cond_false, r2, c]
    · show (if k = n then x else h.2.1 66 k) = (if k = n then x else h.2.1 110 k)
      rw [r4 k hk]
theorem op_target {h : sm_H} (x : Int32) (I : I0 h) : ∃ v h1 h2, F_271 x h = some (v, h1) ∧ F_398 x h1 = some (v, h2) ∧ I0 h2 := by
  obtain ⟨wK, cK, wT, cT, wH, cH, wM, cM, cR, cP, cG, cO, cV, wX, cX, cXh, cU, cY, cF, cZ⟩ := id I
  obtain ⟨r1, ⟨r2, r3⟩, r4, r5⟩ := cG
  obtain ⟨⟨e2, e3⟩, -⟩ := id wH
  have e3 : nH h ≤ 500 := e3
  have e1 : h.1 10 11 = I3 (nH h) := cH.1.trans e2
  have r5 : ∀ k, k < tn (h.1 67 35) → ∃ a, a < nH h ∧ h.1 92 k = I3 a := r5
  generalize hn : tn (h.1 67 35) = n at r2 r3 r5
  have CH := C_hasH e1 e3 x
  have RH := R_isH e2 e3 x
  rcases inR_c x (nH h) (by omega) with ⟨a, ha, rfl, hi⟩ | hi
  · by_cases c : n = 80
    · refine ⟨-1, h, h, ?_, ?_, I⟩
      · simp only [F_271_23, F_271_0, F_271, CH, hi]; simp (disch := omega) only [F_155_0, F_155, ↓reduceIte, if_true, if_false, ite_self, Option.bind_some, Option.map_some, wI_rd, wJ_rd, wI_2, wJ_1, wJ_22, I3_lit, I3_add, I3_mul, I3_lt, I3_le, I3_inj, I3_nn', I3_n1, I3_n2, m2m1, ldI_I, ldJ_I, ldZ_I, stI_I, stJ_I, true_or, or_true, false_or, or_false, true_and, and_true, false_and, and_false, not_true_eq_false, not_false_eq_true, reduceCtorEq, Nat.reduceEqDiff, Nat.lt_irrefl, Nat.not_lt_zero, Nat.le_refl, Nat.reduceLT, Nat.reduceLeDiff, eq_self, b2_if, b2_I, zbb, Bool.not_true, Bool.not_false, cond_true, cond_false, r1, r2, c]
      · simp (disch := omega) only [F_398_17, F_398_0, F_398, ↓reduceIte, if_true, if_false, ite_self, Option.bind_some, Option.map_some, wI_rd, wJ_rd, wI_2, wJ_1, wJ_22, I3_lit, I3_add, I3_mul, I3_lt, I3_le, I3_inj, I3_nn', I3_n1, I3_n2, m2m1, ldI_I, ldJ_I, ldZ_I, stI_I, stJ_I, true_or, or_true, false_or, or_false, true_and, and_true, false_and, and_false, not_true_eq_false, not_false_eq_true, reduceCtorEq, Nat.reduceEqDiff, Nat.lt_irrefl, Nat.not_lt_zero, Nat.le_refl, Nat.reduceLT, Nat.reduceLeDiff, eq_self, b2_if, b2_I, zbb, Bool.not_true, Bool.not_false, cond_true, cond_false, r2, c]
    · skip
      have B0 := I1_base I
      have hn' : nG h = n := hn
      have wF : wfF (sm_wI (sm_wI (sm_wI (sm_wI h 32 n (I3 a)) 21 8 (I3 (n + 1))) 92 n (I3 a)) 67 35 (I3 (n + 1))) := by
        have e92 : ∀ k, k < nG h → (sm_wI (sm_wI (sm_wI (sm_wI h 32 n (I3 a)) 21 8 (I3 (n + 1))) 92 n (I3 a)) 67 35 (I3 (n + 1))).1 92 k = h.1 92 k := fun k hk => if_neg (by omega)
        refine wfF_ext B0 (fun k hk => by rw [e92 k hk]; exact B0.g k hk) ⟨Nat.le_refl _, fun _ _ => rfl, Nat.le_refl _, fun _ _ => rfl, ⟨Nat.le_refl _, fun _ _ => ⟨rfl, rfl, fun _ _ => rfl⟩⟩, Nat.le_refl _, fun _ _ => rfl, ?_, fun k hk => by rw [e92 k hk]; rfl, Nat.le_refl _, ⟨Nat.le_refl _, fun _ _ => ⟨rfl, rfl, rfl, rfl, rfl, rfl⟩⟩⟩ ⟨rfl, fun _ _ => ⟨rfl, rfl, rfl, rfl, rfl⟩, fun _ _ _ _ => rfl⟩ ⟨rfl, fun _ _ => rfl⟩ cZ.2
        show nG h ≤ (I3 (n + 1)).toNatClampNeg
        rw [I3_clamp (by omega)]; omega
      refine ⟨I3 n, sm_wI (sm_wI h 32 n (I3 a)) 21 8 (I3 (n + 1)), sm_wI (sm_wI (sm_wI (sm_wI h 32 n (I3 a)) 21 8 (I3 (n + 1))) 92 n (I3 a)) 67 35 (I3 (n + 1)), ?_, ?_, wK, cK, wT, cT, wH, cH, wM, cM, cR, cP, ⟨rfl, cnt_up (by omega) (by decide), fun k hk => ?_, fun k hk => ?_⟩, cO, cV, wX, cX, cXh_fr (by repeat first | exact hi_rfl | refine hi_wI ?_ (by decide) | refine hi_wJ ?_ (by decide)) cXh, cU, cY, cF, cZ.1, wF⟩
      · simp only [F_271_23, F_271_0, F_271, CH, hi]; simp (disch := omega) only [F_155_0, F_155, ↓reduceIte, if_true, if_false, ite_self, Option.bind_some, Option.map_some, wI_rd, wJ_rd, wI_2, wJ_1, wJ_22, I3_lit, I3_add, I3_mul, I3_lt, I3_le, I3_inj, I3_nn', I3_n1, I3_n2, m2m1, ldI_I, ldJ_I, ldZ_I, stI_I, stJ_I, true_or, or_true, false_or, or_false, true_and, and_true, false_and, and_false, not_true_eq_false, not_false_eq_true, reduceCtorEq, Nat.reduceEqDiff, Nat.lt_irrefl, Nat.not_lt_zero, Nat.le_refl, Nat.reduceLT, Nat.reduceLeDiff, eq_self, b2_if, b2_I, zbb, Bool.not_true, Bool.not_false, cond_true, cond_false, r1, r2, c, show n < 80 by omega, I3_sub, Nat.add_sub_cancel]
      · have RH' : F_304 (I3 a) (sm_wI (sm_wI h 32 n (I3 a)) 21 8 (I3 (n + 1))) = _ := R_isH (h := sm_wI (sm_wI h 32 n (I3 a)) 21 8 (I3 (n + 1))) e2 e3 (I3 a)
        simp only [F_398_17, F_398_0, F_398, RH', hi]
        simp (disch := omega) only [↓reduceIte, if_true, if_false, ite_self, Option.bind_some, Option.map_some, wI_rd, wJ_rd, wI_2, wJ_1, wJ_22, I3_lit, I3_add, I3_mul, I3_lt, I3_le, I3_inj, I3_nn', I3_n1, I3_n2, m2m1, ldI_I, ldJ_I, ldZ_I, stI_I, stJ_I, true_or, or_true, false_or, or_false, true_and, and_true, false_and, and_false, not_true_eq_false, not_false_eq_true, reduceCtorEq, Nat.reduceEqDiff, Nat.lt_irrefl, Nat.not_lt_zero, Nat.le_refl, Nat.reduceLT, Nat.reduceLeDiff, eq_self, b2_if, b2_I, zbb, Bool.not_true, Bool.not_false, cond_true, cond_false, r2, c, I3_sub, Nat.add_sub_cancel]
      · exact upd_eq (p := h.1 32) (q := h.1 92) (y := 0) (r4 k hk)
      · have hk : k < tn (I3 (n + 1)) := hk
        unfold tn at hk
        rw [I3_clamp (by omega)] at hk
        show ∃ b, b < nH h ∧ (if k = n then I3 a else h.1 92 k) = I3 b
        by_cases q : k = n
        · exact ⟨a, ha, if_pos q⟩
        · rw [if_neg q]; exact r5 k (by omega)
  · refine ⟨-1, h, h, ?_, ?_, I⟩
    · simp only [F_271_23, F_271_0, F_271, CH, hi]; simp (disch := omega) only [↓reduceIte, if_true, if_false, ite_self, Option.bind_some, Option.map_some, wI_rd, wJ_rd, wI_2, wJ_1, wJ_22, I3_lit, I3_add, I3_mul, I3_lt, I3_le, I3_inj, I3_nn', I3_n1, I3_n2, m2m1, ldI_I, ldJ_I, ldZ_I, stI_I, stJ_I, true_or, or_true, false_or, or_false, true_and, and_true, false_and, and_false, not_true_eq_false, not_false_eq_true, reduceCtorEq, Nat.reduceEqDiff, Nat.lt_irrefl, Nat.not_lt_zero, Nat.le_refl, Nat.reduceLT, Nat.reduceLeDiff, eq_self, b2_if, b2_I, zbb, Bool.not_true, Bool.not_false, cond_true, cond_false]
    · by_cases c : n = 80
      · simp (disch := omega) only [F_398_17, F_398_0, F_398, ↓reduceIte, if_true, if_false, ite_self, Option.bind_some, Option.map_some, wI_rd, wJ_rd, wI_2, wJ_1, wJ_22, I3_lit, I3_add, I3_mul, I3_lt, I3_le, I3_inj, I3_nn', I3_n1, I3_n2, m2m1, ldI_I, ldJ_I, ldZ_I, stI_I, stJ_I, true_or, or_true, false_or, or_false, true_and, and_true, false_and, and_false, not_true_eq_false, not_false_eq_true, reduceCtorEq, Nat.reduceEqDiff, Nat.lt_irrefl, Nat.not_lt_zero, Nat.le_refl, Nat.reduceLT, Nat.reduceLeDiff, eq_self, b2_if, b2_I, zbb, Bool.not_true, Bool.not_false, cond_true, cond_false, r2, c]
      · simp only [F_398_17, F_398_0, F_398, RH, hi]; simp (disch := omega) only [↓reduceIte, if_true, if_false, ite_self, Option.bind_some, Option.map_some, wI_rd, wJ_rd, wI_2, wJ_1, wJ_22, I3_lit, I3_add, I3_mul, I3_lt, I3_le, I3_inj, I3_nn', I3_n1, I3_n2, m2m1, ldI_I, ldJ_I, ldZ_I, stI_I, stJ_I, true_or, or_true, false_or, or_false, true_and, and_true, false_and, and_false, not_true_eq_false, not_false_eq_true, reduceCtorEq, Nat.reduceEqDiff, Nat.lt_irrefl, Nat.not_lt_zero, Nat.le_refl, Nat.reduceLT, Nat.reduceLeDiff, eq_self, b2_if, b2_I, zbb, Bool.not_true, Bool.not_false, cond_true, cond_false, r2, c]
theorem op_point {h : sm_H} (I : I0 h) : ∃ v h1 h2, F_273 h = some (v, h1) ∧ F_400 h1 = some (v, h2) ∧ I0 h2 := by
  obtain ⟨wK, cK, wT, cT, wH, cH, wM, cM, cR, cP, cG, cO, cV, wX, cX, cXh, cU, cY, cF, cZ⟩ := id I
  obtain ⟨r1, ⟨r2, r3⟩, r4, r5⟩ := cO
  generalize hn : tn (h.1 67 37) = n at r2 r3
  by_cases c : n = 20
  · refine ⟨-1, h, h, ?_, ?_, I⟩
    · simp (disch := omega) only [F_273_0, F_273, F_159_0, F_159, ↓reduceIte, if_true, if_false, ite_self, Option.bind_some, Option.map_some, wI_rd, wJ_rd, wI_2, wJ_1, wJ_22, I3_lit, I3_add, I3_mul, I3_lt, I3_le, I3_inj, I3_nn', I3_n1, I3_n2, m2m1, ldI_I, ldJ_I, ldZ_I, stI_I, stJ_I, true_or, or_true, false_or, or_false, true_and, and_true, false_and, and_false, not_true_eq_false, not_false_eq_true, reduceCtorEq, Nat.reduceEqDiff, Nat.lt_irrefl, Nat.not_lt_zero, Nat.le_refl, Nat.reduceLT, Nat.reduceLeDiff, eq_self, b2_if, b2_I, zbb, Bool.not_true, Bool.not_false, cond_true, cond_false, r1, r2, c]
    · simp (disch := omega) only [F_400_0, F_400, ↓reduceIte, if_true, if_false, ite_self, Option.bind_some, Option.map_some, wI_rd, wJ_rd, wI_2, wJ_1, wJ_22, I3_lit, I3_add, I3_mul, I3_lt, I3_le, I3_inj, I3_nn', I3_n1, I3_n2, m2m1, ldI_I, ldJ_I, ldZ_I, stI_I, stJ_I, true_or, or_true, false_or, or_false, true_and, and_true, false_and, and_false, not_true_eq_false, not_false_eq_true, reduceCtorEq, Nat.reduceEqDiff, Nat.lt_irrefl, Nat.not_lt_zero, Nat.le_refl, Nat.reduceLT, Nat.reduceLeDiff, eq_self, b2_if, b2_I, zbb, Bool.not_true, Bool.not_false, cond_true, cond_false, r2, c]
  · skip
    have B0 := I1_base I
    have hn' : nO h = n := hn
    have wF : wfF (sm_wI (sm_wI h 21 10 (I3 (n + 1))) 67 37 (I3 (n + 1))) := by
      refine wfF_ext B0 B0.g ⟨Nat.le_refl _, fun _ _ => rfl, Nat.le_refl _, fun _ _ => rfl, ⟨Nat.le_refl _, fun _ _ => ⟨rfl, rfl, fun _ _ => rfl⟩⟩, Nat.le_refl _, fun _ _ => rfl, Nat.le_refl _, fun _ _ => rfl, ?_, ⟨Nat.le_refl _, fun _ _ => ⟨rfl, rfl, rfl, rfl, rfl, rfl⟩⟩⟩ ⟨rfl, fun _ _ => ⟨rfl, rfl, rfl, rfl, rfl⟩, fun _ _ _ _ => rfl⟩ ⟨rfl, fun _ _ => rfl⟩ cZ.2
      show nO h ≤ (I3 (n + 1)).toNatClampNeg
      rw [I3_clamp (by omega)]; omega
    refine ⟨I3 n, sm_wI h 21 10 (I3 (n + 1)), sm_wI (sm_wI h 21 10 (I3 (n + 1))) 67 37 (I3 (n + 1)), ?_, ?_, wK, cK, wT, cT, wH, cH, wM, cM, cR, cP, cG, ⟨rfl, cnt_up (by omega) (by decide), r4, r5⟩, cV, wX, cX, cXh_fr (by repeat first | exact hi_rfl | refine hi_wI ?_ (by decide) | refine hi_wJ ?_ (by decide)) cXh, cU, cY, cF, cZ.1, wF⟩
    · simp (disch := omega) only [F_273_0, F_273, F_159_0, F_159, ↓reduceIte, if_true, if_false, ite_self, Option.bind_some, Option.map_some, wI_rd, wJ_rd, wI_2, wJ_1, wJ_22, I3_lit, I3_add, I3_mul, I3_lt, I3_le, I3_inj, I3_nn', I3_n1, I3_n2, m2m1, ldI_I, ldJ_I, ldZ_I, stI_I, stJ_I, true_or, or_true, false_or, or_false, true_and, and_true, false_and, and_false, not_true_eq_false, not_false_eq_true, reduceCtorEq, Nat.reduceEqDiff, Nat.lt_irrefl, Nat.not_lt_zero, Nat.le_refl, Nat.reduceLT, Nat.reduceLeDiff, eq_self, b2_if, b2_I, zbb, Bool.not_true, Bool.not_false, cond_true, cond_false, r1, r2, c, show n < 20 by omega, I3_sub, Nat.add_sub_cancel]
    · simp (disch := omega) only [F_400_0, F_400, ↓reduceIte, if_true, if_false, ite_self, Option.bind_some, Option.map_some, wI_rd, wJ_rd, wI_2, wJ_1, wJ_22, I3_lit, I3_add, I3_mul, I3_lt, I3_le, I3_inj, I3_nn', I3_n1, I3_n2, m2m1, ldI_I, ldJ_I, ldZ_I, stI_I, stJ_I, true_or, or_true, false_or, or_false, true_and, and_true, false_and, and_false, not_true_eq_false, not_false_eq_true, reduceCtorEq, Nat.reduceEqDiff, Nat.lt_irrefl, Nat.not_lt_zero, Nat.le_refl, Nat.reduceLT, Nat.reduceLeDiff, eq_self, b2_if, b2_I, zbb, Bool.not_true, Bool.not_false, cond_true, cond_false, r2, c, I3_sub, Nat.add_sub_cancel]
theorem op_off {h : sm_H} (x : Int32) (I : I0 h) : ∃ v h1 h2, F_274 x h = some (v, h1) ∧ F_401 x h1 = some (v, h2) ∧ I0 h2 := by
  obtain ⟨wK, cK, wT, cT, wH, cH, wM, cM, cR, cP, cG, cO, cV, wX, cX, cXh, cU, cY, cF, cZ⟩ := id I
  obtain ⟨r1, ⟨r2, r3⟩, r4, r5⟩ := id cO
  generalize hn : tn (h.1 67 37) = n at r2 r3
  have CP := C_hasPt (r1.trans r2) (by omega) x
  have RO := R_outI (h := h) (n := n) (by omega) x
  rcases inR_c x n (by omega) with ⟨a, ha, rfl, hi⟩ | hi
  · obtain ⟨b, hb⟩ := r5 a (by omega)
    have hb1 := (r4 a (by omega)).trans hb
    cases b with
    | true =>
      refine ⟨0, h, h, ?_, ?_, I⟩
      · simp only [F_274_0, F_274, F_162_17, F_162_0, F_162, CP, hi]; simp (disch := omega) only [↓reduceIte, if_true, if_false, ite_self, Option.bind_some, Option.map_some, wI_rd, wJ_rd, wI_2, wJ_1, wJ_22, I3_lit, I3_add, I3_mul, I3_lt, I3_le, I3_inj, I3_nn', I3_n1, I3_n2, m2m1, ldI_I, ldJ_I, ldZ_I, stI_I, stJ_I, true_or, or_true, false_or, or_false, true_and, and_true, false_and, and_false, not_true_eq_false, not_false_eq_true, reduceCtorEq, Nat.reduceEqDiff, Nat.lt_irrefl, Nat.not_lt_zero, Nat.le_refl, Nat.reduceLT, Nat.reduceLeDiff, eq_self, b2_if, b2_I, zbb, Bool.not_true, Bool.not_false, cond_true, cond_false, hb1]
      · simp only [F_401_25, F_401_0, F_401, r2, I3_lit, RO, hi]; simp (disch := omega) only [↓reduceIte, if_true, if_false, ite_self, Option.bind_some, Option.map_some, wI_rd, wJ_rd, wI_2, wJ_1, wJ_22, I3_lit, I3_add, I3_mul, I3_lt, I3_le, I3_inj, I3_nn', I3_n1, I3_n2, m2m1, ldI_I, ldJ_I, ldZ_I, stI_I, stJ_I, true_or, or_true, false_or, or_false, true_and, and_true, false_and, and_false, not_true_eq_false, not_false_eq_true, reduceCtorEq, Nat.reduceEqDiff, Nat.lt_irrefl, Nat.not_lt_zero, Nat.le_refl, Nat.reduceLT, Nat.reduceLeDiff, eq_self, b2_if, b2_I, zbb, Bool.not_true, Bool.not_false, cond_true, cond_false, hb]
    | false =>
      refine ⟨1, sm_wI h 33 a (I3 1), sm_wI (sm_wI h 33 a (I3 1)) 93 a (I3 1), ?_, ?_, wK, cK, wT, cT, wH, cH, wM, cM, cR, cP, cG, ⟨r1, ⟨by rw [← hn] at r2; exact r2, by rw [← hn] at r3; exact r3⟩, fun k hk => ?_, fun k hk => ?_⟩, cV, wX, cX, cXh_fr (by repeat first | exact hi_rfl | refine hi_wI ?_ (by decide) | refine hi_wJ ?_ (by decide)) cXh, cU, cY, cF, cZ⟩
      · simp only [F_274_0, F_274, F_162_17, F_162_0, F_162, CP, hi]; simp (disch := omega) only [↓reduceIte, if_true, if_false, ite_self, Option.bind_some, Option.map_some, wI_rd, wJ_rd, wI_2, wJ_1, wJ_22, I3_lit, I3_add, I3_mul, I3_lt, I3_le, I3_inj, I3_nn', I3_n1, I3_n2, m2m1, ldI_I, ldJ_I, ldZ_I, stI_I, stJ_I, true_or, or_true, false_or, or_false, true_and, and_true, false_and, and_false, not_true_eq_false, not_false_eq_true, reduceCtorEq, Nat.reduceEqDiff, Nat.lt_irrefl, Nat.not_lt_zero, Nat.le_refl, Nat.reduceLT, Nat.reduceLeDiff, eq_self, b2_if, b2_I, zbb, Bool.not_true, Bool.not_false, cond_true, cond_false, hb1, stZ_1]
      · have RO' := R_outI (h := sm_wI h 33 a (I3 1)) (n := n) (by omega) (I3 a)
        have r2' : (sm_wI h 33 a (I3 1)).1 67 37 = I3 n := r2
        simp only [F_401_25, F_401_0, F_401, r2', I3_lit, RO', hi]; simp (disch := omega) only [↓reduceIte, if_true, if_false, ite_self, Option.bind_some, Option.map_some, wI_rd, wJ_rd, wI_2, wJ_1, wJ_22, I3_lit, I3_add, I3_mul, I3_lt, I3_le, I3_inj, I3_nn', I3_n1, I3_n2, m2m1, ldI_I, ldJ_I, ldZ_I, stI_I, stJ_I, true_or, or_true, false_or, or_false, true_and, and_true, false_and, and_false, not_true_eq_false, not_false_eq_true, reduceCtorEq, Nat.reduceEqDiff, Nat.lt_irrefl, Nat.not_lt_zero, Nat.le_refl, Nat.reduceLT, Nat.reduceLeDiff, eq_self, b2_if, b2_I, zbb, Bool.not_true, Bool.not_false, cond_true, cond_false, hb, stZ_1]
      · exact upd_eq (p := h.1 33) (q := h.1 93) (y := 0) (r4 k hk)
      · show ∃ b, (if k = a then 1 else h.1 93 k) = b2 b
        by_cases q : k = a
        · exact ⟨true, if_pos q⟩
        · rw [if_neg q]; exact r5 k hk
  · refine ⟨0, h, h, ?_, ?_, I⟩
    · simp only [F_274_0, F_274, F_162_17, F_162_0, F_162, CP, hi]; simp (disch := omega) only [↓reduceIte, if_true, if_false, ite_self, Option.bind_some, Option.map_some, wI_rd, wJ_rd, wI_2, wJ_1, wJ_22, I3_lit, I3_add, I3_mul, I3_lt, I3_le, I3_inj, I3_nn', I3_n1, I3_n2, m2m1, ldI_I, ldJ_I, ldZ_I, stI_I, stJ_I, true_or, or_true, false_or, or_false, true_and, and_true, false_and, and_false, not_true_eq_false, not_false_eq_true, reduceCtorEq, Nat.reduceEqDiff, Nat.lt_irrefl, Nat.not_lt_zero, Nat.le_refl, Nat.reduceLT, Nat.reduceLeDiff, eq_self, b2_if, b2_I, zbb, Bool.not_true, Bool.not_false, cond_true, cond_false]
    · simp only [F_401_25, F_401_0, F_401, r2, I3_lit, RO, hi]; simp (disch := omega) only [↓reduceIte, if_true, if_false, ite_self, Option.bind_some, Option.map_some, wI_rd, wJ_rd, wI_2, wJ_1, wJ_22, I3_lit, I3_add, I3_mul, I3_lt, I3_le, I3_inj, I3_nn', I3_n1, I3_n2, m2m1, ldI_I, ldJ_I, ldZ_I, stI_I, stJ_I, true_or, or_true, false_or, or_false, true_and, and_true, false_and, and_false, not_true_eq_false, not_false_eq_true, reduceCtorEq, Nat.reduceEqDiff, Nat.lt_irrefl, Nat.not_lt_zero, Nat.le_refl, Nat.reduceLT, Nat.reduceLeDiff, eq_self, b2_if, b2_I, zbb, Bool.not_true, Bool.not_false, cond_true, cond_false]
