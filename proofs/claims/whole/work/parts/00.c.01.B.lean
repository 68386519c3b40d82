theorem op_refused {h : sm_H} (I : I0 h) : ∃ v h1 h2, F_270 h = some (v, h1) ∧ F_397 h1 = some (v, h2) ∧ I0 h2 := by
  have cZ : cZ h h := I.2.2.2.2.2.2.2.2.2.2.2.2.2.2.2.2.2.2.2.1
  refine ⟨_, h, h, rfl, ?_, I⟩
  show some (h.1 67 19, h) = some (h.1 0 12, h)
  rw [show h.1 0 12 = h.1 67 19 from cZ.1]
theorem op_pass {h : sm_H} (x : Int64) (I : I0 h) : ∃ v h1 h2, F_275 x h = some (v, h1) ∧ F_402 x h1 = some (v, h2) ∧ I0 h2 := by
  obtain ⟨wK, cK, wT, cT, wH, cH, wM, cM, cR, cP, cG, cO, cV, wX, cX, cXh, cU, cY, cF, cZ⟩ := id I
  obtain ⟨r1, ⟨r2, r3⟩, r4⟩ := cP
  generalize hn : tn (h.1 67 68) = n at r2 r3
  by_cases c : n = 10
  · refine ⟨0, h, h, ?_, ?_, I⟩
    · simp (disch := omega) only [F_275_0, F_275, ↓reduceIte, if_true, if_false, ite_self, Option.bind_some, Option.map_some, wI_rd, wJ_rd, wI_2, wJ_1, wJ_22, I3_lit, I3_add, I3_mul, I3_lt, I3_le, I3_inj, I3_nn', I3_n1, I3_n2, m2m1, ldI_I, ldJ_I, ldZ_I, stI_I, stJ_I, true_or, or_true, false_or, or_false, true_and, and_true, false_and, and_false, not_true_eq_false, not_false_eq_true, reduceCtorEq, Nat.reduceEqDiff, Nat.lt_irrefl, Nat.not_lt_zero, Nat.le_refl, Nat.reduceLT, Nat.reduceLeDiff, eq_self, b2_if, b2_I, zbb, Bool.not_true, Bool.not_false, cond_true, cond_false, r1, r2, c]
    · simp (disch := omega) only [F_402_0, F_402, ↓reduceIte, if_true, if_false, ite_self, Option.bind_some, Option.map_some, wI_rd, wJ_rd, wI_2, wJ_1, wJ_22, I3_lit, I3_add, I3_mul, I3_lt, I3_le, I3_inj, I3_nn', I3_n1, I3_n2, m2m1, ldI_I, ldJ_I, ldZ_I, stI_I, stJ_I, true_or, or_true, false_or, or_false, true_and, and_true, false_and, and_false, not_true_eq_false, not_false_eq_true, reduceCtorEq, Nat.reduceEqDiff, Nat.lt_irrefl, Nat.not_lt_zero, Nat.le_refl, Nat.reduceLT, Nat.reduceLeDiff, eq_self, b2_if, b2_I, zbb, Bool.not_true, Bool.not_false, cond_true, cond_false, r2, c]
  · refine ⟨1, sm_wI (sm_wJ h 66 n x) 0 11 (I3 (n + 1)), sm_wI (sm_wJ (sm_wI (sm_wJ h 66 n x) 0 11 (I3 (n + 1))) 110 n x) 67 68 (I3 (n + 1)), ?_, ?_, wK, cK, wT, cT, wH, cH, wM, cM, cR, ⟨rfl, cnt_up (by omega) (by decide), fun k hk => ?_⟩, cG, cO, cV, wX, cX, cXh_fr (by repeat first | exact hi_rfl | refine hi_wI ?_ (by decide) | refine hi_wJ ?_ (by decide)) cXh, cU, cY, cF, cZ⟩
    · simp (disch := omega) only [F_275_0, F_275, ↓reduceIte, if_true, if_false, ite_self, Option.bind_some, Option.map_some, wI_rd, wJ_rd, wI_2, wJ_1, wJ_22, I3_lit, I3_add, I3_mul, I3_lt, I3_le, I3_inj, I3_nn', I3_n1, I3_n2, m2m1, ldI_I, ldJ_I, ldZ_I, stI_I, stJ_I, true_or, or_true, false_or, or_false, true_and, and_true, false_and, and_false, not_true_eq_false, not_false_eq_true, reduceCtorEq, Nat.reduceEqDiff, Nat.lt_irrefl, Nat.not_lt_zero, Nat.le_refl, Nat.reduceLT, Nat.reduceLeDiff, eq_self, b2_if, b2_I, zbb, Bool.not_true, Bool.not_false, cond_true, cond_false, r1, r2, c, show n < 10 by omega]
    · simp (disch := omega) only [F_402_0, F_402, ↓reduceIte, if_true, if_false, ite_self, Option.bind_some, Option.map_some, wI_rd, wJ_rd, wI_2, wJ_1, wJ_22, I3_lit, I3_add, I3_mul, I3_lt, I3_le, I3_inj, I3_nn', I3_n1, I3_n2, m2m1, ldI_I, ldJ_I, ldZ_I, stI_I, stJ_I, true_or, or_true, false_or, or_false, true_and, and_true, false_and, and_false, not_true_eq_false, not_false_eq_true, reduceCtorEq, Nat.reduceEqDiff, Nat.lt_irrefl, Nat.not_lt_zero, Nat.le_refl, Nat.reduceLT, Nat.reduceLeDiff, eq_self, b2_if, b2_I, zbb, Bool.not_true, Bool.not_false, cond_true, cond_false, r2, c]
    · show (if k = n then x else h.2.1 66 k) = (if k = n then x else h.2.1 110 k)
      rw [r4 k hk]
theorem op_target {h : sm_H} (x : Int32) (I : I0 h) : ∃ v h1 h2, F_271 x h = some (v, h1) ∧ F_398 x h1 = some (v, h2) ∧ I0 h2 := by
  obtain ⟨wK, cK, wT, cT, wH, cH, wM, cM, cR, cP, cG, cO, cV, wX, cX, cXh, cU, cY, cF, cZ⟩ := id I
  obtain ⟨r1, ⟨r2, r3⟩, r4, r5⟩ := cG
  obtain ⟨⟨e2, e3⟩, -⟩ := id wH
  have e3 : nH h ≤ 500 := e3
  have e1 : h.1 10 11 = I3 (nH h) := cH.1.trans e2
  have r5 : ∀ k, k < tn (h.1 67 35) → ∃ a, a < nH h ∧ h.1 92 k = I3 a := r5
  generalize hn : tn (h.1 67 35) = n at r2 r3 r5
  have CH := C_hasH e1 e3 x
  have RH := R_isH e2 e3 x
  rcases inR_c x (nH h) (by omega) with ⟨a, ha, rfl, hi⟩ | hi
  · by_cases c : n = 80
    · refine ⟨-1, h, h, ?_, ?_, I⟩
      · simp only [F_271_23, F_271_0, F_271, CH, hi]; simp (disch := omega) only [F_155_0, F_155, ↓reduceIte, if_true, if_false, ite_self, Option.bind_some, Option.map_some, wI_rd, wJ_rd, wI_2, wJ_1, wJ_22, I3_lit, I3_add, I3_mul, I3_lt, I3_le, I3_inj, I3_nn', I3_n1, I3_n2, m2m1, ldI_I, ldJ_I, ldZ_I, stI_I, stJ_I, true_or, or_true, false_or, or_false, true_and, and_true, false_and, and_false, not_true_eq_false, not_false_eq_true, reduceCtorEq, Nat.reduceEqDiff, Nat.lt_irrefl, Nat.not_lt_zero, Nat.le_refl, Nat.reduceLT, Nat.reduceLeDiff, eq_self, b2_if, b2_I, zbb, Bool.not_true, Bool.not_false, cond_true, cond_false, r1, r2, c]
      · simp (disch := omega) only [F_398_17, F_398_0, F_398, ↓reduceIte, if_true, if_false, ite_self, Option.bind_some, Option.map_some, wI_rd, wJ_rd, wI_2, wJ_1, wJ_22, I3_lit, I3_add, I3_mul, I3_lt, I3_le, I3_inj, I3_nn', I3_n1, I3_n2, m2m1, ldI_I, ldJ_I, ldZ_I, stI_I, stJ_I, true_or, or_true, false_or, or_false, true_and, and_true, false_and, and_false, not_true_eq_false, not_false_eq_true, reduceCtorEq, Nat.reduceEqDiff, Nat.lt_irrefl, Nat.not_lt_zero, Nat.le_refl, Nat.reduceLT, Nat.reduceLeDiff, eq_self, b2_if, b2_I, zbb, Bool.not_true, Bool.not_false, cond_true, cond_false, r2, c]
    · skip
      have B0 := I1_base I
      have hn' : nG h = n := hn
      have wF : wfF (sm_wI (sm_wI (sm_wI (sm_wI h 32 n (I3 a)) 21 8 (I3 (n + 1))) 92 n (I3 a)) 67 35 (I3 (n + 1))) := by
        have e92 : ∀ k, k < nG h → (sm_wI (sm_wI (sm_wI (sm_wI h 32 n (I3 a)) 21 8 (I3 (n + 1))) 92 n (I3 a)) 67 35 (I3 (n + 1))).1 92 k = h.1 92 k := fun k hk => if_neg (by omega)
        refine wfF_ext B0 (fun k hk => by rw [e92 k hk]; exact B0.g k hk) ⟨Nat.le_refl _, fun _ _ => rfl, Nat.le_refl _, fun _ _ => rfl, ⟨Nat.le_refl _, fun _ _ => ⟨rfl, rfl, fun _ _ => rfl⟩⟩, Nat.le_refl _, fun _ _ => rfl, ?_, fun k hk => by rw [e92 k hk]; rfl, Nat.le_refl _, ⟨Nat.le_refl _, fun _ _ => ⟨rfl, rfl, rfl, rfl, rfl, rfl⟩⟩⟩ ⟨rfl, fun _ _ => ⟨rfl, rfl, rfl, rfl, rfl⟩, fun _ _ _ _ => rfl⟩ ⟨rfl, fun _ _ => rfl⟩ cZ.2
        show nG h ≤ (I3 (n + 1)).toNatClampNeg
        rw [I3_clamp (by omega)]; omega
      refine ⟨I3 n, sm_wI (sm_wI h 32 n (I3 a)) 21 8 (I3 (n + 1)), sm_wI (sm_wI (sm_wI (sm_wI h 32 n (I3 a)) 21 8 (I3 (n + 1))) 92 n (I3 a)) 67 35 (I3 (n + 1)), ?_, ?_, wK, cK, wT, cT, wH, cH, wM, cM, cR, cP, ⟨rfl, cnt_up (by omega) (by decide), fun k hk => ?_, fun k hk => ?_⟩, cO, cV, wX, cX, cXh_fr (by repeat first | exact hi_rfl | refine hi_wI ?_ (by decide) | refine hi_wJ ?_ (by decide)) cXh, cU, cY, cF, cZ.1, wF⟩
      · simp only [F_271_23, F_271_0, F_271, CH, hi]; simp (disch := omega) only [F_155_0, F_155, ↓reduceIte, if_true, if_false, ite_self, Option.bind_some, Option.map_some, wI_rd, wJ_rd, wI_2, wJ_1, wJ_22, I3_lit, I3_add, I3_mul, I3_lt, I3_le, I3_inj, I3_nn', I3_n1, I3_n2, m2m1, ldI_I, ldJ_I, ldZ_I, stI_I, stJ_I, true_or, or_true, false_or, or_false, true_and, and_true, false_and, and_false, not_true_eq_false, not_false_eq_true, reduceCtorEq, Nat.reduceEqDiff, Nat.lt_irrefl, Nat.not_lt_zero, Nat.le_refl, Nat.reduceLT, Nat.reduceLeDiff, eq_self, b2_if, b2_I, zbb, Bool.not_true, Bool.not_false, cond_true, cond_false, r1, r2, c, show n < 80 by omega, I3_sub, Nat.add_sub_cancel]
      · have RH' : F_304 (I3 a) (sm_wI (sm_wI h 32 n (I3 a)) 21 8 (I3 (n + 1))) = _ := R_isH (h := sm_wI (sm_wI h 32 n (I3 a)) 21 8 (I3 (n + 1))) e2 e3 (I3 a)
        simp only [F_398_17, F_398_0, F_398, RH', hi]
        simp (disch := omega) only [↓reduceIte, if_true, if_false, ite_self, Option.bind_some, Option.map_some, wI_rd, wJ_rd, wI_2, wJ_1, wJ_22, I3_lit, I3_add, I3_mul, I3_lt, I3_le, I3_inj, I3_nn', I3_n1, I3_n2, m2m1, ldI_I, ldJ_I, ldZ_I, stI_I, stJ_I, true_or, or_true, false_or, or_false, true_and, and_true, false_and, and_false, not_true_eq_false, not_false_eq_true, reduceCtorEq, Nat.reduceEqDiff, Nat.lt_irrefl, Nat.not_lt_zero, Nat.le_refl, Nat.reduceLT, Nat.reduceLeDiff, eq_self, b2_if, b2_I, zbb, Bool.not_true, Bool.not_false, cond_true, cond_false, r2, c, I3_sub, Nat.add_sub_cancel]
      · exact upd_eq (p := h.1 32) (q := h.1 92) (y := 0) (r4 k hk)
      · have hk : k < tn (I3 (n + 1)) := hk
        unfold tn at hk
        rw [I3_clamp (by omega)] at hk
        show ∃ b, b < nH h ∧ (if k = n then I3 a else h.1 92 k) = I3 b
        by_cases q : k = n
        · exact ⟨a, ha, if_pos q⟩
        · rw [if_neg q]; exact r5 k (by omega)
  · refine ⟨-1, h, h, ?_, ?_, I⟩
    · simp only [F_271_23, F_271_0, F_271, CH, hi]; simp (disch := omega) only [↓reduceIte, if_true, if_false, ite_self, Option.bind_some, Option.map_some, wI_rd, wJ_rd, wI_2, wJ_1, wJ_22, I3_lit, I3_add, I3_mul, I3_lt, I3_le, I3_inj, I3_nn', I3_n1, I3_n2, m2m1, ldI_I, ldJ_I, ldZ_I, stI_I, stJ_I, true_or, or_true, false_or, or_false, true_and, and_true, false_and, and_false, not_true_eq_false, not_false_eq_true, reduceCtorEq, Nat.reduceEqDiff, Nat.lt_irrefl, Nat.not_lt_zero, Nat.le_refl, Nat.reduceLT, Nat.reduceLeDiff, eq_self, b2_if, b2_I, zbb, Bool.not_true, Bool.not_false, cond_true, cond_false]
    · by_cases c : n = 80
      · simp (disch := omega) only [F_398_17, F_398_0, F_398, ↓reduceIte, if_true, if_false, ite_self, Option.bind_some, Option.map_some, wI_rd, wJ_rd, wI_2, wJ_1, wJ_22, I3_lit, I3_add, I3_mul, I3_lt, I3_le, I3_inj, I3_nn', I3_n1, I3_n2, m2m1, ldI_I, ldJ_I, ldZ_I, stI_I, stJ_I, true_or, or_true, false_or, or_false, true_and, and_true, false_and, and_false, not_true_eq_false, not_false_eq_true, reduceCtorEq, Nat.reduceEqDiff, Nat.lt_irrefl, Nat.not_lt_zero, Nat.le_refl, Nat.reduceLT, Nat.reduceLeDiff, eq_self, b2_if, b2_I, zbb, Bool.not_true, Bool.not_false, cond_true, cond_false, r2, c]
      · simp only [F_398_17, F_398_0, F_398, RH, hi]; simp (disch := omega) only [↓reduceIte, if_true, if_false, ite_self, Option.bind_some, Option.map_some, wI_rd, wJ_rd, wI_2, wJ_1, wJ_22, I3_lit, I3_add, I3_mul, I3_lt, I3_le, I3_inj, I3_nn', I3_n1, I3_n2, m2m1, ldI_I, ldJ_I, ldZ_I, stI_I, stJ_I, true_or, or_true, false_or, or_false, true_and, and_true, false_and, and_false, not_true_eq_false, not_false_eq_true, reduceCtorEq, Nat.reduceEqDiff, Nat.lt_irrefl, Nat.not_lt_zero, Nat.le_refl, Nat.reduceLT, Nat.reduceLeDiff, eq_self, b2_if, b2_I, zbb, Bool.not_true, Bool.not_false, cond_true, cond_false, r2, c]
theorem op_point {h : sm_H} (I : I0 h) : ∃ v h1 h2, F_273 h = some (v, h1) ∧ F_400 h1 = some (v, h2) ∧ I0 h2 := by
  obtain ⟨wK, cK, wT, cT, wH, cH, wM, cM, cR, cP, cG, cO, cV, wX, cX, cXh, cU, cY, cF, cZ⟩ := id I
  obtain ⟨r1, ⟨r2, r3⟩, r4, r5⟩ := cO
  generalize hn : tn (h.1 67 37) = n at r2 r3
  by_cases c : n = 20
  · refine ⟨-1, h, h, ?_, ?_, I⟩
    · simp (disch := omega) only [F_273_0, F_273, F_159_0, F_159, ↓reduceIte, if_true, if_false, ite_self, Option.bind_some, Option.map_some, wI_rd, wJ_rd, wI_2, wJ_1, wJ_22, I3_lit, I3_add, I3_mul, I3_lt, I3_le, I3_inj, I3_nn', I3_n1, I3_n2, m2m1, ldI_I, ldJ_I, ldZ_I, stI_I, stJ_I, true_or, or_true, false_or, or_false, true_and, and_true, false_and, and_false, not_true_eq_false, not_false_eq_true, reduceCtorEq, Nat.reduceEqDiff, Nat.lt_irrefl, Nat.not_lt_zero, Nat.le_refl, Nat.reduceLT, Nat.reduceLeDiff, eq_self, b2_if, b2_I, zbb, Bool.not_true, Bool.not_false, cond_true, cond_false, r1, r2, c]
    · simp (disch := omega) only [F_400_0, F_400, ↓reduceIte, if_true, if_false, ite_self, Option.bind_some, Option.map_some, wI_rd, wJ_rd, wI_2, wJ_1, wJ_22, I3_lit, I3_add, I3_mul, I3_lt, I3_le, I3_inj, I3_nn', I3_n1, I3_n2, m2m1, ldI_I, ldJ_I, ldZ_I, stI_I, stJ_I, true_or, or_true, false_or, or_false, true_and, and_true, false_and, and_false, not_true_eq_false, not_false_eq_true, reduceCtorEq, Nat.reduceEqDiff, Nat.lt_irrefl, Nat.not_lt_zero, Nat.le_refl, Nat.reduceLT, Nat.reduceLeDiff, eq_self, b2_if, b2_I, zbb, Bool.not_true, Bool.not_false, cond_true, cond_false, r2, c]
  · skip
    have B0 := I1_base I
    have hn' : nO h = n := hn
    have wF : wfF (sm_wI (sm_wI h 21 10 (I3 (n + 1))) 67 37 (I3 (n + 1))) := by
      refine wfF_ext B0 B0.g ⟨Nat.le_refl _, fun _ _ => rfl, Nat.le_refl _, fun _ _ => rfl, ⟨Nat.le_refl _, fun _ _ => ⟨rfl, rfl, fun _ _ => rfl⟩⟩, Nat.le_refl _, fun _ _ => rfl, Nat.le_refl _, fun _ _ => rfl, ?_, ⟨Nat.le_refl _, fun _ _ => ⟨rfl, rfl, rfl, rfl, rfl, rfl⟩⟩⟩ ⟨rfl, fun _ _ => ⟨rfl, rfl, rfl, rfl, rfl⟩, fun _ _ _ _ => rfl⟩ ⟨rfl, fun _ _ => rfl⟩ cZ.2
      show nO h ≤ (I3 (n + 1)).toNatClampNeg
      rw [I3_clamp (by omega)]; omega
    refine ⟨I3 n, sm_wI h 21 10 (I3 (n + 1)), sm_wI (sm_wI h 21 10 (I3 (n + 1))) 67 37 (I3 (n + 1)), ?_, ?_, wK, cK, wT, cT, wH, cH, wM, cM, cR, cP, cG, ⟨rfl, cnt_up (by omega) (by decide), r4, r5⟩, cV, wX, cX, cXh_fr (by repeat first | exact hi_rfl | refine hi_wI ?_ (by decide) | refine hi_wJ ?_ (by decide)) cXh, cU, cY, cF, cZ.1, wF⟩
    · simp (disch := omega) only [F_273_0, F_273, F_159_0, F_159, ↓reduceIte, if_true, if_false, ite_self, Option.bind_some, Option.map_some, wI_rd, wJ_rd, wI_2, wJ_1, wJ_22, I3_lit, I3_add, I3_mul, I3_lt, I3_le, I3_inj, I3_nn', I3_n1, I3_n2, m2m1, ldI_I, ldJ_I, ldZ_I, stI_I, stJ_I, true_or, or_true, false_or, or_false, true_and, and_true, false_and, and_false, not_true_eq_false, not_false_eq_true, reduceCtorEq, Nat.reduceEqDiff, Nat.lt_irrefl, Nat.not_lt_zero, Nat.le_refl, Nat.reduceLT, Nat.reduceLeDiff, eq_self, b2_if, b2_I, zbb, Bool.not_true, Bool.not_false, cond_true, cond_false, r1, r2, c, show n < 20 by omega, I3_sub, Nat.add_sub_cancel]
    · simp (disch := omega) only [F_400_0, F_400, ↓reduceIte, if_true, if_false, ite_self, Option.bind_some, Option.map_some, wI_rd, wJ_rd, wI_2, wJ_1, wJ_22, I3_lit, I3_add, I3_mul, I3_lt, I3_le, I3_inj, I3_nn', I3_n1, I3_n2, m2m1, ldI_I, ldJ_I, ldZ_I, stI_I, stJ_I, true_or, or_true, false_or, or_false, true_and, and_true, false_and, and_false, not_true_eq_false, not_false_eq_true, reduceCtorEq, Nat.reduceEqDiff, Nat.lt_irrefl, Nat.not_lt_zero, Nat.le_refl, Nat.reduceLT, Nat.reduceLeDiff, eq_self, b2_if, b2_I, zbb, Bool.not_true, Bool.not_false, cond_true, cond_false, r2, c, I3_sub, Nat.add_sub_cancel]
theorem op_off {h : sm_H} (x : Int32) (I : I0 h) : ∃ v h1 h2, F_274 x h = some (v, h1) ∧ F_401 x h1 = some (v, h2) ∧ I0 h2 := by
  obtain ⟨wK, cK, wT, cT, wH, cH, wM, cM, cR, cP, cG, cO, cV, wX, cX, cXh, cU, cY, cF, cZ⟩ := id I
  obtain ⟨r1, ⟨r2, r3⟩, r4, r5⟩ := id cO
  generalize hn : tn (h.1 67 37) = n at r2 r3
  have CP := C_hasPt (r1.trans r2) (by omega) x
  have RO := R_outI (h := h) (n := n) (by omega) x
  rcases inR_c x n (by omega) with ⟨a, ha, rfl, hi⟩ | hi
  · obtain ⟨b, hb⟩ := r5 a (by omega)
    have hb1 := (r4 a (by omega)).trans hb
    cases b with
    | true =>
      refine ⟨0, h, h, ?_, ?_, I⟩
      · simp only [F_274_0, F_274, F_162_17, F_162_0, F_162, CP, hi]; simp (disch := omega) only [↓reduceIte, if_true, if_false, ite_self, Option.bind_some, Option.map_some, wI_rd, wJ_rd, wI_2, wJ_1, wJ_22, I3_lit, I3_add, I3_mul, I3_lt, I3_le, I3_inj, I3_nn', I3_n1, I3_n2, m2m1, ldI_I, ldJ_I, ldZ_I, stI_I, stJ_I, true_or, or_true, false_or, or_false, true_and, and_true, false_and, and_false, not_true_eq_false, not_false_eq_true, reduceCtorEq, Nat.reduceEqDiff, Nat.lt_irrefl, Nat.not_lt_zero, Nat.le_refl, Nat.reduceLT, Nat.reduceLeDiff, eq_self, b2_if, b2_I, zbb, Bool.not_true, Bool.not_false, cond_true, cond_false, hb1]
      · simp only [F_401_25, F_401_0, F_401, r2, I3_lit, RO, hi]; simp (disch := omega) only [↓reduceIte, if_true, if_false, ite_self, Option.bind_some, Option.map_some, wI_rd, wJ_rd, wI_2, wJ_1, wJ_22, I3_lit, I3_add, I3_mul, I3_lt, I3_le, I3_inj, I3_nn', I3_n1, I3_n2, m2m1, ldI_I, ldJ_I, ldZ_I, stI_I, stJ_I, true_or, or_true, false_or, or_false, true_and, and_true, false_and, and_false, not_true_eq_false, not_false_eq_true, reduceCtorEq, Nat.reduceEqDiff, Nat.lt_irrefl, Nat.not_lt_zero, Nat.le_refl, Nat.reduceLT, Nat.reduceLeDiff, eq_self, b2_if, b2_I, zbb, Bool.not_true, Bool.not_false, cond_true, cond_false, hb]
    | false =>
      refine ⟨1, sm_wI h 33 a (I3 1), sm_wI (sm_wI h 33 a (I3 1)) 93 a (I3 1), ?_, ?_, wK, cK, wT, cT, wH, cH, wM, cM, cR, cP, cG, ⟨r1, ⟨by rw [← hn] at r2; exact r2, by rw [← hn] at r3; exact r3⟩, fun k hk => ?_, fun k hk => ?_⟩, cV, wX, cX, cXh_fr (by repeat first | exact hi_rfl | refine hi_wI ?_ (by decide) | refine hi_wJ ?_ (by decide)) cXh, cU, cY, cF, cZ⟩
      · simp only [F_274_0, F_274, F_162_17, F_162_0, F_162, CP, hi]; simp (disch := omega) only [↓reduceIte, if_true, if_false, ite_self, Option.bind_some, Option.map_some, wI_rd, wJ_rd, wI_2, wJ_1, wJ_22, I3_lit, I3_add, I3_mul, I3_lt, I3_le, I3_inj, I3_nn', I3_n1, I3_n2, m2m1, ldI_I, ldJ_I, ldZ_I, stI_I, stJ_I, true_or, or_true, false_or, or_false, true_and, and_true, false_and, and_false, not_true_eq_false, not_false_eq_true, reduceCtorEq, Nat.reduceEqDiff, Nat.lt_irrefl, Nat.not_lt_zero, Nat.le_refl, Nat.reduceLT, Nat.reduceLeDiff, eq_self, b2_if, b2_I, zbb, Bool.not_true, Bool.not_false, cond_true, cond_false, hb1, stZ_1]
      · have RO' := R_outI (h := sm_wI h 33 a (I3 1)) (n := n) (by omega) (I3 a)
        have r2' : (sm_wI h 33 a (I3 1)).1 67 37 = I3 n := r2
        simp only [F_401_25, F_401_0, F_401, r2', I3_lit, RO', hi]; simp (disch := omega) only [↓reduceIte, if_true, if_false, ite_self, Option.bind_some, Option.map_some, wI_rd, wJ_rd, wI_2, wJ_1, wJ_22, I3_lit, I3_add, I3_mul, I3_lt, I3_le, I3_inj, I3_nn', I3_n1, I3_n2, m2m1, ldI_I, ldJ_I, ldZ_I, stI_I, stJ_I, true_or, or_true, false_or, or_false, true_and, and_true, false_and, and_false, not_true_eq_false, not_false_eq_true, reduceCtorEq, Nat.reduceEqDiff, Nat.lt_irrefl, Nat.not_lt_zero, Nat.le_refl, Nat.reduceLT, Nat.reduceLeDiff, eq_self, b2_if, b2_I, zbb, Bool.not_true, Bool.not_false, cond_true, cond_false, hb, stZ_1]
      · exact upd_eq (p := h.1 33) (q := h.1 93) (y := 0) (r4 k hk)
      · show ∃ b, (if k = a then 1 else h.1 93 k) = b2 b
        by_cases q : k = a
        · exact ⟨true, if_pos q⟩
        · rw [if_neg q]; exact r5 k hk
  · refine ⟨0, h, h, ?_, ?_, I⟩
    · simp only [F_274_0, F_274, F_162_17, F_162_0, F_162, CP, hi]; simp (disch := omega) only [↓reduceIte, if_true, if_false, ite_self, Option.bind_some, Option.map_some, wI_rd, wJ_rd, wI_2, wJ_1, wJ_22, I3_lit, I3_add, I3_mul, I3_lt, I3_le, I3_inj, I3_nn', I3_n1, I3_n2, m2m1, ldI_I, ldJ_I, ldZ_I, stI_I, stJ_I, true_or, or_true, false_or, or_false, true_and, and_true, false_and, and_false, not_true_eq_false, not_false_eq_true, reduceCtorEq, Nat.reduceEqDiff, Nat.lt_irrefl, Nat.not_lt_zero, Nat.le_refl, Nat.reduceLT, Nat.reduceLeDiff, eq_self, b2_if, b2_I, zbb, Bool.not_true, Bool.not_false, cond_true, cond_false]
    · simp only [F_401_25, F_401_0, F_401, r2, I3_lit, RO, hi]; simp (disch := omega) only [↓reduceIte, if_true, if_false, ite_self, Option.bind_some, Option.map_some, wI_rd, wJ_rd, wI_2, wJ_1, wJ_22, I3_lit, I3_add, I3_mul, I3_lt, I3_le, I3_inj, I3_nn', I3_n1, I3_n2, m2m1, ldI_I, ldJ_I, ldZ_I, stI_I, stJ_I, true_or, or_true, false_or, or_false, true_and, and_true, false_and, and_false, not_true_eq_false, not_false_eq_true, reduceCtorEq, Nat.reduceEqDiff, Nat.lt_irrefl, Nat.not_lt_zero, Nat.le_refl, Nat.reduceLT, Nat.reduceLeDiff, eq_self, b2_if, b2_I, zbb, Bool.not_true, Bool.not_false, cond_true, cond_false]
theorem I3_add_c (a b c : Nat) : I3 (a * b + c) = I3 (b * a + c) := by rw [Nat.mul_comm]
theorem C_form {h g : sm_H} (wH : wfH0 g) (cH : cH h g) {a : Nat} (ha : a < nH g) : F_37 (I3 a) h = some (g.1 75 a, h) := by
  have e2 : g.1 67 18 = I3 (nH g) := wH.1.1
  have e3 : nH g ≤ 500 := wH.1.2
  have hi : inR (I3 a) (nH g) = true := by rw [inR_I (by omega)]; simp [ha]
  have hv := (cH.2.1 a (by omega)).1
  simp only [F_37_22, F_37_21, F_37_0, F_37]
  rw [rng1 (cH.1.trans e2) (by omega), hi]
  simp (disch := omega) only [↓reduceIte, if_true, if_false, ite_self, Option.bind_some, Option.map_some, wI_rd, wJ_rd, wI_2, wJ_1, wJ_22, I3_lit, I3_add, I3_mul, I3_lt, I3_le, I3_inj, I3_nn', I3_n1, I3_n2, m2m1, ldI_I, ldJ_I, ldZ_I, stI_I, stJ_I, true_or, or_true, false_or, or_false, true_and, and_true, false_and, and_false, not_true_eq_false, not_false_eq_true, reduceCtorEq, Nat.reduceEqDiff, Nat.lt_irrefl, Nat.not_lt_zero, Nat.le_refl, Nat.reduceLT, Nat.reduceLeDiff, eq_self, b2_if, b2_I, zbb, Bool.not_true, Bool.not_false, cond_true, cond_false, hv]
theorem C_form_o {h g : sm_H} (wH : wfH0 g) (cH : cH h g) {x : Int32} (hi : inR x (nH g) = false) : F_37 x h = some (-1, h) := by
  have e2 : g.1 67 18 = I3 (nH g) := wH.1.1
  have e3 : nH g ≤ 500 := wH.1.2
  simp only [F_37_22, F_37_21, F_37_0, F_37]
  rw [rng1 (cH.1.trans e2) (by omega), hi]
  rfl
theorem C_ha {h g : sm_H} (wH : wfH0 g) (cH : cH h g) {a : Nat} (ha : a < nH g) : F_38 (I3 a) h = some (g.1 77 a, h) := by
  have e2 : g.1 67 18 = I3 (nH g) := wH.1.1
  have e3 : nH g ≤ 500 := wH.1.2
  have hi : inR (I3 a) (nH g) = true := by rw [inR_I (by omega)]; simp [ha]
  have hv := (cH.2.1 a (by omega)).2.1
  simp only [F_38_22, F_38_21, F_38_0, F_38]
  rw [rng1 (cH.1.trans e2) (by omega), hi]
  simp (disch := omega) only [↓reduceIte, if_true, if_false, ite_self, Option.bind_some, Option.map_some, wI_rd, wJ_rd, wI_2, wJ_1, wJ_22, I3_lit, I3_add, I3_mul, I3_lt, I3_le, I3_inj, I3_nn', I3_n1, I3_n2, m2m1, ldI_I, ldJ_I, ldZ_I, stI_I, stJ_I, true_or, or_true, false_or, or_false, true_and, and_true, false_and, and_false, not_true_eq_false, not_false_eq_true, reduceCtorEq, Nat.reduceEqDiff, Nat.lt_irrefl, Nat.not_lt_zero, Nat.le_refl, Nat.reduceLT, Nat.reduceLeDiff, eq_self, b2_if, b2_I, zbb, Bool.not_true, Bool.not_false, cond_true, cond_false, hv]
theorem C_ha_o {h g : sm_H} (wH : wfH0 g) (cH : cH h g) {x : Int32} (hi : inR x (nH g) = false) : F_38 x h = some (0, h) := by
  have e2 : g.1 67 18 = I3 (nH g) := wH.1.1
  have e3 : nH g ≤ 500 := wH.1.2
  simp only [F_38_22, F_38_21, F_38_0, F_38]
  rw [rng1 (cH.1.trans e2) (by omega), hi]
  rfl
theorem C_hb {h g : sm_H} (wH : wfH0 g) (cH : cH h g) {a : Nat} (ha : a < nH g) : F_39 (I3 a) h = some (g.1 78 a, h) := by
  have e2 : g.1 67 18 = I3 (nH g) := wH.1.1
  have e3 : nH g ≤ 500 := wH.1.2
  have hi : inR (I3 a) (nH g) = true := by rw [inR_I (by omega)]; simp [ha]
  have hv := (cH.2.1 a (by omega)).2.2.1
  simp only [F_39_22, F_39_21, F_39_0, F_39]
  rw [rng1 (cH.1.trans e2) (by omega), hi]
  simp (disch := omega) only [↓reduceIte, if_true, if_false, ite_self, Option.bind_some, Option.map_some, wI_rd, wJ_rd, wI_2, wJ_1, wJ_22, I3_lit, I3_add, I3_mul, I3_lt, I3_le, I3_inj, I3_nn', I3_n1, I3_n2, m2m1, ldI_I, ldJ_I, ldZ_I, stI_I, stJ_I, true_or, or_true, false_or, or_false, true_and, and_true, false_and, and_false, not_true_eq_false, not_false_eq_true, reduceCtorEq, Nat.reduceEqDiff, Nat.lt_irrefl, Nat.not_lt_zero, Nat.le_refl, Nat.reduceLT, Nat.reduceLeDiff, eq_self, b2_if, b2_I, zbb, Bool.not_true, Bool.not_false, cond_true, cond_false, hv]
theorem C_hb_o {h g : sm_H} (wH : wfH0 g) (cH : cH h g) {x : Int32} (hi : inR x (nH g) = false) : F_39 x h = some (0, h) := by
  have e2 : g.1 67 18 = I3 (nH g) := wH.1.1
  have e3 : nH g ≤ 500 := wH.1.2
  simp only [F_39_22, F_39_21, F_39_0, F_39]
  rw [rng1 (cH.1.trans e2) (by omega), hi]
  rfl
theorem C_hc {h g : sm_H} (wH : wfH0 g) (cH : cH h g) {a : Nat} (ha : a < nH g) : F_40 (I3 a) h = some (g.2.1 79 a, h) := by
  have e2 : g.1 67 18 = I3 (nH g) := wH.1.1
  have e3 : nH g ≤ 500 := wH.1.2
  have hi : inR (I3 a) (nH g) = true := by rw [inR_I (by omega)]; simp [ha]
  have hv := (cH.2.1 a (by omega)).2.2.2.1
  simp only [F_40_22, F_40_21, F_40_0, F_40]
  rw [rng1 (cH.1.trans e2) (by omega), hi]
  simp (disch := omega) only [↓reduceIte, if_true, if_false, ite_self, Option.bind_some, Option.map_some, wI_rd, wJ_rd, wI_2, wJ_1, wJ_22, I3_lit, I3_add, I3_mul, I3_lt, I3_le, I3_inj, I3_nn', I3_n1, I3_n2, m2m1, ldI_I, ldJ_I, ldZ_I, stI_I, stJ_I, true_or, or_true, false_or, or_false, true_and, and_true, false_and, and_false, not_true_eq_false, not_false_eq_true, reduceCtorEq, Nat.reduceEqDiff, Nat.lt_irrefl, Nat.not_lt_zero, Nat.le_refl, Nat.reduceLT, Nat.reduceLeDiff, eq_self, b2_if, b2_I, zbb, Bool.not_true, Bool.not_false, cond_true, cond_false, hv]
theorem C_hc_o {h g : sm_H} (wH : wfH0 g) (cH : cH h g) {x : Int32} (hi : inR x (nH g) = false) : F_40 x h = some (0, h) := by
  have e2 : g.1 67 18 = I3 (nH g) := wH.1.1
  have e3 : nH g ≤ 500 := wH.1.2
  simp only [F_40_22, F_40_21, F_40_0, F_40]
  rw [rng1 (cH.1.trans e2) (by omega), hi]
  rfl
theorem C_typeOf {h g : sm_H} (wH : wfH0 g) (cH : cH h g) {a : Nat} (ha : a < nH g) : F_41 (I3 a) h = some (g.1 76 a, h) := by
  have e2 : g.1 67 18 = I3 (nH g) := wH.1.1
  have e3 : nH g ≤ 500 := wH.1.2
  have hi : inR (I3 a) (nH g) = true := by rw [inR_I (by omega)]; simp [ha]
  have hv := (cH.2.1 a (by omega)).2.2.2.2.2
  simp only [F_41_22, F_41_21, F_41_0, F_41]
  rw [rng1 (cH.1.trans e2) (by omega), hi]
  simp (disch := omega) only [↓reduceIte, if_true, if_false, ite_self, Option.bind_some, Option.map_some, wI_rd, wJ_rd, wI_2, wJ_1, wJ_22, I3_lit, I3_add, I3_mul, I3_lt, I3_le, I3_inj, I3_nn', I3_n1, I3_n2, m2m1, ldI_I, ldJ_I, ldZ_I, stI_I, stJ_I, true_or, or_true, false_or, or_false, true_and, and_true, false_and, and_false, not_true_eq_false, not_false_eq_true, reduceCtorEq, Nat.reduceEqDiff, Nat.lt_irrefl, Nat.not_lt_zero, Nat.le_refl, Nat.reduceLT, Nat.reduceLeDiff, eq_self, b2_if, b2_I, zbb, Bool.not_true, Bool.not_false, cond_true, cond_false, hv]
theorem C_typeOf_o {h g : sm_H} (wH : wfH0 g) (cH : cH h g) {x : Int32} (hi : inR x (nH g) = false) : F_41 x h = some (-1, h) := by
  have e2 : g.1 67 18 = I3 (nH g) := wH.1.1
  have e3 : nH g ≤ 500 := wH.1.2
  simp only [F_41_22, F_41_21, F_41_0, F_41]
  rw [rng1 (cH.1.trans e2) (by omega), hi]
  rfl
theorem C_partsOf {h g : sm_H} (wH : wfH0 g) (cH : cH h g) {a : Nat} (ha : a < nH g) : F_42 (I3 a) h = some (g.1 80 a, h) := by
  have e2 : g.1 67 18 = I3 (nH g) := wH.1.1
  have e3 : nH g ≤ 500 := wH.1.2
  have hi : inR (I3 a) (nH g) = true := by rw [inR_I (by omega)]; simp [ha]
  have hv := (cH.2.1 a (by omega)).2.2.2.2.1
  simp only [F_42_22, F_42_21, F_42_0, F_42]
  rw [rng1 (cH.1.trans e2) (by omega), hi]
  simp (disch := omega) only [↓reduceIte, if_true, if_false, ite_self, Option.bind_some, Option.map_some, wI_rd, wJ_rd, wI_2, wJ_1, wJ_22, I3_lit, I3_add, I3_mul, I3_lt, I3_le, I3_inj, I3_nn', I3_n1, I3_n2, m2m1, ldI_I, ldJ_I, ldZ_I, stI_I, stJ_I, true_or, or_true, false_or, or_false, true_and, and_true, false_and, and_false, not_true_eq_false, not_false_eq_true, reduceCtorEq, Nat.reduceEqDiff, Nat.lt_irrefl, Nat.not_lt_zero, Nat.le_refl, Nat.reduceLT, Nat.reduceLeDiff, eq_self, b2_if, b2_I, zbb, Bool.not_true, Bool.not_false, cond_true, cond_false, hv]
theorem C_partsOf_o {h g : sm_H} (wH : wfH0 g) (cH : cH h g) {x : Int32} (hi : inR x (nH g) = false) : F_42 x h = some (0, h) := by
  have e2 : g.1 67 18 = I3 (nH g) := wH.1.1
  have e3 : nH g ≤ 500 := wH.1.2
  simp only [F_42_22, F_42_21, F_42_0, F_42]
  rw [rng1 (cH.1.trans e2) (by omega), hi]
  rfl
theorem C_resultOf {h g : sm_H} (wH : wfH0 g) (cH : cH h g) {a : Nat} (ha : a < nH g) : F_44 (I3 a) h = some (g.1 72 (ty g a), h) := by
  have e2 : g.1 67 18 = I3 (nH g) := wH.1.1
  have e3 : nH g ≤ 500 := wH.1.2
  have hi : inR (I3 a) (nH g) = true := by rw [inR_I (by omega)]; simp [ha]
  have hv := (cH.2.2.2 a ha).1
  simp only [F_44_22, F_44_21, F_44_0, F_44]
  rw [rng1 (cH.1.trans e2) (by omega), hi]
  simp (disch := omega) only [↓reduceIte, if_true, if_false, ite_self, Option.bind_some, Option.map_some, wI_rd, wJ_rd, wI_2, wJ_1, wJ_22, I3_lit, I3_add, I3_mul, I3_lt, I3_le, I3_inj, I3_nn', I3_n1, I3_n2, m2m1, ldI_I, ldJ_I, ldZ_I, stI_I, stJ_I, true_or, or_true, false_or, or_false, true_and, and_true, false_and, and_false, not_true_eq_false, not_false_eq_true, reduceCtorEq, Nat.reduceEqDiff, Nat.lt_irrefl, Nat.not_lt_zero, Nat.le_refl, Nat.reduceLT, Nat.reduceLeDiff, eq_self, b2_if, b2_I, zbb, Bool.not_true, Bool.not_false, cond_true, cond_false, hv]
theorem C_resultOf_o {h g : sm_H} (wH : wfH0 g) (cH : cH h g) {x : Int32} (hi : inR x (nH g) = false) : F_44 x h = some (-1, h) := by
  have e2 : g.1 67 18 = I3 (nH g) := wH.1.1
  have e3 : nH g ≤ 500 := wH.1.2
  simp only [F_44_22, F_44_21, F_44_0, F_44]
  rw [rng1 (cH.1.trans e2) (by omega), hi]
  rfl
theorem C_placesOf {h g : sm_H} (wH : wfH0 g) (cH : cH h g) {a : Nat} (ha : a < nH g) : F_45 (I3 a) h = some (g.1 73 (ty g a), h) := by
  have e2 : g.1 67 18 = I3 (nH g) := wH.1.1
  have e3 : nH g ≤ 500 := wH.1.2
  have hi : inR (I3 a) (nH g) = true := by rw [inR_I (by omega)]; simp [ha]
  have hv := (cH.2.2.2 a ha).2.1
  simp only [F_45_22, F_45_21, F_45_0, F_45]
  rw [rng1 (cH.1.trans e2) (by omega), hi]
  simp (disch := omega) only [↓reduceIte, if_true, if_false, ite_self, Option.bind_some, Option.map_some, wI_rd, wJ_rd, wI_2, wJ_1, wJ_22, I3_lit, I3_add, I3_mul, I3_lt, I3_le, I3_inj, I3_nn', I3_n1, I3_n2, m2m1, ldI_I, ldJ_I, ldZ_I, stI_I, stJ_I, true_or, or_true, false_or, or_false, true_and, and_true, false_and, and_false, not_true_eq_false, not_false_eq_true, reduceCtorEq, Nat.reduceEqDiff, Nat.lt_irrefl, Nat.not_lt_zero, Nat.le_refl, Nat.reduceLT, Nat.reduceLeDiff, eq_self, b2_if, b2_I, zbb, Bool.not_true, Bool.not_false, cond_true, cond_false, hv]
theorem C_placesOf_o {h g : sm_H} (wH : wfH0 g) (cH : cH h g) {x : Int32} (hi : inR x (nH g) = false) : F_45 x h = some (0, h) := by
  have e2 : g.1 67 18 = I3 (nH g) := wH.1.1
  have e3 : nH g ≤ 500 := wH.1.2
  simp only [F_45_22, F_45_21, F_45_0, F_45]
  rw [rng1 (cH.1.trans e2) (by omega), hi]
  rfl
theorem C_part {h g : sm_H} (wH : wfH0 g) (cH : cH h g) {a k : Nat} (ha : a < nH g) (hk : k < pm g a) : F_43 (I3 a) (I3 k) h = some (g.1 81 (24 * a + k), h) := by
  have e2 : g.1 67 18 = I3 (nH g) := wH.1.1
  have e3 : nH g ≤ 500 := wH.1.2
  have e4 : g.1 80 a = I3 (pm g a) := (wH.2 a ha).2.2.2.1
  have e5 : pm g a ≤ 20 := (wH.2 a ha).2.2.2.2
  have hi : inR (I3 a) (nH g) = true := by rw [inR_I (by omega)]; simp [ha]
  have hv : h.1 15 a = I3 (pm g a) := (cH.2.1 a (by omega)).2.2.2.2.1.trans e4
  have hp := cH.2.2.1 a k (by omega) (by omega)
  simp only [F_43_26, F_43_0, F_43]
  rw [rng1 (cH.1.trans e2) (by omega), hi]
  simp (disch := omega) only [↓reduceIte, if_true, if_false, ite_self, Option.bind_some, Option.map_some, wI_rd, wJ_rd, wI_2, wJ_1, wJ_22, I3_lit, I3_add, I3_mul, I3_lt, I3_le, I3_inj, I3_nn', I3_n1, I3_n2, m2m1, ldI_I, ldJ_I, ldZ_I, stI_I, stJ_I, true_or, or_true, false_or, or_false, true_and, and_true, false_and, and_false, not_true_eq_false, not_false_eq_true, reduceCtorEq, Nat.reduceEqDiff, Nat.lt_irrefl, Nat.not_lt_zero, Nat.le_refl, Nat.reduceLT, Nat.reduceLeDiff, eq_self, b2_if, b2_I, zbb, Bool.not_true, Bool.not_false, cond_true, cond_false, hv, hp, hk, if_neg (I3_nn (show k < 2147483648 by omega))]
theorem C_part_o {h g : sm_H} (wH : wfH0 g) (cH : cH h g) {a : Nat} {x : Int32} (ha : a < nH g) (hx : inR x (pm g a) = false) : F_43 (I3 a) x h = some (-1, h) := by
  have e2 : g.1 67 18 = I3 (nH g) := wH.1.1
  have e3 : nH g ≤ 500 := wH.1.2
  have e4 : g.1 80 a = I3 (pm g a) := (wH.2 a ha).2.2.2.1
  have e5 : pm g a ≤ 20 := (wH.2 a ha).2.2.2.2
  have hi : inR (I3 a) (nH g) = true := by rw [inR_I (by omega)]; simp [ha]
  have hv : h.1 15 a = I3 (pm g a) := (cH.2.1 a (by omega)).2.2.2.2.1.trans e4
  simp only [F_43_26, F_43_0, F_43]
  rw [rng1 (cH.1.trans e2) (by omega), hi, ldI_I (by omega) (by omega)]
  simp only [cond_true, Option.bind_some, hv]
  rw [rng2 (n := pm g a) rfl (by omega), hx]
  rfl
theorem C_part_n {h g : sm_H} (wH : wfH0 g) (cH : cH h g) {x y : Int32} (hx : inR x (nH g) = false) : F_43 x y h = some (-1, h) := by
  have e2 : g.1 67 18 = I3 (nH g) := wH.1.1
  have e3 : nH g ≤ 500 := wH.1.2
  simp only [F_43_26, F_43_0, F_43]
  rw [rng1 (cH.1.trans e2) (by omega), hx]
  rfl
theorem C_place {h g : sm_H} (wT : wfT g) (wH : wfH0 g) (cH : cH h g) {a k : Nat} (ha : a < nH g) (hk : k < tM g (ty g a)) : F_46 (I3 a) (I3 k) h = some (g.1 74 (10 * ty g a + k), h) := by
  have e2 : g.1 67 18 = I3 (nH g) := wH.1.1
  have e3 : nH g ≤ 500 := wH.1.2
  have e4 : g.1 73 (ty g a) = I3 (tM g (ty g a)) := (wT.2.1 (ty g a) (wH.2 a ha).2.2.1).2.1.1
  have e5 : tM g (ty g a) ≤ 10 := (wT.2.1 (ty g a) (wH.2 a ha).2.2.1).2.1.2
  have hi : inR (I3 a) (nH g) = true := by rw [inR_I (by omega)]; simp [ha]
  have hv : h.1 19 a = I3 (tM g (ty g a)) := (cH.2.2.2 a ha).2.1.trans e4
  have hp := (cH.2.2.2 a ha).2.2 k hk
  simp only [F_46_26, F_46_0, F_46]
  rw [rng1 (cH.1.trans e2) (by omega), hi]
  simp (disch := omega) only [↓reduceIte, if_true, if_false, ite_self, Option.bind_some, Option.map_some, wI_rd, wJ_rd, wI_2, wJ_1, wJ_22, I3_lit, I3_add, I3_mul, I3_lt, I3_le, I3_inj, I3_nn', I3_n1, I3_n2, m2m1, ldI_I, ldJ_I, ldZ_I, stI_I, stJ_I, true_or, or_true, false_or, or_false, true_and, and_true, false_and, and_false, not_true_eq_false, not_false_eq_true, reduceCtorEq, Nat.reduceEqDiff, Nat.lt_irrefl, Nat.not_lt_zero, Nat.le_refl, Nat.reduceLT, Nat.reduceLeDiff, eq_self, b2_if, b2_I, zbb, Bool.not_true, Bool.not_false, cond_true, cond_false, hv, hp, hk, if_neg (I3_nn (show k < 2147483648 by omega))]
theorem C_place_o {h g : sm_H} (wT : wfT g) (wH : wfH0 g) (cH : cH h g) {a : Nat} {x : Int32} (ha : a < nH g) (hx : inR x (tM g (ty g a)) = false) : F_46 (I3 a) x h = some (-1, h) := by
  have e2 : g.1 67 18 = I3 (nH g) := wH.1.1
  have e3 : nH g ≤ 500 := wH.1.2
  have e4 : g.1 73 (ty g a) = I3 (tM g (ty g a)) := (wT.2.1 (ty g a) (wH.2 a ha).2.2.1).2.1.1
  have e5 : tM g (ty g a) ≤ 10 := (wT.2.1 (ty g a) (wH.2 a ha).2.2.1).2.1.2
  have hi : inR (I3 a) (nH g) = true := by rw [inR_I (by omega)]; simp [ha]
  have hv : h.1 19 a = I3 (tM g (ty g a)) := (cH.2.2.2 a ha).2.1.trans e4
  simp only [F_46_26, F_46_0, F_46]
  rw [rng1 (cH.1.trans e2) (by omega), hi, ldI_I (by omega) (by omega)]
  simp only [cond_true, Option.bind_some, hv]
  rw [rng2 (n := tM g (ty g a)) rfl (by omega), hx]
  rfl
theorem C_place_n {h g : sm_H} (wH : wfH0 g) (cH : cH h g) {x y : Int32} (hx : inR x (nH g) = false) : F_46 x y h = some (-1, h) := by
  have e2 : g.1 67 18 = I3 (nH g) := wH.1.1
  have e3 : nH g ≤ 500 := wH.1.2
  simp only [F_46_26, F_46_0, F_46]
  rw [rng1 (cH.1.trans e2) (by omega), hx]
  rfl
theorem C_hasHg {h g : sm_H} (wH : wfH0 g) (cH : cH h g) (x : Int32) : F_36 x h = some (b2 (inR x (nH g)), h) := C_hasH (cH.1.trans wH.1.1) wH.1.2 x
theorem R_isHg {g : sm_H} (wH : wfH0 g) (x : Int32) : F_304 x g = some (b2 (inR x (nH g)), g) := R_isH wH.1.1 wH.1.2 x
theorem C_hasT {h g : sm_H} (wT : wfT g) (cT : cT h g) (x : Int32) : F_224 x h = some (b2 (inR x (nT g)), h) := by
  have e2 : g.1 67 10 = I3 (nT g) := wT.1.1
  have e3 : nT g ≤ 300 := wT.1.2
  simp only [F_224_17, F_224_16, F_224_0, F_224, true_or, or_true, if_true]
  rw [rng1 (cT.1.trans e2) (by omega), cb2]
theorem R_isT {g : sm_H} (wT : wfT g) (x : Int32) : F_303 x g = some (b2 (inR x (nT g)), g) := by
  have e2 : g.1 67 10 = I3 (nT g) := wT.1.1
  have e3 : nT g ≤ 300 := wT.1.2
  simp only [F_303_17, F_303_16, F_303_0, F_303, true_or, or_true, if_true]
  rw [rng1 e2 (by omega), cb2]
theorem C_tres {h g : sm_H} (wT : wfT g) (cT : cT h g) {t : Nat} (ht : t < nT g) : F_225 (I3 t) h = some (g.1 72 t, h) := by
  have e2 : g.1 67 10 = I3 (nT g) := wT.1.1
  have e3 : nT g ≤ 300 := wT.1.2
  have hi : inR (I3 t) (nT g) = true := by rw [inR_I (by omega)]; simp [ht]
  have hv := (cT.2.1 t (by omega)).1
  simp only [F_225_22, F_225_21, F_225_0, F_225]
  rw [rng1 (cT.1.trans e2) (by omega), hi]
  simp (disch := omega) only [↓reduceIte, if_true, if_false, ite_self, Option.bind_some, Option.map_some, wI_rd, wJ_rd, wI_2, wJ_1, wJ_22, I3_lit, I3_add, I3_mul, I3_lt, I3_le, I3_inj, I3_nn', I3_n1, I3_n2, m2m1, ldI_I, ldJ_I, ldZ_I, stI_I, stJ_I, true_or, or_true, false_or, or_false, true_and, and_true, false_and, and_false, not_true_eq_false, not_false_eq_true, reduceCtorEq, Nat.reduceEqDiff, Nat.lt_irrefl, Nat.not_lt_zero, Nat.le_refl, Nat.reduceLT, Nat.reduceLeDiff, eq_self, b2_if, b2_I, zbb, Bool.not_true, Bool.not_false, cond_true, cond_false, hv]
theorem C_tres_o {h g : sm_H} (wT : wfT g) (cT : cT h g) {x : Int32} (hi : inR x (nT g) = false) : F_225 x h = some (-1, h) := by
  have e2 : g.1 67 10 = I3 (nT g) := wT.1.1
  have e3 : nT g ≤ 300 := wT.1.2
  simp only [F_225_22, F_225_21, F_225_0, F_225]
  rw [rng1 (cT.1.trans e2) (by omega), hi]
  rfl
theorem C_tmany {h g : sm_H} (wT : wfT g) (cT : cT h g) {t : Nat} (ht : t < nT g) : F_226 (I3 t) h = some (g.1 73 t, h) := by
  have e2 : g.1 67 10 = I3 (nT g) := wT.1.1
  have e3 : nT g ≤ 300 := wT.1.2
  have hi : inR (I3 t) (nT g) = true := by rw [inR_I (by omega)]; simp [ht]
  have hv := (cT.2.1 t (by omega)).2
  simp only [F_226_22, F_226_21, F_226_0, F_226]
  rw [rng1 (cT.1.trans e2) (by omega), hi]
  simp (disch := omega) only [↓reduceIte, if_true, if_false, ite_self, Option.bind_some, Option.map_some, wI_rd, wJ_rd, wI_2, wJ_1, wJ_22, I3_lit, I3_add, I3_mul, I3_lt, I3_le, I3_inj, I3_nn', I3_n1, I3_n2, m2m1, ldI_I, ldJ_I, ldZ_I, stI_I, stJ_I, true_or, or_true, false_or, or_false, true_and, and_true, false_and, and_false, not_true_eq_false, not_false_eq_true, reduceCtorEq, Nat.reduceEqDiff, Nat.lt_irrefl, Nat.not_lt_zero, Nat.le_refl, Nat.reduceLT, Nat.reduceLeDiff, eq_self, b2_if, b2_I, zbb, Bool.not_true, Bool.not_false, cond_true, cond_false, hv]
theorem C_tmany_o {h g : sm_H} (wT : wfT g) (cT : cT h g) {x : Int32} (hi : inR x (nT g) = false) : F_226 x h = some (0, h) := by
  have e2 : g.1 67 10 = I3 (nT g) := wT.1.1
  have e3 : nT g ≤ 300 := wT.1.2
  simp only [F_226_22, F_226_21, F_226_0, F_226]
  rw [rng1 (cT.1.trans e2) (by omega), hi]
  rfl
theorem C_tplace {h g : sm_H} (wT : wfT g) (cT : cT h g) {t k : Nat} (ht : t < nT g) (hk : k < tM g t) : F_227 (I3 t) (I3 k) h = some (g.1 74 (10 * t + k), h) := by
  have e2 : g.1 67 10 = I3 (nT g) := wT.1.1
  have e3 : nT g ≤ 300 := wT.1.2
  have e4 : g.1 73 t = I3 (tM g t) := (wT.2.1 t ht).2.1.1
  have e5 : tM g t ≤ 10 := (wT.2.1 t ht).2.1.2
  have hi : inR (I3 t) (nT g) = true := by rw [inR_I (by omega)]; simp [ht]
  have hv : h.1 7 t = I3 (tM g t) := (cT.2.1 t (by omega)).2.trans e4
  have hp : h.1 8 (t * 10 + k) = g.1 74 (10 * t + k) := by rw [Nat.mul_comm]; exact cT.2.2 (10 * t + k) (by omega)
  simp only [F_227_26, F_227_0, F_227]
  rw [rng1 (cT.1.trans e2) (by omega), hi]
  simp (disch := omega) only [↓reduceIte, if_true, if_false, ite_self, Option.bind_some, Option.map_some, wI_rd, wJ_rd, wI_2, wJ_1, wJ_22, I3_lit, I3_add, I3_mul, I3_lt, I3_le, I3_inj, I3_nn', I3_n1, I3_n2, m2m1, ldI_I, ldJ_I, ldZ_I, stI_I, stJ_I, true_or, or_true, false_or, or_false, true_and, and_true, false_and, and_false, not_true_eq_false, not_false_eq_true, reduceCtorEq, Nat.reduceEqDiff, Nat.lt_irrefl, Nat.not_lt_zero, Nat.le_refl, Nat.reduceLT, Nat.reduceLeDiff, eq_self, b2_if, b2_I, zbb, Bool.not_true, Bool.not_false, cond_true, cond_false, hv, hp, hk, if_neg (I3_nn (show k < 2147483648 by omega))]
theorem C_tplace_o {h g : sm_H} (wT : wfT g) (cT : cT h g) {t : Nat} {x : Int32} (ht : t < nT g) (hx : inR x (tM g t) = false) : F_227 (I3 t) x h = some (-1, h) := by
  have e2 : g.1 67 10 = I3 (nT g) := wT.1.1
  have e3 : nT g ≤ 300 := wT.1.2
  have e4 : g.1 73 t = I3 (tM g t) := (wT.2.1 t ht).2.1.1
  have e5 : tM g t ≤ 10 := (wT.2.1 t ht).2.1.2
  have hi : inR (I3 t) (nT g) = true := by rw [inR_I (by omega)]; simp [ht]
  have hv : h.1 7 t = I3 (tM g t) := (cT.2.1 t (by omega)).2.trans e4
  simp only [F_227_26, F_227_0, F_227]
  rw [rng1 (cT.1.trans e2) (by omega), hi, ldI_I (by omega) (by omega)]
  simp only [cond_true, Option.bind_some, hv]
  rw [rng2 (n := tM g t) rfl (by omega), hx]
  rfl
theorem C_tplace_n {h g : sm_H} (wT : wfT g) (cT : cT h g) {x y : Int32} (hx : inR x (nT g) = false) : F_227 x y h = some (-1, h) := by
  have e2 : g.1 67 10 = I3 (nT g) := wT.1.1
  have e3 : nT g ≤ 300 := wT.1.2
  simp only [F_227_26, F_227_0, F_227]
  rw [rng1 (cT.1.trans e2) (by omega), hx]
  rfl
theorem op_aim {h : sm_H} (x y : Int32) (I : I0 h) : ∃ v h1 h2, F_272 x y h = some (v, h1) ∧ F_399 x y h1 = some (v, h2) ∧ I0 h2 := by
  obtain ⟨wK, cK, wT, cT, wH, cH, wM, cM, cR, cP, cG, cO, cV, wX, cX, cXh, cU, cY, cF, cZ⟩ := id I
  obtain ⟨r1, ⟨r2, r3⟩, r4, r5⟩ := id cG
  have e3 : nH h ≤ 500 := wH.1.2
  have r5 : ∀ k, k < tn (h.1 67 35) → ∃ a, a < nH h ∧ h.1 92 k = I3 a := r5
  generalize hn : tn (h.1 67 35) = n at r2 r3 r5
  have CP := C_hasTg (r1.trans r2) (by omega) x
  have RO := R_outI (h := h) (n := n) (by omega) x
  have CH := C_hasHg wH cH y
  have RH := R_isHg wH y
  rcases inR_c x n (by omega) with ⟨a, ha, rfl, hi⟩ | hi
  · rcases inR_c y (nH h) (by omega) with ⟨b, hb, rfl, hj⟩ | hj
    · obtain ⟨c, hc, ec⟩ := r5 a (by omega)
      have ec1 := (r4 a (by omega)).trans ec
      have T1 := C_typeOf wH cH hb
      have T2 := C_typeOf wH cH hc
      by_cases q : h.1 76 c = h.1 76 b
      · skip
        have B0 := I1_base I
        have wF : wfF (sm_wI (sm_wI h 32 a (I3 b)) 92 a (I3 b)) := by
          have w500 : nH h ≤ 500 := wH.1.2
          have e92 : ∀ k, (sm_wI (sm_wI h 32 a (I3 b)) 92 a (I3 b)).1 92 k = if k = a then I3 b else h.1 92 k := fun k => rfl
          have tb : tn (I3 b) = b := I3_clamp (by omega)
          have tc : tn (I3 c) = c := I3_clamp (by omega)
          refine wfF_ext B0 (fun k hk => ?_) ⟨Nat.le_refl _, fun _ _ => rfl, Nat.le_refl _, fun _ _ => rfl, ⟨Nat.le_refl _, fun _ _ => ⟨rfl, rfl, fun _ _ => rfl⟩⟩, Nat.le_refl _, fun _ _ => rfl, Nat.le_refl _, fun k hk => ?_, Nat.le_refl _, ⟨Nat.le_refl _, fun _ _ => ⟨rfl, rfl, rfl, rfl, rfl, rfl⟩⟩⟩ ⟨rfl, fun _ _ => ⟨rfl, rfl, rfl, rfl, rfl⟩, fun _ _ _ _ => rfl⟩ ⟨rfl, fun _ _ => rfl⟩ cZ.2
          · rw [e92]
            by_cases z : k = a
            · rw [if_pos z, tb]; exact hb
            · rw [if_neg z]; exact B0.g k hk
          · rw [e92]
            by_cases z : k = a
            · rw [if_pos z, tb, z, ec, tc]
              show tn (h.1 76 b) = tn (h.1 76 c)
              rw [q]
            · rw [if_neg z]; rfl
        refine ⟨1, sm_wI h 32 a (I3 b), sm_wI (sm_wI h 32 a (I3 b)) 92 a (I3 b), ?_, ?_, wK, cK, wT, cT, wH, cH, wM, cM, cR, cP, ⟨r1, ⟨by rw [← hn] at r2; exact r2, by rw [← hn] at r3; exact r3⟩, fun k hk => ?_, fun k hk => ?_⟩, cO, cV, wX, cX, cXh_fr (by repeat first | exact hi_rfl | refine hi_wI ?_ (by decide) | refine hi_wJ ?_ (by decide)) cXh, cU, cY, cF, cZ.1, wF⟩
        · simp (disch := omega) only [F_272_22, F_272_0, F_272, F_157_18, F_157_0, F_157, F_158_15, F_158_0, F_158, ↓reduceIte, if_true, if_false, ite_self, Option.bind_some, Option.map_some, wI_rd, wJ_rd, wI_2, wJ_1, wJ_22, I3_lit, I3_add, I3_mul, I3_lt, I3_le, I3_inj, I3_nn', I3_n1, I3_n2, m2m1, ldI_I, ldJ_I, ldZ_I, stI_I, stJ_I, true_or, or_true, false_or, or_false, true_and, and_true, false_and, and_false, not_true_eq_false, not_false_eq_true, reduceCtorEq, Nat.reduceEqDiff, Nat.lt_irrefl, Nat.not_lt_zero, Nat.le_refl, Nat.reduceLT, Nat.reduceLeDiff, eq_self, b2_if, b2_I, zbb, Bool.not_true, Bool.not_false, cond_true, cond_false, CP, CH, hi, hj, ec1, T1, T2, q, CP, hi]
        · have RO' := R_outI (h := sm_wI h 32 a (I3 b)) (n := n) (by omega) (I3 a)
          have RH' : F_304 (I3 b) (sm_wI h 32 a (I3 b)) = _ := R_isHg (g := sm_wI h 32 a (I3 b)) wH (I3 b)
          have hj' : inR (I3 b) (nH (sm_wI h 32 a (I3 b))) = true := hj
          have r2' : (sm_wI h 32 a (I3 b)).1 67 35 = I3 n := r2
          simp (disch := omega) only [F_399_44, F_399_0, F_399, ↓reduceIte, if_true, if_false, ite_self, Option.bind_some, Option.map_some, wI_rd, wJ_rd, wI_2, wJ_1, wJ_22, I3_lit, I3_add, I3_mul, I3_lt, I3_le, I3_inj, I3_nn', I3_n1, I3_n2, m2m1, ldI_I, ldJ_I, ldZ_I, stI_I, stJ_I, true_or, or_true, false_or, or_false, true_and, and_true, false_and, and_false, not_true_eq_false, not_false_eq_true, reduceCtorEq, Nat.reduceEqDiff, Nat.lt_irrefl, Nat.not_lt_zero, Nat.le_refl, Nat.reduceLT, Nat.reduceLeDiff, eq_self, b2_if, b2_I, zbb, Bool.not_true, Bool.not_false, cond_true, cond_false, r2, RO', RH', hi, hj', ec, q]
        · exact upd_eq (p := h.1 32) (q := h.1 92) (y := 0) (r4 k hk)
        · show ∃ c, c < nH h ∧ (if k = a then I3 b else h.1 92 k) = I3 c
          by_cases q : k = a
          · exact ⟨b, hb, if_pos q⟩
          · rw [if_neg q]; exact r5 k (by rw [← hn]; exact hk)
      · refine ⟨0, h, h, ?_, ?_, I⟩
        · simp (disch := omega) only [F_272_22, F_272_0, F_272, F_157_18, F_157_0, F_157, F_158_15, F_158_0, F_158, ↓reduceIte, if_true, if_false, ite_self, Option.bind_some, Option.map_some, wI_rd, wJ_rd, wI_2, wJ_1, wJ_22, I3_lit, I3_add, I3_mul, I3_lt, I3_le, I3_inj, I3_nn', I3_n1, I3_n2, m2m1, ldI_I, ldJ_I, ldZ_I, stI_I, stJ_I, true_or, or_true, false_or, or_false, true_and, and_true, false_and, and_false, not_true_eq_false, not_false_eq_true, reduceCtorEq, Nat.reduceEqDiff, Nat.lt_irrefl, Nat.not_lt_zero, Nat.le_refl, Nat.reduceLT, Nat.reduceLeDiff, eq_self, b2_if, b2_I, zbb, Bool.not_true, Bool.not_false, cond_true, cond_false, CP, CH, hi, hj, ec1, T1, T2, q, CP, hi]
        · simp (disch := omega) only [F_399_44, F_399_0, F_399, ↓reduceIte, if_true, if_false, ite_self, Option.bind_some, Option.map_some, wI_rd, wJ_rd, wI_2, wJ_1, wJ_22, I3_lit, I3_add, I3_mul, I3_lt, I3_le, I3_inj, I3_nn', I3_n1, I3_n2, m2m1, ldI_I, ldJ_I, ldZ_I, stI_I, stJ_I, true_or, or_true, false_or, or_false, true_and, and_true, false_and, and_false, not_true_eq_false, not_false_eq_true, reduceCtorEq, Nat.reduceEqDiff, Nat.lt_irrefl, Nat.not_lt_zero, Nat.le_refl, Nat.reduceLT, Nat.reduceLeDiff, eq_self, b2_if, b2_I, zbb, Bool.not_true, Bool.not_false, cond_true, cond_false, r2, RO, RH, hi, hj, ec, if_neg (fun z : h.1 76 b = h.1 76 c => q z.symm)]
    · refine ⟨0, h, h, ?_, ?_, I⟩
      · simp (disch := omega) only [F_272_22, F_272_0, F_272, ↓reduceIte, if_true, if_false, ite_self, Option.bind_some, Option.map_some, wI_rd, wJ_rd, wI_2, wJ_1, wJ_22, I3_lit, I3_add, I3_mul, I3_lt, I3_le, I3_inj, I3_nn', I3_n1, I3_n2, m2m1, ldI_I, ldJ_I, ldZ_I, stI_I, stJ_I, true_or, or_true, false_or, or_false, true_and, and_true, false_and, and_false, not_true_eq_false, not_false_eq_true, reduceCtorEq, Nat.reduceEqDiff, Nat.lt_irrefl, Nat.not_lt_zero, Nat.le_refl, Nat.reduceLT, Nat.reduceLeDiff, eq_self, b2_if, b2_I, zbb, Bool.not_true, Bool.not_false, cond_true, cond_false, CP, CH, hi, hj]
      · simp (disch := omega) only [F_399_44, F_399_0, F_399, ↓reduceIte, if_true, if_false, ite_self, Option.bind_some, Option.map_some, wI_rd, wJ_rd, wI_2, wJ_1, wJ_22, I3_lit, I3_add, I3_mul, I3_lt, I3_le, I3_inj, I3_nn', I3_n1, I3_n2, m2m1, ldI_I, ldJ_I, ldZ_I, stI_I, stJ_I, true_or, or_true, false_or, or_false, true_and, and_true, false_and, and_false, not_true_eq_false, not_false_eq_true, reduceCtorEq, Nat.reduceEqDiff, Nat.lt_irrefl, Nat.not_lt_zero, Nat.le_refl, Nat.reduceLT, Nat.reduceLeDiff, eq_self, b2_if, b2_I, zbb, Bool.not_true, Bool.not_false, cond_true, cond_false, r2, RO, RH, hi, hj]
  · refine ⟨0, h, h, ?_, ?_, I⟩
    · simp (disch := omega) only [F_272_22, F_272_0, F_272, ↓reduceIte, if_true, if_false, ite_self, Option.bind_some, Option.map_some, wI_rd, wJ_rd, wI_2, wJ_1, wJ_22, I3_lit, I3_add, I3_mul, I3_lt, I3_le, I3_inj, I3_nn', I3_n1, I3_n2, m2m1, ldI_I, ldJ_I, ldZ_I, stI_I, stJ_I, true_or, or_true, false_or, or_false, true_and, and_true, false_and, and_false, not_true_eq_false, not_false_eq_true, reduceCtorEq, Nat.reduceEqDiff, Nat.lt_irrefl, Nat.not_lt_zero, Nat.le_refl, Nat.reduceLT, Nat.reduceLeDiff, eq_self, b2_if, b2_I, zbb, Bool.not_true, Bool.not_false, cond_true, cond_false, CP, hi]
    · simp (disch := omega) only [F_399_44, F_399_0, F_399, ↓reduceIte, if_true, if_false, ite_self, Option.bind_some, Option.map_some, wI_rd, wJ_rd, wI_2, wJ_1, wJ_22, I3_lit, I3_add, I3_mul, I3_lt, I3_le, I3_inj, I3_nn', I3_n1, I3_n2, m2m1, ldI_I, ldJ_I, ldZ_I, stI_I, stJ_I, true_or, or_true, false_or, or_false, true_and, and_true, false_and, and_false, not_true_eq_false, not_false_eq_true, reduceCtorEq, Nat.reduceEqDiff, Nat.lt_irrefl, Nat.not_lt_zero, Nat.le_refl, Nat.reduceLT, Nat.reduceLeDiff, eq_self, b2_if, b2_I, zbb, Bool.not_true, Bool.not_false, cond_true, cond_false, r2, RO, hi]
theorem op_told {h : sm_H} (x : Int32) (I : I0 h) : ∃ v h1 h2, F_277 x h = some (v, h1) ∧ F_405 x h1 = some (v, h2) ∧ I0 h2 := by
  obtain ⟨wK, cK, wT, cT, wH, cH, wM, cM, cR, cP, cG, cO, cV, wX, cX, cXh, cU, cY, cF, cZ⟩ := id I
  obtain ⟨u1, u2, u3, u4, -⟩ := cU
  simp only [F_277_0, F_277, F_405_0, F_405, F_143_0, F_143, F_144_0, F_144, F_223_0, F_223, F_35_0, F_35, F_112_0, F_112, F_72_0, F_72, Option.bind_some, cX.1, cV.1, cT.1, cH.1, cM.1, u1, u2, u3, u4]
  have e : ∀ (v : Int32), ∃ w h1 h2, (some (v, h) : Option (Int32 × sm_H)) = some (w, h1) ∧ (some (v, h1) : Option (Int32 × sm_H)) = some (w, h2) ∧ I0 h2 := fun v => ⟨v, h, h, rfl, rfl, I⟩
  by_cases c0 : x = 0
  · subst c0; exact ⟨_, h, h, rfl, rfl, I⟩
  by_cases c1 : x = 1
  · subst c1; exact ⟨_, h, h, rfl, rfl, I⟩
  by_cases c2 : x = 2
  · subst c2; exact ⟨_, h, h, rfl, rfl, I⟩
  by_cases c3 : x = 3
  · subst c3; exact ⟨_, h, h, rfl, rfl, I⟩
  by_cases c4 : x = 4
  · subst c4; exact ⟨_, h, h, rfl, rfl, I⟩
  by_cases c5 : x = 5
  · subst c5; exact ⟨_, h, h, rfl, rfl, I⟩
  by_cases c6 : x = 6
  · subst c6; exact ⟨_, h, h, rfl, rfl, I⟩
  by_cases c7 : x = 7
  · subst c7; exact ⟨_, h, h, rfl, rfl, I⟩
  by_cases c8 : x = 8
  · subst c8; exact ⟨_, h, h, rfl, rfl, I⟩
  simp only [c0, c1, c2, c3, c4, c5, c6, c7, c8, if_false]
  exact ⟨-1, h, h, rfl, rfl, I⟩
theorem op_typeAbout {h : sm_H} (x y : Int32) (I : I0 h) : ∃ v h1 h2, F_262 x y h = some (v, h1) ∧ F_383 x y h1 = some (v, h2) ∧ I0 h2 := by
  obtain ⟨wK, cK, wT, cT, wH, cH, wM, cM, cR, cP, cG, cO, cV, wX, cX, cXh, cU, cY, cF, cZ⟩ := id I
  have e3 : nT h ≤ 300 := wT.1.2
  have RT := R_isT wT x
  have CT := C_hasT wT cT x
  rcases inR_c x (nT h) (by omega) with ⟨t, ht, rfl, hi⟩ | hi
  · have m1 : h.1 73 t = I3 (tM h t) := (wT.2.1 t ht).2.1.1
    have m2 : tM h t ≤ 10 := (wT.2.1 t ht).2.1.2
    by_cases c1 : y = -1
    · subst c1
      refine ⟨h.1 72 t, h, h, ?_, ?_, I⟩
      · simp only [F_262_43, F_262_0, F_262, if_true, C_tres wT cT ht, Option.bind_some]
      · simp (disch := omega) only [F_383_64, F_383_63, F_383_0, F_383, ↓reduceIte, if_true, if_false, ite_self, Option.bind_some, Option.map_some, wI_rd, wJ_rd, wI_2, wJ_1, wJ_22, I3_lit, I3_add, I3_mul, I3_lt, I3_le, I3_inj, I3_nn', I3_n1, I3_n2, m2m1, ldI_I, ldJ_I, ldZ_I, stI_I, stJ_I, true_or, or_true, false_or, or_false, true_and, and_true, false_and, and_false, not_true_eq_false, not_false_eq_true, reduceCtorEq, Nat.reduceEqDiff, Nat.lt_irrefl, Nat.not_lt_zero, Nat.le_refl, Nat.reduceLT, Nat.reduceLeDiff, eq_self, b2_if, b2_I, zbb, Bool.not_true, Bool.not_false, cond_true, cond_false, RT, hi]
    by_cases c2 : y = -2
    · subst c2
      refine ⟨h.1 73 t, h, h, ?_, ?_, I⟩
      · simp only [F_262_43, F_262_0, F_262, if_neg c1, if_true, C_tmany wT cT ht, CT, hi, Option.bind_some]; rfl
      · simp (disch := omega) only [F_383_64, F_383_63, F_383_0, F_383, ↓reduceIte, if_true, if_false, ite_self, Option.bind_some, Option.map_some, wI_rd, wJ_rd, wI_2, wJ_1, wJ_22, I3_lit, I3_add, I3_mul, I3_lt, I3_le, I3_inj, I3_nn', I3_n1, I3_n2, m2m1, ldI_I, ldJ_I, ldZ_I, stI_I, stJ_I, true_or, or_true, false_or, or_false, true_and, and_true, false_and, and_false, not_true_eq_false, not_false_eq_true, reduceCtorEq, Nat.reduceEqDiff, Nat.lt_irrefl, Nat.not_lt_zero, Nat.le_refl, Nat.reduceLT, Nat.reduceLeDiff, eq_self, b2_if, b2_I, zbb, Bool.not_true, Bool.not_false, cond_true, cond_false, RT, hi, if_neg c1, if_true]
    rcases inR_c y (tM h t) (by omega) with ⟨k, hk, rfl, hj⟩ | hj
    · refine ⟨h.1 74 (10 * t + k), h, h, ?_, ?_, I⟩
      · simp only [F_262_43, F_262_0, F_262, if_neg c1, if_neg c2, C_tplace wT cT ht hk, Option.bind_some]
      · simp (disch := omega) only [F_383_64, F_383_63, F_383_0, F_383, ↓reduceIte, if_true, if_false, ite_self, Option.bind_some, Option.map_some, wI_rd, wJ_rd, wI_2, wJ_1, wJ_22, I3_lit, I3_add, I3_mul, I3_lt, I3_le, I3_inj, I3_nn', I3_n1, I3_n2, m2m1, ldI_I, ldJ_I, ldZ_I, stI_I, stJ_I, true_or, or_true, false_or, or_false, true_and, and_true, false_and, and_false, not_true_eq_false, not_false_eq_true, reduceCtorEq, Nat.reduceEqDiff, Nat.lt_irrefl, Nat.not_lt_zero, Nat.le_refl, Nat.reduceLT, Nat.reduceLeDiff, eq_self, b2_if, b2_I, zbb, Bool.not_true, Bool.not_false, cond_true, cond_false, RT, hi, if_neg c1, if_neg c2, m1, show ¬ tM h t ≤ k by omega]
    · refine ⟨-1, h, h, ?_, ?_, I⟩
      · simp only [F_262_43, F_262_0, F_262, if_neg c1, if_neg c2, C_tplace_o wT cT ht hj, Option.bind_some]
      · simp only [F_383_64, F_383_63, F_383_0, F_383, RT, hi, Option.bind_some, if_neg c1, if_neg c2]
        rw [ldI_I (by omega) (by omega)]
        simp only [Option.bind_some, m1]
        rw [rng1 (n := tM h t) rfl (by omega), hj]
        rfl
  · refine ⟨-1, h, h, ?_, ?_, I⟩
    · by_cases c1 : y = -1
      · simp only [F_262_43, F_262_0, F_262, if_pos c1, C_tres_o wT cT hi, Option.bind_some]
      by_cases c2 : y = -2
      · simp only [F_262_43, F_262_0, F_262, if_neg c1, if_pos c2, CT, hi, Option.bind_some]; rfl
      simp only [F_262_43, F_262_0, F_262, if_neg c1, if_neg c2, C_tplace_n wT cT hi, Option.bind_some]
    · simp only [F_383_64, F_383_63, F_383_0, F_383, RT, hi]; rfl
theorem op_constant {h : sm_H} (x : Int32) (I : I0 h) : ∃ v h1 h2, F_266 x h = some (v, h1) ∧ F_386 x h1 = some (v, h2) ∧ I0 h2 := by
  obtain ⟨wK, cK, wT, cT, wH, cH, wM, cM, cR, cP, cG, cO, cV, wX, cX, cXh, cU, cY, cF, cZ⟩ := id I
  have e3 : nH h ≤ 500 := wH.1.2
  have RH := R_isHg wH x
  rcases inR_c x (nH h) (by omega) with ⟨a, ha, rfl, hi⟩ | hi
  · refine ⟨h.2.1 79 a, h, h, ?_, ?_, I⟩
    rotate_left
    · simp (disch := omega) only [F_386_18, F_386_0, F_386, ↓reduceIte, if_true, if_false, ite_self, Option.bind_some, Option.map_some, wI_rd, wJ_rd, wI_2, wJ_1, wJ_22, I3_lit, I3_add, I3_mul, I3_lt, I3_le, I3_inj, I3_nn', I3_n1, I3_n2, m2m1, ldI_I, ldJ_I, ldZ_I, stI_I, stJ_I, true_or, or_true, false_or, or_false, true_and, and_true, false_and, and_false, not_true_eq_false, not_false_eq_true, reduceCtorEq, Nat.reduceEqDiff, Nat.lt_irrefl, Nat.not_lt_zero, Nat.le_refl, Nat.reduceLT, Nat.reduceLeDiff, eq_self, b2_if, b2_I, zbb, Bool.not_true, Bool.not_false, cond_true, cond_false, RH, hi]
    · simp only [F_266_0, F_266, C_hc wH cH ha, Option.bind_some]
  · refine ⟨0, h, h, ?_, ?_, I⟩
    · simp only [F_266_0, F_266, C_hc_o wH cH hi, Option.bind_some]
    · simp only [F_386_18, F_386_0, F_386, RH, hi]; rfl
theorem op_handle {h : sm_H} (x y : Int32) (I : I0 h) : ∃ v h1 h2, F_265 x y h = some (v, h1) ∧ F_385 x y h1 = some (v, h2) ∧ I0 h2 := by
  obtain ⟨wK, cK, wT, cT, wH, cH, wM, cM, cR, cP, cG, cO, cV, wX, cX, cXh, cU, cY, cF, cZ⟩ := id I
  have e3 : nH h ≤ 500 := wH.1.2
  have RH := R_isHg wH x
  have CH := C_hasHg wH cH x
  rcases inR_c x (nH h) (by omega) with ⟨a, ha, rfl, hi⟩ | hi
  · have m1 : h.1 80 a = I3 (pm h a) := (wH.2 a ha).2.2.2.1
    have m2 : pm h a ≤ 20 := (wH.2 a ha).2.2.2.2
    rcases I3_cases y with ⟨k, hk, rfl⟩ | hy
    · rcases (show k = 0 ∨ k = 1 ∨ k = 2 ∨ k = 3 ∨ k = 4 ∨ 5 ≤ k by omega) with rfl | rfl | rfl | rfl | rfl | h5
      · refine ⟨h.1 76 a, h, h, ?_, ?_, I⟩
        · simp (disch := omega) only [F_265_15, F_265_0, F_265, ↓reduceIte, if_true, if_false, ite_self, Option.bind_some, Option.map_some, wI_rd, wJ_rd, wI_2, wJ_1, wJ_22, I3_lit, I3_add, I3_mul, I3_lt, I3_le, I3_inj, I3_nn', I3_n1, I3_n2, m2m1, ldI_I, ldJ_I, ldZ_I, stI_I, stJ_I, true_or, or_true, false_or, or_false, true_and, and_true, false_and, and_false, not_true_eq_false, not_false_eq_true, reduceCtorEq, Nat.reduceEqDiff, Nat.lt_irrefl, Nat.not_lt_zero, Nat.le_refl, Nat.reduceLT, Nat.reduceLeDiff, eq_self, b2_if, b2_I, zbb, Bool.not_true, Bool.not_false, cond_true, cond_false, CH, hi, C_typeOf wH cH ha]
        · simp (disch := omega) only [F_385_113, F_385_112, F_385_0, F_385, ↓reduceIte, if_true, if_false, ite_self, Option.bind_some, Option.map_some, wI_rd, wJ_rd, wI_2, wJ_1, wJ_22, I3_lit, I3_add, I3_mul, I3_lt, I3_le, I3_inj, I3_nn', I3_n1, I3_n2, m2m1, ldI_I, ldJ_I, ldZ_I, stI_I, stJ_I, true_or, or_true, false_or, or_false, true_and, and_true, false_and, and_false, not_true_eq_false, not_false_eq_true, reduceCtorEq, Nat.reduceEqDiff, Nat.lt_irrefl, Nat.not_lt_zero, Nat.le_refl, Nat.reduceLT, Nat.reduceLeDiff, eq_self, b2_if, b2_I, zbb, Bool.not_true, Bool.not_false, cond_true, cond_false, RH, hi]
      · refine ⟨h.1 75 a, h, h, ?_, ?_, I⟩
        · simp (disch := omega) only [F_265_15, F_265_0, F_265, ↓reduceIte, if_true, if_false, ite_self, Option.bind_some, Option.map_some, wI_rd, wJ_rd, wI_2, wJ_1, wJ_22, I3_lit, I3_add, I3_mul, I3_lt, I3_le, I3_inj, I3_nn', I3_n1, I3_n2, m2m1, ldI_I, ldJ_I, ldZ_I, stI_I, stJ_I, true_or, or_true, false_or, or_false, true_and, and_true, false_and, and_false, not_true_eq_false, not_false_eq_true, reduceCtorEq, Nat.reduceEqDiff, Nat.lt_irrefl, Nat.not_lt_zero, Nat.le_refl, Nat.reduceLT, Nat.reduceLeDiff, eq_self, b2_if, b2_I, zbb, Bool.not_true, Bool.not_false, cond_true, cond_false, CH, hi, C_form wH cH ha, Nat.zero_le]
        · simp (disch := omega) only [F_385_113, F_385_112, F_385_0, F_385, ↓reduceIte, if_true, if_false, ite_self, Option.bind_some, Option.map_some, wI_rd, wJ_rd, wI_2, wJ_1, wJ_22, I3_lit, I3_add, I3_mul, I3_lt, I3_le, I3_inj, I3_nn', I3_n1, I3_n2, m2m1, ldI_I, ldJ_I, ldZ_I, stI_I, stJ_I, true_or, or_true, false_or, or_false, true_and, and_true, false_and, and_false, not_true_eq_false, not_false_eq_true, reduceCtorEq, Nat.reduceEqDiff, Nat.lt_irrefl, Nat.not_lt_zero, Nat.le_refl, Nat.reduceLT, Nat.reduceLeDiff, eq_self, b2_if, b2_I, zbb, Bool.not_true, Bool.not_false, cond_true, cond_false, RH, hi]
      · refine ⟨h.1 77 a, h, h, ?_, ?_, I⟩
        · simp (disch := omega) only [F_265_15, F_265_0, F_265, ↓reduceIte, if_true, if_false, ite_self, Option.bind_some, Option.map_some, wI_rd, wJ_rd, wI_2, wJ_1, wJ_22, I3_lit, I3_add, I3_mul, I3_lt, I3_le, I3_inj, I3_nn', I3_n1, I3_n2, m2m1, ldI_I, ldJ_I, ldZ_I, stI_I, stJ_I, true_or, or_true, false_or, or_false, true_and, and_true, false_and, and_false, not_true_eq_false, not_false_eq_true, reduceCtorEq, Nat.reduceEqDiff, Nat.lt_irrefl, Nat.not_lt_zero, Nat.le_refl, Nat.reduceLT, Nat.reduceLeDiff, eq_self, b2_if, b2_I, zbb, Bool.not_true, Bool.not_false, cond_true, cond_false, CH, hi, C_ha wH cH ha, Nat.zero_le]
        · simp (disch := omega) only [F_385_113, F_385_112, F_385_0, F_385, ↓reduceIte, if_true, if_false, ite_self, Option.bind_some, Option.map_some, wI_rd, wJ_rd, wI_2, wJ_1, wJ_22, I3_lit, I3_add, I3_mul, I3_lt, I3_le, I3_inj, I3_nn', I3_n1, I3_n2, m2m1, ldI_I, ldJ_I, ldZ_I, stI_I, stJ_I, true_or, or_true, false_or, or_false, true_and, and_true, false_and, and_false, not_true_eq_false, not_false_eq_true, reduceCtorEq, Nat.reduceEqDiff, Nat.lt_irrefl, Nat.not_lt_zero, Nat.le_refl, Nat.reduceLT, Nat.reduceLeDiff, eq_self, b2_if, b2_I, zbb, Bool.not_true, Bool.not_false, cond_true, cond_false, RH, hi]
      · refine ⟨h.1 78 a, h, h, ?_, ?_, I⟩
        · simp (disch := omega) only [F_265_15, F_265_0, F_265, ↓reduceIte, if_true, if_false, ite_self, Option.bind_some, Option.map_some, wI_rd, wJ_rd, wI_2, wJ_1, wJ_22, I3_lit, I3_add, I3_mul, I3_lt, I3_le, I3_inj, I3_nn', I3_n1, I3_n2, m2m1, ldI_I, ldJ_I, ldZ_I, stI_I, stJ_I, true_or, or_true, false_or, or_false, true_and, and_true, false_and, and_false, not_true_eq_false, not_false_eq_true, reduceCtorEq, Nat.reduceEqDiff, Nat.lt_irrefl, Nat.not_lt_zero, Nat.le_refl, Nat.reduceLT, Nat.reduceLeDiff, eq_self, b2_if, b2_I, zbb, Bool.not_true, Bool.not_false, cond_true, cond_false, CH, hi, C_hb wH cH ha, Nat.zero_le]
        · simp (disch := omega) only [F_385_113, F_385_112, F_385_0, F_385, ↓reduceIte, if_true, if_false, ite_self, Option.bind_some, Option.map_some, wI_rd, wJ_rd, wI_2, wJ_1, wJ_22, I3_lit, I3_add, I3_mul, I3_lt, I3_le, I3_inj, I3_nn', I3_n1, I3_n2, m2m1, ldI_I, ldJ_I, ldZ_I, stI_I, stJ_I, true_or, or_true, false_or, or_false, true_and, and_true, false_and, and_false, not_true_eq_false, not_false_eq_true, reduceCtorEq, Nat.reduceEqDiff, Nat.lt_irrefl, Nat.not_lt_zero, Nat.le_refl, Nat.reduceLT, Nat.reduceLeDiff, eq_self, b2_if, b2_I, zbb, Bool.not_true, Bool.not_false, cond_true, cond_false, RH, hi]
      · refine ⟨h.1 80 a, h, h, ?_, ?_, I⟩
        · simp (disch := omega) only [F_265_15, F_265_0, F_265, ↓reduceIte, if_true, if_false, ite_self, Option.bind_some, Option.map_some, wI_rd, wJ_rd, wI_2, wJ_1, wJ_22, I3_lit, I3_add, I3_mul, I3_lt, I3_le, I3_inj, I3_nn', I3_n1, I3_n2, m2m1, ldI_I, ldJ_I, ldZ_I, stI_I, stJ_I, true_or, or_true, false_or, or_false, true_and, and_true, false_and, and_false, not_true_eq_false, not_false_eq_true, reduceCtorEq, Nat.reduceEqDiff, Nat.lt_irrefl, Nat.not_lt_zero, Nat.le_refl, Nat.reduceLT, Nat.reduceLeDiff, eq_self, b2_if, b2_I, zbb, Bool.not_true, Bool.not_false, cond_true, cond_false, CH, hi, C_partsOf wH cH ha, Nat.zero_le]
        · simp (disch := omega) only [F_385_113, F_385_112, F_385_0, F_385, ↓reduceIte, if_true, if_false, ite_self, Option.bind_some, Option.map_some, wI_rd, wJ_rd, wI_2, wJ_1, wJ_22, I3_lit, I3_add, I3_mul, I3_lt, I3_le, I3_inj, I3_nn', I3_n1, I3_n2, m2m1, ldI_I, ldJ_I, ldZ_I, stI_I, stJ_I, true_or, or_true, false_or, or_false, true_and, and_true, false_and, and_false, not_true_eq_false, not_false_eq_true, reduceCtorEq, Nat.reduceEqDiff, Nat.lt_irrefl, Nat.not_lt_zero, Nat.le_refl, Nat.reduceLT, Nat.reduceLeDiff, eq_self, b2_if, b2_I, zbb, Bool.not_true, Bool.not_false, cond_true, cond_false, RH, hi]
      · have n0 : ¬ k = 0 := by omega
        have n1 : ¬ k = 1 := by omega
        have n2 : ¬ k = 2 := by omega
        have n3 : ¬ k = 3 := by omega
        have n4 : ¬ k = 4 := by omega
        by_cases c : k - 5 < pm h a
        · have hx : 24 * a + k - 5 = 24 * a + (k - 5) := by omega
          refine ⟨h.1 81 (24 * a + (k - 5)), h, h, ?_, ?_, I⟩
          · simp (disch := omega) only [F_265_15, F_265_0, F_265, ↓reduceIte, if_true, if_false, ite_self, Option.bind_some, Option.map_some, wI_rd, wJ_rd, wI_2, wJ_1, wJ_22, I3_lit, I3_add, I3_mul, I3_lt, I3_le, I3_inj, I3_nn', I3_n1, I3_n2, m2m1, ldI_I, ldJ_I, ldZ_I, stI_I, stJ_I, true_or, or_true, false_or, or_false, true_and, and_true, false_and, and_false, not_true_eq_false, not_false_eq_true, reduceCtorEq, Nat.reduceEqDiff, Nat.lt_irrefl, Nat.not_lt_zero, Nat.le_refl, Nat.reduceLT, Nat.reduceLeDiff, eq_self, b2_if, b2_I, zbb, Bool.not_true, Bool.not_false, cond_true, cond_false, CH, hi, n0, n1, n2, n3, n4, I3_sub, C_part wH cH ha c, Nat.zero_le]
          · simp (disch := omega) only [F_385_113, F_385_112, F_385_0, F_385, ↓reduceIte, if_true, if_false, ite_self, Option.bind_some, Option.map_some, wI_rd, wJ_rd, wI_2, wJ_1, wJ_22, I3_lit, I3_add, I3_mul, I3_lt, I3_le, I3_inj, I3_nn', I3_n1, I3_n2, m2m1, ldI_I, ldJ_I, ldZ_I, stI_I, stJ_I, true_or, or_true, false_or, or_false, true_and, and_true, false_and, and_false, not_true_eq_false, not_false_eq_true, reduceCtorEq, Nat.reduceEqDiff, Nat.lt_irrefl, Nat.not_lt_zero, Nat.le_refl, Nat.reduceLT, Nat.reduceLeDiff, eq_self, b2_if, b2_I, zbb, Bool.not_true, Bool.not_false, cond_true, cond_false, RH, hi, n0, n1, n2, n3, n4, show ¬ k < 5 by omega, m1, I3_sub, hx, show ¬ pm h a ≤ k - 5 by omega]
        · have ho : inR (I3 (k - 5)) (pm h a) = false := by rw [inR_I (by omega)]; simp [c]
          refine ⟨-1, h, h, ?_, ?_, I⟩
          · simp (disch := omega) only [F_265_15, F_265_0, F_265, ↓reduceIte, if_true, if_false, ite_self, Option.bind_some, Option.map_some, wI_rd, wJ_rd, wI_2, wJ_1, wJ_22, I3_lit, I3_add, I3_mul, I3_lt, I3_le, I3_inj, I3_nn', I3_n1, I3_n2, m2m1, ldI_I, ldJ_I, ldZ_I, stI_I, stJ_I, true_or, or_true, false_or, or_false, true_and, and_true, false_and, and_false, not_true_eq_false, not_false_eq_true, reduceCtorEq, Nat.reduceEqDiff, Nat.lt_irrefl, Nat.not_lt_zero, Nat.le_refl, Nat.reduceLT, Nat.reduceLeDiff, eq_self, b2_if, b2_I, zbb, Bool.not_true, Bool.not_false, cond_true, cond_false, CH, hi, n0, n1, n2, n3, n4, I3_sub, C_part_o wH cH ha ho, Nat.zero_le]
          · simp (disch := omega) only [F_385_113, F_385_112, F_385_0, F_385, ↓reduceIte, if_true, if_false, ite_self, Option.bind_some, Option.map_some, wI_rd, wJ_rd, wI_2, wJ_1, wJ_22, I3_lit, I3_add, I3_mul, I3_lt, I3_le, I3_inj, I3_nn', I3_n1, I3_n2, m2m1, ldI_I, ldJ_I, ldZ_I, stI_I, stJ_I, true_or, or_true, false_or, or_false, true_and, and_true, false_and, and_false, not_true_eq_false, not_false_eq_true, reduceCtorEq, Nat.reduceEqDiff, Nat.lt_irrefl, Nat.not_lt_zero, Nat.le_refl, Nat.reduceLT, Nat.reduceLeDiff, eq_self, b2_if, b2_I, zbb, Bool.not_true, Bool.not_false, cond_true, cond_false, RH, hi, n0, n1, n2, n3, n4, show ¬ k < 5 by omega, m1, I3_sub, show pm h a ≤ k - 5 by omega]
    · have nn : ∀ k : Nat, k < 2147483648 → (y = I3 k) = False := fun k hk => eq_false (neg_ne_I3 hy hk)
      refine ⟨-1, h, h, ?_, ?_, I⟩
      · simp (disch := omega) only [F_265_15, F_265_0, F_265, ↓reduceIte, if_true, if_false, ite_self, Option.bind_some, Option.map_some, wI_rd, wJ_rd, wI_2, wJ_1, wJ_22, I3_lit, I3_add, I3_mul, I3_lt, I3_le, I3_inj, I3_nn', I3_n1, I3_n2, m2m1, ldI_I, ldJ_I, ldZ_I, stI_I, stJ_I, true_or, or_true, false_or, or_false, true_and, and_true, false_and, and_false, not_true_eq_false, not_false_eq_true, reduceCtorEq, Nat.reduceEqDiff, Nat.lt_irrefl, Nat.not_lt_zero, Nat.le_refl, Nat.reduceLT, Nat.reduceLeDiff, eq_self, b2_if, b2_I, zbb, Bool.not_true, Bool.not_false, cond_true, cond_false, CH, hi, show (I3 0 ≤ y) = False from eq_false (Int32.not_le.mpr hy)]
      · have l5 : y < I3 5 := neg_lt_I3 hy (by decide)
        simp (disch := omega) only [F_385_113, F_385_112, F_385_0, F_385, ↓reduceIte, if_true, if_false, ite_self, Option.bind_some, Option.map_some, wI_rd, wJ_rd, wI_2, wJ_1, wJ_22, I3_lit, I3_add, I3_mul, I3_lt, I3_le, I3_inj, I3_nn', I3_n1, I3_n2, m2m1, ldI_I, ldJ_I, ldZ_I, stI_I, stJ_I, true_or, or_true, false_or, or_false, true_and, and_true, false_and, and_false, not_true_eq_false, not_false_eq_true, reduceCtorEq, Nat.reduceEqDiff, Nat.lt_irrefl, Nat.not_lt_zero, Nat.le_refl, Nat.reduceLT, Nat.reduceLeDiff, eq_self, b2_if, b2_I, zbb, Bool.not_true, Bool.not_false, cond_true, cond_false, RH, hi, nn, l5]
  · refine ⟨-1, h, h, ?_, ?_, I⟩
    · simp only [F_265_15, F_265_0, F_265, CH, hi]; rfl
    · simp only [F_385_113, F_385_112, F_385_0, F_385, RH, hi]; rfl
theorem R_ref {g : sm_H} {a : Nat} (ha : a < 2147483648) : F_291 (I3 a) g = some (b2 (decide (7 ≤ a)), g) := by
  by_cases c : a < 7
  · simp (disch := omega) only [F_291_11, F_291_0, F_291, ↓reduceIte, if_true, if_false, ite_self, Option.bind_some, Option.map_some, wI_rd, wJ_rd, wI_2, wJ_1, wJ_22, I3_lit, I3_add, I3_mul, I3_lt, I3_le, I3_inj, I3_nn', I3_n1, I3_n2, m2m1, ldI_I, ldJ_I, ldZ_I, stI_I, stJ_I, true_or, or_true, false_or, or_false, true_and, and_true, false_and, and_false, not_true_eq_false, not_false_eq_true, reduceCtorEq, Nat.reduceEqDiff, Nat.lt_irrefl, Nat.not_lt_zero, Nat.le_refl, Nat.reduceLT, Nat.reduceLeDiff, eq_self, b2_if, b2_I, zbb, Bool.not_true, Bool.not_false, cond_true, cond_false, c, show ¬ 7 ≤ a by omega, decide_false, decide_true]
  · simp (disch := omega) only [F_291_11, F_291_0, F_291, ↓reduceIte, if_true, if_false, ite_self, Option.bind_some, Option.map_some, wI_rd, wJ_rd, wI_2, wJ_1, wJ_22, I3_lit, I3_add, I3_mul, I3_lt, I3_le, I3_inj, I3_nn', I3_n1, I3_n2, m2m1, ldI_I, ldJ_I, ldZ_I, stI_I, stJ_I, true_or, or_true, false_or, or_false, true_and, and_true, false_and, and_false, not_true_eq_false, not_false_eq_true, reduceCtorEq, Nat.reduceEqDiff, Nat.lt_irrefl, Nat.not_lt_zero, Nat.le_refl, Nat.reduceLT, Nat.reduceLeDiff, eq_self, b2_if, b2_I, zbb, Bool.not_true, Bool.not_false, cond_true, cond_false, c, show 7 ≤ a by omega, decide_false, decide_true]
theorem R_plain {g : sm_H} {a : Nat} (ha : a < 2147483648) : F_290 (I3 a) g = some (b2 (decide (1 ≤ a ∧ a ≤ 6)), g) := by
  by_cases c : a < 1
  · simp (disch := omega) only [F_290_16, F_290_15, F_290_0, F_290, ↓reduceIte, if_true, if_false, ite_self, Option.bind_some, Option.map_some, wI_rd, wJ_rd, wI_2, wJ_1, wJ_22, I3_lit, I3_add, I3_mul, I3_lt, I3_le, I3_inj, I3_nn', I3_n1, I3_n2, m2m1, ldI_I, ldJ_I, ldZ_I, stI_I, stJ_I, true_or, or_true, false_or, or_false, true_and, and_true, false_and, and_false, not_true_eq_false, not_false_eq_true, reduceCtorEq, Nat.reduceEqDiff, Nat.lt_irrefl, Nat.not_lt_zero, Nat.le_refl, Nat.reduceLT, Nat.reduceLeDiff, eq_self, b2_if, b2_I, zbb, Bool.not_true, Bool.not_false, cond_true, cond_false, c, show ¬ 1 ≤ a by omega, decide_false, decide_true]
  · by_cases d : 6 < a
    · simp (disch := omega) only [F_290_16, F_290_15, F_290_0, F_290, ↓reduceIte, if_true, if_false, ite_self, Option.bind_some, Option.map_some, wI_rd, wJ_rd, wI_2, wJ_1, wJ_22, I3_lit, I3_add, I3_mul, I3_lt, I3_le, I3_inj, I3_nn', I3_n1, I3_n2, m2m1, ldI_I, ldJ_I, ldZ_I, stI_I, stJ_I, true_or, or_true, false_or, or_false, true_and, and_true, false_and, and_false, not_true_eq_false, not_false_eq_true, reduceCtorEq, Nat.reduceEqDiff, Nat.lt_irrefl, Nat.not_lt_zero, Nat.le_refl, Nat.reduceLT, Nat.reduceLeDiff, eq_self, b2_if, b2_I, zbb, Bool.not_true, Bool.not_false, cond_true, cond_false, c, d, show ¬ a ≤ 6 by omega, decide_false, decide_true]
    · simp (disch := omega) only [F_290_16, F_290_15, F_290_0, F_290, ↓reduceIte, if_true, if_false, ite_self, Option.bind_some, Option.map_some, wI_rd, wJ_rd, wI_2, wJ_1, wJ_22, I3_lit, I3_add, I3_mul, I3_lt, I3_le, I3_inj, I3_nn', I3_n1, I3_n2, m2m1, ldI_I, ldJ_I, ldZ_I, stI_I, stJ_I, true_or, or_true, false_or, or_false, true_and, and_true, false_and, and_false, not_true_eq_false, not_false_eq_true, reduceCtorEq, Nat.reduceEqDiff, Nat.lt_irrefl, Nat.not_lt_zero, Nat.le_refl, Nat.reduceLT, Nat.reduceLeDiff, eq_self, b2_if, b2_I, zbb, Bool.not_true, Bool.not_false, cond_true, cond_false, c, d, show 1 ≤ a by omega, show a ≤ 6 by omega, decide_false, decide_true]
theorem B_self (g : sm_H) (n a : Nat) : bel g n a a = true := by
  have hb : kBase a a = true := by unfold kBase; rw [Nat.beq_refl]; rfl
  cases n with
  | zero => exact hb
  | succ n =>
    rcases Nat.lt_or_ge a 20 with c | c
    · rw [bel_lt20 g _ a a c]; exact hb
    · rw [bel_ge20 g n a a c, Nat.beq_refl]; rfl
theorem kB_eq {x o : Nat} (h7 : o ≠ 7) (h8 : o ≠ 8) : kBase x o = decide (x = o) := by
  unfold kBase
  have e1 : Nat.beq o 7 = false := by
    cases q : Nat.beq o 7 with
    | false => rfl
    | true => exact absurd (Nat.eq_of_beq_eq_true q) h7
  have e2 : Nat.beq o 8 = false := by
    cases q : Nat.beq o 8 with
    | false => rfl
    | true => exact absurd (Nat.eq_of_beq_eq_true q) h8
  rw [e1, e2]
  simp only [Bool.and_false, Bool.false_and, Bool.or_false]
  by_cases c : x = o
  · subst c; rw [Nat.beq_refl]; simp
  · have : Nat.beq x o = false := by
      cases q : Nat.beq x o with
      | false => rfl
      | true => exact absurd (Nat.eq_of_beq_eq_true q) c
    rw [this]; simp [c]
theorem lp_1 {σ ρ : Type} {body : σ → Option (σ ⊕ ρ)} {n : Nat} {s s' : σ} (e : body s = some (.inl s')) : lp body (n + 1) s = lp body n s' := by
  show (match body s with | none => none | some (.inl s') => lp body n s' | some (.inr r) => some r) = _
  rw [e]
theorem lp_0 {σ ρ : Type} {body : σ → Option (σ ⊕ ρ)} {n : Nat} {s : σ} {r : ρ} (e : body s = some (.inr r)) : lp body (n + 1) s = some r := by
  show (match body s with | none => none | some (.inl s') => lp body n s' | some (.inr r) => some r) = _
  rw [e]
theorem R_up {g : sm_H} (wK : wfK g) {o : Nat} (ho : o < 2147483648) (h7 : o ≠ 7) (h8 : o ≠ 8) : ∀ (x f : Nat), x < 20 + nC g → x < f → lp F_295_69B f (I3 o, I3 x, g) = some (b2 (decide (20 ≤ x) && B g (par g (x - 20)) o), g) := by
  have h12 := wK.2.1
  intro x
  induction x using Nat.strongRecOn with
  | _ x ih =>
    intro f hx hf
    obtain ⟨f, rfl⟩ : ∃ q, f = q + 1 := ⟨f - 1, by omega⟩
    rcases Nat.lt_or_ge x 20 with c | c
    · rw [lp_0 (r := (b2 false, g))]
      · simp [show ¬ 20 ≤ x by omega]
      · simp (disch := omega) only [↓reduceIte, if_true, if_false, ite_self, Option.bind_some, Option.map_some, wI_rd, wJ_rd, wI_2, wJ_1, wJ_22, I3_lit, I3_add, I3_mul, I3_lt, I3_le, I3_inj, I3_nn', I3_n1, I3_n2, m2m1, ldI_I, ldJ_I, ldZ_I, stI_I, stJ_I, true_or, or_true, false_or, or_false, true_and, and_true, false_and, and_false, not_true_eq_false, not_false_eq_true, reduceCtorEq, Nat.reduceEqDiff, Nat.lt_irrefl, Nat.not_lt_zero, Nat.le_refl, Nat.reduceLT, Nat.reduceLeDiff, eq_self, b2_if, b2_I, zbb, Bool.not_true, Bool.not_false, cond_true, cond_false, F_295_69B, c]
    · obtain ⟨p1, p2⟩ := wK.2.2 (x - 20) (by omega)
      have hp : par g (x - 20) < x := by omega
      by_cases d : par g (x - 20) = o
      · rw [lp_0 (r := (b2 true, g))]
        · rw [d]; show _ = some (b2 (decide (20 ≤ x) && bel g 12 o o), g); rw [B_self]; simp [c]
        · simp (disch := omega) only [↓reduceIte, if_true, if_false, ite_self, Option.bind_some, Option.map_some, wI_rd, wJ_rd, wI_2, wJ_1, wJ_22, I3_lit, I3_add, I3_mul, I3_lt, I3_le, I3_inj, I3_nn', I3_n1, I3_n2, m2m1, ldI_I, ldJ_I, ldZ_I, stI_I, stJ_I, true_or, or_true, false_or, or_false, true_and, and_true, false_and, and_false, not_true_eq_false, not_false_eq_true, reduceCtorEq, Nat.reduceEqDiff, Nat.lt_irrefl, Nat.not_lt_zero, Nat.le_refl, Nat.reduceLT, Nat.reduceLeDiff, eq_self, b2_if, b2_I, zbb, Bool.not_true, Bool.not_false, cond_true, cond_false, F_295_69B, show ¬ x < 20 by omega, I3_sub, p1, d]
      · rw [lp_1 (s' := (I3 o, I3 (par g (x - 20)), g))]
        · rw [ih _ hp f (by omega) (by omega)]
          congr 3
          simp only [c, decide_true, Bool.true_and]
          rcases Nat.lt_or_ge (par g (x - 20)) 20 with e | e
          · rw [B_lt20 e, kB_eq h7 h8]; simp [show ¬ 20 ≤ par g (x - 20) by omega, d]
          · rw [B_ge20 wK (by omega) e]
            have : Nat.beq (par g (x - 20)) o = false := by
              cases q : Nat.beq (par g (x - 20)) o with
              | false => rfl
              | true => exact absurd (Nat.eq_of_beq_eq_true q) d
            rw [this]; simp [e]
        · simp (disch := omega) only [↓reduceIte, if_true, if_false, ite_self, Option.bind_some, Option.map_some, wI_rd, wJ_rd, wI_2, wJ_1, wJ_22, I3_lit, I3_add, I3_mul, I3_lt, I3_le, I3_inj, I3_nn', I3_n1, I3_n2, m2m1, ldI_I, ldJ_I, ldZ_I, stI_I, stJ_I, true_or, or_true, false_or, or_false, true_and, and_true, false_and, and_false, not_true_eq_false, not_false_eq_true, reduceCtorEq, Nat.reduceEqDiff, Nat.lt_irrefl, Nat.not_lt_zero, Nat.le_refl, Nat.reduceLT, Nat.reduceLeDiff, eq_self, b2_if, b2_I, zbb, Bool.not_true, Bool.not_false, cond_true, cond_false, F_295_69B, show ¬ x < 20 by omega, I3_sub, p1, d]
theorem B_7 {g : sm_H} (wK : wfK g) : ∀ x, 7 ≤ x → x < 20 + nC g → B g x 7 = true := by
  intro x
  induction x using Nat.strongRecOn with
  | _ x ih =>
    intro h1 h2
    rcases Nat.lt_or_ge x 20 with c | c
    · rw [B_lt20 c]; unfold kBase; rw [Nat.ble_eq.mpr h1]; simp
    · have p2 := (wK.2.2 (x - 20) (by omega)).2
      rw [B_ge20 wK h2 c, ih _ (by omega) (by omega) (by omega)]; simp
theorem B_8 {g : sm_H} (wK : wfK g) : ∀ x, x ≠ 8 → x < 20 + nC g → B g x 8 = decide (x = 10 ∨ x = 11 ∨ x = 13 ∨ x = 14) := by
  intro x
  induction x using Nat.strongRecOn with
  | _ x ih =>
    intro h1 h2
    rcases Nat.lt_or_ge x 20 with c | c
    · rw [B_lt20 c]
      exact (by decide : ∀ x, x < 20 → x ≠ 8 → kBase x 8 = decide (x = 10 ∨ x = 11 ∨ x = 13 ∨ x = 14)) x c h1
    · have p2 := (wK.2.2 (x - 20) (by omega)).2
      rw [B_ge20 wK h2 c, ih _ (by omega) (by omega) (by omega)]
      have : Nat.beq x 8 = false := by
        cases q : Nat.beq x 8 with
        | false => rfl
        | true => have := Nat.eq_of_beq_eq_true q; omega
      rw [this]
      simp only [Bool.false_or, decide_eq_decide]
      omega
theorem B_lt7 {g : sm_H} (wK : wfK g) {o : Nat} (ho : o < 7) : ∀ x, x ≠ o → x < 20 + nC g → B g x o = false := by
  intro x
  induction x using Nat.strongRecOn with
  | _ x ih =>
    intro h1 h2
    rcases Nat.lt_or_ge x 20 with c | c
    · rw [B_lt20 c, kB_eq (by omega) (by omega)]; simp [h1]
    · have p2 := (wK.2.2 (x - 20) (by omega)).2
      rw [B_ge20 wK h2 c, ih _ (by omega) (by omega) (by omega)]
      have : Nat.beq x o = false := by
        cases q : Nat.beq x o with
        | false => rfl
        | true => have := Nat.eq_of_beq_eq_true q; omega
      rw [this]; rfl
theorem R_below {g : sm_H} (wK : wfK g) {x o : Nat} (hx : x < 20 + nC g) (ho : o < 2147483648) : F_295 (I3 x) (I3 o) g = some (b2 (B g x o), g) := by
  have h12 := wK.2.1
  by_cases c : x = o
  · subst c; show _ = some (b2 (bel g 12 x x), g); rw [B_self]; simp (disch := omega) only [F_295_69B, F_295_69, F_295_66, F_295_61, F_295_21, F_295_0, F_295, ↓reduceIte, if_true, if_false, ite_self, Option.bind_some, Option.map_some, wI_rd, wJ_rd, wI_2, wJ_1, wJ_22, I3_lit, I3_add, I3_mul, I3_lt, I3_le, I3_inj, I3_nn', I3_n1, I3_n2, m2m1, ldI_I, ldJ_I, ldZ_I, stI_I, stJ_I, true_or, or_true, false_or, or_false, true_and, and_true, false_and, and_false, not_true_eq_false, not_false_eq_true, reduceCtorEq, Nat.reduceEqDiff, Nat.lt_irrefl, Nat.not_lt_zero, Nat.le_refl, Nat.reduceLT, Nat.reduceLeDiff, eq_self, b2_if, b2_I, zbb, Bool.not_true, Bool.not_false, cond_true, cond_false]
  by_cases d : x < 7
  · simp (disch := omega) only [F_295_69B, F_295_69, F_295_66, F_295_61, F_295_21, F_295_0, F_295, ↓reduceIte, if_true, if_false, ite_self, Option.bind_some, Option.map_some, wI_rd, wJ_rd, wI_2, wJ_1, wJ_22, I3_lit, I3_add, I3_mul, I3_lt, I3_le, I3_inj, I3_nn', I3_n1, I3_n2, m2m1, ldI_I, ldJ_I, ldZ_I, stI_I, stJ_I, true_or, or_true, false_or, or_false, true_and, and_true, false_and, and_false, not_true_eq_false, not_false_eq_true, reduceCtorEq, Nat.reduceEqDiff, Nat.lt_irrefl, Nat.not_lt_zero, Nat.le_refl, Nat.reduceLT, Nat.reduceLeDiff, eq_self, b2_if, b2_I, zbb, Bool.not_true, Bool.not_false, cond_true, cond_false, c, R_ref, show ¬ 7 ≤ x by omega, decide_false]
    rw [show B g x o = false from ?_]
    · rfl
    · rw [B_lt20 (by omega)]
      by_cases o7 : o = 7
      · subst o7; exact (by decide : ∀ x, x < 7 → kBase x 7 = false) x d
      by_cases o8 : o = 8
      · subst o8; exact (by decide : ∀ x, x < 7 → kBase x 8 = false) x d
      rw [kB_eq o7 o8]; simp [c]
  by_cases e : o < 7
  · simp (disch := omega) only [F_295_69B, F_295_69, F_295_66, F_295_61, F_295_21, F_295_0, F_295, ↓reduceIte, if_true, if_false, ite_self, Option.bind_some, Option.map_some, wI_rd, wJ_rd, wI_2, wJ_1, wJ_22, I3_lit, I3_add, I3_mul, I3_lt, I3_le, I3_inj, I3_nn', I3_n1, I3_n2, m2m1, ldI_I, ldJ_I, ldZ_I, stI_I, stJ_I, true_or, or_true, false_or, or_false, true_and, and_true, false_and, and_false, not_true_eq_false, not_false_eq_true, reduceCtorEq, Nat.reduceEqDiff, Nat.lt_irrefl, Nat.not_lt_zero, Nat.le_refl, Nat.reduceLT, Nat.reduceLeDiff, eq_self, b2_if, b2_I, zbb, Bool.not_true, Bool.not_false, cond_true, cond_false, c, R_ref, show 7 ≤ x by omega, show ¬ 7 ≤ o by omega, decide_false, decide_true]
    rw [B_lt7 wK e x c hx]; rfl
  by_cases o7 : o = 7
  · subst o7; simp (disch := omega) only [F_295_69B, F_295_69, F_295_66, F_295_61, F_295_21, F_295_0, F_295, ↓reduceIte, if_true, if_false, ite_self, Option.bind_some, Option.map_some, wI_rd, wJ_rd, wI_2, wJ_1, wJ_22, I3_lit, I3_add, I3_mul, I3_lt, I3_le, I3_inj, I3_nn', I3_n1, I3_n2, m2m1, ldI_I, ldJ_I, ldZ_I, stI_I, stJ_I, true_or, or_true, false_or, or_false, true_and, and_true, false_and, and_false, not_true_eq_false, not_false_eq_true, reduceCtorEq, Nat.reduceEqDiff, Nat.lt_irrefl, Nat.not_lt_zero, Nat.le_refl, Nat.reduceLT, Nat.reduceLeDiff, eq_self, b2_if, b2_I, zbb, Bool.not_true, Bool.not_false, cond_true, cond_false, c, R_ref, show 7 ≤ x by omega, decide_true]; rw [B_7 wK x (by omega) hx]; rfl
  by_cases o8 : o = 8
  · subst o8
    rw [B_8 wK x c hx]
    by_cases q0 : x = 10
    · subst q0; simp (disch := omega) only [F_295_69B, F_295_69, F_295_66, F_295_61, F_295_21, F_295_0, F_295, ↓reduceIte, if_true, if_false, ite_self, Option.bind_some, Option.map_some, wI_rd, wJ_rd, wI_2, wJ_1, wJ_22, I3_lit, I3_add, I3_mul, I3_lt, I3_le, I3_inj, I3_nn', I3_n1, I3_n2, m2m1, ldI_I, ldJ_I, ldZ_I, stI_I, stJ_I, true_or, or_true, false_or, or_false, true_and, and_true, false_and, and_false, not_true_eq_false, not_false_eq_true, reduceCtorEq, Nat.reduceEqDiff, Nat.lt_irrefl, Nat.not_lt_zero, Nat.le_refl, Nat.reduceLT, Nat.reduceLeDiff, eq_self, b2_if, b2_I, zbb, Bool.not_true, Bool.not_false, cond_true, cond_false, R_ref, decide_true]
    by_cases q1 : x = 11
    · subst q1; simp (disch := omega) only [F_295_69B, F_295_69, F_295_66, F_295_61, F_295_21, F_295_0, F_295, ↓reduceIte, if_true, if_false, ite_self, Option.bind_some, Option.map_some, wI_rd, wJ_rd, wI_2, wJ_1, wJ_22, I3_lit, I3_add, I3_mul, I3_lt, I3_le, I3_inj, I3_nn', I3_n1, I3_n2, m2m1, ldI_I, ldJ_I, ldZ_I, stI_I, stJ_I, true_or, or_true, false_or, or_false, true_and, and_true, false_and, and_false, not_true_eq_false, not_false_eq_true, reduceCtorEq, Nat.reduceEqDiff, Nat.lt_irrefl, Nat.not_lt_zero, Nat.le_refl, Nat.reduceLT, Nat.reduceLeDiff, eq_self, b2_if, b2_I, zbb, Bool.not_true, Bool.not_false, cond_true, cond_false, R_ref, decide_true]
    by_cases q2 : x = 13
    · subst q2; simp (disch := omega) only [F_295_69B, F_295_69, F_295_66, F_295_61, F_295_21, F_295_0, F_295, ↓reduceIte, if_true, if_false, ite_self, Option.bind_some, Option.map_some, wI_rd, wJ_rd, wI_2, wJ_1, wJ_22, I3_lit, I3_add, I3_mul, I3_lt, I3_le, I3_inj, I3_nn', I3_n1, I3_n2, m2m1, ldI_I, ldJ_I, ldZ_I, stI_I, stJ_I, true_or, or_true, false_or, or_false, true_and, and_true, false_and, and_false, not_true_eq_false, not_false_eq_true, reduceCtorEq, Nat.reduceEqDiff, Nat.lt_irrefl, Nat.not_lt_zero, Nat.le_refl, Nat.reduceLT, Nat.reduceLeDiff, eq_self, b2_if, b2_I, zbb, Bool.not_true, Bool.not_false, cond_true, cond_false, R_ref, decide_true]
    by_cases q3 : x = 14
    · subst q3; simp (disch := omega) only [F_295_69B, F_295_69, F_295_66, F_295_61, F_295_21, F_295_0, F_295, ↓reduceIte, if_true, if_false, ite_self, Option.bind_some, Option.map_some, wI_rd, wJ_rd, wI_2, wJ_1, wJ_22, I3_lit, I3_add, I3_mul, I3_lt, I3_le, I3_inj, I3_nn', I3_n1, I3_n2, m2m1, ldI_I, ldJ_I, ldZ_I, stI_I, stJ_I, true_or, or_true, false_or, or_false, true_and, and_true, false_and, and_false, not_true_eq_false, not_false_eq_true, reduceCtorEq, Nat.reduceEqDiff, Nat.lt_irrefl, Nat.not_lt_zero, Nat.le_refl, Nat.reduceLT, Nat.reduceLeDiff, eq_self, b2_if, b2_I, zbb, Bool.not_true, Bool.not_false, cond_true, cond_false, R_ref, decide_true]
    simp (disch := omega) only [F_295_69B, F_295_69, F_295_66, F_295_61, F_295_21, F_295_0, F_295, ↓reduceIte, if_true, if_false, ite_self, Option.bind_some, Option.map_some, wI_rd, wJ_rd, wI_2, wJ_1, wJ_22, I3_lit, I3_add, I3_mul, I3_lt, I3_le, I3_inj, I3_nn', I3_n1, I3_n2, m2m1, ldI_I, ldJ_I, ldZ_I, stI_I, stJ_I, true_or, or_true, false_or, or_false, true_and, and_true, false_and, and_false, not_true_eq_false, not_false_eq_true, reduceCtorEq, Nat.reduceEqDiff, Nat.lt_irrefl, Nat.not_lt_zero, Nat.le_refl, Nat.reduceLT, Nat.reduceLeDiff, eq_self, b2_if, b2_I, zbb, Bool.not_true, Bool.not_false, cond_true, cond_false, c, R_ref, show 7 ≤ x by omega, decide_true, q0, q1, q2, q3, decide_false]
  simp (disch := omega) only [F_295_69B, F_295_69, F_295_66, F_295_61, F_295_21, F_295_0, F_295, ↓reduceIte, if_true, if_false, ite_self, Option.bind_some, Option.map_some, wI_rd, wJ_rd, wI_2, wJ_1, wJ_22, I3_lit, I3_add, I3_mul, I3_lt, I3_le, I3_inj, I3_nn', I3_n1, I3_n2, m2m1, ldI_I, ldJ_I, ldZ_I, stI_I, stJ_I, true_or, or_true, false_or, or_false, true_and, and_true, false_and, and_false, not_true_eq_false, not_false_eq_true, reduceCtorEq, Nat.reduceEqDiff, Nat.lt_irrefl, Nat.not_lt_zero, Nat.le_refl, Nat.reduceLT, Nat.reduceLeDiff, eq_self, b2_if, b2_I, zbb, Bool.not_true, Bool.not_false, cond_true, cond_false, c, R_ref, show 7 ≤ x by omega, show 7 ≤ o by omega, decide_true, o7, o8]
  rw [R_up wK ho o7 o8 x 1000000 hx (by omega)]
  rcases Nat.lt_or_ge x 20 with z | z
  · rw [B_lt20 z, kB_eq o7 o8]; simp [show ¬ 20 ≤ x by omega, c, b2]; rfl
  · rw [B_ge20 wK hx z]
    have : Nat.beq x o = false := by
      cases q : Nat.beq x o with
      | false => rfl
      | true => exact absurd (Nat.eq_of_beq_eq_true q) c
    rw [this]; simp [z, b2]; cases B g (par g (x - 20)) o <;> rfl
theorem R_wid0 {g : sm_H} {a b : Nat} (ha : a < 2147483648) (hb : b < 2147483648) : F_296 (I3 a) (I3 b) g = some (b2 (decide (a = b ∨ a = 2 ∧ (b = 3 ∨ b = 5 ∨ b = 6) ∨ (a = 3 ∨ a = 4) ∧ (b = 5 ∨ b = 6) ∨ a = 5 ∧ b = 6)), g) := by
  simp (disch := omega) only [F_296_107, F_296_95, F_296_90, F_296_78, F_296_73, F_296_61, F_296_56, F_296_0, F_296, ↓reduceIte, if_true, if_false, ite_self, Option.bind_some, Option.map_some, wI_rd, wJ_rd, wI_2, wJ_1, wJ_22, I3_lit, I3_add, I3_mul, I3_lt, I3_le, I3_inj, I3_nn', I3_n1, I3_n2, m2m1, ldI_I, ldJ_I, ldZ_I, stI_I, stJ_I, true_or, or_true, false_or, or_false, true_and, and_true, false_and, and_false, not_true_eq_false, not_false_eq_true, reduceCtorEq, Nat.reduceEqDiff, Nat.lt_irrefl, Nat.not_lt_zero, Nat.le_refl, Nat.reduceLT, Nat.reduceLeDiff, eq_self, zbbI, bbI0, bbI1, decide_eq_false_iff_not, decide_eq_true_eq, Bool.not_eq_false, Bool.not_eq_true, Bool.not_true, Bool.not_false, cond_true, cond_false]
  (repeat' split) <;> first | (refine leaf0 ?_; omega) | (refine leaf1 ?_; omega) | (refine leafb ?_; omega) | (exfalso; omega)
theorem R_wid {g : sm_H} {a b : Nat} (ha : a < 2147483648) (hb : b < 2147483648) : F_296 (I3 a) (I3 b) g = some (b2 (decide (a = b) || widB a b), g) := by
  rw [R_wid0 ha hb]; unfold widB; rw [Bool.decide_or]
theorem C_widN {g : sm_H} {a b : Nat} (ha : a < 2147483648) (hb : b < 2147483648) : F_67 (I3 a) (I3 b) g = some (b2 (widB a b), g) := by
  unfold widB
  simp (disch := omega) only [F_67_43, F_67_38, F_67_42, F_67_22, F_67_10, F_67_0, F_67, ↓reduceIte, if_true, if_false, ite_self, Option.bind_some, Option.map_some, wI_rd, wJ_rd, wI_2, wJ_1, wJ_22, I3_lit, I3_add, I3_mul, I3_lt, I3_le, I3_inj, I3_nn', I3_n1, I3_n2, m2m1, ldI_I, ldJ_I, ldZ_I, stI_I, stJ_I, true_or, or_true, false_or, or_false, true_and, and_true, false_and, and_false, not_true_eq_false, not_false_eq_true, reduceCtorEq, Nat.reduceEqDiff, Nat.lt_irrefl, Nat.not_lt_zero, Nat.le_refl, Nat.reduceLT, Nat.reduceLeDiff, eq_self, zbbI, bbI0, bbI1, decide_eq_false_iff_not, decide_eq_true_eq, Bool.not_eq_false, Bool.not_eq_true, Bool.not_true, Bool.not_false, cond_true, cond_false]
  (repeat' split) <;> first | (refine leaf0 ?_; omega) | (refine leaf1 ?_; omega) | (refine leafb ?_; omega) | (exfalso; omega)
theorem C_belowN {h g : sm_H} (wK : wfK g) (cK : cK h g) {x y : Nat} (hx : x < 20 + nC g) (hy : y < 20 + nC g) : F_60 (I3 x) (I3 y) h = some (b2 (B g x y), h) := by
  have h12 := wK.2.1
  rw [C_below wK cK]
  unfold BK
  rw [isK_I wK (by omega), isK_I wK (by omega), I3_clamp (by omega), I3_clamp (by omega)]
  simp [hx, hy]
theorem C_isBox {h : sm_H} {a : Nat} (ha : a < 2147483648) : F_58 (I3 a) h = some (b2 (decide (9 ≤ a ∧ a ≤ 14)), h) := by
  simp (disch := omega) only [F_58_17, F_58_16, F_58_0, F_58, ↓reduceIte, if_true, if_false, ite_self, Option.bind_some, Option.map_some, wI_rd, wJ_rd, wI_2, wJ_1, wJ_22, I3_lit, I3_add, I3_mul, I3_lt, I3_le, I3_inj, I3_nn', I3_n1, I3_n2, m2m1, ldI_I, ldJ_I, ldZ_I, stI_I, stJ_I, true_or, or_true, false_or, or_false, true_and, and_true, false_and, and_false, not_true_eq_false, not_false_eq_true, reduceCtorEq, Nat.reduceEqDiff, Nat.lt_irrefl, Nat.not_lt_zero, Nat.le_refl, Nat.reduceLT, Nat.reduceLeDiff, eq_self, zbbI, bbI0, bbI1, decide_eq_false_iff_not, decide_eq_true_eq, Bool.not_eq_false, Bool.not_eq_true, Bool.not_true, Bool.not_false, cond_true, cond_false]
  (repeat' split) <;> first | (refine leaf0 ?_; omega) | (refine leaf1 ?_; omega) | (refine leafb ?_; omega) | (exfalso; omega)
theorem R_isBox {h : sm_H} {a : Nat} (ha : a < 2147483648) : F_292 (I3 a) h = some (b2 (decide (9 ≤ a ∧ a ≤ 14)), h) := by
  simp (disch := omega) only [F_292_17, F_292_16, F_292_0, F_292, ↓reduceIte, if_true, if_false, ite_self, Option.bind_some, Option.map_some, wI_rd, wJ_rd, wI_2, wJ_1, wJ_22, I3_lit, I3_add, I3_mul, I3_lt, I3_le, I3_inj, I3_nn', I3_n1, I3_n2, m2m1, ldI_I, ldJ_I, ldZ_I, stI_I, stJ_I, true_or, or_true, false_or, or_false, true_and, and_true, false_and, and_false, not_true_eq_false, not_false_eq_true, reduceCtorEq, Nat.reduceEqDiff, Nat.lt_irrefl, Nat.not_lt_zero, Nat.le_refl, Nat.reduceLT, Nat.reduceLeDiff, eq_self, zbbI, bbI0, bbI1, decide_eq_false_iff_not, decide_eq_true_eq, Bool.not_eq_false, Bool.not_eq_true, Bool.not_true, Bool.not_false, cond_true, cond_false]
  (repeat' split) <;> first | (refine leaf0 ?_; omega) | (refine leaf1 ?_; omega) | (refine leafb ?_; omega) | (exfalso; omega)
theorem C_isRow {h : sm_H} {a : Nat} (ha : a < 2147483648) : F_59 (I3 a) h = some (b2 (decide (15 ≤ a ∧ a ≤ 17)), h) := by
  simp (disch := omega) only [F_59_17, F_59_16, F_59_0, F_59, ↓reduceIte, if_true, if_false, ite_self, Option.bind_some, Option.map_some, wI_rd, wJ_rd, wI_2, wJ_1, wJ_22, I3_lit, I3_add, I3_mul, I3_lt, I3_le, I3_inj, I3_nn', I3_n1, I3_n2, m2m1, ldI_I, ldJ_I, ldZ_I, stI_I, stJ_I, true_or, or_true, false_or, or_false, true_and, and_true, false_and, and_false, not_true_eq_false, not_false_eq_true, reduceCtorEq, Nat.reduceEqDiff, Nat.lt_irrefl, Nat.not_lt_zero, Nat.le_refl, Nat.reduceLT, Nat.reduceLeDiff, eq_self, zbbI, bbI0, bbI1, decide_eq_false_iff_not, decide_eq_true_eq, Bool.not_eq_false, Bool.not_eq_true, Bool.not_true, Bool.not_false, cond_true, cond_false]
  (repeat' split) <;> first | (refine leaf0 ?_; omega) | (refine leaf1 ?_; omega) | (refine leafb ?_; omega) | (exfalso; omega)
theorem R_isRow {h : sm_H} {a : Nat} (ha : a < 2147483648) : F_293 (I3 a) h = some (b2 (decide (15 ≤ a ∧ a ≤ 17)), h) := by
  simp (disch := omega) only [F_293_17, F_293_16, F_293_0, F_293, ↓reduceIte, if_true, if_false, ite_self, Option.bind_some, Option.map_some, wI_rd, wJ_rd, wI_2, wJ_1, wJ_22, I3_lit, I3_add, I3_mul, I3_lt, I3_le, I3_inj, I3_nn', I3_n1, I3_n2, m2m1, ldI_I, ldJ_I, ldZ_I, stI_I, stJ_I, true_or, or_true, false_or, or_false, true_and, and_true, false_and, and_false, not_true_eq_false, not_false_eq_true, reduceCtorEq, Nat.reduceEqDiff, Nat.lt_irrefl, Nat.not_lt_zero, Nat.le_refl, Nat.reduceLT, Nat.reduceLeDiff, eq_self, zbbI, bbI0, bbI1, decide_eq_false_iff_not, decide_eq_true_eq, Bool.not_eq_false, Bool.not_eq_true, Bool.not_true, Bool.not_false, cond_true, cond_false]
  (repeat' split) <;> first | (refine leaf0 ?_; omega) | (refine leaf1 ?_; omega) | (refine leafb ?_; omega) | (exfalso; omega)
theorem C_plain {h : sm_H} {a : Nat} (ha : a < 2147483648) : F_56 (I3 a) h = some (b2 (decide (1 ≤ a ∧ a ≤ 6)), h) := by
  simp (disch := omega) only [F_56_16, F_56_15, F_56_0, F_56, ↓reduceIte, if_true, if_false, ite_self, Option.bind_some, Option.map_some, wI_rd, wJ_rd, wI_2, wJ_1, wJ_22, I3_lit, I3_add, I3_mul, I3_lt, I3_le, I3_inj, I3_nn', I3_n1, I3_n2, m2m1, ldI_I, ldJ_I, ldZ_I, stI_I, stJ_I, true_or, or_true, false_or, or_false, true_and, and_true, false_and, and_false, not_true_eq_false, not_false_eq_true, reduceCtorEq, Nat.reduceEqDiff, Nat.lt_irrefl, Nat.not_lt_zero, Nat.le_refl, Nat.reduceLT, Nat.reduceLeDiff, eq_self, zbbI, bbI0, bbI1, decide_eq_false_iff_not, decide_eq_true_eq, Bool.not_eq_false, Bool.not_eq_true, Bool.not_true, Bool.not_false, cond_true, cond_false]
  (repeat' split) <;> first | (refine leaf0 ?_; omega) | (refine leaf1 ?_; omega) | (refine leafb ?_; omega) | (exfalso; omega)
theorem sb2 {c d : Bool} {g : sm_H} (h : c = d) : (some (b2 c, g) : Option (Int32 × sm_H)) = some (b2 d, g) := by rw [h]
theorem R_mayBe {g : sm_H} (wK : wfK g) {a b : Nat} (ha : a < 20 + nC g) (hb : b < 20 + nC g) (f r : Bool) : F_297 (I3 a) (I3 b) (b2 f) (b2 r) g = some (b2 (mayB g a b f r), g) := by
  have h12 := wK.2.1
  by_cases e : a = b
  · have m : mayB g a b f r = true := by simp only [mayB, e, if_true]
    rw [m]; simp (disch := omega) only [F_297_148, F_297_147, F_297_143, F_297_120, F_297_115, F_297_50, F_297_49, F_297_44, F_297_15, F_297_0, F_297, ↓reduceIte, if_true, if_false, ite_self, Option.bind_some, Option.map_some, wI_rd, wJ_rd, wI_2, wJ_1, wJ_22, I3_lit, I3_add, I3_mul, I3_lt, I3_le, I3_inj, I3_nn', I3_n1, I3_n2, m2m1, ldI_I, ldJ_I, ldZ_I, stI_I, stJ_I, true_or, or_true, false_or, or_false, true_and, and_true, false_and, and_false, not_true_eq_false, not_false_eq_true, reduceCtorEq, Nat.reduceEqDiff, Nat.lt_irrefl, Nat.not_lt_zero, Nat.le_refl, Nat.reduceLT, Nat.reduceLeDiff, eq_self, zbbI, bbI0, bbI1, decide_eq_false_iff_not, decide_eq_true_eq, Bool.not_eq_false, Bool.not_eq_true, Bool.not_true, Bool.not_false, cond_true, cond_false, e]; rfl
  by_cases a0 : a = 0
  · subst a0
    have m : mayB g 0 b f r = r := by simp only [mayB, e, if_true, if_false]
    rw [m]; simp (disch := omega) only [F_297_148, F_297_147, F_297_143, F_297_120, F_297_115, F_297_50, F_297_49, F_297_44, F_297_15, F_297_0, F_297, ↓reduceIte, if_true, if_false, ite_self, Option.bind_some, Option.map_some, wI_rd, wJ_rd, wI_2, wJ_1, wJ_22, I3_lit, I3_add, I3_mul, I3_lt, I3_le, I3_inj, I3_nn', I3_n1, I3_n2, m2m1, ldI_I, ldJ_I, ldZ_I, stI_I, stJ_I, true_or, or_true, false_or, or_false, true_and, and_true, false_and, and_false, not_true_eq_false, not_false_eq_true, reduceCtorEq, Nat.reduceEqDiff, Nat.lt_irrefl, Nat.not_lt_zero, Nat.le_refl, Nat.reduceLT, Nat.reduceLeDiff, eq_self, zbbI, bbI0, bbI1, decide_eq_false_iff_not, decide_eq_true_eq, Bool.not_eq_false, Bool.not_eq_true, Bool.not_true, Bool.not_false, cond_true, cond_false, e]; cases r <;> rfl
  by_cases b0 : b = 0
  · subst b0
    have m : mayB g a 0 f r = r := by simp only [mayB, e, a0, if_true, if_false]
    rw [m]; simp (disch := omega) only [F_297_148, F_297_147, F_297_143, F_297_120, F_297_115, F_297_50, F_297_49, F_297_44, F_297_15, F_297_0, F_297, ↓reduceIte, if_true, if_false, ite_self, Option.bind_some, Option.map_some, wI_rd, wJ_rd, wI_2, wJ_1, wJ_22, I3_lit, I3_add, I3_mul, I3_lt, I3_le, I3_inj, I3_nn', I3_n1, I3_n2, m2m1, ldI_I, ldJ_I, ldZ_I, stI_I, stJ_I, true_or, or_true, false_or, or_false, true_and, and_true, false_and, and_false, not_true_eq_false, not_false_eq_true, reduceCtorEq, Nat.reduceEqDiff, Nat.lt_irrefl, Nat.not_lt_zero, Nat.le_refl, Nat.reduceLT, Nat.reduceLeDiff, eq_self, zbbI, bbI0, bbI1, decide_eq_false_iff_not, decide_eq_true_eq, Bool.not_eq_false, Bool.not_eq_true, Bool.not_true, Bool.not_false, cond_true, cond_false, e, a0]; cases r <;> rfl
  by_cases a6 : a ≤ 6
  · by_cases b6 : b ≤ 6
    · have m : mayB g a b f r = (f || widB a b) := by simp only [mayB, e, a0, b0, a6, b6, if_true, if_false]
      have W := R_wid (g := g) (a := a) (b := b) (by omega) (by omega)
      rw [m]
      have fa : 1 ≤ a := by omega
      have fb : 1 ≤ b := by omega
      cases f with
      | true => simp (disch := omega) only [F_297_148, F_297_147, F_297_143, F_297_120, F_297_115, F_297_50, F_297_49, F_297_44, F_297_15, F_297_0, F_297, ↓reduceIte, if_true, if_false, ite_self, Option.bind_some, Option.map_some, wI_rd, wJ_rd, wI_2, wJ_1, wJ_22, I3_lit, I3_add, I3_mul, I3_lt, I3_le, I3_inj, I3_nn', I3_n1, I3_n2, m2m1, ldI_I, ldJ_I, ldZ_I, stI_I, stJ_I, true_or, or_true, false_or, or_false, true_and, and_true, false_and, and_false, not_true_eq_false, not_false_eq_true, reduceCtorEq, Nat.reduceEqDiff, Nat.lt_irrefl, Nat.not_lt_zero, Nat.le_refl, Nat.reduceLT, Nat.reduceLeDiff, eq_self, zbbI, bbI0, bbI1, decide_eq_false_iff_not, decide_eq_true_eq, Bool.not_eq_false, Bool.not_eq_true, Bool.not_true, Bool.not_false, cond_true, cond_false, e, a0, b0, R_plain, fa, fb, a6, b6, decide_true, b2_t]; rfl
      | false =>
        generalize widB a b = ww at W ⊢
        cases ww <;> simp (disch := omega) only [F_297_148, F_297_147, F_297_143, F_297_120, F_297_115, F_297_50, F_297_49, F_297_44, F_297_15, F_297_0, F_297, ↓reduceIte, if_true, if_false, ite_self, Option.bind_some, Option.map_some, wI_rd, wJ_rd, wI_2, wJ_1, wJ_22, I3_lit, I3_add, I3_mul, I3_lt, I3_le, I3_inj, I3_nn', I3_n1, I3_n2, m2m1, ldI_I, ldJ_I, ldZ_I, stI_I, stJ_I, true_or, or_true, false_or, or_false, true_and, and_true, false_and, and_false, not_true_eq_false, not_false_eq_true, reduceCtorEq, Nat.reduceEqDiff, Nat.lt_irrefl, Nat.not_lt_zero, Nat.le_refl, Nat.reduceLT, Nat.reduceLeDiff, eq_self, zbbI, bbI0, bbI1, decide_eq_false_iff_not, decide_eq_true_eq, Bool.not_eq_false, Bool.not_eq_true, Bool.not_true, Bool.not_false, cond_true, cond_false, e, a0, b0, R_plain, W, fa, fb, a6, b6, decide_true, decide_false, b2_f, Bool.false_or, Bool.or_false, b2_t] <;> rfl
    · have m : mayB g a b f r = B g (a + 8) b := by simp only [mayB, e, a0, b0, a6, b6, if_true, if_false]
      rw [m]
      have RB := R_below wK (x := a + 8) (o := b) (by omega) (by omega)
      have fa : 1 ≤ a := by omega
      generalize B g (a + 8) b = bb at RB ⊢
      have h1 : F_297_50 (I3 a) (I3 b) (b2 f) g = some (b2 bb, g) := by
        have RP := R_plain (g := g) (a := a) (by omega)
        rw [decide_eq_true (show 1 ≤ a ∧ a ≤ 6 by omega)] at RP
        unfold F_297_50
        rw [RP]
        show (F_295 (I3 a + 8) (I3 b) g).bind _ = _
        rw [I3_lit, I3_add, RB]
        show (if b2 bb = 0 ∨ b2 bb = 1 then some (b2 bb, g) else none) = _
        rw [if_pos (b2_ok bb)]
      show F_297_0 (I3 a) (I3 b) (b2 f) (b2 r) g = _
      simp (disch := omega) only [↓reduceIte, if_true, if_false, ite_self, Option.bind_some, Option.map_some, wI_rd, wJ_rd, wI_2, wJ_1, wJ_22, I3_lit, I3_add, I3_mul, I3_lt, I3_le, I3_inj, I3_nn', I3_n1, I3_n2, m2m1, ldI_I, ldJ_I, ldZ_I, stI_I, stJ_I, true_or, or_true, false_or, or_false, true_and, and_true, false_and, and_false, not_true_eq_false, not_false_eq_true, reduceCtorEq, Nat.reduceEqDiff, Nat.lt_irrefl, Nat.not_lt_zero, Nat.le_refl, Nat.reduceLT, Nat.reduceLeDiff, eq_self, zbbI, bbI0, bbI1, decide_eq_false_iff_not, decide_eq_true_eq, Bool.not_eq_false, Bool.not_eq_true, Bool.not_true, Bool.not_false, cond_true, cond_false, F_297_0, e, a0, b0, R_plain, fa, a6, b6, decide_true, decide_false, h1]
  · by_cases b7 : 7 ≤ b
    · have m : mayB g a b f r = true := by simp only [mayB, e, a0, b0, a6, b7, if_true, if_false]
      rw [m]
      simp (disch := omega) only [F_297_148, F_297_147, F_297_143, F_297_120, F_297_115, F_297_50, F_297_49, F_297_44, F_297_15, F_297_0, F_297, ↓reduceIte, if_true, if_false, ite_self, Option.bind_some, Option.map_some, wI_rd, wJ_rd, wI_2, wJ_1, wJ_22, I3_lit, I3_add, I3_mul, I3_lt, I3_le, I3_inj, I3_nn', I3_n1, I3_n2, m2m1, ldI_I, ldJ_I, ldZ_I, stI_I, stJ_I, true_or, or_true, false_or, or_false, true_and, and_true, false_and, and_false, not_true_eq_false, not_false_eq_true, reduceCtorEq, Nat.reduceEqDiff, Nat.lt_irrefl, Nat.not_lt_zero, Nat.le_refl, Nat.reduceLT, Nat.reduceLeDiff, eq_self, zbbI, bbI0, bbI1, decide_eq_false_iff_not, decide_eq_true_eq, Bool.not_eq_false, Bool.not_eq_true, Bool.not_true, Bool.not_false, cond_true, cond_false, e, a0, b0, R_plain, R_ref, a6, b7, decide_true, decide_false]; rfl
    have fb : 1 ≤ b := by omega
    have b6 : b ≤ 6 := by omega
    by_cases a7 : a = 7
    · subst a7
      have m : mayB g 7 b f r = true := by simp only [mayB, e, a0, b0, a6, b7, if_true, if_false]
      rw [m]
      simp (disch := omega) only [F_297_148, F_297_147, F_297_143, F_297_120, F_297_115, F_297_50, F_297_49, F_297_44, F_297_15, F_297_0, F_297, ↓reduceIte, if_true, if_false, ite_self, Option.bind_some, Option.map_some, wI_rd, wJ_rd, wI_2, wJ_1, wJ_22, I3_lit, I3_add, I3_mul, I3_lt, I3_le, I3_inj, I3_nn', I3_n1, I3_n2, m2m1, ldI_I, ldJ_I, ldZ_I, stI_I, stJ_I, true_or, or_true, false_or, or_false, true_and, and_true, false_and, and_false, not_true_eq_false, not_false_eq_true, reduceCtorEq, Nat.reduceEqDiff, Nat.lt_irrefl, Nat.not_lt_zero, Nat.le_refl, Nat.reduceLT, Nat.reduceLeDiff, eq_self, zbbI, bbI0, bbI1, decide_eq_false_iff_not, decide_eq_true_eq, Bool.not_eq_false, Bool.not_eq_true, Bool.not_true, Bool.not_false, cond_true, cond_false, e, a0, b0, R_plain, R_ref, b7, decide_true, decide_false]; rfl
    by_cases a8 : a = 8
    · subst a8
      have m : mayB g 8 b f r = (f || decide (b = 2 ∨ b = 3 ∨ b = 5 ∨ b = 6)) := by simp only [mayB, e, a0, b0, a6, b7, a7, if_true, if_false]
      rw [m]
      cases f with
      | true => simp (disch := omega) only [F_297_148, F_297_147, F_297_143, F_297_120, F_297_115, F_297_50, F_297_49, F_297_44, F_297_15, F_297_0, F_297, ↓reduceIte, if_true, if_false, ite_self, Option.bind_some, Option.map_some, wI_rd, wJ_rd, wI_2, wJ_1, wJ_22, I3_lit, I3_add, I3_mul, I3_lt, I3_le, I3_inj, I3_nn', I3_n1, I3_n2, m2m1, ldI_I, ldJ_I, ldZ_I, stI_I, stJ_I, true_or, or_true, false_or, or_false, true_and, and_true, false_and, and_false, not_true_eq_false, not_false_eq_true, reduceCtorEq, Nat.reduceEqDiff, Nat.lt_irrefl, Nat.not_lt_zero, Nat.le_refl, Nat.reduceLT, Nat.reduceLeDiff, eq_self, zbbI, bbI0, bbI1, decide_eq_false_iff_not, decide_eq_true_eq, Bool.not_eq_false, Bool.not_eq_true, Bool.not_true, Bool.not_false, cond_true, cond_false, e, a0, b0, R_plain, R_ref, b7, decide_true, decide_false, b2_t]; rfl
      | false =>
        rw [Bool.false_or]
        generalize hX : decide (b = 2 ∨ b = 3 ∨ b = 5 ∨ b = 6) = X
        simp (disch := omega) only [F_297_148, F_297_147, F_297_143, F_297_120, F_297_115, F_297_50, F_297_49, F_297_44, F_297_15, F_297_0, F_297, ↓reduceIte, if_true, if_false, ite_self, Option.bind_some, Option.map_some, wI_rd, wJ_rd, wI_2, wJ_1, wJ_22, I3_lit, I3_add, I3_mul, I3_lt, I3_le, I3_inj, I3_nn', I3_n1, I3_n2, m2m1, ldI_I, ldJ_I, ldZ_I, stI_I, stJ_I, true_or, or_true, false_or, or_false, true_and, and_true, false_and, and_false, not_true_eq_false, not_false_eq_true, reduceCtorEq, Nat.reduceEqDiff, Nat.lt_irrefl, Nat.not_lt_zero, Nat.le_refl, Nat.reduceLT, Nat.reduceLeDiff, eq_self, zbbI, bbI0, bbI1, decide_eq_false_iff_not, decide_eq_true_eq, Bool.not_eq_false, Bool.not_eq_true, Bool.not_true, Bool.not_false, cond_true, cond_false, e, a0, b0, R_plain, R_ref, b7, decide_true, decide_false, b2_f]
        subst hX
        (repeat' split) <;> first | (refine leaf0 ?_; omega) | (refine leaf1 ?_; omega) | (refine leafb ?_; omega) | (exfalso; omega)
    by_cases a14 : 9 ≤ a ∧ a ≤ 14
    · have m : mayB g a b f r = (f || (decide (a - 8 = b) || widB (a - 8) b)) := by simp only [mayB, e, a0, b0, a6, b7, a7, a8, a14, and_self, if_true, if_false]
      have W := R_wid (g := g) (a := a - 8) (b := b) (by omega) (by omega)
      rw [m]
      cases f with
      | true => simp (disch := omega) only [F_297_148, F_297_147, F_297_143, F_297_120, F_297_115, F_297_50, F_297_49, F_297_44, F_297_15, F_297_0, F_297, ↓reduceIte, if_true, if_false, ite_self, Option.bind_some, Option.map_some, wI_rd, wJ_rd, wI_2, wJ_1, wJ_22, I3_lit, I3_add, I3_mul, I3_lt, I3_le, I3_inj, I3_nn', I3_n1, I3_n2, m2m1, ldI_I, ldJ_I, ldZ_I, stI_I, stJ_I, true_or, or_true, false_or, or_false, true_and, and_true, false_and, and_false, not_true_eq_false, not_false_eq_true, reduceCtorEq, Nat.reduceEqDiff, Nat.lt_irrefl, Nat.not_lt_zero, Nat.le_refl, Nat.reduceLT, Nat.reduceLeDiff, eq_self, zbbI, bbI0, bbI1, decide_eq_false_iff_not, decide_eq_true_eq, Bool.not_eq_false, Bool.not_eq_true, Bool.not_true, Bool.not_false, cond_true, cond_false, e, a0, b0, R_plain, R_ref, R_isBox, a6, a7, a8, a14, b7, decide_true, decide_false, b2_t]; rfl
      | false =>
        rw [Bool.false_or]
        generalize (decide (a - 8 = b) || widB (a - 8) b) = ww at W ⊢
        cases ww <;> simp (disch := omega) only [F_297_148, F_297_147, F_297_143, F_297_120, F_297_115, F_297_50, F_297_49, F_297_44, F_297_15, F_297_0, F_297, ↓reduceIte, if_true, if_false, ite_self, Option.bind_some, Option.map_some, wI_rd, wJ_rd, wI_2, wJ_1, wJ_22, I3_lit, I3_add, I3_mul, I3_lt, I3_le, I3_inj, I3_nn', I3_n1, I3_n2, m2m1, ldI_I, ldJ_I, ldZ_I, stI_I, stJ_I, true_or, or_true, false_or, or_false, true_and, and_true, false_and, and_false, not_true_eq_false, not_false_eq_true, reduceCtorEq, Nat.reduceEqDiff, Nat.lt_irrefl, Nat.not_lt_zero, Nat.le_refl, Nat.reduceLT, Nat.reduceLeDiff, eq_self, zbbI, bbI0, bbI1, decide_eq_false_iff_not, decide_eq_true_eq, Bool.not_eq_false, Bool.not_eq_true, Bool.not_true, Bool.not_false, cond_true, cond_false, e, a0, b0, R_plain, R_ref, R_isBox, W, a6, a7, a8, a14, b7, decide_true, decide_false, b2_f, b2_t, I3_sub] <;> rfl
    · have m : mayB g a b f r = false := by simp only [mayB, e, a0, b0, a6, b7, a7, a8, a14, if_true, if_false]
      rw [m]
      simp (disch := omega) only [F_297_148, F_297_147, F_297_143, F_297_120, F_297_115, F_297_50, F_297_49, F_297_44, F_297_15, F_297_0, F_297, ↓reduceIte, if_true, if_false, ite_self, Option.bind_some, Option.map_some, wI_rd, wJ_rd, wI_2, wJ_1, wJ_22, I3_lit, I3_add, I3_mul, I3_lt, I3_le, I3_inj, I3_nn', I3_n1, I3_n2, m2m1, ldI_I, ldJ_I, ldZ_I, stI_I, stJ_I, true_or, or_true, false_or, or_false, true_and, and_true, false_and, and_false, not_true_eq_false, not_false_eq_true, reduceCtorEq, Nat.reduceEqDiff, Nat.lt_irrefl, Nat.not_lt_zero, Nat.le_refl, Nat.reduceLT, Nat.reduceLeDiff, eq_self, zbbI, bbI0, bbI1, decide_eq_false_iff_not, decide_eq_true_eq, Bool.not_eq_false, Bool.not_eq_true, Bool.not_true, Bool.not_false, cond_true, cond_false, e, a0, b0, R_plain, R_ref, R_isBox, a6, a7, a8, a14, b7, decide_true, decide_false]; rfl
theorem R_kind {g : sm_H} (wK : wfK g) (x : Int32) : F_289 x g = some (b2 (inR x (20 + nC g)), g) := by
  have h12 := wK.2.1
  have e := wK.1
  simp only [F_289_20, F_289_19, F_289_0, F_289, true_or, or_true, if_true]
  rw [rng1 (n := 20 + nC g) (by rw [e, I3_lit, I3_add]) (by omega), cb2]
theorem R_isC {g : sm_H} (wK : wfK g) {x : Nat} (hx : x < 2147483648) : F_387 (I3 x) g = some (b2 (decide (20 ≤ x ∧ x < 20 + nC g)), g) := by
  have h12 := wK.2.1
  have RK := R_kind wK (I3 x)
  rw [inR_I hx] at RK
  by_cases c : 20 ≤ x
  · by_cases d : x < 20 + nC g
    · simp (disch := omega) only [F_387_19, F_387_18, F_387_0, F_387, ↓reduceIte, if_true, if_false, ite_self, Option.bind_some, Option.map_some, wI_rd, wJ_rd, wI_2, wJ_1, wJ_22, I3_lit, I3_add, I3_mul, I3_lt, I3_le, I3_inj, I3_nn', I3_n1, I3_n2, m2m1, ldI_I, ldJ_I, ldZ_I, stI_I, stJ_I, true_or, or_true, false_or, or_false, true_and, and_true, false_and, and_false, not_true_eq_false, not_false_eq_true, reduceCtorEq, Nat.reduceEqDiff, Nat.lt_irrefl, Nat.not_lt_zero, Nat.le_refl, Nat.reduceLT, Nat.reduceLeDiff, eq_self, zbbI, bbI0, bbI1, decide_eq_false_iff_not, decide_eq_true_eq, Bool.not_eq_false, Bool.not_eq_true, Bool.not_true, Bool.not_false, cond_true, cond_false, RK, show ¬ x < 20 by omega, c, d, decide_true]; rfl
    · simp (disch := omega) only [F_387_19, F_387_18, F_387_0, F_387, ↓reduceIte, if_true, if_false, ite_self, Option.bind_some, Option.map_some, wI_rd, wJ_rd, wI_2, wJ_1, wJ_22, I3_lit, I3_add, I3_mul, I3_lt, I3_le, I3_inj, I3_nn', I3_n1, I3_n2, m2m1, ldI_I, ldJ_I, ldZ_I, stI_I, stJ_I, true_or, or_true, false_or, or_false, true_and, and_true, false_and, and_false, not_true_eq_false, not_false_eq_true, reduceCtorEq, Nat.reduceEqDiff, Nat.lt_irrefl, Nat.not_lt_zero, Nat.le_refl, Nat.reduceLT, Nat.reduceLeDiff, eq_self, zbbI, bbI0, bbI1, decide_eq_false_iff_not, decide_eq_true_eq, Bool.not_eq_false, Bool.not_eq_true, Bool.not_true, Bool.not_false, cond_true, cond_false, RK, show ¬ x < 20 by omega, c, d, decide_true, decide_false]; rfl
  · simp (disch := omega) only [F_387_19, F_387_18, F_387_0, F_387, ↓reduceIte, if_true, if_false, ite_self, Option.bind_some, Option.map_some, wI_rd, wJ_rd, wI_2, wJ_1, wJ_22, I3_lit, I3_add, I3_mul, I3_lt, I3_le, I3_inj, I3_nn', I3_n1, I3_n2, m2m1, ldI_I, ldJ_I, ldZ_I, stI_I, stJ_I, true_or, or_true, false_or, or_false, true_and, and_true, false_and, and_false, not_true_eq_false, not_false_eq_true, reduceCtorEq, Nat.reduceEqDiff, Nat.lt_irrefl, Nat.not_lt_zero, Nat.le_refl, Nat.reduceLT, Nat.reduceLeDiff, eq_self, zbbI, bbI0, bbI1, decide_eq_false_iff_not, decide_eq_true_eq, Bool.not_eq_false, Bool.not_eq_true, Bool.not_true, Bool.not_false, cond_true, cond_false, show x < 20 by omega, c, decide_false]; rfl
theorem R_isC_n {g : sm_H} {x : Int32} (hx : x < 0) : F_387 x g = some (0, g) := by
  have l : x < I3 20 := neg_lt_I3 hx (by decide)
  simp (disch := omega) only [F_387_19, F_387_18, F_387_0, F_387, ↓reduceIte, if_true, if_false, ite_self, Option.bind_some, Option.map_some, wI_rd, wJ_rd, wI_2, wJ_1, wJ_22, I3_lit, I3_add, I3_mul, I3_lt, I3_le, I3_inj, I3_nn', I3_n1, I3_n2, m2m1, ldI_I, ldJ_I, ldZ_I, stI_I, stJ_I, true_or, or_true, false_or, or_false, true_and, and_true, false_and, and_false, not_true_eq_false, not_false_eq_true, reduceCtorEq, Nat.reduceEqDiff, Nat.lt_irrefl, Nat.not_lt_zero, Nat.le_refl, Nat.reduceLT, Nat.reduceLeDiff, eq_self, zbbI, bbI0, bbI1, decide_eq_false_iff_not, decide_eq_true_eq, Bool.not_eq_false, Bool.not_eq_true, Bool.not_true, Bool.not_false, cond_true, cond_false, l]
theorem C_has {h g : sm_H} (wK : wfK g) (cK : cK h g) (x : Int32) : F_53 x h = some (b2 (inR x (20 + nC g)), h) := by
  have h12 := wK.2.1
  simp only [F_53_17, F_53_16, F_53_0, F_53, true_or, or_true, if_true]
  rw [rng1 (n := 20 + nC g) cK.1 (by omega), cb2]
theorem C_isC {h g : sm_H} (wK : wfK g) (cK : cK h g) {x : Nat} (hx : x < 2147483648) : F_55 (I3 x) h = some (b2 (decide (20 ≤ x ∧ x < 20 + nC g)), h) := by
  have h12 := wK.2.1
  by_cases c : 20 ≤ x
  · by_cases d : x < 20 + nC g
    · simp (disch := omega) only [F_55_19, F_55_18, F_55_0, F_55, ↓reduceIte, if_true, if_false, ite_self, Option.bind_some, Option.map_some, wI_rd, wJ_rd, wI_2, wJ_1, wJ_22, I3_lit, I3_add, I3_mul, I3_lt, I3_le, I3_inj, I3_nn', I3_n1, I3_n2, m2m1, ldI_I, ldJ_I, ldZ_I, stI_I, stJ_I, true_or, or_true, false_or, or_false, true_and, and_true, false_and, and_false, not_true_eq_false, not_false_eq_true, reduceCtorEq, Nat.reduceEqDiff, Nat.lt_irrefl, Nat.not_lt_zero, Nat.le_refl, Nat.reduceLT, Nat.reduceLeDiff, eq_self, zbbI, bbI0, bbI1, decide_eq_false_iff_not, decide_eq_true_eq, Bool.not_eq_false, Bool.not_eq_true, Bool.not_true, Bool.not_false, cond_true, cond_false, cK.1, show ¬ x < 20 by omega, c, d, decide_true, show ¬ 20 + nC g ≤ x by omega]; rfl
    · simp (disch := omega) only [F_55_19, F_55_18, F_55_0, F_55, ↓reduceIte, if_true, if_false, ite_self, Option.bind_some, Option.map_some, wI_rd, wJ_rd, wI_2, wJ_1, wJ_22, I3_lit, I3_add, I3_mul, I3_lt, I3_le, I3_inj, I3_nn', I3_n1, I3_n2, m2m1, ldI_I, ldJ_I, ldZ_I, stI_I, stJ_I, true_or, or_true, false_or, or_false, true_and, and_true, false_and, and_false, not_true_eq_false, not_false_eq_true, reduceCtorEq, Nat.reduceEqDiff, Nat.lt_irrefl, Nat.not_lt_zero, Nat.le_refl, Nat.reduceLT, Nat.reduceLeDiff, eq_self, zbbI, bbI0, bbI1, decide_eq_false_iff_not, decide_eq_true_eq, Bool.not_eq_false, Bool.not_eq_true, Bool.not_true, Bool.not_false, cond_true, cond_false, cK.1, show ¬ x < 20 by omega, c, d, decide_true, decide_false, show 20 + nC g ≤ x by omega]; rfl
  · simp (disch := omega) only [F_55_19, F_55_18, F_55_0, F_55, ↓reduceIte, if_true, if_false, ite_self, Option.bind_some, Option.map_some, wI_rd, wJ_rd, wI_2, wJ_1, wJ_22, I3_lit, I3_add, I3_mul, I3_lt, I3_le, I3_inj, I3_nn', I3_n1, I3_n2, m2m1, ldI_I, ldJ_I, ldZ_I, stI_I, stJ_I, true_or, or_true, false_or, or_false, true_and, and_true, false_and, and_false, not_true_eq_false, not_false_eq_true, reduceCtorEq, Nat.reduceEqDiff, Nat.lt_irrefl, Nat.not_lt_zero, Nat.le_refl, Nat.reduceLT, Nat.reduceLeDiff, eq_self, zbbI, bbI0, bbI1, decide_eq_false_iff_not, decide_eq_true_eq, Bool.not_eq_false, Bool.not_eq_true, Bool.not_true, Bool.not_false, cond_true, cond_false, show x < 20 by omega, c, decide_false]; rfl
theorem C_isC_n {h : sm_H} {x : Int32} (hx : x < 0) : F_55 x h = some (0, h) := by
  have l : x < I3 20 := neg_lt_I3 hx (by decide)
  simp (disch := omega) only [F_55_19, F_55_18, F_55_0, F_55, ↓reduceIte, if_true, if_false, ite_self, Option.bind_some, Option.map_some, wI_rd, wJ_rd, wI_2, wJ_1, wJ_22, I3_lit, I3_add, I3_mul, I3_lt, I3_le, I3_inj, I3_nn', I3_n1, I3_n2, m2m1, ldI_I, ldJ_I, ldZ_I, stI_I, stJ_I, true_or, or_true, false_or, or_false, true_and, and_true, false_and, and_false, not_true_eq_false, not_false_eq_true, reduceCtorEq, Nat.reduceEqDiff, Nat.lt_irrefl, Nat.not_lt_zero, Nat.le_refl, Nat.reduceLT, Nat.reduceLeDiff, eq_self, zbbI, bbI0, bbI1, decide_eq_false_iff_not, decide_eq_true_eq, Bool.not_eq_false, Bool.not_eq_true, Bool.not_true, Bool.not_false, cond_true, cond_false, l]
theorem C_allows {h g : sm_H} (wK : wfK g) (cK : cK h g) {a b : Nat} (a1 : 0 < a) (ha : a < 20 + nC g) (b1 : 0 < b) (hb : b < 20 + nC g) (f : Bool) : F_64 (I3 a) (I3 b) (b2 f) h = some (b2 (mayB g a b f false), h) := by
  have h12 := wK.2.1
  have c1 := cK.1
  have na : ¬ a ≤ 0 := by omega
  have nb : ¬ b ≤ 0 := by omega
  have ka : ¬ 20 + nC g ≤ a := by omega
  have a0 : ¬ a = 0 := by omega
  have b0 : ¬ b = 0 := by omega
  by_cases e : a = b
  · have m : mayB g a b f false = true := by simp only [mayB, e, if_true]
    rw [m]; simp (disch := omega) only [F_64_49, F_64_164, F_64_163, F_64_159, F_64_126, F_64_121, F_64_82, F_64_81, F_64_76, F_64_43, F_64_24, F_64_0, F_64, ↓reduceIte, if_true, if_false, ite_self, Option.bind_some, Option.map_some, wI_rd, wJ_rd, wI_2, wJ_1, wJ_22, I3_lit, I3_add, I3_mul, I3_lt, I3_le, I3_inj, I3_nn', I3_n1, I3_n2, m2m1, ldI_I, ldJ_I, ldZ_I, stI_I, stJ_I, true_or, or_true, false_or, or_false, true_and, and_true, false_and, and_false, not_true_eq_false, not_false_eq_true, reduceCtorEq, Nat.reduceEqDiff, Nat.lt_irrefl, Nat.not_lt_zero, Nat.le_refl, Nat.reduceLT, Nat.reduceLeDiff, eq_self, zbbI, bbI0, bbI1, decide_eq_false_iff_not, decide_eq_true_eq, Bool.not_eq_false, Bool.not_eq_true, Bool.not_true, Bool.not_false, cond_true, cond_false, c1, na, nb, ka, hb, e, show ¬ 20 + nC g ≤ b by omega]; try rfl
  by_cases a6 : a ≤ 6
  · have a7 : a < 7 := by omega
    have n7 : ¬ a = 7 := by omega
    have n6 : ¬ 6 < a := by omega
    by_cases b6 : b ≤ 6
    · have m : mayB g a b f false = (f || widB a b) := by simp only [mayB, e, a0, b0, a6, b6, if_true, if_false]
      have W := C_widN (g := h) (a := a) (b := b) (by omega) (by omega)
      have m6 : ¬ 6 < b := by omega
      rw [m]
      cases f with
      | true => simp (disch := omega) only [F_64_49, F_64_164, F_64_163, F_64_159, F_64_126, F_64_121, F_64_82, F_64_81, F_64_76, F_64_43, F_64_24, F_64_0, F_64, ↓reduceIte, if_true, if_false, ite_self, Option.bind_some, Option.map_some, wI_rd, wJ_rd, wI_2, wJ_1, wJ_22, I3_lit, I3_add, I3_mul, I3_lt, I3_le, I3_inj, I3_nn', I3_n1, I3_n2, m2m1, ldI_I, ldJ_I, ldZ_I, stI_I, stJ_I, true_or, or_true, false_or, or_false, true_and, and_true, false_and, and_false, not_true_eq_false, not_false_eq_true, reduceCtorEq, Nat.reduceEqDiff, Nat.lt_irrefl, Nat.not_lt_zero, Nat.le_refl, Nat.reduceLT, Nat.reduceLeDiff, eq_self, zbbI, bbI0, bbI1, decide_eq_false_iff_not, decide_eq_true_eq, Bool.not_eq_false, Bool.not_eq_true, Bool.not_true, Bool.not_false, cond_true, cond_false, c1, na, nb, ka, hb, e, a7, n7, n6, m6, b2_t]; try rfl
      | false =>
        generalize widB a b = ww at W ⊢
        cases ww <;> simp (disch := omega) only [F_64_49, F_64_164, F_64_163, F_64_159, F_64_126, F_64_121, F_64_82, F_64_81, F_64_76, F_64_43, F_64_24, F_64_0, F_64, ↓reduceIte, if_true, if_false, ite_self, Option.bind_some, Option.map_some, wI_rd, wJ_rd, wI_2, wJ_1, wJ_22, I3_lit, I3_add, I3_mul, I3_lt, I3_le, I3_inj, I3_nn', I3_n1, I3_n2, m2m1, ldI_I, ldJ_I, ldZ_I, stI_I, stJ_I, true_or, or_true, false_or, or_false, true_and, and_true, false_and, and_false, not_true_eq_false, not_false_eq_true, reduceCtorEq, Nat.reduceEqDiff, Nat.lt_irrefl, Nat.not_lt_zero, Nat.le_refl, Nat.reduceLT, Nat.reduceLeDiff, eq_self, zbbI, bbI0, bbI1, decide_eq_false_iff_not, decide_eq_true_eq, Bool.not_eq_false, Bool.not_eq_true, Bool.not_true, Bool.not_false, cond_true, cond_false, c1, na, nb, ka, hb, e, a7, n7, n6, m6, b2_t, b2_f, W] <;> rfl
    · have m : mayB g a b f false = B g (a + 8) b := by simp only [mayB, e, a0, b0, a6, b6, if_true, if_false]
      rw [m]
      have RB := C_belowN wK cK (x := a + 8) (y := b) (by omega) hb
      have m6 : 6 < b := by omega
      generalize B g (a + 8) b = bb at RB ⊢
      have h1 : F_64_82 (I3 a) (I3 b) (b2 f) h = some (b2 bb, h) := by
        unfold F_64_82
        rw [if_neg (by rw [I3_lit, I3_lt (by decide) (by omega)]; exact n6), I3_lit, I3_add, RB]
        show (if b2 bb = 0 ∨ b2 bb = 1 then some (b2 bb, h) else none) = _
        rw [if_pos (b2_ok bb)]
      simp (disch := omega) only [↓reduceIte, if_true, if_false, ite_self, Option.bind_some, Option.map_some, wI_rd, wJ_rd, wI_2, wJ_1, wJ_22, I3_lit, I3_add, I3_mul, I3_lt, I3_le, I3_inj, I3_nn', I3_n1, I3_n2, m2m1, ldI_I, ldJ_I, ldZ_I, stI_I, stJ_I, true_or, or_true, false_or, or_false, true_and, and_true, false_and, and_false, not_true_eq_false, not_false_eq_true, reduceCtorEq, Nat.reduceEqDiff, Nat.lt_irrefl, Nat.not_lt_zero, Nat.le_refl, Nat.reduceLT, Nat.reduceLeDiff, eq_self, zbbI, bbI0, bbI1, decide_eq_false_iff_not, decide_eq_true_eq, Bool.not_eq_false, Bool.not_eq_true, Bool.not_true, Bool.not_false, cond_true, cond_false, F_64, F_64_0, F_64_43, c1, na, nb, ka, hb, e, a7, n7, n6, m6, h1]
  · have a7 : ¬ a < 7 := by omega
    have n6 : 6 < a := by omega
    by_cases b7 : 7 ≤ b
    · have m : mayB g a b f false = true := by simp only [mayB, e, a0, b0, a6, b7, if_true, if_false]
      rw [m]
      simp (disch := omega) only [F_64_49, F_64_164, F_64_163, F_64_159, F_64_126, F_64_121, F_64_82, F_64_81, F_64_76, F_64_43, F_64_24, F_64_0, F_64, ↓reduceIte, if_true, if_false, ite_self, Option.bind_some, Option.map_some, wI_rd, wJ_rd, wI_2, wJ_1, wJ_22, I3_lit, I3_add, I3_mul, I3_lt, I3_le, I3_inj, I3_nn', I3_n1, I3_n2, m2m1, ldI_I, ldJ_I, ldZ_I, stI_I, stJ_I, true_or, or_true, false_or, or_false, true_and, and_true, false_and, and_false, not_true_eq_false, not_false_eq_true, reduceCtorEq, Nat.reduceEqDiff, Nat.lt_irrefl, Nat.not_lt_zero, Nat.le_refl, Nat.reduceLT, Nat.reduceLeDiff, eq_self, zbbI, bbI0, bbI1, decide_eq_false_iff_not, decide_eq_true_eq, Bool.not_eq_false, Bool.not_eq_true, Bool.not_true, Bool.not_false, cond_true, cond_false, c1, na, nb, ka, hb, e, a7, b7]; try rfl
    by_cases q7 : a = 7
    · subst q7
      have m : mayB g 7 b f false = true := by simp only [mayB, e, a0, b0, a6, b7, if_true, if_false]
      rw [m]
      simp (disch := omega) only [F_64_49, F_64_164, F_64_163, F_64_159, F_64_126, F_64_121, F_64_82, F_64_81, F_64_76, F_64_43, F_64_24, F_64_0, F_64, ↓reduceIte, if_true, if_false, ite_self, Option.bind_some, Option.map_some, wI_rd, wJ_rd, wI_2, wJ_1, wJ_22, I3_lit, I3_add, I3_mul, I3_lt, I3_le, I3_inj, I3_nn', I3_n1, I3_n2, m2m1, ldI_I, ldJ_I, ldZ_I, stI_I, stJ_I, true_or, or_true, false_or, or_false, true_and, and_true, false_and, and_false, not_true_eq_false, not_false_eq_true, reduceCtorEq, Nat.reduceEqDiff, Nat.lt_irrefl, Nat.not_lt_zero, Nat.le_refl, Nat.reduceLT, Nat.reduceLeDiff, eq_self, zbbI, bbI0, bbI1, decide_eq_false_iff_not, decide_eq_true_eq, Bool.not_eq_false, Bool.not_eq_true, Bool.not_true, Bool.not_false, cond_true, cond_false, c1, na, nb, ka, hb, e, b7]; try rfl
    by_cases a8 : a = 8
    · subst a8
      have m : mayB g 8 b f false = (f || decide (b = 2 ∨ b = 3 ∨ b = 5 ∨ b = 6)) := by simp only [mayB, e, a0, b0, a6, b7, q7, if_true, if_false]
      rw [m]
      cases f with
      | true => simp (disch := omega) only [F_64_49, F_64_164, F_64_163, F_64_159, F_64_126, F_64_121, F_64_82, F_64_81, F_64_76, F_64_43, F_64_24, F_64_0, F_64, ↓reduceIte, if_true, if_false, ite_self, Option.bind_some, Option.map_some, wI_rd, wJ_rd, wI_2, wJ_1, wJ_22, I3_lit, I3_add, I3_mul, I3_lt, I3_le, I3_inj, I3_nn', I3_n1, I3_n2, m2m1, ldI_I, ldJ_I, ldZ_I, stI_I, stJ_I, true_or, or_true, false_or, or_false, true_and, and_true, false_and, and_false, not_true_eq_false, not_false_eq_true, reduceCtorEq, Nat.reduceEqDiff, Nat.lt_irrefl, Nat.not_lt_zero, Nat.le_refl, Nat.reduceLT, Nat.reduceLeDiff, eq_self, zbbI, bbI0, bbI1, decide_eq_false_iff_not, decide_eq_true_eq, Bool.not_eq_false, Bool.not_eq_true, Bool.not_true, Bool.not_false, cond_true, cond_false, c1, na, nb, ka, hb, e, b7, b2_t]; try rfl
      | false =>
        rw [Bool.false_or]
        have RB := C_belowN wK cK (x := b + 8) (y := 8) (by omega) (by omega)
        rw [B_8 wK (b + 8) (by omega) (by omega)] at RB
        have ed : decide (b + 8 = 10 ∨ b + 8 = 11 ∨ b + 8 = 13 ∨ b + 8 = 14) = decide (b = 2 ∨ b = 3 ∨ b = 5 ∨ b = 6) := decide_eq_decide.mpr (by omega)
        rw [ed] at RB
        generalize decide (b = 2 ∨ b = 3 ∨ b = 5 ∨ b = 6) = X at RB ⊢
        cases X <;> simp (disch := omega) only [F_64_49, F_64_164, F_64_163, F_64_159, F_64_126, F_64_121, F_64_82, F_64_81, F_64_76, F_64_43, F_64_24, F_64_0, F_64, ↓reduceIte, if_true, if_false, ite_self, Option.bind_some, Option.map_some, wI_rd, wJ_rd, wI_2, wJ_1, wJ_22, I3_lit, I3_add, I3_mul, I3_lt, I3_le, I3_inj, I3_nn', I3_n1, I3_n2, m2m1, ldI_I, ldJ_I, ldZ_I, stI_I, stJ_I, true_or, or_true, false_or, or_false, true_and, and_true, false_and, and_false, not_true_eq_false, not_false_eq_true, reduceCtorEq, Nat.reduceEqDiff, Nat.lt_irrefl, Nat.not_lt_zero, Nat.le_refl, Nat.reduceLT, Nat.reduceLeDiff, eq_self, zbbI, bbI0, bbI1, decide_eq_false_iff_not, decide_eq_true_eq, Bool.not_eq_false, Bool.not_eq_true, Bool.not_true, Bool.not_false, cond_true, cond_false, c1, na, nb, ka, hb, e, b7, b2_f, b2_t, RB] <;> rfl
    by_cases a14 : 9 ≤ a ∧ a ≤ 14
    · have m : mayB g a b f false = (f || (decide (a - 8 = b) || widB (a - 8) b)) := by simp only [mayB, e, a0, b0, a6, b7, q7, a8, a14, and_self, if_true, if_false]
      have W := C_widN (g := h) (a := a - 8) (b := b) (by omega) (by omega)
      have BX := C_isBox (h := h) (a := a) (by omega)
      rw [decide_eq_true a14] at BX
      rw [m]
      cases f with
      | true => simp (disch := omega) only [F_64_49, F_64_164, F_64_163, F_64_159, F_64_126, F_64_121, F_64_82, F_64_81, F_64_76, F_64_43, F_64_24, F_64_0, F_64, ↓reduceIte, if_true, if_false, ite_self, Option.bind_some, Option.map_some, wI_rd, wJ_rd, wI_2, wJ_1, wJ_22, I3_lit, I3_add, I3_mul, I3_lt, I3_le, I3_inj, I3_nn', I3_n1, I3_n2, m2m1, ldI_I, ldJ_I, ldZ_I, stI_I, stJ_I, true_or, or_true, false_or, or_false, true_and, and_true, false_and, and_false, not_true_eq_false, not_false_eq_true, reduceCtorEq, Nat.reduceEqDiff, Nat.lt_irrefl, Nat.not_lt_zero, Nat.le_refl, Nat.reduceLT, Nat.reduceLeDiff, eq_self, zbbI, bbI0, bbI1, decide_eq_false_iff_not, decide_eq_true_eq, Bool.not_eq_false, Bool.not_eq_true, Bool.not_true, Bool.not_false, cond_true, cond_false, c1, na, nb, ka, hb, e, a7, n6, b7, q7, a8, b2_t, BX]; try rfl
      | false =>
        rw [Bool.false_or]
        by_cases q : a - 8 = b
        · rw [decide_eq_true q]; simp (disch := omega) only [F_64_49, F_64_164, F_64_163, F_64_159, F_64_126, F_64_121, F_64_82, F_64_81, F_64_76, F_64_43, F_64_24, F_64_0, F_64, ↓reduceIte, if_true, if_false, ite_self, Option.bind_some, Option.map_some, wI_rd, wJ_rd, wI_2, wJ_1, wJ_22, I3_lit, I3_add, I3_mul, I3_lt, I3_le, I3_inj, I3_nn', I3_n1, I3_n2, m2m1, ldI_I, ldJ_I, ldZ_I, stI_I, stJ_I, true_or, or_true, false_or, or_false, true_and, and_true, false_and, and_false, not_true_eq_false, not_false_eq_true, reduceCtorEq, Nat.reduceEqDiff, Nat.lt_irrefl, Nat.not_lt_zero, Nat.le_refl, Nat.reduceLT, Nat.reduceLeDiff, eq_self, zbbI, bbI0, bbI1, decide_eq_false_iff_not, decide_eq_true_eq, Bool.not_eq_false, Bool.not_eq_true, Bool.not_true, Bool.not_false, cond_true, cond_false, c1, na, nb, ka, hb, e, a7, n6, b7, q7, a8, b2_t, b2_f, BX, I3_sub, q]; try rfl
        · rw [decide_eq_false q, Bool.false_or]
          generalize widB (a - 8) b = ww at W ⊢
          cases ww <;> simp (disch := omega) only [F_64_49, F_64_164, F_64_163, F_64_159, F_64_126, F_64_121, F_64_82, F_64_81, F_64_76, F_64_43, F_64_24, F_64_0, F_64, ↓reduceIte, if_true, if_false, ite_self, Option.bind_some, Option.map_some, wI_rd, wJ_rd, wI_2, wJ_1, wJ_22, I3_lit, I3_add, I3_mul, I3_lt, I3_le, I3_inj, I3_nn', I3_n1, I3_n2, m2m1, ldI_I, ldJ_I, ldZ_I, stI_I, stJ_I, true_or, or_true, false_or, or_false, true_and, and_true, false_and, and_false, not_true_eq_false, not_false_eq_true, reduceCtorEq, Nat.reduceEqDiff, Nat.lt_irrefl, Nat.not_lt_zero, Nat.le_refl, Nat.reduceLT, Nat.reduceLeDiff, eq_self, zbbI, bbI0, bbI1, decide_eq_false_iff_not, decide_eq_true_eq, Bool.not_eq_false, Bool.not_eq_true, Bool.not_true, Bool.not_false, cond_true, cond_false, c1, na, nb, ka, hb, e, a7, n6, b7, q7, a8, b2_t, b2_f, BX, I3_sub, q, W] <;> rfl
    · have m : mayB g a b f false = false := by simp only [mayB, e, a0, b0, a6, b7, q7, a8, a14, if_true, if_false]
      have BX := C_isBox (h := h) (a := a) (by omega)
      rw [decide_eq_false a14] at BX
      rw [m]
      simp (disch := omega) only [F_64_49, F_64_164, F_64_163, F_64_159, F_64_126, F_64_121, F_64_82, F_64_81, F_64_76, F_64_43, F_64_24, F_64_0, F_64, ↓reduceIte, if_true, if_false, ite_self, Option.bind_some, Option.map_some, wI_rd, wJ_rd, wI_2, wJ_1, wJ_22, I3_lit, I3_add, I3_mul, I3_lt, I3_le, I3_inj, I3_nn', I3_n1, I3_n2, m2m1, ldI_I, ldJ_I, ldZ_I, stI_I, stJ_I, true_or, or_true, false_or, or_false, true_and, and_true, false_and, and_false, not_true_eq_false, not_false_eq_true, reduceCtorEq, Nat.reduceEqDiff, Nat.lt_irrefl, Nat.not_lt_zero, Nat.le_refl, Nat.reduceLT, Nat.reduceLeDiff, eq_self, zbbI, bbI0, bbI1, decide_eq_false_iff_not, decide_eq_true_eq, Bool.not_eq_false, Bool.not_eq_true, Bool.not_true, Bool.not_false, cond_true, cond_false, c1, na, nb, ka, hb, e, a7, n6, b7, q7, a8, b2_t, b2_f, BX]; try rfl
theorem C_allows_o {h g : sm_H} (wK : wfK g) (cK : cK h g) {x y : Int32} (f : Int32) (hx : inR x (20 + nC g) = false ∨ x = 0 ∨ inR y (20 + nC g) = false ∨ y = 0) : F_64 x y f h = some (0, h) := by
  have h12 := wK.2.1
  have key : ∀ z : Int32, inR z (20 + nC g) = false ∨ z = 0 → z ≤ 0 ∨ ¬ z < I3 (20 + nC g) := by
    intro z hz
    rcases I3_cases z with ⟨k, hk, rfl⟩ | hn
    · rcases hz with hz | hz
      · rw [inR_I hk] at hz
        right; rw [I3_lt hk (by omega)]; simpa using hz
      · left; rw [hz]; exact Int32.le_refl 0
    · left; exact Int32.le_of_lt hn
  show F_64_0 x y f h = _
  unfold F_64_0 F_64_24
  rw [cK.1]
  have nl : ∀ z : Int32, (¬ z < I3 (20 + nC g)) → I3 (20 + nC g) ≤ z := fun z hz => Int32.not_lt.mp hz
  rcases Classical.em (x ≤ 0) with c1 | c1
  · rw [if_pos c1]
  rw [if_neg c1]
  rcases Classical.em (I3 (20 + nC g) ≤ x) with c2 | c2
  · rw [if_pos c2]
  rw [if_neg c2]
  rcases Classical.em (y ≤ 0) with c3 | c3
  · rw [if_pos c3]
  rw [if_neg c3]
  rcases Classical.em (y < I3 (20 + nC g)) with c4 | c4
  · exfalso
    have hxx : ¬ (inR x (20 + nC g) = false ∨ x = 0) := fun z => by
      rcases key x z with q | q
      · exact c1 q
      · exact c2 (nl x q)
    have hyy : ¬ (inR y (20 + nC g) = false ∨ y = 0) := fun z => by
      rcases key y z with q | q
      · exact c3 q
      · exact q c4
    rcases hx with z | z | z | z
    · exact hxx (Or.inl z)
    · exact hxx (Or.inr z)
    · exact hyy (Or.inl z)
    · exact hyy (Or.inr z)
  · rw [if_neg c4]
theorem op_may {h : sm_H} (x y : Int32) (f : Bool) (I : I0 h) : ∃ v h1 h2, F_287 x y (b2 f) h = some (v, h1) ∧ F_469 x y (b2 f) h1 = some (v, h2) ∧ I0 h2 := by
  have wK := I.1
  have cK := I.2.1
  have h12 := wK.2.1
  have K1 := R_kind wK x
  have K2 := R_kind wK y
  rcases inR_c x (20 + nC h) (by omega) with ⟨a, ha, rfl, hi⟩ | hi
  · rcases inR_c y (20 + nC h) (by omega) with ⟨b, hb, rfl, hj⟩ | hj
    · by_cases a0 : a = 0
      · subst a0
        refine ⟨0, h, h, ?_, ?_, I⟩
        · simp (disch := omega) only [F_287_0, F_287, ↓reduceIte, if_true, if_false, ite_self, Option.bind_some, Option.map_some, wI_rd, wJ_rd, wI_2, wJ_1, wJ_22, I3_lit, I3_add, I3_mul, I3_lt, I3_le, I3_inj, I3_nn', I3_n1, I3_n2, m2m1, ldI_I, ldJ_I, ldZ_I, stI_I, stJ_I, true_or, or_true, false_or, or_false, true_and, and_true, false_and, and_false, not_true_eq_false, not_false_eq_true, reduceCtorEq, Nat.reduceEqDiff, Nat.lt_irrefl, Nat.not_lt_zero, Nat.le_refl, Nat.reduceLT, Nat.reduceLeDiff, eq_self, zbbI, bbI0, bbI1, decide_eq_false_iff_not, decide_eq_true_eq, Bool.not_eq_false, Bool.not_eq_true, Bool.not_true, Bool.not_false, cond_true, cond_false, C_allows_o wK cK (b2 f) (x := I3 0) (y := I3 b) (Or.inr (Or.inl rfl))]
        · simp (disch := omega) only [F_469_40, F_469_39, F_469_0, F_469, ↓reduceIte, if_true, if_false, ite_self, Option.bind_some, Option.map_some, wI_rd, wJ_rd, wI_2, wJ_1, wJ_22, I3_lit, I3_add, I3_mul, I3_lt, I3_le, I3_inj, I3_nn', I3_n1, I3_n2, m2m1, ldI_I, ldJ_I, ldZ_I, stI_I, stJ_I, true_or, or_true, false_or, or_false, true_and, and_true, false_and, and_false, not_true_eq_false, not_false_eq_true, reduceCtorEq, Nat.reduceEqDiff, Nat.lt_irrefl, Nat.not_lt_zero, Nat.le_refl, Nat.reduceLT, Nat.reduceLeDiff, eq_self, zbbI, bbI0, bbI1, decide_eq_false_iff_not, decide_eq_true_eq, Bool.not_eq_false, Bool.not_eq_true, Bool.not_true, Bool.not_false, cond_true, cond_false, K1, K2, hi, hj]; try rfl
      by_cases b0 : b = 0
      · subst b0
        refine ⟨0, h, h, ?_, ?_, I⟩
        · simp (disch := omega) only [F_287_0, F_287, ↓reduceIte, if_true, if_false, ite_self, Option.bind_some, Option.map_some, wI_rd, wJ_rd, wI_2, wJ_1, wJ_22, I3_lit, I3_add, I3_mul, I3_lt, I3_le, I3_inj, I3_nn', I3_n1, I3_n2, m2m1, ldI_I, ldJ_I, ldZ_I, stI_I, stJ_I, true_or, or_true, false_or, or_false, true_and, and_true, false_and, and_false, not_true_eq_false, not_false_eq_true, reduceCtorEq, Nat.reduceEqDiff, Nat.lt_irrefl, Nat.not_lt_zero, Nat.le_refl, Nat.reduceLT, Nat.reduceLeDiff, eq_self, zbbI, bbI0, bbI1, decide_eq_false_iff_not, decide_eq_true_eq, Bool.not_eq_false, Bool.not_eq_true, Bool.not_true, Bool.not_false, cond_true, cond_false, C_allows_o wK cK (b2 f) (x := I3 a) (y := I3 0) (Or.inr (Or.inr (Or.inr rfl)))]
        · simp (disch := omega) only [F_469_40, F_469_39, F_469_0, F_469, ↓reduceIte, if_true, if_false, ite_self, Option.bind_some, Option.map_some, wI_rd, wJ_rd, wI_2, wJ_1, wJ_22, I3_lit, I3_add, I3_mul, I3_lt, I3_le, I3_inj, I3_nn', I3_n1, I3_n2, m2m1, ldI_I, ldJ_I, ldZ_I, stI_I, stJ_I, true_or, or_true, false_or, or_false, true_and, and_true, false_and, and_false, not_true_eq_false, not_false_eq_true, reduceCtorEq, Nat.reduceEqDiff, Nat.lt_irrefl, Nat.not_lt_zero, Nat.le_refl, Nat.reduceLT, Nat.reduceLeDiff, eq_self, zbbI, bbI0, bbI1, decide_eq_false_iff_not, decide_eq_true_eq, Bool.not_eq_false, Bool.not_eq_true, Bool.not_true, Bool.not_false, cond_true, cond_false, K1, K2, hi, hj, a0]; try rfl
      have M := R_mayBe wK ha hb f false
      have M : F_297 (I3 a) (I3 b) (b2 f) (I3 0) h = some (b2 (mayB h a b f false), h) := M
      refine ⟨b2 (mayB h a b f false), h, h, ?_, ?_, I⟩
      · simp (disch := omega) only [F_287_0, F_287, ↓reduceIte, if_true, if_false, ite_self, Option.bind_some, Option.map_some, wI_rd, wJ_rd, wI_2, wJ_1, wJ_22, I3_lit, I3_add, I3_mul, I3_lt, I3_le, I3_inj, I3_nn', I3_n1, I3_n2, m2m1, ldI_I, ldJ_I, ldZ_I, stI_I, stJ_I, true_or, or_true, false_or, or_false, true_and, and_true, false_and, and_false, not_true_eq_false, not_false_eq_true, reduceCtorEq, Nat.reduceEqDiff, Nat.lt_irrefl, Nat.not_lt_zero, Nat.le_refl, Nat.reduceLT, Nat.reduceLeDiff, eq_self, zbbI, bbI0, bbI1, decide_eq_false_iff_not, decide_eq_true_eq, Bool.not_eq_false, Bool.not_eq_true, Bool.not_true, Bool.not_false, cond_true, cond_false, C_allows wK cK (by omega) ha (by omega) hb f]; cases mayB h a b f false <;> rfl
      · generalize mayB h a b f false = X at M ⊢
        cases X <;> simp (disch := omega) only [F_469_40, F_469_39, F_469_0, F_469, ↓reduceIte, if_true, if_false, ite_self, Option.bind_some, Option.map_some, wI_rd, wJ_rd, wI_2, wJ_1, wJ_22, I3_lit, I3_add, I3_mul, I3_lt, I3_le, I3_inj, I3_nn', I3_n1, I3_n2, m2m1, ldI_I, ldJ_I, ldZ_I, stI_I, stJ_I, true_or, or_true, false_or, or_false, true_and, and_true, false_and, and_false, not_true_eq_false, not_false_eq_true, reduceCtorEq, Nat.reduceEqDiff, Nat.lt_irrefl, Nat.not_lt_zero, Nat.le_refl, Nat.reduceLT, Nat.reduceLeDiff, eq_self, zbbI, bbI0, bbI1, decide_eq_false_iff_not, decide_eq_true_eq, Bool.not_eq_false, Bool.not_eq_true, Bool.not_true, Bool.not_false, cond_true, cond_false, K1, K2, hi, hj, a0, b0, M] <;> rfl
    · refine ⟨0, h, h, ?_, ?_, I⟩
      · simp (disch := omega) only [F_287_0, F_287, ↓reduceIte, if_true, if_false, ite_self, Option.bind_some, Option.map_some, wI_rd, wJ_rd, wI_2, wJ_1, wJ_22, I3_lit, I3_add, I3_mul, I3_lt, I3_le, I3_inj, I3_nn', I3_n1, I3_n2, m2m1, ldI_I, ldJ_I, ldZ_I, stI_I, stJ_I, true_or, or_true, false_or, or_false, true_and, and_true, false_and, and_false, not_true_eq_false, not_false_eq_true, reduceCtorEq, Nat.reduceEqDiff, Nat.lt_irrefl, Nat.not_lt_zero, Nat.le_refl, Nat.reduceLT, Nat.reduceLeDiff, eq_self, zbbI, bbI0, bbI1, decide_eq_false_iff_not, decide_eq_true_eq, Bool.not_eq_false, Bool.not_eq_true, Bool.not_true, Bool.not_false, cond_true, cond_false, C_allows_o wK cK (b2 f) (x := I3 a) (y := y) (Or.inr (Or.inr (Or.inl hj)))]
      · simp (disch := omega) only [F_469_40, F_469_39, F_469_0, F_469, ↓reduceIte, if_true, if_false, ite_self, Option.bind_some, Option.map_some, wI_rd, wJ_rd, wI_2, wJ_1, wJ_22, I3_lit, I3_add, I3_mul, I3_lt, I3_le, I3_inj, I3_nn', I3_n1, I3_n2, m2m1, ldI_I, ldJ_I, ldZ_I, stI_I, stJ_I, true_or, or_true, false_or, or_false, true_and, and_true, false_and, and_false, not_true_eq_false, not_false_eq_true, reduceCtorEq, Nat.reduceEqDiff, Nat.lt_irrefl, Nat.not_lt_zero, Nat.le_refl, Nat.reduceLT, Nat.reduceLeDiff, eq_self, zbbI, bbI0, bbI1, decide_eq_false_iff_not, decide_eq_true_eq, Bool.not_eq_false, Bool.not_eq_true, Bool.not_true, Bool.not_false, cond_true, cond_false, K1, K2, hi, hj]
  · refine ⟨0, h, h, ?_, ?_, I⟩
    · simp (disch := omega) only [F_287_0, F_287, ↓reduceIte, if_true, if_false, ite_self, Option.bind_some, Option.map_some, wI_rd, wJ_rd, wI_2, wJ_1, wJ_22, I3_lit, I3_add, I3_mul, I3_lt, I3_le, I3_inj, I3_nn', I3_n1, I3_n2, m2m1, ldI_I, ldJ_I, ldZ_I, stI_I, stJ_I, true_or, or_true, false_or, or_false, true_and, and_true, false_and, and_false, not_true_eq_false, not_false_eq_true, reduceCtorEq, Nat.reduceEqDiff, Nat.lt_irrefl, Nat.not_lt_zero, Nat.le_refl, Nat.reduceLT, Nat.reduceLeDiff, eq_self, zbbI, bbI0, bbI1, decide_eq_false_iff_not, decide_eq_true_eq, Bool.not_eq_false, Bool.not_eq_true, Bool.not_true, Bool.not_false, cond_true, cond_false, C_allows_o wK cK (b2 f) (x := x) (y := y) (Or.inl hi)]
    · simp (disch := omega) only [F_469_40, F_469_39, F_469_0, F_469, ↓reduceIte, if_true, if_false, ite_self, Option.bind_some, Option.map_some, wI_rd, wJ_rd, wI_2, wJ_1, wJ_22, I3_lit, I3_add, I3_mul, I3_lt, I3_le, I3_inj, I3_nn', I3_n1, I3_n2, m2m1, ldI_I, ldJ_I, ldZ_I, stI_I, stJ_I, true_or, or_true, false_or, or_false, true_and, and_true, false_and, and_false, not_true_eq_false, not_false_eq_true, reduceCtorEq, Nat.reduceEqDiff, Nat.lt_irrefl, Nat.not_lt_zero, Nat.le_refl, Nat.reduceLT, Nat.reduceLeDiff, eq_self, zbbI, bbI0, bbI1, decide_eq_false_iff_not, decide_eq_true_eq, Bool.not_eq_false, Bool.not_eq_true, Bool.not_true, Bool.not_false, cond_true, cond_false, K1, hi]
def wA (h : sm_H) (a : Nat) (f : Nat → Int32) : sm_H := (va_up h.1 a f, h.2)
theorem wA_rd (h : sm_H) (a : Nat) (f : Nat → Int32) (b j : Nat) : (wA h a f).1 b j = if b = a then f j else h.1 b j := by
  unfold wA va_up
  show (if b = a then f else h.1 b) j = _
  split <;> rfl
theorem wA_2 (h : sm_H) (a : Nat) (f : Nat → Int32) : (wA h a f).2 = h.2 := rfl
theorem wA_wI (h : sm_H) (a : Nat) (f : Nat → Int32) (k : Nat) (x : Int32) : sm_wI (wA h a f) a k x = wA h a (fun i => if i = k then x else f i) := by
  unfold sm_wI wA va_up upd
  congr 1
  funext b
  show (if b = a then _ else (if b = a then f else h.1 b)) = (if b = a then _ else h.1 b)
  by_cases c : b = a
  · simp [c]
  · simp [c]
theorem wA_self (h : sm_H) (a : Nat) : wA h a (h.1 a) = h := by
  unfold wA va_up
  refine Prod.ext ?_ rfl
  funext b
  show (if b = a then h.1 a else h.1 b) = h.1 b
  by_cases c : b = a
  · rw [if_pos c, c]
  · rw [if_neg c]
theorem hi_wA {h h1 : sm_H} {a : Nat} {f : Nat → Int32} (e : hiEq h h1) (ha : a < 131) : hiEq h (wA h1 a f) := by
  refine hi_trans e ⟨fun b hb => ⟨?_, rfl⟩, rfl⟩
  show (if b = a then _ else h1.1 b) = _
  rw [if_neg (by omega)]
def rowF (f : Nat → Int32) (t p k : Nat) : Nat → Int32 := fun i => if t * 32 ≤ i ∧ i < t * 32 + k then f (p * 32 + (i - t * 32)) else f i
theorem C_copy {h g : sm_H} (cK : cK h g) {t p : Nat} (ht : t < 32) (hp : p < 20 + nC g) (hpt : p < t) (x y : Int32) (ex : x = I3 p) : ∀ (k : Nat), k ≤ 32 → ∀ f, 40 < f + k → lp F_52_39B f (x, y, I3 t, I3 k, wA h 2 (rowF (h.1 2) t p k)) = some (I3 t, sm_wI (sm_wI (sm_wI (wA h 2 (fun i => if i = t * 32 + t then I3 1 else rowF (h.1 2) t p 32 i)) 3 t x) 4 t y) 1 3 (h.1 1 3 + I3 1)) := by
  intro k hk
  induction hd : 32 - k generalizing k with
  | zero =>
    intro f hf
    have e : k = 32 := by omega
    subst e
    obtain ⟨f, rfl⟩ : ∃ q, f = q + 1 := ⟨f - 1, by omega⟩
    refine lp_0 ?_
    have z1 : stZ (wA h 2 (rowF (h.1 2) t p 32)) 2 1024 (I3 (t * 32 + t)) (I3 1) = some (wA h 2 (fun i => if i = t * 32 + t then I3 1 else rowF (h.1 2) t p 32 i)) := by
      rw [stZ_1 (by omega) (by omega), wA_wI]
    simp (disch := omega) only [↓reduceIte, if_true, if_false, ite_self, Option.bind_some, Option.map_some, wI_rd, wJ_rd, wI_2, wJ_1, wJ_22, I3_lit, I3_add, I3_mul, I3_lt, I3_le, I3_inj, I3_nn', I3_n1, I3_n2, m2m1, ldI_I, ldJ_I, ldZ_I, stI_I, stJ_I, true_or, or_true, false_or, or_false, true_and, and_true, false_and, and_false, not_true_eq_false, not_false_eq_true, reduceCtorEq, Nat.reduceEqDiff, Nat.lt_irrefl, Nat.not_lt_zero, Nat.le_refl, Nat.reduceLT, Nat.reduceLeDiff, eq_self, zbbI, bbI0, bbI1, decide_eq_false_iff_not, decide_eq_true_eq, Bool.not_eq_false, Bool.not_eq_true, Bool.not_true, Bool.not_false, cond_true, cond_false, F_52_39B, z1, wA_rd, wA_2]
  | succ d ih =>
    intro f hf
    obtain ⟨f, rfl⟩ : ∃ q, f = q + 1 := ⟨f - 1, by omega⟩
    refine (lp_1 (s' := (x, y, I3 t, I3 (k + 1), wA h 2 (rowF (h.1 2) t p (k + 1)))) ?_).trans (ih (k + 1) (by omega) (by omega) f (by omega))
    have v : rowF (h.1 2) t p k (p * 32 + k) = b2 (B g p k) := by
      unfold rowF
      rw [if_neg (by omega)]
      exact cK.2.2 p k hp (by omega)
    have z1 : stZ (wA h 2 (rowF (h.1 2) t p k)) 2 1024 (I3 (t * 32 + k)) (b2 (B g p k)) = some (wA h 2 (rowF (h.1 2) t p (k + 1))) := by
      rw [stZ_I (by omega) (by omega), wA_wI]
      congr 2
      funext i
      unfold rowF
      by_cases c : i = t * 32 + k
      · rw [if_pos c, if_pos (by omega), c, show t * 32 + k - t * 32 = k by omega]
        exact (cK.2.2 p k hp (by omega)).symm
      · rw [if_neg c]
        by_cases c2 : t * 32 ≤ i ∧ i < t * 32 + k
        · rw [if_pos c2, if_pos (by omega)]
        · rw [if_neg c2, if_neg (by omega)]
    have n32 : ¬ 32 ≤ k := by omega
    simp (disch := omega) only [↓reduceIte, if_true, if_false, ite_self, Option.bind_some, Option.map_some, wI_rd, wJ_rd, wI_2, wJ_1, wJ_22, I3_lit, I3_add, I3_mul, I3_lt, I3_le, I3_inj, I3_nn', I3_n1, I3_n2, m2m1, ldI_I, ldJ_I, ldZ_I, stI_I, stJ_I, true_or, or_true, false_or, or_false, true_and, and_true, false_and, and_false, not_true_eq_false, not_false_eq_true, reduceCtorEq, Nat.reduceEqDiff, Nat.lt_irrefl, Nat.not_lt_zero, Nat.le_refl, Nat.reduceLT, Nat.reduceLeDiff, eq_self, zbbI, bbI0, bbI1, decide_eq_false_iff_not, decide_eq_true_eq, Bool.not_eq_false, Bool.not_eq_true, Bool.not_true, Bool.not_false, cond_true, cond_false, F_52_39B, ex, n32, wA_rd, v, z1]
theorem newC_ok {h : sm_H} (y : Int32) (I : I0 h) {p : Nat} (hp : p = 7 ∨ p = 19 ∨ 20 ≤ p ∧ p < 20 + nC h) (hn : nC h < 12) : ∃ v h1 h2, F_52_31 (I3 p) y h = some (v, h1) ∧ F_381_31 (I3 p) y h1 = some (v, h2) ∧ I0 h2 ∧ wfK h1 ∧ h1.1 67 6 = h.1 67 6 := by
  obtain ⟨wK, cK, wT, cT, wH, cH, wM, cM, cR, cP, cG, cO, cV, wX, cX, cXh, cU, cY, cF, cZ⟩ := id I
  have c1 := cK.1
  have k1 := wK.1
  have CP := C_copy cK (t := 20 + nC h) (p := p) (by omega) (by omega) (by omega) (I3 p) y rfl 0 (by omega) 1000000 (by omega)
  have w0 : wA h 2 (rowF (h.1 2) (20 + nC h) p 0) = h := by
    have : rowF (h.1 2) (20 + nC h) p 0 = h.1 2 := by
      funext i; unfold rowF; rw [if_neg (by omega)]
    rw [this, wA_self]
  rw [w0, c1, I3_add] at CP
  generalize hF : (fun i => if i = (20 + nC h) * 32 + (20 + nC h) then I3 1 else rowF (h.1 2) (20 + nC h) p 32 i) = F at CP
  generalize hn1 : nC h = n at CP hn hp k1 c1
  have nCh : tn (h.1 67 6) = n := hn1
  generalize e1 : sm_wI (sm_wI (sm_wI (wA h 2 F) 3 (20 + n) (I3 p)) 4 (20 + n) y) 1 3 (I3 (20 + n + 1)) = h1 at CP
  have rd : ∀ b j, h1.1 b j = if b = 1 ∧ j = 3 then I3 (20 + n + 1) else if b = 4 ∧ j = 20 + n then y else if b = 3 ∧ j = 20 + n then I3 p else if b = 2 then F j else h.1 b j := by
    intro b j; rw [← e1, wI_rd, wI_rd, wI_rd, wA_rd]
  have k2 : h1.1 67 6 = I3 n := by rw [rd]; exact k1
  refine ⟨I3 (20 + n), h1, sm_wI (sm_wI (sm_wI h1 70 n (I3 p)) 71 n y) 67 6 (I3 (n + 1)), ?_, ?_, ?_, by rw [← e1]; exact wK, by rw [← e1]; rfl⟩
  · simp (disch := omega) only [↓reduceIte, if_true, if_false, ite_self, Option.bind_some, Option.map_some, wI_rd, wJ_rd, wI_2, wJ_1, wJ_22, I3_lit, I3_add, I3_mul, I3_lt, I3_le, I3_inj, I3_nn', I3_n1, I3_n2, m2m1, ldI_I, ldJ_I, ldZ_I, stI_I, stJ_I, true_or, or_true, false_or, or_false, true_and, and_true, false_and, and_false, not_true_eq_false, not_false_eq_true, reduceCtorEq, Nat.reduceEqDiff, Nat.lt_irrefl, Nat.not_lt_zero, Nat.le_refl, Nat.reduceLT, Nat.reduceLeDiff, eq_self, zbbI, bbI0, bbI1, decide_eq_false_iff_not, decide_eq_true_eq, Bool.not_eq_false, Bool.not_eq_true, Bool.not_true, Bool.not_false, cond_true, cond_false, F_52_31, F_52_39, c1, CP]
  · simp (disch := omega) only [↓reduceIte, if_true, if_false, ite_self, Option.bind_some, Option.map_some, wI_rd, wJ_rd, wI_2, wJ_1, wJ_22, I3_lit, I3_add, I3_mul, I3_lt, I3_le, I3_inj, I3_nn', I3_n1, I3_n2, m2m1, ldI_I, ldJ_I, ldZ_I, stI_I, stJ_I, true_or, or_true, false_or, or_false, true_and, and_true, false_and, and_false, not_true_eq_false, not_false_eq_true, reduceCtorEq, Nat.reduceEqDiff, Nat.lt_irrefl, Nat.not_lt_zero, Nat.le_refl, Nat.reduceLT, Nat.reduceLeDiff, eq_self, zbbI, bbI0, bbI1, decide_eq_false_iff_not, decide_eq_true_eq, Bool.not_eq_false, Bool.not_eq_true, Bool.not_true, Bool.not_false, cond_true, cond_false, F_381_31, k2, I3_sub, Nat.add_sub_cancel, show 20 + (n + 1) - 1 = 20 + n by omega]
  · generalize e2 : sm_wI (sm_wI (sm_wI h1 70 n (I3 p)) 71 n y) 67 6 (I3 (n + 1)) = h2
    have n2 : nC h2 = n + 1 := by rw [← e2]; exact I3_clamp (by omega)
    have r2 : ∀ b j, h2.1 b j = if b = 67 ∧ j = 6 then I3 (n + 1) else if b = 71 ∧ j = n then y else if b = 70 ∧ j = n then I3 p else h1.1 b j := by
      intro b j; rw [← e2, wI_rd, wI_rd, wI_rd]
    have r70 : ∀ c, c < n → h2.1 70 c = h.1 70 c := fun c hc => by rw [r2, rd]; simp [show ¬ c = n by omega]
    have r70n : h2.1 70 n = I3 p := by rw [r2]; simp
    have G : grow h h2 := by
      refine ⟨by rw [n2]; show nC h ≤ _; omega, ?_, ?_, fun t ht => ?_, fun c hc => r70 c (by omega)⟩
      · rw [← e2, ← e1]; exact Nat.le_refl _
      · rw [← e2, ← e1]; exact Nat.le_refl _
      · rw [← e2, ← e1]; rfl
    have wK2 : wfK h2 := by
      refine ⟨by rw [n2, r2]; simp, by omega, fun c hc => ?_⟩
      rw [n2] at hc
      by_cases q : c = n
      · subst q
        have : par h2 c = p := by show tn (h2.1 70 c) = p; rw [r70n]; exact I3_clamp (by omega)
        rw [this, r70n]
        exact ⟨rfl, by omega⟩
      · have ep : par h2 c = par h c := by show tn (h2.1 70 c) = tn (h.1 70 c); rw [r70 c (by omega)]
        rw [ep, r70 c (by omega)]
        exact wK.2.2 c (by show c < nC h; omega)
    have Bo : ∀ x o, x < 20 + n → B h2 x o = B h x o := fun x o hx => bel_grow wK (fun c hc => r70 c (by omega)) 12 x o (by omega)
    have cK2 : g_cK h2 h2 := by
      refine ⟨by rw [n2, r2, rd]; simp; congr 1, fun c hc => ?_, fun a b ha hb => ?_⟩
      · rw [n2] at hc
        by_cases q : c = n
        · subst q; simp only [r2, rd]; simp
        · have z := cK.2.1 c (by omega)
          rw [r2, rd, r2, rd, r2, rd, r2, rd]
          simp [q]
          exact z
      · rw [n2] at ha
        have e3 : h2.1 2 (a * 32 + b) = F (a * 32 + b) := by rw [r2, rd]; simp
        rw [e3, ← hF]
        show (if a * 32 + b = (20 + nC h) * 32 + (20 + nC h) then I3 1 else rowF (h.1 2) (20 + nC h) p 32 (a * 32 + b)) = _
        rw [hn1]
        by_cases q : a = 20 + n
        · subst q
          rw [B_ge20 wK2 (by omega) (by omega), show 20 + n - 20 = n by omega]
          have ep : par h2 n = p := by show tn (h2.1 70 n) = p; rw [r70n]; exact I3_clamp (by omega)
          rw [ep, Bo p b (by omega)]
          by_cases q2 : b = 20 + n
          · rw [if_pos (by omega), q2, Nat.beq_refl]; rfl
          · rw [if_neg (by omega)]
            unfold rowF
            rw [if_pos (by omega), show (20 + n) * 32 + b - (20 + n) * 32 = b by omega, cK.2.2 p b (by omega) hb]
            have : Nat.beq (20 + n) b = false := by
              cases w : Nat.beq (20 + n) b with
              | false => rfl
              | true => have := Nat.eq_of_beq_eq_true w; omega
            rw [this]; rfl
        · rw [if_neg (by omega), Bo a b (by omega)]
          unfold rowF
          rw [if_neg (by omega)]
          exact cK.2.2 a b (by omega) hb
    have L : 19 + nC h ≤ 19 + nC h2 := by omega
    have wT2 : wfT h := wT
    subst e1
    subst e2
    have wF : wfF (sm_wI (sm_wI (sm_wI (sm_wI (sm_wI (sm_wI (wA h 2 F) 3 (20 + n) (I3 p)) 4 (20 + n) y) 1 3 (I3 (20 + n + 1))) 70 n (I3 p)) 71 n y) 67 6 (I3 (n + 1))) := wfF_ext (g1 := sm_wI (sm_wI (sm_wI (sm_wI (sm_wI (sm_wI (wA h 2 F) 3 (20 + n) (I3 p)) 4 (20 + n) y) 1 3 (I3 (20 + n + 1))) 70 n (I3 p)) 71 n y) 67 6 (I3 (n + 1))) (I1_base I) (I1_base I).g ⟨G.1, G.2.2.2.2, Nat.le_refl _, fun _ _ => rfl, ⟨Nat.le_refl _, fun _ _ => ⟨rfl, rfl, fun _ _ => rfl⟩⟩, Nat.le_refl _, fun _ _ => rfl, Nat.le_refl _, fun _ _ => rfl, Nat.le_refl _, ⟨Nat.le_refl _, fun _ _ => ⟨rfl, rfl, rfl, rfl, rfl, rfl⟩⟩⟩ ⟨rfl, fun _ _ => ⟨rfl, rfl, rfl, rfl, rfl⟩, fun _ _ _ _ => rfl⟩ ⟨rfl, fun _ _ => rfl⟩ cZ.2
    refine ⟨wK2, cK2, ⟨wT.1, fun t ht => ⟨cnt_le (wT.2.1 t ht).1 L, (wT.2.1 t ht).2.1, fun k hk => ⟨cnt_le ((wT.2.1 t ht).2.2 k hk).1 L, ((wT.2.1 t ht).2.2 k hk).2⟩⟩, wT.2.2⟩, cT, wH, cH, ⟨wM.1, wM.2.1, fun m hm => ?_⟩, cM, cR, cP, cG, cO, ⟨cV.1, cV.2.1, cV.2.2.1, fun v hv => ?_⟩, ⟨wX.1, fun t ht => ?_, fun m a b c => okV_grow wK G (wX.2.2 m a b c)⟩, cX, cXh_fr (by repeat first | exact hi_rfl | refine hi_wI ?_ (by decide) | refine hi_wJ ?_ (by decide) | refine hi_wA ?_ (by decide)) cXh, ?_, cY, cF, cZ.1, wF⟩
    · obtain ⟨m1, m2, m3, m4, m5⟩ := wM.2.2 m hm
      refine ⟨?_, m2, m3, m4, ?_⟩
      · obtain ⟨c, z1, z2⟩ := m1
        exact ⟨c, by rw [n2]; omega, z2⟩
      · rcases m5 with ⟨z1, z2, z3, z4⟩ | z
        · exact Or.inl ⟨z1, cnt_le z2 L, z3, z4⟩
        · exact Or.inr z
    · obtain ⟨q, z1, z2, z3⟩ := cV.2.2.2 v hv
      exact ⟨q, z1, by rw [n2]; omega, okO_grow G z3⟩
    · obtain ⟨z1, z2⟩ := wX.2.1 t ht
      refine ⟨z1, ?_⟩
      rcases z2 with ⟨k, a1, a2, a3, a4⟩ | ⟨k, a1, a2, a3, a4⟩
      · exact Or.inl ⟨k, a1, a2, a3, fun i hi => okV_grow wK G (a4 i hi)⟩
      · exact Or.inr ⟨k, a1, by rw [n2]; omega, a3, fun m b1 b2 b3 => okV_grow wK G (a4 m b1 b2 b3)⟩
    · obtain ⟨u1, u2, u3, u4, u5, u6, u7⟩ := cU
      refine ⟨u1, u2, u3, u4, u5, ?_, u7⟩
      rcases u6 with z | z | ⟨⟨q, z1, z2, z3⟩, z4⟩
      · exact Or.inl z
      · exact Or.inr (Or.inl z)
      · exact Or.inr (Or.inr ⟨⟨q, z1, by rw [n2]; omega, okO_grow G z3⟩, z4⟩)
theorem op_newClass {h : sm_H} (x y : Int32) (I : I0 h) : ∃ v h1 h2, F_259 x y h = some (v, h1) ∧ F_381 x y h1 = some (v, h2) ∧ I0 h2 := by
  have wK := I.1
  have cK := I.2.1
  have h12 := wK.2.1
  have c1 := cK.1
  have k1 := wK.1
  by_cases full : nC h = 12
  · refine ⟨-1, h, h, ?_, ?_, I⟩
    · simp (disch := omega) only [F_259_0, F_259, F_52_39B, F_52_39, F_52_31, F_52_29, F_52_0, F_52, ↓reduceIte, if_true, if_false, ite_self, Option.bind_some, Option.map_some, wI_rd, wJ_rd, wI_2, wJ_1, wJ_22, I3_lit, I3_add, I3_mul, I3_lt, I3_le, I3_inj, I3_nn', I3_n1, I3_n2, m2m1, ldI_I, ldJ_I, ldZ_I, stI_I, stJ_I, true_or, or_true, false_or, or_false, true_and, and_true, false_and, and_false, not_true_eq_false, not_false_eq_true, reduceCtorEq, Nat.reduceEqDiff, Nat.lt_irrefl, Nat.not_lt_zero, Nat.le_refl, Nat.reduceLT, Nat.reduceLeDiff, eq_self, zbbI, bbI0, bbI1, decide_eq_false_iff_not, decide_eq_true_eq, Bool.not_eq_false, Bool.not_eq_true, Bool.not_true, Bool.not_false, cond_true, cond_false, c1, full]
    · simp (disch := omega) only [F_381_31, F_381_29, F_381_0, F_381, ↓reduceIte, if_true, if_false, ite_self, Option.bind_some, Option.map_some, wI_rd, wJ_rd, wI_2, wJ_1, wJ_22, I3_lit, I3_add, I3_mul, I3_lt, I3_le, I3_inj, I3_nn', I3_n1, I3_n2, m2m1, ldI_I, ldJ_I, ldZ_I, stI_I, stJ_I, true_or, or_true, false_or, or_false, true_and, and_true, false_and, and_false, not_true_eq_false, not_false_eq_true, reduceCtorEq, Nat.reduceEqDiff, Nat.lt_irrefl, Nat.not_lt_zero, Nat.le_refl, Nat.reduceLT, Nat.reduceLeDiff, eq_self, zbbI, bbI0, bbI1, decide_eq_false_iff_not, decide_eq_true_eq, Bool.not_eq_false, Bool.not_eq_true, Bool.not_true, Bool.not_false, cond_true, cond_false, k1, full]
  have n32 : ¬ 32 ≤ 20 + nC h := by omega
  have go : ∀ p, (p = 7 ∨ p = 19 ∨ 20 ≤ p ∧ p < 20 + nC h) → x = I3 p → ∃ v h1 h2, F_259 x y h = some (v, h1) ∧ F_381 x y h1 = some (v, h2) ∧ I0 h2 := by
    intro p hp hx
    subst hx
    obtain ⟨v, h1, h2, e1, e2, e3, e4, e5⟩ := newC_ok y I hp (by omega)
    have e6 : nC h1 = nC h := by show tn (h1.1 67 6) = tn (h.1 67 6); rw [e5]
    refine ⟨v, h1, h2, ?_, ?_, e3⟩
    · show ((F_52_0 (I3 p) y h).bind _) = _
      have : F_52_0 (I3 p) y h = F_52_31 (I3 p) y h := by
        unfold F_52_0
        rw [c1, if_neg (by rw [I3_lit, I3_le (by decide) (by omega)]; exact n32)]
        rcases hp with q | q | q
        · rw [if_pos (by rw [q]; rfl)]
        · rw [if_neg (by rw [q]; decide), if_pos (by rw [q]; rfl)]
        · rw [if_neg (by rw [I3_lit, I3_inj (by omega) (by decide)]; omega), if_neg (by rw [I3_lit, I3_inj (by omega) (by decide)]; omega), C_isC wK cK (by omega)]
          rw [decide_eq_true q]; rfl
      rw [this, e1]; rfl
    · show F_381_0 (I3 p) y h1 = _
      unfold F_381_0
      rw [e5, k1, if_neg (by rw [I3_lit, I3_inj (by omega) (by decide)]; exact full)]
      rcases hp with q | q | q
      · rw [if_pos (by rw [q]; rfl)]; exact e2
      · rw [if_neg (by rw [q]; decide), if_pos (by rw [q]; rfl)]; exact e2
      · rw [if_neg (by rw [I3_lit, I3_inj (by omega) (by decide)]; omega), if_neg (by rw [I3_lit, I3_inj (by omega) (by decide)]; omega), R_isC e4 (by omega), e6]
        rw [decide_eq_true q]; exact e2
  rcases I3_cases x with ⟨p, hp, rfl⟩ | hx
  · by_cases q : p = 7 ∨ p = 19 ∨ 20 ≤ p ∧ p < 20 + nC h
    · exact go p q rfl
    · refine ⟨-1, h, h, ?_, ?_, I⟩
      · simp (disch := omega) only [F_259_0, F_259, F_52_39B, F_52_39, F_52_31, F_52_29, F_52_0, F_52, ↓reduceIte, if_true, if_false, ite_self, Option.bind_some, Option.map_some, wI_rd, wJ_rd, wI_2, wJ_1, wJ_22, I3_lit, I3_add, I3_mul, I3_lt, I3_le, I3_inj, I3_nn', I3_n1, I3_n2, m2m1, ldI_I, ldJ_I, ldZ_I, stI_I, stJ_I, true_or, or_true, false_or, or_false, true_and, and_true, false_and, and_false, not_true_eq_false, not_false_eq_true, reduceCtorEq, Nat.reduceEqDiff, Nat.lt_irrefl, Nat.not_lt_zero, Nat.le_refl, Nat.reduceLT, Nat.reduceLeDiff, eq_self, zbbI, bbI0, bbI1, decide_eq_false_iff_not, decide_eq_true_eq, Bool.not_eq_false, Bool.not_eq_true, Bool.not_true, Bool.not_false, cond_true, cond_false, c1, n32, show ¬ p = 7 by omega, show ¬ p = 19 by omega, C_isC wK cK, show ¬ (20 ≤ p ∧ p < 20 + nC h) by omega, decide_false]
      · simp (disch := omega) only [F_381_31, F_381_29, F_381_0, F_381, ↓reduceIte, if_true, if_false, ite_self, Option.bind_some, Option.map_some, wI_rd, wJ_rd, wI_2, wJ_1, wJ_22, I3_lit, I3_add, I3_mul, I3_lt, I3_le, I3_inj, I3_nn', I3_n1, I3_n2, m2m1, ldI_I, ldJ_I, ldZ_I, stI_I, stJ_I, true_or, or_true, false_or, or_false, true_and, and_true, false_and, and_false, not_true_eq_false, not_false_eq_true, reduceCtorEq, Nat.reduceEqDiff, Nat.lt_irrefl, Nat.not_lt_zero, Nat.le_refl, Nat.reduceLT, Nat.reduceLeDiff, eq_self, zbbI, bbI0, bbI1, decide_eq_false_iff_not, decide_eq_true_eq, Bool.not_eq_false, Bool.not_eq_true, Bool.not_true, Bool.not_false, cond_true, cond_false, k1, full, show ¬ p = 7 by omega, show ¬ p = 19 by omega, R_isC wK, show ¬ (20 ≤ p ∧ p < 20 + nC h) by omega, decide_false]
  · have ne : ∀ k : Nat, k < 2147483648 → (x = I3 k) = False := fun k hk => eq_false (neg_ne_I3 hx hk)
    refine ⟨-1, h, h, ?_, ?_, I⟩
    · simp (disch := omega) only [F_259_0, F_259, F_52_39B, F_52_39, F_52_31, F_52_29, F_52_0, F_52, ↓reduceIte, if_true, if_false, ite_self, Option.bind_some, Option.map_some, wI_rd, wJ_rd, wI_2, wJ_1, wJ_22, I3_lit, I3_add, I3_mul, I3_lt, I3_le, I3_inj, I3_nn', I3_n1, I3_n2, m2m1, ldI_I, ldJ_I, ldZ_I, stI_I, stJ_I, true_or, or_true, false_or, or_false, true_and, and_true, false_and, and_false, not_true_eq_false, not_false_eq_true, reduceCtorEq, Nat.reduceEqDiff, Nat.lt_irrefl, Nat.not_lt_zero, Nat.le_refl, Nat.reduceLT, Nat.reduceLeDiff, eq_self, zbbI, bbI0, bbI1, decide_eq_false_iff_not, decide_eq_true_eq, Bool.not_eq_false, Bool.not_eq_true, Bool.not_true, Bool.not_false, cond_true, cond_false, c1, n32, ne, C_isC_n hx]
    · simp (disch := omega) only [F_381_31, F_381_29, F_381_0, F_381, ↓reduceIte, if_true, if_false, ite_self, Option.bind_some, Option.map_some, wI_rd, wJ_rd, wI_2, wJ_1, wJ_22, I3_lit, I3_add, I3_mul, I3_lt, I3_le, I3_inj, I3_nn', I3_n1, I3_n2, m2m1, ldI_I, ldJ_I, ldZ_I, stI_I, stJ_I, true_or, or_true, false_or, or_false, true_and, and_true, false_and, and_false, not_true_eq_false, not_false_eq_true, reduceCtorEq, Nat.reduceEqDiff, Nat.lt_irrefl, Nat.not_lt_zero, Nat.le_refl, Nat.reduceLT, Nat.reduceLeDiff, eq_self, zbbI, bbI0, bbI1, decide_eq_false_iff_not, decide_eq_true_eq, Bool.not_eq_false, Bool.not_eq_true, Bool.not_true, Bool.not_false, cond_true, cond_false, k1, full, ne, R_isC_n hx]
