theorem op_result {h : sm_H} (I : I0 h) : ∃ v h1 h2, F_278 h = some (v, h1) ∧ F_407 h1 = some (v, h2) ∧ I0 h2 := by
  obtain ⟨wK, cK, wT, cT, wH, cH, wM, cM, cR, cP, cG, cO, cV, wX, cX, cXh, cU, cY, cF, cZ⟩ := id I
  have h12 := wK.2.1
  obtain ⟨u1, u2, u3, u4, u5, u6, u7⟩ := cU
  have b7 : tn (h.1 67 70) < 2147483648 := by
    have := b32 (h.1 67 70)
    unfold tn; unfold Int32.toNatClampNeg; omega
  have RR := R_ref (g := h) (a := tn (h.1 67 70)) b7
  have key : ∃ q, h.1 67 71 = I3 q ∧ q < 20 + nC h ∧ (okO h q (h.2.1 67 72) ∨ q = 0) ∧ (tn (h.1 67 70) < 7 → q = 0) := by
    rcases u6 with ⟨z, z2⟩ | ⟨z, z2⟩ | ⟨⟨q, z1, z2, z3⟩, z4, z5⟩
    · exact ⟨0, z, by omega, Or.inr rfl, fun _ => rfl⟩
    · exact ⟨0, z, by omega, Or.inr rfl, fun _ => rfl⟩
    · exact ⟨q, z1, z2, Or.inl z3, fun z => by omega⟩
  obtain ⟨q, k1, k2, k3, k4⟩ := key
  have CN := C_numberOf wK cK wX cX cXh k2 k3
  have RT := R_toldOf wX (q := q) (by omega) k3
  refine ⟨(if 15 ≤ q ∧ q ≤ 17 then Int32.toInt64 (h.1 97 (tn (Int64.toInt32 (h.2.1 67 72)))) else if 20 ≤ q then 0 else h.2.1 67 72), h, h, ?_, ?_, I⟩
  rotate_left
  · show F_407_0 h = _
    unfold F_407_0
    rw [u7, RR]
    by_cases c : 7 ≤ tn (h.1 67 70)
    · rw [decide_eq_true c]
      show (F_407_19 (h.1 67 71) h) = _
      unfold F_407_19
      rw [k1, RT]; rfl
    · have q0 := k4 (by omega)
      rw [decide_eq_false c]
      show (F_407_19 0 h) = _
      unfold F_407_19
      rw [show (0 : Int32) = I3 q by rw [q0]; rfl, RT]; rfl
  · show F_278_0 h = _
    have e1 : F_70 h = some (h.2.1 67 72, h) := by show some (h.2.1 49 9, h) = _; rw [u5]
    have e2 : F_71 h = some (I3 q, h) := by show some (h.1 49 10, h) = _; rw [u4, k1]
    unfold F_278_0
    rw [e1]
    simp only [Option.bind_some]
    rw [e2]
    simp only [Option.bind_some]
    rw [CN]; rfl
theorem op_keep {h : sm_H} (I : I0 h) : ∃ v h1 h2, F_279 h = some (v, h1) ∧ F_408 h1 = some (v, h2) ∧ I0 h2 := by
  obtain ⟨wK, cK, wT, cT, wH, cH, wM, cM, cR, cP, cG, cO, cV, wX, cX, cXh, cU, cY, cF, cZ⟩ := id I
  have h12 := wK.2.1
  obtain ⟨u1, u2, u3, u4, u5, u6, u7⟩ := id cU
  have e1 : F_70 h = some (h.2.1 67 72, h) := by show some (h.2.1 49 9, h) = _; rw [u5]
  have e2 : F_71 h = some (h.1 67 71, h) := by show some (h.1 49 10, h) = _; rw [u4]
  have e3 : F_279 h = ((F_149 (h.2.1 67 72) (h.1 67 71) h).bind fun q3 => some (q3.1, q3.2)) := by
    show F_279_0 h = _
    unfold F_279_0
    rw [e1]
    simp only [Option.bind_some]
    rw [e2]
    simp only [Option.bind_some]
  by_cases z0 : h.1 67 71 = 0
  · refine ⟨-1, h, h, ?_, ?_, I⟩
    · rw [e3, z0]; rfl
    · show F_408_0 h = _
      unfold F_408_0 F_408_32
      rw [if_pos z0]
      (repeat' split) <;> rfl
  · have k := u6.resolve_left (fun z => z0 z.1)
    have k := k.resolve_left (fun z => z0 z.1)
    obtain ⟨⟨q, k1, k2, k3⟩, k4, -⟩ := k
    obtain ⟨v1, ⟨v2, v3⟩, v4, v5⟩ := cV
    have v5 : ∀ v, v < tn (h.1 67 40) → ∃ q, h.1 94 v = I3 q ∧ q < 20 + nC h ∧ okO h q (h.2.1 95 v) := v5
    generalize hn : tn (h.1 67 40) = n at v2 v3 v5
    have n1 : ¬ h.1 67 69 = -1 := by rcases k4 with z | z <;> rw [z] <;> decide
    have n2 : ¬ (1 : Int32) < h.1 67 69 := by rcases k4 with z | z <;> rw [z] <;> decide
    by_cases c : n = 100
    · refine ⟨-1, h, h, ?_, ?_, I⟩
      · rw [e3]
        show ((F_149_0 _ _ h).bind _) = _
        unfold F_149_0 F_149_13
        rw [if_neg z0, v1, v2, if_neg (by rw [c]; decide)]; rfl
      · show F_408_0 h = _
        unfold F_408_0 F_408_32
        rw [if_neg n1, if_neg n2, if_neg z0, v2, if_pos (by rw [c]; rfl)]
    · have q0 : ¬ q = 0 := fun z => z0 (by rw [k1, z]; rfl)
      have hn' : nV h = n := hn
      have wF : wfF (sm_wI (sm_wJ (sm_wI (sm_wI (sm_wI (sm_wJ h 30 n (h.2.1 67 72)) 31 n (I3 q)) 21 6 (I3 (n + 1))) 94 n (I3 q)) 95 n (h.2.1 67 72)) 67 40 (I3 (n + 1))) := by
        refine wfF_ext (g1 := sm_wI (sm_wJ (sm_wI (sm_wI (sm_wI (sm_wJ h 30 n (h.2.1 67 72)) 31 n (I3 q)) 21 6 (I3 (n + 1))) 94 n (I3 q)) 95 n (h.2.1 67 72)) 67 40 (I3 (n + 1))) (I1_base I) (I1_base I).g ⟨Nat.le_refl _, fun _ _ => rfl, ?_, fun k hk => if_neg (by omega), ⟨Nat.le_refl _, fun _ _ => ⟨rfl, rfl, fun _ _ => rfl⟩⟩, Nat.le_refl _, fun _ _ => rfl, Nat.le_refl _, fun _ _ => rfl, Nat.le_refl _, ⟨Nat.le_refl _, fun _ _ => ⟨rfl, rfl, rfl, rfl, rfl, rfl⟩⟩⟩ ⟨rfl, fun _ _ => ⟨rfl, rfl, rfl, rfl, rfl⟩, fun _ _ _ _ => rfl⟩ ⟨rfl, fun _ _ => rfl⟩ cZ.2
        show nV h ≤ (I3 (n + 1)).toNatClampNeg
        rw [I3_clamp (by omega)]; omega
      refine ⟨I3 n, sm_wI (sm_wI (sm_wJ h 30 n (h.2.1 67 72)) 31 n (I3 q)) 21 6 (I3 (n + 1)), sm_wI (sm_wJ (sm_wI (sm_wI (sm_wI (sm_wJ h 30 n (h.2.1 67 72)) 31 n (I3 q)) 21 6 (I3 (n + 1))) 94 n (I3 q)) 95 n (h.2.1 67 72)) 67 40 (I3 (n + 1)), ?_, ?_, wK, cK, wT, cT, wH, cH, wM, cM, cR, cP, cG, cO, ⟨rfl, cnt_up (by omega) (by decide), fun k hk => ?_, fun k hk => ?_⟩, wX, cX, cXh_fr (by repeat first | exact hi_rfl | refine hi_wI ?_ (by decide) | refine hi_wJ ?_ (by decide)) cXh, cU, cY, cF, cZ.1, wF⟩
      · rw [e3]
        have T := C_thchg (th29 h) (k := n) (by omega) (h.2.1 67 72) (I3 q)
        simp (disch := omega) only [F_149_13, F_149_0, F_149, ↓reduceIte, if_true, if_false, ite_self, Option.bind_some, Option.map_some, wI_rd, wJ_rd, wI_2, wJ_1, wJ_22, I3_lit, I3_add, I3_mul, I3_lt, I3_le, I3_inj, I3_nn', I3_n1, I3_n2, m2m1, ldI_I, ldJ_I, ldZ_I, stI_I, stJ_I, true_or, or_true, false_or, or_false, true_and, and_true, false_and, and_false, not_true_eq_false, not_false_eq_true, reduceCtorEq, Nat.reduceEqDiff, Nat.lt_irrefl, Nat.not_lt_zero, Nat.le_refl, Nat.reduceLT, Nat.reduceLeDiff, eq_self, zbbI, bbI0, bbI1, decide_eq_false_iff_not, decide_eq_true_eq, Bool.not_eq_false, Bool.not_eq_true, Bool.not_true, Bool.not_false, cond_true, cond_false, k1, q0, v1, v2, show n < 100 by omega, T, I3_sub, Nat.add_sub_cancel]
      · have n1' : (h.1 67 69 = -I3 1) = False := eq_false n1
        have n2' : (I3 1 < h.1 67 69) = False := eq_false n2
        simp (disch := omega) only [F_408_32, F_408_0, F_408, ↓reduceIte, if_true, if_false, ite_self, Option.bind_some, Option.map_some, wI_rd, wJ_rd, wI_2, wJ_1, wJ_22, I3_lit, I3_add, I3_mul, I3_lt, I3_le, I3_inj, I3_nn', I3_n1, I3_n2, m2m1, ldI_I, ldJ_I, ldZ_I, stI_I, stJ_I, true_or, or_true, false_or, or_false, true_and, and_true, false_and, and_false, not_true_eq_false, not_false_eq_true, reduceCtorEq, Nat.reduceEqDiff, Nat.lt_irrefl, Nat.not_lt_zero, Nat.le_refl, Nat.reduceLT, Nat.reduceLeDiff, eq_self, zbbI, bbI0, bbI1, decide_eq_false_iff_not, decide_eq_true_eq, Bool.not_eq_false, Bool.not_eq_true, Bool.not_true, Bool.not_false, cond_true, cond_false, n1', n2', k1, q0, v2, c, I3_sub, Nat.add_sub_cancel]
      · show (if k = n then I3 q else h.1 31 k) = (if k = n then I3 q else h.1 94 k) ∧ (if k = n then h.2.1 67 72 else h.2.1 30 k) = (if k = n then h.2.1 67 72 else h.2.1 95 k)
        rw [(v4 k hk).1, (v4 k hk).2]
        exact ⟨rfl, rfl⟩
      · have hk : k < tn (I3 (n + 1)) := hk
        unfold tn at hk
        rw [I3_clamp (by omega)] at hk
        show ∃ q', (if k = n then I3 q else h.1 94 k) = I3 q' ∧ q' < 20 + nC h ∧ okO h q' (if k = n then h.2.1 67 72 else h.2.1 95 k)
        by_cases z : k = n
        · rw [if_pos z, if_pos z]; exact ⟨q, rfl, k2, k3⟩
        · rw [if_neg z, if_neg z]; exact v5 k (by omega)
theorem C_vtag {h g : sm_H} (cV : cV h g) (x : Int32) : F_151 (Int32.toInt64 x) h = some (bif inR x (nV g) then g.1 94 (tn x) else 0, h) := by
  have v3 : nV g ≤ 100 := cV.2.1.2
  have e1 : h.1 21 6 = I3 (nV g) := cV.1.trans cV.2.1.1
  have e0 : (0 : Int64).toInt = 0 := rfl
  show F_151_0 _ h = _
  unfold F_151_0
  rcases I3_cases x with ⟨k, hk, rfl⟩ | hx
  · rw [if_neg (by rw [cmp_lt, toI64, I3_toInt hk, e0]; omega), e1, inR_I hk]
    by_cases c : k < nV g
    · have T := C_thtag (th29 h) (k := k) (by omega)
      rw [if_neg (by rw [cmp_ge, toI64, toI64, I3_toInt hk, I3_toInt (by omega)]; omega), I3_64 hk, I6_32, T]
      unfold tn
      rw [I3_clamp hk, decide_eq_true c, (cV.2.2.1 k (by omega)).1]; rfl
    · rw [if_pos (by rw [cmp_ge, toI64, toI64, I3_toInt hk, I3_toInt (by omega)]; omega), decide_eq_false c]; rfl
  · rw [if_pos (by rw [cmp_lt, toI64, e0]; exact Int32.lt_iff_toInt_lt.mp hx)]
    rcases inR_c x (nV g) (by omega) with ⟨k, h1, h2, h3⟩ | h3
    · exact absurd h2 (neg_ne_I3 hx (by omega))
    · rw [h3]; rfl
theorem C_vnum {h g : sm_H} (cV : cV h g) (x : Int32) : F_150 (Int32.toInt64 x) h = some (bif inR x (nV g) then g.2.1 95 (tn x) else 0, h) := by
  have v3 : nV g ≤ 100 := cV.2.1.2
  have e1 : h.1 21 6 = I3 (nV g) := cV.1.trans cV.2.1.1
  have e0 : (0 : Int64).toInt = 0 := rfl
  show F_150_0 _ h = _
  unfold F_150_0
  rcases I3_cases x with ⟨k, hk, rfl⟩ | hx
  · rw [if_neg (by rw [cmp_lt, toI64, I3_toInt hk, e0]; omega), e1, inR_I hk]
    by_cases c : k < nV g
    · have T := C_thnum (th29 h) (k := k) (by omega)
      rw [if_neg (by rw [cmp_ge, toI64, toI64, I3_toInt hk, I3_toInt (by omega)]; omega), I3_64 hk, I6_32, T]
      unfold tn
      rw [I3_clamp hk, decide_eq_true c, (cV.2.2.1 k (by omega)).2]; rfl
    · rw [if_pos (by rw [cmp_ge, toI64, toI64, I3_toInt hk, I3_toInt (by omega)]; omega), decide_eq_false c]; rfl
  · rw [if_pos (by rw [cmp_lt, toI64, e0]; exact Int32.lt_iff_toInt_lt.mp hx)]
    rcases inR_c x (nV g) (by omega) with ⟨k, h1, h2, h3⟩ | h3
    · exact absurd h2 (neg_ne_I3 hx (by omega))
    · rw [h3]; rfl
theorem op_value {h : sm_H} (x y : Int32) (I : I0 h) : ∃ v h1 h2, F_280 x y h = some (v, h1) ∧ F_409 x y h1 = some (v, h2) ∧ I0 h2 := by
  obtain ⟨wK, cK, wT, cT, wH, cH, wM, cM, cR, cP, cG, cO, cV, wX, cX, cXh, cU, cY, cF, cZ⟩ := id I
  have h12 := wK.2.1
  have v3 : nV h ≤ 100 := cV.2.1.2
  have v2 : h.1 67 40 = I3 (nV h) := cV.2.1.1
  have VT := C_vtag cV x
  have VN := C_vnum cV x
  have RO := R_outI (h := h) (n := nV h) (by omega) x
  rcases inR_c x (nV h) (by omega) with ⟨a, ha, rfl, hi⟩ | hi
  · obtain ⟨q, k1, k2, k3⟩ := cV.2.2.2 a ha
    have ta : tn (I3 a) = a := I3_clamp (by omega)
    rw [hi, ta, cond_true] at VT VN
    rw [k1] at VT
    have CN := C_numberOf wK cK wX cX cXh k2 (Or.inl k3)
    have RT := R_toldOf wX (q := q) (by omega) (Or.inl k3)
    by_cases y0 : y = 0
    · subst y0
      refine ⟨Int32.toInt64 (I3 q), h, h, ?_, ?_, I⟩
      · simp only [F_280_49, F_280_0, F_280, if_true, VT, Option.bind_some]
      · simp (disch := omega) only [F_409_57, F_409_0, F_409, ↓reduceIte, if_true, if_false, ite_self, Option.bind_some, Option.map_some, wI_rd, wJ_rd, wI_2, wJ_1, wJ_22, I3_lit, I3_add, I3_mul, I3_lt, I3_le, I3_inj, I3_nn', I3_n1, I3_n2, m2m1, ldI_I, ldJ_I, ldZ_I, stI_I, stJ_I, true_or, or_true, false_or, or_false, true_and, and_true, false_and, and_false, not_true_eq_false, not_false_eq_true, reduceCtorEq, Nat.reduceEqDiff, Nat.lt_irrefl, Nat.not_lt_zero, Nat.le_refl, Nat.reduceLT, Nat.reduceLeDiff, eq_self, zbbI, bbI0, bbI1, decide_eq_false_iff_not, decide_eq_true_eq, Bool.not_eq_false, Bool.not_eq_true, Bool.not_true, Bool.not_false, cond_true, cond_false, v2, RO, hi, k1]
    by_cases y1 : y = 1
    · subst y1
      refine ⟨_, h, h, ?_, (?_ : _ = some ((if 15 ≤ q ∧ q ≤ 17 then Int32.toInt64 (h.1 97 (tn (Int64.toInt32 (h.2.1 95 a)))) else if 20 ≤ q then 0 else h.2.1 95 a), h)), I⟩
      · simp only [F_280_49, F_280_0, F_280, if_neg y0, if_true, VT, VN, Option.bind_some, CN]
      · generalize (if 15 ≤ q ∧ q ≤ 17 then Int32.toInt64 (h.1 97 (tn (Int64.toInt32 (h.2.1 95 a)))) else if 20 ≤ q then 0 else h.2.1 95 a) = V at RT
        simp (disch := omega) only [F_409_57, F_409_0, F_409, ↓reduceIte, if_true, if_false, ite_self, Option.bind_some, Option.map_some, wI_rd, wJ_rd, wI_2, wJ_1, wJ_22, I3_lit, I3_add, I3_mul, I3_lt, I3_le, I3_inj, I3_nn', I3_n1, I3_n2, m2m1, ldI_I, ldJ_I, ldZ_I, stI_I, stJ_I, true_or, or_true, false_or, or_false, true_and, and_true, false_and, and_false, not_true_eq_false, not_false_eq_true, reduceCtorEq, Nat.reduceEqDiff, Nat.lt_irrefl, Nat.not_lt_zero, Nat.le_refl, Nat.reduceLT, Nat.reduceLeDiff, eq_self, zbbI, bbI0, bbI1, decide_eq_false_iff_not, decide_eq_true_eq, Bool.not_eq_false, Bool.not_eq_true, Bool.not_true, Bool.not_false, cond_true, cond_false, v2, RO, hi, k1, RT]
    · refine ⟨0, h, h, ?_, ?_, I⟩
      · simp only [F_280_49, F_280_0, F_280, if_neg y0, if_neg y1]
      · have y0' : (y = I3 0) = False := eq_false y0
        have y1' : (y = I3 1) = False := eq_false y1
        simp (disch := omega) only [F_409_57, F_409_0, F_409, ↓reduceIte, if_true, if_false, ite_self, Option.bind_some, Option.map_some, wI_rd, wJ_rd, wI_2, wJ_1, wJ_22, I3_lit, I3_add, I3_mul, I3_lt, I3_le, I3_inj, I3_nn', I3_n1, I3_n2, m2m1, ldI_I, ldJ_I, ldZ_I, stI_I, stJ_I, true_or, or_true, false_or, or_false, true_and, and_true, false_and, and_false, not_true_eq_false, not_false_eq_true, reduceCtorEq, Nat.reduceEqDiff, Nat.lt_irrefl, Nat.not_lt_zero, Nat.le_refl, Nat.reduceLT, Nat.reduceLeDiff, eq_self, zbbI, bbI0, bbI1, decide_eq_false_iff_not, decide_eq_true_eq, Bool.not_eq_false, Bool.not_eq_true, Bool.not_true, Bool.not_false, cond_true, cond_false, v2, RO, hi, k1, y0', y1']
  · rw [hi, cond_false] at VT VN
    refine ⟨0, h, h, ?_, ?_, I⟩
    · have CN := C_numberOf wK cK wX cX cXh (q := 0) (n := 0) (by omega) (Or.inr rfl)
      have CN : F_148 0 0 h = some (0, h) := CN
      by_cases y0 : y = 0
      · simp only [F_280_49, F_280_0, F_280, if_pos y0, VT, Option.bind_some]; rfl
      by_cases y1 : y = 1
      · simp only [F_280_49, F_280_0, F_280, if_neg y0, if_pos y1, VT, VN, Option.bind_some, CN]
      · simp only [F_280_49, F_280_0, F_280, if_neg y0, if_neg y1]
    · simp (disch := omega) only [F_409_57, F_409_0, F_409, ↓reduceIte, if_true, if_false, ite_self, Option.bind_some, Option.map_some, wI_rd, wJ_rd, wI_2, wJ_1, wJ_22, I3_lit, I3_add, I3_mul, I3_lt, I3_le, I3_inj, I3_nn', I3_n1, I3_n2, m2m1, ldI_I, ldJ_I, ldZ_I, stI_I, stJ_I, true_or, or_true, false_or, or_false, true_and, and_true, false_and, and_false, not_true_eq_false, not_false_eq_true, reduceCtorEq, Nat.reduceEqDiff, Nat.lt_irrefl, Nat.not_lt_zero, Nat.le_refl, Nat.reduceLT, Nat.reduceLeDiff, eq_self, zbbI, bbI0, bbI1, decide_eq_false_iff_not, decide_eq_true_eq, Bool.not_eq_false, Bool.not_eq_true, Bool.not_true, Bool.not_false, cond_true, cond_false, v2, RO, hi]
theorem C_elem {h : sm_H} {a : Nat} (h1 : 15 ≤ a) (h2 : a ≤ 17) : F_63 (I3 a) h = some (I3 (a - 10), h) := by
  have CR := C_isRow (h := h) (a := a) (by omega)
  rw [decide_eq_true ⟨h1, h2⟩] at CR
  simp (disch := omega) only [F_63_18, F_63_0, F_63, ↓reduceIte, if_true, if_false, ite_self, Option.bind_some, Option.map_some, wI_rd, wJ_rd, wI_2, wJ_1, wJ_22, I3_lit, I3_add, I3_mul, I3_lt, I3_le, I3_inj, I3_nn', I3_n1, I3_n2, m2m1, ldI_I, ldJ_I, ldZ_I, stI_I, stJ_I, true_or, or_true, false_or, or_false, true_and, and_true, false_and, and_false, not_true_eq_false, not_false_eq_true, reduceCtorEq, Nat.reduceEqDiff, Nat.lt_irrefl, Nat.not_lt_zero, Nat.le_refl, Nat.reduceLT, Nat.reduceLeDiff, eq_self, zbbI, bbI0, bbI1, decide_eq_false_iff_not, decide_eq_true_eq, Bool.not_eq_false, Bool.not_eq_true, Bool.not_true, Bool.not_false, cond_true, cond_false, CR, I3_sub, show a - 15 + 5 = a - 10 by omega]
theorem tag_plain {s : Nat} (h1 : 1 ≤ s) (h2 : s ≤ 6) : tag (I3 s) = 0 := by
  unfold tag
  rw [if_pos ⟨by rw [I3_lit, I3_le (by decide) (by omega)]; omega, by rw [I3_lit, I3_le (by omega) (by decide)]; omega⟩]
theorem tag_ref {s : Nat} (h1 : s = 0 ∨ 7 ≤ s) (hs : s < 2147483648) : tag (I3 s) = I3 s := by
  unfold tag
  rw [if_neg]
  intro z
  rw [I3_lit, I3_le (by decide) hs, I3_lit, I3_le hs (by decide)] at z
  omega
theorem op_element {h : sm_H} (x y z : Int32) (I : I0 h) : ∃ v h1 h2, F_281 x y z h = some (v, h1) ∧ F_410 x y z h1 = some (v, h2) ∧ I0 h2 := by
  obtain ⟨wK, cK, wT, cT, wH, cH, wM, cM, cR, cP, cG, cO, cV, wX, cX, cXh, cU, cY, cF, cZ⟩ := id I
  have h12 := wK.2.1
  have x1 : nX h ≤ 1000 := wX.1.2
  have v3 : nV h ≤ 100 := cV.2.1.2
  have v2 : h.1 67 40 = I3 (nV h) := cV.2.1.1
  have VT := C_vtag cV x
  have VN := C_vnum cV x
  have RO := R_outI (h := h) (n := nV h) (by omega) x
  rcases inR_c x (nV h) (by omega) with ⟨a, ha, rfl, hi⟩ | hi
  · obtain ⟨q, k1, k2, k3⟩ := cV.2.2.2 a ha
    have ta : tn (I3 a) = a := I3_clamp (by omega)
    rw [hi, ta, cond_true] at VT VN
    rw [k1] at VT
    have CR := C_isRow (h := h) (a := q) (by omega)
    have RR := R_isRow (h := h) (a := q) (by omega)
    by_cases cr : 15 ≤ q ∧ q ≤ 17
    · rw [decide_eq_true cr] at CR RR
      rcases k3 with w | ⟨-, t, w2, w3, w4⟩ | w | w
      · omega
      · rw [w3] at VN
        have th := thX wX cXh w2
        have CT := C_thing wX cX cXh w2
        have CHs := C_thhas th y
        have e97 : h.1 97 t = I3 (szX h t) := by
          have := (wX.2.1 t w2).1.1
          unfold szX
          rw [w4]
          unfold tn
          rw [I3_clamp (by omega), if_pos (by omega)]
          exact this
        have s100 := th.2.2.2.2.2.2.2.2.2
        have RO2 := R_outI (h := h) (n := szX h t) (by omega) y
        have l := th.1
        rcases inR_c y (szX h t) (by omega) with ⟨i, hi2, rfl, hj⟩ | hj
        · have TN := C_thnum th hi2
          have TT := C_thtag th hi2
          obtain ⟨d1, d2⟩ := (cXh.2.2 t w2).2.2.2.2.2.2.2.2 i hi2
          rw [d1] at TN
          rw [d2] at TT
          have okE : okV h (q - 10) (h.1 98 (100 * t + i)) (h.2.1 99 (100 * t + i)) := by
            rcases (wX.2.1 t w2).2 with ⟨k, a1, a2, a3, a4⟩ | ⟨k, a1, a2, a3, a4⟩
            · have : k = q := by rw [w4] at a3; exact ((I3_inj (by omega) (by omega)).mp a3).symm
              subst this
              refine a4 i ?_
              unfold szX at hi2
              rw [w4] at hi2
              unfold tn at hi2
              rw [I3_clamp (by omega), if_pos (by omega)] at hi2
              exact hi2
            · have : k = q := by rw [w4] at a3; exact ((I3_inj (by omega) (by omega)).mp a3).symm
              omega
          have ix : 100 * t + i < 100000 := by omega
          obtain ⟨s, es, hs, ho, hp⟩ : ∃ s, h.1 98 (100 * t + i) = I3 s ∧ s < 20 + nC h ∧ (okO h s (h.2.1 99 (100 * t + i)) ∨ s = 0 ∨ (1 ≤ s ∧ s ≤ 6)) ∧ (q ≠ 17 → s = q - 10) ∧ (q = 17 → s = 0 ∨ 7 ≤ s) := by
            rcases okE with ⟨o1, o2, o3, o4⟩ | ⟨o1, o2, o3⟩ | ⟨o1, q', o2, o3, o4, o5⟩
            · exact ⟨q - 10, o3, by omega, Or.inr (Or.inr ⟨o1, o2⟩), fun _ => rfl, fun _ => by omega⟩
            · exact ⟨0, o2, by omega, Or.inr (Or.inl rfl), fun _ => by omega, fun _ => Or.inl rfl⟩
            · refine ⟨q', o2, o3, Or.inl o5, fun _ => by omega, fun _ => Or.inr ?_⟩
              rcases o5 with p | ⟨p, -⟩ | ⟨p, -⟩ | p <;> omega
          rw [es] at TT
          have told : ∃ V, F_148 (h.2.1 99 (100 * t + i)) (tag (I3 s)) h = some (V, h) ∧ F_406 (I3 s) (h.2.1 99 (100 * t + i)) h = some (V, h) := by
            rcases ho with o | o | o
            · have s7 : 7 ≤ s := by rcases o with p | ⟨p, -⟩ | ⟨p, -⟩ | p <;> omega
              rw [tag_ref (Or.inr s7) (by omega)]
              exact ⟨_, C_numberOf wK cK wX cX cXh hs (Or.inl o), R_toldOf wX (by omega) (Or.inl o)⟩
            · subst o
              rw [tag_ref (Or.inl rfl) (by omega)]
              exact ⟨_, C_numberOf wK cK wX cX cXh hs (Or.inr rfl), R_toldOf wX (by omega) (Or.inr rfl)⟩
            · rw [tag_plain o.1 o.2]
              refine ⟨h.2.1 99 (100 * t + i), C_numberOf wK cK wX cX cXh (q := 0) (by omega) (Or.inr rfl), ?_⟩
              have RRs := R_isRow (h := h) (a := s) (by omega)
              rw [decide_eq_false (by omega)] at RRs
              simp (disch := omega) only [F_406_27, F_406_0, F_406, ↓reduceIte, if_true, if_false, ite_self, Option.bind_some, Option.map_some, wI_rd, wJ_rd, wI_2, wJ_1, wJ_22, I3_lit, I3_add, I3_mul, I3_lt, I3_le, I3_inj, I3_nn', I3_n1, I3_n2, m2m1, ldI_I, ldJ_I, ldZ_I, stI_I, stJ_I, true_or, or_true, false_or, or_false, true_and, and_true, false_and, and_false, not_true_eq_false, not_false_eq_true, reduceCtorEq, Nat.reduceEqDiff, Nat.lt_irrefl, Nat.not_lt_zero, Nat.le_refl, Nat.reduceLT, Nat.reduceLeDiff, eq_self, zbbI, bbI0, bbI1, decide_eq_false_iff_not, decide_eq_true_eq, Bool.not_eq_false, Bool.not_eq_true, Bool.not_true, Bool.not_false, cond_true, cond_false, RRs, show s < 20 by omega]
          obtain ⟨V, T1, T2⟩ := told
          have c1 : ¬ (b2 true = 0) := by decide
          have pre : F_281 (I3 a) (I3 i) z h = (if z = 0 then (some (V, h) : Option (Int64 × sm_H)) else if z = 1 then (if I3 q = 17 then ((some (tag (I3 s), h) : Option (Int32 × sm_H)).bind fun q8 => F_281_112 (Int32.toInt64 q8.1) q8.2) else ((F_63 (I3 q) h).bind fun q7 => F_281_112 (Int32.toInt64 q7.1) q7.2)) else some (0, h)) := by
            show F_281_0 (I3 a) (I3 i) z h = _
            unfold F_281_0
            rw [VT]; simp only [Option.bind_some]
            rw [CR]; simp only [Option.bind_some]
            rw [if_neg c1, VN]; simp only [Option.bind_some]
            rw [CT]; simp only [Option.bind_some]
            rw [if_neg (not_not_intro l), CHs, hj]; simp only [Option.bind_some]
            rw [if_neg c1, if_neg (not_not_intro l), TN]; simp only [Option.bind_some]
            rw [if_neg (not_not_intro l), TT]; simp only [Option.bind_some]
            rw [T1]; simp only [Option.bind_some]
            rw [if_neg (not_not_intro l)]
          rw [pre]
          by_cases z0 : z = 0
          · subst z0
            refine ⟨V, h, h, if_pos rfl, ?_, I⟩
            simp (disch := omega) only [F_410_115, F_410_28, F_410_0, F_410, ↓reduceIte, if_true, if_false, ite_self, Option.bind_some, Option.map_some, wI_rd, wJ_rd, wI_2, wJ_1, wJ_22, I3_lit, I3_add, I3_mul, I3_lt, I3_le, I3_inj, I3_nn', I3_n1, I3_n2, m2m1, ldI_I, ldJ_I, ldZ_I, stI_I, stJ_I, true_or, or_true, false_or, or_false, true_and, and_true, false_and, and_false, not_true_eq_false, not_false_eq_true, reduceCtorEq, Nat.reduceEqDiff, Nat.lt_irrefl, Nat.not_lt_zero, Nat.le_refl, Nat.reduceLT, Nat.reduceLeDiff, eq_self, zbbI, bbI0, bbI1, decide_eq_false_iff_not, decide_eq_true_eq, Bool.not_eq_false, Bool.not_eq_true, Bool.not_true, Bool.not_false, cond_true, cond_false, v2, RO, hi, k1, RR, w3, I6_32, e97, RO2, hj, es, T2]
          rw [if_neg z0]
          by_cases z1 : z = 1
          · subst z1
            rw [if_pos rfl]
            refine ⟨Int32.toInt64 (I3 s), h, h, ?_, ?_, I⟩
            · by_cases q17 : q = 17
              · subst q17
                rw [if_pos (by decide : I3 17 = (17:Int32)), tag_ref (hp.2 rfl) (by omega)]
                rfl
              · have es2 := hp.1 q17
                rw [if_neg (by rw [I3_lit, I3_inj (by omega) (by decide)]; exact q17), C_elem cr.1 cr.2, es2]
                rfl
            · simp (disch := omega) only [F_410_115, F_410_28, F_410_0, F_410, ↓reduceIte, if_true, if_false, ite_self, Option.bind_some, Option.map_some, wI_rd, wJ_rd, wI_2, wJ_1, wJ_22, I3_lit, I3_add, I3_mul, I3_lt, I3_le, I3_inj, I3_nn', I3_n1, I3_n2, m2m1, ldI_I, ldJ_I, ldZ_I, stI_I, stJ_I, true_or, or_true, false_or, or_false, true_and, and_true, false_and, and_false, not_true_eq_false, not_false_eq_true, reduceCtorEq, Nat.reduceEqDiff, Nat.lt_irrefl, Nat.not_lt_zero, Nat.le_refl, Nat.reduceLT, Nat.reduceLeDiff, eq_self, zbbI, bbI0, bbI1, decide_eq_false_iff_not, decide_eq_true_eq, Bool.not_eq_false, Bool.not_eq_true, Bool.not_true, Bool.not_false, cond_true, cond_false, v2, RO, hi, k1, RR, w3, I6_32, e97, RO2, hj, es]
          · have z0' : (z = I3 0) = False := eq_false z0
            have z1' : (z = I3 1) = False := eq_false z1
            rw [if_neg z1]
            refine ⟨0, h, h, rfl, ?_, I⟩
            simp (disch := omega) only [F_410_115, F_410_28, F_410_0, F_410, ↓reduceIte, if_true, if_false, ite_self, Option.bind_some, Option.map_some, wI_rd, wJ_rd, wI_2, wJ_1, wJ_22, I3_lit, I3_add, I3_mul, I3_lt, I3_le, I3_inj, I3_nn', I3_n1, I3_n2, m2m1, ldI_I, ldJ_I, ldZ_I, stI_I, stJ_I, true_or, or_true, false_or, or_false, true_and, and_true, false_and, and_false, not_true_eq_false, not_false_eq_true, reduceCtorEq, Nat.reduceEqDiff, Nat.lt_irrefl, Nat.not_lt_zero, Nat.le_refl, Nat.reduceLT, Nat.reduceLeDiff, eq_self, zbbI, bbI0, bbI1, decide_eq_false_iff_not, decide_eq_true_eq, Bool.not_eq_false, Bool.not_eq_true, Bool.not_true, Bool.not_false, cond_true, cond_false, v2, RO, hi, k1, RR, w3, I6_32, e97, RO2, hj, es, z0', z1']
        · refine ⟨0, h, h, ?_, ?_, I⟩
          · show F_281_0 (I3 a) y z h = _
            unfold F_281_0
            have c1 : ¬ (b2 true = 0) := by decide
            rw [VT]; simp only [Option.bind_some]
            rw [CR]; simp only [Option.bind_some]
            rw [if_neg c1, VN]; simp only [Option.bind_some]
            rw [CT]; simp only [Option.bind_some]
            rw [if_neg (not_not_intro l), CHs, hj]; simp only [Option.bind_some]
            rw [if_pos (show (b2 false : Int32) = 0 by decide)]
          · simp (disch := omega) only [F_410_115, F_410_28, F_410_0, F_410, ↓reduceIte, if_true, if_false, ite_self, Option.bind_some, Option.map_some, wI_rd, wJ_rd, wI_2, wJ_1, wJ_22, I3_lit, I3_add, I3_mul, I3_lt, I3_le, I3_inj, I3_nn', I3_n1, I3_n2, m2m1, ldI_I, ldJ_I, ldZ_I, stI_I, stJ_I, true_or, or_true, false_or, or_false, true_and, and_true, false_and, and_false, not_true_eq_false, not_false_eq_true, reduceCtorEq, Nat.reduceEqDiff, Nat.lt_irrefl, Nat.not_lt_zero, Nat.le_refl, Nat.reduceLT, Nat.reduceLeDiff, eq_self, zbbI, bbI0, bbI1, decide_eq_false_iff_not, decide_eq_true_eq, Bool.not_eq_false, Bool.not_eq_true, Bool.not_true, Bool.not_false, cond_true, cond_false, v2, RO, hi, k1, RR, w3, I6_32, e97, RO2, hj]
      · omega
      · omega
    · rw [decide_eq_false cr] at CR RR
      refine ⟨0, h, h, ?_, ?_, I⟩
      · simp (disch := omega) only [F_281_112, F_281_0, F_281, ↓reduceIte, if_true, if_false, ite_self, Option.bind_some, Option.map_some, wI_rd, wJ_rd, wI_2, wJ_1, wJ_22, I3_lit, I3_add, I3_mul, I3_lt, I3_le, I3_inj, I3_nn', I3_n1, I3_n2, m2m1, ldI_I, ldJ_I, ldZ_I, stI_I, stJ_I, true_or, or_true, false_or, or_false, true_and, and_true, false_and, and_false, not_true_eq_false, not_false_eq_true, reduceCtorEq, Nat.reduceEqDiff, Nat.lt_irrefl, Nat.not_lt_zero, Nat.le_refl, Nat.reduceLT, Nat.reduceLeDiff, eq_self, zbbI, bbI0, bbI1, decide_eq_false_iff_not, decide_eq_true_eq, Bool.not_eq_false, Bool.not_eq_true, Bool.not_true, Bool.not_false, cond_true, cond_false, VT, CR]
      · simp (disch := omega) only [F_410_115, F_410_28, F_410_0, F_410, ↓reduceIte, if_true, if_false, ite_self, Option.bind_some, Option.map_some, wI_rd, wJ_rd, wI_2, wJ_1, wJ_22, I3_lit, I3_add, I3_mul, I3_lt, I3_le, I3_inj, I3_nn', I3_n1, I3_n2, m2m1, ldI_I, ldJ_I, ldZ_I, stI_I, stJ_I, true_or, or_true, false_or, or_false, true_and, and_true, false_and, and_false, not_true_eq_false, not_false_eq_true, reduceCtorEq, Nat.reduceEqDiff, Nat.lt_irrefl, Nat.not_lt_zero, Nat.le_refl, Nat.reduceLT, Nat.reduceLeDiff, eq_self, zbbI, bbI0, bbI1, decide_eq_false_iff_not, decide_eq_true_eq, Bool.not_eq_false, Bool.not_eq_true, Bool.not_true, Bool.not_false, cond_true, cond_false, v2, RO, hi, k1, RR]
  · rw [hi, cond_false] at VT VN
    have CR := C_isRow (h := h) (a := 0) (by omega)
    rw [decide_eq_false (by omega)] at CR
    refine ⟨0, h, h, ?_, ?_, I⟩
    · simp (disch := omega) only [F_281_112, F_281_0, F_281, ↓reduceIte, if_true, if_false, ite_self, Option.bind_some, Option.map_some, wI_rd, wJ_rd, wI_2, wJ_1, wJ_22, I3_lit, I3_add, I3_mul, I3_lt, I3_le, I3_inj, I3_nn', I3_n1, I3_n2, m2m1, ldI_I, ldJ_I, ldZ_I, stI_I, stJ_I, true_or, or_true, false_or, or_false, true_and, and_true, false_and, and_false, not_true_eq_false, not_false_eq_true, reduceCtorEq, Nat.reduceEqDiff, Nat.lt_irrefl, Nat.not_lt_zero, Nat.le_refl, Nat.reduceLT, Nat.reduceLeDiff, eq_self, zbbI, bbI0, bbI1, decide_eq_false_iff_not, decide_eq_true_eq, Bool.not_eq_false, Bool.not_eq_true, Bool.not_true, Bool.not_false, cond_true, cond_false, VT, CR]
    · simp (disch := omega) only [F_410_115, F_410_28, F_410_0, F_410, ↓reduceIte, if_true, if_false, ite_self, Option.bind_some, Option.map_some, wI_rd, wJ_rd, wI_2, wJ_1, wJ_22, I3_lit, I3_add, I3_mul, I3_lt, I3_le, I3_inj, I3_nn', I3_n1, I3_n2, m2m1, ldI_I, ldJ_I, ldZ_I, stI_I, stJ_I, true_or, or_true, false_or, or_false, true_and, and_true, false_and, and_false, not_true_eq_false, not_false_eq_true, reduceCtorEq, Nat.reduceEqDiff, Nat.lt_irrefl, Nat.not_lt_zero, Nat.le_refl, Nat.reduceLT, Nat.reduceLeDiff, eq_self, zbbI, bbI0, bbI1, decide_eq_false_iff_not, decide_eq_true_eq, Bool.not_eq_false, Bool.not_eq_true, Bool.not_true, Bool.not_false, cond_true, cond_false, v2, RO, hi]
