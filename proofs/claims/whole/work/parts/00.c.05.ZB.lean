theorem method2 (x1 x2 x3 : Int32) (st : Bool) (x5 : Int32) (h g : sm_H) (I : I1 h g) : ∃ v h1 g1, F_268 x1 x2 x3 (b2 st) x5 h = some (v, h1) ∧ F_391 x1 x2 x3 (b2 st) x5 g = some (v, g1) ∧ I1 h1 g1 ∧ kR h h1 ∧ kC g g1 := by
  obtain ⟨wK, cK, wT, cT, wH, cH, wM, cM, cR, cP, cG, cO, cV, wX, cX, cXh, cU, cY, cF, cZ, wF⟩ := id I
  have h12 := wK.2.1
  have w500 : nH g ≤ 500 := wH.1.2
  have MN := C_misnamed (h := h) x2 x5
  have RN := R_out99 (h := sm_wI g 67 19 0) x2
  have RT := R_out3 (h := sm_wI g 67 19 0) x5
  have CH := C_hasHg wH cH x3
  have RH : F_304 x3 (sm_wI g 67 19 0) = some (b2 (inR x3 (nH g)), sm_wI g 67 19 0) := R_isHg (g := sm_wI g 67 19 0) wH x3
  have ref : ∀ n : Nat, 0 < n → n < 100 → F_115 x1 x2 x3 (b2 st) x5 h = some (-I3 n, h) → F_391 x1 x2 x3 (b2 st) x5 g = some (-1, sm_wI (sm_wI g 67 19 0) 67 19 (I3 n)) → ∃ v h1 g1, F_268 x1 x2 x3 (b2 st) x5 h = some (v, h1) ∧ F_391 x1 x2 x3 (b2 st) x5 g = some (v, g1) ∧ I1 h1 g1 ∧ kR h h1 ∧ kC g g1 := fun n n1 n2 a b => by
    obtain ⟨r1, r2, r3⟩ := refuse2 I n
    refine ⟨-1, _, _, ?_, b, r1, r2, r3⟩
    show F_268_0 x1 x2 x3 (b2 st) x5 h = _
    unfold F_268_0
    rw [a]
    simp only [Option.bind_some]
    rw [C_judgeN n1 (by omega)]; rfl
  rcases isC_c g wK x1 with ⟨c, rfl, c1, c2, c3⟩ | ⟨c2, c3⟩
  · have c2 := c2 h cK
    have c3 := c3 (sm_wI g 67 19 0) wK rfl
    rcases inR_c x3 (nH g) (by omega) with ⟨x, hx, rfl, hi⟩ | hi
    · rw [hi] at CH RH
      have pre1 : F_115 (I3 (20 + c)) x2 (I3 x) (b2 st) x5 h = if b2 (!(inR x2 100 && inR x5 4)) = 0 then (if b2 st = 0 then ((F_46 (I3 x) 0 h).bind fun q17 => if q17.1 = I3 (20 + c) then (F_115_58 (I3 (20 + c)) x2 (I3 x) (b2 st) x5 q17.2) else (some ((-3), q17.2))) else (F_115_58 (I3 (20 + c)) x2 (I3 x) (b2 st) x5 h)) else (some ((-2), h)) := by
        show F_115_0 _ _ _ _ _ h = _
        unfold F_115_0
        rw [c2]; simp only [Option.bind_some]
        rw [if_neg (by decide), CH]; simp only [Option.bind_some]
        rw [if_neg (by decide), MN]; simp only [Option.bind_some]
      have pre2 : F_391 (I3 (20 + c)) x2 (I3 x) (b2 st) x5 g = if b2 (!inR x2 100) = 0 then (if b2 (!inR x5 4) = 0 then (if b2 st = 0 then ((F_305 (I3 x) (sm_wI g 67 19 0)).bind fun q22 => if q22.1 = 0 then (F_391_81 q22.2) else ((F_306 (I3 x) 0 q22.2).bind fun q23 => if q23.1 = I3 (20 + c) then (F_391_87 (I3 (20 + c)) x2 (I3 x) (b2 st) x5 q23.2) else (F_391_81 q23.2))) else (F_391_87 (I3 (20 + c)) x2 (I3 x) (b2 st) x5 (sm_wI g 67 19 0))) else (F_391_52 (sm_wI g 67 19 0))) else (F_391_52 (sm_wI g 67 19 0)) := by
        show F_391_0 _ _ _ _ _ g = _
        unfold F_391_0
        simp only [Option.bind_some]
        rw [c3]; simp only [Option.bind_some]
        rw [if_neg (by decide), RH]; simp only [Option.bind_some]
        rw [if_neg (by decide), RN]; simp only [Option.bind_some]
        rw [RT]; simp only [Option.bind_some]
      cases i2 : inR x2 100 with
      | false =>
        rw [i2] at pre1 pre2
        exact ref 2 (by decide) (by decide) (by rw [pre1]; rfl) (by rw [pre2]; rfl)
      | true =>
        cases i5 : inR x5 4 with
        | false =>
          rw [i2, i5] at pre1 pre2
          exact ref 2 (by decide) (by decide) (by rw [pre1]; rfl) (by rw [pre2]; rfl)
        | true =>
          rw [i2, i5] at pre1 pre2
          rw [if_pos (show b2 (!(true && true)) = 0 by decide)] at pre1
          rw [if_pos (show b2 (!true) = 0 by decide), if_pos (show b2 (!true) = 0 by decide)] at pre2
          have ok : F_115 (I3 (20 + c)) x2 (I3 x) (b2 st) x5 h = F_115_58 (I3 (20 + c)) x2 (I3 x) (b2 st) x5 h → F_391 (I3 (20 + c)) x2 (I3 x) (b2 st) x5 g = F_391_87 (I3 (20 + c)) x2 (I3 x) (b2 st) x5 (sm_wI g 67 19 0) → (st = false → 0 < (hpl g x).length ∧ at0 (hpl g x) 0 = I3 (20 + c)) → ∃ v h1 g1, F_268 (I3 (20 + c)) x2 (I3 x) (b2 st) x5 h = some (v, h1) ∧ F_391 (I3 (20 + c)) x2 (I3 x) (b2 st) x5 g = some (v, g1) ∧ I1 h1 g1 ∧ kR h h1 ∧ kC g g1 := fun e1 e2 p => by
            obtain ⟨v, h1, g1, w, m1, m2, m3, m4, m5, m6⟩ := methodOk I (st := st) (c := c) (x := x) (nm := x2) (rt := x5) c1 hx (cnt_inR (by decide) i2) (cnt_inR (by decide) i5) p
            refine ⟨v, _, g1, ?_, e2.trans m3, m4, m5, m6⟩
            show F_268_0 _ _ _ _ _ h = _
            unfold F_268_0
            rw [e1, m1]; simp only [Option.bind_some]
            rw [m2]; rfl
          cases st with
          | true =>
            rw [if_neg (show ¬ b2 true = 0 by decide)] at pre1 pre2
            exact ok pre1 pre2 (fun z => by cases z)
          | false =>
            rw [if_pos (show b2 false = 0 by decide)] at pre1 pre2
            have ln : (hpl g x).length = tM g (ty g x) := lst_len _ _
            have lt := (wH.2 x hx).2.2.1
            have m10 : tM g (ty g x) ≤ 10 := (wT.2.1 _ lt).2.1.2
            have RM := R_many (g := sm_wI g 67 19 0) wT wH hx
            have RM : F_305 (I3 x) (sm_wI g 67 19 0) = some (I3 (tM g (ty g x)), sm_wI g 67 19 0) := RM
            rw [RM] at pre2; simp only [Option.bind_some] at pre2
            by_cases z : tM g (ty g x) = 0
            · have P := C_place_o wT wH cH (x := 0) hx (by rw [z]; rfl)
              rw [P] at pre1; simp only [Option.bind_some] at pre1
              rw [if_neg (fun q => I3_m1 (a := 20 + c) (by omega) q.symm)] at pre1
              rw [if_pos (by rw [z]; rfl)] at pre2
              exact ref 3 (by decide) (by decide) pre1 pre2
            · have P := C_place wT wH cH (k := 0) hx (by omega)
              have P : F_46 (I3 x) 0 h = some (g.1 74 (10 * ty g x + 0), h) := P
              have RP := R_place (g := sm_wI g 67 19 0) wT wH (k := 0) hx (by show 0 < tM g (ty g x); omega)
              have RP : F_306 (I3 x) 0 (sm_wI g 67 19 0) = some (g.1 74 (10 * ty g x + 0), sm_wI g 67 19 0) := RP
              rw [P] at pre1; simp only [Option.bind_some] at pre1
              rw [if_neg (by rw [I3_lit, I3_inj (by omega) (by decide)]; exact z), RP] at pre2
              simp only [Option.bind_some] at pre2
              by_cases q : g.1 74 (10 * ty g x + 0) = I3 (20 + c)
              · rw [if_pos q] at pre1 pre2
                exact ok pre1 pre2 (fun _ => ⟨by omega, by rw [at0_lst (by omega)]; exact q⟩)
              · rw [if_neg q] at pre1 pre2
                exact ref 3 (by decide) (by decide) pre1 pre2
    · rw [hi] at CH RH
      refine ref 1 (by decide) (by decide) ?_ ?_
      · show F_115_0 _ _ _ _ _ h = _
        unfold F_115_0
        rw [c2]; simp only [Option.bind_some]
        rw [if_neg (by decide), CH]; simp only [Option.bind_some]
        rw [if_pos (by decide)]; rfl
      · show F_391_0 _ _ _ _ _ g = _
        unfold F_391_0
        simp only [Option.bind_some]
        rw [c3]; simp only [Option.bind_some]
        rw [if_neg (by decide), RH]; simp only [Option.bind_some]
        rw [if_pos (by decide)]; rfl
  · have c2 := c2 h cK
    have c3 := c3 (sm_wI g 67 19 0) wK rfl
    refine ref 1 (by decide) (by decide) ?_ ?_
    · show F_115_0 _ _ _ _ _ h = _
      unfold F_115_0
      rw [c2]; simp only [Option.bind_some]
      rw [if_pos trivial]; rfl
    · show F_391_0 _ _ _ _ _ g = _
      unfold F_391_0
      simp only [Option.bind_some]
      rw [c3]; simp only [Option.bind_some]
      rw [if_pos trivial]; rfl
theorem op_method {h : sm_H} (x1 x2 x3 : Int32) (st : Bool) (x5 : Int32) (I : I0 h) : ∃ v h1 h2, F_268 x1 x2 x3 (b2 st) x5 h = some (v, h1) ∧ F_391 x1 x2 x3 (b2 st) x5 h1 = some (v, h2) ∧ I0 h2 := op_of2 (method2 x1 x2 x3 st x5) I
def hP (g : sm_H) (f a b : Int32) (c : Int64) (ps : List Int32) (x : Nat) : Bool := decide (g.1 75 x = f ∧ g.1 77 x = a ∧ g.1 78 x = b ∧ g.2.1 79 x = c ∧ g.1 80 x = I3 ps.length) && all1 (fun k => decide (g.1 81 (24 * x + k) = at0 ps k)) ps.length
def fH (g : sm_H) (f a b : Int32) (c : Int64) (ps : List Int32) : Nat := fst1 (hP g f a b c ps) (nH g)
theorem fH_le (g : sm_H) (f a b : Int32) (c : Int64) (ps : List Int32) : fH g f a b c ps ≤ nH g := (fst1_spec _ _).1
def prR (g : sm_H) (ps : List Int32) : Prop := g.1 67 3 = I3 ps.length ∧ ps.length ≤ 20 ∧ ∀ k, k < ps.length → g.1 69 k = at0 ps k
theorem C_hasParts {h g : sm_H} (wH : wfH0 g) (cH : cH h g) {o p : Nat} (w : isRw o p) {ps : List Int32} (R : hasL h o p ps) {x : Nat} (hx : x < nH g) : F_49 (I3 x) o h = some (b2 (decide (g.1 80 x = I3 ps.length) && all1 (fun k => decide (g.1 81 (24 * x + k) = at0 ps k)) ps.length), h) := by
  have w500 : nH g ≤ 500 := wH.1.2
  have l20 := R.2.1
  have e15 : h.1 15 x = g.1 80 x := (cH.2.1 x (by omega)).2.2.2.2.1
  have p1 := (wH.2 x hx).2.2.2
  show F_49_0 (I3 x) o h = _
  unfold F_49_0
  rw [ldI_I (by omega) (by omega), e15]
  simp only [Option.bind_some]
  rw [if_neg (not_not_intro (w.i h)), C_rsize w R]
  simp only [Option.bind_some]
  by_cases c : g.1 80 x = I3 ps.length
  · rw [if_pos c, decide_eq_true c, Bool.true_and]
    have pmx : pm g x = ps.length := by show tn _ = _; rw [c]; exact I3_clamp (by omega)
    have L := lp_all (body := F_49_17B) (fun k => decide (g.1 81 (24 * x + k) = at0 ps k)) ps.length (fun k => (I3 x, o, I3 k, h)) (0, h) (1, h) (f := 1000000) (by omega) (fun k hk e => ?_) (fun k hk e => ?_) ?_
    · refine Eq.trans L ?_
      cases all1 (fun k => decide (g.1 81 (24 * x + k) = at0 ps k)) ps.length <;> rfl
    · have z := of_decide_eq_true e
      have P := C_part wH cH hx (k := k) (by omega)
      have A := C_rat w R hk
      have S := C_rsize w R
      show F_49_17B (I3 x, o, I3 k, h) = _
      unfold F_49_17B
      rw [if_neg (not_not_intro (w.i h)), S]; simp only [Option.bind_some]
      rw [if_neg (by rw [I3_le (by omega) (by omega)]; omega), P]; simp only [Option.bind_some]
      rw [if_neg (not_not_intro (w.i h)), A]; simp only [Option.bind_some]
      rw [if_pos z, I3_lit, I3_add]
    · have z := of_decide_eq_false e
      have P := C_part wH cH hx (k := k) (by omega)
      have A := C_rat w R hk
      have S := C_rsize w R
      show F_49_17B (I3 x, o, I3 k, h) = _
      unfold F_49_17B
      rw [if_neg (not_not_intro (w.i h)), S]; simp only [Option.bind_some]
      rw [if_neg (by rw [I3_le (by omega) (by omega)]; omega), P]; simp only [Option.bind_some]
      rw [if_neg (not_not_intro (w.i h)), A]; simp only [Option.bind_some]
      rw [if_neg z]
    · have S := C_rsize w R
      show F_49_17B (I3 x, o, I3 ps.length, h) = _
      unfold F_49_17B
      rw [if_neg (not_not_intro (w.i h)), S]; simp only [Option.bind_some]
      rw [if_pos (by rw [I3_le (by omega) (by omega)]; omega)]
  · rw [if_neg c, decide_eq_false c, Bool.false_and]; rfl
theorem C_knownH {h g : sm_H} (wH : wfH0 g) (cH : cH h g) {o p : Nat} (w : isRw o p) {ps : List Int32} (R : hasL h o p ps) (f a b : Int32) (c : Int64) : F_48 f a b c o h = some (orN (fH g f a b c ps < nH g) (fH g f a b c ps), h) := by
  have w500 : nH g ≤ 500 := wH.1.2
  have e4 : h.1 10 11 = I3 (nH g) := cH.1.trans wH.1.1
  have L := lp_fst (body := F_48_3B) (hP g f a b c ps) (nH g) (fun k => (f, a, b, c, o, I3 k, h)) (fun k => (I3 k, h)) (-1, h) (f := 1000000) (by omega) (fun k hk e => ?_) (fun k hk e => ?_) ?_
  · refine Eq.trans L ?_
    show some (if fH g f a b c ps < nH g then (I3 (fH g f a b c ps), h) else (-1, h)) = some (if fH g f a b c ps < nH g then I3 (fH g f a b c ps) else -1, h)
    split <;> rfl
  · obtain ⟨z1, z2, z3, z4, z5, z6⟩ := cH.2.1 k (by omega)
    have D := C_hasParts wH cH w R hk
    unfold hP at e
    by_cases c1 : g.1 75 k = f
    · by_cases c2 : g.1 77 k = a
      · by_cases c3 : g.1 78 k = b
        · by_cases c4 : g.2.1 79 k = c
          · have e' : (decide (g.1 80 k = I3 ps.length) && all1 (fun j => decide (g.1 81 (24 * k + j) = at0 ps j)) ps.length) = false := by
              rw [← e]; congr 1; simp only [c1, c2, c3, c4, true_and]
            rw [e'] at D
            simp (disch := omega) only [↓reduceIte, if_true, if_false, ite_self, Option.bind_some, Option.map_some, wI_rd, wJ_rd, wI_2, wJ_1, wJ_22, I3_lit, I3_add, I3_mul, I3_lt, I3_le, I3_inj, I3_nn', I3_n1, I3_n2, m2m1, ldI_I, ldJ_I, ldZ_I, stI_I, stJ_I, true_or, or_true, false_or, or_false, true_and, and_true, false_and, and_false, not_true_eq_false, not_false_eq_true, reduceCtorEq, Nat.reduceEqDiff, Nat.lt_irrefl, Nat.not_lt_zero, Nat.le_refl, Nat.reduceLT, Nat.reduceLeDiff, eq_self, zbbI, bbI0, bbI1, decide_eq_false_iff_not, decide_eq_true_eq, Bool.not_eq_false, Bool.not_eq_true, Bool.not_true, Bool.not_false, cond_true, cond_false, F_48_3B, F_48_72, e4, show ¬ nH g ≤ k by omega, z1, z2, z3, z4, c1, c2, c3, c4, cmp_eq', D]
          · simp (disch := omega) only [↓reduceIte, if_true, if_false, ite_self, Option.bind_some, Option.map_some, wI_rd, wJ_rd, wI_2, wJ_1, wJ_22, I3_lit, I3_add, I3_mul, I3_lt, I3_le, I3_inj, I3_nn', I3_n1, I3_n2, m2m1, ldI_I, ldJ_I, ldZ_I, stI_I, stJ_I, true_or, or_true, false_or, or_false, true_and, and_true, false_and, and_false, not_true_eq_false, not_false_eq_true, reduceCtorEq, Nat.reduceEqDiff, Nat.lt_irrefl, Nat.not_lt_zero, Nat.le_refl, Nat.reduceLT, Nat.reduceLeDiff, eq_self, zbbI, bbI0, bbI1, decide_eq_false_iff_not, decide_eq_true_eq, Bool.not_eq_false, Bool.not_eq_true, Bool.not_true, Bool.not_false, cond_true, cond_false, F_48_3B, F_48_72, e4, show ¬ nH g ≤ k by omega, z1, z2, z3, z4, c1, c2, c3, c4, cmp_eq']
        · simp (disch := omega) only [↓reduceIte, if_true, if_false, ite_self, Option.bind_some, Option.map_some, wI_rd, wJ_rd, wI_2, wJ_1, wJ_22, I3_lit, I3_add, I3_mul, I3_lt, I3_le, I3_inj, I3_nn', I3_n1, I3_n2, m2m1, ldI_I, ldJ_I, ldZ_I, stI_I, stJ_I, true_or, or_true, false_or, or_false, true_and, and_true, false_and, and_false, not_true_eq_false, not_false_eq_true, reduceCtorEq, Nat.reduceEqDiff, Nat.lt_irrefl, Nat.not_lt_zero, Nat.le_refl, Nat.reduceLT, Nat.reduceLeDiff, eq_self, zbbI, bbI0, bbI1, decide_eq_false_iff_not, decide_eq_true_eq, Bool.not_eq_false, Bool.not_eq_true, Bool.not_true, Bool.not_false, cond_true, cond_false, F_48_3B, F_48_72, e4, show ¬ nH g ≤ k by omega, z1, z2, z3, c1, c2, c3]
      · simp (disch := omega) only [↓reduceIte, if_true, if_false, ite_self, Option.bind_some, Option.map_some, wI_rd, wJ_rd, wI_2, wJ_1, wJ_22, I3_lit, I3_add, I3_mul, I3_lt, I3_le, I3_inj, I3_nn', I3_n1, I3_n2, m2m1, ldI_I, ldJ_I, ldZ_I, stI_I, stJ_I, true_or, or_true, false_or, or_false, true_and, and_true, false_and, and_false, not_true_eq_false, not_false_eq_true, reduceCtorEq, Nat.reduceEqDiff, Nat.lt_irrefl, Nat.not_lt_zero, Nat.le_refl, Nat.reduceLT, Nat.reduceLeDiff, eq_self, zbbI, bbI0, bbI1, decide_eq_false_iff_not, decide_eq_true_eq, Bool.not_eq_false, Bool.not_eq_true, Bool.not_true, Bool.not_false, cond_true, cond_false, F_48_3B, F_48_72, e4, show ¬ nH g ≤ k by omega, z1, z2, c1, c2]
    · simp (disch := omega) only [↓reduceIte, if_true, if_false, ite_self, Option.bind_some, Option.map_some, wI_rd, wJ_rd, wI_2, wJ_1, wJ_22, I3_lit, I3_add, I3_mul, I3_lt, I3_le, I3_inj, I3_nn', I3_n1, I3_n2, m2m1, ldI_I, ldJ_I, ldZ_I, stI_I, stJ_I, true_or, or_true, false_or, or_false, true_and, and_true, false_and, and_false, not_true_eq_false, not_false_eq_true, reduceCtorEq, Nat.reduceEqDiff, Nat.lt_irrefl, Nat.not_lt_zero, Nat.le_refl, Nat.reduceLT, Nat.reduceLeDiff, eq_self, zbbI, bbI0, bbI1, decide_eq_false_iff_not, decide_eq_true_eq, Bool.not_eq_false, Bool.not_eq_true, Bool.not_true, Bool.not_false, cond_true, cond_false, F_48_3B, F_48_72, e4, show ¬ nH g ≤ k by omega, z1, c1]
  · obtain ⟨z1, z2, z3, z4, z5, z6⟩ := cH.2.1 k (by omega)
    have D := C_hasParts wH cH w R hk
    unfold hP at e
    simp only [Bool.and_eq_true, decide_eq_true_eq] at e
    obtain ⟨⟨c1, c2, c3, c4, c5⟩, c6⟩ := e
    rw [c6, decide_eq_true c5] at D
    simp (disch := omega) only [↓reduceIte, if_true, if_false, ite_self, Option.bind_some, Option.map_some, wI_rd, wJ_rd, wI_2, wJ_1, wJ_22, I3_lit, I3_add, I3_mul, I3_lt, I3_le, I3_inj, I3_nn', I3_n1, I3_n2, m2m1, ldI_I, ldJ_I, ldZ_I, stI_I, stJ_I, true_or, or_true, false_or, or_false, true_and, and_true, false_and, and_false, not_true_eq_false, not_false_eq_true, reduceCtorEq, Nat.reduceEqDiff, Nat.lt_irrefl, Nat.not_lt_zero, Nat.le_refl, Nat.reduceLT, Nat.reduceLeDiff, eq_self, zbbI, bbI0, bbI1, decide_eq_false_iff_not, decide_eq_true_eq, Bool.not_eq_false, Bool.not_eq_true, Bool.not_true, Bool.not_false, cond_true, cond_false, F_48_3B, F_48_72, e4, show ¬ nH g ≤ k by omega, z1, z2, z3, z4, c1, c2, c3, c4, cmp_eq', D, Bool.true_and]
  · simp (disch := omega) only [↓reduceIte, if_true, if_false, ite_self, Option.bind_some, Option.map_some, wI_rd, wJ_rd, wI_2, wJ_1, wJ_22, I3_lit, I3_add, I3_mul, I3_lt, I3_le, I3_inj, I3_nn', I3_n1, I3_n2, m2m1, ldI_I, ldJ_I, ldZ_I, stI_I, stJ_I, true_or, or_true, false_or, or_false, true_and, and_true, false_and, and_false, not_true_eq_false, not_false_eq_true, reduceCtorEq, Nat.reduceEqDiff, Nat.lt_irrefl, Nat.not_lt_zero, Nat.le_refl, Nat.reduceLT, Nat.reduceLeDiff, eq_self, zbbI, bbI0, bbI1, decide_eq_false_iff_not, decide_eq_true_eq, Bool.not_eq_false, Bool.not_eq_true, Bool.not_true, Bool.not_false, cond_true, cond_false, F_48_3B, e4]
theorem R_findH1 {g : sm_H} {ps : List Int32} (d : prR g ps) {x : Nat} (hx : x < 500) (f a b : Int32) (c : Int64) (q : Bool) : F_339_82 f a b c (I3 x) (b2 q) 0 g = F_339_132 f a b c (I3 x) (b2 (q && all1 (fun k => decide (g.1 81 (24 * x + k) = at0 ps k)) ps.length)) g := by
  have e3 := d.1
  have l20 := d.2.1
  have fin : ∀ (n k : Nat) (q : Bool), (ps.length ≤ k ∨ q = false) → k ≤ 20 → lp F_339_82B (n + 1) (f, a, b, c, I3 x, b2 q, I3 k, g) = F_339_132 f a b c (I3 x) (b2 q) g := by
    intro n k q hk h20
    have e : F_339_82B (f, a, b, c, I3 x, b2 q, I3 k, g) = (F_339_132 f a b c (I3 x) (b2 q) g).map Sum.inr := by
      by_cases c : ps.length ≤ k
      · simp (disch := omega) only [↓reduceIte, if_true, if_false, ite_self, Option.bind_some, Option.map_some, wI_rd, wJ_rd, wI_2, wJ_1, wJ_22, I3_lit, I3_add, I3_mul, I3_lt, I3_le, I3_inj, I3_nn', I3_n1, I3_n2, m2m1, ldI_I, ldJ_I, ldZ_I, stI_I, stJ_I, true_or, or_true, false_or, or_false, true_and, and_true, false_and, and_false, not_true_eq_false, not_false_eq_true, reduceCtorEq, Nat.reduceEqDiff, Nat.lt_irrefl, Nat.not_lt_zero, Nat.le_refl, Nat.reduceLT, Nat.reduceLeDiff, eq_self, zbbI, bbI0, bbI1, decide_eq_false_iff_not, decide_eq_true_eq, Bool.not_eq_false, Bool.not_eq_true, Bool.not_true, Bool.not_false, cond_true, cond_false, F_339_82B, e3, c]
      · have : q = false := hk.resolve_left c
        subst this
        simp (disch := omega) only [↓reduceIte, if_true, if_false, ite_self, Option.bind_some, Option.map_some, wI_rd, wJ_rd, wI_2, wJ_1, wJ_22, I3_lit, I3_add, I3_mul, I3_lt, I3_le, I3_inj, I3_nn', I3_n1, I3_n2, m2m1, ldI_I, ldJ_I, ldZ_I, stI_I, stJ_I, true_or, or_true, false_or, or_false, true_and, and_true, false_and, and_false, not_true_eq_false, not_false_eq_true, reduceCtorEq, Nat.reduceEqDiff, Nat.lt_irrefl, Nat.not_lt_zero, Nat.le_refl, Nat.reduceLT, Nat.reduceLeDiff, eq_self, zbbI, bbI0, bbI1, decide_eq_false_iff_not, decide_eq_true_eq, Bool.not_eq_false, Bool.not_eq_true, Bool.not_true, Bool.not_false, cond_true, cond_false, F_339_82B, e3, c]
    cases w : F_339_132 f a b c (I3 x) (b2 q) g with
    | none => rw [w] at e; exact lp_n e
    | some r => rw [w] at e; exact lp_0 e
  have key : ∀ (n k : Nat) (q : Bool) (u : Nat), n + k = ps.length → n < u → lp F_339_82B u (f, a, b, c, I3 x, b2 q, I3 k, g) = F_339_132 f a b c (I3 x) (b2 (q && all1 (fun j => decide (g.1 81 (24 * x + (k + j)) = at0 ps (k + j))) n)) g := by
    intro n
    induction n with
    | zero =>
      intro k q u hk hu
      obtain ⟨u, rfl⟩ : ∃ q, u = q + 1 := ⟨u - 1, by omega⟩
      rw [fin u k q (Or.inl (by omega)) (by omega), show all1 (fun j => decide (g.1 81 (24 * x + (k + j)) = at0 ps (k + j))) 0 = true from rfl, Bool.and_true]
    | succ n ih =>
      intro k q u hk hu
      obtain ⟨u, rfl⟩ : ∃ q, u = q + 1 := ⟨u - 1, by omega⟩
      cases q with
      | false => rw [fin u k false (Or.inr rfl) (by omega), Bool.false_and]
      | true =>
        have z2 := d.2.2 k (by omega)
        have : F_339_82B (f, a, b, c, I3 x, b2 true, I3 k, g) = some (.inl (f, a, b, c, I3 x, b2 (decide (g.1 81 (24 * x + k) = at0 ps k)), I3 (k + 1), g)) := by
          by_cases c : g.1 81 (24 * x + k) = at0 ps k
          · rw [decide_eq_true c]
            simp (disch := omega) only [↓reduceIte, if_true, if_false, ite_self, Option.bind_some, Option.map_some, wI_rd, wJ_rd, wI_2, wJ_1, wJ_22, I3_lit, I3_add, I3_mul, I3_lt, I3_le, I3_inj, I3_nn', I3_n1, I3_n2, m2m1, ldI_I, ldJ_I, ldZ_I, stI_I, stJ_I, true_or, or_true, false_or, or_false, true_and, and_true, false_and, and_false, not_true_eq_false, not_false_eq_true, reduceCtorEq, Nat.reduceEqDiff, Nat.lt_irrefl, Nat.not_lt_zero, Nat.le_refl, Nat.reduceLT, Nat.reduceLeDiff, eq_self, zbbI, bbI0, bbI1, decide_eq_false_iff_not, decide_eq_true_eq, Bool.not_eq_false, Bool.not_eq_true, Bool.not_true, Bool.not_false, cond_true, cond_false, F_339_82B, F_339_124, e3, show ¬ ps.length ≤ k by omega, z2, c]; rfl
          · rw [decide_eq_false c]
            simp (disch := omega) only [↓reduceIte, if_true, if_false, ite_self, Option.bind_some, Option.map_some, wI_rd, wJ_rd, wI_2, wJ_1, wJ_22, I3_lit, I3_add, I3_mul, I3_lt, I3_le, I3_inj, I3_nn', I3_n1, I3_n2, m2m1, ldI_I, ldJ_I, ldZ_I, stI_I, stJ_I, true_or, or_true, false_or, or_false, true_and, and_true, false_and, and_false, not_true_eq_false, not_false_eq_true, reduceCtorEq, Nat.reduceEqDiff, Nat.lt_irrefl, Nat.not_lt_zero, Nat.le_refl, Nat.reduceLT, Nat.reduceLeDiff, eq_self, zbbI, bbI0, bbI1, decide_eq_false_iff_not, decide_eq_true_eq, Bool.not_eq_false, Bool.not_eq_true, Bool.not_true, Bool.not_false, cond_true, cond_false, F_339_82B, F_339_124, e3, show ¬ ps.length ≤ k by omega, z2, c]; rfl
        rw [lp_1 this, ih (k + 1) _ u (by omega) (by omega), Bool.true_and]
        congr 2
        rw [Bool.eq_iff_iff]
        simp only [Bool.and_eq_true, all1_iff, decide_eq_true_eq]
        constructor
        · rintro ⟨y1, y2⟩ j hj
          cases j with
          | zero => exact y1
          | succ j => have := y2 j (by omega); rw [show k + 1 + j = k + (j + 1) by omega] at this; exact this
        · intro y
          refine ⟨y 0 (by omega), fun j hj => ?_⟩
          have := y (j + 1) (by omega)
          rw [show k + 1 + j = k + (j + 1) by omega]; exact this
  have := key ps.length 0 q 1000000 (by omega) (by omega)
  simp only [Nat.zero_add] at this
  exact this
theorem R_findH {g : sm_H} (wH : wfH0 g) {ps : List Int32} (d : prR g ps) (f a b : Int32) (c : Int64) : F_339 f a b c g = some (orN (fH g f a b c ps < nH g) (fH g f a b c ps), g) := by
  have w500 : nH g ≤ 500 := wH.1.2
  have e2 : g.1 67 18 = I3 (nH g) := wH.1.1
  have e3 := d.1
  have L := lp_fst (body := F_339_3B) (hP g f a b c ps) (nH g) (fun k => (f, a, b, c, I3 k, g)) (fun k => (I3 k, g)) (-1, g) (f := 1000000) (by omega) (fun k hk e => ?_) (fun k hk e => ?_) ?_
  · refine Eq.trans L ?_
    show some (if fH g f a b c ps < nH g then (I3 (fH g f a b c ps), g) else (-1, g)) = some (if fH g f a b c ps < nH g then I3 (fH g f a b c ps) else -1, g)
    split <;> rfl
  · have D1 := R_findH1 d (x := k) (by omega) f a b c true
    have D0 := R_findH1 d (x := k) (by omega) f a b c false
    rw [Bool.true_and] at D1
    rw [Bool.false_and] at D0
    have D0' : F_339_82 f a b c (I3 k) (I3 0) (I3 0) g = _ := D0
    have D1' : F_339_82 f a b c (I3 k) (I3 1) (I3 0) g = _ := D1
    unfold hP at e
    by_cases c1 : g.1 75 k = f
    · by_cases c2 : g.1 77 k = a
      · by_cases c3 : g.1 78 k = b
        · by_cases c4 : g.2.1 79 k = c
          · by_cases c5 : g.1 80 k = I3 ps.length
            · rw [decide_eq_true ⟨c1, c2, c3, c4, c5⟩, Bool.true_and] at e
              rw [e] at D1'
              simp (disch := omega) only [↓reduceIte, if_true, if_false, ite_self, Option.bind_some, Option.map_some, wI_rd, wJ_rd, wI_2, wJ_1, wJ_22, I3_lit, I3_add, I3_mul, I3_lt, I3_le, I3_inj, I3_nn', I3_n1, I3_n2, m2m1, ldI_I, ldJ_I, ldZ_I, stI_I, stJ_I, true_or, or_true, false_or, or_false, true_and, and_true, false_and, and_false, not_true_eq_false, not_false_eq_true, reduceCtorEq, Nat.reduceEqDiff, Nat.lt_irrefl, Nat.not_lt_zero, Nat.le_refl, Nat.reduceLT, Nat.reduceLeDiff, eq_self, zbbI, bbI0, bbI1, decide_eq_false_iff_not, decide_eq_true_eq, Bool.not_eq_false, Bool.not_eq_true, Bool.not_true, Bool.not_false, cond_true, cond_false, F_339_3B, F_339_77, F_339_76, F_339_132, e2, e3, show ¬ nH g ≤ k by omega, c1, c2, c3, c4, c5, cmp_eq', D1']
            · simp (disch := omega) only [↓reduceIte, if_true, if_false, ite_self, Option.bind_some, Option.map_some, wI_rd, wJ_rd, wI_2, wJ_1, wJ_22, I3_lit, I3_add, I3_mul, I3_lt, I3_le, I3_inj, I3_nn', I3_n1, I3_n2, m2m1, ldI_I, ldJ_I, ldZ_I, stI_I, stJ_I, true_or, or_true, false_or, or_false, true_and, and_true, false_and, and_false, not_true_eq_false, not_false_eq_true, reduceCtorEq, Nat.reduceEqDiff, Nat.lt_irrefl, Nat.not_lt_zero, Nat.le_refl, Nat.reduceLT, Nat.reduceLeDiff, eq_self, zbbI, bbI0, bbI1, decide_eq_false_iff_not, decide_eq_true_eq, Bool.not_eq_false, Bool.not_eq_true, Bool.not_true, Bool.not_false, cond_true, cond_false, F_339_3B, F_339_77, F_339_76, F_339_132, e2, e3, show ¬ nH g ≤ k by omega, c1, c2, c3, c4, c5, cmp_eq', D0']
          · simp (disch := omega) only [↓reduceIte, if_true, if_false, ite_self, Option.bind_some, Option.map_some, wI_rd, wJ_rd, wI_2, wJ_1, wJ_22, I3_lit, I3_add, I3_mul, I3_lt, I3_le, I3_inj, I3_nn', I3_n1, I3_n2, m2m1, ldI_I, ldJ_I, ldZ_I, stI_I, stJ_I, true_or, or_true, false_or, or_false, true_and, and_true, false_and, and_false, not_true_eq_false, not_false_eq_true, reduceCtorEq, Nat.reduceEqDiff, Nat.lt_irrefl, Nat.not_lt_zero, Nat.le_refl, Nat.reduceLT, Nat.reduceLeDiff, eq_self, zbbI, bbI0, bbI1, decide_eq_false_iff_not, decide_eq_true_eq, Bool.not_eq_false, Bool.not_eq_true, Bool.not_true, Bool.not_false, cond_true, cond_false, F_339_3B, F_339_77, F_339_76, F_339_132, e2, e3, show ¬ nH g ≤ k by omega, c1, c2, c3, c4, cmp_eq', D0']
        · simp (disch := omega) only [↓reduceIte, if_true, if_false, ite_self, Option.bind_some, Option.map_some, wI_rd, wJ_rd, wI_2, wJ_1, wJ_22, I3_lit, I3_add, I3_mul, I3_lt, I3_le, I3_inj, I3_nn', I3_n1, I3_n2, m2m1, ldI_I, ldJ_I, ldZ_I, stI_I, stJ_I, true_or, or_true, false_or, or_false, true_and, and_true, false_and, and_false, not_true_eq_false, not_false_eq_true, reduceCtorEq, Nat.reduceEqDiff, Nat.lt_irrefl, Nat.not_lt_zero, Nat.le_refl, Nat.reduceLT, Nat.reduceLeDiff, eq_self, zbbI, bbI0, bbI1, decide_eq_false_iff_not, decide_eq_true_eq, Bool.not_eq_false, Bool.not_eq_true, Bool.not_true, Bool.not_false, cond_true, cond_false, F_339_3B, F_339_77, F_339_76, F_339_132, e2, e3, show ¬ nH g ≤ k by omega, c1, c2, c3, D0']
      · simp (disch := omega) only [↓reduceIte, if_true, if_false, ite_self, Option.bind_some, Option.map_some, wI_rd, wJ_rd, wI_2, wJ_1, wJ_22, I3_lit, I3_add, I3_mul, I3_lt, I3_le, I3_inj, I3_nn', I3_n1, I3_n2, m2m1, ldI_I, ldJ_I, ldZ_I, stI_I, stJ_I, true_or, or_true, false_or, or_false, true_and, and_true, false_and, and_false, not_true_eq_false, not_false_eq_true, reduceCtorEq, Nat.reduceEqDiff, Nat.lt_irrefl, Nat.not_lt_zero, Nat.le_refl, Nat.reduceLT, Nat.reduceLeDiff, eq_self, zbbI, bbI0, bbI1, decide_eq_false_iff_not, decide_eq_true_eq, Bool.not_eq_false, Bool.not_eq_true, Bool.not_true, Bool.not_false, cond_true, cond_false, F_339_3B, F_339_77, F_339_76, F_339_132, e2, e3, show ¬ nH g ≤ k by omega, c1, c2, D0']
    · simp (disch := omega) only [↓reduceIte, if_true, if_false, ite_self, Option.bind_some, Option.map_some, wI_rd, wJ_rd, wI_2, wJ_1, wJ_22, I3_lit, I3_add, I3_mul, I3_lt, I3_le, I3_inj, I3_nn', I3_n1, I3_n2, m2m1, ldI_I, ldJ_I, ldZ_I, stI_I, stJ_I, true_or, or_true, false_or, or_false, true_and, and_true, false_and, and_false, not_true_eq_false, not_false_eq_true, reduceCtorEq, Nat.reduceEqDiff, Nat.lt_irrefl, Nat.not_lt_zero, Nat.le_refl, Nat.reduceLT, Nat.reduceLeDiff, eq_self, zbbI, bbI0, bbI1, decide_eq_false_iff_not, decide_eq_true_eq, Bool.not_eq_false, Bool.not_eq_true, Bool.not_true, Bool.not_false, cond_true, cond_false, F_339_3B, F_339_77, F_339_76, F_339_132, e2, e3, show ¬ nH g ≤ k by omega, c1, D0']
  · have D1 := R_findH1 d (x := k) (by omega) f a b c true
    rw [Bool.true_and] at D1
    have D1' : F_339_82 f a b c (I3 k) (I3 1) (I3 0) g = _ := D1
    unfold hP at e
    simp only [Bool.and_eq_true, decide_eq_true_eq] at e
    obtain ⟨⟨c1, c2, c3, c4, c5⟩, c6⟩ := e
    rw [c6] at D1'
    simp (disch := omega) only [↓reduceIte, if_true, if_false, ite_self, Option.bind_some, Option.map_some, wI_rd, wJ_rd, wI_2, wJ_1, wJ_22, I3_lit, I3_add, I3_mul, I3_lt, I3_le, I3_inj, I3_nn', I3_n1, I3_n2, m2m1, ldI_I, ldJ_I, ldZ_I, stI_I, stJ_I, true_or, or_true, false_or, or_false, true_and, and_true, false_and, and_false, not_true_eq_false, not_false_eq_true, reduceCtorEq, Nat.reduceEqDiff, Nat.lt_irrefl, Nat.not_lt_zero, Nat.le_refl, Nat.reduceLT, Nat.reduceLeDiff, eq_self, zbbI, bbI0, bbI1, decide_eq_false_iff_not, decide_eq_true_eq, Bool.not_eq_false, Bool.not_eq_true, Bool.not_true, Bool.not_false, cond_true, cond_false, F_339_3B, F_339_77, F_339_76, F_339_132, e2, e3, show ¬ nH g ≤ k by omega, c1, c2, c3, c4, c5, cmp_eq', D1']
  · simp (disch := omega) only [↓reduceIte, if_true, if_false, ite_self, Option.bind_some, Option.map_some, wI_rd, wJ_rd, wI_2, wJ_1, wJ_22, I3_lit, I3_add, I3_mul, I3_lt, I3_le, I3_inj, I3_nn', I3_n1, I3_n2, m2m1, ldI_I, ldJ_I, ldZ_I, stI_I, stJ_I, true_or, or_true, false_or, or_false, true_and, and_true, false_and, and_false, not_true_eq_false, not_false_eq_true, reduceCtorEq, Nat.reduceEqDiff, Nat.lt_irrefl, Nat.not_lt_zero, Nat.le_refl, Nat.reduceLT, Nat.reduceLeDiff, eq_self, zbbI, bbI0, bbI1, decide_eq_false_iff_not, decide_eq_true_eq, Bool.not_eq_false, Bool.not_eq_true, Bool.not_true, Bool.not_false, cond_true, cond_false, F_339_3B, e2]
def blk (f : Nat → Int32) (s : Nat) (l : List Int32) (k : Nat) : Nat → Int32 := fun i => if s ≤ i ∧ i < s + k then at0 l (i - s) else f i
theorem blk_0 (f : Nat → Int32) (s : Nat) (l : List Int32) : blk f s l 0 = f := by funext i; unfold blk; rw [if_neg (by omega)]
theorem blk_s (h : sm_H) (a : Nat) (f : Nat → Int32) (s : Nat) (l : List Int32) (k : Nat) : sm_wI (wA h a (blk f s l k)) a (s + k) (at0 l k) = wA h a (blk f s l (k + 1)) := by
  rw [wA_wI]
  congr 1
  funext i
  unfold blk
  by_cases q : i = s + k
  · rw [if_pos q, if_pos (by omega), q, show s + k - s = k by omega]
  · rw [if_neg q]
    by_cases q2 : s ≤ i ∧ i < s + k
    · rw [if_pos q2, if_pos (by omega)]
    · rw [if_neg q2, if_neg (by omega)]
theorem wA_self' {h : sm_H} {a : Nat} {f : Nat → Int32} (e : f = h.1 a) : wA h a f = h := by rw [e, wA_self]
def hC0 (h : sm_H) (n : Nat) (f a b : Int32) (c : Int64) (m : Nat) : sm_H := sm_wI (sm_wJ (sm_wI (sm_wI (sm_wI h 11 n f) 12 n a) 13 n b) 14 n c) 15 n (I3 m)
def setHC (h : sm_H) (n : Nat) (f a b : Int32) (c : Int64) (ps : List Int32) (t : Nat) (r : Int32) (l : List Int32) : sm_H := sm_wI (wA (sm_wI (sm_wI (sm_wI (wA (hC0 h n f a b c ps.length) 16 (blk (h.1 16) (n * 20) ps ps.length)) 17 n (I3 t)) 18 n r) 19 n (I3 l.length)) 20 (blk (h.1 20) (n * 10) l l.length)) 10 11 (I3 (n + 1))
theorem C_append {h g : sm_H} (wT : wfT g) (wH : wfH0 g) (cT : cT h g) (cH : cH h g) {o p : Nat} (w : isRw o p) (ho : o < 1000 ∧ (o < 10 ∨ 20 < o)) (hp : p < 10 ∨ 20 < p) {ps : List Int32} (R : hasL h o p ps) (f a b : Int32) (c : Int64) {t : Nat} (ht : t < nT g) (hn : nH g < 500) : F_50 f a b c o (I3 t) h = some (I3 (nH g), setHC h (nH g) f a b c ps t (rs g t) (pl g t)) := by
  have w300 : nT g ≤ 300 := wT.1.2
  have l20 := R.2.1
  have m10 : tM g t ≤ 10 := (wT.2.1 _ ht).2.1.2
  have e4 : h.1 10 11 = I3 (nH g) := cH.1.trans wH.1.1
  have lp' : (pl g t).length = tM g t := lst_len _ _
  have m : g.1 73 t = I3 (tM g t) := (wT.2.1 _ ht).2.1.1
  generalize hnn : nH g = n at *
  have P2 : ∀ u : sm_H, g_cT u g → u.1 10 11 = I3 n → lp F_50_165B 1000000 (I3 t, I3 0, u) = some (I3 n, sm_wI (wA u 20 (blk (u.1 20) (n * 10) (pl g t) (pl g t).length)) 10 11 (I3 (n + 1))) := by
    intro u cu eu
    have L := lp_it (body := F_50_165B) (r := (I3 n, sm_wI (wA u 20 (blk (u.1 20) (n * 10) (pl g t) (pl g t).length)) 10 11 (I3 (n + 1)))) (tM g t) (fun k => (I3 t, I3 k, wA u 20 (blk (u.1 20) (n * 10) (pl g t) k))) 1000000 (fun k hk => ?_) ?_ (by omega)
    · simp only [blk_0, wA_self] at L; exact L
    · have T1 := C_tmany (h := wA u 20 (blk (u.1 20) (n * 10) (pl g t) k)) wT cu ht
      have T2 := C_tplace (h := wA u 20 (blk (u.1 20) (n * 10) (pl g t) k)) wT cu ht hk
      rw [m] at T1
      have B := blk_s u 20 (u.1 20) (n * 10) (pl g t) k
      rw [at0_lst hk] at B
      simp (disch := omega) only [↓reduceIte, if_true, if_false, ite_self, Option.bind_some, Option.map_some, wI_rd, wJ_rd, wI_2, wJ_1, wJ_22, I3_lit, I3_add, I3_mul, I3_lt, I3_le, I3_inj, I3_nn', I3_n1, I3_n2, m2m1, ldI_I, ldJ_I, ldZ_I, stI_I, stJ_I, true_or, or_true, false_or, or_false, true_and, and_true, false_and, and_false, not_true_eq_false, not_false_eq_true, reduceCtorEq, Nat.reduceEqDiff, Nat.lt_irrefl, Nat.not_lt_zero, Nat.le_refl, Nat.reduceLT, Nat.reduceLeDiff, eq_self, zbbI, bbI0, bbI1, decide_eq_false_iff_not, decide_eq_true_eq, Bool.not_eq_false, Bool.not_eq_true, Bool.not_true, Bool.not_false, cond_true, cond_false, F_50_165B, T1, T2, wA_rd, eu, show ¬ tM g t ≤ k by omega, show ¬ 10 ≤ k by omega, B]
    · have T1 := C_tmany (h := wA u 20 (blk (u.1 20) (n * 10) (pl g t) (tM g t))) wT cu ht
      rw [m] at T1
      rw [lp']
      simp (disch := omega) only [↓reduceIte, if_true, if_false, ite_self, Option.bind_some, Option.map_some, wI_rd, wJ_rd, wI_2, wJ_1, wJ_22, I3_lit, I3_add, I3_mul, I3_lt, I3_le, I3_inj, I3_nn', I3_n1, I3_n2, m2m1, ldI_I, ldJ_I, ldZ_I, stI_I, stJ_I, true_or, or_true, false_or, or_false, true_and, and_true, false_and, and_false, not_true_eq_false, not_false_eq_true, reduceCtorEq, Nat.reduceEqDiff, Nat.lt_irrefl, Nat.not_lt_zero, Nat.le_refl, Nat.reduceLT, Nat.reduceLeDiff, eq_self, zbbI, bbI0, bbI1, decide_eq_false_iff_not, decide_eq_true_eq, Bool.not_eq_false, Bool.not_eq_true, Bool.not_true, Bool.not_false, cond_true, cond_false, F_50_165B, F_50_218, T1, wA_rd, eu, I3_sub, Nat.add_sub_cancel]
  have P3 : ∀ u : sm_H, g_cT u g → u.1 10 11 = I3 n → F_50_115 (I3 t) u = some (I3 n, sm_wI (wA (sm_wI (sm_wI (sm_wI u 17 n (I3 t)) 18 n (rs g t)) 19 n (I3 (tM g t))) 20 (blk (u.1 20) (n * 10) (pl g t) (pl g t).length)) 10 11 (I3 (n + 1))) := by
    intro u cu eu
    have T1 := C_tres (h := sm_wI u 17 n (I3 t)) wT cu ht
    have T2 := C_tmany (h := sm_wI (sm_wI u 17 n (I3 t)) 18 n (rs g t)) wT cu ht
    rw [m] at T2
    have Q := P2 (sm_wI (sm_wI (sm_wI u 17 n (I3 t)) 18 n (rs g t)) 19 n (I3 (tM g t))) cu eu
    simp (disch := omega) only [↓reduceIte, if_true, if_false, ite_self, Option.bind_some, Option.map_some, wI_rd, wJ_rd, wI_2, wJ_1, wJ_22, I3_lit, I3_add, I3_mul, I3_lt, I3_le, I3_inj, I3_nn', I3_n1, I3_n2, m2m1, ldI_I, ldJ_I, ldZ_I, stI_I, stJ_I, true_or, or_true, false_or, or_false, true_and, and_true, false_and, and_false, not_true_eq_false, not_false_eq_true, reduceCtorEq, Nat.reduceEqDiff, Nat.lt_irrefl, Nat.not_lt_zero, Nat.le_refl, Nat.reduceLT, Nat.reduceLeDiff, eq_self, zbbI, bbI0, bbI1, decide_eq_false_iff_not, decide_eq_true_eq, Bool.not_eq_false, Bool.not_eq_true, Bool.not_true, Bool.not_false, cond_true, cond_false, F_50_115, F_50_165, eu, T1, T2, Q]
    rfl
  have P4 : ∀ u : sm_H, g_cT u g → u.1 10 11 = I3 n → hasL u o p ps → lp F_50_70B 1000000 (o, I3 t, I3 0, u) = F_50_115 (I3 t) (wA u 16 (blk (u.1 16) (n * 20) ps ps.length)) := by
    intro u cu eu Ru
    have Q := P3 (wA u 16 (blk (u.1 16) (n * 20) ps ps.length)) cu eu
    rw [Q]
    have Rk : ∀ k, hasL (wA u 16 (blk (u.1 16) (n * 20) ps k)) o p ps := fun k => by
      refine ⟨?_, Ru.2.1, fun j hj => ?_⟩
      · rw [wA_rd, if_neg (by omega)]; exact Ru.1
      · rw [wA_rd, if_neg (by omega)]; exact Ru.2.2 j hj
    have L := lp_it (body := F_50_70B) (r := (I3 n, sm_wI (wA (sm_wI (sm_wI (sm_wI (wA u 16 (blk (u.1 16) (n * 20) ps ps.length)) 17 n (I3 t)) 18 n (rs g t)) 19 n (I3 (tM g t))) 20 (blk ((wA u 16 (blk (u.1 16) (n * 20) ps ps.length)).1 20) (n * 10) (pl g t) (pl g t).length)) 10 11 (I3 (n + 1)))) ps.length (fun k => (o, I3 t, I3 k, wA u 16 (blk (u.1 16) (n * 20) ps k))) 1000000 (fun k hk => ?_) ?_ (by omega)
    · simp only [blk_0, wA_self] at L; exact L
    · have S := C_rsize w (Rk k)
      have A := C_rat w (Rk k) hk
      have B := blk_s u 16 (u.1 16) (n * 20) ps k
      have e5 : (wA u 16 (blk (u.1 16) (n * 20) ps k)).1 10 11 = I3 n := eu
      show F_50_70B (o, I3 t, I3 k, wA u 16 (blk (u.1 16) (n * 20) ps k)) = _
      unfold F_50_70B
      rw [if_neg (not_not_intro (w.i _)), S]; simp only [Option.bind_some]
      rw [if_neg (by rw [I3_le (by omega) (by omega)]; omega), if_neg (by rw [I3_lit, I3_le (by decide) (by omega)]; omega), if_neg (not_not_intro (w.i _)), A]; simp only [Option.bind_some]
      rw [e5, I3_lit, I3_lit, I3_mul, I3_add, stI_I (by omega) (by omega), B]; simp only [Option.bind_some]
      rw [I3_add]
    · have S := C_rsize w (Rk ps.length)
      show F_50_70B (o, I3 t, I3 ps.length, wA u 16 (blk (u.1 16) (n * 20) ps ps.length)) = _
      unfold F_50_70B
      rw [if_neg (not_not_intro (w.i _)), S]; simp only [Option.bind_some]
      rw [if_pos (by rw [I3_le (by omega) (by omega)]; omega), Q]; rfl
  have R0 : hasL (sm_wJ (sm_wI (sm_wI (sm_wI h 11 n f) 12 n a) 13 n b) 14 n c) o p ps := by
    refine ⟨?_, R.2.1, fun j hj => ?_⟩
    · rw [wJ_1, wI_rd, wI_rd, wI_rd, if_neg (by omega), if_neg (by omega), if_neg (by omega)]; exact R.1
    · rw [wJ_1, wI_rd, wI_rd, wI_rd, if_neg (by omega), if_neg (by omega), if_neg (by omega)]; exact R.2.2 j hj
  have R1 : hasL (hC0 h n f a b c ps.length) o p ps := by
    refine ⟨?_, R.2.1, fun j hj => ?_⟩
    · unfold hC0; rw [wI_rd, if_neg (by omega)]; exact R0.1
    · unfold hC0; rw [wI_rd, if_neg (by omega)]; exact R0.2.2 j hj
  have S := C_rsize w R0
  have Q := P4 (hC0 h n f a b c ps.length) cT e4 R1
  have Q3 := P3 (wA (hC0 h n f a b c ps.length) 16 (blk ((hC0 h n f a b c ps.length).1 16) (n * 20) ps ps.length)) cT e4
  show F_50_0 f a b c o (I3 t) h = _
  unfold F_50_0
  rw [if_pos (by rw [e4, I3_lit, I3_lt (by omega) (by decide)]; exact hn), e4, stI_I (by omega) (by omega)]; simp only [Option.bind_some]
  have e5 : (sm_wI h 11 n f).1 10 11 = I3 n := e4
  rw [e5, stI_I (by omega) (by omega)]; simp only [Option.bind_some]
  have e6 : (sm_wI (sm_wI h 11 n f) 12 n a).1 10 11 = I3 n := e4
  rw [e6, stI_I (by omega) (by omega)]; simp only [Option.bind_some]
  have e7 : (sm_wI (sm_wI (sm_wI h 11 n f) 12 n a) 13 n b).1 10 11 = I3 n := e4
  rw [e7, stJ_I (by omega) (by omega)]; simp only [Option.bind_some]
  rw [if_neg (not_not_intro (w.i _)), S]; simp only [Option.bind_some]
  have e8 : (sm_wJ (sm_wI (sm_wI (sm_wI h 11 n f) 12 n a) 13 n b) 14 n c).1 10 11 = I3 n := e4
  rw [e8, stI_I (by omega) (by omega)]; simp only [Option.bind_some]
  refine Eq.trans Q (Q3.trans ?_)
  unfold setHC
  rw [lp']; rfl
def hR0 (g : sm_H) (n : Nat) (f a b : Int32) (c : Int64) (m t : Nat) : sm_H := sm_wI (sm_wJ (sm_wI (sm_wI (sm_wI (sm_wI g 76 n (I3 t)) 75 n f) 77 n a) 78 n b) 79 n c) 80 n (I3 m)
def setHR (g : sm_H) (n : Nat) (f a b : Int32) (c : Int64) (ps : List Int32) (t : Nat) : sm_H := sm_wI (wA (hR0 g n f a b c ps.length t) 81 (blk (g.1 81) (24 * n) ps ps.length)) 67 18 (I3 (n + 1))
theorem R_append {g : sm_H} {n : Nat} (e18 : g.1 67 18 = I3 n) (hn : n < 500) {ps : List Int32} (d : prR g ps) (f a b : Int32) (c : Int64) {t : Nat} : ((stI g 76 500 (I3 n) (I3 t)).bind fun h8 => (stI h8 75 500 (I3 n) f).bind fun h9 => (stI h9 77 500 (I3 n) a).bind fun h10 => (stI h10 78 500 (I3 n) b).bind fun h11 => (stJ h11 79 500 (I3 n) c).bind fun h12 => (stI h12 80 500 (I3 n) (h12.1 67 3)).bind fun h13 => F_340_143 (I3 n) 0 h13) = some (I3 n, setHR g n f a b c ps t) := by
  have e3 := d.1
  have l20 := d.2.1
  have L := lp_it (body := F_340_143B) (r := (I3 n, setHR g n f a b c ps t)) ps.length (fun k => (I3 n, I3 k, wA (hR0 g n f a b c ps.length t) 81 (blk (g.1 81) (24 * n) ps k))) 1000000 (fun k hk => ?_) ?_ (by omega)
  · have w0 : wA (hR0 g n f a b c ps.length t) 81 (blk (g.1 81) (24 * n) ps 0) = hR0 g n f a b c ps.length t := wA_self' (blk_0 _ _ _)
    simp only [w0] at L
    have L' : F_340_143 (I3 n) 0 (hR0 g n f a b c ps.length t) = _ := L
    rw [stI_I (by omega) (by omega)]; simp only [Option.bind_some]
    rw [stI_I (by omega) (by omega)]; simp only [Option.bind_some]
    rw [stI_I (by omega) (by omega)]; simp only [Option.bind_some]
    rw [stI_I (by omega) (by omega)]; simp only [Option.bind_some]
    rw [stJ_I (by omega) (by omega)]; simp only [Option.bind_some]
    rw [stI_I (by omega) (by omega)]; simp only [Option.bind_some]
    have e3' : (sm_wJ (sm_wI (sm_wI (sm_wI (sm_wI g 76 n (I3 t)) 75 n f) 77 n a) 78 n b) 79 n c).1 67 3 = I3 ps.length := e3
    rw [e3']
    exact L'
  · have z : (hR0 g n f a b c ps.length t).1 69 k = at0 ps k := d.2.2 k hk
    have z3 : (hR0 g n f a b c ps.length t).1 67 3 = I3 ps.length := e3
    have B := blk_s (hR0 g n f a b c ps.length t) 81 (g.1 81) (24 * n) ps k
    simp (disch := omega) only [↓reduceIte, if_true, if_false, ite_self, Option.bind_some, Option.map_some, wI_rd, wJ_rd, wI_2, wJ_1, wJ_22, I3_lit, I3_add, I3_mul, I3_lt, I3_le, I3_inj, I3_nn', I3_n1, I3_n2, m2m1, ldI_I, ldJ_I, ldZ_I, stI_I, stJ_I, true_or, or_true, false_or, or_false, true_and, and_true, false_and, and_false, not_true_eq_false, not_false_eq_true, reduceCtorEq, Nat.reduceEqDiff, Nat.lt_irrefl, Nat.not_lt_zero, Nat.le_refl, Nat.reduceLT, Nat.reduceLeDiff, eq_self, zbbI, bbI0, bbI1, decide_eq_false_iff_not, decide_eq_true_eq, Bool.not_eq_false, Bool.not_eq_true, Bool.not_true, Bool.not_false, cond_true, cond_false, F_340_143B, wA_rd, z3, z, show ¬ ps.length ≤ k by omega, B]
  · have z3 : (hR0 g n f a b c ps.length t).1 67 3 = I3 ps.length := e3
    have z18 : (hR0 g n f a b c ps.length t).1 67 18 = I3 n := e18
    simp (disch := omega) only [↓reduceIte, if_true, if_false, ite_self, Option.bind_some, Option.map_some, wI_rd, wJ_rd, wI_2, wJ_1, wJ_22, I3_lit, I3_add, I3_mul, I3_lt, I3_le, I3_inj, I3_nn', I3_n1, I3_n2, m2m1, ldI_I, ldJ_I, ldZ_I, stI_I, stJ_I, true_or, or_true, false_or, or_false, true_and, and_true, false_and, and_false, not_true_eq_false, not_false_eq_true, reduceCtorEq, Nat.reduceEqDiff, Nat.lt_irrefl, Nat.not_lt_zero, Nat.le_refl, Nat.reduceLT, Nat.reduceLeDiff, eq_self, zbbI, bbI0, bbI1, decide_eq_false_iff_not, decide_eq_true_eq, Bool.not_eq_false, Bool.not_eq_true, Bool.not_true, Bool.not_false, cond_true, cond_false, F_340_143B, wA_rd, z3, z18]
    rfl
theorem FS_lt {g : sm_H} {f : Nat} {a b : Int32} {c : Int64} {ps : List Int32} {r : Int32} {l : List Int32} (h : FS g f a b c ps r l) : f ≤ 38 := by
  unfold FS at h
  omega
theorem hAdd {h g : sm_H} (K : K1 h g) {f t : Nat} {a b : Int32} {c : Int64} {ps l : List Int32} {r : Int32} (hn : nH g < 500) (ht : t < nT g) (hr : rs g t = r) (hl : pl g t = l) (l20 : ps.length ≤ 20) (F : FS g f a b c ps r l) : K1 (setHC h (nH g) (I3 f) a b c ps t r l) (setHR g (nH g) (I3 f) a b c ps t) ∧ ext g (setHR g (nH g) (I3 f) a b c ps t) ∧ grow g (setHR g (nH g) (I3 f) a b c ps t) := by
  have B0 := K1_base K
  have f38 := FS_lt F
  obtain ⟨wK, cK, wT, cT, wH, cH, wM, cM, cG, cO, cV, wX, cX, cXh, wF⟩ := id K
  have h12 := wK.2.1
  have w300 : nT g ≤ 300 := wT.1.2
  have m10 : tM g t ≤ 10 := (wT.2.1 _ ht).2.1.2
  have ll : l.length = tM g t := by rw [← hl]; exact lst_len _ _
  generalize hnn : nH g = n at *
  have hnn' : tn (g.1 67 18) = n := hnn
  generalize hg1 : setHR g n (I3 f) a b c ps t = g1
  generalize hh1 : setHC h n (I3 f) a b c ps t r l = h1
  have nn : nH g1 = n + 1 := by subst hg1; exact I3_clamp (by omega)
  have a75 : ∀ x, g1.1 75 x = if x = n then I3 f else g.1 75 x := by subst hg1; exact fun _ => rfl
  have a76 : ∀ x, g1.1 76 x = if x = n then I3 t else g.1 76 x := by subst hg1; exact fun _ => rfl
  have a77 : ∀ x, g1.1 77 x = if x = n then a else g.1 77 x := by subst hg1; exact fun _ => rfl
  have a78 : ∀ x, g1.1 78 x = if x = n then b else g.1 78 x := by subst hg1; exact fun _ => rfl
  have a79 : ∀ x, g1.2.1 79 x = if x = n then c else g.2.1 79 x := by subst hg1; exact fun _ => rfl
  have a80 : ∀ x, g1.1 80 x = if x = n then I3 ps.length else g.1 80 x := by subst hg1; exact fun _ => rfl
  have a81 : ∀ i, g1.1 81 i = blk (g.1 81) (24 * n) ps ps.length i := by subst hg1; exact fun _ => rfl
  have o81 : ∀ x i, x < n → i < 24 → g1.1 81 (24 * x + i) = g.1 81 (24 * x + i) := fun x i hx hi => by rw [a81]; unfold blk; rw [if_neg (by omega)]
  have n81 : ∀ i, i < ps.length → g1.1 81 (24 * n + i) = at0 ps i := fun i hi => by rw [a81]; unfold blk; rw [if_pos (by omega), show 24 * n + i - 24 * n = i by omega]
  have EE : ext g g1 := by
    have e : ∀ x, x < n → g1.1 76 x = g.1 76 x := fun x hx => by rw [a76, if_neg (by omega)]
    refine ⟨?_, ?_, ?_, ?_, ?_, by omega, fun x hx => e x (by omega), ?_, fun k hk => ?_, ?_, ?_⟩
    · subst hg1; exact Nat.le_refl _
    · subst hg1; exact fun _ _ => rfl
    · subst hg1; exact Nat.le_refl _
    · subst hg1; exact fun _ _ => rfl
    · subst hg1; exact ⟨Nat.le_refl _, fun _ _ => ⟨rfl, rfl, fun _ _ => rfl⟩⟩
    · subst hg1; exact Nat.le_refl _
    · have e92 : g1.1 92 k = g.1 92 k := by subst hg1; rfl
      show tn (g1.1 76 (tn (g1.1 92 k))) = tn (g.1 76 (tn (g.1 92 k)))
      rw [e92, e _ (by have := B0.g k hk; omega)]
    · subst hg1; exact Nat.le_refl _
    · subst hg1; exact ⟨Nat.le_refl _, fun _ _ => ⟨rfl, rfl, rfl, rfl, rfl, rfl⟩⟩
  have GG : grow g g1 := by
    refine ⟨?_, ?_, by omega, ?_, ?_⟩
    · subst hg1; exact Nat.le_refl _
    · subst hg1; exact Nat.le_refl _
    · subst hg1; exact fun _ _ => rfl
    · subst hg1; exact fun _ _ => rfl
  have nc1 : nC g1 = nC g := by subst hg1; rfl
  have nt1 : nT g1 = nT g := by subst hg1; rfl
  have nm1 : nM g1 = nM g := by subst hg1; rfl
  have nx1 : nX g1 = nX g := by subst hg1; rfl
  have cGq1 : ∀ k, k < nG g → tn (g1.1 92 k) < nH g1 := fun k hk => by
    have e92 : g1.1 92 k = g.1 92 k := by subst hg1; rfl
    rw [e92]; have := B0.g k hk; omega
  have tyn : ty g1 n = t := by show tn _ = _; rw [a76, if_pos rfl]; exact I3_clamp (by omega)
  have tyo : ∀ x, x < n → ty g1 x = ty g x := fun x hx => ext_ty EE (by omega)
  have rst : ∀ u, rs g1 u = rs g u := by subst hg1; exact fun _ => rfl
  have plt : ∀ u, pl g1 u = pl g u := by subst hg1; exact fun _ => rfl
  have mt : ∀ u, tM g1 u = tM g u := by subst hg1; exact fun _ => rfl
  have wH1 : wfH0 g1 := by
    refine ⟨?_, fun x hx => ?_⟩
    · have e : g1.1 67 18 = I3 (n + 1) := by subst hg1; rfl
      rw [e]; exact cnt_up (by omega) (by decide)
    · rw [nn] at hx
      by_cases q : x = n
      · subst q
        rw [a75, a76, a80, if_pos rfl, if_pos rfl, if_pos rfl, tyn, nt1]
        exact ⟨cnt_up f38 (by decide), rfl, ht, cnt_up l20 (by decide)⟩
      · have hx : x < n := by omega
        rw [a75, a76, a80, if_neg q, if_neg q, if_neg q, tyo x hx, nt1]
        exact wH.2 x (by omega)
  have wF1 : wfF g1 := by
    rw [wfF_0] at wF ⊢
    refine ⟨fun x hx => ?_, fun m hm => ?_⟩
    · rw [nn] at hx
      by_cases q : x = n
      · subst q
        have ef : fm g1 x = f := by show tn _ = _; rw [a75, if_pos rfl]; exact I3_clamp (by omega)
        have ep : prt g1 x = ps := by
          have : pm g1 x = ps.length := by show tn _ = _; rw [a80, if_pos rfl]; exact I3_clamp (by omega)
          show lst _ (pm g1 x) = ps
          rw [this]
          refine lst_ext (lst_len _ _) (fun k hk => ?_)
          rw [lst_len] at hk
          rw [at0_lst hk]; exact n81 k hk
        have e1 : hrs g1 x = r := by show rs g1 (ty g1 x) = r; rw [tyn, rst, hr]
        have e2 : hpl g1 x = l := by show pl g1 (ty g1 x) = l; rw [tyn, plt, hl]
        rw [ef, ep, e1, e2, a77, a78, a79, if_pos rfl, if_pos rfl, if_pos rfl]
        exact FS_up B0 cGq1 EE F
      · have hx : x < n := by omega
        have hx' : x < nH g := by omega
        have ef : fm g1 x = fm g x := by show tn _ = tn _; rw [a75, if_neg q]
        have p20 : pm g x ≤ 20 := (wH.2 x hx').2.2.2.2
        rw [ef, a77, a78, a79, if_neg q, if_neg q, if_neg q, prt_ext (by rw [a80, if_neg q]) (fun i hi => o81 x i hx (by omega)), ext_hrs wH EE hx', ext_hpl wH EE hx']
        exact FS_up B0 cGq1 EE (wF.1 x hx')
    · rw [nm1] at hm
      exact mrel_ext B0 EE hm (by subst hg1; rfl) (wF.2 m hm)
  have cH1 : g_cH h1 g1 := by
    refine ⟨?_, fun x hx => ?_, fun x i hx hi => ?_, fun x hx => ?_⟩
    · subst hg1; subst hh1; rfl
    · obtain ⟨y1, y2, y3, y4, y5, y6⟩ := cH.2.1 x hx
      rw [a75, a76, a77, a78, a79, a80]
      have b11 : h1.1 11 x = if x = n then I3 f else h.1 11 x := by subst hh1; rfl
      have b12 : h1.1 12 x = if x = n then a else h.1 12 x := by subst hh1; rfl
      have b13 : h1.1 13 x = if x = n then b else h.1 13 x := by subst hh1; rfl
      have b14 : h1.2.1 14 x = if x = n then c else h.2.1 14 x := by subst hh1; rfl
      have b15 : h1.1 15 x = if x = n then I3 ps.length else h.1 15 x := by subst hh1; rfl
      have b17 : h1.1 17 x = if x = n then I3 t else h.1 17 x := by subst hh1; rfl
      rw [b11, b12, b13, b14, b15, b17, y1, y2, y3, y4, y5, y6]
      exact ⟨rfl, rfl, rfl, rfl, rfl, rfl⟩
    · have b16 : h1.1 16 (x * 20 + i) = blk (h.1 16) (n * 20) ps ps.length (x * 20 + i) := by subst hh1; rfl
      rw [b16, a81]
      unfold blk
      by_cases q : x = n ∧ i < ps.length
      · rw [if_pos (by omega), if_pos (by omega), show x * 20 + i - n * 20 = i by omega, show 24 * x + i - 24 * n = i by omega]
      · have q1 : ¬ (n * 20 ≤ x * 20 + i ∧ x * 20 + i < n * 20 + ps.length) := by
          rintro ⟨z1, z2⟩
          apply q
          have : x = n := by omega
          exact ⟨this, by subst this; omega⟩
        have q2 : ¬ (24 * n ≤ 24 * x + i ∧ 24 * x + i < 24 * n + ps.length) := by
          rintro ⟨z1, z2⟩
          apply q
          have : x = n := by omega
          exact ⟨this, by subst this; omega⟩
        rw [if_neg q1, if_neg q2]
        exact cH.2.2.1 x i hx hi
    · rw [nn] at hx
      by_cases q : x = n
      · subst q
        have b18 : h1.1 18 x = r := by subst hh1; exact if_pos rfl
        have b19 : h1.1 19 x = I3 l.length := by subst hh1; exact if_pos rfl
        have b20 : ∀ k, k < l.length → h1.1 20 (x * 10 + k) = at0 l k := fun k hk => by
          have : h1.1 20 (x * 10 + k) = blk (h.1 20) (x * 10) l l.length (x * 10 + k) := by subst hh1; rfl
          rw [this]; unfold blk; rw [if_pos (by omega), show x * 10 + k - x * 10 = k by omega]
        have m73 : g.1 73 t = I3 (tM g t) := (wT.2.1 _ ht).2.1.1
        have e73 : g1.1 73 t = g.1 73 t := by subst hg1; rfl
        rw [tyn, b18, b19, e73, m73, mt, ll]
        refine ⟨hr.symm.trans (rst t).symm, rfl, fun k hk => ?_⟩
        rw [b20 k (by omega), ← hl, at0_lst hk]
        subst hg1; rfl
      · have hx : x < n := by omega
        obtain ⟨y1, y2, y3⟩ := cH.2.2.2 x (by omega)
        have lt := (wH.2 x (by omega)).2.2.1
        have m10' : tM g (ty g x) ≤ 10 := (wT.2.1 _ lt).2.1.2
        have b18 : h1.1 18 x = h.1 18 x := by subst hh1; exact if_neg q
        have b19 : h1.1 19 x = h.1 19 x := by subst hh1; exact if_neg q
        have b20 : ∀ k, k < 10 → h1.1 20 (x * 10 + k) = h.1 20 (x * 10 + k) := fun k hk => by
          have : h1.1 20 (x * 10 + k) = blk (h.1 20) (n * 10) l l.length (x * 10 + k) := by subst hh1; rfl
          rw [this]; unfold blk; rw [if_neg (by omega)]
        have e72 : ∀ u, g1.1 72 u = g.1 72 u := by subst hg1; exact fun _ => rfl
        have e73 : ∀ u, g1.1 73 u = g.1 73 u := by subst hg1; exact fun _ => rfl
        have e74 : ∀ u, g1.1 74 u = g.1 74 u := by subst hg1; exact fun _ => rfl
        rw [tyo x hx, b18, b19, e72, e73, mt]
        refine ⟨y1, y2, fun k hk => ?_⟩
        rw [b20 k (by omega), e74]; exact y3 k hk
  refine ⟨⟨?_, ?_, ?_, ?_, wH1, cH1, ?_, ?_, ?_, ?_, ?_, ?_, ?_, ?_, wF1⟩, EE, GG⟩
  · subst hg1; exact wK
  · subst hg1; subst hh1; exact cK
  · subst hg1; exact wT
  · subst hg1; subst hh1; exact cT
  · refine ⟨by subst hg1; exact wM.1, by subst hg1; exact wM.2.1, fun m hm => ?_⟩
    rw [nm1] at hm
    obtain ⟨m1, m2, m3, m4, m5⟩ := wM.2.2 m hm
    have z : (∃ a, a < nH g ∧ g.1 90 m = I3 a) → ∃ a, a < nH g1 ∧ g.1 90 m = I3 a := fun ⟨a, x1, x2⟩ => ⟨a, by omega, x2⟩
    subst hg1
    refine ⟨m1, m2, m3, m4, ?_⟩
    rcases m5 with m5 | ⟨q1, q2, q3⟩
    · exact Or.inl m5
    · exact Or.inr ⟨q1, z q2, q3⟩
  · subst hg1; subst hh1; exact cM
  · have z : ∀ k, k < nG g → ∃ a, a < nH g1 ∧ g.1 92 k = I3 a := fun k hk => by obtain ⟨a, x1, x2⟩ := cG.2.2.2 k hk; exact ⟨a, by omega, x2⟩
    subst hg1; subst hh1
    exact ⟨cG.1, cG.2.1, cG.2.2.1, z⟩
  · subst hg1; subst hh1; exact cO
  · have z : ∀ v, v < nV g → ∃ q, g.1 94 v = I3 q ∧ q < 20 + nC g ∧ okO g1 q (g.2.1 95 v) := fun v hv => by obtain ⟨q, x1, x2, x3⟩ := cV.2.2.2 v hv; exact ⟨q, x1, x2, okO_grow GG x3⟩
    subst hg1; subst hh1
    exact ⟨cV.1, cV.2.1, cV.2.2.1, z⟩
  · refine ⟨by subst hg1; exact wX.1, fun u hu => ?_, fun m hm z1 z2 => ?_⟩
    · rw [nx1] at hu
      obtain ⟨z1, z2⟩ := wX.2.1 u hu
      refine ⟨by subst hg1; exact z1, ?_⟩
      rcases z2 with ⟨k, k1, k2, k3, k4⟩ | ⟨k, k1, k2, k3, k4⟩
      · refine Or.inl ⟨k, k1, k2, by subst hg1; exact k3, fun i hi => ?_⟩
        have := okV_grow wK GG (k4 i (by subst hg1; exact hi))
        subst hg1; exact this
      · refine Or.inr ⟨k, k1, by rw [nc1]; exact k2, by subst hg1; exact k3, fun m hm y1 y2 => ?_⟩
        rw [nm1] at hm
        have := okV_grow wK GG (k4 m hm (by subst hg1; exact y1) (by subst hg1; exact y2))
        subst hg1; exact this
    · rw [nm1] at hm
      have := okV_grow wK GG (wX.2.2 m hm (by subst hg1; exact z1) (by subst hg1; exact z2))
      subst hg1; exact this
  · subst hg1; subst hh1; exact cX
  · have := cXh_fr (h' := h1) (by subst hh1; unfold setHC hC0; repeat first | exact hi_rfl | refine hi_wI ?_ (by decide) | refine hi_wJ ?_ (by decide) | refine hi_wA ?_ (by decide)) cXh
    subst hg1; exact this
abbrev SCh (b j : Nat) : Prop := SCt b j ∨ (10 ≤ b ∧ b ≤ 20)
abbrev SRh (b j : Nat) : Prop := SRt b j ∨ (b = 67 ∧ (j = 18 ∨ j = 19)) ∨ (75 ≤ b ∧ b ≤ 81)
theorem agr_setHC {h : sm_H} {n : Nat} {f a b : Int32} {c : Int64} {ps : List Int32} {t : Nat} {r : Int32} {l : List Int32} : agr SCh h (setHC h n f a b c ps t r l) := by
  unfold setHC hC0
  repeat first | exact agr_rfl | refine agr_wI ?_ (by simp [SCh]) | refine agr_wJ ?_ (by simp [SCh]) | refine agr_wA ?_ (by simp [SCh])
theorem agr_setHR {h : sm_H} {n : Nat} {f a b : Int32} {c : Int64} {ps : List Int32} {t : Nat} : agr SRh h (setHR h n f a b c ps t) := by
  unfold setHR hR0
  repeat first | exact agr_rfl | refine agr_wI ?_ (by simp [SRh]) | refine agr_wJ ?_ (by simp [SRh]) | refine agr_wA ?_ (by simp [SRh])
theorem MH {h g : sm_H} (K : K1 h g) {f : Nat} {a b : Int32} {c : Int64} {ps l : List Int32} {r : Int32} {o p : Nat} (w : isRw o p) (ho : o < 1000 ∧ (o < 5 ∨ 20 < o)) (hp : p < 5 ∨ 20 < p) (R : hasL h o p ps) (P : prR g ps) (dc : dC h l) (dr : dR g l) (er : g.1 67 20 = r) (h64 : l.length ≤ 64) (kr : kR1 g r) (kl : kL g l) (F : FS g f a b c ps r l) : ∃ v w' h1 g1, F_6 (I3 f) a b c o r h = some (w', h1) ∧ F_340 (I3 f) a b c g = some (v, g1) ∧ K1 h1 g1 ∧ ext g g1 ∧ grow g g1 ∧ agr SCh h h1 ∧ agr SRh g g1 ∧ ((∃ e, (e = 4 ∨ e = 5) ∧ w' = -I3 e ∧ v = -1 ∧ g1.1 67 19 = I3 e) ∨ ∃ y, y < nH g1 ∧ w' = I3 y ∧ v = I3 y ∧ g1.1 67 19 = g.1 67 19) := by
  obtain ⟨wK, cK, wT, cT, wH, cH, wM, cM, cG, cO, cV, wX, cX, cXh, wF⟩ := id K
  have h12 := wK.2.1
  have w300 : nT g ≤ 300 := wT.1.2
  have w500 : nH g ≤ 500 := wH.1.2
  have l20 := R.2.1
  have F1 := C_fits wT cT dc h64 r
  have F2 := C_knownH wH cH w R (I3 f) a b c
  have G2 := R_findH wH P (I3 f) a b c
  have e21 := dr.1
  have e10 : g.1 67 10 = I3 (nT g) := wT.1.1
  have e18 : g.1 67 18 = I3 (nH g) := wH.1.1
  have S35 : F_35 h = some (I3 (nH g), h) := by show some (h.1 10 11, h) = _; rw [cH.1, e18]
  have k19 : ∀ e : Int32, K1 h (sm_wI g 67 19 e) := fun e => ⟨wK, cK, wT, cT, wH, cH, wM, cM, cG, cO, cV, wX, cX, cXh, wF⟩
  have x19 : ∀ e : Int32, ext g (sm_wI g 67 19 e) ∧ grow g (sm_wI g 67 19 e) := fun e => ⟨⟨Nat.le_refl _, fun _ _ => rfl, Nat.le_refl _, fun _ _ => rfl, ⟨Nat.le_refl _, fun _ _ => ⟨rfl, rfl, fun _ _ => rfl⟩⟩, Nat.le_refl _, fun _ _ => rfl, Nat.le_refl _, fun _ _ => rfl, Nat.le_refl _, ⟨Nat.le_refl _, fun _ _ => ⟨rfl, rfl, rfl, rfl, rfl, rfl⟩⟩⟩, ⟨Nat.le_refl _, Nat.le_refl _, Nat.le_refl _, fun _ _ => rfl, fun _ _ => rfl⟩⟩
  have a19 : ∀ e : Int32, agr SRh g (sm_wI g 67 19 e) := fun e => agr_wI agr_rfl (by simp [SRh])
  have fHle := fH_le g (I3 f) a b c ps
  have refR : l.length ≤ 10 → (nT g < 300 ∨ fT g r l < nT g) → F_340 (I3 f) a b c g = F_340_42 (I3 f) a b c g := fun z room => by
    have RF := R_findT wT dr z r
    show F_340_0 _ _ _ _ g = _
    unfold F_340_0
    rw [e21, if_neg (by rw [I3_lit, I3_lt (by decide) (by omega)]; omega), er, RF]; simp only [Option.bind_some]
    rw [e10]
    by_cases q : nT g < 300
    · rw [if_neg (show ¬ I3 (nT g) = 300 by rw [I3_lit, I3_inj (by omega) (by decide)]; omega), ite_self]
    · unfold orN
      rw [if_pos (show fT g r l < nT g by omega), if_neg (I3_m1 (by omega))]
  by_cases fit : l.length ≤ 10 ∧ (nT g < 300 ∨ fT g r l < nT g)
  · rw [decide_eq_true fit] at F1
    have refR := refR fit.1 fit.2
    by_cases kn : fH g (I3 f) a b c ps < nH g
    · have kn' : orN (fH g (I3 f) a b c ps < nH g) (fH g (I3 f) a b c ps) = I3 (fH g (I3 f) a b c ps) := if_pos kn
      rw [kn'] at F2 G2
      refine ⟨I3 (fH g (I3 f) a b c ps), I3 (fH g (I3 f) a b c ps), h, g, ?_, ?_, K, ext_rfl, grow_rfl, agr_rfl, agr_rfl, Or.inr ⟨_, kn, rfl, rfl, rfl⟩⟩
      · show F_6_0 _ _ _ _ _ _ h = _
        unfold F_6_0
        rw [F1]; simp only [Option.bind_some]
        rw [if_neg (by decide), F2]; simp only [Option.bind_some]
        rw [if_neg (I3_m1 (by omega))]
      · rw [refR]
        unfold F_340_42
        rw [G2]; simp only [Option.bind_some]
        rw [if_neg (I3_m1 (by omega))]
    · have kn' : orN (fH g (I3 f) a b c ps < nH g) (fH g (I3 f) a b c ps) = -1 := if_neg kn
      rw [kn'] at F2 G2
      have c6 : F_6 (I3 f) a b c o r h = if I3 (nH g) < 500 then ((F_234 r h).bind fun q4 => (F_50 (I3 f) a b c o q4.1 q4.2).bind fun q5 => some (q5.1, q5.2)) else (some ((-5), h)) := by
        show F_6_0 _ _ _ _ _ _ h = _
        unfold F_6_0
        rw [F1]; simp only [Option.bind_some]
        rw [if_neg (by decide), F2]; simp only [Option.bind_some]
        rw [if_pos trivial, S35]; simp only [Option.bind_some]
      have c7 : F_340 (I3 f) a b c g = if I3 (nH g) = 500 then ((some (sm_wI g 67 19 5)).bind fun h14 => some ((-1), h14)) else ((F_302 g).bind fun q7 => (stI q7.2 76 500 (I3 (nH g)) q7.1).bind fun h8 => (stI h8 75 500 (I3 (nH g)) (I3 f)).bind fun h9 => (stI h9 77 500 (I3 (nH g)) a).bind fun h10 => (stI h10 78 500 (I3 (nH g)) b).bind fun h11 => (stJ h11 79 500 (I3 (nH g)) c).bind fun h12 => (stI h12 80 500 (I3 (nH g)) (h12.1 67 3)).bind fun h13 => F_340_143 (I3 (nH g)) 0 h13) := by
        rw [refR]
        unfold F_340_42
        rw [G2]; simp only [Option.bind_some]
        rw [if_pos trivial, e18]
      by_cases full : nH g = 500
      · refine ⟨-1, -I3 5, h, sm_wI g 67 19 5, ?_, ?_, k19 _, (x19 _).1, (x19 _).2, agr_rfl, a19 _, Or.inl ⟨5, Or.inr rfl, rfl, rfl, rfl⟩⟩
        · rw [c6, if_neg (by rw [I3_lit, I3_lt (by omega) (by decide)]; omega)]; rfl
        · rw [c7, if_pos (by rw [full]; rfl)]; rfl
      · rw [if_pos (by rw [I3_lit, I3_lt (by omega) (by decide)]; omega)] at c6
        rw [if_neg (by rw [I3_lit, I3_inj (by omega) (by decide)]; exact full)] at c7
        obtain ⟨h3, g3, s1, s2, s3, s4, s5, s6, s7, s8, s9⟩ := settled K dc dr er fit.1 fit.2 kr kl
        generalize ht : fT g r l = t at s1 s2 s7
        obtain ⟨y1, y2⟩ := isTy_pl s7 (by omega)
        have n3 : nH g3 = nH g := s6.n
        have cGq1 : ∀ k, k < nG g → tn (g3.1 92 k) < nH g3 := fun k hk => by
          rw [s9.1 92 k (by unfold SRt; omega), n3]
          exact (K1_base K).g k hk
        have F3 : FS g3 f a b c ps r l := FS_up (K1_base K) cGq1 s4 F
        obtain ⟨A1, A2, A3⟩ := hAdd s3 (by omega) s7.1 y1 y2 l20 F3
        have R3 : hasL h3 o p ps := hasL_agr R s8 (fun j => by unfold SCt; omega)
        have P3 : prR g3 ps := ⟨by rw [s9.1 67 3 (by unfold SRt; omega)]; exact P.1, P.2.1, fun k hk => by rw [s9.1 69 k (by unfold SRt; omega)]; exact P.2.2 k hk⟩
        have CA := C_append (h := h3) (g := g3) s3.2.2.1 s3.2.2.2.2.1 s3.2.2.2.1 s3.2.2.2.2.2.1 w (by omega) (by omega) R3 (I3 f) a b c s7.1 (by omega)
        have RA := R_append (g := g3) (n := nH g) (by have := s3.2.2.2.2.1.1.1; rw [this]; show I3 (nH g3) = _; rw [n3]) (by omega) P3 (I3 f) a b c (t := t)
        rw [n3] at A1 A2 A3 CA
        rw [y1, y2] at CA
        refine ⟨I3 (nH g), I3 (nH g), _, _, ?_, ?_, A1, ext_trans s4 A2, grow_trans s5 A3, agr_trans (agr_mono (fun _ _ z => Or.inl z) s8) agr_setHC, agr_trans (agr_mono (fun _ _ z => Or.inl z) s9) agr_setHR, Or.inr ⟨nH g, ?_, rfl, rfl, ?_⟩⟩
        · rw [c6, s1]; simp only [Option.bind_some]
          rw [CA]; rfl
        · rw [c7, s2]; simp only [Option.bind_some]
          exact RA
        · show nH g < (I3 (nH g + 1)).toNatClampNeg
          rw [I3_clamp (by omega)]; omega
        · show g3.1 67 19 = _
          exact s9.1 67 19 (by unfold SRt; omega)
  · rw [decide_eq_false fit] at F1
    refine ⟨-1, -I3 4, h, sm_wI g 67 19 4, ?_, ?_, k19 _, (x19 _).1, (x19 _).2, agr_rfl, a19 _, Or.inl ⟨4, Or.inl rfl, rfl, rfl, rfl⟩⟩
    · show F_6_0 _ _ _ _ _ _ h = _
      unfold F_6_0
      rw [F1]; simp only [Option.bind_some]
      rw [if_pos (by decide)]; rfl
    · show F_340_0 _ _ _ _ g = _
      unfold F_340_0 F_340_35
      rw [e21]
      by_cases z : l.length ≤ 10
      · have RF := R_findT wT dr z r
        have on : orN (fT g r l < nT g) (fT g r l) = -1 := if_neg (by omega)
        rw [on] at RF
        rw [if_neg (by rw [I3_lit, I3_lt (by decide) (by omega)]; omega), er, RF]; simp only [Option.bind_some]
        rw [if_pos trivial, e10, if_pos (by rw [show nT g = 300 by omega]; rfl)]
      · rw [if_pos (by rw [I3_lit, I3_lt (by decide) (by omega)]; omega)]; rfl
def mkB (g : sm_H) (m : Nat) : Bool := decide (g.1 87 m = 0 ∧ g.1 86 m = 0 ∧ g.1 84 m = 0 ∧ rs g (tn (g.1 89 m)) = 0)
theorem mkB_iff {g : sm_H} {m : Nat} : mkB g m = true ↔ mkr g m := by unfold mkB mkr; exact decide_eq_true_iff
def suB (g : sm_H) (m : Nat) (t : Int32) (w : Nat) : Bool := if 4 ≤ w then decide (g.1 87 m = 1) else decide (g.1 87 m = 0 ∧ g.1 89 m = t) && (if w = 0 then decide (g.1 86 m = 1) else decide (g.1 86 m = 0) && (mkB g m == decide (w = 3)))
theorem C_mhas {h g : sm_H} (wM : wfM g) (cM : cM h g) {m : Nat} (hm : m < nM g) : F_113 (I3 m) h = some (1, h) := by
  have m100 : nM g ≤ 100 := wM.1.2
  have e : h.1 38 13 = I3 (nM g) := cM.1.trans wM.1.1
  simp (disch := omega) only [F_113_17, F_113_16, F_113_0, F_113, ↓reduceIte, if_true, if_false, ite_self, Option.bind_some, Option.map_some, wI_rd, wJ_rd, wI_2, wJ_1, wJ_22, I3_lit, I3_add, I3_mul, I3_lt, I3_le, I3_inj, I3_nn', I3_n1, I3_n2, m2m1, ldI_I, ldJ_I, ldZ_I, stI_I, stJ_I, true_or, or_true, false_or, or_false, true_and, and_true, false_and, and_false, not_true_eq_false, not_false_eq_true, reduceCtorEq, Nat.reduceEqDiff, Nat.lt_irrefl, Nat.not_lt_zero, Nat.le_refl, Nat.reduceLT, Nat.reduceLeDiff, eq_self, zbbI, bbI0, bbI1, decide_eq_false_iff_not, decide_eq_true_eq, Bool.not_eq_false, Bool.not_eq_true, Bool.not_true, Bool.not_false, cond_true, cond_false, e, show ¬ nM g ≤ m by omega]
theorem C_kindOf {h g : sm_H} (wM : wfM g) (cM : cM h g) {m : Nat} (hm : m < nM g) : F_128 (I3 m) h = some (if g.1 87 m = 1 then g.1 88 m else 0, h) := by
  have m100 : nM g ≤ 100 := wM.1.2
  have H := C_mhas wM cM hm
  have e43 : h.1 43 m = if g.1 87 m = 1 then g.1 88 m else 0 := by
    obtain ⟨-, -, -, -, y5, y6⟩ := cM.2.2 m hm
    rcases (wM.2.2 m hm).2.2.2.2 with ⟨z, -⟩ | ⟨z, -⟩
    · rw [if_pos z]; exact (y5 z).1
    · rw [if_neg (by rw [z]; decide)]; exact (y6 z).1
  show F_128_0 (I3 m) h = _
  unfold F_128_0 F_128_18
  rw [H]; simp only [Option.bind_some]
  rw [if_neg (by decide), ldI_I (by omega) (by omega), e43]; rfl
theorem fld_ne {g : sm_H} (wK : wfK g) (wM : wfM g) {m : Nat} (hm : m < nM g) : ((if g.1 87 m = 1 then g.1 88 m else 0) = 0) = (g.1 87 m = 0) := by
  rcases (wM.2.2 m hm).2.2.2.2 with ⟨z, z2, z3, -⟩ | ⟨z, -⟩
  · rw [if_pos z, z]
    simp only [eq_iff_iff]
    constructor
    · intro q; rw [q] at z3; exact absurd z3 (by decide)
    · intro q; exact absurd q (by decide)
  · rw [if_neg (by rw [z]; decide), z]
theorem C_isMaker {h g : sm_H} (wK : wfK g) (wT : wfT g) (cT : cT h g) (wM : wfM g) (cM : cM h g) {m : Nat} (hm : m < nM g) : F_121 (I3 m) h = some (b2 (mkB g m), h) := by
  have m100 : nM g ≤ 100 := wM.1.2
  have w300 : nT g ≤ 300 := wT.1.2
  have k1 := C_kindOf wM cM hm
  obtain ⟨y1, y2, y3, y4, y5, y6⟩ := cM.2.2 m hm
  have fn := fld_ne wK wM hm
  show F_121_0 (I3 m) h = _
  unfold F_121_0 F_121_46 F_121_47 mkB
  rw [k1]; simp only [Option.bind_some, true_or, or_true, if_true]
  simp only [fn]
  rw [ldZ_I (by omega) (by omega), ldI_I (by omega) (by omega), ldI_I (by omega) (by omega), y4, y2]
  simp only [Option.bind_some]
  rcases (wM.2.2 m hm).2.2.2.2 with ⟨z, -⟩ | ⟨z, -, t, t1, t2⟩
  · rw [if_neg (by rw [z]; decide), decide_eq_false (by rw [z]; rintro ⟨q, -⟩; exact absurd q (by decide))]; rfl
  · have C := C_tres wT cT t1
    have tt : tn (I3 t) = t := I3_clamp (by omega)
    rw [if_pos z, (y6 z).2.2.1, t2, C, tt]
    simp only [Option.bind_some]
    by_cases a : g.1 86 m = 0
    · rw [if_pos a]
      by_cases b : g.1 84 m = 0
      · rw [if_pos b]
        by_cases c : g.1 72 t = 0
        · rw [if_pos c, decide_eq_true ⟨z, a, b, c⟩]; rfl
        · rw [if_neg c, decide_eq_false (fun q => c q.2.2.2)]; rfl
      · rw [if_neg b, decide_eq_false (fun q => b q.2.2.1)]; rfl
    · rw [if_neg a, decide_eq_false (fun q => a q.2.1)]; rfl
theorem R_isMaker {g : sm_H} (wT : wfT g) (wM : wfM g) {m : Nat} (hm : m < nM g) : F_364 (I3 m) g = some (b2 (mkB g m), g) := by
  have m100 : nM g ≤ 100 := wM.1.2
  have w300 : nT g ≤ 300 := wT.1.2
  show F_364_0 (I3 m) g = _
  unfold F_364_0 F_364_45 F_364_46 mkB
  have z0 : (if (0 : Int32) = 0 ∨ (0 : Int32) = 1 then some ((0 : Int32), g) else none) = some (0, g) := if_pos (Or.inl rfl)
  have z1 : (if (1 : Int32) = 0 ∨ (1 : Int32) = 1 then some ((1 : Int32), g) else none) = some (1, g) := if_pos (Or.inr rfl)
  rw [z0, z1, ldZ_I (by omega) (by omega), ldZ_I (by omega) (by omega), ldI_I (by omega) (by omega), ldI_I (by omega) (by omega)]
  simp only [Option.bind_some]
  rcases (wM.2.2 m hm).2.2.2.2 with ⟨z, -⟩ | ⟨z, -, t, t1, t2⟩
  · rw [if_neg (by rw [z]; decide), decide_eq_false (by rw [z]; rintro ⟨q, -⟩; exact absurd q (by decide))]; rfl
  · have tt : tn (I3 t) = t := I3_clamp (by omega)
    rw [if_pos z, t2, ldI_I (by omega) (by omega), tt]
    simp only [Option.bind_some]
    by_cases a : g.1 86 m = 0
    · rw [if_pos a]
      by_cases b : g.1 84 m = 0
      · rw [if_pos b]
        by_cases c : g.1 72 t = 0
        · rw [if_pos c, decide_eq_true ⟨z, a, b, c⟩]; rfl
        · rw [if_neg c, decide_eq_false (fun q => c q.2.2.2)]; rfl
      · rw [if_neg b, decide_eq_false (fun q => b q.2.2.1)]; rfl
    · rw [if_neg a, decide_eq_false (fun q => a q.2.1)]; rfl
theorem C_suits {h g : sm_H} (wK : wfK g) (wT : wfT g) (cT : cT h g) (wM : wfM g) (cM : cM h g) {m : Nat} (hm : m < nM g) (t : Int32) {w : Nat} (hw : w ≤ 8) : F_120 (I3 m) t (I3 w) h = some (b2 (suB g m t w), h) := by
  have m100 : nM g ≤ 100 := wM.1.2
  have k1 := C_kindOf wM cM hm
  have mk := C_isMaker wK wT cT wM cM hm
  obtain ⟨y1, y2, y3, y4, y5, y6⟩ := cM.2.2 m hm
  have fn := fld_ne wK wM hm
  have z0 : (if (0 : Int32) = 0 ∨ (0 : Int32) = 1 then some ((0 : Int32), h) else none) = some (0, h) := if_pos (Or.inl rfl)
  have z1 : (if (1 : Int32) = 0 ∨ (1 : Int32) = 1 then some ((1 : Int32), h) else none) = some (1, h) := if_pos (Or.inr rfl)
  obtain ⟨sb, s1⟩ := (wM.2.2 m hm).2.2.2.1
  show F_120_0 (I3 m) t (I3 w) h = _
  unfold F_120_0 F_120_81 F_120_82 F_120_74 F_120_37 F_120_18 suB
  rw [k1]; simp only [Option.bind_some, true_or, or_true, if_true]
  simp only [fn]
  by_cases c4 : 4 ≤ w
  · rw [if_neg (by rw [I3_lit, I3_lt (by omega) (by decide)]; omega), if_pos c4]
    rcases (wM.2.2 m hm).2.2.2.2 with ⟨z, -⟩ | ⟨z, -⟩
    · rw [if_neg (by rw [z]; decide), decide_eq_true z]; rfl
    · rw [if_pos z, decide_eq_false (by rw [z]; decide)]; rfl
  · rw [if_pos (by rw [I3_lit, I3_lt (by omega) (by decide)]; omega), if_neg c4]
    rcases (wM.2.2 m hm).2.2.2.2 with ⟨z, -⟩ | ⟨z, -⟩
    · rw [if_neg (by rw [z]; decide), decide_eq_false (by rw [z]; rintro ⟨q, -⟩; exact absurd q (by decide))]; rfl
    · rw [if_pos z, ldI_I (by omega) (by omega), (y6 z).2.2.1]; simp only [Option.bind_some]
      by_cases ct : g.1 89 m = t
      · rw [if_pos ct, decide_eq_true ⟨z, ct⟩, Bool.true_and, ldZ_I (by omega) (by omega), y4, s1]; simp only [Option.bind_some]
        by_cases w0 : w = 0
        · rw [if_pos (by rw [w0]; rfl), if_pos w0, if_pos (b2_ok sb)]
          cases sb <;> rfl
        · rw [if_neg (by rw [I3_lit, I3_inj (by omega) (by decide)]; exact w0), if_neg w0, mk]; simp only [Option.bind_some]
          cases sb with
          | true => rw [if_neg (by decide)]; rfl
          | false =>
            rw [if_pos (by decide)]
            by_cases w3 : w = 3
            · rw [if_pos (by rw [w3]; rfl), decide_eq_true w3]
              cases mkB g m <;> rfl
            · rw [if_neg (by rw [I3_lit, I3_inj (by omega) (by decide)]; exact w3), decide_eq_false w3]
              cases mkB g m <;> rfl
      · rw [if_neg ct, decide_eq_false (fun q => ct q.2)]; rfl
theorem R_isSought {g : sm_H} (wT : wfT g) (wM : wfM g) {m : Nat} (hm : m < nM g) (nm t : Int32) {w : Nat} (hw : w ≤ 8) : F_393 (I3 m) nm t (I3 w) g = some (b2 (decide (g.1 84 m = nm) && suB g m t w), g) := by
  have m100 : nM g ≤ 100 := wM.1.2
  have mk := R_isMaker wT wM hm
  have z0 : (if (0 : Int32) = 0 ∨ (0 : Int32) = 1 then some ((0 : Int32), g) else none) = some (0, g) := if_pos (Or.inl rfl)
  have z1 : (if (1 : Int32) = 0 ∨ (1 : Int32) = 1 then some ((1 : Int32), g) else none) = some (1, g) := if_pos (Or.inr rfl)
  obtain ⟨sb, s1⟩ := (wM.2.2 m hm).2.2.2.1
  show F_393_0 (I3 m) nm t (I3 w) g = _
  unfold F_393_0 F_393_92 F_393_93 F_393_85 F_393_44 suB
  rw [ldI_I (by omega) (by omega)]; simp only [Option.bind_some]
  by_cases cn : g.1 84 m = nm
  · rw [if_pos cn, decide_eq_true cn, Bool.true_and, ldZ_I (by omega) (by omega)]; simp only [Option.bind_some]
    by_cases c4 : 4 ≤ w
    · rw [if_neg (by rw [I3_lit, I3_le (by omega) (by decide)]; omega), if_pos c4]
      rcases (wM.2.2 m hm).2.2.2.2 with ⟨z, -⟩ | ⟨z, -⟩
      · rw [z]; rfl
      · rw [z]; rfl
    · rw [if_pos (by rw [I3_lit, I3_le (by omega) (by decide)]; omega), if_neg c4]
      rcases (wM.2.2 m hm).2.2.2.2 with ⟨z, -⟩ | ⟨z, -⟩
      · rw [if_neg (by rw [z]; decide), decide_eq_false (by rw [z]; rintro ⟨q, -⟩; exact absurd q (by decide))]; rfl
      · rw [if_pos z, ldI_I (by omega) (by omega)]; simp only [Option.bind_some]
        by_cases ct : g.1 89 m = t
        · rw [if_pos ct, decide_eq_true ⟨z, ct⟩, Bool.true_and, ldZ_I (by omega) (by omega), s1]; simp only [Option.bind_some]
          by_cases w0 : w = 0
          · rw [if_pos (by rw [w0]; rfl), if_pos w0, if_pos (b2_ok sb)]
            cases sb <;> rfl
          · rw [if_neg (by rw [I3_lit, I3_inj (by omega) (by decide)]; exact w0), if_neg w0, mk]; simp only [Option.bind_some]
            cases sb with
            | true => rw [if_neg (by decide)]; rfl
            | false =>
              rw [if_pos (by decide)]
              by_cases w3 : w = 3
              · rw [if_pos (by rw [w3]; rfl), decide_eq_true w3]
                cases mkB g m <;> rfl
              · rw [if_neg (by rw [I3_lit, I3_inj (by omega) (by decide)]; exact w3), decide_eq_false w3]
                cases mkB g m <;> rfl
        · rw [if_neg ct, decide_eq_false (fun q => ct q.2)]; rfl
  · rw [if_neg cn, decide_eq_false cn]; rfl
def sP (g : sm_H) (c : Nat) (nm t : Int32) (w m : Nat) : Bool := decide (g.1 83 m = I3 c) && (decide (g.1 84 m = nm) && suB g m t w)
theorem C_parentOf {h g : sm_H} (wK : wfK g) (cK : cK h g) {c : Nat} (h1 : 20 ≤ c) (h2 : c < 20 + nC g) : F_61 (I3 c) h = some (I3 (par g (c - 20)), h) := by
  have h12 := wK.2.1
  have C := C_isC (h := h) wK cK (x := c) (by omega)
  rw [decide_eq_true ⟨h1, h2⟩] at C
  have e := (cK.2.1 (c - 20) (by omega)).1
  rw [show 20 + (c - 20) = c by omega] at e
  show F_61_0 (I3 c) h = _
  unfold F_61_0 F_61_18
  rw [C]; simp only [Option.bind_some]
  rw [if_neg (by decide), ldI_I (by omega) (by omega), e, (wK.2.2 (c - 20) (by omega)).1]; rfl
theorem C_inClass {h g : sm_H} (wK : wfK g) (cK : cK h g) (wT : wfT g) (cT : cT h g) (wM : wfM g) (cM : cM h g) {c : Nat} (h1 : 20 ≤ c) (h2 : c < 20 + nC g) (nm t : Int32) {w : Nat} (hw : w ≤ 8) (up : Int32) : F_119_28 nm t (I3 w) (I3 c) up 0 h = some (if fst1 (sP g c nm t w) (nM g) < nM g then .inr (I3 (fst1 (sP g c nm t w) (nM g)), h) else .inl (nm, t, I3 w, (if w = 3 then -1 else I3 (par g (c - 20))), up + 1, h)) := by
  have h12 := wK.2.1
  have m100 : nM g ≤ 100 := wM.1.2
  have e : h.1 38 13 = I3 (nM g) := cM.1.trans wM.1.1
  refine lp_fst (body := F_119_28B) (sP g c nm t w) (nM g) (fun k => (nm, t, I3 w, I3 c, up, I3 k, h)) (fun k => .inr (I3 k, h)) (.inl (nm, t, I3 w, (if w = 3 then -1 else I3 (par g (c - 20))), up + 1, h)) (f := 1000000) (by omega) (fun k hk q => ?_) (fun k hk q => ?_) ?_
  · obtain ⟨y1, y2, y3, y4, y5, y6⟩ := cM.2.2 k hk
    have S := C_suits wK wT cT wM cM hk t hw
    show F_119_28B (nm, t, I3 w, I3 c, up, I3 k, h) = _
    unfold F_119_28B F_119_75
    rw [e, if_neg (by rw [I3_le (by omega) (by omega)]; omega), ldI_I (by omega) (by omega), y1]; simp only [Option.bind_some]
    unfold sP at q
    by_cases c1 : g.1 83 k = I3 c
    · rw [if_pos c1, ldI_I (by omega) (by omega), y2]; simp only [Option.bind_some]
      by_cases c2 : g.1 84 k = nm
      · rw [if_pos c2, S]; simp only [Option.bind_some]
        rw [decide_eq_true c1, decide_eq_true c2, Bool.true_and, Bool.true_and] at q
        rw [q, if_pos (by decide), I3_lit, I3_add]
      · rw [if_neg c2, I3_lit, I3_add]
    · rw [if_neg c1, I3_lit, I3_add]
  · obtain ⟨y1, y2, y3, y4, y5, y6⟩ := cM.2.2 k hk
    have S := C_suits wK wT cT wM cM hk t hw
    unfold sP at q
    simp only [Bool.and_eq_true, decide_eq_true_eq] at q
    obtain ⟨c1, c2, c3⟩ := q
    show F_119_28B (nm, t, I3 w, I3 c, up, I3 k, h) = _
    unfold F_119_28B
    rw [e, if_neg (by rw [I3_le (by omega) (by omega)]; omega), ldI_I (by omega) (by omega), y1]; simp only [Option.bind_some]
    rw [if_pos c1, ldI_I (by omega) (by omega), y2]; simp only [Option.bind_some]
    rw [if_pos c2, S]; simp only [Option.bind_some]
    rw [c3, if_neg (by decide)]
  · have P := C_parentOf wK cK h1 h2
    show F_119_28B (nm, t, I3 w, I3 c, up, I3 (nM g), h) = _
    unfold F_119_28B F_119_100
    rw [e, if_pos (by rw [I3_le (by omega) (by omega)]; omega)]
    by_cases w3 : w = 3
    · rw [if_pos (by rw [w3]; rfl), if_pos w3]; rfl
    · rw [if_neg (by rw [I3_lit, I3_inj (by omega) (by decide)]; exact w3), if_neg w3, P]; rfl
theorem R_inClass {g : sm_H} (wK : wfK g) (wT : wfT g) (wM : wfM g) {c : Nat} (h1 : 20 ≤ c) (h2 : c < 20 + nC g) (nm t : Int32) {w : Nat} (hw : w ≤ 8) : F_394_13 nm t (I3 w) (I3 c) 0 g = some (if fst1 (sP g c nm t w) (nM g) < nM g then .inr (I3 (fst1 (sP g c nm t w) (nM g)), g) else .inl (nm, t, I3 w, (if w = 3 then -1 else I3 (par g (c - 20))), g)) := by
  have h12 := wK.2.1
  have m100 : nM g ≤ 100 := wM.1.2
  have e : g.1 67 32 = I3 (nM g) := wM.1.1
  refine lp_fst (body := F_394_13B) (sP g c nm t w) (nM g) (fun k => (nm, t, I3 w, I3 c, I3 k, g)) (fun k => .inr (I3 k, g)) (.inl (nm, t, I3 w, (if w = 3 then -1 else I3 (par g (c - 20))), g)) (f := 1000000) (by omega) (fun k hk q => ?_) (fun k hk q => ?_) ?_
  · have S := R_isSought wT wM hk nm t hw
    show F_394_13B (nm, t, I3 w, I3 c, I3 k, g) = _
    unfold F_394_13B F_394_50
    rw [e, if_neg (by rw [I3_le (by omega) (by omega)]; omega), ldI_I (by omega) (by omega)]; simp only [Option.bind_some]
    unfold sP at q
    by_cases c1 : g.1 83 k = I3 c
    · rw [decide_eq_true c1, Bool.true_and] at q
      rw [if_pos c1, S, q]; simp only [Option.bind_some]
      rw [if_pos (by decide), I3_lit, I3_add]
    · rw [if_neg c1, I3_lit, I3_add]
  · have S := R_isSought wT wM hk nm t hw
    unfold sP at q
    rw [Bool.and_eq_true, decide_eq_true_eq] at q
    obtain ⟨c1, c2⟩ := q
    show F_394_13B (nm, t, I3 w, I3 c, I3 k, g) = _
    unfold F_394_13B
    rw [e, if_neg (by rw [I3_le (by omega) (by omega)]; omega), ldI_I (by omega) (by omega)]; simp only [Option.bind_some]
    rw [if_pos c1, S, c2]; simp only [Option.bind_some]
    rw [if_neg (by decide)]
  · show F_394_13B (nm, t, I3 w, I3 c, I3 (nM g), g) = _
    unfold F_394_13B F_394_76
    rw [e, if_pos (by rw [I3_le (by omega) (by omega)]; omega)]
    by_cases w3 : w = 3
    · rw [if_pos (by rw [w3]; rfl), if_pos w3]; rfl
    · rw [if_neg (by rw [I3_lit, I3_inj (by omega) (by decide)]; exact w3), if_neg w3, I3_lit, I3_sub h1, ldI_I (by omega) (by omega), (wK.2.2 (c - 20) (by omega)).1]; rfl
theorem sought2 {h g : sm_H} (wK : wfK g) (cK : cK h g) (wT : wfT g) (cT : cT h g) (wM : wfM g) (cM : cM h g) (nm t : Int32) {w : Nat} (hw : w ≤ 8) : ∀ c, 20 ≤ c → c < 20 + nC g → ∃ r, (∀ up f, up + c ≤ 31 → c < f → lp F_119_6B f (nm, t, I3 w, I3 c, I3 up, h) = some (r, h)) ∧ (∀ f, c < f → lp F_394_3B f (nm, t, I3 w, I3 c, g) = some (r, g)) ∧ (r = -1 ∨ ∃ m d, m < nM g ∧ r = I3 m ∧ 20 ≤ d ∧ d < 20 + nC g ∧ B g c d = true ∧ (w = 3 → d = c) ∧ sP g d nm t w m = true ∧ ∀ n, n < m → sP g d nm t w n = false) := by
  have h12 := wK.2.1
  intro c
  induction c using Nat.strongRecOn with
  | ind c ih =>
  intro h1 h2
  have CC := C_isC (h := h) wK cK (x := c) (by omega)
  rw [decide_eq_true ⟨h1, h2⟩] at CC
  have ⟨s1, s2, s3⟩ := fst1_spec (sP g c nm t w) (nM g)
  have step1 : ∀ up, up + c ≤ 31 → F_119_6B (nm, t, I3 w, I3 c, I3 up, h) = some (if fst1 (sP g c nm t w) (nM g) < nM g then .inr (I3 (fst1 (sP g c nm t w) (nM g)), h) else .inl (nm, t, I3 w, (if w = 3 then -1 else I3 (par g (c - 20))), I3 (up + 1), h)) := fun up hu => by
    have := C_inClass wK cK wT cT wM cM h1 h2 nm t hw (I3 up)
    have e1 : I3 up + 1 = I3 (up + 1) := by rw [I3_lit, I3_add]
    rw [e1] at this
    show F_119_6B (nm, t, I3 w, I3 c, I3 up, h) = _
    unfold F_119_6B
    rw [if_neg (by rw [I3_lit, I3_le (by decide) (by omega)]; omega), CC]; simp only [Option.bind_some]
    rw [if_neg (by decide)]; exact this
  have step2 : F_394_3B (nm, t, I3 w, I3 c, g) = some (if fst1 (sP g c nm t w) (nM g) < nM g then .inr (I3 (fst1 (sP g c nm t w) (nM g)), g) else .inl (nm, t, I3 w, (if w = 3 then -1 else I3 (par g (c - 20))), g)) := by
    have := R_inClass wK wT wM h1 h2 nm t hw
    show F_394_3B (nm, t, I3 w, I3 c, g) = _
    unfold F_394_3B
    rw [if_neg (by rw [I3_lit, I3_lt (by omega) (by decide)]; omega)]; exact this
  by_cases q : fst1 (sP g c nm t w) (nM g) < nM g
  · refine ⟨I3 (fst1 (sP g c nm t w) (nM g)), fun up f hu hf => ?_, fun f hf => ?_, Or.inr ⟨_, c, q, rfl, h1, h2, B_self g 12 c, fun _ => rfl, s3 q, fun n hn => s2 n hn⟩⟩
    · have := step1 up hu
      rw [if_pos q] at this
      exact lp_e (by omega) this
    · rw [if_pos q] at step2
      exact lp_e (by omega) step2
  · rw [if_neg q] at step2
    have stop1 : ∀ (x : Int32) (up : Int32) (f : Nat), F_55 x h = some (0, h) → 0 < f → lp F_119_6B f (nm, t, I3 w, x, up, h) = some (-1, h) := fun x up f e hf => by
      refine lp_e hf ?_
      show F_119_6B (nm, t, I3 w, x, up, h) = _
      unfold F_119_6B F_119_108
      rw [e]; simp only [Option.bind_some]
      by_cases z : 32 ≤ up
      · rw [if_pos z]; rfl
      · rw [if_neg z, if_pos (by decide)]; rfl
    have stop2 : ∀ (x : Int32) (f : Nat), x < 20 → 0 < f → lp F_394_3B f (nm, t, I3 w, x, g) = some (-1, g) := fun x f e hf => by
      refine lp_e hf ?_
      show F_394_3B (nm, t, I3 w, x, g) = _
      unfold F_394_3B
      rw [if_pos e]
    by_cases w3 : w = 3
    · rw [if_pos w3] at step2
      refine ⟨-1, fun up f hu hf => ?_, fun f hf => ?_, Or.inl rfl⟩
      · have := step1 up hu
        rw [if_neg q, if_pos w3] at this
        rw [lp_s (by omega) this]
        exact stop1 _ _ _ (C_isC_n (by decide)) (by omega)
      · rw [lp_s (by omega) step2]
        exact stop2 _ _ (by decide) (by omega)
    · rw [if_neg w3] at step2
      have pp := (wK.2.2 (c - 20) (by omega)).2
      have np : B g c (par g (c - 20)) = true ∨ True := Or.inr trivial
      by_cases p20 : 20 ≤ par g (c - 20)
      · obtain ⟨r, r1, r2, r3⟩ := ih (par g (c - 20)) (by omega) p20 (by omega)
        refine ⟨r, fun up f hu hf => ?_, fun f hf => ?_, ?_⟩
        · have := step1 up hu
          rw [if_neg q, if_neg w3] at this
          rw [lp_s (by omega) this]
          exact r1 (up + 1) (f - 1) (by omega) (by omega)
        · rw [lp_s (by omega) step2]
          exact r2 (f - 1) (by omega)
        · rcases r3 with z | ⟨m, d, z1, z2, z3, z4, z5, z6, z7, z8⟩
          · exact Or.inl z
          · refine Or.inr ⟨m, d, z1, z2, z3, z4, ?_, fun z => absurd z w3, z7, z8⟩
            rw [B_ge20 wK h2 h1, z5, Bool.or_true]
      · have nc : F_55 (I3 (par g (c - 20))) h = some (0, h) := by
          rw [C_isC wK cK (by omega), decide_eq_false (by omega)]; rfl
        refine ⟨-1, fun up f hu hf => ?_, fun f hf => ?_, Or.inl rfl⟩
        · have := step1 up hu
          rw [if_neg q, if_neg w3] at this
          rw [lp_s (by omega) this]
          exact stop1 _ _ _ nc (by omega)
        · rw [lp_s (by omega) step2]
          exact stop2 _ _ (by rw [I3_lit, I3_lt (by omega) (by decide)]; omega) (by omega)
theorem B_trans {g : sm_H} (wK : wfK g) {y z : Nat} (hy : 20 ≤ y) (hyz : B g y z = true) : ∀ x, x < 20 + nC g → B g x y = true → B g x z = true := by
  intro x
  induction x using Nat.strongRecOn with
  | ind x ih =>
  intro hx hxy
  rcases Nat.lt_or_ge x 20 with c | c
  · rw [B_lt20 c, kB_eq (by omega) (by omega)] at hxy
    have := of_decide_eq_true hxy
    omega
  · rw [B_ge20 wK hx c] at hxy ⊢
    have pp := (wK.2.2 (x - 20) (by omega)).2
    rw [Bool.or_eq_true] at hxy
    rcases hxy with q | q
    · have := Nat.eq_of_beq_eq_true q
      subst this
      rw [B_ge20 wK hx c] at hyz
      exact hyz
    · rw [ih (par g (x - 20)) (by omega) (by omega) q, Bool.or_true]
def rcB (g : sm_H) (a m : Nat) : Bool := if g.1 85 m = 0 then decide (I3 (20 + a) = g.1 83 m) else if g.1 85 m = 1 then decide (g.1 71 a = g.1 71 (tn (g.1 83 m) - 20)) else if g.1 85 m = 2 then decide (g.1 71 a = g.1 71 (tn (g.1 83 m) - 20)) || B g (20 + a) (tn (g.1 83 m)) else true
theorem reaches2 {h g : sm_H} (wK : wfK g) (cK : cK h g) (wM : wfM g) (cM : cM h g) {a m : Nat} (ha : a < nC g) (hm : m < nM g) : F_123 (I3 (20 + a)) (I3 m) h = some (b2 (rcB g a m), h) ∧ F_392 (I3 (20 + a)) (I3 m) g = some (b2 (rcB g a m), g) := by
  have h12 := wK.2.1
  have m100 : nM g ≤ 100 := wM.1.2
  obtain ⟨⟨d, d1, d2⟩, -, r1, -⟩ := wM.2.2 m hm
  obtain ⟨y1, y2, y3, y4, y5, y6⟩ := cM.2.2 m hm
  have td : tn (I3 (20 + d)) = 20 + d := I3_clamp (by omega)
  have C1 := C_isC (h := h) wK cK (x := 20 + a) (by omega)
  have C2 := C_isC (h := h) wK cK (x := 20 + d) (by omega)
  rw [decide_eq_true (by omega)] at C1 C2
  have p1 := (cK.2.1 a ha).2
  have p2 := (cK.2.1 d d1).2
  have CB := C_belowN wK cK (x := 20 + a) (y := 20 + d) (by omega) (by omega)
  have RB := R_below wK (x := 20 + a) (o := 20 + d) (by omega) (by omega)
  have z0 : ∀ g : sm_H, (if (0 : Int32) = 0 ∨ (0 : Int32) = 1 then some ((0 : Int32), g) else none) = some (0, g) := fun g => if_pos (Or.inl rfl)
  have z1 : ∀ g : sm_H, (if (1 : Int32) = 0 ∨ (1 : Int32) = 1 then some ((1 : Int32), g) else none) = some (1, g) := fun g => if_pos (Or.inr rfl)
  have SP : F_62 (I3 (20 + a)) (I3 (20 + d)) h = some (b2 (decide (g.1 71 a = g.1 71 d)), h) := by
    show F_62_0 _ _ h = _
    unfold F_62_0 F_62_35 F_62_36
    rw [C1]; simp only [Option.bind_some]
    rw [if_neg (by decide), C2]; simp only [Option.bind_some]
    rw [if_neg (by decide), ldI_I (by omega) (by omega), ldI_I (by omega) (by omega), p1, p2]; simp only [Option.bind_some, true_or, or_true, if_true]
    by_cases c : g.1 71 a = g.1 71 d
    · rw [if_pos c, decide_eq_true c]; rfl
    · rw [if_neg c, decide_eq_false c]; rfl
  unfold rcB
  rw [d2, td, show 20 + d - 20 = d by omega]
  constructor
  · show F_123_0 _ _ h = _
    unfold F_123_0 F_123_85 F_123_90 F_123_50
    rw [ldI_I (by omega) (by omega), ldI_I (by omega) (by omega), y1, y3, d2]; simp only [Option.bind_some, true_or, or_true, if_true]
    by_cases q0 : g.1 85 m = 0
    · rw [if_pos q0, if_pos q0]
      by_cases q : I3 (20 + a) = I3 (20 + d)
      · rw [if_pos q, decide_eq_true q]; rfl
      · rw [if_neg q, decide_eq_false q]; rfl
    · rw [if_neg q0, if_neg q0, SP]; simp only [Option.bind_some]
      by_cases q1 : g.1 85 m = 1
      · rw [if_pos q1, if_pos q1, if_pos (b2_ok _)]
      · rw [if_neg q1, if_neg q1]
        by_cases q2 : g.1 85 m = 2
        · rw [if_pos q2, if_pos q2, CB]; simp only [Option.bind_some]
          cases decide (g.1 71 a = g.1 71 d) with
          | true => rfl
          | false => cases B g (20 + a) (20 + d) <;> rfl
        · rw [if_neg q2, if_neg q2]; rfl
  · show F_392_0 _ _ g = _
    unfold F_392_0
    rw [ldI_I (by omega) (by omega), d2]; simp only [Option.bind_some]
    rw [I3_lit, I3_sub (by omega), I3_sub (by omega), show 20 + a - 20 = a by omega, show 20 + d - 20 = d by omega, ldI_I (by omega) (by omega), ldI_I (by omega) (by omega)]; simp only [Option.bind_some]
    have u : (if g.1 71 a = g.1 71 d then F_392_33 (I3 (20 + a)) (I3 m) (I3 (20 + d)) 1 g else F_392_33 (I3 (20 + a)) (I3 m) (I3 (20 + d)) 0 g) = F_392_33 (I3 (20 + a)) (I3 m) (I3 (20 + d)) (b2 (decide (g.1 71 a = g.1 71 d))) g := by
      by_cases c : g.1 71 a = g.1 71 d
      · rw [if_pos c, decide_eq_true c]; rfl
      · rw [if_neg c, decide_eq_false c]; rfl
    refine Eq.trans u ?_
    unfold F_392_33 F_392_96 F_392_101 F_392_78
    rw [ldI_I (by omega) (by omega)]; simp only [Option.bind_some, true_or, or_true, if_true]
    by_cases q0 : g.1 85 m = 0
    · rw [if_pos q0, if_pos q0]
      by_cases q : I3 (20 + a) = I3 (20 + d)
      · rw [if_pos q, decide_eq_true q]; rfl
      · rw [if_neg q, decide_eq_false q]; rfl
    · rw [if_neg q0, if_neg q0]
      by_cases q1 : g.1 85 m = 1
      · rw [if_pos q1, if_pos q1, if_pos (b2_ok _)]
      · rw [if_neg q1, if_neg q1]
        by_cases q2 : g.1 85 m = 2
        · rw [if_pos q2, if_pos q2, RB]; simp only [Option.bind_some]
          cases decide (g.1 71 a = g.1 71 d) with
          | true => rfl
          | false => cases B g (20 + a) (20 + d) <;> rfl
        · rw [if_neg q2, if_neg q2]; rfl
