theorem cnt_inR {x : Int32} {n : Nat} (hn : n < 2147483648) (h : inR x (n + 1) = true) : cnt x n := by
  obtain ⟨a, z1, z2⟩ := inR_x (by omega) h
  rw [z2]; exact cnt_up (by omega) hn
theorem field2 (x1 x2 x3 : Int32) (st : Bool) (x5 : Int32) (h g : sm_H) (I : I1 h g) : ∃ v h1 g1, F_267 x1 x2 x3 (b2 st) x5 h = some (v, h1) ∧ F_390 x1 x2 x3 (b2 st) x5 g = some (v, g1) ∧ I1 h1 g1 ∧ kR h h1 ∧ kC g g1 := by
  obtain ⟨wK, cK, wT, cT, wH, cH, wM, cM, cR, cP, cG, cO, cV, wX, cX, cXh, cU, cY, cF, cZ, wF⟩ := id I
  have h12 := wK.2.1
  have s24 : nS g ≤ 24 := wM.2.1.2
  have m100 : nM g ≤ 100 := wM.1.2
  have x1000 : nX g ≤ 1000 := wX.1.2
  have e33 : g.1 67 33 = I3 (nS g) := wM.2.1.1
  have e32 : g.1 67 32 = I3 (nM g) := wM.1.1
  have c13 : h.1 38 13 = I3 (nM g) := cM.1.trans e32
  have c14 : h.1 38 14 = I3 (nS g) := cM.2.1.trans e33
  have V3 := C_hasV wK cK x3
  have MN := C_misnamed (h := h) x2 x5
  have R3 := R_kind (g := sm_wI g 67 19 0) wK x3
  have nCe : nC (sm_wI g 67 19 0) = nC g := rfl
  rw [nCe] at R3
  have RN := R_out99 (h := sm_wI g 67 19 0) x2
  have RT := R_out3 (h := sm_wI g 67 19 0) x5
  have ref : ∀ n : Nat, 0 < n → n < 100 → F_114 x1 x2 x3 (b2 st) x5 h = some (-I3 n, h) → F_390 x1 x2 x3 (b2 st) x5 g = some (-1, sm_wI (sm_wI g 67 19 0) 67 19 (I3 n)) → ∃ v h1 g1, F_267 x1 x2 x3 (b2 st) x5 h = some (v, h1) ∧ F_390 x1 x2 x3 (b2 st) x5 g = some (v, g1) ∧ I1 h1 g1 ∧ kR h h1 ∧ kC g g1 := fun n n1 n2 a b => by
    obtain ⟨r1, r2, r3⟩ := refuse2 I n
    refine ⟨-1, _, _, ?_, b, r1, r2, r3⟩
    show F_267_0 x1 x2 x3 (b2 st) x5 h = _
    unfold F_267_0
    rw [a]
    simp only [Option.bind_some]
    rw [C_judgeN n1 (by omega)]; rfl
  rcases isC_c g wK x1 with ⟨c, rfl, c1, c2, c3⟩ | ⟨c2, c3⟩
  · have c2 := c2 h cK
    have c3 := c3 (sm_wI g 67 19 0) wK rfl
    cases kv : kV g x3 with
    | false =>
      rw [kv] at V3
      refine ref 1 (by decide) (by decide) ?_ ?_
      · show F_114_0 _ _ _ _ _ h = _
        unfold F_114_0
        rw [c2]; simp only [Option.bind_some]
        rw [if_neg (by decide), V3]; simp only [Option.bind_some]
        rw [if_pos (by decide)]; rfl
      · show F_390_0 _ _ _ _ _ g = _
        unfold F_390_0
        simp only [Option.bind_some]
        rw [c3]; simp only [Option.bind_some]
        rw [if_neg (by decide), R3]; simp only [Option.bind_some]
        unfold kV at kv
        cases q : inR x3 (20 + nC g) with
        | false => rw [if_pos (by decide)]; rfl
        | true =>
          rw [q, Bool.true_and] at kv
          have : x3 = 0 := Classical.not_not.mp (of_decide_eq_false kv)
          rw [if_neg (by decide), if_pos this]; rfl
    | true =>
      rw [kv] at V3
      obtain ⟨q, rfl, q1, q2⟩ := (kV_iff wK).mp kv
      have q3 : ¬ I3 q = 0 := by rw [I3_lit, I3_inj (by omega) (by decide)]; omega
      rw [show inR (I3 q) (20 + nC g) = true by rw [inR_I (by omega)]; simp [q2]] at R3
      have pre1 : F_114 (I3 (20 + c)) x2 (I3 q) (b2 st) x5 h = if b2 (!(inR x2 100 && inR x5 4)) = 0 then (if 100 ≤ (h.1 38 13) then (F_114_60 h) else (if b2 st = 0 then (if (h.1 38 14) < 24 then (F_114_63 (I3 (20 + c)) x2 (I3 q) (b2 st) x5 h) else (F_114_60 h)) else (F_114_63 (I3 (20 + c)) x2 (I3 q) (b2 st) x5 h))) else (some ((-2), h)) := by
        show F_114_0 _ _ _ _ _ h = _
        unfold F_114_0
        rw [c2]; simp only [Option.bind_some]
        rw [if_neg (by decide), V3]; simp only [Option.bind_some]
        rw [if_neg (by decide), MN]; simp only [Option.bind_some]
      have pre2 : F_390 (I3 (20 + c)) x2 (I3 q) (b2 st) x5 g = if b2 (!inR x2 100) = 0 then (if b2 (!inR x5 4) = 0 then (if ((sm_wI g 67 19 0).1 67 32) = 100 then (F_390_85 (sm_wI g 67 19 0)) else (if b2 st = 0 then (if ((sm_wI g 67 19 0).1 67 33) = 24 then (F_390_85 (sm_wI g 67 19 0)) else (F_390_91 (I3 (20 + c)) x2 (I3 q) (b2 st) x5 (sm_wI g 67 19 0))) else (F_390_91 (I3 (20 + c)) x2 (I3 q) (b2 st) x5 (sm_wI g 67 19 0)))) else (F_390_56 (sm_wI g 67 19 0))) else (F_390_56 (sm_wI g 67 19 0)) := by
        show F_390_0 _ _ _ _ _ g = _
        unfold F_390_0
        simp only [Option.bind_some]
        rw [c3]; simp only [Option.bind_some]
        rw [if_neg (by decide), R3]; simp only [Option.bind_some]
        rw [if_neg (by decide), if_neg q3, RN]; simp only [Option.bind_some]
        rw [RT]; simp only [Option.bind_some]
      cases i2 : inR x2 100 with
      | false =>
        rw [i2] at pre1 pre2
        exact ref 2 (by decide) (by decide) (by rw [pre1]; rfl) (by rw [pre2]; rfl)
      | true =>
        cases i5 : inR x5 4 with
        | false =>
          rw [i2, i5] at pre1 pre2
          exact ref 2 (by decide) (by decide) (by rw [pre1]; rfl) (by rw [pre2]; rfl)
        | true =>
          rw [i2, i5] at pre1 pre2
          rw [if_pos (show b2 (!(true && true)) = 0 by decide)] at pre1
          rw [if_pos (show b2 (!true) = 0 by decide), if_pos (show b2 (!true) = 0 by decide)] at pre2
          have g32 : (sm_wI g 67 19 0).1 67 32 = I3 (nM g) := e32
          have g33 : (sm_wI g 67 19 0).1 67 33 = I3 (nS g) := e33
          rw [c13, c14] at pre1
          rw [g32, g33] at pre2
          by_cases full : nM g = 100
          · rw [if_pos (by rw [I3_lit, I3_le (by decide) (by omega)]; omega)] at pre1
            rw [if_pos (by rw [full]; rfl)] at pre2
            exact ref 5 (by decide) (by decide) pre1 pre2
          · rw [if_neg (by rw [I3_lit, I3_le (by decide) (by omega)]; omega)] at pre1
            rw [if_neg (by rw [I3_lit, I3_inj (by omega) (by decide)]; exact full)] at pre2
            have FI := field_I I (st := st) (of := I3 (20 + c)) (nm := x2) (rt := x5) (q := q) (by omega)
            have CF := C_fld (h := h) (n := nM g) (s := nS g) (by omega) s24 c13 c14 st (I3 (20 + c)) x2 (I3 q) x5
            have kRr : kR h (sm_wI (fldC h (nM g) (nS g) st (I3 (20 + c)) x2 (I3 q) x5) 0 12 0) := kR_agr (S := fun b _ => b < 67) (agr_wI (agr_mono (fun b j z => by omega) agr_fldC) (by decide)) (fun b j z => by omega)
            have go : ∀ g1, F_114 (I3 (20 + c)) x2 (I3 q) (b2 st) x5 h = F_114_63 (I3 (20 + c)) x2 (I3 q) (b2 st) x5 h → F_390 (I3 (20 + c)) x2 (I3 q) (b2 st) x5 g = some (I3 (nM g), g1) → I1 (sm_wI (fldC h (nM g) (nS g) st (I3 (20 + c)) x2 (I3 q) x5) 0 12 0) g1 → kC g g1 → ∃ v h1 g1, F_267 (I3 (20 + c)) x2 (I3 q) (b2 st) x5 h = some (v, h1) ∧ F_390 (I3 (20 + c)) x2 (I3 q) (b2 st) x5 g = some (v, g1) ∧ I1 h1 g1 ∧ kR h h1 ∧ kC g g1 := fun g1 a b i k => by
              refine ⟨_, _, g1, ?_, b, i, kRr, k⟩
              show F_267_0 _ _ _ _ _ h = _
              unfold F_267_0
              rw [a, CF]; simp only [Option.bind_some]
              rw [C_judge (by omega)]; rfl
            have zz := R_zero (g := sm_wI (sm_wI (sm_wI (sm_wI (sm_wI (sm_wI (sm_wI g 67 19 (I3 0)) 83 (nM g) (I3 (20 + c))) 84 (nM g) x2) 85 (nM g) x5) 86 (nM g) (b2 st)) 87 (nM g) (I3 1)) 88 (nM g) (I3 q)) (q := q) (by omega)
            have o : ∃ c', c' < nC g ∧ I3 (20 + c) = I3 (20 + c') := ⟨c, c1, rfl⟩
            cases st with
            | true =>
              rw [if_neg (show ¬ b2 true = 0 by decide)] at pre1 pre2
              refine go _ pre1 ?_ (FI (fun z => by cases z) o (cnt_inR (by decide) i2) (cnt_inR (by decide) i5) q1 q2) ?_
              · rw [pre2]
                show _ = some (I3 (nM g), sm_wI (fldR0 g (nM g) true (I3 (20 + c)) x2 (I3 q) x5) 67 32 (I3 (nM g + 1)))
                simp (disch := omega) only [↓reduceIte, if_true, if_false, ite_self, Option.bind_some, Option.map_some, wI_rd, wJ_rd, wI_2, wJ_1, wJ_22, I3_lit, I3_add, I3_mul, I3_lt, I3_le, I3_inj, I3_nn', I3_n1, I3_n2, m2m1, ldI_I, ldJ_I, ldZ_I, stI_I, stJ_I, true_or, or_true, false_or, or_false, true_and, and_true, false_and, and_false, not_true_eq_false, not_false_eq_true, reduceCtorEq, Nat.reduceEqDiff, Nat.lt_irrefl, Nat.not_lt_zero, Nat.le_refl, Nat.reduceLT, Nat.reduceLeDiff, eq_self, zbbI, bbI0, bbI1, decide_eq_false_iff_not, decide_eq_true_eq, Bool.not_eq_false, Bool.not_eq_true, Bool.not_true, Bool.not_false, cond_true, cond_false, F_390_91, F_390_251, F_389_0, F_389, e32, stZ_I, stZ_1, zz, I3_sub, Nat.add_sub_cancel]
                rfl
              · exact kC_agr (S := fun b _ => 67 ≤ b ∧ b ≤ 101) (agr_wI agr_fldR0 (by decide)) (fun b j z => by omega)
            | false =>
              rw [if_pos (show b2 false = 0 by decide)] at pre1 pre2
              by_cases f2 : nS g = 24
              · rw [if_neg (by rw [I3_lit, I3_lt (by omega) (by decide)]; omega)] at pre1
                rw [if_pos (by rw [f2]; rfl)] at pre2
                exact ref 5 (by decide) (by decide) pre1 pre2
              · rw [if_pos (by rw [I3_lit, I3_lt (by omega) (by decide)]; omega)] at pre1
                rw [if_neg (by rw [I3_lit, I3_inj (by omega) (by decide)]; exact f2)] at pre2
                have LL := R_fldLoop (g := sm_wI (fldR0 g (nM g) false (I3 (20 + c)) x2 (I3 q) x5) 91 (nM g) (I3 (nS g))) (n := nM g) (s := nS g) (x := nX g) (v := zk (I3 q)) wX.1.1 x1000 e33 (by omega) e32 (by omega) rfl rfl (fun t ht => by
                  rcases (wX.2.1 t ht).2 with ⟨k, k1, k2, k3, -⟩ | ⟨k, k1, k2, k3, -⟩
                  · exact ⟨k, k3, by omega⟩
                  · exact ⟨k, k3, by omega⟩)
                refine go _ pre1 ?_ (FI (fun _ => by omega) o (cnt_inR (by decide) i2) (cnt_inR (by decide) i5) q1 q2) ?_
                · rw [pre2]
                  refine Eq.trans ?_ LL
                  simp (disch := omega) only [↓reduceIte, if_true, if_false, ite_self, Option.bind_some, Option.map_some, wI_rd, wJ_rd, wI_2, wJ_1, wJ_22, I3_lit, I3_add, I3_mul, I3_lt, I3_le, I3_inj, I3_nn', I3_n1, I3_n2, m2m1, ldI_I, ldJ_I, ldZ_I, stI_I, stJ_I, true_or, or_true, false_or, or_false, true_and, and_true, false_and, and_false, not_true_eq_false, not_false_eq_true, reduceCtorEq, Nat.reduceEqDiff, Nat.lt_irrefl, Nat.not_lt_zero, Nat.le_refl, Nat.reduceLT, Nat.reduceLeDiff, eq_self, zbbI, bbI0, bbI1, decide_eq_false_iff_not, decide_eq_true_eq, Bool.not_eq_false, Bool.not_eq_true, Bool.not_true, Bool.not_false, cond_true, cond_false, F_390_91, F_389_0, F_389, e32, e33, stZ_I, stZ_1, zz]
                  rfl
                · exact kC_agr (S := fun b _ => 67 ≤ b ∧ b ≤ 101) (agr_wI (agr_wI (agr_wAJ (agr_wA (agr_wI agr_fldR0 (by decide)) (fun _ => by decide)) (fun _ => by decide)) (by decide)) (by decide)) (fun b j z => by omega)
  · have c2 := c2 h cK
    have c3 := c3 (sm_wI g 67 19 0) wK rfl
    refine ref 1 (by decide) (by decide) ?_ ?_
    · show F_114_0 _ _ _ _ _ h = _
      unfold F_114_0
      rw [c2]; simp only [Option.bind_some]
      rw [if_pos trivial]; rfl
    · show F_390_0 _ _ _ _ _ g = _
      unfold F_390_0
      simp only [Option.bind_some]
      rw [c3]; simp only [Option.bind_some]
      rw [if_pos trivial]; rfl
theorem op_field {h : sm_H} (x1 x2 x3 : Int32) (st : Bool) (x5 : Int32) (I : I0 h) : ∃ v h1 h2, F_267 x1 x2 x3 (b2 st) x5 h = some (v, h1) ∧ F_390 x1 x2 x3 (b2 st) x5 h1 = some (v, h2) ∧ I0 h2 := op_of2 (field2 x1 x2 x3 st x5) I
