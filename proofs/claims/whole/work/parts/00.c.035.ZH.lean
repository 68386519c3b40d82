theorem R_out8 {h : sm_H} (x : Int32) : F_315 x.toInt64 0 8 h = some (b2 (!inR x 9), h) := R_outI (n := 9) (by decide) x
theorem find2 (x1 x2 x3 x4 x5 : Int32) (h g : sm_H) (I : I1 h g) : ∃ v h1 g1, F_269 x1 x2 x3 x4 x5 h = some (v, h1) ∧ F_395 x1 x2 x3 x4 x5 g = some (v, g1) ∧ I1 h1 g1 ∧ kR h h1 ∧ kC g g1 := by
  have K := (I1_K.mp I).1
  obtain ⟨wK, cK, wT, cT, wH, cH, wM, cM, cG, cO, cV, wX, cX, cXh, wF⟩ := id K
  have h12 := wK.2.1
  have m100 : nM g ≤ 100 := wM.1.2
  have ref : ∀ n : Nat, 0 < n → n < 100 → F_118 x1 x2 x3 x4 x5 h = some (-I3 n, h) → F_395 x1 x2 x3 x4 x5 g = some (-1, sm_wI (sm_wI g 67 19 0) 67 19 (I3 n)) → ∃ v h1 g1, F_269 x1 x2 x3 x4 x5 h = some (v, h1) ∧ F_395 x1 x2 x3 x4 x5 g = some (v, g1) ∧ I1 h1 g1 ∧ kR h h1 ∧ kC g g1 := fun n n1 n2 a b => by
    obtain ⟨r1, r2, r3⟩ := refuse2 I n
    refine ⟨-1, _, _, ?_, b, r1, r2, r3⟩
    show F_269_0 x1 x2 x3 x4 x5 h = _
    unfold F_269_0
    rw [a]
    simp only [Option.bind_some]
    rw [C_judgeN n1 (by omega)]; rfl
  have HT := C_hasT wT cT x4
  have RT : F_303 x4 (sm_wI g 67 19 0) = some (b2 (inR x4 (nT g)), sm_wI g 67 19 0) := R_isT (g := sm_wI g 67 19 0) wT x4
  have R8 := R_out8 (h := sm_wI g 67 19 0) x5
  have R99 := R_out99 (h := sm_wI g 67 19 0) x3
  rcases isC_c g wK x1 with ⟨a, rfl, a1, a2, a3⟩ | ⟨a2, a3⟩
  · have a2 := a2 h cK
    have a3 := a3 (sm_wI g 67 19 0) wK rfl
    rcases isC_c g wK x2 with ⟨o, rfl, o1, o2, o3⟩ | ⟨o2, o3⟩
    · have o2 := o2 h cK
      have o3 := o3 (sm_wI g 67 19 0) wK rfl
      have pre1 : F_118 (I3 (20 + a)) (I3 (20 + o)) x3 x4 x5 h = (if x5 < 0 then (F_118_34 h) else (if x5 ≤ 8 then (if 4 ≤ x5 then (F_118_56 (I3 (20 + a)) (I3 (20 + o)) x3 x4 x5 h) else ((F_224 x4 h).bind fun q9 => if q9.1 = 0 then (some ((-1), q9.2)) else (F_118_56 (I3 (20 + a)) (I3 (20 + o)) x3 x4 x5 q9.2))) else (F_118_34 h))) := by
        show F_118_0 _ _ _ _ _ h = _
        unfold F_118_0
        rw [a2]; simp only [Option.bind_some]
        rw [if_neg (by decide), o2]; simp only [Option.bind_some]
        rw [if_neg (by decide)]
      have pre2 : F_395 (I3 (20 + a)) (I3 (20 + o)) x3 x4 x5 g = (if 4 ≤ x5 then (F_395_36 (I3 (20 + a)) (I3 (20 + o)) x3 x4 x5 (sm_wI g 67 19 0)) else ((F_303 x4 (sm_wI g 67 19 0)).bind fun q24 => if q24.1 = 0 then (F_395_49 q24.2) else (F_395_36 (I3 (20 + a)) (I3 (20 + o)) x3 x4 x5 q24.2))) := by
        show F_395_0 _ _ _ _ _ g = _
        unfold F_395_0
        simp only [Option.bind_some]
        rw [a3]; simp only [Option.bind_some]
        rw [if_neg (by decide), o3]; simp only [Option.bind_some]
        rw [if_neg (by decide)]
      rw [HT] at pre1; simp only [Option.bind_some] at pre1
      rw [RT] at pre2; simp only [Option.bind_some] at pre2
      have out1 : inR x5 9 = false → F_395_36 (I3 (20 + a)) (I3 (20 + o)) x3 x4 x5 (sm_wI g 67 19 0) = F_395_49 (sm_wI g 67 19 0) := fun z => by
        unfold F_395_36
        rw [R8, z]; simp only [Option.bind_some]
        rw [if_neg (by decide)]
      rcases I3_cases x5 with ⟨w, hw, rfl⟩ | hn
      · rw [inR_I hw] at out1 R8
        rw [if_neg (I3_nn hw)] at pre1
        have c8 : (I3 w ≤ 8) = (w ≤ 8) := by rw [I3_lit, eq_iff_iff]; exact I3_le hw (by decide)
        have c4 : ((4 : Int32) ≤ I3 w) = (4 ≤ w) := by rw [I3_lit, eq_iff_iff]; exact I3_le (by decide) hw
        by_cases w8 : w ≤ 8
        · rw [if_pos (by rw [c8]; exact w8)] at pre1
          rw [decide_eq_true (by omega)] at R8
          have go : (w < 4 → inR x4 (nT g) = true) → F_118 (I3 (20 + a)) (I3 (20 + o)) x3 x4 (I3 w) h = F_118_56 (I3 (20 + a)) (I3 (20 + o)) x3 x4 (I3 w) h → F_395 (I3 (20 + a)) (I3 (20 + o)) x3 x4 (I3 w) g = F_395_36 (I3 (20 + a)) (I3 (20 + o)) x3 x4 (I3 w) (sm_wI g 67 19 0) → ∃ v h1 g1, F_269 (I3 (20 + a)) (I3 (20 + o)) x3 x4 (I3 w) h = some (v, h1) ∧ F_395 (I3 (20 + a)) (I3 (20 + o)) x3 x4 (I3 w) g = some (v, g1) ∧ I1 h1 g1 ∧ kR h h1 ∧ kC g g1 := fun ht e1 e2 => by
            obtain ⟨r, s1, s2, s3⟩ := sought2 (h := h) wK cK wT cT wM cM x3 x4 w8 (20 + o) (by omega) (by omega)
            have s1 := s1 0 1000000 (by omega) (by omega)
            have S1 : F_119 (I3 (20 + o)) x3 x4 (I3 w) h = some (r, h) := s1
            have S2 : F_394 (I3 (20 + o)) x3 x4 (I3 w) (sm_wI g 67 19 0) = some (r, sm_wI g 67 19 0) := by
              obtain ⟨r', u1, u2, -⟩ := sought2 (h := h) (g := sm_wI g 67 19 0) wK cK wT cT wM cM x3 x4 w8 (20 + o) (by omega) (by show 20 + o < 20 + nC g; omega)
              have u1 := u1 0 1000000 (by omega) (by omega)
              rw [s1] at u1
              cases u1
              exact u2 1000000 (by omega)
            have p36 : F_395_36 (I3 (20 + a)) (I3 (20 + o)) x3 x4 (I3 w) (sm_wI g 67 19 0) = if b2 (!inR x3 100) = 0 then (if r = (-1) then (F_395_121 (I3 (20 + a)) (I3 (20 + o)) x4 (I3 w) r (sm_wI g 67 19 0)) else (if I3 w = 8 then ((ldI (sm_wI g 67 19 0) 88 100 r).bind fun v18 => if v18 < 2 then (F_395_125 (I3 (20 + a)) (I3 (20 + o)) x4 (I3 w) r (sm_wI g 67 19 0)) else ((ldI (sm_wI g 67 19 0) 88 100 r).bind fun v19 => if 6 < v19 then (F_395_125 (I3 (20 + a)) (I3 (20 + o)) x4 (I3 w) r (sm_wI g 67 19 0)) else (F_395_121 (I3 (20 + a)) (I3 (20 + o)) x4 (I3 w) r (sm_wI g 67 19 0)))) else (F_395_121 (I3 (20 + a)) (I3 (20 + o)) x4 (I3 w) r (sm_wI g 67 19 0)))) else ((F_388 2 (sm_wI g 67 19 0)).bind fun q20 => some (q20.1, q20.2)) := by
              unfold F_395_36
              rw [R8]; simp only [Option.bind_some]
              rw [if_pos (by decide), R99]; simp only [Option.bind_some]
              rw [S2]; simp only [Option.bind_some]
            have p56 : F_118_56 (I3 (20 + a)) (I3 (20 + o)) x3 x4 (I3 w) h = bif inR x3 100 then (if r = (-1) then (some ((-6), h)) else (if I3 w = 8 then ((F_128 r h).bind fun q5 => (F_122 q5.1 q5.2).bind fun q6 => if q6.1 = 0 then (some ((-3), q6.2)) else (F_118_113 (I3 (20 + a)) (I3 (20 + o)) (I3 w) r q6.2)) else (F_118_113 (I3 (20 + a)) (I3 (20 + o)) (I3 w) r h))) else F_118_66 h := by
              unfold F_118_56
              rw [S1]; simp only [Option.bind_some]
              have q99 : ∀ (A B : Option (Int32 × sm_H)), (if x3 < 0 then A else if x3 ≤ 99 then B else A) = bif inR x3 100 then B else A := fun A B => by
                rcases I3_cases x3 with ⟨k, hk, rfl⟩ | hx
                · rw [if_neg (I3_nn hk), inR_I hk]
                  by_cases c : k < 100
                  · rw [if_pos (by rw [I3_lit, I3_le hk (by decide)]; omega), decide_eq_true c]; rfl
                  · rw [if_neg (by rw [I3_lit, I3_le hk (by decide)]; omega), decide_eq_false c]; rfl
                · rw [if_pos hx]
                  rcases inR_c x3 100 (by decide) with ⟨k, h1, h2, h3⟩ | h3
                  · exact absurd h2 (neg_ne_I3 hx (by omega))
                  · rw [h3]; rfl
              rw [q99]
            cases i3 : inR x3 100 with
            | false =>
              rw [i3] at p36 p56
              exact ref 2 (by decide) (by decide) (by rw [e1, p56]; rfl) (by rw [e2, p36]; rfl)
            | true =>
              rw [i3] at p36 p56
              rw [if_pos (show b2 (!true) = 0 by decide)] at p36
              rw [cond_true] at p56
              rcases s3 with rfl | ⟨m, d, z1, rfl, z3, z4, z5, z6, z7, z8⟩
              · rw [if_pos rfl] at p36 p56
                exact ref 6 (by decide) (by decide) (by rw [e1, p56]; rfl) (by rw [e2, p36]; rfl)
              · have nm1 : ¬ I3 m = -1 := I3_m1 (by omega)
                rw [if_neg nm1] at p36 p56
                have KO := C_kindOf wM cM z1
                obtain ⟨rc1, rc2⟩ := reaches2 (h := h) wK cK wM cM a1 z1
                have rc2' : F_392 (I3 (20 + a)) (I3 m) (sm_wI g 67 19 0) = some (b2 (rcB g a m), sm_wI g 67 19 0) := (reaches2 (h := h) (g := sm_wI g 67 19 0) wK cK wM cM a1 z1).2
                have CB := C_belowN wK cK (x := 20 + a) (y := 20 + o) (by omega) (by omega)
                have RB : F_295 (I3 (20 + a)) (I3 (20 + o)) (sm_wI g 67 19 0) = some (b2 (B g (20 + a) (20 + o)), sm_wI g 67 19 0) := by
                  have := R_below (g := sm_wI g 67 19 0) wK (x := 20 + a) (o := 20 + o) (by show 20 + a < 20 + nC g; omega) (by omega)
                  exact this
                have use : (w = 8 → 2 ≤ tn (g.1 88 m) ∧ tn (g.1 88 m) ≤ 6) → F_118_56 (I3 (20 + a)) (I3 (20 + o)) x3 x4 (I3 w) h = F_118_113 (I3 (20 + a)) (I3 (20 + o)) (I3 w) (I3 m) h → F_395_36 (I3 (20 + a)) (I3 (20 + o)) x3 x4 (I3 w) (sm_wI g 67 19 0) = F_395_121 (I3 (20 + a)) (I3 (20 + o)) x4 (I3 w) (I3 m) (sm_wI g 67 19 0) → ∃ v h1 g1, F_269 (I3 (20 + a)) (I3 (20 + o)) x3 x4 (I3 w) h = some (v, h1) ∧ F_395 (I3 (20 + a)) (I3 (20 + o)) x3 x4 (I3 w) g = some (v, g1) ∧ I1 h1 g1 ∧ kR h h1 ∧ kC g g1 := fun w8' e3 e4 => by
                  have q113 : F_118_113 (I3 (20 + a)) (I3 (20 + o)) (I3 w) (I3 m) h = if b2 (rcB g a m) = 0 then F_118_141 h else (if I3 w = 2 then (if b2 (B g (20 + a) (20 + o)) = 0 then F_118_141 h else F_118_144 (I3 (20 + a)) (I3 (20 + o)) (I3 w) (I3 m) h) else F_118_144 (I3 (20 + a)) (I3 (20 + o)) (I3 w) (I3 m) h) := by
                    unfold F_118_113
                    rw [rc1]; simp only [Option.bind_some]
                    rw [CB]; simp only [Option.bind_some]
                  have q121 : F_395_121 (I3 (20 + a)) (I3 (20 + o)) x4 (I3 w) (I3 m) (sm_wI g 67 19 0) = if b2 (rcB g a m) = 0 then F_395_177 (sm_wI g 67 19 0) else (if I3 w = 2 then (if b2 (B g (20 + a) (20 + o)) = 0 then F_395_177 (sm_wI g 67 19 0) else F_395_184 (I3 (20 + a)) (I3 (20 + o)) x4 (I3 w) (I3 m) (sm_wI g 67 19 0)) else F_395_184 (I3 (20 + a)) (I3 (20 + o)) x4 (I3 w) (I3 m) (sm_wI g 67 19 0)) := by
                    unfold F_395_121 F_395_126
                    rw [if_neg (by decide), if_neg nm1, rc2']; simp only [Option.bind_some]
                    rw [RB]; simp only [Option.bind_some]
                  cases rc : rcB g a m with
                  | false =>
                    rw [rc] at q113 q121
                    exact ref 7 (by decide) (by decide) (by rw [e1, e3, q113]; rfl) (by rw [e2, e4, q121]; rfl)
                  | true =>
                    rw [rc, if_neg (show ¬ b2 true = 0 by decide)] at q113 q121
                    by_cases bad : w = 2 ∧ B g (20 + a) (20 + o) = false
                    · rw [if_pos (by rw [bad.1]; rfl), bad.2] at q113 q121
                      exact ref 7 (by decide) (by decide) (by rw [e1, e3, q113]; rfl) (by rw [e2, e4, q121]; rfl)
                    · have B2 : w = 2 → B g (20 + a) (20 + o) = true := fun z => by
                        cases q : B g (20 + a) (20 + o) with
                        | true => rfl
                        | false => exact absurd ⟨z, q⟩ bad
                      have r1 : F_118_113 (I3 (20 + a)) (I3 (20 + o)) (I3 w) (I3 m) h = F_118_144 (I3 (20 + a)) (I3 (20 + o)) (I3 w) (I3 m) h := by
                        rw [q113]
                        by_cases q : w = 2
                        · rw [if_pos (by rw [q]; rfl), B2 q]; rfl
                        · rw [if_neg (by rw [I3_lit, I3_inj (by omega) (by decide)]; exact q)]
                      have r2 : F_395_121 (I3 (20 + a)) (I3 (20 + o)) x4 (I3 w) (I3 m) (sm_wI g 67 19 0) = F_395_184 (I3 (20 + a)) (I3 (20 + o)) x4 (I3 w) (I3 m) (sm_wI g 67 19 0) := by
                        rw [q121]
                        by_cases q : w = 2
                        · rw [if_pos (by rw [q]; rfl), B2 q]; rfl
                        · rw [if_neg (by rw [I3_lit, I3_inj (by omega) (by decide)]; exact q)]
                      obtain ⟨v, w', h1, g1, h2, k1, k2, k3, k4, k5, k6⟩ := findOk I (x4 := x4) (nm := x3) a1 o1 z1 w8 ht z3 z4 z5 z6 z7 z8 w8' B2
                      refine ⟨v, h2, g1, ?_, by rw [e2, e4, r2]; exact k2, k4, k5, k6⟩
                      show F_269_0 _ _ _ _ _ h = _
                      unfold F_269_0
                      rw [e1, e3, r1]
                      unfold F_118_144
                      rw [k1]; simp only [Option.bind_some]
                      rw [k3]; rfl
                by_cases q8 : w = 8
                · subst q8
                  have fld : g.1 87 m = 1 := by
                    unfold sP suB at z7
                    rw [if_pos (by decide)] at z7
                    simp only [Bool.and_eq_true, decide_eq_true_eq] at z7
                    exact z7.2.2
                  rw [if_pos fld] at KO
                  obtain ⟨⟨kd1, kd2⟩, kd3⟩ : cnt (g.1 88 m) (19 + nC g) ∧ 0 < tn (g.1 88 m) := by
                    rcases (wM.2.2 m z1).2.2.2.2 with ⟨-, y2, y3, -⟩ | ⟨z, -⟩
                    · exact ⟨y2, y3⟩
                    · rw [fld] at z; cases z
                  generalize hk : tn (g.1 88 m) = k at kd1 kd2 kd3
                  have e88 : (sm_wI g 67 19 0).1 88 m = I3 k := kd1
                  rw [kd1] at KO
                  have CC : F_122 (I3 k) h = some (b2 (decide (2 ≤ k ∧ k ≤ 6)), h) := by
                    simp (disch := omega) only [F_122_16, F_122_15, F_122_0, F_122, ↓reduceIte, if_true, if_false, ite_self, Option.bind_some, Option.map_some, wI_rd, wJ_rd, wI_2, wJ_1, wJ_22, I3_lit, I3_add, I3_mul, I3_lt, I3_le, I3_inj, I3_nn', I3_n1, I3_n2, m2m1, ldI_I, ldJ_I, ldZ_I, stI_I, stJ_I, true_or, or_true, false_or, or_false, true_and, and_true, false_and, and_false, not_true_eq_false, not_false_eq_true, reduceCtorEq, Nat.reduceEqDiff, Nat.lt_irrefl, Nat.not_lt_zero, Nat.le_refl, Nat.reduceLT, Nat.reduceLeDiff, eq_self, zbbI, bbI0, bbI1, decide_eq_false_iff_not, decide_eq_true_eq, Bool.not_eq_false, Bool.not_eq_true, Bool.not_true, Bool.not_false, cond_true, cond_false]
                    (repeat' split) <;> first | (refine leaf0 ?_; omega) | (refine leaf1 ?_; omega) | (refine leafb ?_; omega) | (exfalso; omega)
                  rw [if_pos (show I3 8 = (8 : Int32) by decide), KO] at p56
                  simp only [Option.bind_some] at p56
                  rw [CC] at p56
                  simp only [Option.bind_some] at p56
                  rw [if_pos (show I3 8 = (8 : Int32) by decide), ldI_I (by omega) (by omega), e88] at p36
                  simp only [Option.bind_some] at p36
                  by_cases cc : 2 ≤ k ∧ k ≤ 6
                  · rw [decide_eq_true cc, if_neg (by decide)] at p56
                    rw [if_neg (by rw [I3_lit, I3_lt (by omega) (by decide)]; omega), if_neg (by rw [I3_lit, I3_lt (by decide) (by omega)]; omega)] at p36
                    exact use (fun _ => by omega) p56 p36
                  · rw [decide_eq_false cc, if_pos (by decide)] at p56
                    refine ref 3 (by decide) (by decide) (by rw [e1, p56]; rfl) ?_
                    rw [e2, p36]
                    by_cases c2 : k < 2
                    · rw [if_pos (by rw [I3_lit, I3_lt (by omega) (by decide)]; omega)]; rfl
                    · rw [if_neg (by rw [I3_lit, I3_lt (by omega) (by decide)]; omega), if_pos (by rw [I3_lit, I3_lt (by decide) (by omega)]; omega)]; rfl
                · have n8 : ¬ I3 w = 8 := by rw [I3_lit, I3_inj (by omega) (by decide)]; exact q8
                  rw [if_neg n8] at p36 p56
                  exact use (fun z => absurd z q8) p56 p36
          by_cases w4 : 4 ≤ w
          · rw [if_pos (by rw [c4]; exact w4)] at pre1 pre2
            exact go (fun z => by omega) pre1 pre2
          · rw [if_neg (by rw [c4]; exact w4)] at pre1 pre2
            cases it : inR x4 (nT g) with
            | false =>
              rw [it] at pre1 pre2
              exact ref 1 (by decide) (by decide) (by rw [pre1]; rfl) (by rw [pre2]; rfl)
            | true =>
              rw [it, if_neg (show ¬ b2 true = 0 by decide)] at pre1 pre2
              exact go (fun _ => it) pre1 pre2
        · rw [if_neg (by rw [c8]; exact w8)] at pre1
          rw [if_pos (by rw [c4]; omega), out1 (decide_eq_false (by omega))] at pre2
          exact ref 1 (by decide) (by decide) pre1 pre2
      · rw [if_pos hn] at pre1
        have o9 : inR x5 9 = false := by
          rcases inR_c x5 9 (by decide) with ⟨k, h1, h2, h3⟩ | h3
          · exact absurd h2 (neg_ne_I3 hn (by omega))
          · exact h3
        have n4 : ¬ (4 : Int32) ≤ x5 := by
          rw [Int32.le_iff_toInt_le]
          have := Int32.lt_iff_toInt_lt.mp hn
          have e0 : (0 : Int32).toInt = 0 := rfl
          have e4 : (4 : Int32).toInt = 4 := rfl
          omega
        rw [if_neg n4, out1 o9, ite_self] at pre2
        exact ref 1 (by decide) (by decide) pre1 pre2
    · have o2 := o2 h cK
      have o3 := o3 (sm_wI g 67 19 0) wK rfl
      refine ref 1 (by decide) (by decide) ?_ ?_
      · show F_118_0 _ _ _ _ _ h = _
        unfold F_118_0
        rw [a2]; simp only [Option.bind_some]
        rw [if_neg (by decide), o2]; simp only [Option.bind_some]
        rw [if_pos trivial]; rfl
      · show F_395_0 _ _ _ _ _ g = _
        unfold F_395_0
        simp only [Option.bind_some]
        rw [a3]; simp only [Option.bind_some]
        rw [if_neg (by decide), o3]; simp only [Option.bind_some]
        rw [if_pos trivial]; rfl
  · have a2 := a2 h cK
    have a3 := a3 (sm_wI g 67 19 0) wK rfl
    refine ref 1 (by decide) (by decide) ?_ ?_
    · show F_118_0 _ _ _ _ _ h = _
      unfold F_118_0
      rw [a2]; simp only [Option.bind_some]
      rw [if_pos trivial]; rfl
    · show F_395_0 _ _ _ _ _ g = _
      unfold F_395_0
      simp only [Option.bind_some]
      rw [a3]; simp only [Option.bind_some]
      rw [if_pos trivial]; rfl
theorem op_find {h : sm_H} (x1 x2 x3 x4 x5 : Int32) (I : I0 h) : ∃ v h1 h2, F_269 x1 x2 x3 x4 x5 h = some (v, h1) ∧ F_395 x1 x2 x3 x4 x5 h1 = some (v, h2) ∧ I0 h2 := op_of2 (find2 x1 x2 x3 x4 x5) I
