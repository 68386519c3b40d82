theorem method2 (x1 x2 x3 : Int32) (st : Bool) (x5 : Int32) (h g : sm_H) (I : I1 h g) : ∃ v h1 g1, F_268 x1 x2 x3 (b2 st) x5 h = some (v, h1) ∧ F_391 x1 x2 x3 (b2 st) x5 g = some (v, g1) ∧ I1 h1 g1 ∧ kR h h1 ∧ kC g g1 := by
  obtain ⟨wK, cK, wT, cT, wH, cH, wM, cM, cR, cP, cG, cO, cV, wX, cX, cXh, cU, cY, cF, cZ, wF⟩ := id I
  have h12 := wK.2.1
  have w500 : nH g ≤ 500 := wH.1.2
  have MN := C_misnamed (h := h) x2 x5
  have RN := R_out99 (h := sm_wI g 67 19 0) x2
  have RT := R_out3 (h := sm_wI g 67 19 0) x5
  have CH := C_hasHg wH cH x3
  have RH : F_304 x3 (sm_wI g 67 19 0) = some (b2 (inR x3 (nH g)), sm_wI g 67 19 0) := R_isHg (g := sm_wI g 67 19 0) wH x3
  have ref : ∀ n : Nat, 0 < n → n < 100 → F_115 x1 x2 x3 (b2 st) x5 h = some (-I3 n, h) → F_391 x1 x2 x3 (b2 st) x5 g = some (-1, sm_wI (sm_wI g 67 19 0) 67 19 (I3 n)) → ∃ v h1 g1, F_268 x1 x2 x3 (b2 st) x5 h = some (v, h1) ∧ F_391 x1 x2 x3 (b2 st) x5 g = some (v, g1) ∧ I1 h1 g1 ∧ kR h h1 ∧ kC g g1 := fun n n1 n2 a b => by
    obtain ⟨r1, r2, r3⟩ := refuse2 I n
    refine ⟨-1, _, _, ?_, b, r1, r2, r3⟩
    show F_268_0 x1 x2 x3 (b2 st) x5 h = _
    unfold F_268_0
    rw [a]
    simp only [Option.bind_some]
    rw [C_judgeN n1 (by omega)]; rfl
  rcases isC_c g wK x1 with ⟨c, rfl, c1, c2, c3⟩ | ⟨c2, c3⟩
  · have c2 := c2 h cK
    have c3 := c3 (sm_wI g 67 19 0) wK rfl
    rcases inR_c x3 (nH g) (by omega) with ⟨x, hx, rfl, hi⟩ | hi
    · rw [hi] at CH RH
      have pre1 : F_115 (I3 (20 + c)) x2 (I3 x) (b2 st) x5 h = if b2 (!(inR x2 100 && inR x5 4)) = 0 then (if b2 st = 0 then ((F_46 (I3 x) 0 h).bind fun q17 => if q17.1 = I3 (20 + c) then (F_115_58 (I3 (20 + c)) x2 (I3 x) (b2 st) x5 q17.2) else (some ((-3), q17.2))) else (F_115_58 (I3 (20 + c)) x2 (I3 x) (b2 st) x5 h)) else (some ((-2), h)) := by
        show F_115_0 _ _ _ _ _ h = _
        unfold F_115_0
        rw [c2]; simp only [Option.bind_some]
        rw [if_neg (by decide), CH]; simp only [Option.bind_some]
        rw [if_neg (by decide), MN]; simp only [Option.bind_some]
      have pre2 : F_391 (I3 (20 + c)) x2 (I3 x) (b2 st) x5 g = if b2 (!inR x2 100) = 0 then (if b2 (!inR x5 4) = 0 then (if b2 st = 0 then ((F_305 (I3 x) (sm_wI g 67 19 0)).bind fun q22 => if q22.1 = 0 then (F_391_81 q22.2) else ((F_306 (I3 x) 0 q22.2).bind fun q23 => if q23.1 = I3 (20 + c) then (F_391_87 (I3 (20 + c)) x2 (I3 x) (b2 st) x5 q23.2) else (F_391_81 q23.2))) else (F_391_87 (I3 (20 + c)) x2 (I3 x) (b2 st) x5 (sm_wI g 67 19 0))) else (F_391_52 (sm_wI g 67 19 0))) else (F_391_52 (sm_wI g 67 19 0)) := by
        show F_391_0 _ _ _ _ _ g = _
        unfold F_391_0
        simp only [Option.bind_some]
        rw [c3]; simp only [Option.bind_some]
        rw [if_neg (by decide), RH]; simp only [Option.bind_some]
        rw [if_neg (by decide), RN]; simp only [Option.bind_some]
        rw [RT]; simp only [Option.bind_some]
      cases i2 : inR x2 100 with
      | false =>
        rw [i2] at pre1 pre2
        exact ref 2 (by decide) (by decide) (by rw [pre1]; rfl) (by rw [pre2]; rfl)
      | true =>
        cases i5 : inR x5 4 with
        | false =>
          rw [i2, i5] at pre1 pre2
          exact ref 2 (by decide) (by decide) (by rw [pre1]; rfl) (by rw [pre2]; rfl)
        | true =>
          rw [i2, i5] at pre1 pre2
          rw [if_pos (show b2 (!(true && true)) = 0 by decide)] at pre1
          rw [if_pos (show b2 (!true) = 0 by decide), if_pos (show b2 (!true) = 0 by decide)] at pre2
          have ok : F_115 (I3 (20 + c)) x2 (I3 x) (b2 st) x5 h = F_115_58 (I3 (20 + c)) x2 (I3 x) (b2 st) x5 h → F_391 (I3 (20 + c)) x2 (I3 x) (b2 st) x5 g = F_391_87 (I3 (20 + c)) x2 (I3 x) (b2 st) x5 (sm_wI g 67 19 0) → (st = false → 0 < (hpl g x).length ∧ at0 (hpl g x) 0 = I3 (20 + c)) → ∃ v h1 g1, F_268 (I3 (20 + c)) x2 (I3 x) (b2 st) x5 h = some (v, h1) ∧ F_391 (I3 (20 + c)) x2 (I3 x) (b2 st) x5 g = some (v, g1) ∧ I1 h1 g1 ∧ kR h h1 ∧ kC g g1 := fun e1 e2 p => by
            obtain ⟨v, h1, g1, w, m1, m2, m3, m4, m5, m6⟩ := methodOk I (st := st) (c := c) (x := x) (nm := x2) (rt := x5) c1 hx (cnt_inR (by decide) i2) (cnt_inR (by decide) i5) p
            refine ⟨v, _, g1, ?_, e2.trans m3, m4, m5, m6⟩
            show F_268_0 _ _ _ _ _ h = _
            unfold F_268_0
            rw [e1, m1]; simp only [Option.bind_some]
            rw [m2]; rfl
          cases st with
          | true =>
            rw [if_neg (show ¬ b2 true = 0 by decide)] at pre1 pre2
            exact ok pre1 pre2 (fun z => by cases z)
          | false =>
            rw [if_pos (show b2 false = 0 by decide)] at pre1 pre2
            have ln : (hpl g x).length = tM g (ty g x) := lst_len _ _
            have lt := (wH.2 x hx).2.2.1
            have m10 : tM g (ty g x) ≤ 10 := (wT.2.1 _ lt).2.1.2
            have RM := R_many (g := sm_wI g 67 19 0) wT wH hx
            have RM : F_305 (I3 x) (sm_wI g 67 19 0) = some (I3 (tM g (ty g x)), sm_wI g 67 19 0) := RM
            rw [RM] at pre2; simp only [Option.bind_some] at pre2
            by_cases z : tM g (ty g x) = 0
            · have P := C_place_o wT wH cH (x := 0) hx (by rw [z]; rfl)
              rw [P] at pre1; simp only [Option.bind_some] at pre1
              rw [if_neg (fun q => I3_m1 (a := 20 + c) (by omega) q.symm)] at pre1
              rw [if_pos (by rw [z]; rfl)] at pre2
              exact ref 3 (by decide) (by decide) pre1 pre2
            · have P := C_place wT wH cH (k := 0) hx (by omega)
              have P : F_46 (I3 x) 0 h = some (g.1 74 (10 * ty g x + 0), h) := P
              have RP := R_place (g := sm_wI g 67 19 0) wT wH (k := 0) hx (by show 0 < tM g (ty g x); omega)
              have RP : F_306 (I3 x) 0 (sm_wI g 67 19 0) = some (g.1 74 (10 * ty g x + 0), sm_wI g 67 19 0) := RP
              rw [P] at pre1; simp only [Option.bind_some] at pre1
              rw [if_neg (by rw [I3_lit, I3_inj (by omega) (by decide)]; exact z), RP] at pre2
              simp only [Option.bind_some] at pre2
              by_cases q : g.1 74 (10 * ty g x + 0) = I3 (20 + c)
              · rw [if_pos q] at pre1 pre2
                exact ok pre1 pre2 (fun _ => ⟨by omega, by rw [at0_lst (by omega)]; exact q⟩)
              · rw [if_neg q] at pre1 pre2
                exact ref 3 (by decide) (by decide) pre1 pre2
    · rw [hi] at CH RH
      refine ref 1 (by decide) (by decide) ?_ ?_
      · show F_115_0 _ _ _ _ _ h = _
        unfold F_115_0
        rw [c2]; simp only [Option.bind_some]
        rw [if_neg (by decide), CH]; simp only [Option.bind_some]
        rw [if_pos (by decide)]; rfl
      · show F_391_0 _ _ _ _ _ g = _
        unfold F_391_0
        simp only [Option.bind_some]
        rw [c3]; simp only [Option.bind_some]
        rw [if_neg (by decide), RH]; simp only [Option.bind_some]
        rw [if_pos (by decide)]; rfl
  · have c2 := c2 h cK
    have c3 := c3 (sm_wI g 67 19 0) wK rfl
    refine ref 1 (by decide) (by decide) ?_ ?_
    · show F_115_0 _ _ _ _ _ h = _
      unfold F_115_0
      rw [c2]; simp only [Option.bind_some]
      rw [if_pos trivial]; rfl
    · show F_391_0 _ _ _ _ _ g = _
      unfold F_391_0
      simp only [Option.bind_some]
      rw [c3]; simp only [Option.bind_some]
      rw [if_pos trivial]; rfl
theorem op_method {h : sm_H} (x1 x2 x3 : Int32) (st : Bool) (x5 : Int32) (I : I0 h) : ∃ v h1 h2, F_268 x1 x2 x3 (b2 st) x5 h = some (v, h1) ∧ F_391 x1 x2 x3 (b2 st) x5 h1 = some (v, h2) ∧ I0 h2 := op_of2 (method2 x1 x2 x3 st x5) I
