def hP (g : sm_H) (f a b : Int32) (c : Int64) (ps : List Int32) (x : Nat) : Bool := decide (g.1 75 x = f ∧ g.1 77 x = a ∧ g.1 78 x = b ∧ g.2.1 79 x = c ∧ g.1 80 x = I3 ps.length) && all1 (fun k => decide (g.1 81 (24 * x + k) = at0 ps k)) ps.length
def fH (g : sm_H) (f a b : Int32) (c : Int64) (ps : List Int32) : Nat := fst1 (hP g f a b c ps) (nH g)
theorem fH_le (g : sm_H) (f a b : Int32) (c : Int64) (ps : List Int32) : fH g f a b c ps ≤ nH g := (fst1_spec _ _).1
def prR (g : sm_H) (ps : List Int32) : Prop := g.1 67 3 = I3 ps.length ∧ ps.length ≤ 20 ∧ ∀ k, k < ps.length → g.1 69 k = at0 ps k
theorem C_hasParts {h g : sm_H} (wH : wfH0 g) (cH : cH h g) {o p : Nat} (w : isRw o p) {ps : List Int32} (R : hasL h o p ps) {x : Nat} (hx : x < nH g) : F_49 (I3 x) o h = some (b2 (decide (g.1 80 x = I3 ps.length) && all1 (fun k => decide (g.1 81 (24 * x + k) = at0 ps k)) ps.length), h) := by
  have w500 : nH g ≤ 500 := wH.1.2
  have l20 := R.2.1
  have e15 : h.1 15 x = g.1 80 x := (cH.2.1 x (by omega)).2.2.2.2.1
  have p1 := (wH.2 x hx).2.2.2
  show F_49_0 (I3 x) o h = _
  unfold F_49_0
  rw [ldI_I (by omega) (by omega), e15]
  simp only [Option.bind_some]
  rw [if_neg (not_not_intro (w.i h)), C_rsize w R]
  simp only [Option.bind_some]
  by_cases c : g.1 80 x = I3 ps.length
  · rw [if_pos c, decide_eq_true c, Bool.true_and]
    have pmx : pm g x = ps.length := by show tn _ = _; rw [c]; exact I3_clamp (by omega)
    have L := lp_all (body := F_49_17B) (fun k => decide (g.1 81 (24 * x + k) = at0 ps k)) ps.length (fun k => (I3 x, o, I3 k, h)) (0, h) (1, h) (f := 1000000) (by omega) (fun k hk e => ?_) (fun k hk e => ?_) ?_
    · refine Eq.trans L ?_
      cases all1 (fun k => decide (g.1 81 (24 * x + k) = at0 ps k)) ps.length <;> rfl
    · have z := of_decide_eq_true e
      have P := C_part wH cH hx (k := k) (by omega)
      have A := C_rat w R hk
      have S := C_rsize w R
      show F_49_17B (I3 x, o, I3 k, h) = _
      unfold F_49_17B
      rw [if_neg (not_not_intro (w.i h)), S]; simp only [Option.bind_some]
      rw [if_neg (by rw [I3_le (by omega) (by omega)]; omega), P]; simp only [Option.bind_some]
      rw [if_neg (not_not_intro (w.i h)), A]; simp only [Option.bind_some]
      rw [if_pos z, I3_lit, I3_add]
    · have z := of_decide_eq_false e
      have P := C_part wH cH hx (k := k) (by omega)
      have A := C_rat w R hk
      have S := C_rsize w R
      show F_49_17B (I3 x, o, I3 k, h) = _
      unfold F_49_17B
      rw [if_neg (not_not_intro (w.i h)), S]; simp only [Option.bind_some]
      rw [if_neg (by rw [I3_le (by omega) (by omega)]; omega), P]; simp only [Option.bind_some]
      rw [if_neg (not_not_intro (w.i h)), A]; simp only [Option.bind_some]
      rw [if_neg z]
    · have S := C_rsize w R
      show F_49_17B (I3 x, o, I3 ps.length, h) = _
      unfold F_49_17B
      rw [if_neg (not_not_intro (w.i h)), S]; simp only [Option.bind_some]
      rw [if_pos (by rw [I3_le (by omega) (by omega)]; omega)]
  · rw [if_neg c, decide_eq_false c, Bool.false_and]; rfl
theorem C_knownH {h g : sm_H} (wH : wfH0 g) (cH : cH h g) {o p : Nat} (w : isRw o p) {ps : List Int32} (R : hasL h o p ps) (f a b : Int32) (c : Int64) : F_48 f a b c o h = some (orN (fH g f a b c ps < nH g) (fH g f a b c ps), h) := by
  have w500 : nH g ≤ 500 := wH.1.2
  have e4 : h.1 10 11 = I3 (nH g) := cH.1.trans wH.1.1
  have L := lp_fst (body := F_48_3B) (hP g f a b c ps) (nH g) (fun k => (f, a, b, c, o, I3 k, h)) (fun k => (I3 k, h)) (-1, h) (f := 1000000) (by omega) (fun k hk e => ?_) (fun k hk e => ?_) ?_
  · refine Eq.trans L ?_
    show some (if fH g f a b c ps < nH g then (I3 (fH g f a b c ps), h) else (-1, h)) = some (if fH g f a b c ps < nH g then I3 (fH g f a b c ps) else -1, h)
    split <;> rfl
  · obtain ⟨z1, z2, z3, z4, z5, z6⟩ := cH.2.1 k (by omega)
    have D := C_hasParts wH cH w R hk
    unfold hP at e
    by_cases c1 : g.1 75 k = f
    · by_cases c2 : g.1 77 k = a
      · by_cases c3 : g.1 78 k = b
        · by_cases c4 : g.2.1 79 k = c
          · have e' : (decide (g.1 80 k = I3 ps.length) && all1 (fun j => decide (g.1 81 (24 * k + j) = at0 ps j)) ps.length) = false := by
              rw [← e]; congr 1; simp only [c1, c2, c3, c4, true_and]
            rw [e'] at D
            simp (disch := omega) only [↓reduceIte, if_true, if_false, ite_self, Option.bind_some, Option.map_some, wI_rd, wJ_rd, wI_2, wJ_1, wJ_22, I3_lit, I3_add, I3_mul, I3_lt, I3_le, I3_inj, I3_nn', I3_n1, I3_n2, m2m1, ldI_I, ldJ_I, ldZ_I, stI_I, stJ_I, true_or, or_true, false_or, or_false, true_and, and_true, false_and, and_false, not_true_eq_false, not_false_eq_true, reduceCtorEq, Nat.reduceEqDiff, Nat.lt_irrefl, Nat.not_lt_zero, Nat.le_refl, Nat.reduceLT, Nat.reduceLeDiff, eq_self, zbbI, bbI0, bbI1, decide_eq_false_iff_not, decide_eq_true_eq, Bool.not_eq_false, Bool.not_eq_true, Bool.not_true, Bool.not_false, cond_true, cond_false, F_48_3B, F_48_72, e4, show ¬ nH g ≤ k by omega, z1, z2, z3, z4, c1, c2, c3, c4, cmp_eq', D]
          · simp (disch := omega) only [↓reduceIte, if_true, if_false, ite_self, Option.bind_some, Option.map_some, wI_rd, wJ_rd, wI_2, wJ_1, wJ_22, I3_lit, I3_add, I3_mul, I3_lt, I3_le, I3_inj, I3_nn', I3_n1, I3_n2, m2m1, ldI_I, ldJ_I, ldZ_I, stI_I, stJ_I, true_or, or_true, false_or, or_false, true_and, and_true, false_and, and_false, not_true_eq_false, not_false_eq_true, reduceCtorEq, Nat.reduceEqDiff, Nat.lt_irrefl, Nat.not_lt_zero, Nat.le_refl, Nat.reduceLT, Nat.reduceLeDiff, eq_self, zbbI, bbI0, bbI1, decide_eq_false_iff_not, decide_eq_true_eq, Bool.not_eq_false, Bool.not_eq_true, Bool.not_true, Bool.not_false, cond_true, cond_false, F_48_3B, F_48_72, e4, show ¬ nH g ≤ k by omega, z1, z2, z3, z4, c1, c2, c3, c4, cmp_eq']
        · simp (disch := omega) only [↓reduceIte, if_true, if_false, ite_self, Option.bind_some, Option.map_some, wI_rd, wJ_rd, wI_2, wJ_1, wJ_22, I3_lit, I3_add, I3_mul, I3_lt, I3_le, I3_inj, I3_nn', I3_n1, I3_n2, m2m1, ldI_I, ldJ_I, ldZ_I, stI_I, stJ_I, true_or, or_true, false_or, or_false, true_and, and_true, false_and, and_false, not_true_eq_false, not_false_eq_true, reduceCtorEq, Nat.reduceEqDiff, Nat.lt_irrefl, Nat.not_lt_zero, Nat.le_refl, Nat.reduceLT, Nat.reduceLeDiff, eq_self, zbbI, bbI0, bbI1, decide_eq_false_iff_not, decide_eq_true_eq, Bool.not_eq_false, Bool.not_eq_true, Bool.not_true, Bool.not_false, cond_true, cond_false, F_48_3B, F_48_72, e4, show ¬ nH g ≤ k by omega, z1, z2, z3, c1, c2, c3]
      · simp (disch := omega) only [↓reduceIte, if_true, if_false, ite_self, Option.bind_some, Option.map_some, wI_rd, wJ_rd, wI_2, wJ_1, wJ_22, I3_lit, I3_add, I3_mul, I3_lt, I3_le, I3_inj, I3_nn', I3_n1, I3_n2, m2m1, ldI_I, ldJ_I, ldZ_I, stI_I, stJ_I, true_or, or_true, false_or, or_false, true_and, and_true, false_and, and_false, not_true_eq_false, not_false_eq_true, reduceCtorEq, Nat.reduceEqDiff, Nat.lt_irrefl, Nat.not_lt_zero, Nat.le_refl, Nat.reduceLT, Nat.reduceLeDiff, eq_self, zbbI, bbI0, bbI1, decide_eq_false_iff_not, decide_eq_true_eq, Bool.not_eq_false, Bool.not_eq_true, Bool.not_true, Bool.not_false, cond_true, cond_false, F_48_3B, F_48_72, e4, show ¬ nH g ≤ k by omega, z1, z2, c1, c2]
    · simp (disch := omega) only [↓reduceIte, if_true, if_false, ite_self, Option.bind_some, Option.map_some, wI_rd, wJ_rd, wI_2, wJ_1, wJ_22, I3_lit, I3_add, I3_mul, I3_lt, I3_le, I3_inj, I3_nn', I3_n1, I3_n2, m2m1, ldI_I, ldJ_I, ldZ_I, stI_I, stJ_I, true_or, or_true, false_or, or_false, true_and, and_true, false_and, and_false, not_true_eq_false, not_false_eq_true, reduceCtorEq, Nat.reduceEqDiff, Nat.lt_irrefl, Nat.not_lt_zero, Nat.le_refl, Nat.reduceLT, Nat.reduceLeDiff, eq_self, zbbI, bbI0, bbI1, decide_eq_false_iff_not, decide_eq_true_eq, Bool.not_eq_false, Bool.not_eq_true, Bool.not_true, Bool.not_false, cond_true, cond_false, F_48_3B, F_48_72, e4, show ¬ nH g ≤ k by omega, z1, c1]
  · obtain ⟨z1, z2, z3, z4, z5, z6⟩ := cH.2.1 k (by omega)
    have D := C_hasParts wH cH w R hk
    unfold hP at e
    simp only [Bool.and_eq_true, decide_eq_true_eq] at e
    obtain ⟨⟨c1, c2, c3, c4, c5⟩, c6⟩ := e
    rw [c6, decide_eq_true c5] at D
    simp (disch := omega) only [↓reduceIte, if_true, if_false, ite_self, Option.bind_some, Option.map_some, wI_rd, wJ_rd, wI_2, wJ_1, wJ_22, I3_lit, I3_add, I3_mul, I3_lt, I3_le, I3_inj, I3_nn', I3_n1, I3_n2, m2m1, ldI_I, ldJ_I, ldZ_I, stI_I, stJ_I, true_or, or_true, false_or, or_false, true_and, and_true, false_and, and_false, not_true_eq_false, not_false_eq_true, reduceCtorEq, Nat.reduceEqDiff, Nat.lt_irrefl, Nat.not_lt_zero, Nat.le_refl, Nat.reduceLT, Nat.reduceLeDiff, eq_self, zbbI, bbI0, bbI1, decide_eq_false_iff_not, decide_eq_true_eq, Bool.not_eq_false, Bool.not_eq_true, Bool.not_true, Bool.not_false, cond_true, cond_false, F_48_3B, F_48_72, e4, show ¬ nH g ≤ k by omega, z1, z2, z3, z4, c1, c2, c3, c4, cmp_eq', D, Bool.true_and]
  · simp (disch := omega) only [↓reduceIte, if_true, if_false, ite_self, Option.bind_some, Option.map_some, wI_rd, wJ_rd, wI_2, wJ_1, wJ_22, I3_lit, I3_add, I3_mul, I3_lt, I3_le, I3_inj, I3_nn', I3_n1, I3_n2, m2m1, ldI_I, ldJ_I, ldZ_I, stI_I, stJ_I, true_or, or_true, false_or, or_false, true_and, and_true, false_and, and_false, not_true_eq_false, not_false_eq_true, reduceCtorEq, Nat.reduceEqDiff, Nat.lt_irrefl, Nat.not_lt_zero, Nat.le_refl, Nat.reduceLT, Nat.reduceLeDiff, eq_self, zbbI, bbI0, bbI1, decide_eq_false_iff_not, decide_eq_true_eq, Bool.not_eq_false, Bool.not_eq_true, Bool.not_true, Bool.not_false, cond_true, cond_false, F_48_3B, e4]
theorem R_findH1 {g : sm_H} {ps : List Int32} (d : prR g ps) {x : Nat} (hx : x < 500) (f a b : Int32) (c : Int64) (q : Bool) : F_339_82 f a b c (I3 x) (b2 q) 0 g = F_339_132 f a b c (I3 x) (b2 (q && all1 (fun k => decide (g.1 81 (24 * x + k) = at0 ps k)) ps.length)) g := by
  have e3 := d.1
  have l20 := d.2.1
  have fin : ∀ (n k : Nat) (q : Bool), (ps.length ≤ k ∨ q = false) → k ≤ 20 → lp F_339_82B (n + 1) (f, a, b, c, I3 x, b2 q, I3 k, g) = F_339_132 f a b c (I3 x) (b2 q) g := by
    intro n k q hk h20
    have e : F_339_82B (f, a, b, c, I3 x, b2 q, I3 k, g) = (F_339_132 f a b c (I3 x) (b2 q) g).map Sum.inr := by
      by_cases c : ps.length ≤ k
      · simp (disch := omega) only [↓reduceIte, if_true, if_false, ite_self, Option.bind_some, Option.map_some, wI_rd, wJ_rd, wI_2, wJ_1, wJ_22, I3_lit, I3_add, I3_mul, I3_lt, I3_le, I3_inj, I3_nn', I3_n1, I3_n2, m2m1, ldI_I, ldJ_I, ldZ_I, stI_I, stJ_I, true_or, or_true, false_or, or_false, true_and, and_true, false_and, and_false, not_true_eq_false, not_false_eq_true, reduceCtorEq, Nat.reduceEqDiff, Nat.lt_irrefl, Nat.not_lt_zero, Nat.le_refl, Nat.reduceLT, Nat.reduceLeDiff, eq_self, zbbI, bbI0, bbI1, decide_eq_false_iff_not, decide_eq_true_eq, Bool.not_eq_false, Bool.not_eq_true, Bool.not_true, Bool.not_false, cond_true, cond_false, F_339_82B, e3, c]
      · have : q = false := hk.resolve_left c
        subst this
        simp (disch := omega) only [↓reduceIte, if_true, if_false, ite_self, Option.bind_some, Option.map_some, wI_rd, wJ_rd, wI_2, wJ_1, wJ_22, I3_lit, I3_add, I3_mul, I3_lt, I3_le, I3_inj, I3_nn', I3_n1, I3_n2, m2m1, ldI_I, ldJ_I, ldZ_I, stI_I, stJ_I, true_or, or_true, false_or, or_false, true_and, and_true, false_and, and_false, not_true_eq_false, not_false_eq_true, reduceCtorEq, Nat.reduceEqDiff, Nat.lt_irrefl, Nat.not_lt_zero, Nat.le_refl, Nat.reduceLT, Nat.reduceLeDiff, eq_self, zbbI, bbI0, bbI1, decide_eq_false_iff_not, decide_eq_true_eq, Bool.not_eq_false, Bool.not_eq_true, Bool.not_true, Bool.not_false, cond_true, cond_false, F_339_82B, e3, c]
    cases w : F_339_132 f a b c (I3 x) (b2 q) g with
    | none => rw [w] at e; exact lp_n e
    | some r => rw [w] at e; exact lp_0 e
  have key : ∀ (n k : Nat) (q : Bool) (u : Nat), n + k = ps.length → n < u → lp F_339_82B u (f, a, b, c, I3 x, b2 q, I3 k, g) = F_339_132 f a b c (I3 x) (b2 (q && all1 (fun j => decide (g.1 81 (24 * x + (k + j)) = at0 ps (k + j))) n)) g := by
    intro n
    induction n with
    | zero =>
      intro k q u hk hu
      obtain ⟨u, rfl⟩ : ∃ q, u = q + 1 := ⟨u - 1, by omega⟩
      rw [fin u k q (Or.inl (by omega)) (by omega), show all1 (fun j => decide (g.1 81 (24 * x + (k + j)) = at0 ps (k + j))) 0 = true from rfl, Bool.and_true]
    | succ n ih =>
      intro k q u hk hu
      obtain ⟨u, rfl⟩ : ∃ q, u = q + 1 := ⟨u - 1, by omega⟩
      cases q with
      | false => rw [fin u k false (Or.inr rfl) (by omega), Bool.false_and]
      | true =>
        have z2 := d.2.2 k (by omega)
        have : F_339_82B (f, a, b, c, I3 x, b2 true, I3 k, g) = some (.inl (f, a, b, c, I3 x, b2 (decide (g.1 81 (24 * x + k) = at0 ps k)), I3 (k + 1), g)) := by
          by_cases c : g.1 81 (24 * x + k) = at0 ps k
          · rw [decide_eq_true c]
            simp (disch := omega) only [↓reduceIte, if_true, if_false, ite_self, Option.bind_some, Option.map_some, wI_rd, wJ_rd, wI_2, wJ_1, wJ_22, I3_lit, I3_add, I3_mul, I3_lt, I3_le, I3_inj, I3_nn', I3_n1, I3_n2, m2m1, ldI_I, ldJ_I, ldZ_I, stI_I, stJ_I, true_or, or_true, false_or, or_false, true_and, and_true, false_and, and_false, not_true_eq_false, not_false_eq_true, reduceCtorEq, Nat.reduceEqDiff, Nat.lt_irrefl, Nat.not_lt_zero, Nat.le_refl, Nat.reduceLT, Nat.reduceLeDiff, eq_self, zbbI, bbI0, bbI1, decide_eq_false_iff_not, decide_eq_true_eq, Bool.not_eq_false, Bool.not_eq_true, Bool.not_true, Bool.not_false, cond_true, cond_false, F_339_82B, F_339_124, e3, show ¬ ps.length ≤ k by omega, z2, c]; rfl
          · rw [decide_eq_false c]
            simp (disch := omega) only [↓reduceIte, if_true, if_false, ite_self, Option.bind_some, Option.map_some, wI_rd, wJ_rd, wI_2, wJ_1, wJ_22, I3_lit, I3_add, I3_mul, I3_lt, I3_le, I3_inj, I3_nn', I3_n1, I3_n2, m2m1, ldI_I, ldJ_I, ldZ_I, stI_I, stJ_I, true_or, or_true, false_or, or_false, true_and, and_true, false_and, and_false, not_true_eq_false, not_false_eq_true, reduceCtorEq, Nat.reduceEqDiff, Nat.lt_irrefl, Nat.not_lt_zero, Nat.le_refl, Nat.reduceLT, Nat.reduceLeDiff, eq_self, zbbI, bbI0, bbI1, decide_eq_false_iff_not, decide_eq_true_eq, Bool.not_eq_false, Bool.not_eq_true, Bool.not_true, Bool.not_false, cond_true, cond_false, F_339_82B, F_339_124, e3, show ¬ ps.length ≤ k by omega, z2, c]; rfl
        rw [lp_1 this, ih (k + 1) _ u (by omega) (by omega), Bool.true_and]
        congr 2
        rw [Bool.eq_iff_iff]
        simp only [Bool.and_eq_true, all1_iff, decide_eq_true_eq]
        constructor
        · rintro ⟨y1, y2⟩ j hj
          cases j with
          | zero => exact y1
          | succ j => have := y2 j (by omega); rw [show k + 1 + j = k + (j + 1) by omega] at this; exact this
        · intro y
          refine ⟨y 0 (by omega), fun j hj => ?_⟩
          have := y (j + 1) (by omega)
          rw [show k + 1 + j = k + (j + 1) by omega]; exact this
  have := key ps.length 0 q 1000000 (by omega) (by omega)
  simp only [Nat.zero_add] at this
  exact this
theorem R_findH {g : sm_H} (wH : wfH0 g) {ps : List Int32} (d : prR g ps) (f a b : Int32) (c : Int64) : F_339 f a b c g = some (orN (fH g f a b c ps < nH g) (fH g f a b c ps), g) := by
  have w500 : nH g ≤ 500 := wH.1.2
  have e2 : g.1 67 18 = I3 (nH g) := wH.1.1
  have e3 := d.1
  have L := lp_fst (body := F_339_3B) (hP g f a b c ps) (nH g) (fun k => (f, a, b, c, I3 k, g)) (fun k => (I3 k, g)) (-1, g) (f := 1000000) (by omega) (fun k hk e => ?_) (fun k hk e => ?_) ?_
  · refine Eq.trans L ?_
    show some (if fH g f a b c ps < nH g then (I3 (fH g f a b c ps), g) else (-1, g)) = some (if fH g f a b c ps < nH g then I3 (fH g f a b c ps) else -1, g)
    split <;> rfl
  · have D1 := R_findH1 d (x := k) (by omega) f a b c true
    have D0 := R_findH1 d (x := k) (by omega) f a b c false
    rw [Bool.true_and] at D1
    rw [Bool.false_and] at D0
    have D0' : F_339_82 f a b c (I3 k) (I3 0) (I3 0) g = _ := D0
    have D1' : F_339_82 f a b c (I3 k) (I3 1) (I3 0) g = _ := D1
    unfold hP at e
    by_cases c1 : g.1 75 k = f
    · by_cases c2 : g.1 77 k = a
      · by_cases c3 : g.1 78 k = b
        · by_cases c4 : g.2.1 79 k = c
          · by_cases c5 : g.1 80 k = I3 ps.length
            · rw [decide_eq_true ⟨c1, c2, c3, c4, c5⟩, Bool.true_and] at e
              rw [e] at D1'
              simp (disch := omega) only [↓reduceIte, if_true, if_false, ite_self, Option.bind_some, Option.map_some, wI_rd, wJ_rd, wI_2, wJ_1, wJ_22, I3_lit, I3_add, I3_mul, I3_lt, I3_le, I3_inj, I3_nn', I3_n1, I3_n2, m2m1, ldI_I, ldJ_I, ldZ_I, stI_I, stJ_I, true_or, or_true, false_or, or_false, true_and, and_true, false_and, and_false, not_true_eq_false, not_false_eq_true, reduceCtorEq, Nat.reduceEqDiff, Nat.lt_irrefl, Nat.not_lt_zero, Nat.le_refl, Nat.reduceLT, Nat.reduceLeDiff, eq_self, zbbI, bbI0, bbI1, decide_eq_false_iff_not, decide_eq_true_eq, Bool.not_eq_false, Bool.not_eq_true, Bool.not_true, Bool.not_false, cond_true, cond_false, F_339_3B, F_339_77, F_339_76, F_339_132, e2, e3, show ¬ nH g ≤ k by omega, c1, c2, c3, c4, c5, cmp_eq', D1']
            · simp (disch := omega) only [↓reduceIte, if_true, if_false, ite_self, Option.bind_some, Option.map_some, wI_rd, wJ_rd, wI_2, wJ_1, wJ_22, I3_lit, I3_add, I3_mul, I3_lt, I3_le, I3_inj, I3_nn', I3_n1, I3_n2, m2m1, ldI_I, ldJ_I, ldZ_I, stI_I, stJ_I, true_or, or_true, false_or, or_false, true_and, and_true, false_and, and_false, not_true_eq_false, not_false_eq_true, reduceCtorEq, Nat.reduceEqDiff, Nat.lt_irrefl, Nat.not_lt_zero, Nat.le_refl, Nat.reduceLT, Nat.reduceLeDiff, eq_self, zbbI, bbI0, bbI1, decide_eq_false_iff_not, decide_eq_true_eq, Bool.not_eq_false, Bool.not_eq_true, Bool.not_true, Bool.not_false, cond_true, cond_false, F_339_3B, F_339_77, F_339_76, F_339_132, e2, e3, show ¬ nH g ≤ k by omega, c1, c2, c3, c4, c5, cmp_eq', D0']
          · simp (disch := omega) only [↓reduceIte, if_true, if_false, ite_self, Option.bind_some, Option.map_some, wI_rd, wJ_rd, wI_2, wJ_1, wJ_22, I3_lit, I3_add, I3_mul, I3_lt, I3_le, I3_inj, I3_nn', I3_n1, I3_n2, m2m1, ldI_I, ldJ_I, ldZ_I, stI_I, stJ_I, true_or, or_true, false_or, or_false, true_and, and_true, false_and, and_false, not_true_eq_false, not_false_eq_true, reduceCtorEq, Nat.reduceEqDiff, Nat.lt_irrefl, Nat.not_lt_zero, Nat.le_refl, Nat.reduceLT, Nat.reduceLeDiff, eq_self, zbbI, bbI0, bbI1, decide_eq_false_iff_not, decide_eq_true_eq, Bool.not_eq_false, Bool.not_eq_true, Bool.not_true, Bool.not_false, cond_true, cond_false, F_339_3B, F_339_77, F_339_76, F_339_132, e2, e3, show ¬ nH g ≤ k by omega, c1, c2, c3, c4, cmp_eq', D0']
        · simp (disch := omega) only [↓reduceIte, if_true, if_false, ite_self, Option.bind_some, Option.map_some, wI_rd, wJ_rd, wI_2, wJ_1, wJ_22, I3_lit, I3_add, I3_mul, I3_lt, I3_le, I3_inj, I3_nn', I3_n1, I3_n2, m2m1, ldI_I, ldJ_I, ldZ_I, stI_I, stJ_I, true_or, or_true, false_or, or_false, true_and, and_true, false_and, and_false, not_true_eq_false, not_false_eq_true, reduceCtorEq, Nat.reduceEqDiff, Nat.lt_irrefl, Nat.not_lt_zero, Nat.le_refl, Nat.reduceLT, Nat.reduceLeDiff, eq_self, zbbI, bbI0, bbI1, decide_eq_false_iff_not, decide_eq_true_eq, Bool.not_eq_false, Bool.not_eq_true, Bool.not_true, Bool.not_false, cond_true, cond_false, F_339_3B, F_339_77, F_339_76, F_339_132, e2, e3, show ¬ nH g ≤ k by omega, c1, c2, c3, D0']
      · simp (disch := omega) only [↓reduceIte, if_true, if_false, ite_self, Option.bind_some, Option.map_some, wI_rd, wJ_rd, wI_2, wJ_1, wJ_22, I3_lit, I3_add, I3_mul, I3_lt, I3_le, I3_inj, I3_nn', I3_n1, I3_n2, m2m1, ldI_I, ldJ_I, ldZ_I, stI_I, stJ_I, true_or, or_true, false_or, or_false, true_and, and_true, false_and, and_false, not_true_eq_false, not_false_eq_true, reduceCtorEq, Nat.reduceEqDiff, Nat.lt_irrefl, Nat.not_lt_zero, Nat.le_refl, Nat.reduceLT, Nat.reduceLeDiff, eq_self, zbbI, bbI0, bbI1, decide_eq_false_iff_not, decide_eq_true_eq, Bool.not_eq_false, Bool.not_eq_true, Bool.not_true, Bool.not_false, cond_true, cond_false, F_339_3B, F_339_77, F_339_76, F_339_132, e2, e3, show ¬ nH g ≤ k by omega, c1, c2, D0']
    · simp (disch := omega) only [↓reduceIte, if_true, if_false, ite_self, Option.bind_some, Option.map_some, wI_rd, wJ_rd, wI_2, wJ_1, wJ_22, I3_lit, I3_add, I3_mul, I3_lt, I3_le, I3_inj, I3_nn', I3_n1, I3_n2, m2m1, ldI_I, ldJ_I, ldZ_I, stI_I, stJ_I, true_or, or_true, false_or, or_false, true_and, and_true, false_and, and_false, not_true_eq_false, not_false_eq_true, reduceCtorEq, Nat.reduceEqDiff, Nat.lt_irrefl, Nat.not_lt_zero, Nat.le_refl, Nat.reduceLT, Nat.reduceLeDiff, eq_self, zbbI, bbI0, bbI1, decide_eq_false_iff_not, decide_eq_true_eq, Bool.not_eq_false, Bool.not_eq_true, Bool.not_true, Bool.not_false, cond_true, cond_false, F_339_3B, F_339_77, F_339_76, F_339_132, e2, e3, show ¬ nH g ≤ k by omega, c1, D0']
  · have D1 := R_findH1 d (x := k) (by omega) f a b c true
    rw [Bool.true_and] at D1
    have D1' : F_339_82 f a b c (I3 k) (I3 1) (I3 0) g = _ := D1
    unfold hP at e
    simp only [Bool.and_eq_true, decide_eq_true_eq] at e
    obtain ⟨⟨c1, c2, c3, c4, c5⟩, c6⟩ := e
    rw [c6] at D1'
    simp (disch := omega) only [↓reduceIte, if_true, if_false, ite_self, Option.bind_some, Option.map_some, wI_rd, wJ_rd, wI_2, wJ_1, wJ_22, I3_lit, I3_add, I3_mul, I3_lt, I3_le, I3_inj, I3_nn', I3_n1, I3_n2, m2m1, ldI_I, ldJ_I, ldZ_I, stI_I, stJ_I, true_or, or_true, false_or, or_false, true_and, and_true, false_and, and_false, not_true_eq_false, not_false_eq_true, reduceCtorEq, Nat.reduceEqDiff, Nat.lt_irrefl, Nat.not_lt_zero, Nat.le_refl, Nat.reduceLT, Nat.reduceLeDiff, eq_self, zbbI, bbI0, bbI1, decide_eq_false_iff_not, decide_eq_true_eq, Bool.not_eq_false, Bool.not_eq_true, Bool.not_true, Bool.not_false, cond_true, cond_false, F_339_3B, F_339_77, F_339_76, F_339_132, e2, e3, show ¬ nH g ≤ k by omega, c1, c2, c3, c4, c5, cmp_eq', D1']
  · simp (disch := omega) only [↓reduceIte, if_true, if_false, ite_self, Option.bind_some, Option.map_some, wI_rd, wJ_rd, wI_2, wJ_1, wJ_22, I3_lit, I3_add, I3_mul, I3_lt, I3_le, I3_inj, I3_nn', I3_n1, I3_n2, m2m1, ldI_I, ldJ_I, ldZ_I, stI_I, stJ_I, true_or, or_true, false_or, or_false, true_and, and_true, false_and, and_false, not_true_eq_false, not_false_eq_true, reduceCtorEq, Nat.reduceEqDiff, Nat.lt_irrefl, Nat.not_lt_zero, Nat.le_refl, Nat.reduceLT, Nat.reduceLeDiff, eq_self, zbbI, bbI0, bbI1, decide_eq_false_iff_not, decide_eq_true_eq, Bool.not_eq_false, Bool.not_eq_true, Bool.not_true, Bool.not_false, cond_true, cond_false, F_339_3B, e2]
def blk (f : Nat → Int32) (s : Nat) (l : List Int32) (k : Nat) : Nat → Int32 := fun i => if s ≤ i ∧ i < s + k then at0 l (i - s) else f i
theorem blk_0 (f : Nat → Int32) (s : Nat) (l : List Int32) : blk f s l 0 = f := by funext i; unfold blk; rw [if_neg (by omega)]
theorem blk_s (h : sm_H) (a : Nat) (f : Nat → Int32) (s : Nat) (l : List Int32) (k : Nat) : sm_wI (wA h a (blk f s l k)) a (s + k) (at0 l k) = wA h a (blk f s l (k + 1)) := by
  rw [wA_wI]
  congr 1
  funext i
  unfold blk
  by_cases q : i = s + k
  · rw [if_pos q, if_pos (by omega), q, show s + k - s = k by omega]
  · rw [if_neg q]
    by_cases q2 : s ≤ i ∧ i < s + k
    · rw [if_pos q2, if_pos (by omega)]
    · rw [if_neg q2, if_neg (by omega)]
theorem wA_self' {h : sm_H} {a : Nat} {f : Nat → Int32} (e : f = h.1 a) : wA h a f = h := by rw [e, wA_self]
def hC0 (h : sm_H) (n : Nat) (f a b : Int32) (c : Int64) (m : Nat) : sm_H := sm_wI (sm_wJ (sm_wI (sm_wI (sm_wI h 11 n f) 12 n a) 13 n b) 14 n c) 15 n (I3 m)
def setHC (h : sm_H) (n : Nat) (f a b : Int32) (c : Int64) (ps : List Int32) (t : Nat) (r : Int32) (l : List Int32) : sm_H := sm_wI (wA (sm_wI (sm_wI (sm_wI (wA (hC0 h n f a b c ps.length) 16 (blk (h.1 16) (n * 20) ps ps.length)) 17 n (I3 t)) 18 n r) 19 n (I3 l.length)) 20 (blk (h.1 20) (n * 10) l l.length)) 10 11 (I3 (n + 1))
theorem C_append {h g : sm_H} (wT : wfT g) (wH : wfH0 g) (cT : cT h g) (cH : cH h g) {o p : Nat} (w : isRw o p) (ho : o < 1000 ∧ (o < 10 ∨ 20 < o)) (hp : p < 10 ∨ 20 < p) {ps : List Int32} (R : hasL h o p ps) (f a b : Int32) (c : Int64) {t : Nat} (ht : t < nT g) (hn : nH g < 500) : F_50 f a b c o (I3 t) h = some (I3 (nH g), setHC h (nH g) f a b c ps t (rs g t) (pl g t)) := by
  have w300 : nT g ≤ 300 := wT.1.2
  have l20 := R.2.1
  have m10 : tM g t ≤ 10 := (wT.2.1 _ ht).2.1.2
  have e4 : h.1 10 11 = I3 (nH g) := cH.1.trans wH.1.1
  have lp' : (pl g t).length = tM g t := lst_len _ _
  have m : g.1 73 t = I3 (tM g t) := (wT.2.1 _ ht).2.1.1
  generalize hnn : nH g = n at *
  have P2 : ∀ u : sm_H, CHandleHouseLaw_law_r9294_ac1f8b.cT u g → u.1 10 11 = I3 n → lp F_50_165B 1000000 (I3 t, I3 0, u) = some (I3 n, sm_wI (wA u 20 (blk (u.1 20) (n * 10) (pl g t) (pl g t).length)) 10 11 (I3 (n + 1))) := by
    intro u cu eu
    have L := lp_it (body := F_50_165B) (r := (I3 n, sm_wI (wA u 20 (blk (u.1 20) (n * 10) (pl g t) (pl g t).length)) 10 11 (I3 (n + 1)))) (tM g t) (fun k => (I3 t, I3 k, wA u 20 (blk (u.1 20) (n * 10) (pl g t) k))) 1000000 (fun k hk => ?_) ?_ (by omega)
    · simp only [blk_0, wA_self] at L; exact L
    · have T1 := C_tmany (h := wA u 20 (blk (u.1 20) (n * 10) (pl g t) k)) wT cu ht
      have T2 := C_tplace (h := wA u 20 (blk (u.1 20) (n * 10) (pl g t) k)) wT cu ht hk
      rw [m] at T1
      have B := blk_s u 20 (u.1 20) (n * 10) (pl g t) k
      rw [at0_lst hk] at B
      simp (disch := omega) only [↓reduceIte, if_true, if_false, ite_self, Option.bind_some, Option.map_some, wI_rd, wJ_rd, wI_2, wJ_1, wJ_22, I3_lit, I3_add, I3_mul, I3_lt, I3_le, I3_inj, I3_nn', I3_n1, I3_n2, m2m1, ldI_I, ldJ_I, ldZ_I, stI_I, stJ_I, true_or, or_true, false_or, or_false, true_and, and_true, false_and, and_false, not_true_eq_false, not_false_eq_true, reduceCtorEq, Nat.reduceEqDiff, Nat.lt_irrefl, Nat.not_lt_zero, Nat.le_refl, Nat.reduceLT, Nat.reduceLeDiff, eq_self, zbbI, bbI0, bbI1, decide_eq_false_iff_not, decide_eq_true_eq, Bool.not_eq_false, Bool.not_eq_true, Bool.not_true, Bool.not_false, cond_true, cond_false, F_50_165B, T1, T2, wA_rd, eu, show ¬ tM g t ≤ k by omega, show ¬ 10 ≤ k by omega, B]
    · have T1 := C_tmany (h := wA u 20 (blk (u.1 20) (n * 10) (pl g t) (tM g t))) wT cu ht
      rw [m] at T1
      rw [lp']
      simp (disch := omega) only [↓reduceIte, if_true, if_false, ite_self, Option.bind_some, Option.map_some, wI_rd, wJ_rd, wI_2, wJ_1, wJ_22, I3_lit, I3_add, I3_mul, I3_lt, I3_le, I3_inj, I3_nn', I3_n1, I3_n2, m2m1, ldI_I, ldJ_I, ldZ_I, stI_I, stJ_I, true_or, or_true, false_or, or_false, true_and, and_true, false_and, and_false, not_true_eq_false, not_false_eq_true, reduceCtorEq, Nat.reduceEqDiff, Nat.lt_irrefl, Nat.not_lt_zero, Nat.le_refl, Nat.reduceLT, Nat.reduceLeDiff, eq_self, zbbI, bbI0, bbI1, decide_eq_false_iff_not, decide_eq_true_eq, Bool.not_eq_false, Bool.not_eq_true, Bool.not_true, Bool.not_false, cond_true, cond_false, F_50_165B, F_50_218, T1, wA_rd, eu, I3_sub, Nat.add_sub_cancel]
  have P3 : ∀ u : sm_H, CHandleHouseLaw_law_r9294_ac1f8b.cT u g → u.1 10 11 = I3 n → F_50_115 (I3 t) u = some (I3 n, sm_wI (wA (sm_wI (sm_wI (sm_wI u 17 n (I3 t)) 18 n (rs g t)) 19 n (I3 (tM g t))) 20 (blk (u.1 20) (n * 10) (pl g t) (pl g t).length)) 10 11 (I3 (n + 1))) := by
    intro u cu eu
    have T1 := C_tres (h := sm_wI u 17 n (I3 t)) wT cu ht
    have T2 := C_tmany (h := sm_wI (sm_wI u 17 n (I3 t)) 18 n (rs g t)) wT cu ht
    rw [m] at T2
    have Q := P2 (sm_wI (sm_wI (sm_wI u 17 n (I3 t)) 18 n (rs g t)) 19 n (I3 (tM g t))) cu eu
    simp (disch := omega) only [↓reduceIte, if_true, if_false, ite_self, Option.bind_some, Option.map_some, wI_rd, wJ_rd, wI_2, wJ_1, wJ_22, I3_lit, I3_add, I3_mul, I3_lt, I3_le, I3_inj, I3_nn', I3_n1, I3_n2, m2m1, ldI_I, ldJ_I, ldZ_I, stI_I, stJ_I, true_or, or_true, false_or, or_false, true_and, and_true, false_and, and_false, not_true_eq_false, not_false_eq_true, reduceCtorEq, Nat.reduceEqDiff, Nat.lt_irrefl, Nat.not_lt_zero, Nat.le_refl, Nat.reduceLT, Nat.reduceLeDiff, eq_self, zbbI, bbI0, bbI1, decide_eq_false_iff_not, decide_eq_true_eq, Bool.not_eq_false, Bool.not_eq_true, Bool.not_true, Bool.not_false, cond_true, cond_false, F_50_115, F_50_165, eu, T1, T2, Q]
    rfl
  have P4 : ∀ u : sm_H, CHandleHouseLaw_law_r9294_ac1f8b.cT u g → u.1 10 11 = I3 n → hasL u o p ps → lp F_50_70B 1000000 (o, I3 t, I3 0, u) = F_50_115 (I3 t) (wA u 16 (blk (u.1 16) (n * 20) ps ps.length)) := by
    intro u cu eu Ru
    have Q := P3 (wA u 16 (blk (u.1 16) (n * 20) ps ps.length)) cu eu
    rw [Q]
    have Rk : ∀ k, hasL (wA u 16 (blk (u.1 16) (n * 20) ps k)) o p ps := fun k => by
      refine ⟨?_, Ru.2.1, fun j hj => ?_⟩
      · rw [wA_rd, if_neg (by omega)]; exact Ru.1
      · rw [wA_rd, if_neg (by omega)]; exact Ru.2.2 j hj
    have L := lp_it (body := F_50_70B) (r := (I3 n, sm_wI (wA (sm_wI (sm_wI (sm_wI (wA u 16 (blk (u.1 16) (n * 20) ps ps.length)) 17 n (I3 t)) 18 n (rs g t)) 19 n (I3 (tM g t))) 20 (blk ((wA u 16 (blk (u.1 16) (n * 20) ps ps.length)).1 20) (n * 10) (pl g t) (pl g t).length)) 10 11 (I3 (n + 1)))) ps.length (fun k => (o, I3 t, I3 k, wA u 16 (blk (u.1 16) (n * 20) ps k))) 1000000 (fun k hk => ?_) ?_ (by omega)
    · simp only [blk_0, wA_self] at L; exact L
    · have S := C_rsize w (Rk k)
      have A := C_rat w (Rk k) hk
      have B := blk_s u 16 (u.1 16) (n * 20) ps k
      have e5 : (wA u 16 (blk (u.1 16) (n * 20) ps k)).1 10 11 = I3 n := eu
      show F_50_70B (o, I3 t, I3 k, wA u 16 (blk (u.1 16) (n * 20) ps k)) = _
      unfold F_50_70B
      rw [if_neg (not_not_intro (w.i _)), S]; simp only [Option.bind_some]
      rw [if_neg (by rw [I3_le (by omega) (by omega)]; omega), if_neg (by rw [I3_lit, I3_le (by decide) (by omega)]; omega), if_neg (not_not_intro (w.i _)), A]; simp only [Option.bind_some]
      rw [e5, I3_lit, I3_lit, I3_mul, I3_add, stI_I (by omega) (by omega), B]; simp only [Option.bind_some]
      rw [I3_add]
    · have S := C_rsize w (Rk ps.length)
      show F_50_70B (o, I3 t, I3 ps.length, wA u 16 (blk (u.1 16) (n * 20) ps ps.length)) = _
      unfold F_50_70B
      rw [if_neg (not_not_intro (w.i _)), S]; simp only [Option.bind_some]
      rw [if_pos (by rw [I3_le (by omega) (by omega)]; omega), Q]; rfl
  have R0 : hasL (sm_wJ (sm_wI (sm_wI (sm_wI h 11 n f) 12 n a) 13 n b) 14 n c) o p ps := by
    refine ⟨?_, R.2.1, fun j hj => ?_⟩
    · rw [wJ_1, wI_rd, wI_rd, wI_rd, if_neg (by omega), if_neg (by omega), if_neg (by omega)]; exact R.1
    · rw [wJ_1, wI_rd, wI_rd, wI_rd, if_neg (by omega), if_neg (by omega), if_neg (by omega)]; exact R.2.2 j hj
  have R1 : hasL (hC0 h n f a b c ps.length) o p ps := by
    refine ⟨?_, R.2.1, fun j hj => ?_⟩
    · unfold hC0; rw [wI_rd, if_neg (by omega)]; exact R0.1
    · unfold hC0; rw [wI_rd, if_neg (by omega)]; exact R0.2.2 j hj
  have S := C_rsize w R0
  have Q := P4 (hC0 h n f a b c ps.length) cT e4 R1
  have Q3 := P3 (wA (hC0 h n f a b c ps.length) 16 (blk ((hC0 h n f a b c ps.length).1 16) (n * 20) ps ps.length)) cT e4
  show F_50_0 f a b c o (I3 t) h = _
  unfold F_50_0
  rw [if_pos (by rw [e4, I3_lit, I3_lt (by omega) (by decide)]; exact hn), e4, stI_I (by omega) (by omega)]; simp only [Option.bind_some]
  have e5 : (sm_wI h 11 n f).1 10 11 = I3 n := e4
  rw [e5, stI_I (by omega) (by omega)]; simp only [Option.bind_some]
  have e6 : (sm_wI (sm_wI h 11 n f) 12 n a).1 10 11 = I3 n := e4
  rw [e6, stI_I (by omega) (by omega)]; simp only [Option.bind_some]
  have e7 : (sm_wI (sm_wI (sm_wI h 11 n f) 12 n a) 13 n b).1 10 11 = I3 n := e4
  rw [e7, stJ_I (by omega) (by omega)]; simp only [Option.bind_some]
  rw [if_neg (not_not_intro (w.i _)), S]; simp only [Option.bind_some]
  have e8 : (sm_wJ (sm_wI (sm_wI (sm_wI h 11 n f) 12 n a) 13 n b) 14 n c).1 10 11 = I3 n := e4
  rw [e8, stI_I (by omega) (by omega)]; simp only [Option.bind_some]
  refine Eq.trans Q (Q3.trans ?_)
  unfold setHC
  rw [lp']; rfl
def hR0 (g : sm_H) (n : Nat) (f a b : Int32) (c : Int64) (m t : Nat) : sm_H := sm_wI (sm_wJ (sm_wI (sm_wI (sm_wI (sm_wI g 76 n (I3 t)) 75 n f) 77 n a) 78 n b) 79 n c) 80 n (I3 m)
def setHR (g : sm_H) (n : Nat) (f a b : Int32) (c : Int64) (ps : List Int32) (t : Nat) : sm_H := sm_wI (wA (hR0 g n f a b c ps.length t) 81 (blk (g.1 81) (24 * n) ps ps.length)) 67 18 (I3 (n + 1))
theorem R_append {g : sm_H} {n : Nat} (e18 : g.1 67 18 = I3 n) (hn : n < 500) {ps : List Int32} (d : prR g ps) (f a b : Int32) (c : Int64) {t : Nat} : ((stI g 76 500 (I3 n) (I3 t)).bind fun h8 => (stI h8 75 500 (I3 n) f).bind fun h9 => (stI h9 77 500 (I3 n) a).bind fun h10 => (stI h10 78 500 (I3 n) b).bind fun h11 => (stJ h11 79 500 (I3 n) c).bind fun h12 => (stI h12 80 500 (I3 n) (h12.1 67 3)).bind fun h13 => F_340_143 (I3 n) 0 h13) = some (I3 n, setHR g n f a b c ps t) := by
  have e3 := d.1
  have l20 := d.2.1
  have L := lp_it (body := F_340_143B) (r := (I3 n, setHR g n f a b c ps t)) ps.length (fun k => (I3 n, I3 k, wA (hR0 g n f a b c ps.length t) 81 (blk (g.1 81) (24 * n) ps k))) 1000000 (fun k hk => ?_) ?_ (by omega)
  · have w0 : wA (hR0 g n f a b c ps.length t) 81 (blk (g.1 81) (24 * n) ps 0) = hR0 g n f a b c ps.length t := wA_self' (blk_0 _ _ _)
    simp only [w0] at L
    have L' : F_340_143 (I3 n) 0 (hR0 g n f a b c ps.length t) = _ := L
    rw [stI_I (by omega) (by omega)]; simp only [Option.bind_some]
    rw [stI_I (by omega) (by omega)]; simp only [Option.bind_some]
    rw [stI_I (by omega) (by omega)]; simp only [Option.bind_some]
    rw [stI_I (by omega) (by omega)]; simp only [Option.bind_some]
    rw [stJ_I (by omega) (by omega)]; simp only [Option.bind_some]
    rw [stI_I (by omega) (by omega)]; simp only [Option.bind_some]
    have e3' : (sm_wJ (sm_wI (sm_wI (sm_wI (sm_wI g 76 n (I3 t)) 75 n f) 77 n a) 78 n b) 79 n c).1 67 3 = I3 ps.length := e3
    rw [e3']
    exact L'
  · have z : (hR0 g n f a b c ps.length t).1 69 k = at0 ps k := d.2.2 k hk
    have z3 : (hR0 g n f a b c ps.length t).1 67 3 = I3 ps.length := e3
    have B := blk_s (hR0 g n f a b c ps.length t) 81 (g.1 81) (24 * n) ps k
    simp (disch := omega) only [↓reduceIte, if_true, if_false, ite_self, Option.bind_some, Option.map_some, wI_rd, wJ_rd, wI_2, wJ_1, wJ_22, I3_lit, I3_add, I3_mul, I3_lt, I3_le, I3_inj, I3_nn', I3_n1, I3_n2, m2m1, ldI_I, ldJ_I, ldZ_I, stI_I, stJ_I, true_or, or_true, false_or, or_false, true_and, and_true, false_and, and_false, not_true_eq_false, not_false_eq_true, reduceCtorEq, Nat.reduceEqDiff, Nat.lt_irrefl, Nat.not_lt_zero, Nat.le_refl, Nat.reduceLT, Nat.reduceLeDiff, eq_self, zbbI, bbI0, bbI1, decide_eq_false_iff_not, decide_eq_true_eq, Bool.not_eq_false, Bool.not_eq_true, Bool.not_true, Bool.not_false, cond_true, cond_false, F_340_143B, wA_rd, z3, z, show ¬ ps.length ≤ k by omega, B]
  · have z3 : (hR0 g n f a b c ps.length t).1 67 3 = I3 ps.length := e3
    have z18 : (hR0 g n f a b c ps.length t).1 67 18 = I3 n := e18
    simp (disch := omega) only [↓reduceIte, if_true, if_false, ite_self, Option.bind_some, Option.map_some, wI_rd, wJ_rd, wI_2, wJ_1, wJ_22, I3_lit, I3_add, I3_mul, I3_lt, I3_le, I3_inj, I3_nn', I3_n1, I3_n2, m2m1, ldI_I, ldJ_I, ldZ_I, stI_I, stJ_I, true_or, or_true, false_or, or_false, true_and, and_true, false_and, and_false, not_true_eq_false, not_false_eq_true, reduceCtorEq, Nat.reduceEqDiff, Nat.lt_irrefl, Nat.not_lt_zero, Nat.le_refl, Nat.reduceLT, Nat.reduceLeDiff, eq_self, zbbI, bbI0, bbI1, decide_eq_false_iff_not, decide_eq_true_eq, Bool.not_eq_false, Bool.not_eq_true, Bool.not_true, Bool.not_false, cond_true, cond_false, F_340_143B, wA_rd, z3, z18]
    rfl
