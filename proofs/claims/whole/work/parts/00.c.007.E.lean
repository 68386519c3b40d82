theorem R_ref {g : sm_H} {a : Nat} (ha : a < 2147483648) : F_291 (I3 a) g = some (b2 (decide (7 ≤ a)), g) := by
  by_cases c : a < 7
  · simp (disch := omega) only [F_291_11, F_291_0, F_291, ↓reduceIte, if_true, if_false, ite_self, Option.bind_some, Option.map_some, wI_rd, wJ_rd, wI_2, wJ_1, wJ_22, I3_lit, I3_add, I3_mul, I3_lt, I3_le, I3_inj, I3_nn', I3_n1, I3_n2, m2m1, ldI_I, ldJ_I, ldZ_I, stI_I, stJ_I, true_or, or_true, false_or, or_false, true_and, and_true, false_and, and_false, not_true_eq_false, not_false_eq_true, reduceCtorEq, Nat.reduceEqDiff, Nat.lt_irrefl, Nat.not_lt_zero, Nat.le_refl, Nat.reduceLT, Nat.reduceLeDiff, eq_self, b2_if, b2_I, zbb, Bool.not_true, Bool.not_false, cond_true, cond_false, c, show ¬ 7 ≤ a by omega, decide_false, decide_true]
  · simp (disch := omega) only [F_291_11, F_291_0, F_291, ↓reduceIte, if_true, if_false, ite_self, Option.bind_some, Option.map_some, wI_rd, wJ_rd, wI_2, wJ_1, wJ_22, I3_lit, I3_add, I3_mul, I3_lt, I3_le, I3_inj, I3_nn', I3_n1, I3_n2, m2m1, ldI_I, ldJ_I, ldZ_I, stI_I, stJ_I, true_or, or_true, false_or, or_false, true_and, and_true, false_and, and_false, not_true_eq_false, not_false_eq_true, reduceCtorEq, Nat.reduceEqDiff, Nat.lt_irrefl, Nat.not_lt_zero, Nat.le_refl, Nat.reduceLT, Nat.reduceLeDiff, eq_self, b2_if, b2_I, zbb, Bool.not_true, Bool.not_false, cond_true, cond_false, c, show 7 ≤ a by omega, decide_false, decide_true]
theorem R_plain {g : sm_H} {a : Nat} (ha : a < 2147483648) : F_290 (I3 a) g = some (b2 (decide (1 ≤ a ∧ a ≤ 6)), g) := by
  by_cases c : a < 1
  · simp (disch := omega) only [F_290_16, F_290_15, F_290_0, F_290, ↓reduceIte, if_true, if_false, ite_self, Option.bind_some, Option.map_some, wI_rd, wJ_rd, wI_2, wJ_1, wJ_22, I3_lit, I3_add, I3_mul, I3_lt, I3_le, I3_inj, I3_nn', I3_n1, I3_n2, m2m1, ldI_I, ldJ_I, ldZ_I, stI_I, stJ_I, true_or, or_true, false_or, or_false, true_and, and_true, false_and, and_false, not_true_eq_false, not_false_eq_true, reduceCtorEq, Nat.reduceEqDiff, Nat.lt_irrefl, Nat.not_lt_zero, Nat.le_refl, Nat.reduceLT, Nat.reduceLeDiff, eq_self, b2_if, b2_I, zbb, Bool.not_true, Bool.not_false, cond_true, cond_false, c, show ¬ 1 ≤ a by omega, decide_false, decide_true]
  · by_cases d : 6 < a
    · simp (disch := omega) only [F_290_16, F_290_15, F_290_0, F_290, ↓reduceIte, if_true, if_false, ite_self, Option.bind_some, Option.map_some, wI_rd, wJ_rd, wI_2, wJ_1, wJ_22, I3_lit, I3_add, I3_mul, I3_lt, I3_le, I3_inj, I3_nn', I3_n1, I3_n2, m2m1, ldI_I, ldJ_I, ldZ_I, stI_I, stJ_I, true_or, or_true, false_or, or_false, true_and, and_true, false_and, and_false, not_true_eq_false, not_false_eq_true, reduceCtorEq, Nat.reduceEqDiff, Nat.lt_irrefl, Nat.not_lt_zero, Nat.le_refl, Nat.reduceLT, Nat.reduceLeDiff, eq_self, b2_if, b2_I, zbb, Bool.not_true, Bool.not_false, cond_true, cond_false, c, d, show ¬ a ≤ 6 by omega, decide_false, decide_true]
    · simp (disch := omega) only [F_290_16, F_290_15, F_290_0, F_290, ↓reduceIte, if_true, if_false, ite_self, Option.bind_some, Option.map_some, wI_rd, wJ_rd, wI_2, wJ_1, wJ_22, I3_lit, I3_add, I3_mul, I3_lt, I3_le, I3_inj, I3_nn', I3_n1, I3_n2, m2m1, ldI_I, ldJ_I, ldZ_I, stI_I, stJ_I, true_or, or_true, false_or, or_false, true_and, and_true, false_and, and_false, not_true_eq_false, not_false_eq_true, reduceCtorEq, Nat.reduceEqDiff, Nat.lt_irrefl, Nat.not_lt_zero, Nat.le_refl, Nat.reduceLT, Nat.reduceLeDiff, eq_self, b2_if, b2_I, zbb, Bool.not_true, Bool.not_false, cond_true, cond_false, c, d, show 1 ≤ a by omega, show a ≤ 6 by omega, decide_false, decide_true]
theorem B_self (g : sm_H) (n a : Nat) : bel g n a a = true := by
  have hb : kBase a a = true := by unfold kBase; rw [Nat.beq_refl]; rfl
  cases n with
  | zero => exact hb
  | succ n =>
    rcases Nat.lt_or_ge a 20 with c | c
    · rw [bel_lt20 g _ a a c]; exact hb
    · rw [bel_ge20 g n a a c, Nat.beq_refl]; rfl
theorem kB_eq {x o : Nat} (h7 : o ≠ 7) (h8 : o ≠ 8) : kBase x o = decide (x = o) := by
  unfold kBase
  have e1 : Nat.beq o 7 = false := by
    cases q : Nat.beq o 7 with
    | false => rfl
    | true => exact absurd (Nat.eq_of_beq_eq_true q) h7
  have e2 : Nat.beq o 8 = false := by
    cases q : Nat.beq o 8 with
    | false => rfl
    | true => exact absurd (Nat.eq_of_beq_eq_true q) h8
  rw [e1, e2]
  simp only [Bool.and_false, Bool.false_and, Bool.or_false]
  by_cases c : x = o
  · subst c; rw [Nat.beq_refl]; simp
  · have : Nat.beq x o = false := by
      cases q : Nat.beq x o with
      | false => rfl
      | true => exact absurd (Nat.eq_of_beq_eq_true q) c
    rw [this]; simp [c]
theorem lp_1 {σ ρ : Type} {body : σ → Option (σ ⊕ ρ)} {n : Nat} {s s' : σ} (e : body s = some (.inl s')) : lp body (n + 1) s = lp body n s' := by
  show (match body s with | none => none | some (.inl s') => lp body n s' | some (.inr r) => some r) = _
  rw [e]
theorem lp_0 {σ ρ : Type} {body : σ → Option (σ ⊕ ρ)} {n : Nat} {s : σ} {r : ρ} (e : body s = some (.inr r)) : lp body (n + 1) s = some r := by
  show (match body s with | none => none | some (.inl s') => lp body n s' | some (.inr r) => some r) = _
  rw [e]
theorem R_up {g : sm_H} (wK : wfK g) {o : Nat} (ho : o < 2147483648) (h7 : o ≠ 7) (h8 : o ≠ 8) : ∀ (x f : Nat), x < 20 + nC g → x < f → lp F_295_69B f (I3 o, I3 x, g) = some (b2 (decide (20 ≤ x) && B g (par g (x - 20)) o), g) := by
  have h12 := wK.2.1
  intro x
  induction x using Nat.strongRecOn with
  | _ x ih =>
    intro f hx hf
    obtain ⟨f, rfl⟩ : ∃ q, f = q + 1 := ⟨f - 1, by omega⟩
    rcases Nat.lt_or_ge x 20 with c | c
    · rw [lp_0 (r := (b2 false, g))]
      · simp [show ¬ 20 ≤ x by omega]
      · simp (disch := omega) only [↓reduceIte, if_true, if_false, ite_self, Option.bind_some, Option.map_some, wI_rd, wJ_rd, wI_2, wJ_1, wJ_22, I3_lit, I3_add, I3_mul, I3_lt, I3_le, I3_inj, I3_nn', I3_n1, I3_n2, m2m1, ldI_I, ldJ_I, ldZ_I, stI_I, stJ_I, true_or, or_true, false_or, or_false, true_and, and_true, false_and, and_false, not_true_eq_false, not_false_eq_true, reduceCtorEq, Nat.reduceEqDiff, Nat.lt_irrefl, Nat.not_lt_zero, Nat.le_refl, Nat.reduceLT, Nat.reduceLeDiff, eq_self, b2_if, b2_I, zbb, Bool.not_true, Bool.not_false, cond_true, cond_false, F_295_69B, c]
    · obtain ⟨p1, p2⟩ := wK.2.2 (x - 20) (by omega)
      have hp : par g (x - 20) < x := by omega
      by_cases d : par g (x - 20) = o
      · rw [lp_0 (r := (b2 true, g))]
        · rw [d]; show _ = some (b2 (decide (20 ≤ x) && bel g 12 o o), g); rw [B_self]; simp [c]
        · simp (disch := omega) only [↓reduceIte, if_true, if_false, ite_self, Option.bind_some, Option.map_some, wI_rd, wJ_rd, wI_2, wJ_1, wJ_22, I3_lit, I3_add, I3_mul, I3_lt, I3_le, I3_inj, I3_nn', I3_n1, I3_n2, m2m1, ldI_I, ldJ_I, ldZ_I, stI_I, stJ_I, true_or, or_true, false_or, or_false, true_and, and_true, false_and, and_false, not_true_eq_false, not_false_eq_true, reduceCtorEq, Nat.reduceEqDiff, Nat.lt_irrefl, Nat.not_lt_zero, Nat.le_refl, Nat.reduceLT, Nat.reduceLeDiff, eq_self, b2_if, b2_I, zbb, Bool.not_true, Bool.not_false, cond_true, cond_false, F_295_69B, show ¬ x < 20 by omega, I3_sub, p1, d]
      · rw [lp_1 (s' := (I3 o, I3 (par g (x - 20)), g))]
        · rw [ih _ hp f (by omega) (by omega)]
          congr 3
          simp only [c, decide_true, Bool.true_and]
          rcases Nat.lt_or_ge (par g (x - 20)) 20 with e | e
          · rw [B_lt20 e, kB_eq h7 h8]; simp [show ¬ 20 ≤ par g (x - 20) by omega, d]
          · rw [B_ge20 wK (by omega) e]
            have : Nat.beq (par g (x - 20)) o = false := by
              cases q : Nat.beq (par g (x - 20)) o with
              | false => rfl
              | true => exact absurd (Nat.eq_of_beq_eq_true q) d
            rw [this]; simp [e]
        · simp (disch := omega) only [↓reduceIte, if_true, if_false, ite_self, Option.bind_some, Option.map_some, wI_rd, wJ_rd, wI_2, wJ_1, wJ_22, I3_lit, I3_add, I3_mul, I3_lt, I3_le, I3_inj, I3_nn', I3_n1, I3_n2, m2m1, ldI_I, ldJ_I, ldZ_I, stI_I, stJ_I, true_or, or_true, false_or, or_false, true_and, and_true, false_and, and_false, not_true_eq_false, not_false_eq_true, reduceCtorEq, Nat.reduceEqDiff, Nat.lt_irrefl, Nat.not_lt_zero, Nat.le_refl, Nat.reduceLT, Nat.reduceLeDiff, eq_self, b2_if, b2_I, zbb, Bool.not_true, Bool.not_false, cond_true, cond_false, F_295_69B, show ¬ x < 20 by omega, I3_sub, p1, d]
theorem B_7 {g : sm_H} (wK : wfK g) : ∀ x, 7 ≤ x → x < 20 + nC g → B g x 7 = true := by
  intro x
  induction x using Nat.strongRecOn with
  | _ x ih =>
    intro h1 h2
    rcases Nat.lt_or_ge x 20 with c | c
    · rw [B_lt20 c]; unfold kBase; rw [Nat.ble_eq.mpr h1]; simp
    · have p2 := (wK.2.2 (x - 20) (by omega)).2
      rw [B_ge20 wK h2 c, ih _ (by omega) (by omega) (by omega)]; simp
theorem B_8 {g : sm_H} (wK : wfK g) : ∀ x, x ≠ 8 → x < 20 + nC g → B g x 8 = decide (x = 10 ∨ x = 11 ∨ x = 13 ∨ x = 14) := by
  intro x
  induction x using Nat.strongRecOn with
  | _ x ih =>
    intro h1 h2
    rcases Nat.lt_or_ge x 20 with c | c
    · rw [B_lt20 c]
      exact (by decide : ∀ x, x < 20 → x ≠ 8 → kBase x 8 = decide (x = 10 ∨ x = 11 ∨ x = 13 ∨ x = 14)) x c h1
    · have p2 := (wK.2.2 (x - 20) (by omega)).2
      rw [B_ge20 wK h2 c, ih _ (by omega) (by omega) (by omega)]
      have : Nat.beq x 8 = false := by
        cases q : Nat.beq x 8 with
        | false => rfl
        | true => have := Nat.eq_of_beq_eq_true q; omega
      rw [this]
      simp only [Bool.false_or, decide_eq_decide]
      omega
theorem B_lt7 {g : sm_H} (wK : wfK g) {o : Nat} (ho : o < 7) : ∀ x, x ≠ o → x < 20 + nC g → B g x o = false := by
  intro x
  induction x using Nat.strongRecOn with
  | _ x ih =>
    intro h1 h2
    rcases Nat.lt_or_ge x 20 with c | c
    · rw [B_lt20 c, kB_eq (by omega) (by omega)]; simp [h1]
    · have p2 := (wK.2.2 (x - 20) (by omega)).2
      rw [B_ge20 wK h2 c, ih _ (by omega) (by omega) (by omega)]
      have : Nat.beq x o = false := by
        cases q : Nat.beq x o with
        | false => rfl
        | true => have := Nat.eq_of_beq_eq_true q; omega
      rw [this]; rfl
theorem R_below {g : sm_H} (wK : wfK g) {x o : Nat} (hx : x < 20 + nC g) (ho : o < 2147483648) : F_295 (I3 x) (I3 o) g = some (b2 (B g x o), g) := by
  have h12 := wK.2.1
  by_cases c : x = o
  · subst c; show _ = some (b2 (bel g 12 x x), g); rw [B_self]; simp (disch := omega) only [F_295_69B, F_295_69, F_295_66, F_295_61, F_295_21, F_295_0, F_295, ↓reduceIte, if_true, if_false, ite_self, Option.bind_some, Option.map_some, wI_rd, wJ_rd, wI_2, wJ_1, wJ_22, I3_lit, I3_add, I3_mul, I3_lt, I3_le, I3_inj, I3_nn', I3_n1, I3_n2, m2m1, ldI_I, ldJ_I, ldZ_I, stI_I, stJ_I, true_or, or_true, false_or, or_false, true_and, and_true, false_and, and_false, not_true_eq_false, not_false_eq_true, reduceCtorEq, Nat.reduceEqDiff, Nat.lt_irrefl, Nat.not_lt_zero, Nat.le_refl, Nat.reduceLT, Nat.reduceLeDiff, eq_self, b2_if, b2_I, zbb, Bool.not_true, Bool.not_false, cond_true, cond_false]
  by_cases d : x < 7
  · simp (disch := omega) only [F_295_69B, F_295_69, F_295_66, F_295_61, F_295_21, F_295_0, F_295, ↓reduceIte, if_true, if_false, ite_self, Option.bind_some, Option.map_some, wI_rd, wJ_rd, wI_2, wJ_1, wJ_22, I3_lit, I3_add, I3_mul, I3_lt, I3_le, I3_inj, I3_nn', I3_n1, I3_n2, m2m1, ldI_I, ldJ_I, ldZ_I, stI_I, stJ_I, true_or, or_true, false_or, or_false, true_and, and_true, false_and, and_false, not_true_eq_false, not_false_eq_true, reduceCtorEq, Nat.reduceEqDiff, Nat.lt_irrefl, Nat.not_lt_zero, Nat.le_refl, Nat.reduceLT, Nat.reduceLeDiff, eq_self, b2_if, b2_I, zbb, Bool.not_true, Bool.not_false, cond_true, cond_false, c, R_ref, show ¬ 7 ≤ x by omega, decide_false]
    rw [show B g x o = false from ?_]
    · rfl
    · rw [B_lt20 (by omega)]
      by_cases o7 : o = 7
      · subst o7; exact (by decide : ∀ x, x < 7 → kBase x 7 = false) x d
      by_cases o8 : o = 8
      · subst o8; exact (by decide : ∀ x, x < 7 → kBase x 8 = false) x d
      rw [kB_eq o7 o8]; simp [c]
  by_cases e : o < 7
  · simp (disch := omega) only [F_295_69B, F_295_69, F_295_66, F_295_61, F_295_21, F_295_0, F_295, ↓reduceIte, if_true, if_false, ite_self, Option.bind_some, Option.map_some, wI_rd, wJ_rd, wI_2, wJ_1, wJ_22, I3_lit, I3_add, I3_mul, I3_lt, I3_le, I3_inj, I3_nn', I3_n1, I3_n2, m2m1, ldI_I, ldJ_I, ldZ_I, stI_I, stJ_I, true_or, or_true, false_or, or_false, true_and, and_true, false_and, and_false, not_true_eq_false, not_false_eq_true, reduceCtorEq, Nat.reduceEqDiff, Nat.lt_irrefl, Nat.not_lt_zero, Nat.le_refl, Nat.reduceLT, Nat.reduceLeDiff, eq_self, b2_if, b2_I, zbb, Bool.not_true, Bool.not_false, cond_true, cond_false, c, R_ref, show 7 ≤ x by omega, show ¬ 7 ≤ o by omega, decide_false, decide_true]
    rw [B_lt7 wK e x c hx]; rfl
  by_cases o7 : o = 7
  · subst o7; simp (disch := omega) only [F_295_69B, F_295_69, F_295_66, F_295_61, F_295_21, F_295_0, F_295, ↓reduceIte, if_true, if_false, ite_self, Option.bind_some, Option.map_some, wI_rd, wJ_rd, wI_2, wJ_1, wJ_22, I3_lit, I3_add, I3_mul, I3_lt, I3_le, I3_inj, I3_nn', I3_n1, I3_n2, m2m1, ldI_I, ldJ_I, ldZ_I, stI_I, stJ_I, true_or, or_true, false_or, or_false, true_and, and_true, false_and, and_false, not_true_eq_false, not_false_eq_true, reduceCtorEq, Nat.reduceEqDiff, Nat.lt_irrefl, Nat.not_lt_zero, Nat.le_refl, Nat.reduceLT, Nat.reduceLeDiff, eq_self, b2_if, b2_I, zbb, Bool.not_true, Bool.not_false, cond_true, cond_false, c, R_ref, show 7 ≤ x by omega, decide_true]; rw [B_7 wK x (by omega) hx]; rfl
  by_cases o8 : o = 8
  · subst o8
    rw [B_8 wK x c hx]
    by_cases q0 : x = 10
    · subst q0; simp (disch := omega) only [F_295_69B, F_295_69, F_295_66, F_295_61, F_295_21, F_295_0, F_295, ↓reduceIte, if_true, if_false, ite_self, Option.bind_some, Option.map_some, wI_rd, wJ_rd, wI_2, wJ_1, wJ_22, I3_lit, I3_add, I3_mul, I3_lt, I3_le, I3_inj, I3_nn', I3_n1, I3_n2, m2m1, ldI_I, ldJ_I, ldZ_I, stI_I, stJ_I, true_or, or_true, false_or, or_false, true_and, and_true, false_and, and_false, not_true_eq_false, not_false_eq_true, reduceCtorEq, Nat.reduceEqDiff, Nat.lt_irrefl, Nat.not_lt_zero, Nat.le_refl, Nat.reduceLT, Nat.reduceLeDiff, eq_self, b2_if, b2_I, zbb, Bool.not_true, Bool.not_false, cond_true, cond_false, R_ref, decide_true]
    by_cases q1 : x = 11
    · subst q1; simp (disch := omega) only [F_295_69B, F_295_69, F_295_66, F_295_61, F_295_21, F_295_0, F_295, ↓reduceIte, if_true, if_false, ite_self, Option.bind_some, Option.map_some, wI_rd, wJ_rd, wI_2, wJ_1, wJ_22, I3_lit, I3_add, I3_mul, I3_lt, I3_le, I3_inj, I3_nn', I3_n1, I3_n2, m2m1, ldI_I, ldJ_I, ldZ_I, stI_I, stJ_I, true_or, or_true, false_or, or_false, true_and, and_true, false_and, and_false, not_true_eq_false, not_false_eq_true, reduceCtorEq, Nat.reduceEqDiff, Nat.lt_irrefl, Nat.not_lt_zero, Nat.le_refl, Nat.reduceLT, Nat.reduceLeDiff, eq_self, b2_if, b2_I, zbb, Bool.not_true, Bool.not_false, cond_true, cond_false, R_ref, decide_true]
    by_cases q2 : x = 13
    · subst q2; simp (disch := omega) only [F_295_69B, F_295_69, F_295_66, F_295_61, F_295_21, F_295_0, F_295, ↓reduceIte, if_true, if_false, ite_self, Option.bind_some, Option.map_some, wI_rd, wJ_rd, wI_2, wJ_1, wJ_22, I3_lit, I3_add, I3_mul, I3_lt, I3_le, I3_inj, I3_nn', I3_n1, I3_n2, m2m1, ldI_I, ldJ_I, ldZ_I, stI_I, stJ_I, true_or, or_true, false_or, or_false, true_and, and_true, false_and, and_false, not_true_eq_false, not_false_eq_true, reduceCtorEq, Nat.reduceEqDiff, Nat.lt_irrefl, Nat.not_lt_zero, Nat.le_refl, Nat.reduceLT, Nat.reduceLeDiff, eq_self, b2_if, b2_I, zbb, Bool.not_true, Bool.not_false, cond_true, cond_false, R_ref, decide_true]
    by_cases q3 : x = 14
    · subst q3; simp (disch := omega) only [F_295_69B, F_295_69, F_295_66, F_295_61, F_295_21, F_295_0, F_295, ↓reduceIte, if_true, if_false, ite_self, Option.bind_some, Option.map_some, wI_rd, wJ_rd, wI_2, wJ_1, wJ_22, I3_lit, I3_add, I3_mul, I3_lt, I3_le, I3_inj, I3_nn', I3_n1, I3_n2, m2m1, ldI_I, ldJ_I, ldZ_I, stI_I, stJ_I, true_or, or_true, false_or, or_false, true_and, and_true, false_and, and_false, not_true_eq_false, not_false_eq_true, reduceCtorEq, Nat.reduceEqDiff, Nat.lt_irrefl, Nat.not_lt_zero, Nat.le_refl, Nat.reduceLT, Nat.reduceLeDiff, eq_self, b2_if, b2_I, zbb, Bool.not_true, Bool.not_false, cond_true, cond_false, R_ref, decide_true]
    simp (disch := omega) only [F_295_69B, F_295_69, F_295_66, F_295_61, F_295_21, F_295_0, F_295, ↓reduceIte, if_true, if_false, ite_self, Option.bind_some, Option.map_some, wI_rd, wJ_rd, wI_2, wJ_1, wJ_22, I3_lit, I3_add, I3_mul, I3_lt, I3_le, I3_inj, I3_nn', I3_n1, I3_n2, m2m1, ldI_I, ldJ_I, ldZ_I, stI_I, stJ_I, true_or, or_true, false_or, or_false, true_and, and_true, false_and, and_false, not_true_eq_false, not_false_eq_true, reduceCtorEq, Nat.reduceEqDiff, Nat.lt_irrefl, Nat.not_lt_zero, Nat.le_refl, Nat.reduceLT, Nat.reduceLeDiff, eq_self, b2_if, b2_I, zbb, Bool.not_true, Bool.not_false, cond_true, cond_false, c, R_ref, show 7 ≤ x by omega, decide_true, q0, q1, q2, q3, decide_false]
  simp (disch := omega) only [F_295_69B, F_295_69, F_295_66, F_295_61, F_295_21, F_295_0, F_295, ↓reduceIte, if_true, if_false, ite_self, Option.bind_some, Option.map_some, wI_rd, wJ_rd, wI_2, wJ_1, wJ_22, I3_lit, I3_add, I3_mul, I3_lt, I3_le, I3_inj, I3_nn', I3_n1, I3_n2, m2m1, ldI_I, ldJ_I, ldZ_I, stI_I, stJ_I, true_or, or_true, false_or, or_false, true_and, and_true, false_and, and_false, not_true_eq_false, not_false_eq_true, reduceCtorEq, Nat.reduceEqDiff, Nat.lt_irrefl, Nat.not_lt_zero, Nat.le_refl, Nat.reduceLT, Nat.reduceLeDiff, eq_self, b2_if, b2_I, zbb, Bool.not_true, Bool.not_false, cond_true, cond_false, c, R_ref, show 7 ≤ x by omega, show 7 ≤ o by omega, decide_true, o7, o8]
  rw [R_up wK ho o7 o8 x 1000000 hx (by omega)]
  rcases Nat.lt_or_ge x 20 with z | z
  · rw [B_lt20 z, kB_eq o7 o8]; simp [show ¬ 20 ≤ x by omega, c, b2]; rfl
  · rw [B_ge20 wK hx z]
    have : Nat.beq x o = false := by
      cases q : Nat.beq x o with
      | false => rfl
      | true => exact absurd (Nat.eq_of_beq_eq_true q) c
    rw [this]; simp [z, b2]; cases B g (par g (x - 20)) o <;> rfl
theorem R_wid0 {g : sm_H} {a b : Nat} (ha : a < 2147483648) (hb : b < 2147483648) : F_296 (I3 a) (I3 b) g = some (b2 (decide (a = b ∨ a = 2 ∧ (b = 3 ∨ b = 5 ∨ b = 6) ∨ (a = 3 ∨ a = 4) ∧ (b = 5 ∨ b = 6) ∨ a = 5 ∧ b = 6)), g) := by
  simp (disch := omega) only [F_296_107, F_296_95, F_296_90, F_296_78, F_296_73, F_296_61, F_296_56, F_296_0, F_296, ↓reduceIte, if_true, if_false, ite_self, Option.bind_some, Option.map_some, wI_rd, wJ_rd, wI_2, wJ_1, wJ_22, I3_lit, I3_add, I3_mul, I3_lt, I3_le, I3_inj, I3_nn', I3_n1, I3_n2, m2m1, ldI_I, ldJ_I, ldZ_I, stI_I, stJ_I, true_or, or_true, false_or, or_false, true_and, and_true, false_and, and_false, not_true_eq_false, not_false_eq_true, reduceCtorEq, Nat.reduceEqDiff, Nat.lt_irrefl, Nat.not_lt_zero, Nat.le_refl, Nat.reduceLT, Nat.reduceLeDiff, eq_self, zbbI, bbI0, bbI1, decide_eq_false_iff_not, decide_eq_true_eq, Bool.not_eq_false, Bool.not_eq_true, Bool.not_true, Bool.not_false, cond_true, cond_false]
  (repeat' split) <;> first | (refine leaf0 ?_; omega) | (refine leaf1 ?_; omega) | (refine leafb ?_; omega) | (exfalso; omega)
theorem R_wid {g : sm_H} {a b : Nat} (ha : a < 2147483648) (hb : b < 2147483648) : F_296 (I3 a) (I3 b) g = some (b2 (decide (a = b) || widB a b), g) := by
  rw [R_wid0 ha hb]; unfold widB; rw [Bool.decide_or]
theorem C_widN {g : sm_H} {a b : Nat} (ha : a < 2147483648) (hb : b < 2147483648) : F_67 (I3 a) (I3 b) g = some (b2 (widB a b), g) := by
  unfold widB
  simp (disch := omega) only [F_67_43, F_67_38, F_67_42, F_67_22, F_67_10, F_67_0, F_67, ↓reduceIte, if_true, if_false, ite_self, Option.bind_some, Option.map_some, wI_rd, wJ_rd, wI_2, wJ_1, wJ_22, I3_lit, I3_add, I3_mul, I3_lt, I3_le, I3_inj, I3_nn', I3_n1, I3_n2, m2m1, ldI_I, ldJ_I, ldZ_I, stI_I, stJ_I, true_or, or_true, false_or, or_false, true_and, and_true, false_and, and_false, not_true_eq_false, not_false_eq_true, reduceCtorEq, Nat.reduceEqDiff, Nat.lt_irrefl, Nat.not_lt_zero, Nat.le_refl, Nat.reduceLT, Nat.reduceLeDiff, eq_self, zbbI, bbI0, bbI1, decide_eq_false_iff_not, decide_eq_true_eq, Bool.not_eq_false, Bool.not_eq_true, Bool.not_true, Bool.not_false, cond_true, cond_false]
  (repeat' split) <;> first | (refine leaf0 ?_; omega) | (refine leaf1 ?_; omega) | (refine leafb ?_; omega) | (exfalso; omega)
