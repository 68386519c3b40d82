theorem lp_fst {σ ρ : Type} {body : σ → Option (σ ⊕ ρ)} (p : Nat → Bool) (n : Nat) (s : Nat → σ) (rf : Nat → ρ) (r : ρ) {f : Nat} (hf : n < f) (h0 : ∀ k, k < n → p k = false → body (s k) = some (.inl (s (k + 1)))) (h1 : ∀ k, k < n → p k = true → body (s k) = some (.inr (rf k))) (h2 : body (s n) = some (.inr r)) : lp body f (s 0) = some (if fst1 p n < n then rf (fst1 p n) else r) := by
  have ⟨s1, s2, s3⟩ := fst1_spec p n
  refine lp_it (fst1 p n) s f (fun k hk => h0 k (by omega) (s2 k hk)) ?_ (by omega)
  by_cases c : fst1 p n < n
  · rw [if_pos c]; exact h1 _ c (s3 c)
  · rw [if_neg c, show fst1 p n = n by omega]; exact h2
theorem lp_all {σ ρ : Type} {body : σ → Option (σ ⊕ ρ)} (p : Nat → Bool) (n : Nat) (s : Nat → σ) (r0 r : ρ) {f : Nat} (hf : n < f) (h0 : ∀ k, k < n → p k = true → body (s k) = some (.inl (s (k + 1)))) (h1 : ∀ k, k < n → p k = false → body (s k) = some (.inr r0)) (h2 : body (s n) = some (.inr r)) : lp body f (s 0) = some (bif all1 p n then r else r0) := by
  have := lp_fst (fun k => !p k) n s (fun _ => r0) r hf (fun k hk e => h0 k hk (by simpa using e)) (fun k hk e => h1 k hk (by simpa using e)) h2
  rw [this]
  have ⟨s1, s2, s3⟩ := fst1_spec (fun k => !p k) n
  unfold all1
  by_cases c : fst1 (fun k => !p k) n < n
  · rw [if_pos c]
    cases w : Nat.beq (fst1 (fun k => !p k) n) n with
    | false => rfl
    | true => have := Nat.eq_of_beq_eq_true w; omega
  · rw [if_neg c, show fst1 (fun k => !p k) n = n by omega, Nat.beq_refl]; rfl
theorem at0_app1 {l m : List Int32} {i : Nat} (h : i < l.length) : at0 (l ++ m) i = at0 l i := by
  unfold at0; rw [List.getD_eq_getElem?_getD, List.getD_eq_getElem?_getD, List.getElem?_append_left h]
theorem at0_app2 {l m : List Int32} {i : Nat} (h : l.length ≤ i) : at0 (l ++ m) i = at0 m (i - l.length) := by
  unfold at0; rw [List.getD_eq_getElem?_getD, List.getD_eq_getElem?_getD, List.getElem?_append_right h]
def dC (h : sm_H) (l : List Int32) : Prop := h.1 5 6 = I3 l.length ∧ ∀ i, i < l.length → i < 10 → h.1 9 i = at0 l i
def dR (g : sm_H) (l : List Int32) : Prop := g.1 67 21 = I3 l.length ∧ ∀ i, i < l.length → g.1 82 i = at0 l i
def tyP (g : sm_H) (r : Int32) (l : List Int32) (t : Nat) : Bool := decide (g.1 72 t = r) && (decide (g.1 73 t = I3 l.length) && all1 (fun k => decide (g.1 74 (10 * t + k) = at0 l k)) l.length)
def fT (g : sm_H) (r : Int32) (l : List Int32) : Nat := fst1 (tyP g r l) (nT g)
theorem fT_le (g : sm_H) (r : Int32) (l : List Int32) : fT g r l ≤ nT g := (fst1_spec _ _).1
theorem C_drafted {h g : sm_H} (cT : cT h g) {l : List Int32} (d : dC h l) (hl : l.length ≤ 10) {t : Nat} (ht : t < 300) : F_232 (I3 t) h = some (b2 (all1 (fun k => decide (g.1 74 (10 * t + k) = at0 l k)) l.length), h) := by
  have e1 := d.1
  have L := lp_all (body := F_232_2B) (fun k => decide (g.1 74 (10 * t + k) = at0 l k)) l.length (fun k => (I3 t, I3 k, h)) (0, h) (1, h) (f := 1000000) (by omega) (fun k hk e => ?_) (fun k hk e => ?_) ?_
  · refine Eq.trans (show F_232 (I3 t) h = lp F_232_2B 1000000 (I3 t, I3 0, h) from rfl) (L.trans ?_)
    cases all1 (fun k => decide (g.1 74 (10 * t + k) = at0 l k)) l.length <;> rfl
  · have z := of_decide_eq_true e
    have z1 := cT.2.2 (10 * t + k) (by omega)
    have z2 := d.2 k hk (by omega)
    simp (disch := omega) only [F_232_44, F_232_2B, F_232_2, F_232_0, F_232, ↓reduceIte, if_true, if_false, ite_self, Option.bind_some, Option.map_some, wI_rd, wJ_rd, wI_2, wJ_1, wJ_22, I3_lit, I3_add, I3_mul, I3_lt, I3_le, I3_inj, I3_nn', I3_n1, I3_n2, m2m1, ldI_I, ldJ_I, ldZ_I, stI_I, stJ_I, true_or, or_true, false_or, or_false, true_and, and_true, false_and, and_false, not_true_eq_false, not_false_eq_true, reduceCtorEq, Nat.reduceEqDiff, Nat.lt_irrefl, Nat.not_lt_zero, Nat.le_refl, Nat.reduceLT, Nat.reduceLeDiff, eq_self, zbbI, bbI0, bbI1, decide_eq_false_iff_not, decide_eq_true_eq, Bool.not_eq_false, Bool.not_eq_true, Bool.not_true, Bool.not_false, cond_true, cond_false, e1, show ¬ l.length ≤ k by omega, show ¬ 10 ≤ k by omega, Nat.mul_comm t 10, z1, z2, z]
  · have z := of_decide_eq_false e
    have z1 := cT.2.2 (10 * t + k) (by omega)
    have z2 := d.2 k hk (by omega)
    simp (disch := omega) only [F_232_44, F_232_2B, F_232_2, F_232_0, F_232, ↓reduceIte, if_true, if_false, ite_self, Option.bind_some, Option.map_some, wI_rd, wJ_rd, wI_2, wJ_1, wJ_22, I3_lit, I3_add, I3_mul, I3_lt, I3_le, I3_inj, I3_nn', I3_n1, I3_n2, m2m1, ldI_I, ldJ_I, ldZ_I, stI_I, stJ_I, true_or, or_true, false_or, or_false, true_and, and_true, false_and, and_false, not_true_eq_false, not_false_eq_true, reduceCtorEq, Nat.reduceEqDiff, Nat.lt_irrefl, Nat.not_lt_zero, Nat.le_refl, Nat.reduceLT, Nat.reduceLeDiff, eq_self, zbbI, bbI0, bbI1, decide_eq_false_iff_not, decide_eq_true_eq, Bool.not_eq_false, Bool.not_eq_true, Bool.not_true, Bool.not_false, cond_true, cond_false, e1, show ¬ l.length ≤ k by omega, show ¬ 10 ≤ k by omega, Nat.mul_comm t 10, z1, z2, z]
  · simp (disch := omega) only [F_232_44, F_232_2B, F_232_2, F_232_0, F_232, ↓reduceIte, if_true, if_false, ite_self, Option.bind_some, Option.map_some, wI_rd, wJ_rd, wI_2, wJ_1, wJ_22, I3_lit, I3_add, I3_mul, I3_lt, I3_le, I3_inj, I3_nn', I3_n1, I3_n2, m2m1, ldI_I, ldJ_I, ldZ_I, stI_I, stJ_I, true_or, or_true, false_or, or_false, true_and, and_true, false_and, and_false, not_true_eq_false, not_false_eq_true, reduceCtorEq, Nat.reduceEqDiff, Nat.lt_irrefl, Nat.not_lt_zero, Nat.le_refl, Nat.reduceLT, Nat.reduceLeDiff, eq_self, zbbI, bbI0, bbI1, decide_eq_false_iff_not, decide_eq_true_eq, Bool.not_eq_false, Bool.not_eq_true, Bool.not_true, Bool.not_false, cond_true, cond_false, e1]
def orN (b : Prop) [Decidable b] (n : Nat) : Int32 := if b then I3 n else -1
theorem C_known {h g : sm_H} (wT : wfT g) (cT : cT h g) {l : List Int32} (d : dC h l) (hl : l.length ≤ 10) (r : Int32) : F_231 r h = some (orN (fT g r l < nT g) (fT g r l), h) := by
  have e1 := d.1
  have e2 : g.1 67 10 = I3 (nT g) := wT.1.1
  have e3 : nT g ≤ 300 := wT.1.2
  have e4 : h.1 5 4 = I3 (nT g) := cT.1.trans e2
  have L := lp_fst (body := F_231_2B) (tyP g r l) (nT g) (fun k => (r, I3 k, h)) (fun k => (I3 k, h)) (-1, h) (f := 1000000) (by omega) (fun k hk e => ?_) (fun k hk e => ?_) ?_
  · refine Eq.trans (show F_231 r h = lp F_231_2B 1000000 (r, I3 0, h) from rfl) (L.trans ?_)
    show some (if fT g r l < nT g then (I3 (fT g r l), h) else (-1, h)) = some (if fT g r l < nT g then I3 (fT g r l) else -1, h)
    split <;> rfl
  · have z1 := (cT.2.1 k (by omega)).1
    have z2 := (cT.2.1 k (by omega)).2
    have D := C_drafted cT d hl (t := k) (by omega)
    unfold tyP at e
    by_cases c1 : g.1 72 k = r
    · by_cases c2 : g.1 73 k = I3 l.length
      · rw [decide_eq_true c1, decide_eq_true c2, Bool.true_and, Bool.true_and] at e
        rw [e] at D
        simp (disch := omega) only [F_231_43, F_231_2B, F_231_2, F_231_0, F_231, ↓reduceIte, if_true, if_false, ite_self, Option.bind_some, Option.map_some, wI_rd, wJ_rd, wI_2, wJ_1, wJ_22, I3_lit, I3_add, I3_mul, I3_lt, I3_le, I3_inj, I3_nn', I3_n1, I3_n2, m2m1, ldI_I, ldJ_I, ldZ_I, stI_I, stJ_I, true_or, or_true, false_or, or_false, true_and, and_true, false_and, and_false, not_true_eq_false, not_false_eq_true, reduceCtorEq, Nat.reduceEqDiff, Nat.lt_irrefl, Nat.not_lt_zero, Nat.le_refl, Nat.reduceLT, Nat.reduceLeDiff, eq_self, zbbI, bbI0, bbI1, decide_eq_false_iff_not, decide_eq_true_eq, Bool.not_eq_false, Bool.not_eq_true, Bool.not_true, Bool.not_false, cond_true, cond_false, e4, e1, show ¬ nT g ≤ k by omega, z1, z2, c1, c2, D]
      · simp (disch := omega) only [F_231_43, F_231_2B, F_231_2, F_231_0, F_231, ↓reduceIte, if_true, if_false, ite_self, Option.bind_some, Option.map_some, wI_rd, wJ_rd, wI_2, wJ_1, wJ_22, I3_lit, I3_add, I3_mul, I3_lt, I3_le, I3_inj, I3_nn', I3_n1, I3_n2, m2m1, ldI_I, ldJ_I, ldZ_I, stI_I, stJ_I, true_or, or_true, false_or, or_false, true_and, and_true, false_and, and_false, not_true_eq_false, not_false_eq_true, reduceCtorEq, Nat.reduceEqDiff, Nat.lt_irrefl, Nat.not_lt_zero, Nat.le_refl, Nat.reduceLT, Nat.reduceLeDiff, eq_self, zbbI, bbI0, bbI1, decide_eq_false_iff_not, decide_eq_true_eq, Bool.not_eq_false, Bool.not_eq_true, Bool.not_true, Bool.not_false, cond_true, cond_false, e4, e1, show ¬ nT g ≤ k by omega, z1, z2, c1, c2]
    · simp (disch := omega) only [F_231_43, F_231_2B, F_231_2, F_231_0, F_231, ↓reduceIte, if_true, if_false, ite_self, Option.bind_some, Option.map_some, wI_rd, wJ_rd, wI_2, wJ_1, wJ_22, I3_lit, I3_add, I3_mul, I3_lt, I3_le, I3_inj, I3_nn', I3_n1, I3_n2, m2m1, ldI_I, ldJ_I, ldZ_I, stI_I, stJ_I, true_or, or_true, false_or, or_false, true_and, and_true, false_and, and_false, not_true_eq_false, not_false_eq_true, reduceCtorEq, Nat.reduceEqDiff, Nat.lt_irrefl, Nat.not_lt_zero, Nat.le_refl, Nat.reduceLT, Nat.reduceLeDiff, eq_self, zbbI, bbI0, bbI1, decide_eq_false_iff_not, decide_eq_true_eq, Bool.not_eq_false, Bool.not_eq_true, Bool.not_true, Bool.not_false, cond_true, cond_false, e4, e1, show ¬ nT g ≤ k by omega, z1, z2, c1]
  · have z1 := (cT.2.1 k (by omega)).1
    have z2 := (cT.2.1 k (by omega)).2
    have D := C_drafted cT d hl (t := k) (by omega)
    unfold tyP at e
    simp only [Bool.and_eq_true, decide_eq_true_eq] at e
    rw [e.2.2] at D
    simp (disch := omega) only [F_231_43, F_231_2B, F_231_2, F_231_0, F_231, ↓reduceIte, if_true, if_false, ite_self, Option.bind_some, Option.map_some, wI_rd, wJ_rd, wI_2, wJ_1, wJ_22, I3_lit, I3_add, I3_mul, I3_lt, I3_le, I3_inj, I3_nn', I3_n1, I3_n2, m2m1, ldI_I, ldJ_I, ldZ_I, stI_I, stJ_I, true_or, or_true, false_or, or_false, true_and, and_true, false_and, and_false, not_true_eq_false, not_false_eq_true, reduceCtorEq, Nat.reduceEqDiff, Nat.lt_irrefl, Nat.not_lt_zero, Nat.le_refl, Nat.reduceLT, Nat.reduceLeDiff, eq_self, zbbI, bbI0, bbI1, decide_eq_false_iff_not, decide_eq_true_eq, Bool.not_eq_false, Bool.not_eq_true, Bool.not_true, Bool.not_false, cond_true, cond_false, e4, e1, show ¬ nT g ≤ k by omega, z1, z2, e.1, e.2.1, D]
  · simp (disch := omega) only [F_231_43, F_231_2B, F_231_2, F_231_0, F_231, ↓reduceIte, if_true, if_false, ite_self, Option.bind_some, Option.map_some, wI_rd, wJ_rd, wI_2, wJ_1, wJ_22, I3_lit, I3_add, I3_mul, I3_lt, I3_le, I3_inj, I3_nn', I3_n1, I3_n2, m2m1, ldI_I, ldJ_I, ldZ_I, stI_I, stJ_I, true_or, or_true, false_or, or_false, true_and, and_true, false_and, and_false, not_true_eq_false, not_false_eq_true, reduceCtorEq, Nat.reduceEqDiff, Nat.lt_irrefl, Nat.not_lt_zero, Nat.le_refl, Nat.reduceLT, Nat.reduceLeDiff, eq_self, zbbI, bbI0, bbI1, decide_eq_false_iff_not, decide_eq_true_eq, Bool.not_eq_false, Bool.not_eq_true, Bool.not_true, Bool.not_false, cond_true, cond_false, e4]
theorem R_find1 {g : sm_H} {l : List Int32} (d : dR g l) (hl : l.length ≤ 10) {t : Nat} (ht : t < 300) (r : Int32) (b : Bool) : F_301_40 r (I3 l.length) (I3 t) (b2 b) 0 g = F_301_86 r (I3 l.length) (I3 t) (b2 (b && all1 (fun k => decide (g.1 74 (10 * t + k) = at0 l k)) l.length)) g := by
  have key : ∀ (n k : Nat) (b : Bool) (f : Nat), n + k = l.length → n < f → lp F_301_40B f (r, I3 l.length, I3 t, b2 b, I3 k, g) = F_301_86 r (I3 l.length) (I3 t) (b2 (b && all1 (fun j => decide (g.1 74 (10 * t + (k + j)) = at0 l (k + j))) n)) g := by
    intro n
    induction n with
    | zero =>
      intro k b f hk hf
      obtain ⟨f, rfl⟩ : ∃ q, f = q + 1 := ⟨f - 1, by omega⟩
      have a0 : all1 (fun j => decide (g.1 74 (10 * t + (k + j)) = at0 l (k + j))) 0 = true := rfl
      rw [a0, Bool.and_true]
      have : F_301_40B (r, I3 l.length, I3 t, b2 b, I3 k, g) = (F_301_86 r (I3 l.length) (I3 t) (b2 b) g).map Sum.inr := by
        simp (disch := omega) only [↓reduceIte, if_true, if_false, ite_self, Option.bind_some, Option.map_some, wI_rd, wJ_rd, wI_2, wJ_1, wJ_22, I3_lit, I3_add, I3_mul, I3_lt, I3_le, I3_inj, I3_nn', I3_n1, I3_n2, m2m1, ldI_I, ldJ_I, ldZ_I, stI_I, stJ_I, true_or, or_true, false_or, or_false, true_and, and_true, false_and, and_false, not_true_eq_false, not_false_eq_true, reduceCtorEq, Nat.reduceEqDiff, Nat.lt_irrefl, Nat.not_lt_zero, Nat.le_refl, Nat.reduceLT, Nat.reduceLeDiff, eq_self, zbbI, bbI0, bbI1, decide_eq_false_iff_not, decide_eq_true_eq, Bool.not_eq_false, Bool.not_eq_true, Bool.not_true, Bool.not_false, cond_true, cond_false, F_301_40B, show l.length ≤ k by omega]
      cases w : F_301_86 r (I3 l.length) (I3 t) (b2 b) g with
      | none =>
        exfalso
        cases b <;> cases w
      | some q => rw [w] at this; exact lp_0 this
    | succ n ih =>
      intro k b f hk hf
      obtain ⟨f, rfl⟩ : ∃ q, f = q + 1 := ⟨f - 1, by omega⟩
      cases b with
      | false =>
        have : F_301_40B (r, I3 l.length, I3 t, b2 false, I3 k, g) = (F_301_86 r (I3 l.length) (I3 t) (b2 false) g).map Sum.inr := by
          simp (disch := omega) only [↓reduceIte, if_true, if_false, ite_self, Option.bind_some, Option.map_some, wI_rd, wJ_rd, wI_2, wJ_1, wJ_22, I3_lit, I3_add, I3_mul, I3_lt, I3_le, I3_inj, I3_nn', I3_n1, I3_n2, m2m1, ldI_I, ldJ_I, ldZ_I, stI_I, stJ_I, true_or, or_true, false_or, or_false, true_and, and_true, false_and, and_false, not_true_eq_false, not_false_eq_true, reduceCtorEq, Nat.reduceEqDiff, Nat.lt_irrefl, Nat.not_lt_zero, Nat.le_refl, Nat.reduceLT, Nat.reduceLeDiff, eq_self, zbbI, bbI0, bbI1, decide_eq_false_iff_not, decide_eq_true_eq, Bool.not_eq_false, Bool.not_eq_true, Bool.not_true, Bool.not_false, cond_true, cond_false, F_301_40B, show ¬ l.length ≤ k by omega]
        rw [Bool.false_and]
        cases w : F_301_86 r (I3 l.length) (I3 t) (b2 false) g with
        | none => cases w
        | some q => rw [w] at this; exact lp_0 this
      | true =>
        have z2 := d.2 k (by omega)
        have : F_301_40B (r, I3 l.length, I3 t, b2 true, I3 k, g) = some (.inl (r, I3 l.length, I3 t, b2 (decide (g.1 74 (10 * t + k) = at0 l k)), I3 (k + 1), g)) := by
          by_cases c : g.1 74 (10 * t + k) = at0 l k
          · rw [decide_eq_true c]
            simp (disch := omega) only [↓reduceIte, if_true, if_false, ite_self, Option.bind_some, Option.map_some, wI_rd, wJ_rd, wI_2, wJ_1, wJ_22, I3_lit, I3_add, I3_mul, I3_lt, I3_le, I3_inj, I3_nn', I3_n1, I3_n2, m2m1, ldI_I, ldJ_I, ldZ_I, stI_I, stJ_I, true_or, or_true, false_or, or_false, true_and, and_true, false_and, and_false, not_true_eq_false, not_false_eq_true, reduceCtorEq, Nat.reduceEqDiff, Nat.lt_irrefl, Nat.not_lt_zero, Nat.le_refl, Nat.reduceLT, Nat.reduceLeDiff, eq_self, zbbI, bbI0, bbI1, decide_eq_false_iff_not, decide_eq_true_eq, Bool.not_eq_false, Bool.not_eq_true, Bool.not_true, Bool.not_false, cond_true, cond_false, F_301_40B, F_301_78, show ¬ l.length ≤ k by omega, z2, c]; rfl
          · rw [decide_eq_false c]
            simp (disch := omega) only [↓reduceIte, if_true, if_false, ite_self, Option.bind_some, Option.map_some, wI_rd, wJ_rd, wI_2, wJ_1, wJ_22, I3_lit, I3_add, I3_mul, I3_lt, I3_le, I3_inj, I3_nn', I3_n1, I3_n2, m2m1, ldI_I, ldJ_I, ldZ_I, stI_I, stJ_I, true_or, or_true, false_or, or_false, true_and, and_true, false_and, and_false, not_true_eq_false, not_false_eq_true, reduceCtorEq, Nat.reduceEqDiff, Nat.lt_irrefl, Nat.not_lt_zero, Nat.le_refl, Nat.reduceLT, Nat.reduceLeDiff, eq_self, zbbI, bbI0, bbI1, decide_eq_false_iff_not, decide_eq_true_eq, Bool.not_eq_false, Bool.not_eq_true, Bool.not_true, Bool.not_false, cond_true, cond_false, F_301_40B, F_301_78, show ¬ l.length ≤ k by omega, z2, c]; rfl
        rw [lp_1 this, ih (k + 1) _ f (by omega) (by omega), Bool.true_and]
        congr 2
        rw [Bool.eq_iff_iff]
        simp only [Bool.and_eq_true, all1_iff, decide_eq_true_eq]
        constructor
        · rintro ⟨y1, y2⟩ j hj
          cases j with
          | zero => exact y1
          | succ j => have := y2 j (by omega); rw [show k + 1 + j = k + (j + 1) by omega] at this; exact this
        · intro y
          refine ⟨y 0 (by omega), fun j hj => ?_⟩
          have := y (j + 1) (by omega)
          rw [show k + 1 + j = k + (j + 1) by omega]; exact this
  have := key l.length 0 b 1000000 (by omega) (by omega)
  simp only [Nat.zero_add] at this
  exact this
theorem R_findT {g : sm_H} (wT : wfT g) {l : List Int32} (d : dR g l) (hl : l.length ≤ 10) (r : Int32) : F_301 r (I3 l.length) g = some (orN (fT g r l < nT g) (fT g r l), g) := by
  have e2 : g.1 67 10 = I3 (nT g) := wT.1.1
  have e3 : nT g ≤ 300 := wT.1.2
  have L := lp_fst (body := F_301_2B) (tyP g r l) (nT g) (fun k => (r, I3 l.length, I3 k, g)) (fun k => (I3 k, g)) (-1, g) (f := 1000000) (by omega) (fun k hk e => ?_) (fun k hk e => ?_) ?_
  · refine Eq.trans (show F_301 r (I3 l.length) g = lp F_301_2B 1000000 (r, I3 l.length, I3 0, g) from rfl) (L.trans ?_)
    show some (if fT g r l < nT g then (I3 (fT g r l), g) else (-1, g)) = some (if fT g r l < nT g then I3 (fT g r l) else -1, g)
    split <;> rfl
  · have D1 := R_find1 d hl (t := k) (by omega) r true
    have D0 := R_find1 d hl (t := k) (by omega) r false
    rw [Bool.true_and] at D1
    rw [Bool.false_and] at D0
    have D0' : F_301_40 r (I3 l.length) (I3 k) (I3 0) (I3 0) g = _ := D0
    have D1' : F_301_40 r (I3 l.length) (I3 k) (I3 1) (I3 0) g = _ := D1
    unfold tyP at e
    by_cases c1 : g.1 72 k = r
    · by_cases c2 : g.1 73 k = I3 l.length
      · rw [decide_eq_true c1, decide_eq_true c2, Bool.true_and, Bool.true_and] at e
        rw [e] at D1'
        simp (disch := omega) only [↓reduceIte, if_true, if_false, ite_self, Option.bind_some, Option.map_some, wI_rd, wJ_rd, wI_2, wJ_1, wJ_22, I3_lit, I3_add, I3_mul, I3_lt, I3_le, I3_inj, I3_nn', I3_n1, I3_n2, m2m1, ldI_I, ldJ_I, ldZ_I, stI_I, stJ_I, true_or, or_true, false_or, or_false, true_and, and_true, false_and, and_false, not_true_eq_false, not_false_eq_true, reduceCtorEq, Nat.reduceEqDiff, Nat.lt_irrefl, Nat.not_lt_zero, Nat.le_refl, Nat.reduceLT, Nat.reduceLeDiff, eq_self, zbbI, bbI0, bbI1, decide_eq_false_iff_not, decide_eq_true_eq, Bool.not_eq_false, Bool.not_eq_true, Bool.not_true, Bool.not_false, cond_true, cond_false, F_301_2B, F_301_35, F_301_34, F_301_86, e2, show ¬ nT g ≤ k by omega, c1, c2, D1']
      · simp (disch := omega) only [↓reduceIte, if_true, if_false, ite_self, Option.bind_some, Option.map_some, wI_rd, wJ_rd, wI_2, wJ_1, wJ_22, I3_lit, I3_add, I3_mul, I3_lt, I3_le, I3_inj, I3_nn', I3_n1, I3_n2, m2m1, ldI_I, ldJ_I, ldZ_I, stI_I, stJ_I, true_or, or_true, false_or, or_false, true_and, and_true, false_and, and_false, not_true_eq_false, not_false_eq_true, reduceCtorEq, Nat.reduceEqDiff, Nat.lt_irrefl, Nat.not_lt_zero, Nat.le_refl, Nat.reduceLT, Nat.reduceLeDiff, eq_self, zbbI, bbI0, bbI1, decide_eq_false_iff_not, decide_eq_true_eq, Bool.not_eq_false, Bool.not_eq_true, Bool.not_true, Bool.not_false, cond_true, cond_false, F_301_2B, F_301_35, F_301_34, F_301_86, e2, show ¬ nT g ≤ k by omega, c1, c2, D0']
    · simp (disch := omega) only [↓reduceIte, if_true, if_false, ite_self, Option.bind_some, Option.map_some, wI_rd, wJ_rd, wI_2, wJ_1, wJ_22, I3_lit, I3_add, I3_mul, I3_lt, I3_le, I3_inj, I3_nn', I3_n1, I3_n2, m2m1, ldI_I, ldJ_I, ldZ_I, stI_I, stJ_I, true_or, or_true, false_or, or_false, true_and, and_true, false_and, and_false, not_true_eq_false, not_false_eq_true, reduceCtorEq, Nat.reduceEqDiff, Nat.lt_irrefl, Nat.not_lt_zero, Nat.le_refl, Nat.reduceLT, Nat.reduceLeDiff, eq_self, zbbI, bbI0, bbI1, decide_eq_false_iff_not, decide_eq_true_eq, Bool.not_eq_false, Bool.not_eq_true, Bool.not_true, Bool.not_false, cond_true, cond_false, F_301_2B, F_301_35, F_301_34, F_301_86, e2, show ¬ nT g ≤ k by omega, c1, D0']
  · have D1 := R_find1 d hl (t := k) (by omega) r true
    rw [Bool.true_and] at D1
    have D1' : F_301_40 r (I3 l.length) (I3 k) (I3 1) (I3 0) g = _ := D1
    unfold tyP at e
    simp only [Bool.and_eq_true, decide_eq_true_eq] at e
    rw [e.2.2] at D1'
    simp (disch := omega) only [↓reduceIte, if_true, if_false, ite_self, Option.bind_some, Option.map_some, wI_rd, wJ_rd, wI_2, wJ_1, wJ_22, I3_lit, I3_add, I3_mul, I3_lt, I3_le, I3_inj, I3_nn', I3_n1, I3_n2, m2m1, ldI_I, ldJ_I, ldZ_I, stI_I, stJ_I, true_or, or_true, false_or, or_false, true_and, and_true, false_and, and_false, not_true_eq_false, not_false_eq_true, reduceCtorEq, Nat.reduceEqDiff, Nat.lt_irrefl, Nat.not_lt_zero, Nat.le_refl, Nat.reduceLT, Nat.reduceLeDiff, eq_self, zbbI, bbI0, bbI1, decide_eq_false_iff_not, decide_eq_true_eq, Bool.not_eq_false, Bool.not_eq_true, Bool.not_true, Bool.not_false, cond_true, cond_false, F_301_2B, F_301_35, F_301_34, F_301_86, e2, show ¬ nT g ≤ k by omega, e.1, e.2.1, D1']
  · simp (disch := omega) only [↓reduceIte, if_true, if_false, ite_self, Option.bind_some, Option.map_some, wI_rd, wJ_rd, wI_2, wJ_1, wJ_22, I3_lit, I3_add, I3_mul, I3_lt, I3_le, I3_inj, I3_nn', I3_n1, I3_n2, m2m1, ldI_I, ldJ_I, ldZ_I, stI_I, stJ_I, true_or, or_true, false_or, or_false, true_and, and_true, false_and, and_false, not_true_eq_false, not_false_eq_true, reduceCtorEq, Nat.reduceEqDiff, Nat.lt_irrefl, Nat.not_lt_zero, Nat.le_refl, Nat.reduceLT, Nat.reduceLeDiff, eq_self, zbbI, bbI0, bbI1, decide_eq_false_iff_not, decide_eq_true_eq, Bool.not_eq_false, Bool.not_eq_true, Bool.not_true, Bool.not_false, cond_true, cond_false, F_301_2B, e2]
