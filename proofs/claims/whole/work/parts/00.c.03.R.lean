theorem lp_fst {σ ρ : Type} {body : σ → Option (σ ⊕ ρ)} (p : Nat → Bool) (n : Nat) (s : Nat → σ) (rf : Nat → ρ) (r : ρ) {f : Nat} (hf : n < f) (h0 : ∀ k, k < n → p k = false → body (s k) = some (.inl (s (k + 1)))) (h1 : ∀ k, k < n → p k = true → body (s k) = some (.inr (rf k))) (h2 : body (s n) = some (.inr r)) : lp body f (s 0) = some (if fst1 p n < n then rf (fst1 p n) else r) := by
  have ⟨s1, s2, s3⟩ := fst1_spec p n
  refine lp_it (fst1 p n) s f (fun k hk => h0 k (by omega) (s2 k hk)) ?_ (by omega)
  by_cases c : fst1 p n < n
  · rw [if_pos c]; exact h1 _ c (s3 c)
  · rw [if_neg c, show fst1 p n = n by omega]; exact h2
theorem lp_all {σ ρ : Type} {body : σ → Option (σ ⊕ ρ)} (p : Nat → Bool) (n : Nat) (s : Nat → σ) (r0 r : ρ) {f : Nat} (hf : n < f) (h0 : ∀ k, k < n → p k = true → body (s k) = some (.inl (s (k + 1)))) (h1 : ∀ k, k < n → p k = false → body (s k) = some (.inr r0)) (h2 : body (s n) = some (.inr r)) : lp body f (s 0) = some (bif all1 p n then r else r0) := by
  have := lp_fst (fun k => !p k) n s (fun _ => r0) r hf (fun k hk e => h0 k hk (by simpa using e)) (fun k hk e => h1 k hk (by simpa using e)) h2
  rw [this]
  have ⟨s1, s2, s3⟩ := fst1_spec (fun k => !p k) n
  unfold all1
  by_cases c : fst1 (fun k => !p k) n < n
  · rw [if_pos c]
    cases w : Nat.beq (fst1 (fun k => !p k) n) n with
    | false => rfl
    | true => have := Nat.eq_of_beq_eq_true w; omega
  · rw [if_neg c, show fst1 (fun k => !p k) n = n by omega, Nat.beq_refl]; rfl
theorem at0_app1 {l m : List Int32} {i : Nat} (h : i < l.length) : at0 (l ++ m) i = at0 l i := by
  unfold at0; rw [List.getD_eq_getElem?_getD, List.getD_eq_getElem?_getD, List.getElem?_append_left h]
theorem at0_app2 {l m : List Int32} {i : Nat} (h : l.length ≤ i) : at0 (l ++ m) i = at0 m (i - l.length) := by
  unfold at0; rw [List.getD_eq_getElem?_getD, List.getD_eq_getElem?_getD, List.getElem?_append_right h]
def dC (h : sm_H) (l : List Int32) : Prop := h.1 5 6 = I3 l.length ∧ ∀ i, i < l.length → i < 10 → h.1 9 i = at0 l i
def dR (g : sm_H) (l : List Int32) : Prop := g.1 67 21 = I3 l.length ∧ ∀ i, i < l.length → g.1 82 i = at0 l i
def tyP (g : sm_H) (r : Int32) (l : List Int32) (t : Nat) : Bool := decide (g.1 72 t = r) && (decide (g.1 73 t = I3 l.length) && all1 (fun k => decide (g.1 74 (10 * t + k) = at0 l k)) l.length)
def fT (g : sm_H) (r : Int32) (l : List Int32) : Nat := fst1 (tyP g r l) (nT g)
theorem fT_le (g : sm_H) (r : Int32) (l : List Int32) : fT g r l ≤ nT g := (fst1_spec _ _).1
theorem C_drafted {h g : sm_H} (cT : cT h g) {l : List Int32} (d : dC h l) (hl : l.length ≤ 10) {t : Nat} (ht : t < 300) : F_232 (I3 t) h = some (b2 (all1 (fun k => decide (g.1 74 (10 * t + k) = at0 l k)) l.length), h) := by
  have e1 := d.1
  have L := lp_all (body := F_232_2B) (fun k => decide (g.1 74 (10 * t + k) = at0 l k)) l.length (fun k => (I3 t, I3 k, h)) (0, h) (1, h) (f := 1000000) (by omega) (fun k hk e => ?_) (fun k hk e => ?_) ?_
  · refine Eq.trans (show F_232 (I3 t) h = lp F_232_2B 1000000 (I3 t, I3 0, h) from rfl) (L.trans ?_)
    cases all1 (fun k => decide (g.1 74 (10 * t + k) = at0 l k)) l.length <;> rfl
  · have z := of_decide_eq_true e
    have z1 := cT.2.2 (10 * t + k) (by omega)
    have z2 := d.2 k hk (by omega)
    simp (disch := omega) only [F_232_44, F_232_2B, F_232_2, F_232_0, F_232, ↓reduceIte, if_true, if_false, ite_self, Option.bind_some, Option.map_some, wI_rd, wJ_rd, wI_2, wJ_1, wJ_22, I3_lit, I3_add, I3_mul, I3_lt, I3_le, I3_inj, I3_nn', I3_n1, I3_n2, m2m1, ldI_I, ldJ_I, ldZ_I, stI_I, stJ_I, true_or, or_true, false_or, or_false, true_and, and_true, false_and, and_false, not_true_eq_false, not_false_eq_true, reduceCtorEq, Nat.reduceEqDiff, Nat.lt_irrefl, Nat.not_lt_zero, Nat.le_refl, Nat.reduceLT, Nat.reduceLeDiff, eq_self, zbbI, bbI0, bbI1, decide_eq_false_iff_not, decide_eq_true_eq, Bool.not_eq_false, Bool.not_eq_true, Bool.not_true, Bool.not_false, cond_true, cond_false, e1, show ¬ l.length ≤ k by omega, show ¬ 10 ≤ k by omega, Nat.mul_comm t 10, z1, z2, z]
  · have z := of_decide_eq_false e
    have z1 := cT.2.2 (10 * t + k) (by omega)
    have z2 := d.2 k hk (by omega)
    simp (disch := omega) only [F_232_44, F_232_2B, F_232_2, F_232_0, F_232, ↓reduceIte, if_true, if_false, ite_self, Option.bind_some, Option.map_some, wI_rd, wJ_rd, wI_2, wJ_1, wJ_22, I3_lit, I3_add, I3_mul, I3_lt, I3_le, I3_inj, I3_nn', I3_n1, I3_n2, m2m1, ldI_I, ldJ_I, ldZ_I, stI_I, stJ_I, true_or, or_true, false_or, or_false, true_and, and_true, false_and, and_false, not_true_eq_false, not_false_eq_true, reduceCtorEq, Nat.reduceEqDiff, Nat.lt_irrefl, Nat.not_lt_zero, Nat.le_refl, Nat.reduceLT, Nat.reduceLeDiff, eq_self, zbbI, bbI0, bbI1, decide_eq_false_iff_not, decide_eq_true_eq, Bool.not_eq_false, Bool.not_eq_true, Bool.not_true, Bool.not_false, cond_true, cond_false, e1, show ¬ l.length ≤ k by omega, show ¬ 10 ≤ k by omega, Nat.mul_comm t 10, z1, z2, z]
  · simp (disch := omega) only [F_232_44, F_232_2B, F_232_2, F_232_0, F_232, ↓reduceIte, if_true, if_false, ite_self, Option.bind_some, Option.map_some, wI_rd, wJ_rd, wI_2, wJ_1, wJ_22, I3_lit, I3_add, I3_mul, I3_lt, I3_le, I3_inj, I3_nn', I3_n1, I3_n2, m2m1, ldI_I, ldJ_I, ldZ_I, stI_I, stJ_I, true_or, or_true, false_or, or_false, true_and, and_true, false_and, and_false, not_true_eq_false, not_false_eq_true, reduceCtorEq, Nat.reduceEqDiff, Nat.lt_irrefl, Nat.not_lt_zero, Nat.le_refl, Nat.reduceLT, Nat.reduceLeDiff, eq_self, zbbI, bbI0, bbI1, decide_eq_false_iff_not, decide_eq_true_eq, Bool.not_eq_false, Bool.not_eq_true, Bool.not_true, Bool.not_false, cond_true, cond_false, e1]
def orN (b : Prop) [Decidable b] (n : Nat) : Int32 := if b then I3 n else -1
theorem C_known {h g : sm_H} (wT : wfT g) (cT : cT h g) {l : List Int32} (d : dC h l) (hl : l.length ≤ 10) (r : Int32) : F_231 r h = some (orN (fT g r l < nT g) (fT g r l), h) := by
  have e1 := d.1
  have e2 : g.1 67 10 = I3 (nT g) := wT.1.1
  have e3 : nT g ≤ 300 := wT.1.2
  have e4 : h.1 5 4 = I3 (nT g) := cT.1.trans e2
  have L := lp_fst (body := F_231_2B) (tyP g r l) (nT g) (fun k => (r, I3 k, h)) (fun k => (I3 k, h)) (-1, h) (f := 1000000) (by omega) (fun k hk e => ?_) (fun k hk e => ?_) ?_
  · refine Eq.trans (show F_231 r h = lp F_231_2B 1000000 (r, I3 0, h) from rfl) (L.trans ?_)
    show some (if fT g r l < nT g then (I3 (fT g r l), h) else (-1, h)) = some (if fT g r l < nT g then I3 (fT g r l) else -1, h)
    split <;> rfl
  · have z1 := (cT.2.1 k (by omega)).1
    have z2 := (cT.2.1 k (by omega)).2
    have D := C_drafted cT d hl (t := k) (by omega)
    unfold tyP at e
    by_cases c1 : g.1 72 k = r
    · by_cases c2 : g.1 73 k = I3 l.length
      · rw [decide_eq_true c1, decide_eq_true c2, Bool.true_and, Bool.true_and] at e
        rw [e] at D
        simp (disch := omega) only [F_231_43, F_231_2B, F_231_2, F_231_0, F_231, ↓reduceIte, if_true, if_false, ite_self, Option.bind_some, Option.map_some, wI_rd, wJ_rd, wI_2, wJ_1, wJ_22, I3_lit, I3_add, I3_mul, I3_lt, I3_le, I3_inj, I3_nn', I3_n1, I3_n2, m2m1, ldI_I, ldJ_I, ldZ_I, stI_I, stJ_I, true_or, or_true, false_or, or_false, true_and, and_true, false_and, and_false, not_true_eq_false, not_false_eq_true, reduceCtorEq, Nat.reduceEqDiff, Nat.lt_irrefl, Nat.not_lt_zero, Nat.le_refl, Nat.reduceLT, Nat.reduceLeDiff, eq_self, zbbI, bbI0, bbI1, decide_eq_false_iff_not, decide_eq_true_eq, Bool.not_eq_false, Bool.not_eq_true, Bool.not_true, Bool.not_false, cond_true, cond_false, e4, e1, show ¬ nT g ≤ k by omega, z1, z2, c1, c2, D]
      · simp (disch := omega) only [F_231_43, F_231_2B, F_231_2, F_231_0, F_231, ↓reduceIte, if_true, if_false, ite_self, Option.bind_some, Option.map_some, wI_rd, wJ_rd, wI_2, wJ_1, wJ_22, I3_lit, I3_add, I3_mul, I3_lt, I3_le, I3_inj, I3_nn', I3_n1, I3_n2, m2m1, ldI_I, ldJ_I, ldZ_I, stI_I, stJ_I, true_or, or_true, false_or, or_false, true_and, and_true, false_and, and_false, not_true_eq_false, not_false_eq_true, reduceCtorEq, Nat.reduceEqDiff, Nat.lt_irrefl, Nat.not_lt_zero, Nat.le_refl, Nat.reduceLT, Nat.reduceLeDiff, eq_self, zbbI, bbI0, bbI1, decide_eq_false_iff_not, decide_eq_true_eq, Bool.not_eq_false, Bool.not_eq_true, Bool.not_true, Bool.not_false, cond_true, cond_false, e4, e1, show ¬ nT g ≤ k by omega, z1, z2, c1, c2]
    · simp (disch := omega) only [F_231_43, F_231_2B, F_231_2, F_231_0, F_231, ↓reduceIte, if_true, if_false, ite_self, Option.bind_some, Option.map_some, wI_rd, wJ_rd, wI_2, wJ_1, wJ_22, I3_lit, I3_add, I3_mul, I3_lt, I3_le, I3_inj, I3_nn', I3_n1, I3_n2, m2m1, ldI_I, ldJ_I, ldZ_I, stI_I, stJ_I, true_or, or_true, false_or, or_false, true_and, and_true, false_and, and_false, not_true_eq_false, not_false_eq_true, reduceCtorEq, Nat.reduceEqDiff, Nat.lt_irrefl, Nat.not_lt_zero, Nat.le_refl, Nat.reduceLT, Nat.reduceLeDiff, eq_self, zbbI, bbI0, bbI1, decide_eq_false_iff_not, decide_eq_true_eq, Bool.not_eq_false, Bool.not_eq_true, Bool.not_true, Bool.not_false, cond_true, cond_false, e4, e1, show ¬ nT g ≤ k by omega, z1, z2, c1]
  · have z1 := (cT.2.1 k (by omega)).1
    have z2 := (cT.2.1 k (by omega)).2
    have D := C_drafted cT d hl (t := k) (by omega)
    unfold tyP at e
    simp only [Bool.and_eq_true, decide_eq_true_eq] at e
    rw [e.2.2] at D
    simp (disch := omega) only [F_231_43, F_231_2B, F_231_2, F_231_0, F_231, ↓reduceIte, if_true, if_false, ite_self, Option.bind_some, Option.map_some, wI_rd, wJ_rd, wI_2, wJ_1, wJ_22, I3_lit, I3_add, I3_mul, I3_lt, I3_le, I3_inj, I3_nn', I3_n1, I3_n2, m2m1, ldI_I, ldJ_I, ldZ_I, stI_I, stJ_I, true_or, or_true, false_or, or_false, true_and, and_true, false_and, and_false, not_true_eq_false, not_false_eq_true, reduceCtorEq, Nat.reduceEqDiff, Nat.lt_irrefl, Nat.not_lt_zero, Nat.le_refl, Nat.reduceLT, Nat.reduceLeDiff, eq_self, zbbI, bbI0, bbI1, decide_eq_false_iff_not, decide_eq_true_eq, Bool.not_eq_false, Bool.not_eq_true, Bool.not_true, Bool.not_false, cond_true, cond_false, e4, e1, show ¬ nT g ≤ k by omega, z1, z2, e.1, e.2.1, D]
  · simp (disch := omega) only [F_231_43, F_231_2B, F_231_2, F_231_0, F_231, ↓reduceIte, if_true, if_false, ite_self, Option.bind_some, Option.map_some, wI_rd, wJ_rd, wI_2, wJ_1, wJ_22, I3_lit, I3_add, I3_mul, I3_lt, I3_le, I3_inj, I3_nn', I3_n1, I3_n2, m2m1, ldI_I, ldJ_I, ldZ_I, stI_I, stJ_I, true_or, or_true, false_or, or_false, true_and, and_true, false_and, and_false, not_true_eq_false, not_false_eq_true, reduceCtorEq, Nat.reduceEqDiff, Nat.lt_irrefl, Nat.not_lt_zero, Nat.le_refl, Nat.reduceLT, Nat.reduceLeDiff, eq_self, zbbI, bbI0, bbI1, decide_eq_false_iff_not, decide_eq_true_eq, Bool.not_eq_false, Bool.not_eq_true, Bool.not_true, Bool.not_false, cond_true, cond_false, e4]
theorem R_find1 {g : sm_H} {l : List Int32} (d : dR g l) (hl : l.length ≤ 10) {t : Nat} (ht : t < 300) (r : Int32) (b : Bool) : F_301_40 r (I3 l.length) (I3 t) (b2 b) 0 g = F_301_86 r (I3 l.length) (I3 t) (b2 (b && all1 (fun k => decide (g.1 74 (10 * t + k) = at0 l k)) l.length)) g := by
  have key : ∀ (n k : Nat) (b : Bool) (f : Nat), n + k = l.length → n < f → lp F_301_40B f (r, I3 l.length, I3 t, b2 b, I3 k, g) = F_301_86 r (I3 l.length) (I3 t) (b2 (b && all1 (fun j => decide (g.1 74 (10 * t + (k + j)) = at0 l (k + j))) n)) g := by
    intro n
    induction n with
    | zero =>
      intro k b f hk hf
      obtain ⟨f, rfl⟩ : ∃ q, f = q + 1 := ⟨f - 1, by omega⟩
      have a0 : all1 (fun j => decide (g.1 74 (10 * t + (k + j)) = at0 l (k + j))) 0 = true := rfl
      rw [a0, Bool.and_true]
      have : F_301_40B (r, I3 l.length, I3 t, b2 b, I3 k, g) = (F_301_86 r (I3 l.length) (I3 t) (b2 b) g).map Sum.inr := by
        simp (disch := omega) only [↓reduceIte, if_true, if_false, ite_self, Option.bind_some, Option.map_some, wI_rd, wJ_rd, wI_2, wJ_1, wJ_22, I3_lit, I3_add, I3_mul, I3_lt, I3_le, I3_inj, I3_nn', I3_n1, I3_n2, m2m1, ldI_I, ldJ_I, ldZ_I, stI_I, stJ_I, true_or, or_true, false_or, or_false, true_and, and_true, false_and, and_false, not_true_eq_false, not_false_eq_true, reduceCtorEq, Nat.reduceEqDiff, Nat.lt_irrefl, Nat.not_lt_zero, Nat.le_refl, Nat.reduceLT, Nat.reduceLeDiff, eq_self, zbbI, bbI0, bbI1, decide_eq_false_iff_not, decide_eq_true_eq, Bool.not_eq_false, Bool.not_eq_true, Bool.not_true, Bool.not_false, cond_true, cond_false, F_301_40B, show l.length ≤ k by omega]
      cases w : F_301_86 r (I3 l.length) (I3 t) (b2 b) g with
      | none =>
        exfalso
        cases b <;> cases w
      | some q => rw [w] at this; exact lp_0 this
    | succ n ih =>
      intro k b f hk hf
      obtain ⟨f, rfl⟩ : ∃ q, f = q + 1 := ⟨f - 1, by omega⟩
      cases b with
      | false =>
        have : F_301_40B (r, I3 l.length, I3 t, b2 false, I3 k, g) = (F_301_86 r (I3 l.length) (I3 t) (b2 false) g).map Sum.inr := by
          simp (disch := omega) only [↓reduceIte, if_true, if_false, ite_self, Option.bind_some, Option.map_some, wI_rd, wJ_rd, wI_2, wJ_1, wJ_22, I3_lit, I3_add, I3_mul, I3_lt, I3_le, I3_inj, I3_nn', I3_n1, I3_n2, m2m1, ldI_I, ldJ_I, ldZ_I, stI_I, stJ_I, true_or, or_true, false_or, or_false, true_and, and_true, false_and, and_false, not_true_eq_false, not_false_eq_true, reduceCtorEq, Nat.reduceEqDiff, Nat.lt_irrefl, Nat.not_lt_zero, Nat.le_refl, Nat.reduceLT, Nat.reduceLeDiff, eq_self, zbbI, bbI0, bbI1, decide_eq_false_iff_not, decide_eq_true_eq, Bool.not_eq_false, Bool.not_eq_true, Bool.not_true, Bool.not_false, cond_true, cond_false, F_301_40B, show ¬ l.length ≤ k by omega]
        rw [Bool.false_and]
        cases w : F_301_86 r (I3 l.length) (I3 t) (b2 false) g with
        | none => cases w
        | some q => rw [w] at this; exact lp_0 this
      | true =>
        have z2 := d.2 k (by omega)
        have : F_301_40B (r, I3 l.length, I3 t, b2 true, I3 k, g) = some (.inl (r, I3 l.length, I3 t, b2 (decide (g.1 74 (10 * t + k) = at0 l k)), I3 (k + 1), g)) := by
          by_cases c : g.1 74 (10 * t + k) = at0 l k
          · rw [decide_eq_true c]
            simp (disch := omega) only [↓reduceIte, if_true, if_false, ite_self, Option.bind_some, Option.map_some, wI_rd, wJ_rd, wI_2, wJ_1, wJ_22, I3_lit, I3_add, I3_mul, I3_lt, I3_le, I3_inj, I3_nn', I3_n1, I3_n2, m2m1, ldI_I, ldJ_I, ldZ_I, stI_I, stJ_I, true_or, or_true, false_or, or_false, true_and, and_true, false_and, and_false, not_true_eq_false, not_false_eq_true, reduceCtorEq, Nat.reduceEqDiff, Nat.lt_irrefl, Nat.not_lt_zero, Nat.le_refl, Nat.reduceLT, Nat.reduceLeDiff, eq_self, zbbI, bbI0, bbI1, decide_eq_false_iff_not, decide_eq_true_eq, Bool.not_eq_false, Bool.not_eq_true, Bool.not_true, Bool.not_false, cond_true, cond_false, F_301_40B, F_301_78, show ¬ l.length ≤ k by omega, z2, c]; rfl
          · rw [decide_eq_false c]
            simp (disch := omega) only [↓reduceIte, if_true, if_false, ite_self, Option.bind_some, Option.map_some, wI_rd, wJ_rd, wI_2, wJ_1, wJ_22, I3_lit, I3_add, I3_mul, I3_lt, I3_le, I3_inj, I3_nn', I3_n1, I3_n2, m2m1, ldI_I, ldJ_I, ldZ_I, stI_I, stJ_I, true_or, or_true, false_or, or_false, true_and, and_true, false_and, and_false, not_true_eq_false, not_false_eq_true, reduceCtorEq, Nat.reduceEqDiff, Nat.lt_irrefl, Nat.not_lt_zero, Nat.le_refl, Nat.reduceLT, Nat.reduceLeDiff, eq_self, zbbI, bbI0, bbI1, decide_eq_false_iff_not, decide_eq_true_eq, Bool.not_eq_false, Bool.not_eq_true, Bool.not_true, Bool.not_false, cond_true, cond_false, F_301_40B, F_301_78, show ¬ l.length ≤ k by omega, z2, c]; rfl
        rw [lp_1 this, ih (k + 1) _ f (by omega) (by omega), Bool.true_and]
        congr 2
        rw [Bool.eq_iff_iff]
        simp only [Bool.and_eq_true, all1_iff, decide_eq_true_eq]
        constructor
        · rintro ⟨y1, y2⟩ j hj
          cases j with
          | zero => exact y1
          | succ j => have := y2 j (by omega); rw [show k + 1 + j = k + (j + 1) by omega] at this; exact this
        · intro y
          refine ⟨y 0 (by omega), fun j hj => ?_⟩
          have := y (j + 1) (by omega)
          rw [show k + 1 + j = k + (j + 1) by omega]; exact this
  have := key l.length 0 b 1000000 (by omega) (by omega)
  simp only [Nat.zero_add] at this
  exact this
theorem R_findT {g : sm_H} (wT : wfT g) {l : List Int32} (d : dR g l) (hl : l.length ≤ 10) (r : Int32) : F_301 r (I3 l.length) g = some (orN (fT g r l < nT g) (fT g r l), g) := by
  have e2 : g.1 67 10 = I3 (nT g) := wT.1.1
  have e3 : nT g ≤ 300 := wT.1.2
  have L := lp_fst (body := F_301_2B) (tyP g r l) (nT g) (fun k => (r, I3 l.length, I3 k, g)) (fun k => (I3 k, g)) (-1, g) (f := 1000000) (by omega) (fun k hk e => ?_) (fun k hk e => ?_) ?_
  · refine Eq.trans (show F_301 r (I3 l.length) g = lp F_301_2B 1000000 (r, I3 l.length, I3 0, g) from rfl) (L.trans ?_)
    show some (if fT g r l < nT g then (I3 (fT g r l), g) else (-1, g)) = some (if fT g r l < nT g then I3 (fT g r l) else -1, g)
    split <;> rfl
  · have D1 := R_find1 d hl (t := k) (by omega) r true
    have D0 := R_find1 d hl (t := k) (by omega) r false
    rw [Bool.true_and] at D1
    rw [Bool.false_and] at D0
    have D0' : F_301_40 r (I3 l.length) (I3 k) (I3 0) (I3 0) g = _ := D0
    have D1' : F_301_40 r (I3 l.length) (I3 k) (I3 1) (I3 0) g = _ := D1
    unfold tyP at e
    by_cases c1 : g.1 72 k = r
    · by_cases c2 : g.1 73 k = I3 l.length
      · rw [decide_eq_true c1, decide_eq_true c2, Bool.true_and, Bool.true_and] at e
        rw [e] at D1'
        simp (disch := omega) only [↓reduceIte, if_true, if_false, ite_self, Option.bind_some, Option.map_some, wI_rd, wJ_rd, wI_2, wJ_1, wJ_22, I3_lit, I3_add, I3_mul, I3_lt, I3_le, I3_inj, I3_nn', I3_n1, I3_n2, m2m1, ldI_I, ldJ_I, ldZ_I, stI_I, stJ_I, true_or, or_true, false_or, or_false, true_and, and_true, false_and, and_false, not_true_eq_false, not_false_eq_true, reduceCtorEq, Nat.reduceEqDiff, Nat.lt_irrefl, Nat.not_lt_zero, Nat.le_refl, Nat.reduceLT, Nat.reduceLeDiff, eq_self, zbbI, bbI0, bbI1, decide_eq_false_iff_not, decide_eq_true_eq, Bool.not_eq_false, Bool.not_eq_true, Bool.not_true, Bool.not_false, cond_true, cond_false, F_301_2B, F_301_35, F_301_34, F_301_86, e2, show ¬ nT g ≤ k by omega, c1, c2, D1']
      · simp (disch := omega) only [↓reduceIte, if_true, if_false, ite_self, Option.bind_some, Option.map_some, wI_rd, wJ_rd, wI_2, wJ_1, wJ_22, I3_lit, I3_add, I3_mul, I3_lt, I3_le, I3_inj, I3_nn', I3_n1, I3_n2, m2m1, ldI_I, ldJ_I, ldZ_I, stI_I, stJ_I, true_or, or_true, false_or, or_false, true_and, and_true, false_and, and_false, not_true_eq_false, not_false_eq_true, reduceCtorEq, Nat.reduceEqDiff, Nat.lt_irrefl, Nat.not_lt_zero, Nat.le_refl, Nat.reduceLT, Nat.reduceLeDiff, eq_self, zbbI, bbI0, bbI1, decide_eq_false_iff_not, decide_eq_true_eq, Bool.not_eq_false, Bool.not_eq_true, Bool.not_true, Bool.not_false, cond_true, cond_false, F_301_2B, F_301_35, F_301_34, F_301_86, e2, show ¬ nT g ≤ k by omega, c1, c2, D0']
    · simp (disch := omega) only [↓reduceIte, if_true, if_false, ite_self, Option.bind_some, Option.map_some, wI_rd, wJ_rd, wI_2, wJ_1, wJ_22, I3_lit, I3_add, I3_mul, I3_lt, I3_le, I3_inj, I3_nn', I3_n1, I3_n2, m2m1, ldI_I, ldJ_I, ldZ_I, stI_I, stJ_I, true_or, or_true, false_or, or_false, true_and, and_true, false_and, and_false, not_true_eq_false, not_false_eq_true, reduceCtorEq, Nat.reduceEqDiff, Nat.lt_irrefl, Nat.not_lt_zero, Nat.le_refl, Nat.reduceLT, Nat.reduceLeDiff, eq_self, zbbI, bbI0, bbI1, decide_eq_false_iff_not, decide_eq_true_eq, Bool.not_eq_false, Bool.not_eq_true, Bool.not_true, Bool.not_false, cond_true, cond_false, F_301_2B, F_301_35, F_301_34, F_301_86, e2, show ¬ nT g ≤ k by omega, c1, D0']
  · have D1 := R_find1 d hl (t := k) (by omega) r true
    rw [Bool.true_and] at D1
    have D1' : F_301_40 r (I3 l.length) (I3 k) (I3 1) (I3 0) g = _ := D1
    unfold tyP at e
    simp only [Bool.and_eq_true, decide_eq_true_eq] at e
    rw [e.2.2] at D1'
    simp (disch := omega) only [↓reduceIte, if_true, if_false, ite_self, Option.bind_some, Option.map_some, wI_rd, wJ_rd, wI_2, wJ_1, wJ_22, I3_lit, I3_add, I3_mul, I3_lt, I3_le, I3_inj, I3_nn', I3_n1, I3_n2, m2m1, ldI_I, ldJ_I, ldZ_I, stI_I, stJ_I, true_or, or_true, false_or, or_false, true_and, and_true, false_and, and_false, not_true_eq_false, not_false_eq_true, reduceCtorEq, Nat.reduceEqDiff, Nat.lt_irrefl, Nat.not_lt_zero, Nat.le_refl, Nat.reduceLT, Nat.reduceLeDiff, eq_self, zbbI, bbI0, bbI1, decide_eq_false_iff_not, decide_eq_true_eq, Bool.not_eq_false, Bool.not_eq_true, Bool.not_true, Bool.not_false, cond_true, cond_false, F_301_2B, F_301_35, F_301_34, F_301_86, e2, show ¬ nT g ≤ k by omega, e.1, e.2.1, D1']
  · simp (disch := omega) only [↓reduceIte, if_true, if_false, ite_self, Option.bind_some, Option.map_some, wI_rd, wJ_rd, wI_2, wJ_1, wJ_22, I3_lit, I3_add, I3_mul, I3_lt, I3_le, I3_inj, I3_nn', I3_n1, I3_n2, m2m1, ldI_I, ldJ_I, ldZ_I, stI_I, stJ_I, true_or, or_true, false_or, or_false, true_and, and_true, false_and, and_false, not_true_eq_false, not_false_eq_true, reduceCtorEq, Nat.reduceEqDiff, Nat.lt_irrefl, Nat.not_lt_zero, Nat.le_refl, Nat.reduceLT, Nat.reduceLeDiff, eq_self, zbbI, bbI0, bbI1, decide_eq_false_iff_not, decide_eq_true_eq, Bool.not_eq_false, Bool.not_eq_true, Bool.not_true, Bool.not_false, cond_true, cond_false, F_301_2B, e2]
def K1 (h g : sm_H) : Prop := wfK g ∧ cK h g ∧ wfT g ∧ cT h g ∧ wfH0 g ∧ cH h g ∧ wfM g ∧ cM h g ∧ cG h g ∧ cO h g ∧ cV h g ∧ wfX g ∧ cX h g ∧ cXh h g ∧ wfF g
theorem I1_K {h g : sm_H} : I1 h g ↔ K1 h g ∧ cR h g ∧ cP h g ∧ cU h g ∧ cY h g ∧ cF h g ∧ cZ h g := by
  constructor
  · rintro ⟨wK, cK, wT, cT, wH, cH, wM, cM, cR, cP, cG, cO, cV, wX, cX, cXh, cU, cY, cF, cZ, wF⟩
    exact ⟨⟨wK, cK, wT, cT, wH, cH, wM, cM, cG, cO, cV, wX, cX, cXh, wF⟩, cR, cP, cU, cY, cF, cZ⟩
  · rintro ⟨⟨wK, cK, wT, cT, wH, cH, wM, cM, cG, cO, cV, wX, cX, cXh, wF⟩, cR, cP, cU, cY, cF, cZ⟩
    exact ⟨wK, cK, wT, cT, wH, cH, wM, cM, cR, cP, cG, cO, cV, wX, cX, cXh, cU, cY, cF, cZ, wF⟩
theorem K1_base {h g : sm_H} (K : K1 h g) : base g := by
  obtain ⟨wK, cK, wT, cT, wH, cH, wM, cM, cG, cO, cV, wX, cX, cXh, wF⟩ := K
  have h12 := wK.2.1
  refine ⟨wK, wT, wH, wM, fun v hv => ?_, fun k hk => ?_⟩
  · obtain ⟨q, z1, z2, -⟩ := cV.2.2.2 v hv
    rw [z1]; show (I3 q).toNatClampNeg < _; rw [I3_clamp (by omega)]; exact z2
  · obtain ⟨a, z1, z2⟩ := cG.2.2.2 k hk
    have w500 : nH g ≤ 500 := wH.1.2
    rw [z2]; show (I3 a).toNatClampNeg < _; rw [I3_clamp (by omega)]; exact z1
def oC (b : Nat) : Prop := b = 47 ∨ b = 0 ∨ b = 49 ∨ (52 ≤ b ∧ b ≤ 55) ∨ (62 ≤ b ∧ b ≤ 66)
def oR (b j : Nat) : Prop := b = 68 ∨ (110 ≤ b ∧ b ≤ 116) ∨ (b = 67 ∧ (j = 1 ∨ j = 19 ∨ (68 ≤ j ∧ j ≤ 73) ∨ (76 ≤ j ∧ j ≤ 78) ∨ j = 91))
theorem I1_re' {h g h1 g1 : sm_H} (I : I1 h g) (K : K1 h1 g1) (E : ext g g1) (G : grow g g1) (eh : ∀ b j, oC b → h1.1 b j = h.1 b j ∧ h1.2.1 b j = h.2.1 b j) (eg : ∀ b j, oR b j → g1.1 b j = g.1 b j) (eg2 : ∀ b j, oR b j → (j ≠ 19 ∨ b ≠ 67) → g1.2.1 b j = g.2.1 b j) : I1 h1 g1 := by
  have B0 := I1_base I
  obtain ⟨-, cR, cP, cU_, cY, cF, cZ⟩ := I1_K.mp I
  have a : ∀ b j, oC b → h1.1 b j = h.1 b j := fun b j o => (eh b j o).1
  have a' : ∀ b j, oC b → h1.2.1 b j = h.2.1 b j := fun b j o => (eh b j o).2
  have b : ∀ b j, oR b j → g1.1 b j = g.1 b j := eg
  have b' : ∀ b j, oR b j → (j ≠ 19 ∨ b ≠ 67) → g1.2.1 b j = g.2.1 b j := eg2
  refine I1_K.mpr ⟨K, ?_, ?_, ?_, ?_, ?_, ?_⟩
  · obtain ⟨r1, r2, r3⟩ := cR
    refine ⟨?_, ?_, fun k hk => ?_⟩
    · rw [a 64 1 (by unfold oC; omega), b 67 1 (by unfold oR; omega)]; exact r1
    · rw [b 67 1 (by unfold oR; omega)]; exact r2
    · rw [a 65 k (by unfold oC; omega), b 68 k (by unfold oR; omega)]; exact r3 k hk
  · obtain ⟨r1, r2, r3⟩ := cP
    refine ⟨?_, ?_, fun k hk => ?_⟩
    · rw [a 0 11 (by unfold oC; omega), b 67 68 (by unfold oR; omega)]; exact r1
    · rw [b 67 68 (by unfold oR; omega)]; exact r2
    · rw [a' 66 k (by unfold oC; omega), b' 110 k (by unfold oR; omega) (Or.inr (by decide))]; exact r3 k hk
  · obtain ⟨u1, u2, u3, u4, u5, u6, u7⟩ := cU_
    unfold cU
    rw [a 49 11 (by unfold oC; omega), a 49 8 (by unfold oC; omega), a 49 12 (by unfold oC; omega), a 49 10 (by unfold oC; omega), a' 49 9 (by unfold oC; omega), b 67 69 (by unfold oR; omega), b 67 73 (by unfold oR; omega), b 67 70 (by unfold oR; omega), b 67 71 (by unfold oR; omega), b' 67 72 (by unfold oR; omega) (by decide)]
    refine ⟨u1, u2, u3, u4, u5, ?_, u7⟩
    rcases u6 with z | z | ⟨⟨q, z1, z2, z3⟩, z4⟩
    · exact Or.inl z
    · exact Or.inr (Or.inl z)
    · exact Or.inr (Or.inr ⟨⟨q, z1, by have := G.1; omega, okO_grow G z3⟩, z4⟩)
  · obtain ⟨y1, y2, y3, y4⟩ := cY
    refine ⟨?_, ?_, fun k hk => ?_, fun k hk => ?_⟩
    · rw [a 52 1 (by unfold oC; omega), b 67 76 (by unfold oR; omega)]; exact y1
    · rw [b 67 76 (by unfold oR; omega)]; exact y2
    · rw [a 53 k (by unfold oC; omega), b 112 k (by unfold oR; omega)]; exact y3 k hk
    · rw [a 54 k (by unfold oC; omega), b 111 k (by unfold oR; omega)]; exact y4 k hk
  · obtain ⟨f1, f2, f3, f4, f5⟩ := cF
    have e91 : g1.1 67 91 = g.1 67 91 := b 67 91 (by unfold oR; omega)
    have eD : nD g1 = nD g := by show tn _ = tn _; rw [e91]
    refine ⟨?_, ?_, ?_, ?_, fun d hd => ?_⟩
    · rw [a 55 17 (by unfold oC; omega), b 67 77 (by unfold oR; omega)]; exact f1
    · rw [a 55 18 (by unfold oC; omega), b 67 78 (by unfold oR; omega)]; exact f2
    · rw [a 55 15 (by unfold oC; omega), e91]; exact f3
    · rw [e91]; exact f4
    · rw [eD] at hd
      obtain ⟨d1, d2, x, d3, d4, d5, d6, d7⟩ := f5 d hd
      have lt := (B0.h.2 x d3).2.2.1
      have eM : tM g1 (ty g x) = tM g (ty g x) := by show tn _ = tn _; rw [(E.t.2 _ lt).2.1]
      rw [a' 62 d (by unfold oC; omega), b' 113 d (by unfold oR; omega) (Or.inr (by decide)), a 63 d (by unfold oC; omega), b 114 d (by unfold oR; omega)]
      refine ⟨d1, d2, x, by have := E.h1; omega, d4, ?_⟩
      rw [ext_ty E d3, eM, b 115 d (by unfold oR; omega), (E.t.2 _ lt).2.1]
      refine ⟨d5, d6, fun i hi => ?_⟩
      rw [b 116 _ (by unfold oR; omega), (E.t.2 _ lt).2.2 i hi]
      exact d7 i hi
  · show h1.1 0 12 = g1.1 67 19 ∧ h1.1 47 1 = 0
    rw [a 0 12 (by unfold oC; omega), b 67 19 (by unfold oR; omega), a 47 1 (by unfold oC; omega)]; exact cZ
theorem I1_re {h g h1 g1 : sm_H} (I : I1 h g) (K : K1 h1 g1) (E : ext g g1) (G : grow g g1) (eh : ∀ b j, oC b → h1.1 b j = h.1 b j ∧ h1.2.1 b j = h.2.1 b j) (eg : ∀ b j, oR b j → g1.1 b j = g.1 b j ∧ g1.2.1 b j = g.2.1 b j) : I1 h1 g1 := I1_re' I K E G eh (fun b j o => (eg b j o).1) (fun b j o _ => (eg b j o).2)
theorem oC_agr {S : Nat → Nat → Prop} {h h1 : sm_H} (a : agr S h h1) (d : ∀ b j, S b j → ¬ oC b) : ∀ b j, oC b → h1.1 b j = h.1 b j ∧ h1.2.1 b j = h.2.1 b j := fun b j o => ⟨a.1 b j (fun z => d b j z o), a.2.1 b j (fun z => d b j z o)⟩
theorem oR_agr {S : Nat → Nat → Prop} {h h1 : sm_H} (a : agr S h h1) (d : ∀ b j, S b j → ¬ oR b j) : ∀ b j, oR b j → h1.1 b j = h.1 b j ∧ h1.2.1 b j = h.2.1 b j := fun b j o => ⟨a.1 b j (fun z => d b j z o), a.2.1 b j (fun z => d b j z o)⟩
theorem ext_rfl {g : sm_H} : ext g g := ⟨Nat.le_refl _, fun _ _ => rfl, Nat.le_refl _, fun _ _ => rfl, ⟨Nat.le_refl _, fun _ _ => ⟨rfl, rfl, fun _ _ => rfl⟩⟩, Nat.le_refl _, fun _ _ => rfl, Nat.le_refl _, fun _ _ => rfl, Nat.le_refl _, ⟨Nat.le_refl _, fun _ _ => ⟨rfl, rfl, rfl, rfl, rfl, rfl⟩⟩⟩
theorem grow_rfl {g : sm_H} : grow g g := ⟨Nat.le_refl _, Nat.le_refl _, Nat.le_refl _, fun _ _ => rfl, fun _ _ => rfl⟩
theorem C_fits {h g : sm_H} (wT : wfT g) (cT : cT h g) {l : List Int32} (d : dC h l) (h64 : l.length ≤ 64) (r : Int32) : F_233 r h = some (b2 (decide (l.length ≤ 10 ∧ (nT g < 300 ∨ fT g r l < nT g))), h) := by
  have e1 := d.1
  have e2 : g.1 67 10 = I3 (nT g) := wT.1.1
  have e3 : nT g ≤ 300 := wT.1.2
  have e4 : h.1 5 4 = I3 (nT g) := cT.1.trans e2
  by_cases c1 : l.length ≤ 10
  · by_cases c2 : nT g < 300
    · rw [decide_eq_true ⟨c1, Or.inl c2⟩]
      simp (disch := omega) only [F_233_33, F_233_32, F_233_28, F_233_0, F_233, ↓reduceIte, if_true, if_false, ite_self, Option.bind_some, Option.map_some, wI_rd, wJ_rd, wI_2, wJ_1, wJ_22, I3_lit, I3_add, I3_mul, I3_lt, I3_le, I3_inj, I3_nn', I3_n1, I3_n2, m2m1, ldI_I, ldJ_I, ldZ_I, stI_I, stJ_I, true_or, or_true, false_or, or_false, true_and, and_true, false_and, and_false, not_true_eq_false, not_false_eq_true, reduceCtorEq, Nat.reduceEqDiff, Nat.lt_irrefl, Nat.not_lt_zero, Nat.le_refl, Nat.reduceLT, Nat.reduceLeDiff, eq_self, zbbI, bbI0, bbI1, decide_eq_false_iff_not, decide_eq_true_eq, Bool.not_eq_false, Bool.not_eq_true, Bool.not_true, Bool.not_false, cond_true, cond_false, e1, e4, show ¬ 10 < l.length by omega, c2]; rfl
    · have K := C_known wT cT d c1 r
      unfold orN at K
      by_cases c3 : fT g r l < nT g
      · rw [decide_eq_true ⟨c1, Or.inr c3⟩]
        rw [if_pos c3] at K
        simp (disch := omega) only [F_233_33, F_233_32, F_233_28, F_233_0, F_233, ↓reduceIte, if_true, if_false, ite_self, Option.bind_some, Option.map_some, wI_rd, wJ_rd, wI_2, wJ_1, wJ_22, I3_lit, I3_add, I3_mul, I3_lt, I3_le, I3_inj, I3_nn', I3_n1, I3_n2, m2m1, ldI_I, ldJ_I, ldZ_I, stI_I, stJ_I, true_or, or_true, false_or, or_false, true_and, and_true, false_and, and_false, not_true_eq_false, not_false_eq_true, reduceCtorEq, Nat.reduceEqDiff, Nat.lt_irrefl, Nat.not_lt_zero, Nat.le_refl, Nat.reduceLT, Nat.reduceLeDiff, eq_self, zbbI, bbI0, bbI1, decide_eq_false_iff_not, decide_eq_true_eq, Bool.not_eq_false, Bool.not_eq_true, Bool.not_true, Bool.not_false, cond_true, cond_false, e1, e4, show ¬ 10 < l.length by omega, c2, K]; rfl
      · rw [decide_eq_false (by omega)]
        rw [if_neg c3] at K
        simp (disch := omega) only [F_233_33, F_233_32, F_233_28, F_233_0, F_233, ↓reduceIte, if_true, if_false, ite_self, Option.bind_some, Option.map_some, wI_rd, wJ_rd, wI_2, wJ_1, wJ_22, I3_lit, I3_add, I3_mul, I3_lt, I3_le, I3_inj, I3_nn', I3_n1, I3_n2, m2m1, ldI_I, ldJ_I, ldZ_I, stI_I, stJ_I, true_or, or_true, false_or, or_false, true_and, and_true, false_and, and_false, not_true_eq_false, not_false_eq_true, reduceCtorEq, Nat.reduceEqDiff, Nat.lt_irrefl, Nat.not_lt_zero, Nat.le_refl, Nat.reduceLT, Nat.reduceLeDiff, eq_self, zbbI, bbI0, bbI1, decide_eq_false_iff_not, decide_eq_true_eq, Bool.not_eq_false, Bool.not_eq_true, Bool.not_true, Bool.not_false, cond_true, cond_false, e1, e4, show ¬ 10 < l.length by omega, c2, K]; rfl
  · rw [decide_eq_false (by omega)]
    simp (disch := omega) only [F_233_33, F_233_32, F_233_28, F_233_0, F_233, ↓reduceIte, if_true, if_false, ite_self, Option.bind_some, Option.map_some, wI_rd, wJ_rd, wI_2, wJ_1, wJ_22, I3_lit, I3_add, I3_mul, I3_lt, I3_le, I3_inj, I3_nn', I3_n1, I3_n2, m2m1, ldI_I, ldJ_I, ldZ_I, stI_I, stJ_I, true_or, or_true, false_or, or_false, true_and, and_true, false_and, and_false, not_true_eq_false, not_false_eq_true, reduceCtorEq, Nat.reduceEqDiff, Nat.lt_irrefl, Nat.not_lt_zero, Nat.le_refl, Nat.reduceLT, Nat.reduceLeDiff, eq_self, zbbI, bbI0, bbI1, decide_eq_false_iff_not, decide_eq_true_eq, Bool.not_eq_false, Bool.not_eq_true, Bool.not_true, Bool.not_false, cond_true, cond_false, e1, show 10 < l.length by omega]; rfl
def plF (f : Nat → Int32) (n : Nat) (l : List Int32) (k : Nat) : Nat → Int32 := fun i => if 10 * n ≤ i ∧ i < 10 * n + k then at0 l (i - 10 * n) else f i
def setTC (h : sm_H) (n : Nat) (r : Int32) (l : List Int32) : sm_H := sm_wI (wA (sm_wI (sm_wI h 6 n r) 7 n (I3 l.length)) 8 (plF (h.1 8) n l l.length)) 5 4 (I3 (n + 1))
def setTR (g : sm_H) (n : Nat) (r : Int32) (l : List Int32) : sm_H := sm_wI (wA (sm_wI (sm_wI g 72 n r) 73 n (I3 l.length)) 74 (plF (g.1 74) n l l.length)) 67 10 (I3 (n + 1))
theorem C_settle1 {h g : sm_H} (wT : wfT g) (cT : cT h g) {l : List Int32} (d : dC h l) (hl : l.length ≤ 10) (r : Int32) (c : fT g r l < nT g) : F_234 r h = some (I3 (fT g r l), h) := by
  have e1 := d.1
  have e3 : nT g ≤ 300 := wT.1.2
  have K := C_known wT cT d hl r
  unfold orN at K
  rw [if_pos c] at K
  simp (disch := omega) only [F_234_43, F_234_18, F_234_0, F_234, ↓reduceIte, if_true, if_false, ite_self, Option.bind_some, Option.map_some, wI_rd, wJ_rd, wI_2, wJ_1, wJ_22, I3_lit, I3_add, I3_mul, I3_lt, I3_le, I3_inj, I3_nn', I3_n1, I3_n2, m2m1, ldI_I, ldJ_I, ldZ_I, stI_I, stJ_I, true_or, or_true, false_or, or_false, true_and, and_true, false_and, and_false, not_true_eq_false, not_false_eq_true, reduceCtorEq, Nat.reduceEqDiff, Nat.lt_irrefl, Nat.not_lt_zero, Nat.le_refl, Nat.reduceLT, Nat.reduceLeDiff, eq_self, zbbI, bbI0, bbI1, decide_eq_false_iff_not, decide_eq_true_eq, Bool.not_eq_false, Bool.not_eq_true, Bool.not_true, Bool.not_false, cond_true, cond_false, e1, show ¬ 10 < l.length by omega, K]
theorem C_settle2 {h g : sm_H} (wT : wfT g) (cT : cT h g) {l : List Int32} (d : dC h l) (hl : l.length ≤ 10) (r : Int32) (c : fT g r l = nT g) (room : nT g < 300) : F_234 r h = some (I3 (nT g), setTC h (nT g) r l) := by
  have e1 := d.1
  have e2 : g.1 67 10 = I3 (nT g) := wT.1.1
  have e4 : h.1 5 4 = I3 (nT g) := cT.1.trans e2
  have K := C_known wT cT d hl r
  unfold orN at K
  rw [if_neg (by omega)] at K
  generalize nT g = n at *
  have cp : sm_cpI G0 (sm_wI (sm_wI h 6 n r) 7 n (I3 l.length)) 9 (I3 0) 8 (I3 (n * 10)) (I3 l.length) = some (wA (sm_wI (sm_wI h 6 n r) 7 n (I3 l.length)) 8 (plF (h.1 8) n l l.length)) := by
    unfold sm_cpI
    have i1 : sm_is G0 (sm_wI (sm_wI h 6 n r) 7 n (I3 l.length)) 9 100 = true := rfl
    have i2 : sm_is G0 (sm_wI (sm_wI h 6 n r) 7 n (I3 l.length)) 8 100 = true := rfl
    have i3 : sm_ln G0 (sm_wI (sm_wI h 6 n r) 7 n (I3 l.length)) 9 = 10 := rfl
    have i4 : sm_ln G0 (sm_wI (sm_wI h 6 n r) 7 n (I3 l.length)) 8 = 3000 := rfl
    rw [i1, i2, i3, i4, I3_clamp (by omega), I3_clamp (by omega), I3_clamp (by omega), if_pos ⟨I3_nn (by omega), I3_nn (by omega), I3_nn (by omega), by omega, by omega⟩]
    show some (wA (sm_wI (sm_wI h 6 n r) 7 n (I3 l.length)) 8 (va_cpy (h.1 9) (h.1 8) 0 (n * 10) l.length)) = _
    congr 2
    funext i
    unfold va_cpy plF
    by_cases q : 10 * n ≤ i ∧ i < 10 * n + l.length
    · rw [if_pos q, if_pos (by omega)]
      have := d.2 (i - 10 * n) (by omega) (by omega)
      rw [← this, show 0 + (i - n * 10) = i - 10 * n by omega]
    · rw [if_neg q, if_neg (by omega)]
  have e5 : (h.1 5 6 : Int32) = I3 l.length := e1
  simp (disch := omega) only [F_234_43, F_234_18, F_234_0, F_234, ↓reduceIte, if_true, if_false, ite_self, Option.bind_some, Option.map_some, wI_rd, wJ_rd, wI_2, wJ_1, wJ_22, I3_lit, I3_add, I3_mul, I3_lt, I3_le, I3_inj, I3_nn', I3_n1, I3_n2, m2m1, ldI_I, ldJ_I, ldZ_I, stI_I, stJ_I, true_or, or_true, false_or, or_false, true_and, and_true, false_and, and_false, not_true_eq_false, not_false_eq_true, reduceCtorEq, Nat.reduceEqDiff, Nat.lt_irrefl, Nat.not_lt_zero, Nat.le_refl, Nat.reduceLT, Nat.reduceLeDiff, eq_self, zbbI, bbI0, bbI1, decide_eq_false_iff_not, decide_eq_true_eq, Bool.not_eq_false, Bool.not_eq_true, Bool.not_true, Bool.not_false, cond_true, cond_false, e1, e4, show ¬ 10 < l.length by omega, K, room, cp, wA_rd, I3_sub, Nat.add_sub_cancel]
  rfl
theorem R_made1 {g : sm_H} (wT : wfT g) {l : List Int32} (d : dR g l) (hl : l.length ≤ 10) {r : Int32} (er : g.1 67 20 = r) (c : fT g r l < nT g) : F_302 g = some (I3 (fT g r l), g) := by
  have e1 := d.1
  have e3 : nT g ≤ 300 := wT.1.2
  have K := R_findT wT d hl r
  unfold orN at K
  rw [if_pos c] at K
  simp (disch := omega) only [F_302_69B, F_302_69, F_302_39, F_302_0, F_302, ↓reduceIte, if_true, if_false, ite_self, Option.bind_some, Option.map_some, wI_rd, wJ_rd, wI_2, wJ_1, wJ_22, I3_lit, I3_add, I3_mul, I3_lt, I3_le, I3_inj, I3_nn', I3_n1, I3_n2, m2m1, ldI_I, ldJ_I, ldZ_I, stI_I, stJ_I, true_or, or_true, false_or, or_false, true_and, and_true, false_and, and_false, not_true_eq_false, not_false_eq_true, reduceCtorEq, Nat.reduceEqDiff, Nat.lt_irrefl, Nat.not_lt_zero, Nat.le_refl, Nat.reduceLT, Nat.reduceLeDiff, eq_self, zbbI, bbI0, bbI1, decide_eq_false_iff_not, decide_eq_true_eq, Bool.not_eq_false, Bool.not_eq_true, Bool.not_true, Bool.not_false, cond_true, cond_false, e1, er, hl, K]
theorem R_made2 {g : sm_H} (wT : wfT g) {l : List Int32} (d : dR g l) (hl : l.length ≤ 10) {r : Int32} (er : g.1 67 20 = r) (c : fT g r l = nT g) (room : nT g < 300) : F_302 g = some (I3 (nT g), setTR g (nT g) r l) := by
  have e1 := d.1
  have e2 : g.1 67 10 = I3 (nT g) := wT.1.1
  have K := R_findT wT d hl r
  unfold orN at K
  rw [if_neg (by omega)] at K
  generalize nT g = n at *
  have L := lp_it (body := F_302_69B) (r := (I3 n, setTR g n r l)) l.length (fun k => (I3 k, wA (sm_wI (sm_wI g 72 n r) 73 n (I3 l.length)) 74 (plF (g.1 74) n l k))) 1000000 (fun k hk => ?_) ?_ (by omega)
  · have w0 : wA (sm_wI (sm_wI g 72 n r) 73 n (I3 l.length)) 74 (plF (g.1 74) n l 0) = sm_wI (sm_wI g 72 n r) 73 n (I3 l.length) := by
      have : plF (g.1 74) n l 0 = (sm_wI (sm_wI g 72 n r) 73 n (I3 l.length)).1 74 := by
        funext i; unfold plF; rw [if_neg (by omega)]; rfl
      rw [this, wA_self]
    simp only [w0] at L
    simp (disch := omega) only [↓reduceIte, if_true, if_false, ite_self, Option.bind_some, Option.map_some, wI_rd, wJ_rd, wI_2, wJ_1, wJ_22, I3_lit, I3_add, I3_mul, I3_lt, I3_le, I3_inj, I3_nn', I3_n1, I3_n2, m2m1, ldI_I, ldJ_I, ldZ_I, stI_I, stJ_I, true_or, or_true, false_or, or_false, true_and, and_true, false_and, and_false, not_true_eq_false, not_false_eq_true, reduceCtorEq, Nat.reduceEqDiff, Nat.lt_irrefl, Nat.not_lt_zero, Nat.le_refl, Nat.reduceLT, Nat.reduceLeDiff, eq_self, zbbI, bbI0, bbI1, decide_eq_false_iff_not, decide_eq_true_eq, Bool.not_eq_false, Bool.not_eq_true, Bool.not_true, Bool.not_false, cond_true, cond_false, F_302, F_302_0, F_302_69, F_302_39, e1, e2, er, hl, K, show ¬ n = 300 by omega, L]
  · have z := d.2 k hk
    have st : sm_wI (wA (sm_wI (sm_wI g 72 n r) 73 n (I3 l.length)) 74 (plF (g.1 74) n l k)) 74 (10 * n + k) (at0 l k) = wA (sm_wI (sm_wI g 72 n r) 73 n (I3 l.length)) 74 (plF (g.1 74) n l (k + 1)) := by
      rw [wA_wI]
      congr 1
      funext i
      unfold plF
      by_cases q : i = 10 * n + k
      · rw [if_pos q, if_pos (by omega), q, show 10 * n + k - 10 * n = k by omega]
      · rw [if_neg q]
        by_cases q2 : 10 * n ≤ i ∧ i < 10 * n + k
        · rw [if_pos q2, if_pos (by omega)]
        · rw [if_neg q2, if_neg (by omega)]
    simp (disch := omega) only [↓reduceIte, if_true, if_false, ite_self, Option.bind_some, Option.map_some, wI_rd, wJ_rd, wI_2, wJ_1, wJ_22, I3_lit, I3_add, I3_mul, I3_lt, I3_le, I3_inj, I3_nn', I3_n1, I3_n2, m2m1, ldI_I, ldJ_I, ldZ_I, stI_I, stJ_I, true_or, or_true, false_or, or_false, true_and, and_true, false_and, and_false, not_true_eq_false, not_false_eq_true, reduceCtorEq, Nat.reduceEqDiff, Nat.lt_irrefl, Nat.not_lt_zero, Nat.le_refl, Nat.reduceLT, Nat.reduceLeDiff, eq_self, zbbI, bbI0, bbI1, decide_eq_false_iff_not, decide_eq_true_eq, Bool.not_eq_false, Bool.not_eq_true, Bool.not_true, Bool.not_false, cond_true, cond_false, F_302_69B, wA_rd, e1, e2, z, show ¬ l.length ≤ k by omega, st]
  · simp (disch := omega) only [↓reduceIte, if_true, if_false, ite_self, Option.bind_some, Option.map_some, wI_rd, wJ_rd, wI_2, wJ_1, wJ_22, I3_lit, I3_add, I3_mul, I3_lt, I3_le, I3_inj, I3_nn', I3_n1, I3_n2, m2m1, ldI_I, ldJ_I, ldZ_I, stI_I, stJ_I, true_or, or_true, false_or, or_false, true_and, and_true, false_and, and_false, not_true_eq_false, not_false_eq_true, reduceCtorEq, Nat.reduceEqDiff, Nat.lt_irrefl, Nat.not_lt_zero, Nat.le_refl, Nat.reduceLT, Nat.reduceLeDiff, eq_self, zbbI, bbI0, bbI1, decide_eq_false_iff_not, decide_eq_true_eq, Bool.not_eq_false, Bool.not_eq_true, Bool.not_true, Bool.not_false, cond_true, cond_false, F_302_69B, wA_rd, e1, e2, I3_sub, Nat.add_sub_cancel]
    rfl
def isTy (g : sm_H) (t : Nat) (r : Int32) (l : List Int32) : Prop := t < nT g ∧ g.1 72 t = r ∧ g.1 73 t = I3 l.length ∧ ∀ k, k < l.length → g.1 74 (10 * t + k) = at0 l k
def kL (g : sm_H) (l : List Int32) : Prop := ∀ i, i < l.length → ∃ q, at0 l i = I3 q ∧ 0 < q ∧ q < 20 + nC g
def kR1 (g : sm_H) (r : Int32) : Prop := ∃ q, r = I3 q ∧ q < 20 + nC g
abbrev SCt (b j : Nat) : Prop := b = 5 ∧ j = 4 ∨ b = 6 ∨ b = 7 ∨ b = 8
abbrev SRt (b j : Nat) : Prop := b = 67 ∧ j = 10 ∨ b = 72 ∨ b = 73 ∨ b = 74
theorem tyExt_rfl {g : sm_H} : tyExt g g := ⟨Nat.le_refl _, fun _ _ => ⟨rfl, rfl, fun _ _ => rfl⟩⟩
theorem isTy_of {g : sm_H} {r : Int32} {l : List Int32} (c : fT g r l < nT g) : isTy g (fT g r l) r l := by
  have z := (fst1_spec (tyP g r l) (nT g)).2.2 c
  unfold tyP at z
  simp only [Bool.and_eq_true, decide_eq_true_eq, all1_iff] at z
  exact ⟨c, z.1, z.2.1, z.2.2⟩
theorem fT_none {g : sm_H} {r : Int32} {l : List Int32} (c : fT g r l = nT g) {t : Nat} : ¬ isTy g t r l := by
  rintro ⟨h1, h2, h3, h4⟩
  have z := (fst1_spec (tyP g r l) (nT g)).2.1 t (by rw [show fst1 (tyP g r l) (nT g) = nT g from c]; exact h1)
  have : tyP g r l t = true := by
    unfold tyP
    simp only [Bool.and_eq_true, decide_eq_true_eq, all1_iff]
    exact ⟨h2, h3, h4⟩
  rw [this] at z; cases z
theorem tyAdd {h g : sm_H} (I : K1 h g) {r : Int32} {l : List Int32} (hl : l.length ≤ 10) (room : nT g < 300) (c : fT g r l = nT g) (kr : kR1 g r) (kl : kL g l) : K1 (setTC h (nT g) r l) (setTR g (nT g) r l) ∧ ext g (setTR g (nT g) r l) ∧ grow g (setTR g (nT g) r l) ∧ same g (setTR g (nT g) r l) ∧ isTy (setTR g (nT g) r l) (nT g) r l := by
  have B0 := K1_base I
  obtain ⟨wK, cK, wT, cT, wH, cH, wM, cM, cG, cO, cV, wX, cX, cXh, wF⟩ := id I
  have h12 := wK.2.1
  have nn : nT (setTR g (nT g) r l) = nT g + 1 := I3_clamp (by omega)
  generalize hn : nT g = n at *
  have hn' : tn (g.1 67 10) = n := hn
  have r72 : ∀ t, (setTR g n r l).1 72 t = if t = n then r else g.1 72 t := fun t => rfl
  have r73 : ∀ t, (setTR g n r l).1 73 t = if t = n then I3 l.length else g.1 73 t := fun t => rfl
  have r74 : ∀ t, (setTR g n r l).1 74 t = plF (g.1 74) n l l.length t := fun t => rfl
  have o72 : ∀ t, t < n → (setTR g n r l).1 72 t = g.1 72 t := fun t ht => by rw [r72, if_neg (by omega)]
  have o73 : ∀ t, t < n → (setTR g n r l).1 73 t = g.1 73 t := fun t ht => by rw [r73, if_neg (by omega)]
  have oM : ∀ t, t < n → tM (setTR g n r l) t = tM g t := fun t ht => by show tn _ = tn _; rw [o73 t ht]
  have m10 : ∀ t, t < n → tM g t ≤ 10 := fun t ht => (wT.2.1 t (by omega)).2.1.2
  have o74 : ∀ t k, t < n → k < tM g t → (setTR g n r l).1 74 (10 * t + k) = g.1 74 (10 * t + k) := fun t k ht hk => by
    have := m10 t ht
    rw [r74]; unfold plF; rw [if_neg (by omega)]
  have n74 : ∀ k, k < l.length → (setTR g n r l).1 74 (10 * n + k) = at0 l k := fun k hk => by
    rw [r74]; unfold plF; rw [if_pos (by omega), show 10 * n + k - 10 * n = k by omega]
  have nM : tM (setTR g n r l) n = l.length := by show tn _ = _; rw [r73, if_pos rfl]; exact I3_clamp (by omega)
  have E : tyExt g (setTR g n r l) := ⟨by rw [nn]; omega, fun t ht => ⟨o72 t (by omega), o73 t (by omega), fun k hk => o74 t k (by omega) hk⟩⟩
  have T : isTy (setTR g n r l) n r l := ⟨by rw [nn]; omega, by rw [r72, if_pos rfl], by rw [r73, if_pos rfl], n74⟩
  have EE : ext g (setTR g n r l) := ⟨Nat.le_refl _, fun _ _ => rfl, Nat.le_refl _, fun _ _ => rfl, E, Nat.le_refl _, fun _ _ => rfl, Nat.le_refl _, fun _ _ => rfl, Nat.le_refl _, ⟨Nat.le_refl _, fun _ _ => ⟨rfl, rfl, rfl, rfl, rfl, rfl⟩⟩⟩
  have SS : same g (setTR g n r l) := ⟨rfl, fun _ _ => ⟨rfl, rfl, rfl, rfl, rfl⟩, fun _ _ _ _ => rfl⟩
  refine ⟨⟨wK, cK, ⟨?_, fun t ht => ?_, fun t u ht hu e1 e2 e3 => ?_⟩, ⟨rfl, fun t ht => ⟨?_, ?_⟩, fun k hk => ?_⟩, ⟨wH.1, fun x hx => ?_⟩, ⟨cH.1, cH.2.1, cH.2.2.1, fun x hx => ?_⟩, ⟨wM.1, wM.2.1, fun m hm => ?_⟩, cM, cG, cO, cV, wX, cX, cXh_fr ?_ cXh, wfF_ext B0 B0.g EE SS ⟨rfl, fun _ _ => rfl⟩ wF⟩, EE, ⟨Nat.le_refl _, Nat.le_refl _, Nat.le_refl _, fun _ _ => rfl, fun _ _ => rfl⟩, SS, T⟩
  · exact cnt_up (by omega) (by decide)
  · rw [nn] at ht
    by_cases q : t = n
    · subst q
      rw [nM, r72, if_pos rfl, r73, if_pos rfl]
      obtain ⟨q, hq1, hq2⟩ := kr
      refine ⟨by rw [hq1]; exact cnt_up (by show q ≤ 19 + nC g; omega) (by show 19 + nC g < _; omega), cnt_up hl (by decide), fun k hk => ?_⟩
      obtain ⟨q, z1, z2, z3⟩ := kl k hk
      have e : (setTR g t r l).1 74 (10 * t + k) = I3 q := by rw [n74 k hk, z1]
      refine ⟨by rw [e]; exact cnt_up (by show q ≤ 19 + nC g; omega) (by show 19 + nC g < _; omega), ?_⟩
      show 0 < tn ((setTR g t r l).1 74 (10 * t + k))
      rw [e]
      show 0 < (I3 q).toNatClampNeg
      rw [I3_clamp (by omega)]; exact z2
    · have ht : t < n := by omega
      obtain ⟨z1, z2, z3⟩ := wT.2.1 t (by omega)
      rw [o72 t ht, o73 t ht, oM t ht]
      refine ⟨z1, z2, fun k hk => ?_⟩
      show cnt ((setTR g n r l).1 74 (10 * t + k)) _ ∧ 0 < tn ((setTR g n r l).1 74 (10 * t + k))
      rw [o74 t k ht hk]
      exact z3 k hk
  · rw [nn] at ht hu
    by_cases q : t = n
    · by_cases q2 : u = n
      · omega
      · exfalso
        subst q
        have hu : u < t := by omega
        rw [o72 u hu, r72, if_pos rfl] at e1
        rw [o73 u hu, r73, if_pos rfl] at e2
        have mu : tM g u = l.length := by show tn _ = _; rw [← e2]; exact I3_clamp (by omega)
        refine fT_none (g := g) (r := r) (l := l) (t := u) (by rw [c, hn]) ⟨by omega, e1.symm, e2.symm, fun k hk => ?_⟩
        have := e3 k (by rw [nM]; exact hk)
        rw [n74 k hk, o74 u k hu (by omega)] at this
        exact this.symm
    · have ht : t < n := by omega
      by_cases q2 : u = n
      · exfalso
        subst q2
        rw [o72 t ht, r72, if_pos rfl] at e1
        rw [o73 t ht, r73, if_pos rfl] at e2
        have mu : tM g t = l.length := by show tn _ = _; rw [e2]; exact I3_clamp (by omega)
        refine fT_none (g := g) (r := r) (l := l) (t := t) (by rw [c, hn]) ⟨by omega, e1, e2, fun k hk => ?_⟩
        have := e3 k (by rw [oM t ht]; omega)
        rw [n74 k hk, o74 t k ht (by omega)] at this
        exact this
      · have hu : u < n := by omega
        rw [o72 t ht, o72 u hu] at e1
        rw [o73 t ht, o73 u hu] at e2
        refine wT.2.2 t u (by omega) (by omega) e1 e2 (fun k hk => ?_)
        have := e3 k (by rw [oM t ht]; exact hk)
        rw [o74 t k ht hk, o74 u k hu (by rw [show tM g u = tM g t by show tn _ = tn _; rw [e2]]; exact hk)] at this
        exact this
  · show (if t = n then r else h.1 6 t) = if t = n then r else g.1 72 t
    rw [(cT.2.1 t ht).1]
  · show (if t = n then I3 l.length else h.1 7 t) = if t = n then I3 l.length else g.1 73 t
    rw [(cT.2.1 t ht).2]
  · show plF (h.1 8) n l l.length k = plF (g.1 74) n l l.length k
    unfold plF
    rw [cT.2.2 k hk]
  · obtain ⟨z1, z2, z3, z4⟩ := wH.2 x hx
    exact ⟨z1, z2, by rw [nn]; show ty g x < n + 1; omega, z4⟩
  · obtain ⟨z1, z2, z3, z4⟩ := wH.2 x hx
    obtain ⟨y1, y2, y3⟩ := cH.2.2.2 x hx
    have zt : ty g x < n := by omega
    have et : ty (setTR g n r l) x = ty g x := rfl
    rw [et, o72 _ zt, o73 _ zt, oM _ zt]
    refine ⟨y1, y2, fun k hk => ?_⟩
    rw [o74 _ k zt hk]
    exact y3 k hk
  · obtain ⟨m1, m2, m3, m4, m5⟩ := wM.2.2 m hm
    refine ⟨m1, m2, m3, m4, ?_⟩
    rcases m5 with z | ⟨z1, z2, t, z3, z4⟩
    · exact Or.inl z
    · exact Or.inr ⟨z1, z2, t, by rw [nn]; omega, z4⟩
  · exact hi_wI (hi_wA (hi_wI (hi_wI hi_rfl (by decide)) (by decide)) (by decide)) (by decide)
theorem agr_setTC {h : sm_H} {n : Nat} {r : Int32} {l : List Int32} : agr SCt h (setTC h n r l) := agr_wI (agr_wA (agr_wI (agr_wI agr_rfl (by simp [SCt])) (by simp [SCt])) (by simp [SCt])) (by simp [SCt])
theorem agr_setTR {h : sm_H} {n : Nat} {r : Int32} {l : List Int32} : agr SRt h (setTR h n r l) := agr_wI (agr_wA (agr_wI (agr_wI agr_rfl (by simp [SRt])) (by simp [SRt])) (by simp [SRt])) (by simp [SRt])
theorem settled {h g : sm_H} {r : Int32} {l : List Int32} (I : K1 h g) (dc : dC h l) (dr : dR g l) (er : g.1 67 20 = r) (hl : l.length ≤ 10) (room : nT g < 300 ∨ fT g r l < nT g) (kr : kR1 g r) (kl : kL g l) : ∃ h1 g1, F_234 r h = some (I3 (fT g r l), h1) ∧ F_302 g = some (I3 (fT g r l), g1) ∧ K1 h1 g1 ∧ ext g g1 ∧ grow g g1 ∧ same g g1 ∧ isTy g1 (fT g r l) r l ∧ agr SCt h h1 ∧ agr SRt g g1 := by
  have wT := I.2.2.1
  have cT := I.2.2.2.1
  have le := fT_le g r l
  by_cases c : fT g r l < nT g
  · exact ⟨h, g, C_settle1 wT cT dc hl r c, R_made1 wT dr hl er c, I, ext_rfl, grow_rfl, ⟨rfl, fun _ _ => ⟨rfl, rfl, rfl, rfl, rfl⟩, fun _ _ _ _ => rfl⟩, isTy_of c, agr_rfl, agr_rfl⟩
  · have c2 : fT g r l = nT g := by omega
    obtain ⟨a1, a2, a3, a4, a5⟩ := tyAdd I hl (by omega) c2 kr kl
    refine ⟨setTC h (nT g) r l, setTR g (nT g) r l, ?_, ?_, a1, a2, a3, a4, ?_, agr_setTC, agr_setTR⟩
    · rw [c2]; exact C_settle2 wT cT dc hl r c2 (by omega)
    · rw [c2]; exact R_made2 wT dr hl er c2 (by omega)
    · rw [c2]; exact a5
theorem C_settle0 {h g : sm_H} (wT : wfT g) (cT : cT h g) {l : List Int32} (d : dC h l) (h64 : l.length ≤ 64) (r : Int32) (c : ¬ (l.length ≤ 10 ∧ (nT g < 300 ∨ fT g r l < nT g))) : F_234 r h = some (-1, h) := by
  have e1 := d.1
  have e2 : g.1 67 10 = I3 (nT g) := wT.1.1
  have e3 : nT g ≤ 300 := wT.1.2
  have e4 : h.1 5 4 = I3 (nT g) := cT.1.trans e2
  by_cases c1 : l.length ≤ 10
  · have K := C_known wT cT d c1 r
    unfold orN at K
    rw [if_neg (by omega)] at K
    simp (disch := omega) only [F_234_43, F_234_18, F_234_0, F_234, ↓reduceIte, if_true, if_false, ite_self, Option.bind_some, Option.map_some, wI_rd, wJ_rd, wI_2, wJ_1, wJ_22, I3_lit, I3_add, I3_mul, I3_lt, I3_le, I3_inj, I3_nn', I3_n1, I3_n2, m2m1, ldI_I, ldJ_I, ldZ_I, stI_I, stJ_I, true_or, or_true, false_or, or_false, true_and, and_true, false_and, and_false, not_true_eq_false, not_false_eq_true, reduceCtorEq, Nat.reduceEqDiff, Nat.lt_irrefl, Nat.not_lt_zero, Nat.le_refl, Nat.reduceLT, Nat.reduceLeDiff, eq_self, zbbI, bbI0, bbI1, decide_eq_false_iff_not, decide_eq_true_eq, Bool.not_eq_false, Bool.not_eq_true, Bool.not_true, Bool.not_false, cond_true, cond_false, e1, e4, show ¬ 10 < l.length by omega, K, show ¬ nT g < 300 by omega]
  · simp (disch := omega) only [F_234_43, F_234_18, F_234_0, F_234, ↓reduceIte, if_true, if_false, ite_self, Option.bind_some, Option.map_some, wI_rd, wJ_rd, wI_2, wJ_1, wJ_22, I3_lit, I3_add, I3_mul, I3_lt, I3_le, I3_inj, I3_nn', I3_n1, I3_n2, m2m1, ldI_I, ldJ_I, ldZ_I, stI_I, stJ_I, true_or, or_true, false_or, or_false, true_and, and_true, false_and, and_false, not_true_eq_false, not_false_eq_true, reduceCtorEq, Nat.reduceEqDiff, Nat.lt_irrefl, Nat.not_lt_zero, Nat.le_refl, Nat.reduceLT, Nat.reduceLeDiff, eq_self, zbbI, bbI0, bbI1, decide_eq_false_iff_not, decide_eq_true_eq, Bool.not_eq_false, Bool.not_eq_true, Bool.not_true, Bool.not_false, cond_true, cond_false, e1, e4, show 10 < l.length by omega]
theorem R_made0 {g : sm_H} (wT : wfT g) {l : List Int32} (d : dR g l) (h64 : l.length ≤ 64) {r : Int32} (er : g.1 67 20 = r) (c : ¬ (l.length ≤ 10 ∧ (nT g < 300 ∨ fT g r l < nT g))) : F_302 g = some (-1, g) := by
  have e1 := d.1
  have e2 : g.1 67 10 = I3 (nT g) := wT.1.1
  have e3 : nT g ≤ 300 := wT.1.2
  by_cases c1 : l.length ≤ 10
  · have K := R_findT wT d c1 r
    unfold orN at K
    rw [if_neg (by omega)] at K
    simp (disch := omega) only [F_302_69B, F_302_69, F_302_39, F_302_0, F_302, ↓reduceIte, if_true, if_false, ite_self, Option.bind_some, Option.map_some, wI_rd, wJ_rd, wI_2, wJ_1, wJ_22, I3_lit, I3_add, I3_mul, I3_lt, I3_le, I3_inj, I3_nn', I3_n1, I3_n2, m2m1, ldI_I, ldJ_I, ldZ_I, stI_I, stJ_I, true_or, or_true, false_or, or_false, true_and, and_true, false_and, and_false, not_true_eq_false, not_false_eq_true, reduceCtorEq, Nat.reduceEqDiff, Nat.lt_irrefl, Nat.not_lt_zero, Nat.le_refl, Nat.reduceLT, Nat.reduceLeDiff, eq_self, zbbI, bbI0, bbI1, decide_eq_false_iff_not, decide_eq_true_eq, Bool.not_eq_false, Bool.not_eq_true, Bool.not_true, Bool.not_false, cond_true, cond_false, e1, e2, er, c1, K, show nT g = 300 by omega]
  · simp (disch := omega) only [F_302_69B, F_302_69, F_302_39, F_302_0, F_302, ↓reduceIte, if_true, if_false, ite_self, Option.bind_some, Option.map_some, wI_rd, wJ_rd, wI_2, wJ_1, wJ_22, I3_lit, I3_add, I3_mul, I3_lt, I3_le, I3_inj, I3_nn', I3_n1, I3_n2, m2m1, ldI_I, ldJ_I, ldZ_I, stI_I, stJ_I, true_or, or_true, false_or, or_false, true_and, and_true, false_and, and_false, not_true_eq_false, not_false_eq_true, reduceCtorEq, Nat.reduceEqDiff, Nat.lt_irrefl, Nat.not_lt_zero, Nat.le_refl, Nat.reduceLT, Nat.reduceLeDiff, eq_self, zbbI, bbI0, bbI1, decide_eq_false_iff_not, decide_eq_true_eq, Bool.not_eq_false, Bool.not_eq_true, Bool.not_true, Bool.not_false, cond_true, cond_false, e1, c1]
theorem K1_m {h g : sm_H} : K1 (mC h) (mR3 (mR2 g)) ↔ K1 h g := by
  constructor
  · rintro ⟨wK, cK, wT, cT, wH, cH, wM, cM, cG, cO, cV, wX, cX, cXh, wF⟩
    exact ⟨wK, cK_m.mp cK, wT, cT, wH, cH, wM, cM, cG, cO, cV, wfX_m.mp wX, cX, cXh_m.mp (cXh_mR.mp cXh), wF⟩
  · rintro ⟨wK, cK, wT, cT, wH, cH, wM, cM, cG, cO, cV, wX, cX, cXh, wF⟩
    exact ⟨wK, cK_m.mpr cK, wT, cT, wH, cH, wM, cM, cG, cO, cV, wfX_m.mpr wX, cX, cXh_mR.mpr (cXh_m.mpr cXh), wF⟩
theorem K1_g {h g g1 : sm_H} (K : K1 h g) (a : agr notR g g1) : K1 h g1 := by
  have e : mR2 g1 = mR2 g := mR_eq (fun b j n => ⟨a.1 b j n, a.2.1 b j n⟩)
  have := K1_m.mpr K
  rw [← e] at this
  exact K1_m.mp this
theorem K1_h {h h1 g : sm_H} (K : K1 h g) (a : agr notC h h1) : K1 h1 g := by
  have := K1_m.mpr K
  rw [← mC_eq a] at this
  exact K1_m.mp this
theorem lp_ex {σ ρ : Type} {body : σ → Option (σ ⊕ ρ)} {P : Nat → σ → Prop} {Q : ρ → Prop} (n : Nat) (st : ∀ k s, k < n → P k s → (∃ s', body s = some (.inl s') ∧ P (k + 1) s') ∨ ∃ r, body s = some (.inr r) ∧ Q r) (fin : ∀ s, P n s → ∃ r, body s = some (.inr r) ∧ Q r) : ∀ (s : σ) (f : Nat), P 0 s → n < f → ∃ r, lp body f s = some r ∧ Q r := by
  have key : ∀ (m k : Nat) (s : σ) (f : Nat), m + k = n → P k s → m < f → ∃ r, lp body f s = some r ∧ Q r := by
    intro m
    induction m with
    | zero =>
      intro k s f hk hp hf
      have : k = n := by omega
      subst this
      obtain ⟨r, e, q⟩ := fin s hp
      exact ⟨r, lp_e (by omega) e, q⟩
    | succ m ih =>
      intro k s f hk hp hf
      rcases st k s (by omega) hp with ⟨s', e, p⟩ | ⟨r, e, q⟩
      · obtain ⟨r, e2, q⟩ := ih (k + 1) s' (f - 1) (by omega) p (by omega)
        exact ⟨r, (lp_s (by omega) e).trans e2, q⟩
      · exact ⟨r, lp_e (by omega) e, q⟩
  intro s f hp hf
  exact key n 0 s f (by omega) hp hf
theorem at0_lst {f : Nat → Int32} {n i : Nat} (h : i < n) : at0 (lst f n) i = f i := by
  unfold at0 lst
  rw [List.getD_eq_getElem?_getD, List.getElem?_map, List.getElem?_range h]; rfl
theorem lst_succ (f : Nat → Int32) (n : Nat) : lst f (n + 1) = lst f n ++ [f n] := by
  unfold lst; rw [List.range_succ, List.map_append]; rfl
def seg (L : List Int32) (a n : Nat) : List Int32 := lst (fun i => at0 L (a + i)) n
theorem seg_len (L : List Int32) (a n : Nat) : (seg L a n).length = n := lst_len _ _
theorem at0_get {L : List Int32} {i : Nat} (h : i < L.length) : at0 L i = L[i] := by
  unfold at0; rw [List.getD_eq_getElem?_getD, List.getElem?_eq_getElem h]; rfl
theorem lst_ext {l m : List Int32} (h : l.length = m.length) (e : ∀ i, i < l.length → at0 l i = at0 m i) : l = m := by
  refine List.ext_getElem h (fun i h1 h2 => ?_)
  rw [← at0_get h1, ← at0_get h2]; exact e i h1
theorem seg_take {L : List Int32} {n : Nat} (h : n ≤ L.length) : seg L 0 n = L.take n := by
  refine lst_ext (by rw [seg_len, List.length_take]; omega) (fun i hi => ?_)
  rw [seg_len] at hi
  unfold seg
  rw [at0_lst hi, Nat.zero_add, at0_get (by omega), at0_get (by rw [List.length_take]; omega), List.getElem_take]
theorem seg_drop {L : List Int32} {a n : Nat} (h : a + n = L.length) : seg L a n = L.drop a := by
  refine lst_ext (by rw [seg_len, List.length_drop]; omega) (fun i hi => ?_)
  rw [seg_len] at hi
  unfold seg
  rw [at0_lst hi, at0_get (by omega), at0_get (by rw [List.length_drop]; omega), List.getElem_drop]
theorem seg_all {L : List Int32} : seg L 0 L.length = L := by rw [seg_take (Nat.le_refl _), List.take_length]
abbrev SCd (b j : Nat) : Prop := b = 5 ∧ j = 6 ∨ b = 9
abbrev SRd (b j : Nat) : Prop := b = 67 ∧ (j = 20 ∨ j = 21) ∨ b = 82
theorem SCd_not (b j : Nat) (s : SCd b j) : notC b j := by
  rcases s with ⟨rfl, rfl⟩ | rfl
  · rfl
  · rfl
theorem SRd_not (b j : Nat) (s : SRd b j) : notR b j := by
  rcases s with ⟨rfl, rfl | rfl⟩ | rfl
  · rfl
  · rfl
  · rfl
theorem C_with {h : sm_H} {l : List Int32} (d : dC h l) (hl : l.length < 1000) (x : Int32) : ∃ h1, F_229 x h = some h1 ∧ dC h1 (l ++ [x]) ∧ agr SCd h h1 := by
  have e := d.1
  by_cases c : 10 ≤ l.length
  · refine ⟨sm_wI h 5 6 (I3 (l.length + 1)), ?_, ⟨?_, fun i h1 h2 => ?_⟩, agr_wI agr_rfl (by simp [SCd])⟩
    · simp (disch := omega) only [F_229_19, F_229_0, F_229, ↓reduceIte, if_true, if_false, ite_self, Option.bind_some, Option.map_some, wI_rd, wJ_rd, wI_2, wJ_1, wJ_22, I3_lit, I3_add, I3_mul, I3_lt, I3_le, I3_inj, I3_nn', I3_n1, I3_n2, m2m1, ldI_I, ldJ_I, ldZ_I, stI_I, stJ_I, true_or, or_true, false_or, or_false, true_and, and_true, false_and, and_false, not_true_eq_false, not_false_eq_true, reduceCtorEq, Nat.reduceEqDiff, Nat.lt_irrefl, Nat.not_lt_zero, Nat.le_refl, Nat.reduceLT, Nat.reduceLeDiff, eq_self, zbbI, bbI0, bbI1, decide_eq_false_iff_not, decide_eq_true_eq, Bool.not_eq_false, Bool.not_eq_true, Bool.not_true, Bool.not_false, cond_true, cond_false, e, c]
    · rw [List.length_append]; rfl
    · rw [at0_app1 (by omega)]; exact d.2 i (by omega) h2
  · refine ⟨sm_wI (sm_wI h 9 l.length x) 5 6 (I3 (l.length + 1)), ?_, ⟨?_, fun i h1 h2 => ?_⟩, agr_wI (agr_wI agr_rfl (by simp [SCd])) (by simp [SCd])⟩
    · simp (disch := omega) only [F_229_19, F_229_0, F_229, ↓reduceIte, if_true, if_false, ite_self, Option.bind_some, Option.map_some, wI_rd, wJ_rd, wI_2, wJ_1, wJ_22, I3_lit, I3_add, I3_mul, I3_lt, I3_le, I3_inj, I3_nn', I3_n1, I3_n2, m2m1, ldI_I, ldJ_I, ldZ_I, stI_I, stJ_I, true_or, or_true, false_or, or_false, true_and, and_true, false_and, and_false, not_true_eq_false, not_false_eq_true, reduceCtorEq, Nat.reduceEqDiff, Nat.lt_irrefl, Nat.not_lt_zero, Nat.le_refl, Nat.reduceLT, Nat.reduceLeDiff, eq_self, zbbI, bbI0, bbI1, decide_eq_false_iff_not, decide_eq_true_eq, Bool.not_eq_false, Bool.not_eq_true, Bool.not_true, Bool.not_false, cond_true, cond_false, e, c]
    · rw [List.length_append]; rfl
    · show (if i = l.length then x else h.1 9 i) = _
      rw [List.length_append] at h1
      simp only [List.length_cons, List.length_nil] at h1
      by_cases q : i = l.length
      · rw [if_pos q, at0_app2 (by omega), q, Nat.sub_self]; rfl
      · rw [if_neg q, at0_app1 (by omega)]; exact d.2 i (by omega) h2
theorem R_addNew {g : sm_H} {l : List Int32} (d : dR g l) (hl : l.length < 64) (x : Int32) : ∃ g1, F_309 x g = some g1 ∧ dR g1 (l ++ [x]) ∧ agr SRd g g1 ∧ g1.1 67 20 = g.1 67 20 := by
  have e := d.1
  refine ⟨sm_wI (sm_wI g 82 l.length x) 67 21 (I3 (l.length + 1)), ?_, ⟨?_, fun i h1 => ?_⟩, agr_wI (agr_wI agr_rfl (by simp [SRd])) (by simp [SRd]), rfl⟩
  · simp (disch := omega) only [F_309_0, F_309, ↓reduceIte, if_true, if_false, ite_self, Option.bind_some, Option.map_some, wI_rd, wJ_rd, wI_2, wJ_1, wJ_22, I3_lit, I3_add, I3_mul, I3_lt, I3_le, I3_inj, I3_nn', I3_n1, I3_n2, m2m1, ldI_I, ldJ_I, ldZ_I, stI_I, stJ_I, true_or, or_true, false_or, or_false, true_and, and_true, false_and, and_false, not_true_eq_false, not_false_eq_true, reduceCtorEq, Nat.reduceEqDiff, Nat.lt_irrefl, Nat.not_lt_zero, Nat.le_refl, Nat.reduceLT, Nat.reduceLeDiff, eq_self, zbbI, bbI0, bbI1, decide_eq_false_iff_not, decide_eq_true_eq, Bool.not_eq_false, Bool.not_eq_true, Bool.not_true, Bool.not_false, cond_true, cond_false, e]
  · rw [List.length_append]; rfl
  · show (if i = l.length then x else g.1 82 i) = _
    rw [List.length_append] at h1
    simp only [List.length_cons, List.length_nil] at h1
    by_cases q : i = l.length
    · rw [if_pos q, at0_app2 (by omega), q, Nat.sub_self]; rfl
    · rw [if_neg q, at0_app1 (by omega)]; exact d.2 i (by omega)
theorem C_begin (h : sm_H) : ∃ h1, F_228 h = some h1 ∧ dC h1 [] ∧ agr SCd h h1 := ⟨sm_wI h 5 6 0, rfl, ⟨rfl, fun i h1 => by cases h1⟩, agr_wI agr_rfl (by simp [SCd])⟩
theorem R_clear (g : sm_H) (x : Int32) : ∃ g1, F_308 x g = some g1 ∧ dR g1 [] ∧ agr SRd g g1 ∧ g1.1 67 20 = x := ⟨sm_wI (sm_wI g 67 20 x) 67 21 0, rfl, ⟨rfl, fun i h1 => by cases h1⟩, agr_wI (agr_wI agr_rfl (by simp [SRd])) (by simp [SRd]), rfl⟩
theorem C_withPlaces {h g : sm_H} (K : K1 h g) {l : List Int32} (d : dC h l) (hl : l.length ≤ 100) {t a b : Nat} (ht : t < nT g) (hb : b ≤ tM g t) (ha : a ≤ 1000) : ∃ h1, F_230 (I3 t) (I3 a) (I3 b) h = some h1 ∧ dC h1 (l ++ seg (pl g t) a (b - a)) ∧ agr SCd h h1 := by
  have wT := K.2.2.1
  have w300 : nT g ≤ 300 := wT.1.2
  have m10 : tM g t ≤ 10 := (wT.2.1 t ht).2.1.2
  by_cases ab : a ≤ b
  · have L := lp_ex (body := F_230_7B) (P := fun k s => s.1 = I3 t ∧ s.2.1 = I3 b ∧ s.2.2.1 = I3 (a + k) ∧ dC s.2.2.2 (l ++ seg (pl g t) a k) ∧ agr SCd h s.2.2.2) (Q := fun r => dC r (l ++ seg (pl g t) a (b - a)) ∧ agr SCd h r) (b - a) (fun k s hk p => ?_) (fun s p => ?_) (I3 t, I3 b, I3 a, h) 1000000 ⟨rfl, rfl, rfl, by rw [show seg (pl g t) a 0 = [] from rfl, List.append_nil]; exact d, agr_rfl⟩ (by omega)
    · obtain ⟨r, e, q⟩ := L
      refine ⟨r, ?_, q⟩
      show lp F_230_7B 1000000 (I3 t, I3 b, (if I3 a < 0 then 0 else I3 a), h) = _
      rw [if_neg (I3_nn (by omega))]; exact e
    · obtain ⟨s1, s2, s3, s4⟩ := s
      obtain ⟨p1, p2, p3, p4, p5⟩ := p
      have p1 : s1 = I3 t := p1
      have p2 : s2 = I3 b := p2
      have p3 : s3 = I3 (a + k) := p3
      subst p1 p2 p3
      have P := C_tplace (h := s4) wT (K1_h K (agr_mono SCd_not p5)).2.2.2.1 ht (k := a + k) (by omega)
      obtain ⟨h1, q1, q2, q3⟩ := C_with p4 (by rw [List.length_append, seg_len]; omega) (g.1 74 (10 * t + (a + k)))
      refine Or.inl ⟨(I3 t, I3 b, I3 (a + (k + 1)), h1), ?_, rfl, rfl, rfl, ?_, agr_trans p5 q3⟩
      · have q1' : F_229 (g.1 74 (10 * t + (a + k))) s4 = some h1 := q1
        simp (disch := omega) only [↓reduceIte, if_true, if_false, ite_self, Option.bind_some, Option.map_some, wI_rd, wJ_rd, wI_2, wJ_1, wJ_22, I3_lit, I3_add, I3_mul, I3_lt, I3_le, I3_inj, I3_nn', I3_n1, I3_n2, m2m1, ldI_I, ldJ_I, ldZ_I, stI_I, stJ_I, true_or, or_true, false_or, or_false, true_and, and_true, false_and, and_false, not_true_eq_false, not_false_eq_true, reduceCtorEq, Nat.reduceEqDiff, Nat.lt_irrefl, Nat.not_lt_zero, Nat.le_refl, Nat.reduceLT, Nat.reduceLeDiff, eq_self, zbbI, bbI0, bbI1, decide_eq_false_iff_not, decide_eq_true_eq, Bool.not_eq_false, Bool.not_eq_true, Bool.not_true, Bool.not_false, cond_true, cond_false, F_230_7B, show ¬ b ≤ a + k by omega, show ¬ 10 ≤ a + k by omega, P, q1', Nat.add_assoc]
      · have : seg (pl g t) a (k + 1) = seg (pl g t) a k ++ [g.1 74 (10 * t + (a + k))] := by
          unfold seg; rw [lst_succ]; rw [at0_lst (show a + k < tM g t by omega)]
        rw [this, ← List.append_assoc]; exact q2
    · obtain ⟨s1, s2, s3, s4⟩ := s
      obtain ⟨p1, p2, p3, p4, p5⟩ := p
      have p2 : s2 = I3 b := p2
      have p3 : s3 = I3 (a + (b - a)) := p3
      subst p2 p3
      refine ⟨s4, ?_, p4, p5⟩
      simp (disch := omega) only [↓reduceIte, if_true, if_false, ite_self, Option.bind_some, Option.map_some, wI_rd, wJ_rd, wI_2, wJ_1, wJ_22, I3_lit, I3_add, I3_mul, I3_lt, I3_le, I3_inj, I3_nn', I3_n1, I3_n2, m2m1, ldI_I, ldJ_I, ldZ_I, stI_I, stJ_I, true_or, or_true, false_or, or_false, true_and, and_true, false_and, and_false, not_true_eq_false, not_false_eq_true, reduceCtorEq, Nat.reduceEqDiff, Nat.lt_irrefl, Nat.not_lt_zero, Nat.le_refl, Nat.reduceLT, Nat.reduceLeDiff, eq_self, zbbI, bbI0, bbI1, decide_eq_false_iff_not, decide_eq_true_eq, Bool.not_eq_false, Bool.not_eq_true, Bool.not_true, Bool.not_false, cond_true, cond_false, F_230_7B, F_230_37, show b ≤ a + (b - a) by omega]
  · refine ⟨h, ?_, by rw [show b - a = 0 by omega, show seg (pl g t) a 0 = [] from rfl, List.append_nil]; exact d, agr_rfl⟩
    show lp F_230_7B 1000000 (I3 t, I3 b, (if I3 a < 0 then 0 else I3 a), h) = _
    rw [if_neg (I3_nn (by omega))]
    refine lp_e (by decide) ?_
    simp (disch := omega) only [↓reduceIte, if_true, if_false, ite_self, Option.bind_some, Option.map_some, wI_rd, wJ_rd, wI_2, wJ_1, wJ_22, I3_lit, I3_add, I3_mul, I3_lt, I3_le, I3_inj, I3_nn', I3_n1, I3_n2, m2m1, ldI_I, ldJ_I, ldZ_I, stI_I, stJ_I, true_or, or_true, false_or, or_false, true_and, and_true, false_and, and_false, not_true_eq_false, not_false_eq_true, reduceCtorEq, Nat.reduceEqDiff, Nat.lt_irrefl, Nat.not_lt_zero, Nat.le_refl, Nat.reduceLT, Nat.reduceLeDiff, eq_self, zbbI, bbI0, bbI1, decide_eq_false_iff_not, decide_eq_true_eq, Bool.not_eq_false, Bool.not_eq_true, Bool.not_true, Bool.not_false, cond_true, cond_false, F_230_7B, F_230_37, show b ≤ a by omega]
theorem R_place {g : sm_H} (wT : wfT g) (wH : wfH0 g) {x k : Nat} (hx : x < nH g) (hk : k < tM g (ty g x)) : F_306 (I3 x) (I3 k) g = some (g.1 74 (10 * ty g x + k), g) := by
  have w500 : nH g ≤ 500 := wH.1.2
  have w300 : nT g ≤ 300 := wT.1.2
  have e := (wH.2 x hx).2.1
  have lt := (wH.2 x hx).2.2.1
  have m10 : tM g (ty g x) ≤ 10 := (wT.2.1 _ lt).2.1.2
  simp (disch := omega) only [F_306_0, F_306, ↓reduceIte, if_true, if_false, ite_self, Option.bind_some, Option.map_some, wI_rd, wJ_rd, wI_2, wJ_1, wJ_22, I3_lit, I3_add, I3_mul, I3_lt, I3_le, I3_inj, I3_nn', I3_n1, I3_n2, m2m1, ldI_I, ldJ_I, ldZ_I, stI_I, stJ_I, true_or, or_true, false_or, or_false, true_and, and_true, false_and, and_false, not_true_eq_false, not_false_eq_true, reduceCtorEq, Nat.reduceEqDiff, Nat.lt_irrefl, Nat.not_lt_zero, Nat.le_refl, Nat.reduceLT, Nat.reduceLeDiff, eq_self, zbbI, bbI0, bbI1, decide_eq_false_iff_not, decide_eq_true_eq, Bool.not_eq_false, Bool.not_eq_true, Bool.not_true, Bool.not_false, cond_true, cond_false, e]
theorem R_many {g : sm_H} (wT : wfT g) (wH : wfH0 g) {x : Nat} (hx : x < nH g) : F_305 (I3 x) g = some (I3 (tM g (ty g x)), g) := by
  have w500 : nH g ≤ 500 := wH.1.2
  have w300 : nT g ≤ 300 := wT.1.2
  have e := (wH.2 x hx).2.1
  have lt := (wH.2 x hx).2.2.1
  have m : g.1 73 (ty g x) = I3 (tM g (ty g x)) := (wT.2.1 _ lt).2.1.1
  simp (disch := omega) only [F_305_0, F_305, ↓reduceIte, if_true, if_false, ite_self, Option.bind_some, Option.map_some, wI_rd, wJ_rd, wI_2, wJ_1, wJ_22, I3_lit, I3_add, I3_mul, I3_lt, I3_le, I3_inj, I3_nn', I3_n1, I3_n2, m2m1, ldI_I, ldJ_I, ldZ_I, stI_I, stJ_I, true_or, or_true, false_or, or_false, true_and, and_true, false_and, and_false, not_true_eq_false, not_false_eq_true, reduceCtorEq, Nat.reduceEqDiff, Nat.lt_irrefl, Nat.not_lt_zero, Nat.le_refl, Nat.reduceLT, Nat.reduceLeDiff, eq_self, zbbI, bbI0, bbI1, decide_eq_false_iff_not, decide_eq_true_eq, Bool.not_eq_false, Bool.not_eq_true, Bool.not_true, Bool.not_false, cond_true, cond_false, e, m]
theorem R_result {g : sm_H} (wT : wfT g) (wH : wfH0 g) {x : Nat} (hx : x < nH g) : F_307 (I3 x) g = some (hrs g x, g) := by
  have w500 : nH g ≤ 500 := wH.1.2
  have w300 : nT g ≤ 300 := wT.1.2
  have e := (wH.2 x hx).2.1
  have lt := (wH.2 x hx).2.2.1
  simp (disch := omega) only [F_307_0, F_307, ↓reduceIte, if_true, if_false, ite_self, Option.bind_some, Option.map_some, wI_rd, wJ_rd, wI_2, wJ_1, wJ_22, I3_lit, I3_add, I3_mul, I3_lt, I3_le, I3_inj, I3_nn', I3_n1, I3_n2, m2m1, ldI_I, ldJ_I, ldZ_I, stI_I, stJ_I, true_or, or_true, false_or, or_false, true_and, and_true, false_and, and_false, not_true_eq_false, not_false_eq_true, reduceCtorEq, Nat.reduceEqDiff, Nat.lt_irrefl, Nat.not_lt_zero, Nat.le_refl, Nat.reduceLT, Nat.reduceLeDiff, eq_self, zbbI, bbI0, bbI1, decide_eq_false_iff_not, decide_eq_true_eq, Bool.not_eq_false, Bool.not_eq_true, Bool.not_true, Bool.not_false, cond_true, cond_false, e]
theorem R_addPlaces {h g : sm_H} (K : K1 h g) {l : List Int32} (d : dR g l) {x a b : Nat} (hx : x < nH g) (hb : b ≤ tM g (ty g x)) (hl : l.length + (b - a) ≤ 64) (ab : a ≤ 1000) : ∃ g1, F_310 (I3 x) (I3 a) (I3 b) g = some g1 ∧ dR g1 (l ++ seg (hpl g x) a (b - a)) ∧ agr SRd g g1 ∧ g1.1 67 20 = g.1 67 20 := by
  have wT := K.2.2.1
  have wH := K.2.2.2.2.1
  have w500 : nH g ≤ 500 := wH.1.2
  have lt := (wH.2 x hx).2.2.1
  have m10 : tM g (ty g x) ≤ 10 := (wT.2.1 _ lt).2.1.2
  have L := lp_ex (body := F_310_3B) (P := fun k s => s.1 = I3 x ∧ s.2.1 = I3 b ∧ s.2.2.1 = I3 (a + k) ∧ dR s.2.2.2 (l ++ seg (hpl g x) a k) ∧ agr SRd g s.2.2.2 ∧ s.2.2.2.1 67 20 = g.1 67 20) (Q := fun r => dR r (l ++ seg (hpl g x) a (b - a)) ∧ agr SRd g r ∧ r.1 67 20 = g.1 67 20) (b - a) (fun k s hk p => ?_) (fun s p => ?_) (I3 x, I3 b, I3 a, g) 1000000 ⟨rfl, rfl, rfl, by rw [show seg (hpl g x) a 0 = [] from rfl, List.append_nil]; exact d, agr_rfl, rfl⟩ (by omega)
  · obtain ⟨r, e, q⟩ := L
    exact ⟨r, e, q⟩
  · obtain ⟨s1, s2, s3, s4⟩ := s
    obtain ⟨p1, p2, p3, p4, p5, p6⟩ := p
    have p1 : s1 = I3 x := p1
    have p2 : s2 = I3 b := p2
    have p3 : s3 = I3 (a + k) := p3
    subst p1 p2 p3
    have K' := K1_g K (agr_mono SRd_not p5)
    have e76 : s4.1 76 x = g.1 76 x := p5.1 76 x (by unfold SRd; omega)
    have et : ty s4 x = ty g x := by show tn _ = tn _; rw [e76]
    have eM : tM s4 (ty g x) = tM g (ty g x) := by show tn _ = tn _; rw [p5.1 73 _ (by unfold SRd; omega)]
    have eN : nH s4 = nH g := by show tn _ = tn _; rw [p5.1 67 18 (by unfold SRd; omega)]
    have P := R_place (g := s4) K'.2.2.1 K'.2.2.2.2.1 (x := x) (k := a + k) (by omega) (by rw [et, eM]; omega)
    rw [et, p5.1 74 _ (by unfold SRd; omega)] at P
    obtain ⟨h1, q1, q2, q3, q4⟩ := R_addNew p4 (by rw [List.length_append, seg_len]; omega) (g.1 74 (10 * ty g x + (a + k)))
    have q1' : F_309 (g.1 74 (10 * ty g x + (a + k))) s4 = some h1 := q1
    refine Or.inl ⟨(I3 x, I3 b, I3 (a + (k + 1)), h1), ?_, rfl, rfl, rfl, ?_, agr_trans p5 q3, q4.trans p6⟩
    · simp (disch := omega) only [↓reduceIte, if_true, if_false, ite_self, Option.bind_some, Option.map_some, wI_rd, wJ_rd, wI_2, wJ_1, wJ_22, I3_lit, I3_add, I3_mul, I3_lt, I3_le, I3_inj, I3_nn', I3_n1, I3_n2, m2m1, ldI_I, ldJ_I, ldZ_I, stI_I, stJ_I, true_or, or_true, false_or, or_false, true_and, and_true, false_and, and_false, not_true_eq_false, not_false_eq_true, reduceCtorEq, Nat.reduceEqDiff, Nat.lt_irrefl, Nat.not_lt_zero, Nat.le_refl, Nat.reduceLT, Nat.reduceLeDiff, eq_self, zbbI, bbI0, bbI1, decide_eq_false_iff_not, decide_eq_true_eq, Bool.not_eq_false, Bool.not_eq_true, Bool.not_true, Bool.not_false, cond_true, cond_false, F_310_3B, show ¬ b ≤ a + k by omega, P, q1', Nat.add_assoc]
    · have : seg (hpl g x) a (k + 1) = seg (hpl g x) a k ++ [g.1 74 (10 * ty g x + (a + k))] := by
        unfold seg; rw [lst_succ]; rw [at0_lst (show a + k < tM g (ty g x) by omega)]
      rw [this, ← List.append_assoc]; exact q2
  · obtain ⟨s1, s2, s3, s4⟩ := s
    obtain ⟨p1, p2, p3, p4, p5, p6⟩ := p
    have p2 : s2 = I3 b := p2
    have p3 : s3 = I3 (a + (b - a)) := p3
    subst p2 p3
    refine ⟨s4, ?_, p4, p5, p6⟩
    simp (disch := omega) only [↓reduceIte, if_true, if_false, ite_self, Option.bind_some, Option.map_some, wI_rd, wJ_rd, wI_2, wJ_1, wJ_22, I3_lit, I3_add, I3_mul, I3_lt, I3_le, I3_inj, I3_nn', I3_n1, I3_n2, m2m1, ldI_I, ldJ_I, ldZ_I, stI_I, stJ_I, true_or, or_true, false_or, or_false, true_and, and_true, false_and, and_false, not_true_eq_false, not_false_eq_true, reduceCtorEq, Nat.reduceEqDiff, Nat.lt_irrefl, Nat.not_lt_zero, Nat.le_refl, Nat.reduceLT, Nat.reduceLeDiff, eq_self, zbbI, bbI0, bbI1, decide_eq_false_iff_not, decide_eq_true_eq, Bool.not_eq_false, Bool.not_eq_true, Bool.not_true, Bool.not_false, cond_true, cond_false, F_310_3B, show b ≤ a + (b - a) by omega]
theorem R_addType {h g : sm_H} (K : K1 h g) {l : List Int32} (d : dR g l) {t : Nat} (ht : t < nT g) (hl : l.length + tM g t ≤ 64) : ∃ g1, F_311 (I3 t) g = some g1 ∧ dR g1 (l ++ pl g t) ∧ agr SRd g g1 ∧ g1.1 67 20 = g.1 67 20 := by
  have wT := K.2.2.1
  have w300 : nT g ≤ 300 := wT.1.2
  have m10 : tM g t ≤ 10 := (wT.2.1 _ ht).2.1.2
  have m : g.1 73 t = I3 (tM g t) := (wT.2.1 _ ht).2.1.1
  have L := lp_ex (body := F_311_2B) (P := fun k s => s.1 = I3 t ∧ s.2.1 = I3 k ∧ dR s.2.2 (l ++ seg (pl g t) 0 k) ∧ agr SRd g s.2.2 ∧ s.2.2.1 67 20 = g.1 67 20) (Q := fun r => dR r (l ++ pl g t) ∧ agr SRd g r ∧ r.1 67 20 = g.1 67 20) (tM g t) (fun k s hk p => ?_) (fun s p => ?_) (I3 t, I3 0, g) 1000000 ⟨rfl, rfl, by rw [show seg (pl g t) 0 0 = [] from rfl, List.append_nil]; exact d, agr_rfl, rfl⟩ (by omega)
  · obtain ⟨r, e, q⟩ := L
    exact ⟨r, e, q⟩
  · obtain ⟨s1, s2, s4⟩ := s
    obtain ⟨p1, p2, p4, p5, p6⟩ := p
    have p1 : s1 = I3 t := p1
    have p2 : s2 = I3 k := p2
    subst p1 p2
    have e73 : s4.1 73 t = I3 (tM g t) := (p5.1 73 t (by unfold SRd; omega)).trans m
    have e74 : s4.1 74 (10 * t + k) = g.1 74 (10 * t + k) := p5.1 74 _ (by unfold SRd; omega)
    obtain ⟨h1, q1, q2, q3, q4⟩ := R_addNew p4 (by rw [List.length_append, seg_len]; omega) (g.1 74 (10 * t + k))
    have q1' : F_309 (g.1 74 (10 * t + k)) s4 = some h1 := q1
    refine Or.inl ⟨(I3 t, I3 (k + 1), h1), ?_, rfl, rfl, ?_, agr_trans p5 q3, q4.trans p6⟩
    · simp (disch := omega) only [↓reduceIte, if_true, if_false, ite_self, Option.bind_some, Option.map_some, wI_rd, wJ_rd, wI_2, wJ_1, wJ_22, I3_lit, I3_add, I3_mul, I3_lt, I3_le, I3_inj, I3_nn', I3_n1, I3_n2, m2m1, ldI_I, ldJ_I, ldZ_I, stI_I, stJ_I, true_or, or_true, false_or, or_false, true_and, and_true, false_and, and_false, not_true_eq_false, not_false_eq_true, reduceCtorEq, Nat.reduceEqDiff, Nat.lt_irrefl, Nat.not_lt_zero, Nat.le_refl, Nat.reduceLT, Nat.reduceLeDiff, eq_self, zbbI, bbI0, bbI1, decide_eq_false_iff_not, decide_eq_true_eq, Bool.not_eq_false, Bool.not_eq_true, Bool.not_true, Bool.not_false, cond_true, cond_false, F_311_2B, e73, show ¬ tM g t ≤ k by omega, e74, q1']
    · have : seg (pl g t) 0 (k + 1) = seg (pl g t) 0 k ++ [g.1 74 (10 * t + k)] := by
        unfold seg; rw [lst_succ]; rw [at0_lst (show 0 + k < tM g t by omega), Nat.zero_add]
      rw [this, ← List.append_assoc]; exact q2
  · obtain ⟨s1, s2, s4⟩ := s
    obtain ⟨p1, p2, p4, p5, p6⟩ := p
    have p1 : s1 = I3 t := p1
    have p2 : s2 = I3 (tM g t) := p2
    subst p1 p2
    have e73 : s4.1 73 t = I3 (tM g t) := (p5.1 73 t (by unfold SRd; omega)).trans m
    refine ⟨s4, ?_, ?_, p5, p6⟩
    · simp (disch := omega) only [↓reduceIte, if_true, if_false, ite_self, Option.bind_some, Option.map_some, wI_rd, wJ_rd, wI_2, wJ_1, wJ_22, I3_lit, I3_add, I3_mul, I3_lt, I3_le, I3_inj, I3_nn', I3_n1, I3_n2, m2m1, ldI_I, ldJ_I, ldZ_I, stI_I, stJ_I, true_or, or_true, false_or, or_false, true_and, and_true, false_and, and_false, not_true_eq_false, not_false_eq_true, reduceCtorEq, Nat.reduceEqDiff, Nat.lt_irrefl, Nat.not_lt_zero, Nat.le_refl, Nat.reduceLT, Nat.reduceLeDiff, eq_self, zbbI, bbI0, bbI1, decide_eq_false_iff_not, decide_eq_true_eq, Bool.not_eq_false, Bool.not_eq_true, Bool.not_true, Bool.not_false, cond_true, cond_false, F_311_2B, e73]
    · have : seg (pl g t) 0 (tM g t) = pl g t := by
        have := seg_all (L := pl g t); rw [lst_len] at this; exact this
      rw [this] at p4; exact p4
theorem lp_n {σ ρ : Type} {body : σ → Option (σ ⊕ ρ)} {n : Nat} {s : σ} (e : body s = none) : lp body (n + 1) s = none := by
  show (match body s with | none => none | some (.inl s') => lp body n s' | some (.inr r) => some r) = none
  rw [e]
abbrev isRw (o p : Nat) : Prop := (∀ h, sm_is G0 h o 5 = true) ∧ (∀ h, sm_rr G0 h o 0 = some p) ∧ (p < 1000000) ∧ (∀ h, sm_is G0 h p 100 = true) ∧ (∀ h, sm_ln G0 h p = 20)
theorem isRw.i {o p : Nat} (F_ : isRw o p) : ∀ h, sm_is G0 h o 5 = true := F_.1
theorem isRw.r {o p : Nat} (F_ : isRw o p) : ∀ h, sm_rr G0 h o 0 = some p := F_.2.1
theorem isRw.l {o p : Nat} (F_ : isRw o p) : p < 1000000 := F_.2.2.1
theorem isRw.a {o p : Nat} (F_ : isRw o p) : ∀ h, sm_is G0 h p 100 = true := F_.2.2.2.1
theorem isRw.n {o p : Nat} (F_ : isRw o p) : ∀ h, sm_ln G0 h p = 20 := F_.2.2.2.2
theorem rw64 : isRw 64 65 := ⟨fun _ => rfl, fun _ => rfl, by decide, fun _ => rfl, fun _ => rfl⟩
theorem rw35 : isRw 35 36 := ⟨fun _ => rfl, fun _ => rfl, by decide, fun _ => rfl, fun _ => rfl⟩
theorem rw47 : isRw 47 48 := ⟨fun _ => rfl, fun _ => rfl, by decide, fun _ => rfl, fun _ => rfl⟩
theorem rw56 : isRw 56 57 := ⟨fun _ => rfl, fun _ => rfl, by decide, fun _ => rfl, fun _ => rfl⟩
def hasL (h : sm_H) (o p : Nat) (ps : List Int32) : Prop := h.1 o 1 = I3 ps.length ∧ ps.length ≤ 20 ∧ ∀ k, k < ps.length → h.1 p k = at0 ps k
theorem C_rsize {h : sm_H} {o p : Nat} (w : isRw o p) {ps : List Int32} (e : hasL h o p ps) : F_136 o h = some (I3 ps.length, h) := by
  show F_136_0 o h = _
  unfold F_136_0
  rw [if_pos (w.i h), e.1]
theorem C_rat {h : sm_H} {o p : Nat} (w : isRw o p) {ps : List Int32} (e : hasL h o p ps) {k : Nat} (hk : k < ps.length) : F_137 o (I3 k) h = some (at0 ps k, h) := by
  have l20 := e.2.1
  show F_137_0 o (I3 k) h = _
  unfold F_137_0
  rw [if_neg (I3_nn (by omega)), if_pos (w.i h), e.1, if_neg (by rw [I3_le (by omega) (by omega)]; omega), if_pos (w.i h), w.r h]
  simp only [Option.bind_some]
  rw [ldD_ar w.l (w.a h) (by rw [w.n h]; omega) (by rw [w.n h]; decide)]
  simp only [Option.bind_some]
  rw [e.2.2 k hk]; rfl
theorem C_rat_o {h : sm_H} {o p : Nat} (w : isRw o p) {ps : List Int32} (e : hasL h o p ps) {x : Int32} (hx : inR x ps.length = false) : F_137 o x h = some (-1, h) := by
  have l20 := e.2.1
  show F_137_0 o x h = _
  unfold F_137_0
  rcases I3_cases x with ⟨k, hk, rfl⟩ | hn
  · rw [inR_I hk] at hx
    have := of_decide_eq_false hx
    rw [if_neg (I3_nn hk), if_pos (w.i h), e.1, if_pos (by rw [I3_le (by omega) (by omega)]; omega)]; rfl
  · rw [if_pos hn]; rfl
def kV (g : sm_H) (x : Int32) : Bool := inR x (20 + nC g) && decide (x ≠ 0)
theorem kV_iff {g : sm_H} (wK : wfK g) {x : Int32} : kV g x = true ↔ ∃ q, x = I3 q ∧ 0 < q ∧ q < 20 + nC g := by
  have h12 := wK.2.1
  unfold kV
  simp only [Bool.and_eq_true, decide_eq_true_eq]
  constructor
  · rintro ⟨a, b⟩
    obtain ⟨q, z1, z2⟩ := inR_x (by omega) a
    refine ⟨q, z2, ?_, z1⟩
    rcases Nat.eq_zero_or_pos q with z | z
    · exact absurd (by rw [z2, z]; rfl) b
    · exact z
  · rintro ⟨q, rfl, z1, z2⟩
    refine ⟨by rw [inR_I (by omega)]; simp [z2], fun z => ?_⟩
    have := (I3_inj (a := q) (b := 0) (by omega) (by decide)).mp z
    omega
theorem C_hasV {h g : sm_H} (wK : wfK g) (cK : cK h g) (x : Int32) : F_54 x h = some (b2 (kV g x), h) := by
  have C := C_has wK cK x
  show F_54_0 x h = _
  unfold F_54_0 F_54_16 F_54_17 kV
  rw [C]
  simp only [Option.bind_some]
  cases inR x (20 + nC g) with
  | false => rfl
  | true =>
    rw [if_neg (show ¬ b2 true = 0 by decide)]
    by_cases c : x = 0
    · rw [if_pos c, c]; rfl
    · rw [if_neg c, decide_eq_true c]; rfl
theorem cR_L {h g : sm_H} (c : cR h g) : hasL h 64 65 (lst (g.1 68) (tn (g.1 67 1))) := by
  obtain ⟨r1, ⟨r2, r3⟩, r4⟩ := c
  refine ⟨by rw [lst_len, r1]; exact r2, by rw [lst_len]; exact r3, fun k hk => ?_⟩
  rw [lst_len] at hk
  rw [at0_lst hk]; exact r4 k (by omega)
theorem hasL_agr {S : Nat → Nat → Prop} {h h1 : sm_H} {o p : Nat} {ps : List Int32} (e : hasL h o p ps) (a : agr S h h1) (d : ∀ j, ¬ S o j ∧ ¬ S p j) : hasL h1 o p ps := by
  refine ⟨by rw [a.1 o 1 (d 1).1]; exact e.1, e.2.1, fun k hk => by rw [a.1 p k (d k).2]; exact e.2.2 k hk⟩
theorem C_draftsRow {h g : sm_H} (K : K1 h g) {ps : List Int32} (R : hasL h 64 65 ps) : ∃ h1, F_261 h = some (b2 (all1 (fun k => kV g (at0 ps k)) ps.length), h1) ∧ agr SCd h h1 ∧ (all1 (fun k => kV g (at0 ps k)) ps.length = true → dC h1 ps) := by
  have l20 := R.2.1
  obtain ⟨h0, b1, b2', b3⟩ := C_begin h
  have L := lp_ex (body := F_261_9B) (P := fun k s => s.1 = I3 k ∧ dC s.2 (seg ps 0 k) ∧ agr SCd h s.2 ∧ ∀ j, j < k → kV g (at0 ps j) = true) (Q := fun r => r.1 = b2 (all1 (fun k => kV g (at0 ps k)) ps.length) ∧ agr SCd h r.2 ∧ (all1 (fun k => kV g (at0 ps k)) ps.length = true → dC r.2 ps)) ps.length (fun k s hk p => ?_) (fun s p => ?_) (I3 0, h0) 1000000 ⟨rfl, b2', b3, fun j hj => by omega⟩ (by omega)
  · obtain ⟨⟨r1, r2⟩, e, q1, q2, q3⟩ := L
    refine ⟨r2, ?_, q2, q3⟩
    show F_261_0 h = _
    unfold F_261_0
    rw [b1]
    simp only [Option.bind_some]
    refine Eq.trans e ?_
    rw [← q1]
  · obtain ⟨s1, s2⟩ := s
    obtain ⟨p1, p2, p3, p4⟩ := p
    have p1 : s1 = I3 k := p1
    subst p1
    have K' := K1_h K (agr_mono SCd_not p3)
    have R' : hasL s2 64 65 ps := hasL_agr R p3 (fun j => by unfold SCd; omega)
    have e1 := C_rsize rw64 R'
    have e2 := C_rat rw64 R' hk
    have e3 := C_hasV K'.1 K'.2.1 (at0 ps k)
    cases q : kV g (at0 ps k) with
    | false =>
      rw [q] at e3
      refine Or.inr ⟨(0, s2), ?_, ?_, p3, fun z => ?_⟩
      · simp (disch := omega) only [↓reduceIte, if_true, if_false, ite_self, Option.bind_some, Option.map_some, wI_rd, wJ_rd, wI_2, wJ_1, wJ_22, I3_lit, I3_add, I3_mul, I3_lt, I3_le, I3_inj, I3_nn', I3_n1, I3_n2, m2m1, ldI_I, ldJ_I, ldZ_I, stI_I, stJ_I, true_or, or_true, false_or, or_false, true_and, and_true, false_and, and_false, not_true_eq_false, not_false_eq_true, reduceCtorEq, Nat.reduceEqDiff, Nat.lt_irrefl, Nat.not_lt_zero, Nat.le_refl, Nat.reduceLT, Nat.reduceLeDiff, eq_self, zbbI, bbI0, bbI1, decide_eq_false_iff_not, decide_eq_true_eq, Bool.not_eq_false, Bool.not_eq_true, Bool.not_true, Bool.not_false, cond_true, cond_false, F_261_9B, e1, e2, e3, show ¬ ps.length ≤ k by omega]
      · have : all1 (fun k => kV g (at0 ps k)) ps.length = false := by
          cases w : all1 (fun k => kV g (at0 ps k)) ps.length with
          | false => rfl
          | true => have := all1_iff.mp w k hk; rw [q] at this; cases this
        rw [this]; rfl
      · have := all1_iff.mp z k hk; rw [q] at this; cases this
    | true =>
      rw [q] at e3
      obtain ⟨h1, q1, q2, q3⟩ := C_with p2 (by rw [seg_len]; omega) (at0 ps k)
      refine Or.inl ⟨(I3 (k + 1), h1), ?_, rfl, ?_, agr_trans p3 q3, fun j hj => ?_⟩
      · have q1' : F_229 (at0 ps k) s2 = some h1 := q1
        simp (disch := omega) only [↓reduceIte, if_true, if_false, ite_self, Option.bind_some, Option.map_some, wI_rd, wJ_rd, wI_2, wJ_1, wJ_22, I3_lit, I3_add, I3_mul, I3_lt, I3_le, I3_inj, I3_nn', I3_n1, I3_n2, m2m1, ldI_I, ldJ_I, ldZ_I, stI_I, stJ_I, true_or, or_true, false_or, or_false, true_and, and_true, false_and, and_false, not_true_eq_false, not_false_eq_true, reduceCtorEq, Nat.reduceEqDiff, Nat.lt_irrefl, Nat.not_lt_zero, Nat.le_refl, Nat.reduceLT, Nat.reduceLeDiff, eq_self, zbbI, bbI0, bbI1, decide_eq_false_iff_not, decide_eq_true_eq, Bool.not_eq_false, Bool.not_eq_true, Bool.not_true, Bool.not_false, cond_true, cond_false, F_261_9B, e1, e2, e3, show ¬ ps.length ≤ k by omega, q1']
      · have : seg ps 0 (k + 1) = seg ps 0 k ++ [at0 ps k] := by unfold seg; rw [lst_succ, Nat.zero_add]
        rw [this]; exact q2
      · rcases Nat.lt_or_ge j k with z | z
        · exact p4 j z
        · have : j = k := by omega
          rw [this]; exact q
  · obtain ⟨s1, s2⟩ := s
    obtain ⟨p1, p2, p3, p4⟩ := p
    have p1 : s1 = I3 ps.length := p1
    subst p1
    have R' : hasL s2 64 65 ps := hasL_agr R p3 (fun j => by unfold SCd; omega)
    have e1 := C_rsize rw64 R'
    have al : all1 (fun k => kV g (at0 ps k)) ps.length = true := all1_iff.mpr p4
    refine ⟨(1, s2), ?_, by rw [al]; rfl, p3, fun _ => by rw [seg_all] at p2; exact p2⟩
    simp (disch := omega) only [↓reduceIte, if_true, if_false, ite_self, Option.bind_some, Option.map_some, wI_rd, wJ_rd, wI_2, wJ_1, wJ_22, I3_lit, I3_add, I3_mul, I3_lt, I3_le, I3_inj, I3_nn', I3_n1, I3_n2, m2m1, ldI_I, ldJ_I, ldZ_I, stI_I, stJ_I, true_or, or_true, false_or, or_false, true_and, and_true, false_and, and_false, not_true_eq_false, not_false_eq_true, reduceCtorEq, Nat.reduceEqDiff, Nat.lt_irrefl, Nat.not_lt_zero, Nat.le_refl, Nat.reduceLT, Nat.reduceLeDiff, eq_self, zbbI, bbI0, bbI1, decide_eq_false_iff_not, decide_eq_true_eq, Bool.not_eq_false, Bool.not_eq_true, Bool.not_true, Bool.not_false, cond_true, cond_false, F_261_9B, e1]
def rowR (g : sm_H) (ps : List Int32) : Prop := ps.length ≤ 20 ∧ ∀ k, k < ps.length → g.1 68 k = at0 ps k
theorem R_typeRow {h g : sm_H} (K : K1 h g) {ps : List Int32} (R : rowR g ps) (hl : ps.length ≤ 10) (d : dR g []) : ∃ g1, (lp F_382_93B 1000000 (I3 ps.length, I3 0, g) = (F_302 g1).bind fun q1 => some (q1.1, q1.2)) ∧ dR g1 ps ∧ agr SRd g g1 ∧ g1.1 67 20 = g.1 67 20 := by
  have key : ∀ (m k : Nat) (s : sm_H) (f : Nat), m + k = ps.length → m < f → dR s (seg ps 0 k) → agr SRd g s → s.1 67 20 = g.1 67 20 → (∀ x, F_302 x ≠ none ∨ True) → ∃ g1, (lp F_382_93B f (I3 ps.length, I3 k, s) = (F_302 g1).bind fun q1 => some (q1.1, q1.2)) ∧ dR g1 ps ∧ agr SRd g g1 ∧ g1.1 67 20 = g.1 67 20 := by
    intro m
    induction m with
    | zero =>
      intro k s f hk hf d a e _
      have : k = ps.length := by omega
      subst this
      rw [seg_all] at d
      refine ⟨s, ?_, d, a, e⟩
      obtain ⟨f, rfl⟩ : ∃ q, f = q + 1 := ⟨f - 1, by omega⟩
      have b : F_382_93B (I3 ps.length, I3 ps.length, s) = (F_302 s).bind fun q1 => some (.inr (q1.1, q1.2)) := by
        simp (disch := omega) only [↓reduceIte, if_true, if_false, ite_self, Option.bind_some, Option.map_some, wI_rd, wJ_rd, wI_2, wJ_1, wJ_22, I3_lit, I3_add, I3_mul, I3_lt, I3_le, I3_inj, I3_nn', I3_n1, I3_n2, m2m1, ldI_I, ldJ_I, ldZ_I, stI_I, stJ_I, true_or, or_true, false_or, or_false, true_and, and_true, false_and, and_false, not_true_eq_false, not_false_eq_true, reduceCtorEq, Nat.reduceEqDiff, Nat.lt_irrefl, Nat.not_lt_zero, Nat.le_refl, Nat.reduceLT, Nat.reduceLeDiff, eq_self, zbbI, bbI0, bbI1, decide_eq_false_iff_not, decide_eq_true_eq, Bool.not_eq_false, Bool.not_eq_true, Bool.not_true, Bool.not_false, cond_true, cond_false, F_382_93B]
      cases w : F_302 s with
      | none =>
        rw [w] at b
        exact lp_n b
      | some q =>
        rw [w] at b
        exact lp_0 b
    | succ m ih =>
      intro k s f hk hf d a e _
      obtain ⟨f, rfl⟩ : ∃ q, f = q + 1 := ⟨f - 1, by omega⟩
      have e68 : s.1 68 k = at0 ps k := (a.1 68 k (by unfold SRd; omega)).trans (R.2 k (by omega))
      obtain ⟨h1, q1, q2, q3, q4⟩ := R_addNew d (by rw [seg_len]; omega) (at0 ps k)
      have b : F_382_93B (I3 ps.length, I3 k, s) = some (.inl (I3 ps.length, I3 (k + 1), h1)) := by
        have q1' : F_309 (at0 ps k) s = some h1 := q1
        simp (disch := omega) only [↓reduceIte, if_true, if_false, ite_self, Option.bind_some, Option.map_some, wI_rd, wJ_rd, wI_2, wJ_1, wJ_22, I3_lit, I3_add, I3_mul, I3_lt, I3_le, I3_inj, I3_nn', I3_n1, I3_n2, m2m1, ldI_I, ldJ_I, ldZ_I, stI_I, stJ_I, true_or, or_true, false_or, or_false, true_and, and_true, false_and, and_false, not_true_eq_false, not_false_eq_true, reduceCtorEq, Nat.reduceEqDiff, Nat.lt_irrefl, Nat.not_lt_zero, Nat.le_refl, Nat.reduceLT, Nat.reduceLeDiff, eq_self, zbbI, bbI0, bbI1, decide_eq_false_iff_not, decide_eq_true_eq, Bool.not_eq_false, Bool.not_eq_true, Bool.not_true, Bool.not_false, cond_true, cond_false, F_382_93B, show ¬ ps.length ≤ k by omega, e68, q1']
      rw [lp_1 b]
      have : seg ps 0 (k + 1) = seg ps 0 k ++ [at0 ps k] := by unfold seg; rw [lst_succ, Nat.zero_add]
      exact ih (k + 1) h1 f (by omega) (by omega) (by rw [this]; exact q2) (agr_trans a q3) (q4.trans e) (fun _ => Or.inr trivial)
  exact key ps.length 0 g 1000000 (by omega) (by omega) d agr_rfl rfl (fun _ => Or.inr trivial)
theorem R_typeGood {h g : sm_H} (K : K1 h g) {ps : List Int32} (R : rowR g ps) (x : Int32) (b : Bool) : F_382_33 x (I3 ps.length) (b2 b) 0 g = F_382_79 x (I3 ps.length) (b2 (b && all1 (fun k => kV g (at0 ps k)) ps.length)) g := by
  have l20 := R.1
  have wK := K.1
  have tot : ∀ b, ∃ q, F_382_79 x (I3 ps.length) (b2 b) g = q := fun b => ⟨_, rfl⟩
  have fin : ∀ (f k : Nat) (b : Bool), (ps.length ≤ k ∨ b = false) → k ≤ 20 → lp F_382_33B (f + 1) (x, I3 ps.length, b2 b, I3 k, g) = F_382_79 x (I3 ps.length) (b2 b) g := by
    intro f k b hk h20
    have e : F_382_33B (x, I3 ps.length, b2 b, I3 k, g) = (F_382_79 x (I3 ps.length) (b2 b) g).map Sum.inr := by
      by_cases c : ps.length ≤ k
      · simp (disch := omega) only [↓reduceIte, if_true, if_false, ite_self, Option.bind_some, Option.map_some, wI_rd, wJ_rd, wI_2, wJ_1, wJ_22, I3_lit, I3_add, I3_mul, I3_lt, I3_le, I3_inj, I3_nn', I3_n1, I3_n2, m2m1, ldI_I, ldJ_I, ldZ_I, stI_I, stJ_I, true_or, or_true, false_or, or_false, true_and, and_true, false_and, and_false, not_true_eq_false, not_false_eq_true, reduceCtorEq, Nat.reduceEqDiff, Nat.lt_irrefl, Nat.not_lt_zero, Nat.le_refl, Nat.reduceLT, Nat.reduceLeDiff, eq_self, zbbI, bbI0, bbI1, decide_eq_false_iff_not, decide_eq_true_eq, Bool.not_eq_false, Bool.not_eq_true, Bool.not_true, Bool.not_false, cond_true, cond_false, F_382_33B, c]
      · have : b = false := hk.resolve_left c
        subst this
        simp (disch := omega) only [↓reduceIte, if_true, if_false, ite_self, Option.bind_some, Option.map_some, wI_rd, wJ_rd, wI_2, wJ_1, wJ_22, I3_lit, I3_add, I3_mul, I3_lt, I3_le, I3_inj, I3_nn', I3_n1, I3_n2, m2m1, ldI_I, ldJ_I, ldZ_I, stI_I, stJ_I, true_or, or_true, false_or, or_false, true_and, and_true, false_and, and_false, not_true_eq_false, not_false_eq_true, reduceCtorEq, Nat.reduceEqDiff, Nat.lt_irrefl, Nat.not_lt_zero, Nat.le_refl, Nat.reduceLT, Nat.reduceLeDiff, eq_self, zbbI, bbI0, bbI1, decide_eq_false_iff_not, decide_eq_true_eq, Bool.not_eq_false, Bool.not_eq_true, Bool.not_true, Bool.not_false, cond_true, cond_false, F_382_33B, c]
    cases w : F_382_79 x (I3 ps.length) (b2 b) g with
    | none => rw [w] at e; exact lp_n e
    | some q => rw [w] at e; exact lp_0 e
  have key : ∀ (m k : Nat) (b : Bool) (f : Nat), m + k = ps.length → m < f → lp F_382_33B f (x, I3 ps.length, b2 b, I3 k, g) = F_382_79 x (I3 ps.length) (b2 (b && all1 (fun j => kV g (at0 ps (k + j))) m)) g := by
    intro m
    induction m with
    | zero =>
      intro k b f hk hf
      obtain ⟨f, rfl⟩ : ∃ q, f = q + 1 := ⟨f - 1, by omega⟩
      rw [fin f k b (Or.inl (by omega)) (by omega), show all1 (fun j => kV g (at0 ps (k + j))) 0 = true from rfl, Bool.and_true]
    | succ m ih =>
      intro k b f hk hf
      obtain ⟨f, rfl⟩ : ∃ q, f = q + 1 := ⟨f - 1, by omega⟩
      cases b with
      | false => rw [fin f k false (Or.inr rfl) (by omega), Bool.false_and]
      | true =>
        have e68 : g.1 68 k = at0 ps k := R.2 k (by omega)
        have kd := R_kind wK (at0 ps k)
        have : F_382_33B (x, I3 ps.length, b2 true, I3 k, g) = some (.inl (x, I3 ps.length, b2 (kV g (at0 ps k)), I3 (k + 1), g)) := by
          unfold kV
          cases q : inR (at0 ps k) (20 + nC g) with
          | false =>
            rw [q] at kd
            simp (disch := omega) only [↓reduceIte, if_true, if_false, ite_self, Option.bind_some, Option.map_some, wI_rd, wJ_rd, wI_2, wJ_1, wJ_22, I3_lit, I3_add, I3_mul, I3_lt, I3_le, I3_inj, I3_nn', I3_n1, I3_n2, m2m1, ldI_I, ldJ_I, ldZ_I, stI_I, stJ_I, true_or, or_true, false_or, or_false, true_and, and_true, false_and, and_false, not_true_eq_false, not_false_eq_true, reduceCtorEq, Nat.reduceEqDiff, Nat.lt_irrefl, Nat.not_lt_zero, Nat.le_refl, Nat.reduceLT, Nat.reduceLeDiff, eq_self, zbbI, bbI0, bbI1, decide_eq_false_iff_not, decide_eq_true_eq, Bool.not_eq_false, Bool.not_eq_true, Bool.not_true, Bool.not_false, cond_true, cond_false, F_382_33B, F_382_71, F_382_72, show ¬ ps.length ≤ k by omega, e68, kd]; rfl
          | true =>
            rw [q] at kd
            by_cases c : at0 ps k = 0
            · have hb : (true && decide (at0 ps k ≠ 0)) = false := by rw [decide_eq_false (not_not_intro c)]; rfl
              rw [hb]
              rw [c] at kd e68
              have kd' : F_289 (I3 0) g = some (b2 true, g) := kd
              have e' : g.1 68 k = I3 0 := e68
              simp (disch := omega) only [↓reduceIte, if_true, if_false, ite_self, Option.bind_some, Option.map_some, wI_rd, wJ_rd, wI_2, wJ_1, wJ_22, I3_lit, I3_add, I3_mul, I3_lt, I3_le, I3_inj, I3_nn', I3_n1, I3_n2, m2m1, ldI_I, ldJ_I, ldZ_I, stI_I, stJ_I, true_or, or_true, false_or, or_false, true_and, and_true, false_and, and_false, not_true_eq_false, not_false_eq_true, reduceCtorEq, Nat.reduceEqDiff, Nat.lt_irrefl, Nat.not_lt_zero, Nat.le_refl, Nat.reduceLT, Nat.reduceLeDiff, eq_self, zbbI, bbI0, bbI1, decide_eq_false_iff_not, decide_eq_true_eq, Bool.not_eq_false, Bool.not_eq_true, Bool.not_true, Bool.not_false, cond_true, cond_false, F_382_33B, F_382_71, F_382_72, show ¬ ps.length ≤ k by omega, e', kd']; rfl
            · have hb : (true && decide (at0 ps k ≠ 0)) = true := by rw [decide_eq_true c]; rfl
              rw [hb]
              have c' : (at0 ps k = I3 0) = False := eq_false c
              simp (disch := omega) only [↓reduceIte, if_true, if_false, ite_self, Option.bind_some, Option.map_some, wI_rd, wJ_rd, wI_2, wJ_1, wJ_22, I3_lit, I3_add, I3_mul, I3_lt, I3_le, I3_inj, I3_nn', I3_n1, I3_n2, m2m1, ldI_I, ldJ_I, ldZ_I, stI_I, stJ_I, true_or, or_true, false_or, or_false, true_and, and_true, false_and, and_false, not_true_eq_false, not_false_eq_true, reduceCtorEq, Nat.reduceEqDiff, Nat.lt_irrefl, Nat.not_lt_zero, Nat.le_refl, Nat.reduceLT, Nat.reduceLeDiff, eq_self, zbbI, bbI0, bbI1, decide_eq_false_iff_not, decide_eq_true_eq, Bool.not_eq_false, Bool.not_eq_true, Bool.not_true, Bool.not_false, cond_true, cond_false, F_382_33B, F_382_71, F_382_72, show ¬ ps.length ≤ k by omega, e68, kd, c']; rfl
        rw [lp_1 this, ih (k + 1) _ f (by omega) (by omega), Bool.true_and]
        congr 2
        rw [Bool.eq_iff_iff]
        simp only [Bool.and_eq_true, all1_iff]
        constructor
        · rintro ⟨y1, y2⟩ j hj
          cases j with
          | zero => exact y1
          | succ j => have := y2 j (by omega); rw [show k + 1 + j = k + (j + 1) by omega] at this; exact this
        · intro y
          refine ⟨y 0 (by omega), fun j hj => ?_⟩
          have := y (j + 1) (by omega)
          rw [show k + 1 + j = k + (j + 1) by omega]; exact this
  have := key ps.length 0 b 1000000 (by omega) (by omega)
  simp only [Nat.zero_add] at this
  exact this
theorem kL_of {g : sm_H} (wK : wfK g) {ps : List Int32} (a : all1 (fun k => kV g (at0 ps k)) ps.length = true) : kL g ps := fun i hi => (kV_iff wK).mp (all1_iff.mp a i hi)
theorem agr_wI2 {S : Nat → Nat → Prop} {h h1 : sm_H} (a : agr S h h1) (b k : Nat) (x : Int32) : agr S (sm_wI h b k x) (sm_wI h1 b k x) := by
  refine ⟨fun c j n => ?_, a.2.1, a.2.2.1, a.2.2.2⟩
  rw [wI_rd, wI_rd, a.1 c j n]
theorem I1_row0 {h g : sm_H} (I : I1 h g) : I1 (sm_wI h 64 1 0) (sm_wI g 67 1 0) := by
  obtain ⟨wK, cK, wT, cT, wH, cH, wM, cM, cR, cP, cG, cO, cV, wX, cX, cXh, cU, cY, cF, cZ⟩ := I
  exact ⟨wK, cK, wT, cT, wH, cH, wM, cM, ⟨rfl, cnt_up (by decide) (by decide), cR.2.2⟩, cP, cG, cO, cV, wX, cX, cXh_fr (by repeat first | exact hi_rfl | refine hi_wI ?_ (by decide) | refine hi_wJ ?_ (by decide)) cXh, cU, cY, cF, cZ⟩
theorem kR_agr {S : Nat → Nat → Prop} {h h1 : sm_H} (a : agr S h h1) (d : ∀ b j, S b j → b < 67 ∨ 131 ≤ b) : kR h h1 := fun b j h1 h2 => ⟨a.1 b j (fun z => by have := d b j z; omega), a.2.1 b j (fun z => by have := d b j z; omega)⟩
theorem kC_agr {S : Nat → Nat → Prop} {g g1 : sm_H} (a : agr S g g1) (d : ∀ b j, S b j → 67 ≤ b ∧ b < 131) : kC g g1 := agr_mono d a
theorem type2 (x : Int32) (h g : sm_H) (I : I1 h g) : ∃ v h1 g1, F_260 x h = some (v, h1) ∧ F_382 x g = some (v, g1) ∧ I1 h1 g1 ∧ kR h h1 ∧ kC g g1 := by
  have K := (I1_K.mp I).1
  have cRr := (I1_K.mp I).2.1
  have wK := K.1
  have h12 := wK.2.1
  have RC := cR_L cRr
  have n20 : tn (g.1 67 1) ≤ 20 := cRr.2.1.2
  have e1 : g.1 67 1 = I3 (tn (g.1 67 1)) := cRr.2.1.1
  generalize hps : lst (g.1 68) (tn (g.1 67 1)) = ps at RC
  have len : ps.length = tn (g.1 67 1) := by rw [← hps, lst_len]
  have RR : rowR (sm_wI g 67 1 0) ps := ⟨by omega, fun k hk => by rw [← hps, at0_lst (by omega)]; rfl⟩
  have CH := C_has wK K.2.1 x
  have I0' := I1_row0 I
  have K0 : K1 h (sm_wI g 67 1 0) := by
    obtain ⟨wK, cK, wT, cT, wH, cH, wM, cM, cG, cO, cV, wX, cX, cXh, wF⟩ := K
    exact ⟨wK, cK, wT, cT, wH, cH, wM, cM, cG, cO, cV, wX, cX, cXh, wF⟩
  have RK := R_kind (g := sm_wI g 67 1 0) wK x
  have nCe : nC (sm_wI g 67 1 0) = nC g := rfl
  rw [nCe] at RK
  have none1 : ∀ h1, agr SCd h h1 → I1 (sm_wI h1 64 1 0) (sm_wI g 67 1 0) ∧ kR h (sm_wI h1 64 1 0) ∧ kC g (sm_wI g 67 1 0) := fun h1 a => by
    refine ⟨I1_h I0' (agr_mono SCd_not (agr_wI2 a 64 1 0)), ?_, ?_⟩
    · exact kR_agr (S := fun b j => SCd b j ∨ b = 64) (agr_wI (agr_mono (fun _ _ z => Or.inl z) a) (Or.inr rfl)) (fun b j z => by unfold SCd at z; omega)
    · exact kC_agr (S := fun b _ => b = 67) (agr_wI agr_rfl rfl) (fun b j z => by omega)
  have clr : ∀ (v : Int32) (h1 : sm_H), F_260_29 v h1 = some (v, sm_wI h1 64 1 0) := fun v h1 => by
    unfold F_260_29
    rfl
  by_cases c0 : inR x (20 + nC g) = true
  · rw [c0] at CH RK
    obtain ⟨h1, d1, d2, d3⟩ := C_draftsRow K RC
    have RG := fun b => R_typeGood K0 RR x b
    have kve : (fun k => kV (sm_wI g 67 1 0) (at0 ps k)) = (fun k => kV g (at0 ps k)) := rfl
    rw [kve] at RG
    generalize hal : all1 (fun k => kV g (at0 ps k)) ps.length = al at d1 d3 RG
    by_cases c1 : al = true ∧ ps.length ≤ 10
    · obtain ⟨c1, c2⟩ := c1
      subst c1
      have d3 := d3 rfl
      obtain ⟨g0, f1, f2, f3, f4⟩ := R_clear (sm_wI g 67 1 0) x
      have K2 : K1 h1 g0 := K1_g (K1_h K0 (agr_mono SCd_not d2)) (agr_mono SRd_not f3)
      have RR2 : rowR g0 ps := ⟨RR.1, fun k hk => (f3.1 68 k (by unfold SRd; omega)).trans (RR.2 k hk)⟩
      obtain ⟨g2, t1, t2, t3, t4⟩ := R_typeRow K2 RR2 c2 f2
      have K3 : K1 h1 g2 := K1_g K2 (agr_mono SRd_not t3)
      have er : g2.1 67 20 = x := t4.trans f4
      have nC2 : nC g2 = nC g := by show tn _ = tn _; rw [t3.1 67 6 (by unfold SRd; omega), f3.1 67 6 (by unfold SRd; omega)]; rfl
      have ref : ∀ w g3, F_302 g2 = some (w, g3) → F_382 x g = some (w, g3) := fun w g3 e => by
        show F_382_0 x g = _
        unfold F_382_0
        simp only [Option.bind_some]
        rw [RK]
        simp only [Option.bind_some]
        rw [if_neg (show ¬ b2 true = 0 by decide), e1, ← len, if_neg (by rw [I3_lit, I3_lt (by decide) (by omega)]; omega)]
        unfold F_382_29
        have := RG true
        refine Eq.trans this ?_
        unfold F_382_79
        rw [if_neg (show ¬ b2 (true && true) = 0 by decide), f1]
        simp only [Option.bind_some]
        refine Eq.trans t1 ?_
        rw [e]; rfl
      have cls : ∀ w h3, F_234 x h1 = some (w, h3) → F_260 x h = some (w, sm_wI h3 64 1 0) := fun w h3 e => by
        show F_260_0 x h = _
        unfold F_260_0
        rw [CH]
        simp only [Option.bind_some]
        rw [if_neg (show ¬ b2 true = 0 by decide), d1]
        simp only [Option.bind_some]
        rw [if_neg (show ¬ b2 true = 0 by decide), e]
        simp only [Option.bind_some]
        exact clr _ _
      have ag : agr SRd (sm_wI g 67 1 0) g2 := agr_trans f3 t3
      by_cases room : nT g2 < 300 ∨ fT g2 x ps < nT g2
      · obtain ⟨q, z1, z2⟩ := inR_x (by omega) c0
        obtain ⟨h3, g3, s1, s2, s3, s4, s5, s6, s7, s8, s9⟩ := settled (r := x) (l := ps) K3 d3 t2 er c2 room ⟨q, z2, by rw [nC2]; exact z1 |> fun z => by omega⟩ (kL_of K3.1 (by
          rw [← hal]
          have : (fun k => kV g2 (at0 ps k)) = (fun k => kV g (at0 ps k)) := by funext k; unfold kV; rw [nC2]
          rw [this]))
        refine ⟨_, _, g3, cls _ _ s1, ref _ _ s2, ?_, ?_, ?_⟩
        · have I2 : I1 (sm_wI h1 64 1 0) g2 := I1_g (I1_h I0' (agr_mono SCd_not (agr_wI2 d2 64 1 0))) (fun b j ok => by
            have n : ¬ SRd b j := fun z => by have := SRd_not b j z; rw [show okR b j = false from this] at ok; cases ok
            exact ⟨ag.1 b j n, ag.2.1 b j n⟩)
          refine I1_re I2 (h1 := sm_wI h3 64 1 0) ?_ s4 s5 ?_ ?_
          · obtain ⟨wK, cK, wT, cT, wH, cH, wM, cM, cG, cO, cV, wX, cX, cXh, wF⟩ := s3
            exact ⟨wK, cK, wT, cT, wH, cH, wM, cM, cG, cO, cV, wX, cX, cXh_fr (by repeat first | exact hi_rfl | refine hi_wI ?_ (by decide) | refine hi_wJ ?_ (by decide)) cXh, wF⟩
          · exact oC_agr (agr_wI2 s8 64 1 0) (fun b j z => by unfold SCt at z; unfold oC; omega)
          · exact oR_agr s9 (fun b j z => by unfold SRt at z; unfold oR; omega)
        · exact kR_agr (S := fun b j => SCd b j ∨ SCt b j ∨ b = 64) (agr_wI (agr_trans (agr_mono (fun _ _ z => Or.inl z) d2) (agr_mono (fun _ _ z => Or.inr (Or.inl z)) s8)) (Or.inr (Or.inr rfl))) (fun b j z => by unfold SCd SCt at z; omega)
        · exact kC_agr (S := fun b j => SRd b j ∨ SRt b j ∨ b = 67) (agr_trans (agr_trans (agr_wI agr_rfl (Or.inr (Or.inr rfl))) (agr_mono (fun _ _ z => Or.inl z) ag)) (agr_mono (fun _ _ z => Or.inr (Or.inl z)) s9)) (fun b j z => by unfold SRd SRt at z; omega)
      · have n1 := C_settle0 K3.2.2.1 K3.2.2.2.1 d3 (by omega) x (by omega)
        have n2 := R_made0 K3.2.2.1 t2 (by omega) er (by omega)
        obtain ⟨m1, m2, m3⟩ := none1 h1 d2
        refine ⟨_, _, g2, cls _ _ n1, ref _ _ n2, I1_g m1 (fun b j ok => ?_), m2, kC_agr (S := fun b j => SRd b j ∨ b = 67) (agr_trans (agr_wI agr_rfl (Or.inr rfl)) (agr_mono (fun _ _ z => Or.inl z) ag)) (fun b j z => by unfold SRd at z; omega)⟩
        have n : ¬ SRd b j := fun z => by have := SRd_not b j z; rw [show okR b j = false from this] at ok; cases ok
        exact ⟨ag.1 b j n, ag.2.1 b j n⟩
    ·
      obtain ⟨m1, m2, m3⟩ := none1 h1 d2
      refine ⟨-1, sm_wI h1 64 1 0, sm_wI g 67 1 0, ?_, ?_, m1, m2, m3⟩
      · show F_260_0 x h = _
        unfold F_260_0
        rw [CH]
        simp only [Option.bind_some]
        rw [if_neg (show ¬ b2 true = 0 by decide), d1]
        simp only [Option.bind_some]
        cases al with
        | false => rw [if_pos (show b2 false = 0 by decide)]; exact clr _ _
        | true =>
          have d3 := d3 rfl
          have n1 := C_settle0 (g := g) K.2.2.1 (K1_h K (agr_mono SCd_not d2)).2.2.2.1 d3 (by omega) x (fun z => c1 ⟨rfl, z.1⟩)
          rw [if_neg (show ¬ b2 true = 0 by decide), n1]
          simp only [Option.bind_some]
          exact clr _ _
      · show F_382_0 x g = _
        unfold F_382_0
        simp only [Option.bind_some]
        rw [RK]
        simp only [Option.bind_some]
        rw [if_neg (show ¬ b2 true = 0 by decide), e1, ← len]
        by_cases c2 : ps.length ≤ 10
        · have : al = false := by cases al with
            | false => rfl
            | true => exact absurd ⟨rfl, c2⟩ c1
          subst this
          rw [if_neg (by rw [I3_lit, I3_lt (by decide) (by omega)]; omega)]
          unfold F_382_29
          have := RG true
          refine Eq.trans this ?_
          rfl
        · rw [if_pos (by rw [I3_lit, I3_lt (by decide) (by omega)]; omega)]
          unfold F_382_28 F_382_29
          have := RG false
          refine Eq.trans this ?_
          rfl
  · have c0 : inR x (20 + nC g) = false := by cases q : inR x (20 + nC g) with
      | false => rfl
      | true => exact absurd q c0
    rw [c0] at CH RK
    obtain ⟨m1, m2, m3⟩ := none1 h agr_rfl
    refine ⟨-1, sm_wI h 64 1 0, sm_wI g 67 1 0, ?_, ?_, m1, m2, m3⟩
    · show F_260_0 x h = _
      unfold F_260_0
      rw [CH]
      simp only [Option.bind_some]
      rw [if_pos (show b2 false = 0 by decide)]; exact clr _ _
    · show F_382_0 x g = _
      unfold F_382_0
      simp only [Option.bind_some]
      rw [RK]
      simp only [Option.bind_some]
      rw [if_pos (show b2 false = 0 by decide), e1, ← len]
      unfold F_382_28 F_382_29
      have := R_typeGood K0 RR x false
      refine Eq.trans this ?_
      rfl
theorem op_type {h : sm_H} (x : Int32) (I : I0 h) : ∃ v h1 h2, F_260 x h = some (v, h1) ∧ F_382 x h1 = some (v, h2) ∧ I0 h2 := op_of2 (type2 x) I
