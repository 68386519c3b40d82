def wA (h : sm_H) (a : Nat) (f : Nat → Int32) : sm_H := (va_up h.1 a f, h.2)
theorem wA_rd (h : sm_H) (a : Nat) (f : Nat → Int32) (b j : Nat) : (wA h a f).1 b j = if b = a then f j else h.1 b j := by
  unfold wA va_up
  show (if b = a then f else h.1 b) j = _
  split <;> rfl
theorem wA_2 (h : sm_H) (a : Nat) (f : Nat → Int32) : (wA h a f).2 = h.2 := rfl
theorem wA_wI (h : sm_H) (a : Nat) (f : Nat → Int32) (k : Nat) (x : Int32) : sm_wI (wA h a f) a k x = wA h a (fun i => if i = k then x else f i) := by
  unfold sm_wI wA va_up upd
  congr 1
  funext b
  show (if b = a then _ else (if b = a then f else h.1 b)) = (if b = a then _ else h.1 b)
  by_cases c : b = a
  · simp [c]
  · simp [c]
theorem wA_self (h : sm_H) (a : Nat) : wA h a (h.1 a) = h := by
  unfold wA va_up
  refine Prod.ext ?_ rfl
  funext b
  show (if b = a then h.1 a else h.1 b) = h.1 b
  by_cases c : b = a
  · rw [if_pos c, c]
  · rw [if_neg c]
theorem hi_wA {h h1 : sm_H} {a : Nat} {f : Nat → Int32} (e : hiEq h h1) (ha : a < 131) : hiEq h (wA h1 a f) := by
  refine hi_trans e ⟨fun b hb => ⟨?_, rfl⟩, rfl⟩
  show (if b = a then _ else h1.1 b) = _
  rw [if_neg (by omega)]
def rowF (f : Nat → Int32) (t p k : Nat) : Nat → Int32 := fun i => if t * 32 ≤ i ∧ i < t * 32 + k then f (p * 32 + (i - t * 32)) else f i
theorem C_copy {h g : sm_H} (cK : cK h g) {t p : Nat} (ht : t < 32) (hp : p < 20 + nC g) (hpt : p < t) (x y : Int32) (ex : x = I3 p) : ∀ (k : Nat), k ≤ 32 → ∀ f, 40 < f + k → lp F_52_39B f (x, y, I3 t, I3 k, wA h 2 (rowF (h.1 2) t p k)) = some (I3 t, sm_wI (sm_wI (sm_wI (wA h 2 (fun i => if i = t * 32 + t then I3 1 else rowF (h.1 2) t p 32 i)) 3 t x) 4 t y) 1 3 (h.1 1 3 + I3 1)) := by
  intro k hk
  induction hd : 32 - k generalizing k with
  | zero =>
    intro f hf
    have e : k = 32 := by omega
    subst e
    obtain ⟨f, rfl⟩ : ∃ q, f = q + 1 := ⟨f - 1, by omega⟩
    refine lp_0 ?_
    have z1 : stZ (wA h 2 (rowF (h.1 2) t p 32)) 2 1024 (I3 (t * 32 + t)) (I3 1) = some (wA h 2 (fun i => if i = t * 32 + t then I3 1 else rowF (h.1 2) t p 32 i)) := by
      rw [stZ_1 (by omega) (by omega), wA_wI]
    simp (disch := omega) only [↓reduceIte, if_true, if_false, ite_self, Option.bind_some, Option.map_some, wI_rd, wJ_rd, wI_2, wJ_1, wJ_22, I3_lit, I3_add, I3_mul, I3_lt, I3_le, I3_inj, I3_nn', I3_n1, I3_n2, m2m1, ldI_I, ldJ_I, ldZ_I, stI_I, stJ_I, true_or, or_true, false_or, or_false, true_and, and_true, false_and, and_false, not_true_eq_false, not_false_eq_true, reduceCtorEq, Nat.reduceEqDiff, Nat.lt_irrefl, Nat.not_lt_zero, Nat.le_refl, Nat.reduceLT, Nat.reduceLeDiff, eq_self, zbbI, bbI0, bbI1, decide_eq_false_iff_not, decide_eq_true_eq, Bool.not_eq_false, Bool.not_eq_true, Bool.not_true, Bool.not_false, cond_true, cond_false, F_52_39B, z1, wA_rd, wA_2]
  | succ d ih =>
    intro f hf
    obtain ⟨f, rfl⟩ : ∃ q, f = q + 1 := ⟨f - 1, by omega⟩
    refine (lp_1 (s' := (x, y, I3 t, I3 (k + 1), wA h 2 (rowF (h.1 2) t p (k + 1)))) ?_).trans (ih (k + 1) (by omega) (by omega) f (by omega))
    have v : rowF (h.1 2) t p k (p * 32 + k) = b2 (B g p k) := by
      unfold rowF
      rw [if_neg (by omega)]
      exact cK.2.2 p k hp (by omega)
    have z1 : stZ (wA h 2 (rowF (h.1 2) t p k)) 2 1024 (I3 (t * 32 + k)) (b2 (B g p k)) = some (wA h 2 (rowF (h.1 2) t p (k + 1))) := by
      rw [stZ_I (by omega) (by omega), wA_wI]
      congr 2
      funext i
      unfold rowF
      by_cases c : i = t * 32 + k
      · rw [if_pos c, if_pos (by omega), c, show t * 32 + k - t * 32 = k by omega]
        exact (cK.2.2 p k hp (by omega)).symm
      · rw [if_neg c]
        by_cases c2 : t * 32 ≤ i ∧ i < t * 32 + k
        · rw [if_pos c2, if_pos (by omega)]
        · rw [if_neg c2, if_neg (by omega)]
    have n32 : ¬ 32 ≤ k := by omega
    simp (disch := omega) only [↓reduceIte, if_true, if_false, ite_self, Option.bind_some, Option.map_some, wI_rd, wJ_rd, wI_2, wJ_1, wJ_22, I3_lit, I3_add, I3_mul, I3_lt, I3_le, I3_inj, I3_nn', I3_n1, I3_n2, m2m1, ldI_I, ldJ_I, ldZ_I, stI_I, stJ_I, true_or, or_true, false_or, or_false, true_and, and_true, false_and, and_false, not_true_eq_false, not_false_eq_true, reduceCtorEq, Nat.reduceEqDiff, Nat.lt_irrefl, Nat.not_lt_zero, Nat.le_refl, Nat.reduceLT, Nat.reduceLeDiff, eq_self, zbbI, bbI0, bbI1, decide_eq_false_iff_not, decide_eq_true_eq, Bool.not_eq_false, Bool.not_eq_true, Bool.not_true, Bool.not_false, cond_true, cond_false, F_52_39B, ex, n32, wA_rd, v, z1]
