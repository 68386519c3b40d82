theorem bv32 (v : BitVec 32) (n : Nat) (hn : n ≤ 24) : (v >>> n) &&& 255#32 = (v.sshiftRight n) &&& 255#32 := by
  ext i hi
  simp only [BitVec.getElem_and, BitVec.getElem_ushiftRight, BitVec.getElem_sshiftRight]
  by_cases c : i < 8
  · have : n + i < 32 := by omega
    simp [this]
  · have : (255#32)[i] = false := by
      have e : ∀ i (hi : i < 32), ¬ i < 8 → (255#32)[i] = false := by decide
      exact e i hi c
    simp [this]
theorem bv64 (v : BitVec 64) (n : Nat) (hn : n ≤ 56) : (v >>> n) &&& 255#64 = (v.sshiftRight n) &&& 255#64 := by
  ext i hi
  simp only [BitVec.getElem_and, BitVec.getElem_ushiftRight, BitVec.getElem_sshiftRight]
  by_cases c : i < 8
  · have : n + i < 64 := by omega
    simp [this]
  · have : (255#64)[i] = false := by
      have e : ∀ i (hi : i < 64), ¬ i < 8 → (255#64)[i] = false := by decide
      exact e i hi c
    simp [this]
theorem feed_eq (x : Int32) (k : Nat) (hk : k < 4) : (Int32.toUInt32 x >>> (Int32.toUInt32 (24 - (8 * I3 k)) &&& Int32.toUInt32 31)).toInt32 &&& 255 = (x >>> ((24 - (8 * I3 k)) &&& 31)) &&& 255 := by
  rw [← Int32.toBitVec_inj]
  rcases (show k = 0 ∨ k = 1 ∨ k = 2 ∨ k = 3 by omega) with rfl | rfl | rfl | rfl
  · show (x.toBitVec >>> 24) &&& 255#32 = (x.toBitVec.sshiftRight 24) &&& 255#32
    exact bv32 _ 24 (by decide)
  · show (x.toBitVec >>> 16) &&& 255#32 = (x.toBitVec.sshiftRight 16) &&& 255#32
    exact bv32 _ 16 (by decide)
  · show (x.toBitVec >>> 8) &&& 255#32 = (x.toBitVec.sshiftRight 8) &&& 255#32
    exact bv32 _ 8 (by decide)
  · show (x.toBitVec >>> 0) &&& 255#32 = (x.toBitVec.sshiftRight 0) &&& 255#32
    exact bv32 _ 0 (by decide)
theorem named_eq (x : Int64) (k : Nat) (hk : k < 8) : (Int64.toUInt64 x >>> ((Int32.toInt64 (I3 (8 * k))).toUInt64 &&& Int64.toUInt64 63)).toInt64 &&& 255 = (x >>> (Int32.toInt64 (I3 (8 * k)) &&& 63)) &&& 255 := by
  rw [← Int64.toBitVec_inj]
  rcases (show k = 0 ∨ k = 1 ∨ k = 2 ∨ k = 3 ∨ k = 4 ∨ k = 5 ∨ k = 6 ∨ k = 7 by omega) with rfl | rfl | rfl | rfl | rfl | rfl | rfl | rfl
  · show (x.toBitVec >>> 0) &&& 255#64 = (x.toBitVec.sshiftRight 0) &&& 255#64
    exact bv64 _ 0 (by decide)
  · show (x.toBitVec >>> 8) &&& 255#64 = (x.toBitVec.sshiftRight 8) &&& 255#64
    exact bv64 _ 8 (by decide)
  · show (x.toBitVec >>> 16) &&& 255#64 = (x.toBitVec.sshiftRight 16) &&& 255#64
    exact bv64 _ 16 (by decide)
  · show (x.toBitVec >>> 24) &&& 255#64 = (x.toBitVec.sshiftRight 24) &&& 255#64
    exact bv64 _ 24 (by decide)
  · show (x.toBitVec >>> 32) &&& 255#64 = (x.toBitVec.sshiftRight 32) &&& 255#64
    exact bv64 _ 32 (by decide)
  · show (x.toBitVec >>> 40) &&& 255#64 = (x.toBitVec.sshiftRight 40) &&& 255#64
    exact bv64 _ 40 (by decide)
  · show (x.toBitVec >>> 48) &&& 255#64 = (x.toBitVec.sshiftRight 48) &&& 255#64
    exact bv64 _ 48 (by decide)
  · show (x.toBitVec >>> 56) &&& 255#64 = (x.toBitVec.sshiftRight 56) &&& 255#64
    exact bv64 _ 56 (by decide)
theorem and255 (x : Int32) : cnt (x &&& 255) 255 := by
  have h1 : (x &&& 255).toBitVec = x.toBitVec &&& 255#32 := rfl
  have h2 : (x.toBitVec &&& 255#32).toNat ≤ 255 := by rw [BitVec.toNat_and]; exact Nat.and_le_right
  generalize x.toBitVec &&& 255#32 = v at h1 h2
  have h3 : (x &&& 255) = I3 v.toNat := by
    rw [← Int32.toBitVec_inj, h1]
    show v = BitVec.ofNat 32 v.toNat
    rw [BitVec.ofNat_toNat, BitVec.setWidth_eq]
  rw [h3]
  exact cnt_up h2 (by decide)
theorem op_fault {h : sm_H} (x : Int32) (I : I0 h) : ∃ v h1 h2, F_285 x h = some (v, h1) ∧ F_467 x h1 = some (v, h2) ∧ I0 h2 := by
  obtain ⟨wK, cK, wT, cT, wH, cH, wM, cM, cR, cP, cG, cO, cV, wX, cX, cXh, cU, cY, cF, cZ⟩ := id I
  obtain ⟨f1, f2, f3, -⟩ := cF
  by_cases c0 : x = 0
  · subst c0; exact ⟨h.1 67 77, h, h, by simp only [F_285_0, F_285, F_164_0, F_164, if_true, Option.bind_some, f1], rfl, I⟩
  by_cases c1 : x = 1
  · subst c1; exact ⟨h.1 67 78, h, h, by simp only [F_285_0, F_285, F_164_0, F_164, if_true, if_neg c0, Option.bind_some, f2], rfl, I⟩
  by_cases c2 : x = 2
  · subst c2; exact ⟨h.1 67 91, h, h, by simp only [F_285_0, F_285, F_164_0, F_164, if_true, if_neg c0, if_neg c1, Option.bind_some, f3], rfl, I⟩
  exact ⟨-1, h, h, by simp only [F_285_0, F_285, F_164_0, F_164, if_neg c0, if_neg c1, if_neg c2, Option.bind_some], by simp only [F_467_36, F_467_0, F_467, if_neg c0, if_neg c1, if_neg c2], I⟩
def defAt (g : sm_H) (v : Int64) : Int32 := if fst1 (fun d => decide (g.2.1 113 d = v)) (nD g) < nD g then I3 (fst1 (fun d => decide (g.2.1 113 d = v)) (nD g)) else -1
theorem R_def {g : sm_H} (w : cnt (g.1 67 91) 60) (v : Int64) : F_443 v g = some (defAt g v, g) := by
  have e := w.1
  have e2 : nD g ≤ 60 := w.2
  have ⟨s1, s2, s3⟩ := fst1_spec (fun d => decide (g.2.1 113 d = v)) (nD g)
  unfold defAt
  generalize hm : fst1 (fun d => decide (g.2.1 113 d = v)) (nD g) = m at s1 s2 s3 ⊢
  show lp F_443_2B 1000000 (v, I3 0, g) = _
  refine lp_it m (fun k => (v, I3 k, g)) 1000000 (fun k hk => ?_) ?_ (by omega)
  · have z := s2 k hk
    simp only [decide_eq_false_iff_not] at z
    have e' : g.1 67 91 = I3 (nD g) := e
    simp (disch := omega) only [↓reduceIte, if_true, if_false, ite_self, Option.bind_some, Option.map_some, wI_rd, wJ_rd, wI_2, wJ_1, wJ_22, I3_lit, I3_add, I3_mul, I3_lt, I3_le, I3_inj, I3_nn', I3_n1, I3_n2, m2m1, ldI_I, ldJ_I, ldZ_I, stI_I, stJ_I, true_or, or_true, false_or, or_false, true_and, and_true, false_and, and_false, not_true_eq_false, not_false_eq_true, reduceCtorEq, Nat.reduceEqDiff, Nat.lt_irrefl, Nat.not_lt_zero, Nat.le_refl, Nat.reduceLT, Nat.reduceLeDiff, eq_self, zbbI, bbI0, bbI1, decide_eq_false_iff_not, decide_eq_true_eq, Bool.not_eq_false, Bool.not_eq_true, Bool.not_true, Bool.not_false, cond_true, cond_false, F_443_2B, e', show ¬ nD g ≤ k by omega, cmp_eq', z]
  · have e' : g.1 67 91 = I3 (nD g) := e
    by_cases c : m < nD g
    · have z := s3 c
      simp only [decide_eq_true_eq] at z
      simp (disch := omega) only [↓reduceIte, if_true, if_false, ite_self, Option.bind_some, Option.map_some, wI_rd, wJ_rd, wI_2, wJ_1, wJ_22, I3_lit, I3_add, I3_mul, I3_lt, I3_le, I3_inj, I3_nn', I3_n1, I3_n2, m2m1, ldI_I, ldJ_I, ldZ_I, stI_I, stJ_I, true_or, or_true, false_or, or_false, true_and, and_true, false_and, and_false, not_true_eq_false, not_false_eq_true, reduceCtorEq, Nat.reduceEqDiff, Nat.lt_irrefl, Nat.not_lt_zero, Nat.le_refl, Nat.reduceLT, Nat.reduceLeDiff, eq_self, zbbI, bbI0, bbI1, decide_eq_false_iff_not, decide_eq_true_eq, Bool.not_eq_false, Bool.not_eq_true, Bool.not_true, Bool.not_false, cond_true, cond_false, F_443_2B, e', show ¬ nD g ≤ m by omega, cmp_eq', z, c]
    · simp (disch := omega) only [↓reduceIte, if_true, if_false, ite_self, Option.bind_some, Option.map_some, wI_rd, wJ_rd, wI_2, wJ_1, wJ_22, I3_lit, I3_add, I3_mul, I3_lt, I3_le, I3_inj, I3_nn', I3_n1, I3_n2, m2m1, ldI_I, ldJ_I, ldZ_I, stI_I, stJ_I, true_or, or_true, false_or, or_false, true_and, and_true, false_and, and_false, not_true_eq_false, not_false_eq_true, reduceCtorEq, Nat.reduceEqDiff, Nat.lt_irrefl, Nat.not_lt_zero, Nat.le_refl, Nat.reduceLT, Nat.reduceLeDiff, eq_self, zbbI, bbI0, bbI1, decide_eq_false_iff_not, decide_eq_true_eq, Bool.not_eq_false, Bool.not_eq_true, Bool.not_true, Bool.not_false, cond_true, cond_false, F_443_2B, e', show nD g ≤ m by omega, c]
theorem C_def {h g : sm_H} (cF : cF h g) (v : Int64) : F_166 v h = some (defAt g v, h) := by
  have e2 : nD g ≤ 60 := cF.2.2.2.1.2
  have e' : h.1 55 15 = I3 (nD g) := cF.2.2.1.trans cF.2.2.2.1.1
  have ed : ∀ k, k < nD g → h.2.1 62 k = g.2.1 113 k := fun k hk => (cF.2.2.2.2 k hk).1
  have ⟨s1, s2, s3⟩ := fst1_spec (fun d => decide (g.2.1 113 d = v)) (nD g)
  unfold defAt
  generalize hm : fst1 (fun d => decide (g.2.1 113 d = v)) (nD g) = m at s1 s2 s3 ⊢
  show lp F_166_2B 1000000 (v, I3 0, h) = _
  refine lp_it m (fun k => (v, I3 k, h)) 1000000 (fun k hk => ?_) ?_ (by omega)
  · have z := s2 k hk
    simp only [decide_eq_false_iff_not] at z
    have ed := ed k (by omega)
    simp (disch := omega) only [↓reduceIte, if_true, if_false, ite_self, Option.bind_some, Option.map_some, wI_rd, wJ_rd, wI_2, wJ_1, wJ_22, I3_lit, I3_add, I3_mul, I3_lt, I3_le, I3_inj, I3_nn', I3_n1, I3_n2, m2m1, ldI_I, ldJ_I, ldZ_I, stI_I, stJ_I, true_or, or_true, false_or, or_false, true_and, and_true, false_and, and_false, not_true_eq_false, not_false_eq_true, reduceCtorEq, Nat.reduceEqDiff, Nat.lt_irrefl, Nat.not_lt_zero, Nat.le_refl, Nat.reduceLT, Nat.reduceLeDiff, eq_self, zbbI, bbI0, bbI1, decide_eq_false_iff_not, decide_eq_true_eq, Bool.not_eq_false, Bool.not_eq_true, Bool.not_true, Bool.not_false, cond_true, cond_false, F_166_2B, e', show ¬ nD g ≤ k by omega, cmp_eq', ed, z]
  · by_cases c : m < nD g
    · have z := s3 c
      simp only [decide_eq_true_eq] at z
      have ed := ed m c
      simp (disch := omega) only [↓reduceIte, if_true, if_false, ite_self, Option.bind_some, Option.map_some, wI_rd, wJ_rd, wI_2, wJ_1, wJ_22, I3_lit, I3_add, I3_mul, I3_lt, I3_le, I3_inj, I3_nn', I3_n1, I3_n2, m2m1, ldI_I, ldJ_I, ldZ_I, stI_I, stJ_I, true_or, or_true, false_or, or_false, true_and, and_true, false_and, and_false, not_true_eq_false, not_false_eq_true, reduceCtorEq, Nat.reduceEqDiff, Nat.lt_irrefl, Nat.not_lt_zero, Nat.le_refl, Nat.reduceLT, Nat.reduceLeDiff, eq_self, zbbI, bbI0, bbI1, decide_eq_false_iff_not, decide_eq_true_eq, Bool.not_eq_false, Bool.not_eq_true, Bool.not_true, Bool.not_false, cond_true, cond_false, F_166_2B, e', show ¬ nD g ≤ m by omega, cmp_eq', ed, z, c]
    · simp (disch := omega) only [↓reduceIte, if_true, if_false, ite_self, Option.bind_some, Option.map_some, wI_rd, wJ_rd, wI_2, wJ_1, wJ_22, I3_lit, I3_add, I3_mul, I3_lt, I3_le, I3_inj, I3_nn', I3_n1, I3_n2, m2m1, ldI_I, ldJ_I, ldZ_I, stI_I, stJ_I, true_or, or_true, false_or, or_false, true_and, and_true, false_and, and_false, not_true_eq_false, not_false_eq_true, reduceCtorEq, Nat.reduceEqDiff, Nat.lt_irrefl, Nat.not_lt_zero, Nat.le_refl, Nat.reduceLT, Nat.reduceLeDiff, eq_self, zbbI, bbI0, bbI1, decide_eq_false_iff_not, decide_eq_true_eq, Bool.not_eq_false, Bool.not_eq_true, Bool.not_true, Bool.not_false, cond_true, cond_false, F_166_2B, e', show nD g ≤ m by omega, c]
theorem defAt_c (g : sm_H) (v : Int64) (hD : nD g ≤ 60) : (∃ d, d < nD g ∧ defAt g v = I3 d) ∨ defAt g v = -1 := by
  unfold defAt
  by_cases c : fst1 (fun d => decide (g.2.1 113 d = v)) (nD g) < nD g
  · rw [if_pos c]; exact Or.inl ⟨_, c, rfl⟩
  · rw [if_neg c]; exact Or.inr rfl
def nmB (x : Int64) (k : Nat) : Int64 := (x >>> (Int32.toInt64 (I3 (8 * k)) &&& 63)) &&& 255
def nmF (x : Int64) : Nat → Int64 → Int64
  | 0, v => v
  | k + 1, v => nmF x k (if nmB x k = 0 then v else (v <<< (Int32.toInt64 8 &&& 63)) ||| nmB x k)
def nmS (k : Nat) : Int32 := if k = 0 then -8 else I3 (8 * (k - 1))
theorem nmS_1 {k : Nat} (hk : k < 8) : I3 (8 * k) + (-8 : Int32) = nmS k := by
  rcases (show k = 0 ∨ k = 1 ∨ k = 2 ∨ k = 3 ∨ k = 4 ∨ k = 5 ∨ k = 6 ∨ k = 7 by omega) with rfl | rfl | rfl | rfl | rfl | rfl | rfl | rfl <;> decide
theorem C_named {h g : sm_H} (cF : cF h g) (x : Int64) : ∀ (k : Nat), k ≤ 8 → ∀ (f : Nat) (v : Int64), k < f → lp F_165_6B f (x, v, nmS k, h) = some (if defAt g (nmF x k v) = -1 then -1 else g.1 114 (tn (defAt g (nmF x k v))), h) := by
  have e2 : nD g ≤ 60 := cF.2.2.2.1.2
  intro k
  induction k with
  | zero =>
    intro _ f v hf
    obtain ⟨f, rfl⟩ : ∃ q, f = q + 1 := ⟨f - 1, by omega⟩
    refine lp_0 ?_
    show (if (-8 : Int32) < 0 then _ else _) = _
    rw [if_pos (by decide), C_def cF]
    show (if defAt g v = -1 then _ else _) = _
    rcases defAt_c g v e2 with ⟨d, hd, e⟩ | e
    · rw [show nmF x 0 v = v from rfl, e, if_neg (I3_m1 (by omega)), if_neg (I3_m1 (by omega)), ldI_I (by omega) (by omega)]
      show some (Sum.inr (h.1 63 d, h)) = _
      unfold tn
      rw [I3_clamp (by omega), (cF.2.2.2.2 d hd).2.1]
    · rw [show nmF x 0 v = v from rfl, e, if_pos rfl, if_pos rfl]; rfl
  | succ k ih =>
    intro hk f v hf
    obtain ⟨f, rfl⟩ : ∃ q, f = q + 1 := ⟨f - 1, by omega⟩
    have es : nmS (k + 1) = I3 (8 * k) := by unfold nmS; rw [if_neg (by omega)]; rfl
    rw [es]
    refine (lp_1 (s' := (x, (if nmB x k = 0 then v else (v <<< (Int32.toInt64 8 &&& 63)) ||| nmB x k), nmS k, h)) ?_).trans (ih (by omega) f _ (by omega))
    have ne := named_eq x k (by omega)
    unfold F_165_6B
    rw [if_neg (I3_nn (by omega))]
    simp only [Option.bind_some, ne, cmp_eq, F_165_39, nmS_1 (show k < 8 by omega)]
    rw [show (x >>> ((I3 (8 * k)).toInt64 &&& 63)) &&& 255 = nmB x k from rfl]
    by_cases c : nmB x k = 0
    · rw [if_pos c, if_pos c]
    · rw [if_neg c, if_neg c]
theorem R_named {h g : sm_H} (cF : cF h g) (x : Int64) : ∀ (k : Nat), k ≤ 8 → ∀ (f : Nat) (v : Int64), k < f → lp F_468_6B f (x, v, nmS k, g) = some (if defAt g (nmF x k v) = -1 then -1 else g.1 114 (tn (defAt g (nmF x k v))), g) := by
  have e2 : nD g ≤ 60 := cF.2.2.2.1.2
  intro k
  induction k with
  | zero =>
    intro _ f v hf
    obtain ⟨f, rfl⟩ : ∃ q, f = q + 1 := ⟨f - 1, by omega⟩
    refine lp_0 ?_
    show (if (-8 : Int32) < 0 then _ else _) = _
    rw [if_pos (by decide), R_def cF.2.2.2.1]
    show (if defAt g v = -1 then _ else _) = _
    rcases defAt_c g v e2 with ⟨d, hd, e⟩ | e
    · rw [show nmF x 0 v = v from rfl, e, if_neg (I3_m1 (by omega)), if_neg (I3_m1 (by omega)), ldI_I (by omega) (by omega)]
      show some (Sum.inr (g.1 114 d, g)) = _
      unfold tn
      rw [I3_clamp (by omega)]
    · rw [show nmF x 0 v = v from rfl, e, if_pos rfl, if_pos rfl]; rfl
  | succ k ih =>
    intro hk f v hf
    obtain ⟨f, rfl⟩ : ∃ q, f = q + 1 := ⟨f - 1, by omega⟩
    have es : nmS (k + 1) = I3 (8 * k) := by unfold nmS; rw [if_neg (by omega)]; rfl
    rw [es]
    refine (lp_1 (s' := (x, (if nmB x k = 0 then v else (v <<< (Int32.toInt64 8 &&& 63)) ||| nmB x k), nmS k, g)) ?_).trans (ih (by omega) f _ (by omega))
    unfold F_468_6B
    rw [if_neg (I3_nn (by omega))]
    simp only [Option.bind_some, cmp_eq, F_468_36, nmS_1 (show k < 8 by omega)]
    rw [show (x >>> ((I3 (8 * k)).toInt64 &&& 63)) &&& 255 = nmB x k from rfl]
    by_cases c : nmB x k = 0
    · rw [if_pos c, if_pos c]
    · rw [if_neg c, if_neg c]
theorem op_named {h : sm_H} (x : Int64) (I : I0 h) : ∃ v h1 h2, F_286 x h = some (v, h1) ∧ F_468 x h1 = some (v, h2) ∧ I0 h2 := by
  obtain ⟨wK, cK, wT, cT, wH, cH, wM, cM, cR, cP, cG, cO, cV, wX, cX, cXh, cU, cY, cF, cZ⟩ := id I
  refine ⟨_, h, h, ?_, R_named cF x 8 (by omega) 1000000 0 (by omega), I⟩
  show ((lp F_165_6B 1000000 (x, 0, nmS 8, h)).bind _) = _
  rw [C_named cF x 8 (by omega) 1000000 0 (by omega)]
  rfl
