theorem bv32 (v : BitVec 32) (n : Nat) (hn : n ≤ 24) : (v >>> n) &&& 255#32 = (v.sshiftRight n) &&& 255#32 := by
  ext i hi
  simp only [BitVec.getElem_and, BitVec.getElem_ushiftRight, BitVec.getElem_sshiftRight]
  by_cases c : i < 8
  · have : n + i < 32 := by omega
    simp [this]
  · have : (255#32)[i] = false := by
      have e : ∀ i (hi : i < 32), ¬ i < 8 → (255#32)[i] = false := by decide
      exact e i hi c
    simp [this]
theorem bv64 (v : BitVec 64) (n : Nat) (hn : n ≤ 56) : (v >>> n) &&& 255#64 = (v.sshiftRight n) &&& 255#64 := by
  ext i hi
  simp only [BitVec.getElem_and, BitVec.getElem_ushiftRight, BitVec.getElem_sshiftRight]
  by_cases c : i < 8
  · have : n + i < 64 := by omega
    simp [this]
  · have : (255#64)[i] = false := by
      have e : ∀ i (hi : i < 64), ¬ i < 8 → (255#64)[i] = false := by decide
      exact e i hi c
    simp [this]
theorem feed_eq (x : Int32) (k : Nat) (hk : k < 4) : (Int32.toUInt32 x >>> (Int32.toUInt32 (24 - (8 * I3 k)) &&& Int32.toUInt32 31)).toInt32 &&& 255 = (x >>> ((24 - (8 * I3 k)) &&& 31)) &&& 255 := by
  rw [← Int32.toBitVec_inj]
  rcases (show k = 0 ∨ k = 1 ∨ k = 2 ∨ k = 3 by omega) with rfl | rfl | rfl | rfl
  · show (x.toBitVec >>> 24) &&& 255#32 = (x.toBitVec.sshiftRight 24) &&& 255#32
    exact bv32 _ 24 (by decide)
  · show (x.toBitVec >>> 16) &&& 255#32 = (x.toBitVec.sshiftRight 16) &&& 255#32
    exact bv32 _ 16 (by decide)
  · show (x.toBitVec >>> 8) &&& 255#32 = (x.toBitVec.sshiftRight 8) &&& 255#32
    exact bv32 _ 8 (by decide)
  · show (x.toBitVec >>> 0) &&& 255#32 = (x.toBitVec.sshiftRight 0) &&& 255#32
    exact bv32 _ 0 (by decide)
theorem named_eq (x : Int64) (k : Nat) (hk : k < 8) : (Int64.toUInt64 x >>> ((Int32.toInt64 (I3 (8 * k))).toUInt64 &&& Int64.toUInt64 63)).toInt64 &&& 255 = (x >>> (Int32.toInt64 (I3 (8 * k)) &&& 63)) &&& 255 := by
  rw [← Int64.toBitVec_inj]
  rcases (show k = 0 ∨ k = 1 ∨ k = 2 ∨ k = 3 ∨ k = 4 ∨ k = 5 ∨ k = 6 ∨ k = 7 by omega) with rfl | rfl | rfl | rfl | rfl | rfl | rfl | rfl
  · show (x.toBitVec >>> 0) &&& 255#64 = (x.toBitVec.sshiftRight 0) &&& 255#64
    exact bv64 _ 0 (by decide)
  · show (x.toBitVec >>> 8) &&& 255#64 = (x.toBitVec.sshiftRight 8) &&& 255#64
    exact bv64 _ 8 (by decide)
  · show (x.toBitVec >>> 16) &&& 255#64 = (x.toBitVec.sshiftRight 16) &&& 255#64
    exact bv64 _ 16 (by decide)
  · show (x.toBitVec >>> 24) &&& 255#64 = (x.toBitVec.sshiftRight 24) &&& 255#64
    exact bv64 _ 24 (by decide)
  · show (x.toBitVec >>> 32) &&& 255#64 = (x.toBitVec.sshiftRight 32) &&& 255#64
    exact bv64 _ 32 (by decide)
  · show (x.toBitVec >>> 40) &&& 255#64 = (x.toBitVec.sshiftRight 40) &&& 255#64
    exact bv64 _ 40 (by decide)
  · show (x.toBitVec >>> 48) &&& 255#64 = (x.toBitVec.sshiftRight 48) &&& 255#64
    exact bv64 _ 48 (by decide)
  · show (x.toBitVec >>> 56) &&& 255#64 = (x.toBitVec.sshiftRight 56) &&& 255#64
    exact bv64 _ 56 (by decide)
theorem and255 (x : Int32) : cnt (x &&& 255) 255 := by
  have h1 : (x &&& 255).toBitVec = x.toBitVec &&& 255#32 := rfl
  have h2 : (x.toBitVec &&& 255#32).toNat ≤ 255 := by rw [BitVec.toNat_and]; exact Nat.and_le_right
  generalize x.toBitVec &&& 255#32 = v at h1 h2
  have h3 : (x &&& 255) = I3 v.toNat := by
    rw [← Int32.toBitVec_inj, h1]
    show v = BitVec.ofNat 32 v.toNat
    rw [BitVec.ofNat_toNat, BitVec.setWidth_eq]
  rw [h3]
  exact cnt_up h2 (by decide)
theorem op_fault {h : sm_H} (x : Int32) (I : I0 h) : ∃ v h1 h2, F_285 x h = some (v, h1) ∧ F_467 x h1 = some (v, h2) ∧ I0 h2 := by
  obtain ⟨wK, cK, wT, cT, wH, cH, wM, cM, cR, cP, cG, cO, cV, wX, cX, cXh, cU, cY, cF, cZ⟩ := id I
  obtain ⟨f1, f2, f3, -⟩ := cF
  by_cases c0 : x = 0
  · subst c0; exact ⟨h.1 67 77, h, h, by simp only [F_285_0, F_285, F_164_0, F_164, if_true, Option.bind_some, f1], rfl, I⟩
  by_cases c1 : x = 1
  · subst c1; exact ⟨h.1 67 78, h, h, by simp only [F_285_0, F_285, F_164_0, F_164, if_true, if_neg c0, Option.bind_some, f2], rfl, I⟩
  by_cases c2 : x = 2
  · subst c2; exact ⟨h.1 67 91, h, h, by simp only [F_285_0, F_285, F_164_0, F_164, if_true, if_neg c0, if_neg c1, Option.bind_some, f3], rfl, I⟩
  exact ⟨-1, h, h, by simp only [F_285_0, F_285, F_164_0, F_164, if_neg c0, if_neg c1, if_neg c2, Option.bind_some], by simp only [F_467_36, F_467_0, F_467, if_neg c0, if_neg c1, if_neg c2], I⟩
def defAt (g : sm_H) (v : Int64) : Int32 := if fst1 (fun d => decide (g.2.1 113 d = v)) (nD g) < nD g then I3 (fst1 (fun d => decide (g.2.1 113 d = v)) (nD g)) else -1
theorem R_def {g : sm_H} (w : cnt (g.1 67 91) 60) (v : Int64) : F_443 v g = some (defAt g v, g) := by
  have e := w.1
  have e2 : nD g ≤ 60 := w.2
  have ⟨s1, s2, s3⟩ := fst1_spec (fun d => decide (g.2.1 113 d = v)) (nD g)
  unfold defAt
  generalize hm : fst1 (fun d => decide (g.2.1 113 d = v)) (nD g) = m at s1 s2 s3 ⊢
  show lp F_443_2B 1000000 (v, I3 0, g) = _
  refine lp_it m (fun k => (v, I3 k, g)) 1000000 (fun k hk => ?_) ?_ (by omega)
  · have z := s2 k hk
    simp only [decide_eq_false_iff_not] at z
    have e' : g.1 67 91 = I3 (nD g) := e
    simp (disch := omega) only [↓reduceIte, if_true, if_false, ite_self, Option.bind_some, Option.map_some, wI_rd, wJ_rd, wI_2, wJ_1, wJ_22, I3_lit, I3_add, I3_mul, I3_lt, I3_le, I3_inj, I3_nn', I3_n1, I3_n2, m2m1, ldI_I, ldJ_I, ldZ_I, stI_I, stJ_I, true_or, or_true, false_or, or_false, true_and, and_true, false_and, and_false, not_true_eq_false, not_false_eq_true, reduceCtorEq, Nat.reduceEqDiff, Nat.lt_irrefl, Nat.not_lt_zero, Nat.le_refl, Nat.reduceLT, Nat.reduceLeDiff, eq_self, zbbI, bbI0, bbI1, decide_eq_false_iff_not, decide_eq_true_eq, Bool.not_eq_false, Bool.not_eq_true, Bool.not_true, Bool.not_false, cond_true, cond_false, F_443_2B, e', show ¬ nD g ≤ k by omega, cmp_eq', z]
  · have e' : g.1 67 91 = I3 (nD g) := e
    by_cases c : m < nD g
    · have z := s3 c
      simp only [decide_eq_true_eq] at z
      simp (disch := omega) only [↓reduceIte, if_true, if_false, ite_self, Option.bind_some, Option.map_some, wI_rd, wJ_rd, wI_2, wJ_1, wJ_22, I3_lit, I3_add, I3_mul, I3_lt, I3_le, I3_inj, I3_nn', I3_n1, I3_n2, m2m1, ldI_I, ldJ_I, ldZ_I, stI_I, stJ_I, true_or, or_true, false_or, or_false, true_and, and_true, false_and, and_false, not_true_eq_false, not_false_eq_true, reduceCtorEq, Nat.reduceEqDiff, Nat.lt_irrefl, Nat.not_lt_zero, Nat.le_refl, Nat.reduceLT, Nat.reduceLeDiff, eq_self, zbbI, bbI0, bbI1, decide_eq_false_iff_not, decide_eq_true_eq, Bool.not_eq_false, Bool.not_eq_true, Bool.not_true, Bool.not_false, cond_true, cond_false, F_443_2B, e', show ¬ nD g ≤ m by omega, cmp_eq', z, c]
    · simp (disch := omega) only [↓reduceIte, if_true, if_false, ite_self, Option.bind_some, Option.map_some, wI_rd, wJ_rd, wI_2, wJ_1, wJ_22, I3_lit, I3_add, I3_mul, I3_lt, I3_le, I3_inj, I3_nn', I3_n1, I3_n2, m2m1, ldI_I, ldJ_I, ldZ_I, stI_I, stJ_I, true_or, or_true, false_or, or_false, true_and, and_true, false_and, and_false, not_true_eq_false, not_false_eq_true, reduceCtorEq, Nat.reduceEqDiff, Nat.lt_irrefl, Nat.not_lt_zero, Nat.le_refl, Nat.reduceLT, Nat.reduceLeDiff, eq_self, zbbI, bbI0, bbI1, decide_eq_false_iff_not, decide_eq_true_eq, Bool.not_eq_false, Bool.not_eq_true, Bool.not_true, Bool.not_false, cond_true, cond_false, F_443_2B, e', show nD g ≤ m by omega, c]
theorem C_def {h g : sm_H} (cF : cF h g) (v : Int64) : F_166 v h = some (defAt g v, h) := by
  have e2 : nD g ≤ 60 := cF.2.2.2.1.2
  have e' : h.1 55 15 = I3 (nD g) := cF.2.2.1.trans cF.2.2.2.1.1
  have ed : ∀ k, k < nD g → h.2.1 62 k = g.2.1 113 k := fun k hk => (cF.2.2.2.2 k hk).1
  have ⟨s1, s2, s3⟩ := fst1_spec (fun d => decide (g.2.1 113 d = v)) (nD g)
  unfold defAt
  generalize hm : fst1 (fun d => decide (g.2.1 113 d = v)) (nD g) = m at s1 s2 s3 ⊢
  show lp F_166_2B 1000000 (v, I3 0, h) = _
  refine lp_it m (fun k => (v, I3 k, h)) 1000000 (fun k hk => ?_) ?_ (by omega)
  · have z := s2 k hk
    simp only [decide_eq_false_iff_not] at z
    have ed := ed k (by omega)
    simp (disch := omega) only [↓reduceIte, if_true, if_false, ite_self, Option.bind_some, Option.map_some, wI_rd, wJ_rd, wI_2, wJ_1, wJ_22, I3_lit, I3_add, I3_mul, I3_lt, I3_le, I3_inj, I3_nn', I3_n1, I3_n2, m2m1, ldI_I, ldJ_I, ldZ_I, stI_I, stJ_I, true_or, or_true, false_or, or_false, true_and, and_true, false_and, and_false, not_true_eq_false, not_false_eq_true, reduceCtorEq, Nat.reduceEqDiff, Nat.lt_irrefl, Nat.not_lt_zero, Nat.le_refl, Nat.reduceLT, Nat.reduceLeDiff, eq_self, zbbI, bbI0, bbI1, decide_eq_false_iff_not, decide_eq_true_eq, Bool.not_eq_false, Bool.not_eq_true, Bool.not_true, Bool.not_false, cond_true, cond_false, F_166_2B, e', show ¬ nD g ≤ k by omega, cmp_eq', ed, z]
  · by_cases c : m < nD g
    · have z := s3 c
      simp only [decide_eq_true_eq] at z
      have ed := ed m c
      simp (disch := omega) only [↓reduceIte, if_true, if_false, ite_self, Option.bind_some, Option.map_some, wI_rd, wJ_rd, wI_2, wJ_1, wJ_22, I3_lit, I3_add, I3_mul, I3_lt, I3_le, I3_inj, I3_nn', I3_n1, I3_n2, m2m1, ldI_I, ldJ_I, ldZ_I, stI_I, stJ_I, true_or, or_true, false_or, or_false, true_and, and_true, false_and, and_false, not_true_eq_false, not_false_eq_true, reduceCtorEq, Nat.reduceEqDiff, Nat.lt_irrefl, Nat.not_lt_zero, Nat.le_refl, Nat.reduceLT, Nat.reduceLeDiff, eq_self, zbbI, bbI0, bbI1, decide_eq_false_iff_not, decide_eq_true_eq, Bool.not_eq_false, Bool.not_eq_true, Bool.not_true, Bool.not_false, cond_true, cond_false, F_166_2B, e', show ¬ nD g ≤ m by omega, cmp_eq', ed, z, c]
    · simp (disch := omega) only [↓reduceIte, if_true, if_false, ite_self, Option.bind_some, Option.map_some, wI_rd, wJ_rd, wI_2, wJ_1, wJ_22, I3_lit, I3_add, I3_mul, I3_lt, I3_le, I3_inj, I3_nn', I3_n1, I3_n2, m2m1, ldI_I, ldJ_I, ldZ_I, stI_I, stJ_I, true_or, or_true, false_or, or_false, true_and, and_true, false_and, and_false, not_true_eq_false, not_false_eq_true, reduceCtorEq, Nat.reduceEqDiff, Nat.lt_irrefl, Nat.not_lt_zero, Nat.le_refl, Nat.reduceLT, Nat.reduceLeDiff, eq_self, zbbI, bbI0, bbI1, decide_eq_false_iff_not, decide_eq_true_eq, Bool.not_eq_false, Bool.not_eq_true, Bool.not_true, Bool.not_false, cond_true, cond_false, F_166_2B, e', show nD g ≤ m by omega, c]
theorem defAt_c (g : sm_H) (v : Int64) (hD : nD g ≤ 60) : (∃ d, d < nD g ∧ defAt g v = I3 d) ∨ defAt g v = -1 := by
  unfold defAt
  by_cases c : fst1 (fun d => decide (g.2.1 113 d = v)) (nD g) < nD g
  · rw [if_pos c]; exact Or.inl ⟨_, c, rfl⟩
  · rw [if_neg c]; exact Or.inr rfl
def nmB (x : Int64) (k : Nat) : Int64 := (x >>> (Int32.toInt64 (I3 (8 * k)) &&& 63)) &&& 255
def nmF (x : Int64) : Nat → Int64 → Int64
  | 0, v => v
  | k + 1, v => nmF x k (if nmB x k = 0 then v else (v <<< (Int32.toInt64 8 &&& 63)) ||| nmB x k)
def nmS (k : Nat) : Int32 := if k = 0 then -8 else I3 (8 * (k - 1))
theorem nmS_1 {k : Nat} (hk : k < 8) : I3 (8 * k) + (-8 : Int32) = nmS k := by
  rcases (show k = 0 ∨ k = 1 ∨ k = 2 ∨ k = 3 ∨ k = 4 ∨ k = 5 ∨ k = 6 ∨ k = 7 by omega) with rfl | rfl | rfl | rfl | rfl | rfl | rfl | rfl <;> decide
theorem C_named {h g : sm_H} (cF : cF h g) (x : Int64) : ∀ (k : Nat), k ≤ 8 → ∀ (f : Nat) (v : Int64), k < f → lp F_165_6B f (x, v, nmS k, h) = some (if defAt g (nmF x k v) = -1 then -1 else g.1 114 (tn (defAt g (nmF x k v))), h) := by
  have e2 : nD g ≤ 60 := cF.2.2.2.1.2
  intro k
  induction k with
  | zero =>
    intro _ f v hf
    obtain ⟨f, rfl⟩ : ∃ q, f = q + 1 := ⟨f - 1, by omega⟩
    refine lp_0 ?_
    show (if (-8 : Int32) < 0 then _ else _) = _
    rw [if_pos (by decide), C_def cF]
    show (if defAt g v = -1 then _ else _) = _
    rcases defAt_c g v e2 with ⟨d, hd, e⟩ | e
    · rw [show nmF x 0 v = v from rfl, e, if_neg (I3_m1 (by omega)), if_neg (I3_m1 (by omega)), ldI_I (by omega) (by omega)]
      show some (Sum.inr (h.1 63 d, h)) = _
      unfold tn
      rw [I3_clamp (by omega), (cF.2.2.2.2 d hd).2.1]
    · rw [show nmF x 0 v = v from rfl, e, if_pos rfl, if_pos rfl]; rfl
  | succ k ih =>
    intro hk f v hf
    obtain ⟨f, rfl⟩ : ∃ q, f = q + 1 := ⟨f - 1, by omega⟩
    have es : nmS (k + 1) = I3 (8 * k) := by unfold nmS; rw [if_neg (by omega)]; rfl
    rw [es]
    refine (lp_1 (s' := (x, (if nmB x k = 0 then v else (v <<< (Int32.toInt64 8 &&& 63)) ||| nmB x k), nmS k, h)) ?_).trans (ih (by omega) f _ (by omega))
    have ne := named_eq x k (by omega)
    unfold F_165_6B
    rw [if_neg (I3_nn (by omega))]
    simp only [Option.bind_some, ne, cmp_eq, F_165_39, nmS_1 (show k < 8 by omega)]
    rw [show (x >>> ((I3 (8 * k)).toInt64 &&& 63)) &&& 255 = nmB x k from rfl]
    by_cases c : nmB x k = 0
    · rw [if_pos c, if_pos c]
    · rw [if_neg c, if_neg c]
theorem R_named {h g : sm_H} (cF : cF h g) (x : Int64) : ∀ (k : Nat), k ≤ 8 → ∀ (f : Nat) (v : Int64), k < f → lp F_468_6B f (x, v, nmS k, g) = some (if defAt g (nmF x k v) = -1 then -1 else g.1 114 (tn (defAt g (nmF x k v))), g) := by
  have e2 : nD g ≤ 60 := cF.2.2.2.1.2
  intro k
  induction k with
  | zero =>
    intro _ f v hf
    obtain ⟨f, rfl⟩ : ∃ q, f = q + 1 := ⟨f - 1, by omega⟩
    refine lp_0 ?_
    show (if (-8 : Int32) < 0 then _ else _) = _
    rw [if_pos (by decide), R_def cF.2.2.2.1]
    show (if defAt g v = -1 then _ else _) = _
    rcases defAt_c g v e2 with ⟨d, hd, e⟩ | e
    · rw [show nmF x 0 v = v from rfl, e, if_neg (I3_m1 (by omega)), if_neg (I3_m1 (by omega)), ldI_I (by omega) (by omega)]
      show some (Sum.inr (g.1 114 d, g)) = _
      unfold tn
      rw [I3_clamp (by omega)]
    · rw [show nmF x 0 v = v from rfl, e, if_pos rfl, if_pos rfl]; rfl
  | succ k ih =>
    intro hk f v hf
    obtain ⟨f, rfl⟩ : ∃ q, f = q + 1 := ⟨f - 1, by omega⟩
    have es : nmS (k + 1) = I3 (8 * k) := by unfold nmS; rw [if_neg (by omega)]; rfl
    rw [es]
    refine (lp_1 (s' := (x, (if nmB x k = 0 then v else (v <<< (Int32.toInt64 8 &&& 63)) ||| nmB x k), nmS k, g)) ?_).trans (ih (by omega) f _ (by omega))
    unfold F_468_6B
    rw [if_neg (I3_nn (by omega))]
    simp only [Option.bind_some, cmp_eq, F_468_36, nmS_1 (show k < 8 by omega)]
    rw [show (x >>> ((I3 (8 * k)).toInt64 &&& 63)) &&& 255 = nmB x k from rfl]
    by_cases c : nmB x k = 0
    · rw [if_pos c, if_pos c]
    · rw [if_neg c, if_neg c]
theorem op_named {h : sm_H} (x : Int64) (I : I0 h) : ∃ v h1 h2, F_286 x h = some (v, h1) ∧ F_468 x h1 = some (v, h2) ∧ I0 h2 := by
  obtain ⟨wK, cK, wT, cT, wH, cH, wM, cM, cR, cP, cG, cO, cV, wX, cX, cXh, cU, cY, cF, cZ⟩ := id I
  refine ⟨_, h, h, ?_, R_named cF x 8 (by omega) 1000000 0 (by omega), I⟩
  show ((lp F_165_6B 1000000 (x, 0, nmS 8, h)).bind _) = _
  rw [C_named cF x 8 (by omega) 1000000 0 (by omega)]
  rfl
theorem lp_s {σ ρ : Type} {body : σ → Option (σ ⊕ ρ)} {n : Nat} {s s' : σ} (hn : 0 < n) (e : body s = some (.inl s')) : lp body n s = lp body (n - 1) s' := by
  obtain ⟨n, rfl⟩ : ∃ m, n = m + 1 := ⟨n - 1, by omega⟩
  exact lp_1 e
theorem lp_e {σ ρ : Type} {body : σ → Option (σ ⊕ ρ)} {n : Nat} {s : σ} {r : ρ} (hn : 0 < n) (e : body s = some (.inr r)) : lp body n s = some r := by
  obtain ⟨n, rfl⟩ : ∃ m, n = m + 1 := ⟨n - 1, by omega⟩
  exact lp_0 e
def fB (x : Int32) (k : Nat) : Int32 := (x >>> ((24 - (8 * I3 k)) &&& 31)) &&& 255
theorem C_hold {h : sm_H} (x : Int32) {b : Nat} (hb : b ≤ 16) : F_238 (I3 b) x h = some (sm_wI (sm_wI (sm_wI (sm_wI h 54 b (fB x 0)) 54 (b + 1) (fB x 1)) 54 (b + 2) (fB x 2)) 54 (b + 3) (fB x 3)) := by
  have st : ∀ (k : Nat) (g : sm_H), k < 4 → F_238_2B (I3 b, x, I3 k, g) = some (.inl (I3 b, x, I3 (k + 1), sm_wI g 54 (b + k) (fB x k))) := by
    intro k g hk
    have e := feed_eq x k hk
    unfold F_238_2B
    dsimp only
    rw [if_neg (by rw [I3_lit, I3_le (by decide) (by omega)]; omega), if_neg (I3_nn (by omega)), if_neg (by rw [I3_add, I3_lit, I3_le (by decide) (by omega)]; omega), e, I3_add, stI_I (by omega) (by omega), show (I3 k + 1 : Int32) = I3 (k + 1) from I3_add k 1]
    rfl
  have en : ∀ (g : sm_H), F_238_2B (I3 b, x, I3 4, g) = some (.inr g) := by
    intro g
    unfold F_238_2B
    dsimp only
    rw [if_pos (by decide)]
    rfl
  show lp F_238_2B 1000000 (I3 b, x, I3 0, h) = _
  rw [lp_s (by omega) (st 0 _ (by decide)), lp_s (by omega) (st 1 _ (by decide)), lp_s (by omega) (st 2 _ (by decide)), lp_s (by omega) (st 3 _ (by decide)), lp_e (by omega) (en _)]
  rfl
theorem wI_wA (h : sm_H) (a k : Nat) (x : Int32) : sm_wI h a k x = wA h a (fun i => if i = k then x else h.1 a i) := rfl
def hold (f : Nat → Int32) (b : Nat) (x : Int32) : Nat → Int32 := fun i => if b ≤ i ∧ i < b + 4 then fB x (i - b) else f i
theorem C_holdA {h : sm_H} (f : Nat → Int32) (x : Int32) {b : Nat} (hb : b ≤ 16) : F_238 (I3 b) x (wA h 54 f) = some (wA h 54 (hold f b x)) := by
  rw [C_hold x hb, wA_wI, wA_wI, wA_wI, wA_wI]
  congr 2
  funext i
  unfold hold
  by_cases c3 : i = b + 3
  · subst c3; simp
  by_cases c2 : i = b + 2
  · subst c2; simp
  by_cases c1 : i = b + 1
  · subst c1; simp
  by_cases c0 : i = b
  · subst c0; simp
  simp only [c3, c2, c1, c0, if_false]
  rw [if_neg (by omega)]
def w5F (f : Nat → Int32) (x1 x2 x3 x4 x5 : Int32) (k : Nat) : Nat → Int32 := fun i => if i = 16 + k then fB x5 k else if i = 12 + k then fB x4 k else if i = 8 + k then fB x3 k else if i = 4 + k then fB x2 k else if i = k then fB x1 k else f i
theorem R_feed {g : sm_H} (f : Nat → Int32) (x1 x2 x3 x4 x5 : Int32) : F_411 x1 x2 x3 x4 x5 (wA g 111 f) = some (wA g 111 (w5F (w5F (w5F (w5F f x1 x2 x3 x4 x5 0) x1 x2 x3 x4 x5 1) x1 x2 x3 x4 x5 2) x1 x2 x3 x4 x5 3)) := by
  have st : ∀ (k : Nat) (f : Nat → Int32), k < 4 → F_411_3B (x1, x2, x3, x4, x5, I3 k, wA g 111 f) = some (.inl (x1, x2, x3, x4, x5, I3 (k + 1), wA g 111 (w5F f x1 x2 x3 x4 x5 k))) := by
    intro k f hk
    unfold F_411_3B
    dsimp only
    rw [if_neg (by rw [I3_lit, I3_le (by decide) (by omega)]; omega)]
    rw [stI_I (by omega) (by omega)]
    simp only [Option.bind_some]
    rw [show (4 : Int32) + I3 k = I3 (4 + k) from I3_add 4 k, show (8 : Int32) + I3 k = I3 (8 + k) from I3_add 8 k, show (12 : Int32) + I3 k = I3 (12 + k) from I3_add 12 k, show (16 : Int32) + I3 k = I3 (16 + k) from I3_add 16 k]
    rw [stI_I (by omega) (by omega)]
    simp only [Option.bind_some]
    rw [stI_I (by omega) (by omega)]
    simp only [Option.bind_some]
    rw [stI_I (by omega) (by omega)]
    simp only [Option.bind_some]
    rw [stI_I (by omega) (by omega), show (I3 k + 1 : Int32) = I3 (k + 1) from I3_add k 1, wA_wI, wA_wI, wA_wI, wA_wI, wA_wI]
    rfl
  have en : ∀ (f : Nat → Int32), F_411_3B (x1, x2, x3, x4, x5, I3 4, wA g 111 f) = some (.inr (wA g 111 f)) := by
    intro f
    unfold F_411_3B
    dsimp only
    rw [if_pos (by decide)]
  show lp F_411_3B 1000000 (x1, x2, x3, x4, x5, I3 0, wA g 111 f) = _
  rw [lp_s (by omega) (st 0 _ (by decide)), lp_s (by omega) (st 1 _ (by decide)), lp_s (by omega) (st 2 _ (by decide)), lp_s (by omega) (st 3 _ (by decide)), lp_e (by omega) (en _)]
def fedF (x1 x2 x3 x4 x5 : Int32) (i : Nat) : Int32 := if i < 4 then fB x1 i else if i < 8 then fB x2 (i - 4) else if i < 12 then fB x3 (i - 8) else if i < 16 then fB x4 (i - 12) else fB x5 (i - 16)
def hold5 (f : Nat → Int32) (x1 x2 x3 x4 x5 : Int32) : Nat → Int32 := hold (hold (hold (hold (hold f 0 x1) 4 x2) 8 x3) 12 x4) 16 x5
theorem C_feed1 {h h1 h2 h3 h4 h5 : sm_H} {x1 x2 x3 x4 x5 : Int32} (e1 : F_238 0 x1 h = some h1) (e2 : F_238 4 x2 h1 = some h2) (e3 : F_238 8 x3 h2 = some h3) (e4 : F_238 12 x4 h3 = some h4) (e5 : F_238 16 x5 h4 = some h5) : F_282 x1 x2 x3 x4 x5 h = some h5 := by
  show F_282_0 x1 x2 x3 x4 x5 h = _
  unfold F_282_0
  rw [e1, Option.bind_some, e2, Option.bind_some, e3, Option.bind_some, e4, Option.bind_some, e5, Option.bind_some]
theorem C_feed0 {h : sm_H} (x1 x2 x3 x4 x5 : Int32) : F_282 x1 x2 x3 x4 x5 h = some (wA h 54 (hold5 (h.1 54) x1 x2 x3 x4 x5)) := by
  have e0 := C_holdA (h := h) (h.1 54) x1 (b := 0) (by decide)
  rw [wA_self] at e0
  exact C_feed1 e0 (C_holdA _ x2 (b := 4) (by decide)) (C_holdA _ x3 (b := 8) (by decide)) (C_holdA _ x4 (b := 12) (by decide)) (C_holdA _ x5 (b := 16) (by decide))
theorem hold5_ok (f : Nat → Int32) (x1 x2 x3 x4 x5 : Int32) (i : Nat) (hi : i < 20) : hold5 f x1 x2 x3 x4 x5 i = fedF x1 x2 x3 x4 x5 i := by
  unfold fedF hold5 hold
  by_cases c1 : i < 4
  · rw [if_neg (by omega), if_neg (by omega), if_neg (by omega), if_neg (by omega), if_pos (by omega), if_pos c1]; rfl
  by_cases c2 : i < 8
  · rw [if_neg (by omega), if_neg (by omega), if_neg (by omega), if_pos (by omega), if_neg c1, if_pos c2]
  by_cases c3 : i < 12
  · rw [if_neg (by omega), if_neg (by omega), if_pos (by omega), if_neg c1, if_neg c2, if_pos c3]
  by_cases c4 : i < 16
  · rw [if_neg (by omega), if_pos (by omega), if_neg c1, if_neg c2, if_neg c3, if_pos c4]
  · rw [if_pos (by omega), if_neg c1, if_neg c2, if_neg c3, if_neg c4]
theorem w5_ok (f : Nat → Int32) (x1 x2 x3 x4 x5 : Int32) (i : Nat) (hi : i < 20) : w5F (w5F (w5F (w5F f x1 x2 x3 x4 x5 0) x1 x2 x3 x4 x5 1) x1 x2 x3 x4 x5 2) x1 x2 x3 x4 x5 3 i = fedF x1 x2 x3 x4 x5 i := by
  rcases (show i = 0 ∨ i = 1 ∨ i = 2 ∨ i = 3 ∨ i = 4 ∨ i = 5 ∨ i = 6 ∨ i = 7 ∨ i = 8 ∨ i = 9 ∨ i = 10 ∨ i = 11 ∨ i = 12 ∨ i = 13 ∨ i = 14 ∨ i = 15 ∨ i = 16 ∨ i = 17 ∨ i = 18 ∨ i = 19 by omega) with rfl | rfl | rfl | rfl | rfl | rfl | rfl | rfl | rfl | rfl | rfl | rfl | rfl | rfl | rfl | rfl | rfl | rfl | rfl | rfl <;> simp [w5F, fedF]
theorem op_feed {h : sm_H} (x1 x2 x3 x4 x5 : Int32) (I : I0 h) : ∃ h1 h2, F_282 x1 x2 x3 x4 x5 h = some h1 ∧ F_411 x1 x2 x3 x4 x5 h1 = some h2 ∧ I0 h2 := by
  obtain ⟨wK, cK, wT, cT, wH, cH, wM, cM, cR, cP, cG, cO, cV, wX, cX, cXh, cU, cY, cF, cZ⟩ := id I
  obtain ⟨y1, y2, y3, y4⟩ := cY
  have e1 := C_feed0 (h := h) x1 x2 x3 x4 x5
  have e3 := hold5_ok (h.1 54) x1 x2 x3 x4 x5
  generalize hold5 (h.1 54) x1 x2 x3 x4 x5 = P at e1 e3
  have e2 := R_feed (g := wA h 54 P) ((wA h 54 P).1 111) x1 x2 x3 x4 x5
  rw [wA_self] at e2
  have e4 := w5_ok ((wA h 54 P).1 111) x1 x2 x3 x4 x5
  generalize w5F (w5F (w5F (w5F ((wA h 54 P).1 111) x1 x2 x3 x4 x5 0) x1 x2 x3 x4 x5 1) x1 x2 x3 x4 x5 2) x1 x2 x3 x4 x5 3 = Q at e2 e4
  refine ⟨_, _, e1, e2, wK, cK, wT, cT, wH, cH, wM, cM, cR, cP, cG, cO, cV, wX, cX, cXh_fr (by repeat first | exact hi_rfl | refine hi_wI ?_ (by decide) | refine hi_wJ ?_ (by decide) | refine hi_wA ?_ (by decide)) cXh, cU, ⟨y1, y2, y3, fun k hk => ?_⟩, cF, cZ⟩
  show P k = Q k ∧ cnt (Q k) 255
  rw [e3 k hk, e4 k hk]
  refine ⟨rfl, ?_⟩
  unfold fedF fB
  (repeat' split) <;> exact and255 _
def txF (b f : Nat → Int32) (l n : Nat) : Nat → Int32 := fun j => if l ≤ j ∧ j < l + n then f (j - l) else b j
def clF (f : Nat → Int32) (i : Nat) : Nat → Int32 := fun j => if j < i then I3 0 else f j
def enS (h : sm_H) (l n i : Nat) : sm_H := sm_wI (wA (wA h 53 (txF (h.1 53) (h.1 54) l (min i n))) 54 (clF (h.1 54) i)) 52 1 (I3 (l + min i n))
theorem enS_rd (h : sm_H) (l n i b j : Nat) : (enS h l n i).1 b j = if b = 52 ∧ j = 1 then I3 (l + min i n) else if b = 54 then clF (h.1 54) i j else if b = 53 then txF (h.1 53) (h.1 54) l (min i n) j else h.1 b j := by
  unfold enS; rw [wI_rd, wA_rd, wA_rd]
theorem enS_2 (h : sm_H) (l n i : Nat) : (enS h l n i).2 = h.2 := rfl
theorem heap_ext {h h' : sm_H} (e : ∀ b j, h.1 b j = h'.1 b j) (e2 : h.2 = h'.2) : h = h' := Prod.ext (funext fun b => funext fun j => e b j) e2
theorem C_end1 {h : sm_H} {l n i : Nat} (hl : l + n ≤ 3000) (hi : i < 20) : F_239_26B (I3 n, I3 i, enS h l n i) = some (.inl (I3 n, I3 (i + 1), enS h l n (i + 1))) := by
  have r1 : (enS h l n i).1 52 1 = I3 (l + min i n) := by rw [enS_rd]; simp
  have r2 : (enS h l n i).1 54 i = h.1 54 i := by rw [enS_rd]; simp [clF]
  have hn : n < 2147483648 := by omega
  by_cases c : i < n
  · have e1 : sm_wI (sm_wI (sm_wI (enS h l n i) 53 (l + min i n) (h.1 54 i)) 52 1 (I3 (l + min i n + 1))) 54 i (I3 0) = enS h l n (i + 1) := by
      refine heap_ext (fun b j => ?_) rfl
      rw [wI_rd, wI_rd, wI_rd, enS_rd, enS_rd, show min i n = i by omega, show min (i + 1) n = i + 1 by omega]
      by_cases b54 : b = 54
      · subst b54
        simp only [true_and, clF, Nat.reduceEqDiff, false_and, if_false, if_true]
        by_cases q : j = i
        · rw [if_pos q, if_pos (by omega)]
        · rw [if_neg q]
          by_cases q2 : j < i
          · rw [if_pos q2, if_pos (by omega)]
          · rw [if_neg q2, if_neg (by omega)]
      by_cases b52 : b = 52
      · subst b52
        simp only [true_and, Nat.reduceEqDiff, false_and, if_false]
        by_cases q : j = 1
        · rw [if_pos q, if_pos q]; rfl
        · rw [if_neg q, if_neg q, if_neg q]
      by_cases b53 : b = 53
      · subst b53
        simp only [true_and, Nat.reduceEqDiff, false_and, if_false, if_true, txF]
        by_cases q : j = l + i
        · rw [if_pos q, if_pos (by omega), show j - l = i by omega]
        · rw [if_neg q]
          by_cases q2 : l ≤ j ∧ j < l + i
          · rw [if_pos q2, if_pos (by omega)]
          · rw [if_neg q2, if_neg (by omega)]
      simp only [b54, b52, b53, false_and, if_false]
    have m20 : ¬ 20 ≤ i := by omega
    have mni : ¬ n ≤ i := by omega
    have m3 : ¬ 3000 ≤ l + min i n := by omega
    simp (disch := omega) only [↓reduceIte, if_true, if_false, ite_self, Option.bind_some, Option.map_some, wI_rd, wJ_rd, wI_2, wJ_1, wJ_22, I3_lit, I3_add, I3_mul, I3_lt, I3_le, I3_inj, I3_nn', I3_n1, I3_n2, m2m1, ldI_I, ldJ_I, ldZ_I, stI_I, stJ_I, true_or, or_true, false_or, or_false, true_and, and_true, false_and, and_false, not_true_eq_false, not_false_eq_true, reduceCtorEq, Nat.reduceEqDiff, Nat.lt_irrefl, Nat.not_lt_zero, Nat.le_refl, Nat.reduceLT, Nat.reduceLeDiff, eq_self, zbbI, bbI0, bbI1, decide_eq_false_iff_not, decide_eq_true_eq, Bool.not_eq_false, Bool.not_eq_true, Bool.not_true, Bool.not_false, cond_true, cond_false, F_239_26B, F_239_72, m20, mni, m3, r1, r2, Nat.add_assoc]
    rw [← e1, Nat.add_assoc]
  · have e1 : sm_wI (enS h l n i) 54 i (I3 0) = enS h l n (i + 1) := by
      refine heap_ext (fun b j => ?_) rfl
      rw [wI_rd, enS_rd, enS_rd, show min i n = n by omega, show min (i + 1) n = n by omega]
      by_cases b54 : b = 54
      · subst b54
        simp only [true_and, clF, Nat.reduceEqDiff, false_and, if_false, if_true]
        by_cases q : j = i
        · rw [if_pos q, if_pos (by omega)]
        · rw [if_neg q]
          by_cases q2 : j < i
          · rw [if_pos q2, if_pos (by omega)]
          · rw [if_neg q2, if_neg (by omega)]
      simp only [b54, false_and, if_false]
    have m20 : ¬ 20 ≤ i := by omega
    have mni : n ≤ i := by omega
    simp (disch := omega) only [↓reduceIte, if_true, if_false, ite_self, Option.bind_some, Option.map_some, wI_rd, wJ_rd, wI_2, wJ_1, wJ_22, I3_lit, I3_add, I3_mul, I3_lt, I3_le, I3_inj, I3_nn', I3_n1, I3_n2, m2m1, ldI_I, ldJ_I, ldZ_I, stI_I, stJ_I, true_or, or_true, false_or, or_false, true_and, and_true, false_and, and_false, not_true_eq_false, not_false_eq_true, reduceCtorEq, Nat.reduceEqDiff, Nat.lt_irrefl, Nat.not_lt_zero, Nat.le_refl, Nat.reduceLT, Nat.reduceLeDiff, eq_self, zbbI, bbI0, bbI1, decide_eq_false_iff_not, decide_eq_true_eq, Bool.not_eq_false, Bool.not_eq_true, Bool.not_true, Bool.not_false, cond_true, cond_false, F_239_26B, F_239_72, m20, mni]
    rw [e1]
theorem C_end {h : sm_H} {l n : Nat} (el : h.1 52 1 = I3 l) (hl : l + n ≤ 3000) (hn : n ≤ 20) : F_239_26 (I3 n) 0 h = some (I3 (l + n), enS h l n 20) := by
  have e0 : enS h l n 0 = h := by
    refine heap_ext (fun b j => ?_) rfl
    rw [enS_rd]
    by_cases b52 : b = 52 ∧ j = 1
    · rw [if_pos b52, b52.1, b52.2, el]; simp
    rw [if_neg b52]
    by_cases b54 : b = 54
    · rw [if_pos b54, b54]; unfold clF; simp
    rw [if_neg b54]
    by_cases b53 : b = 53
    · rw [if_pos b53, b53]; unfold txF; rw [if_neg (by omega)]
    rw [if_neg b53]
  have r1 : (enS h l n 20).1 52 1 = I3 (l + n) := by rw [enS_rd]; simp [show min 20 n = n by omega]
  have z : lp F_239_26B 1000000 (I3 n, I3 0, enS h l n 0) = _ := lp_it (body := F_239_26B) (r := (I3 (l + n), enS h l n 20)) 20 (fun k => (I3 n, I3 k, enS h l n k)) 1000000 (fun k hk => C_end1 hl hk) (by simp (disch := omega) only [↓reduceIte, if_true, if_false, ite_self, Option.bind_some, Option.map_some, wI_rd, wJ_rd, wI_2, wJ_1, wJ_22, I3_lit, I3_add, I3_mul, I3_lt, I3_le, I3_inj, I3_nn', I3_n1, I3_n2, m2m1, ldI_I, ldJ_I, ldZ_I, stI_I, stJ_I, true_or, or_true, false_or, or_false, true_and, and_true, false_and, and_false, not_true_eq_false, not_false_eq_true, reduceCtorEq, Nat.reduceEqDiff, Nat.lt_irrefl, Nat.not_lt_zero, Nat.le_refl, Nat.reduceLT, Nat.reduceLeDiff, eq_self, zbbI, bbI0, bbI1, decide_eq_false_iff_not, decide_eq_true_eq, Bool.not_eq_false, Bool.not_eq_true, Bool.not_true, Bool.not_false, cond_true, cond_false, F_239_26B, r1]) (by omega)
  rw [e0] at z
  exact z
def reS (g : sm_H) (l i : Nat) : sm_H := wA g 112 (txF (g.1 112) (g.1 111) l i)
theorem reS_rd (g : sm_H) (l i b j : Nat) : (reS g l i).1 b j = if b = 112 then txF (g.1 112) (g.1 111) l i j else g.1 b j := by unfold reS; rw [wA_rd]
def rfS (g : sm_H) (l n i : Nat) : sm_H := sm_wI (wA (reS g l n) 111 (clF (g.1 111) i)) 67 76 (I3 (l + n))
theorem rfS_rd (g : sm_H) (l n i b j : Nat) : (rfS g l n i).1 b j = if b = 67 ∧ j = 76 then I3 (l + n) else if b = 111 then clF (g.1 111) i j else if b = 112 then txF (g.1 112) (g.1 111) l n j else g.1 b j := by
  unfold rfS; rw [wI_rd, wA_rd, reS_rd]
theorem R_end {g : sm_H} {l n : Nat} (el : g.1 67 76 = I3 l) (hl : l + n ≤ 3000) (hn : n ≤ 20) : F_412_26 (I3 n) 0 g = some (I3 (l + n), rfS g l n 20) := by
  have e0 : reS g l 0 = g := by
    refine heap_ext (fun b j => ?_) rfl
    rw [reS_rd]
    by_cases c : b = 112
    · rw [if_pos c, c]; unfold txF; rw [if_neg (by omega)]
    · rw [if_neg c]
  have e1 : sm_wI (reS g l n) 67 76 (I3 (l + n)) = rfS g l n 0 := by
    refine heap_ext (fun b j => ?_) rfl
    rw [wI_rd, rfS_rd, reS_rd]
    by_cases c : b = 67 ∧ j = 76
    · rw [if_pos c, if_pos c]
    rw [if_neg c, if_neg c]
    by_cases c1 : b = 111
    · subst c1; simp [clF]
    · rw [if_neg c1]
  have L2 : F_412_66 0 (rfS g l n 0) = some (I3 (l + n), rfS g l n 20) := by
    have r1 : (rfS g l n 20).1 67 76 = I3 (l + n) := by rw [rfS_rd]; simp
    refine lp_it (body := F_412_66B) 20 (fun k => (I3 k, rfS g l n k)) 1000000 (fun k hk => ?_) (by simp (disch := omega) only [↓reduceIte, if_true, if_false, ite_self, Option.bind_some, Option.map_some, wI_rd, wJ_rd, wI_2, wJ_1, wJ_22, I3_lit, I3_add, I3_mul, I3_lt, I3_le, I3_inj, I3_nn', I3_n1, I3_n2, m2m1, ldI_I, ldJ_I, ldZ_I, stI_I, stJ_I, true_or, or_true, false_or, or_false, true_and, and_true, false_and, and_false, not_true_eq_false, not_false_eq_true, reduceCtorEq, Nat.reduceEqDiff, Nat.lt_irrefl, Nat.not_lt_zero, Nat.le_refl, Nat.reduceLT, Nat.reduceLeDiff, eq_self, zbbI, bbI0, bbI1, decide_eq_false_iff_not, decide_eq_true_eq, Bool.not_eq_false, Bool.not_eq_true, Bool.not_true, Bool.not_false, cond_true, cond_false, F_412_66B, r1]) (by omega)
    have e2 : sm_wI (rfS g l n k) 111 k (I3 0) = rfS g l n (k + 1) := by
      refine heap_ext (fun b j => ?_) rfl
      rw [wI_rd, rfS_rd, rfS_rd]
      by_cases c : b = 67 ∧ j = 76
      · rw [if_neg (by omega), if_pos c, if_pos c]
      rw [if_neg c, if_neg c]
      by_cases c1 : b = 111
      · subst c1
        simp only [true_and, if_true, clF]
        by_cases q : j = k
        · rw [if_pos q, if_pos (by omega)]
        · rw [if_neg q]
          by_cases q2 : j < k
          · rw [if_pos q2, if_pos (by omega)]
          · rw [if_neg q2, if_neg (by omega)]
      · rw [if_neg (fun z => c1 z.1), if_neg c1, if_neg c1]
    have m20 : ¬ 20 ≤ k := by omega
    simp (disch := omega) only [↓reduceIte, if_true, if_false, ite_self, Option.bind_some, Option.map_some, wI_rd, wJ_rd, wI_2, wJ_1, wJ_22, I3_lit, I3_add, I3_mul, I3_lt, I3_le, I3_inj, I3_nn', I3_n1, I3_n2, m2m1, ldI_I, ldJ_I, ldZ_I, stI_I, stJ_I, true_or, or_true, false_or, or_false, true_and, and_true, false_and, and_false, not_true_eq_false, not_false_eq_true, reduceCtorEq, Nat.reduceEqDiff, Nat.lt_irrefl, Nat.not_lt_zero, Nat.le_refl, Nat.reduceLT, Nat.reduceLeDiff, eq_self, zbbI, bbI0, bbI1, decide_eq_false_iff_not, decide_eq_true_eq, Bool.not_eq_false, Bool.not_eq_true, Bool.not_true, Bool.not_false, cond_true, cond_false, F_412_66B, m20]
    rw [e2]
  have z : (∀ k, k < n → F_412_26B (I3 n, I3 k, reS g l k) = some (.inl (I3 n, I3 (k + 1), reS g l (k + 1)))) → F_412_26B (I3 n, I3 n, reS g l n) = some (.inr (I3 (l + n), rfS g l n 20)) → lp F_412_26B 1000000 (I3 n, I3 0, reS g l 0) = some (I3 (l + n), rfS g l n 20) := fun a b => lp_it (body := F_412_26B) n (fun k => (I3 n, I3 k, reS g l k)) 1000000 a b (by omega)
  rw [e0] at z
  refine z (fun k hk => ?_) ?_
  · have r1 : (reS g l k).1 67 76 = I3 l := by rw [reS_rd]; simp [el]
    have r2 : (reS g l k).1 111 k = g.1 111 k := by rw [reS_rd]; simp
    have e2 : sm_wI (reS g l k) 112 (l + k) (g.1 111 k) = reS g l (k + 1) := by
      refine heap_ext (fun b j => ?_) rfl
      rw [wI_rd, reS_rd, reS_rd]
      by_cases c1 : b = 112
      · subst c1
        simp only [true_and, if_true, txF]
        by_cases q : j = l + k
        · rw [if_pos q, if_pos (by omega), show j - l = k by omega]
        · rw [if_neg q]
          by_cases q2 : l ≤ j ∧ j < l + k
          · rw [if_pos q2, if_pos (by omega)]
          · rw [if_neg q2, if_neg (by omega)]
      · rw [if_neg (fun z => c1 z.1), if_neg c1, if_neg c1]
    have mn : ¬ n ≤ k := by omega
    simp (disch := omega) only [↓reduceIte, if_true, if_false, ite_self, Option.bind_some, Option.map_some, wI_rd, wJ_rd, wI_2, wJ_1, wJ_22, I3_lit, I3_add, I3_mul, I3_lt, I3_le, I3_inj, I3_nn', I3_n1, I3_n2, m2m1, ldI_I, ldJ_I, ldZ_I, stI_I, stJ_I, true_or, or_true, false_or, or_false, true_and, and_true, false_and, and_false, not_true_eq_false, not_false_eq_true, reduceCtorEq, Nat.reduceEqDiff, Nat.lt_irrefl, Nat.not_lt_zero, Nat.le_refl, Nat.reduceLT, Nat.reduceLeDiff, eq_self, zbbI, bbI0, bbI1, decide_eq_false_iff_not, decide_eq_true_eq, Bool.not_eq_false, Bool.not_eq_true, Bool.not_true, Bool.not_false, cond_true, cond_false, F_412_26B, mn, r1, r2]
    rw [e2]
  · have r1 : (reS g l n).1 67 76 = I3 l := by rw [reS_rd]; simp [el]
    have L2' : F_412_66 (I3 0) (rfS g l n 0) = some (I3 (l + n), rfS g l n 20) := L2
    simp (disch := omega) only [↓reduceIte, if_true, if_false, ite_self, Option.bind_some, Option.map_some, wI_rd, wJ_rd, wI_2, wJ_1, wJ_22, I3_lit, I3_add, I3_mul, I3_lt, I3_le, I3_inj, I3_nn', I3_n1, I3_n2, m2m1, ldI_I, ldJ_I, ldZ_I, stI_I, stJ_I, true_or, or_true, false_or, or_false, true_and, and_true, false_and, and_false, not_true_eq_false, not_false_eq_true, reduceCtorEq, Nat.reduceEqDiff, Nat.lt_irrefl, Nat.not_lt_zero, Nat.le_refl, Nat.reduceLT, Nat.reduceLeDiff, eq_self, zbbI, bbI0, bbI1, decide_eq_false_iff_not, decide_eq_true_eq, Bool.not_eq_false, Bool.not_eq_true, Bool.not_true, Bool.not_false, cond_true, cond_false, F_412_26B, r1, e1, L2']
theorem op_end {h : sm_H} (x : Int32) (I : I0 h) : ∃ v h1 h2, F_283 x h = some (v, h1) ∧ F_412 x h1 = some (v, h2) ∧ I0 h2 := by
  obtain ⟨wK, cK, wT, cT, wH, cH, wM, cM, cR, cP, cG, cO, cV, wX, cX, cXh, cU, cY, cF, cZ⟩ := id I
  obtain ⟨y1, y2, y3, y4⟩ := cY
  have y2' := y2
  obtain ⟨y5, y6⟩ := y2
  generalize hl : tn (h.1 67 76) = l at y5 y6
  have z1 : h.1 52 1 = I3 l := y1.trans y5
  rcases I3_cases x with ⟨n, hn, rfl⟩ | hx
  · by_cases c20 : n ≤ 20
    · by_cases c3 : l + n ≤ 3000
      · have E1 : lp F_239_26B 1000000 (I3 n, I3 0, h) = _ := C_end z1 c3 c20
        have E2 : lp F_412_26B 1000000 (I3 n, I3 0, enS h l n 20) = _ := R_end (g := enS h l n 20) (by rw [enS_rd]; simp; exact y5) c3 c20
        refine ⟨I3 (l + n), enS h l n 20, rfS (enS h l n 20) l n 20, ?_, ?_, wK, cK, wT, cT, wH, cH, wM, cM, cR, cP, cG, cO, cV, wX, cX, cXh_fr (by unfold rfS reS enS; repeat first | exact hi_rfl | refine hi_wI ?_ (by decide) | refine hi_wJ ?_ (by decide) | refine hi_wA ?_ (by decide)) cXh, cU, ⟨by rw [rfS_rd, enS_rd, rfS_rd]; simp [show min 20 n = n by omega], cnt_up (by omega) (by decide), fun k hk => ?_, fun k hk => ?_⟩, cF, cZ⟩
        · simp (disch := omega) only [F_283_0, F_283, F_239_72, F_239_26B, F_239_26, F_239_22, F_239_0, F_239, ↓reduceIte, if_true, if_false, ite_self, Option.bind_some, Option.map_some, wI_rd, wJ_rd, wI_2, wJ_1, wJ_22, I3_lit, I3_add, I3_mul, I3_lt, I3_le, I3_inj, I3_nn', I3_n1, I3_n2, m2m1, ldI_I, ldJ_I, ldZ_I, stI_I, stJ_I, true_or, or_true, false_or, or_false, true_and, and_true, false_and, and_false, not_true_eq_false, not_false_eq_true, reduceCtorEq, Nat.reduceEqDiff, Nat.lt_irrefl, Nat.not_lt_zero, Nat.le_refl, Nat.reduceLT, Nat.reduceLeDiff, eq_self, zbbI, bbI0, bbI1, decide_eq_false_iff_not, decide_eq_true_eq, Bool.not_eq_false, Bool.not_eq_true, Bool.not_true, Bool.not_false, cond_true, cond_false, z1, show ¬ 20 < n by omega, c3, E1]
        · have r1 : (enS h l n 20).1 67 76 = I3 l := by rw [enS_rd]; simp; exact y5
          simp (disch := omega) only [F_412_66B, F_412_66, F_412_26B, F_412_26, F_412_22, F_412_0, F_412, ↓reduceIte, if_true, if_false, ite_self, Option.bind_some, Option.map_some, wI_rd, wJ_rd, wI_2, wJ_1, wJ_22, I3_lit, I3_add, I3_mul, I3_lt, I3_le, I3_inj, I3_nn', I3_n1, I3_n2, m2m1, ldI_I, ldJ_I, ldZ_I, stI_I, stJ_I, true_or, or_true, false_or, or_false, true_and, and_true, false_and, and_false, not_true_eq_false, not_false_eq_true, reduceCtorEq, Nat.reduceEqDiff, Nat.lt_irrefl, Nat.not_lt_zero, Nat.le_refl, Nat.reduceLT, Nat.reduceLeDiff, eq_self, zbbI, bbI0, bbI1, decide_eq_false_iff_not, decide_eq_true_eq, Bool.not_eq_false, Bool.not_eq_true, Bool.not_true, Bool.not_false, cond_true, cond_false, r1, show ¬ 20 < n by omega, c3, E2]
        · have a1 : (rfS (enS h l n 20) l n 20).1 53 k = txF (h.1 53) (h.1 54) l n k := by
            rw [rfS_rd, enS_rd]; simp [show min 20 n = n by omega]
          have a2 : (rfS (enS h l n 20) l n 20).1 112 k = txF (h.1 112) (h.1 111) l n k := by
            rw [rfS_rd]; simp; rfl
          rw [a1, a2]
          unfold txF
          by_cases q : l ≤ k ∧ k < l + n
          · rw [if_pos q, if_pos q]; exact y4 (k - l) (by omega)
          · rw [if_neg q, if_neg q]; exact y3 k hk
        · have a1 : (rfS (enS h l n 20) l n 20).1 54 k = I3 0 := by
            rw [rfS_rd, enS_rd]; simp [clF, hk]
          have a2 : (rfS (enS h l n 20) l n 20).1 111 k = I3 0 := by
            rw [rfS_rd]; simp [clF, hk]
          rw [a1, a2]
          exact ⟨rfl, cnt_up (by omega) (by decide)⟩
      · refine ⟨-1, h, h, ?_, ?_, I⟩
        · simp (disch := omega) only [F_283_0, F_283, F_239_72, F_239_26B, F_239_26, F_239_22, F_239_0, F_239, ↓reduceIte, if_true, if_false, ite_self, Option.bind_some, Option.map_some, wI_rd, wJ_rd, wI_2, wJ_1, wJ_22, I3_lit, I3_add, I3_mul, I3_lt, I3_le, I3_inj, I3_nn', I3_n1, I3_n2, m2m1, ldI_I, ldJ_I, ldZ_I, stI_I, stJ_I, true_or, or_true, false_or, or_false, true_and, and_true, false_and, and_false, not_true_eq_false, not_false_eq_true, reduceCtorEq, Nat.reduceEqDiff, Nat.lt_irrefl, Nat.not_lt_zero, Nat.le_refl, Nat.reduceLT, Nat.reduceLeDiff, eq_self, zbbI, bbI0, bbI1, decide_eq_false_iff_not, decide_eq_true_eq, Bool.not_eq_false, Bool.not_eq_true, Bool.not_true, Bool.not_false, cond_true, cond_false, z1, show ¬ 20 < n by omega, c3]
        · simp (disch := omega) only [F_412_66B, F_412_66, F_412_26B, F_412_26, F_412_22, F_412_0, F_412, ↓reduceIte, if_true, if_false, ite_self, Option.bind_some, Option.map_some, wI_rd, wJ_rd, wI_2, wJ_1, wJ_22, I3_lit, I3_add, I3_mul, I3_lt, I3_le, I3_inj, I3_nn', I3_n1, I3_n2, m2m1, ldI_I, ldJ_I, ldZ_I, stI_I, stJ_I, true_or, or_true, false_or, or_false, true_and, and_true, false_and, and_false, not_true_eq_false, not_false_eq_true, reduceCtorEq, Nat.reduceEqDiff, Nat.lt_irrefl, Nat.not_lt_zero, Nat.le_refl, Nat.reduceLT, Nat.reduceLeDiff, eq_self, zbbI, bbI0, bbI1, decide_eq_false_iff_not, decide_eq_true_eq, Bool.not_eq_false, Bool.not_eq_true, Bool.not_true, Bool.not_false, cond_true, cond_false, y5, show ¬ 20 < n by omega, c3]
    · refine ⟨-1, h, h, ?_, ?_, I⟩
      · simp (disch := omega) only [F_283_0, F_283, F_239_72, F_239_26B, F_239_26, F_239_22, F_239_0, F_239, ↓reduceIte, if_true, if_false, ite_self, Option.bind_some, Option.map_some, wI_rd, wJ_rd, wI_2, wJ_1, wJ_22, I3_lit, I3_add, I3_mul, I3_lt, I3_le, I3_inj, I3_nn', I3_n1, I3_n2, m2m1, ldI_I, ldJ_I, ldZ_I, stI_I, stJ_I, true_or, or_true, false_or, or_false, true_and, and_true, false_and, and_false, not_true_eq_false, not_false_eq_true, reduceCtorEq, Nat.reduceEqDiff, Nat.lt_irrefl, Nat.not_lt_zero, Nat.le_refl, Nat.reduceLT, Nat.reduceLeDiff, eq_self, zbbI, bbI0, bbI1, decide_eq_false_iff_not, decide_eq_true_eq, Bool.not_eq_false, Bool.not_eq_true, Bool.not_true, Bool.not_false, cond_true, cond_false, z1, show 20 < n by omega]
      · simp (disch := omega) only [F_412_66B, F_412_66, F_412_26B, F_412_26, F_412_22, F_412_0, F_412, ↓reduceIte, if_true, if_false, ite_self, Option.bind_some, Option.map_some, wI_rd, wJ_rd, wI_2, wJ_1, wJ_22, I3_lit, I3_add, I3_mul, I3_lt, I3_le, I3_inj, I3_nn', I3_n1, I3_n2, m2m1, ldI_I, ldJ_I, ldZ_I, stI_I, stJ_I, true_or, or_true, false_or, or_false, true_and, and_true, false_and, and_false, not_true_eq_false, not_false_eq_true, reduceCtorEq, Nat.reduceEqDiff, Nat.lt_irrefl, Nat.not_lt_zero, Nat.le_refl, Nat.reduceLT, Nat.reduceLeDiff, eq_self, zbbI, bbI0, bbI1, decide_eq_false_iff_not, decide_eq_true_eq, Bool.not_eq_false, Bool.not_eq_true, Bool.not_true, Bool.not_false, cond_true, cond_false, y5, show 20 < n by omega]
  · have lt0 : x < I3 0 := hx
    refine ⟨-1, h, h, ?_, ?_, I⟩
    · simp (disch := omega) only [F_283_0, F_283, F_239_72, F_239_26B, F_239_26, F_239_22, F_239_0, F_239, ↓reduceIte, if_true, if_false, ite_self, Option.bind_some, Option.map_some, wI_rd, wJ_rd, wI_2, wJ_1, wJ_22, I3_lit, I3_add, I3_mul, I3_lt, I3_le, I3_inj, I3_nn', I3_n1, I3_n2, m2m1, ldI_I, ldJ_I, ldZ_I, stI_I, stJ_I, true_or, or_true, false_or, or_false, true_and, and_true, false_and, and_false, not_true_eq_false, not_false_eq_true, reduceCtorEq, Nat.reduceEqDiff, Nat.lt_irrefl, Nat.not_lt_zero, Nat.le_refl, Nat.reduceLT, Nat.reduceLeDiff, eq_self, zbbI, bbI0, bbI1, decide_eq_false_iff_not, decide_eq_true_eq, Bool.not_eq_false, Bool.not_eq_true, Bool.not_true, Bool.not_false, cond_true, cond_false, lt0]
    · simp (disch := omega) only [F_412_66B, F_412_66, F_412_26B, F_412_26, F_412_22, F_412_0, F_412, ↓reduceIte, if_true, if_false, ite_self, Option.bind_some, Option.map_some, wI_rd, wJ_rd, wI_2, wJ_1, wJ_22, I3_lit, I3_add, I3_mul, I3_lt, I3_le, I3_inj, I3_nn', I3_n1, I3_n2, m2m1, ldI_I, ldJ_I, ldZ_I, stI_I, stJ_I, true_or, or_true, false_or, or_false, true_and, and_true, false_and, and_false, not_true_eq_false, not_false_eq_true, reduceCtorEq, Nat.reduceEqDiff, Nat.lt_irrefl, Nat.not_lt_zero, Nat.le_refl, Nat.reduceLT, Nat.reduceLeDiff, eq_self, zbbI, bbI0, bbI1, decide_eq_false_iff_not, decide_eq_true_eq, Bool.not_eq_false, Bool.not_eq_true, Bool.not_true, Bool.not_false, cond_true, cond_false, lt0]
def isTh (h : sm_H) (o p q sz : Nat) : Prop := sm_is G0 h o 8 = true ∧ sm_rr G0 h o 0 = some p ∧ sm_rr G0 h o 1 = some q ∧ sm_is G0 h p 101 = true ∧ sm_ln G0 h p = sz ∧ sm_is G0 h q 100 = true ∧ sm_ln G0 h q = sz ∧ p < 1000000 ∧ q < 1000000 ∧ sz ≤ 100
theorem th29 (h : sm_H) : isTh h 29 30 31 100 := ⟨rfl, rfl, rfl, rfl, rfl, rfl, rfl, by decide, by decide, by decide⟩
theorem th23 (h : sm_H) : isTh h 23 24 25 100 := ⟨rfl, rfl, rfl, rfl, rfl, rfl, rfl, by decide, by decide, by decide⟩
theorem th26 (h : sm_H) : isTh h 26 27 28 0 := ⟨rfl, rfl, rfl, rfl, rfl, rfl, rfl, by decide, by decide, by decide⟩
theorem alD_ar {h : sm_H} {p : Nat} (hp : p < 1000000) (hc : sm_is G0 h p 100 = true ∨ sm_is G0 h p 101 = true) : alD h p = some (I3 (sm_ln G0 h p)) := by
  unfold alD sm_al
  have e : Nat.ble 1000000 p = false := by
    cases q : Nat.ble 1000000 p with
    | false => rfl
    | true => have := Nat.le_of_ble_eq_true q; omega
  rw [e]
  show (bif sm_live G0 h p && (Nat.ble 100 (sm_cl G0 h p) && Nat.blt (sm_cl G0 h p) 104) then some (Int32.ofNat (sm_ln G0 h p)) else none) = _
  rcases hc with hc | hc
  · unfold sm_is at hc
    simp only [Bool.and_eq_true] at hc
    rw [hc.1, Nat.eq_of_beq_eq_true hc.2]
    rfl
  · unfold sm_is at hc
    simp only [Bool.and_eq_true] at hc
    rw [hc.1, Nat.eq_of_beq_eq_true hc.2]
    rfl
theorem ldD_ar {h : sm_H} {p k : Nat} (hp : p < 1000000) (hc : sm_is G0 h p 100 = true) (hk : k < sm_ln G0 h p) (hs : sm_ln G0 h p ≤ 100) : ldD h p (I3 k) = some (h.1 p k) := by
  unfold ldD sm_ldI
  have e : Nat.ble 1000000 p = false := by
    cases q : Nat.ble 1000000 p with
    | false => rfl
    | true => have := Nat.le_of_ble_eq_true q; omega
  rw [e, hc]
  show (if sm_in (I3 k) (sm_ln G0 h p) then some (h.1 p (I3 k).toNatClampNeg) else none) = _
  rw [if_pos (sm_in_I3 hk (by omega)), I3_clamp (by omega)]
theorem ldDJ_ar {h : sm_H} {p k : Nat} (hp : p < 1000000) (hc : sm_is G0 h p 101 = true) (hk : k < sm_ln G0 h p) (hs : sm_ln G0 h p ≤ 100) : ldDJ h p (I3 k) = some (h.2.1 p k) := by
  unfold ldDJ sm_ldJ
  have e : Nat.ble 2000000 p = false := by
    cases q : Nat.ble 2000000 p with
    | false => rfl
    | true => have := Nat.le_of_ble_eq_true q; omega
  rw [e, hc]
  show (if sm_in (I3 k) (sm_ln G0 h p) then some (h.2.1 p (I3 k).toNatClampNeg) else none) = _
  rw [if_pos (sm_in_I3 hk (by omega)), I3_clamp (by omega)]
theorem C_thsz {h : sm_H} {o p q sz : Nat} (t : isTh h o p q sz) : F_216 o h = some (I3 sz, h) := by
  obtain ⟨t1, t2, t3, t4, t5, t6, t7, t8, t9, t10⟩ := t
  have a := alD_ar t8 (Or.inr t4)
  rw [t5] at a
  simp (disch := omega) only [F_216_0, F_216, ↓reduceIte, if_true, if_false, ite_self, Option.bind_some, Option.map_some, wI_rd, wJ_rd, wI_2, wJ_1, wJ_22, I3_lit, I3_add, I3_mul, I3_lt, I3_le, I3_inj, I3_nn', I3_n1, I3_n2, m2m1, ldI_I, ldJ_I, ldZ_I, stI_I, stJ_I, true_or, or_true, false_or, or_false, true_and, and_true, false_and, and_false, not_true_eq_false, not_false_eq_true, reduceCtorEq, Nat.reduceEqDiff, Nat.lt_irrefl, Nat.not_lt_zero, Nat.le_refl, Nat.reduceLT, Nat.reduceLeDiff, eq_self, zbbI, bbI0, bbI1, decide_eq_false_iff_not, decide_eq_true_eq, Bool.not_eq_false, Bool.not_eq_true, Bool.not_true, Bool.not_false, cond_true, cond_false, t1, t2, a]
theorem C_thhas {h : sm_H} {o p q sz : Nat} (t : isTh h o p q sz) (x : Int32) : F_217 o x h = some (b2 (inR x sz), h) := by
  obtain ⟨t1, t2, t3, t4, t5, t6, t7, t8, t9, t10⟩ := t
  have a := alD_ar t8 (Or.inr t4)
  rw [t5] at a
  rcases I3_cases x with ⟨k, hk, rfl⟩ | hx
  · rw [inR_I hk]
    by_cases c : k < sz
    · simp (disch := omega) only [F_217_18, F_217_17, F_217_0, F_217, ↓reduceIte, if_true, if_false, ite_self, Option.bind_some, Option.map_some, wI_rd, wJ_rd, wI_2, wJ_1, wJ_22, I3_lit, I3_add, I3_mul, I3_lt, I3_le, I3_inj, I3_nn', I3_n1, I3_n2, m2m1, ldI_I, ldJ_I, ldZ_I, stI_I, stJ_I, true_or, or_true, false_or, or_false, true_and, and_true, false_and, and_false, not_true_eq_false, not_false_eq_true, reduceCtorEq, Nat.reduceEqDiff, Nat.lt_irrefl, Nat.not_lt_zero, Nat.le_refl, Nat.reduceLT, Nat.reduceLeDiff, eq_self, zbbI, bbI0, bbI1, decide_eq_false_iff_not, decide_eq_true_eq, Bool.not_eq_false, Bool.not_eq_true, Bool.not_true, Bool.not_false, cond_true, cond_false, t1, t2, a, show ¬ sz ≤ k by omega, c, decide_true]; rfl
    · simp (disch := omega) only [F_217_18, F_217_17, F_217_0, F_217, ↓reduceIte, if_true, if_false, ite_self, Option.bind_some, Option.map_some, wI_rd, wJ_rd, wI_2, wJ_1, wJ_22, I3_lit, I3_add, I3_mul, I3_lt, I3_le, I3_inj, I3_nn', I3_n1, I3_n2, m2m1, ldI_I, ldJ_I, ldZ_I, stI_I, stJ_I, true_or, or_true, false_or, or_false, true_and, and_true, false_and, and_false, not_true_eq_false, not_false_eq_true, reduceCtorEq, Nat.reduceEqDiff, Nat.lt_irrefl, Nat.not_lt_zero, Nat.le_refl, Nat.reduceLT, Nat.reduceLeDiff, eq_self, zbbI, bbI0, bbI1, decide_eq_false_iff_not, decide_eq_true_eq, Bool.not_eq_false, Bool.not_eq_true, Bool.not_true, Bool.not_false, cond_true, cond_false, t1, t2, a, show sz ≤ k by omega, c, decide_false]; rfl
  · have lt0 : x < I3 0 := hx
    rcases inR_c x sz (by omega) with ⟨k, h1, h2, h3⟩ | h3
    · exact absurd h2 (neg_ne_I3 hx (by omega))
    · rw [h3]; simp (disch := omega) only [F_217_18, F_217_17, F_217_0, F_217, ↓reduceIte, if_true, if_false, ite_self, Option.bind_some, Option.map_some, wI_rd, wJ_rd, wI_2, wJ_1, wJ_22, I3_lit, I3_add, I3_mul, I3_lt, I3_le, I3_inj, I3_nn', I3_n1, I3_n2, m2m1, ldI_I, ldJ_I, ldZ_I, stI_I, stJ_I, true_or, or_true, false_or, or_false, true_and, and_true, false_and, and_false, not_true_eq_false, not_false_eq_true, reduceCtorEq, Nat.reduceEqDiff, Nat.lt_irrefl, Nat.not_lt_zero, Nat.le_refl, Nat.reduceLT, Nat.reduceLeDiff, eq_self, zbbI, bbI0, bbI1, decide_eq_false_iff_not, decide_eq_true_eq, Bool.not_eq_false, Bool.not_eq_true, Bool.not_true, Bool.not_false, cond_true, cond_false, lt0]; rfl
theorem C_thnum {h : sm_H} {o p q sz : Nat} (t : isTh h o p q sz) {k : Nat} (hk : k < sz) : F_218 o (I3 k) h = some (h.2.1 p k, h) := by
  obtain ⟨t1, t2, t3, t4, t5, t6, t7, t8, t9, t10⟩ := t
  have a := alD_ar t8 (Or.inr t4)
  rw [t5] at a
  have l := ldDJ_ar t8 t4 (k := k) (by omega) (by omega)
  simp (disch := omega) only [F_218_23, F_218_22, F_218_0, F_218, ↓reduceIte, if_true, if_false, ite_self, Option.bind_some, Option.map_some, wI_rd, wJ_rd, wI_2, wJ_1, wJ_22, I3_lit, I3_add, I3_mul, I3_lt, I3_le, I3_inj, I3_nn', I3_n1, I3_n2, m2m1, ldI_I, ldJ_I, ldZ_I, stI_I, stJ_I, true_or, or_true, false_or, or_false, true_and, and_true, false_and, and_false, not_true_eq_false, not_false_eq_true, reduceCtorEq, Nat.reduceEqDiff, Nat.lt_irrefl, Nat.not_lt_zero, Nat.le_refl, Nat.reduceLT, Nat.reduceLeDiff, eq_self, zbbI, bbI0, bbI1, decide_eq_false_iff_not, decide_eq_true_eq, Bool.not_eq_false, Bool.not_eq_true, Bool.not_true, Bool.not_false, cond_true, cond_false, t1, t2, a, show ¬ sz ≤ k by omega, l]
theorem C_thtag {h : sm_H} {o p q sz : Nat} (t : isTh h o p q sz) {k : Nat} (hk : k < sz) : F_219 o (I3 k) h = some (h.1 q k, h) := by
  obtain ⟨t1, t2, t3, t4, t5, t6, t7, t8, t9, t10⟩ := t
  have a := alD_ar t9 (Or.inl t6)
  rw [t7] at a
  have l := ldD_ar t9 t6 (k := k) (by omega) (by omega)
  simp (disch := omega) only [F_219_23, F_219_22, F_219_0, F_219, ↓reduceIte, if_true, if_false, ite_self, Option.bind_some, Option.map_some, wI_rd, wJ_rd, wI_2, wJ_1, wJ_22, I3_lit, I3_add, I3_mul, I3_lt, I3_le, I3_inj, I3_nn', I3_n1, I3_n2, m2m1, ldI_I, ldJ_I, ldZ_I, stI_I, stJ_I, true_or, or_true, false_or, or_false, true_and, and_true, false_and, and_false, not_true_eq_false, not_false_eq_true, reduceCtorEq, Nat.reduceEqDiff, Nat.lt_irrefl, Nat.not_lt_zero, Nat.le_refl, Nat.reduceLT, Nat.reduceLeDiff, eq_self, zbbI, bbI0, bbI1, decide_eq_false_iff_not, decide_eq_true_eq, Bool.not_eq_false, Bool.not_eq_true, Bool.not_true, Bool.not_false, cond_true, cond_false, t1, t3, a, show ¬ sz ≤ k by omega, l]
theorem C_thchg {h : sm_H} {o p q sz : Nat} (t : isTh h o p q sz) {k : Nat} (hk : k < sz) (n : Int64) (g : Int32) : F_221 o (I3 k) n g h = some (sm_wI (sm_wJ h p k n) q k g) := by
  have hh := C_thhas t (I3 k)
  rw [inR_I (by have := t.2.2.2.2.2.2.2.2.2; omega)] at hh
  obtain ⟨t1, t2, t3, t4, t5, t6, t7, t8, t9, t10⟩ := t
  have s1 : sm_stJ G0 h p (I3 k) n = some (sm_wJ h p k n) := by
    unfold sm_stJ
    rw [t4]
    show (if sm_in (I3 k) (sm_ln G0 h p) then some (sm_wJ h p (I3 k).toNatClampNeg n) else none) = _
    rw [if_pos (sm_in_I3 (by omega) (by omega)), I3_clamp (by omega)]
  have s2 : sm_stI G0 (sm_wJ h p k n) q (I3 k) g = some (sm_wI (sm_wJ h p k n) q k g) := by
    unfold sm_stI
    rw [show sm_is G0 (sm_wJ h p k n) q 100 = true from t6]
    show (if sm_in (I3 k) (sm_ln G0 h q) then some (sm_wI (sm_wJ h p k n) q (I3 k).toNatClampNeg g) else none) = _
    rw [if_pos (sm_in_I3 (by omega) (by omega)), I3_clamp (by omega)]
  have t1' : sm_is G0 (sm_wJ h p k n) o 8 = true := t1
  have t3' : sm_rr G0 (sm_wJ h p k n) o 1 = some q := t3
  simp (disch := omega) only [F_221_23, F_221_0, F_221, ↓reduceIte, if_true, if_false, ite_self, Option.bind_some, Option.map_some, wI_rd, wJ_rd, wI_2, wJ_1, wJ_22, I3_lit, I3_add, I3_mul, I3_lt, I3_le, I3_inj, I3_nn', I3_n1, I3_n2, m2m1, ldI_I, ldJ_I, ldZ_I, stI_I, stJ_I, true_or, or_true, false_or, or_false, true_and, and_true, false_and, and_false, not_true_eq_false, not_false_eq_true, reduceCtorEq, Nat.reduceEqDiff, Nat.lt_irrefl, Nat.not_lt_zero, Nat.le_refl, Nat.reduceLT, Nat.reduceLeDiff, eq_self, zbbI, bbI0, bbI1, decide_eq_false_iff_not, decide_eq_true_eq, Bool.not_eq_false, Bool.not_eq_true, Bool.not_true, Bool.not_false, cond_true, cond_false, t1, t2, hh, hk, decide_true, s1, s2, t1', t3']
theorem I6_toInt {n : Nat} (h : n < 2147483648) : (I6 n).toInt = (n : Int) := Int64.toInt_ofNat_of_lt (by omega)
theorem I6_32 {n : Nat} : Int64.toInt32 (I6 n) = I3 n := by
  unfold I6 I3
  exact Int64.toInt32_ofNat ..
theorem I3_64 {n : Nat} (h : n < 2147483648) : Int32.toInt64 (I3 n) = I6 n := by
  rw [← Int64.toInt_inj, toI64, I3_toInt h, I6_toInt h]
theorem is_live {h : sm_H} {o c : Nat} (h1 : 131 ≤ o) (h2 : o < 131 + h.2.2.2.2.2.1) (h3 : h.2.2.2.1 o = c) : sm_is G0 h o c = true := by
  unfold sm_is sm_live sm_cl
  have e : Nat.blt o G0.1 = false := by
    cases q : Nat.blt o G0.1 with
    | false => rfl
    | true => have := Nat.blt_eq.mp q; have e131 : G0.1 = 131 := rfl; omega
  have e2 : Nat.blt o (G0.1 + h.2.2.2.2.2.1) = true := Nat.blt_eq.mpr h2
  rw [e]
  show ((false || Nat.blt o (G0.1 + h.2.2.2.2.2.1)) && Nat.beq (h.2.2.2.1 o) c) = true
  rw [e2, h3, Nat.beq_refl]; rfl
theorem fr_hi {o k : Nat} (h1 : 131 ≤ o) : G0.2.2.2.1 o k = none := by
  show (P_fr.getD o []).getD k none = none
  rw [List.getD_eq_getElem?_getD (l := P_fr), List.getElem?_eq_none (Nat.le_trans (by decide +kernel) h1)]
  rfl
theorem rr_hi {h : sm_H} {o k : Nat} (h1 : 131 ≤ o) : sm_rr G0 h o k = h.2.2.1 o k := by
  unfold sm_rr; rw [fr_hi h1]
theorem ln_hi {h : sm_H} {o : Nat} (h1 : 131 ≤ o) : sm_ln G0 h o = h.2.2.2.2.1 o := by
  unfold sm_ln
  have e : Nat.blt o G0.1 = false := by
    cases q : Nat.blt o G0.1 with
    | false => rfl
    | true => have := Nat.blt_eq.mp q; have e131 : G0.1 = 131 := rfl; omega
  rw [e]; rfl
theorem szX_le {g : sm_H} (wX : wfX g) {t : Nat} (ht : t < nX g) : szX g t ≤ 100 := by
  have := (wX.2.1 t ht).1.2
  unfold szX
  split <;> omega
theorem thX {h g : sm_H} (wX : wfX g) (c : cXh h g) {t : Nat} (ht : t < nX g) : isTh h (131 + 3 * t) (132 + 3 * t) (133 + 3 * t) (szX g t) := by
  have x1 : nX g ≤ 1000 := wX.1.2
  obtain ⟨c1, -, c2⟩ := c
  obtain ⟨d1, d2, d3, d4, d5, d6, d7, d8, d9⟩ := c2 t ht
  exact ⟨is_live (by omega) (by rw [c1]; omega) d2, (rr_hi (by omega)).trans d3, (rr_hi (by omega)).trans d4, is_live (by omega) (by rw [c1]; omega) d5, (ln_hi (by omega)).trans d7, is_live (by omega) (by rw [c1]; omega) d6, (ln_hi (by omega)).trans d8, by omega, by omega, szX_le wX ht⟩
theorem C_thing {h g : sm_H} (wX : wfX g) (cX : cX h g) (c : cXh h g) {t : Nat} (ht : t < nX g) : F_147 (I6 t) h = some (131 + 3 * t, h) := by
  have x1 : nX g ≤ 1000 := wX.1.2
  have e1 : h.1 21 2 = I3 (nX g) := cX.1.trans wX.1.1
  have l : sm_ldR G0 h 22 (I3 t) = some (some (131 + 3 * t)) := by
    have d1 := (c.2.2 t ht).1
    show (if sm_in (I3 t) 1000 then some (h.2.2.1 22 (I3 t).toNatClampNeg) else none) = _
    rw [if_pos (sm_in_I3 (by omega) (by omega)), I3_clamp (by omega), d1]
  have e0 : (0 : Int64).toInt = 0 := rfl
  show F_147_0 (I6 t) h = _
  unfold F_147_0
  rw [if_neg (by rw [cmp_lt, I6_toInt (by omega), e0]; omega), e1, if_pos (by rw [cmp_lt, I6_toInt (by omega), toI64, I3_toInt (by omega)]; omega), I6_32, l]
  rfl
theorem C_thing0 {h g : sm_H} (wX : wfX g) (cX : cX h g) : F_147 (Int32.toInt64 (-1)) h = some (26, h) := by
  show F_147_0 _ h = _
  unfold F_147_0
  rw [if_pos (by rw [cmp_lt]; decide)]
  rfl
theorem R_toldOf {g : sm_H} (wX : wfX g) {q : Nat} (hq : q < 2147483648) {n : Int64} (ho : okO g q n ∨ q = 0) : F_406 (I3 q) n g = some (if 15 ≤ q ∧ q ≤ 17 then Int32.toInt64 (g.1 97 (tn (Int64.toInt32 n))) else if 20 ≤ q then 0 else n, g) := by
  have x1 : nX g ≤ 1000 := wX.1.2
  have RR := R_isRow (h := g) (a := q) hq
  by_cases c : 15 ≤ q ∧ q ≤ 17
  · rw [decide_eq_true c] at RR
    rw [if_pos c]
    have ho := ho.resolve_right (by omega)
    rcases ho with h1 | ⟨h1, t, h2, h3, h4⟩ | h1 | h1
    · omega
    · subst h3
      rw [I6_32]
      unfold tn
      rw [I3_clamp (by omega)]
      simp (disch := omega) only [F_406_27, F_406_0, F_406, ↓reduceIte, if_true, if_false, ite_self, Option.bind_some, Option.map_some, wI_rd, wJ_rd, wI_2, wJ_1, wJ_22, I3_lit, I3_add, I3_mul, I3_lt, I3_le, I3_inj, I3_nn', I3_n1, I3_n2, m2m1, ldI_I, ldJ_I, ldZ_I, stI_I, stJ_I, true_or, or_true, false_or, or_false, true_and, and_true, false_and, and_false, not_true_eq_false, not_false_eq_true, reduceCtorEq, Nat.reduceEqDiff, Nat.lt_irrefl, Nat.not_lt_zero, Nat.le_refl, Nat.reduceLT, Nat.reduceLeDiff, eq_self, zbbI, bbI0, bbI1, decide_eq_false_iff_not, decide_eq_true_eq, Bool.not_eq_false, Bool.not_eq_true, Bool.not_true, Bool.not_false, cond_true, cond_false, RR, I6_32]
    · omega
    · omega
  · rw [decide_eq_false c] at RR
    rw [if_neg c]
    by_cases d : 20 ≤ q
    · rw [if_pos d]; simp (disch := omega) only [F_406_27, F_406_0, F_406, ↓reduceIte, if_true, if_false, ite_self, Option.bind_some, Option.map_some, wI_rd, wJ_rd, wI_2, wJ_1, wJ_22, I3_lit, I3_add, I3_mul, I3_lt, I3_le, I3_inj, I3_nn', I3_n1, I3_n2, m2m1, ldI_I, ldJ_I, ldZ_I, stI_I, stJ_I, true_or, or_true, false_or, or_false, true_and, and_true, false_and, and_false, not_true_eq_false, not_false_eq_true, reduceCtorEq, Nat.reduceEqDiff, Nat.lt_irrefl, Nat.not_lt_zero, Nat.le_refl, Nat.reduceLT, Nat.reduceLeDiff, eq_self, zbbI, bbI0, bbI1, decide_eq_false_iff_not, decide_eq_true_eq, Bool.not_eq_false, Bool.not_eq_true, Bool.not_true, Bool.not_false, cond_true, cond_false, RR, show ¬ q < 20 by omega]
    · rw [if_neg d]; simp (disch := omega) only [F_406_27, F_406_0, F_406, ↓reduceIte, if_true, if_false, ite_self, Option.bind_some, Option.map_some, wI_rd, wJ_rd, wI_2, wJ_1, wJ_22, I3_lit, I3_add, I3_mul, I3_lt, I3_le, I3_inj, I3_nn', I3_n1, I3_n2, m2m1, ldI_I, ldJ_I, ldZ_I, stI_I, stJ_I, true_or, or_true, false_or, or_false, true_and, and_true, false_and, and_false, not_true_eq_false, not_false_eq_true, reduceCtorEq, Nat.reduceEqDiff, Nat.lt_irrefl, Nat.not_lt_zero, Nat.le_refl, Nat.reduceLT, Nat.reduceLeDiff, eq_self, zbbI, bbI0, bbI1, decide_eq_false_iff_not, decide_eq_true_eq, Bool.not_eq_false, Bool.not_eq_true, Bool.not_true, Bool.not_false, cond_true, cond_false, RR, show q < 20 by omega]
theorem C_numberOf {h g : sm_H} (wK : wfK g) (cK : cK h g) (wX : wfX g) (cX : cX h g) (c : cXh h g) {q : Nat} (hq : q < 20 + nC g) {n : Int64} (ho : okO g q n ∨ q = 0) : F_148 n (I3 q) h = some (if 15 ≤ q ∧ q ≤ 17 then Int32.toInt64 (g.1 97 (tn (Int64.toInt32 n))) else if 20 ≤ q then 0 else n, h) := by
  have h12 := wK.2.1
  have x1 : nX g ≤ 1000 := wX.1.2
  have RR := C_isRow (h := h) (a := q) (by omega)
  have RC := C_isC wK cK (x := q) (by omega)
  by_cases c1 : 15 ≤ q ∧ q ≤ 17
  · rw [decide_eq_true c1] at RR
    rw [if_pos c1]
    have ho := ho.resolve_right (by omega)
    rcases ho with h1 | ⟨h1, t, h2, h3, h4⟩ | h1 | h1
    · omega
    · subst h3
      have th := thX wX c h2
      have e97 : g.1 97 t = I3 (szX g t) := by
        have := (wX.2.1 t h2).1.1
        unfold szX
        rw [h4]
        unfold tn
        rw [I3_clamp (by omega), if_pos (by omega)]
        exact this
      rw [I6_32]
      unfold tn
      rw [I3_clamp (by omega), e97]
      have s := C_thsz th
      have l := th.1
      simp (disch := omega) only [F_148_37, F_148_0, F_148, ↓reduceIte, if_true, if_false, ite_self, Option.bind_some, Option.map_some, wI_rd, wJ_rd, wI_2, wJ_1, wJ_22, I3_lit, I3_add, I3_mul, I3_lt, I3_le, I3_inj, I3_nn', I3_n1, I3_n2, m2m1, ldI_I, ldJ_I, ldZ_I, stI_I, stJ_I, true_or, or_true, false_or, or_false, true_and, and_true, false_and, and_false, not_true_eq_false, not_false_eq_true, reduceCtorEq, Nat.reduceEqDiff, Nat.lt_irrefl, Nat.not_lt_zero, Nat.le_refl, Nat.reduceLT, Nat.reduceLeDiff, eq_self, zbbI, bbI0, bbI1, decide_eq_false_iff_not, decide_eq_true_eq, Bool.not_eq_false, Bool.not_eq_true, Bool.not_true, Bool.not_false, cond_true, cond_false, RR, C_thing wX cX c h2, l, s]
    · omega
    · omega
  · rw [decide_eq_false c1] at RR
    rw [if_neg c1]
    by_cases d : 20 ≤ q
    · rw [decide_eq_true (show 20 ≤ q ∧ q < 20 + nC g by omega)] at RC
      rw [if_pos d]; simp (disch := omega) only [F_148_37, F_148_0, F_148, ↓reduceIte, if_true, if_false, ite_self, Option.bind_some, Option.map_some, wI_rd, wJ_rd, wI_2, wJ_1, wJ_22, I3_lit, I3_add, I3_mul, I3_lt, I3_le, I3_inj, I3_nn', I3_n1, I3_n2, m2m1, ldI_I, ldJ_I, ldZ_I, stI_I, stJ_I, true_or, or_true, false_or, or_false, true_and, and_true, false_and, and_false, not_true_eq_false, not_false_eq_true, reduceCtorEq, Nat.reduceEqDiff, Nat.lt_irrefl, Nat.not_lt_zero, Nat.le_refl, Nat.reduceLT, Nat.reduceLeDiff, eq_self, zbbI, bbI0, bbI1, decide_eq_false_iff_not, decide_eq_true_eq, Bool.not_eq_false, Bool.not_eq_true, Bool.not_true, Bool.not_false, cond_true, cond_false, RR, RC]
    · rw [decide_eq_false (show ¬ (20 ≤ q ∧ q < 20 + nC g) by omega)] at RC
      rw [if_neg d]; simp (disch := omega) only [F_148_37, F_148_0, F_148, ↓reduceIte, if_true, if_false, ite_self, Option.bind_some, Option.map_some, wI_rd, wJ_rd, wI_2, wJ_1, wJ_22, I3_lit, I3_add, I3_mul, I3_lt, I3_le, I3_inj, I3_nn', I3_n1, I3_n2, m2m1, ldI_I, ldJ_I, ldZ_I, stI_I, stJ_I, true_or, or_true, false_or, or_false, true_and, and_true, false_and, and_false, not_true_eq_false, not_false_eq_true, reduceCtorEq, Nat.reduceEqDiff, Nat.lt_irrefl, Nat.not_lt_zero, Nat.le_refl, Nat.reduceLT, Nat.reduceLeDiff, eq_self, zbbI, bbI0, bbI1, decide_eq_false_iff_not, decide_eq_true_eq, Bool.not_eq_false, Bool.not_eq_true, Bool.not_true, Bool.not_false, cond_true, cond_false, RR, RC]
theorem op_result {h : sm_H} (I : I0 h) : ∃ v h1 h2, F_278 h = some (v, h1) ∧ F_407 h1 = some (v, h2) ∧ I0 h2 := by
  obtain ⟨wK, cK, wT, cT, wH, cH, wM, cM, cR, cP, cG, cO, cV, wX, cX, cXh, cU, cY, cF, cZ⟩ := id I
  have h12 := wK.2.1
  obtain ⟨u1, u2, u3, u4, u5, u6, u7⟩ := cU
  have b7 : tn (h.1 67 70) < 2147483648 := by
    have := b32 (h.1 67 70)
    unfold tn; unfold Int32.toNatClampNeg; omega
  have RR := R_ref (g := h) (a := tn (h.1 67 70)) b7
  have key : ∃ q, h.1 67 71 = I3 q ∧ q < 20 + nC h ∧ (okO h q (h.2.1 67 72) ∨ q = 0) ∧ (tn (h.1 67 70) < 7 → q = 0) := by
    rcases u6 with ⟨z, z2⟩ | ⟨z, z2⟩ | ⟨⟨q, z1, z2, z3⟩, z4, z5⟩
    · exact ⟨0, z, by omega, Or.inr rfl, fun _ => rfl⟩
    · exact ⟨0, z, by omega, Or.inr rfl, fun _ => rfl⟩
    · exact ⟨q, z1, z2, Or.inl z3, fun z => by omega⟩
  obtain ⟨q, k1, k2, k3, k4⟩ := key
  have CN := C_numberOf wK cK wX cX cXh k2 k3
  have RT := R_toldOf wX (q := q) (by omega) k3
  refine ⟨(if 15 ≤ q ∧ q ≤ 17 then Int32.toInt64 (h.1 97 (tn (Int64.toInt32 (h.2.1 67 72)))) else if 20 ≤ q then 0 else h.2.1 67 72), h, h, ?_, ?_, I⟩
  rotate_left
  · show F_407_0 h = _
    unfold F_407_0
    rw [u7, RR]
    by_cases c : 7 ≤ tn (h.1 67 70)
    · rw [decide_eq_true c]
      show (F_407_19 (h.1 67 71) h) = _
      unfold F_407_19
      rw [k1, RT]; rfl
    · have q0 := k4 (by omega)
      rw [decide_eq_false c]
      show (F_407_19 0 h) = _
      unfold F_407_19
      rw [show (0 : Int32) = I3 q by rw [q0]; rfl, RT]; rfl
  · show F_278_0 h = _
    have e1 : F_70 h = some (h.2.1 67 72, h) := by show some (h.2.1 49 9, h) = _; rw [u5]
    have e2 : F_71 h = some (I3 q, h) := by show some (h.1 49 10, h) = _; rw [u4, k1]
    unfold F_278_0
    rw [e1]
    simp only [Option.bind_some]
    rw [e2]
    simp only [Option.bind_some]
    rw [CN]; rfl
theorem op_keep {h : sm_H} (I : I0 h) : ∃ v h1 h2, F_279 h = some (v, h1) ∧ F_408 h1 = some (v, h2) ∧ I0 h2 := by
  obtain ⟨wK, cK, wT, cT, wH, cH, wM, cM, cR, cP, cG, cO, cV, wX, cX, cXh, cU, cY, cF, cZ⟩ := id I
  have h12 := wK.2.1
  obtain ⟨u1, u2, u3, u4, u5, u6, u7⟩ := id cU
  have e1 : F_70 h = some (h.2.1 67 72, h) := by show some (h.2.1 49 9, h) = _; rw [u5]
  have e2 : F_71 h = some (h.1 67 71, h) := by show some (h.1 49 10, h) = _; rw [u4]
  have e3 : F_279 h = ((F_149 (h.2.1 67 72) (h.1 67 71) h).bind fun q3 => some (q3.1, q3.2)) := by
    show F_279_0 h = _
    unfold F_279_0
    rw [e1]
    simp only [Option.bind_some]
    rw [e2]
    simp only [Option.bind_some]
  by_cases z0 : h.1 67 71 = 0
  · refine ⟨-1, h, h, ?_, ?_, I⟩
    · rw [e3, z0]; rfl
    · show F_408_0 h = _
      unfold F_408_0 F_408_32
      rw [if_pos z0]
      (repeat' split) <;> rfl
  · have k := u6.resolve_left (fun z => z0 z.1)
    have k := k.resolve_left (fun z => z0 z.1)
    obtain ⟨⟨q, k1, k2, k3⟩, k4, -⟩ := k
    obtain ⟨v1, ⟨v2, v3⟩, v4, v5⟩ := cV
    have v5 : ∀ v, v < tn (h.1 67 40) → ∃ q, h.1 94 v = I3 q ∧ q < 20 + nC h ∧ okO h q (h.2.1 95 v) := v5
    generalize hn : tn (h.1 67 40) = n at v2 v3 v5
    have n1 : ¬ h.1 67 69 = -1 := by rcases k4 with z | z <;> rw [z] <;> decide
    have n2 : ¬ (1 : Int32) < h.1 67 69 := by rcases k4 with z | z <;> rw [z] <;> decide
    by_cases c : n = 100
    · refine ⟨-1, h, h, ?_, ?_, I⟩
      · rw [e3]
        show ((F_149_0 _ _ h).bind _) = _
        unfold F_149_0 F_149_13
        rw [if_neg z0, v1, v2, if_neg (by rw [c]; decide)]; rfl
      · show F_408_0 h = _
        unfold F_408_0 F_408_32
        rw [if_neg n1, if_neg n2, if_neg z0, v2, if_pos (by rw [c]; rfl)]
    · have q0 : ¬ q = 0 := fun z => z0 (by rw [k1, z]; rfl)
      have hn' : nV h = n := hn
      have wF : wfF (sm_wI (sm_wJ (sm_wI (sm_wI (sm_wI (sm_wJ h 30 n (h.2.1 67 72)) 31 n (I3 q)) 21 6 (I3 (n + 1))) 94 n (I3 q)) 95 n (h.2.1 67 72)) 67 40 (I3 (n + 1))) := by
        refine wfF_ext (g1 := sm_wI (sm_wJ (sm_wI (sm_wI (sm_wI (sm_wJ h 30 n (h.2.1 67 72)) 31 n (I3 q)) 21 6 (I3 (n + 1))) 94 n (I3 q)) 95 n (h.2.1 67 72)) 67 40 (I3 (n + 1))) (I1_base I) (I1_base I).g ⟨Nat.le_refl _, fun _ _ => rfl, ?_, fun k hk => if_neg (by omega), ⟨Nat.le_refl _, fun _ _ => ⟨rfl, rfl, fun _ _ => rfl⟩⟩, Nat.le_refl _, fun _ _ => rfl, Nat.le_refl _, fun _ _ => rfl, Nat.le_refl _, ⟨Nat.le_refl _, fun _ _ => ⟨rfl, rfl, rfl, rfl, rfl, rfl⟩⟩⟩ ⟨rfl, fun _ _ => ⟨rfl, rfl, rfl, rfl, rfl⟩, fun _ _ _ _ => rfl⟩ ⟨rfl, fun _ _ => rfl⟩ cZ.2
        show nV h ≤ (I3 (n + 1)).toNatClampNeg
        rw [I3_clamp (by omega)]; omega
      refine ⟨I3 n, sm_wI (sm_wI (sm_wJ h 30 n (h.2.1 67 72)) 31 n (I3 q)) 21 6 (I3 (n + 1)), sm_wI (sm_wJ (sm_wI (sm_wI (sm_wI (sm_wJ h 30 n (h.2.1 67 72)) 31 n (I3 q)) 21 6 (I3 (n + 1))) 94 n (I3 q)) 95 n (h.2.1 67 72)) 67 40 (I3 (n + 1)), ?_, ?_, wK, cK, wT, cT, wH, cH, wM, cM, cR, cP, cG, cO, ⟨rfl, cnt_up (by omega) (by decide), fun k hk => ?_, fun k hk => ?_⟩, wX, cX, cXh_fr (by repeat first | exact hi_rfl | refine hi_wI ?_ (by decide) | refine hi_wJ ?_ (by decide)) cXh, cU, cY, cF, cZ.1, wF⟩
      · rw [e3]
        have T := C_thchg (th29 h) (k := n) (by omega) (h.2.1 67 72) (I3 q)
        simp (disch := omega) only [F_149_13, F_149_0, F_149, ↓reduceIte, if_true, if_false, ite_self, Option.bind_some, Option.map_some, wI_rd, wJ_rd, wI_2, wJ_1, wJ_22, I3_lit, I3_add, I3_mul, I3_lt, I3_le, I3_inj, I3_nn', I3_n1, I3_n2, m2m1, ldI_I, ldJ_I, ldZ_I, stI_I, stJ_I, true_or, or_true, false_or, or_false, true_and, and_true, false_and, and_false, not_true_eq_false, not_false_eq_true, reduceCtorEq, Nat.reduceEqDiff, Nat.lt_irrefl, Nat.not_lt_zero, Nat.le_refl, Nat.reduceLT, Nat.reduceLeDiff, eq_self, zbbI, bbI0, bbI1, decide_eq_false_iff_not, decide_eq_true_eq, Bool.not_eq_false, Bool.not_eq_true, Bool.not_true, Bool.not_false, cond_true, cond_false, k1, q0, v1, v2, show n < 100 by omega, T, I3_sub, Nat.add_sub_cancel]
      · have n1' : (h.1 67 69 = -I3 1) = False := eq_false n1
        have n2' : (I3 1 < h.1 67 69) = False := eq_false n2
        simp (disch := omega) only [F_408_32, F_408_0, F_408, ↓reduceIte, if_true, if_false, ite_self, Option.bind_some, Option.map_some, wI_rd, wJ_rd, wI_2, wJ_1, wJ_22, I3_lit, I3_add, I3_mul, I3_lt, I3_le, I3_inj, I3_nn', I3_n1, I3_n2, m2m1, ldI_I, ldJ_I, ldZ_I, stI_I, stJ_I, true_or, or_true, false_or, or_false, true_and, and_true, false_and, and_false, not_true_eq_false, not_false_eq_true, reduceCtorEq, Nat.reduceEqDiff, Nat.lt_irrefl, Nat.not_lt_zero, Nat.le_refl, Nat.reduceLT, Nat.reduceLeDiff, eq_self, zbbI, bbI0, bbI1, decide_eq_false_iff_not, decide_eq_true_eq, Bool.not_eq_false, Bool.not_eq_true, Bool.not_true, Bool.not_false, cond_true, cond_false, n1', n2', k1, q0, v2, c, I3_sub, Nat.add_sub_cancel]
      · show (if k = n then I3 q else h.1 31 k) = (if k = n then I3 q else h.1 94 k) ∧ (if k = n then h.2.1 67 72 else h.2.1 30 k) = (if k = n then h.2.1 67 72 else h.2.1 95 k)
        rw [(v4 k hk).1, (v4 k hk).2]
        exact ⟨rfl, rfl⟩
      · have hk : k < tn (I3 (n + 1)) := hk
        unfold tn at hk
        rw [I3_clamp (by omega)] at hk
        show ∃ q', (if k = n then I3 q else h.1 94 k) = I3 q' ∧ q' < 20 + nC h ∧ okO h q' (if k = n then h.2.1 67 72 else h.2.1 95 k)
        by_cases z : k = n
        · rw [if_pos z, if_pos z]; exact ⟨q, rfl, k2, k3⟩
        · rw [if_neg z, if_neg z]; exact v5 k (by omega)
theorem C_vtag {h g : sm_H} (cV : cV h g) (x : Int32) : F_151 (Int32.toInt64 x) h = some (bif inR x (nV g) then g.1 94 (tn x) else 0, h) := by
  have v3 : nV g ≤ 100 := cV.2.1.2
  have e1 : h.1 21 6 = I3 (nV g) := cV.1.trans cV.2.1.1
  have e0 : (0 : Int64).toInt = 0 := rfl
  show F_151_0 _ h = _
  unfold F_151_0
  rcases I3_cases x with ⟨k, hk, rfl⟩ | hx
  · rw [if_neg (by rw [cmp_lt, toI64, I3_toInt hk, e0]; omega), e1, inR_I hk]
    by_cases c : k < nV g
    · have T := C_thtag (th29 h) (k := k) (by omega)
      rw [if_neg (by rw [cmp_ge, toI64, toI64, I3_toInt hk, I3_toInt (by omega)]; omega), I3_64 hk, I6_32, T]
      unfold tn
      rw [I3_clamp hk, decide_eq_true c, (cV.2.2.1 k (by omega)).1]; rfl
    · rw [if_pos (by rw [cmp_ge, toI64, toI64, I3_toInt hk, I3_toInt (by omega)]; omega), decide_eq_false c]; rfl
  · rw [if_pos (by rw [cmp_lt, toI64, e0]; exact Int32.lt_iff_toInt_lt.mp hx)]
    rcases inR_c x (nV g) (by omega) with ⟨k, h1, h2, h3⟩ | h3
    · exact absurd h2 (neg_ne_I3 hx (by omega))
    · rw [h3]; rfl
theorem C_vnum {h g : sm_H} (cV : cV h g) (x : Int32) : F_150 (Int32.toInt64 x) h = some (bif inR x (nV g) then g.2.1 95 (tn x) else 0, h) := by
  have v3 : nV g ≤ 100 := cV.2.1.2
  have e1 : h.1 21 6 = I3 (nV g) := cV.1.trans cV.2.1.1
  have e0 : (0 : Int64).toInt = 0 := rfl
  show F_150_0 _ h = _
  unfold F_150_0
  rcases I3_cases x with ⟨k, hk, rfl⟩ | hx
  · rw [if_neg (by rw [cmp_lt, toI64, I3_toInt hk, e0]; omega), e1, inR_I hk]
    by_cases c : k < nV g
    · have T := C_thnum (th29 h) (k := k) (by omega)
      rw [if_neg (by rw [cmp_ge, toI64, toI64, I3_toInt hk, I3_toInt (by omega)]; omega), I3_64 hk, I6_32, T]
      unfold tn
      rw [I3_clamp hk, decide_eq_true c, (cV.2.2.1 k (by omega)).2]; rfl
    · rw [if_pos (by rw [cmp_ge, toI64, toI64, I3_toInt hk, I3_toInt (by omega)]; omega), decide_eq_false c]; rfl
  · rw [if_pos (by rw [cmp_lt, toI64, e0]; exact Int32.lt_iff_toInt_lt.mp hx)]
    rcases inR_c x (nV g) (by omega) with ⟨k, h1, h2, h3⟩ | h3
    · exact absurd h2 (neg_ne_I3 hx (by omega))
    · rw [h3]; rfl
theorem op_value {h : sm_H} (x y : Int32) (I : I0 h) : ∃ v h1 h2, F_280 x y h = some (v, h1) ∧ F_409 x y h1 = some (v, h2) ∧ I0 h2 := by
  obtain ⟨wK, cK, wT, cT, wH, cH, wM, cM, cR, cP, cG, cO, cV, wX, cX, cXh, cU, cY, cF, cZ⟩ := id I
  have h12 := wK.2.1
  have v3 : nV h ≤ 100 := cV.2.1.2
  have v2 : h.1 67 40 = I3 (nV h) := cV.2.1.1
  have VT := C_vtag cV x
  have VN := C_vnum cV x
  have RO := R_outI (h := h) (n := nV h) (by omega) x
  rcases inR_c x (nV h) (by omega) with ⟨a, ha, rfl, hi⟩ | hi
  · obtain ⟨q, k1, k2, k3⟩ := cV.2.2.2 a ha
    have ta : tn (I3 a) = a := I3_clamp (by omega)
    rw [hi, ta, cond_true] at VT VN
    rw [k1] at VT
    have CN := C_numberOf wK cK wX cX cXh k2 (Or.inl k3)
    have RT := R_toldOf wX (q := q) (by omega) (Or.inl k3)
    by_cases y0 : y = 0
    · subst y0
      refine ⟨Int32.toInt64 (I3 q), h, h, ?_, ?_, I⟩
      · simp only [F_280_49, F_280_0, F_280, if_true, VT, Option.bind_some]
      · simp (disch := omega) only [F_409_57, F_409_0, F_409, ↓reduceIte, if_true, if_false, ite_self, Option.bind_some, Option.map_some, wI_rd, wJ_rd, wI_2, wJ_1, wJ_22, I3_lit, I3_add, I3_mul, I3_lt, I3_le, I3_inj, I3_nn', I3_n1, I3_n2, m2m1, ldI_I, ldJ_I, ldZ_I, stI_I, stJ_I, true_or, or_true, false_or, or_false, true_and, and_true, false_and, and_false, not_true_eq_false, not_false_eq_true, reduceCtorEq, Nat.reduceEqDiff, Nat.lt_irrefl, Nat.not_lt_zero, Nat.le_refl, Nat.reduceLT, Nat.reduceLeDiff, eq_self, zbbI, bbI0, bbI1, decide_eq_false_iff_not, decide_eq_true_eq, Bool.not_eq_false, Bool.not_eq_true, Bool.not_true, Bool.not_false, cond_true, cond_false, v2, RO, hi, k1]
    by_cases y1 : y = 1
    · subst y1
      refine ⟨_, h, h, ?_, (?_ : _ = some ((if 15 ≤ q ∧ q ≤ 17 then Int32.toInt64 (h.1 97 (tn (Int64.toInt32 (h.2.1 95 a)))) else if 20 ≤ q then 0 else h.2.1 95 a), h)), I⟩
      · simp only [F_280_49, F_280_0, F_280, if_neg y0, if_true, VT, VN, Option.bind_some, CN]
      · generalize (if 15 ≤ q ∧ q ≤ 17 then Int32.toInt64 (h.1 97 (tn (Int64.toInt32 (h.2.1 95 a)))) else if 20 ≤ q then 0 else h.2.1 95 a) = V at RT
        simp (disch := omega) only [F_409_57, F_409_0, F_409, ↓reduceIte, if_true, if_false, ite_self, Option.bind_some, Option.map_some, wI_rd, wJ_rd, wI_2, wJ_1, wJ_22, I3_lit, I3_add, I3_mul, I3_lt, I3_le, I3_inj, I3_nn', I3_n1, I3_n2, m2m1, ldI_I, ldJ_I, ldZ_I, stI_I, stJ_I, true_or, or_true, false_or, or_false, true_and, and_true, false_and, and_false, not_true_eq_false, not_false_eq_true, reduceCtorEq, Nat.reduceEqDiff, Nat.lt_irrefl, Nat.not_lt_zero, Nat.le_refl, Nat.reduceLT, Nat.reduceLeDiff, eq_self, zbbI, bbI0, bbI1, decide_eq_false_iff_not, decide_eq_true_eq, Bool.not_eq_false, Bool.not_eq_true, Bool.not_true, Bool.not_false, cond_true, cond_false, v2, RO, hi, k1, RT]
    · refine ⟨0, h, h, ?_, ?_, I⟩
      · simp only [F_280_49, F_280_0, F_280, if_neg y0, if_neg y1]
      · have y0' : (y = I3 0) = False := eq_false y0
        have y1' : (y = I3 1) = False := eq_false y1
        simp (disch := omega) only [F_409_57, F_409_0, F_409, ↓reduceIte, if_true, if_false, ite_self, Option.bind_some, Option.map_some, wI_rd, wJ_rd, wI_2, wJ_1, wJ_22, I3_lit, I3_add, I3_mul, I3_lt, I3_le, I3_inj, I3_nn', I3_n1, I3_n2, m2m1, ldI_I, ldJ_I, ldZ_I, stI_I, stJ_I, true_or, or_true, false_or, or_false, true_and, and_true, false_and, and_false, not_true_eq_false, not_false_eq_true, reduceCtorEq, Nat.reduceEqDiff, Nat.lt_irrefl, Nat.not_lt_zero, Nat.le_refl, Nat.reduceLT, Nat.reduceLeDiff, eq_self, zbbI, bbI0, bbI1, decide_eq_false_iff_not, decide_eq_true_eq, Bool.not_eq_false, Bool.not_eq_true, Bool.not_true, Bool.not_false, cond_true, cond_false, v2, RO, hi, k1, y0', y1']
  · rw [hi, cond_false] at VT VN
    refine ⟨0, h, h, ?_, ?_, I⟩
    · have CN := C_numberOf wK cK wX cX cXh (q := 0) (n := 0) (by omega) (Or.inr rfl)
      have CN : F_148 0 0 h = some (0, h) := CN
      by_cases y0 : y = 0
      · simp only [F_280_49, F_280_0, F_280, if_pos y0, VT, Option.bind_some]; rfl
      by_cases y1 : y = 1
      · simp only [F_280_49, F_280_0, F_280, if_neg y0, if_pos y1, VT, VN, Option.bind_some, CN]
      · simp only [F_280_49, F_280_0, F_280, if_neg y0, if_neg y1]
    · simp (disch := omega) only [F_409_57, F_409_0, F_409, ↓reduceIte, if_true, if_false, ite_self, Option.bind_some, Option.map_some, wI_rd, wJ_rd, wI_2, wJ_1, wJ_22, I3_lit, I3_add, I3_mul, I3_lt, I3_le, I3_inj, I3_nn', I3_n1, I3_n2, m2m1, ldI_I, ldJ_I, ldZ_I, stI_I, stJ_I, true_or, or_true, false_or, or_false, true_and, and_true, false_and, and_false, not_true_eq_false, not_false_eq_true, reduceCtorEq, Nat.reduceEqDiff, Nat.lt_irrefl, Nat.not_lt_zero, Nat.le_refl, Nat.reduceLT, Nat.reduceLeDiff, eq_self, zbbI, bbI0, bbI1, decide_eq_false_iff_not, decide_eq_true_eq, Bool.not_eq_false, Bool.not_eq_true, Bool.not_true, Bool.not_false, cond_true, cond_false, v2, RO, hi]
theorem C_elem {h : sm_H} {a : Nat} (h1 : 15 ≤ a) (h2 : a ≤ 17) : F_63 (I3 a) h = some (I3 (a - 10), h) := by
  have CR := C_isRow (h := h) (a := a) (by omega)
  rw [decide_eq_true ⟨h1, h2⟩] at CR
  simp (disch := omega) only [F_63_18, F_63_0, F_63, ↓reduceIte, if_true, if_false, ite_self, Option.bind_some, Option.map_some, wI_rd, wJ_rd, wI_2, wJ_1, wJ_22, I3_lit, I3_add, I3_mul, I3_lt, I3_le, I3_inj, I3_nn', I3_n1, I3_n2, m2m1, ldI_I, ldJ_I, ldZ_I, stI_I, stJ_I, true_or, or_true, false_or, or_false, true_and, and_true, false_and, and_false, not_true_eq_false, not_false_eq_true, reduceCtorEq, Nat.reduceEqDiff, Nat.lt_irrefl, Nat.not_lt_zero, Nat.le_refl, Nat.reduceLT, Nat.reduceLeDiff, eq_self, zbbI, bbI0, bbI1, decide_eq_false_iff_not, decide_eq_true_eq, Bool.not_eq_false, Bool.not_eq_true, Bool.not_true, Bool.not_false, cond_true, cond_false, CR, I3_sub, show a - 15 + 5 = a - 10 by omega]
theorem tag_plain {s : Nat} (h1 : 1 ≤ s) (h2 : s ≤ 6) : tag (I3 s) = 0 := by
  unfold tag
  rw [if_pos ⟨by rw [I3_lit, I3_le (by decide) (by omega)]; omega, by rw [I3_lit, I3_le (by omega) (by decide)]; omega⟩]
theorem tag_ref {s : Nat} (h1 : s = 0 ∨ 7 ≤ s) (hs : s < 2147483648) : tag (I3 s) = I3 s := by
  unfold tag
  rw [if_neg]
  intro z
  rw [I3_lit, I3_le (by decide) hs, I3_lit, I3_le hs (by decide)] at z
  omega
theorem op_element {h : sm_H} (x y z : Int32) (I : I0 h) : ∃ v h1 h2, F_281 x y z h = some (v, h1) ∧ F_410 x y z h1 = some (v, h2) ∧ I0 h2 := by
  obtain ⟨wK, cK, wT, cT, wH, cH, wM, cM, cR, cP, cG, cO, cV, wX, cX, cXh, cU, cY, cF, cZ⟩ := id I
  have h12 := wK.2.1
  have x1 : nX h ≤ 1000 := wX.1.2
  have v3 : nV h ≤ 100 := cV.2.1.2
  have v2 : h.1 67 40 = I3 (nV h) := cV.2.1.1
  have VT := C_vtag cV x
  have VN := C_vnum cV x
  have RO := R_outI (h := h) (n := nV h) (by omega) x
  rcases inR_c x (nV h) (by omega) with ⟨a, ha, rfl, hi⟩ | hi
  · obtain ⟨q, k1, k2, k3⟩ := cV.2.2.2 a ha
    have ta : tn (I3 a) = a := I3_clamp (by omega)
    rw [hi, ta, cond_true] at VT VN
    rw [k1] at VT
    have CR := C_isRow (h := h) (a := q) (by omega)
    have RR := R_isRow (h := h) (a := q) (by omega)
    by_cases cr : 15 ≤ q ∧ q ≤ 17
    · rw [decide_eq_true cr] at CR RR
      rcases k3 with w | ⟨-, t, w2, w3, w4⟩ | w | w
      · omega
      · rw [w3] at VN
        have th := thX wX cXh w2
        have CT := C_thing wX cX cXh w2
        have CHs := C_thhas th y
        have e97 : h.1 97 t = I3 (szX h t) := by
          have := (wX.2.1 t w2).1.1
          unfold szX
          rw [w4]
          unfold tn
          rw [I3_clamp (by omega), if_pos (by omega)]
          exact this
        have s100 := th.2.2.2.2.2.2.2.2.2
        have RO2 := R_outI (h := h) (n := szX h t) (by omega) y
        have l := th.1
        rcases inR_c y (szX h t) (by omega) with ⟨i, hi2, rfl, hj⟩ | hj
        · have TN := C_thnum th hi2
          have TT := C_thtag th hi2
          obtain ⟨d1, d2⟩ := (cXh.2.2 t w2).2.2.2.2.2.2.2.2 i hi2
          rw [d1] at TN
          rw [d2] at TT
          have okE : okV h (q - 10) (h.1 98 (100 * t + i)) (h.2.1 99 (100 * t + i)) := by
            rcases (wX.2.1 t w2).2 with ⟨k, a1, a2, a3, a4⟩ | ⟨k, a1, a2, a3, a4⟩
            · have : k = q := by rw [w4] at a3; exact ((I3_inj (by omega) (by omega)).mp a3).symm
              subst this
              refine a4 i ?_
              unfold szX at hi2
              rw [w4] at hi2
              unfold tn at hi2
              rw [I3_clamp (by omega), if_pos (by omega)] at hi2
              exact hi2
            · have : k = q := by rw [w4] at a3; exact ((I3_inj (by omega) (by omega)).mp a3).symm
              omega
          have ix : 100 * t + i < 100000 := by omega
          obtain ⟨s, es, hs, ho, hp⟩ : ∃ s, h.1 98 (100 * t + i) = I3 s ∧ s < 20 + nC h ∧ (okO h s (h.2.1 99 (100 * t + i)) ∨ s = 0 ∨ (1 ≤ s ∧ s ≤ 6)) ∧ (q ≠ 17 → s = q - 10) ∧ (q = 17 → s = 0 ∨ 7 ≤ s) := by
            rcases okE with ⟨o1, o2, o3, o4⟩ | ⟨o1, o2, o3⟩ | ⟨o1, q', o2, o3, o4, o5⟩
            · exact ⟨q - 10, o3, by omega, Or.inr (Or.inr ⟨o1, o2⟩), fun _ => rfl, fun _ => by omega⟩
            · exact ⟨0, o2, by omega, Or.inr (Or.inl rfl), fun _ => by omega, fun _ => Or.inl rfl⟩
            · refine ⟨q', o2, o3, Or.inl o5, fun _ => by omega, fun _ => Or.inr ?_⟩
              rcases o5 with p | ⟨p, -⟩ | ⟨p, -⟩ | p <;> omega
          rw [es] at TT
          have told : ∃ V, F_148 (h.2.1 99 (100 * t + i)) (tag (I3 s)) h = some (V, h) ∧ F_406 (I3 s) (h.2.1 99 (100 * t + i)) h = some (V, h) := by
            rcases ho with o | o | o
            · have s7 : 7 ≤ s := by rcases o with p | ⟨p, -⟩ | ⟨p, -⟩ | p <;> omega
              rw [tag_ref (Or.inr s7) (by omega)]
              exact ⟨_, C_numberOf wK cK wX cX cXh hs (Or.inl o), R_toldOf wX (by omega) (Or.inl o)⟩
            · subst o
              rw [tag_ref (Or.inl rfl) (by omega)]
              exact ⟨_, C_numberOf wK cK wX cX cXh hs (Or.inr rfl), R_toldOf wX (by omega) (Or.inr rfl)⟩
            · rw [tag_plain o.1 o.2]
              refine ⟨h.2.1 99 (100 * t + i), C_numberOf wK cK wX cX cXh (q := 0) (by omega) (Or.inr rfl), ?_⟩
              have RRs := R_isRow (h := h) (a := s) (by omega)
              rw [decide_eq_false (by omega)] at RRs
              simp (disch := omega) only [F_406_27, F_406_0, F_406, ↓reduceIte, if_true, if_false, ite_self, Option.bind_some, Option.map_some, wI_rd, wJ_rd, wI_2, wJ_1, wJ_22, I3_lit, I3_add, I3_mul, I3_lt, I3_le, I3_inj, I3_nn', I3_n1, I3_n2, m2m1, ldI_I, ldJ_I, ldZ_I, stI_I, stJ_I, true_or, or_true, false_or, or_false, true_and, and_true, false_and, and_false, not_true_eq_false, not_false_eq_true, reduceCtorEq, Nat.reduceEqDiff, Nat.lt_irrefl, Nat.not_lt_zero, Nat.le_refl, Nat.reduceLT, Nat.reduceLeDiff, eq_self, zbbI, bbI0, bbI1, decide_eq_false_iff_not, decide_eq_true_eq, Bool.not_eq_false, Bool.not_eq_true, Bool.not_true, Bool.not_false, cond_true, cond_false, RRs, show s < 20 by omega]
          obtain ⟨V, T1, T2⟩ := told
          have c1 : ¬ (b2 true = 0) := by decide
          have pre : F_281 (I3 a) (I3 i) z h = (if z = 0 then (some (V, h) : Option (Int64 × sm_H)) else if z = 1 then (if I3 q = 17 then ((some (tag (I3 s), h) : Option (Int32 × sm_H)).bind fun q8 => F_281_112 (Int32.toInt64 q8.1) q8.2) else ((F_63 (I3 q) h).bind fun q7 => F_281_112 (Int32.toInt64 q7.1) q7.2)) else some (0, h)) := by
            show F_281_0 (I3 a) (I3 i) z h = _
            unfold F_281_0
            rw [VT]; simp only [Option.bind_some]
            rw [CR]; simp only [Option.bind_some]
            rw [if_neg c1, VN]; simp only [Option.bind_some]
            rw [CT]; simp only [Option.bind_some]
            rw [if_neg (not_not_intro l), CHs, hj]; simp only [Option.bind_some]
            rw [if_neg c1, if_neg (not_not_intro l), TN]; simp only [Option.bind_some]
            rw [if_neg (not_not_intro l), TT]; simp only [Option.bind_some]
            rw [T1]; simp only [Option.bind_some]
            rw [if_neg (not_not_intro l)]
          rw [pre]
          by_cases z0 : z = 0
          · subst z0
            refine ⟨V, h, h, if_pos rfl, ?_, I⟩
            simp (disch := omega) only [F_410_115, F_410_28, F_410_0, F_410, ↓reduceIte, if_true, if_false, ite_self, Option.bind_some, Option.map_some, wI_rd, wJ_rd, wI_2, wJ_1, wJ_22, I3_lit, I3_add, I3_mul, I3_lt, I3_le, I3_inj, I3_nn', I3_n1, I3_n2, m2m1, ldI_I, ldJ_I, ldZ_I, stI_I, stJ_I, true_or, or_true, false_or, or_false, true_and, and_true, false_and, and_false, not_true_eq_false, not_false_eq_true, reduceCtorEq, Nat.reduceEqDiff, Nat.lt_irrefl, Nat.not_lt_zero, Nat.le_refl, Nat.reduceLT, Nat.reduceLeDiff, eq_self, zbbI, bbI0, bbI1, decide_eq_false_iff_not, decide_eq_true_eq, Bool.not_eq_false, Bool.not_eq_true, Bool.not_true, Bool.not_false, cond_true, cond_false, v2, RO, hi, k1, RR, w3, I6_32, e97, RO2, hj, es, T2]
          rw [if_neg z0]
          by_cases z1 : z = 1
          · subst z1
            rw [if_pos rfl]
            refine ⟨Int32.toInt64 (I3 s), h, h, ?_, ?_, I⟩
            · by_cases q17 : q = 17
              · subst q17
                rw [if_pos (by decide : I3 17 = (17:Int32)), tag_ref (hp.2 rfl) (by omega)]
                rfl
              · have es2 := hp.1 q17
                rw [if_neg (by rw [I3_lit, I3_inj (by omega) (by decide)]; exact q17), C_elem cr.1 cr.2, es2]
                rfl
            · simp (disch := omega) only [F_410_115, F_410_28, F_410_0, F_410, ↓reduceIte, if_true, if_false, ite_self, Option.bind_some, Option.map_some, wI_rd, wJ_rd, wI_2, wJ_1, wJ_22, I3_lit, I3_add, I3_mul, I3_lt, I3_le, I3_inj, I3_nn', I3_n1, I3_n2, m2m1, ldI_I, ldJ_I, ldZ_I, stI_I, stJ_I, true_or, or_true, false_or, or_false, true_and, and_true, false_and, and_false, not_true_eq_false, not_false_eq_true, reduceCtorEq, Nat.reduceEqDiff, Nat.lt_irrefl, Nat.not_lt_zero, Nat.le_refl, Nat.reduceLT, Nat.reduceLeDiff, eq_self, zbbI, bbI0, bbI1, decide_eq_false_iff_not, decide_eq_true_eq, Bool.not_eq_false, Bool.not_eq_true, Bool.not_true, Bool.not_false, cond_true, cond_false, v2, RO, hi, k1, RR, w3, I6_32, e97, RO2, hj, es]
          · have z0' : (z = I3 0) = False := eq_false z0
            have z1' : (z = I3 1) = False := eq_false z1
            rw [if_neg z1]
            refine ⟨0, h, h, rfl, ?_, I⟩
            simp (disch := omega) only [F_410_115, F_410_28, F_410_0, F_410, ↓reduceIte, if_true, if_false, ite_self, Option.bind_some, Option.map_some, wI_rd, wJ_rd, wI_2, wJ_1, wJ_22, I3_lit, I3_add, I3_mul, I3_lt, I3_le, I3_inj, I3_nn', I3_n1, I3_n2, m2m1, ldI_I, ldJ_I, ldZ_I, stI_I, stJ_I, true_or, or_true, false_or, or_false, true_and, and_true, false_and, and_false, not_true_eq_false, not_false_eq_true, reduceCtorEq, Nat.reduceEqDiff, Nat.lt_irrefl, Nat.not_lt_zero, Nat.le_refl, Nat.reduceLT, Nat.reduceLeDiff, eq_self, zbbI, bbI0, bbI1, decide_eq_false_iff_not, decide_eq_true_eq, Bool.not_eq_false, Bool.not_eq_true, Bool.not_true, Bool.not_false, cond_true, cond_false, v2, RO, hi, k1, RR, w3, I6_32, e97, RO2, hj, es, z0', z1']
        · refine ⟨0, h, h, ?_, ?_, I⟩
          · show F_281_0 (I3 a) y z h = _
            unfold F_281_0
            have c1 : ¬ (b2 true = 0) := by decide
            rw [VT]; simp only [Option.bind_some]
            rw [CR]; simp only [Option.bind_some]
            rw [if_neg c1, VN]; simp only [Option.bind_some]
            rw [CT]; simp only [Option.bind_some]
            rw [if_neg (not_not_intro l), CHs, hj]; simp only [Option.bind_some]
            rw [if_pos (show (b2 false : Int32) = 0 by decide)]
          · simp (disch := omega) only [F_410_115, F_410_28, F_410_0, F_410, ↓reduceIte, if_true, if_false, ite_self, Option.bind_some, Option.map_some, wI_rd, wJ_rd, wI_2, wJ_1, wJ_22, I3_lit, I3_add, I3_mul, I3_lt, I3_le, I3_inj, I3_nn', I3_n1, I3_n2, m2m1, ldI_I, ldJ_I, ldZ_I, stI_I, stJ_I, true_or, or_true, false_or, or_false, true_and, and_true, false_and, and_false, not_true_eq_false, not_false_eq_true, reduceCtorEq, Nat.reduceEqDiff, Nat.lt_irrefl, Nat.not_lt_zero, Nat.le_refl, Nat.reduceLT, Nat.reduceLeDiff, eq_self, zbbI, bbI0, bbI1, decide_eq_false_iff_not, decide_eq_true_eq, Bool.not_eq_false, Bool.not_eq_true, Bool.not_true, Bool.not_false, cond_true, cond_false, v2, RO, hi, k1, RR, w3, I6_32, e97, RO2, hj]
      · omega
      · omega
    · rw [decide_eq_false cr] at CR RR
      refine ⟨0, h, h, ?_, ?_, I⟩
      · simp (disch := omega) only [F_281_112, F_281_0, F_281, ↓reduceIte, if_true, if_false, ite_self, Option.bind_some, Option.map_some, wI_rd, wJ_rd, wI_2, wJ_1, wJ_22, I3_lit, I3_add, I3_mul, I3_lt, I3_le, I3_inj, I3_nn', I3_n1, I3_n2, m2m1, ldI_I, ldJ_I, ldZ_I, stI_I, stJ_I, true_or, or_true, false_or, or_false, true_and, and_true, false_and, and_false, not_true_eq_false, not_false_eq_true, reduceCtorEq, Nat.reduceEqDiff, Nat.lt_irrefl, Nat.not_lt_zero, Nat.le_refl, Nat.reduceLT, Nat.reduceLeDiff, eq_self, zbbI, bbI0, bbI1, decide_eq_false_iff_not, decide_eq_true_eq, Bool.not_eq_false, Bool.not_eq_true, Bool.not_true, Bool.not_false, cond_true, cond_false, VT, CR]
      · simp (disch := omega) only [F_410_115, F_410_28, F_410_0, F_410, ↓reduceIte, if_true, if_false, ite_self, Option.bind_some, Option.map_some, wI_rd, wJ_rd, wI_2, wJ_1, wJ_22, I3_lit, I3_add, I3_mul, I3_lt, I3_le, I3_inj, I3_nn', I3_n1, I3_n2, m2m1, ldI_I, ldJ_I, ldZ_I, stI_I, stJ_I, true_or, or_true, false_or, or_false, true_and, and_true, false_and, and_false, not_true_eq_false, not_false_eq_true, reduceCtorEq, Nat.reduceEqDiff, Nat.lt_irrefl, Nat.not_lt_zero, Nat.le_refl, Nat.reduceLT, Nat.reduceLeDiff, eq_self, zbbI, bbI0, bbI1, decide_eq_false_iff_not, decide_eq_true_eq, Bool.not_eq_false, Bool.not_eq_true, Bool.not_true, Bool.not_false, cond_true, cond_false, v2, RO, hi, k1, RR]
  · rw [hi, cond_false] at VT VN
    have CR := C_isRow (h := h) (a := 0) (by omega)
    rw [decide_eq_false (by omega)] at CR
    refine ⟨0, h, h, ?_, ?_, I⟩
    · simp (disch := omega) only [F_281_112, F_281_0, F_281, ↓reduceIte, if_true, if_false, ite_self, Option.bind_some, Option.map_some, wI_rd, wJ_rd, wI_2, wJ_1, wJ_22, I3_lit, I3_add, I3_mul, I3_lt, I3_le, I3_inj, I3_nn', I3_n1, I3_n2, m2m1, ldI_I, ldJ_I, ldZ_I, stI_I, stJ_I, true_or, or_true, false_or, or_false, true_and, and_true, false_and, and_false, not_true_eq_false, not_false_eq_true, reduceCtorEq, Nat.reduceEqDiff, Nat.lt_irrefl, Nat.not_lt_zero, Nat.le_refl, Nat.reduceLT, Nat.reduceLeDiff, eq_self, zbbI, bbI0, bbI1, decide_eq_false_iff_not, decide_eq_true_eq, Bool.not_eq_false, Bool.not_eq_true, Bool.not_true, Bool.not_false, cond_true, cond_false, VT, CR]
    · simp (disch := omega) only [F_410_115, F_410_28, F_410_0, F_410, ↓reduceIte, if_true, if_false, ite_self, Option.bind_some, Option.map_some, wI_rd, wJ_rd, wI_2, wJ_1, wJ_22, I3_lit, I3_add, I3_mul, I3_lt, I3_le, I3_inj, I3_nn', I3_n1, I3_n2, m2m1, ldI_I, ldJ_I, ldZ_I, stI_I, stJ_I, true_or, or_true, false_or, or_false, true_and, and_true, false_and, and_false, not_true_eq_false, not_false_eq_true, reduceCtorEq, Nat.reduceEqDiff, Nat.lt_irrefl, Nat.not_lt_zero, Nat.le_refl, Nat.reduceLT, Nat.reduceLeDiff, eq_self, zbbI, bbI0, bbI1, decide_eq_false_iff_not, decide_eq_true_eq, Bool.not_eq_false, Bool.not_eq_true, Bool.not_true, Bool.not_false, cond_true, cond_false, v2, RO, hi]
def okC (b j : Nat) : Bool := !(Nat.beq b 9 || (Nat.ble 34 b && Nat.ble b 37) || Nat.beq b 48 || (Nat.ble 50 b && Nat.ble b 51) || (Nat.ble 56 b && Nat.ble b 61) || (Nat.ble 67 b && Nat.ble b 130) || (Nat.beq b 5 && Nat.beq j 6) || (Nat.beq b 49 && Nat.beq j 7) || (Nat.beq b 52 && Nat.ble 3 j) || (Nat.beq b 55 && (Nat.beq j 9 || Nat.beq j 12 || Nat.beq j 16)))
def okR (b j : Nat) : Bool := (Nat.ble 68 b && Nat.ble b 101 && !Nat.beq b 69 && !Nat.beq b 82) || (Nat.ble 110 b && Nat.ble b 116) || (Nat.beq b 67 && (Nat.beq j 1 || Nat.beq j 6 || Nat.beq j 10 || Nat.beq j 18 || Nat.beq j 19 || Nat.beq j 32 || Nat.beq j 33 || Nat.beq j 35 || Nat.beq j 37 || Nat.beq j 40 || Nat.beq j 45 || (Nat.ble 68 j && Nat.ble j 73) || (Nat.ble 76 j && Nat.ble j 78) || Nat.beq j 91))
def mC (h : sm_H) : sm_H := (fun b j => cond (okC b j) (h.1 b j) 0, fun b j => cond (okC b j) (h.2.1 b j) 0, fun b j => cond (okC b j) (h.2.2.1 b j) none, h.2.2.2)
def mR (h : sm_H) : sm_H := (fun b j => cond (okR b j) (h.1 b j) 0, fun b j => cond (okR b j) (h.2.1 b j) 0, h.2.2)
def agr (S : Nat → Nat → Prop) (h h1 : sm_H) : Prop := (∀ b j, ¬ S b j → h1.1 b j = h.1 b j) ∧ (∀ b j, ¬ S b j → h1.2.1 b j = h.2.1 b j) ∧ (∀ b j, ¬ S b j → h1.2.2.1 b j = h.2.2.1 b j) ∧ h1.2.2.2 = h.2.2.2
theorem agr_rfl {S : Nat → Nat → Prop} {h : sm_H} : agr S h h := ⟨fun _ _ _ => rfl, fun _ _ _ => rfl, fun _ _ _ => rfl, rfl⟩
theorem agr_trans {S : Nat → Nat → Prop} {h h1 h2 : sm_H} (a : agr S h h1) (b : agr S h1 h2) : agr S h h2 := ⟨fun x j n => (b.1 x j n).trans (a.1 x j n), fun x j n => (b.2.1 x j n).trans (a.2.1 x j n), fun x j n => (b.2.2.1 x j n).trans (a.2.2.1 x j n), b.2.2.2.trans a.2.2.2⟩
theorem agr_mono {S S' : Nat → Nat → Prop} {h h1 : sm_H} (m : ∀ b j, S b j → S' b j) (a : agr S h h1) : agr S' h h1 := ⟨fun x j n => a.1 x j (fun z => n (m x j z)), fun x j n => a.2.1 x j (fun z => n (m x j z)), fun x j n => a.2.2.1 x j (fun z => n (m x j z)), a.2.2.2⟩
theorem agr_symm {S : Nat → Nat → Prop} {h h1 : sm_H} (a : agr S h h1) : agr S h1 h := ⟨fun x j n => (a.1 x j n).symm, fun x j n => (a.2.1 x j n).symm, fun x j n => (a.2.2.1 x j n).symm, a.2.2.2.symm⟩
theorem agr_wI {S : Nat → Nat → Prop} {h h1 : sm_H} {a k : Nat} {x : Int32} (e : agr S h h1) (s : S a k) : agr S h (sm_wI h1 a k x) := by
  refine agr_trans e ⟨fun b j n => ?_, fun _ _ _ => rfl, fun _ _ _ => rfl, rfl⟩
  rw [wI_rd, if_neg]
  rintro ⟨rfl, rfl⟩; exact n s
theorem agr_wJ {S : Nat → Nat → Prop} {h h1 : sm_H} {a k : Nat} {x : Int64} (e : agr S h h1) (s : S a k) : agr S h (sm_wJ h1 a k x) := by
  refine agr_trans e ⟨fun _ _ _ => rfl, fun b j n => ?_, fun _ _ _ => rfl, rfl⟩
  rw [wJ_rd, if_neg]
  rintro ⟨rfl, rfl⟩; exact n s
theorem agr_wA {S : Nat → Nat → Prop} {h h1 : sm_H} {a : Nat} {f : Nat → Int32} (e : agr S h h1) (s : ∀ k, S a k) : agr S h (wA h1 a f) := by
  refine agr_trans e ⟨fun b j n => ?_, fun _ _ _ => rfl, fun _ _ _ => rfl, rfl⟩
  rw [wA_rd, if_neg]
  rintro rfl; exact n (s j)
def notC (b j : Nat) : Prop := okC b j = false
def notR (b j : Nat) : Prop := okR b j = false
theorem mC_eq {h h1 : sm_H} (a : agr notC h h1) : mC h1 = mC h := by
  obtain ⟨a1, a2, a3, a4⟩ := a
  have e : ∀ b j, okC b j = true → ¬ notC b j := fun b j t z => by rw [show okC b j = false from z] at t; cases t
  refine Prod.ext (funext fun b => funext fun j => ?_) (Prod.ext (funext fun b => funext fun j => ?_) (Prod.ext (funext fun b => funext fun j => ?_) a4))
  · show cond (okC b j) (h1.1 b j) 0 = cond (okC b j) (h.1 b j) 0
    cases q : okC b j with
    | false => rfl
    | true => exact a1 b j (e b j q)
  · show cond (okC b j) (h1.2.1 b j) 0 = cond (okC b j) (h.2.1 b j) 0
    cases q : okC b j with
    | false => rfl
    | true => exact a2 b j (e b j q)
  · show cond (okC b j) (h1.2.2.1 b j) none = cond (okC b j) (h.2.2.1 b j) none
    cases q : okC b j with
    | false => rfl
    | true => exact a3 b j (e b j q)
def mR2 (h : sm_H) : (Nat → Nat → Int32) × (Nat → Nat → Int64) := (fun b j => cond (okR b j) (h.1 b j) 0, fun b j => cond (okR b j) (h.2.1 b j) 0)
def mR3 (m : (Nat → Nat → Int32) × (Nat → Nat → Int64)) : sm_H := (m.1, m.2, fun _ _ => none, fun _ => 0, fun _ => 0, 0, 0)
theorem mR_eq {g g1 : sm_H} (a : ∀ b j, ¬ notR b j → g1.1 b j = g.1 b j ∧ g1.2.1 b j = g.2.1 b j) : mR2 g1 = mR2 g := by
  have e : ∀ b j, okR b j = true → ¬ notR b j := fun b j t z => by rw [show okR b j = false from z] at t; cases t
  refine Prod.ext (funext fun b => funext fun j => ?_) (funext fun b => funext fun j => ?_)
  · show cond (okR b j) (g1.1 b j) 0 = cond (okR b j) (g.1 b j) 0
    cases q : okR b j with
    | false => rfl
    | true => exact (a b j (e b j q)).1
  · show cond (okR b j) (g1.2.1 b j) 0 = cond (okR b j) (g.2.1 b j) 0
    cases q : okR b j with
    | false => rfl
    | true => exact (a b j (e b j q)).2
theorem bel_mR (g : sm_H) : ∀ (n x o : Nat), bel (mR3 (mR2 g)) n x o = bel g n x o := by
  intro n
  induction n with
  | zero => intro x o; rfl
  | succ n ih =>
    intro x o
    show (bif Nat.blt x 20 then kBase x o else Nat.beq x o || bel (mR3 (mR2 g)) n (par (mR3 (mR2 g)) (x - 20)) o) = (bif Nat.blt x 20 then kBase x o else Nat.beq x o || bel g n (par g (x - 20)) o)
    rw [ih]; rfl
theorem okC_hi {b : Nat} (hb : 131 ≤ b) (j : Nat) : okC b j = true := by
  have ne : ∀ k, k < 131 → Nat.beq b k = false := fun k hk => by
    cases w : Nat.beq b k with
    | false => rfl
    | true => have := Nat.eq_of_beq_eq_true w; omega
  have le : ∀ k, k < 131 → Nat.ble b k = false := fun k hk => by
    cases w : Nat.ble b k with
    | false => rfl
    | true => have := Nat.le_of_ble_eq_true w; omega
  unfold okC
  simp only [ne 9 (by decide), ne 5 (by decide), ne 49 (by decide), ne 52 (by decide), ne 55 (by decide), le 37 (by decide), ne 48 (by decide), le 51 (by decide), le 61 (by decide), le 130 (by decide), Bool.and_false, Bool.false_and, Bool.or_false, Bool.not_false]
theorem cXh_m {h g : sm_H} : cXh (mC h) g ↔ cXh h g := by
  have a1 : ∀ b j, 131 ≤ b → (mC h).1 b j = h.1 b j := fun b j hb => by show cond (okC b j) _ _ = _; rw [okC_hi hb]; rfl
  have a2 : ∀ b j, 131 ≤ b → (mC h).2.1 b j = h.2.1 b j := fun b j hb => by show cond (okC b j) _ _ = _; rw [okC_hi hb]; rfl
  have a3 : ∀ b j, 131 ≤ b → (mC h).2.2.1 b j = h.2.2.1 b j := fun b j hb => by show cond (okC b j) _ _ = _; rw [okC_hi hb]; rfl
  unfold cXh
  have : ∀ t, ((mC h).2.2.1 22 t = some (131 + 3 * t) ∧ (mC h).2.2.2.1 (131 + 3 * t) = 8 ∧ (mC h).2.2.1 (131 + 3 * t) 0 = some (132 + 3 * t) ∧ (mC h).2.2.1 (131 + 3 * t) 1 = some (133 + 3 * t) ∧ (mC h).2.2.2.1 (132 + 3 * t) = 101 ∧ (mC h).2.2.2.1 (133 + 3 * t) = 100 ∧ (mC h).2.2.2.2.1 (132 + 3 * t) = szX g t ∧ (mC h).2.2.2.2.1 (133 + 3 * t) = szX g t ∧ ∀ i, i < szX g t → (mC h).2.1 (132 + 3 * t) i = g.2.1 99 (100 * t + i) ∧ (mC h).1 (133 + 3 * t) i = tag (g.1 98 (100 * t + i))) ↔ (h.2.2.1 22 t = some (131 + 3 * t) ∧ h.2.2.2.1 (131 + 3 * t) = 8 ∧ h.2.2.1 (131 + 3 * t) 0 = some (132 + 3 * t) ∧ h.2.2.1 (131 + 3 * t) 1 = some (133 + 3 * t) ∧ h.2.2.2.1 (132 + 3 * t) = 101 ∧ h.2.2.2.1 (133 + 3 * t) = 100 ∧ h.2.2.2.2.1 (132 + 3 * t) = szX g t ∧ h.2.2.2.2.1 (133 + 3 * t) = szX g t ∧ ∀ i, i < szX g t → h.2.1 (132 + 3 * t) i = g.2.1 99 (100 * t + i) ∧ h.1 (133 + 3 * t) i = tag (g.1 98 (100 * t + i))) := by
    intro t
    have e1 := a3 (131 + 3 * t) 0 (by omega)
    have e2 := a3 (131 + 3 * t) 1 (by omega)
    have e3 : (mC h).2.2.1 22 t = h.2.2.1 22 t := rfl
    have e4 : (mC h).2.2.2 = h.2.2.2 := rfl
    rw [e1, e2, e3, e4]
    constructor
    · rintro ⟨c1, c2, c3, c4, c5, c6, c7, c8, c9⟩
      refine ⟨c1, c2, c3, c4, c5, c6, c7, c8, fun i hi => ?_⟩
      have := c9 i hi
      rwa [a2 _ _ (by omega), a1 _ _ (by omega)] at this
    · rintro ⟨c1, c2, c3, c4, c5, c6, c7, c8, c9⟩
      refine ⟨c1, c2, c3, c4, c5, c6, c7, c8, fun i hi => ?_⟩
      rw [a2 _ _ (by omega), a1 _ _ (by omega)]
      exact c9 i hi
  constructor
  · rintro ⟨x, y, z⟩; exact ⟨x, y, fun t ht => (this t).mp (z t ht)⟩
  · rintro ⟨x, y, z⟩; exact ⟨x, y, fun t ht => (this t).mpr (z t ht)⟩
theorem bel_mRf (g : sm_H) : bel (mR3 (mR2 g)) = bel g := funext fun n => funext fun x => funext fun o => bel_mR g n x o
theorem okO_m (g : sm_H) : okO (mR3 (mR2 g)) = okO g := rfl
theorem okV_m (g : sm_H) : okV (mR3 (mR2 g)) = okV g := by
  funext s k n
  unfold okV
  rw [okO_m]
  show (_ ∨ _ ∨ (_ ∧ ∃ q, _ ∧ _ ∧ bel (mR3 (mR2 g)) 12 q s = true ∧ _)) = _
  rw [bel_mRf]; rfl
theorem cK_m {h g : sm_H} : cK (mC h) (mR3 (mR2 g)) ↔ cK h g := by
  unfold cK
  show (_ ∧ _ ∧ ∀ a b, a < 20 + nC g → b < 32 → h.1 2 (a * 32 + b) = b2 (bel (mR3 (mR2 g)) 12 a b)) ↔ _
  rw [bel_mRf]; rfl
theorem wfX_m {g : sm_H} : wfX (mR3 (mR2 g)) ↔ wfX g := by
  unfold wfX
  rw [okV_m]; rfl
theorem cXh_mR {h g : sm_H} : cXh h (mR3 (mR2 g)) ↔ cXh h g := Iff.rfl
theorem I1_m {h g : sm_H} : I1 (mC h) (mR3 (mR2 g)) ↔ I1 h g := by
  constructor
  · rintro ⟨wK, cK, wT, cT, wH, cH, wM, cM, cR, cP, cG, cO, cV, wX, cX, cXh, cU, cY, cF, cZ⟩
    exact ⟨wK, cK_m.mp cK, wT, cT, wH, cH, wM, cM, cR, cP, cG, cO, cV, wfX_m.mp wX, cX, cXh_m.mp (cXh_mR.mp cXh), cU, cY, cF, cZ⟩
  · rintro ⟨wK, cK, wT, cT, wH, cH, wM, cM, cR, cP, cG, cO, cV, wX, cX, cXh, cU, cY, cF, cZ⟩
    exact ⟨wK, cK_m.mpr cK, wT, cT, wH, cH, wM, cM, cR, cP, cG, cO, cV, wfX_m.mpr wX, cX, cXh_mR.mpr (cXh_m.mpr cXh), cU, cY, cF, cZ⟩
def kR (h h1 : sm_H) : Prop := ∀ b j, 67 ≤ b → b < 131 → h1.1 b j = h.1 b j ∧ h1.2.1 b j = h.2.1 b j
def kC (g g1 : sm_H) : Prop := agr (fun b _ => 67 ≤ b ∧ b < 131) g g1
theorem okR_lo {b j : Nat} (h : okR b j = true) : 67 ≤ b ∧ b < 131 := by
  unfold okR at h
  have le : ∀ {a b : Nat}, Nat.ble a b = true → a ≤ b := fun h => Nat.le_of_ble_eq_true h
  simp only [Bool.or_eq_true, Bool.and_eq_true] at h
  rcases h with (⟨⟨⟨a, b⟩, -⟩, -⟩ | ⟨a, b⟩) | ⟨a, -⟩
  · have := le a; have := le b; omega
  · have := le a; have := le b; omega
  · have := Nat.eq_of_beq_eq_true a; omega
theorem okC_no {b j : Nat} (h1 : 67 ≤ b) (h2 : b < 131) : okC b j = false := by
  unfold okC
  have : (Nat.ble 67 b && Nat.ble b 130) = true := by rw [Nat.ble_eq_true_of_le h1, Nat.ble_eq_true_of_le (by omega)]; rfl
  simp [this]
theorem I1_g {h g g1 : sm_H} (I : I1 h g) (a : ∀ b j, okR b j = true → g1.1 b j = g.1 b j ∧ g1.2.1 b j = g.2.1 b j) : I1 h g1 := by
  have e : mR2 g1 = mR2 g := mR_eq (fun b j n => a b j (by cases q : okR b j with | false => exact absurd q n | true => rfl))
  have := I1_m.mpr I
  rw [← e] at this
  exact I1_m.mp this
theorem I1_h {h h1 g : sm_H} (I : I1 h g) (a : agr notC h h1) : I1 h1 g := by
  have := I1_m.mpr I
  rw [← mC_eq a] at this
  exact I1_m.mp this
theorem op_of2 {α : Type} {Fc Fr : sm_H → Option (α × sm_H)} (W : ∀ h g, I1 h g → ∃ v h1 g1, Fc h = some (v, h1) ∧ Fr g = some (v, g1) ∧ I1 h1 g1 ∧ kR h h1 ∧ kC g g1) {h : sm_H} (I : I0 h) : ∃ v h1 h2, Fc h = some (v, h1) ∧ Fr h1 = some (v, h2) ∧ I0 h2 := by
  obtain ⟨v, h1, -, e1, -, -, k1, -⟩ := W h h I
  have I2 : I1 h h1 := I1_g I (fun b j q => k1 b j (okR_lo q).1 (okR_lo q).2)
  obtain ⟨v', h1', g1, e3, e4, e5, -, k4⟩ := W h h1 I2
  rw [e1] at e3
  cases e3
  exact ⟨v, h1, g1, e1, e4, I1_h e5 (agr_mono (fun b j q => okC_no q.1 q.2) k4)⟩
