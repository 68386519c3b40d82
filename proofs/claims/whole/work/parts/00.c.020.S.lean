def K1 (h g : sm_H) : Prop := wfK g ∧ cK h g ∧ wfT g ∧ cT h g ∧ wfH0 g ∧ cH h g ∧ wfM g ∧ cM h g ∧ cG h g ∧ cO h g ∧ cV h g ∧ wfX g ∧ cX h g ∧ cXh h g ∧ wfF g
theorem I1_K {h g : sm_H} : I1 h g ↔ K1 h g ∧ cR h g ∧ cP h g ∧ cU h g ∧ cY h g ∧ cF h g ∧ cZ h g := by
  constructor
  · rintro ⟨wK, cK, wT, cT, wH, cH, wM, cM, cR, cP, cG, cO, cV, wX, cX, cXh, cU, cY, cF, cZ, wF⟩
    exact ⟨⟨wK, cK, wT, cT, wH, cH, wM, cM, cG, cO, cV, wX, cX, cXh, wF⟩, cR, cP, cU, cY, cF, cZ⟩
  · rintro ⟨⟨wK, cK, wT, cT, wH, cH, wM, cM, cG, cO, cV, wX, cX, cXh, wF⟩, cR, cP, cU, cY, cF, cZ⟩
    exact ⟨wK, cK, wT, cT, wH, cH, wM, cM, cR, cP, cG, cO, cV, wX, cX, cXh, cU, cY, cF, cZ, wF⟩
theorem K1_base {h g : sm_H} (K : K1 h g) : base g := by
  obtain ⟨wK, cK, wT, cT, wH, cH, wM, cM, cG, cO, cV, wX, cX, cXh, wF⟩ := K
  have h12 := wK.2.1
  refine ⟨wK, wT, wH, wM, fun v hv => ?_, fun k hk => ?_⟩
  · obtain ⟨q, z1, z2, -⟩ := cV.2.2.2 v hv
    rw [z1]; show (I3 q).toNatClampNeg < _; rw [I3_clamp (by omega)]; exact z2
  · obtain ⟨a, z1, z2⟩ := cG.2.2.2 k hk
    have w500 : nH g ≤ 500 := wH.1.2
    rw [z2]; show (I3 a).toNatClampNeg < _; rw [I3_clamp (by omega)]; exact z1
def oC (b : Nat) : Prop := b = 47 ∨ b = 0 ∨ b = 49 ∨ (52 ≤ b ∧ b ≤ 55) ∨ (62 ≤ b ∧ b ≤ 66)
def oR (b j : Nat) : Prop := b = 68 ∨ (110 ≤ b ∧ b ≤ 116) ∨ (b = 67 ∧ (j = 1 ∨ j = 19 ∨ (68 ≤ j ∧ j ≤ 73) ∨ (76 ≤ j ∧ j ≤ 78) ∨ j = 91))
theorem I1_re' {h g h1 g1 : sm_H} (I : I1 h g) (K : K1 h1 g1) (E : ext g g1) (G : grow g g1) (eh : ∀ b j, oC b → h1.1 b j = h.1 b j ∧ h1.2.1 b j = h.2.1 b j) (eg : ∀ b j, oR b j → g1.1 b j = g.1 b j) (eg2 : ∀ b j, oR b j → (j ≠ 19 ∨ b ≠ 67) → g1.2.1 b j = g.2.1 b j) : I1 h1 g1 := by
  have B0 := I1_base I
  obtain ⟨-, cR, cP, cU, cY, cF, cZ⟩ := I1_K.mp I
  have a : ∀ b j, oC b → h1.1 b j = h.1 b j := fun b j o => (eh b j o).1
  have a' : ∀ b j, oC b → h1.2.1 b j = h.2.1 b j := fun b j o => (eh b j o).2
  have b : ∀ b j, oR b j → g1.1 b j = g.1 b j := eg
  have b' : ∀ b j, oR b j → (j ≠ 19 ∨ b ≠ 67) → g1.2.1 b j = g.2.1 b j := eg2
  refine I1_K.mpr ⟨K, ?_, ?_, ?_, ?_, ?_, ?_⟩
  · obtain ⟨r1, r2, r3⟩ := cR
    refine ⟨?_, ?_, fun k hk => ?_⟩
    · rw [a 64 1 (by unfold oC; omega), b 67 1 (by unfold oR; omega)]; exact r1
    · rw [b 67 1 (by unfold oR; omega)]; exact r2
    · rw [a 65 k (by unfold oC; omega), b 68 k (by unfold oR; omega)]; exact r3 k hk
  · obtain ⟨r1, r2, r3⟩ := cP
    refine ⟨?_, ?_, fun k hk => ?_⟩
    · rw [a 0 11 (by unfold oC; omega), b 67 68 (by unfold oR; omega)]; exact r1
    · rw [b 67 68 (by unfold oR; omega)]; exact r2
    · rw [a' 66 k (by unfold oC; omega), b' 110 k (by unfold oR; omega) (Or.inr (by decide))]; exact r3 k hk
  · obtain ⟨u1, u2, u3, u4, u5, u6, u7⟩ := cU
    unfold CHandleHouseLaw_law_r9294_ac1f8b.cU
    rw [a 49 11 (by unfold oC; omega), a 49 8 (by unfold oC; omega), a 49 12 (by unfold oC; omega), a 49 10 (by unfold oC; omega), a' 49 9 (by unfold oC; omega), b 67 69 (by unfold oR; omega), b 67 73 (by unfold oR; omega), b 67 70 (by unfold oR; omega), b 67 71 (by unfold oR; omega), b' 67 72 (by unfold oR; omega) (by decide)]
    refine ⟨u1, u2, u3, u4, u5, ?_, u7⟩
    rcases u6 with z | z | ⟨⟨q, z1, z2, z3⟩, z4⟩
    · exact Or.inl z
    · exact Or.inr (Or.inl z)
    · exact Or.inr (Or.inr ⟨⟨q, z1, by have := G.1; omega, okO_grow G z3⟩, z4⟩)
  · obtain ⟨y1, y2, y3, y4⟩ := cY
    refine ⟨?_, ?_, fun k hk => ?_, fun k hk => ?_⟩
    · rw [a 52 1 (by unfold oC; omega), b 67 76 (by unfold oR; omega)]; exact y1
    · rw [b 67 76 (by unfold oR; omega)]; exact y2
    · rw [a 53 k (by unfold oC; omega), b 112 k (by unfold oR; omega)]; exact y3 k hk
    · rw [a 54 k (by unfold oC; omega), b 111 k (by unfold oR; omega)]; exact y4 k hk
  · obtain ⟨f1, f2, f3, f4, f5⟩ := cF
    have e91 : g1.1 67 91 = g.1 67 91 := b 67 91 (by unfold oR; omega)
    have eD : nD g1 = nD g := by show tn _ = tn _; rw [e91]
    refine ⟨?_, ?_, ?_, ?_, fun d hd => ?_⟩
    · rw [a 55 17 (by unfold oC; omega), b 67 77 (by unfold oR; omega)]; exact f1
    · rw [a 55 18 (by unfold oC; omega), b 67 78 (by unfold oR; omega)]; exact f2
    · rw [a 55 15 (by unfold oC; omega), e91]; exact f3
    · rw [e91]; exact f4
    · rw [eD] at hd
      obtain ⟨d1, d2, x, d3, d4, d5, d6, d7⟩ := f5 d hd
      have lt := (B0.h.2 x d3).2.2.1
      have eM : tM g1 (ty g x) = tM g (ty g x) := by show tn _ = tn _; rw [(E.t.2 _ lt).2.1]
      rw [a' 62 d (by unfold oC; omega), b' 113 d (by unfold oR; omega) (Or.inr (by decide)), a 63 d (by unfold oC; omega), b 114 d (by unfold oR; omega)]
      refine ⟨d1, d2, x, by have := E.h1; omega, d4, ?_⟩
      rw [ext_ty E d3, eM, b 115 d (by unfold oR; omega), (E.t.2 _ lt).2.1]
      refine ⟨d5, d6, fun i hi => ?_⟩
      rw [b 116 _ (by unfold oR; omega), (E.t.2 _ lt).2.2 i hi]
      exact d7 i hi
  · show h1.1 0 12 = g1.1 67 19 ∧ h1.1 47 1 = 0
    rw [a 0 12 (by unfold oC; omega), b 67 19 (by unfold oR; omega), a 47 1 (by unfold oC; omega)]; exact cZ
theorem I1_re {h g h1 g1 : sm_H} (I : I1 h g) (K : K1 h1 g1) (E : ext g g1) (G : grow g g1) (eh : ∀ b j, oC b → h1.1 b j = h.1 b j ∧ h1.2.1 b j = h.2.1 b j) (eg : ∀ b j, oR b j → g1.1 b j = g.1 b j ∧ g1.2.1 b j = g.2.1 b j) : I1 h1 g1 := I1_re' I K E G eh (fun b j o => (eg b j o).1) (fun b j o _ => (eg b j o).2)
theorem oC_agr {S : Nat → Nat → Prop} {h h1 : sm_H} (a : agr S h h1) (d : ∀ b j, S b j → ¬ oC b) : ∀ b j, oC b → h1.1 b j = h.1 b j ∧ h1.2.1 b j = h.2.1 b j := fun b j o => ⟨a.1 b j (fun z => d b j z o), a.2.1 b j (fun z => d b j z o)⟩
theorem oR_agr {S : Nat → Nat → Prop} {h h1 : sm_H} (a : agr S h h1) (d : ∀ b j, S b j → ¬ oR b j) : ∀ b j, oR b j → h1.1 b j = h.1 b j ∧ h1.2.1 b j = h.2.1 b j := fun b j o => ⟨a.1 b j (fun z => d b j z o), a.2.1 b j (fun z => d b j z o)⟩
theorem ext_rfl {g : sm_H} : ext g g := ⟨Nat.le_refl _, fun _ _ => rfl, Nat.le_refl _, fun _ _ => rfl, ⟨Nat.le_refl _, fun _ _ => ⟨rfl, rfl, fun _ _ => rfl⟩⟩, Nat.le_refl _, fun _ _ => rfl, Nat.le_refl _, fun _ _ => rfl, Nat.le_refl _, ⟨Nat.le_refl _, fun _ _ => ⟨rfl, rfl, rfl, rfl, rfl, rfl⟩⟩⟩
theorem grow_rfl {g : sm_H} : grow g g := ⟨Nat.le_refl _, Nat.le_refl _, Nat.le_refl _, fun _ _ => rfl, fun _ _ => rfl⟩
theorem C_fits {h g : sm_H} (wT : wfT g) (cT : cT h g) {l : List Int32} (d : dC h l) (h64 : l.length ≤ 64) (r : Int32) : F_233 r h = some (b2 (decide (l.length ≤ 10 ∧ (nT g < 300 ∨ fT g r l < nT g))), h) := by
  have e1 := d.1
  have e2 : g.1 67 10 = I3 (nT g) := wT.1.1
  have e3 : nT g ≤ 300 := wT.1.2
  have e4 : h.1 5 4 = I3 (nT g) := cT.1.trans e2
  by_cases c1 : l.length ≤ 10
  · by_cases c2 : nT g < 300
    · rw [decide_eq_true ⟨c1, Or.inl c2⟩]
      simp (disch := omega) only [F_233_33, F_233_32, F_233_28, F_233_0, F_233, ↓reduceIte, if_true, if_false, ite_self, Option.bind_some, Option.map_some, wI_rd, wJ_rd, wI_2, wJ_1, wJ_22, I3_lit, I3_add, I3_mul, I3_lt, I3_le, I3_inj, I3_nn', I3_n1, I3_n2, m2m1, ldI_I, ldJ_I, ldZ_I, stI_I, stJ_I, true_or, or_true, false_or, or_false, true_and, and_true, false_and, and_false, not_true_eq_false, not_false_eq_true, reduceCtorEq, Nat.reduceEqDiff, Nat.lt_irrefl, Nat.not_lt_zero, Nat.le_refl, Nat.reduceLT, Nat.reduceLeDiff, eq_self, zbbI, bbI0, bbI1, decide_eq_false_iff_not, decide_eq_true_eq, Bool.not_eq_false, Bool.not_eq_true, Bool.not_true, Bool.not_false, cond_true, cond_false, e1, e4, show ¬ 10 < l.length by omega, c2]; rfl
    · have K := C_known wT cT d c1 r
      unfold orN at K
      by_cases c3 : fT g r l < nT g
      · rw [decide_eq_true ⟨c1, Or.inr c3⟩]
        rw [if_pos c3] at K
        simp (disch := omega) only [F_233_33, F_233_32, F_233_28, F_233_0, F_233, ↓reduceIte, if_true, if_false, ite_self, Option.bind_some, Option.map_some, wI_rd, wJ_rd, wI_2, wJ_1, wJ_22, I3_lit, I3_add, I3_mul, I3_lt, I3_le, I3_inj, I3_nn', I3_n1, I3_n2, m2m1, ldI_I, ldJ_I, ldZ_I, stI_I, stJ_I, true_or, or_true, false_or, or_false, true_and, and_true, false_and, and_false, not_true_eq_false, not_false_eq_true, reduceCtorEq, Nat.reduceEqDiff, Nat.lt_irrefl, Nat.not_lt_zero, Nat.le_refl, Nat.reduceLT, Nat.reduceLeDiff, eq_self, zbbI, bbI0, bbI1, decide_eq_false_iff_not, decide_eq_true_eq, Bool.not_eq_false, Bool.not_eq_true, Bool.not_true, Bool.not_false, cond_true, cond_false, e1, e4, show ¬ 10 < l.length by omega, c2, K]; rfl
      · rw [decide_eq_false (by omega)]
        rw [if_neg c3] at K
        simp (disch := omega) only [F_233_33, F_233_32, F_233_28, F_233_0, F_233, ↓reduceIte, if_true, if_false, ite_self, Option.bind_some, Option.map_some, wI_rd, wJ_rd, wI_2, wJ_1, wJ_22, I3_lit, I3_add, I3_mul, I3_lt, I3_le, I3_inj, I3_nn', I3_n1, I3_n2, m2m1, ldI_I, ldJ_I, ldZ_I, stI_I, stJ_I, true_or, or_true, false_or, or_false, true_and, and_true, false_and, and_false, not_true_eq_false, not_false_eq_true, reduceCtorEq, Nat.reduceEqDiff, Nat.lt_irrefl, Nat.not_lt_zero, Nat.le_refl, Nat.reduceLT, Nat.reduceLeDiff, eq_self, zbbI, bbI0, bbI1, decide_eq_false_iff_not, decide_eq_true_eq, Bool.not_eq_false, Bool.not_eq_true, Bool.not_true, Bool.not_false, cond_true, cond_false, e1, e4, show ¬ 10 < l.length by omega, c2, K]; rfl
  · rw [decide_eq_false (by omega)]
    simp (disch := omega) only [F_233_33, F_233_32, F_233_28, F_233_0, F_233, ↓reduceIte, if_true, if_false, ite_self, Option.bind_some, Option.map_some, wI_rd, wJ_rd, wI_2, wJ_1, wJ_22, I3_lit, I3_add, I3_mul, I3_lt, I3_le, I3_inj, I3_nn', I3_n1, I3_n2, m2m1, ldI_I, ldJ_I, ldZ_I, stI_I, stJ_I, true_or, or_true, false_or, or_false, true_and, and_true, false_and, and_false, not_true_eq_false, not_false_eq_true, reduceCtorEq, Nat.reduceEqDiff, Nat.lt_irrefl, Nat.not_lt_zero, Nat.le_refl, Nat.reduceLT, Nat.reduceLeDiff, eq_self, zbbI, bbI0, bbI1, decide_eq_false_iff_not, decide_eq_true_eq, Bool.not_eq_false, Bool.not_eq_true, Bool.not_true, Bool.not_false, cond_true, cond_false, e1, show 10 < l.length by omega]; rfl
def plF (f : Nat → Int32) (n : Nat) (l : List Int32) (k : Nat) : Nat → Int32 := fun i => if 10 * n ≤ i ∧ i < 10 * n + k then at0 l (i - 10 * n) else f i
def setTC (h : sm_H) (n : Nat) (r : Int32) (l : List Int32) : sm_H := sm_wI (wA (sm_wI (sm_wI h 6 n r) 7 n (I3 l.length)) 8 (plF (h.1 8) n l l.length)) 5 4 (I3 (n + 1))
def setTR (g : sm_H) (n : Nat) (r : Int32) (l : List Int32) : sm_H := sm_wI (wA (sm_wI (sm_wI g 72 n r) 73 n (I3 l.length)) 74 (plF (g.1 74) n l l.length)) 67 10 (I3 (n + 1))
theorem C_settle1 {h g : sm_H} (wT : wfT g) (cT : cT h g) {l : List Int32} (d : dC h l) (hl : l.length ≤ 10) (r : Int32) (c : fT g r l < nT g) : F_234 r h = some (I3 (fT g r l), h) := by
  have e1 := d.1
  have e3 : nT g ≤ 300 := wT.1.2
  have K := C_known wT cT d hl r
  unfold orN at K
  rw [if_pos c] at K
  simp (disch := omega) only [F_234_43, F_234_18, F_234_0, F_234, ↓reduceIte, if_true, if_false, ite_self, Option.bind_some, Option.map_some, wI_rd, wJ_rd, wI_2, wJ_1, wJ_22, I3_lit, I3_add, I3_mul, I3_lt, I3_le, I3_inj, I3_nn', I3_n1, I3_n2, m2m1, ldI_I, ldJ_I, ldZ_I, stI_I, stJ_I, true_or, or_true, false_or, or_false, true_and, and_true, false_and, and_false, not_true_eq_false, not_false_eq_true, reduceCtorEq, Nat.reduceEqDiff, Nat.lt_irrefl, Nat.not_lt_zero, Nat.le_refl, Nat.reduceLT, Nat.reduceLeDiff, eq_self, zbbI, bbI0, bbI1, decide_eq_false_iff_not, decide_eq_true_eq, Bool.not_eq_false, Bool.not_eq_true, Bool.not_true, Bool.not_false, cond_true, cond_false, e1, show ¬ 10 < l.length by omega, K]
theorem C_settle2 {h g : sm_H} (wT : wfT g) (cT : cT h g) {l : List Int32} (d : dC h l) (hl : l.length ≤ 10) (r : Int32) (c : fT g r l = nT g) (room : nT g < 300) : F_234 r h = some (I3 (nT g), setTC h (nT g) r l) := by
  have e1 := d.1
  have e2 : g.1 67 10 = I3 (nT g) := wT.1.1
  have e4 : h.1 5 4 = I3 (nT g) := cT.1.trans e2
  have K := C_known wT cT d hl r
  unfold orN at K
  rw [if_neg (by omega)] at K
  generalize nT g = n at *
  have cp : sm_cpI G0 (sm_wI (sm_wI h 6 n r) 7 n (I3 l.length)) 9 (I3 0) 8 (I3 (n * 10)) (I3 l.length) = some (wA (sm_wI (sm_wI h 6 n r) 7 n (I3 l.length)) 8 (plF (h.1 8) n l l.length)) := by
    unfold sm_cpI
    have i1 : sm_is G0 (sm_wI (sm_wI h 6 n r) 7 n (I3 l.length)) 9 100 = true := rfl
    have i2 : sm_is G0 (sm_wI (sm_wI h 6 n r) 7 n (I3 l.length)) 8 100 = true := rfl
    have i3 : sm_ln G0 (sm_wI (sm_wI h 6 n r) 7 n (I3 l.length)) 9 = 10 := rfl
    have i4 : sm_ln G0 (sm_wI (sm_wI h 6 n r) 7 n (I3 l.length)) 8 = 3000 := rfl
    rw [i1, i2, i3, i4, I3_clamp (by omega), I3_clamp (by omega), I3_clamp (by omega), if_pos ⟨I3_nn (by omega), I3_nn (by omega), I3_nn (by omega), by omega, by omega⟩]
    show some (wA (sm_wI (sm_wI h 6 n r) 7 n (I3 l.length)) 8 (va_cpy (h.1 9) (h.1 8) 0 (n * 10) l.length)) = _
    congr 2
    funext i
    unfold va_cpy plF
    by_cases q : 10 * n ≤ i ∧ i < 10 * n + l.length
    · rw [if_pos q, if_pos (by omega)]
      have := d.2 (i - 10 * n) (by omega) (by omega)
      rw [← this, show 0 + (i - n * 10) = i - 10 * n by omega]
    · rw [if_neg q, if_neg (by omega)]
  have e5 : (h.1 5 6 : Int32) = I3 l.length := e1
  simp (disch := omega) only [F_234_43, F_234_18, F_234_0, F_234, ↓reduceIte, if_true, if_false, ite_self, Option.bind_some, Option.map_some, wI_rd, wJ_rd, wI_2, wJ_1, wJ_22, I3_lit, I3_add, I3_mul, I3_lt, I3_le, I3_inj, I3_nn', I3_n1, I3_n2, m2m1, ldI_I, ldJ_I, ldZ_I, stI_I, stJ_I, true_or, or_true, false_or, or_false, true_and, and_true, false_and, and_false, not_true_eq_false, not_false_eq_true, reduceCtorEq, Nat.reduceEqDiff, Nat.lt_irrefl, Nat.not_lt_zero, Nat.le_refl, Nat.reduceLT, Nat.reduceLeDiff, eq_self, zbbI, bbI0, bbI1, decide_eq_false_iff_not, decide_eq_true_eq, Bool.not_eq_false, Bool.not_eq_true, Bool.not_true, Bool.not_false, cond_true, cond_false, e1, e4, show ¬ 10 < l.length by omega, K, room, cp, wA_rd, I3_sub, Nat.add_sub_cancel]
  rfl
theorem R_made1 {g : sm_H} (wT : wfT g) {l : List Int32} (d : dR g l) (hl : l.length ≤ 10) {r : Int32} (er : g.1 67 20 = r) (c : fT g r l < nT g) : F_302 g = some (I3 (fT g r l), g) := by
  have e1 := d.1
  have e3 : nT g ≤ 300 := wT.1.2
  have K := R_findT wT d hl r
  unfold orN at K
  rw [if_pos c] at K
  simp (disch := omega) only [F_302_69B, F_302_69, F_302_39, F_302_0, F_302, ↓reduceIte, if_true, if_false, ite_self, Option.bind_some, Option.map_some, wI_rd, wJ_rd, wI_2, wJ_1, wJ_22, I3_lit, I3_add, I3_mul, I3_lt, I3_le, I3_inj, I3_nn', I3_n1, I3_n2, m2m1, ldI_I, ldJ_I, ldZ_I, stI_I, stJ_I, true_or, or_true, false_or, or_false, true_and, and_true, false_and, and_false, not_true_eq_false, not_false_eq_true, reduceCtorEq, Nat.reduceEqDiff, Nat.lt_irrefl, Nat.not_lt_zero, Nat.le_refl, Nat.reduceLT, Nat.reduceLeDiff, eq_self, zbbI, bbI0, bbI1, decide_eq_false_iff_not, decide_eq_true_eq, Bool.not_eq_false, Bool.not_eq_true, Bool.not_true, Bool.not_false, cond_true, cond_false, e1, er, hl, K]
theorem R_made2 {g : sm_H} (wT : wfT g) {l : List Int32} (d : dR g l) (hl : l.length ≤ 10) {r : Int32} (er : g.1 67 20 = r) (c : fT g r l = nT g) (room : nT g < 300) : F_302 g = some (I3 (nT g), setTR g (nT g) r l) := by
  have e1 := d.1
  have e2 : g.1 67 10 = I3 (nT g) := wT.1.1
  have K := R_findT wT d hl r
  unfold orN at K
  rw [if_neg (by omega)] at K
  generalize nT g = n at *
  have L := lp_it (body := F_302_69B) (r := (I3 n, setTR g n r l)) l.length (fun k => (I3 k, wA (sm_wI (sm_wI g 72 n r) 73 n (I3 l.length)) 74 (plF (g.1 74) n l k))) 1000000 (fun k hk => ?_) ?_ (by omega)
  · have w0 : wA (sm_wI (sm_wI g 72 n r) 73 n (I3 l.length)) 74 (plF (g.1 74) n l 0) = sm_wI (sm_wI g 72 n r) 73 n (I3 l.length) := by
      have : plF (g.1 74) n l 0 = (sm_wI (sm_wI g 72 n r) 73 n (I3 l.length)).1 74 := by
        funext i; unfold plF; rw [if_neg (by omega)]; rfl
      rw [this, wA_self]
    simp only [w0] at L
    simp (disch := omega) only [↓reduceIte, if_true, if_false, ite_self, Option.bind_some, Option.map_some, wI_rd, wJ_rd, wI_2, wJ_1, wJ_22, I3_lit, I3_add, I3_mul, I3_lt, I3_le, I3_inj, I3_nn', I3_n1, I3_n2, m2m1, ldI_I, ldJ_I, ldZ_I, stI_I, stJ_I, true_or, or_true, false_or, or_false, true_and, and_true, false_and, and_false, not_true_eq_false, not_false_eq_true, reduceCtorEq, Nat.reduceEqDiff, Nat.lt_irrefl, Nat.not_lt_zero, Nat.le_refl, Nat.reduceLT, Nat.reduceLeDiff, eq_self, zbbI, bbI0, bbI1, decide_eq_false_iff_not, decide_eq_true_eq, Bool.not_eq_false, Bool.not_eq_true, Bool.not_true, Bool.not_false, cond_true, cond_false, F_302, F_302_0, F_302_69, F_302_39, e1, e2, er, hl, K, show ¬ n = 300 by omega, L]
  · have z := d.2 k hk
    have st : sm_wI (wA (sm_wI (sm_wI g 72 n r) 73 n (I3 l.length)) 74 (plF (g.1 74) n l k)) 74 (10 * n + k) (at0 l k) = wA (sm_wI (sm_wI g 72 n r) 73 n (I3 l.length)) 74 (plF (g.1 74) n l (k + 1)) := by
      rw [wA_wI]
      congr 1
      funext i
      unfold plF
      by_cases q : i = 10 * n + k
      · rw [if_pos q, if_pos (by omega), q, show 10 * n + k - 10 * n = k by omega]
      · rw [if_neg q]
        by_cases q2 : 10 * n ≤ i ∧ i < 10 * n + k
        · rw [if_pos q2, if_pos (by omega)]
        · rw [if_neg q2, if_neg (by omega)]
    simp (disch := omega) only [↓reduceIte, if_true, if_false, ite_self, Option.bind_some, Option.map_some, wI_rd, wJ_rd, wI_2, wJ_1, wJ_22, I3_lit, I3_add, I3_mul, I3_lt, I3_le, I3_inj, I3_nn', I3_n1, I3_n2, m2m1, ldI_I, ldJ_I, ldZ_I, stI_I, stJ_I, true_or, or_true, false_or, or_false, true_and, and_true, false_and, and_false, not_true_eq_false, not_false_eq_true, reduceCtorEq, Nat.reduceEqDiff, Nat.lt_irrefl, Nat.not_lt_zero, Nat.le_refl, Nat.reduceLT, Nat.reduceLeDiff, eq_self, zbbI, bbI0, bbI1, decide_eq_false_iff_not, decide_eq_true_eq, Bool.not_eq_false, Bool.not_eq_true, Bool.not_true, Bool.not_false, cond_true, cond_false, F_302_69B, wA_rd, e1, e2, z, show ¬ l.length ≤ k by omega, st]
  · simp (disch := omega) only [↓reduceIte, if_true, if_false, ite_self, Option.bind_some, Option.map_some, wI_rd, wJ_rd, wI_2, wJ_1, wJ_22, I3_lit, I3_add, I3_mul, I3_lt, I3_le, I3_inj, I3_nn', I3_n1, I3_n2, m2m1, ldI_I, ldJ_I, ldZ_I, stI_I, stJ_I, true_or, or_true, false_or, or_false, true_and, and_true, false_and, and_false, not_true_eq_false, not_false_eq_true, reduceCtorEq, Nat.reduceEqDiff, Nat.lt_irrefl, Nat.not_lt_zero, Nat.le_refl, Nat.reduceLT, Nat.reduceLeDiff, eq_self, zbbI, bbI0, bbI1, decide_eq_false_iff_not, decide_eq_true_eq, Bool.not_eq_false, Bool.not_eq_true, Bool.not_true, Bool.not_false, cond_true, cond_false, F_302_69B, wA_rd, e1, e2, I3_sub, Nat.add_sub_cancel]
    rfl
def isTy (g : sm_H) (t : Nat) (r : Int32) (l : List Int32) : Prop := t < nT g ∧ g.1 72 t = r ∧ g.1 73 t = I3 l.length ∧ ∀ k, k < l.length → g.1 74 (10 * t + k) = at0 l k
def kL (g : sm_H) (l : List Int32) : Prop := ∀ i, i < l.length → ∃ q, at0 l i = I3 q ∧ 0 < q ∧ q < 20 + nC g
def kR1 (g : sm_H) (r : Int32) : Prop := ∃ q, r = I3 q ∧ q < 20 + nC g
abbrev SCt (b j : Nat) : Prop := b = 5 ∧ j = 4 ∨ b = 6 ∨ b = 7 ∨ b = 8
abbrev SRt (b j : Nat) : Prop := b = 67 ∧ j = 10 ∨ b = 72 ∨ b = 73 ∨ b = 74
theorem tyExt_rfl {g : sm_H} : tyExt g g := ⟨Nat.le_refl _, fun _ _ => ⟨rfl, rfl, fun _ _ => rfl⟩⟩
theorem isTy_of {g : sm_H} {r : Int32} {l : List Int32} (c : fT g r l < nT g) : isTy g (fT g r l) r l := by
  have z := (fst1_spec (tyP g r l) (nT g)).2.2 c
  unfold tyP at z
  simp only [Bool.and_eq_true, decide_eq_true_eq, all1_iff] at z
  exact ⟨c, z.1, z.2.1, z.2.2⟩
theorem fT_none {g : sm_H} {r : Int32} {l : List Int32} (c : fT g r l = nT g) {t : Nat} : ¬ isTy g t r l := by
  rintro ⟨h1, h2, h3, h4⟩
  have z := (fst1_spec (tyP g r l) (nT g)).2.1 t (by rw [show fst1 (tyP g r l) (nT g) = nT g from c]; exact h1)
  have : tyP g r l t = true := by
    unfold tyP
    simp only [Bool.and_eq_true, decide_eq_true_eq, all1_iff]
    exact ⟨h2, h3, h4⟩
  rw [this] at z; cases z
theorem tyAdd {h g : sm_H} (I : K1 h g) {r : Int32} {l : List Int32} (hl : l.length ≤ 10) (room : nT g < 300) (c : fT g r l = nT g) (kr : kR1 g r) (kl : kL g l) : K1 (setTC h (nT g) r l) (setTR g (nT g) r l) ∧ ext g (setTR g (nT g) r l) ∧ grow g (setTR g (nT g) r l) ∧ same g (setTR g (nT g) r l) ∧ isTy (setTR g (nT g) r l) (nT g) r l := by
  have B0 := K1_base I
  obtain ⟨wK, cK, wT, cT, wH, cH, wM, cM, cG, cO, cV, wX, cX, cXh, wF⟩ := id I
  have h12 := wK.2.1
  have nn : nT (setTR g (nT g) r l) = nT g + 1 := I3_clamp (by omega)
  generalize hn : nT g = n at *
  have hn' : tn (g.1 67 10) = n := hn
  have r72 : ∀ t, (setTR g n r l).1 72 t = if t = n then r else g.1 72 t := fun t => rfl
  have r73 : ∀ t, (setTR g n r l).1 73 t = if t = n then I3 l.length else g.1 73 t := fun t => rfl
  have r74 : ∀ t, (setTR g n r l).1 74 t = plF (g.1 74) n l l.length t := fun t => rfl
  have o72 : ∀ t, t < n → (setTR g n r l).1 72 t = g.1 72 t := fun t ht => by rw [r72, if_neg (by omega)]
  have o73 : ∀ t, t < n → (setTR g n r l).1 73 t = g.1 73 t := fun t ht => by rw [r73, if_neg (by omega)]
  have oM : ∀ t, t < n → tM (setTR g n r l) t = tM g t := fun t ht => by show tn _ = tn _; rw [o73 t ht]
  have m10 : ∀ t, t < n → tM g t ≤ 10 := fun t ht => (wT.2.1 t (by omega)).2.1.2
  have o74 : ∀ t k, t < n → k < tM g t → (setTR g n r l).1 74 (10 * t + k) = g.1 74 (10 * t + k) := fun t k ht hk => by
    have := m10 t ht
    rw [r74]; unfold plF; rw [if_neg (by omega)]
  have n74 : ∀ k, k < l.length → (setTR g n r l).1 74 (10 * n + k) = at0 l k := fun k hk => by
    rw [r74]; unfold plF; rw [if_pos (by omega), show 10 * n + k - 10 * n = k by omega]
  have nM : tM (setTR g n r l) n = l.length := by show tn _ = _; rw [r73, if_pos rfl]; exact I3_clamp (by omega)
  have E : tyExt g (setTR g n r l) := ⟨by rw [nn]; omega, fun t ht => ⟨o72 t (by omega), o73 t (by omega), fun k hk => o74 t k (by omega) hk⟩⟩
  have T : isTy (setTR g n r l) n r l := ⟨by rw [nn]; omega, by rw [r72, if_pos rfl], by rw [r73, if_pos rfl], n74⟩
  have EE : ext g (setTR g n r l) := ⟨Nat.le_refl _, fun _ _ => rfl, Nat.le_refl _, fun _ _ => rfl, E, Nat.le_refl _, fun _ _ => rfl, Nat.le_refl _, fun _ _ => rfl, Nat.le_refl _, ⟨Nat.le_refl _, fun _ _ => ⟨rfl, rfl, rfl, rfl, rfl, rfl⟩⟩⟩
  have SS : same g (setTR g n r l) := ⟨rfl, fun _ _ => ⟨rfl, rfl, rfl, rfl, rfl⟩, fun _ _ _ _ => rfl⟩
  refine ⟨⟨wK, cK, ⟨?_, fun t ht => ?_, fun t u ht hu e1 e2 e3 => ?_⟩, ⟨rfl, fun t ht => ⟨?_, ?_⟩, fun k hk => ?_⟩, ⟨wH.1, fun x hx => ?_⟩, ⟨cH.1, cH.2.1, cH.2.2.1, fun x hx => ?_⟩, ⟨wM.1, wM.2.1, fun m hm => ?_⟩, cM, cG, cO, cV, wX, cX, cXh_fr ?_ cXh, wfF_ext B0 B0.g EE SS ⟨rfl, fun _ _ => rfl⟩ wF⟩, EE, ⟨Nat.le_refl _, Nat.le_refl _, Nat.le_refl _, fun _ _ => rfl, fun _ _ => rfl⟩, SS, T⟩
  · exact cnt_up (by omega) (by decide)
  · rw [nn] at ht
    by_cases q : t = n
    · subst q
      rw [nM, r72, if_pos rfl, r73, if_pos rfl]
      obtain ⟨q, hq1, hq2⟩ := kr
      refine ⟨by rw [hq1]; exact cnt_up (by show q ≤ 19 + nC g; omega) (by show 19 + nC g < _; omega), cnt_up hl (by decide), fun k hk => ?_⟩
      obtain ⟨q, z1, z2, z3⟩ := kl k hk
      have e : (setTR g t r l).1 74 (10 * t + k) = I3 q := by rw [n74 k hk, z1]
      refine ⟨by rw [e]; exact cnt_up (by show q ≤ 19 + nC g; omega) (by show 19 + nC g < _; omega), ?_⟩
      show 0 < tn ((setTR g t r l).1 74 (10 * t + k))
      rw [e]
      show 0 < (I3 q).toNatClampNeg
      rw [I3_clamp (by omega)]; exact z2
    · have ht : t < n := by omega
      obtain ⟨z1, z2, z3⟩ := wT.2.1 t (by omega)
      rw [o72 t ht, o73 t ht, oM t ht]
      refine ⟨z1, z2, fun k hk => ?_⟩
      show cnt ((setTR g n r l).1 74 (10 * t + k)) _ ∧ 0 < tn ((setTR g n r l).1 74 (10 * t + k))
      rw [o74 t k ht hk]
      exact z3 k hk
  · rw [nn] at ht hu
    by_cases q : t = n
    · by_cases q2 : u = n
      · omega
      · exfalso
        subst q
        have hu : u < t := by omega
        rw [o72 u hu, r72, if_pos rfl] at e1
        rw [o73 u hu, r73, if_pos rfl] at e2
        have mu : tM g u = l.length := by show tn _ = _; rw [← e2]; exact I3_clamp (by omega)
        refine fT_none (g := g) (r := r) (l := l) (t := u) (by rw [c, hn]) ⟨by omega, e1.symm, e2.symm, fun k hk => ?_⟩
        have := e3 k (by rw [nM]; exact hk)
        rw [n74 k hk, o74 u k hu (by omega)] at this
        exact this.symm
    · have ht : t < n := by omega
      by_cases q2 : u = n
      · exfalso
        subst q2
        rw [o72 t ht, r72, if_pos rfl] at e1
        rw [o73 t ht, r73, if_pos rfl] at e2
        have mu : tM g t = l.length := by show tn _ = _; rw [e2]; exact I3_clamp (by omega)
        refine fT_none (g := g) (r := r) (l := l) (t := t) (by rw [c, hn]) ⟨by omega, e1, e2, fun k hk => ?_⟩
        have := e3 k (by rw [oM t ht]; omega)
        rw [n74 k hk, o74 t k ht (by omega)] at this
        exact this
      · have hu : u < n := by omega
        rw [o72 t ht, o72 u hu] at e1
        rw [o73 t ht, o73 u hu] at e2
        refine wT.2.2 t u (by omega) (by omega) e1 e2 (fun k hk => ?_)
        have := e3 k (by rw [oM t ht]; exact hk)
        rw [o74 t k ht hk, o74 u k hu (by rw [show tM g u = tM g t by show tn _ = tn _; rw [e2]]; exact hk)] at this
        exact this
  · show (if t = n then r else h.1 6 t) = if t = n then r else g.1 72 t
    rw [(cT.2.1 t ht).1]
  · show (if t = n then I3 l.length else h.1 7 t) = if t = n then I3 l.length else g.1 73 t
    rw [(cT.2.1 t ht).2]
  · show plF (h.1 8) n l l.length k = plF (g.1 74) n l l.length k
    unfold plF
    rw [cT.2.2 k hk]
  · obtain ⟨z1, z2, z3, z4⟩ := wH.2 x hx
    exact ⟨z1, z2, by rw [nn]; show ty g x < n + 1; omega, z4⟩
  · obtain ⟨z1, z2, z3, z4⟩ := wH.2 x hx
    obtain ⟨y1, y2, y3⟩ := cH.2.2.2 x hx
    have zt : ty g x < n := by omega
    have et : ty (setTR g n r l) x = ty g x := rfl
    rw [et, o72 _ zt, o73 _ zt, oM _ zt]
    refine ⟨y1, y2, fun k hk => ?_⟩
    rw [o74 _ k zt hk]
    exact y3 k hk
  · obtain ⟨m1, m2, m3, m4, m5⟩ := wM.2.2 m hm
    refine ⟨m1, m2, m3, m4, ?_⟩
    rcases m5 with z | ⟨z1, z2, t, z3, z4⟩
    · exact Or.inl z
    · exact Or.inr ⟨z1, z2, t, by rw [nn]; omega, z4⟩
  · exact hi_wI (hi_wA (hi_wI (hi_wI hi_rfl (by decide)) (by decide)) (by decide)) (by decide)
theorem agr_setTC {h : sm_H} {n : Nat} {r : Int32} {l : List Int32} : agr SCt h (setTC h n r l) := agr_wI (agr_wA (agr_wI (agr_wI agr_rfl (by simp [SCt])) (by simp [SCt])) (by simp [SCt])) (by simp [SCt])
theorem agr_setTR {h : sm_H} {n : Nat} {r : Int32} {l : List Int32} : agr SRt h (setTR h n r l) := agr_wI (agr_wA (agr_wI (agr_wI agr_rfl (by simp [SRt])) (by simp [SRt])) (by simp [SRt])) (by simp [SRt])
theorem settled {h g : sm_H} {r : Int32} {l : List Int32} (I : K1 h g) (dc : dC h l) (dr : dR g l) (er : g.1 67 20 = r) (hl : l.length ≤ 10) (room : nT g < 300 ∨ fT g r l < nT g) (kr : kR1 g r) (kl : kL g l) : ∃ h1 g1, F_234 r h = some (I3 (fT g r l), h1) ∧ F_302 g = some (I3 (fT g r l), g1) ∧ K1 h1 g1 ∧ ext g g1 ∧ grow g g1 ∧ same g g1 ∧ isTy g1 (fT g r l) r l ∧ agr SCt h h1 ∧ agr SRt g g1 := by
  have wT := I.2.2.1
  have cT := I.2.2.2.1
  have le := fT_le g r l
  by_cases c : fT g r l < nT g
  · exact ⟨h, g, C_settle1 wT cT dc hl r c, R_made1 wT dr hl er c, I, ext_rfl, grow_rfl, ⟨rfl, fun _ _ => ⟨rfl, rfl, rfl, rfl, rfl⟩, fun _ _ _ _ => rfl⟩, isTy_of c, agr_rfl, agr_rfl⟩
  · have c2 : fT g r l = nT g := by omega
    obtain ⟨a1, a2, a3, a4, a5⟩ := tyAdd I hl (by omega) c2 kr kl
    refine ⟨setTC h (nT g) r l, setTR g (nT g) r l, ?_, ?_, a1, a2, a3, a4, ?_, agr_setTC, agr_setTR⟩
    · rw [c2]; exact C_settle2 wT cT dc hl r c2 (by omega)
    · rw [c2]; exact R_made2 wT dr hl er c2 (by omega)
    · rw [c2]; exact a5
theorem C_settle0 {h g : sm_H} (wT : wfT g) (cT : cT h g) {l : List Int32} (d : dC h l) (h64 : l.length ≤ 64) (r : Int32) (c : ¬ (l.length ≤ 10 ∧ (nT g < 300 ∨ fT g r l < nT g))) : F_234 r h = some (-1, h) := by
  have e1 := d.1
  have e2 : g.1 67 10 = I3 (nT g) := wT.1.1
  have e3 : nT g ≤ 300 := wT.1.2
  have e4 : h.1 5 4 = I3 (nT g) := cT.1.trans e2
  by_cases c1 : l.length ≤ 10
  · have K := C_known wT cT d c1 r
    unfold orN at K
    rw [if_neg (by omega)] at K
    simp (disch := omega) only [F_234_43, F_234_18, F_234_0, F_234, ↓reduceIte, if_true, if_false, ite_self, Option.bind_some, Option.map_some, wI_rd, wJ_rd, wI_2, wJ_1, wJ_22, I3_lit, I3_add, I3_mul, I3_lt, I3_le, I3_inj, I3_nn', I3_n1, I3_n2, m2m1, ldI_I, ldJ_I, ldZ_I, stI_I, stJ_I, true_or, or_true, false_or, or_false, true_and, and_true, false_and, and_false, not_true_eq_false, not_false_eq_true, reduceCtorEq, Nat.reduceEqDiff, Nat.lt_irrefl, Nat.not_lt_zero, Nat.le_refl, Nat.reduceLT, Nat.reduceLeDiff, eq_self, zbbI, bbI0, bbI1, decide_eq_false_iff_not, decide_eq_true_eq, Bool.not_eq_false, Bool.not_eq_true, Bool.not_true, Bool.not_false, cond_true, cond_false, e1, e4, show ¬ 10 < l.length by omega, K, show ¬ nT g < 300 by omega]
  · simp (disch := omega) only [F_234_43, F_234_18, F_234_0, F_234, ↓reduceIte, if_true, if_false, ite_self, Option.bind_some, Option.map_some, wI_rd, wJ_rd, wI_2, wJ_1, wJ_22, I3_lit, I3_add, I3_mul, I3_lt, I3_le, I3_inj, I3_nn', I3_n1, I3_n2, m2m1, ldI_I, ldJ_I, ldZ_I, stI_I, stJ_I, true_or, or_true, false_or, or_false, true_and, and_true, false_and, and_false, not_true_eq_false, not_false_eq_true, reduceCtorEq, Nat.reduceEqDiff, Nat.lt_irrefl, Nat.not_lt_zero, Nat.le_refl, Nat.reduceLT, Nat.reduceLeDiff, eq_self, zbbI, bbI0, bbI1, decide_eq_false_iff_not, decide_eq_true_eq, Bool.not_eq_false, Bool.not_eq_true, Bool.not_true, Bool.not_false, cond_true, cond_false, e1, e4, show 10 < l.length by omega]
theorem R_made0 {g : sm_H} (wT : wfT g) {l : List Int32} (d : dR g l) (h64 : l.length ≤ 64) {r : Int32} (er : g.1 67 20 = r) (c : ¬ (l.length ≤ 10 ∧ (nT g < 300 ∨ fT g r l < nT g))) : F_302 g = some (-1, g) := by
  have e1 := d.1
  have e2 : g.1 67 10 = I3 (nT g) := wT.1.1
  have e3 : nT g ≤ 300 := wT.1.2
  by_cases c1 : l.length ≤ 10
  · have K := R_findT wT d c1 r
    unfold orN at K
    rw [if_neg (by omega)] at K
    simp (disch := omega) only [F_302_69B, F_302_69, F_302_39, F_302_0, F_302, ↓reduceIte, if_true, if_false, ite_self, Option.bind_some, Option.map_some, wI_rd, wJ_rd, wI_2, wJ_1, wJ_22, I3_lit, I3_add, I3_mul, I3_lt, I3_le, I3_inj, I3_nn', I3_n1, I3_n2, m2m1, ldI_I, ldJ_I, ldZ_I, stI_I, stJ_I, true_or, or_true, false_or, or_false, true_and, and_true, false_and, and_false, not_true_eq_false, not_false_eq_true, reduceCtorEq, Nat.reduceEqDiff, Nat.lt_irrefl, Nat.not_lt_zero, Nat.le_refl, Nat.reduceLT, Nat.reduceLeDiff, eq_self, zbbI, bbI0, bbI1, decide_eq_false_iff_not, decide_eq_true_eq, Bool.not_eq_false, Bool.not_eq_true, Bool.not_true, Bool.not_false, cond_true, cond_false, e1, e2, er, c1, K, show nT g = 300 by omega]
  · simp (disch := omega) only [F_302_69B, F_302_69, F_302_39, F_302_0, F_302, ↓reduceIte, if_true, if_false, ite_self, Option.bind_some, Option.map_some, wI_rd, wJ_rd, wI_2, wJ_1, wJ_22, I3_lit, I3_add, I3_mul, I3_lt, I3_le, I3_inj, I3_nn', I3_n1, I3_n2, m2m1, ldI_I, ldJ_I, ldZ_I, stI_I, stJ_I, true_or, or_true, false_or, or_false, true_and, and_true, false_and, and_false, not_true_eq_false, not_false_eq_true, reduceCtorEq, Nat.reduceEqDiff, Nat.lt_irrefl, Nat.not_lt_zero, Nat.le_refl, Nat.reduceLT, Nat.reduceLeDiff, eq_self, zbbI, bbI0, bbI1, decide_eq_false_iff_not, decide_eq_true_eq, Bool.not_eq_false, Bool.not_eq_true, Bool.not_true, Bool.not_false, cond_true, cond_false, e1, c1]
