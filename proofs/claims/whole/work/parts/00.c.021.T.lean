theorem K1_m {h g : sm_H} : K1 (mC h) (mR3 (mR2 g)) ↔ K1 h g := by
  constructor
  · rintro ⟨wK, cK, wT, cT, wH, cH, wM, cM, cG, cO, cV, wX, cX, cXh, wF⟩
    exact ⟨wK, cK_m.mp cK, wT, cT, wH, cH, wM, cM, cG, cO, cV, wfX_m.mp wX, cX, cXh_m.mp (cXh_mR.mp cXh), wF⟩
  · rintro ⟨wK, cK, wT, cT, wH, cH, wM, cM, cG, cO, cV, wX, cX, cXh, wF⟩
    exact ⟨wK, cK_m.mpr cK, wT, cT, wH, cH, wM, cM, cG, cO, cV, wfX_m.mpr wX, cX, cXh_mR.mpr (cXh_m.mpr cXh), wF⟩
theorem K1_g {h g g1 : sm_H} (K : K1 h g) (a : agr notR g g1) : K1 h g1 := by
  have e : mR2 g1 = mR2 g := mR_eq (fun b j n => ⟨a.1 b j n, a.2.1 b j n⟩)
  have := K1_m.mpr K
  rw [← e] at this
  exact K1_m.mp this
theorem K1_h {h h1 g : sm_H} (K : K1 h g) (a : agr notC h h1) : K1 h1 g := by
  have := K1_m.mpr K
  rw [← mC_eq a] at this
  exact K1_m.mp this
theorem lp_ex {σ ρ : Type} {body : σ → Option (σ ⊕ ρ)} {P : Nat → σ → Prop} {Q : ρ → Prop} (n : Nat) (st : ∀ k s, k < n → P k s → (∃ s', body s = some (.inl s') ∧ P (k + 1) s') ∨ ∃ r, body s = some (.inr r) ∧ Q r) (fin : ∀ s, P n s → ∃ r, body s = some (.inr r) ∧ Q r) : ∀ (s : σ) (f : Nat), P 0 s → n < f → ∃ r, lp body f s = some r ∧ Q r := by
  have key : ∀ (m k : Nat) (s : σ) (f : Nat), m + k = n → P k s → m < f → ∃ r, lp body f s = some r ∧ Q r := by
    intro m
    induction m with
    | zero =>
      intro k s f hk hp hf
      have : k = n := by omega
      subst this
      obtain ⟨r, e, q⟩ := fin s hp
      exact ⟨r, lp_e (by omega) e, q⟩
    | succ m ih =>
      intro k s f hk hp hf
      rcases st k s (by omega) hp with ⟨s', e, p⟩ | ⟨r, e, q⟩
      · obtain ⟨r, e2, q⟩ := ih (k + 1) s' (f - 1) (by omega) p (by omega)
        exact ⟨r, (lp_s (by omega) e).trans e2, q⟩
      · exact ⟨r, lp_e (by omega) e, q⟩
  intro s f hp hf
  exact key n 0 s f (by omega) hp hf
theorem at0_lst {f : Nat → Int32} {n i : Nat} (h : i < n) : at0 (lst f n) i = f i := by
  unfold at0 lst
  rw [List.getD_eq_getElem?_getD, List.getElem?_map, List.getElem?_range h]; rfl
theorem lst_succ (f : Nat → Int32) (n : Nat) : lst f (n + 1) = lst f n ++ [f n] := by
  unfold lst; rw [List.range_succ, List.map_append]; rfl
def seg (L : List Int32) (a n : Nat) : List Int32 := lst (fun i => at0 L (a + i)) n
theorem seg_len (L : List Int32) (a n : Nat) : (seg L a n).length = n := lst_len _ _
theorem at0_get {L : List Int32} {i : Nat} (h : i < L.length) : at0 L i = L[i] := by
  unfold at0; rw [List.getD_eq_getElem?_getD, List.getElem?_eq_getElem h]; rfl
theorem lst_ext {l m : List Int32} (h : l.length = m.length) (e : ∀ i, i < l.length → at0 l i = at0 m i) : l = m := by
  refine List.ext_getElem h (fun i h1 h2 => ?_)
  rw [← at0_get h1, ← at0_get h2]; exact e i h1
theorem seg_take {L : List Int32} {n : Nat} (h : n ≤ L.length) : seg L 0 n = L.take n := by
  refine lst_ext (by rw [seg_len, List.length_take]; omega) (fun i hi => ?_)
  rw [seg_len] at hi
  unfold seg
  rw [at0_lst hi, Nat.zero_add, at0_get (by omega), at0_get (by rw [List.length_take]; omega), List.getElem_take]
theorem seg_drop {L : List Int32} {a n : Nat} (h : a + n = L.length) : seg L a n = L.drop a := by
  refine lst_ext (by rw [seg_len, List.length_drop]; omega) (fun i hi => ?_)
  rw [seg_len] at hi
  unfold seg
  rw [at0_lst hi, at0_get (by omega), at0_get (by rw [List.length_drop]; omega), List.getElem_drop]
theorem seg_all {L : List Int32} : seg L 0 L.length = L := by rw [seg_take (Nat.le_refl _), List.take_length]
abbrev SCd (b j : Nat) : Prop := b = 5 ∧ j = 6 ∨ b = 9
abbrev SRd (b j : Nat) : Prop := b = 67 ∧ (j = 20 ∨ j = 21) ∨ b = 82
theorem SCd_not (b j : Nat) (s : SCd b j) : notC b j := by
  rcases s with ⟨rfl, rfl⟩ | rfl
  · rfl
  · rfl
theorem SRd_not (b j : Nat) (s : SRd b j) : notR b j := by
  rcases s with ⟨rfl, rfl | rfl⟩ | rfl
  · rfl
  · rfl
  · rfl
theorem C_with {h : sm_H} {l : List Int32} (d : dC h l) (hl : l.length < 1000) (x : Int32) : ∃ h1, F_229 x h = some h1 ∧ dC h1 (l ++ [x]) ∧ agr SCd h h1 := by
  have e := d.1
  by_cases c : 10 ≤ l.length
  · refine ⟨sm_wI h 5 6 (I3 (l.length + 1)), ?_, ⟨?_, fun i h1 h2 => ?_⟩, agr_wI agr_rfl (by simp [SCd])⟩
    · simp (disch := omega) only [F_229_19, F_229_0, F_229, ↓reduceIte, if_true, if_false, ite_self, Option.bind_some, Option.map_some, wI_rd, wJ_rd, wI_2, wJ_1, wJ_22, I3_lit, I3_add, I3_mul, I3_lt, I3_le, I3_inj, I3_nn', I3_n1, I3_n2, m2m1, ldI_I, ldJ_I, ldZ_I, stI_I, stJ_I, true_or, or_true, false_or, or_false, true_and, and_true, false_and, and_false, not_true_eq_false, not_false_eq_true, reduceCtorEq, Nat.reduceEqDiff, Nat.lt_irrefl, Nat.not_lt_zero, Nat.le_refl, Nat.reduceLT, Nat.reduceLeDiff, eq_self, zbbI, bbI0, bbI1, decide_eq_false_iff_not, decide_eq_true_eq, Bool.not_eq_false, Bool.not_eq_true, Bool.not_true, Bool.not_false, cond_true, cond_false, e, c]
    · rw [List.length_append]; rfl
    · rw [at0_app1 (by omega)]; exact d.2 i (by omega) h2
  · refine ⟨sm_wI (sm_wI h 9 l.length x) 5 6 (I3 (l.length + 1)), ?_, ⟨?_, fun i h1 h2 => ?_⟩, agr_wI (agr_wI agr_rfl (by simp [SCd])) (by simp [SCd])⟩
    · simp (disch := omega) only [F_229_19, F_229_0, F_229, ↓reduceIte, if_true, if_false, ite_self, Option.bind_some, Option.map_some, wI_rd, wJ_rd, wI_2, wJ_1, wJ_22, I3_lit, I3_add, I3_mul, I3_lt, I3_le, I3_inj, I3_nn', I3_n1, I3_n2, m2m1, ldI_I, ldJ_I, ldZ_I, stI_I, stJ_I, true_or, or_true, false_or, or_false, true_and, and_true, false_and, and_false, not_true_eq_false, not_false_eq_true, reduceCtorEq, Nat.reduceEqDiff, Nat.lt_irrefl, Nat.not_lt_zero, Nat.le_refl, Nat.reduceLT, Nat.reduceLeDiff, eq_self, zbbI, bbI0, bbI1, decide_eq_false_iff_not, decide_eq_true_eq, Bool.not_eq_false, Bool.not_eq_true, Bool.not_true, Bool.not_false, cond_true, cond_false, e, c]
    · rw [List.length_append]; rfl
    · show (if i = l.length then x else h.1 9 i) = _
      rw [List.length_append] at h1
      simp only [List.length_cons, List.length_nil] at h1
      by_cases q : i = l.length
      · rw [if_pos q, at0_app2 (by omega), q, Nat.sub_self]; rfl
      · rw [if_neg q, at0_app1 (by omega)]; exact d.2 i (by omega) h2
theorem R_addNew {g : sm_H} {l : List Int32} (d : dR g l) (hl : l.length < 64) (x : Int32) : ∃ g1, F_309 x g = some g1 ∧ dR g1 (l ++ [x]) ∧ agr SRd g g1 ∧ g1.1 67 20 = g.1 67 20 := by
  have e := d.1
  refine ⟨sm_wI (sm_wI g 82 l.length x) 67 21 (I3 (l.length + 1)), ?_, ⟨?_, fun i h1 => ?_⟩, agr_wI (agr_wI agr_rfl (by simp [SRd])) (by simp [SRd]), rfl⟩
  · simp (disch := omega) only [F_309_0, F_309, ↓reduceIte, if_true, if_false, ite_self, Option.bind_some, Option.map_some, wI_rd, wJ_rd, wI_2, wJ_1, wJ_22, I3_lit, I3_add, I3_mul, I3_lt, I3_le, I3_inj, I3_nn', I3_n1, I3_n2, m2m1, ldI_I, ldJ_I, ldZ_I, stI_I, stJ_I, true_or, or_true, false_or, or_false, true_and, and_true, false_and, and_false, not_true_eq_false, not_false_eq_true, reduceCtorEq, Nat.reduceEqDiff, Nat.lt_irrefl, Nat.not_lt_zero, Nat.le_refl, Nat.reduceLT, Nat.reduceLeDiff, eq_self, zbbI, bbI0, bbI1, decide_eq_false_iff_not, decide_eq_true_eq, Bool.not_eq_false, Bool.not_eq_true, Bool.not_true, Bool.not_false, cond_true, cond_false, e]
  · rw [List.length_append]; rfl
  · show (if i = l.length then x else g.1 82 i) = _
    rw [List.length_append] at h1
    simp only [List.length_cons, List.length_nil] at h1
    by_cases q : i = l.length
    · rw [if_pos q, at0_app2 (by omega), q, Nat.sub_self]; rfl
    · rw [if_neg q, at0_app1 (by omega)]; exact d.2 i (by omega)
theorem C_begin (h : sm_H) : ∃ h1, F_228 h = some h1 ∧ dC h1 [] ∧ agr SCd h h1 := ⟨sm_wI h 5 6 0, rfl, ⟨rfl, fun i h1 => by cases h1⟩, agr_wI agr_rfl (by simp [SCd])⟩
theorem R_clear (g : sm_H) (x : Int32) : ∃ g1, F_308 x g = some g1 ∧ dR g1 [] ∧ agr SRd g g1 ∧ g1.1 67 20 = x := ⟨sm_wI (sm_wI g 67 20 x) 67 21 0, rfl, ⟨rfl, fun i h1 => by cases h1⟩, agr_wI (agr_wI agr_rfl (by simp [SRd])) (by simp [SRd]), rfl⟩
theorem C_withPlaces {h g : sm_H} (K : K1 h g) {l : List Int32} (d : dC h l) (hl : l.length ≤ 100) {t a b : Nat} (ht : t < nT g) (hb : b ≤ tM g t) (ha : a ≤ 1000) : ∃ h1, F_230 (I3 t) (I3 a) (I3 b) h = some h1 ∧ dC h1 (l ++ seg (pl g t) a (b - a)) ∧ agr SCd h h1 := by
  have wT := K.2.2.1
  have w300 : nT g ≤ 300 := wT.1.2
  have m10 : tM g t ≤ 10 := (wT.2.1 t ht).2.1.2
  by_cases ab : a ≤ b
  · have L := lp_ex (body := F_230_7B) (P := fun k s => s.1 = I3 t ∧ s.2.1 = I3 b ∧ s.2.2.1 = I3 (a + k) ∧ dC s.2.2.2 (l ++ seg (pl g t) a k) ∧ agr SCd h s.2.2.2) (Q := fun r => dC r (l ++ seg (pl g t) a (b - a)) ∧ agr SCd h r) (b - a) (fun k s hk p => ?_) (fun s p => ?_) (I3 t, I3 b, I3 a, h) 1000000 ⟨rfl, rfl, rfl, by rw [show seg (pl g t) a 0 = [] from rfl, List.append_nil]; exact d, agr_rfl⟩ (by omega)
    · obtain ⟨r, e, q⟩ := L
      refine ⟨r, ?_, q⟩
      show lp F_230_7B 1000000 (I3 t, I3 b, (if I3 a < 0 then 0 else I3 a), h) = _
      rw [if_neg (I3_nn (by omega))]; exact e
    · obtain ⟨s1, s2, s3, s4⟩ := s
      obtain ⟨p1, p2, p3, p4, p5⟩ := p
      have p1 : s1 = I3 t := p1
      have p2 : s2 = I3 b := p2
      have p3 : s3 = I3 (a + k) := p3
      subst p1 p2 p3
      have P := C_tplace (h := s4) wT (K1_h K (agr_mono SCd_not p5)).2.2.2.1 ht (k := a + k) (by omega)
      obtain ⟨h1, q1, q2, q3⟩ := C_with p4 (by rw [List.length_append, seg_len]; omega) (g.1 74 (10 * t + (a + k)))
      refine Or.inl ⟨(I3 t, I3 b, I3 (a + (k + 1)), h1), ?_, rfl, rfl, rfl, ?_, agr_trans p5 q3⟩
      · have q1' : F_229 (g.1 74 (10 * t + (a + k))) s4 = some h1 := q1
        simp (disch := omega) only [↓reduceIte, if_true, if_false, ite_self, Option.bind_some, Option.map_some, wI_rd, wJ_rd, wI_2, wJ_1, wJ_22, I3_lit, I3_add, I3_mul, I3_lt, I3_le, I3_inj, I3_nn', I3_n1, I3_n2, m2m1, ldI_I, ldJ_I, ldZ_I, stI_I, stJ_I, true_or, or_true, false_or, or_false, true_and, and_true, false_and, and_false, not_true_eq_false, not_false_eq_true, reduceCtorEq, Nat.reduceEqDiff, Nat.lt_irrefl, Nat.not_lt_zero, Nat.le_refl, Nat.reduceLT, Nat.reduceLeDiff, eq_self, zbbI, bbI0, bbI1, decide_eq_false_iff_not, decide_eq_true_eq, Bool.not_eq_false, Bool.not_eq_true, Bool.not_true, Bool.not_false, cond_true, cond_false, F_230_7B, show ¬ b ≤ a + k by omega, show ¬ 10 ≤ a + k by omega, P, q1', Nat.add_assoc]
      · have : seg (pl g t) a (k + 1) = seg (pl g t) a k ++ [g.1 74 (10 * t + (a + k))] := by
          unfold seg; rw [lst_succ]; rw [at0_lst (show a + k < tM g t by omega)]
        rw [this, ← List.append_assoc]; exact q2
    · obtain ⟨s1, s2, s3, s4⟩ := s
      obtain ⟨p1, p2, p3, p4, p5⟩ := p
      have p2 : s2 = I3 b := p2
      have p3 : s3 = I3 (a + (b - a)) := p3
      subst p2 p3
      refine ⟨s4, ?_, p4, p5⟩
      simp (disch := omega) only [↓reduceIte, if_true, if_false, ite_self, Option.bind_some, Option.map_some, wI_rd, wJ_rd, wI_2, wJ_1, wJ_22, I3_lit, I3_add, I3_mul, I3_lt, I3_le, I3_inj, I3_nn', I3_n1, I3_n2, m2m1, ldI_I, ldJ_I, ldZ_I, stI_I, stJ_I, true_or, or_true, false_or, or_false, true_and, and_true, false_and, and_false, not_true_eq_false, not_false_eq_true, reduceCtorEq, Nat.reduceEqDiff, Nat.lt_irrefl, Nat.not_lt_zero, Nat.le_refl, Nat.reduceLT, Nat.reduceLeDiff, eq_self, zbbI, bbI0, bbI1, decide_eq_false_iff_not, decide_eq_true_eq, Bool.not_eq_false, Bool.not_eq_true, Bool.not_true, Bool.not_false, cond_true, cond_false, F_230_7B, F_230_37, show b ≤ a + (b - a) by omega]
  · refine ⟨h, ?_, by rw [show b - a = 0 by omega, show seg (pl g t) a 0 = [] from rfl, List.append_nil]; exact d, agr_rfl⟩
    show lp F_230_7B 1000000 (I3 t, I3 b, (if I3 a < 0 then 0 else I3 a), h) = _
    rw [if_neg (I3_nn (by omega))]
    refine lp_e (by decide) ?_
    simp (disch := omega) only [↓reduceIte, if_true, if_false, ite_self, Option.bind_some, Option.map_some, wI_rd, wJ_rd, wI_2, wJ_1, wJ_22, I3_lit, I3_add, I3_mul, I3_lt, I3_le, I3_inj, I3_nn', I3_n1, I3_n2, m2m1, ldI_I, ldJ_I, ldZ_I, stI_I, stJ_I, true_or, or_true, false_or, or_false, true_and, and_true, false_and, and_false, not_true_eq_false, not_false_eq_true, reduceCtorEq, Nat.reduceEqDiff, Nat.lt_irrefl, Nat.not_lt_zero, Nat.le_refl, Nat.reduceLT, Nat.reduceLeDiff, eq_self, zbbI, bbI0, bbI1, decide_eq_false_iff_not, decide_eq_true_eq, Bool.not_eq_false, Bool.not_eq_true, Bool.not_true, Bool.not_false, cond_true, cond_false, F_230_7B, F_230_37, show b ≤ a by omega]
theorem R_place {g : sm_H} (wT : wfT g) (wH : wfH0 g) {x k : Nat} (hx : x < nH g) (hk : k < tM g (ty g x)) : F_306 (I3 x) (I3 k) g = some (g.1 74 (10 * ty g x + k), g) := by
  have w500 : nH g ≤ 500 := wH.1.2
  have w300 : nT g ≤ 300 := wT.1.2
  have e := (wH.2 x hx).2.1
  have lt := (wH.2 x hx).2.2.1
  have m10 : tM g (ty g x) ≤ 10 := (wT.2.1 _ lt).2.1.2
  simp (disch := omega) only [F_306_0, F_306, ↓reduceIte, if_true, if_false, ite_self, Option.bind_some, Option.map_some, wI_rd, wJ_rd, wI_2, wJ_1, wJ_22, I3_lit, I3_add, I3_mul, I3_lt, I3_le, I3_inj, I3_nn', I3_n1, I3_n2, m2m1, ldI_I, ldJ_I, ldZ_I, stI_I, stJ_I, true_or, or_true, false_or, or_false, true_and, and_true, false_and, and_false, not_true_eq_false, not_false_eq_true, reduceCtorEq, Nat.reduceEqDiff, Nat.lt_irrefl, Nat.not_lt_zero, Nat.le_refl, Nat.reduceLT, Nat.reduceLeDiff, eq_self, zbbI, bbI0, bbI1, decide_eq_false_iff_not, decide_eq_true_eq, Bool.not_eq_false, Bool.not_eq_true, Bool.not_true, Bool.not_false, cond_true, cond_false, e]
theorem R_many {g : sm_H} (wT : wfT g) (wH : wfH0 g) {x : Nat} (hx : x < nH g) : F_305 (I3 x) g = some (I3 (tM g (ty g x)), g) := by
  have w500 : nH g ≤ 500 := wH.1.2
  have w300 : nT g ≤ 300 := wT.1.2
  have e := (wH.2 x hx).2.1
  have lt := (wH.2 x hx).2.2.1
  have m : g.1 73 (ty g x) = I3 (tM g (ty g x)) := (wT.2.1 _ lt).2.1.1
  simp (disch := omega) only [F_305_0, F_305, ↓reduceIte, if_true, if_false, ite_self, Option.bind_some, Option.map_some, wI_rd, wJ_rd, wI_2, wJ_1, wJ_22, I3_lit, I3_add, I3_mul, I3_lt, I3_le, I3_inj, I3_nn', I3_n1, I3_n2, m2m1, ldI_I, ldJ_I, ldZ_I, stI_I, stJ_I, true_or, or_true, false_or, or_false, true_and, and_true, false_and, and_false, not_true_eq_false, not_false_eq_true, reduceCtorEq, Nat.reduceEqDiff, Nat.lt_irrefl, Nat.not_lt_zero, Nat.le_refl, Nat.reduceLT, Nat.reduceLeDiff, eq_self, zbbI, bbI0, bbI1, decide_eq_false_iff_not, decide_eq_true_eq, Bool.not_eq_false, Bool.not_eq_true, Bool.not_true, Bool.not_false, cond_true, cond_false, e, m]
theorem R_result {g : sm_H} (wT : wfT g) (wH : wfH0 g) {x : Nat} (hx : x < nH g) : F_307 (I3 x) g = some (hrs g x, g) := by
  have w500 : nH g ≤ 500 := wH.1.2
  have w300 : nT g ≤ 300 := wT.1.2
  have e := (wH.2 x hx).2.1
  have lt := (wH.2 x hx).2.2.1
  simp (disch := omega) only [F_307_0, F_307, ↓reduceIte, if_true, if_false, ite_self, Option.bind_some, Option.map_some, wI_rd, wJ_rd, wI_2, wJ_1, wJ_22, I3_lit, I3_add, I3_mul, I3_lt, I3_le, I3_inj, I3_nn', I3_n1, I3_n2, m2m1, ldI_I, ldJ_I, ldZ_I, stI_I, stJ_I, true_or, or_true, false_or, or_false, true_and, and_true, false_and, and_false, not_true_eq_false, not_false_eq_true, reduceCtorEq, Nat.reduceEqDiff, Nat.lt_irrefl, Nat.not_lt_zero, Nat.le_refl, Nat.reduceLT, Nat.reduceLeDiff, eq_self, zbbI, bbI0, bbI1, decide_eq_false_iff_not, decide_eq_true_eq, Bool.not_eq_false, Bool.not_eq_true, Bool.not_true, Bool.not_false, cond_true, cond_false, e]
theorem R_addPlaces {h g : sm_H} (K : K1 h g) {l : List Int32} (d : dR g l) {x a b : Nat} (hx : x < nH g) (hb : b ≤ tM g (ty g x)) (hl : l.length + (b - a) ≤ 64) (ab : a ≤ 1000) : ∃ g1, F_310 (I3 x) (I3 a) (I3 b) g = some g1 ∧ dR g1 (l ++ seg (hpl g x) a (b - a)) ∧ agr SRd g g1 ∧ g1.1 67 20 = g.1 67 20 := by
  have wT := K.2.2.1
  have wH := K.2.2.2.2.1
  have w500 : nH g ≤ 500 := wH.1.2
  have lt := (wH.2 x hx).2.2.1
  have m10 : tM g (ty g x) ≤ 10 := (wT.2.1 _ lt).2.1.2
  have L := lp_ex (body := F_310_3B) (P := fun k s => s.1 = I3 x ∧ s.2.1 = I3 b ∧ s.2.2.1 = I3 (a + k) ∧ dR s.2.2.2 (l ++ seg (hpl g x) a k) ∧ agr SRd g s.2.2.2 ∧ s.2.2.2.1 67 20 = g.1 67 20) (Q := fun r => dR r (l ++ seg (hpl g x) a (b - a)) ∧ agr SRd g r ∧ r.1 67 20 = g.1 67 20) (b - a) (fun k s hk p => ?_) (fun s p => ?_) (I3 x, I3 b, I3 a, g) 1000000 ⟨rfl, rfl, rfl, by rw [show seg (hpl g x) a 0 = [] from rfl, List.append_nil]; exact d, agr_rfl, rfl⟩ (by omega)
  · obtain ⟨r, e, q⟩ := L
    exact ⟨r, e, q⟩
  · obtain ⟨s1, s2, s3, s4⟩ := s
    obtain ⟨p1, p2, p3, p4, p5, p6⟩ := p
    have p1 : s1 = I3 x := p1
    have p2 : s2 = I3 b := p2
    have p3 : s3 = I3 (a + k) := p3
    subst p1 p2 p3
    have K' := K1_g K (agr_mono SRd_not p5)
    have e76 : s4.1 76 x = g.1 76 x := p5.1 76 x (by unfold SRd; omega)
    have et : ty s4 x = ty g x := by show tn _ = tn _; rw [e76]
    have eM : tM s4 (ty g x) = tM g (ty g x) := by show tn _ = tn _; rw [p5.1 73 _ (by unfold SRd; omega)]
    have eN : nH s4 = nH g := by show tn _ = tn _; rw [p5.1 67 18 (by unfold SRd; omega)]
    have P := R_place (g := s4) K'.2.2.1 K'.2.2.2.2.1 (x := x) (k := a + k) (by omega) (by rw [et, eM]; omega)
    rw [et, p5.1 74 _ (by unfold SRd; omega)] at P
    obtain ⟨h1, q1, q2, q3, q4⟩ := R_addNew p4 (by rw [List.length_append, seg_len]; omega) (g.1 74 (10 * ty g x + (a + k)))
    have q1' : F_309 (g.1 74 (10 * ty g x + (a + k))) s4 = some h1 := q1
    refine Or.inl ⟨(I3 x, I3 b, I3 (a + (k + 1)), h1), ?_, rfl, rfl, rfl, ?_, agr_trans p5 q3, q4.trans p6⟩
    · simp (disch := omega) only [↓reduceIte, if_true, if_false, ite_self, Option.bind_some, Option.map_some, wI_rd, wJ_rd, wI_2, wJ_1, wJ_22, I3_lit, I3_add, I3_mul, I3_lt, I3_le, I3_inj, I3_nn', I3_n1, I3_n2, m2m1, ldI_I, ldJ_I, ldZ_I, stI_I, stJ_I, true_or, or_true, false_or, or_false, true_and, and_true, false_and, and_false, not_true_eq_false, not_false_eq_true, reduceCtorEq, Nat.reduceEqDiff, Nat.lt_irrefl, Nat.not_lt_zero, Nat.le_refl, Nat.reduceLT, Nat.reduceLeDiff, eq_self, zbbI, bbI0, bbI1, decide_eq_false_iff_not, decide_eq_true_eq, Bool.not_eq_false, Bool.not_eq_true, Bool.not_true, Bool.not_false, cond_true, cond_false, F_310_3B, show ¬ b ≤ a + k by omega, P, q1', Nat.add_assoc]
    · have : seg (hpl g x) a (k + 1) = seg (hpl g x) a k ++ [g.1 74 (10 * ty g x + (a + k))] := by
        unfold seg; rw [lst_succ]; rw [at0_lst (show a + k < tM g (ty g x) by omega)]
      rw [this, ← List.append_assoc]; exact q2
  · obtain ⟨s1, s2, s3, s4⟩ := s
    obtain ⟨p1, p2, p3, p4, p5, p6⟩ := p
    have p2 : s2 = I3 b := p2
    have p3 : s3 = I3 (a + (b - a)) := p3
    subst p2 p3
    refine ⟨s4, ?_, p4, p5, p6⟩
    simp (disch := omega) only [↓reduceIte, if_true, if_false, ite_self, Option.bind_some, Option.map_some, wI_rd, wJ_rd, wI_2, wJ_1, wJ_22, I3_lit, I3_add, I3_mul, I3_lt, I3_le, I3_inj, I3_nn', I3_n1, I3_n2, m2m1, ldI_I, ldJ_I, ldZ_I, stI_I, stJ_I, true_or, or_true, false_or, or_false, true_and, and_true, false_and, and_false, not_true_eq_false, not_false_eq_true, reduceCtorEq, Nat.reduceEqDiff, Nat.lt_irrefl, Nat.not_lt_zero, Nat.le_refl, Nat.reduceLT, Nat.reduceLeDiff, eq_self, zbbI, bbI0, bbI1, decide_eq_false_iff_not, decide_eq_true_eq, Bool.not_eq_false, Bool.not_eq_true, Bool.not_true, Bool.not_false, cond_true, cond_false, F_310_3B, show b ≤ a + (b - a) by omega]
theorem R_addType {h g : sm_H} (K : K1 h g) {l : List Int32} (d : dR g l) {t : Nat} (ht : t < nT g) (hl : l.length + tM g t ≤ 64) : ∃ g1, F_311 (I3 t) g = some g1 ∧ dR g1 (l ++ pl g t) ∧ agr SRd g g1 ∧ g1.1 67 20 = g.1 67 20 := by
  have wT := K.2.2.1
  have w300 : nT g ≤ 300 := wT.1.2
  have m10 : tM g t ≤ 10 := (wT.2.1 _ ht).2.1.2
  have m : g.1 73 t = I3 (tM g t) := (wT.2.1 _ ht).2.1.1
  have L := lp_ex (body := F_311_2B) (P := fun k s => s.1 = I3 t ∧ s.2.1 = I3 k ∧ dR s.2.2 (l ++ seg (pl g t) 0 k) ∧ agr SRd g s.2.2 ∧ s.2.2.1 67 20 = g.1 67 20) (Q := fun r => dR r (l ++ pl g t) ∧ agr SRd g r ∧ r.1 67 20 = g.1 67 20) (tM g t) (fun k s hk p => ?_) (fun s p => ?_) (I3 t, I3 0, g) 1000000 ⟨rfl, rfl, by rw [show seg (pl g t) 0 0 = [] from rfl, List.append_nil]; exact d, agr_rfl, rfl⟩ (by omega)
  · obtain ⟨r, e, q⟩ := L
    exact ⟨r, e, q⟩
  · obtain ⟨s1, s2, s4⟩ := s
    obtain ⟨p1, p2, p4, p5, p6⟩ := p
    have p1 : s1 = I3 t := p1
    have p2 : s2 = I3 k := p2
    subst p1 p2
    have e73 : s4.1 73 t = I3 (tM g t) := (p5.1 73 t (by unfold SRd; omega)).trans m
    have e74 : s4.1 74 (10 * t + k) = g.1 74 (10 * t + k) := p5.1 74 _ (by unfold SRd; omega)
    obtain ⟨h1, q1, q2, q3, q4⟩ := R_addNew p4 (by rw [List.length_append, seg_len]; omega) (g.1 74 (10 * t + k))
    have q1' : F_309 (g.1 74 (10 * t + k)) s4 = some h1 := q1
    refine Or.inl ⟨(I3 t, I3 (k + 1), h1), ?_, rfl, rfl, ?_, agr_trans p5 q3, q4.trans p6⟩
    · simp (disch := omega) only [↓reduceIte, if_true, if_false, ite_self, Option.bind_some, Option.map_some, wI_rd, wJ_rd, wI_2, wJ_1, wJ_22, I3_lit, I3_add, I3_mul, I3_lt, I3_le, I3_inj, I3_nn', I3_n1, I3_n2, m2m1, ldI_I, ldJ_I, ldZ_I, stI_I, stJ_I, true_or, or_true, false_or, or_false, true_and, and_true, false_and, and_false, not_true_eq_false, not_false_eq_true, reduceCtorEq, Nat.reduceEqDiff, Nat.lt_irrefl, Nat.not_lt_zero, Nat.le_refl, Nat.reduceLT, Nat.reduceLeDiff, eq_self, zbbI, bbI0, bbI1, decide_eq_false_iff_not, decide_eq_true_eq, Bool.not_eq_false, Bool.not_eq_true, Bool.not_true, Bool.not_false, cond_true, cond_false, F_311_2B, e73, show ¬ tM g t ≤ k by omega, e74, q1']
    · have : seg (pl g t) 0 (k + 1) = seg (pl g t) 0 k ++ [g.1 74 (10 * t + k)] := by
        unfold seg; rw [lst_succ]; rw [at0_lst (show 0 + k < tM g t by omega), Nat.zero_add]
      rw [this, ← List.append_assoc]; exact q2
  · obtain ⟨s1, s2, s4⟩ := s
    obtain ⟨p1, p2, p4, p5, p6⟩ := p
    have p1 : s1 = I3 t := p1
    have p2 : s2 = I3 (tM g t) := p2
    subst p1 p2
    have e73 : s4.1 73 t = I3 (tM g t) := (p5.1 73 t (by unfold SRd; omega)).trans m
    refine ⟨s4, ?_, ?_, p5, p6⟩
    · simp (disch := omega) only [↓reduceIte, if_true, if_false, ite_self, Option.bind_some, Option.map_some, wI_rd, wJ_rd, wI_2, wJ_1, wJ_22, I3_lit, I3_add, I3_mul, I3_lt, I3_le, I3_inj, I3_nn', I3_n1, I3_n2, m2m1, ldI_I, ldJ_I, ldZ_I, stI_I, stJ_I, true_or, or_true, false_or, or_false, true_and, and_true, false_and, and_false, not_true_eq_false, not_false_eq_true, reduceCtorEq, Nat.reduceEqDiff, Nat.lt_irrefl, Nat.not_lt_zero, Nat.le_refl, Nat.reduceLT, Nat.reduceLeDiff, eq_self, zbbI, bbI0, bbI1, decide_eq_false_iff_not, decide_eq_true_eq, Bool.not_eq_false, Bool.not_eq_true, Bool.not_true, Bool.not_false, cond_true, cond_false, F_311_2B, e73]
    · have : seg (pl g t) 0 (tM g t) = pl g t := by
        have := seg_all (L := pl g t); rw [lst_len] at this; exact this
      rw [this] at p4; exact p4
