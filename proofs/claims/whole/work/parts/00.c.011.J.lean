theorem newC_ok {h : sm_H} (y : Int32) (I : I0 h) {p : Nat} (hp : p = 7 ∨ p = 19 ∨ 20 ≤ p ∧ p < 20 + nC h) (hn : nC h < 12) : ∃ v h1 h2, F_52_31 (I3 p) y h = some (v, h1) ∧ F_381_31 (I3 p) y h1 = some (v, h2) ∧ I0 h2 ∧ wfK h1 ∧ h1.1 67 6 = h.1 67 6 := by
  obtain ⟨wK, cK, wT, cT, wH, cH, wM, cM, cR, cP, cG, cO, cV, wX, cX, cXh, cU, cY, cF, cZ⟩ := id I
  have c1 := cK.1
  have k1 := wK.1
  have CP := C_copy cK (t := 20 + nC h) (p := p) (by omega) (by omega) (by omega) (I3 p) y rfl 0 (by omega) 1000000 (by omega)
  have w0 : wA h 2 (rowF (h.1 2) (20 + nC h) p 0) = h := by
    have : rowF (h.1 2) (20 + nC h) p 0 = h.1 2 := by
      funext i; unfold rowF; rw [if_neg (by omega)]
    rw [this, wA_self]
  rw [w0, c1, I3_add] at CP
  generalize hF : (fun i => if i = (20 + nC h) * 32 + (20 + nC h) then I3 1 else rowF (h.1 2) (20 + nC h) p 32 i) = F at CP
  generalize hn1 : nC h = n at CP hn hp k1 c1
  have nCh : tn (h.1 67 6) = n := hn1
  generalize e1 : sm_wI (sm_wI (sm_wI (wA h 2 F) 3 (20 + n) (I3 p)) 4 (20 + n) y) 1 3 (I3 (20 + n + 1)) = h1 at CP
  have rd : ∀ b j, h1.1 b j = if b = 1 ∧ j = 3 then I3 (20 + n + 1) else if b = 4 ∧ j = 20 + n then y else if b = 3 ∧ j = 20 + n then I3 p else if b = 2 then F j else h.1 b j := by
    intro b j; rw [← e1, wI_rd, wI_rd, wI_rd, wA_rd]
  have k2 : h1.1 67 6 = I3 n := by rw [rd]; exact k1
  refine ⟨I3 (20 + n), h1, sm_wI (sm_wI (sm_wI h1 70 n (I3 p)) 71 n y) 67 6 (I3 (n + 1)), ?_, ?_, ?_, by rw [← e1]; exact wK, by rw [← e1]; rfl⟩
  · simp (disch := omega) only [↓reduceIte, if_true, if_false, ite_self, Option.bind_some, Option.map_some, wI_rd, wJ_rd, wI_2, wJ_1, wJ_22, I3_lit, I3_add, I3_mul, I3_lt, I3_le, I3_inj, I3_nn', I3_n1, I3_n2, m2m1, ldI_I, ldJ_I, ldZ_I, stI_I, stJ_I, true_or, or_true, false_or, or_false, true_and, and_true, false_and, and_false, not_true_eq_false, not_false_eq_true, reduceCtorEq, Nat.reduceEqDiff, Nat.lt_irrefl, Nat.not_lt_zero, Nat.le_refl, Nat.reduceLT, Nat.reduceLeDiff, eq_self, zbbI, bbI0, bbI1, decide_eq_false_iff_not, decide_eq_true_eq, Bool.not_eq_false, Bool.not_eq_true, Bool.not_true, Bool.not_false, cond_true, cond_false, F_52_31, F_52_39, c1, CP]
  · simp (disch := omega) only [↓reduceIte, if_true, if_false, ite_self, Option.bind_some, Option.map_some, wI_rd, wJ_rd, wI_2, wJ_1, wJ_22, I3_lit, I3_add, I3_mul, I3_lt, I3_le, I3_inj, I3_nn', I3_n1, I3_n2, m2m1, ldI_I, ldJ_I, ldZ_I, stI_I, stJ_I, true_or, or_true, false_or, or_false, true_and, and_true, false_and, and_false, not_true_eq_false, not_false_eq_true, reduceCtorEq, Nat.reduceEqDiff, Nat.lt_irrefl, Nat.not_lt_zero, Nat.le_refl, Nat.reduceLT, Nat.reduceLeDiff, eq_self, zbbI, bbI0, bbI1, decide_eq_false_iff_not, decide_eq_true_eq, Bool.not_eq_false, Bool.not_eq_true, Bool.not_true, Bool.not_false, cond_true, cond_false, F_381_31, k2, I3_sub, Nat.add_sub_cancel, show 20 + (n + 1) - 1 = 20 + n by omega]
  · generalize e2 : sm_wI (sm_wI (sm_wI h1 70 n (I3 p)) 71 n y) 67 6 (I3 (n + 1)) = h2
    have n2 : nC h2 = n + 1 := by rw [← e2]; exact I3_clamp (by omega)
    have r2 : ∀ b j, h2.1 b j = if b = 67 ∧ j = 6 then I3 (n + 1) else if b = 71 ∧ j = n then y else if b = 70 ∧ j = n then I3 p else h1.1 b j := by
      intro b j; rw [← e2, wI_rd, wI_rd, wI_rd]
    have r70 : ∀ c, c < n → h2.1 70 c = h.1 70 c := fun c hc => by rw [r2, rd]; simp [show ¬ c = n by omega]
    have r70n : h2.1 70 n = I3 p := by rw [r2]; simp
    have G : grow h h2 := by
      refine ⟨by rw [n2]; show nC h ≤ _; omega, ?_, ?_, fun t ht => ?_, fun c hc => r70 c (by omega)⟩
      · rw [← e2, ← e1]; exact Nat.le_refl _
      · rw [← e2, ← e1]; exact Nat.le_refl _
      · rw [← e2, ← e1]; rfl
    have wK2 : wfK h2 := by
      refine ⟨by rw [n2, r2]; simp, by omega, fun c hc => ?_⟩
      rw [n2] at hc
      by_cases q : c = n
      · subst q
        have : par h2 c = p := by show tn (h2.1 70 c) = p; rw [r70n]; exact I3_clamp (by omega)
        rw [this, r70n]
        exact ⟨rfl, by omega⟩
      · have ep : par h2 c = par h c := by show tn (h2.1 70 c) = tn (h.1 70 c); rw [r70 c (by omega)]
        rw [ep, r70 c (by omega)]
        exact wK.2.2 c (by show c < nC h; omega)
    have Bo : ∀ x o, x < 20 + n → B h2 x o = B h x o := fun x o hx => bel_grow wK (fun c hc => r70 c (by omega)) 12 x o (by omega)
    have cK2 : CHandleHouseLaw_law_r9294_ac1f8b.cK h2 h2 := by
      refine ⟨by rw [n2, r2, rd]; simp; congr 1, fun c hc => ?_, fun a b ha hb => ?_⟩
      · rw [n2] at hc
        by_cases q : c = n
        · subst q; simp only [r2, rd]; simp
        · have z := cK.2.1 c (by omega)
          rw [r2, rd, r2, rd, r2, rd, r2, rd]
          simp [q]
          exact z
      · rw [n2] at ha
        have e3 : h2.1 2 (a * 32 + b) = F (a * 32 + b) := by rw [r2, rd]; simp
        rw [e3, ← hF]
        show (if a * 32 + b = (20 + nC h) * 32 + (20 + nC h) then I3 1 else rowF (h.1 2) (20 + nC h) p 32 (a * 32 + b)) = _
        rw [hn1]
        by_cases q : a = 20 + n
        · subst q
          rw [B_ge20 wK2 (by omega) (by omega), show 20 + n - 20 = n by omega]
          have ep : par h2 n = p := by show tn (h2.1 70 n) = p; rw [r70n]; exact I3_clamp (by omega)
          rw [ep, Bo p b (by omega)]
          by_cases q2 : b = 20 + n
          · rw [if_pos (by omega), q2, Nat.beq_refl]; rfl
          · rw [if_neg (by omega)]
            unfold rowF
            rw [if_pos (by omega), show (20 + n) * 32 + b - (20 + n) * 32 = b by omega, cK.2.2 p b (by omega) hb]
            have : Nat.beq (20 + n) b = false := by
              cases w : Nat.beq (20 + n) b with
              | false => rfl
              | true => have := Nat.eq_of_beq_eq_true w; omega
            rw [this]; rfl
        · rw [if_neg (by omega), Bo a b (by omega)]
          unfold rowF
          rw [if_neg (by omega)]
          exact cK.2.2 a b (by omega) hb
    have L : 19 + nC h ≤ 19 + nC h2 := by omega
    have wT2 : wfT h := wT
    subst e1
    subst e2
    have wF : wfF (sm_wI (sm_wI (sm_wI (sm_wI (sm_wI (sm_wI (wA h 2 F) 3 (20 + n) (I3 p)) 4 (20 + n) y) 1 3 (I3 (20 + n + 1))) 70 n (I3 p)) 71 n y) 67 6 (I3 (n + 1))) := wfF_ext (g1 := sm_wI (sm_wI (sm_wI (sm_wI (sm_wI (sm_wI (wA h 2 F) 3 (20 + n) (I3 p)) 4 (20 + n) y) 1 3 (I3 (20 + n + 1))) 70 n (I3 p)) 71 n y) 67 6 (I3 (n + 1))) (I1_base I) (I1_base I).g ⟨G.1, G.2.2.2.2, Nat.le_refl _, fun _ _ => rfl, ⟨Nat.le_refl _, fun _ _ => ⟨rfl, rfl, fun _ _ => rfl⟩⟩, Nat.le_refl _, fun _ _ => rfl, Nat.le_refl _, fun _ _ => rfl, Nat.le_refl _, ⟨Nat.le_refl _, fun _ _ => ⟨rfl, rfl, rfl, rfl, rfl, rfl⟩⟩⟩ ⟨rfl, fun _ _ => ⟨rfl, rfl, rfl, rfl, rfl⟩, fun _ _ _ _ => rfl⟩ ⟨rfl, fun _ _ => rfl⟩ cZ.2
    refine ⟨wK2, cK2, ⟨wT.1, fun t ht => ⟨cnt_le (wT.2.1 t ht).1 L, (wT.2.1 t ht).2.1, fun k hk => ⟨cnt_le ((wT.2.1 t ht).2.2 k hk).1 L, ((wT.2.1 t ht).2.2 k hk).2⟩⟩, wT.2.2⟩, cT, wH, cH, ⟨wM.1, wM.2.1, fun m hm => ?_⟩, cM, cR, cP, cG, cO, ⟨cV.1, cV.2.1, cV.2.2.1, fun v hv => ?_⟩, ⟨wX.1, fun t ht => ?_, fun m a b c => okV_grow wK G (wX.2.2 m a b c)⟩, cX, cXh_fr (by repeat first | exact hi_rfl | refine hi_wI ?_ (by decide) | refine hi_wJ ?_ (by decide) | refine hi_wA ?_ (by decide)) cXh, ?_, cY, cF, cZ.1, wF⟩
    · obtain ⟨m1, m2, m3, m4, m5⟩ := wM.2.2 m hm
      refine ⟨?_, m2, m3, m4, ?_⟩
      · obtain ⟨c, z1, z2⟩ := m1
        exact ⟨c, by rw [n2]; omega, z2⟩
      · rcases m5 with ⟨z1, z2, z3, z4⟩ | z
        · exact Or.inl ⟨z1, cnt_le z2 L, z3, z4⟩
        · exact Or.inr z
    · obtain ⟨q, z1, z2, z3⟩ := cV.2.2.2 v hv
      exact ⟨q, z1, by rw [n2]; omega, okO_grow G z3⟩
    · obtain ⟨z1, z2⟩ := wX.2.1 t ht
      refine ⟨z1, ?_⟩
      rcases z2 with ⟨k, a1, a2, a3, a4⟩ | ⟨k, a1, a2, a3, a4⟩
      · exact Or.inl ⟨k, a1, a2, a3, fun i hi => okV_grow wK G (a4 i hi)⟩
      · exact Or.inr ⟨k, a1, by rw [n2]; omega, a3, fun m b1 b2 b3 => okV_grow wK G (a4 m b1 b2 b3)⟩
    · obtain ⟨u1, u2, u3, u4, u5, u6, u7⟩ := cU
      refine ⟨u1, u2, u3, u4, u5, ?_, u7⟩
      rcases u6 with z | z | ⟨⟨q, z1, z2, z3⟩, z4⟩
      · exact Or.inl z
      · exact Or.inr (Or.inl z)
      · exact Or.inr (Or.inr ⟨⟨q, z1, by rw [n2]; omega, okO_grow G z3⟩, z4⟩)
theorem op_newClass {h : sm_H} (x y : Int32) (I : I0 h) : ∃ v h1 h2, F_259 x y h = some (v, h1) ∧ F_381 x y h1 = some (v, h2) ∧ I0 h2 := by
  have wK := I.1
  have cK := I.2.1
  have h12 := wK.2.1
  have c1 := cK.1
  have k1 := wK.1
  by_cases full : nC h = 12
  · refine ⟨-1, h, h, ?_, ?_, I⟩
    · simp (disch := omega) only [F_259_0, F_259, F_52_39B, F_52_39, F_52_31, F_52_29, F_52_0, F_52, ↓reduceIte, if_true, if_false, ite_self, Option.bind_some, Option.map_some, wI_rd, wJ_rd, wI_2, wJ_1, wJ_22, I3_lit, I3_add, I3_mul, I3_lt, I3_le, I3_inj, I3_nn', I3_n1, I3_n2, m2m1, ldI_I, ldJ_I, ldZ_I, stI_I, stJ_I, true_or, or_true, false_or, or_false, true_and, and_true, false_and, and_false, not_true_eq_false, not_false_eq_true, reduceCtorEq, Nat.reduceEqDiff, Nat.lt_irrefl, Nat.not_lt_zero, Nat.le_refl, Nat.reduceLT, Nat.reduceLeDiff, eq_self, zbbI, bbI0, bbI1, decide_eq_false_iff_not, decide_eq_true_eq, Bool.not_eq_false, Bool.not_eq_true, Bool.not_true, Bool.not_false, cond_true, cond_false, c1, full]
    · simp (disch := omega) only [F_381_31, F_381_29, F_381_0, F_381, ↓reduceIte, if_true, if_false, ite_self, Option.bind_some, Option.map_some, wI_rd, wJ_rd, wI_2, wJ_1, wJ_22, I3_lit, I3_add, I3_mul, I3_lt, I3_le, I3_inj, I3_nn', I3_n1, I3_n2, m2m1, ldI_I, ldJ_I, ldZ_I, stI_I, stJ_I, true_or, or_true, false_or, or_false, true_and, and_true, false_and, and_false, not_true_eq_false, not_false_eq_true, reduceCtorEq, Nat.reduceEqDiff, Nat.lt_irrefl, Nat.not_lt_zero, Nat.le_refl, Nat.reduceLT, Nat.reduceLeDiff, eq_self, zbbI, bbI0, bbI1, decide_eq_false_iff_not, decide_eq_true_eq, Bool.not_eq_false, Bool.not_eq_true, Bool.not_true, Bool.not_false, cond_true, cond_false, k1, full]
  have n32 : ¬ 32 ≤ 20 + nC h := by omega
  have go : ∀ p, (p = 7 ∨ p = 19 ∨ 20 ≤ p ∧ p < 20 + nC h) → x = I3 p → ∃ v h1 h2, F_259 x y h = some (v, h1) ∧ F_381 x y h1 = some (v, h2) ∧ I0 h2 := by
    intro p hp hx
    subst hx
    obtain ⟨v, h1, h2, e1, e2, e3, e4, e5⟩ := newC_ok y I hp (by omega)
    have e6 : nC h1 = nC h := by show tn (h1.1 67 6) = tn (h.1 67 6); rw [e5]
    refine ⟨v, h1, h2, ?_, ?_, e3⟩
    · show ((F_52_0 (I3 p) y h).bind _) = _
      have : F_52_0 (I3 p) y h = F_52_31 (I3 p) y h := by
        unfold F_52_0
        rw [c1, if_neg (by rw [I3_lit, I3_le (by decide) (by omega)]; exact n32)]
        rcases hp with q | q | q
        · rw [if_pos (by rw [q]; rfl)]
        · rw [if_neg (by rw [q]; decide), if_pos (by rw [q]; rfl)]
        · rw [if_neg (by rw [I3_lit, I3_inj (by omega) (by decide)]; omega), if_neg (by rw [I3_lit, I3_inj (by omega) (by decide)]; omega), C_isC wK cK (by omega)]
          rw [decide_eq_true q]; rfl
      rw [this, e1]; rfl
    · show F_381_0 (I3 p) y h1 = _
      unfold F_381_0
      rw [e5, k1, if_neg (by rw [I3_lit, I3_inj (by omega) (by decide)]; exact full)]
      rcases hp with q | q | q
      · rw [if_pos (by rw [q]; rfl)]; exact e2
      · rw [if_neg (by rw [q]; decide), if_pos (by rw [q]; rfl)]; exact e2
      · rw [if_neg (by rw [I3_lit, I3_inj (by omega) (by decide)]; omega), if_neg (by rw [I3_lit, I3_inj (by omega) (by decide)]; omega), R_isC e4 (by omega), e6]
        rw [decide_eq_true q]; exact e2
  rcases I3_cases x with ⟨p, hp, rfl⟩ | hx
  · by_cases q : p = 7 ∨ p = 19 ∨ 20 ≤ p ∧ p < 20 + nC h
    · exact go p q rfl
    · refine ⟨-1, h, h, ?_, ?_, I⟩
      · simp (disch := omega) only [F_259_0, F_259, F_52_39B, F_52_39, F_52_31, F_52_29, F_52_0, F_52, ↓reduceIte, if_true, if_false, ite_self, Option.bind_some, Option.map_some, wI_rd, wJ_rd, wI_2, wJ_1, wJ_22, I3_lit, I3_add, I3_mul, I3_lt, I3_le, I3_inj, I3_nn', I3_n1, I3_n2, m2m1, ldI_I, ldJ_I, ldZ_I, stI_I, stJ_I, true_or, or_true, false_or, or_false, true_and, and_true, false_and, and_false, not_true_eq_false, not_false_eq_true, reduceCtorEq, Nat.reduceEqDiff, Nat.lt_irrefl, Nat.not_lt_zero, Nat.le_refl, Nat.reduceLT, Nat.reduceLeDiff, eq_self, zbbI, bbI0, bbI1, decide_eq_false_iff_not, decide_eq_true_eq, Bool.not_eq_false, Bool.not_eq_true, Bool.not_true, Bool.not_false, cond_true, cond_false, c1, n32, show ¬ p = 7 by omega, show ¬ p = 19 by omega, C_isC wK cK, show ¬ (20 ≤ p ∧ p < 20 + nC h) by omega, decide_false]
      · simp (disch := omega) only [F_381_31, F_381_29, F_381_0, F_381, ↓reduceIte, if_true, if_false, ite_self, Option.bind_some, Option.map_some, wI_rd, wJ_rd, wI_2, wJ_1, wJ_22, I3_lit, I3_add, I3_mul, I3_lt, I3_le, I3_inj, I3_nn', I3_n1, I3_n2, m2m1, ldI_I, ldJ_I, ldZ_I, stI_I, stJ_I, true_or, or_true, false_or, or_false, true_and, and_true, false_and, and_false, not_true_eq_false, not_false_eq_true, reduceCtorEq, Nat.reduceEqDiff, Nat.lt_irrefl, Nat.not_lt_zero, Nat.le_refl, Nat.reduceLT, Nat.reduceLeDiff, eq_self, zbbI, bbI0, bbI1, decide_eq_false_iff_not, decide_eq_true_eq, Bool.not_eq_false, Bool.not_eq_true, Bool.not_true, Bool.not_false, cond_true, cond_false, k1, full, show ¬ p = 7 by omega, show ¬ p = 19 by omega, R_isC wK, show ¬ (20 ≤ p ∧ p < 20 + nC h) by omega, decide_false]
  · have ne : ∀ k : Nat, k < 2147483648 → (x = I3 k) = False := fun k hk => eq_false (neg_ne_I3 hx hk)
    refine ⟨-1, h, h, ?_, ?_, I⟩
    · simp (disch := omega) only [F_259_0, F_259, F_52_39B, F_52_39, F_52_31, F_52_29, F_52_0, F_52, ↓reduceIte, if_true, if_false, ite_self, Option.bind_some, Option.map_some, wI_rd, wJ_rd, wI_2, wJ_1, wJ_22, I3_lit, I3_add, I3_mul, I3_lt, I3_le, I3_inj, I3_nn', I3_n1, I3_n2, m2m1, ldI_I, ldJ_I, ldZ_I, stI_I, stJ_I, true_or, or_true, false_or, or_false, true_and, and_true, false_and, and_false, not_true_eq_false, not_false_eq_true, reduceCtorEq, Nat.reduceEqDiff, Nat.lt_irrefl, Nat.not_lt_zero, Nat.le_refl, Nat.reduceLT, Nat.reduceLeDiff, eq_self, zbbI, bbI0, bbI1, decide_eq_false_iff_not, decide_eq_true_eq, Bool.not_eq_false, Bool.not_eq_true, Bool.not_true, Bool.not_false, cond_true, cond_false, c1, n32, ne, C_isC_n hx]
    · simp (disch := omega) only [F_381_31, F_381_29, F_381_0, F_381, ↓reduceIte, if_true, if_false, ite_self, Option.bind_some, Option.map_some, wI_rd, wJ_rd, wI_2, wJ_1, wJ_22, I3_lit, I3_add, I3_mul, I3_lt, I3_le, I3_inj, I3_nn', I3_n1, I3_n2, m2m1, ldI_I, ldJ_I, ldZ_I, stI_I, stJ_I, true_or, or_true, false_or, or_false, true_and, and_true, false_and, and_false, not_true_eq_false, not_false_eq_true, reduceCtorEq, Nat.reduceEqDiff, Nat.lt_irrefl, Nat.not_lt_zero, Nat.le_refl, Nat.reduceLT, Nat.reduceLeDiff, eq_self, zbbI, bbI0, bbI1, decide_eq_false_iff_not, decide_eq_true_eq, Bool.not_eq_false, Bool.not_eq_true, Bool.not_true, Bool.not_false, cond_true, cond_false, k1, full, ne, R_isC_n hx]
