theorem C_draftMethod {h g : sm_H} (K : K1 h g) {l : List Int32} (d : dC h l) (hl : l.length ≤ 100) {m t : Nat} (hm : m < nM g) (z : g.1 87 m = 0) (ht : t < nT g) (et : g.1 89 m = I3 t) : ∃ h1, F_125 (I3 m) h = some (rs g t, h1) ∧ dC h1 (l ++ pl g t) ∧ agr SCd h h1 := by
  obtain ⟨wK, cK, wT, cT, wH, cH, wM, cM, -⟩ := id K
  have m100 : nM g ≤ 100 := wM.1.2
  have w300 : nT g ≤ 300 := wT.1.2
  have e45 : h.1 45 m = I3 t := ((cM.2.2 m hm).2.2.2.2.2 z).2.2.1.trans et
  have T1 := C_tmany wT cT ht
  have mm : g.1 73 t = I3 (tM g t) := (wT.2.1 _ ht).2.1.1
  rw [mm] at T1
  obtain ⟨h1, w1, w2, w3⟩ := C_withPlaces (t := t) (a := 0) (b := tM g t) K d hl ht (Nat.le_refl _) (by omega)
  have K' := K1_h K (agr_mono SCd_not w3)
  have T2 := C_tres wT K'.2.2.2.1 ht
  have e45' : h1.1 45 m = I3 t := (w3.1 45 m (by unfold SCd; omega)).trans e45
  have ln : (pl g t).length = tM g t := lst_len _ _
  refine ⟨h1, ?_, ?_, w3⟩
  · show F_125_0 (I3 m) h = _
    unfold F_125_0
    rw [ldI_I (by omega) (by omega), e45]; simp only [Option.bind_some]
    rw [T1]; simp only [Option.bind_some]
    have w1' : F_230 (I3 t) 0 (I3 (tM g t)) h = some h1 := w1
    rw [w1']; simp only [Option.bind_some]
    rw [ldI_I (by omega) (by omega), e45']; simp only [Option.bind_some]
    rw [T2]; rfl
  · rw [Nat.sub_zero, ← ln, seg_all] at w2; exact w2
theorem kL_app {g : sm_H} {l m : List Int32} (a : kL g l) (b : kL g m) : kL g (l ++ m) := fun i hi => by
  rw [List.length_append] at hi
  by_cases c : i < l.length
  · rw [at0_app1 c]; exact a i c
  · rw [at0_app2 (by omega)]; exact b _ (by omega)
theorem kL_pl {g : sm_H} (wT : wfT g) {t : Nat} (ht : t < nT g) : kL g (pl g t) := fun i hi => by
  rw [lst_len] at hi
  obtain ⟨z1, z2⟩ := (wT.2.1 _ ht).2.2 i hi
  rw [at0_lst hi]
  exact ⟨_, z1.1, z2, by have := z1.2; omega⟩
theorem kL_1 {g : sm_H} {q : Nat} (h1 : 0 < q) (h2 : q < 20 + nC g) : kL g [I3 q] := fun i hi => by
  simp only [List.length_cons, List.length_nil] at hi
  have : i = 0 := by omega
  subst this
  exact ⟨q, rfl, h1, h2⟩
theorem kL_0 {g : sm_H} : kL g [] := fun i hi => by cases hi
theorem kL_ext {g g1 : sm_H} (e : nC g1 = nC g) {l : List Int32} (a : kL g l) : kL g1 l := fun i hi => by rw [e]; exact a i hi
theorem kR1_ext {g g1 : sm_H} (e : nC g1 = nC g) {r : Int32} (a : kR1 g r) : kR1 g1 r := by unfold kR1; rw [e]; exact a
theorem kR1_rs {g : sm_H} (wT : wfT g) {t : Nat} (ht : t < nT g) : kR1 g (rs g t) := by
  have z1 := (wT.2.1 t ht).1
  exact ⟨_, z1.1, by have := z1.2; omega⟩
theorem findEnd {h g h0 g0 : sm_H} (I : I1 h g) (ag : agr SCd h h0) (bg : agr SRp (sm_wI g 67 19 0) g0) {l : List Int32} {r : Int32} (dc : dC h0 l) (dr : dR g0 l) (er : g0.1 67 20 = r) (e3 : g0.1 67 3 = I3 0) (h64 : l.length ≤ 64) (kr : kR1 g r) (kl : kL g l) {f : Nat} {a b : Int32} {c : Int64} (F : FS g f a b c [] r l) : ∃ v w' h1 g1 h2, F_6 (I3 f) a b c 47 r h0 = some (w', h1) ∧ F_340 (I3 f) a b c g0 = some (v, g1) ∧ F_264 w' h1 = some (v, h2) ∧ I1 h2 g1 ∧ kR h h2 ∧ kC g g1 := by
  have K := (I1_K.mp I).1
  have K0 : K1 h0 g0 := K1_g (K1_h (K1_19 K 0) (agr_mono SCd_not ag)) (agr_mono SRp_not bg)
  have E0 := ext_eq (okR_SRp bg)
  have nc : nC g0 = nC g := by show tn _ = tn _; rw [bg.1 67 6 (by unfold SRp; omega)]; rfl
  have F0 : FS g0 f a b c [] r l := by
    refine FS_up (g := sm_wI g 67 19 0) (K1_base (K1_19 K 0)) (fun k hk => ?_) E0.1 ?_
    · rw [bg.1 92 k (by unfold SRp; omega)]
      have := (K1_base (K1_19 K 0)).g k hk
      have := E0.1.h1
      omega
    · exact F
  obtain ⟨v, w', h1, g1, m1, m2, m3, m4, m5, m6, m7, m8⟩ := MH (ps := []) K0 rw47 (by decide) (by decide) (hasL_agr (noL I) ag (fun j => by unfold SCd; omega)) ⟨e3, by decide, fun k hk => by cases hk⟩ dc dr er h64 (kR1_ext nc kr) (kL_ext nc kl) F0
  obtain ⟨h2, n1, n2, n3, n4⟩ := finMH I ag bg m3 m4 m5 m6 m7 m8
  exact ⟨v, w', h1, g1, h2, m1, m2, n1, n2, n3, n4⟩
theorem findOk {h g : sm_H} (I : I1 h g) {a o m d w : Nat} {x4 nm : Int32} (ha : a < nC g) (hof : o < nC g) (hm : m < nM g) (hw : w ≤ 8) (ht : w < 4 → inR x4 (nT g) = true) (hd1 : 20 ≤ d) (hd2 : d < 20 + nC g) (hB : B g (20 + o) d = true) (h3 : w = 3 → d = 20 + o) (hs : sP g d nm x4 w m = true) (hf : ∀ n, n < m → sP g d nm x4 w n = false) (h8 : w = 8 → 2 ≤ tn (g.1 88 m) ∧ tn (g.1 88 m) ≤ 6) (h2 : w = 2 → B g (20 + a) (20 + o) = true) : ∃ v w' h1 g1 h2, F_124 (I3 (20 + a)) (I3 (20 + o)) (I3 m) (I3 w) h = some (w', h1) ∧ F_395_184 (I3 (20 + a)) (I3 (20 + o)) x4 (I3 w) (I3 m) (sm_wI g 67 19 0) = some (v, g1) ∧ F_264 w' h1 = some (v, h2) ∧ I1 h2 g1 ∧ kR h h2 ∧ kC g g1 := by
  have K := (I1_K.mp I).1
  obtain ⟨wK, cK, wT, cT, wH, cH, wM, cM, cG, cO, cV, wX, cX, cXh, wF⟩ := id K
  have h12 := wK.2.1
  have m100 : nM g ≤ 100 := wM.1.2
  have w300 : nT g ≤ 300 := wT.1.2
  have w500 : nH g ≤ 500 := wH.1.2
  obtain ⟨h0, b1, b2', b3⟩ := C_begin h
  have K0 := K1_h K (agr_mono SCd_not b3)
  unfold sP at hs
  simp only [Bool.and_eq_true, decide_eq_true_eq] at hs
  obtain ⟨s83, s84, su⟩ := hs
  have td : tn (g.1 83 m) = d := by rw [s83]; exact I3_clamp (by omega)
  have bg0 : agr SRp (sm_wI g 67 19 0) (sm_wI (sm_wI g 67 19 0) 67 3 0) := agr_wI agr_rfl (by simp [SRp])
  have first : ∀ n, n < m → 1 ≤ w → w ≤ 2 → g.1 83 n = g.1 83 m → g.1 84 n = g.1 84 m → g.1 87 n = 0 → g.1 86 n = 0 → g.1 89 n = g.1 89 m → g.1 89 m = x4 → mkr g n := fun n hn w1 w2 q1 q2 q3 q4 q5 q6 => by
    have := hf n hn
    unfold sP suB at this
    rw [decide_eq_true (q1.trans s83), decide_eq_true (q2.trans s84), if_neg (by omega), if_neg (by omega), decide_eq_true (⟨q3, q5.trans q6⟩ : g.1 87 n = 0 ∧ g.1 89 n = x4), decide_eq_true q4, decide_eq_false (show ¬ w = 3 by omega)] at this
    simp only [Bool.true_and] at this
    cases q : mkB g n with
    | true => exact mkB_iff.mp q
    | false => rw [q] at this; cases this
  by_cases w4 : 4 ≤ w
  ·
    unfold suB at su
    rw [if_pos w4, decide_eq_true_eq] at su
    obtain ⟨sb, s86⟩ := (wM.2.2 m hm).2.2.2.1
    have kd : cnt (g.1 88 m) (19 + nC g) ∧ 0 < tn (g.1 88 m) := by
      rcases (wM.2.2 m hm).2.2.2.2 with ⟨-, z2, z3, -⟩ | ⟨z, -⟩
      · exact ⟨z2, z3⟩
      · rw [su] at z; cases z
    have KO := C_kindOf (h := h0) wM K0.2.2.2.2.2.2.2.1 hm
    rw [if_pos su] at KO
    have y4 : h0.1 42 m = b2 sb := by rw [(K0.2.2.2.2.2.2.2.1.2.2 m hm).2.2.2.1, s86]
    generalize hkd : g.1 88 m = kk at *
    have klk : kL g [kk] := by
      have := kd.1.1
      rw [this]
      exact kL_1 kd.2 (by have := kd.1.2; omega)
    have klc : kL g (chgL kk w) := by
      unfold chgL
      by_cases q4 : w = 4
      · rw [if_pos q4]; exact kL_0
      · rw [if_neg q4]
        by_cases q7 : w = 7
        · rw [if_pos q7]; exact kL_app klk klk
        · rw [if_neg q7]; exact klk
    have krc : kR1 g (chgR kk w) := by
      unfold chgR
      by_cases q5 : w = 5
      · rw [if_pos q5]; exact ⟨0, rfl, by omega⟩
      · rw [if_neg q5]
        by_cases q7 : w = 7
        · rw [if_pos q7]; exact ⟨1, rfl, by omega⟩
        · rw [if_neg q7]; exact ⟨tn kk, kd.1.1, by have := kd.1.2; omega⟩
    have lc : (chgL kk w).length ≤ 2 := by
      unfold chgL
      by_cases q4 : w = 4
      · rw [if_pos q4]; decide
      · rw [if_neg q4]
        by_cases q7 : w = 7
        · rw [if_pos q7]; exact Nat.le_refl 2
        · rw [if_neg q7]; exact Nat.le_of_ble_eq_true rfl
    have CD : ∀ (u : sm_H) (l : List Int32), dC u l → l.length ≤ 100 → ∃ u1, F_33 kk (I3 w) u = some (chgR kk w, u1) ∧ dC u1 (l ++ chgL kk w) ∧ agr SCd u u1 := fun u l du hl => by
      obtain ⟨u1, v1, v2, v3⟩ := C_with du (by omega) kk
      obtain ⟨u2, v4, v5, v6⟩ := C_with v2 (by rw [List.length_append]; simp only [List.length_cons, List.length_nil]; omega) kk
      unfold chgL chgR
      by_cases q4 : w = 4
      · subst q4
        exact ⟨u, rfl, by rw [if_pos rfl, List.append_nil]; exact du, agr_rfl⟩
      · have n4 : ¬ I3 w = 4 := by rw [I3_lit, I3_inj (by omega) (by decide)]; exact q4
        rw [if_neg q4]
        by_cases q7 : w = 7
        · subst q7
          refine ⟨u2, ?_, by rw [if_pos rfl]; rw [List.append_assoc] at v5; exact v5, agr_trans v3 v6⟩
          show F_33_0 kk (I3 7) u = _
          unfold F_33_0 F_33_13
          rw [if_neg n4, v1]; simp only [Option.bind_some]
          rw [if_pos (show I3 7 = (7 : Int32) by decide), v4]; rfl
        · have n7 : ¬ I3 w = 7 := by rw [I3_lit, I3_inj (by omega) (by decide)]; exact q7
          refine ⟨u1, ?_, by rw [if_neg q7]; exact v2, v3⟩
          show F_33_0 kk (I3 w) u = _
          unfold F_33_0 F_33_13 F_33_39
          rw [if_neg n4, v1]; simp only [Option.bind_some]
          rw [if_neg n7, if_neg q7]
          by_cases q5 : w = 5
          · rw [if_pos (by rw [q5]; rfl), if_pos q5]
          · rw [if_neg (by rw [I3_lit, I3_inj (by omega) (by decide)]; exact q5), if_neg q5]
    have RD : ∀ (u : sm_H) (l : List Int32), dR u l → l.length ≤ 50 → ∃ u1, (F_396_58 (I3 m) (I3 (20 + o)) (I3 w) kk u = F_396_81 (I3 m) (I3 (20 + o)) (I3 w) u1) ∧ dR u1 (l ++ chgL kk w) ∧ agr SRd u u1 ∧ u1.1 67 20 = u.1 67 20 := fun u l du hl => by
      obtain ⟨u1, v1, v2, v3, v3'⟩ := R_addNew du (by omega) kk
      obtain ⟨u2, v4, v5, v6, v6'⟩ := R_addNew v2 (by rw [List.length_append]; simp only [List.length_cons, List.length_nil]; omega) kk
      unfold chgL F_396_58 F_396_69
      by_cases q4 : w = 4
      · subst q4
        refine ⟨u, ?_, by rw [if_pos rfl, List.append_nil]; exact du, agr_rfl, rfl⟩
        rw [if_pos (show I3 4 ≤ (4 : Int32) by decide), if_neg (by decide)]
      · have n4 : ¬ I3 w ≤ 4 := by rw [I3_lit, I3_le (by omega) (by decide)]; omega
        rw [if_neg q4, if_neg n4]
        by_cases q7 : w = 7
        · subst q7
          refine ⟨u2, ?_, by rw [if_pos rfl]; rw [List.append_assoc] at v5; exact v5, agr_trans v3 v6, v6'.trans v3'⟩
          rw [v1]; simp only [Option.bind_some]
          rw [if_pos (show I3 7 = (7 : Int32) by decide), v4]; rfl
        · have n7 : ¬ I3 w = 7 := by rw [I3_lit, I3_inj (by omega) (by decide)]; exact q7
          refine ⟨u1, ?_, by rw [if_neg q7]; exact v2, v3, v3'⟩
          rw [v1]; simp only [Option.bind_some]
          rw [if_neg n7]
    have RR : F_395_184 (I3 (20 + a)) (I3 (20 + o)) x4 (I3 w) (I3 m) (sm_wI g 67 19 0) = ((F_396_41 (I3 m) (I3 (20 + o)) (I3 w) kk (chgR kk w) (sm_wI (sm_wI g 67 19 0) 67 3 0)).bind fun q8 => some (q8.1, q8.2)) := by
      unfold F_395_184
      simp only [Option.bind_some]
      rw [if_neg (by rw [I3_lit, I3_inj (by omega) (by decide)]; omega), if_neg (by rw [I3_lit, I3_le (by omega) (by decide)]; omega)]
      congr 1
      show F_396_0 _ _ _ _ = _
      unfold F_396_0 F_396_26 chgR
      have e88 : (sm_wI (sm_wI g 67 19 0) 67 3 0).1 88 m = kk := hkd
      rw [ldI_I (by omega) (by omega), e88]; simp only [Option.bind_some]
      rcases (show w = 4 ∨ w = 5 ∨ w = 6 ∨ w = 7 ∨ w = 8 by omega) with q | q | q | q | q <;> subst q <;> rfl
    obtain ⟨g0, f1, f2, f3, f4⟩ := R_clear (sm_wI (sm_wI g 67 19 0) 67 3 0) (chgR kk w)
    have e3 : g0.1 67 3 = I3 0 := (f3.1 67 3 (by unfold SRd; omega)).trans rfl
    cases sb with
    | true =>
      obtain ⟨u1, c1, c2, c3⟩ := CD h0 [] b2' (by decide)
      rw [List.nil_append] at c2
      obtain ⟨g1, r1, r2, r3, r4⟩ := RD g0 [] f2 (by decide)
      rw [List.nil_append] at r2
      have bg : agr SRp (sm_wI g 67 19 0) g1 := agr_trans bg0 (agr_mono SRd_p (agr_trans f3 r3))
      obtain ⟨v, w', h1, g2, h2, k1, k2, k3, k4, k5, k6⟩ := findEnd I (agr_trans b3 c3) bg c2 r2 (r4.trans f4) ((r3.1 67 3 (by unfold SRd; omega)).trans e3) (by omega) krc klc (f := 35) (a := I3 m) (b := I3 w) (c := 0)
        (by
          unfold FS
          iterate 27 right
          exact Or.inl ⟨rfl, rfl, m, w, hm, rfl, su, w4, hw, rfl, by rw [hkd]; exact h8, by rw [hkd], Or.inl ⟨s86, by rw [hkd]⟩⟩)
      refine ⟨v, w', h1, g2, h2, ?_, ?_, k3, k4, k5, k6⟩
      · show F_124_0 _ _ _ _ h = _
        unfold F_124_0
        rw [b1]; simp only [Option.bind_some]
        rw [if_neg (by rw [I3_lit, I3_inj (by omega) (by decide)]; omega), if_neg (by rw [I3_lit, I3_inj (by omega) (by decide)]; omega), if_neg (by rw [I3_lit, I3_inj (by omega) (by decide)]; omega), if_neg (by rw [I3_lit, I3_inj (by omega) (by decide)]; omega)]
        show ((F_127_0 _ _ _ h0).bind _) = _
        unfold F_127_0 F_127_14 F_127_30
        rw [ldZ_I (by omega) (by omega), y4]; simp only [Option.bind_some]
        rw [if_neg (by decide), if_pos trivial, KO]; simp only [Option.bind_some]
        rw [c1]; simp only [Option.bind_some]
        have k1' : F_6 35 (I3 m) (I3 w) (Int32.toInt64 0) 47 (chgR kk w) u1 = some (w', h1) := k1
        rw [k1']; rfl
      · rw [RR]
        unfold F_396_41
        rw [f1]; simp only [Option.bind_some]
        have z1 : g0.1 86 m = b2 true := (f3.1 86 m (by unfold SRd; omega)).trans s86
        have z2 : g1.1 86 m = b2 true := (r3.1 86 m (by unfold SRd; omega)).trans z1
        rw [ldZ_I (by omega) (by omega), z1]; simp only [Option.bind_some]
        rw [if_neg (by decide), r1]
        unfold F_396_81 F_396_101
        rw [ldZ_I (by omega) (by omega), z2]; simp only [Option.bind_some]
        rw [if_neg (by decide)]
        have k2' : F_340 35 (I3 m) (I3 w) 0 g1 = some (v, g2) := k2
        rw [k2']; rfl
    | false =>
      obtain ⟨u0, c0, c0', c0''⟩ := C_with b2' (by decide) (I3 (20 + o))
      rw [List.nil_append] at c0'
      have K0' := K1_h K (agr_mono SCd_not (agr_trans b3 c0''))
      have KO' := C_kindOf (h := u0) wM K0'.2.2.2.2.2.2.2.1 hm
      rw [if_pos su] at KO'
      rw [hkd] at KO'
      obtain ⟨u1, c1, c2, c3⟩ := CD u0 [I3 (20 + o)] c0' (Nat.le_of_ble_eq_true rfl)
      obtain ⟨g00, t1, t2, t3, t4⟩ := R_addNew f2 (by decide) (I3 (20 + o))
      rw [List.nil_append] at t2
      obtain ⟨g1, r1, r2, r3, r4⟩ := RD g00 [I3 (20 + o)] t2 (Nat.le_of_ble_eq_true rfl)
      have bg : agr SRp (sm_wI g 67 19 0) g1 := agr_trans bg0 (agr_mono SRd_p (agr_trans (agr_trans f3 t3) r3))
      obtain ⟨v, w', h1, g2, h2, k1, k2, k3, k4, k5, k6⟩ := findEnd I (agr_trans (agr_trans b3 c0'') c3) bg c2 r2 (r4.trans (t4.trans f4)) ((r3.1 67 3 (by unfold SRd; omega)).trans ((t3.1 67 3 (by unfold SRd; omega)).trans e3)) (by rw [List.length_append]; simp only [List.length_cons, List.length_nil]; omega) krc (kL_app (kL_1 (by omega) (by omega)) klc) (f := 35) (a := I3 m) (b := I3 w) (c := Int32.toInt64 (I3 (20 + o)))
        (by
          unfold FS
          iterate 27 right
          exact Or.inl ⟨rfl, rfl, m, w, hm, rfl, su, w4, hw, rfl, by rw [hkd]; exact h8, by rw [hkd], Or.inr ⟨s86, 20 + o, by omega, by omega, by rw [td]; exact hB, by rw [hkd]; rfl⟩⟩)
      have no0 : ¬ I3 (20 + o) = 0 := by rw [I3_lit, I3_inj (by omega) (by decide)]; omega
      refine ⟨v, w', h1, g2, h2, ?_, ?_, k3, k4, k5, k6⟩
      · show F_124_0 _ _ _ _ h = _
        unfold F_124_0
        rw [b1]; simp only [Option.bind_some]
        rw [if_neg (by rw [I3_lit, I3_inj (by omega) (by decide)]; omega), if_neg (by rw [I3_lit, I3_inj (by omega) (by decide)]; omega), if_neg (by rw [I3_lit, I3_inj (by omega) (by decide)]; omega), if_neg (by rw [I3_lit, I3_inj (by omega) (by decide)]; omega)]
        show ((F_127_0 _ _ _ h0).bind _) = _
        unfold F_127_0 F_127_14 F_127_30
        rw [ldZ_I (by omega) (by omega), y4]; simp only [Option.bind_some]
        rw [if_pos (by decide), if_neg no0, c0]; simp only [Option.bind_some]
        rw [KO']; simp only [Option.bind_some]
        rw [c1]; simp only [Option.bind_some]
        have k1' : F_6 35 (I3 m) (I3 w) (Int32.toInt64 (I3 (20 + o))) 47 (chgR kk w) u1 = some (w', h1) := k1
        rw [k1']; rfl
      · rw [RR]
        unfold F_396_41
        rw [f1]; simp only [Option.bind_some]
        have z1 : g0.1 86 m = b2 false := (f3.1 86 m (by unfold SRd; omega)).trans s86
        have z1' : g00.1 86 m = b2 false := (t3.1 86 m (by unfold SRd; omega)).trans z1
        have z2 : g1.1 86 m = b2 false := (r3.1 86 m (by unfold SRd; omega)).trans z1'
        rw [ldZ_I (by omega) (by omega), z1]; simp only [Option.bind_some]
        rw [if_pos (by decide), t1]; simp only [Option.bind_some]
        rw [r1]
        unfold F_396_81 F_396_101
        rw [ldZ_I (by omega) (by omega), z2]; simp only [Option.bind_some]
        rw [if_pos (by decide)]
        have k2' : F_340 35 (I3 m) (I3 w) (Int32.toInt64 (I3 (20 + o))) g1 = some (v, g2) := k2
        rw [k2']; rfl
  ·
    unfold suB at su
    rw [if_neg w4, Bool.and_eq_true, decide_eq_true_eq] at su
    obtain ⟨⟨s87, s89⟩, su⟩ := su
    obtain ⟨t, t1, t2⟩ : ∃ t, t < nT g ∧ g.1 89 m = I3 t := by
      rcases (wM.2.2 m hm).2.2.2.2 with ⟨z, -⟩ | ⟨-, -, q⟩
      · rw [s87] at z; cases z
      · exact q
    have ex4 : x4 = I3 t := s89.symm.trans t2
    subst ex4
    have tt : tn (g.1 89 m) = t := by rw [t2]; exact I3_clamp (by omega)
    have m10 : tM g t ≤ 10 := (wT.2.1 _ t1).2.1.2
    have ln : (pl g t).length = tM g t := lst_len _ _
    by_cases w0 : w = 0
    · subst w0
      obtain ⟨y, y1, y2⟩ : ∃ y, y < nH g ∧ g.1 90 m = I3 y := by
        rcases (wM.2.2 m hm).2.2.2.2 with ⟨z, -⟩ | ⟨-, q, -⟩
        · rw [s87] at z; cases z
        · exact q
      have y44 : h0.1 44 m = I3 y := ((K0.2.2.2.2.2.2.2.1.2.2 m hm).2.2.2.2.2 s87).2.1.trans y2
      obtain ⟨r1, -, -⟩ := refuse2 (I1_h I (agr_mono SCd_not b3)) 0
      refine ⟨I3 y, I3 y, h0, sm_wI (sm_wI g 67 19 0) 67 3 0, _, ?_, ?_, C_judge (by omega), I1_g r1 (fun b j ok => ?_), ?_, ?_⟩
      · show F_124_0 _ _ _ _ h = _
        unfold F_124_0
        rw [b1]; simp only [Option.bind_some]
        rw [if_pos (show I3 0 = (0 : Int32) by decide), ldI_I (by omega) (by omega), y44]; rfl
      · unfold F_395_184
        simp only [Option.bind_some]
        have e90 : (sm_wI (sm_wI g 67 19 0) 67 3 0).1 90 m = I3 y := y2
        rw [if_pos (show I3 0 = (0 : Int32) by decide), ldI_I (by omega) (by omega), e90]; rfl
      · refine ⟨?_, rfl⟩
        rw [wI_rd, wI_rd, wI_rd, wI_rd]
        by_cases q : b = 67 ∧ j = 3
        · obtain ⟨rfl, rfl⟩ := q; cases ok
        · rw [if_neg q]
          by_cases q2 : b = 67 ∧ j = 19
          · rw [if_pos q2, if_pos q2]; rfl
          · rw [if_neg q2, if_neg q2]
      · exact kR_agr (S := fun b j => SCd b j ∨ b = 0) (agr_wI (agr_mono (fun _ _ z => Or.inl z) b3) (Or.inr rfl)) (fun b j z => by unfold SCd at z; omega)
      · exact kC_agr (S := fun b j => b = 67) (agr_wI (agr_wI agr_rfl rfl) rfl) (fun b j z => by omega)
    · rw [if_neg w0, Bool.and_eq_true, decide_eq_true_eq] at su
      obtain ⟨s86, mk⟩ := su
      have mk : mkB g m = decide (w = 3) := by simpa using mk
      by_cases w3 : w = 3
      · subst w3
        have hd := h3 rfl
        subst hd
        have mkm : mkr g m := mkB_iff.mp (by rw [mk]; rfl)
        obtain ⟨h1, c1, c2, c3⟩ := C_draftMethod K0 b2' (by decide) hm s87 t1 t2
        rw [List.nil_append] at c2
        obtain ⟨g0, f1, f2, f3, f4⟩ := R_clear (sm_wI (sm_wI g 67 19 0) 67 3 0) (I3 (20 + o))
        have Kg0 : K1 h g0 := K1_g (K1_19 K 0) (agr_mono SRp_not (agr_trans bg0 (agr_mono SRd_p f3)))
        have nt0 : nT g0 = nT g := by show tn _ = tn _; rw [f3.1 67 10 (by unfold SRd; omega)]; rfl
        have E0 := ext_eq (okR_SRp (agr_trans bg0 (agr_mono SRd_p f3)))
        have pl0 : pl g0 t = pl g t := ext_pl (g := sm_wI g 67 19 0) E0.1 t1
        have tm0 : tM g0 t = tM g t := by show tn _ = tn _; rw [f3.1 73 t (by unfold SRd; omega)]; rfl
        obtain ⟨g1, r1, r2, r3, r4⟩ := R_addType Kg0 f2 (t := t) (by omega) (by rw [tm0]; simp only [List.length_nil]; omega)
        rw [List.nil_append, pl0] at r2
        have e3 : g1.1 67 3 = I3 0 := (r3.1 67 3 (by unfold SRd; omega)).trans ((f3.1 67 3 (by unfold SRd; omega)).trans rfl)
        have bg : agr SRp (sm_wI g 67 19 0) g1 := agr_trans bg0 (agr_mono SRd_p (agr_trans f3 r3))
        obtain ⟨v, w', h2, g2, h3, k1, k2, k3, k4, k5, k6⟩ := findEnd I (agr_trans b3 c3) bg c2 r2 (r4.trans f4) e3 (by omega) ⟨20 + o, rfl, by omega⟩ (kL_pl wT t1) (f := 38) (a := I3 m) (b := 0) (c := 0)
          (by
            unfold FS
            iterate 29 right
            exact ⟨rfl, rfl, m, hm, rfl, mkm, s83.symm, by rw [tt]⟩)
        refine ⟨v, w', h2, g2, h3, ?_, ?_, k3, k4, k5, k6⟩
        · show F_124_0 _ _ _ _ h = _
          unfold F_124_0
          rw [b1]; simp only [Option.bind_some]
          rw [if_neg (by decide), if_neg (by decide), if_neg (by decide), if_pos (by decide), c1]; simp only [Option.bind_some]
          show ((F_126_0 _ _ _ _ h1).bind _) = _
          unfold F_126_0
          have k1' : F_6 38 (I3 m) 0 0 47 (I3 (20 + o)) h1 = some (w', h2) := k1
          rw [k1']; rfl
        · unfold F_395_184
          simp only [Option.bind_some]
          rw [if_neg (by decide), if_pos (by decide), if_pos (by decide)]
          unfold F_395_236
          rw [f1]; simp only [Option.bind_some]
          rw [if_pos (by decide)]
          unfold F_395_260
          rw [r1]; simp only [Option.bind_some]
          rw [if_neg (by decide), if_neg (by decide)]
          unfold F_395_291 F_395_314
          rw [if_pos (by decide)]
          have k2' : F_340 38 (I3 m) 0 0 g1 = some (v, g2) := k2
          rw [k2']; rfl
      ·
        have w12 : w = 1 ∨ w = 2 := by omega
        rw [decide_eq_false w3] at mk
        have nmk : ¬ mkr g m := fun z => by have := mkB_iff.mpr z; rw [mk] at this; cases this
        generalize hk : (if w = 1 then 20 + o else 20 + a) = k
        have k20 : 20 ≤ k ∧ k < 20 + nC g := by rw [← hk]; split <;> omega
        have Bk : B g k d = true := by
          rcases w12 with q | q
          · subst q; rw [if_pos rfl] at hk; subst hk; exact hB
          · subst q; rw [if_neg (by decide)] at hk; subst hk
            exact B_trans wK (by omega) hB (20 + a) (by omega) (h2 rfl)
        obtain ⟨u0, c0, c0', c0''⟩ := C_with b2' (by decide) (I3 k)
        rw [List.nil_append] at c0'
        have K0' := K1_h K (agr_mono SCd_not (agr_trans b3 c0''))
        obtain ⟨h1, c1, c2, c3⟩ := C_draftMethod K0' c0' (Nat.le_of_ble_eq_true rfl) hm s87 t1 t2
        obtain ⟨g0, f1, f2, f3, f4⟩ := R_clear (sm_wI (sm_wI g 67 19 0) 67 3 0) (rs g t)
        obtain ⟨g00, q1, q2, q3, q4⟩ := R_addNew f2 (by decide) (I3 k)
        rw [List.nil_append] at q2
        have bg00 : agr SRp (sm_wI g 67 19 0) g00 := agr_trans bg0 (agr_mono SRd_p (agr_trans f3 q3))
        have Kg0 : K1 h g00 := K1_g (K1_19 K 0) (agr_mono SRp_not bg00)
        have nt0 : nT g00 = nT g := by show tn _ = tn _; rw [bg00.1 67 10 (by unfold SRp; omega)]; rfl
        have E0 := ext_eq (okR_SRp bg00)
        have pl0 : pl g00 t = pl g t := ext_pl (g := sm_wI g 67 19 0) E0.1 t1
        have tm0 : tM g00 t = tM g t := by show tn _ = tn _; rw [bg00.1 73 t (by unfold SRp; omega)]; rfl
        obtain ⟨g1, r1, r2, r3, r4⟩ := R_addType Kg0 q2 (t := t) (by omega) (by rw [tm0]; simp only [List.length_cons, List.length_nil]; omega)
        rw [pl0] at r2
        have e3 : g1.1 67 3 = I3 0 := (r3.1 67 3 (by unfold SRd; omega)).trans ((q3.1 67 3 (by unfold SRd; omega)).trans ((f3.1 67 3 (by unfold SRd; omega)).trans rfl))
        have bg : agr SRp (sm_wI g 67 19 0) g1 := agr_trans bg00 (agr_mono SRd_p r3)
        obtain ⟨v, w', h5, g2, h6, k1, k2, k3, k4, k5, k6⟩ := findEnd I (agr_trans (agr_trans b3 c0'') c3) bg c2 r2 (r4.trans (q4.trans f4)) e3 (by rw [List.length_append]; simp only [List.length_cons, List.length_nil]; omega) (kR1_rs wT t1) (kL_app (kL_1 (by omega) k20.2) (kL_pl wT t1)) (f := 35 + w) (a := I3 m) (b := I3 k) (c := 0)
          (by
            unfold FS
            iterate 28 right
            exact Or.inl ⟨by omega, rfl, m, k, hm, rfl, s87, s86, k20.1, k20.2, by rw [td]; exact Bk, rfl, nmk, fun n hn z1 z2 z3 z4 z5 => first n hn (by omega) (by omega) z1 z2 z3 z4 z5 s89, by rw [tt], by rw [tt]; rfl⟩)
        refine ⟨v, w', h5, g2, h6, ?_, ?_, k3, k4, k5, k6⟩
        · show F_124_0 _ _ _ _ h = _
          unfold F_124_0
          rw [b1]; simp only [Option.bind_some]
          rcases w12 with q | q
          · subst q
            rw [if_pos rfl] at hk
            rw [← hk] at c0 k1
            rw [if_neg (by decide), if_pos (by decide), c0]; simp only [Option.bind_some]
            rw [c1]; simp only [Option.bind_some]
            show ((F_126_0 _ _ _ _ h1).bind _) = _
            unfold F_126_0
            have k1' : F_6 36 (I3 m) (I3 (20 + o)) 0 47 (rs g t) h1 = some (w', h5) := k1
            rw [k1']; rfl
          · subst q
            rw [if_neg (by decide)] at hk
            rw [← hk] at c0 k1
            rw [if_neg (by decide), if_neg (by decide), if_pos (by decide), c0]; simp only [Option.bind_some]
            rw [c1]; simp only [Option.bind_some]
            show ((F_126_0 _ _ _ _ h1).bind _) = _
            unfold F_126_0
            have k1' : F_6 37 (I3 m) (I3 (20 + a)) 0 47 (rs g t) h1 = some (w', h5) := k1
            rw [k1']; rfl
        · unfold F_395_184
          simp only [Option.bind_some]
          have e72 : (sm_wI (sm_wI g 67 19 0) 67 3 0).1 72 t = rs g t := rfl
          have r1' : F_311 (I3 t) g00 = some g1 := r1
          rcases w12 with q | q
          · subst q
            rw [if_pos rfl] at hk
            rw [← hk] at q1 k2
            rw [if_neg (by decide), if_pos (by decide), if_neg (by decide), ldI_I (by omega) (by omega), e72]; simp only [Option.bind_some]
            unfold F_395_236
            rw [f1]; simp only [Option.bind_some]
            rw [if_neg (by decide), if_pos (by decide)]
            unfold F_395_257
            rw [q1]; simp only [Option.bind_some]
            unfold F_395_260
            rw [r1']; simp only [Option.bind_some]
            rw [if_pos (by decide)]
            unfold F_395_291 F_395_314
            rw [if_neg (by decide), if_pos (by decide)]
            have k2' : F_340 36 (I3 m) (I3 (20 + o)) 0 g1 = some (v, g2) := k2
            rw [k2']; rfl
          · subst q
            rw [if_neg (by decide)] at hk
            rw [← hk] at q1 k2
            rw [if_neg (by decide), if_pos (by decide), if_neg (by decide), ldI_I (by omega) (by omega), e72]; simp only [Option.bind_some]
            unfold F_395_236
            rw [f1]; simp only [Option.bind_some]
            rw [if_neg (by decide), if_neg (by decide)]
            unfold F_395_257
            rw [q1]; simp only [Option.bind_some]
            unfold F_395_260
            rw [r1']; simp only [Option.bind_some]
            rw [if_neg (by decide), if_pos (by decide)]
            unfold F_395_291 F_395_314
            rw [if_neg (by decide), if_neg (by decide)]
            have k2' : F_340 37 (I3 m) (I3 (20 + a)) 0 g1 = some (v, g2) := k2
            rw [k2']; rfl
