theorem noL {h g : sm_H} (I : I1 h g) : hasL h 47 48 [] := by
  have := (I1_K.mp I).2.2.2.2.2.2.2
  exact ⟨this, by decide, fun k hk => by cases hk⟩
abbrev SRp (b j : Nat) : Prop := b = 67 ∧ (j = 3 ∨ j = 20 ∨ j = 21) ∨ b = 69 ∨ b = 82 ∨ b = 102
theorem SRp_not (b j : Nat) (s : SRp b j) : notR b j := by
  rcases s with ⟨rfl, rfl | rfl | rfl⟩ | rfl | rfl | rfl <;> rfl
theorem SRd_p (b j : Nat) (s : SRd b j) : SRp b j := by unfold SRd at s; unfold SRp; omega
theorem okR_SRp {g g1 : sm_H} (a : agr SRp g g1) : ∀ b j, okR b j = true → g1.1 b j = g.1 b j ∧ g1.2.1 b j = g.2.1 b j := fun b j ok => by
  have n : ¬ SRp b j := fun z => by have := SRp_not b j z; rw [show okR b j = false from this] at ok; cases ok
  exact ⟨a.1 b j n, a.2.1 b j n⟩
theorem K1_0 {h g : sm_H} (K : K1 h g) (x : Int32) : K1 (sm_wI h 0 12 x) g := by
  obtain ⟨wK, cK, wT, cT, wH, cH, wM, cM, cG, cO, cV, wX, cX, cXh, wF⟩ := K
  exact ⟨wK, cK, wT, cT, wH, cH, wM, cM, cG, cO, cV, wX, cX, cXh_fr (by repeat first | exact hi_rfl | refine hi_wI ?_ (by decide) | refine hi_wJ ?_ (by decide)) cXh, wF⟩
theorem K1_19 {h g : sm_H} (K : K1 h g) (x : Int32) : K1 h (sm_wI g 67 19 x) := by
  obtain ⟨wK, cK, wT, cT, wH, cH, wM, cM, cG, cO, cV, wX, cX, cXh, wF⟩ := K
  exact ⟨wK, cK, wT, cT, wH, cH, wM, cM, cG, cO, cV, wX, cX, cXh, wF⟩
theorem finMH {h g h0 g0 h1 g1 : sm_H} {v w' : Int32} (I : I1 h g) (ag : agr SCd h h0) (bg : agr SRp (sm_wI g 67 19 0) g0) (K : K1 h1 g1) (E : ext g0 g1) (G : grow g0 g1) (a : agr SCh h0 h1) (b : agr SRh g0 g1) (out : (∃ e, (e = 4 ∨ e = 5) ∧ w' = -I3 e ∧ v = -1 ∧ g1.1 67 19 = I3 e) ∨ ∃ y, y < nH g1 ∧ w' = I3 y ∧ v = I3 y ∧ g1.1 67 19 = g0.1 67 19) : ∃ h2, F_264 w' h1 = some (v, h2) ∧ I1 h2 g1 ∧ kR h h2 ∧ kC g g1 := by
  have w500 : nH g1 ≤ 500 := K.2.2.2.2.1.1.2
  have E0 := ext_eq (okR_SRp bg)
  have as : ∀ z : Nat, g1.1 67 19 = I3 z → I1 (sm_wI h1 0 12 (I3 z)) g1 ∧ kR h (sm_wI h1 0 12 (I3 z)) ∧ kC g g1 := fun z hz => by
    refine ⟨?_, ?_, ?_⟩
    · have B1 := (refuse2 I z).1
      refine I1_re' B1 (h1 := sm_wI h1 0 12 (I3 z)) (K1_0 K _) ?_ ?_ ?_ ?_ ?_
      · exact ext_trans (g := sm_wI (sm_wI g 67 19 0) 67 19 (I3 z)) (g1 := g0) (by
          obtain ⟨c1, c2, c3, c4, c5, c6, c7, c8, c9, c10, c11⟩ := E0.1
          exact ⟨c1, c2, c3, c4, c5, c6, c7, c8, c9, c10, c11⟩) E
      · exact grow_trans (g := sm_wI (sm_wI g 67 19 0) 67 19 (I3 z)) (g1 := g0) (by
          obtain ⟨c1, c2, c3, c4, c5⟩ := E0.2.1
          exact ⟨c1, c2, c3, c4, c5⟩) G
      · exact oC_agr (S := fun b j => SCd b j ∨ SCh b j) (agr_wI2 (agr_trans (agr_mono (fun _ _ z => Or.inl z) ag) (agr_mono (fun _ _ z => Or.inr z) a)) 0 12 (I3 z)) (fun b j z => by unfold SCd SCh SCt at z; unfold oC; omega)
      · intro b' j o
        by_cases q : b' = 67 ∧ j = 19
        · obtain ⟨rfl, rfl⟩ := q
          exact hz
        · have n1 : ¬ SRh b' j := by unfold oR at o; unfold SRh SRt; omega
          have n2 : ¬ SRp b' j := by unfold oR at o; unfold SRp; omega
          rw [b.1 b' j n1, bg.1 b' j n2, wI_rd, wI_rd, wI_rd, if_neg q, if_neg q]
      · intro b' j o q
        have n1 : ¬ SRh b' j := by unfold oR at o; unfold SRh SRt; omega
        have n2 : ¬ SRp b' j := by unfold oR at o; unfold SRp; omega
        rw [b.2.1 b' j n1, bg.2.1 b' j n2]; rfl
    · exact kR_agr (S := fun b j => SCd b j ∨ SCh b j ∨ b = 0) (agr_wI (agr_trans (agr_mono (fun _ _ z => Or.inl z) ag) (agr_mono (fun _ _ z => Or.inr (Or.inl z)) a)) (Or.inr (Or.inr rfl))) (fun b j z => by unfold SCd SCh SCt at z; omega)
    · refine kC_agr (S := fun b _ => 67 ≤ b ∧ b < 131) ?_ (fun b j z => z)
      refine agr_trans (h1 := sm_wI g 67 19 0) (agr_wI agr_rfl (by omega)) ?_
      refine agr_trans (agr_mono (fun b j z => by unfold SRp at z; omega) bg) (agr_mono (fun b j z => by unfold SRh SRt at z; omega) b)
  rcases out with ⟨e, e1, rfl, rfl, e4⟩ | ⟨y, y1, rfl, rfl, y4⟩
  · exact ⟨_, C_judgeN (by omega) (by omega), as e e4⟩
  · exact ⟨_, C_judge (by omega), as 0 (by rw [y4, bg.1 67 19 (by unfold SRp; omega)]; rfl)⟩
theorem C_draftMethod {h g : sm_H} (K : K1 h g) {l : List Int32} (d : dC h l) (hl : l.length ≤ 100) {m t : Nat} (hm : m < nM g) (z : g.1 87 m = 0) (ht : t < nT g) (et : g.1 89 m = I3 t) : ∃ h1, F_125 (I3 m) h = some (rs g t, h1) ∧ dC h1 (l ++ pl g t) ∧ agr SCd h h1 := by
  obtain ⟨wK, cK, wT, cT, wH, cH, wM, cM, -⟩ := id K
  have m100 : nM g ≤ 100 := wM.1.2
  have w300 : nT g ≤ 300 := wT.1.2
  have e45 : h.1 45 m = I3 t := ((cM.2.2 m hm).2.2.2.2.2 z).2.2.1.trans et
  have T1 := C_tmany wT cT ht
  have mm : g.1 73 t = I3 (tM g t) := (wT.2.1 _ ht).2.1.1
  rw [mm] at T1
  obtain ⟨h1, w1, w2, w3⟩ := C_withPlaces (t := t) (a := 0) (b := tM g t) K d hl ht (Nat.le_refl _) (by omega)
  have K' := K1_h K (agr_mono SCd_not w3)
  have T2 := C_tres wT K'.2.2.2.1 ht
  have e45' : h1.1 45 m = I3 t := (w3.1 45 m (by unfold SCd; omega)).trans e45
  have ln : (pl g t).length = tM g t := lst_len _ _
  refine ⟨h1, ?_, ?_, w3⟩
  · show F_125_0 (I3 m) h = _
    unfold F_125_0
    rw [ldI_I (by omega) (by omega), e45]; simp only [Option.bind_some]
    rw [T1]; simp only [Option.bind_some]
    have w1' : F_230 (I3 t) 0 (I3 (tM g t)) h = some h1 := w1
    rw [w1']; simp only [Option.bind_some]
    rw [ldI_I (by omega) (by omega), e45']; simp only [Option.bind_some]
    rw [T2]; rfl
  · rw [Nat.sub_zero, ← ln, seg_all] at w2; exact w2
theorem kL_app {g : sm_H} {l m : List Int32} (a : kL g l) (b : kL g m) : kL g (l ++ m) := fun i hi => by
  rw [List.length_append] at hi
  by_cases c : i < l.length
  · rw [at0_app1 c]; exact a i c
  · rw [at0_app2 (by omega)]; exact b _ (by omega)
theorem kL_pl {g : sm_H} (wT : wfT g) {t : Nat} (ht : t < nT g) : kL g (pl g t) := fun i hi => by
  rw [lst_len] at hi
  obtain ⟨z1, z2⟩ := (wT.2.1 _ ht).2.2 i hi
  rw [at0_lst hi]
  exact ⟨_, z1.1, z2, by have := z1.2; omega⟩
theorem kL_1 {g : sm_H} {q : Nat} (h1 : 0 < q) (h2 : q < 20 + nC g) : kL g [I3 q] := fun i hi => by
  simp only [List.length_cons, List.length_nil] at hi
  have : i = 0 := by omega
  subst this
  exact ⟨q, rfl, h1, h2⟩
theorem kL_0 {g : sm_H} : kL g [] := fun i hi => by cases hi
theorem kL_ext {g g1 : sm_H} (e : nC g1 = nC g) {l : List Int32} (a : kL g l) : kL g1 l := fun i hi => by rw [e]; exact a i hi
theorem kR1_ext {g g1 : sm_H} (e : nC g1 = nC g) {r : Int32} (a : kR1 g r) : kR1 g1 r := by unfold kR1; rw [e]; exact a
theorem kR1_rs {g : sm_H} (wT : wfT g) {t : Nat} (ht : t < nT g) : kR1 g (rs g t) := by
  have z1 := (wT.2.1 t ht).1
  exact ⟨_, z1.1, by have := z1.2; omega⟩
theorem findEnd {h g h0 g0 : sm_H} (I : I1 h g) (ag : agr SCd h h0) (bg : agr SRp (sm_wI g 67 19 0) g0) {l : List Int32} {r : Int32} (dc : dC h0 l) (dr : dR g0 l) (er : g0.1 67 20 = r) (e3 : g0.1 67 3 = I3 0) (h64 : l.length ≤ 64) (kr : kR1 g r) (kl : kL g l) {f : Nat} {a b : Int32} {c : Int64} (F : FS g f a b c [] r l) : ∃ v w' h1 g1 h2, F_6 (I3 f) a b c 47 r h0 = some (w', h1) ∧ F_340 (I3 f) a b c g0 = some (v, g1) ∧ F_264 w' h1 = some (v, h2) ∧ I1 h2 g1 ∧ kR h h2 ∧ kC g g1 := by
  have K := (I1_K.mp I).1
  have K0 : K1 h0 g0 := K1_g (K1_h (K1_19 K 0) (agr_mono SCd_not ag)) (agr_mono SRp_not bg)
  have E0 := ext_eq (okR_SRp bg)
  have nc : nC g0 = nC g := by show tn _ = tn _; rw [bg.1 67 6 (by unfold SRp; omega)]; rfl
  have F0 : FS g0 f a b c [] r l := by
    refine FS_up (g := sm_wI g 67 19 0) (K1_base (K1_19 K 0)) (fun k hk => ?_) E0.1 ?_
    · rw [bg.1 92 k (by unfold SRp; omega)]
      have := (K1_base (K1_19 K 0)).g k hk
      have := E0.1.h1
      omega
    · exact F
  obtain ⟨v, w', h1, g1, m1, m2, m3, m4, m5, m6, m7, m8⟩ := MH (ps := []) K0 rw47 (by decide) (by decide) (hasL_agr (noL I) ag (fun j => by unfold SCd; omega)) ⟨e3, by decide, fun k hk => by cases hk⟩ dc dr er h64 (kR1_ext nc kr) (kL_ext nc kl) F0
  obtain ⟨h2, n1, n2, n3, n4⟩ := finMH I ag bg m3 m4 m5 m6 m7 m8
  exact ⟨v, w', h1, g1, h2, m1, m2, n1, n2, n3, n4⟩
theorem findOk {h g : sm_H} (I : I1 h g) {a o m d w : Nat} {x4 nm : Int32} (ha : a < nC g) (hof : o < nC g) (hm : m < nM g) (hw : w ≤ 8) (ht : w < 4 → inR x4 (nT g) = true) (hd1 : 20 ≤ d) (hd2 : d < 20 + nC g) (hB : B g (20 + o) d = true) (h3 : w = 3 → d = 20 + o) (hs : sP g d nm x4 w m = true) (hf : ∀ n, n < m → sP g d nm x4 w n = false) (h8 : w = 8 → 2 ≤ tn (g.1 88 m) ∧ tn (g.1 88 m) ≤ 6) (h2 : w = 2 → B g (20 + a) (20 + o) = true) : ∃ v w' h1 g1 h2, F_124 (I3 (20 + a)) (I3 (20 + o)) (I3 m) (I3 w) h = some (w', h1) ∧ F_395_184 (I3 (20 + a)) (I3 (20 + o)) x4 (I3 w) (I3 m) (sm_wI g 67 19 0) = some (v, g1) ∧ F_264 w' h1 = some (v, h2) ∧ I1 h2 g1 ∧ kR h h2 ∧ kC g g1 := by
  have K := (I1_K.mp I).1
  obtain ⟨wK, cK, wT, cT, wH, cH, wM, cM, cG, cO, cV, wX, cX, cXh, wF⟩ := id K
  have h12 := wK.2.1
  have m100 : nM g ≤ 100 := wM.1.2
  have w300 : nT g ≤ 300 := wT.1.2
  have w500 : nH g ≤ 500 := wH.1.2
  obtain ⟨h0, b1, b2', b3⟩ := C_begin h
  have K0 := K1_h K (agr_mono SCd_not b3)
  unfold sP at hs
  simp only [Bool.and_eq_true, decide_eq_true_eq] at hs
  obtain ⟨s83, s84, su⟩ := hs
  have td : tn (g.1 83 m) = d := by rw [s83]; exact I3_clamp (by omega)
  have bg0 : agr SRp (sm_wI g 67 19 0) (sm_wI (sm_wI g 67 19 0) 67 3 0) := agr_wI agr_rfl (by simp [SRp])
  have first : ∀ n, n < m → 1 ≤ w → w ≤ 2 → g.1 83 n = g.1 83 m → g.1 84 n = g.1 84 m → g.1 87 n = 0 → g.1 86 n = 0 → g.1 89 n = g.1 89 m → g.1 89 m = x4 → mkr g n := fun n hn w1 w2 q1 q2 q3 q4 q5 q6 => by
    have := hf n hn
    unfold sP suB at this
    rw [decide_eq_true (q1.trans s83), decide_eq_true (q2.trans s84), if_neg (by omega), if_neg (by omega), decide_eq_true (⟨q3, q5.trans q6⟩ : g.1 87 n = 0 ∧ g.1 89 n = x4), decide_eq_true q4, decide_eq_false (show ¬ w = 3 by omega)] at this
    simp only [Bool.true_and] at this
    cases q : mkB g n with
    | true => exact mkB_iff.mp q
    | false => rw [q] at this; cases this
  by_cases w4 : 4 ≤ w
  ·
    unfold suB at su
    rw [if_pos w4, decide_eq_true_eq] at su
    obtain ⟨sb, s86⟩ := (wM.2.2 m hm).2.2.2.1
    have kd : cnt (g.1 88 m) (19 + nC g) ∧ 0 < tn (g.1 88 m) := by
      rcases (wM.2.2 m hm).2.2.2.2 with ⟨-, z2, z3, -⟩ | ⟨z, -⟩
      · exact ⟨z2, z3⟩
      · rw [su] at z; cases z
    have KO := C_kindOf (h := h0) wM K0.2.2.2.2.2.2.2.1 hm
    rw [if_pos su] at KO
    have y4 : h0.1 42 m = b2 sb := by rw [(K0.2.2.2.2.2.2.2.1.2.2 m hm).2.2.2.1, s86]
    generalize hkd : g.1 88 m = kk at *
    have klk : kL g [kk] := by
      have := kd.1.1
      rw [this]
      exact kL_1 kd.2 (by have := kd.1.2; omega)
    have klc : kL g (chgL kk w) := by
      unfold chgL
      by_cases q4 : w = 4
      · rw [if_pos q4]; exact kL_0
      · rw [if_neg q4]
        by_cases q7 : w = 7
        · rw [if_pos q7]; exact kL_app klk klk
        · rw [if_neg q7]; exact klk
    have krc : kR1 g (chgR kk w) := by
      unfold chgR
      by_cases q5 : w = 5
      · rw [if_pos q5]; exact ⟨0, rfl, by omega⟩
      · rw [if_neg q5]
        by_cases q7 : w = 7
        · rw [if_pos q7]; exact ⟨1, rfl, by omega⟩
        · rw [if_neg q7]; exact ⟨tn kk, kd.1.1, by have := kd.1.2; omega⟩
    have lc : (chgL kk w).length ≤ 2 := by
      unfold chgL
      by_cases q4 : w = 4
      · rw [if_pos q4]; decide
      · rw [if_neg q4]
        by_cases q7 : w = 7
        · rw [if_pos q7]; exact Nat.le_refl 2
        · rw [if_neg q7]; exact Nat.le_of_ble_eq_true rfl
    have CD : ∀ (u : sm_H) (l : List Int32), dC u l → l.length ≤ 100 → ∃ u1, F_33 kk (I3 w) u = some (chgR kk w, u1) ∧ dC u1 (l ++ chgL kk w) ∧ agr SCd u u1 := fun u l du hl => by
      obtain ⟨u1, v1, v2, v3⟩ := C_with du (by omega) kk
      obtain ⟨u2, v4, v5, v6⟩ := C_with v2 (by rw [List.length_append]; simp only [List.length_cons, List.length_nil]; omega) kk
      unfold chgL chgR
      by_cases q4 : w = 4
      · subst q4
        exact ⟨u, rfl, by rw [if_pos rfl, List.append_nil]; exact du, agr_rfl⟩
      · have n4 : ¬ I3 w = 4 := by rw [I3_lit, I3_inj (by omega) (by decide)]; exact q4
        rw [if_neg q4]
        by_cases q7 : w = 7
        · subst q7
          refine ⟨u2, ?_, by rw [if_pos rfl]; rw [List.append_assoc] at v5; exact v5, agr_trans v3 v6⟩
          show F_33_0 kk (I3 7) u = _
          unfold F_33_0 F_33_13
          rw [if_neg n4, v1]; simp only [Option.bind_some]
          rw [if_pos (show I3 7 = (7 : Int32) by decide), v4]; rfl
        · have n7 : ¬ I3 w = 7 := by rw [I3_lit, I3_inj (by omega) (by decide)]; exact q7
          refine ⟨u1, ?_, by rw [if_neg q7]; exact v2, v3⟩
          show F_33_0 kk (I3 w) u = _
          unfold F_33_0 F_33_13 F_33_39
          rw [if_neg n4, v1]; simp only [Option.bind_some]
          rw [if_neg n7, if_neg q7]
          by_cases q5 : w = 5
          · rw [if_pos (by rw [q5]; rfl), if_pos q5]
          · rw [if_neg (by rw [I3_lit, I3_inj (by omega) (by decide)]; exact q5), if_neg q5]
    have RD : ∀ (u : sm_H) (l : List Int32), dR u l → l.length ≤ 50 → ∃ u1, (F_396_58 (I3 m) (I3 (20 + o)) (I3 w) kk u = F_396_81 (I3 m) (I3 (20 + o)) (I3 w) u1) ∧ dR u1 (l ++ chgL kk w) ∧ agr SRd u u1 ∧ u1.1 67 20 = u.1 67 20 := fun u l du hl => by
      obtain ⟨u1, v1, v2, v3, v3'⟩ := R_addNew du (by omega) kk
      obtain ⟨u2, v4, v5, v6, v6'⟩ := R_addNew v2 (by rw [List.length_append]; simp only [List.length_cons, List.length_nil]; omega) kk
      unfold chgL F_396_58 F_396_69
      by_cases q4 : w = 4
      · subst q4
        refine ⟨u, ?_, by rw [if_pos rfl, List.append_nil]; exact du, agr_rfl, rfl⟩
        rw [if_pos (show I3 4 ≤ (4 : Int32) by decide), if_neg (by decide)]
      · have n4 : ¬ I3 w ≤ 4 := by rw [I3_lit, I3_le (by omega) (by decide)]; omega
        rw [if_neg q4, if_neg n4]
        by_cases q7 : w = 7
        · subst q7
          refine ⟨u2, ?_, by rw [if_pos rfl]; rw [List.append_assoc] at v5; exact v5, agr_trans v3 v6, v6'.trans v3'⟩
          rw [v1]; simp only [Option.bind_some]
          rw [if_pos (show I3 7 = (7 : Int32) by decide), v4]; rfl
        · have n7 : ¬ I3 w = 7 := by rw [I3_lit, I3_inj (by omega) (by decide)]; exact q7
          refine ⟨u1, ?_, by rw [if_neg q7]; exact v2, v3, v3'⟩
          rw [v1]; simp only [Option.bind_some]
          rw [if_neg n7]
    have RR : F_395_184 (I3 (20 + a)) (I3 (20 + o)) x4 (I3 w) (I3 m) (sm_wI g 67 19 0) = ((F_396_41 (I3 m) (I3 (20 + o)) (I3 w) kk (chgR kk w) (sm_wI (sm_wI g 67 19 0) 67 3 0)).bind fun q8 => some (q8.1, q8.2)) := by
      unfold F_395_184
      simp only [Option.bind_some]
      rw [if_neg (by rw [I3_lit, I3_inj (by omega) (by decide)]; omega), if_neg (by rw [I3_lit, I3_le (by omega) (by decide)]; omega)]
      congr 1
      show F_396_0 _ _ _ _ = _
      unfold F_396_0 F_396_26 chgR
      have e88 : (sm_wI (sm_wI g 67 19 0) 67 3 0).1 88 m = kk := hkd
      rw [ldI_I (by omega) (by omega), e88]; simp only [Option.bind_some]
      rcases (show w = 4 ∨ w = 5 ∨ w = 6 ∨ w = 7 ∨ w = 8 by omega) with q | q | q | q | q <;> subst q <;> rfl
    obtain ⟨g0, f1, f2, f3, f4⟩ := R_clear (sm_wI (sm_wI g 67 19 0) 67 3 0) (chgR kk w)
    have e3 : g0.1 67 3 = I3 0 := (f3.1 67 3 (by unfold SRd; omega)).trans rfl
    cases sb with
    | true =>
      obtain ⟨u1, c1, c2, c3⟩ := CD h0 [] b2' (by decide)
      rw [List.nil_append] at c2
      obtain ⟨g1, r1, r2, r3, r4⟩ := RD g0 [] f2 (by decide)
      rw [List.nil_append] at r2
      have bg : agr SRp (sm_wI g 67 19 0) g1 := agr_trans bg0 (agr_mono SRd_p (agr_trans f3 r3))
      obtain ⟨v, w', h1, g2, h2, k1, k2, k3, k4, k5, k6⟩ := findEnd I (agr_trans b3 c3) bg c2 r2 (r4.trans f4) ((r3.1 67 3 (by unfold SRd; omega)).trans e3) (by omega) krc klc (f := 35) (a := I3 m) (b := I3 w) (c := 0)
        (by
          unfold FS
          iterate 27 right
          exact Or.inl ⟨rfl, rfl, m, w, hm, rfl, su, w4, hw, rfl, by rw [hkd]; exact h8, by rw [hkd], Or.inl ⟨s86, by rw [hkd]⟩⟩)
      refine ⟨v, w', h1, g2, h2, ?_, ?_, k3, k4, k5, k6⟩
      · show F_124_0 _ _ _ _ h = _
        unfold F_124_0
        rw [b1]; simp only [Option.bind_some]
        rw [if_neg (by rw [I3_lit, I3_inj (by omega) (by decide)]; omega), if_neg (by rw [I3_lit, I3_inj (by omega) (by decide)]; omega), if_neg (by rw [I3_lit, I3_inj (by omega) (by decide)]; omega), if_neg (by rw [I3_lit, I3_inj (by omega) (by decide)]; omega)]
        show ((F_127_0 _ _ _ h0).bind _) = _
        unfold F_127_0 F_127_14 F_127_30
        rw [ldZ_I (by omega) (by omega), y4]; simp only [Option.bind_some]
        rw [if_neg (by decide), if_pos trivial, KO]; simp only [Option.bind_some]
        rw [c1]; simp only [Option.bind_some]
        have k1' : F_6 35 (I3 m) (I3 w) (Int32.toInt64 0) 47 (chgR kk w) u1 = some (w', h1) := k1
        rw [k1']; rfl
      · rw [RR]
        unfold F_396_41
        rw [f1]; simp only [Option.bind_some]
        have z1 : g0.1 86 m = b2 true := (f3.1 86 m (by unfold SRd; omega)).trans s86
        have z2 : g1.1 86 m = b2 true := (r3.1 86 m (by unfold SRd; omega)).trans z1
        rw [ldZ_I (by omega) (by omega), z1]; simp only [Option.bind_some]
        rw [if_neg (by decide), r1]
        unfold F_396_81 F_396_101
        rw [ldZ_I (by omega) (by omega), z2]; simp only [Option.bind_some]
        rw [if_neg (by decide)]
        have k2' : F_340 35 (I3 m) (I3 w) 0 g1 = some (v, g2) := k2
        rw [k2']; rfl
    | false =>
      obtain ⟨u0, c0, c0', c0''⟩ := C_with b2' (by decide) (I3 (20 + o))
      rw [List.nil_append] at c0'
      have K0' := K1_h K (agr_mono SCd_not (agr_trans b3 c0''))
      have KO' := C_kindOf (h := u0) wM K0'.2.2.2.2.2.2.2.1 hm
      rw [if_pos su] at KO'
      rw [hkd] at KO'
      obtain ⟨u1, c1, c2, c3⟩ := CD u0 [I3 (20 + o)] c0' (Nat.le_of_ble_eq_true rfl)
      obtain ⟨g00, t1, t2, t3, t4⟩ := R_addNew f2 (by decide) (I3 (20 + o))
      rw [List.nil_append] at t2
      obtain ⟨g1, r1, r2, r3, r4⟩ := RD g00 [I3 (20 + o)] t2 (Nat.le_of_ble_eq_true rfl)
      have bg : agr SRp (sm_wI g 67 19 0) g1 := agr_trans bg0 (agr_mono SRd_p (agr_trans (agr_trans f3 t3) r3))
      obtain ⟨v, w', h1, g2, h2, k1, k2, k3, k4, k5, k6⟩ := findEnd I (agr_trans (agr_trans b3 c0'') c3) bg c2 r2 (r4.trans (t4.trans f4)) ((r3.1 67 3 (by unfold SRd; omega)).trans ((t3.1 67 3 (by unfold SRd; omega)).trans e3)) (by rw [List.length_append]; simp only [List.length_cons, List.length_nil]; omega) krc (kL_app (kL_1 (by omega) (by omega)) klc) (f := 35) (a := I3 m) (b := I3 w) (c := Int32.toInt64 (I3 (20 + o)))
        (by
          unfold FS
          iterate 27 right
          exact Or.inl ⟨rfl, rfl, m, w, hm, rfl, su, w4, hw, rfl, by rw [hkd]; exact h8, by rw [hkd], Or.inr ⟨s86, 20 + o, by omega, by omega, by rw [td]; exact hB, by rw [hkd]; rfl⟩⟩)
      have no0 : ¬ I3 (20 + o) = 0 := by rw [I3_lit, I3_inj (by omega) (by decide)]; omega
      refine ⟨v, w', h1, g2, h2, ?_, ?_, k3, k4, k5, k6⟩
      · show F_124_0 _ _ _ _ h = _
        unfold F_124_0
        rw [b1]; simp only [Option.bind_some]
        rw [if_neg (by rw [I3_lit, I3_inj (by omega) (by decide)]; omega), if_neg (by rw [I3_lit, I3_inj (by omega) (by decide)]; omega), if_neg (by rw [I3_lit, I3_inj (by omega) (by decide)]; omega), if_neg (by rw [I3_lit, I3_inj (by omega) (by decide)]; omega)]
        show ((F_127_0 _ _ _ h0).bind _) = _
        unfold F_127_0 F_127_14 F_127_30
        rw [ldZ_I (by omega) (by omega), y4]; simp only [Option.bind_some]
        rw [if_pos (by decide), if_neg no0, c0]; simp only [Option.bind_some]
        rw [KO']; simp only [Option.bind_some]
        rw [c1]; simp only [Option.bind_some]
        have k1' : F_6 35 (I3 m) (I3 w) (Int32.toInt64 (I3 (20 + o))) 47 (chgR kk w) u1 = some (w', h1) := k1
        rw [k1']; rfl
      · rw [RR]
        unfold F_396_41
        rw [f1]; simp only [Option.bind_some]
        have z1 : g0.1 86 m = b2 false := (f3.1 86 m (by unfold SRd; omega)).trans s86
        have z1' : g00.1 86 m = b2 false := (t3.1 86 m (by unfold SRd; omega)).trans z1
        have z2 : g1.1 86 m = b2 false := (r3.1 86 m (by unfold SRd; omega)).trans z1'
        rw [ldZ_I (by omega) (by omega), z1]; simp only [Option.bind_some]
        rw [if_pos (by decide), t1]; simp only [Option.bind_some]
        rw [r1]
        unfold F_396_81 F_396_101
        rw [ldZ_I (by omega) (by omega), z2]; simp only [Option.bind_some]
        rw [if_pos (by decide)]
        have k2' : F_340 35 (I3 m) (I3 w) (Int32.toInt64 (I3 (20 + o))) g1 = some (v, g2) := k2
        rw [k2']; rfl
  ·
    unfold suB at su
    rw [if_neg w4, Bool.and_eq_true, decide_eq_true_eq] at su
    obtain ⟨⟨s87, s89⟩, su⟩ := su
    obtain ⟨t, t1, t2⟩ : ∃ t, t < nT g ∧ g.1 89 m = I3 t := by
      rcases (wM.2.2 m hm).2.2.2.2 with ⟨z, -⟩ | ⟨-, -, q⟩
      · rw [s87] at z; cases z
      · exact q
    have ex4 : x4 = I3 t := s89.symm.trans t2
    subst ex4
    have tt : tn (g.1 89 m) = t := by rw [t2]; exact I3_clamp (by omega)
    have m10 : tM g t ≤ 10 := (wT.2.1 _ t1).2.1.2
    have ln : (pl g t).length = tM g t := lst_len _ _
    by_cases w0 : w = 0
    · subst w0
      obtain ⟨y, y1, y2⟩ : ∃ y, y < nH g ∧ g.1 90 m = I3 y := by
        rcases (wM.2.2 m hm).2.2.2.2 with ⟨z, -⟩ | ⟨-, q, -⟩
        · rw [s87] at z; cases z
        · exact q
      have y44 : h0.1 44 m = I3 y := ((K0.2.2.2.2.2.2.2.1.2.2 m hm).2.2.2.2.2 s87).2.1.trans y2
      obtain ⟨r1, -, -⟩ := refuse2 (I1_h I (agr_mono SCd_not b3)) 0
      refine ⟨I3 y, I3 y, h0, sm_wI (sm_wI g 67 19 0) 67 3 0, _, ?_, ?_, C_judge (by omega), I1_g r1 (fun b j ok => ?_), ?_, ?_⟩
      · show F_124_0 _ _ _ _ h = _
        unfold F_124_0
        rw [b1]; simp only [Option.bind_some]
        rw [if_pos (show I3 0 = (0 : Int32) by decide), ldI_I (by omega) (by omega), y44]; rfl
      · unfold F_395_184
        simp only [Option.bind_some]
        have e90 : (sm_wI (sm_wI g 67 19 0) 67 3 0).1 90 m = I3 y := y2
        rw [if_pos (show I3 0 = (0 : Int32) by decide), ldI_I (by omega) (by omega), e90]; rfl
      · refine ⟨?_, rfl⟩
        rw [wI_rd, wI_rd, wI_rd, wI_rd]
        by_cases q : b = 67 ∧ j = 3
        · obtain ⟨rfl, rfl⟩ := q; cases ok
        · rw [if_neg q]
          by_cases q2 : b = 67 ∧ j = 19
          · rw [if_pos q2, if_pos q2]; rfl
          · rw [if_neg q2, if_neg q2]
      · exact kR_agr (S := fun b j => SCd b j ∨ b = 0) (agr_wI (agr_mono (fun _ _ z => Or.inl z) b3) (Or.inr rfl)) (fun b j z => by unfold SCd at z; omega)
      · exact kC_agr (S := fun b j => b = 67) (agr_wI (agr_wI agr_rfl rfl) rfl) (fun b j z => by omega)
    · rw [if_neg w0, Bool.and_eq_true, decide_eq_true_eq] at su
      obtain ⟨s86, mk⟩ := su
      have mk : mkB g m = decide (w = 3) := by simpa using mk
      by_cases w3 : w = 3
      · subst w3
        have hd := h3 rfl
        subst hd
        have mkm : mkr g m := mkB_iff.mp (by rw [mk]; rfl)
        obtain ⟨h1, c1, c2, c3⟩ := C_draftMethod K0 b2' (by decide) hm s87 t1 t2
        rw [List.nil_append] at c2
        obtain ⟨g0, f1, f2, f3, f4⟩ := R_clear (sm_wI (sm_wI g 67 19 0) 67 3 0) (I3 (20 + o))
        have Kg0 : K1 h g0 := K1_g (K1_19 K 0) (agr_mono SRp_not (agr_trans bg0 (agr_mono SRd_p f3)))
        have nt0 : nT g0 = nT g := by show tn _ = tn _; rw [f3.1 67 10 (by unfold SRd; omega)]; rfl
        have E0 := ext_eq (okR_SRp (agr_trans bg0 (agr_mono SRd_p f3)))
        have pl0 : pl g0 t = pl g t := ext_pl (g := sm_wI g 67 19 0) E0.1 t1
        have tm0 : tM g0 t = tM g t := by show tn _ = tn _; rw [f3.1 73 t (by unfold SRd; omega)]; rfl
        obtain ⟨g1, r1, r2, r3, r4⟩ := R_addType Kg0 f2 (t := t) (by omega) (by rw [tm0]; simp only [List.length_nil]; omega)
        rw [List.nil_append, pl0] at r2
        have e3 : g1.1 67 3 = I3 0 := (r3.1 67 3 (by unfold SRd; omega)).trans ((f3.1 67 3 (by unfold SRd; omega)).trans rfl)
        have bg : agr SRp (sm_wI g 67 19 0) g1 := agr_trans bg0 (agr_mono SRd_p (agr_trans f3 r3))
        obtain ⟨v, w', h2, g2, h3, k1, k2, k3, k4, k5, k6⟩ := findEnd I (agr_trans b3 c3) bg c2 r2 (r4.trans f4) e3 (by omega) ⟨20 + o, rfl, by omega⟩ (kL_pl wT t1) (f := 38) (a := I3 m) (b := 0) (c := 0)
          (by
            unfold FS
            iterate 29 right
            exact ⟨rfl, rfl, m, hm, rfl, mkm, s83.symm, by rw [tt]⟩)
        refine ⟨v, w', h2, g2, h3, ?_, ?_, k3, k4, k5, k6⟩
        · show F_124_0 _ _ _ _ h = _
          unfold F_124_0
          rw [b1]; simp only [Option.bind_some]
          rw [if_neg (by decide), if_neg (by decide), if_neg (by decide), if_pos (by decide), c1]; simp only [Option.bind_some]
          show ((F_126_0 _ _ _ _ h1).bind _) = _
          unfold F_126_0
          have k1' : F_6 38 (I3 m) 0 0 47 (I3 (20 + o)) h1 = some (w', h2) := k1
          rw [k1']; rfl
        · unfold F_395_184
          simp only [Option.bind_some]
          rw [if_neg (by decide), if_pos (by decide), if_pos (by decide)]
          unfold F_395_236
          rw [f1]; simp only [Option.bind_some]
          rw [if_pos (by decide)]
          unfold F_395_260
          rw [r1]; simp only [Option.bind_some]
          rw [if_neg (by decide), if_neg (by decide)]
          unfold F_395_291 F_395_314
          rw [if_pos (by decide)]
          have k2' : F_340 38 (I3 m) 0 0 g1 = some (v, g2) := k2
          rw [k2']; rfl
      ·
        have w12 : w = 1 ∨ w = 2 := by omega
        rw [decide_eq_false w3] at mk
        have nmk : ¬ mkr g m := fun z => by have := mkB_iff.mpr z; rw [mk] at this; cases this
        generalize hk : (if w = 1 then 20 + o else 20 + a) = k
        have k20 : 20 ≤ k ∧ k < 20 + nC g := by rw [← hk]; split <;> omega
        have Bk : B g k d = true := by
          rcases w12 with q | q
          · subst q; rw [if_pos rfl] at hk; subst hk; exact hB
          · subst q; rw [if_neg (by decide)] at hk; subst hk
            exact B_trans wK (by omega) hB (20 + a) (by omega) (h2 rfl)
        obtain ⟨u0, c0, c0', c0''⟩ := C_with b2' (by decide) (I3 k)
        rw [List.nil_append] at c0'
        have K0' := K1_h K (agr_mono SCd_not (agr_trans b3 c0''))
        obtain ⟨h1, c1, c2, c3⟩ := C_draftMethod K0' c0' (Nat.le_of_ble_eq_true rfl) hm s87 t1 t2
        obtain ⟨g0, f1, f2, f3, f4⟩ := R_clear (sm_wI (sm_wI g 67 19 0) 67 3 0) (rs g t)
        obtain ⟨g00, q1, q2, q3, q4⟩ := R_addNew f2 (by decide) (I3 k)
        rw [List.nil_append] at q2
        have bg00 : agr SRp (sm_wI g 67 19 0) g00 := agr_trans bg0 (agr_mono SRd_p (agr_trans f3 q3))
        have Kg0 : K1 h g00 := K1_g (K1_19 K 0) (agr_mono SRp_not bg00)
        have nt0 : nT g00 = nT g := by show tn _ = tn _; rw [bg00.1 67 10 (by unfold SRp; omega)]; rfl
        have E0 := ext_eq (okR_SRp bg00)
        have pl0 : pl g00 t = pl g t := ext_pl (g := sm_wI g 67 19 0) E0.1 t1
        have tm0 : tM g00 t = tM g t := by show tn _ = tn _; rw [bg00.1 73 t (by unfold SRp; omega)]; rfl
        obtain ⟨g1, r1, r2, r3, r4⟩ := R_addType Kg0 q2 (t := t) (by omega) (by rw [tm0]; simp only [List.length_cons, List.length_nil]; omega)
        rw [pl0] at r2
        have e3 : g1.1 67 3 = I3 0 := (r3.1 67 3 (by unfold SRd; omega)).trans ((q3.1 67 3 (by unfold SRd; omega)).trans ((f3.1 67 3 (by unfold SRd; omega)).trans rfl))
        have bg : agr SRp (sm_wI g 67 19 0) g1 := agr_trans bg00 (agr_mono SRd_p r3)
        obtain ⟨v, w', h5, g2, h6, k1, k2, k3, k4, k5, k6⟩ := findEnd I (agr_trans (agr_trans b3 c0'') c3) bg c2 r2 (r4.trans (q4.trans f4)) e3 (by rw [List.length_append]; simp only [List.length_cons, List.length_nil]; omega) (kR1_rs wT t1) (kL_app (kL_1 (by omega) k20.2) (kL_pl wT t1)) (f := 35 + w) (a := I3 m) (b := I3 k) (c := 0)
          (by
            unfold FS
            iterate 28 right
            exact Or.inl ⟨by omega, rfl, m, k, hm, rfl, s87, s86, k20.1, k20.2, by rw [td]; exact Bk, rfl, nmk, fun n hn z1 z2 z3 z4 z5 => first n hn (by omega) (by omega) z1 z2 z3 z4 z5 s89, by rw [tt], by rw [tt]; rfl⟩)
        refine ⟨v, w', h5, g2, h6, ?_, ?_, k3, k4, k5, k6⟩
        · show F_124_0 _ _ _ _ h = _
          unfold F_124_0
          rw [b1]; simp only [Option.bind_some]
          rcases w12 with q | q
          · subst q
            rw [if_pos rfl] at hk
            rw [← hk] at c0 k1
            rw [if_neg (by decide), if_pos (by decide), c0]; simp only [Option.bind_some]
            rw [c1]; simp only [Option.bind_some]
            show ((F_126_0 _ _ _ _ h1).bind _) = _
            unfold F_126_0
            have k1' : F_6 36 (I3 m) (I3 (20 + o)) 0 47 (rs g t) h1 = some (w', h5) := k1
            rw [k1']; rfl
          · subst q
            rw [if_neg (by decide)] at hk
            rw [← hk] at c0 k1
            rw [if_neg (by decide), if_neg (by decide), if_pos (by decide), c0]; simp only [Option.bind_some]
            rw [c1]; simp only [Option.bind_some]
            show ((F_126_0 _ _ _ _ h1).bind _) = _
            unfold F_126_0
            have k1' : F_6 37 (I3 m) (I3 (20 + a)) 0 47 (rs g t) h1 = some (w', h5) := k1
            rw [k1']; rfl
        · unfold F_395_184
          simp only [Option.bind_some]
          have e72 : (sm_wI (sm_wI g 67 19 0) 67 3 0).1 72 t = rs g t := rfl
          have r1' : F_311 (I3 t) g00 = some g1 := r1
          rcases w12 with q | q
          · subst q
            rw [if_pos rfl] at hk
            rw [← hk] at q1 k2
            rw [if_neg (by decide), if_pos (by decide), if_neg (by decide), ldI_I (by omega) (by omega), e72]; simp only [Option.bind_some]
            unfold F_395_236
            rw [f1]; simp only [Option.bind_some]
            rw [if_neg (by decide), if_pos (by decide)]
            unfold F_395_257
            rw [q1]; simp only [Option.bind_some]
            unfold F_395_260
            rw [r1']; simp only [Option.bind_some]
            rw [if_pos (by decide)]
            unfold F_395_291 F_395_314
            rw [if_neg (by decide), if_pos (by decide)]
            have k2' : F_340 36 (I3 m) (I3 (20 + o)) 0 g1 = some (v, g2) := k2
            rw [k2']; rfl
          · subst q
            rw [if_neg (by decide)] at hk
            rw [← hk] at q1 k2
            rw [if_neg (by decide), if_pos (by decide), if_neg (by decide), ldI_I (by omega) (by omega), e72]; simp only [Option.bind_some]
            unfold F_395_236
            rw [f1]; simp only [Option.bind_some]
            rw [if_neg (by decide), if_neg (by decide)]
            unfold F_395_257
            rw [q1]; simp only [Option.bind_some]
            unfold F_395_260
            rw [r1']; simp only [Option.bind_some]
            rw [if_neg (by decide), if_pos (by decide)]
            unfold F_395_291 F_395_314
            rw [if_neg (by decide), if_neg (by decide)]
            have k2' : F_340 37 (I3 m) (I3 (20 + a)) 0 g1 = some (v, g2) := k2
            rw [k2']; rfl
theorem R_out8 {h : sm_H} (x : Int32) : F_315 x.toInt64 0 8 h = some (b2 (!inR x 9), h) := R_outI (n := 9) (by decide) x
theorem find2 (x1 x2 x3 x4 x5 : Int32) (h g : sm_H) (I : I1 h g) : ∃ v h1 g1, F_269 x1 x2 x3 x4 x5 h = some (v, h1) ∧ F_395 x1 x2 x3 x4 x5 g = some (v, g1) ∧ I1 h1 g1 ∧ kR h h1 ∧ kC g g1 := by
  have K := (I1_K.mp I).1
  obtain ⟨wK, cK, wT, cT, wH, cH, wM, cM, cG, cO, cV, wX, cX, cXh, wF⟩ := id K
  have h12 := wK.2.1
  have m100 : nM g ≤ 100 := wM.1.2
  have ref : ∀ n : Nat, 0 < n → n < 100 → F_118 x1 x2 x3 x4 x5 h = some (-I3 n, h) → F_395 x1 x2 x3 x4 x5 g = some (-1, sm_wI (sm_wI g 67 19 0) 67 19 (I3 n)) → ∃ v h1 g1, F_269 x1 x2 x3 x4 x5 h = some (v, h1) ∧ F_395 x1 x2 x3 x4 x5 g = some (v, g1) ∧ I1 h1 g1 ∧ kR h h1 ∧ kC g g1 := fun n n1 n2 a b => by
    obtain ⟨r1, r2, r3⟩ := refuse2 I n
    refine ⟨-1, _, _, ?_, b, r1, r2, r3⟩
    show F_269_0 x1 x2 x3 x4 x5 h = _
    unfold F_269_0
    rw [a]
    simp only [Option.bind_some]
    rw [C_judgeN n1 (by omega)]; rfl
  have HT := C_hasT wT cT x4
  have RT : F_303 x4 (sm_wI g 67 19 0) = some (b2 (inR x4 (nT g)), sm_wI g 67 19 0) := R_isT (g := sm_wI g 67 19 0) wT x4
  have R8 := R_out8 (h := sm_wI g 67 19 0) x5
  have R99 := R_out99 (h := sm_wI g 67 19 0) x3
  rcases isC_c g wK x1 with ⟨a, rfl, a1, a2, a3⟩ | ⟨a2, a3⟩
  · have a2 := a2 h cK
    have a3 := a3 (sm_wI g 67 19 0) wK rfl
    rcases isC_c g wK x2 with ⟨o, rfl, o1, o2, o3⟩ | ⟨o2, o3⟩
    · have o2 := o2 h cK
      have o3 := o3 (sm_wI g 67 19 0) wK rfl
      have pre1 : F_118 (I3 (20 + a)) (I3 (20 + o)) x3 x4 x5 h = (if x5 < 0 then (F_118_34 h) else (if x5 ≤ 8 then (if 4 ≤ x5 then (F_118_56 (I3 (20 + a)) (I3 (20 + o)) x3 x4 x5 h) else ((F_224 x4 h).bind fun q9 => if q9.1 = 0 then (some ((-1), q9.2)) else (F_118_56 (I3 (20 + a)) (I3 (20 + o)) x3 x4 x5 q9.2))) else (F_118_34 h))) := by
        show F_118_0 _ _ _ _ _ h = _
        unfold F_118_0
        rw [a2]; simp only [Option.bind_some]
        rw [if_neg (by decide), o2]; simp only [Option.bind_some]
        rw [if_neg (by decide)]
      have pre2 : F_395 (I3 (20 + a)) (I3 (20 + o)) x3 x4 x5 g = (if 4 ≤ x5 then (F_395_36 (I3 (20 + a)) (I3 (20 + o)) x3 x4 x5 (sm_wI g 67 19 0)) else ((F_303 x4 (sm_wI g 67 19 0)).bind fun q24 => if q24.1 = 0 then (F_395_49 q24.2) else (F_395_36 (I3 (20 + a)) (I3 (20 + o)) x3 x4 x5 q24.2))) := by
        show F_395_0 _ _ _ _ _ g = _
        unfold F_395_0
        simp only [Option.bind_some]
        rw [a3]; simp only [Option.bind_some]
        rw [if_neg (by decide), o3]; simp only [Option.bind_some]
        rw [if_neg (by decide)]
      rw [HT] at pre1; simp only [Option.bind_some] at pre1
      rw [RT] at pre2; simp only [Option.bind_some] at pre2
      have out1 : inR x5 9 = false → F_395_36 (I3 (20 + a)) (I3 (20 + o)) x3 x4 x5 (sm_wI g 67 19 0) = F_395_49 (sm_wI g 67 19 0) := fun z => by
        unfold F_395_36
        rw [R8, z]; simp only [Option.bind_some]
        rw [if_neg (by decide)]
      rcases I3_cases x5 with ⟨w, hw, rfl⟩ | hn
      · rw [inR_I hw] at out1 R8
        rw [if_neg (I3_nn hw)] at pre1
        have c8 : (I3 w ≤ 8) = (w ≤ 8) := by rw [I3_lit, eq_iff_iff]; exact I3_le hw (by decide)
        have c4 : ((4 : Int32) ≤ I3 w) = (4 ≤ w) := by rw [I3_lit, eq_iff_iff]; exact I3_le (by decide) hw
        by_cases w8 : w ≤ 8
        · rw [if_pos (by rw [c8]; exact w8)] at pre1
          rw [decide_eq_true (by omega)] at R8
          have go : (w < 4 → inR x4 (nT g) = true) → F_118 (I3 (20 + a)) (I3 (20 + o)) x3 x4 (I3 w) h = F_118_56 (I3 (20 + a)) (I3 (20 + o)) x3 x4 (I3 w) h → F_395 (I3 (20 + a)) (I3 (20 + o)) x3 x4 (I3 w) g = F_395_36 (I3 (20 + a)) (I3 (20 + o)) x3 x4 (I3 w) (sm_wI g 67 19 0) → ∃ v h1 g1, F_269 (I3 (20 + a)) (I3 (20 + o)) x3 x4 (I3 w) h = some (v, h1) ∧ F_395 (I3 (20 + a)) (I3 (20 + o)) x3 x4 (I3 w) g = some (v, g1) ∧ I1 h1 g1 ∧ kR h h1 ∧ kC g g1 := fun ht e1 e2 => by
            obtain ⟨r, s1, s2, s3⟩ := sought2 (h := h) wK cK wT cT wM cM x3 x4 w8 (20 + o) (by omega) (by omega)
            have s1 := s1 0 1000000 (by omega) (by omega)
            have S1 : F_119 (I3 (20 + o)) x3 x4 (I3 w) h = some (r, h) := s1
            have S2 : F_394 (I3 (20 + o)) x3 x4 (I3 w) (sm_wI g 67 19 0) = some (r, sm_wI g 67 19 0) := by
              obtain ⟨r', u1, u2, -⟩ := sought2 (h := h) (g := sm_wI g 67 19 0) wK cK wT cT wM cM x3 x4 w8 (20 + o) (by omega) (by show 20 + o < 20 + nC g; omega)
              have u1 := u1 0 1000000 (by omega) (by omega)
              rw [s1] at u1
              cases u1
              exact u2 1000000 (by omega)
            have p36 : F_395_36 (I3 (20 + a)) (I3 (20 + o)) x3 x4 (I3 w) (sm_wI g 67 19 0) = if b2 (!inR x3 100) = 0 then (if r = (-1) then (F_395_121 (I3 (20 + a)) (I3 (20 + o)) x4 (I3 w) r (sm_wI g 67 19 0)) else (if I3 w = 8 then ((ldI (sm_wI g 67 19 0) 88 100 r).bind fun v18 => if v18 < 2 then (F_395_125 (I3 (20 + a)) (I3 (20 + o)) x4 (I3 w) r (sm_wI g 67 19 0)) else ((ldI (sm_wI g 67 19 0) 88 100 r).bind fun v19 => if 6 < v19 then (F_395_125 (I3 (20 + a)) (I3 (20 + o)) x4 (I3 w) r (sm_wI g 67 19 0)) else (F_395_121 (I3 (20 + a)) (I3 (20 + o)) x4 (I3 w) r (sm_wI g 67 19 0)))) else (F_395_121 (I3 (20 + a)) (I3 (20 + o)) x4 (I3 w) r (sm_wI g 67 19 0)))) else ((F_388 2 (sm_wI g 67 19 0)).bind fun q20 => some (q20.1, q20.2)) := by
              unfold F_395_36
              rw [R8]; simp only [Option.bind_some]
              rw [if_pos (by decide), R99]; simp only [Option.bind_some]
              rw [S2]; simp only [Option.bind_some]
            have p56 : F_118_56 (I3 (20 + a)) (I3 (20 + o)) x3 x4 (I3 w) h = bif inR x3 100 then (if r = (-1) then (some ((-6), h)) else (if I3 w = 8 then ((F_128 r h).bind fun q5 => (F_122 q5.1 q5.2).bind fun q6 => if q6.1 = 0 then (some ((-3), q6.2)) else (F_118_113 (I3 (20 + a)) (I3 (20 + o)) (I3 w) r q6.2)) else (F_118_113 (I3 (20 + a)) (I3 (20 + o)) (I3 w) r h))) else F_118_66 h := by
              unfold F_118_56
              rw [S1]; simp only [Option.bind_some]
              have q99 : ∀ (A B : Option (Int32 × sm_H)), (if x3 < 0 then A else if x3 ≤ 99 then B else A) = bif inR x3 100 then B else A := fun A B => by
                rcases I3_cases x3 with ⟨k, hk, rfl⟩ | hx
                · rw [if_neg (I3_nn hk), inR_I hk]
                  by_cases c : k < 100
                  · rw [if_pos (by rw [I3_lit, I3_le hk (by decide)]; omega), decide_eq_true c]; rfl
                  · rw [if_neg (by rw [I3_lit, I3_le hk (by decide)]; omega), decide_eq_false c]; rfl
                · rw [if_pos hx]
                  rcases inR_c x3 100 (by decide) with ⟨k, h1, h2, h3⟩ | h3
                  · exact absurd h2 (neg_ne_I3 hx (by omega))
                  · rw [h3]; rfl
              rw [q99]
            cases i3 : inR x3 100 with
            | false =>
              rw [i3] at p36 p56
              exact ref 2 (by decide) (by decide) (by rw [e1, p56]; rfl) (by rw [e2, p36]; rfl)
            | true =>
              rw [i3] at p36 p56
              rw [if_pos (show b2 (!true) = 0 by decide)] at p36
              rw [cond_true] at p56
              rcases s3 with rfl | ⟨m, d, z1, rfl, z3, z4, z5, z6, z7, z8⟩
              · rw [if_pos rfl] at p36 p56
                exact ref 6 (by decide) (by decide) (by rw [e1, p56]; rfl) (by rw [e2, p36]; rfl)
              · have nm1 : ¬ I3 m = -1 := I3_m1 (by omega)
                rw [if_neg nm1] at p36 p56
                have KO := C_kindOf wM cM z1
                obtain ⟨rc1, rc2⟩ := reaches2 (h := h) wK cK wM cM a1 z1
                have rc2' : F_392 (I3 (20 + a)) (I3 m) (sm_wI g 67 19 0) = some (b2 (rcB g a m), sm_wI g 67 19 0) := (reaches2 (h := h) (g := sm_wI g 67 19 0) wK cK wM cM a1 z1).2
                have CB := C_belowN wK cK (x := 20 + a) (y := 20 + o) (by omega) (by omega)
                have RB : F_295 (I3 (20 + a)) (I3 (20 + o)) (sm_wI g 67 19 0) = some (b2 (B g (20 + a) (20 + o)), sm_wI g 67 19 0) := by
                  have := R_below (g := sm_wI g 67 19 0) wK (x := 20 + a) (o := 20 + o) (by show 20 + a < 20 + nC g; omega) (by omega)
                  exact this
                have use : (w = 8 → 2 ≤ tn (g.1 88 m) ∧ tn (g.1 88 m) ≤ 6) → F_118_56 (I3 (20 + a)) (I3 (20 + o)) x3 x4 (I3 w) h = F_118_113 (I3 (20 + a)) (I3 (20 + o)) (I3 w) (I3 m) h → F_395_36 (I3 (20 + a)) (I3 (20 + o)) x3 x4 (I3 w) (sm_wI g 67 19 0) = F_395_121 (I3 (20 + a)) (I3 (20 + o)) x4 (I3 w) (I3 m) (sm_wI g 67 19 0) → ∃ v h1 g1, F_269 (I3 (20 + a)) (I3 (20 + o)) x3 x4 (I3 w) h = some (v, h1) ∧ F_395 (I3 (20 + a)) (I3 (20 + o)) x3 x4 (I3 w) g = some (v, g1) ∧ I1 h1 g1 ∧ kR h h1 ∧ kC g g1 := fun w8' e3 e4 => by
                  have q113 : F_118_113 (I3 (20 + a)) (I3 (20 + o)) (I3 w) (I3 m) h = if b2 (rcB g a m) = 0 then F_118_141 h else (if I3 w = 2 then (if b2 (B g (20 + a) (20 + o)) = 0 then F_118_141 h else F_118_144 (I3 (20 + a)) (I3 (20 + o)) (I3 w) (I3 m) h) else F_118_144 (I3 (20 + a)) (I3 (20 + o)) (I3 w) (I3 m) h) := by
                    unfold F_118_113
                    rw [rc1]; simp only [Option.bind_some]
                    rw [CB]; simp only [Option.bind_some]
                  have q121 : F_395_121 (I3 (20 + a)) (I3 (20 + o)) x4 (I3 w) (I3 m) (sm_wI g 67 19 0) = if b2 (rcB g a m) = 0 then F_395_177 (sm_wI g 67 19 0) else (if I3 w = 2 then (if b2 (B g (20 + a) (20 + o)) = 0 then F_395_177 (sm_wI g 67 19 0) else F_395_184 (I3 (20 + a)) (I3 (20 + o)) x4 (I3 w) (I3 m) (sm_wI g 67 19 0)) else F_395_184 (I3 (20 + a)) (I3 (20 + o)) x4 (I3 w) (I3 m) (sm_wI g 67 19 0)) := by
                    unfold F_395_121 F_395_126
                    rw [if_neg (by decide), if_neg nm1, rc2']; simp only [Option.bind_some]
                    rw [RB]; simp only [Option.bind_some]
                  cases rc : rcB g a m with
                  | false =>
                    rw [rc] at q113 q121
                    exact ref 7 (by decide) (by decide) (by rw [e1, e3, q113]; rfl) (by rw [e2, e4, q121]; rfl)
                  | true =>
                    rw [rc, if_neg (show ¬ b2 true = 0 by decide)] at q113 q121
                    by_cases bad : w = 2 ∧ B g (20 + a) (20 + o) = false
                    · rw [if_pos (by rw [bad.1]; rfl), bad.2] at q113 q121
                      exact ref 7 (by decide) (by decide) (by rw [e1, e3, q113]; rfl) (by rw [e2, e4, q121]; rfl)
                    · have B2 : w = 2 → B g (20 + a) (20 + o) = true := fun z => by
                        cases q : B g (20 + a) (20 + o) with
                        | true => rfl
                        | false => exact absurd ⟨z, q⟩ bad
                      have r1 : F_118_113 (I3 (20 + a)) (I3 (20 + o)) (I3 w) (I3 m) h = F_118_144 (I3 (20 + a)) (I3 (20 + o)) (I3 w) (I3 m) h := by
                        rw [q113]
                        by_cases q : w = 2
                        · rw [if_pos (by rw [q]; rfl), B2 q]; rfl
                        · rw [if_neg (by rw [I3_lit, I3_inj (by omega) (by decide)]; exact q)]
                      have r2 : F_395_121 (I3 (20 + a)) (I3 (20 + o)) x4 (I3 w) (I3 m) (sm_wI g 67 19 0) = F_395_184 (I3 (20 + a)) (I3 (20 + o)) x4 (I3 w) (I3 m) (sm_wI g 67 19 0) := by
                        rw [q121]
                        by_cases q : w = 2
                        · rw [if_pos (by rw [q]; rfl), B2 q]; rfl
                        · rw [if_neg (by rw [I3_lit, I3_inj (by omega) (by decide)]; exact q)]
                      obtain ⟨v, w', h1, g1, h2, k1, k2, k3, k4, k5, k6⟩ := findOk I (x4 := x4) (nm := x3) a1 o1 z1 w8 ht z3 z4 z5 z6 z7 z8 w8' B2
                      refine ⟨v, h2, g1, ?_, by rw [e2, e4, r2]; exact k2, k4, k5, k6⟩
                      show F_269_0 _ _ _ _ _ h = _
                      unfold F_269_0
                      rw [e1, e3, r1]
                      unfold F_118_144
                      rw [k1]; simp only [Option.bind_some]
                      rw [k3]; rfl
                by_cases q8 : w = 8
                · subst q8
                  have fld : g.1 87 m = 1 := by
                    unfold sP suB at z7
                    rw [if_pos (by decide)] at z7
                    simp only [Bool.and_eq_true, decide_eq_true_eq] at z7
                    exact z7.2.2
                  rw [if_pos fld] at KO
                  obtain ⟨⟨kd1, kd2⟩, kd3⟩ : cnt (g.1 88 m) (19 + nC g) ∧ 0 < tn (g.1 88 m) := by
                    rcases (wM.2.2 m z1).2.2.2.2 with ⟨-, y2, y3, -⟩ | ⟨z, -⟩
                    · exact ⟨y2, y3⟩
                    · rw [fld] at z; cases z
                  generalize hk : tn (g.1 88 m) = k at kd1 kd2 kd3
                  have e88 : (sm_wI g 67 19 0).1 88 m = I3 k := kd1
                  rw [kd1] at KO
                  have CC : F_122 (I3 k) h = some (b2 (decide (2 ≤ k ∧ k ≤ 6)), h) := by
                    simp (disch := omega) only [F_122_16, F_122_15, F_122_0, F_122, ↓reduceIte, if_true, if_false, ite_self, Option.bind_some, Option.map_some, wI_rd, wJ_rd, wI_2, wJ_1, wJ_22, I3_lit, I3_add, I3_mul, I3_lt, I3_le, I3_inj, I3_nn', I3_n1, I3_n2, m2m1, ldI_I, ldJ_I, ldZ_I, stI_I, stJ_I, true_or, or_true, false_or, or_false, true_and, and_true, false_and, and_false, not_true_eq_false, not_false_eq_true, reduceCtorEq, Nat.reduceEqDiff, Nat.lt_irrefl, Nat.not_lt_zero, Nat.le_refl, Nat.reduceLT, Nat.reduceLeDiff, eq_self, zbbI, bbI0, bbI1, decide_eq_false_iff_not, decide_eq_true_eq, Bool.not_eq_false, Bool.not_eq_true, Bool.not_true, Bool.not_false, cond_true, cond_false]
                    (repeat' split) <;> first | (refine leaf0 ?_; omega) | (refine leaf1 ?_; omega) | (refine leafb ?_; omega) | (exfalso; omega)
                  rw [if_pos (show I3 8 = (8 : Int32) by decide), KO] at p56
                  simp only [Option.bind_some] at p56
                  rw [CC] at p56
                  simp only [Option.bind_some] at p56
                  rw [if_pos (show I3 8 = (8 : Int32) by decide), ldI_I (by omega) (by omega), e88] at p36
                  simp only [Option.bind_some] at p36
                  by_cases cc : 2 ≤ k ∧ k ≤ 6
                  · rw [decide_eq_true cc, if_neg (by decide)] at p56
                    rw [if_neg (by rw [I3_lit, I3_lt (by omega) (by decide)]; omega), if_neg (by rw [I3_lit, I3_lt (by decide) (by omega)]; omega)] at p36
                    exact use (fun _ => by omega) p56 p36
                  · rw [decide_eq_false cc, if_pos (by decide)] at p56
                    refine ref 3 (by decide) (by decide) (by rw [e1, p56]; rfl) ?_
                    rw [e2, p36]
                    by_cases c2 : k < 2
                    · rw [if_pos (by rw [I3_lit, I3_lt (by omega) (by decide)]; omega)]; rfl
                    · rw [if_neg (by rw [I3_lit, I3_lt (by omega) (by decide)]; omega), if_pos (by rw [I3_lit, I3_lt (by decide) (by omega)]; omega)]; rfl
                · have n8 : ¬ I3 w = 8 := by rw [I3_lit, I3_inj (by omega) (by decide)]; exact q8
                  rw [if_neg n8] at p36 p56
                  exact use (fun z => absurd z q8) p56 p36
          by_cases w4 : 4 ≤ w
          · rw [if_pos (by rw [c4]; exact w4)] at pre1 pre2
            exact go (fun z => by omega) pre1 pre2
          · rw [if_neg (by rw [c4]; exact w4)] at pre1 pre2
            cases it : inR x4 (nT g) with
            | false =>
              rw [it] at pre1 pre2
              exact ref 1 (by decide) (by decide) (by rw [pre1]; rfl) (by rw [pre2]; rfl)
            | true =>
              rw [it, if_neg (show ¬ b2 true = 0 by decide)] at pre1 pre2
              exact go (fun _ => it) pre1 pre2
        · rw [if_neg (by rw [c8]; exact w8)] at pre1
          rw [if_pos (by rw [c4]; omega), out1 (decide_eq_false (by omega))] at pre2
          exact ref 1 (by decide) (by decide) pre1 pre2
      · rw [if_pos hn] at pre1
        have o9 : inR x5 9 = false := by
          rcases inR_c x5 9 (by decide) with ⟨k, h1, h2, h3⟩ | h3
          · exact absurd h2 (neg_ne_I3 hn (by omega))
          · exact h3
        have n4 : ¬ (4 : Int32) ≤ x5 := by
          rw [Int32.le_iff_toInt_le]
          have := Int32.lt_iff_toInt_lt.mp hn
          have e0 : (0 : Int32).toInt = 0 := rfl
          have e4 : (4 : Int32).toInt = 4 := rfl
          omega
        rw [if_neg n4, out1 o9, ite_self] at pre2
        exact ref 1 (by decide) (by decide) pre1 pre2
    · have o2 := o2 h cK
      have o3 := o3 (sm_wI g 67 19 0) wK rfl
      refine ref 1 (by decide) (by decide) ?_ ?_
      · show F_118_0 _ _ _ _ _ h = _
        unfold F_118_0
        rw [a2]; simp only [Option.bind_some]
        rw [if_neg (by decide), o2]; simp only [Option.bind_some]
        rw [if_pos trivial]; rfl
      · show F_395_0 _ _ _ _ _ g = _
        unfold F_395_0
        simp only [Option.bind_some]
        rw [a3]; simp only [Option.bind_some]
        rw [if_neg (by decide), o3]; simp only [Option.bind_some]
        rw [if_pos trivial]; rfl
  · have a2 := a2 h cK
    have a3 := a3 (sm_wI g 67 19 0) wK rfl
    refine ref 1 (by decide) (by decide) ?_ ?_
    · show F_118_0 _ _ _ _ _ h = _
      unfold F_118_0
      rw [a2]; simp only [Option.bind_some]
      rw [if_pos trivial]; rfl
    · show F_395_0 _ _ _ _ _ g = _
      unfold F_395_0
      simp only [Option.bind_some]
      rw [a3]; simp only [Option.bind_some]
      rw [if_pos trivial]; rfl
theorem op_find {h : sm_H} (x1 x2 x3 x4 x5 : Int32) (I : I0 h) : ∃ v h1 h2, F_269 x1 x2 x3 x4 x5 h = some (v, h1) ∧ F_395 x1 x2 x3 x4 x5 h1 = some (v, h2) ∧ I0 h2 := op_of2 (find2 x1 x2 x3 x4 x5) I
def tl (h : sm_H) : Option (Int32 × sm_H) :=
  (F_7 h).bind fun q12 =>
  if q12.1 = 0 then ((F_9 q12.2).bind fun q13 =>
  if q13.1 = 0 then ((F_11 q13.2).bind fun q14 =>
  if q14.1 = 0 then ((F_14 q14.2).bind fun q15 =>
  if q15.1 = 0 then ((F_26 q15.2).bind fun q16 =>
  if q16.1 = (-1) then ((sm_rr G0 q16.2 34 11).bind fun b17 =>
  (F_29 q16.2).bind fun q18 =>
  (F_6 (q16.2.1 34 7) (q16.2.1 34 8) (q16.2.1 34 9) (q16.2.2.1 34 10) b17 q18.1 q18.2).bind fun q19 =>
  some (q19.1, q19.2))
  else (some (q16.1, q16.2)))
  else (some ((-3), q15.2)))
  else (some ((-2), q14.2)))
  else (F_5_135 q13.2))
  else (F_5_135 q12.2)
abbrev Ssc (b j : Nat) : Prop := SCd b j ∨ (34 ≤ b ∧ b ≤ 37)
theorem Ssc_not (b j : Nat) (s : Ssc b j) : notC b j := by
  rcases s with s | ⟨s1, s2⟩
  · exact SCd_not b j s
  · rcases (show b = 34 ∨ b = 35 ∨ b = 36 ∨ b = 37 by omega) with rfl | rfl | rfl | rfl <;> rfl
abbrev at1 (l : List Int32) (i : Nat) : Int32 := l.getD i (-1)
abbrev fS (h : sm_H) (f : Int32) (a b : Int32) (c : Int64) (o p : Nat) (ps : List Int32) : Prop := (h.1 34 7 = f) ∧ (h.1 34 8 = a) ∧ (h.1 34 9 = b) ∧ (h.2.1 34 10 = c) ∧ (sm_rr G0 h 34 11 = some o) ∧ (h.1 34 12 = at1 ps 0) ∧ (h.1 34 13 = at1 ps 1) ∧ (h.1 34 14 = at1 ps 2) ∧ (isRw o p) ∧ (hasL h o p ps)
theorem fS.f7 {h : sm_H} {f : Int32} {a b : Int32} {c : Int64} {o p : Nat} {ps : List Int32} (F_ : fS h f a b c o p ps) : h.1 34 7 = f := F_.1
theorem fS.f8 {h : sm_H} {f : Int32} {a b : Int32} {c : Int64} {o p : Nat} {ps : List Int32} (F_ : fS h f a b c o p ps) : h.1 34 8 = a := F_.2.1
theorem fS.f9 {h : sm_H} {f : Int32} {a b : Int32} {c : Int64} {o p : Nat} {ps : List Int32} (F_ : fS h f a b c o p ps) : h.1 34 9 = b := F_.2.2.1
theorem fS.f10 {h : sm_H} {f : Int32} {a b : Int32} {c : Int64} {o p : Nat} {ps : List Int32} (F_ : fS h f a b c o p ps) : h.2.1 34 10 = c := F_.2.2.2.1
theorem fS.f11 {h : sm_H} {f : Int32} {a b : Int32} {c : Int64} {o p : Nat} {ps : List Int32} (F_ : fS h f a b c o p ps) : sm_rr G0 h 34 11 = some o := F_.2.2.2.2.1
theorem fS.f12 {h : sm_H} {f : Int32} {a b : Int32} {c : Int64} {o p : Nat} {ps : List Int32} (F_ : fS h f a b c o p ps) : h.1 34 12 = at1 ps 0 := F_.2.2.2.2.2.1
theorem fS.f13 {h : sm_H} {f : Int32} {a b : Int32} {c : Int64} {o p : Nat} {ps : List Int32} (F_ : fS h f a b c o p ps) : h.1 34 13 = at1 ps 1 := F_.2.2.2.2.2.2.1
theorem fS.f14 {h : sm_H} {f : Int32} {a b : Int32} {c : Int64} {o p : Nat} {ps : List Int32} (F_ : fS h f a b c o p ps) : h.1 34 14 = at1 ps 2 := F_.2.2.2.2.2.2.2.1
theorem fS.w {h : sm_H} {f : Int32} {a b : Int32} {c : Int64} {o p : Nat} {ps : List Int32} (F_ : fS h f a b c o p ps) : isRw o p := F_.2.2.2.2.2.2.2.2.1
theorem fS.r {h : sm_H} {f : Int32} {a b : Int32} {c : Int64} {o p : Nat} {ps : List Int32} (F_ : fS h f a b c o p ps) : hasL h o p ps := F_.2.2.2.2.2.2.2.2.2
abbrev Out : Type := Nat ⊕ (Nat ⊕ (Int32 × List Int32 × List Int32 × Nat × Nat))
abbrev Out.ref (e : Nat) : Out := Sum.inl e
abbrev Out.smp (y : Nat) : Out := Sum.inr (Sum.inl y)
abbrev Out.fin (r : Int32) (l ps : List Int32) (o p : Nat) : Out := Sum.inr (Sum.inr (r, l, ps, o, p))
def OC (h : sm_H) (f a b : Int32) (c : Int64) : Out → Prop
  | .inl e => ∃ h1, tl h = some (-I3 e, h1) ∧ agr Ssc h h1
  | .inr (.inl y) => ∃ h1, tl h = some (I3 y, h1) ∧ agr Ssc h h1
  | .inr (.inr (r, l, ps, o, p)) => ∃ h1, tl h = ((F_6 f a b c o r h1).bind fun q => some (q.1, q.2)) ∧ dC h1 l ∧ hasL h1 o p ps ∧ isRw o p ∧ (o = 35 ∧ p = 36 ∨ o = 56 ∧ p = 57 ∨ o = 64 ∧ p = 65) ∧ agr Ssc h h1
def OR (g : sm_H) (f a b : Int32) (c : Int64) : Out → Prop
  | .inl e => ∃ g1, F_336 f a b c g = some (I3 e, g1) ∧ agr SRp g g1
  | .inr (.inl y) => ∃ g1, F_336 f a b c g = some (-1 - I3 y, g1) ∧ agr SRp g g1
  | .inr (.inr (r, l, ps, _, _)) => ∃ g1, F_336 f a b c g = some (0, g1) ∧ dR g1 l ∧ g1.1 67 20 = r ∧ prR g1 ps ∧ agr SRp g g1
def OK (g : sm_H) (f : Nat) (a b : Int32) (c : Int64) : Out → Prop
  | .inl e => 1 ≤ e ∧ e ≤ 3
  | .inr (.inl y) => y < nH g
  | .inr (.inr (r, l, ps, _, _)) => FS g f a b c ps r l ∧ kR1 g r ∧ kL g l ∧ l.length ≤ 64
theorem tl_1 {h : sm_H} {f a b : Int32} {c : Int64} (e1 : F_7 h = some (1, h)) : OC h f a b c (.ref 1) := by
  refine ⟨h, ?_, agr_rfl⟩
  unfold tl
  rw [e1]; simp only [Option.bind_some]
  rw [if_neg (by decide)]; rfl
theorem tl_2 {h : sm_H} {f a b : Int32} {c : Int64} (e1 : F_7 h = some (0, h)) (e2 : F_9 h = some (1, h)) : OC h f a b c (.ref 1) := by
  refine ⟨h, ?_, agr_rfl⟩
  unfold tl
  rw [e1]; simp only [Option.bind_some]
  rw [if_pos trivial, e2]; simp only [Option.bind_some]
  rw [if_neg (by decide)]; rfl
theorem tl_3 {h : sm_H} {f a b : Int32} {c : Int64} (e1 : F_7 h = some (0, h)) (e2 : F_9 h = some (0, h)) (e3 : F_11 h = some (1, h)) : OC h f a b c (.ref 2) := by
  refine ⟨h, ?_, agr_rfl⟩
  unfold tl
  rw [e1]; simp only [Option.bind_some]
  rw [if_pos trivial, e2]; simp only [Option.bind_some]
  rw [if_pos trivial, e3]; simp only [Option.bind_some]
  rw [if_neg (by decide)]; rfl
theorem tl_4 {h h1 : sm_H} {f a b : Int32} {c : Int64} (e1 : F_7 h = some (0, h)) (e2 : F_9 h = some (0, h)) (e3 : F_11 h = some (0, h)) (e4 : F_14 h = some (1, h1)) (ag : agr Ssc h h1) : OC h f a b c (.ref 3) := by
  refine ⟨h1, ?_, ag⟩
  unfold tl
  rw [e1]; simp only [Option.bind_some]
  rw [if_pos trivial, e2]; simp only [Option.bind_some]
  rw [if_pos trivial, e3]; simp only [Option.bind_some]
  rw [if_pos trivial, e4]; simp only [Option.bind_some]
  rw [if_neg (by decide)]; rfl
theorem tl_5 {h h1 h2 : sm_H} {f a b : Int32} {c : Int64} {y : Nat} (hy : y < 2147483648) (e1 : F_7 h = some (0, h)) (e2 : F_9 h = some (0, h)) (e3 : F_11 h = some (0, h)) (e4 : F_14 h = some (0, h1)) (e5 : F_26 h1 = some (I3 y, h2)) (ag : agr Ssc h h2) : OC h f a b c (.smp y) := by
  refine ⟨h2, ?_, ag⟩
  unfold tl
  rw [e1]; simp only [Option.bind_some]
  rw [if_pos trivial, e2]; simp only [Option.bind_some]
  rw [if_pos trivial, e3]; simp only [Option.bind_some]
  rw [if_pos trivial, e4]; simp only [Option.bind_some]
  rw [if_pos trivial, e5]; simp only [Option.bind_some]
  rw [if_neg (I3_m1 hy)]
theorem tl_6 {h h1 h2 h3 : sm_H} {f a b : Int32} {c : Int64} {o p : Nat} {r : Int32} {l ps : List Int32} (w : isRw o p) (e1 : F_7 h = some (0, h)) (e2 : F_9 h = some (0, h)) (e3 : F_11 h = some (0, h)) (e4 : F_14 h = some (0, h1)) (e5 : F_26 h1 = some (-1, h2)) (f7 : h2.1 34 7 = f) (f8 : h2.1 34 8 = a) (f9 : h2.1 34 9 = b) (f10 : h2.2.1 34 10 = c) (f11 : sm_rr G0 h2 34 11 = some o) (e6 : F_29 h2 = some (r, h3)) (d : dC h3 l) (hp : hasL h3 o p ps) (op : o = 35 ∧ p = 36 ∨ o = 56 ∧ p = 57 ∨ o = 64 ∧ p = 65) (ag : agr Ssc h h3) : OC h f a b c (.fin r l ps o p) := by
  refine ⟨h3, ?_, d, hp, w, op, ag⟩
  unfold tl
  rw [e1]; simp only [Option.bind_some]
  rw [if_pos trivial, e2]; simp only [Option.bind_some]
  rw [if_pos trivial, e3]; simp only [Option.bind_some]
  rw [if_pos trivial, e4]; simp only [Option.bind_some]
  rw [if_pos trivial, e5]; simp only [Option.bind_some]
  rw [if_pos trivial, f11]; simp only [Option.bind_some]
  rw [e6]; simp only [Option.bind_some]
  rw [f7, f8, f9, f10]
theorem at1_in {l : List Int32} {i : Nat} (h : i < l.length) : at1 l i = at0 l i := by
  unfold at1 at0; rw [List.getD_eq_getElem?_getD, List.getD_eq_getElem?_getD, List.getElem?_eq_getElem h]; rfl
theorem at1_out {l : List Int32} {i : Nat} (h : l.length ≤ i) : at1 l i = -1 := by
  unfold at1; rw [List.getD_eq_getElem?_getD, List.getElem?_eq_none h]; rfl
theorem inR_m1 (n : Nat) : inR (-1) n = false := by
  unfold inR
  have : (-1 : Int32).toInt = -1 := rfl
  rw [this]; simp
def aH (g : sm_H) (ps : List Int32) (n : Nat) : Bool := all1 (fun k => inR (at0 ps k) (nH g)) n
theorem C_lacksH {h g : sm_H} (K : K1 h g) {f : Int32} {a b : Int32} {c : Int64} {o p : Nat} {ps : List Int32} (S : fS h f a b c o p ps) (q : Bool) : F_8 (b2 q) h = some (b2 (!all1 (fun k => inR (at0 ps k) (nH g) || (q && decide (at0 ps k = -1))) ps.length), h) := by
  have wH := K.2.2.2.2.1
  have cH := K.2.2.2.2.2.1
  have l20 := S.r.2.1
  have L := lp_all (body := F_8_2B) (fun k => inR (at0 ps k) (nH g) || (q && decide (at0 ps k = -1))) ps.length (fun k => (b2 q, I3 k, h)) (1, h) (0, h) (f := 1000000) (by omega) (fun k hk e => ?_) (fun k hk e => ?_) ?_
  · refine Eq.trans (show F_8 (b2 q) h = lp F_8_2B 1000000 (b2 q, I3 0, h) from rfl) (L.trans ?_)
    cases all1 (fun k => inR (at0 ps k) (nH g) || (q && decide (at0 ps k = -1))) ps.length <;> rfl
  · have A := C_rat S.w S.r hk
    have Z := C_rsize S.w S.r
    have H := C_hasHg wH cH (at0 ps k)
    show F_8_2B (b2 q, I3 k, h) = _
    unfold F_8_2B F_8_49
    rw [S.f11]; simp only [Option.bind_some]
    rw [if_neg (not_not_intro (S.w.i h)), Z]; simp only [Option.bind_some]
    rw [if_neg (by rw [I3_le (by omega) (by omega)]; omega), S.f11]; simp only [Option.bind_some]
    rw [if_neg (not_not_intro (S.w.i h)), A]; simp only [Option.bind_some]
    rw [H]; simp only [Option.bind_some]
    cases i : inR (at0 ps k) (nH g) with
    | true => rw [if_neg (by decide), I3_lit, I3_add]
    | false =>
      rw [i, Bool.false_or, Bool.and_eq_true, decide_eq_true_eq] at e
      obtain ⟨e1, e2⟩ := e
      subst e1
      rw [if_pos (by decide), if_neg (by decide), S.f11]; simp only [Option.bind_some]
      rw [if_neg (not_not_intro (S.w.i h)), A]; simp only [Option.bind_some]
      rw [if_pos e2, I3_lit, I3_add]
  · have A := C_rat S.w S.r hk
    have Z := C_rsize S.w S.r
    have H := C_hasHg wH cH (at0 ps k)
    rw [Bool.or_eq_false_iff] at e
    show F_8_2B (b2 q, I3 k, h) = _
    unfold F_8_2B F_8_47
    rw [S.f11]; simp only [Option.bind_some]
    rw [if_neg (not_not_intro (S.w.i h)), Z]; simp only [Option.bind_some]
    rw [if_neg (by rw [I3_le (by omega) (by omega)]; omega), S.f11]; simp only [Option.bind_some]
    rw [if_neg (not_not_intro (S.w.i h)), A]; simp only [Option.bind_some]
    rw [H, e.1]; simp only [Option.bind_some]
    rw [if_pos (by decide)]
    cases q with
    | false => rw [if_pos (by decide)]; rfl
    | true =>
      have e2 := e.2
      rw [Bool.true_and, decide_eq_false_iff_not] at e2
      rw [if_neg (by decide), S.f11]; simp only [Option.bind_some]
      rw [if_neg (not_not_intro (S.w.i h)), A]; simp only [Option.bind_some]
      rw [if_neg e2]; rfl
  · have Z := C_rsize S.w S.r
    show F_8_2B (b2 q, I3 ps.length, h) = _
    unfold F_8_2B
    rw [S.f11]; simp only [Option.bind_some]
    rw [if_neg (not_not_intro (S.w.i h)), Z]; simp only [Option.bind_some]
    rw [if_pos (by rw [I3_le (by omega) (by omega)]; omega)]
theorem C_lacksH0 {h g : sm_H} (K : K1 h g) {f : Int32} {a b : Int32} {c : Int64} {o p : Nat} {ps : List Int32} (S : fS h f a b c o p ps) : F_8 0 h = some (b2 (!aH g ps ps.length), h) := by
  have := C_lacksH K S false
  simp only [Bool.false_and, Bool.or_false] at this
  exact this
theorem C_lacksP {h g : sm_H} (K : K1 h g) {f : Int32} {a b : Int32} {c : Int64} {o p : Nat} {ps : List Int32} (S : fS h f a b c o p ps) {n : Nat} (n3 : n ≤ 3) (f5 : f ≠ 5) (f18 : f ≠ 18) (f17 : f ≠ 17) (pn : sm_ldI G0 h 1000001 f = some (I3 n)) : F_7 h = some (b2 (!(decide (ps.length = n) && aH g ps n)), h) := by
  have l20 := S.r.2.1
  have Z := C_rsize S.w S.r
  have H := C_lacksH0 K S
  have z0 : F_7_172 0 h = some (0, h) := if_pos (Or.inl rfl)
  have z1 : F_7_167 h = some (1, h) := by show (if (1 : Int32) = 0 ∨ (1 : Int32) = 1 then some ((1 : Int32), h) else none) = _; exact if_pos (Or.inr rfl)
  show F_7_0 h = _
  unfold F_7_0
  rw [S.f7, if_neg f5, if_neg f18, if_neg f17, S.f11]; simp only [Option.bind_some]
  rw [if_neg (not_not_intro (S.w.i h)), Z]; simp only [Option.bind_some]
  rw [S.f7, pn]; simp only [Option.bind_some]
  by_cases q : ps.length = n
  · subst q
    rw [if_pos rfl, H]; simp only [Option.bind_some, decide_true, Bool.true_and]
    cases aH g ps ps.length with
    | true => rw [if_pos (by decide), z0]; rfl
    | false => rw [if_neg (by decide), z1]; rfl
  · rw [if_neg (by rw [I3_inj (by omega) (by omega)]; exact q), decide_eq_false q, z1]; rfl
theorem R_areH {g : sm_H} (wH : wfH0 g) {ps : List Int32} (P : prR g ps) {n : Nat} (hn : n ≤ ps.length) : F_314 0 (I3 n) g = some (b2 (aH g ps n), g) := by
  have l20 := P.2.1
  have L := lp_all (body := F_314_2B) (fun k => inR (at0 ps k) (nH g)) n (fun k => (I3 n, I3 k, g)) (0, g) (1, g) (f := 1000000) (by omega) (fun k hk e => ?_) (fun k hk e => ?_) ?_
  · refine Eq.trans (show F_314 0 (I3 n) g = lp F_314_2B 1000000 (I3 n, I3 0, g) from rfl) (L.trans ?_)
    show _ = some (b2 (all1 (fun k => inR (at0 ps k) (nH g)) n), g)
    cases all1 (fun k => inR (at0 ps k) (nH g)) n <;> rfl
  · have H := R_isHg wH (at0 ps k)
    rw [e] at H
    have z := P.2.2 k (by omega)
    show F_314_2B (I3 n, I3 k, g) = _
    unfold F_314_2B
    rw [if_neg (by rw [I3_le (by omega) (by omega)]; omega), ldI_I (by omega) (by omega), z]; simp only [Option.bind_some]
    rw [H]; simp only [Option.bind_some]
    rw [if_neg (by decide), I3_lit, I3_add]
  · have H := R_isHg wH (at0 ps k)
    rw [e] at H
    have z := P.2.2 k (by omega)
    show F_314_2B (I3 n, I3 k, g) = _
    unfold F_314_2B
    rw [if_neg (by rw [I3_le (by omega) (by omega)]; omega), ldI_I (by omega) (by omega), z]; simp only [Option.bind_some]
    rw [H]; simp only [Option.bind_some]
    rw [if_pos (by decide)]
  · show F_314_2B (I3 n, I3 n, g) = _
    unfold F_314_2B
    rw [if_pos (by rw [I3_le (by omega) (by omega)]; omega)]
