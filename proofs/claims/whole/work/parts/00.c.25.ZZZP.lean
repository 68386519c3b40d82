theorem I3e {a b n : Nat} (h : I3 a = I3 b) (ha : a < n) (hb : b < n) (hn : n ≤ 2147483648) : a = b := (I3_inj (by omega) (by omega)).mp h
theorem l1e {a b : Int32} (h : [a] = [b]) : a = b := by cases h; rfl
theorem fu_0 {h g : sm_H} (K : K1 h g) {a b : Int32} {c : Int64} {ps l l' : List Int32} {r r' : Int32} (x : FS g 0 a b c ps r l) (y : FS g 0 a b c ps r' l') : r = r' ∧ l = l' := by
  obtain ⟨-, x1, x2, -⟩ := FS_0 x
  obtain ⟨-, y1, y2, -⟩ := FS_0 y
  exact ⟨x2.trans y2.symm, x1.trans y1.symm⟩
theorem fu_2 {h g : sm_H} (K : K1 h g) {a b : Int32} {c : Int64} {ps l l' : List Int32} {r r' : Int32} (x : FS g 2 a b c ps r l) (y : FS g 2 a b c ps r' l') : r = r' ∧ l = l' := by
  obtain ⟨-, x1, x2, -⟩ := FS_2 x
  obtain ⟨-, y1, y2, -⟩ := FS_2 y
  exact ⟨x2.trans y2.symm, x1.trans y1.symm⟩
theorem fu_3 {h g : sm_H} (K : K1 h g) {a b : Int32} {c : Int64} {ps l l' : List Int32} {r r' : Int32} (x : FS g 3 a b c ps r l) (y : FS g 3 a b c ps r' l') : r = r' ∧ l = l' := by
  obtain ⟨-, x1, o, w, o1, x2, -, -, x3⟩ := FS_3 x
  obtain ⟨-, y1, o', w', o1', y2, -, -, y3⟩ := FS_3 y
  have e : o = o' := I3e (x2.symm.trans y2) (n := 13) (by omega) (by omega) (by decide)
  subst e
  exact ⟨x3.trans y3.symm, x1.trans y1.symm⟩
theorem fu_4 {h g : sm_H} (K : K1 h g) {a b : Int32} {c : Int64} {ps l l' : List Int32} {r r' : Int32} (x : FS g 4 a b c ps r l) (y : FS g 4 a b c ps r' l') : r = r' ∧ l = l' := by
  have w500 : nH g ≤ 500 := K.2.2.2.2.1.1.2
  have w300 : nT g ≤ 300 := K.2.2.1.1.2
  obtain ⟨p, n, t, p1, x1, n1, x2, t1, x3, x4, x5⟩ := FS_4 x
  obtain ⟨p', n', t', p1', y1, n1', y2, t1', y3, y4, y5⟩ := FS_4 y
  have e1 : p = p' := I3e (l1e (x1.symm.trans y1)) p1 p1' (by omega)
  subst e1
  have m := mn_10 K p1
  have e2 : n = n' := I3e (x2.symm.trans y2) (n := 11) (by omega) (by omega) (by decide)
  have e3 : t = t' := I3e (x3.symm.trans y3) t1 t1' (by omega)
  subst e2 e3
  exact ⟨x4.trans y4.symm, x5.trans y5.symm⟩
theorem fu_5 {h g : sm_H} (K : K1 h g) {a b : Int32} {c : Int64} {ps l l' : List Int32} {r r' : Int32} (x : FS g 5 a b c ps r l) (y : FS g 5 a b c ps r' l') : r = r' ∧ l = l' := by
  have w500 : nH g ≤ 500 := K.2.2.2.2.1.1.2
  have w300 : nT g ≤ 300 := K.2.2.1.1.2
  obtain ⟨p, t, p1, t1, x1, x2, x3, x4, -⟩ := FS_5 x
  obtain ⟨p', t', p1', t1', y1, y2, y3, y4, -⟩ := FS_5 y
  have e3 : t = t' := I3e (x1.symm.trans y1) t1 t1' (by omega)
  subst e3
  exact ⟨x3.trans y3.symm, x4.trans y4.symm⟩
theorem fu_8 {h g : sm_H} (K : K1 h g) {a b : Int32} {c : Int64} {ps l l' : List Int32} {r r' : Int32} (x : FS g 8 a b c ps r l) (y : FS g 8 a b c ps r' l') : r = r' ∧ l = l' := by
  have w500 : nH g ≤ 500 := K.2.2.2.2.1.1.2
  have w300 : nT g ≤ 300 := K.2.2.1.1.2
  obtain ⟨p, q, n, p1, q1, x1, x2, n1, -, x3, x4, -⟩ := FS_8 x
  obtain ⟨p', q', n', p1', q1', y1, y2, n1', -, y3, y4, -⟩ := FS_8 y
  have e0 := x1.symm.trans y1
  have e1 : p = p' := I3e (by injection e0) p1 p1' (by omega)
  have e2 : q = q' := I3e (by injection e0 with _ e; injection e) q1 q1' (by omega)
  subst e1 e2
  have m := mn_10 K p1
  have e3 : n = n' := I3e (x2.symm.trans y2) (n := 11) (by omega) (by omega) (by decide)
  subst e3
  exact ⟨x3.trans y3.symm, x4.trans y4.symm⟩
theorem fu_12 {h g : sm_H} (K : K1 h g) {a b : Int32} {c : Int64} {ps l l' : List Int32} {r r' : Int32} (x : FS g 12 a b c ps r l) (y : FS g 12 a b c ps r' l') : r = r' ∧ l = l' := by
  have w500 : nH g ≤ 500 := K.2.2.2.2.1.1.2
  have w300 : nT g ≤ 300 := K.2.2.1.1.2
  obtain ⟨p, t, p1, x1, t1, x2, -, x3, x4⟩ := FS_12 x
  obtain ⟨p', t', p1', y1, t1', y2, -, y3, y4⟩ := FS_12 y
  have e3 : t = t' := I3e (x2.symm.trans y2) t1 t1' (by omega)
  subst e3
  exact ⟨x3.trans y3.symm, x4.trans y4.symm⟩
theorem fu_13 {h g : sm_H} (K : K1 h g) {a b : Int32} {c : Int64} {ps l l' : List Int32} {r r' : Int32} (x : FS g 13 a b c ps r l) (y : FS g 13 a b c ps r' l') : r = r' ∧ l = l' := by
  have w500 : nH g ≤ 500 := K.2.2.2.2.1.1.2
  have w300 : nT g ≤ 300 := K.2.2.1.1.2
  obtain ⟨p, t, p1, x1, t1, x2, -, x3, x4⟩ := FS_13 x
  obtain ⟨p', t', p1', y1, t1', y2, -, y3, y4⟩ := FS_13 y
  have e3 : t = t' := I3e (x2.symm.trans y2) t1 t1' (by omega)
  subst e3
  exact ⟨x3.trans y3.symm, x4.trans y4.symm⟩
theorem fu_14 {h g : sm_H} (K : K1 h g) {a b : Int32} {c : Int64} {ps l l' : List Int32} {r r' : Int32} (x : FS g 14 a b c ps r l) (y : FS g 14 a b c ps r' l') : r = r' ∧ l = l' := by
  have w500 : nH g ≤ 500 := K.2.2.2.2.1.1.2
  have w300 : nT g ≤ 300 := K.2.2.1.1.2
  obtain ⟨p, q, s, p1, q1, s1, x1, -, -, -, x3, x4⟩ := FS_14 x
  obtain ⟨p', q', s', p1', q1', s1', y1, -, -, -, y3, y4⟩ := FS_14 y
  have e0 := x1.symm.trans y1
  have e2 : q = q' := I3e (by injection e0 with _ e; injection e) q1 q1' (by omega)
  subst e2
  exact ⟨x3.trans y3.symm, x4.trans y4.symm⟩
theorem fu_15 {h g : sm_H} (K : K1 h g) {a b : Int32} {c : Int64} {ps l l' : List Int32} {r r' : Int32} (x : FS g 15 a b c ps r l) (y : FS g 15 a b c ps r' l') : r = r' ∧ l = l' := by
  have w500 : nH g ≤ 500 := K.2.2.2.2.1.1.2
  have w300 : nT g ≤ 300 := K.2.2.1.1.2
  obtain ⟨p, q, k, m, p1, q1, x1, -, -, -, -, -, -, x3, x4⟩ := FS_15 x
  obtain ⟨p', q', k', m', p1', q1', y1, -, -, -, -, -, -, y3, y4⟩ := FS_15 y
  have e0 := x1.symm.trans y1
  have e1 : p = p' := I3e (by injection e0) p1 p1' (by omega)
  subst e1
  exact ⟨x3.trans y3.symm, x4.trans y4.symm⟩
theorem fu_18 {h g : sm_H} (K : K1 h g) {a b : Int32} {c : Int64} {ps l l' : List Int32} {r r' : Int32} (x : FS g 18 a b c ps r l) (y : FS g 18 a b c ps r' l') : r = r' ∧ l = l' := by
  have w500 : nH g ≤ 500 := K.2.2.2.2.1.1.2
  have w300 : nT g ≤ 300 := K.2.2.1.1.2
  obtain ⟨t, n, t1, x1, -, -, -, -, -, -, x3, x4⟩ := FS_18 x
  obtain ⟨t', n', t1', y1, -, -, -, -, -, -, y3, y4⟩ := FS_18 y
  have e3 : t = t' := I3e (x1.symm.trans y1) t1 t1' (by omega)
  subst e3
  exact ⟨x3.trans y3.symm, x4.trans y4.symm⟩
theorem fu_19 {h g : sm_H} (K : K1 h g) {a b : Int32} {c : Int64} {ps l l' : List Int32} {r r' : Int32} (x : FS g 19 a b c ps r l) (y : FS g 19 a b c ps r' l') : r = r' ∧ l = l' := by
  obtain ⟨-, k, e, -, -, -, -, -, x3, x4⟩ := FS_19 x
  obtain ⟨-, k', e', -, -, -, -, -, y3, y4⟩ := FS_19 y
  exact ⟨x3.trans y3.symm, x4.trans y4.symm⟩
theorem fu_20 {h g : sm_H} (K : K1 h g) {a b : Int32} {c : Int64} {ps l l' : List Int32} {r r' : Int32} (x : FS g 20 a b c ps r l) (y : FS g 20 a b c ps r' l') : r = r' ∧ l = l' := by
  obtain ⟨-, k, -, -, -, -, x1, x2, x3⟩ := FS_20 x
  obtain ⟨-, k', -, -, -, -, y1, y2, y3⟩ := FS_20 y
  exact ⟨(x1 rfl).1.trans (y1 rfl).1.symm, (x1 rfl).2.trans (y1 rfl).2.symm⟩
theorem fu_21 {h g : sm_H} (K : K1 h g) {a b : Int32} {c : Int64} {ps l l' : List Int32} {r r' : Int32} (x : FS g 21 a b c ps r l) (y : FS g 21 a b c ps r' l') : r = r' ∧ l = l' := by
  obtain ⟨-, k, -, -, -, -, x1, x2, x3⟩ := FS_21 x
  obtain ⟨-, k', -, -, -, -, y1, y2, y3⟩ := FS_21 y
  exact ⟨(x2 rfl).1.trans (y2 rfl).1.symm, (x2 rfl).2.trans (y2 rfl).2.symm⟩
theorem fu_22 {h g : sm_H} (K : K1 h g) {a b : Int32} {c : Int64} {ps l l' : List Int32} {r r' : Int32} (x : FS g 22 a b c ps r l) (y : FS g 22 a b c ps r' l') : r = r' ∧ l = l' := by
  obtain ⟨-, k, k1, k2, k3, -, x1, x2, x3⟩ := FS_22 x
  obtain ⟨-, k', k1', k2', k3', -, y1, y2, y3⟩ := FS_22 y
  have e : k = k' := I3e (k3.symm.trans k3') (n := 18) (by omega) (by omega) (by decide)
  subst e
  exact ⟨(x3 (by decide)).1.trans (y3 (by decide)).1.symm, (x3 (by decide)).2.trans (y3 (by decide)).2.symm⟩
theorem fu_23 {h g : sm_H} (K : K1 h g) {a b : Int32} {c : Int64} {ps l l' : List Int32} {r r' : Int32} (x : FS g 23 a b c ps r l) (y : FS g 23 a b c ps r' l') : r = r' ∧ l = l' := by
  obtain ⟨-, k, k1, k2, k3, -, x1, x2, x3⟩ := FS_23 x
  obtain ⟨-, k', k1', k2', k3', -, y1, y2, y3⟩ := FS_23 y
  have e : k = k' := I3e (k3.symm.trans k3') (n := 18) (by omega) (by omega) (by decide)
  subst e
  exact ⟨(x3 (by decide)).1.trans (y3 (by decide)).1.symm, (x3 (by decide)).2.trans (y3 (by decide)).2.symm⟩
theorem fu_29 {h g : sm_H} (K : K1 h g) {a b : Int32} {c : Int64} {ps l l' : List Int32} {r r' : Int32} (x : FS g 29 a b c ps r l) (y : FS g 29 a b c ps r' l') : r = r' ∧ l = l' := by
  have w80 : nG g ≤ 80 := K.2.2.2.2.2.2.2.2.1.2.1.2
  obtain ⟨-, n, n1, x1, x3, x4⟩ := FS_29 x
  obtain ⟨-, n', n1', y1, y3, y4⟩ := FS_29 y
  have e3 : n = n' := I3e (x1.symm.trans y1) n1 n1' (by omega)
  subst e3
  exact ⟨x3.trans y3.symm, x4.trans y4.symm⟩
theorem fu_31 {h g : sm_H} (K : K1 h g) {a b : Int32} {c : Int64} {ps l l' : List Int32} {r r' : Int32} (x : FS g 31 a b c ps r l) (y : FS g 31 a b c ps r' l') : r = r' ∧ l = l' := by
  obtain ⟨-, -, x3, x4⟩ := FS_31 x
  obtain ⟨-, -, y3, y4⟩ := FS_31 y
  exact ⟨x3.trans y3.symm, x4.trans y4.symm⟩
theorem fu_32 {h g : sm_H} (K : K1 h g) {a b : Int32} {c : Int64} {ps l l' : List Int32} {r r' : Int32} (x : FS g 32 a b c ps r l) (y : FS g 32 a b c ps r' l') : r = r' ∧ l = l' := by
  obtain ⟨-, x3, x4⟩ := FS_32 x
  obtain ⟨-, y3, y4⟩ := FS_32 y
  exact ⟨x3.trans y3.symm, x4.trans y4.symm⟩
theorem fu_33 {h g : sm_H} (K : K1 h g) {a b : Int32} {c : Int64} {ps l l' : List Int32} {r r' : Int32} (x : FS g 33 a b c ps r l) (y : FS g 33 a b c ps r' l') : r = r' ∧ l = l' := by
  obtain ⟨-, x3, x4⟩ := FS_33 x
  obtain ⟨-, y3, y4⟩ := FS_33 y
  exact ⟨x3.trans y3.symm, x4.trans y4.symm⟩
theorem fu_34 {h g : sm_H} (K : K1 h g) {a b : Int32} {c : Int64} {ps l l' : List Int32} {r r' : Int32} (x : FS g 34 a b c ps r l) (y : FS g 34 a b c ps r' l') : r = r' ∧ l = l' := by
  have w500 : nH g ≤ 500 := K.2.2.2.2.1.1.2
  have w300 : nT g ≤ 300 := K.2.2.1.1.2
  obtain ⟨-, t, t1, x1, x3, x4⟩ := FS_34 x
  obtain ⟨-, t', t1', y1, y3, y4⟩ := FS_34 y
  have e3 : t = t' := I3e (x1.symm.trans y1) t1 t1' (by omega)
  subst e3
  exact ⟨x3.trans y3.symm, x4.trans y4.symm⟩
theorem MH2 {h g : sm_H} (K : K1 h g) {f : Nat} {a b : Int32} {c : Int64} {ps l : List Int32} {r : Int32} {o p : Nat} (w : isRw o p) (ho : o < 1000 ∧ (o < 5 ∨ 20 < o)) (hp : p < 5 ∨ 20 < p) (R : hasL h o p ps) (P : prR g ps) (dc : dC h l) (dr : dR g l) (er : g.1 67 20 = r) (h64 : l.length ≤ 64) (kr : kR1 g r) (kl : kL g l) (F : FS g f a b c ps r l) (fu : ∀ r' l', FS g f a b c ps r' l' → r' = r ∧ l' = l) : ∃ v w' h1 g1, F_6 (I3 f) a b c o r h = some (w', h1) ∧ F_340 (I3 f) a b c g = some (v, g1) ∧ K1 h1 g1 ∧ ext g g1 ∧ grow g g1 ∧ agr SCh h h1 ∧ agr SRh g g1 ∧ ((∃ e, (e = 4 ∨ e = 5) ∧ w' = -I3 e ∧ v = -1 ∧ g1.1 67 19 = I3 e) ∨ ∃ y, y < nH g1 ∧ w' = I3 y ∧ v = I3 y ∧ g1.1 67 19 = g.1 67 19 ∧ hrs g1 y = r ∧ hpl g1 y = l) := by
  obtain ⟨wK, cK, wT, cT, wH, cH, wM, cM, cG, cO, cV, wX, cX, cXh, wF⟩ := id K
  have h12 := wK.2.1
  have w300 : nT g ≤ 300 := wT.1.2
  have w500 : nH g ≤ 500 := wH.1.2
  have l20 := R.2.1
  have F1 := C_fits wT cT dc h64 r
  have F2 := C_knownH wH cH w R (I3 f) a b c
  have G2 := R_findH wH P (I3 f) a b c
  have e21 := dr.1
  have e10 : g.1 67 10 = I3 (nT g) := wT.1.1
  have e18 : g.1 67 18 = I3 (nH g) := wH.1.1
  have S35 : F_35 h = some (I3 (nH g), h) := by show some (h.1 10 11, h) = _; rw [cH.1, e18]
  have k19 : ∀ e : Int32, K1 h (sm_wI g 67 19 e) := fun e => ⟨wK, cK, wT, cT, wH, cH, wM, cM, cG, cO, cV, wX, cX, cXh, wF⟩
  have x19 : ∀ e : Int32, ext g (sm_wI g 67 19 e) ∧ grow g (sm_wI g 67 19 e) := fun e => ⟨⟨Nat.le_refl _, fun _ _ => rfl, Nat.le_refl _, fun _ _ => rfl, ⟨Nat.le_refl _, fun _ _ => ⟨rfl, rfl, fun _ _ => rfl⟩⟩, Nat.le_refl _, fun _ _ => rfl, Nat.le_refl _, fun _ _ => rfl, Nat.le_refl _, ⟨Nat.le_refl _, fun _ _ => ⟨rfl, rfl, rfl, rfl, rfl, rfl⟩⟩⟩, ⟨Nat.le_refl _, Nat.le_refl _, Nat.le_refl _, fun _ _ => rfl, fun _ _ => rfl⟩⟩
  have a19 : ∀ e : Int32, agr SRh g (sm_wI g 67 19 e) := fun e => agr_wI agr_rfl (by simp [SRh])
  have fHle := fH_le g (I3 f) a b c ps
  have refR : l.length ≤ 10 → (nT g < 300 ∨ fT g r l < nT g) → F_340 (I3 f) a b c g = F_340_42 (I3 f) a b c g := fun z room => by
    have RF := R_findT wT dr z r
    show F_340_0 _ _ _ _ g = _
    unfold F_340_0
    rw [e21, if_neg (by rw [I3_lit, I3_lt (by decide) (by omega)]; omega), er, RF]; simp only [Option.bind_some]
    rw [e10]
    by_cases q : nT g < 300
    · rw [if_neg (show ¬ I3 (nT g) = 300 by rw [I3_lit, I3_inj (by omega) (by decide)]; omega), ite_self]
    · unfold orN
      rw [if_pos (show fT g r l < nT g by omega), if_neg (I3_m1 (by omega))]
  by_cases fit : l.length ≤ 10 ∧ (nT g < 300 ∨ fT g r l < nT g)
  · rw [decide_eq_true fit] at F1
    have refR := refR fit.1 fit.2
    by_cases kn : fH g (I3 f) a b c ps < nH g
    · have kn' : orN (fH g (I3 f) a b c ps < nH g) (fH g (I3 f) a b c ps) = I3 (fH g (I3 f) a b c ps) := if_pos kn
      rw [kn'] at F2 G2
      have fuy : hrs g (fH g (I3 f) a b c ps) = r ∧ hpl g (fH g (I3 f) a b c ps) = l := by
        have s := (fst1_spec (hP g (I3 f) a b c ps) (nH g)).2.2 kn
        have wF' := wF
        rw [wfF_0] at wF'
        have z := wF'.1 _ kn
        have f38 := FS_lt F
        unfold hP at s
        rw [Bool.and_eq_true, decide_eq_true_eq, all1_iff] at s
        obtain ⟨⟨s1, s2, s3, s4, s5⟩, s6⟩ := s
        have e1 : fm g (fH g (I3 f) a b c ps) = f := by show tn _ = _; rw [show g.1 75 (fH g (I3 f) a b c ps) = I3 f from s1]; exact tnI (by omega)
        have e2 : prt g (fH g (I3 f) a b c ps) = ps := by
          have : pm g (fH g (I3 f) a b c ps) = ps.length := by show tn _ = _; rw [show g.1 80 (fH g (I3 f) a b c ps) = I3 ps.length from s5]; exact tnI (by omega)
          show lst _ (pm g (fH g (I3 f) a b c ps)) = ps
          rw [this]
          refine lst_ext (lst_len _ _) (fun k hk => ?_)
          rw [lst_len] at hk
          rw [at0_lst hk]
          exact of_decide_eq_true (s6 k hk)
        rw [e1, e2, show g.1 77 (fH g (I3 f) a b c ps) = a from s2, show g.1 78 (fH g (I3 f) a b c ps) = b from s3, show g.2.1 79 (fH g (I3 f) a b c ps) = c from s4] at z
        exact fu _ _ z
      refine ⟨I3 (fH g (I3 f) a b c ps), I3 (fH g (I3 f) a b c ps), h, g, ?_, ?_, K, ext_rfl, grow_rfl, agr_rfl, agr_rfl, Or.inr ⟨_, kn, rfl, rfl, rfl, fuy⟩⟩
      · show F_6_0 _ _ _ _ _ _ h = _
        unfold F_6_0
        rw [F1]; simp only [Option.bind_some]
        rw [if_neg (by decide), F2]; simp only [Option.bind_some]
        rw [if_neg (I3_m1 (by omega))]
      · rw [refR]
        unfold F_340_42
        rw [G2]; simp only [Option.bind_some]
        rw [if_neg (I3_m1 (by omega))]
    · have kn' : orN (fH g (I3 f) a b c ps < nH g) (fH g (I3 f) a b c ps) = -1 := if_neg kn
      rw [kn'] at F2 G2
      have c6 : F_6 (I3 f) a b c o r h = if I3 (nH g) < 500 then ((F_234 r h).bind fun q4 => (F_50 (I3 f) a b c o q4.1 q4.2).bind fun q5 => some (q5.1, q5.2)) else (some ((-5), h)) := by
        show F_6_0 _ _ _ _ _ _ h = _
        unfold F_6_0
        rw [F1]; simp only [Option.bind_some]
        rw [if_neg (by decide), F2]; simp only [Option.bind_some]
        rw [if_pos trivial, S35]; simp only [Option.bind_some]
      have c7 : F_340 (I3 f) a b c g = if I3 (nH g) = 500 then ((some (sm_wI g 67 19 5)).bind fun h14 => some ((-1), h14)) else ((F_302 g).bind fun q7 => (stI q7.2 76 500 (I3 (nH g)) q7.1).bind fun h8 => (stI h8 75 500 (I3 (nH g)) (I3 f)).bind fun h9 => (stI h9 77 500 (I3 (nH g)) a).bind fun h10 => (stI h10 78 500 (I3 (nH g)) b).bind fun h11 => (stJ h11 79 500 (I3 (nH g)) c).bind fun h12 => (stI h12 80 500 (I3 (nH g)) (h12.1 67 3)).bind fun h13 => F_340_143 (I3 (nH g)) 0 h13) := by
        rw [refR]
        unfold F_340_42
        rw [G2]; simp only [Option.bind_some]
        rw [if_pos trivial, e18]
      by_cases full : nH g = 500
      · refine ⟨-1, -I3 5, h, sm_wI g 67 19 5, ?_, ?_, k19 _, (x19 _).1, (x19 _).2, agr_rfl, a19 _, Or.inl ⟨5, Or.inr rfl, rfl, rfl, rfl⟩⟩
        · rw [c6, if_neg (by rw [I3_lit, I3_lt (by omega) (by decide)]; omega)]; rfl
        · rw [c7, if_pos (by rw [full]; rfl)]; rfl
      · rw [if_pos (by rw [I3_lit, I3_lt (by omega) (by decide)]; omega)] at c6
        rw [if_neg (by rw [I3_lit, I3_inj (by omega) (by decide)]; exact full)] at c7
        obtain ⟨h3, g3, s1, s2, s3, s4, s5, s6, s7, s8, s9⟩ := settled K dc dr er fit.1 fit.2 kr kl
        generalize ht : fT g r l = t at s1 s2 s7
        obtain ⟨y1, y2⟩ := isTy_pl s7 (by omega)
        have n3 : nH g3 = nH g := s6.n
        have cGq1 : ∀ k, k < nG g → tn (g3.1 92 k) < nH g3 := fun k hk => by
          rw [s9.1 92 k (by unfold SRt; omega), n3]
          exact (K1_base K).g k hk
        have F3 : FS g3 f a b c ps r l := FS_up (K1_base K) cGq1 s4 F
        obtain ⟨A1, A2, A3⟩ := hAdd s3 (by omega) s7.1 y1 y2 l20 F3
        have R3 : hasL h3 o p ps := hasL_agr R s8 (fun j => by unfold SCt; omega)
        have P3 : prR g3 ps := ⟨by rw [s9.1 67 3 (by unfold SRt; omega)]; exact P.1, P.2.1, fun k hk => by rw [s9.1 69 k (by unfold SRt; omega)]; exact P.2.2 k hk⟩
        have CA := C_append (h := h3) (g := g3) s3.2.2.1 s3.2.2.2.2.1 s3.2.2.2.1 s3.2.2.2.2.2.1 w (by omega) (by omega) R3 (I3 f) a b c s7.1 (by omega)
        have RA := R_append (g := g3) (n := nH g) (by have := s3.2.2.2.2.1.1.1; rw [this]; show I3 (nH g3) = _; rw [n3]) (by omega) P3 (I3 f) a b c (t := t)
        rw [n3] at A1 A2 A3 CA
        rw [y1, y2] at CA
        refine ⟨I3 (nH g), I3 (nH g), _, _, ?_, ?_, A1, ext_trans s4 A2, grow_trans s5 A3, agr_trans (agr_mono (fun _ _ z => Or.inl z) s8) agr_setHC, agr_trans (agr_mono (fun _ _ z => Or.inl z) s9) agr_setHR, Or.inr ⟨nH g, ?_, rfl, rfl, ?_, ?_⟩⟩
        · rw [c6, s1]; simp only [Option.bind_some]
          rw [CA]; rfl
        · rw [c7, s2]; simp only [Option.bind_some]
          exact RA
        · show nH g < (I3 (nH g + 1)).toNatClampNeg
          rw [I3_clamp (by omega)]; omega
        · show g3.1 67 19 = _
          exact s9.1 67 19 (by unfold SRt; omega)
        · have tt : ty (setHR g3 (nH g) (I3 f) a b c ps t) (nH g) = t := by
            show tn (if nH g = nH g then I3 t else g3.1 76 (nH g)) = _
            rw [if_pos rfl]
            have w3 : nT g3 ≤ 300 := s3.2.2.1.1.2
            exact tnI (Nat.lt_of_lt_of_le s7.1 (Nat.le_trans w3 (by decide)))
          refine ⟨?_, ?_⟩
          · show rs (setHR g3 (nH g) (I3 f) a b c ps t) (ty (setHR g3 (nH g) (I3 f) a b c ps t) (nH g)) = r
            rw [tt]; exact y1
          · show pl (setHR g3 (nH g) (I3 f) a b c ps t) (ty (setHR g3 (nH g) (I3 f) a b c ps t) (nH g)) = l
            rw [tt]; exact y2
  · rw [decide_eq_false fit] at F1
    refine ⟨-1, -I3 4, h, sm_wI g 67 19 4, ?_, ?_, k19 _, (x19 _).1, (x19 _).2, agr_rfl, a19 _, Or.inl ⟨4, Or.inl rfl, rfl, rfl, rfl⟩⟩
    · show F_6_0 _ _ _ _ _ _ h = _
      unfold F_6_0
      rw [F1]; simp only [Option.bind_some]
      rw [if_pos (by decide)]; rfl
    · show F_340_0 _ _ _ _ g = _
      unfold F_340_0 F_340_35
      rw [e21]
      by_cases z : l.length ≤ 10
      · have RF := R_findT wT dr z r
        have on : orN (fT g r l < nT g) (fT g r l) = -1 := if_neg (by omega)
        rw [on] at RF
        rw [if_neg (by rw [I3_lit, I3_lt (by decide) (by omega)]; omega), er, RF]; simp only [Option.bind_some]
        rw [if_pos trivial, e10, if_pos (by rw [show nT g = 300 by omega]; rfl)]
      · rw [if_pos (by rw [I3_lit, I3_lt (by decide) (by omega)]; omega)]; rfl
def Ck (g : sm_H) (f : Nat) (a b : Int32) (c : Int64) (r : Int32) (l : List Int32) : Prop := (∃ u, F_336 (I3 f) a b c g = some (0, u) ∧ dR u l ∧ u.1 67 20 = r) ∨ ∃ y u, F_336 (I3 f) a b c g = some (-1 - I3 y, u) ∧ y < nH g ∧ hrs g y = r ∧ hpl g y = l
theorem ns1 {y : Nat} (hy : y < 1000) : (-1 - I3 y : Int32) ≠ 0 := fun z => by
  have z1 := congrArg Int32.toInt z
  rw [neg1sub hy, show (0 : Int32).toInt = 0 from rfl] at z1
  omega
theorem ns2 {y e : Nat} (hy : y < 1000) (he : e < 1000) : I3 e ≠ -1 - I3 y := fun z => by
  have z1 := congrArg Int32.toInt z
  rw [neg1sub hy, I3_toInt (by omega)] at z1
  omega
theorem ns3 {y e : Nat} (hy : y < 1000) (he : e < 1000) (z : (-1 - I3 y : Int32) = -1 - I3 e) : y = e := by
  have z1 := congrArg Int32.toInt z
  rw [neg1sub hy, neg1sub he] at z1
  omega
theorem lt1000 {y n : Nat} (h : y < n) (hn : n ≤ 500) : y < 1000 := by omega
theorem dR_inj {g : sm_H} {l l' : List Int32} (x : dR g l) (y : dR g l') (h1 : l.length ≤ 64) (h2 : l'.length ≤ 64) : l = l' := by
  have e : l.length = l'.length := I3e (x.1.symm.trans y.1) (n := 65) (by omega) (by omega) (by decide)
  exact lst_ext e (fun k hk => (x.2 k hk).symm.trans (y.2 k (by omega)))
theorem buildF2 {h g : sm_H} (K : K1 h g) {f : Nat} {tv a b : Int32} {c : Int64} {o p : Nat} {ps : List Int32} (w : isRw o p) (op : oP o p) (r : hasL h o p ps) (P : prR g ps) (hf : f < 35) (t : ∀ h, sm_ldI G0 h 1000000 (I3 f) = some tv) {va vb vc : Bool} (ea : (tv &&& 1 = 0) = (va = false)) (eb : (tv &&& 2 = 0) = (vb = false)) (ec : (tv &&& 4 = 0) = (vc = false)) (rA : ∀ g, F_337 (I3 f) g = some (b2 va, g)) (rB : ∀ g, F_338 (I3 f) g = some (b2 vb, g)) (rC : vc = decide (f = 0 ∨ f = 6))
    (mk : ∀ h' g', K1 h' g' → fS h' (I3 f) (bif va then a else 0) (bif vb then b else 0) (bif vc then c else 0) o p ps → prR g' ps → ∃ out, OC h' (I3 f) (bif va then a else 0) (bif vb then b else 0) (bif vc then c else 0) out ∧ OR g' (I3 f) a b c out ∧ OK g' f (bif va then a else 0) (bif vb then b else 0) (bif vc then c else 0) out) :
    ∀ {rr : Int32} {ll : List Int32}, ll.length ≤ 64 → Ck (sm_wI g 67 19 0) f a b c rr ll → (∀ u ps r l r' l', K1 h u ∨ (∃ z, K1 z u) → FS u f (bif va then a else 0) (bif vb then b else 0) (bif vc then c else 0) ps r l → FS u f (bif va then a else 0) (bif vb then b else 0) (bif vc then c else 0) ps r' l' → r = r' ∧ l = l') → ∃ v w' h1 g1, F_5 (I3 f) a b c o h = some (w', h1) ∧ F_341 (I3 f) a b c g = some (v, g1) ∧ K1 h1 g1 ∧ ext g g1 ∧ grow g g1 ∧ agr SCb h h1 ∧ agr SRb g g1 ∧ ((∃ e, 4 ≤ e ∧ e ≤ 5 ∧ w' = -I3 e ∧ v = -1 ∧ g1.1 67 19 = I3 e) ∨ ∃ y, y < nH g1 ∧ w' = I3 y ∧ v = I3 y ∧ hrs g1 y = rr ∧ hpl g1 y = ll) := by
  intro rr ll ll64 ck fu
  obtain ⟨h', c1, c2, c3⟩ := C_set (a := a) (b := b) (c := c) w op r hf t ea eb ec
  have a3 : agr Ssc h h' := agr_mono (fun b' j z => Or.inr (by unfold S34 at z; omega)) c3
  have K' : K1 h' (sm_wI g 67 19 0) := K1_19 (K1_h K (agr_mono Ssc_not a3)) 0
  have P' : prR (sm_wI g 67 19 0) ps := P
  have ag0 : agr SRb g (sm_wI g 67 19 0) := agr_wI agr_rfl (Or.inr (Or.inr (Or.inl ⟨rfl, Or.inr rfl⟩)))
  have E0 := ext_19 g 0
  have G0' := grow_19 g 0
  obtain ⟨out, o1, o2, o3⟩ := mk h' (sm_wI g 67 19 0) K' c2 P'
  have start : ∀ q, F_336 (I3 f) a b c (sm_wI g 67 19 0) = some q → F_341 (I3 f) a b c g = F_341_28 (I3 f) a b c q.1 q.2 := fun q hq => by
    show F_341_0 (I3 f) a b c g = _
    unfold F_341_0
    simp only [obs]
    rw [if_neg (I3_nn (by omega)), if_pos (by rw [I3_lit, I3_le (by omega) (by decide)]; omega), hq]; simp only [obs]
  rcases out with e | y | ⟨r, l, ps', o', p'⟩
  · obtain ⟨h1, x1, x2⟩ := o1
    obtain ⟨g1, y1, y2⟩ := o2
    have e3 : 1 ≤ e ∧ e ≤ 3 := o3
    exfalso
    rcases ck with ⟨u, u1, -⟩ | ⟨y0, u, u1, u2, -⟩
    · rw [y1] at u1
      injection u1 with u1
      exact absurd (congrArg Prod.fst u1) (I3_ne0 e3.1 (by omega))
    · rw [y1] at u1
      injection u1 with u1
      have w500 : nH (sm_wI g 67 19 0) ≤ 500 := K'.2.2.2.2.1.1.2
      exact ns2 (lt1000 u2 w500) (Nat.lt_of_le_of_lt e3.2 (by decide)) (congrArg Prod.fst u1)
  · obtain ⟨h1, x1, x2⟩ := o1
    obtain ⟨g1, y1, y2⟩ := o2
    have e3 : y < nH (sm_wI g 67 19 0) := o3
    have w500 : nH (sm_wI g 67 19 0) ≤ 500 := K'.2.2.2.2.1.1.2
    have st := start _ y1
    have E1 := ext_eq (okR_SRp y2)
    have nh : nH g1 = nH (sm_wI g 67 19 0) := by show tn _ = tn _; rw [y2.1 67 18 (by unfold SRp; omega)]
    have tyy : hrs g1 y = rr ∧ hpl g1 y = ll := by
      rcases ck with ⟨u, u1, -⟩ | ⟨y0, u, u1, u2, u3, u4⟩
      · rw [y1] at u1
        injection u1 with u1
        exact absurd (congrArg Prod.fst u1) (ns1 (lt1000 e3 w500))
      · rw [y1] at u1
        injection u1 with u1
        have e : y = y0 := ns3 (lt1000 e3 w500) (lt1000 u2 w500) (Prod.mk.inj u1).1
        subst e
        exact ⟨(ext_hrs K'.2.2.2.2.1 E1.1 e3).trans u3, (ext_hpl K'.2.2.2.2.1 E1.1 e3).trans u4⟩
    refine ⟨I3 y, I3 y, h1, g1, c1.trans x1, ?_, K1_g (K1_h K' (agr_mono Ssc_not x2)) (agr_mono SRp_not y2), ext_trans E0 E1.1, grow_trans G0' E1.2.1, agr_mono (fun _ _ z => Or.inl z) (agr_trans a3 x2), agr_trans ag0 (agr_mono (fun _ _ z => Or.inl z) y2), Or.inr ⟨y, by omega, rfl, rfl, tyy⟩⟩
    rw [st]
    unfold F_341_28
    clear E0 G0' E1
    have n1 := neg1sub (y := y) (by omega)
    have z0 : (0 : Int32).toInt = 0 := rfl
    rw [if_pos (by rw [Int32.le_iff_toInt_le, n1, z0]; omega), if_neg (by rw [Int32.le_iff_toInt_le, n1, z0]; omega), sub2 (by omega)]
  · obtain ⟨h1, x1, x2, x3, x4, x5, x6⟩ := o1
    obtain ⟨g1, y1, y2, y3, y4, y5⟩ := o2
    obtain ⟨z1, z2, z3, z4⟩ := (o3 : FS _ f _ _ _ ps' r l ∧ kR1 _ r ∧ kL _ l ∧ l.length ≤ 64)
    have st := start _ y1
    have E1 := ext_eq (okR_SRp y5)
    have K2 : K1 h1 g1 := K1_g (K1_h K' (agr_mono Ssc_not x6)) (agr_mono SRp_not y5)
    have bK := K'
    have nC1 : nC g1 = nC (sm_wI g 67 19 0) := by show tn _ = tn _; rw [y5.1 67 6 (by unfold SRp; omega)]
    have FS1 : FS g1 f (bif va then a else 0) (bif vb then b else 0) (bif vc then c else 0) ps' r l := FS_up (K1_base K') (fun k hk => by
      have := (K1_base K2).g k (by show k < tn _; rw [y5.1 67 35 (by unfold SRp; omega)]; exact hk)
      exact this) E1.1 z1
    have kr : kR1 g1 r := by obtain ⟨q, q1, q2⟩ := z2; exact ⟨q, q1, by rw [nC1]; exact q2⟩
    have kl : kL g1 l := fun i hi => by obtain ⟨q, q1, q2, q3⟩ := z3 i hi; exact ⟨q, q1, q2, by rw [nC1]; exact q3⟩
    have tyy : r = rr ∧ l = ll := by
      rcases ck with ⟨u, u1, u2, u3⟩ | ⟨y0, u, u1, u2, -⟩
      · rw [y1] at u1
        injection u1 with u1
        have eu : g1 = u := congrArg Prod.snd u1
        subst eu
        exact ⟨y3.symm.trans u3, dR_inj y2 u2 z4 ll64⟩
      · rw [y1] at u1
        injection u1 with u1
        have w500 : nH (sm_wI g 67 19 0) ≤ 500 := K'.2.2.2.2.1.1.2
        exact absurd (congrArg Prod.fst u1).symm (ns1 (lt1000 u2 w500))
    obtain ⟨v, w', h2, g2, m1, m2, m3, m4, m5, m6, m7, m8⟩ := MH2 K2 x4 (by omega) (by omega) x3 y4 x2 y2 y3 z4 kr kl FS1 (fun r' l' z => fu g1 _ _ _ _ _ (Or.inr ⟨h1, K2⟩) z FS1)
    refine ⟨v, w', h2, g2, ?_, ?_, m3, ext_trans E0 (ext_trans E1.1 m4), grow_trans G0' (grow_trans E1.2.1 m5), agr_trans (agr_mono (fun _ _ z => Or.inl z) (agr_trans a3 x6)) (agr_mono (fun _ _ z => Or.inr z) m6), agr_trans ag0 (agr_trans (agr_mono (fun _ _ z => Or.inl z) y5) (agr_mono (fun _ _ z => Or.inr z) m7)), ?_⟩
    · rw [c1, x1, m1]; rfl
    · rw [st]
      unfold F_341_28
      rw [if_pos (show (0 : Int32) ≤ 0 by decide), if_pos (show (0 : Int32) ≤ 0 by decide)]
      have go : ∀ vq : Bool, (bif vq then c else 0) = (bif vc then c else 0) → F_341_68 (I3 f) a b c (b2 vq) g1 = some (v, g2) := fun vq hq => by
        have m2' : F_341_107 (I3 f) (bif va then a else 0) (bif vb then b else 0) (bif vq then c else 0) g1 = some (v, g2) := by
          unfold F_341_107; rw [hq, m2]; rfl
        unfold F_341_68 F_341_84 F_341_96
        rw [rA]; simp only [obs]
        rw [rB]; simp only [obs]
        cases va <;> cases vb <;> cases vq <;> exact m2'
      unfold F_341_63
      by_cases q0 : f = 0
      · rw [if_pos (show I3 f = (0 : Int32) from congrArg I3 q0)]
        exact go true (by rw [rC, decide_eq_true (Or.inl q0)])
      · rw [if_neg (by rw [I3_lit, I3_inj (by omega) (by decide)]; exact q0)]
        by_cases q6 : f = 6
        · rw [if_pos (show I3 f = (6 : Int32) from congrArg I3 q6)]
          exact go true (by rw [rC, decide_eq_true (Or.inr q6)])
        · rw [if_neg (by rw [I3_lit, I3_inj (by omega) (by decide)]; exact q6)]
          exact go false (by rw [rC, decide_eq_false (by omega)])
    · rcases m8 with ⟨e, e1, e2, e3, e4⟩ | ⟨y, q1, q2, q3, q4, q5, q6⟩
      · exact Or.inl ⟨e, by omega, by omega, e2, e3, e4⟩
      · exact Or.inr ⟨y, q1, q2, q3, q5.trans tyy.1, q6.trans tyy.2⟩
theorem build2 {h g : sm_H} (K : K1 h g) {f : Nat} (a b : Int32) (c : Int64) {o p : Nat} {ps : List Int32} (w : isRw o p) (op : oP o p) (ne : o ≠ 35) (r : hasL h o p ps) (P : prR g ps) (uf : f = 0 ∨ f = 2 ∨ f = 3 ∨ f = 4 ∨ f = 5 ∨ f = 8 ∨ f = 12 ∨ f = 13 ∨ f = 14 ∨ f = 15 ∨ f = 18 ∨ f = 19 ∨ f = 20 ∨ f = 21 ∨ f = 22 ∨ f = 23 ∨ f = 29 ∨ f = 31 ∨ f = 32 ∨ f = 33 ∨ f = 34) {rr : Int32} {ll : List Int32} (l64 : ll.length ≤ 64) (ck : Ck (sm_wI g 67 19 0) f a b c rr ll) :
    ∃ v w' h1 g1, F_5 (I3 f) a b c o h = some (w', h1) ∧ F_341 (I3 f) a b c g = some (v, g1) ∧ K1 h1 g1 ∧ ext g g1 ∧ grow g g1 ∧ agr SCb h h1 ∧ agr SRb g g1 ∧ ((∃ e, 4 ≤ e ∧ e ≤ 5 ∧ w' = -I3 e ∧ v = -1 ∧ g1.1 67 19 = I3 e) ∨ ∃ y, y < nH g1 ∧ w' = I3 y ∧ v = I3 y ∧ hrs g1 y = rr ∧ hpl g1 y = ll) := by
  rcases uf with rfl | rfl | rfl | rfl | rfl | rfl | rfl | rfl | rfl | rfl | rfl | rfl | rfl | rfl | rfl | rfl | rfl | rfl | rfl | rfl | rfl
  · exact buildF2 K w op r P (by decide) (va := true) (vb := false) (vc := true) (fun _ => rfl) (by decide) (by decide) (by decide) (fun _ => rfl) (fun _ => rfl) (by decide) (fun h' g' K' S' P' => mk_0 K' a b c S' op P') l64 ck (fun u ps r l r' l' z x y => by
      rcases z with z | ⟨_, z⟩
      · exact fu_0 z x y
      · exact fu_0 z x y)
  · exact buildF2 K w op r P (by decide) (va := true) (vb := false) (vc := false) (fun _ => rfl) (by decide) (by decide) (by decide) (fun _ => rfl) (fun _ => rfl) (by decide) (fun h' g' K' S' P' => mk_2 K' S' op P' b c) l64 ck (fun u ps r l r' l' z x y => by
      rcases z with z | ⟨_, z⟩
      · exact fu_2 z x y
      · exact fu_2 z x y)
  · exact buildF2 K w op r P (by decide) (va := true) (vb := true) (vc := false) (fun _ => rfl) (by decide) (by decide) (by decide) (fun _ => rfl) (fun _ => rfl) (by decide) (fun h' g' K' S' P' => mk_3 K' S' op P' c) l64 ck (fun u ps r l r' l' z x y => by
      rcases z with z | ⟨_, z⟩
      · exact fu_3 z x y
      · exact fu_3 z x y)
  · exact buildF2 K w op r P (by decide) (va := true) (vb := true) (vc := false) (fun _ => rfl) (by decide) (by decide) (by decide) (fun _ => rfl) (fun _ => rfl) (by decide) (fun h' g' K' S' P' => mk_4 K' a b c S' op P') l64 ck (fun u ps r l r' l' z x y => by
      rcases z with z | ⟨_, z⟩
      · exact fu_4 z x y
      · exact fu_4 z x y)
  · exact buildF2 K w op r P (by decide) (va := false) (vb := true) (vc := false) (fun _ => rfl) (by decide) (by decide) (by decide) (fun _ => rfl) (fun _ => rfl) (by decide) (fun h' g' K' S' P' => mk_5 K' a b c S' op ne P') l64 ck (fun u ps r l r' l' z x y => by
      rcases z with z | ⟨_, z⟩
      · exact fu_5 z x y
      · exact fu_5 z x y)
  · exact buildF2 K w op r P (by decide) (va := true) (vb := false) (vc := false) (fun _ => rfl) (by decide) (by decide) (by decide) (fun _ => rfl) (fun _ => rfl) (by decide) (fun h' g' K' S' P' => mk_8 K' a b c S' op P') l64 ck (fun u ps r l r' l' z x y => by
      rcases z with z | ⟨_, z⟩
      · exact fu_8 z x y
      · exact fu_8 z x y)
  · exact buildF2 K w op r P (by decide) (va := false) (vb := true) (vc := false) (fun _ => rfl) (by decide) (by decide) (by decide) (fun _ => rfl) (fun _ => rfl) (by decide) (fun h' g' K' S' P' => mk_12 K' a b c S' op P') l64 ck (fun u ps r l r' l' z x y => by
      rcases z with z | ⟨_, z⟩
      · exact fu_12 z x y
      · exact fu_12 z x y)
  · exact buildF2 K w op r P (by decide) (va := false) (vb := true) (vc := false) (fun _ => rfl) (by decide) (by decide) (by decide) (fun _ => rfl) (fun _ => rfl) (by decide) (fun h' g' K' S' P' => mk_13 K' a b c S' op P') l64 ck (fun u ps r l r' l' z x y => by
      rcases z with z | ⟨_, z⟩
      · exact fu_13 z x y
      · exact fu_13 z x y)
  · exact buildF2 K w op r P (by decide) (va := false) (vb := false) (vc := false) (fun _ => rfl) (by decide) (by decide) (by decide) (fun _ => rfl) (fun _ => rfl) (by decide) (fun h' g' K' S' P' => mk_14 K' a b c S' op P') l64 ck (fun u ps r l r' l' z x y => by
      rcases z with z | ⟨_, z⟩
      · exact fu_14 z x y
      · exact fu_14 z x y)
  · exact buildF2 K w op r P (by decide) (va := true) (vb := false) (vc := false) (fun _ => rfl) (by decide) (by decide) (by decide) (fun _ => rfl) (fun _ => rfl) (by decide) (fun h' g' K' S' P' => mk_15 K' a b c S' op P') l64 ck (fun u ps r l r' l' z x y => by
      rcases z with z | ⟨_, z⟩
      · exact fu_15 z x y
      · exact fu_15 z x y)
  · exact buildF2 K w op r P (by decide) (va := false) (vb := true) (vc := false) (fun _ => rfl) (by decide) (by decide) (by decide) (fun _ => rfl) (fun _ => rfl) (by decide) (fun h' g' K' S' P' => mk_18 K' a b c S' op P') l64 ck (fun u ps r l r' l' z x y => by
      rcases z with z | ⟨_, z⟩
      · exact fu_18 z x y
      · exact fu_18 z x y)
  · exact buildF2 K w op r P (by decide) (va := true) (vb := true) (vc := false) (fun _ => rfl) (by decide) (by decide) (by decide) (fun _ => rfl) (fun _ => rfl) (by decide) (fun h' g' K' S' P' => mk_19 K' a b c S' op P') l64 ck (fun u ps r l r' l' z x y => by
      rcases z with z | ⟨_, z⟩
      · exact fu_19 z x y
      · exact fu_19 z x y)
  · exact buildF2 K w op r P (by decide) (va := true) (vb := false) (vc := false) (fun _ => rfl) (by decide) (by decide) (by decide) (fun _ => rfl) (fun _ => rfl) (by decide) (fun h' g' K' S' P' => mk_20 K' S' op P' b c) l64 ck (fun u ps r l r' l' z x y => by
      rcases z with z | ⟨_, z⟩
      · exact fu_20 z x y
      · exact fu_20 z x y)
  · exact buildF2 K w op r P (by decide) (va := true) (vb := false) (vc := false) (fun _ => rfl) (by decide) (by decide) (by decide) (fun _ => rfl) (fun _ => rfl) (by decide) (fun h' g' K' S' P' => mk_21 K' S' op P' b c) l64 ck (fun u ps r l r' l' z x y => by
      rcases z with z | ⟨_, z⟩
      · exact fu_21 z x y
      · exact fu_21 z x y)
  · exact buildF2 K w op r P (by decide) (va := true) (vb := false) (vc := false) (fun _ => rfl) (by decide) (by decide) (by decide) (fun _ => rfl) (fun _ => rfl) (by decide) (fun h' g' K' S' P' => mk_22 K' S' op P' b c) l64 ck (fun u ps r l r' l' z x y => by
      rcases z with z | ⟨_, z⟩
      · exact fu_22 z x y
      · exact fu_22 z x y)
  · exact buildF2 K w op r P (by decide) (va := true) (vb := false) (vc := false) (fun _ => rfl) (by decide) (by decide) (by decide) (fun _ => rfl) (fun _ => rfl) (by decide) (fun h' g' K' S' P' => mk_23 K' S' op P' b c) l64 ck (fun u ps r l r' l' z x y => by
      rcases z with z | ⟨_, z⟩
      · exact fu_23 z x y
      · exact fu_23 z x y)
  · exact buildF2 K w op r P (by decide) (va := true) (vb := false) (vc := false) (fun _ => rfl) (by decide) (by decide) (by decide) (fun _ => rfl) (fun _ => rfl) (by decide) (fun h' g' K' S' P' => mk_29 K' a b c S' op P') l64 ck (fun u ps r l r' l' z x y => by
      rcases z with z | ⟨_, z⟩
      · exact fu_29 z x y
      · exact fu_29 z x y)
  · exact buildF2 K w op r P (by decide) (va := true) (vb := false) (vc := false) (fun _ => rfl) (by decide) (by decide) (by decide) (fun _ => rfl) (fun _ => rfl) (by decide) (fun h' g' K' S' P' => mk_31 K' a b c S' op P') l64 ck (fun u ps r l r' l' z x y => by
      rcases z with z | ⟨_, z⟩
      · exact fu_31 z x y
      · exact fu_31 z x y)
  · exact buildF2 K w op r P (by decide) (va := false) (vb := false) (vc := false) (fun _ => rfl) (by decide) (by decide) (by decide) (fun _ => rfl) (fun _ => rfl) (by decide) (fun h' g' K' S' P' => mk_32 K' a b c S' op P') l64 ck (fun u ps r l r' l' z x y => by
      rcases z with z | ⟨_, z⟩
      · exact fu_32 z x y
      · exact fu_32 z x y)
  · exact buildF2 K w op r P (by decide) (va := false) (vb := false) (vc := false) (fun _ => rfl) (by decide) (by decide) (by decide) (fun _ => rfl) (fun _ => rfl) (by decide) (fun h' g' K' S' P' => mk_33 K' a b c S' op P') l64 ck (fun u ps r l r' l' z x y => by
      rcases z with z | ⟨_, z⟩
      · exact fu_33 z x y
      · exact fu_33 z x y)
  · exact buildF2 K w op r P (by decide) (va := false) (vb := true) (vc := false) (fun _ => rfl) (by decide) (by decide) (by decide) (fun _ => rfl) (fun _ => rfl) (by decide) (fun h' g' K' S' P' => mk_34 K' a b c S' op P') l64 ck (fun u ps r l r' l' z x y => by
      rcases z with z | ⟨_, z⟩
      · exact fu_34 z x y
      · exact fu_34 z x y)
theorem fitB_ok {m L : List Int32} {i j : Nat} (h : pre (m.drop i) (L.drop j)) : fitB m L i j = true := by
  unfold fitB
  rw [all1_iff]
  intro k hk
  have h1 := h.1
  rw [List.length_drop, List.length_drop] at h1
  have h2 := h.2 k (by rw [List.length_drop]; omega)
  rw [at0_drop, at0_drop] at h2
  rw [Bool.and_eq_true]
  exact ⟨decide_eq_true (by omega), decide_eq_true h2⟩
theorem asB_ok {g : sm_H} {u t : Nat} {f : Bool} (h : mayAs g u t f) : asB g u t f = true := by
  unfold asB
  rw [decide_eq_true h.1, all1_iff.mpr h.2.1, h.2.2]; rfl
theorem aH_ok {g : sm_H} {ps : List Int32} {n : Nat} (w500 : nH g ≤ 500) (h : ∀ k, k < n → ∃ y, y < nH g ∧ at0 ps k = I3 y) : aH g ps n = true := by
  unfold aH
  rw [all1_iff]
  intro k hk
  obtain ⟨y, y1, y2⟩ := h k hk
  rw [y2, inR_I (by omega)]; exact decide_eq_true y1
theorem aH1_ok {g : sm_H} {x : Nat} (w500 : nH g ≤ 500) (x1 : x < nH g) : aH g [I3 x] 1 = true := aH_ok w500 (fun k hk => by
  have e : k = 0 := by omega
  subst e
  exact ⟨x, x1, rfl⟩)
section
variable {h g : sm_H}
theorem ck_oth {f : Nat} {a b : Int32} {c : Int64} {X : Option (Int32 × sm_H)} (P0 : g.1 67 3 = 0) (B6 : F_336 (I3 f) a b c g = F_336_257 (I3 f) a b g) (e : F_335_12 (I3 f) a b 1 g = X) : F_336 (I3 f) a b c g = X := by
  rw [B6]
  unfold F_336_257
  rw [bind_id, show F_335 (I3 f) a b g = F_335_0 (I3 f) a b g from rfl]
  unfold F_335_0
  rw [if_pos P0, e]
theorem kdK (K : K1 h g) {k : Nat} (hk : k < 20 + nC g) : F_289 (I3 k) g = some (1, g) := by
  have h12 := K.1.2.1
  rw [R_kind K.1, inR_I (by omega), decide_eq_true hk]; rfl
theorem ck_0 (K : K1 h g) (P0 : g.1 67 3 = 0) {k : Nat} (k1 : 0 < k) (k2 : k < 20 + nC g) (b : Int32) {c : Int64} (t : trK g k c = 0) : Ck g 0 (I3 k) b c (I3 k) [] := by
  have h12 := K.1.2.1
  obtain ⟨u, f1, E1⟩ := E_clear K (I3 k)
  refine Or.inl ⟨u, ?_, E1.d, E1.r⟩
  rw [B336_0, if_pos P0, kdK K k2]; simp only [obs]
  rw [if_neg (by decide), if_neg (by rw [I3_lit, I3_inj (by omega) (by decide)]; omega), f1]; simp only [obs]
  rw [E_trouble E1 k1 k2, t]; simp only [obs]
  rfl
theorem ck_2 (K : K1 h g) (P0 : g.1 67 3 = 0) {k : Nat} (k1 : 0 < k) (k2 : k < 20 + nC g) (b : Int32) (c : Int64) : Ck g 2 (I3 k) b c (I3 k) [I3 k] := by
  have h12 := K.1.2.1
  obtain ⟨u, f1, E1⟩ := E_clear K (I3 k)
  obtain ⟨u2, f2, E2⟩ := E_add E1 (by simp) (I3 k)
  rw [List.nil_append] at E2
  refine Or.inl ⟨u2, ck_oth P0 (B336_2 _ _ _) ?_, E2.d, E2.r⟩
  rw [B335_2, if_neg (by decide), kdK K k2]; simp only [obs]
  rw [if_neg (by decide), if_neg (by rw [I3_lit, I3_inj (by omega) (by decide)]; omega), f1]; simp only [obs]
  rw [f2]; simp only [obs]
theorem ck_3 (K : K1 h g) (P0 : g.1 67 3 = 0) {o w : Nat} (o1 : o ≤ 12) (w1 : w = 5 ∨ w = 6) (c : Int64) : Ck g 3 (I3 o) (I3 w) c (if 10 < o then 1 else I3 w) [I3 w, I3 w] := by
  obtain ⟨u, f1, E1⟩ := E_clear K (if 10 < o then 1 else I3 w)
  obtain ⟨u2, f2, E2⟩ := E_add E1 (by simp) (I3 w)
  obtain ⟨u3, f3, E3⟩ := E_add E2 (by simp) (I3 w)
  refine Or.inl ⟨u3, ck_oth P0 (B336_3 _ _ _) ?_, E3.d, E3.r⟩
  rw [B335_3, if_neg (by decide), R_out12, inR_I (by omega), decide_eq_true (by omega)]; simp only [obs]
  rw [if_pos (by decide)]
  have fin : F_335_248 (I3 o) (I3 w) g = some (0, u3) := by
    unfold F_335_248 F_335_260
    by_cases q : 10 < o
    · rw [if_pos q] at f1
      rw [if_neg (by rw [I3_lit, I3_le (by omega) (by decide)]; omega), f1]; simp only [obs]
      rw [f2]; simp only [obs]
      rw [f3]; simp only [obs]
    · rw [if_neg q] at f1
      rw [if_pos (by rw [I3_lit, I3_le (by omega) (by decide)]; omega), f1]; simp only [obs]
      rw [f2]; simp only [obs]
      rw [f3]; simp only [obs]
  rcases w1 with rfl | rfl
  · rw [if_pos (by decide)]; exact fin
  · rw [if_neg (by decide), if_pos (by decide)]; exact fin
theorem ck_19 (K : K1 h g) (P0 : g.1 67 3 = 0) {k e : Nat} (k2 : k < 20 + nC g) (e2 : e < 20 + nC g) (be : B g e 19 = true) (c : Int64) : Ck g 19 (I3 k) (I3 e) c (I3 k) [I3 e] := by
  obtain ⟨u, f1, E1⟩ := E_clear K (I3 k)
  obtain ⟨u2, f2, E2⟩ := E_add E1 (by simp) (I3 e)
  rw [List.nil_append] at E2
  refine Or.inl ⟨u2, ck_oth P0 (B336_19 _ _ _) ?_, E2.d, E2.r⟩
  rw [B335_19, if_neg (by decide), kdK K k2]; simp only [obs]
  rw [if_neg (by decide), kdK K e2]; simp only [obs]
  rw [if_neg (by decide), R_below19 K.1 e2, be]; simp only [obs]
  rw [if_neg (by decide), f1]; simp only [obs]
  rw [f2]; simp only [obs]
theorem ck_29 (K : K1 h g) (P0 : g.1 67 3 = 0) {n : Nat} (n1 : n < nG g) (b : Int32) (c : Int64) : Ck g 29 (I3 n) b c (hrs g (tn (g.1 92 n))) (hpl g (tn (g.1 92 n))) := by
  have cGq := K.2.2.2.2.2.2.2.2.1
  have w80 : nG g ≤ 80 := cGq.2.1.2
  have w500 : nH g ≤ 500 := K.2.2.2.2.1.1.2
  obtain ⟨x, x1, x2⟩ := cGq.2.2.2 n n1
  have ex : tn (g.1 92 n) = x := by rw [x2]; exact tnI (by omega)
  rw [ex]
  obtain ⟨u, f1, E1⟩ := E_clear K (hrs g x)
  obtain ⟨u2, f2, E2⟩ := E_all E1 x1 (by decide)
  rw [List.nil_append] at E2
  refine Or.inl ⟨u2, ck_oth P0 (B336_29 _ _ _) ?_, E2.d, E2.r⟩
  have l1 : ldI g 92 80 (I3 n) = some (I3 x) := by rw [ldI_I (by omega) (by decide), x2]
  have l2 : ldI u 92 80 (I3 n) = some (I3 x) := by rw [ldI_I (by omega) (by decide), E1.a.1 92 n (by unfold SRd; omega), x2]
  rw [B335_29, if_neg (by decide), show g.1 67 35 - 1 = I3 (nG g) - I3 1 by rw [show g.1 67 35 = I3 (nG g) from cGq.2.1.1]; rfl, R_outI (by omega), inR_I (by omega), decide_eq_true n1]; simp only [obs]
  rw [if_pos (by decide), l1]; simp only [obs]
  rw [R_rs K x1]; simp only [obs]
  rw [f1]; simp only [obs]
  rw [l2]; simp only [obs]
  rw [E_many E1 x1]; simp only [obs]
  rw [f2]; simp only [obs]
theorem ck_31 (K : K1 h g) (P0 : g.1 67 3 = 0) {k : Nat} (k1 : 7 ≤ k) (k2 : k < 20 + nC g) (b : Int32) (c : Int64) : Ck g 31 (I3 k) b c 1 [7] := by
  have h12 := K.1.2.1
  obtain ⟨u, f1, E1⟩ := E_clear K 1
  obtain ⟨u2, f2, E2⟩ := E_add E1 (by simp) 7
  rw [List.nil_append] at E2
  refine Or.inl ⟨u2, ck_oth P0 (B336_31 _ _ _) ?_, E2.d, E2.r⟩
  rw [B335_31, if_neg (by decide), kdK K k2]; simp only [obs]
  rw [if_neg (by decide), R_ref (by omega), decide_eq_true k1]; simp only [obs]
  rw [if_neg (by decide), f1]; simp only [obs]
  rw [f2]; simp only [obs]
theorem ck_32 (K : K1 h g) (P0 : g.1 67 3 = 0) (a b : Int32) (c : Int64) : Ck g 32 a b c 1 [7, 7] := by
  obtain ⟨u, f1, E1⟩ := E_clear K 1
  obtain ⟨u2, f2, E2⟩ := E_add E1 (by simp) 7
  obtain ⟨u3, f3, E3⟩ := E_add E2 (by simp) 7
  refine Or.inl ⟨u3, ck_oth P0 (B336_32 _ _ _) ?_, E3.d, E3.r⟩
  rw [B335_32, if_neg (by decide), f1]; simp only [obs]
  rw [f2]; simp only [obs]
  rw [f3]; simp only [obs]
theorem ck_33 (K : K1 h g) (P0 : g.1 67 3 = 0) (a b : Int32) (c : Int64) : Ck g 33 a b c 5 [19] := by
  obtain ⟨u, f1, E1⟩ := E_clear K 5
  obtain ⟨u2, f2, E2⟩ := E_add E1 (by simp) 19
  refine Or.inl ⟨u2, ck_oth P0 (B336_33 _ _ _) ?_, E2.d, E2.r⟩
  rw [B335_33, if_neg (by decide), f1]; simp only [obs]
  rw [f2]; simp only [obs]
theorem ck_34 (K : K1 h g) (P0 : g.1 67 3 = 0) {t : Nat} (t1 : t < nT g) (a : Int32) (c : Int64) : Ck g 34 a (I3 t) c (rs g t) (pl g t) := by
  have w300 : nT g ≤ 300 := K.2.2.1.1.2
  obtain ⟨u, f1, E1⟩ := E_clear K (rs g t)
  obtain ⟨u2, f2, E2⟩ := E_type E1 t1 (by decide)
  rw [List.nil_append] at E2
  refine Or.inl ⟨u2, ck_oth P0 (B336_34 _ _ _) ?_, E2.d, E2.r⟩
  rw [B335_34]
  unfold F_335_598
  rw [if_neg (by decide), R_isT K.2.2.1, inR_I (by omega), decide_eq_true t1]; simp only [obs]
  rw [if_neg (by decide), ldI_I (by omega) (by decide)]; simp only [obs]
  rw [f1]; simp only [obs]
  rw [f2]; simp only [obs]
theorem ck_row (K : K1 h g) (P0 : g.1 67 3 = 0) {k f : Nat} (k1 : 15 ≤ k) (k2 : k ≤ 17) (hf : f = 20 ∨ f = 21 ∨ f = 22 ∨ f = 23) (b : Int32) (c : Int64) : Ck g f (I3 k) b c (if f = 20 then I3 k else if f = 21 then 5 else if f = 22 then I3 (k - 10) else 0) (if f = 20 then [5] else if f = 21 then [I3 k] else if f = 22 then [I3 k, 5] else [I3 k, 5, I3 (k - 10)]) := by
  have rw1 : F_293 (I3 k) g = some (1, g) := by rw [R_isRow (by omega), decide_eq_true ⟨k1, k2⟩]; rfl
  have el := R_elem g k1 k2
  have go : ∀ X : Option (Int32 × sm_H), F_336 (I3 f) (I3 k) b c g = F_336_250 (I3 f) (I3 k) g → F_334_28 (I3 f) (I3 k) g = X → F_336 (I3 f) (I3 k) b c g = X := fun X e1 e2 => by
    rw [e1]
    unfold F_336_250
    rw [bind_id, show F_334 (I3 f) (I3 k) g = F_334_0 (I3 f) (I3 k) g from rfl]
    unfold F_334_0
    rw [if_pos P0, rw1]; simp only [obs]
    rw [if_neg (by decide), if_neg (by rcases hf with rfl | rfl | rfl | rfl <;> decide), e2]
  obtain ⟨u, f1, E1⟩ := E_clear K (if f = 20 then I3 k else if f = 21 then 5 else if f = 22 then I3 (k - 10) else 0)
  obtain ⟨u2, f2, E2⟩ := E_add E1 (by simp) (I3 k)
  obtain ⟨u3, f3, E3⟩ := E_add E2 (by simp) 5
  obtain ⟨u4, f4, E4⟩ := E_add E3 (by simp) (I3 (k - 10))
  obtain ⟨v2, d2, D2⟩ := E_add E1 (by simp) 5
  rcases hf with rfl | rfl | rfl | rfl
  · refine Or.inl ⟨v2, go _ (B336_20 _ _ _) ?_, D2.d, D2.r⟩
    unfold F_334_28 F_334_75
    rw [el]; simp only [obs]
    rw [if_pos (by decide), show F_308 (I3 k) g = some u from f1]; simp only [obs]
    rw [if_pos (by decide), d2]; rfl
  · refine Or.inl ⟨u2, go _ (B336_21 _ _ _) ?_, E2.d, E2.r⟩
    unfold F_334_28 F_334_75
    rw [el]; simp only [obs]
    rw [if_neg (by decide), if_pos (by decide), show F_308 5 g = some u from f1]; simp only [obs]
    rw [if_neg (by decide), f2]; simp only [obs]
    rw [if_pos (by decide)]
  · refine Or.inl ⟨u3, go _ (B336_22 _ _ _) ?_, E3.d, E3.r⟩
    unfold F_334_28 F_334_75 F_334_120 F_334_131
    rw [el]; simp only [obs]
    rw [if_neg (by decide), if_neg (by decide), if_neg (by decide), if_neg (by decide), show F_308 (I3 (k - 10)) g = some u from f1]; simp only [obs]
    rw [if_neg (by decide), f2]; simp only [obs]
    rw [if_neg (by decide), f3]; simp only [obs]
    rw [if_pos (by decide), if_neg (by decide)]
  · refine Or.inl ⟨u4, go _ (B336_23 _ _ _) ?_, E4.d, E4.r⟩
    unfold F_334_28 F_334_75 F_334_120 F_334_131
    rw [el]; simp only [obs]
    rw [if_neg (by decide), if_neg (by decide), if_pos (by decide), show F_308 0 g = some u from f1]; simp only [obs]
    rw [if_neg (by decide), f2]; simp only [obs]
    rw [if_neg (by decide), f3]; simp only [obs]
    rw [if_neg (by decide), f4]; simp only [obs]
    rw [if_neg (by decide)]
theorem ck_4 (K : K1 h g) {x n t : Nat} (P : prR g [I3 x]) (x1 : x < nH g) (n1 : n ≤ (hpl g x).length) (t1 : t < nT g) (c : Int64) : Ck g 4 (I3 n) (I3 t) c (hrs g x) ((hpl g x).take n ++ (pl g t ++ (hpl g x).drop n)) := by
  have wT := K.2.2.1
  have w300 : nT g ≤ 300 := wT.1.2
  have w500 : nH g ≤ 500 := K.2.2.2.2.1.1.2
  have m10 := mn_10 K x1
  have hl := hpl_len g x
  have m10t : tM g t ≤ 10 := (wT.2.1 t t1).2.1.2
  have t10 : (pl g t).length ≤ 10 := by rw [pl_len]; exact m10t
  have R : F_336 (I3 4) (I3 n) (I3 t) c g = (F_318_0 (I3 n) (I3 t) g).bind fun q6 => some (q6.1, q6.2) := B336_4 _ _ _
  have ld : ldI g 69 24 0 = some (I3 x) := prR_ld P (k := 0) (by simp)
  unfold F_318_0 at R
  rw [if_pos (show g.1 67 3 = 1 from P.1), show F_314 0 1 g = some (b2 (aH g [I3 x] 1), g) from R_areH K.2.2.2.2.1 P (n := 1) (by simp), aH1_ok w500 x1] at R; simp only [obs] at R
  rw [if_neg (by decide), R_isT wT, inR_I (by omega), decide_eq_true t1] at R; simp only [obs] at R
  rw [if_neg (by decide), ld] at R; simp only [obs] at R
  rw [R_mn K x1] at R; simp only [obs] at R
  rw [R_out' (by omega), inR_I (by omega), decide_eq_true (by omega)] at R; simp only [obs] at R
  rw [if_pos (by decide), ldI_I (by omega) (by omega), (wT.2.1 t t1).2.1.1] at R; simp only [obs] at R
  by_cases q : tM g t = 0
  · rw [if_pos (show I3 (tM g t) = (0 : Int32) from congrArg I3 q)] at R
    refine Or.inr ⟨x, g, R, x1, rfl, ?_⟩
    have : pl g t = [] := List.eq_nil_of_length_eq_zero (by rw [pl_len]; exact q)
    rw [this, List.nil_append, List.take_append_drop]
  · rw [if_neg (show ¬ I3 (tM g t) = 0 by rw [I3_lit, I3_inj (by omega) (by decide)]; exact q)] at R
    obtain ⟨g0, y1, E0⟩ := E_clear K (hrs g x)
    obtain ⟨g1, y2, E1⟩ := E_places E0 (i := 0) (j := n) x1 (by omega) (by decide) (by omega)
    rw [List.nil_append, Nat.sub_zero, seg_take (by omega)] at E1
    obtain ⟨g2, y3, E2⟩ := E_type E1 t1 (by rw [List.length_take]; omega)
    obtain ⟨g3, y4, E3⟩ := E_places E2 (i := n) (j := tM g (ty g x)) x1 (Nat.le_refl _) (by rw [List.length_append, List.length_take]; omega) (by omega)
    rw [seg_drop (L := hpl g x) (by omega), List.append_assoc] at E3
    refine Or.inl ⟨g3, ?_, E3.d, E3.r⟩
    rw [R, R_rs K x1]; simp only [obs]
    rw [y1]; simp only [obs]
    rw [show F_310 (I3 x) 0 (I3 n) g0 = some g1 from y2]; simp only [obs]
    rw [y3]; simp only [obs]
    rw [E_many E2 x1]; simp only [obs]
    rw [y4]; rfl
theorem ck_as (K : K1 h g) {x t : Nat} (P : prR g [I3 x]) (x1 : x < nH g) (t1 : t < nT g) (f : Bool) (m : mayAs g (ty g x) t f) (a : Int32) (c : Int64) : Ck g (bif f then 13 else 12) a (I3 t) c (rs g t) (pl g t) := by
  have wT := K.2.2.1
  have w300 : nT g ≤ 300 := wT.1.2
  have w500 : nH g ≤ 500 := K.2.2.2.2.1.1.2
  have ld : ldI g 69 24 0 = some (I3 x) := prR_ld P (k := 0) (by simp)
  have tx := ty_lt K x1
  have key : ∀ X : Option (Int32 × sm_H), X = (F_327_0 (I3 t) (b2 f) g).bind (fun q14 => some (q14.1, q14.2)) → (∃ u, X = some (0, u) ∧ dR u (pl g t) ∧ u.1 67 20 = rs g t) ∨ ∃ y u, X = some (-1 - I3 y, u) ∧ y < nH g ∧ hrs g y = rs g t ∧ hpl g y = pl g t := fun X R => by
    unfold F_327_0 at R
    rw [if_pos (show g.1 67 3 = 1 from P.1), show F_314 0 1 g = some (b2 (aH g [I3 x] 1), g) from R_areH K.2.2.2.2.1 P (n := 1) (by simp), aH1_ok w500 x1] at R; simp only [obs] at R
    rw [if_neg (by decide), R_isT wT, inR_I (by omega), decide_eq_true t1] at R; simp only [obs] at R
    rw [if_neg (by decide), ld] at R; simp only [obs] at R
    rw [R_mayAs K x1 t1 f, asB_ok m] at R; simp only [obs] at R
    rw [if_neg (by decide), R_ty K x1] at R; simp only [obs] at R
    by_cases q : t = ty g x
    · rw [if_pos (by rw [q])] at R
      exact Or.inr ⟨x, g, R, x1, by rw [q], by rw [q]⟩
    · rw [if_neg (by rw [I3_inj (by omega) (by omega)]; exact fun z => q z.symm), ldI_I (by omega) (by omega)] at R; simp only [obs] at R
      obtain ⟨g0, y1, E0⟩ := E_clear K (rs g t)
      obtain ⟨g1, y2, E1⟩ := E_type E0 t1 (by decide)
      rw [List.nil_append] at E1
      refine Or.inl ⟨g1, ?_, E1.d, E1.r⟩
      rw [R, y1]; simp only [obs]
      rw [y2]; rfl
  cases f
  · exact key _ (B336_12 _ _ _)
  · exact key _ (B336_13 _ _ _)
theorem ck_8 (K : K1 h g) {x y n : Nat} (P : prR g [I3 x, I3 y]) (x1 : x < nH g) (y1 : y < nH g) (n1 : n + gone (hrs g y) ≤ (hpl g x).length) (kd : hrs g y ≠ 0 → at0 (hpl g x) n = hrs g y) (pr : pre (hpl g y) (((hpl g x).take n ++ (hpl g x).drop (n + gone (hrs g y))).drop n)) (b : Int32) (c : Int64) : Ck g 8 (I3 n) b c (hrs g x) ((hpl g x).take n ++ (hpl g x).drop (n + gone (hrs g y))) := by
  have w500 : nH g ≤ 500 := K.2.2.2.2.1.1.2
  have m10 := mn_10 K x1
  have m10y := mn_10 K y1
  have hl := hpl_len g x
  have gv1 := gone_1 (hrs g y)
  have ld : ldI g 69 24 0 = some (I3 x) := prR_ld P (k := 0) (by simp)
  have ld' : ldI g 69 24 1 = some (I3 y) := prR_ld P (k := 1) (by simp)
  have R : F_336 (I3 8) (I3 n) b c g = (F_322_0 (I3 n) g).bind fun q10 => some (q10.1, q10.2) := B336_8 _ _ _
  unfold F_322_0 at R
  rw [if_pos (show g.1 67 3 = 2 from P.1), show F_314 0 2 g = some (b2 (aH g [I3 x, I3 y] 2), g) from R_areH K.2.2.2.2.1 P (n := 2) (by simp), aH_ok w500 (fun k hk => by
    rcases (show k = 0 ∨ k = 1 by omega) with rfl | rfl
    · exact ⟨x, x1, rfl⟩
    · exact ⟨y, y1, rfl⟩)] at R; simp only [obs] at R
  rw [if_neg (by decide), ld] at R; simp only [obs] at R
  rw [ld'] at R; simp only [obs] at R
  rw [R_rs K y1] at R; simp only [obs] at R
  rw [gv_if (g := g) (y := y) (fun v => F_322_46 (I3 n) (I3 x) (I3 y) v g)] at R
  unfold F_322_46 at R
  rw [R_mn K x1] at R; simp only [obs] at R
  rw [R_mis K (I3 n) x1 (y := y), inR_I (by omega), decide_eq_true (by omega)] at R; simp only [obs] at R
  rw [if_pos (by decide)] at R
  have RR : F_336 (I3 8) (I3 n) b c g = (F_322_90 (I3 n) (I3 x) (I3 y) (I3 (gone (hrs g y))) g).bind fun q => some (q.1, q.2) := by
    rw [R]
    by_cases q : hrs g y = 0
    · rw [if_neg (show ¬ I3 (gone (hrs g y)) = 1 by rw [gone_0 q]; decide)]
    · rw [if_pos (show I3 (gone (hrs g y)) = 1 by rw [gone_n q]; rfl), R_pc K x1 (by rw [gone_n q] at n1; omega)]; simp only [obs]
      rw [R_rs K y1]; simp only [obs]
      rw [if_pos (kd q)]
  unfold F_322_90 at RR
  rw [R_rs K x1] at RR; simp only [obs] at RR
  obtain ⟨g0, f1, E0⟩ := E_clear K (hrs g x)
  obtain ⟨g1, f2, E1⟩ := E_places E0 (i := 0) (j := n) x1 (by omega) (by decide) (by omega)
  rw [List.nil_append, Nat.sub_zero, seg_take (by omega)] at E1
  obtain ⟨g3, f4, E3⟩ := E_places E1 (i := n + gone (hrs g y)) (j := tM g (ty g x)) x1 (Nat.le_refl _) (by rw [List.length_take]; omega) (by omega)
  rw [seg_drop (L := hpl g x) (by omega)] at E3
  rw [f1] at RR; simp only [obs] at RR
  rw [show F_310 (I3 x) 0 (I3 n) g0 = some g1 from f2] at RR; simp only [obs] at RR
  rw [E_many E1 x1] at RR; simp only [obs] at RR
  rw [I3_add, f4] at RR; simp only [obs] at RR
  have F1 := R_areFirst E3 (i := 0) (j := n) y1 (by omega) (by omega) (by rw [List.length_append, List.length_take, List.length_drop]; omega)
  rw [fitB_ok (by rw [List.drop_zero]; exact pr)] at F1
  rw [show F_312 (I3 y) 0 (I3 n) g3 = some (1, g3) from F1] at RR; simp only [obs] at RR
  exact Or.inl ⟨g3, RR, E3.d, E3.r⟩
theorem ck_14 (K : K1 h g) {x y z : Nat} (P : prR g [I3 x, I3 y, I3 z]) (x1 : x < nH g) (y1 : y < nH g) (z1 : z < nH g) (et : ty g y = ty g z) (ez : hrs g x = 1) (pr : pre (hpl g x) (hpl g y)) (a b : Int32) (c : Int64) : Ck g 14 a b c (hrs g y) (hpl g y) := by
  have w500 : nH g ≤ 500 := K.2.2.2.2.1.1.2
  have m10y := mn_10 K y1
  have l0 : ldI g 69 24 0 = some (I3 x) := prR_ld P (k := 0) (by simp)
  have l1 : ldI g 69 24 1 = some (I3 y) := prR_ld P (k := 1) (by simp)
  have l2 : ldI g 69 24 2 = some (I3 z) := prR_ld P (k := 2) (by simp)
  have R : F_336 (I3 14) a b c g = (F_328_0 g).bind fun q16 => some (q16.1, q16.2) := B336_14 _ _ _
  unfold F_328_0 at R
  rw [if_pos (show g.1 67 3 = 3 from P.1), show F_314 0 3 g = some (b2 (aH g [I3 x, I3 y, I3 z] 3), g) from R_areH K.2.2.2.2.1 P (n := 3) (by simp), aH_ok w500 (fun k hk => by
    rcases (show k = 0 ∨ k = 1 ∨ k = 2 by omega) with rfl | rfl | rfl
    · exact ⟨x, x1, rfl⟩
    · exact ⟨y, y1, rfl⟩
    · exact ⟨z, z1, rfl⟩)] at R; simp only [obs] at R
  rw [if_neg (by decide), l0] at R; simp only [obs] at R
  rw [l1] at R; simp only [obs] at R
  rw [R_ty K y1] at R; simp only [obs] at R
  rw [l2] at R; simp only [obs] at R
  rw [R_ty K z1] at R; simp only [obs] at R
  rw [if_pos (by rw [et]), R_rs K x1] at R; simp only [obs] at R
  rw [if_pos ez, R_rs K y1] at R; simp only [obs] at R
  obtain ⟨g0, f1, E0⟩ := E_clear K (hrs g y)
  obtain ⟨g1, f2, E1⟩ := E_all E0 y1 (by decide)
  rw [List.nil_append] at E1
  rw [f1] at R; simp only [obs] at R
  rw [E_many E0 y1] at R; simp only [obs] at R
  rw [f2] at R; simp only [obs] at R
  have F1 := R_areFirst E1 (i := 0) (j := 0) x1 (by omega) (by omega) (by omega)
  rw [fitB_ok (by rw [List.drop_zero, List.drop_zero]; exact pr)] at F1
  rw [show F_312 (I3 x) 0 0 g1 = some (1, g1) from F1] at R; simp only [obs] at R
  exact Or.inl ⟨g1, R, E1.d, E1.r⟩
theorem ck_15 (K : K1 h g) {x y : Nat} {m : List Int32} (P : prR g [I3 x, I3 y]) (x1 : x < nH g) (y1 : y < nH g) (ep : hpl g y = 19 :: m) (pr : pre m (hpl g x)) (er : hrs g y = hrs g x) (b : Int32) (c : Int64) : Ck g 15 19 b c (hrs g x) (hpl g x) := by
  have w500 : nH g ≤ 500 := K.2.2.2.2.1.1.2
  have m10 := mn_10 K x1
  have h12 := K.1.2.1
  have hly := hpl_len g y
  have l0 : ldI g 69 24 0 = some (I3 x) := prR_ld P (k := 0) (by simp)
  have l1 : ldI g 69 24 1 = some (I3 y) := prR_ld P (k := 1) (by simp)
  have R : F_336 (I3 15) 19 b c g = (F_329_0 19 g).bind fun q17 => some (q17.1, q17.2) := B336_15 _ _ _
  unfold F_329_0 at R
  rw [if_pos (show g.1 67 3 = 2 from P.1), show F_314 0 2 g = some (b2 (aH g [I3 x, I3 y] 2), g) from R_areH K.2.2.2.2.1 P (n := 2) (by simp), aH_ok w500 (fun k hk => by
    rcases (show k = 0 ∨ k = 1 by omega) with rfl | rfl
    · exact ⟨x, x1, rfl⟩
    · exact ⟨y, y1, rfl⟩)] at R; simp only [obs] at R
  rw [if_neg (by decide), show F_289 19 g = some (1, g) from kdK K (k := 19) (by omega)] at R; simp only [obs] at R
  rw [if_neg (by decide), show F_295 19 19 g = some (b2 (B g 19 19), g) from R_below19 K.1 (x := 19) (by omega), show B g 19 19 = true from B_self g 12 19] at R; simp only [obs] at R
  rw [if_neg (by decide), l0] at R; simp only [obs] at R
  rw [l1] at R; simp only [obs] at R
  rw [R_rs K x1] at R; simp only [obs] at R
  obtain ⟨g0, f1, E0⟩ := E_clear K (hrs g x)
  obtain ⟨g1, f2, E1⟩ := E_all E0 x1 (by decide)
  rw [List.nil_append] at E1
  have ly : (hpl g y).length = m.length + 1 := by rw [ep]; rfl
  rw [f1] at R; simp only [obs] at R
  rw [E_many E0 x1] at R; simp only [obs] at R
  rw [f2] at R; simp only [obs] at R
  rw [E_many E1 y1] at R; simp only [obs] at R
  rw [if_neg (show ¬ I3 (tM g (ty g y)) ≤ 0 by
    have := mn_10 K y1
    rw [I3_lit, I3_le (by omega) (by decide)]; omega), show F_306 (I3 y) 0 g1 = some (at0 (hpl g y) 0, g1) from E_place E1 y1 (k := 0) (by omega), show at0 (hpl g y) 0 = 19 by rw [ep]; rfl] at R; simp only [obs] at R
  rw [if_pos trivial, E_result E1 y1] at R; simp only [obs] at R
  rw [E_result E1 x1] at R; simp only [obs] at R
  have F1 := R_areFirst E1 (i := 1) (j := 0) y1 (by omega) (by omega) (by omega)
  rw [fitB_ok (by rw [List.drop_zero, ep]; exact pr)] at F1
  rw [if_pos er, show F_312 (I3 y) 1 0 g1 = some (1, g1) from F1] at R; simp only [obs] at R
  exact Or.inl ⟨g1, R, E1.d, E1.r⟩
theorem ck_5 (K : K1 h g) {x t i : Nat} {k : Int32} (P : prR g [I3 x, I3 i]) (x1 : x < nH g) (f2 : fm g x = 2) (hx : hpl g x = [k]) (rx : hrs g x = k) (t1 : t < nT g) (rt : rs g t = k) (i1 : i < (pl g t).length) (pi : at0 (pl g t) i = k) (a : Int32) (c : Int64) : Ck g 5 a (I3 t) c (rs g t) (pl g t) := by
  have wT := K.2.2.1
  have w300 : nT g ≤ 300 := wT.1.2
  have w500 : nH g ≤ 500 := K.2.2.2.2.1.1.2
  have m10t : tM g t ≤ 10 := (wT.2.1 t t1).2.1.2
  have tl := pl_len g t
  have hl := hpl_len g x
  rw [hx] at hl
  have hl : tM g (ty g x) = 1 := hl.symm
  have tx := ty_lt K x1
  have l0 : ldI g 69 24 0 = some (I3 x) := prR_ld P (k := 0) (by simp)
  have l1 : ldI g 69 24 1 = some (I3 i) := prR_ld P (k := 1) (by simp)
  have e3 : g.1 67 3 = I3 2 := P.1
  have R : F_336 (I3 5) a (I3 t) c g = (F_319_0 (I3 t) g).bind fun q7 => some (q7.1, q7.2) := B336_5 _ _ _
  have le21 : ¬ g.1 67 3 ≤ 1 := by rw [e3]; decide
  have le22 : g.1 67 3 ≤ 2 := by rw [e3]; decide
  unfold F_319_0 at R
  rw [if_neg (show ¬ g.1 67 3 < 1 by rw [e3]; decide), show F_314 0 1 g = some (b2 (aH g [I3 x, I3 i] 1), g) from R_areH K.2.2.2.2.1 P (n := 1) (by simp), aH_ok w500 (fun k hk => by
    have e : k = 0 := by omega
    subst e
    exact ⟨x, x1, rfl⟩)] at R; simp only [obs] at R
  rw [if_neg (by decide), R_isT wT, inR_I (by omega), decide_eq_true t1] at R; simp only [obs] at R
  rw [if_neg (by decide), l0] at R; simp only [obs] at R
  rw [R_mn K x1, hl] at R; simp only [obs] at R
  rw [if_pos (show g.1 67 3 = 1 + I3 1 by rw [e3]; decide)] at R
  obtain ⟨g0, y1, E0⟩ := E_clear K (rs g t)
  obtain ⟨g1, y2, E1⟩ := E_type E0 t1 (by decide)
  rw [List.nil_append] at E1
  have one : (1 : Int32) + 1 = 2 := by decide
  have fin : ∀ z : Int32, z = 0 ∨ z = 1 → lp F_319_294B 1000000 (I3 t, I3 x, z, 1, g) = some (0, g1) ∨ (z = 1 ∧ lp F_319_294B 1000000 (I3 t, I3 x, z, 1, g) = some (-1 - I3 x, g)) := fun z hz => by
    have s0 : F_319_294B (I3 t, I3 x, 0, 2, g) = some (.inr (0, g1)) := by
      unfold F_319_294B
      rw [if_pos le22, if_pos rfl, ldI_I (by omega) (by omega)]; simp only [obs]
      rw [y1]; simp only [obs]
      rw [y2]; rfl
    have s1 : F_319_294B (I3 t, I3 x, 1, 2, g) = some (.inr (-1 - I3 x, g)) := by
      unfold F_319_294B
      rw [if_pos le22, if_neg (show ¬ (1 : Int32) = 0 by decide)]; rfl
    rcases hz with rfl | rfl
    · left
      rw [lp_s (s' := (I3 t, I3 x, 0, 2, g)) (by decide) (by
        unfold F_319_294B F_319_325 F_319_326
        rw [if_neg le21, if_pos rfl]; rfl)]
      exact lp_e (by decide) s0
    · by_cases q : I3 i = 1 - 1
      · right
        refine ⟨rfl, ?_⟩
        rw [lp_s (s' := (I3 t, I3 x, 1, 2, g)) (by decide) (by
          unfold F_319_294B F_319_325 F_319_326
          rw [if_neg le21, if_neg (show ¬ (1 : Int32) = 0 by decide), l1]; simp only [obs]
          rw [if_pos q]; rfl)]
        exact lp_e (by decide) s1
      · left
        rw [lp_s (s' := (I3 t, I3 x, 0, 2, g)) (by decide) (by
          unfold F_319_294B F_319_325 F_319_326
          rw [if_neg le21, if_neg (show ¬ (1 : Int32) = 0 by decide), l1]; simp only [obs]
          rw [if_neg q]; rfl)]
        exact lp_e (by decide) s0
  have R275 : F_319_275 (I3 t) (I3 x) g = some (0, g1) ∨ (t = ty g x ∧ F_319_275 (I3 t) (I3 x) g = some (-1 - I3 x, g)) := by
    unfold F_319_275 F_319_290
    rw [R_ty K x1]; simp only [obs]
    by_cases q : t = ty g x
    · rw [if_pos (by rw [q])]
      rcases fin 1 (Or.inr rfl) with z | ⟨-, z⟩
      · exact Or.inl z
      · exact Or.inr ⟨q, z⟩
    · rw [if_neg (by rw [I3_inj (by omega) (by omega)]; exact fun z => q z.symm)]
      rcases fin 0 (Or.inl rfl) with z | ⟨z, -⟩
      · exact Or.inl z
      · exact absurd z (by decide)
  have b112 : ∀ q, F_319_275 (I3 t) (I3 x) g = some q → F_319_55 (I3 t) (I3 x) 1 g = some q := fun q hq => by
    have t112 : F_319_112 (I3 t) (I3 x) 1 g = some q := by
      show lp F_319_112B 1000000 (I3 t, I3 x, 1, g) = _
      rw [lp_s (s' := (I3 t, I3 x, 2, g)) (by decide) (by
        unfold F_319_112B
        rw [if_neg le21, l1]; simp only [obs]
        rw [show (10 : Int32) * I3 t + I3 i = I3 (10 * t + i) by rw [I3_lit, I3_mul, I3_add], ldI_I (by omega) (by omega)]; simp only [obs]
        rw [show F_306 (I3 x) (1 - 1) g = some (at0 (hpl g x) 0, g) from R_pc K x1 (k := 0) (by rw [hx]; exact Nat.one_pos)]; simp only [obs]
        rw [if_pos (show g.1 74 (10 * t + i) = at0 (hpl g x) 0 by
          rw [hx]
          have := pi
          rw [at0_lst (by omega)] at this; exact this)]; rfl)]
      refine lp_e (by decide) ?_
      unfold F_319_112B
      rw [if_pos le22, R_fm K x1, f2]; simp only [obs]
      rw [if_neg (show ¬ I3 2 = (5 : Int32) by decide), hq]; rfl
    show lp F_319_55B 1000000 (I3 t, I3 x, 1, g) = _
    rw [lp_s (s' := (I3 t, I3 x, 2, g)) (by decide) (by
      unfold F_319_55B
      rw [if_neg le21, l1]; simp only [obs]
      rw [ldI_I (by omega) (by omega), (wT.2.1 t t1).2.1.1]; simp only [obs]
      rw [show I3 (tM g t) - 1 = I3 (tM g t) - I3 1 from rfl, show F_315 (I3 i).toInt64 0 (I3 (tM g t) - I3 1).toInt64 g = some (b2 (!inR (I3 i) (tM g t)), g) from R_outI (by omega) (I3 i), inR_I (by omega), decide_eq_true (by omega)]; simp only [obs]
      rw [if_pos (by decide)]; rfl)]
    refine lp_e (by decide) ?_
    unfold F_319_55B
    rw [if_pos le22, ldI_I (by omega) (by omega)]; simp only [obs]
    rw [R_rs K x1]; simp only [obs]
    rw [if_pos (show g.1 72 t = hrs g x from rt.trans rx.symm), t112]; rfl
  rw [l0] at R; simp only [obs] at R
  rcases R275 with z | ⟨z1, z⟩
  · rw [b112 _ z] at R
    exact Or.inl ⟨g1, R, E1.d, E1.r⟩
  · rw [b112 _ z] at R
    exact Or.inr ⟨x, g, R, x1, by rw [z1], by rw [z1]⟩
theorem ck_18 (K : K1 h g) {ps : List Int32} (P : prR g ps) {t : Nat} (t1 : t < nT g) (q : ps.length ≠ 0) (q4 : ps.length % 4 = 0) (q16 : ps.length ≤ 16) (ok : okP g ps = true) (lb : lpB g ps t (ps.length / 4) = true) (a : Int32) (c : Int64) : Ck g 18 a (I3 t) c (rs g t) (pl g t) := by
  have wT := K.2.2.1
  have wH := K.2.2.2.2.1
  have w500 : nH g ≤ 500 := wH.1.2
  have w300 : nT g ≤ 300 := wT.1.2
  have m4 := mod4 ps.length (by omega)
  have R : F_336 (I3 18) a (I3 t) c g = ((F_333_0 (I3 t) g).bind fun q => some (q.1, q.2)) := B336_18 _ _ _
  unfold F_333_0 F_333_33 at R
  rw [R_isT wT, inR_I (by omega), decide_eq_true t1] at R; simp only [obs] at R
  rw [P.1] at R
  rw [if_neg (by decide), if_neg (by rw [I3_lit, I3_inj (by omega) (by decide)]; exact q), if_neg (by decide), if_pos (of_decide_eq_true (m4.trans (decide_eq_true q4))), if_pos (by rw [I3_lit, I3_le (by omega) (by decide)]; exact q16)] at R
  obtain ⟨g0, f1, E0⟩ := E_clear K (rs g t)
  have R37 : F_333_37 (I3 t) 0 g = bif okP g ps then F_333_90 (I3 t) 0 0 g0 else some (1, g) := by
    have L := lp_allO (body := F_333_37B) (fun k => inR (at0 ps k) (nH g) || (true && decide (at0 ps k = -1))) ps.length (fun k => (I3 t, I3 k, g)) (1, g) (F_333_90 (I3 t) 0 0 g0) (f := 1000000) (by omega) (fun k hk e => ?_) (fun k hk e => ?_) ?_
    · exact L
    · show F_333_37B (I3 t, I3 k, g) = _
      unfold F_333_37B F_333_70
      rw [if_neg (by rw [P.1, I3_le (by omega) (by omega)]; omega), prR_ld P hk]; simp only [obs]
      rw [show I3 k + 1 = I3 (k + 1) from I3_add k 1]
      by_cases q1 : at0 ps k = -1
      · rw [if_pos q1]
      · rw [if_neg q1, R_isHg wH]; simp only [obs]
        rw [decide_eq_false q1, Bool.and_false, Bool.or_false] at e
        rw [e, if_neg (by decide)]
    · show F_333_37B (I3 t, I3 k, g) = _
      unfold F_333_37B F_333_70
      rw [if_neg (by rw [P.1, I3_le (by omega) (by omega)]; omega), prR_ld P hk]; simp only [obs]
      rw [Bool.or_eq_false_iff, Bool.true_and, decide_eq_false_iff_not] at e
      rw [if_neg e.2, R_isHg wH, e.1]; simp only [obs]
      rw [if_pos (by decide)]
    · show F_333_37B (I3 t, I3 ps.length, g) = _
      unfold F_333_37B
      rw [if_pos (by rw [P.1, I3_le (by omega) (by omega)]; omega), ldI_I (by omega) (by omega)]; simp only [obs]
      rw [show F_308 (g.1 72 t) g = some g0 from f1]; simp only [obs]
  rw [R37, ok, cond_true] at R
  have L := LP_of K q q4 q16 ok
  obtain ⟨r, r1, r2⟩ := R_pass1 K E0 L P t1
  rw [r1] at R
  rcases r2 with ⟨l1, l2, l3⟩ | ⟨l1, l2, l3⟩
  · refine Or.inl ⟨r.2, ?_, l3.d, l3.r⟩
    rw [R]; show some (r.1, r.2) = _; rw [l2]
  · rw [lb] at l1; cases l1
end
theorem stI57 {h : sm_H} {k : Nat} {x : Int32} (hk : k < 20) : sm_stI G0 h 57 (I3 k) x = some (sm_wI h 57 k x) := by
  show (if sm_in (I3 k) 20 then some (sm_wI h 57 (I3 k).toNatClampNeg x) else none) = _
  rw [if_pos (sm_in_I3 hk (by decide)), I3_clamp (by omega)]
abbrev S56 (b j : Nat) : Prop := b = 56 ∧ j = 1 ∨ b = 57
theorem C_app56 {h : sm_H} {ps : List Int32} (r : hasL h 56 57 ps) (hl : ps.length < 20) (x : Int32) : ∃ h1, F_139 56 x h = some (1, h1) ∧ hasL h1 56 57 (ps ++ [x]) ∧ agr S56 h h1 := by
  refine ⟨sm_wI (sm_wI h 57 ps.length x) 56 1 (I3 (ps.length + 1)), ?_, ⟨?_, ?_, fun k hk => ?_⟩, agr_wI (agr_wI agr_rfl (Or.inr rfl)) (Or.inl ⟨rfl, rfl⟩)⟩
  · show F_139_0 56 x h = _
    unfold F_139_0
    rw [if_pos (show sm_is G0 h 56 5 = true from rfl), r.1, if_pos (by rw [I3_lit, I3_lt (by omega) (by decide)]; exact hl), if_pos (show sm_is G0 h 56 5 = true from rfl), show sm_rr G0 h 56 0 = some 57 from rfl]; simp only [obs]
    rw [if_pos (show sm_is G0 h 56 5 = true from rfl), stI57 hl]; simp only [obs]
    rw [if_pos (show sm_is G0 (sm_wI h 57 ps.length x) 56 5 = true from rfl), if_pos (show sm_is G0 (sm_wI h 57 ps.length x) 56 5 = true from rfl), show (sm_wI h 57 ps.length x).1 56 1 = h.1 56 1 from rfl, r.1, show I3 ps.length + 1 = I3 (ps.length + 1) from I3_add _ 1]
  · rw [List.length_append]; rfl
  · rw [List.length_append]; show ps.length + 1 ≤ 20; omega
  · rw [List.length_append] at hk
    have hk : k < ps.length + 1 := hk
    show (if k = ps.length then x else h.1 57 k) = _
    by_cases q : k = ps.length
    · rw [if_pos q, q]
      unfold at0; rw [List.getD_eq_getElem?_getD, List.getElem?_append_right (Nat.le_refl _), Nat.sub_self]; rfl
    · rw [if_neg q, r.2.2 k (by omega)]
      unfold at0; rw [List.getD_eq_getElem?_getD, List.getD_eq_getElem?_getD, List.getElem?_append_left (by omega)]
theorem C_one56 (h : sm_H) (x : Int32) : ∃ h1, F_140 56 x h = some (56, h1) ∧ hasL h1 56 57 [x] ∧ agr S56 h h1 := by
  have r : hasL (sm_wI h 56 1 0) 56 57 [] := ⟨rfl, by decide, fun k hk => by cases hk⟩
  obtain ⟨h1, c1, c2, c3⟩ := C_app56 r (by decide) x
  refine ⟨h1, ?_, c2, agr_trans (agr_wI agr_rfl (Or.inl ⟨rfl, rfl⟩)) c3⟩
  show F_140_0 56 x h = _
  unfold F_140_0
  rw [if_neg (not_not_intro (show sm_is G0 h 56 5 = true from rfl)), show F_138 56 h = some (sm_wI h 56 1 0) from rfl]; simp only [obs]
  rw [if_neg (not_not_intro (show sm_is G0 (sm_wI h 56 1 0) 56 5 = true from rfl)), c1]; rfl
theorem C_two56 (h : sm_H) (x y : Int32) : ∃ h1, F_141 56 x y h = some (56, h1) ∧ hasL h1 56 57 [x, y] ∧ agr S56 h h1 := by
  have r : hasL (sm_wI h 56 1 0) 56 57 [] := ⟨rfl, by decide, fun k hk => by cases hk⟩
  obtain ⟨h1, c1, c2, c3⟩ := C_app56 r (by decide) x
  obtain ⟨h2, d1, d2, d3⟩ := C_app56 c2 (by simp) y
  refine ⟨h2, ?_, d2, agr_trans (agr_trans (agr_wI agr_rfl (Or.inl ⟨rfl, rfl⟩)) c3) d3⟩
  show F_141_0 56 x y h = _
  unfold F_141_0
  rw [if_neg (not_not_intro (show sm_is G0 h 56 5 = true from rfl)), show F_138 56 h = some (sm_wI h 56 1 0) from rfl]; simp only [obs]
  rw [if_neg (not_not_intro (show sm_is G0 (sm_wI h 56 1 0) 56 5 = true from rfl)), c1]; simp only [obs]
  rw [if_neg (not_not_intro (show sm_is G0 h1 56 5 = true from rfl)), d1]; rfl
abbrev SCq (b j : Nat) : Prop := SCb b j ∨ b = 56 ∨ b = 57 ∨ (b = 55 ∧ (j = 17 ∨ j = 18))
abbrev SRq (b j : Nat) : Prop := SRb b j ∨ (b = 67 ∧ (j = 77 ∨ j = 78))
def TK (h g h1 g1 : sm_H) : Prop := K1 h1 g1 ∧ ext g g1 ∧ grow g g1 ∧ agr SCq h h1 ∧ agr SRq g g1
theorem TK_mk {h g h1 g1 : sm_H} (k : K1 h1 g1) (e : ext g g1) (r : grow g g1) (c : agr SCq h h1) (a : agr SRq g g1) : TK h g h1 g1 := ⟨k, e, r, c, a⟩
theorem TK.k {h g h1 g1 : sm_H} (t : TK h g h1 g1) : K1 h1 g1 := t.1
theorem TK.e {h g h1 g1 : sm_H} (t : TK h g h1 g1) : ext g g1 := t.2.1
theorem TK.r {h g h1 g1 : sm_H} (t : TK h g h1 g1) : grow g g1 := t.2.2.1
theorem TK.c {h g h1 g1 : sm_H} (t : TK h g h1 g1) : agr SCq h h1 := t.2.2.2.1
theorem TK.a {h g h1 g1 : sm_H} (t : TK h g h1 g1) : agr SRq g g1 := t.2.2.2.2
theorem TK_rfl {h g : sm_H} (K : K1 h g) : TK h g h g := ⟨K, ext_rfl, grow_rfl, agr_rfl, agr_rfl⟩
theorem TK_trans {h g h1 g1 h2 g2 : sm_H} (a : TK h g h1 g1) (b : TK h1 g1 h2 g2) : TK h g h2 g2 := ⟨b.1, ext_trans a.2.1 b.2.1, grow_trans a.2.2.1 b.2.2.1, agr_trans a.2.2.2.1 b.2.2.2.1, agr_trans a.2.2.2.2 b.2.2.2.2⟩
theorem TK.hrs {h g h1 g1 : sm_H} (t : TK h g h1 g1) {h' : sm_H} (K : K1 h' g) {x : Nat} (hx : x < nH g) : hrs g1 x = hrs g x := ext_hrs K.2.2.2.2.1 t.e hx
theorem TK.hpl {h g h1 g1 : sm_H} (t : TK h g h1 g1) {h' : sm_H} (K : K1 h' g) {x : Nat} (hx : x < nH g) : hpl g1 x = hpl g x := ext_hpl K.2.2.2.2.1 t.e hx
theorem TK.nH {h g h1 g1 : sm_H} (t : TK h g h1 g1) {x : Nat} (hx : x < nH g) : x < nH g1 := Nat.lt_of_lt_of_le hx t.r.2.2.1
theorem TK.nC {h g h1 g1 : sm_H} (t : TK h g h1 g1) : nC g1 = nC g := by show tn _ = tn _; rw [t.a.1 67 6 (by unfold SRq SRb SRp SRh SRt; omega)]
def NF (h g : sm_H) : Prop := h.1 55 17 = 0 ∧ g.1 67 77 = 0 ∧ h.1 55 18 = -1 ∧ g.1 67 78 = -1
def FT (e pc : Nat) (h g : sm_H) : Prop := h.1 55 17 = I3 e ∧ h.1 55 18 = I3 pc ∧ g.1 67 77 = I3 e ∧ g.1 67 78 = I3 pc ∧ 1 ≤ e ∧ e ≤ 9
theorem K1_55 {h g : sm_H} (K : K1 h g) (j : Nat) (x : Int32) : K1 (sm_wI h 55 j x) g := by
  obtain ⟨wK, cK, wT, cT, wH, cH, wM, cM, cG, cO, cV, wX, cX, cXh, wF⟩ := K
  exact ⟨wK, cK, wT, cT, wH, cH, wM, cM, cG, cO, cV, wX, cX, cXh_fr (by repeat first | exact hi_rfl | refine hi_wI ?_ (by decide) | refine hi_wJ ?_ (by decide)) cXh, wF⟩
theorem K1_77 {h g : sm_H} (K : K1 h g) (x y : Int32) : K1 h (sm_wI (sm_wI g 67 77 x) 67 78 y) := by
  obtain ⟨wK, cK, wT, cT, wH, cH, wM, cM, cG, cO, cV, wX, cX, cXh, wF⟩ := K
  exact ⟨wK, cK, wT, cT, wH, cH, wM, cM, cG, cO, cV, wX, cX, cXh, wF⟩
theorem ext_77 (g : sm_H) (x y : Int32) : ext g (sm_wI (sm_wI g 67 77 x) 67 78 y) := by
  obtain ⟨c1, c2, c3, c4, c5, c6, c7, c8, c9, c10, c11⟩ := ext_rfl (g := g)
  exact ⟨c1, c2, c3, c4, c5, c6, c7, c8, c9, c10, c11⟩
theorem grow_77 (g : sm_H) (x y : Int32) : grow g (sm_wI (sm_wI g 67 77 x) 67 78 y) := by
  obtain ⟨c1, c2, c3, c4, c5⟩ := grow_rfl (g := g)
  exact ⟨c1, c2, c3, c4, c5⟩
theorem failB {h g : sm_H} (K : K1 h g) (nf : NF h g) {e pc : Nat} (e1 : 1 ≤ e) (e9 : e ≤ 9) : ∃ h2 g2, F_169 (I3 e) (I3 pc) h = some (-1, h2) ∧ F_413 (I3 e) (I3 pc) g = some (0, g2) ∧ TK h g h2 g2 ∧ FT e pc h2 g2 := by
  refine ⟨sm_wI (sm_wI h 55 17 (I3 e)) 55 18 (I3 pc), sm_wI (sm_wI g 67 77 (I3 e)) 67 78 (I3 pc), ?_, ?_, TK_mk (K1_77 (K1_55 (K1_55 K _ _) _ _) _ _) (ext_77 _ _ _) (grow_77 _ _ _) (agr_wI (agr_wI agr_rfl (by unfold SCq; omega)) (by unfold SCq; omega)) (agr_wI (agr_wI agr_rfl (by unfold SRq; omega)) (by unfold SRq; omega)), rfl, rfl, rfl, rfl, e1, e9⟩
  · show F_169_0 (I3 e) (I3 pc) h = _
    unfold F_169_0
    rw [if_pos nf.1]; rfl
  · show F_413_0 (I3 e) (I3 pc) g = _
    unfold F_413_0
    rw [if_pos nf.2.1]; rfl
theorem TK_fail {h g h1 g1 : sm_H} (t : TK h g h1 g1) (nf : NF h1 g1) {e pc : Nat} (e1 : 1 ≤ e) (e9 : e ≤ 9) : ∃ h2 g2, F_169 (I3 e) (I3 pc) h1 = some (-1, h2) ∧ F_413 (I3 e) (I3 pc) g1 = some (0, g2) ∧ TK h g h2 g2 ∧ FT e pc h2 g2 := by
  obtain ⟨h2, g2, a, b, c, d⟩ := failB t.k nf (pc := pc) e1 e9
  exact ⟨h2, g2, a, b, TK_trans t c, d⟩
theorem NF_agr {h g h1 g1 : sm_H} {S S' : Nat → Nat → Prop} (n : NF h g) (a : agr S h h1) (b : agr S' g g1) (z1 : ¬ S 55 17 ∧ ¬ S 55 18) (z2 : ¬ S' 67 77 ∧ ¬ S' 67 78) : NF h1 g1 := ⟨(a.1 55 17 z1.1).trans n.1, (b.1 67 77 z2.1).trans n.2.1, (a.1 55 18 z1.2).trans n.2.2.1, (b.1 67 78 z2.2).trans n.2.2.2⟩
def MkO (h g : sm_H) (pc : Nat) (rc rr : Option (Int32 × sm_H)) (r : Int32) (l : List Int32) : Prop :=
  (∃ y h1 g1, rc = some (I3 y, h1) ∧ rr = some (I3 y, g1) ∧ y < nH g1 ∧ hrs g1 y = r ∧ hpl g1 y = l ∧ TK h g h1 g1 ∧ NF h1 g1) ∨ ∃ e h1 g1, rc = some (-1, h1) ∧ rr = some (-1, g1) ∧ TK h g h1 g1 ∧ FT e pc h1 g1
def TyO (h g : sm_H) (pc : Nat) (rc rr : Option (Int32 × sm_H)) (r : Int32) (l : List Int32) : Prop :=
  (∃ t h1 g1, rc = some (I3 t, h1) ∧ rr = some (I3 t, g1) ∧ t < nT g1 ∧ rs g1 t = r ∧ pl g1 t = l ∧ l.length ≤ 10 ∧ TK h g h1 g1 ∧ NF h1 g1) ∨ ∃ e h1 g1, rc = some (-1, h1) ∧ rr = some (-1, g1) ∧ TK h g h1 g1 ∧ FT e pc h1 g1
def SCO (nm : Nat → Int64) (kd : List Int32) (h g : sm_H) : Prop := h.1 55 9 = I3 kd.length ∧ kd.length ≤ 13 ∧ g.1 67 94 = I3 (400 - kd.length) ∧ kL g kd ∧ ∀ i, i < kd.length → h.2.1 58 i = nm i ∧ h.1 59 i = at0 kd i ∧ g.2.1 117 (400 - kd.length + i) = nm i ∧ g.1 118 (400 - kd.length + i) = at0 kd i
theorem kL_grow {g g1 : sm_H} {l : List Int32} (h : nC g ≤ nC g1) (k : kL g l) : kL g1 l := fun i hi => by
  obtain ⟨q, q1, q2, q3⟩ := k i hi
  exact ⟨q, q1, q2, by omega⟩
theorem SCO_agr {nm : Nat → Int64} {kd : List Int32} {h g h1 g1 : sm_H} (S : SCO nm kd h g) {P Q : Nat → Nat → Prop} (a : agr P h h1) (b : agr Q g g1) (nc : nC g ≤ nC g1) (p : ∀ b j, P b j → ¬ (b = 55 ∧ j = 9 ∨ b = 58 ∨ b = 59)) (q : ∀ b j, Q b j → ¬ (b = 67 ∧ j = 94 ∨ b = 117 ∨ b = 118)) : SCO nm kd h1 g1 := by
  obtain ⟨s1, s2, s3, s4, s5⟩ := S
  refine ⟨(a.1 55 9 (fun z => p _ _ z (by omega))).trans s1, s2, (b.1 67 94 (fun z => q _ _ z (by omega))).trans s3, kL_grow nc s4, fun i hi => ?_⟩
  rw [a.2.1 58 i (fun z => p _ _ z (by omega)), a.1 59 i (fun z => p _ _ z (by omega)), b.2.1 117 _ (fun z => q _ _ z (by omega)), b.1 118 _ (fun z => q _ _ z (by omega))]
  exact s5 i hi
theorem SCO_TK {nm : Nat → Int64} {kd : List Int32} {h g h1 g1 : sm_H} (S : SCO nm kd h g) (t : TK h g h1 g1) : SCO nm kd h1 g1 := SCO_agr S t.c t.a (Nat.le_of_eq t.nC.symm) (fun b j z => by unfold SCq SCb Ssc SCd SCh SCt at z; omega) (fun b j z => by unfold SRq SRb SRp SRh SRt at z; omega)
theorem TK_d {h g u v : sm_H} (K : K1 h g) (a : agr SCd h u) (b : agr SRd g v) : TK h g u v := by
  have E := ext_eq (okR_SRp (agr_mono SRd_p b))
  exact TK_mk (K1_g (K1_h K (agr_mono SCd_not a)) (agr_mono SRd_not b)) E.1 E.2.1 (agr_mono (fun _ _ z => Or.inl (Or.inl (Or.inl z))) a) (agr_mono (fun _ _ z => Or.inl (Or.inl (SRd_p _ _ z))) b)
theorem scopeTy {h g : sm_H} {nm : Nat → Int64} {kd : List Int32} (K : K1 h g) (S : SCO nm kd h g) (nf : NF h g) {pc : Nat} (wh : g.1 67 106 = I3 pc) {r : Int32} (kr : kR1 g r) : TyO h g pc (F_185 r (I3 pc) h) (F_428 r g) r kd := by
  obtain ⟨s1, s2, s3, s4, s5⟩ := S
  have CL : ∀ k, k ≤ kd.length → ∃ u, F_185 r (I3 pc) h = lp F_185_9B (1000000 - k) (r, I3 pc, I3 k, u) ∧ dC u (kd.take k) ∧ agr SCd h u := by
    intro k
    induction k with
    | zero =>
      intro _
      obtain ⟨u, b1, b2', b3⟩ := C_begin h
      refine ⟨u, ?_, b2', b3⟩
      show F_185_0 r (I3 pc) h = _
      unfold F_185_0
      rw [b1]; rfl
    | succ k ih =>
      intro hk
      obtain ⟨u, e1, d1, a1⟩ := ih (by omega)
      obtain ⟨u2, c1, c2, c3⟩ := C_with d1 (by rw [List.length_take]; omega) (at0 kd k)
      refine ⟨u2, ?_, ?_, agr_trans a1 c3⟩
      · rw [e1, lp_s (s' := (r, I3 pc, I3 (k + 1), u2)) (by omega) ?_]
        · rw [show 1000000 - k - 1 = 1000000 - (k + 1) by omega]
        · unfold F_185_9B
          rw [if_neg (by rw [a1.1 55 9 (by unfold SCd; omega), s1, I3_le (by omega) (by omega)]; omega), if_neg (by rw [I3_lit, I3_le (by decide) (by omega)]; omega), ldI_I (by omega) (by decide), a1.1 59 k (by unfold SCd; omega), (s5 k (by omega)).2.1]; simp only [obs]
          rw [c1]; simp only [obs]
          rw [show I3 k + 1 = I3 (k + 1) from I3_add k 1]
      · rw [List.take_succ_eq_append_getElem (by omega), ← at0_get (by omega)]; exact c2
  obtain ⟨u, e1, d1, a1⟩ := CL kd.length (Nat.le_refl _)
  rw [List.take_length] at d1
  have C0 : F_185 r (I3 pc) h = F_185_42 r (I3 pc) u := by
    rw [e1, lp_oK (by omega)]
    unfold F_185_9B
    rw [if_pos (by rw [a1.1 55 9 (by unfold SCd; omega), s1, I3_le (by omega) (by omega)]; omega)]
    cases F_185_42 r (I3 pc) u <;> rfl
  have RL : ∀ k, k ≤ kd.length → k ≤ 11 → ∃ v, F_428 r g = lp F_428_15B (1000000 - k) (I3 (400 - kd.length + k), v) ∧ dR v (kd.take k) ∧ agr SRd g v ∧ v.1 67 20 = r := by
    intro k
    induction k with
    | zero =>
      intro _ _
      refine ⟨sm_wI (sm_wI g 67 20 r) 67 21 0, ?_, ⟨rfl, fun i hi => by cases hi⟩, agr_wI (agr_wI agr_rfl (by unfold SRd; omega)) (by unfold SRd; omega), rfl⟩
      show F_428_0 r g = _
      unfold F_428_0
      simp only [obs]
      rw [show (sm_wI (sm_wI g 67 20 r) 67 21 0).1 67 94 = g.1 67 94 from rfl, s3]; rfl
    | succ k ih =>
      intro hk hk11
      obtain ⟨v, e1, d1, a1, r1⟩ := ih (by omega) (by omega)
      have tl : (kd.take k).length = k := by rw [List.length_take]; omega
      obtain ⟨v2, c1, c2, c3, c4⟩ := R_addNew d1 (by omega) (at0 kd k)
      refine ⟨v2, ?_, ?_, agr_trans a1 c3, c4.trans r1⟩
      · rw [e1, lp_s (s' := (I3 (400 - kd.length + (k + 1)), v2)) (by omega) ?_]
        · rw [show 1000000 - k - 1 = 1000000 - (k + 1) by omega]
        · unfold F_428_15B
          rw [if_neg (by rw [I3_lit, I3_le (by decide) (by omega)]; omega), d1.1, tl, if_neg (by rw [I3_lit, I3_le (by decide) (by omega)]; omega), ldI_I (by omega) (by decide), a1.1 118 _ (by unfold SRd; omega), (s5 k (by omega)).2.2.2]; simp only [obs]
          rw [c1]; simp only [obs]
          rw [show I3 (400 - kd.length + k) + 1 = I3 (400 - kd.length + (k + 1)) from I3_add _ 1]
      · rw [List.take_succ_eq_append_getElem (by omega), ← at0_get (by omega)]; exact c2
  have fin : ∀ (v : sm_H) (l : List Int32), l = kd.take 11 → dR v l → agr SRd g v → v.1 67 20 = r → F_428 r g = F_428_47 v → TyO h g pc (F_185 r (I3 pc) h) (F_428 r g) r kd := fun v l hl d2 a2 r2 R0 => by
    have T0 := TK_d K a1 a2
    have n0 : NF u v := NF_agr nf a1 a2 (by unfold SCd; omega) (by unfold SRd; omega)
    have nCe : nC v = nC g := T0.nC
    have wh' : v.1 67 106 = I3 pc := (a2.1 67 106 (by unfold SRd; omega)).trans wh
    have no : ¬ (kd.length ≤ 10 ∧ (nT v < 300 ∨ fT v r kd < nT v)) → TyO h g pc (F_185 r (I3 pc) h) (F_428 r g) r kd := fun z => by
      have z1 := C_settle0 T0.k.2.2.1 T0.k.2.2.2.1 d1 (by omega) r z
      have z2 : F_302 v = some (-1, v) := by
        by_cases q : kd.length ≤ 10
        · have : l = kd := by rw [hl, List.take_of_length_le (by omega)]
          rw [this] at d2
          exact R_made0 T0.k.2.2.1 d2 (by omega) r2 z
        · exact R_made0 T0.k.2.2.1 d2 (by rw [hl, List.length_take]; omega) r2 (by rw [hl, List.length_take]; omega)
      obtain ⟨h2, g2, f1, f2, f3, f4⟩ := TK_fail T0 n0 (e := 8) (pc := pc) (by decide) (by decide)
      refine Or.inr ⟨8, h2, g2, ?_, ?_, f3, f4⟩
      · rw [C0]
        unfold F_185_42 F_185_67
        rw [z1]; simp only [obs]
        rw [if_pos trivial, show F_169 8 (I3 pc) u = some (-1, h2) from f1]; rfl
      · rw [R0]
        unfold F_428_47 F_428_68
        rw [z2]; simp only [obs]
        rw [if_pos trivial, wh', show F_413 8 (I3 pc) v = some (0, g2) from f2]; rfl
    by_cases c : kd.length ≤ 10 ∧ (nT v < 300 ∨ fT v r kd < nT v)
    · have : l = kd := by rw [hl, List.take_of_length_le (by omega)]
      rw [this] at d2
      have w300 : nT v ≤ 300 := T0.k.2.2.1.1.2
      have kr' : kR1 v r := by
        obtain ⟨q, q1, q2⟩ := kr
        exact ⟨q, q1, by rw [nCe]; exact q2⟩
      obtain ⟨h3, g3, t1, t2, t3, t4, t5, t6, t7, t8, t9⟩ := settled T0.k d1 d2 r2 c.1 c.2 kr' (kL_grow (Nat.le_of_eq nCe.symm) s4)
      have tl : fT v r kd < 2147483648 := by
        have w3 : nT g3 ≤ 300 := t3.2.2.1.1.2
        have := t7.1
        omega
      obtain ⟨y1, y2⟩ := isTy_pl t7 (by omega)
      refine Or.inl ⟨fT v r kd, h3, g3, ?_, ?_, t7.1, y1, y2, c.1, TK_trans T0 (TK_mk t3 t4 t5 (agr_mono (fun _ _ z => Or.inl (Or.inr (Or.inl z))) t8) (agr_mono (fun _ _ z => Or.inl (Or.inr (Or.inl z))) t9)), NF_agr n0 t8 t9 (by unfold SCt; omega) (by unfold SRt; omega)⟩
      · rw [C0]
        unfold F_185_42 F_185_67
        rw [t1]; simp only [obs]
        rw [if_neg (I3_m1 tl)]
      · rw [R0]
        unfold F_428_47 F_428_68
        rw [t2]; simp only [obs]
        rw [if_neg (I3_m1 tl)]
    · exact no c
  by_cases q : kd.length ≤ 11
  · obtain ⟨v, e2, d2, a2, r2⟩ := RL kd.length (Nat.le_refl _) q
    refine fin v _ ?_ d2 a2 r2 ?_
    · rw [List.take_length, List.take_of_length_le q]
    · rw [e2, lp_oK (by omega)]
      unfold F_428_15B
      rw [if_pos (by rw [I3_lit, I3_le (by decide) (by omega)]; omega)]
      cases F_428_47 v <;> rfl
  · obtain ⟨v, e2, d2, a2, r2⟩ := RL 11 (by omega) (Nat.le_refl _)
    refine fin v _ rfl d2 a2 r2 ?_
    have tl : (kd.take 11).length = 11 := by rw [List.length_take]; omega
    rw [e2, lp_oK (by omega)]
    unfold F_428_15B
    rw [if_neg (by rw [I3_lit, I3_le (by decide) (by omega)]; omega), if_pos (by rw [d2.1, tl]; decide)]
    cases F_428_47 v <;> rfl
theorem mkForm {h g : sm_H} (K : K1 h g) (nf : NF h g) {pc f : Nat} (wh : g.1 67 106 = I3 pc) (a b : Int32) (c : Int64) {ps : List Int32} (R : hasL h 56 57 ps) (P : prR g ps) (uf : f = 0 ∨ f = 2 ∨ f = 3 ∨ f = 4 ∨ f = 5 ∨ f = 8 ∨ f = 12 ∨ f = 13 ∨ f = 14 ∨ f = 15 ∨ f = 18 ∨ f = 19 ∨ f = 20 ∨ f = 21 ∨ f = 22 ∨ f = 23 ∨ f = 29 ∨ f = 31 ∨ f = 32 ∨ f = 33 ∨ f = 34) {r : Int32} {l : List Int32} (l64 : l.length ≤ 64) (ck : Ck (sm_wI g 67 19 0) f a b c r l) :
    (∃ y h1 g1, F_5 (I3 f) a b c 56 h = some (I3 y, h1) ∧ F_429 (I3 f) a b c g = some (I3 y, g1) ∧ y < nH g1 ∧ hrs g1 y = r ∧ hpl g1 y = l ∧ TK h g h1 g1 ∧ NF h1 g1) ∨ ∃ w' h1 h2 g2, w' < 0 ∧ F_5 (I3 f) a b c 56 h = some (w', h1) ∧ F_169 8 (I3 pc) h1 = some (-1, h2) ∧ F_429 (I3 f) a b c g = some (-1, g2) ∧ TK h g h2 g2 ∧ FT 8 pc h2 g2 := by
  obtain ⟨v, w', h1, g1, b1, b2', b3, b4, b5, b6, b7, b8⟩ := build2 K a b c rw56 (Or.inr (Or.inl ⟨rfl, rfl⟩)) (by decide) R P uf l64 ck
  have T : TK h g h1 g1 := TK_mk b3 b4 b5 (agr_mono (fun _ _ z => Or.inl z) b6) (agr_mono (fun _ _ z => Or.inl z) b7)
  have n1 : NF h1 g1 := NF_agr nf b6 b7 (by unfold SCb Ssc SCd SCh SCt; omega) (by unfold SRb SRp SRh SRt; omega)
  have w500 : nH g1 ≤ 500 := b3.2.2.2.2.1.1.2
  have R0 : F_429 (I3 f) a b c g = F_429_0 (I3 f) a b c g := rfl
  unfold F_429_0 F_429_42 F_429_50 at R0
  rw [if_pos nf.2.1, b2'] at R0; simp only [obs] at R0
  rcases b8 with ⟨e, e1, e2, rfl, rfl, e4⟩ | ⟨y, y1, rfl, rfl, y3, y4⟩
  · right
    obtain ⟨h2, g2, f1, f2, f3, f4⟩ := TK_fail T n1 (e := 8) (pc := pc) (by decide) (by decide)
    refine ⟨-I3 e, h1, h2, g2, ?_, b1, f1, ?_, f3, f4⟩
    · rcases (show e = 4 ∨ e = 5 by omega) with rfl | rfl <;> decide
    · rw [if_pos rfl, e4, if_neg (by rw [I3_lit, I3_le (by omega) (by decide)]; omega), show g1.1 67 106 = I3 pc from (b7.1 67 106 (by unfold SRb SRp SRh SRt; omega)).trans wh, show F_413 8 (I3 pc) g1 = some (0, g2) from f2] at R0
      exact R0
  · left
    rw [if_neg (I3_m1 (by omega))] at R0
    exact ⟨y, h1, g1, b1, R0, y1, y3, y4, T, n1⟩
theorem F5c {f : Nat} {v : Int32} (t : ∀ h, sm_ldI G0 h 1000000 (I3 f) = some v) (e : v &&& 4 = 0) (a b : Int32) (c c' : Int64) (o : Nat) (h : sm_H) : F_5 (I3 f) a b c o h = F_5 (I3 f) a b c' o h := by
  have e62 : ∀ z h, F_5_62 (I3 f) c o z h = F_5_62 (I3 f) c' o z h := fun z h => by
    unfold F_5_62
    simp only [obs]
    rw [t]; simp only [obs]
    rw [if_pos e, if_pos e]
  have e43 : ∀ z h, F_5_43 (I3 f) b c o z h = F_5_43 (I3 f) b c' o z h := fun z h => by
    unfold F_5_43
    simp only [obs, e62]
  show F_5_0 (I3 f) a b c o h = F_5_0 (I3 f) a b c' o h
  unfold F_5_0
  simp only [e43]
theorem C_allowsR {h g : sm_H} (K : K1 h g) {a b : Nat} (ha : a < 20 + nC g) (hb : b < 20 + nC g) (f : Bool) : F_65 (I3 a) (I3 b) (b2 f) h = some (b2 (mayB g a b f true), h) := by
  have h12 := K.1.2.1
  have has : ∀ k, k < 20 + nC g → F_53 (I3 k) h = some (1, h) := fun k hk => by
    rw [C_has K.1 K.2.1, inR_I (by omega), decide_eq_true hk]; rfl
  show F_65_0 (I3 a) (I3 b) (b2 f) h = _
  unfold F_65_0 F_65_12 F_65_24 F_65_34 F_65_39
  simp only [true_or, or_true, if_true]
  by_cases q1 : a = 0
  · rw [if_pos (show I3 a = (0 : Int32) from congrArg I3 q1), has b hb, mayB_0 (Or.inl q1)]; simp only [obs]
    rw [if_neg (by decide)]; rfl
  · rw [if_neg (show ¬ I3 a = (0 : Int32) by rw [I3_lit, I3_inj (by omega) (by decide)]; exact q1)]
    by_cases q2 : b = 0
    · rw [if_pos (show I3 b = (0 : Int32) from congrArg I3 q2), has a ha, mayB_0 (Or.inr q2)]; simp only [obs]
      rw [if_neg (by decide)]; rfl
    · rw [if_neg (show ¬ I3 b = (0 : Int32) by rw [I3_lit, I3_inj (by omega) (by decide)]; exact q2), C_allows K.1 K.2.1 (by omega) ha (by omega) hb f, mayB_n q1 q2]; simp only [obs]
      cases mayB g a b f false <;> rfl
theorem mayB_self (g : sm_H) (a : Nat) (f r : Bool) : mayB g a a f r = true := by unfold mayB; rw [if_pos rfl]
theorem TK_row {h g h1 g1 h2 : sm_H} (t : TK h g h1 g1) (a : agr S56 h1 h2) : TK h g h2 g1 := TK_trans t (TK_mk (K1_h t.k (agr_mono (fun b j z => by rcases z with ⟨rfl, -⟩ | rfl <;> rfl) a)) ext_rfl grow_rfl (agr_mono (fun b j z => by unfold SCq; omega) a) agr_rfl)
theorem TK_par {h g h1 g1 g2 : sm_H} (t : TK h g h1 g1) (a : agr SRp g1 g2) : TK h g h1 g2 := by
  have E := ext_eq (okR_SRp a)
  exact TK_trans t (TK_mk (K1_g t.k (agr_mono SRp_not a)) E.1 E.2.1 agr_rfl (agr_mono (fun _ _ z => Or.inl (Or.inl z)) a))
theorem NF_row {h1 g1 h2 : sm_H} (n : NF h1 g1) (a : agr S56 h1 h2) : NF h2 g1 := NF_agr (S' := fun _ _ => False) n a agr_rfl (by unfold S56; omega) ⟨fun z => z, fun z => z⟩
theorem NF_par {h1 g1 g2 : sm_H} (n : NF h1 g1) (a : agr SRp g1 g2) : NF h1 g2 := NF_agr (S := fun _ _ => False) n agr_rfl a ⟨fun z => z, fun z => z⟩ (by unfold SRp; omega)
theorem par1 (g : sm_H) (x : Int32) : prR (sm_wI (sm_wI g 69 0 x) 67 3 1) [x] ∧ agr SRp g (sm_wI (sm_wI g 69 0 x) 67 3 1) := by
  refine ⟨⟨rfl, by simp, fun k hk => ?_⟩, agr_wI (agr_wI agr_rfl (by unfold SRp; omega)) (by unfold SRp; omega)⟩
  have e : k = 0 := by simp only [List.length_cons, List.length_nil] at hk; omega
  subst e; rfl
theorem par2 (g : sm_H) (x y : Int32) : prR (sm_wI (sm_wI (sm_wI g 69 0 x) 69 1 y) 67 3 2) [x, y] ∧ agr SRp g (sm_wI (sm_wI (sm_wI g 69 0 x) 69 1 y) 67 3 2) := by
  refine ⟨⟨rfl, by simp, fun k hk => ?_⟩, agr_wI (agr_wI (agr_wI agr_rfl (by unfold SRp; omega)) (by unfold SRp; omega)) (by unfold SRp; omega)⟩
  rcases (show k = 0 ∨ k = 1 by simp only [List.length_cons, List.length_nil] at hk; omega) with rfl | rfl <;> rfl
theorem wh_TK {h g h1 g1 : sm_H} {pc : Nat} (wh : g.1 67 106 = I3 pc) (t : TK h g h1 g1) : g1.1 67 106 = I3 pc := (t.a.1 67 106 (by unfold SRq SRb SRp SRh SRt; omega)).trans wh
theorem K1_c19 {h g : sm_H} (K : K1 h g) : K1 h (sm_wI g 67 19 0) := K1_19 K 0
theorem mayAs_same {h g : sm_H} (K : K1 h g) {y t : Nat} {kd : List Int32} {q k : Nat} (y1 : y < nH g) (t1 : t < nT g) (hy : hpl g y = kd) (ht : pl g t = kd) (ry : hrs g y = I3 q) (rt : rs g t = I3 k) (hq : q < 20 + nC g) (hk : k < 20 + nC g) {f : Bool} (m : mayB g q k f true = true) : mayAs g (ty g y) t f := by
  have h12 := K.1.2.1
  have e1 := pl_len g t
  have e2 := hpl_len g y
  rw [ht] at e1
  rw [hy] at e2
  refine ⟨by omega, fun i hi => ?_, ?_⟩
  · have a1 : at0 (pl g t) i = g.1 74 (10 * t + i) := at0_lst (by omega)
    have a2 : at0 (hpl g y) i = g.1 74 (10 * ty g y + i) := at0_lst hi
    rw [ht] at a1
    rw [hy] at a2
    show mayB g (tn (g.1 74 (10 * t + i))) (tn (g.1 74 (10 * ty g y + i))) f false = true
    rw [← a1, ← a2]; exact mayB_self _ _ _ _
  · show mayB g (tn (hrs g y)) (tn (rs g t)) f true = true
    rw [ry, rt, tnI (by omega), tnI (by omega)]; exact m
theorem asMk {h g : sm_H} {nm : Nat → Int64} {kd : List Int32} (K : K1 h g) (S : SCO nm kd h g) (nf : NF h g) {pc y q k : Nat} (wh : g.1 67 106 = I3 pc) (y1 : y < nH g) (hy : hpl g y = kd) (ry : hrs g y = I3 q) (hq : q < 20 + nC g) (hk : k < 20 + nC g) (f : Bool) (m : mayB g q k f true = true) :
    MkO h g pc ((F_185 (I3 k) (I3 pc) h).bind fun q2 => if q2.1 = (-1) then (some ((-1), q2.2)) else ((F_140 56 (I3 y) q2.2).bind fun q3 => (F_5 (bif f then 13 else 12) 0 q2.1 0 q3.1 q3.2).bind fun q4 => if 0 ≤ q4.1 then (F_186_108 q4.1 q4.2) else ((F_169 8 (I3 pc) q4.2).bind fun q5 => F_186_108 q5.1 q5.2)))
      ((F_428 (I3 k) g).bind fun q4 => if q4.1 = (-1) then some (-1, q4.2) else ((F_431 (bif f then 13 else 12) 0 q4.1 (I3 y) q4.2).bind fun q5 => some (q5.1, q5.2))) (I3 k) kd := by
  have h12 := K.1.2.1
  have w500 : nH g ≤ 500 := K.2.2.2.2.1.1.2
  rcases scopeTy K S nf wh (r := I3 k) ⟨k, rfl, hk⟩ with ⟨t, h1, g1, e1, e2, t1, t2, t3, t4, T, n1⟩ | ⟨e, h1, g1, e1, e2, T, ft⟩
  · have w300 : nT g1 ≤ 300 := T.k.2.2.1.1.2
    obtain ⟨h2, r1, r2, r3⟩ := C_one56 h1 (I3 y)
    obtain ⟨p1, p2⟩ := par1 g1 (I3 y)
    have T2 := TK_par (TK_row T r3) p2
    have n2 := NF_par (NF_row n1 r3) p2
    have nc := T.nC
    have y1' : y < nH g1 := T.nH y1
    have ck := ck_as (K1_c19 T2.k) (P := (show prR (sm_wI (sm_wI (sm_wI g1 69 0 (I3 y)) 67 3 1) 67 19 0) [I3 y] from p1)) (show y < nH (sm_wI (sm_wI (sm_wI g1 69 0 (I3 y)) 67 3 1) 67 19 0) from y1') (show t < nT (sm_wI (sm_wI (sm_wI g1 69 0 (I3 y)) 67 3 1) 67 19 0) from t1) f (show mayAs g1 (ty g1 y) t f from mayAs_same T.k y1' t1 ((T.hpl K y1).trans hy) t3 ((T.hrs K y1).trans ry) t2 (by rw [nc]; exact hq) (by rw [nc]; exact hk) (by
      have : mayB g1 q k f true = mayB g q k f true := by
        unfold mayB
        have eB : ∀ a b, B g1 a b = B g a b := B_par (fun c => by show tn (g1.1 70 c) = tn (g.1 70 c); rw [T.a.1 70 c (by unfold SRq SRb SRp SRh SRt; omega)])
        rw [eB]
      rw [this]; exact m)) 0 0
    have ck : Ck (sm_wI (sm_wI (sm_wI g1 69 0 (I3 y)) 67 3 1) 67 19 0) (bif f then 13 else 12) 0 (I3 t) 0 (I3 k) kd := by
      have z1 : rs (sm_wI (sm_wI (sm_wI g1 69 0 (I3 y)) 67 3 1) 67 19 0) t = I3 k := t2
      have z2 : pl (sm_wI (sm_wI (sm_wI g1 69 0 (I3 y)) 67 3 1) 67 19 0) t = kd := t3
      rw [z1, z2] at ck; exact ck
    have ff : I3 (bif f then 13 else 12) = (bif f then 13 else 12 : Int32) := by cases f <;> rfl
    have M := mkForm T2.k n2 (f := bif f then 13 else 12) (wh_TK wh T2) 0 (I3 t) 0 r2 p1 (by cases f <;> simp) (by omega) ck
    rw [ff] at M
    have tm : ¬ I3 t = (-1 : Int32) := I3_m1 (by omega)
    have C0 : ∀ w' h3, F_5 (bif f then 13 else 12) 0 (I3 t) 0 56 h2 = some (w', h3) → ((F_185 (I3 k) (I3 pc) h).bind fun q2 => if q2.1 = (-1) then (some ((-1), q2.2)) else ((F_140 56 (I3 y) q2.2).bind fun q3 => (F_5 (bif f then 13 else 12) 0 q2.1 0 q3.1 q3.2).bind fun q4 => if 0 ≤ q4.1 then (F_186_108 q4.1 q4.2) else ((F_169 8 (I3 pc) q4.2).bind fun q5 => F_186_108 q5.1 q5.2))) = (if 0 ≤ w' then some (w', h3) else ((F_169 8 (I3 pc) h3).bind fun q5 => F_186_108 q5.1 q5.2)) := fun w' h3 z => by
      rw [e1]; simp only [obs]
      rw [if_neg tm, r1]; simp only [obs]
      rw [z]; simp only [obs]
      rfl
    have R0 : ((F_428 (I3 k) g).bind fun q4 => if q4.1 = (-1) then some (-1, q4.2) else ((F_431 (bif f then 13 else 12) 0 q4.1 (I3 y) q4.2).bind fun q5 => some (q5.1, q5.2))) = F_429 (bif f then 13 else 12) 0 (I3 t) 0 (sm_wI (sm_wI g1 69 0 (I3 y)) 67 3 1) := by
      rw [e2]; simp only [obs]
      rw [if_neg tm, bind_id, show F_431 (bif f then 13 else 12) 0 (I3 t) (I3 y) g1 = F_431_0 (bif f then 13 else 12) 0 (I3 t) (I3 y) g1 from rfl]
      unfold F_431_0
      rw [if_neg (I3_m1 (by omega)), show stI g1 69 24 0 (I3 y) = some (sm_wI g1 69 0 (I3 y)) from stI_I (k := 0) (by decide) (by decide)]; simp only [obs]
      rw [bind_id]
    rcases M with ⟨z, h3, g3, m1, m2, m3, m4, m5, m6, m7⟩ | ⟨w', h3, h4, g4, w0, m1, m2, m3, m4, m5⟩
    · have w5 : nH g3 ≤ 500 := m6.k.2.2.2.2.1.1.2
      refine Or.inl ⟨z, h3, g3, ?_, R0.trans m2, m3, m4, m5, TK_trans T2 m6, m7⟩
      rw [C0 _ _ m1, if_pos (show (0 : Int32) ≤ I3 z by rw [I3_lit, I3_le (by decide) (by omega)]; omega)]
    · refine Or.inr ⟨8, h4, g4, ?_, R0.trans m3, TK_trans T2 m4, m5⟩
      rw [C0 _ _ m1, if_neg (Int32.not_le.mpr w0), m2]; rfl
  · refine Or.inr ⟨e, h1, g1, ?_, ?_, T, ft⟩
    · rw [e1]; simp only [obs]; rw [if_pos trivial]
    · rw [e2]; simp only [obs]; rw [if_pos trivial]
theorem passedAs {h g : sm_H} {nm : Nat → Int64} {kd : List Int32} (K : K1 h g) (S : SCO nm kd h g) (nf : NF h g) {pc y k : Nat} (wh : g.1 67 106 = I3 pc) (y1 : y < nH g) (hy : hpl g y = kd) (hk : k < 20 + nC g) : MkO h g pc (F_186 12 (I3 y) (I3 k) (I3 pc) h) (F_433 (I3 y) (I3 k) g) (I3 k) kd := by
  have h12 := K.1.2.1
  have w500 : nH g ≤ 500 := K.2.2.2.2.1.1.2
  obtain ⟨q, q1, q2⟩ := rs_k K y1
  have C0 : F_186 12 (I3 y) (I3 k) (I3 pc) h = F_186_0 12 (I3 y) (I3 k) (I3 pc) h := rfl
  have R0 : F_433 (I3 y) (I3 k) g = F_433_0 (I3 y) (I3 k) g := rfl
  unfold F_186_0 F_186_36 at C0
  unfold F_433_0 F_433_77 at R0
  rw [C_rs K y1, q1] at C0; simp only [obs] at C0
  rw [if_pos nf.2.1, if_neg (I3_m1 (by omega)), R_rs K y1, q1] at R0; simp only [obs] at R0
  by_cases e : q = k
  · rw [if_pos (congrArg I3 e)] at C0 R0
    exact Or.inl ⟨y, h, g, C0, R0, y1, by rw [q1, e], hy, TK_rfl K, nf⟩
  · have e' : ¬ I3 q = I3 k := by rw [I3_inj (by omega) (by omega)]; exact e
    rw [if_neg e'] at C0 R0
    rw [if_neg (by decide), show F_65 (I3 q) (I3 k) 0 h = some (b2 (mayB g q k false true), h) from C_allowsR K q2 hk false] at C0; simp only [obs] at C0
    rw [show F_307 (I3 y) g = some (I3 q, g) by rw [R_rs K y1, q1]] at R0; simp only [obs] at R0
    rw [show F_297 (I3 q) (I3 k) 0 1 g = some (b2 (mayB g q k false true), g) from R_mayBe K.1 q2 hk false true] at R0; simp only [obs] at R0
    cases m : mayB g q k false true with
    | false =>
      rw [m, if_pos (by decide)] at C0 R0
      obtain ⟨h2, g2, f1, f2, f3, f4⟩ := failB K nf (e := 7) (pc := pc) (by decide) (by decide)
      rw [show F_169 7 (I3 pc) h = some (-1, h2) from f1] at C0
      rw [wh, show F_413 7 (I3 pc) g = some (0, g2) from f2] at R0
      exact Or.inr ⟨7, h2, g2, C0, R0, f3, f4⟩
    | true =>
      rw [m, if_neg (by decide)] at C0 R0
      have M := asMk K S nf wh y1 hy q1 q2 hk false m
      rw [C0, R0]; exact M
theorem I3_s1 (n : Nat) : I3 (n + 1) - 1 = I3 n := I3_sub (a := n + 1) (b := 1) (by omega)
theorem I3_p1 (n : Nat) : I3 (n + 1) + (-1) = I3 n := by rw [← Int32.sub_eq_add_neg]; exact I3_s1 n
theorem ng_le {y : Nat} (hy : y < 1000) : (-1 - I3 y : Int32) ≤ 0 ∧ ¬ (0 : Int32) ≤ -1 - I3 y := by
  have n1 := neg1sub hy
  have z0 : (0 : Int32).toInt = 0 := rfl
  exact ⟨by rw [Int32.le_iff_toInt_le, n1, z0]; omega, by rw [Int32.le_iff_toInt_le, n1, z0]; omega⟩
theorem m1_l {y n : Nat} (hy : y < n) (hn : n ≤ 500) : ¬ I3 y = (-1 : Int32) := I3_m1 (by omega)
theorem TK_19 {h g h1 g1 : sm_H} (t : TK h g h1 g1) : TK h g h1 (sm_wI g1 67 19 0) := TK_trans t (TK_mk (K1_19 t.k 0) (ext_19 g1 0) (grow_19 g1 0) agr_rfl (agr_wI agr_rfl (Or.inl (Or.inr (Or.inr (Or.inl ⟨rfl, Or.inr rfl⟩))))))
theorem R_scope {h g : sm_H} {nm : Nat → Int64} {kd : List Int32} (S : SCO nm kd h g) (q : kd.length ≤ 10) (r : Int32) : ∃ v, F_428 r g = F_428_47 v ∧ dR v kd ∧ agr SRd g v ∧ v.1 67 20 = r := by
  obtain ⟨s1, s2, s3, s4, s5⟩ := S
  have RL : ∀ k, k ≤ kd.length → ∃ v, F_428 r g = lp F_428_15B (1000000 - k) (I3 (400 - kd.length + k), v) ∧ dR v (kd.take k) ∧ agr SRd g v ∧ v.1 67 20 = r := by
    intro k
    induction k with
    | zero =>
      intro _
      refine ⟨sm_wI (sm_wI g 67 20 r) 67 21 0, ?_, ⟨rfl, fun i hi => by cases hi⟩, agr_wI (agr_wI agr_rfl (by unfold SRd; omega)) (by unfold SRd; omega), rfl⟩
      show F_428_0 r g = _
      unfold F_428_0
      simp only [obs]
      rw [show (sm_wI (sm_wI g 67 20 r) 67 21 0).1 67 94 = g.1 67 94 from rfl, s3]; rfl
    | succ k ih =>
      intro hk
      obtain ⟨v, e1, d1, a1, r1⟩ := ih (by omega)
      have tl : (kd.take k).length = k := by rw [List.length_take]; omega
      obtain ⟨v2, c1, c2, c3, c4⟩ := R_addNew d1 (by omega) (at0 kd k)
      refine ⟨v2, ?_, ?_, agr_trans a1 c3, c4.trans r1⟩
      · rw [e1, lp_s (s' := (I3 (400 - kd.length + (k + 1)), v2)) (by omega) ?_]
        · rw [show 1000000 - k - 1 = 1000000 - (k + 1) by omega]
        · unfold F_428_15B
          rw [if_neg (by rw [I3_lit, I3_le (by decide) (by omega)]; omega), d1.1, tl, if_neg (by rw [I3_lit, I3_le (by decide) (by omega)]; omega), ldI_I (by omega) (by decide), a1.1 118 _ (by unfold SRd; omega), (s5 k (by omega)).2.2.2]; simp only [obs]
          rw [c1]; simp only [obs]
          rw [show I3 (400 - kd.length + k) + 1 = I3 (400 - kd.length + (k + 1)) from I3_add _ 1]
      · rw [List.take_succ_eq_append_getElem (by omega), ← at0_get (by omega)]; exact c2
  obtain ⟨v, e2, d2, a2, r2⟩ := RL kd.length (Nat.le_refl _)
  rw [List.take_length] at d2
  refine ⟨v, ?_, d2, a2, r2⟩
  rw [e2, lp_oK (by omega)]
  unfold F_428_15B
  rw [if_pos (by rw [I3_lit, I3_le (by decide) (by omega)]; omega)]
  cases F_428_47 v <;> rfl
theorem as13 {h g : sm_H} (K : K1 h g) {x : Nat} (P : prR g [I3 x]) (x1 : x < nH g) (a : Int32) (c : Int64) : F_336 (I3 13) a (I3 (ty g x)) c g = some (-1 - I3 x, g) := by
  have wT := K.2.2.1
  have w300 : nT g ≤ 300 := wT.1.2
  have w500 : nH g ≤ 500 := K.2.2.2.2.1.1.2
  have ld : ldI g 69 24 0 = some (I3 x) := prR_ld P (k := 0) (by simp)
  have tx := ty_lt K x1
  obtain ⟨q, q1, q2⟩ := rs_k K x1
  have R : F_336 (I3 13) a (I3 (ty g x)) c g = (F_327_0 (I3 (ty g x)) (b2 true) g).bind (fun q14 => some (q14.1, q14.2)) := B336_13 _ _ _
  unfold F_327_0 at R
  rw [if_pos (show g.1 67 3 = 1 from P.1), show F_314 0 1 g = some (b2 (aH g [I3 x] 1), g) from R_areH K.2.2.2.2.1 P (n := 1) (by simp), aH1_ok w500 x1] at R; simp only [obs] at R
  rw [if_neg (by decide), R_isT wT, inR_I (by omega), decide_eq_true tx] at R; simp only [obs] at R
  rw [if_neg (by decide), ld] at R; simp only [obs] at R
  rw [R_mayAs K x1 tx true, asB_ok (mayAs_same K x1 tx rfl rfl q1 q1 q2 q2 (mayB_self _ _ _ _))] at R; simp only [obs] at R
  rw [if_neg (by decide), R_ty K x1] at R; simp only [obs] at R
  rw [if_pos trivial] at R
  exact R
theorem forcedAs {h g : sm_H} {nm : Nat → Int64} {kd : List Int32} (K : K1 h g) (S : SCO nm kd h g) (nf : NF h g) {pc y k : Nat} (wh : g.1 67 106 = I3 pc) (y1 : y < nH g) (hy : hpl g y = kd) (hk : k < 20 + nC g) : MkO h g pc (F_186 13 (I3 y) (I3 k) (I3 pc) h) ((F_307 (I3 y) g).bind fun q37 =>
  (F_297 q37.1 (I3 k) 1 1 q37.2).bind fun q38 =>
  if q38.1 = 0 then ((F_413 7 (q38.2.1 67 106) q38.2).bind fun q39 =>
  if q39.1 = 0 then (F_460_368 (I3 y) (-1) q39.2)
  else (F_460_358 (I3 y) (I3 k) q39.2))
  else (F_460_358 (I3 y) (I3 k) q38.2)) (I3 k) kd := by
  have h12 := K.1.2.1
  have w500 : nH g ≤ 500 := K.2.2.2.2.1.1.2
  have w300 : nT g ≤ 300 := K.2.2.1.1.2
  have y1000 : y < 1000 := by omega
  have tm1 : ¬ I3 (ty g y) = (-1 : Int32) := I3_m1 (by have := ty_lt K y1; omega)
  have ym1 : ¬ I3 y = (-1 : Int32) := I3_m1 (by omega)
  obtain ⟨q, q1, q2⟩ := rs_k K y1
  have C0 : F_186 13 (I3 y) (I3 k) (I3 pc) h = F_186_0 13 (I3 y) (I3 k) (I3 pc) h := rfl
  unfold F_186_0 F_186_36 at C0
  rw [C_rs K y1, q1] at C0; simp only [obs] at C0
  have M : mayB g q k true true = true → ((F_307 (I3 y) g).bind fun q37 =>
    (F_297 q37.1 (I3 k) 1 1 q37.2).bind fun q38 =>
    if q38.1 = 0 then ((F_413 7 (q38.2.1 67 106) q38.2).bind fun q39 =>
    if q39.1 = 0 then (F_460_368 (I3 y) (-1) q39.2)
    else (F_460_358 (I3 y) (I3 k) q39.2))
    else (F_460_358 (I3 y) (I3 k) q38.2)) = F_460_358 (I3 y) (I3 k) g := fun m => by
    rw [R_rs K y1, q1]; simp only [obs]
    rw [show F_297 (I3 q) (I3 k) 1 1 g = some (b2 (mayB g q k true true), g) from R_mayBe K.1 q2 hk true true, m]; simp only [obs]
    rw [if_neg (by decide)]
  by_cases e : q = k
  · rw [if_pos (congrArg I3 e)] at C0
    rw [C0, M (by rw [e]; exact mayB_self _ _ _ _)]
    have kl : kd.length ≤ 10 := by rw [← hy]; exact mn_10 K y1
    obtain ⟨v, v1, v2, v3, v4⟩ := R_scope S kl (I3 k)
    have T0 : TK h g h v := TK_d K agr_rfl v3
    have tyv : ty v y = ty g y := by show tn _ = tn _; rw [v3.1 76 y (by unfold SRd; omega)]
    have isv : isTy v (ty g y) (I3 k) kd := by
      have tx := ty_lt K y1
      have nTv : nT v = nT g := by show tn _ = tn _; rw [v3.1 67 10 (by unfold SRd; omega)]
      have hl := hpl_len g y
      rw [hy] at hl
      refine ⟨by rw [nTv]; exact tx, ?_, ?_, fun i hi => ?_⟩
      · rw [v3.1 72 _ (by unfold SRd; omega), ← e, ← q1]
      · rw [v3.1 73 _ (by unfold SRd; omega), hl]; exact (K.2.2.1.2.1 _ tx).2.1.1
      · rw [v3.1 74 _ (by unfold SRd; omega), ← hy]; exact (at0_lst (f := fun k => g.1 74 (10 * ty g y + k)) (by omega)).symm
    have f1 : fT v (I3 k) kd < nT v := by
      rcases Nat.lt_or_ge (fT v (I3 k) kd) (nT v) with z | z
      · exact z
      · exact absurd isv (fT_none (Nat.le_antisymm (fT_le _ _ _) z))
    have f2 : fT v (I3 k) kd = ty g y := by
      have a := isTy_of f1
      have b := isv
      refine T0.k.2.2.1.2.2 _ _ a.1 b.1 (a.2.1.trans b.2.1.symm) (a.2.2.1.trans b.2.2.1.symm) (fun i hi => ?_)
      have tm : tM v (fT v (I3 k) kd) = kd.length := by show tn _ = _; rw [a.2.2.1]; exact tnI (by omega)
      rw [a.2.2.2 i (by omega), b.2.2.2 i (by omega)]
    have R1 : F_428 (I3 k) g = some (I3 (ty g y), v) := by
      rw [v1]
      unfold F_428_47 F_428_68
      rw [R_made1 T0.k.2.2.1 v2 kl v4 f1, f2]; simp only [obs]
      rw [if_neg tm1]
    obtain ⟨p1, p2⟩ := par1 v (I3 y)
    have T2 := TK_19 (TK_par T0 p2)
    have R2 := as13 T2.k (P := p1) (x := y) (T2.nH y1) 0 0
    rw [show ty (sm_wI (sm_wI (sm_wI v 69 0 (I3 y)) 67 3 1) 67 19 0) y = ty g y from tyv] at R2
    have R3 : F_341 13 0 (I3 (ty g y)) 0 (sm_wI (sm_wI v 69 0 (I3 y)) 67 3 1) = some (I3 y, sm_wI (sm_wI (sm_wI v 69 0 (I3 y)) 67 3 1) 67 19 0) := by
      show F_341_0 13 0 (I3 (ty g y)) 0 (sm_wI (sm_wI v 69 0 (I3 y)) 67 3 1) = _
      unfold F_341_0
      simp only [obs]
      rw [if_neg (by decide), if_pos (by decide), show F_336 13 0 (I3 (ty g y)) 0 (sm_wI (sm_wI (sm_wI v 69 0 (I3 y)) 67 3 1) 67 19 0) = _ from R2]; simp only [obs]
      unfold F_341_28
      rw [if_pos (ng_le y1000).1, if_neg (ng_le y1000).2, sub2 y1000]
    have nfv : (sm_wI (sm_wI v 69 0 (I3 y)) 67 3 1).1 67 77 = 0 := (v3.1 67 77 (by unfold SRd; omega)).trans nf.2.1
    refine Or.inl ⟨y, h, sm_wI (sm_wI (sm_wI v 69 0 (I3 y)) 67 3 1) 67 19 0, rfl, ?_, T2.nH y1, ?_, (T2.hpl K y1).trans hy, T2, ⟨nf.1, nfv, nf.2.2.1, (v3.1 67 78 (by unfold SRd; omega)).trans nf.2.2.2⟩⟩
    · unfold F_460_358 F_460_368 F_460_390
      rw [R1]; simp only [obs]
      rw [if_neg tm1, bind_id, show F_431 13 0 (I3 (ty g y)) (I3 y) v = F_431_0 13 0 (I3 (ty g y)) (I3 y) v from rfl]
      unfold F_431_0
      rw [if_neg ym1, show stI v 69 24 0 (I3 y) = some (sm_wI v 69 0 (I3 y)) from stI_I (k := 0) (by decide) (by decide)]; simp only [obs]
      rw [bind_id, show F_429 13 0 (I3 (ty g y)) 0 (sm_wI (sm_wI v 69 0 (I3 y)) 67 3 1) = F_429_0 13 0 (I3 (ty g y)) 0 (sm_wI (sm_wI v 69 0 (I3 y)) 67 3 1) from rfl]
      unfold F_429_0 F_429_50
      rw [if_pos nfv, R3]; simp only [obs]
      rw [if_neg ym1]
    · rw [T2.hrs K y1, q1, e]
  · have e' : ¬ I3 q = I3 k := by rw [I3_inj (by omega) (by omega)]; exact e
    rw [if_neg e', if_pos (by decide), show F_65 (I3 q) (I3 k) 1 h = some (b2 (mayB g q k true true), h) from C_allowsR K q2 hk true] at C0; simp only [obs] at C0
    cases m : mayB g q k true true with
    | false =>
      rw [m, if_pos (by decide)] at C0
      obtain ⟨h2, g2, f1, f2, f3, f4⟩ := failB K nf (e := 7) (pc := pc) (by decide) (by decide)
      rw [show F_169 7 (I3 pc) h = some (-1, h2) from f1] at C0
      refine Or.inr ⟨7, h2, g2, C0, ?_, f3, f4⟩
      rw [R_rs K y1, q1]; simp only [obs]
      rw [show F_297 (I3 q) (I3 k) 1 1 g = some (b2 (mayB g q k true true), g) from R_mayBe K.1 q2 hk true true, m]; simp only [obs]
      rw [if_pos (by decide), wh, show F_413 7 (I3 pc) g = some (0, g2) from f2]; simp only [obs]
      rfl
    | true =>
      rw [m, if_neg (by decide)] at C0
      rw [C0, M m]
      exact asMk K S nf wh y1 hy q1 q2 hk true m
def STK (h : sm_H) (base m : Nat) (pt : Nat → Nat) : Prop := ∃ top, h.1 55 12 = I3 top ∧ base + m ≤ top ∧ top ≤ 200 ∧ ∀ i, i < m → h.1 60 (base + i) = I3 (pt i)
theorem STK_at {h : sm_H} {base m : Nat} {pt : Nat → Nat} (s : STK h base m pt) {i : Nat} (hi : i < m) : F_187 (I3 (base + i)) h = some (I3 (pt i), h) := by
  obtain ⟨top, t1, t2, t3, t4⟩ := s
  show F_187_0 (I3 (base + i)) h = _
  unfold F_187_0 F_187_29
  rw [if_neg (I3_nn (by omega)), t1, if_neg (by rw [I3_le (by omega) (by omega)]; omega), if_neg (by rw [I3_lit, I3_le (by omega) (by omega)]; omega), ldI_I (by omega) (by decide), t4 i hi]; simp only [obs]
theorem STK_agr {h h1 : sm_H} {base m : Nat} {pt : Nat → Nat} {P : Nat → Nat → Prop} (s : STK h base m pt) (a : agr P h h1) (p : ∀ b j, P b j → ¬ (b = 55 ∧ j = 12 ∨ b = 60)) : STK h1 base m pt := by
  obtain ⟨top, t1, t2, t3, t4⟩ := s
  exact ⟨top, (a.1 55 12 (fun z => p _ _ z (by omega))).trans t1, t2, t3, fun i hi => (a.1 60 _ (fun z => p _ _ z (by omega))).trans (t4 i hi)⟩
theorem SCq_stk (b j : Nat) (z : SCq b j) : ¬ (b = 55 ∧ j = 12 ∨ b = 60) := by unfold SCq SCb Ssc SCd SCh SCt at z; omega
theorem STK_TK {h g h1 g1 : sm_H} {base m : Nat} {pt : Nat → Nat} (s : STK h base m pt) (t : TK h g h1 g1) : STK h1 base m pt := STK_agr s t.c SCq_stk
abbrev SRa (b j : Nat) : Prop := SRq b j ∨ (127 ≤ b ∧ b ≤ 129)
def TB (b0 : Nat) (h g h1 g1 : sm_H) : Prop := K1 h1 g1 ∧ ext g g1 ∧ grow g g1 ∧ agr (fun b j => SCq b j ∨ b = 60 ∧ b0 ≤ j) h h1 ∧ agr SRa g g1
theorem TB_of {b0 : Nat} {h g h1 g1 : sm_H} (t : TK h g h1 g1) : TB b0 h g h1 g1 := ⟨t.1, t.2.1, t.2.2.1, agr_mono (fun _ _ z => Or.inl z) t.2.2.2.1, agr_mono (fun _ _ z => Or.inl z) t.2.2.2.2⟩
theorem TB.k {b0 : Nat} {h g h1 g1 : sm_H} (t : TB b0 h g h1 g1) : K1 h1 g1 := t.1
theorem TB.e {b0 : Nat} {h g h1 g1 : sm_H} (t : TB b0 h g h1 g1) : ext g g1 := t.2.1
theorem TB.r {b0 : Nat} {h g h1 g1 : sm_H} (t : TB b0 h g h1 g1) : grow g g1 := t.2.2.1
theorem TB.c {b0 : Nat} {h g h1 g1 : sm_H} (t : TB b0 h g h1 g1) : agr (fun b j => SCq b j ∨ b = 60 ∧ b0 ≤ j) h h1 := t.2.2.2.1
theorem TB.a {b0 : Nat} {h g h1 g1 : sm_H} (t : TB b0 h g h1 g1) : agr SRa g g1 := t.2.2.2.2
theorem TB_trans {b0 : Nat} {h g h1 g1 h2 g2 : sm_H} (a : TB b0 h g h1 g1) (b : TB b0 h1 g1 h2 g2) : TB b0 h g h2 g2 := ⟨b.1, ext_trans a.2.1 b.2.1, grow_trans a.2.2.1 b.2.2.1, agr_trans a.2.2.2.1 b.2.2.2.1, agr_trans a.2.2.2.2 b.2.2.2.2⟩
theorem TB.hrs {b0 : Nat} {h g h1 g1 : sm_H} (t : TB b0 h g h1 g1) {h' : sm_H} (K : K1 h' g) {x : Nat} (hx : x < nH g) : hrs g1 x = hrs g x := ext_hrs K.2.2.2.2.1 t.e hx
theorem TB.hpl {b0 : Nat} {h g h1 g1 : sm_H} (t : TB b0 h g h1 g1) {h' : sm_H} (K : K1 h' g) {x : Nat} (hx : x < nH g) : hpl g1 x = hpl g x := ext_hpl K.2.2.2.2.1 t.e hx
theorem TB.nH {b0 : Nat} {h g h1 g1 : sm_H} (t : TB b0 h g h1 g1) {x : Nat} (hx : x < nH g) : x < nH g1 := Nat.lt_of_lt_of_le hx t.r.2.2.1
theorem TB.nC {b0 : Nat} {h g h1 g1 : sm_H} (t : TB b0 h g h1 g1) : nC g1 = nC g := by show tn _ = tn _; rw [t.a.1 67 6 (by unfold SRa SRq SRb SRp SRh SRt; omega)]
theorem SCO_TB {b0 : Nat} {nm : Nat → Int64} {kd : List Int32} {h g h1 g1 : sm_H} (S : SCO nm kd h g) (t : TB b0 h g h1 g1) : SCO nm kd h1 g1 := SCO_agr S t.c t.a (Nat.le_of_eq t.nC.symm) (fun b j z => by unfold SCq SCb Ssc SCd SCh SCt at z; omega) (fun b j z => by unfold SRa SRq SRb SRp SRh SRt at z; omega)
theorem wh_TB {b0 : Nat} {h g h1 g1 : sm_H} {pc : Nat} (wh : g.1 67 106 = I3 pc) (t : TB b0 h g h1 g1) : g1.1 67 106 = I3 pc := (t.a.1 67 106 (by unfold SRa SRq SRb SRp SRh SRt; omega)).trans wh
theorem TB_127 {b0 : Nat} {h g h1 g1 g2 : sm_H} (t : TB b0 h g h1 g1) (a : agr (fun b _ => 127 ≤ b ∧ b ≤ 129) g1 g2) : TB b0 h g h1 g2 := by
  have nr : ∀ b j, (127 ≤ b ∧ b ≤ 129) → notR b j := fun b j z => by
    rcases (show b = 127 ∨ b = 128 ∨ b = 129 by omega) with rfl | rfl | rfl <;> rfl
  have E := ext_eq (ok_of_not nr a)
  exact TB_trans t ⟨K1_g t.k (agr_mono nr a), E.1, E.2.1, agr_rfl, agr_mono (fun b j z => by unfold SRa; omega) a⟩
theorem NF_127 {h1 g1 g2 : sm_H} (n : NF h1 g1) (a : agr (fun b _ => 127 ≤ b ∧ b ≤ 129) g1 g2) : NF h1 g2 := NF_agr (S := fun _ _ => False) n agr_rfl a ⟨fun z => z, fun z => z⟩ (by omega)
theorem K1_60 {h g : sm_H} (K : K1 h g) (j : Nat) (x : Int32) : K1 (sm_wI h 60 j x) g := by
  obtain ⟨wK, cK, wT, cT, wH, cH, wM, cM, cG, cO, cV, wX, cX, cXh, wF⟩ := K
  exact ⟨wK, cK, wT, cT, wH, cH, wM, cM, cG, cO, cV, wX, cX, cXh_fr (by repeat first | exact hi_rfl | refine hi_wI ?_ (by decide) | refine hi_wJ ?_ (by decide)) cXh, wF⟩
def updN (pt : Nat → Nat) (i z : Nat) (j : Nat) : Nat := if j = i then z else pt j
theorem pass1 {h g : sm_H} {nm : Nat → Int64} {kd : List Int32} (K : K1 h g) (S : SCO nm kd h g) (nf : NF h g) {pc k base m i : Nat} {pt : Nat → Nat} (wh : g.1 67 106 = I3 pc) (st : STK h base m pt) (hi : i < m) (y1 : pt i < nH g) (hy : hpl g (pt i) = kd) (hk : k < 20 + nC g) :
    (∃ z h1 g1, F_190 (I3 (base + i)) (I3 k) (I3 pc) h = some (1, h1) ∧ F_433 (I3 (pt i)) (I3 k) g = some (I3 z, g1) ∧ z < nH g1 ∧ hrs g1 z = I3 k ∧ hpl g1 z = kd ∧ STK h1 base m (updN pt i z) ∧ TB (base + i) h g h1 g1 ∧ NF h1 g1) ∨ ∃ e h1 g1, F_190 (I3 (base + i)) (I3 k) (I3 pc) h = some (0, h1) ∧ F_433 (I3 (pt i)) (I3 k) g = some (-1, g1) ∧ TK h g h1 g1 ∧ FT e pc h1 g1 := by
  have C0 : F_190 (I3 (base + i)) (I3 k) (I3 pc) h = F_190_0 (I3 (base + i)) (I3 k) (I3 pc) h := rfl
  unfold F_190_0 F_190_40 at C0
  rw [STK_at st hi] at C0; simp only [obs] at C0
  rcases passedAs K S nf wh y1 hy hk with ⟨z, h1, g1, a1, a2, a3, a4, a5, a6, a7⟩ | ⟨e, h1, g1, a1, a2, a3, a4⟩
  · left
    have w500 : nH g1 ≤ 500 := a6.k.2.2.2.2.1.1.2
    obtain ⟨top, t1, t2, t3, t4⟩ := STK_TK st a6
    rw [a1] at C0; simp only [obs] at C0
    rw [if_neg (I3_m1 (by omega)), if_neg (I3_nn (by omega)), t1, if_neg (by rw [I3_le (by omega) (by omega)]; omega), if_pos (by rw [I3_lit, I3_lt (by omega) (by omega)]; omega), stI_I (by omega) (by decide)] at C0; simp only [obs] at C0
    refine ⟨z, sm_wI h1 60 (base + i) (I3 z), g1, C0, a2, a3, a4, a5, ⟨top, t1, t2, t3, fun j hj => ?_⟩, TB_trans (TB_of a6) ⟨K1_60 a6.k _ _, ext_rfl, grow_rfl, agr_wI agr_rfl (Or.inr ⟨rfl, Nat.le_refl _⟩), agr_rfl⟩, a7⟩
    show (if base + j = base + i then I3 z else h1.1 60 (base + j)) = I3 (updN pt i z j)
    unfold updN
    by_cases q : j = i
    · rw [if_pos (by rw [q]), if_pos q]
    · rw [if_neg (by omega), if_neg q, t4 j hj]
  · right
    rw [a1] at C0; simp only [obs] at C0
    rw [if_pos trivial] at C0
    exact ⟨e, h1, g1, C0, a2, a3, a4⟩
