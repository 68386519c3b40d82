theorem MH2f {h g : sm_H} (K : K1 h g) {f : Nat} {a b : Int32} {c : Int64} {ps l : List Int32} {r : Int32} {o p : Nat} (w : isRw o p) (ho : o < 1000 ∧ (o < 5 ∨ 20 < o)) (hp : p < 5 ∨ 20 < p) (R : hasL h o p ps) (P : prR g ps) (dc : dC h l) (dr : dR g l) (er : g.1 67 20 = r) (h64 : l.length ≤ 64) (kr : kR1 g r) (kl : kL g l) (F : FS g f a b c ps r l) (fu : ∀ r' l', FS g f a b c ps r' l' → r' = r ∧ l' = l) : ∃ v w' h1 g1, F_6 (I3 f) a b c o r h = some (w', h1) ∧ F_340 (I3 f) a b c g = some (v, g1) ∧ K1 h1 g1 ∧ ext g g1 ∧ grow g g1 ∧ agr SCh h h1 ∧ agr SRh g g1 ∧ ((∃ e, (e = 4 ∨ e = 5) ∧ w' = -I3 e ∧ v = -1 ∧ g1.1 67 19 = I3 e) ∨ ∃ y, y < nH g1 ∧ w' = I3 y ∧ v = I3 y ∧ g1.1 67 19 = g.1 67 19 ∧ hrs g1 y = r ∧ hpl g1 y = l ∧ fm g1 y = f) := by
  obtain ⟨wK, cK, wT, cT, wH, cH, wM, cM, cG, cO, cV, wX, cX, cXh, wF⟩ := id K
  have h12 := wK.2.1
  have w300 : nT g ≤ 300 := wT.1.2
  have w500 : nH g ≤ 500 := wH.1.2
  have l20 := R.2.1
  have F1 := C_fits wT cT dc h64 r
  have F2 := C_knownH wH cH w R (I3 f) a b c
  have G2 := R_findH wH P (I3 f) a b c
  have e21 := dr.1
  have e10 : g.1 67 10 = I3 (nT g) := wT.1.1
  have e18 : g.1 67 18 = I3 (nH g) := wH.1.1
  have S35 : F_35 h = some (I3 (nH g), h) := by show some (h.1 10 11, h) = _; rw [cH.1, e18]
  have k19 : ∀ e : Int32, K1 h (sm_wI g 67 19 e) := fun e => ⟨wK, cK, wT, cT, wH, cH, wM, cM, cG, cO, cV, wX, cX, cXh, wF⟩
  have x19 : ∀ e : Int32, ext g (sm_wI g 67 19 e) ∧ grow g (sm_wI g 67 19 e) := fun e => ⟨⟨Nat.le_refl _, fun _ _ => rfl, Nat.le_refl _, fun _ _ => rfl, ⟨Nat.le_refl _, fun _ _ => ⟨rfl, rfl, fun _ _ => rfl⟩⟩, Nat.le_refl _, fun _ _ => rfl, Nat.le_refl _, fun _ _ => rfl, Nat.le_refl _, ⟨Nat.le_refl _, fun _ _ => ⟨rfl, rfl, rfl, rfl, rfl, rfl⟩⟩⟩, ⟨Nat.le_refl _, Nat.le_refl _, Nat.le_refl _, fun _ _ => rfl, fun _ _ => rfl⟩⟩
  have a19 : ∀ e : Int32, agr SRh g (sm_wI g 67 19 e) := fun e => agr_wI agr_rfl (by simp [SRh])
  have fHle := fH_le g (I3 f) a b c ps
  have refR : l.length ≤ 10 → (nT g < 300 ∨ fT g r l < nT g) → F_340 (I3 f) a b c g = F_340_42 (I3 f) a b c g := fun z room => by
    have RF := R_findT wT dr z r
    show F_340_0 _ _ _ _ g = _
    unfold F_340_0
    rw [e21, if_neg (by rw [I3_lit, I3_lt (by decide) (by omega)]; omega), er, RF]; simp only [Option.bind_some]
    rw [e10]
    by_cases q : nT g < 300
    · rw [if_neg (show ¬ I3 (nT g) = 300 by rw [I3_lit, I3_inj (by omega) (by decide)]; omega), ite_self]
    · unfold orN
      rw [if_pos (show fT g r l < nT g by omega), if_neg (I3_m1 (by omega))]
  by_cases fit : l.length ≤ 10 ∧ (nT g < 300 ∨ fT g r l < nT g)
  · rw [decide_eq_true fit] at F1
    have refR := refR fit.1 fit.2
    by_cases kn : fH g (I3 f) a b c ps < nH g
    · have kn' : orN (fH g (I3 f) a b c ps < nH g) (fH g (I3 f) a b c ps) = I3 (fH g (I3 f) a b c ps) := if_pos kn
      rw [kn'] at F2 G2
      have fuy : hrs g (fH g (I3 f) a b c ps) = r ∧ hpl g (fH g (I3 f) a b c ps) = l ∧ fm g (fH g (I3 f) a b c ps) = f := by
        have s := (fst1_spec (hP g (I3 f) a b c ps) (nH g)).2.2 kn
        have wF' := wF
        rw [wfF_0] at wF'
        have z := wF'.1 _ kn
        have f38 := FS_lt F
        unfold hP at s
        rw [Bool.and_eq_true, decide_eq_true_eq, all1_iff] at s
        obtain ⟨⟨s1, s2, s3, s4, s5⟩, s6⟩ := s
        have e1 : fm g (fH g (I3 f) a b c ps) = f := by show tn _ = _; rw [show g.1 75 (fH g (I3 f) a b c ps) = I3 f from s1]; exact tnI (by omega)
        have e2 : prt g (fH g (I3 f) a b c ps) = ps := by
          have : pm g (fH g (I3 f) a b c ps) = ps.length := by show tn _ = _; rw [show g.1 80 (fH g (I3 f) a b c ps) = I3 ps.length from s5]; exact tnI (by omega)
          show lst _ (pm g (fH g (I3 f) a b c ps)) = ps
          rw [this]
          refine lst_ext (lst_len _ _) (fun k hk => ?_)
          rw [lst_len] at hk
          rw [at0_lst hk]
          exact of_decide_eq_true (s6 k hk)
        rw [e1, e2, show g.1 77 (fH g (I3 f) a b c ps) = a from s2, show g.1 78 (fH g (I3 f) a b c ps) = b from s3, show g.2.1 79 (fH g (I3 f) a b c ps) = c from s4] at z
        exact ⟨(fu _ _ z).1, (fu _ _ z).2, e1⟩
      refine ⟨I3 (fH g (I3 f) a b c ps), I3 (fH g (I3 f) a b c ps), h, g, ?_, ?_, K, ext_rfl, grow_rfl, agr_rfl, agr_rfl, Or.inr ⟨_, kn, rfl, rfl, rfl, fuy⟩⟩
      · show F_6_0 _ _ _ _ _ _ h = _
        unfold F_6_0
        rw [F1]; simp only [Option.bind_some]
        rw [if_neg (by decide), F2]; simp only [Option.bind_some]
        rw [if_neg (I3_m1 (by omega))]
      · rw [refR]
        unfold F_340_42
        rw [G2]; simp only [Option.bind_some]
        rw [if_neg (I3_m1 (by omega))]
    · have kn' : orN (fH g (I3 f) a b c ps < nH g) (fH g (I3 f) a b c ps) = -1 := if_neg kn
      rw [kn'] at F2 G2
      have c6 : F_6 (I3 f) a b c o r h = if I3 (nH g) < 500 then ((F_234 r h).bind fun q4 => (F_50 (I3 f) a b c o q4.1 q4.2).bind fun q5 => some (q5.1, q5.2)) else (some ((-5), h)) := by
        show F_6_0 _ _ _ _ _ _ h = _
        unfold F_6_0
        rw [F1]; simp only [Option.bind_some]
        rw [if_neg (by decide), F2]; simp only [Option.bind_some]
        rw [if_pos trivial, S35]; simp only [Option.bind_some]
      have c7 : F_340 (I3 f) a b c g = if I3 (nH g) = 500 then ((some (sm_wI g 67 19 5)).bind fun h14 => some ((-1), h14)) else ((F_302 g).bind fun q7 => (stI q7.2 76 500 (I3 (nH g)) q7.1).bind fun h8 => (stI h8 75 500 (I3 (nH g)) (I3 f)).bind fun h9 => (stI h9 77 500 (I3 (nH g)) a).bind fun h10 => (stI h10 78 500 (I3 (nH g)) b).bind fun h11 => (stJ h11 79 500 (I3 (nH g)) c).bind fun h12 => (stI h12 80 500 (I3 (nH g)) (h12.1 67 3)).bind fun h13 => F_340_143 (I3 (nH g)) 0 h13) := by
        rw [refR]
        unfold F_340_42
        rw [G2]; simp only [Option.bind_some]
        rw [if_pos trivial, e18]
      by_cases full : nH g = 500
      · refine ⟨-1, -I3 5, h, sm_wI g 67 19 5, ?_, ?_, k19 _, (x19 _).1, (x19 _).2, agr_rfl, a19 _, Or.inl ⟨5, Or.inr rfl, rfl, rfl, rfl⟩⟩
        · rw [c6, if_neg (by rw [I3_lit, I3_lt (by omega) (by decide)]; omega)]; rfl
        · rw [c7, if_pos (by rw [full]; rfl)]; rfl
      · rw [if_pos (by rw [I3_lit, I3_lt (by omega) (by decide)]; omega)] at c6
        rw [if_neg (by rw [I3_lit, I3_inj (by omega) (by decide)]; exact full)] at c7
        obtain ⟨h3, g3, s1, s2, s3, s4, s5, s6, s7, s8, s9⟩ := settled K dc dr er fit.1 fit.2 kr kl
        generalize ht : fT g r l = t at s1 s2 s7
        obtain ⟨y1, y2⟩ := isTy_pl s7 (by omega)
        have n3 : nH g3 = nH g := s6.n
        have cGq1 : ∀ k, k < nG g → tn (g3.1 92 k) < nH g3 := fun k hk => by
          rw [s9.1 92 k (by unfold SRt; omega), n3]
          exact (K1_base K).g k hk
        have F3 : FS g3 f a b c ps r l := FS_up (K1_base K) cGq1 s4 F
        obtain ⟨A1, A2, A3⟩ := hAdd s3 (by omega) s7.1 y1 y2 l20 F3
        have R3 : hasL h3 o p ps := hasL_agr R s8 (fun j => by unfold SCt; omega)
        have P3 : prR g3 ps := ⟨by rw [s9.1 67 3 (by unfold SRt; omega)]; exact P.1, P.2.1, fun k hk => by rw [s9.1 69 k (by unfold SRt; omega)]; exact P.2.2 k hk⟩
        have CA := C_append (h := h3) (g := g3) s3.2.2.1 s3.2.2.2.2.1 s3.2.2.2.1 s3.2.2.2.2.2.1 w (by omega) (by omega) R3 (I3 f) a b c s7.1 (by omega)
        have RA := R_append (g := g3) (n := nH g) (by have := s3.2.2.2.2.1.1.1; rw [this]; show I3 (nH g3) = _; rw [n3]) (by omega) P3 (I3 f) a b c (t := t)
        rw [n3] at A1 A2 A3 CA
        rw [y1, y2] at CA
        refine ⟨I3 (nH g), I3 (nH g), _, _, ?_, ?_, A1, ext_trans s4 A2, grow_trans s5 A3, agr_trans (agr_mono (fun _ _ z => Or.inl z) s8) agr_setHC, agr_trans (agr_mono (fun _ _ z => Or.inl z) s9) agr_setHR, Or.inr ⟨nH g, ?_, rfl, rfl, ?_, ?_⟩⟩
        · rw [c6, s1]; simp only [Option.bind_some]
          rw [CA]; rfl
        · rw [c7, s2]; simp only [Option.bind_some]
          exact RA
        · show nH g < (I3 (nH g + 1)).toNatClampNeg
          rw [I3_clamp (by omega)]; omega
        · show g3.1 67 19 = _
          exact s9.1 67 19 (by unfold SRt; omega)
        · have tt : ty (setHR g3 (nH g) (I3 f) a b c ps t) (nH g) = t := by
            show tn (if nH g = nH g then I3 t else g3.1 76 (nH g)) = _
            rw [if_pos rfl]
            have w3 : nT g3 ≤ 300 := s3.2.2.1.1.2
            exact tnI (Nat.lt_of_lt_of_le s7.1 (Nat.le_trans w3 (by decide)))
          refine ⟨?_, ?_, ?_⟩
          · show rs (setHR g3 (nH g) (I3 f) a b c ps t) (ty (setHR g3 (nH g) (I3 f) a b c ps t) (nH g)) = r
            rw [tt]; exact y1
          · show pl (setHR g3 (nH g) (I3 f) a b c ps t) (ty (setHR g3 (nH g) (I3 f) a b c ps t) (nH g)) = l
            rw [tt]; exact y2
          · show tn (if nH g = nH g then I3 f else g3.1 75 (nH g)) = f
            rw [if_pos rfl]; exact tnI (Nat.lt_of_le_of_lt (FS_lt F) (by decide))
  · rw [decide_eq_false fit] at F1
    refine ⟨-1, -I3 4, h, sm_wI g 67 19 4, ?_, ?_, k19 _, (x19 _).1, (x19 _).2, agr_rfl, a19 _, Or.inl ⟨4, Or.inl rfl, rfl, rfl, rfl⟩⟩
    · show F_6_0 _ _ _ _ _ _ h = _
      unfold F_6_0
      rw [F1]; simp only [Option.bind_some]
      rw [if_pos (by decide)]; rfl
    · show F_340_0 _ _ _ _ g = _
      unfold F_340_0 F_340_35
      rw [e21]
      by_cases z : l.length ≤ 10
      · have RF := R_findT wT dr z r
        have on : orN (fT g r l < nT g) (fT g r l) = -1 := if_neg (by omega)
        rw [on] at RF
        rw [if_neg (by rw [I3_lit, I3_lt (by decide) (by omega)]; omega), er, RF]; simp only [Option.bind_some]
        rw [if_pos trivial, e10, if_pos (by rw [show nT g = 300 by omega]; rfl)]
      · rw [if_pos (by rw [I3_lit, I3_lt (by decide) (by omega)]; omega)]; rfl
theorem buildF2f {h g : sm_H} (K : K1 h g) {f : Nat} {tv a b : Int32} {c : Int64} {o p : Nat} {ps : List Int32} (w : isRw o p) (op : oP o p) (r : hasL h o p ps) (P : prR g ps) (hf : f < 35) (t : ∀ h, sm_ldI G0 h 1000000 (I3 f) = some tv) {va vb vc : Bool} (ea : (tv &&& 1 = 0) = (va = false)) (eb : (tv &&& 2 = 0) = (vb = false)) (ec : (tv &&& 4 = 0) = (vc = false)) (rA : ∀ g, F_337 (I3 f) g = some (b2 va, g)) (rB : ∀ g, F_338 (I3 f) g = some (b2 vb, g)) (rC : vc = decide (f = 0 ∨ f = 6))
    (mk : ∀ h' g', K1 h' g' → fS h' (I3 f) (bif va then a else 0) (bif vb then b else 0) (bif vc then c else 0) o p ps → prR g' ps → ∃ out, OC h' (I3 f) (bif va then a else 0) (bif vb then b else 0) (bif vc then c else 0) out ∧ OR g' (I3 f) a b c out ∧ OK g' f (bif va then a else 0) (bif vb then b else 0) (bif vc then c else 0) out) :
    ∀ {rr : Int32} {ll : List Int32}, ll.length ≤ 64 → (∃ u, F_336 (I3 f) a b c (sm_wI g 67 19 0) = some (0, u) ∧ dR u ll ∧ u.1 67 20 = rr) → (∀ u ps r l r' l', K1 h u ∨ (∃ z, K1 z u) → FS u f (bif va then a else 0) (bif vb then b else 0) (bif vc then c else 0) ps r l → FS u f (bif va then a else 0) (bif vb then b else 0) (bif vc then c else 0) ps r' l' → r = r' ∧ l = l') → ∃ v w' h1 g1, F_5 (I3 f) a b c o h = some (w', h1) ∧ F_341 (I3 f) a b c g = some (v, g1) ∧ K1 h1 g1 ∧ ext g g1 ∧ grow g g1 ∧ agr SCb h h1 ∧ agr SRb g g1 ∧ ((∃ e, 4 ≤ e ∧ e ≤ 5 ∧ w' = -I3 e ∧ v = -1 ∧ g1.1 67 19 = I3 e) ∨ ∃ y, y < nH g1 ∧ w' = I3 y ∧ v = I3 y ∧ hrs g1 y = rr ∧ hpl g1 y = ll ∧ fm g1 y = f) := by
  intro rr ll ll64 ck fu
  obtain ⟨h', c1, c2, c3⟩ := C_set (a := a) (b := b) (c := c) w op r hf t ea eb ec
  have a3 : agr Ssc h h' := agr_mono (fun b' j z => Or.inr (by unfold S34 at z; omega)) c3
  have K' : K1 h' (sm_wI g 67 19 0) := K1_19 (K1_h K (agr_mono Ssc_not a3)) 0
  have P' : prR (sm_wI g 67 19 0) ps := P
  have ag0 : agr SRb g (sm_wI g 67 19 0) := agr_wI agr_rfl (Or.inr (Or.inr (Or.inl ⟨rfl, Or.inr rfl⟩)))
  have E0 := ext_19 g 0
  have G0' := grow_19 g 0
  obtain ⟨out, o1, o2, o3⟩ := mk h' (sm_wI g 67 19 0) K' c2 P'
  have start : ∀ q, F_336 (I3 f) a b c (sm_wI g 67 19 0) = some q → F_341 (I3 f) a b c g = F_341_28 (I3 f) a b c q.1 q.2 := fun q hq => by
    show F_341_0 (I3 f) a b c g = _
    unfold F_341_0
    simp only [obs]
    rw [if_neg (I3_nn (by omega)), if_pos (by rw [I3_lit, I3_le (by omega) (by decide)]; omega), hq]; simp only [obs]
  rcases out with e | y | ⟨r, l, ps', o', p'⟩
  · obtain ⟨h1, x1, x2⟩ := o1
    obtain ⟨g1, y1, y2⟩ := o2
    have e3 : 1 ≤ e ∧ e ≤ 3 := o3
    exfalso
    obtain ⟨u, u1, -⟩ := ck
    rw [y1] at u1
    injection u1 with u1
    exact absurd (congrArg Prod.fst u1) (I3_ne0 e3.1 (by omega))
  · obtain ⟨h1, x1, x2⟩ := o1
    obtain ⟨g1, y1, y2⟩ := o2
    have e3 : y < nH (sm_wI g 67 19 0) := o3
    have w500 : nH (sm_wI g 67 19 0) ≤ 500 := K'.2.2.2.2.1.1.2
    exfalso
    obtain ⟨u, u1, -⟩ := ck
    rw [y1] at u1
    injection u1 with u1
    exact absurd (congrArg Prod.fst u1) (ns1 (lt1000 e3 w500))
  · obtain ⟨h1, x1, x2, x3, x4, x5, x6⟩ := o1
    obtain ⟨g1, y1, y2, y3, y4, y5⟩ := o2
    obtain ⟨z1, z2, z3, z4⟩ := (o3 : FS _ f _ _ _ ps' r l ∧ kR1 _ r ∧ kL _ l ∧ l.length ≤ 64)
    have st := start _ y1
    have E1 := ext_eq (okR_SRp y5)
    have K2 : K1 h1 g1 := K1_g (K1_h K' (agr_mono Ssc_not x6)) (agr_mono SRp_not y5)
    have bK := K'
    have nC1 : nC g1 = nC (sm_wI g 67 19 0) := by show tn _ = tn _; rw [y5.1 67 6 (by unfold SRp; omega)]
    have FS1 : FS g1 f (bif va then a else 0) (bif vb then b else 0) (bif vc then c else 0) ps' r l := FS_up (K1_base K') (fun k hk => by
      have := (K1_base K2).g k (by show k < tn _; rw [y5.1 67 35 (by unfold SRp; omega)]; exact hk)
      exact this) E1.1 z1
    have kr : kR1 g1 r := by obtain ⟨q, q1, q2⟩ := z2; exact ⟨q, q1, by rw [nC1]; exact q2⟩
    have kl : kL g1 l := fun i hi => by obtain ⟨q, q1, q2, q3⟩ := z3 i hi; exact ⟨q, q1, q2, by rw [nC1]; exact q3⟩
    have tyy : r = rr ∧ l = ll := by
      obtain ⟨u, u1, u2, u3⟩ := ck
      rw [y1] at u1
      injection u1 with u1
      have eu : g1 = u := congrArg Prod.snd u1
      subst eu
      exact ⟨y3.symm.trans u3, dR_inj y2 u2 z4 ll64⟩
    obtain ⟨v, w', h2, g2, m1, m2, m3, m4, m5, m6, m7, m8⟩ := MH2f K2 x4 (by omega) (by omega) x3 y4 x2 y2 y3 z4 kr kl FS1 (fun r' l' z => fu g1 _ _ _ _ _ (Or.inr ⟨h1, K2⟩) z FS1)
    refine ⟨v, w', h2, g2, ?_, ?_, m3, ext_trans E0 (ext_trans E1.1 m4), grow_trans G0' (grow_trans E1.2.1 m5), agr_trans (agr_mono (fun _ _ z => Or.inl z) (agr_trans a3 x6)) (agr_mono (fun _ _ z => Or.inr z) m6), agr_trans ag0 (agr_trans (agr_mono (fun _ _ z => Or.inl z) y5) (agr_mono (fun _ _ z => Or.inr z) m7)), ?_⟩
    · rw [c1, x1, m1]; rfl
    · rw [st]
      unfold F_341_28
      rw [if_pos (show (0 : Int32) ≤ 0 by decide), if_pos (show (0 : Int32) ≤ 0 by decide)]
      have go : ∀ vq : Bool, (bif vq then c else 0) = (bif vc then c else 0) → F_341_68 (I3 f) a b c (b2 vq) g1 = some (v, g2) := fun vq hq => by
        have m2' : F_341_107 (I3 f) (bif va then a else 0) (bif vb then b else 0) (bif vq then c else 0) g1 = some (v, g2) := by
          unfold F_341_107; rw [hq, m2]; rfl
        unfold F_341_68 F_341_84 F_341_96
        rw [rA]; simp only [obs]
        rw [rB]; simp only [obs]
        cases va <;> cases vb <;> cases vq <;> exact m2'
      unfold F_341_63
      by_cases q0 : f = 0
      · rw [if_pos (show I3 f = (0 : Int32) from congrArg I3 q0)]
        exact go true (by rw [rC, decide_eq_true (Or.inl q0)])
      · rw [if_neg (by rw [I3_lit, I3_inj (by omega) (by decide)]; exact q0)]
        by_cases q6 : f = 6
        · rw [if_pos (show I3 f = (6 : Int32) from congrArg I3 q6)]
          exact go true (by rw [rC, decide_eq_true (Or.inr q6)])
        · rw [if_neg (by rw [I3_lit, I3_inj (by omega) (by decide)]; exact q6)]
          exact go false (by rw [rC, decide_eq_false (by omega)])
    · rcases m8 with ⟨e, e1, e2, e3, e4⟩ | ⟨y, q1, q2, q3, q4, q5, q6⟩
      · exact Or.inl ⟨e, by omega, by omega, e2, e3, e4⟩
      · exact Or.inr ⟨y, q1, q2, q3, q5.trans tyy.1, q6.1.trans tyy.2, q6.2⟩
theorem mkForm2 {h g : sm_H} (K : K1 h g) (nf : NF h g) {pc k : Nat} (wh : g.1 67 106 = I3 pc) (k1 : 0 < k) (k2 : k < 20 + nC g) (R : hasL h 56 57 []) (P : prR g []) :
    (∃ y h1 g1, F_5 2 (I3 k) 0 0 56 h = some (I3 y, h1) ∧ F_429 2 (I3 k) 0 0 g = some (I3 y, g1) ∧ y < nH g1 ∧ hrs g1 y = I3 k ∧ hpl g1 y = [I3 k] ∧ fm g1 y = 2 ∧ TK h g h1 g1 ∧ NF h1 g1) ∨ ∃ w' h1 h2 g2, w' < 0 ∧ F_5 2 (I3 k) 0 0 56 h = some (w', h1) ∧ F_169 8 (I3 pc) h1 = some (-1, h2) ∧ F_429 2 (I3 k) 0 0 g = some (-1, g2) ∧ TK h g h2 g2 ∧ FT 8 pc h2 g2 := by
  have ck : ∃ u, F_336 (I3 2) (I3 k) 0 0 (sm_wI g 67 19 0) = some (0, u) ∧ dR u [I3 k] ∧ u.1 67 20 = I3 k := by
    rcases ck_2 (K1_c19 K) P.1 k1 (show k < 20 + nC (sm_wI g 67 19 0) from k2) 0 0 with z | ⟨y, u, u1, u2, -⟩
    · exact z
    · exfalso
      have h12 := K.1.2.1
      have K' := K1_c19 K
      obtain ⟨u0, f1, E1⟩ := E_clear K' (I3 k)
      obtain ⟨u3, f2, E2⟩ := E_add E1 (by simp) (I3 k)
      have : F_336 (I3 2) (I3 k) 0 0 (sm_wI g 67 19 0) = some (0, u3) := by
        refine ck_oth (X := some (0, u3)) P.1 (B336_2 _ _ _) ?_
        rw [B335_2, if_neg (by decide), kdK K' (show k < 20 + nC (sm_wI g 67 19 0) from k2)]; simp only [obs]
        rw [if_neg (by decide), if_neg (by rw [I3_lit, I3_inj (by omega) (by decide)]; omega), f1]; simp only [obs]
        rw [f2]; simp only [obs]
      rw [this] at u1
      injection u1 with u1
      exact ns1 (lt1000 u2 (w500 K')) (congrArg Prod.fst u1).symm
  obtain ⟨v, w', h1, g1, b1, b2', b3, b4, b5, b6, b7, b8⟩ := buildF2f (f := 2) (a := I3 k) (b := 0) (c := 0) K rw56 (Or.inr (Or.inl ⟨rfl, rfl⟩)) R P (by decide) (va := true) (vb := false) (vc := false) (fun _ => rfl) (by decide) (by decide) (by decide) (fun _ => rfl) (fun _ => rfl) (by decide) (fun h' g' K' S' P' => mk_2 K' S' (Or.inr (Or.inl ⟨rfl, rfl⟩)) P' 0 0) (by simp) ck (fun u ps r l r' l' z x y => by
      rcases z with z | ⟨_, z⟩
      · exact fu_2 z x y
      · exact fu_2 z x y)
  have T : TK h g h1 g1 := TK_mk b3 b4 b5 (agr_mono (fun _ _ z => Or.inl z) b6) (agr_mono (fun _ _ z => Or.inl z) b7)
  have n1 : NF h1 g1 := NF_agr nf b6 b7 (by unfold SCb Ssc SCd SCh SCt; omega) (by unfold SRb SRp SRh SRt; omega)
  have w5 : nH g1 ≤ 500 := b3.2.2.2.2.1.1.2
  have R0 : F_429 2 (I3 k) 0 0 g = F_429_0 2 (I3 k) 0 0 g := rfl
  unfold F_429_0 F_429_42 F_429_50 at R0
  rw [if_pos nf.2, show F_341 2 (I3 k) 0 0 g = some (v, g1) from b2'] at R0; simp only [obs] at R0
  rcases b8 with ⟨e, e1, e2, rfl, rfl, e4⟩ | ⟨y, y1, rfl, rfl, y3, y4, y5⟩
  · right
    obtain ⟨h2, g2, f1, f2, f3, f4⟩ := TK_fail T n1 (e := 8) (pc := pc) (by decide) (by decide)
    refine ⟨-I3 e, h1, h2, g2, ?_, b1, f1, ?_, f3, f4⟩
    · rcases (show e = 4 ∨ e = 5 by omega) with rfl | rfl <;> decide
    · rw [if_pos rfl, e4, if_neg (by rw [I3_lit, I3_le (by omega) (by decide)]; omega), show g1.1 67 106 = I3 pc from (b7.1 67 106 (by unfold SRb SRp SRh SRt; omega)).trans wh, show F_413 8 (I3 pc) g1 = some (0, g2) from f2] at R0
      exact R0
  · left
    rw [if_neg (I3_m1 (by omega))] at R0
    exact ⟨y, h1, g1, b1, R0, y1, y3, y4, y5, T, n1⟩
