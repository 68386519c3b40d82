theorem ext_eq {g g1 : sm_H} (a : ∀ b j, okR b j = true → g1.1 b j = g.1 b j ∧ g1.2.1 b j = g.2.1 b j) : ext g g1 ∧ grow g g1 ∧ same g g1 := by
  have i : ∀ b j, okR b j = true → g1.1 b j = g.1 b j := fun b j o => (a b j o).1
  have nc : nC g1 = nC g := by show tn _ = tn _; rw [i 67 6 rfl]
  have nv : nV g1 = nV g := by show tn _ = tn _; rw [i 67 40 rfl]
  have nt : nT g1 = nT g := by show tn _ = tn _; rw [i 67 10 rfl]
  have nh : nH g1 = nH g := by show tn _ = tn _; rw [i 67 18 rfl]
  have ng : nG g1 = nG g := by show tn _ = tn _; rw [i 67 35 rfl]
  have no : nO g1 = nO g := by show tn _ = tn _; rw [i 67 37 rfl]
  have nm : nM g1 = nM g := by show tn _ = tn _; rw [i 67 32 rfl]
  have nx : nX g1 = nX g := by show tn _ = tn _; rw [i 67 45 rfl]
  refine ⟨⟨by omega, fun c _ => i 70 c rfl, by omega, fun v _ => i 94 v rfl, ⟨by omega, fun t _ => ⟨i 72 t rfl, i 73 t rfl, fun k _ => i 74 _ rfl⟩⟩, by omega, fun x _ => i 76 x rfl, by omega, fun k _ => ?_, by omega, ⟨by omega, fun m _ => ⟨i 83 m rfl, i 84 m rfl, i 86 m rfl, i 87 m rfl, i 88 m rfl, i 89 m rfl⟩⟩⟩, ⟨by omega, by omega, by omega, fun t _ => i 96 t rfl, fun c _ => i 70 c rfl⟩, ⟨nh, fun x _ => ⟨i 75 x rfl, i 77 x rfl, i 78 x rfl, (a 79 x rfl).2, i 80 x rfl⟩, fun x k _ _ => i 81 _ rfl⟩⟩
  show tn (g1.1 76 (tn (g1.1 92 k))) = tn (g.1 76 (tn (g.1 92 k)))
  rw [i 92 k rfl, i 76 _ rfl]
theorem okR_SRd {g g1 : sm_H} (a : agr SRd g g1) : ∀ b j, okR b j = true → g1.1 b j = g.1 b j ∧ g1.2.1 b j = g.2.1 b j := fun b j ok => by
  have n : ¬ SRd b j := fun z => by have := SRd_not b j z; rw [show okR b j = false from this] at ok; cases ok
  exact ⟨a.1 b j n, a.2.1 b j n⟩
theorem isTy_pl {g : sm_H} {t : Nat} {r : Int32} {l : List Int32} (i : isTy g t r l) (hl : l.length < 2147483648) : rs g t = r ∧ pl g t = l := by
  obtain ⟨i1, i2, i3, i4⟩ := i
  have eM : tM g t = l.length := by show tn _ = _; rw [i3]; exact I3_clamp hl
  refine ⟨i2, ?_⟩
  show lst _ (tM g t) = l
  rw [eM]
  refine lst_ext (lst_len _ _) (fun k hk => ?_)
  rw [lst_len] at hk
  rw [at0_lst hk]; exact i4 k hk
theorem cons_seg {L : List Int32} (h : 0 < L.length) : L = at0 L 0 :: seg L 1 (L.length - 1) := by
  have : L = seg L 0 1 ++ seg L 1 (L.length - 1) := by
    rw [seg_take (by omega), seg_drop (by omega), List.take_append_drop]
  exact this
theorem refuse3 {h g h1 g1 : sm_H} (I : I1 h g) (a : agr SCd h h1) (b : agr SRd (sm_wI g 67 19 0) g1) (n : Nat) : I1 (sm_wI h1 0 12 (I3 n)) (sm_wI g1 67 19 (I3 n)) ∧ kR h (sm_wI h1 0 12 (I3 n)) ∧ kC g (sm_wI g1 67 19 (I3 n)) := by
  obtain ⟨r1, -, -⟩ := refuse2 (I1_h I (agr_mono SCd_not a)) n
  refine ⟨I1_g r1 (okR_SRd (agr_wI2 b 67 19 (I3 n))), ?_, ?_⟩
  · exact kR_agr (S := fun b j => SCd b j ∨ b = 0) (agr_wI (agr_mono (fun _ _ z => Or.inl z) a) (Or.inr rfl)) (fun b j z => by unfold SCd at z; omega)
  · exact kC_agr (S := fun b j => SRd b j ∨ b = 67) (agr_wI (agr_trans (agr_wI agr_rfl (Or.inr rfl)) (agr_mono (fun _ _ z => Or.inl z) b)) (Or.inr rfl)) (fun b j z => by unfold SRd at z; omega)
theorem kL_hpl {g : sm_H} (wT : wfT g) (wH : wfH0 g) {x a n : Nat} (hx : x < nH g) (h : a + n ≤ tM g (ty g x)) : kL g (seg (hpl g x) a n) := by
  intro i hi
  rw [seg_len] at hi
  have lt := (wH.2 x hx).2.2.1
  obtain ⟨z1, z2⟩ := (wT.2.1 _ lt).2.2 (a + i) (by omega)
  unfold seg
  rw [at0_lst hi, at0_lst (by omega)]
  exact ⟨_, z1.1, z2, by have := z1.2; omega⟩
theorem kR1_hrs {g : sm_H} (wT : wfT g) (wH : wfH0 g) {x : Nat} (hx : x < nH g) : kR1 g (hrs g x) := by
  have lt := (wH.2 x hx).2.2.1
  have z1 := (wT.2.1 _ lt).1
  exact ⟨_, z1.1, by have := z1.2; omega⟩
theorem methodOk {h g : sm_H} (I : I1 h g) {st : Bool} {c x : Nat} {nm rt : Int32} (hc : c < nC g) (hx : x < nH g) (nm1 : cnt nm 99) (rt1 : cnt rt 3) (pl0 : st = false → 0 < (hpl g x).length ∧ at0 (hpl g x) 0 = I3 (20 + c)) : ∃ v h1 g1 w, F_115_58 (I3 (20 + c)) nm (I3 x) (b2 st) rt h = some (w, h1) ∧ (F_264 w h1 = some (v, sm_wI h1 0 12 (g1.1 67 19))) ∧ F_391_87 (I3 (20 + c)) nm (I3 x) (b2 st) rt (sm_wI g 67 19 0) = some (v, g1) ∧ I1 (sm_wI h1 0 12 (g1.1 67 19)) g1 ∧ kR h (sm_wI h1 0 12 (g1.1 67 19)) ∧ kC g g1 := by
  have K := (I1_K.mp I).1
  obtain ⟨wK, cK, wT, cT, wH, cH, wM, cM, cG, cO, cV, wX, cX, cXh, wF⟩ := id K
  have h12 := wK.2.1
  have m100 : nM g ≤ 100 := wM.1.2
  have w300 : nT g ≤ 300 := wT.1.2
  have w500 : nH g ≤ 500 := wH.1.2
  have e32 : g.1 67 32 = I3 (nM g) := wM.1.1
  have lt := (wH.2 x hx).2.2.1
  have eT : g.1 76 x = I3 (ty g x) := (wH.2 x hx).2.1
  have m10 : tM g (ty g x) ≤ 10 := (wT.2.1 _ lt).2.1.2
  have eM : g.1 73 (ty g x) = I3 (tM g (ty g x)) := (wT.2.1 _ lt).2.1.1
  have ln : (hpl g x).length = tM g (ty g x) := lst_len _ _
  generalize ha : (bif st then 0 else 1 : Nat) = a
  have a1 : a ≤ 1 := by cases st <;> rw [← ha] <;> decide
  have aM : a ≤ tM g (ty g x) := by
    cases st with
    | true => rw [← ha]; exact Nat.zero_le _
    | false => have := (pl0 rfl).1; rw [ln] at this; omega
  generalize hl : seg (hpl g x) a (tM g (ty g x) - a) = l
  have len : l.length = tM g (ty g x) - a := by rw [← hl, seg_len]
  obtain ⟨h0, b1, b2', b3⟩ := C_begin h
  have K0 := K1_h K (agr_mono SCd_not b3)
  obtain ⟨h1, w1, w2, w3⟩ := C_withPlaces (t := ty g x) (a := a) (b := tM g (ty g x)) K0 b2' (by decide) lt (Nat.le_refl _) (by omega)
  rw [List.nil_append] at w2
  have w2 : dC h1 l := by rw [← hl]; exact w2
  have ag : agr SCd h h1 := agr_trans b3 w3
  have Kh1 := K1_h K (agr_mono SCd_not ag)
  have t1 := C_typeOf wH K0.2.2.2.2.2.1 hx
  have t2 := C_placesOf wH K0.2.2.2.2.2.1 hx
  have t3 := C_resultOf wH Kh1.2.2.2.2.2.1 hx
  have F := C_fits wT Kh1.2.2.2.1 w2 (by omega) (hrs g x)
  rw [eT] at t1
  rw [eM] at t2
  have Kg : K1 h (sm_wI g 67 19 0) := ⟨wK, cK, wT, cT, wH, cH, wM, cM, cG, cO, cV, wX, cX, cXh, wF⟩
  have r1 := R_result (g := sm_wI g 67 19 0) wT wH hx
  obtain ⟨g0, f1, f2, f3, f4⟩ := R_clear (sm_wI g 67 19 0) (hrs g x)
  have Kg0 := K1_g Kg (agr_mono SRd_not f3)
  obtain ⟨E0, -, -⟩ := ext_eq (okR_SRd f3)
  have nh0 : nH g0 = nH g := by show tn _ = tn _; rw [f3.1 67 18 (by unfold SRd; omega)]; rfl
  have ty0 : ty g0 x = ty g x := ext_ty E0 hx
  have tm0 : tM g0 (ty g x) = tM g (ty g x) := by show tn _ = tn _; rw [f3.1 73 _ (by unfold SRd; omega)]; rfl
  have hp0 : hpl g0 x = hpl g x := ext_hpl (g := sm_wI g 67 19 0) wH E0 hx
  have r2 := R_many (g := g0) Kg0.2.2.1 Kg0.2.2.2.2.1 (x := x) (by omega)
  rw [ty0, tm0] at r2
  obtain ⟨g1, p1, p2, p3, p4⟩ := R_addPlaces (g := g0) (x := x) (a := a) (b := tM g (ty g x)) Kg0 f2 (by omega) (by rw [ty0, tm0]; exact Nat.le_refl _) (by simp only [List.length_nil]; omega) (by omega)
  rw [List.nil_append, hp0, hl] at p2
  have bg : agr SRd (sm_wI g 67 19 0) g1 := agr_trans f3 p3
  have Kg1 : K1 h1 g1 := K1_g (K1_h Kg (agr_mono SCd_not ag)) (agr_mono SRd_not bg)
  have er : g1.1 67 20 = hrs g x := p4.trans f4
  have RF := R_findT Kg1.2.2.1 p2 (by omega) (hrs g x)
  obtain ⟨E1, G1, -⟩ := ext_eq (okR_SRd bg)
  have nT1 : nT g1 = nT g := by show tn _ = tn _; rw [bg.1 67 10 (by unfold SRd; omega)]; rfl
  have nM1 : nM g1 = nM g := by show tn _ = tn _; rw [bg.1 67 32 (by unfold SRd; omega)]; rfl
  have fTe : fT g1 (hrs g x) l = fT g (hrs g x) l := by
    unfold fT
    rw [nT1]
    refine fst1_congr (fun k _ => ?_)
    unfold tyP
    rw [bg.1 72 _ (by unfold SRd; omega), bg.1 73 _ (by unfold SRd; omega)]
    congr 2
    refine all1_congr (fun j _ => ?_)
    rw [bg.1 74 _ (by unfold SRd; omega)]; rfl
  rw [fTe, nT1] at RF
  have z2 : (bif st then (0 : Int32) else 1) = I3 a := by cases st <;> rw [← ha] <;> rfl
  have cls : F_115_58 (I3 (20 + c)) nm (I3 x) (b2 st) rt h = F_115_87 (I3 (20 + c)) nm (I3 x) (b2 st) rt (I3 (ty g x)) (I3 a) h0 := by
    unfold F_115_58
    rw [b1]; simp only [Option.bind_some]
    rw [t1]; simp only [Option.bind_some]
    rw [← z2]
    cases st <;> rfl
  have ref : F_391_87 (I3 (20 + c)) nm (I3 x) (b2 st) rt (sm_wI g 67 19 0) = F_391_108 (I3 (20 + c)) nm (I3 x) (b2 st) rt (I3 x) (I3 a) g0 := by
    unfold F_391_87
    rw [r1]; simp only [Option.bind_some]
    have f1' : F_308 (hrs (sm_wI g 67 19 0) x) (sm_wI g 67 19 0) = some g0 := f1
    rw [f1']; simp only [Option.bind_some]
    rw [← z2]
    cases st <;> rfl
  have cls2 : ∀ q, F_233 (hrs g x) h1 = some (b2 q, h1) → F_115_58 (I3 (20 + c)) nm (I3 x) (b2 st) rt h = if b2 q = 0 then (some ((-4), h1)) else (if (h1.1 38 13) < 100 then ((stI h1 43 100 (h1.1 38 13) 0).bind fun h5 => (stI h5 44 100 (h5.1 38 13) (I3 x)).bind fun h6 => (F_44 (I3 x) h6).bind fun q7 => (F_234 q7.1 q7.2).bind fun q8 => (stI q8.2 45 100 (h6.1 38 13) q8.1).bind fun h9 => (stI h9 46 100 (h9.1 38 13) (-1)).bind fun h10 => (F_117 (I3 (20 + c)) nm (b2 st) rt h10).bind fun q11 => some (q11.1, q11.2)) else (some ((-5), h1))) := fun q e => by
    rw [cls]
    unfold F_115_87
    rw [t2]; simp only [Option.bind_some]
    rw [w1]; simp only [Option.bind_some]
    rw [t3]; simp only [Option.bind_some]
    rw [e]; simp only [Option.bind_some]
  have ref2 : F_391_87 (I3 (20 + c)) nm (I3 x) (b2 st) rt (sm_wI g 67 19 0) = if orN (fT g (hrs g x) l < nT g) (fT g (hrs g x) l) = -1 then (if (g1.1 67 10) = 300 then ((F_388 4 g1).bind fun q11 => some (q11.1, q11.2)) else (F_391_148 (I3 (20 + c)) nm (I3 x) (b2 st) rt g1)) else (F_391_148 (I3 (20 + c)) nm (I3 x) (b2 st) rt g1) := by
    rw [ref]
    unfold F_391_108
    rw [r2]; simp only [Option.bind_some]
    rw [p1]; simp only [Option.bind_some]
    rw [er, p2.1, RF]; simp only [Option.bind_some]
  have e10 : g1.1 67 10 = I3 (nT g) := by have := Kg1.2.2.1.1.1; rw [this]; show I3 (nT g1) = _; rw [nT1]
  by_cases room : nT g < 300 ∨ fT g (hrs g x) l < nT g
  · rw [decide_eq_true ⟨by omega, room⟩] at F
    have c3 := cls2 true F
    rw [if_neg (show ¬ b2 true = 0 by decide)] at c3
    have r3 : F_391_87 (I3 (20 + c)) nm (I3 x) (b2 st) rt (sm_wI g 67 19 0) = F_391_148 (I3 (20 + c)) nm (I3 x) (b2 st) rt g1 := by
      rw [ref2, e10]
      by_cases q : nT g < 300
      · rw [if_neg (show ¬ I3 (nT g) = 300 by rw [I3_lit, I3_inj (by omega) (by decide)]; omega), ite_self]
      · unfold orN
        rw [if_pos (show fT g (hrs g x) l < nT g by omega), if_neg (I3_m1 (by omega))]
    have k13 : h1.1 38 13 = I3 (nM g) := by rw [ag.1 38 13 (by unfold SCd; omega)]; exact cM.1.trans e32
    have g32 : g1.1 67 32 = I3 (nM g) := by rw [bg.1 67 32 (by unfold SRd; omega)]; exact e32
    by_cases full : nM g = 100
    · rw [k13, if_neg (by rw [I3_lit, I3_lt (by omega) (by decide)]; omega)] at c3
      obtain ⟨q1, q2, q3⟩ := refuse3 I ag bg 5
      refine ⟨-1, h1, sm_wI g1 67 19 (I3 5), -I3 5, c3, C_judgeN (by decide) (by decide), ?_, q1, q2, q3⟩
      rw [r3]
      unfold F_391_148
      rw [g32, full, if_pos (show I3 100 = (100 : Int32) by decide)]; rfl
    · rw [k13, if_pos (by rw [I3_lit, I3_lt (by omega) (by decide)]; omega)] at c3
      obtain ⟨KP, EP, GP⟩ := K1_pre (h := h1) (g := g1) Kg1 (st := st) (of := I3 (20 + c)) (nm := nm) (rt := rt) (x := I3 x)
      rw [nM1] at KP EP GP
      have fP : fT (mtR0 g1 (nM g) st (I3 (20 + c)) nm rt (I3 x)) (hrs g x) l = fT g (hrs g x) l := fTe
      have nP : nT (mtR0 g1 (nM g) st (I3 (20 + c)) nm rt (I3 x)) = nT g := nT1
      have kr : kR1 g (hrs g x) := kR1_hrs wT wH hx
      have kl : kL g l := by rw [← hl]; exact kL_hpl wT wH hx (by omega)
      have nC1 : nC (mtR0 g1 (nM g) st (I3 (20 + c)) nm rt (I3 x)) = nC g := by show tn (g1.1 67 6) = tn (g.1 67 6); rw [bg.1 67 6 (by unfold SRd; omega)]; rfl
      obtain ⟨h3, g3, s1, s2, s3, s4, s5, s6, s7, s8, s9⟩ := settled (h := mtC0 h1 (nM g) (I3 x)) (g := mtR0 g1 (nM g) st (I3 (20 + c)) nm rt (I3 x)) (r := hrs g x) (l := l) KP w2 p2 er (by omega) (by rw [fP, nP]; exact room) (by unfold kR1; rw [nC1]; exact kr) (by unfold kL; rw [nC1]; exact kl)
      rw [fP] at s1 s2 s7
      generalize ht : fT g (hrs g x) l = t at s1 s2 s7
      have nM3 : nM g3 = nM g := by show tn _ = tn _; rw [s9.1 67 32 (by unfold SRt; omega)]; show tn (g1.1 67 32) = _; rw [g32]; exact I3_clamp (by omega)
      have T3 : ext (sm_wI g 67 19 0) g3 := ext_trans (ext_trans E1 EP) s4
      have hx3 : x < nH g3 := Nat.lt_of_lt_of_le hx T3.h1
      have tt : t < nT g3 := s7.1
      obtain ⟨y1, y2⟩ := isTy_pl s7 (by omega)
      have hr3 : hrs g3 x = hrs g x := ext_hrs (g := sm_wI g 67 19 0) wH T3 hx
      have hp3 : hpl g3 x = hpl g x := ext_hpl (g := sm_wI g 67 19 0) wH T3 hx
      have w301 : nT g3 ≤ 300 := s3.2.2.1.1.2
      obtain ⟨M1, M2, M3⟩ := method_K (h := h3) (g := g3) s3 (st := st) (of := I3 (20 + c)) (nm := nm) (rt := rt) (x := x) (t := t) (by omega) ⟨c, Nat.lt_of_lt_of_le hc T3.c1, rfl⟩ nm1 rt1 hx3 tt
        (by rw [nM3, s8.1 43 _ (by unfold SCt; omega)]; exact if_pos rfl) (by rw [nM3, s8.1 44 _ (by unfold SCt; omega)]; exact if_pos rfl)
        (by rw [nM3, s9.1 83 _ (by unfold SRt; omega)]; exact if_pos rfl) (by rw [nM3, s9.1 84 _ (by unfold SRt; omega)]; exact if_pos rfl) (by rw [nM3, s9.1 85 _ (by unfold SRt; omega)]; exact if_pos rfl) (by rw [nM3, s9.1 86 _ (by unfold SRt; omega)]; exact if_pos rfl) (by rw [nM3, s9.1 87 _ (by unfold SRt; omega)]; exact if_pos rfl) (by rw [nM3, s9.1 90 _ (by unfold SRt; omega)]; exact if_pos rfl)
        (by
          rw [y1, y2, hr3, hp3]
          refine ⟨rfl, ?_⟩
          cases st with
          | true =>
            rw [if_neg (show ¬ b2 true = 0 by decide), ← hl, ← ha]
            show hpl g x = seg (hpl g x) 0 (tM g (ty g x) - 0)
            rw [Nat.sub_zero, ← ln, seg_all]
          | false =>
            obtain ⟨u1, u2⟩ := pl0 rfl
            rw [if_pos (show b2 false = 0 by decide), ← hl, ← ha]
            show hpl g x = I3 (20 + c) :: seg (hpl g x) 1 (tM g (ty g x) - 1)
            rw [← ln, ← u2]
            exact cons_seg u1)
      rw [nM3] at M1 M2 M3
      have k13' : h3.1 38 13 = I3 (nM g) := by rw [s8.1 38 13 (by unfold SCt; omega)]; exact k13
      have g32' : g3.1 67 32 = I3 (nM g) := by rw [s9.1 67 32 (by unfold SRt; omega)]; exact g32
      have z19 : (mtR1 g3 (nM g) (I3 t)).1 67 19 = 0 := by
        show g3.1 67 19 = 0
        rw [s9.1 67 19 (by unfold SRt; omega)]
        show g1.1 67 19 = 0
        rw [bg.1 67 19 (by unfold SRd; omega)]; rfl
      have t3' := C_resultOf (h := mtC0 h1 (nM g) (I3 x)) (g := g) wH Kh1.2.2.2.2.2.1 hx
      refine ⟨I3 (nM g), mtC1 h3 (nM g) st (I3 (20 + c)) nm rt (I3 t), mtR1 g3 (nM g) (I3 t), I3 (nM g), ?_, ?_, ?_, ?_, ?_, ?_⟩
      · rw [c3]
        have t3'' : F_44 (I3 x) (sm_wI (sm_wI h1 43 (nM g) (I3 0)) 44 (nM g) (I3 x)) = some (hrs g x, mtC0 h1 (nM g) (I3 x)) := t3'
        have hn : nM g < 100 := by omega
        simp (disch := omega) only [↓reduceIte, if_true, if_false, ite_self, Option.bind_some, Option.map_some, wI_rd, wJ_rd, wI_2, wJ_1, wJ_22, I3_lit, I3_add, I3_mul, I3_lt, I3_le, I3_inj, I3_nn', I3_n1, I3_n2, m2m1, ldI_I, ldJ_I, ldZ_I, stI_I, stJ_I, true_or, or_true, false_or, or_false, true_and, and_true, false_and, and_false, not_true_eq_false, not_false_eq_true, reduceCtorEq, Nat.reduceEqDiff, Nat.lt_irrefl, Nat.not_lt_zero, Nat.le_refl, Nat.reduceLT, Nat.reduceLeDiff, eq_self, zbbI, bbI0, bbI1, decide_eq_false_iff_not, decide_eq_true_eq, Bool.not_eq_false, Bool.not_eq_true, Bool.not_true, Bool.not_false, cond_true, cond_false, F_117_0, F_117, k13, t3'', s1, k13', hn, stZ_I, I3_sub, Nat.add_sub_cancel]
        rfl
      · rw [z19]; exact C_judge (by omega)
      · rw [r3]
        have s2' : F_302 (sm_wI (sm_wI (sm_wI (sm_wI (sm_wI (sm_wI g1 83 (nM g) (I3 (20 + c))) 84 (nM g) nm) 85 (nM g) rt) 86 (nM g) (b2 st)) 87 (nM g) (I3 0)) 90 (nM g) (I3 x)) = some (I3 t, g3) := s2
        have nf : ¬ nM g = 100 := full
        have z0 : ∀ (u : sm_H) (k : Nat), k < 100 → stZ u 87 100 (I3 k) (I3 0) = some (sm_wI u 87 k (I3 0)) := fun u k hk => stZ_I (b := false) hk (by omega)
        simp (disch := omega) only [↓reduceIte, if_true, if_false, ite_self, Option.bind_some, Option.map_some, wI_rd, wJ_rd, wI_2, wJ_1, wJ_22, I3_lit, I3_add, I3_mul, I3_lt, I3_le, I3_inj, I3_nn', I3_n1, I3_n2, m2m1, ldI_I, ldJ_I, ldZ_I, stI_I, stJ_I, true_or, or_true, false_or, or_false, true_and, and_true, false_and, and_false, not_true_eq_false, not_false_eq_true, reduceCtorEq, Nat.reduceEqDiff, Nat.lt_irrefl, Nat.not_lt_zero, Nat.le_refl, Nat.reduceLT, Nat.reduceLeDiff, eq_self, zbbI, bbI0, bbI1, decide_eq_false_iff_not, decide_eq_true_eq, Bool.not_eq_false, Bool.not_eq_true, Bool.not_true, Bool.not_false, cond_true, cond_false, F_391_148, F_389_0, F_389, g32, nf, stZ_I, z0, s2', g32', I3_sub, Nat.add_sub_cancel]
        rfl
      · rw [z19]
        have B1 : I1 (sm_wI h 0 12 0) (sm_wI g 67 19 0) := (refuse2 I 0).1 |> fun z => I1_g z (fun b j _ => by
          refine ⟨?_, rfl⟩
          rw [wI_rd, wI_rd, wI_rd]
          by_cases q : b = 67 ∧ j = 19
          · rw [if_pos q, if_pos q]; rfl
          · rw [if_neg q, if_neg q])
        refine I1_re B1 (h1 := sm_wI (mtC1 h3 (nM g) st (I3 (20 + c)) nm rt (I3 t)) 0 12 0) ?_ (ext_trans T3 M2) (grow_trans (grow_trans (grow_trans G1 GP) s5) M3) ?_ ?_
        · obtain ⟨wK, cK, wT, cT, wH, cH, wM, cM, cG, cO, cV, wX, cX, cXh, wF⟩ := M1
          exact ⟨wK, cK, wT, cT, wH, cH, wM, cM, cG, cO, cV, wX, cX, cXh_fr (by repeat first | exact hi_rfl | refine hi_wI ?_ (by decide) | refine hi_wJ ?_ (by decide)) cXh, wF⟩
        · refine oC_agr (S := fun b j => SCd b j ∨ SCt b j ∨ (38 ≤ b ∧ b ≤ 46)) (agr_wI2 ?_ 0 12 0) (fun b j z => by unfold SCd SCt at z; unfold oC; omega)
          refine agr_trans (agr_mono (fun _ _ z => Or.inl z) ag) ?_
          refine agr_trans (h1 := mtC0 h1 (nM g) (I3 x)) (by unfold mtC0; exact agr_wI (agr_wI agr_rfl (by omega)) (by omega)) ?_
          refine agr_trans (agr_mono (fun _ _ z => Or.inr (Or.inl z)) s8) ?_
          unfold mtC1
          repeat first | exact agr_rfl | refine agr_wI ?_ (by omega)
        · refine oR_agr (S := fun b j => SRd b j ∨ SRt b j ∨ (83 ≤ b ∧ b ≤ 91) ∨ (b = 67 ∧ j = 32)) ?_ (fun b j z => by unfold SRd SRt at z; unfold oR; omega)
          refine agr_trans (agr_mono (fun _ _ z => Or.inl z) bg) ?_
          refine agr_trans (h1 := mtR0 g1 (nM g) st (I3 (20 + c)) nm rt (I3 x)) (by unfold mtR0; repeat first | exact agr_rfl | refine agr_wI ?_ (by omega)) ?_
          refine agr_trans (agr_mono (fun _ _ z => Or.inr (Or.inl z)) s9) ?_
          unfold mtR1
          repeat first | exact agr_rfl | refine agr_wI ?_ (by omega)
      · refine kR_agr (S := fun b j => SCd b j ∨ SCt b j ∨ (38 ≤ b ∧ b ≤ 46) ∨ b = 0) (agr_wI ?_ (by omega)) (fun b j z => by unfold SCd SCt at z; omega)
        refine agr_trans (agr_mono (fun _ _ z => Or.inl z) ag) ?_
        refine agr_trans (h1 := mtC0 h1 (nM g) (I3 x)) (by unfold mtC0; exact agr_wI (agr_wI agr_rfl (by omega)) (by omega)) ?_
        refine agr_trans (agr_mono (fun _ _ z => Or.inr (Or.inl z)) s8) ?_
        unfold mtC1
        repeat first | exact agr_rfl | refine agr_wI ?_ (by omega)
      · refine kC_agr (S := fun b _ => 67 ≤ b ∧ b < 131) ?_ (fun b j z => z)
        refine agr_trans (h1 := sm_wI g 67 19 0) (agr_wI agr_rfl (by omega)) ?_
        refine agr_trans (agr_mono (fun b j z => by unfold SRd at z; omega) bg) ?_
        refine agr_trans (h1 := mtR0 g1 (nM g) st (I3 (20 + c)) nm rt (I3 x)) (by unfold mtR0; repeat first | exact agr_rfl | refine agr_wI ?_ (by omega)) ?_
        refine agr_trans (agr_mono (fun b j z => by unfold SRt at z; omega) s9) ?_
        unfold mtR1
        repeat first | exact agr_rfl | refine agr_wI ?_ (by omega)
  · rw [decide_eq_false (by omega)] at F
    have c3 := cls2 false F
    rw [if_pos (show b2 false = 0 by decide)] at c3
    obtain ⟨q1, q2, q3⟩ := refuse3 I ag bg 4
    refine ⟨-1, h1, sm_wI g1 67 19 (I3 4), -I3 4, c3, C_judgeN (by decide) (by decide), ?_, q1, q2, q3⟩
    rw [ref2, e10]
    have on : orN (fT g (hrs g x) l < nT g) (fT g (hrs g x) l) = -1 := if_neg (by omega)
    rw [on, if_pos rfl, if_pos (by rw [show nT g = 300 by omega]; rfl)]; rfl
