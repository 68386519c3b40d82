theorem gen3 {h g : sm_H} (K : K1 h g) {fn : Nat} {f a b a' b' : Int32} {c c' : Int64} {o p : Nat} {ps : List Int32} (S : fS h f a' b' c' o p ps) (P : prR g ps) (f5 : f ≠ 5) (f18 : f ≠ 18) (f17 : f ≠ 17) (pn : sm_ldI G0 h 1000001 f = some (I3 3)) {Z : Int32 × sm_H → Option (Int32 × sm_H)} {X : Option (Int32 × sm_H)}
    (hF : F_336 f a b c g = (if g.1 67 3 = 3 then (F_314 0 3 g).bind Z else X).bind fun q => some (q.1, q.2)) (zX : X = some (1, g)) (zZ : Z (0, g) = some (1, g))
    (good : ∀ x y w, x < nH g → y < nH g → w < nH g → ps = [I3 x, I3 y, I3 w] → h.1 34 12 = I3 x → h.1 34 13 = I3 y → h.1 34 14 = I3 w → ldI g 69 24 0 = some (I3 x) → ldI g 69 24 1 = some (I3 y) → ldI g 69 24 2 = some (I3 w) → F_7 h = some (0, h) → F_336 f a b c g = (Z (1, g)).bind (fun q => some (q.1, q.2)) → ∃ out, OC h f a' b' c' out ∧ OR g f a b c out ∧ OK g fn a' b' c' out) : ∃ out, OC h f a' b' c' out ∧ OR g f a b c out ∧ OK g fn a' b' c' out := by
  refine genB K S P (by decide) f5 f18 f17 pn rfl hF zX zZ (fun l e c7 r => ?_)
  obtain ⟨x, x1, x2⟩ := e 0 (by decide)
  obtain ⟨y, y1, y2⟩ := e 1 (by decide)
  obtain ⟨w, w1, w2⟩ := e 2 (by decide)
  have ep := list3 l x2 y2 w2
  have ld := prR_ld P (k := 0) (by omega)
  have ld' := prR_ld P (k := 1) (by omega)
  have ld'' := prR_ld P (k := 2) (by omega)
  rw [x2] at ld
  rw [y2] at ld'
  rw [w2] at ld''
  refine good x y w x1 y1 w1 ep ?_ ?_ ?_ ld ld' ld'' c7 r
  · rw [S.f12, ep]; rfl
  · rw [S.f13, ep]; rfl
  · rw [S.f14, ep]; rfl
theorem mk_14 {h g : sm_H} (K : K1 h g) (a b : Int32) (c : Int64) {o p : Nat} {ps : List Int32} (S : fS h (I3 14) 0 0 0 o p ps) (op : oP o p) (P : prR g ps) : ∃ out, OC h (I3 14) 0 0 0 out ∧ OR g (I3 14) a b c out ∧ OK g 14 0 0 0 out := by
  have e7 := S.f7
  have h12 := K.1.2.1
  have w300 : nT g ≤ 300 := K.2.2.1.1.2
  refine gen3 K S P (by decide) (by decide) (by decide) rfl ((B336_14 _ _ _).trans rfl) rfl rfl (fun x y w x1 y1 w1 ep e12 e13 e14 ld ld' ld'' c7 R => ?_)
  subst ep
  dsimp only at R
  have n11 : F_11 h = some (0, h) := B11_14 e7 (e12 ▸ C_mn K x1)
  have tx := ty_lt K x1
  have tyy := ty_lt K y1
  have tw := ty_lt K w1
  have m10 := mn_10 K y1
  have n14 := B14_14 e7
  rw [e13, C_ty K y1] at n14; simp only [obs] at n14
  rw [e14, C_ty K w1] at n14; simp only [obs] at n14
  rw [if_neg (by decide), ld] at R; simp only [obs] at R
  rw [ld'] at R; simp only [obs] at R
  rw [R_ty K y1] at R; simp only [obs] at R
  rw [ld''] at R; simp only [obs] at R
  rw [R_ty K w1] at R; simp only [obs] at R
  by_cases q : ty g y = ty g w
  · rw [if_pos (by rw [q])] at n14 R
    rw [e12, C_rs K x1] at n14; simp only [obs] at n14
    rw [R_rs K x1] at R; simp only [obs] at R
    by_cases q1 : hrs g x = 1
    · rw [if_pos q1] at n14 R
      rw [e12, C_ty K x1] at n14; simp only [obs] at n14
      rw [e13, C_ty K y1] at n14; simp only [obs] at n14
      rw [e12, C_mn K x1] at n14; simp only [obs] at n14
      have A := C_agree K (i := 0) (j := 0) tx tyy (by omega) (by omega)
      rw [Nat.sub_zero, pl_len] at A
      have A' : F_235 (I3 (ty g x)) 0 (I3 (ty g y)) 0 (I3 (tM g (ty g x))) h = some (b2 (fitB (hpl g x) (hpl g y) 0 0), h) := A
      rw [A'] at n14; simp only [obs] at n14
      rw [R_rs K y1] at R; simp only [obs] at R
      obtain ⟨g0, f1, E0⟩ := E_clear K (hrs g y)
      obtain ⟨g1, f2, E1⟩ := E_all E0 y1 (by decide)
      rw [f1] at R; simp only [obs] at R
      rw [E_many E0 y1] at R; simp only [obs] at R
      rw [f2] at R; simp only [obs] at R
      rw [List.nil_append] at E1
      have F1 : F_312 (I3 x) 0 0 g1 = some (b2 (fitB (hpl g x) (hpl g y) 0 0), g1) := R_areFirst E1 (i := 0) (j := 0) x1 (by omega) (by omega) (by omega)
      rw [F1] at R; simp only [obs] at R
      cases j : fitB (hpl g x) (hpl g y) 0 0 with
      | false =>
        rw [j] at n14 R
        rw [if_pos (by decide)] at n14 R
        exact ⟨.ref 3, tl_4 c7 (B9_14 e7) n11 n14 agr_rfl, ⟨g1, R, agr_mono SRd_p E1.a⟩, ⟨by decide, by decide⟩⟩
      | true =>
        rw [j] at n14 R
        rw [if_neg (by decide)] at n14 R
        obtain ⟨u, d1, D0⟩ := D_begin K S op
        obtain ⟨u1, d2, D1⟩ := D_type D0 op tyy (by decide)
        have n45' := C_mn D0.k x1
        have e12' : u.1 34 12 = I3 x := D0.s.f12
        have e13' : u.1 34 13 = I3 y := D0.s.f13
        rw [← e12'] at n45'
        refine ⟨.fin (hrs g y) (hpl g y) _ o p, tl_6 S.w c7 (B9_14 e7) n11 n14 (B26_14 e7) S.f7 S.f8 S.f9 S.f10 S.f11 ?_ D1.d D1.s.r op (Ssc_d D1.a), ⟨g1, R, E1.d, E1.r, prR_SRd P E1.a, agr_mono SRd_p E1.a⟩, ?_⟩
        · rw [B29_14 d1 D0.s.f7 n45', e13', C_ty D0.k y1]; simp only [obs]; rw [d2]; rfl
        · exact ⟨(Or.inr (Or.inr (Or.inr (Or.inr (Or.inr (Or.inr (Or.inr (Or.inr (Or.inr (Or.inr (Or.inr (Or.inr (Or.inr (Or.inl ⟨rfl, x, y, w, x1, y1, w1, rfl, q, q1, fitB_pre j, rfl, rfl⟩)))))))))))))), kR_h K y1, kL_h K y1, by omega⟩
    · rw [if_neg q1] at n14 R
      exact ⟨.ref 3, tl_4 c7 (B9_14 e7) n11 n14 agr_rfl, ⟨g, R, agr_rfl⟩, ⟨by decide, by decide⟩⟩
  · have q' : ¬ I3 (ty g y) = I3 (ty g w) := by rw [I3_inj (by omega) (by omega)]; exact q
    rw [if_neg q'] at n14 R
    exact ⟨.ref 3, tl_4 c7 (B9_14 e7) n11 n14 agr_rfl, ⟨g, R, agr_rfl⟩, ⟨by decide, by decide⟩⟩
theorem len_one {l : List Int32} {x : Int32} (h : l.length = 1) (e : at0 l 0 = x) : l = [x] := list1 h e
def resB (g : sm_H) (x y : Nat) : Bool := if hrs g x = 0 then decide ((hpl g y).length = 0) else decide ((hpl g y).length = 1) && decide (at0 (hpl g y) 0 = hrs g x)
theorem resB_x {g : sm_H} {x y : Nat} (h : resB g x y = true) : hpl g y = (if hrs g x = 0 then [] else [hrs g x]) := by
  unfold resB at h
  by_cases q : hrs g x = 0
  · rw [if_pos q] at h ⊢
    exact List.eq_nil_of_length_eq_zero (of_decide_eq_true h)
  · rw [if_neg q] at h ⊢
    rw [Bool.and_eq_true, decide_eq_true_eq, decide_eq_true_eq] at h
    exact len_one h.1 h.2
theorem mk_9 {h g : sm_H} (K : K1 h g) (a b : Int32) (c : Int64) {o p : Nat} {ps : List Int32} (S : fS h (I3 9) 0 0 0 o p ps) (op : oP o p) (P : prR g ps) : ∃ out, OC h (I3 9) 0 0 0 out ∧ OR g (I3 9) a b c out ∧ OK g 9 0 0 0 out := by
  have e7 := S.f7
  have h12 := K.1.2.1
  have w300 : nT g ≤ 300 := K.2.2.1.1.2
  have w500 : nH g ≤ 500 := K.2.2.2.2.1.1.2
  refine gen2 K S P (by decide) (by decide) (by decide) rfl ((B336_9 _ _ _).trans rfl) rfl rfl (fun x y x1 y1 ep e12 e13 ld ld' c7 R => ?_)
  subst ep
  dsimp only at R
  have n11 : F_11 h = some (0, h) := B11_9 e7 (e12 ▸ C_mn K x1)
  have tx := ty_lt K x1
  have m10 := mn_10 K x1
  have m10y := mn_10 K y1
  have ly := hpl_len g y
  have n14 : F_14 h = some (b2 (!resB g x y), h) := by
    rw [B14_9 e7, e13, C_mn K y1]; simp only [obs]
    rw [e12, C_rs K x1]; simp only [obs]
    simp only [F_14_289, F_14_336, F_14_332, F_14_337, true_or, or_true, if_true, e12, C_rs K x1, obs, e13]
    unfold resB
    by_cases q : hrs g x = 0
    · rw [if_pos q, if_pos q, if_pos q]
      by_cases q1 : (hpl g y).length = 0
      · rw [if_pos (show I3 (tM g (ty g y)) = (0 : Int32) from congrArg I3 (ly.symm.trans q1)), decide_eq_true q1]; rfl
      · rw [if_neg (show ¬ I3 (tM g (ty g y)) = (0 : Int32) by rw [I3_lit, I3_inj (by omega) (by decide)]; omega), decide_eq_false q1]; rfl
    · rw [if_neg q, if_neg q, if_neg q]
      by_cases q1 : (hpl g y).length = 1
      · rw [if_pos (show I3 (tM g (ty g y)) = (1 : Int32) from congrArg I3 (ly.symm.trans q1)), decide_eq_true q1, show F_46 (I3 y) 0 h = _ from C_pc K y1 (k := 0) (by omega)]; simp only [obs]
        by_cases q2 : at0 (hpl g y) 0 = hrs g x
        · simp only [e12, C_rs K x1, obs]; rw [if_pos q2, decide_eq_true q2]; rfl
        · simp only [e12, C_rs K x1, obs]; rw [if_neg q2, decide_eq_false q2]; rfl
      · rw [if_neg (show ¬ I3 (tM g (ty g y)) = (1 : Int32) by rw [I3_lit, I3_inj (by omega) (by decide)]; omega), decide_eq_false q1]; rfl
  have n26 : F_26 h = some (if fm g y = 2 then I3 x else -1, h) := by
    have f38 : fm g y ≤ 38 := (K.2.2.2.2.1.2 y y1).1.2
    rw [B26_9 e7]
    unfold F_26_148
    rw [e13, C_fm K y1]; simp only [obs]
    by_cases q : fm g y = 2
    · rw [if_pos (show I3 (fm g y) = (2 : Int32) from congrArg I3 q), if_pos q, e12]; rfl
    · rw [if_neg (show ¬ I3 (fm g y) = (2 : Int32) by rw [I3_lit, I3_inj (by omega) (by decide)]; exact q), if_neg q]; rfl
  have RR : F_336 (I3 9) a b c g = ((F_323_85 (I3 x) (I3 y) (b2 (resB g x y)) g).bind fun q => some (q.1, q.2)) := by
    rw [R, if_neg (by decide), ld]; simp only [obs]
    rw [ld']; simp only [obs]
    rw [R_rs K x1]; simp only [obs]
    unfold resB F_323_84
    by_cases q : hrs g x = 0
    · rw [if_pos q, if_pos q, R_mn K y1]; simp only [obs]
      by_cases q1 : (hpl g y).length = 0
      · rw [if_pos (show I3 (tM g (ty g y)) = (0 : Int32) from congrArg I3 (ly.symm.trans q1)), decide_eq_true q1]; rfl
      · rw [if_neg (show ¬ I3 (tM g (ty g y)) = (0 : Int32) by rw [I3_lit, I3_inj (by omega) (by decide)]; omega), decide_eq_false q1]; rfl
    · rw [if_neg q, if_neg q, R_mn K y1]; simp only [obs]
      by_cases q1 : (hpl g y).length = 1
      · rw [if_pos (show I3 (tM g (ty g y)) = (1 : Int32) from congrArg I3 (ly.symm.trans q1)), decide_eq_true q1, show F_306 (I3 y) 0 g = _ from R_pc K y1 (k := 0) (by omega)]; simp only [obs]
        rw [R_rs K x1]; simp only [obs]
        by_cases q2 : at0 (hpl g y) 0 = hrs g x
        · rw [if_pos q2, decide_eq_true q2]; rfl
        · rw [if_neg q2, decide_eq_false q2]; rfl
      · rw [if_neg (show ¬ I3 (tM g (ty g y)) = (1 : Int32) by rw [I3_lit, I3_inj (by omega) (by decide)]; omega), decide_eq_false q1]; rfl
  cases j : resB g x y with
  | false =>
    rw [j] at n14 RR
    exact ⟨.ref 3, tl_4 c7 (B9_9 e7) n11 n14 agr_rfl, ⟨g, RR, agr_rfl⟩, ⟨by decide, by decide⟩⟩
  | true =>
    have f38 : fm g y ≤ 38 := (K.2.2.2.2.1.2 y y1).1.2
    rw [j] at n14 RR
    unfold F_323_85 at RR
    rw [if_neg (by decide), R_fm K y1] at RR; simp only [obs] at RR
    by_cases q : fm g y = 2
    · rw [if_pos q] at n26
      rw [if_pos (show I3 (fm g y) = (2 : Int32) from congrArg I3 q)] at RR
      exact ⟨.smp x, tl_5 (by omega) c7 (B9_9 e7) n11 n14 n26 agr_rfl, ⟨g, RR, agr_rfl⟩, x1⟩
    · rw [if_neg q] at n26
      rw [if_neg (show ¬ I3 (fm g y) = (2 : Int32) by rw [I3_lit, I3_inj (by omega) (by decide)]; exact q)] at RR
      obtain ⟨u, d1, D0⟩ := D_begin K S op
      obtain ⟨u1, d2, D1⟩ := D_places D0 op (t := ty g x) (i := 0) (j := tM g (ty g x)) tx (Nat.le_refl _) (by omega) (by decide)
      rw [Nat.sub_zero, ← pl_len, seg_all, List.nil_append] at D1
      obtain ⟨g0, f1, E0⟩ := E_clear K (hrs g y)
      obtain ⟨g1, f2, E1⟩ := E_all E0 x1 (by decide)
      have n45' := C_mn D0.k x1
      have e12' : u.1 34 12 = I3 x := D0.s.f12
      have e13' : u1.1 34 13 = I3 y := D1.s.f13
      rw [← e12'] at n45'
      have d2' : F_230 (I3 (ty g x)) 0 (I3 (tM g (ty g x))) u = some u1 := d2
      refine ⟨.fin (hrs g y) (hpl g x) _ o p, tl_6 S.w c7 (B9_9 e7) n11 n14 n26 S.f7 S.f8 S.f9 S.f10 S.f11 ?_ D1.d D1.s.r op (Ssc_d D1.a), ⟨g1, ?_, E1.d, E1.r, prR_SRd P E1.a, agr_mono SRd_p E1.a⟩, ?_⟩
      · rw [B29_9 d1 D0.s.f7 n45', e12', C_ty D0.k x1]; simp only [obs]; rw [d2']; simp only [obs]; rw [e13', C_rs D1.k y1]; rfl
      · rw [RR, R_rs K y1]; simp only [obs]; rw [f1]; simp only [obs]; rw [E_many E0 x1]; simp only [obs]; rw [f2]; rfl
      · exact ⟨(Or.inr (Or.inr (Or.inr (Or.inr (Or.inr (Or.inr (Or.inr (Or.inr (Or.inr (Or.inl ⟨rfl, x, y, x1, y1, rfl, resB_x j, rfl, rfl⟩)))))))))), kR_h K y1, kL_h K x1, by omega⟩
