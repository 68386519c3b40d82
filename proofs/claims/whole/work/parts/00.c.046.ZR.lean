theorem rngle1 {α : Type} {x : Int32} {m : Nat} {A C : α} (hm : m < 2147483647) : (if x < 0 then A else if x ≤ I3 m - 1 then C else A) = bif inR x m then C else A := by
  rcases I3_cases x with ⟨k, hk, rfl⟩ | hx
  · rw [if_neg (I3_nn hk), inR_I hk]
    have e : (I3 k ≤ I3 m - 1) = (k < m) := by
      rw [Int32.le_iff_toInt_le, I3_toInt hk, I3_lit, I3m1 (by omega)]
      exact propext ⟨fun z => by omega, fun z => by omega⟩
    by_cases c : k < m
    · rw [if_pos (by rw [e]; exact c), decide_eq_true c]; rfl
    · rw [if_neg (by rw [e]; exact c), decide_eq_false c]; rfl
  · rw [if_pos hx]
    rcases inR_c x m (by omega) with ⟨k, h1, h2, h3⟩ | h3
    · exact absurd h2 (neg_ne_I3 hx (by omega))
    · rw [h3]; rfl
def givB (g : sm_H) (x y n : Nat) : Bool := decide (hrs g y = 0) || decide (at0 (hpl g x) n = hrs g y)
theorem C_given {h g : sm_H} (K : K1 h g) {y : Nat} (y1 : y < nH g) (e13 : h.1 34 13 = I3 y) : F_12 h = some (I3 (gone (hrs g y)), h) := by
  show F_12_0 h = _
  unfold F_12_0 gone
  rw [e13, C_rs K y1]; simp only [obs]
  by_cases q : hrs g y = 0
  · rw [if_pos q, if_pos q]; rfl
  · rw [if_neg q, if_neg q]; rfl
theorem gone_1 (r : Int32) : gone r ≤ 1 := by unfold gone; split <;> omega
theorem C_disG {h g : sm_H} (K : K1 h g) {x y n : Nat} (x1 : x < nH g) (y1 : y < nH g) (e12 : h.1 34 12 = I3 x) (e13 : h.1 34 13 = I3 y) (e8 : h.1 34 8 = I3 n) (hn : n + gone (hrs g y) ≤ (hpl g x).length) : F_17 h = some (b2 (!givB g x y n), h) := by
  show F_17_0 h = _
  simp only [F_17_0, F_17_47, F_17_48, true_or, or_true, if_true, e12, e13, e8, C_rs K y1, obs]
  unfold givB
  unfold gone at hn
  by_cases q : hrs g y = 0
  · rw [if_pos q, decide_eq_true q]; rfl
  · rw [if_neg q] at hn
    rw [if_neg q, decide_eq_false q, C_pc K x1 (by omega)]; simp only [obs, e13, C_rs K y1]
    by_cases q1 : at0 (hpl g x) n = hrs g y
    · rw [if_pos q1, decide_eq_true q1]; rfl
    · rw [if_neg q1, decide_eq_false q1]; rfl
theorem C_mis {h g : sm_H} (K : K1 h g) {x y : Nat} {a : Int32} (x1 : x < nH g) (y1 : y < nH g) (e13 : h.1 34 13 = I3 y) (e8 : h.1 34 8 = a) : F_11_145 (I3 (tM g (ty g x))) h = some (b2 (!inR a ((hpl g x).length + 1 - gone (hrs g y))), h) := by
  have m10 := mn_10 K x1
  have hl := hpl_len g x
  unfold F_11_145 F_11_165 F_11_170
  rw [zz1, e8, C_given K y1 e13]; simp only [obs, true_or, or_true, if_true]
  unfold gone
  by_cases q : hrs g y = 0
  · rw [if_pos q, show I3 (tM g (ty g x)) - I3 0 = I3 (tM g (ty g x)) by rw [I3_sub (by omega)]; rfl, rngle (by omega), hl]
    show _ = some (b2 (!inR a (tM g (ty g x) + 1)), h)
    cases inR a (tM g (ty g x) + 1) <;> rfl
  · rw [if_neg q, show I3 (tM g (ty g x)) - I3 1 = I3 (tM g (ty g x)) - 1 from rfl, rngle1 (by omega), hl]
    show _ = some (b2 (!inR a (tM g (ty g x))), h)
    cases inR a (tM g (ty g x)) <;> rfl
theorem R_mis {h g : sm_H} (K : K1 h g) {x y : Nat} (a : Int32) (x1 : x < nH g) : F_315 (Int32.toInt64 a) 0 (Int32.toInt64 (I3 (tM g (ty g x)) - I3 (gone (hrs g y)))) g = some (b2 (!inR a ((hpl g x).length + 1 - gone (hrs g y))), g) := by
  have m10 := mn_10 K x1
  have hl := hpl_len g x
  unfold gone
  by_cases q : hrs g y = 0
  · rw [if_pos q, show I3 (tM g (ty g x)) - I3 0 = I3 (tM g (ty g x)) by rw [I3_sub (by omega)]; rfl, R_out' (by omega), hl]; rfl
  · rw [if_neg q, hl]
    exact R_outI (n := tM g (ty g x)) (by omega) a
theorem gv_if {g : sm_H} {y : Nat} {α : Type} (X : Int32 → α) : (if hrs g y = 0 then X 0 else X 1) = X (I3 (gone (hrs g y))) := by
  unfold gone
  by_cases q : hrs g y = 0
  · rw [if_pos q, if_pos q]; rfl
  · rw [if_neg q, if_neg q]; rfl
theorem mk_7 {h g : sm_H} (K : K1 h g) (a b : Int32) (c : Int64) {o p : Nat} {ps : List Int32} (S : fS h (I3 7) a 0 0 o p ps) (op : oP o p) (P : prR g ps) : ∃ out, OC h (I3 7) a 0 0 out ∧ OR g (I3 7) a b c out ∧ OK g 7 a 0 0 out := by
  have e7 := S.f7
  have h12 := K.1.2.1
  have w500 : nH g ≤ 500 := K.2.2.2.2.1.1.2
  refine gen2 K S P (by decide) (by decide) (by decide) rfl ((B336_7 _ _ _).trans rfl) rfl rfl (fun x y x1 y1 ep e12 e13 ld ld' c7 R => ?_)
  subst ep
  dsimp only at R
  have m10 := mn_10 K x1
  have m10y := mn_10 K y1
  have hl := hpl_len g x
  have hly := hpl_len g y
  have gv1 := gone_1 (hrs g y)
  have n11 : F_11 h = _ := B11_7 e7 (e12 ▸ C_mn K x1)
  rw [C_mis K x1 y1 e13 S.f8] at n11
  rw [if_neg (by decide), ld] at R; simp only [obs] at R
  rw [ld'] at R; simp only [obs] at R
  rw [R_rs K y1] at R; simp only [obs] at R
  rw [gv_if (g := g) (y := y) (fun v => F_321_46 a (I3 x) (I3 y) v g)] at R
  unfold F_321_46 at R
  rw [R_mn K x1] at R; simp only [obs] at R
  rw [R_mis K a x1 (y := y)] at R; simp only [obs] at R
  rcases inR_c a ((hpl g x).length + 1 - gone (hrs g y)) (by omega) with ⟨n, n1, rfl, i⟩ | i
  · rw [i] at n11 R
    rw [if_pos (by decide)] at R
    have n14 : F_14 h = some (b2 (!givB g x y n), h) := by
      rw [B14_7 e7, C_disG K x1 y1 e12 e13 S.f8 (by omega)]; simp only [obs]
      exact z01 h _
    have f38 : fm g y ≤ 38 := (K.2.2.2.2.1.2 y y1).1.2
    have n26 : F_26 h = some (if fm g y = 2 then I3 x else -1, h) := by
      rw [B26_7 e7]
      unfold F_26_148
      rw [e13, C_fm K y1]; simp only [obs]
      by_cases q : fm g y = 2
      · rw [if_pos (show I3 (fm g y) = (2 : Int32) from congrArg I3 q), if_pos q, e12]; rfl
      · rw [if_neg (show ¬ I3 (fm g y) = (2 : Int32) by rw [I3_lit, I3_inj (by omega) (by decide)]; exact q), if_neg q]; rfl
    have RR : F_336 (I3 7) (I3 n) b c g = ((if givB g x y n = true then F_321_90 (I3 n) (I3 x) (I3 y) (I3 (gone (hrs g y))) g else some (3, g)).bind fun q => some (q.1, q.2)) := by
      rw [R]
      unfold givB
      by_cases q : hrs g y = 0
      · rw [if_neg (show ¬ I3 (gone (hrs g y)) = 1 by unfold gone; rw [if_pos q]; decide), decide_eq_true q, Bool.true_or, if_pos rfl]
      · have gy : gone (hrs g y) = 1 := by unfold gone; rw [if_neg q]
        rw [if_pos (show I3 (gone (hrs g y)) = 1 by rw [gy]; rfl), decide_eq_false q, Bool.false_or, R_pc K x1 (by omega)]; simp only [obs]
        rw [R_rs K y1]; simp only [obs]
        by_cases q1 : at0 (hpl g x) n = hrs g y
        · rw [if_pos q1, if_pos (decide_eq_true q1)]
        · rw [if_neg q1, if_neg (by rw [decide_eq_true_eq]; exact q1)]
    cases j : givB g x y n with
    | false =>
      rw [j] at n14 RR
      exact ⟨.ref 3, tl_4 c7 (B9_7 e7) n11 n14 agr_rfl, ⟨g, RR, agr_rfl⟩, ⟨by decide, by decide⟩⟩
    | true =>
      rw [j] at n14 RR
      rw [if_pos rfl] at RR
      unfold F_321_90 at RR
      rw [R_fm K y1] at RR; simp only [obs] at RR
      by_cases q : fm g y = 2
      · rw [if_pos q] at n26
        rw [if_pos (show I3 (fm g y) = (2 : Int32) from congrArg I3 q)] at RR
        exact ⟨.smp x, tl_5 (by omega) c7 (B9_7 e7) n11 n14 n26 agr_rfl, ⟨g, RR, agr_rfl⟩, x1⟩
      · rw [if_neg q] at n26
        rw [if_neg (show ¬ I3 (fm g y) = (2 : Int32) by rw [I3_lit, I3_inj (by omega) (by decide)]; exact q)] at RR
        obtain ⟨u, d1, D0⟩ := D_begin K S op
        obtain ⟨u1, d2, D1⟩ := D_insideT D0 op x1 rfl (n := n) (t := ty g y) (m := n + gone (hrs g y)) (by omega) (ty_lt K y1) (by omega)
        obtain ⟨g0, f1, E0⟩ := E_clear K (hrs g x)
        obtain ⟨g1, f2, E1⟩ := E_places E0 (i := 0) (j := n) x1 (by omega) (by decide) (by omega)
        rw [List.nil_append, Nat.sub_zero, seg_take (by omega)] at E1
        obtain ⟨g2, f3, E2⟩ := E_all E1 y1 (by rw [List.length_take]; omega)
        obtain ⟨g3, f4, E3⟩ := E_places E2 (i := n + gone (hrs g y)) (j := tM g (ty g x)) x1 (Nat.le_refl _) (by rw [List.length_append, List.length_take]; omega) (by omega)
        rw [seg_drop (L := hpl g x) (by omega), List.append_assoc] at E3
        have n45' := C_mn D0.k x1
        have e12' : u.1 34 12 = I3 x := D0.s.f12
        have e13' : u.1 34 13 = I3 y := D0.s.f13
        rw [← e12'] at n45'
        have f2' : F_310 (I3 x) 0 (I3 n) g0 = some g1 := f2
        refine ⟨.fin (hrs g x) ((hpl g x).take n ++ (hpl g y ++ (hpl g x).drop (n + gone (hrs g y)))) _ o p, tl_6 S.w c7 (B9_7 e7) n11 n14 n26 S.f7 S.f8 S.f9 S.f10 S.f11 ?_ D1.d D1.s.r op (Ssc_d D1.a), ⟨g3, ?_, E3.d, E3.r, prR_SRd P E3.a, agr_mono SRd_p E3.a⟩, ?_⟩
        · rw [B29_7 d1 D0.s.f7 n45', e13', C_ty D0.k y1]; simp only [obs]; rw [C_given D0.k y1 e13']; simp only [obs]; rw [D0.s.f8, I3_add, d2]; rfl
        · rw [RR, R_rs K x1]; simp only [obs]; rw [f1]; simp only [obs]; rw [f2']; simp only [obs]; rw [E_many E1 y1]; simp only [obs]; rw [f3]; simp only [obs]; rw [E_many E2 x1]; simp only [obs]; rw [I3_add, f4]; rfl
        · refine ⟨(Or.inr (Or.inr (Or.inr (Or.inr (Or.inr (Or.inr (Or.inr (Or.inl ⟨rfl, x, y, n, x1, y1, rfl, rfl, by omega, fun z => ?_, rfl, rfl⟩)))))))), kR_h K x1, kL_app (kL_take (kL_h K x1)) (kL_app (kL_h K y1) (kL_drop (kL_h K x1))), by rw [List.length_append, List.length_append, List.length_take, List.length_drop]; omega⟩
          unfold givB at j
          rw [decide_eq_false z, Bool.false_or] at j
          exact of_decide_eq_true j
  · rw [i] at n11 R
    rw [if_neg (by decide)] at R
    exact ⟨.ref 2, tl_3 c7 (B9_7 e7) n11, ⟨g, R, agr_rfl⟩, ⟨by decide, by decide⟩⟩
theorem mk_8 {h g : sm_H} (K : K1 h g) (a b : Int32) (c : Int64) {o p : Nat} {ps : List Int32} (S : fS h (I3 8) a 0 0 o p ps) (op : oP o p) (P : prR g ps) : ∃ out, OC h (I3 8) a 0 0 out ∧ OR g (I3 8) a b c out ∧ OK g 8 a 0 0 out := by
  have e7 := S.f7
  have h12 := K.1.2.1
  have w500 : nH g ≤ 500 := K.2.2.2.2.1.1.2
  refine gen2 K S P (by decide) (by decide) (by decide) rfl ((B336_8 _ _ _).trans rfl) rfl rfl (fun x y x1 y1 ep e12 e13 ld ld' c7 R => ?_)
  subst ep
  dsimp only at R
  have m10 := mn_10 K x1
  have m10y := mn_10 K y1
  have hl := hpl_len g x
  have hly := hpl_len g y
  have gv1 := gone_1 (hrs g y)
  have n11 : F_11 h = _ := B11_8 e7 (e12 ▸ C_mn K x1)
  rw [C_mis K x1 y1 e13 S.f8] at n11
  rw [if_neg (by decide), ld] at R; simp only [obs] at R
  rw [ld'] at R; simp only [obs] at R
  rw [R_rs K y1] at R; simp only [obs] at R
  rw [gv_if (g := g) (y := y) (fun v => F_322_46 a (I3 x) (I3 y) v g)] at R
  unfold F_322_46 at R
  rw [R_mn K x1] at R; simp only [obs] at R
  rw [R_mis K a x1 (y := y)] at R; simp only [obs] at R
  rcases inR_c a ((hpl g x).length + 1 - gone (hrs g y)) (by omega) with ⟨n, n1, rfl, i⟩ | i
  · rw [i] at n11 R
    rw [if_pos (by decide)] at R
    have RR : F_336 (I3 8) (I3 n) b c g = ((if givB g x y n = true then F_322_90 (I3 n) (I3 x) (I3 y) (I3 (gone (hrs g y))) g else some (3, g)).bind fun q => some (q.1, q.2)) := by
      rw [R]
      unfold givB
      by_cases q : hrs g y = 0
      · rw [if_neg (show ¬ I3 (gone (hrs g y)) = 1 by unfold gone; rw [if_pos q]; decide), decide_eq_true q, Bool.true_or, if_pos rfl]
      · have gy : gone (hrs g y) = 1 := by unfold gone; rw [if_neg q]
        rw [if_pos (show I3 (gone (hrs g y)) = 1 by rw [gy]; rfl), decide_eq_false q, Bool.false_or, R_pc K x1 (by omega)]; simp only [obs]
        rw [R_rs K y1]; simp only [obs]
        by_cases q1 : at0 (hpl g x) n = hrs g y
        · rw [if_pos q1, if_pos (decide_eq_true q1)]
        · rw [if_neg q1, if_neg (by rw [decide_eq_true_eq]; exact q1)]
    have n14 := B14_8 e7
    rw [C_disG K x1 y1 e12 e13 S.f8 (by omega)] at n14; simp only [obs] at n14
    cases j : givB g x y n with
    | false =>
      rw [j] at n14 RR
      exact ⟨.ref 3, tl_4 c7 (B9_8 e7) n11 n14 agr_rfl, ⟨g, RR, agr_rfl⟩, ⟨by decide, by decide⟩⟩
    | true =>
      rw [j] at n14 RR
      rw [if_pos (by decide), e13, C_ty K y1] at n14; simp only [obs] at n14
      rw [e12, C_ty K x1] at n14; simp only [obs] at n14
      rw [C_given K y1 e13] at n14; simp only [obs] at n14
      rw [e13, C_mn K y1] at n14; simp only [obs] at n14
      have A := C_agree K (i := 0) (j := n + gone (hrs g y)) (ty_lt K y1) (ty_lt K x1) (by omega) (by have := pl_len g (ty g x); omega)
      rw [Nat.sub_zero, pl_len] at A
      have A' : F_235 (I3 (ty g y)) 0 (I3 (ty g x)) (I3 (n + gone (hrs g y))) (I3 (tM g (ty g y))) h = some (b2 (fitB (hpl g y) (hpl g x) 0 (n + gone (hrs g y))), h) := A
      rw [S.f8, I3_add, A'] at n14; simp only [obs] at n14
      rw [if_pos rfl] at RR
      unfold F_322_90 at RR
      rw [R_rs K x1] at RR; simp only [obs] at RR
      obtain ⟨g0, f1, E0⟩ := E_clear K (hrs g x)
      obtain ⟨g1, f2, E1⟩ := E_places E0 (i := 0) (j := n) x1 (by omega) (by decide) (by omega)
      rw [List.nil_append, Nat.sub_zero, seg_take (by omega)] at E1
      obtain ⟨g3, f4, E3⟩ := E_places E1 (i := n + gone (hrs g y)) (j := tM g (ty g x)) x1 (Nat.le_refl _) (by rw [List.length_take]; omega) (by omega)
      rw [seg_drop (L := hpl g x) (by omega)] at E3
      have f2' : F_310 (I3 x) 0 (I3 n) g0 = some g1 := f2
      rw [f1] at RR; simp only [obs] at RR
      rw [f2'] at RR; simp only [obs] at RR
      rw [E_many E1 x1] at RR; simp only [obs] at RR
      rw [I3_add, f4] at RR; simp only [obs] at RR
      have F1 := R_areFirst E3 (i := 0) (j := n) y1 (by omega) (by omega) (by rw [List.length_append, List.length_take, List.length_drop]; omega)
      have ed : ((hpl g x).take n ++ (hpl g x).drop (n + gone (hrs g y))).drop n = (hpl g x).drop (n + gone (hrs g y)) := List.drop_left' (by rw [List.length_take]; omega)
      rw [fitB_shift ed] at F1
      have F1' : F_312 (I3 y) 0 (I3 n) g3 = some (b2 (fitB (hpl g y) (hpl g x) 0 (n + gone (hrs g y))), g3) := F1
      rw [F1'] at RR; simp only [obs] at RR
      cases k : fitB (hpl g y) (hpl g x) 0 (n + gone (hrs g y)) with
      | false =>
        rw [k] at n14 RR
        exact ⟨.ref 3, tl_4 c7 (B9_8 e7) n11 n14 agr_rfl, ⟨g3, RR, agr_mono SRd_p E3.a⟩, ⟨by decide, by decide⟩⟩
      | true =>
        rw [k] at n14 RR
        obtain ⟨u, d1, D0⟩ := D_begin K S op
        obtain ⟨u1, d2, D1⟩ := D_insideN D0 op x1 rfl (n := n) (m := n + gone (hrs g y)) (by omega) (by omega)
        have n45' := C_mn D0.k x1
        have e12' : u.1 34 12 = I3 x := D0.s.f12
        have e13' : u.1 34 13 = I3 y := D0.s.f13
        rw [← e12'] at n45'
        refine ⟨.fin (hrs g x) ((hpl g x).take n ++ (hpl g x).drop (n + gone (hrs g y))) _ o p, tl_6 S.w c7 (B9_8 e7) n11 n14 (B26_8 e7) S.f7 S.f8 S.f9 S.f10 S.f11 ?_ D1.d D1.s.r op (Ssc_d D1.a), ⟨g3, RR, E3.d, E3.r, prR_SRd P E3.a, agr_mono SRd_p E3.a⟩, ?_⟩
        · rw [B29_8 d1 D0.s.f7 n45', C_given D0.k y1 e13']; simp only [obs]; rw [D0.s.f8, I3_add, d2]; rfl
        · refine ⟨(Or.inr (Or.inr (Or.inr (Or.inr (Or.inr (Or.inr (Or.inr (Or.inr (Or.inl ⟨rfl, x, y, n, x1, y1, rfl, rfl, by omega, fun z => ?_, rfl, rfl, ?_⟩))))))))), kR_h K x1, kL_app (kL_take (kL_h K x1)) (kL_drop (kL_h K x1)), by rw [List.length_append, List.length_take, List.length_drop]; omega⟩
          · unfold givB at j
            rw [decide_eq_false z, Bool.false_or] at j
            exact of_decide_eq_true j
          · rw [ed]; exact fitB_pre k
  · rw [i] at n11 R
    rw [if_neg (by decide)] at R
    exact ⟨.ref 2, tl_3 c7 (B9_8 e7) n11, ⟨g, R, agr_rfl⟩, ⟨by decide, by decide⟩⟩
