theorem finX {h g g1 : sm_H} (K : K1 h g) {fn x : Nat} {f a b a' b' : Int32} {c c' : Int64} {o p : Nat} {ps : List Int32} (S : fS h f a' b' c' o p ps) (op : oP o p) (P : prR g ps) (x1 : x < nH g) (e0 : at1 ps 0 = I3 x) (c7 : F_7 h = some (0, h)) (n9 : F_9 h = some (0, h)) (n11 : F_11 h = some (0, h)) (n14 : F_14 h = some (0, h)) (n26 : F_26 h = some (-1, h)) (b29 : ∀ {u : sm_H} {v : Int32}, F_228 h = some u → u.1 34 7 = f → F_45 (u.1 34 12) u = some (v, u) → F_29 h = F_29_395 u)
    (R : F_336 f a b c g = some (0, g1)) (E1 : E h g g1 (hrs g x) (hpl g x)) (fs : FS g fn a' b' c' ps (hrs g x) (hpl g x)) : ∃ out, OC h f a' b' c' out ∧ OR g f a b c out ∧ OK g fn a' b' c' out := by
  have m10 := mn_10 K x1
  obtain ⟨u, d1, D0⟩ := D_begin K S op
  obtain ⟨u1, d2, D1⟩ := D_type D0 op (ty_lt K x1) (by decide)
  have n45' := C_mn D0.k x1
  have e12' : u.1 34 12 = I3 x := D0.s.f12.trans e0
  rw [← e12'] at n45'
  refine ⟨.fin (hrs g x) (hpl g x) ps o p, tl_6 S.w c7 n9 n11 n14 n26 S.f7 S.f8 S.f9 S.f10 S.f11 ?_ D1.d D1.s.r op (Ssc_d D1.a), ⟨g1, R, E1.d, E1.r, prR_SRd P E1.a, agr_mono SRd_p E1.a⟩, ⟨fs, kR_h K x1, kL_h K x1, by omega⟩⟩
  rw [b29 d1 D0.s.f7 n45']; unfold F_29_395
  rw [e12', C_ty D0.k x1]; simp only [obs]; rw [d2]; rfl
def behB (g : sm_H) (x y i : Nat) : Bool := decide (hrs g y = hrs g x) && fitB (hpl g y) (hpl g x) i 0
theorem C_behind {h g : sm_H} (K : K1 h g) {x y i : Nat} (x1 : x < nH g) (y1 : y < nH g) (e12 : h.1 34 12 = I3 x) (e13 : h.1 34 13 = I3 y) (hi : i ≤ (hpl g y).length) : F_19 (I3 i) h = some (b2 (!behB g x y i), h) := by
  have m10 := mn_10 K y1
  have ly := hpl_len g y
  show F_19_0 (I3 i) h = _
  unfold F_19_0 F_19_72 F_19_77
  rw [e13, C_rs K y1]; simp only [obs, true_or, or_true, if_true]
  rw [e12, C_rs K x1]; simp only [obs]
  unfold behB
  by_cases q : hrs g y = hrs g x
  · rw [if_pos q, decide_eq_true q, Bool.true_and, e13, C_ty K y1]; simp only [obs]
    rw [e12, C_ty K x1]; simp only [obs]
    rw [e13, C_mn K y1]; simp only [obs]
    have A := C_agree K (t := ty g y) (u := ty g x) (i := i) (j := 0) (ty_lt K y1) (ty_lt K x1) (by have := pl_len g (ty g y); omega) (by omega)
    rw [I3_sub (by omega)]
    have A' : F_235 (I3 (ty g y)) (I3 i) (I3 (ty g x)) 0 (I3 (tM g (ty g y) - i)) h = some (b2 (fitB (hpl g y) (hpl g x) i 0), h) := by rw [← ly]; exact A
    rw [A']; simp only [obs]
    cases fitB (hpl g y) (hpl g x) i 0 <;> rfl
  · rw [if_neg q, decide_eq_false q]; rfl
theorem kind_m1 {g : sm_H} (wK : wfK g) {k : Nat} (h : k < 20 + nC g) : ¬ (-1 : Int32) = I3 k := by
  have h12 := wK.2.1
  exact fun z => I3_m1 (show k < 2147483648 by omega) z.symm
def catB (g : sm_H) (x y : Nat) (a : Int32) : Bool := decide (0 < (hpl g y).length) && (decide (at0 (hpl g y) 0 = a) && behB g x y 1)
theorem mk_15 {h g : sm_H} (K : K1 h g) (a b : Int32) (c : Int64) {o p : Nat} {ps : List Int32} (S : fS h (I3 15) a 0 0 o p ps) (op : oP o p) (P : prR g ps) : ∃ out, OC h (I3 15) a 0 0 out ∧ OR g (I3 15) a b c out ∧ OK g 15 a 0 0 out := by
  have e7 := S.f7
  have wK := K.1
  have h12 := K.1.2.1
  have n9 := B9_15 e7
  rw [S.f8, C_below19 wK K.2.1] at n9; simp only [obs, F_9_313, true_or, or_true, if_true] at n9
  rw [notb] at n9
  refine gen2 K S P (by decide) (by decide) (by decide) rfl ((B336_15 _ _ _).trans rfl) rfl rfl (fun x y x1 y1 ep e12 e13 ld ld' c7 R => ?_)
  subst ep
  dsimp only at R
  have m10 := mn_10 K x1
  have m10y := mn_10 K y1
  have ly := hpl_len g y
  rw [if_neg (by decide), R_kind wK a] at R; simp only [obs] at R
  have bad : eB g a = false → F_336 (I3 15) a b c g = some (1, g) → ∃ out, OC h (I3 15) a 0 0 out ∧ OR g (I3 15) a b c out ∧ OK g 15 a 0 0 out := fun z r => by
    rw [z] at n9
    exact ⟨.ref 1, tl_2 c7 n9, ⟨g, r, agr_rfl⟩, ⟨by decide, by decide⟩⟩
  rcases inR_c a (20 + nC g) (by omega) with ⟨k, k1, rfl, i⟩ | i
  · have eb : eB g (I3 k) = B g k 19 := by unfold eB; rw [i, Bool.true_and, tnI (by omega)]
    rw [i, if_neg (by decide), R_below19 wK k1] at R; simp only [obs] at R
    cases j : B g k 19 with
    | false =>
      rw [j, if_pos (by decide)] at R
      exact bad (eb.trans j) R
    | true =>
      rw [eb, j] at n9
      rw [j, if_neg (by decide), ld] at R; simp only [obs] at R
      rw [ld'] at R; simp only [obs] at R
      rw [R_rs K x1] at R; simp only [obs] at R
      obtain ⟨g0, f1, E0⟩ := E_clear K (hrs g x)
      obtain ⟨g1, f2, E1⟩ := E_all E0 x1 (by decide)
      rw [List.nil_append] at E1
      rw [f1] at R; simp only [obs] at R
      rw [E_many E0 x1] at R; simp only [obs] at R
      rw [f2] at R; simp only [obs] at R
      rw [E_many E1 y1] at R; simp only [obs] at R
      have n11 : F_11 h = some (0, h) := B11_15 e7 (e12 ▸ C_mn K x1)
      have n14 : F_14 h = some (b2 (!catB g x y (I3 k)), h) := by
        rw [B14_15 e7, e13]
        unfold catB F_14_526 F_14_531
        by_cases q : 0 < (hpl g y).length
        · rw [decide_eq_true q, Bool.true_and, show F_46 (I3 y) 0 h = _ from C_pc K y1 (k := 0) q]; simp only [obs, true_or, or_true, if_true]
          rw [S.f8]
          by_cases q1 : at0 (hpl g y) 0 = I3 k
          · rw [if_pos q1, decide_eq_true q1, Bool.true_and, show F_19 1 h = _ from C_behind K x1 y1 e12 e13 (i := 1) (by omega)]; simp only [obs]
            cases behB g x y 1 <;> rfl
          · rw [if_neg q1, decide_eq_false q1]; rfl
        · rw [decide_eq_false q, C_pc_o K y1 (x := 0) (by show inR (I3 0) _ = _; rw [inR_I (by omega)]; exact decide_eq_false q)]; simp only [obs, true_or, or_true, if_true]
          rw [S.f8, if_neg (kind_m1 wK k1)]; rfl
      have RR : F_336 (I3 15) (I3 k) b c g = ((F_329_117 (b2 (catB g x y (I3 k))) g1).bind fun q => some (q.1, q.2)) := by
        rw [R]
        unfold catB F_329_116
        by_cases q : 0 < (hpl g y).length
        · rw [decide_eq_true q, Bool.true_and, if_neg (by rw [I3_lit, I3_le (by omega) (by decide)]; omega), show F_306 (I3 y) 0 g1 = _ from E_place E1 y1 (k := 0) q]; simp only [obs]
          by_cases q1 : at0 (hpl g y) 0 = I3 k
          · rw [if_pos q1, decide_eq_true q1, Bool.true_and, E_result E1 y1]; simp only [obs]
            rw [E_result E1 x1]; simp only [obs]
            unfold behB
            by_cases q2 : hrs g y = hrs g x
            · rw [if_pos q2, decide_eq_true q2, Bool.true_and, show F_312 (I3 y) 1 0 g1 = _ from R_areFirst E1 (i := 1) (j := 0) y1 (by omega) (by omega) (by omega)]; simp only [obs]
              cases fitB (hpl g y) (hpl g x) 1 0 <;> rfl
            · rw [if_neg q2, decide_eq_false q2]; rfl
          · rw [if_neg q1, decide_eq_false q1]; rfl
        · rw [decide_eq_false q, if_pos (by rw [I3_lit, I3_le (by omega) (by decide)]; omega)]; rfl
      cases l : catB g x y (I3 k) with
      | false =>
        rw [l] at n14 RR
        exact ⟨.ref 3, tl_4 c7 n9 n11 n14 agr_rfl, ⟨g1, RR, agr_mono SRd_p E1.a⟩, ⟨by decide, by decide⟩⟩
      | true =>
        rw [l] at n14 RR
        refine finX K S op P x1 rfl c7 n9 n11 n14 (B26_15 e7) (fun z1 z2 z3 => B29_15 z1 z2 z3) RR E1 ?_
        unfold catB behB at l
        rw [Bool.and_eq_true, Bool.and_eq_true, Bool.and_eq_true, decide_eq_true_eq, decide_eq_true_eq, decide_eq_true_eq] at l
        obtain ⟨l1, l2, l3, l4⟩ := l
        refine (Or.inr (Or.inr (Or.inr (Or.inr (Or.inr (Or.inr (Or.inr (Or.inr (Or.inr (Or.inr (Or.inr (Or.inr (Or.inr (Or.inr (Or.inl ⟨rfl, x, y, k, (hpl g y).drop 1, x1, y1, rfl, k1, rfl, j, ?_, fitB_pre l4, l3, rfl, rfl⟩)))))))))))))))
        exact cons_drop l1 l2
  · rw [i, if_pos (by decide)] at R
    exact bad (by unfold eB; rw [i]; rfl) R
def finB (g : sm_H) (x y n : Nat) : Bool := decide (n ≤ (hpl g y).length) && (decide (at0 (hpl g y) 0 = 19) && ((decide (n = 1) || decide (at0 (hpl g y) 1 = hrs g x)) && behB g x y n))
theorem mk_16 {h g : sm_H} (K : K1 h g) (a b : Int32) (c : Int64) {o p : Nat} {ps : List Int32} (S : fS h (I3 16) 0 0 0 o p ps) (op : oP o p) (P : prR g ps) : ∃ out, OC h (I3 16) 0 0 0 out ∧ OR g (I3 16) a b c out ∧ OK g 16 0 0 0 out := by
  have e7 := S.f7
  have wK := K.1
  have h12 := K.1.2.1
  refine gen2 K S P (by decide) (by decide) (by decide) rfl ((B336_16 _ _ _).trans rfl) rfl rfl (fun x y x1 y1 ep e12 e13 ld ld' c7 R => ?_)
  subst ep
  dsimp only at R
  have m10 := mn_10 K x1
  have m10y := mn_10 K y1
  have ly := hpl_len g y
  have gv1 := gone_1 (hrs g x)
  have n11 : F_11 h = some (0, h) := B11_16 e7 (e12 ▸ C_mn K x1)
  obtain ⟨qr, qr1, qr2⟩ := rs_k K x1
  rw [if_neg (by decide), ld] at R; simp only [obs] at R
  rw [ld'] at R; simp only [obs] at R
  rw [R_rs K x1] at R; simp only [obs] at R
  have R' : F_336 (I3 16) a b c g = ((F_330_46 (I3 x) (I3 y) (I3 (1 + gone (hrs g x))) g).bind fun q => some (q.1, q.2)) := by
    rw [R]
    unfold gone
    by_cases q : hrs g x = 0
    · rw [if_pos q, if_pos q]; rfl
    · rw [if_neg q, if_neg q]; rfl
  unfold F_330_46 at R'
  obtain ⟨g0, f1, E0⟩ := E_clear K (hrs g x)
  obtain ⟨g1, f2, E1⟩ := E_all E0 x1 (by decide)
  rw [List.nil_append] at E1
  rw [R_rs K x1] at R'; simp only [obs] at R'
  rw [f1] at R'; simp only [obs] at R'
  rw [E_many E0 x1] at R'; simp only [obs] at R'
  rw [f2] at R'; simp only [obs] at R'
  rw [E_many E1 y1] at R'; simp only [obs] at R'
  have RB : ∀ n, n ≤ (hpl g y).length → F_330_106 (I3 x) (I3 y) (I3 n) g1 = F_330_134 (b2 (behB g x y n)) g1 := fun n hn => by
    unfold F_330_106 F_330_133
    rw [E_result E1 y1]; simp only [obs]
    rw [E_result E1 x1]; simp only [obs]
    unfold behB
    by_cases q2 : hrs g y = hrs g x
    · rw [if_pos q2, decide_eq_true q2, Bool.true_and, show F_312 (I3 y) (I3 n) 0 g1 = _ from R_areFirst E1 (i := n) (j := 0) y1 hn (by omega) (by omega)]; simp only [obs]
      cases fitB (hpl g y) (hpl g x) n 0 <;> rfl
    · rw [if_neg q2, decide_eq_false q2]; rfl
  have RR : F_336 (I3 16) a b c g = ((F_330_134 (b2 (finB g x y (1 + gone (hrs g x)))) g1).bind fun q => some (q.1, q.2)) := by
    rw [R']
    unfold finB F_330_133
    by_cases q : 1 + gone (hrs g x) ≤ (hpl g y).length
    · rw [decide_eq_true q, Bool.true_and, if_neg (by rw [I3_lt (by omega) (by omega)]; omega), show F_306 (I3 y) 0 g1 = _ from E_place E1 y1 (k := 0) (by omega)]; simp only [obs]
      by_cases q1 : at0 (hpl g y) 0 = 19
      · rw [if_pos q1, decide_eq_true q1, Bool.true_and]
        by_cases q2 : hrs g x = 0
        · have gz : gone (hrs g x) = 0 := by unfold gone; rw [if_pos q2]
          rw [gz, if_pos (by decide), RB _ (by omega), decide_eq_true (show 1 + 0 = 1 from rfl), Bool.true_or, Bool.true_and]
        · have gz : gone (hrs g x) = 1 := by unfold gone; rw [if_neg q2]
          rw [gz, if_neg (by decide), decide_eq_false (show ¬ 1 + 1 = 1 by decide), Bool.false_or, show F_306 (I3 y) 1 g1 = _ from E_place E1 y1 (k := 1) (by omega)]; simp only [obs]
          rw [E_result E1 x1]; simp only [obs]
          by_cases q3 : at0 (hpl g y) 1 = hrs g x
          · rw [if_pos q3, RB _ (by omega), decide_eq_true q3, Bool.true_and]
          · rw [if_neg q3, decide_eq_false q3]; rfl
      · rw [if_neg q1, decide_eq_false q1]; rfl
    · rw [decide_eq_false q, if_pos (by rw [I3_lt (by omega) (by omega)]; omega)]; rfl
  have n14 : F_14 h = some (b2 (!finB g x y (1 + gone (hrs g x))), h) := by
    have main : F_20 h = some (b2 (!finB g x y (1 + gone (hrs g x))), h) := by
      show F_20_0 h = _
      unfold F_20_0 F_20_73 F_20_78 finB
      rw [e13]
      by_cases q : 0 < (hpl g y).length
      · rw [show F_46 (I3 y) 0 h = _ from C_pc K y1 (k := 0) q]; simp only [obs, true_or, or_true, if_true]
        by_cases q1 : at0 (hpl g y) 0 = 19
        · rw [if_pos q1, decide_eq_true q1, Bool.true_and, e12, C_rs K x1]; simp only [obs]
          by_cases q2 : hrs g x = 0
          · have gz : gone (hrs g x) = 0 := by unfold gone; rw [if_pos q2]
            rw [if_pos q2, gz, decide_eq_true (show 1 + 0 ≤ (hpl g y).length by omega), decide_eq_true (show 1 + 0 = 1 from rfl), Bool.true_or, Bool.true_and, Bool.true_and, show F_19 1 h = _ from C_behind K x1 y1 e12 e13 (i := 1) (by omega)]; simp only [obs]
            exact z01 h _
          · have gz : gone (hrs g x) = 1 := by unfold gone; rw [if_neg q2]
            rw [if_neg q2, gz, decide_eq_false (show ¬ 1 + 1 = 1 by decide), Bool.false_or, e13]
            by_cases q4 : 1 < (hpl g y).length
            · rw [decide_eq_true (show 1 + 1 ≤ (hpl g y).length by omega), Bool.true_and, show F_46 (I3 y) 1 h = _ from C_pc K y1 (k := 1) q4]; simp only [obs]
              rw [e12, C_rs K x1]; simp only [obs]
              by_cases q3 : at0 (hpl g y) 1 = hrs g x
              · rw [if_pos q3, decide_eq_true q3, Bool.true_and, show F_19 2 h = _ from C_behind K x1 y1 e12 e13 (i := 2) (by omega)]; simp only [obs]
                cases behB g x y 2 <;> rfl
              · rw [if_neg q3, decide_eq_false q3]; rfl
            · rw [decide_eq_false (show ¬ 1 + 1 ≤ (hpl g y).length by omega), C_pc_o K y1 (x := 1) (by show inR (I3 1) _ = _; rw [inR_I (by omega)]; exact decide_eq_false q4)]; simp only [obs]
              rw [e12, C_rs K x1]; simp only [obs]
              rw [qr1, if_neg (kind_m1 wK qr2)]; rfl
        · rw [if_neg q1, decide_eq_false q1, Bool.false_and, Bool.and_false]; rfl
      · rw [decide_eq_false (show ¬ 1 + gone (hrs g x) ≤ (hpl g y).length by omega), C_pc_o K y1 (x := 0) (by show inR (I3 0) _ = _; rw [inR_I (by omega)]; exact decide_eq_false q)]; simp only [obs]
        rw [if_neg (by decide)]; rfl
    rw [B14_16 e7, main]; simp only [obs]
    exact z01 h _
  cases l : finB g x y (1 + gone (hrs g x)) with
  | false =>
    rw [l] at n14 RR
    exact ⟨.ref 3, tl_4 c7 (B9_16 e7) n11 n14 agr_rfl, ⟨g1, RR, agr_mono SRd_p E1.a⟩, ⟨by decide, by decide⟩⟩
  | true =>
    rw [l] at n14 RR
    refine finX K S op P x1 rfl c7 (B9_16 e7) n11 n14 (B26_16 e7) (fun z1 z2 z3 => B29_16 z1 z2 z3) RR E1 ?_
    unfold finB behB at l
    rw [Bool.and_eq_true, Bool.and_eq_true, Bool.and_eq_true, Bool.and_eq_true, decide_eq_true_eq, decide_eq_true_eq, decide_eq_true_eq] at l
    obtain ⟨l1, l2, l3, l4, l5⟩ := l
    refine (Or.inr (Or.inr (Or.inr (Or.inr (Or.inr (Or.inr (Or.inr (Or.inr (Or.inr (Or.inr (Or.inr (Or.inr (Or.inr (Or.inr (Or.inr (Or.inl ⟨rfl, x, y, (hpl g y).drop (1 + gone (hrs g x)), x1, y1, rfl, ?_, fitB_pre l5, l4, rfl, rfl⟩))))))))))))))))
    by_cases q2 : hrs g x = 0
    · have gz : gone (hrs g x) = 0 := by unfold gone; rw [if_pos q2]
      rw [if_pos q2, gz]; rw [gz] at l1
      exact cons_drop (by omega) l2
    · have gz : gone (hrs g x) = 1 := by unfold gone; rw [if_neg q2]
      rw [if_neg q2, gz]; rw [gz, decide_eq_false (show ¬ 1 + 1 = 1 by decide), Bool.false_or, decide_eq_true_eq] at l3; rw [gz] at l1
      refine (cons_drop (by omega) l2).trans ?_
      congr 1
      have := cons_drop (l := (hpl g y).drop 1) (x := hrs g x) (by rw [List.length_drop]; omega) (by rw [at0_drop]; exact l3)
      rw [List.drop_drop] at this; exact this
