theorem finX {h g g1 : sm_H} (K : K1 h g) {fn x : Nat} {f a b a' b' : Int32} {c c' : Int64} {o p : Nat} {ps : List Int32} (S : fS h f a' b' c' o p ps) (op : oP o p) (P : prR g ps) (x1 : x < nH g) (e0 : at1 ps 0 = I3 x) (c7 : F_7 h = some (0, h)) (n9 : F_9 h = some (0, h)) (n11 : F_11 h = some (0, h)) (n14 : F_14 h = some (0, h)) (n26 : F_26 h = some (-1, h)) (b29 : ∀ {u : sm_H} {v : Int32}, F_228 h = some u → u.1 34 7 = f → F_45 (u.1 34 12) u = some (v, u) → F_29 h = F_29_395 u)
    (R : F_336 f a b c g = some (0, g1)) (E1 : E h g g1 (hrs g x) (hpl g x)) (fs : FS g fn a' b' c' ps (hrs g x) (hpl g x)) : ∃ out, OC h f a' b' c' out ∧ OR g f a b c out ∧ OK g fn a' b' c' out := by
  have m10 := mn_10 K x1
  obtain ⟨u, d1, D0⟩ := D_begin K S op
  obtain ⟨u1, d2, D1⟩ := D_type D0 op (ty_lt K x1) (by decide)
  have n45' := C_mn D0.k x1
  have e12' : u.1 34 12 = I3 x := D0.s.f12.trans e0
  rw [← e12'] at n45'
  refine ⟨.fin (hrs g x) (hpl g x) ps o p, tl_6 S.w c7 n9 n11 n14 n26 S.f7 S.f8 S.f9 S.f10 S.f11 ?_ D1.d D1.s.r op (Ssc_d D1.a), ⟨g1, R, E1.d, E1.r, prR_SRd P E1.a, agr_mono SRd_p E1.a⟩, ⟨fs, kR_h K x1, kL_h K x1, by omega⟩⟩
  rw [b29 d1 D0.s.f7 n45']; unfold F_29_395
  rw [e12', C_ty D0.k x1]; simp only [obs]; rw [d2]; rfl
def behB (g : sm_H) (x y i : Nat) : Bool := decide (hrs g y = hrs g x) && fitB (hpl g y) (hpl g x) i 0
theorem C_behind {h g : sm_H} (K : K1 h g) {x y i : Nat} (x1 : x < nH g) (y1 : y < nH g) (e12 : h.1 34 12 = I3 x) (e13 : h.1 34 13 = I3 y) (hi : i ≤ (hpl g y).length) : F_19 (I3 i) h = some (b2 (!behB g x y i), h) := by
  have m10 := mn_10 K y1
  have ly := hpl_len g y
  show F_19_0 (I3 i) h = _
  unfold F_19_0 F_19_72 F_19_77
  rw [e13, C_rs K y1]; simp only [obs, true_or, or_true, if_true]
  rw [e12, C_rs K x1]; simp only [obs]
  unfold behB
  by_cases q : hrs g y = hrs g x
  · rw [if_pos q, decide_eq_true q, Bool.true_and, e13, C_ty K y1]; simp only [obs]
    rw [e12, C_ty K x1]; simp only [obs]
    rw [e13, C_mn K y1]; simp only [obs]
    have A := C_agree K (t := ty g y) (u := ty g x) (i := i) (j := 0) (ty_lt K y1) (ty_lt K x1) (by have := pl_len g (ty g y); omega) (by omega)
    rw [I3_sub (by omega)]
    have A' : F_235 (I3 (ty g y)) (I3 i) (I3 (ty g x)) 0 (I3 (tM g (ty g y) - i)) h = some (b2 (fitB (hpl g y) (hpl g x) i 0), h) := by rw [← ly]; exact A
    rw [A']; simp only [obs]
    cases fitB (hpl g y) (hpl g x) i 0 <;> rfl
  · rw [if_neg q, decide_eq_false q]; rfl
theorem kind_m1 {g : sm_H} (wK : wfK g) {k : Nat} (h : k < 20 + nC g) : ¬ (-1 : Int32) = I3 k := by
  have h12 := wK.2.1
  exact fun z => I3_m1 (show k < 2147483648 by omega) z.symm
def catB (g : sm_H) (x y : Nat) (a : Int32) : Bool := decide (0 < (hpl g y).length) && (decide (at0 (hpl g y) 0 = a) && behB g x y 1)
theorem mk_15 {h g : sm_H} (K : K1 h g) (a b : Int32) (c : Int64) {o p : Nat} {ps : List Int32} (S : fS h (I3 15) a 0 0 o p ps) (op : oP o p) (P : prR g ps) : ∃ out, OC h (I3 15) a 0 0 out ∧ OR g (I3 15) a b c out ∧ OK g 15 a 0 0 out := by
  have e7 := S.f7
  have wK := K.1
  have h12 := K.1.2.1
  have n9 := B9_15 e7
  rw [S.f8, C_below19 wK K.2.1] at n9; simp only [obs, F_9_313, true_or, or_true, if_true] at n9
  rw [notb] at n9
  refine gen2 K S P (by decide) (by decide) (by decide) rfl ((B336_15 _ _ _).trans rfl) rfl rfl (fun x y x1 y1 ep e12 e13 ld ld' c7 R => ?_)
  subst ep
  dsimp only at R
  have m10 := mn_10 K x1
  have m10y := mn_10 K y1
  have ly := hpl_len g y
  rw [if_neg (by decide), R_kind wK a] at R; simp only [obs] at R
  have bad : eB g a = false → F_336 (I3 15) a b c g = some (1, g) → ∃ out, OC h (I3 15) a 0 0 out ∧ OR g (I3 15) a b c out ∧ OK g 15 a 0 0 out := fun z r => by
    rw [z] at n9
    exact ⟨.ref 1, tl_2 c7 n9, ⟨g, r, agr_rfl⟩, ⟨by decide, by decide⟩⟩
  rcases inR_c a (20 + nC g) (by omega) with ⟨k, k1, rfl, i⟩ | i
  · have eb : eB g (I3 k) = B g k 19 := by unfold eB; rw [i, Bool.true_and, tnI (by omega)]
    rw [i, if_neg (by decide), R_below19 wK k1] at R; simp only [obs] at R
    cases j : B g k 19 with
    | false =>
      rw [j, if_pos (by decide)] at R
      exact bad (eb.trans j) R
    | true =>
      rw [eb, j] at n9
      rw [j, if_neg (by decide), ld] at R; simp only [obs] at R
      rw [ld'] at R; simp only [obs] at R
      rw [R_rs K x1] at R; simp only [obs] at R
      obtain ⟨g0, f1, E0⟩ := E_clear K (hrs g x)
      obtain ⟨g1, f2, E1⟩ := E_all E0 x1 (by decide)
      rw [List.nil_append] at E1
      rw [f1] at R; simp only [obs] at R
      rw [E_many E0 x1] at R; simp only [obs] at R
      rw [f2] at R; simp only [obs] at R
      rw [E_many E1 y1] at R; simp only [obs] at R
      have n11 : F_11 h = some (0, h) := B11_15 e7 (e12 ▸ C_mn K x1)
      have n14 : F_14 h = some (b2 (!catB g x y (I3 k)), h) := by
        rw [B14_15 e7, e13]
        unfold catB F_14_526 F_14_531
        by_cases q : 0 < (hpl g y).length
        · rw [decide_eq_true q, Bool.true_and, show F_46 (I3 y) 0 h = _ from C_pc K y1 (k := 0) q]; simp only [obs, true_or, or_true, if_true]
          rw [S.f8]
          by_cases q1 : at0 (hpl g y) 0 = I3 k
          · rw [if_pos q1, decide_eq_true q1, Bool.true_and, show F_19 1 h = _ from C_behind K x1 y1 e12 e13 (i := 1) (by omega)]; simp only [obs]
            cases behB g x y 1 <;> rfl
          · rw [if_neg q1, decide_eq_false q1]; rfl
        · rw [decide_eq_false q, C_pc_o K y1 (x := 0) (by show inR (I3 0) _ = _; rw [inR_I (by omega)]; exact decide_eq_false q)]; simp only [obs, true_or, or_true, if_true]
          rw [S.f8, if_neg (kind_m1 wK k1)]; rfl
      have RR : F_336 (I3 15) (I3 k) b c g = ((F_329_117 (b2 (catB g x y (I3 k))) g1).bind fun q => some (q.1, q.2)) := by
        rw [R]
        unfold catB F_329_116
        by_cases q : 0 < (hpl g y).length
        · rw [decide_eq_true q, Bool.true_and, if_neg (by rw [I3_lit, I3_le (by omega) (by decide)]; omega), show F_306 (I3 y) 0 g1 = _ from E_place E1 y1 (k := 0) q]; simp only [obs]
          by_cases q1 : at0 (hpl g y) 0 = I3 k
          · rw [if_pos q1, decide_eq_true q1, Bool.true_and, E_result E1 y1]; simp only [obs]
            rw [E_result E1 x1]; simp only [obs]
            unfold behB
            by_cases q2 : hrs g y = hrs g x
            · rw [if_pos q2, decide_eq_true q2, Bool.true_and, show F_312 (I3 y) 1 0 g1 = _ from R_areFirst E1 (i := 1) (j := 0) y1 (by omega) (by omega) (by omega)]; simp only [obs]
              cases fitB (hpl g y) (hpl g x) 1 0 <;> rfl
            · rw [if_neg q2, decide_eq_false q2]; rfl
          · rw [if_neg q1, decide_eq_false q1]; rfl
        · rw [decide_eq_false q, if_pos (by rw [I3_lit, I3_le (by omega) (by decide)]; omega)]; rfl
      cases l : catB g x y (I3 k) with
      | false =>
        rw [l] at n14 RR
        exact ⟨.ref 3, tl_4 c7 n9 n11 n14 agr_rfl, ⟨g1, RR, agr_mono SRd_p E1.a⟩, ⟨by decide, by decide⟩⟩
      | true =>
        rw [l] at n14 RR
        refine finX K S op P x1 rfl c7 n9 n11 n14 (B26_15 e7) (fun z1 z2 z3 => B29_15 z1 z2 z3) RR E1 ?_
        unfold catB behB at l
        rw [Bool.and_eq_true, Bool.and_eq_true, Bool.and_eq_true, decide_eq_true_eq, decide_eq_true_eq, decide_eq_true_eq] at l
        obtain ⟨l1, l2, l3, l4⟩ := l
        refine (Or.inr (Or.inr (Or.inr (Or.inr (Or.inr (Or.inr (Or.inr (Or.inr (Or.inr (Or.inr (Or.inr (Or.inr (Or.inr (Or.inr (Or.inl ⟨rfl, x, y, k, (hpl g y).drop 1, x1, y1, rfl, k1, rfl, j, ?_, fitB_pre l4, l3, rfl, rfl⟩)))))))))))))))
        exact cons_drop l1 l2
  · rw [i, if_pos (by decide)] at R
    exact bad (by unfold eB; rw [i]; rfl) R
def finB (g : sm_H) (x y n : Nat) : Bool := decide (n ≤ (hpl g y).length) && (decide (at0 (hpl g y) 0 = 19) && ((decide (n = 1) || decide (at0 (hpl g y) 1 = hrs g x)) && behB g x y n))
theorem mk_16 {h g : sm_H} (K : K1 h g) (a b : Int32) (c : Int64) {o p : Nat} {ps : List Int32} (S : fS h (I3 16) 0 0 0 o p ps) (op : oP o p) (P : prR g ps) : ∃ out, OC h (I3 16) 0 0 0 out ∧ OR g (I3 16) a b c out ∧ OK g 16 0 0 0 out := by
  have e7 := S.f7
  have wK := K.1
  have h12 := K.1.2.1
  refine gen2 K S P (by decide) (by decide) (by decide) rfl ((B336_16 _ _ _).trans rfl) rfl rfl (fun x y x1 y1 ep e12 e13 ld ld' c7 R => ?_)
  subst ep
  dsimp only at R
  have m10 := mn_10 K x1
  have m10y := mn_10 K y1
  have ly := hpl_len g y
  have gv1 := gone_1 (hrs g x)
  have n11 : F_11 h = some (0, h) := B11_16 e7 (e12 ▸ C_mn K x1)
  obtain ⟨qr, qr1, qr2⟩ := rs_k K x1
  rw [if_neg (by decide), ld] at R; simp only [obs] at R
  rw [ld'] at R; simp only [obs] at R
  rw [R_rs K x1] at R; simp only [obs] at R
  have R' : F_336 (I3 16) a b c g = ((F_330_46 (I3 x) (I3 y) (I3 (1 + gone (hrs g x))) g).bind fun q => some (q.1, q.2)) := by
    rw [R]
    unfold gone
    by_cases q : hrs g x = 0
    · rw [if_pos q, if_pos q]; rfl
    · rw [if_neg q, if_neg q]; rfl
  unfold F_330_46 at R'
  obtain ⟨g0, f1, E0⟩ := E_clear K (hrs g x)
  obtain ⟨g1, f2, E1⟩ := E_all E0 x1 (by decide)
  rw [List.nil_append] at E1
  rw [R_rs K x1] at R'; simp only [obs] at R'
  rw [f1] at R'; simp only [obs] at R'
  rw [E_many E0 x1] at R'; simp only [obs] at R'
  rw [f2] at R'; simp only [obs] at R'
  rw [E_many E1 y1] at R'; simp only [obs] at R'
  have RB : ∀ n, n ≤ (hpl g y).length → F_330_106 (I3 x) (I3 y) (I3 n) g1 = F_330_134 (b2 (behB g x y n)) g1 := fun n hn => by
    unfold F_330_106 F_330_133
    rw [E_result E1 y1]; simp only [obs]
    rw [E_result E1 x1]; simp only [obs]
    unfold behB
    by_cases q2 : hrs g y = hrs g x
    · rw [if_pos q2, decide_eq_true q2, Bool.true_and, show F_312 (I3 y) (I3 n) 0 g1 = _ from R_areFirst E1 (i := n) (j := 0) y1 hn (by omega) (by omega)]; simp only [obs]
      cases fitB (hpl g y) (hpl g x) n 0 <;> rfl
    · rw [if_neg q2, decide_eq_false q2]; rfl
  have RR : F_336 (I3 16) a b c g = ((F_330_134 (b2 (finB g x y (1 + gone (hrs g x)))) g1).bind fun q => some (q.1, q.2)) := by
    rw [R']
    unfold finB F_330_133
    by_cases q : 1 + gone (hrs g x) ≤ (hpl g y).length
    · rw [decide_eq_true q, Bool.true_and, if_neg (by rw [I3_lt (by omega) (by omega)]; omega), show F_306 (I3 y) 0 g1 = _ from E_place E1 y1 (k := 0) (by omega)]; simp only [obs]
      by_cases q1 : at0 (hpl g y) 0 = 19
      · rw [if_pos q1, decide_eq_true q1, Bool.true_and]
        by_cases q2 : hrs g x = 0
        · have gz : gone (hrs g x) = 0 := by unfold gone; rw [if_pos q2]
          rw [gz, if_pos (by decide), RB _ (by omega), decide_eq_true (show 1 + 0 = 1 from rfl), Bool.true_or, Bool.true_and]
        · have gz : gone (hrs g x) = 1 := by unfold gone; rw [if_neg q2]
          rw [gz, if_neg (by decide), decide_eq_false (show ¬ 1 + 1 = 1 by decide), Bool.false_or, show F_306 (I3 y) 1 g1 = _ from E_place E1 y1 (k := 1) (by omega)]; simp only [obs]
          rw [E_result E1 x1]; simp only [obs]
          by_cases q3 : at0 (hpl g y) 1 = hrs g x
          · rw [if_pos q3, RB _ (by omega), decide_eq_true q3, Bool.true_and]
          · rw [if_neg q3, decide_eq_false q3]; rfl
      · rw [if_neg q1, decide_eq_false q1]; rfl
    · rw [decide_eq_false q, if_pos (by rw [I3_lt (by omega) (by omega)]; omega)]; rfl
  have n14 : F_14 h = some (b2 (!finB g x y (1 + gone (hrs g x))), h) := by
    have main : F_20 h = some (b2 (!finB g x y (1 + gone (hrs g x))), h) := by
      show F_20_0 h = _
      unfold F_20_0 F_20_73 F_20_78 finB
      rw [e13]
      by_cases q : 0 < (hpl g y).length
      · rw [show F_46 (I3 y) 0 h = _ from C_pc K y1 (k := 0) q]; simp only [obs, true_or, or_true, if_true]
        by_cases q1 : at0 (hpl g y) 0 = 19
        · rw [if_pos q1, decide_eq_true q1, Bool.true_and, e12, C_rs K x1]; simp only [obs]
          by_cases q2 : hrs g x = 0
          · have gz : gone (hrs g x) = 0 := by unfold gone; rw [if_pos q2]
            rw [if_pos q2, gz, decide_eq_true (show 1 + 0 ≤ (hpl g y).length by omega), decide_eq_true (show 1 + 0 = 1 from rfl), Bool.true_or, Bool.true_and, Bool.true_and, show F_19 1 h = _ from C_behind K x1 y1 e12 e13 (i := 1) (by omega)]; simp only [obs]
            exact z01 h _
          · have gz : gone (hrs g x) = 1 := by unfold gone; rw [if_neg q2]
            rw [if_neg q2, gz, decide_eq_false (show ¬ 1 + 1 = 1 by decide), Bool.false_or, e13]
            by_cases q4 : 1 < (hpl g y).length
            · rw [decide_eq_true (show 1 + 1 ≤ (hpl g y).length by omega), Bool.true_and, show F_46 (I3 y) 1 h = _ from C_pc K y1 (k := 1) q4]; simp only [obs]
              rw [e12, C_rs K x1]; simp only [obs]
              by_cases q3 : at0 (hpl g y) 1 = hrs g x
              · rw [if_pos q3, decide_eq_true q3, Bool.true_and, show F_19 2 h = _ from C_behind K x1 y1 e12 e13 (i := 2) (by omega)]; simp only [obs]
                cases behB g x y 2 <;> rfl
              · rw [if_neg q3, decide_eq_false q3]; rfl
            · rw [decide_eq_false (show ¬ 1 + 1 ≤ (hpl g y).length by omega), C_pc_o K y1 (x := 1) (by show inR (I3 1) _ = _; rw [inR_I (by omega)]; exact decide_eq_false q4)]; simp only [obs]
              rw [e12, C_rs K x1]; simp only [obs]
              rw [qr1, if_neg (kind_m1 wK qr2)]; rfl
        · rw [if_neg q1, decide_eq_false q1, Bool.false_and, Bool.and_false]; rfl
      · rw [decide_eq_false (show ¬ 1 + gone (hrs g x) ≤ (hpl g y).length by omega), C_pc_o K y1 (x := 0) (by show inR (I3 0) _ = _; rw [inR_I (by omega)]; exact decide_eq_false q)]; simp only [obs]
        rw [if_neg (by decide)]; rfl
    rw [B14_16 e7, main]; simp only [obs]
    exact z01 h _
  cases l : finB g x y (1 + gone (hrs g x)) with
  | false =>
    rw [l] at n14 RR
    exact ⟨.ref 3, tl_4 c7 (B9_16 e7) n11 n14 agr_rfl, ⟨g1, RR, agr_mono SRd_p E1.a⟩, ⟨by decide, by decide⟩⟩
  | true =>
    rw [l] at n14 RR
    refine finX K S op P x1 rfl c7 (B9_16 e7) n11 n14 (B26_16 e7) (fun z1 z2 z3 => B29_16 z1 z2 z3) RR E1 ?_
    unfold finB behB at l
    rw [Bool.and_eq_true, Bool.and_eq_true, Bool.and_eq_true, Bool.and_eq_true, decide_eq_true_eq, decide_eq_true_eq, decide_eq_true_eq] at l
    obtain ⟨l1, l2, l3, l4, l5⟩ := l
    refine (Or.inr (Or.inr (Or.inr (Or.inr (Or.inr (Or.inr (Or.inr (Or.inr (Or.inr (Or.inr (Or.inr (Or.inr (Or.inr (Or.inr (Or.inr (Or.inl ⟨rfl, x, y, (hpl g y).drop (1 + gone (hrs g x)), x1, y1, rfl, ?_, fitB_pre l5, l4, rfl, rfl⟩))))))))))))))))
    by_cases q2 : hrs g x = 0
    · have gz : gone (hrs g x) = 0 := by unfold gone; rw [if_pos q2]
      rw [if_pos q2, gz]; rw [gz] at l1
      exact cons_drop (by omega) l2
    · have gz : gone (hrs g x) = 1 := by unfold gone; rw [if_neg q2]
      rw [if_neg q2, gz]; rw [gz, decide_eq_false (show ¬ 1 + 1 = 1 by decide), Bool.false_or, decide_eq_true_eq] at l3; rw [gz] at l1
      refine (cons_drop (by omega) l2).trans ?_
      congr 1
      have := cons_drop (l := (hpl g y).drop 1) (x := hrs g x) (by rw [List.length_drop]; omega) (by rw [at0_drop]; exact l3)
      rw [List.drop_drop] at this; exact this
theorem B_par {u g : sm_H} (e : ∀ c, par u c = par g c) (x o : Nat) : B u x o = B g x o := by
  have : ∀ n x, bel u n x o = bel g n x o := by
    intro n
    induction n with
    | zero => intro x; rfl
    | succ n ih =>
      intro x
      show (bif Nat.blt x 20 then kBase x o else Nat.beq x o || bel u n (par u (x - 20)) o) = (bif Nat.blt x 20 then kBase x o else Nat.beq x o || bel g n (par g (x - 20)) o)
      rw [e, ih]
  exact this 12 x
theorem and65535 (c : Int64) : (c &&& 65535) = I6 (c.toBitVec.toNat % 65536) := by
  have h1 : (c &&& 65535).toBitVec = c.toBitVec &&& 65535#64 := rfl
  rw [← Int64.toBitVec_inj, h1]
  apply BitVec.eq_of_toNat_eq
  rw [BitVec.toNat_and]
  show c.toBitVec.toNat &&& 65535 = (BitVec.ofNat 64 (c.toBitVec.toNat % 65536)).toNat
  rw [BitVec.toNat_ofNat]
  exact (Nat.and_two_pow_sub_one_eq_mod _ 16).trans (Nat.mod_eq_of_lt (show c.toBitVec.toNat % 65536 < 2 ^ 64 by omega)).symm
theorem and1 (c : Int64) : (c &&& 1) = I6 (c.toBitVec.toNat % 2) := by
  have h1 : (c &&& 1).toBitVec = c.toBitVec &&& 1#64 := rfl
  rw [← Int64.toBitVec_inj, h1]
  apply BitVec.eq_of_toNat_eq
  rw [BitVec.toNat_and]
  show c.toBitVec.toNat &&& 1 = (BitVec.ofNat 64 (c.toBitVec.toNat % 2)).toNat
  rw [BitVec.toNat_ofNat]
  exact (Nat.and_two_pow_sub_one_eq_mod _ 1).trans (Nat.mod_eq_of_lt (show c.toBitVec.toNat % 2 < 2 ^ 64 by omega)).symm
theorem char_eq (c : Int64) : Int32.toInt64 ((Int32.toUInt32 (Int64.toInt32 c)) % 65536).toInt32 = c &&& 65535 := by
  rw [and65535]
  have e : ((Int32.toUInt32 (Int64.toInt32 c)) % 65536).toInt32 = I3 (c.toBitVec.toNat % 65536) := by
    rw [← Int32.toBitVec_inj]
    apply BitVec.eq_of_toNat_eq
    show ((Int32.toUInt32 (Int64.toInt32 c)) % 65536).toNat = (BitVec.ofNat 32 (c.toBitVec.toNat % 65536)).toNat
    rw [UInt32.toNat_mod, BitVec.toNat_ofNat]
    have : (Int32.toUInt32 (Int64.toInt32 c)).toNat = c.toBitVec.toNat % 4294967296 := by
      show (c.toBitVec.signExtend 32).toNat = _
      rw [BitVec.signExtend_eq_setWidth_of_le _ (by decide), BitVec.toNat_setWidth]
    rw [this]
    show c.toBitVec.toNat % 4294967296 % 65536 = c.toBitVec.toNat % 65536 % 4294967296
    omega
  rw [e, I3_64 (by omega)]
def nar (k : Nat) (c : Int64) : Int64 := if k = 1 then c &&& 1 else if k = 2 then Int32.toInt64 (Int32.toInt8 (Int64.toInt32 c)).toInt32 else if k = 3 then Int32.toInt64 (Int32.toInt16 (Int64.toInt32 c)).toInt32 else if k = 4 then c &&& 65535 else if k = 5 then Int32.toInt64 (Int64.toInt32 c) else c
theorem C_nar (h : sm_H) {k : Nat} (hk : k < 2147483648) (c : Int64) : F_68 c (I3 k) h = some (nar k c, h) := by
  show F_68_0 c (I3 k) h = _
  unfold F_68_0 nar
  rw [char_eq]
  have e : ∀ n, n < 10 → (I3 k = I3 n) = (k = n) := fun n hn => propext (I3_inj hk (by omega))
  simp only [I3_lit, e 1 (by decide), e 2 (by decide), e 3 (by decide), e 4 (by decide), e 5 (by decide)]
  (repeat' split) <;> rfl
theorem R_nar (h : sm_H) {k : Nat} (hk : k < 2147483648) (c : Int64) : F_298 (I3 k) c h = some (nar k c, h) := by
  show F_298_0 (I3 k) c h = _
  unfold F_298_0 nar
  have e : ∀ n, n < 10 → (I3 k = I3 n) = (k = n) := fun n hn => propext (I3_inj hk (by omega))
  simp only [I3_lit, e 1 (by decide), e 2 (by decide), e 3 (by decide), e 4 (by decide), e 5 (by decide)]
  (repeat' split) <;> rfl
theorem nar_ok (k : Nat) (c : Int64) : okN k (nar k c) := by
  unfold okN
  refine ⟨fun e => ?_, fun e => ?_, fun e => ?_, fun e => ?_, fun e => ?_⟩ <;> subst e
  · show (c &&& 1) = 0 ∨ (c &&& 1) = 1
    rw [and1]
    rcases (show c.toBitVec.toNat % 2 = 0 ∨ c.toBitVec.toNat % 2 = 1 by omega) with z | z
    · rw [z]; exact Or.inl rfl
    · rw [z]; exact Or.inr rfl
  · show -128 ≤ (Int32.toInt64 (Int32.toInt8 (Int64.toInt32 c)).toInt32).toInt ∧ _
    rw [show nar 2 c = Int32.toInt64 (Int32.toInt8 (Int64.toInt32 c)).toInt32 from rfl, toI64, Int8.toInt_toInt32]
    have := Int8.le_toInt (Int32.toInt8 (Int64.toInt32 c))
    have := Int8.toInt_lt (Int32.toInt8 (Int64.toInt32 c))
    omega
  · rw [show nar 3 c = Int32.toInt64 (Int32.toInt16 (Int64.toInt32 c)).toInt32 from rfl, toI64, Int16.toInt_toInt32]
    have := Int16.le_toInt (Int32.toInt16 (Int64.toInt32 c))
    have := Int16.toInt_lt (Int32.toInt16 (Int64.toInt32 c))
    omega
  · rw [show nar 4 c = c &&& 65535 from rfl, and65535, I6_toInt (by omega)]
    omega
  · rw [show nar 5 c = Int32.toInt64 (Int64.toInt32 c) from rfl, toI64]
    have := b32 (Int64.toInt32 c)
    omega
theorem and1_iff (c : Int64) : (c &&& 1) = c ↔ (c = 0 ∨ c = 1) := by
  constructor
  · intro h
    rw [and1] at h
    rcases (show c.toBitVec.toNat % 2 = 0 ∨ c.toBitVec.toNat % 2 = 1 by omega) with z | z
    · rw [z] at h; exact Or.inl h.symm
    · rw [z] at h; exact Or.inr h.symm
  · rintro (z | z) <;> subst z <;> rfl
def trK (g : sm_H) (k : Nat) (c : Int64) : Nat := if k ≤ 6 then (if nar k c = c then 0 else 2) else if c = -1 then 0 else if c.toInt < 0 ∨ (nV g : Int) ≤ c.toInt then 1 else if B g (tn (g.1 94 c.toInt.toNat)) k = true then 0 else 3
theorem trK_3 (g : sm_H) (k : Nat) (c : Int64) : trK g k c ≤ 3 := by unfold trK; (repeat' split) <;> omega
theorem trK_0 {h g : sm_H} (K : K1 h g) {k : Nat} (k1 : 0 < k) {c : Int64} (e : trK g k c = 0) : okK g k c := by
  unfold trK at e
  have w100 : nV g ≤ 100 := K.2.2.2.2.2.2.2.2.2.2.1.2.1.2
  by_cases q : k ≤ 6
  · rw [if_pos q] at e
    by_cases q1 : nar k c = c
    · have := nar_ok k c
      rw [q1] at this
      exact Or.inl ⟨k1, q, this⟩
    · rw [if_neg q1] at e; cases e
  · rw [if_neg q] at e
    refine Or.inr ⟨by omega, ?_⟩
    by_cases q1 : c = -1
    · exact Or.inl q1
    · rw [if_neg q1] at e
      by_cases q2 : c.toInt < 0 ∨ (nV g : Int) ≤ c.toInt
      · rw [if_pos q2] at e; cases e
      · rw [if_neg q2] at e
        by_cases q3 : B g (tn (g.1 94 c.toInt.toNat)) k = true
        · refine Or.inr ⟨c.toInt.toNat, by omega, ?_, q3⟩
          rw [← Int64.toInt_inj, I6_toInt (by omega)]; omega
        · rw [if_neg q3] at e; cases e
theorem C_trouble {h g : sm_H} (K : K1 h g) {k : Nat} (k1 : 0 < k) (k2 : k < 20 + nC g) (c : Int64) : F_152 (I3 k) c h = some (I3 (trK g k c), h) := by
  have wK := K.1
  have h12 := wK.2.1
  have cVq := K.2.2.2.2.2.2.2.2.2.2.1
  have w100 : nV g ≤ 100 := cVq.2.1.2
  show F_152_0 (I3 k) c h = _
  unfold F_152_0
  rw [C_plain (by omega)]; simp only [obs]
  unfold trK
  by_cases q : k ≤ 6
  · rw [if_pos q, decide_eq_true (show 1 ≤ k ∧ k ≤ 6 by omega), if_neg (by decide), C_nar h (by omega)]; simp only [obs]
    simp only [cmp_eq]
    by_cases q1 : nar k c = c
    · rw [if_pos q1, if_pos q1]; rfl
    · rw [if_neg q1, if_neg q1]; rfl
  · rw [if_neg q, decide_eq_false (show ¬ (1 ≤ k ∧ k ≤ 6) by omega), if_pos (by decide)]
    simp only [cmp_eq, cmp_lt]
    by_cases q1 : c = -1
    · rw [if_pos q1, if_pos q1]; rfl
    · rw [if_neg q1, if_neg q1, toI64, show h.1 21 6 = I3 (nV g) from cVq.1.trans cVq.2.1.1, I3_toInt (by omega), show (0 : Int64).toInt = 0 from rfl]
      by_cases q2 : c.toInt < 0
      · rw [if_pos q2, if_pos (Or.inl q2)]; rfl
      · rw [if_neg q2]
        by_cases q4 : c.toInt < ((nV g : Nat) : Int)
        · have v1 : c.toInt.toNat < nV g := by omega
          rw [if_pos q4, if_neg (by omega)]
          have ec : c = I6 c.toInt.toNat := by rw [← Int64.toInt_inj, I6_toInt (by omega)]; omega
          obtain ⟨qk, z1, z2, -⟩ := cVq.2.2.2 _ v1
          have e32 : Int64.toInt32 c = I3 c.toInt.toNat := by rw [ec, I6_32, ← ec]
          rw [e32, C_thtag (th29 h) (by omega), (cVq.2.2.1 _ (by omega)).1, z1]; simp only [obs]
          rw [C_belowN wK K.2.1 z2 k2, show tn (I3 qk) = qk from I3_clamp (by omega)]; simp only [obs]
          cases B g qk k <;> rfl
        · rw [if_neg q4, if_pos (by omega)]; rfl
theorem R_trouble {h g : sm_H} (K : K1 h g) {k : Nat} (k1 : 0 < k) (k2 : k < 20 + nC g) (c : Int64) : F_317 (I3 k) c g = some (I3 (trK g k c), g) := by
  have wK := K.1
  have h12 := wK.2.1
  have cVq := K.2.2.2.2.2.2.2.2.2.2.1
  have w100 : nV g ≤ 100 := cVq.2.1.2
  have e40 : g.1 67 40 = I3 (nV g) := cVq.2.1.1
  show F_317_0 (I3 k) c g = _
  unfold F_317_0
  rw [R_plain (by omega)]; simp only [obs]
  unfold trK
  by_cases q : k ≤ 6
  · rw [if_pos q, decide_eq_true (show 1 ≤ k ∧ k ≤ 6 by omega), if_neg (by decide)]
    have RN : F_316 (I3 k) c g = some (b2 (decide (nar k c = c)), g) := by
      show F_316_0 (I3 k) c g = _
      unfold F_316_0 F_316_17 F_316_40
      simp only [true_or, or_true, if_true]
      by_cases q1 : k = 1
      · subst q1
        rw [if_pos (by decide)]
        simp only [cmp_eq]
        have e1 : (nar 1 c = c) = (c = 0 ∨ c = 1) := propext (and1_iff c)
        by_cases z0 : c = 0
        · rw [if_pos z0, decide_eq_true (by rw [e1]; exact Or.inl z0)]; rfl
        · rw [if_neg z0]
          by_cases z1 : c = 1
          · rw [if_pos z1, decide_eq_true (by rw [e1]; exact Or.inr z1)]; rfl
          · rw [if_neg z1, decide_eq_false (by rw [e1]; rintro (z | z); exact z0 z; exact z1 z)]; rfl
      · rw [if_neg (by rw [I3_lit, I3_inj (by omega) (by decide)]; exact q1), R_nar g (by omega)]; simp only [obs]
        simp only [cmp_eq]
        by_cases z : nar k c = c
        · rw [if_pos z, decide_eq_true z]; rfl
        · rw [if_neg z, decide_eq_false z]; rfl
    rw [RN]; simp only [obs]
    by_cases q1 : nar k c = c
    · rw [decide_eq_true q1, if_pos q1]; rfl
    · rw [decide_eq_false q1, if_neg q1]; rfl
  · rw [if_neg q, decide_eq_false (show ¬ (1 ≤ k ∧ k ≤ 6) by omega), if_pos (by decide)]
    simp only [cmp_eq, cmp_lt]
    by_cases q1 : c = -1
    · rw [if_pos q1, if_pos q1]; rfl
    · rw [if_neg q1, if_neg q1, e40, R_out, toI64, I3_lit, I3m1 (by omega), show (0 : Int64).toInt = 0 from rfl]; simp only [obs]
      by_cases q2 : c.toInt < 0 ∨ (nV g : Int) ≤ c.toInt
      · rw [decide_eq_true (show c.toInt < 0 ∨ (nV g : Int) - 1 < c.toInt by omega), if_neg (by decide), if_pos q2]
      · have v1 : c.toInt.toNat < nV g := by omega
        rw [decide_eq_false (show ¬ (c.toInt < 0 ∨ (nV g : Int) - 1 < c.toInt) by omega), if_pos (by decide), if_neg q2]
        have ec : c = I6 c.toInt.toNat := by rw [← Int64.toInt_inj, I6_toInt (by omega)]; omega
        obtain ⟨qk, z1, z2, -⟩ := cVq.2.2.2 _ v1
        have e32 : Int64.toInt32 c = I3 c.toInt.toNat := by rw [ec, I6_32, ← ec]
        rw [e32, ldI_I (by omega) (by omega), z1]; simp only [obs]
        rw [R_below wK z2 (by omega), show tn (I3 qk) = qk from I3_clamp (by omega)]; simp only [obs]
        cases B g qk k <;> rfl
theorem trK_agr {g u : sm_H} (a : agr SRd g u) (k : Nat) (c : Int64) : trK u k c = trK g k c := by
  have e1 : nV u = nV g := by show tn _ = tn _; rw [a.1 67 40 (by unfold SRd; omega)]
  have e2 : ∀ x, u.1 94 x = g.1 94 x := fun x => a.1 94 x (by unfold SRd; omega)
  have e3 : ∀ x o, B u x o = B g x o := B_par (fun x => by show tn (u.1 70 x) = tn (g.1 70 x); rw [a.1 70 x (by unfold SRd; omega)])
  unfold trK
  rw [e1, e2, e3]
theorem E_trouble {h g u : sm_H} {r : Int32} {l : List Int32} (e : E h g u r l) {k : Nat} (k1 : 0 < k) (k2 : k < 20 + nC g) (c : Int64) : F_317 (I3 k) c u = some (I3 (trK g k c), u) := by
  have eC : nC u = nC g := by show tn _ = tn _; rw [e.a.1 67 6 (by unfold SRd; omega)]
  have := R_trouble e.k k1 (by rw [eC]; exact k2) c
  rw [trK_agr e.a] at this; exact this
theorem mk_0 {h g : sm_H} (K : K1 h g) (a b : Int32) (c : Int64) {o p : Nat} {ps : List Int32} (S : fS h (I3 0) a 0 c o p ps) (op : oP o p) (P : prR g ps) : ∃ out, OC h (I3 0) a 0 c out ∧ OR g (I3 0) a b c out ∧ OK g 0 a 0 c out := by
  have e7 := S.f7
  have wK := K.1
  have h12 := wK.2.1
  have RK := R_kind wK a
  have HV := C_hasV wK K.2.1 a
  rcases hC7 K S (by decide) (by decide) (by decide) rfl with ⟨rfl, q7⟩ | ⟨q, q7⟩
  · have P3 : g.1 67 3 = 0 := P.1
    have R := B336_0 (h := g) a b c
    rw [if_pos P3, RK] at R; simp only [obs] at R
    have n9 := B9_0 e7
    rw [S.f8, HV] at n9; simp only [obs] at n9
    cases kv : kV g a with
    | false =>
      rw [kv] at n9
      refine ⟨.ref 1, tl_2 q7 n9, ⟨g, ?_, agr_rfl⟩, ⟨by decide, by decide⟩⟩
      rw [R]
      rcases kV_0 wK kv with i | ⟨i, rfl⟩
      · rw [i]; rfl
      · rw [i]; rfl
    | true =>
      rw [kv, if_neg (by decide)] at n9
      obtain ⟨k, rfl, k1, k2⟩ := (kV_iff wK).mp kv
      have T := C_trouble K k1 k2 c
      have t3 := trK_3 g k c
      rw [S.f8, S.f10, T] at n9; simp only [obs] at n9
      have n11 := B11_0 e7 (n11d K S)
      rw [S.f8, S.f10, T] at n11; simp only [obs] at n11
      have n14 := B14_0 e7
      rw [S.f8, S.f10, T] at n14; simp only [obs] at n14
      obtain ⟨g0, y1, E0⟩ := E_clear K (I3 k)
      rw [show inR (I3 k) (20 + nC g) = true by rw [inR_I (by omega)]; exact decide_eq_true k2, if_neg (by decide), if_neg (by rw [I3_lit, I3_inj (by omega) (by decide)]; omega), y1] at R; simp only [obs] at R
      rw [E_trouble E0 k1 k2] at R; simp only [obs] at R
      have z := trK_0 K k1 (c := c)
      generalize trK g k c = t at *
      rcases (show t = 0 ∨ t = 1 ∨ t = 2 ∨ t = 3 by omega) with rfl | rfl | rfl | rfl
      · obtain ⟨u, d1, D0⟩ := D_begin K S op
        refine ⟨.fin (I3 k) [] [] o p, tl_6 S.w q7 n9 n11 n14 (B26_0 e7) S.f7 S.f8 S.f9 S.f10 S.f11 ?_ D0.d D0.s.r op (Ssc_d D0.a), ⟨g0, R, E0.d, E0.r, prR_SRd P E0.a, agr_mono SRd_p E0.a⟩, ?_⟩
        · rw [B29_0 d1 D0.s.f7 (n11d D0.k D0.s)]; unfold F_29_461
          rw [B32_0 D0.s.f7, D0.s.f8]; rfl
        · exact ⟨Or.inl ⟨rfl, rfl, rfl, rfl, k, k1, k2, rfl, z rfl⟩, ⟨k, rfl, k2⟩, kL_0, by decide⟩
      · exact ⟨.ref 1, tl_2 q7 n9, ⟨g0, R, agr_mono SRd_p E0.a⟩, ⟨by decide, by decide⟩⟩
      · exact ⟨.ref 2, tl_3 q7 n9 n11, ⟨g0, R, agr_mono SRd_p E0.a⟩, ⟨by decide, by decide⟩⟩
      · exact ⟨.ref 3, tl_4 q7 n9 n11 n14 agr_rfl, ⟨g0, R, agr_mono SRd_p E0.a⟩, ⟨by decide, by decide⟩⟩
  · refine ⟨.ref 1, tl_1 q7, ⟨g, ?_, agr_rfl⟩, ⟨by decide, by decide⟩⟩
    rw [B336_0, if_neg (show ¬ g.1 67 3 = 0 from fun z => (e67 P q).mp z)]; rfl
theorem mk_6 {h g : sm_H} (K : K1 h g) (a b : Int32) (c : Int64) {o p : Nat} {ps : List Int32} (S : fS h (I3 6) a 0 c o p ps) (op : oP o p) (P : prR g ps) : ∃ out, OC h (I3 6) a 0 c out ∧ OR g (I3 6) a b c out ∧ OK g 6 a 0 c out := by
  have e7 := S.f7
  have wK := K.1
  have h12 := wK.2.1
  refine gen1 K S P (by decide) (by decide) (by decide) rfl ((B336_6 _ _ _).trans rfl) rfl rfl (fun x x1 ep e12 ld c7 R => ?_)
  subst ep
  dsimp only at R
  have m10 := mn_10 K x1
  have hl := hpl_len g x
  have n9 := B9_6 e7
  have n11 := B11_6 e7 (e12 ▸ C_mn K x1)
  have n14 := B14_6 e7
  rw [if_neg (by decide), ld] at R; simp only [obs] at R
  rw [R_mn K x1] at R; simp only [obs] at R
  rw [show F_315 (Int32.toInt64 a) 0 (Int32.toInt64 (I3 (tM g (ty g x)) - 1)) g = some (b2 (!inR a (tM g (ty g x))), g) from R_outI (n := tM g (ty g x)) (by omega) a] at R; simp only [obs] at R
  rcases inR_c a (tM g (ty g x)) (by omega) with ⟨n, n1, rfl, i⟩ | i
  · obtain ⟨k, k1, k2, k3⟩ := kL_h K x1 n (by omega)
    have T : F_10 h = some (I3 (trK g k c), h) := by
      show F_10_0 h = _
      unfold F_10_0 F_10_37
      rw [e12, S.f8, C_pc K x1 (by omega), k1]; simp only [obs]
      rw [if_neg (fun z => I3_m1 (show k < 2147483648 by omega) z), S.f10, C_trouble K k2 k3]; rfl
    rw [T] at n9 n11 n14; simp only [obs] at n9 n11 n14
    rw [i, if_pos (by decide), R_pc K x1 (by omega), k1] at R; simp only [obs] at R
    rw [R_trouble K k2 k3] at R; simp only [obs] at R
    have t3 := trK_3 g k c
    have z := trK_0 K k2 (c := c)
    generalize trK g k c = t at *
    rcases (show t = 0 ∨ t = 1 ∨ t = 2 ∨ t = 3 by omega) with rfl | rfl | rfl | rfl
    · rw [if_pos (by decide), R_rs K x1] at R; simp only [obs] at R
      obtain ⟨u, d1, D0⟩ := D_begin K S op
      obtain ⟨u1, d2, D1⟩ := D_insideN D0 op x1 rfl (n := n) (m := n + 1) (by omega) (by omega)
      obtain ⟨g0, f1, E0⟩ := E_clear K (hrs g x)
      obtain ⟨g1, f2, E1⟩ := E_places E0 (i := 0) (j := n) x1 (by omega) (by decide) (by omega)
      rw [List.nil_append, Nat.sub_zero, seg_take (by omega)] at E1
      obtain ⟨g3, f4, E3⟩ := E_places E1 (i := n + 1) (j := tM g (ty g x)) x1 (Nat.le_refl _) (by rw [List.length_take]; omega) (by omega)
      rw [seg_drop (L := hpl g x) (by omega)] at E3
      have f2' : F_310 (I3 x) 0 (I3 n) g0 = some g1 := f2
      have n45' := C_mn D0.k x1
      have e12' : u.1 34 12 = I3 x := D0.s.f12
      rw [← e12'] at n45'
      refine ⟨.fin (hrs g x) ((hpl g x).take n ++ (hpl g x).drop (n + 1)) _ o p, tl_6 S.w c7 n9 n11 n14 (B26_6 e7) S.f7 S.f8 S.f9 S.f10 S.f11 ?_ D1.d D1.s.r op (Ssc_d D1.a), ⟨g3, ?_, E3.d, E3.r, prR_SRd P E3.a, agr_mono SRd_p E3.a⟩, ?_⟩
      · rw [B29_6 d1 D0.s.f7 n45', D0.s.f8, show I3 n + 1 = I3 (n + 1) from I3_add n 1, d2]; rfl
      · rw [R, f1]; simp only [obs]; rw [f2']; simp only [obs]; rw [E_many E1 x1]; simp only [obs]; rw [show I3 n + 1 = I3 (n + 1) from I3_add n 1, f4]; rfl
      · refine ⟨(Or.inr (Or.inr (Or.inr (Or.inr (Or.inr (Or.inr (Or.inl ⟨rfl, x, n, x1, rfl, by omega, rfl, ?_, rfl, rfl⟩))))))), kR_h K x1, kL_app (kL_take (kL_h K x1)) (kL_drop (kL_h K x1)), by rw [List.length_append, List.length_take, List.length_drop]; omega⟩
        rw [k1, tnI (by omega)]; exact z rfl
    · exact ⟨.ref 1, tl_2 c7 n9, ⟨g, R, agr_rfl⟩, ⟨by decide, by decide⟩⟩
    · exact ⟨.ref 2, tl_3 c7 n9 n11, ⟨g, R, agr_rfl⟩, ⟨by decide, by decide⟩⟩
    · exact ⟨.ref 3, tl_4 c7 n9 n11 n14 agr_rfl, ⟨g, R, agr_rfl⟩, ⟨by decide, by decide⟩⟩
  · have T : F_10 h = some (2, h) := by
      show F_10_0 h = _
      unfold F_10_0 F_10_37
      rw [e12, S.f8, C_pc_o K x1 (by rw [hl]; exact i)]; simp only [obs]
      rw [if_pos trivial]
    rw [T] at n9 n11; simp only [obs] at n9 n11
    rw [i, if_neg (by decide)] at R
    exact ⟨.ref 2, tl_3 c7 n9 n11, ⟨g, R, agr_rfl⟩, ⟨by decide, by decide⟩⟩
theorem kL_rep {g : sm_H} {q n : Nat} (h1 : 0 < q) (h2 : q < 20 + nC g) : kL g (List.replicate n (I3 q)) := fun i hi => by
  rw [List.length_replicate] at hi
  refine ⟨q, ?_, h1, h2⟩
  unfold at0; rw [List.getD_eq_getElem?_getD, List.getElem?_replicate_of_lt hi]; rfl
theorem take_last {l : List Int32} {n : Nat} (h : l.length = n) (h0 : 0 < n) : l = l.take (n - 1) ++ [at0 l (n - 1)] := by
  have hn : n - 1 < l.length := by omega
  rw [at0_get hn, ← List.take_succ_eq_append_getElem hn, List.take_of_length_le (by omega)]
def spB (l : List Int32) (n : Nat) (e : Int32) : Bool := all1 (fun k => decide (at0 l (l.length - n + k) = e)) n
theorem mk_10 {h g : sm_H} (K : K1 h g) (a b : Int32) (c : Int64) {o p : Nat} {ps : List Int32} (S : fS h (I3 10) a b 0 o p ps) (op : oP o p) (P : prR g ps) : ∃ out, OC h (I3 10) a b 0 out ∧ OR g (I3 10) a b c out ∧ OK g 10 a b 0 out := by
  have e7 := S.f7
  have wK := K.1
  have h12 := wK.2.1
  have n9 := (B9_10 e7).trans (n9_350 S.f8)
  refine gen1 K S P (by decide) (by decide) (by decide) rfl ((B336_10 _ _ _).trans rfl) rfl rfl (fun x x1 ep e12 ld c7 R => ?_)
  subst ep
  dsimp only at R
  have m10 := mn_10 K x1
  have hl := hpl_len g x
  rw [if_neg (by decide), R_isRowX] at R; simp only [obs] at R
  cases i : rowB a with
  | false =>
    rw [i] at n9 R
    rw [if_pos (by decide)] at R
    exact ⟨.ref 1, tl_2 c7 n9, ⟨g, R, agr_rfl⟩, ⟨by decide, by decide⟩⟩
  | true =>
    rw [i] at n9 R
    obtain ⟨k, k1, k2, rfl⟩ := rowB_x i
    rw [if_neg (by decide), ld] at R; simp only [obs] at R
    rw [R_mn K x1] at R; simp only [obs] at R
    rw [R_out' (by omega)] at R; simp only [obs] at R
    have n11 := B11_10 e7 (e12 ▸ C_mn K x1)
    rw [S.f9, rngle (by omega)] at n11
    rcases inR_c b (tM g (ty g x) + 1) (by omega) with ⟨n, n1, rfl, j⟩ | j
    · rw [j] at n11 R
      rw [if_pos (by decide)] at R
      have n14 : F_14 h = some (b2 (!spB (hpl g x) n (I3 (k - 10))), h) := by
        have main : F_18 h = some (b2 (!spB (hpl g x) n (I3 (k - 10))), h) := by
          show F_18_0 h = _
          unfold F_18_0
          rw [e12, C_mn K x1]; simp only [obs]
          rw [S.f9, I3_sub (by omega), if_neg (I3_nn (by omega))]
          have L := lp_all (body := F_18_23B) (fun k' => decide (at0 (hpl g x) ((hpl g x).length - n + k') = I3 (k - 10))) n (fun k' => (I3 (tM g (ty g x)), I3 ((hpl g x).length - n + k'), h)) (1, h) (0, h) (f := 1000000) (by omega) (fun k' hk e => ?_) (fun k' hk e => ?_) ?_
          · refine Eq.trans (show F_18_23 (I3 (tM g (ty g x))) (I3 (tM g (ty g x) - n)) h = lp F_18_23B 1000000 (I3 (tM g (ty g x)), I3 ((hpl g x).length - n + 0), h) from by rw [hl]; rfl) (L.trans ?_)
            unfold spB
            cases all1 (fun k' => decide (at0 (hpl g x) ((hpl g x).length - n + k') = I3 (k - 10))) n <;> rfl
          · show F_18_23B (I3 (tM g (ty g x)), I3 ((hpl g x).length - n + k'), h) = _
            unfold F_18_23B
            rw [if_neg (by rw [I3_le (by omega) (by omega)]; omega), e12, C_pc K x1 (by omega)]; simp only [obs]
            rw [S.f8, C_elem k1 k2]; simp only [obs]
            rw [if_pos (of_decide_eq_true e), I3_lit, I3_add, Nat.add_assoc]
          · show F_18_23B (I3 (tM g (ty g x)), I3 ((hpl g x).length - n + k'), h) = _
            unfold F_18_23B
            rw [if_neg (by rw [I3_le (by omega) (by omega)]; omega), e12, C_pc K x1 (by omega)]; simp only [obs]
            rw [S.f8, C_elem k1 k2]; simp only [obs]
            rw [if_neg (of_decide_eq_false e)]
          · show F_18_23B (I3 (tM g (ty g x)), I3 ((hpl g x).length - n + n), h) = _
            unfold F_18_23B
            rw [if_pos (by rw [I3_le (by omega) (by omega)]; omega)]
        rw [B14_10 e7, main]; simp only [obs]
        exact z01 h _
      obtain ⟨u, d1, D0⟩ := D_begin K S op
      obtain ⟨u1, d2, D1⟩ := D_places D0 op (t := ty g x) (i := 0) (j := (hpl g x).length - n) (ty_lt K x1) (by omega) (by omega) (by decide)
      rw [List.nil_append, Nat.sub_zero, seg_take (L := pl g (ty g x)) (by have := pl_len g (ty g x); omega)] at D1
      obtain ⟨u2, d3, D2⟩ := D_with D1 op (I3 k) (by rw [List.length_take]; omega)
      obtain ⟨g0, f1, E0⟩ := E_clear K (hrs g x)
      obtain ⟨g1, f2, E1⟩ := E_places E0 (i := 0) (j := (hpl g x).length - n) x1 (by omega) (by decide) (by omega)
      rw [List.nil_append, Nat.sub_zero, seg_take (by omega)] at E1
      obtain ⟨g2, f3, E2⟩ := E_add E1 (by rw [List.length_take]; omega) (I3 k)
      have f2' : F_310 (I3 x) 0 (I3 (tM g (ty g x) - n)) g0 = some g1 := by rw [← hl]; exact f2
      have d2' : F_230 (I3 (ty g x)) 0 (I3 (tM g (ty g x) - n)) u = some u1 := by rw [← hl]; exact d2
      have RL : F_324_59 (I3 k) (I3 n) (I3 x) (I3 (tM g (ty g x) - n)) g = some (bif spB (hpl g x) n (I3 (k - 10)) then (0, g2) else (3, g)) := by
        have L := lp_all (body := F_324_59B) (fun k' => decide (at0 (hpl g x) ((hpl g x).length - n + k') = I3 (k - 10))) n (fun k' => (I3 k, I3 n, I3 x, I3 ((hpl g x).length - n + k'), g)) (3, g) (0, g2) (f := 1000000) (by omega) (fun k' hk e => ?_) (fun k' hk e => ?_) ?_
        · refine Eq.trans (show F_324_59 (I3 k) (I3 n) (I3 x) (I3 (tM g (ty g x) - n)) g = lp F_324_59B 1000000 (I3 k, I3 n, I3 x, I3 ((hpl g x).length - n + 0), g) from by rw [hl]; rfl) (L.trans ?_)
          rfl
        · show F_324_59B (I3 k, I3 n, I3 x, I3 ((hpl g x).length - n + k'), g) = _
          unfold F_324_59B
          rw [R_mn K x1]; simp only [obs]
          rw [if_neg (by rw [I3_le (by omega) (by omega)]; omega), R_pc K x1 (by omega)]; simp only [obs]
          rw [R_elem _ k1 k2]; simp only [obs]
          rw [if_pos (of_decide_eq_true e), I3_lit, I3_add, Nat.add_assoc]
        · show F_324_59B (I3 k, I3 n, I3 x, I3 ((hpl g x).length - n + k'), g) = _
          unfold F_324_59B
          rw [R_mn K x1]; simp only [obs]
          rw [if_neg (by rw [I3_le (by omega) (by omega)]; omega), R_pc K x1 (by omega)]; simp only [obs]
          rw [R_elem _ k1 k2]; simp only [obs]
          rw [if_neg (of_decide_eq_false e)]
        · show F_324_59B (I3 k, I3 n, I3 x, I3 ((hpl g x).length - n + n), g) = _
          unfold F_324_59B
          rw [R_mn K x1]; simp only [obs]
          rw [if_pos (by rw [I3_le (by omega) (by omega)]; omega), R_rs K x1]; simp only [obs]
          rw [f1]; simp only [obs]
          rw [E_many E0 x1]; simp only [obs]
          rw [I3_sub (by omega), f2']; simp only [obs]
          rw [f3]; simp only [obs]
      rw [R_mn K x1] at R; simp only [obs] at R
      rw [I3_sub (by omega), RL] at R
      cases l : spB (hpl g x) n (I3 (k - 10)) with
      | false =>
        rw [l] at n14 R
        exact ⟨.ref 3, tl_4 c7 n9 n11 n14 agr_rfl, ⟨g, R, agr_rfl⟩, ⟨by decide, by decide⟩⟩
      | true =>
        rw [l] at n14 R
        have n45' := C_mn D0.k x1
        have e12' : u.1 34 12 = I3 x := D0.s.f12
        have e12'' : u2.1 34 12 = I3 x := D2.s.f12
        rw [← e12'] at n45'
        refine ⟨.fin (hrs g x) ((hpl g x).take ((hpl g x).length - n) ++ [I3 k]) _ o p, tl_6 S.w c7 n9 n11 n14 (B26_10 e7) S.f7 S.f8 S.f9 S.f10 S.f11 ?_ D2.d D2.s.r op (Ssc_d D2.a), ⟨g2, R, E2.d, E2.r, prR_SRd P E2.a, agr_mono SRd_p E2.a⟩, ?_⟩
        · rw [B29_10 d1 D0.s.f7 n45', e12', C_ty D0.k x1]; simp only [obs]; rw [D0.s.f9, I3_sub (by omega), d2']; simp only [obs]; rw [D1.s.f8, d3]; simp only [obs]; rw [e12'', C_rs D2.k x1]; rfl
        · refine ⟨(Or.inr (Or.inr (Or.inr (Or.inr (Or.inr (Or.inr (Or.inr (Or.inr (Or.inr (Or.inr (Or.inl ⟨rfl, x, k, n, x1, rfl, k1, k2, rfl, by omega, rfl, fun j' j1 j2 => ?_, rfl, rfl⟩))))))))))), kR_h K x1, kL_app (kL_take (kL_h K x1)) (kL_1 (by omega) (by omega)), by rw [List.length_append, List.length_take]; simp only [List.length_cons, List.length_nil]; omega⟩
          have := of_decide_eq_true (all1_iff.mp l (j' - ((hpl g x).length - n)) (by omega))
          rw [show (hpl g x).length - n + (j' - ((hpl g x).length - n)) = j' by omega] at this
          exact this
    · rw [j] at n11 R
      rw [if_neg (by decide)] at R
      exact ⟨.ref 2, tl_3 c7 n9 n11, ⟨g, R, agr_rfl⟩, ⟨by decide, by decide⟩⟩
theorem rep_succ (e : Int32) (n : Nat) : List.replicate (n + 1) e = List.replicate n e ++ [e] := List.replicate_succ'
theorem mk_11 {h g : sm_H} (K : K1 h g) (a b : Int32) (c : Int64) {o p : Nat} {ps : List Int32} (S : fS h (I3 11) 0 b 0 o p ps) (op : oP o p) (P : prR g ps) : ∃ out, OC h (I3 11) 0 b 0 out ∧ OR g (I3 11) a b c out ∧ OK g 11 0 b 0 out := by
  have e7 := S.f7
  have wK := K.1
  have h12 := wK.2.1
  refine gen1 K S P (by decide) (by decide) (by decide) rfl ((B336_11 _ _ _).trans rfl) rfl rfl (fun x x1 ep e12 ld c7 R => ?_)
  subst ep
  dsimp only at R
  have m10 := mn_10 K x1
  have hl := hpl_len g x
  rw [if_neg (by decide), ld] at R; simp only [obs] at R
  rw [R_mn K x1] at R; simp only [obs] at R
  rw [show F_315 (Int32.toInt64 b) 0 10 g = some (b2 (!inR b 11), g) from R_out' (m := 10) (by omega) b] at R; simp only [obs] at R
  have n11 := B11_11 e7 (e12 ▸ C_mn K x1)
  rw [S.f9, show (10 : Int32) = I3 10 from rfl, rngle (by omega)] at n11
  rcases inR_c b 11 (by omega) with ⟨n, n1, rfl, j⟩ | j
  · rw [show inR (I3 n) (10 + 1) = true from j] at n11
    rw [j, if_pos (by decide)] at R
    have n14 := B14_11 e7
    have bad : F_15 h = some (-1, h) → F_336 (I3 11) a (I3 n) c g = some (3, g) → ∃ out, OC h (I3 11) 0 (I3 n) 0 out ∧ OR g (I3 11) a (I3 n) c out ∧ OK g 11 0 (I3 n) 0 out := fun z r => by
      rw [z] at n14; simp only [obs] at n14
      rw [C_isRowX] at n14; simp only [obs] at n14
      exact ⟨.ref 3, tl_4 c7 (B9_11 e7) n11 n14 agr_rfl, ⟨g, r, agr_rfl⟩, ⟨by decide, by decide⟩⟩
    by_cases q : tM g (ty g x) = 0
    · rw [if_pos (show I3 (tM g (ty g x)) = (0 : Int32) from congrArg I3 q)] at R
      refine bad ?_ R
      show F_15_0 h = _
      unfold F_15_0
      rw [e12, C_mn K x1]; simp only [obs]
      rw [q, show (I3 0 - 1 : Int32) = -1 from rfl, C_pc_o K x1 (inR_m1 _)]; rfl
    · have C15 : ∀ u, D h u g (I3 11) 0 (I3 n) 0 o p [I3 x] [] ∨ u = h ∨ (∃ l, D h u g (I3 11) 0 (I3 n) 0 o p [I3 x] l) → F_15 u = some (at0 (hpl g x) (tM g (ty g x) - 1), u) := fun u hu => by
        have ku : K1 u g ∧ u.1 34 12 = I3 x := by
          rcases hu with z | z | ⟨l, z⟩
          · exact ⟨z.k, z.s.f12⟩
          · subst z; exact ⟨K, e12⟩
          · exact ⟨z.k, z.s.f12⟩
        show F_15_0 u = _
        unfold F_15_0
        rw [ku.2, C_mn ku.1 x1]; simp only [obs]
        rw [I3_lit, I3_sub (by omega), C_pc ku.1 x1 (by omega)]; rfl
      rw [if_neg (show ¬ I3 (tM g (ty g x)) = (0 : Int32) by rw [I3_lit, I3_inj (by omega) (by decide)]; exact q), show I3 (tM g (ty g x)) - 1 = I3 (tM g (ty g x) - 1) from I3_sub (b := 1) (by omega), R_pc K x1 (by omega)] at R; simp only [obs] at R
      rw [R_isRowX] at R; simp only [obs] at R
      rw [C15 h (Or.inr (Or.inl rfl))] at n14; simp only [obs] at n14
      rw [C_isRowX] at n14; simp only [obs] at n14
      cases i : rowB (at0 (hpl g x) (tM g (ty g x) - 1)) with
      | false =>
        rw [i] at n14 R
        rw [if_pos (by decide)] at R
        exact ⟨.ref 3, tl_4 c7 (B9_11 e7) n11 n14 agr_rfl, ⟨g, R, agr_rfl⟩, ⟨by decide, by decide⟩⟩
      | true =>
        rw [i] at n14 R
        obtain ⟨k, k1, k2, ke⟩ := rowB_x i
        rw [if_neg (by decide), R_rs K x1] at R; simp only [obs] at R
        obtain ⟨u, d1, D0⟩ := D_begin K S op
        obtain ⟨u1, d2, D1⟩ := D_places D0 op (t := ty g x) (i := 0) (j := tM g (ty g x) - 1) (ty_lt K x1) (by omega) (by omega) (by decide)
        rw [List.nil_append, Nat.sub_zero, seg_take (L := pl g (ty g x)) (by have := pl_len g (ty g x); omega)] at D1
        obtain ⟨g0, f1, E0⟩ := E_clear K (hrs g x)
        obtain ⟨g1, f2, E1⟩ := E_places E0 (i := 0) (j := tM g (ty g x) - 1) x1 (by omega) (by decide) (by omega)
        rw [List.nil_append, Nat.sub_zero, seg_take (by omega)] at E1
        have f2' : F_310 (I3 x) 0 (I3 (tM g (ty g x) - 1)) g0 = some g1 := f2
        have d2' : F_230 (I3 (ty g x)) 0 (I3 (tM g (ty g x) - 1)) u = some u1 := d2
        have CL : ∃ u2, F_29_329 0 u1 = some (hrs g x, u2) ∧ D h u2 g (I3 11) 0 (I3 n) 0 o p [I3 x] ((hpl g x).take (tM g (ty g x) - 1) ++ List.replicate n (I3 (k - 10))) := by
          have L := lp_ex (body := F_29_329B) (P := fun i s => s.1 = I3 i ∧ D h s.2 g (I3 11) 0 (I3 n) 0 o p [I3 x] ((hpl g x).take (tM g (ty g x) - 1) ++ List.replicate i (I3 (k - 10)))) (Q := fun r => r.1 = hrs g x ∧ D h r.2 g (I3 11) 0 (I3 n) 0 o p [I3 x] ((hpl g x).take (tM g (ty g x) - 1) ++ List.replicate n (I3 (k - 10)))) n (fun i s hi p1 => ?_) (fun s p1 => ?_) (0, u1) 1000000 ⟨rfl, by rw [show List.replicate 0 (I3 (k - 10)) = [] from rfl, List.append_nil]; exact D1⟩ (by omega)
          · obtain ⟨r, e1, e2, e3⟩ := L
            exact ⟨r.2, by rw [show F_29_329 0 u1 = lp F_29_329B 1000000 (0, u1) from rfl, e1, ← e2], e3⟩
          · obtain ⟨s1, s2⟩ := s
            obtain ⟨p1, p2⟩ := p1
            have p1 : s1 = I3 i := p1
            subst p1
            obtain ⟨u2, v1, D2⟩ := D_with p2 op (I3 (k - 10)) (by rw [List.length_append, List.length_take, List.length_replicate]; omega)
            refine Or.inl ⟨(I3 (i + 1), u2), ?_, rfl, by rw [rep_succ, ← List.append_assoc]; exact D2⟩
            show F_29_329B (I3 i, s2) = _
            unfold F_29_329B
            rw [if_neg (by rw [p2.s.f9, I3_le (by omega) (by omega)]; omega), if_neg (by rw [I3_lit, I3_le (by decide) (by omega)]; omega), C15 s2 (Or.inr (Or.inr ⟨_, p2⟩)), ke]; simp only [obs]
            rw [C_elem k1 k2]; simp only [obs]
            rw [v1]; simp only [obs]
            rw [I3_lit, I3_add]
          · obtain ⟨s1, s2⟩ := s
            obtain ⟨p1, p2⟩ := p1
            have p1 : s1 = I3 n := p1
            subst p1
            refine ⟨(hrs g x, s2), ?_, rfl, p2⟩
            show F_29_329B (I3 n, s2) = _
            unfold F_29_329B F_29_367
            rw [if_pos (by rw [p2.s.f9, I3_le (by omega) (by omega)]; omega), show s2.1 34 12 = I3 x from p2.s.f12, C_rs p2.k x1]; rfl
        have RL : ∃ g2, F_325_87 (I3 n) (I3 x) (I3 (tM g (ty g x))) 0 g1 = some (0, g2) ∧ E h g g2 (hrs g x) ((hpl g x).take (tM g (ty g x) - 1) ++ List.replicate n (I3 (k - 10))) := by
          have L := lp_ex (body := F_325_87B) (P := fun i s => s.1 = I3 n ∧ s.2.1 = I3 x ∧ s.2.2.1 = I3 (tM g (ty g x)) ∧ s.2.2.2.1 = I3 i ∧ E h g s.2.2.2.2 (hrs g x) ((hpl g x).take (tM g (ty g x) - 1) ++ List.replicate i (I3 (k - 10)))) (Q := fun r => r.1 = 0 ∧ E h g r.2 (hrs g x) ((hpl g x).take (tM g (ty g x) - 1) ++ List.replicate n (I3 (k - 10)))) n (fun i s hi p1 => ?_) (fun s p1 => ?_) (I3 n, I3 x, I3 (tM g (ty g x)), 0, g1) 1000000 ⟨rfl, rfl, rfl, rfl, by rw [show List.replicate 0 (I3 (k - 10)) = [] from rfl, List.append_nil]; exact E1⟩ (by omega)
          · obtain ⟨r, e1, e2, e3⟩ := L
            exact ⟨r.2, by rw [show F_325_87 (I3 n) (I3 x) (I3 (tM g (ty g x))) 0 g1 = lp F_325_87B 1000000 (I3 n, I3 x, I3 (tM g (ty g x)), 0, g1) from rfl, e1, ← e2], e3⟩
          · obtain ⟨s1, s2, s3, s4, s5⟩ := s
            obtain ⟨p1, p2, p3, p4, p5⟩ := p1
            have p1 : s1 = I3 n := p1
            have p2 : s2 = I3 x := p2
            have p3 : s3 = I3 (tM g (ty g x)) := p3
            have p4 : s4 = I3 i := p4
            subst p1 p2 p3 p4
            obtain ⟨u2, v1, D2⟩ := E_add p5 (by rw [List.length_append, List.length_take, List.length_replicate]; omega) (I3 (k - 10))
            refine Or.inl ⟨(I3 n, I3 x, I3 (tM g (ty g x)), I3 (i + 1), u2), ?_, rfl, rfl, rfl, rfl, by rw [rep_succ, ← List.append_assoc]; exact D2⟩
            show F_325_87B (I3 n, I3 x, I3 (tM g (ty g x)), I3 i, s5) = _
            unfold F_325_87B
            rw [if_neg (by rw [I3_le (by omega) (by omega)]; omega), show I3 (tM g (ty g x)) - 1 = I3 (tM g (ty g x) - 1) from I3_sub (b := 1) (by omega), E_place p5 x1 (by omega), ke]; simp only [obs]
            rw [R_elem _ k1 k2]; simp only [obs]
            rw [v1]; simp only [obs]
            rw [I3_lit, I3_add]
          · obtain ⟨s1, s2, s3, s4, s5⟩ := s
            obtain ⟨p1, p2, p3, p4, p5⟩ := p1
            have p1 : s1 = I3 n := p1
            have p4 : s4 = I3 n := p4
            subst p1 p4
            refine ⟨(0, s5), ?_, rfl, p5⟩
            show F_325_87B (I3 n, s2, s3, I3 n, s5) = _
            unfold F_325_87B
            rw [if_pos (by rw [I3_le (by omega) (by omega)]; omega)]
        obtain ⟨u2, d3, D2⟩ := CL
        obtain ⟨g2, f3, E2⟩ := RL
        have n45' := C_mn D0.k x1
        have e12' : u.1 34 12 = I3 x := D0.s.f12
        rw [← e12'] at n45'
        refine ⟨.fin (hrs g x) ((hpl g x).take (tM g (ty g x) - 1) ++ List.replicate n (I3 (k - 10))) _ o p, tl_6 S.w c7 (B9_11 e7) n11 n14 (B26_11 e7) S.f7 S.f8 S.f9 S.f10 S.f11 ?_ D2.d D2.s.r op (Ssc_d D2.a), ⟨g2, ?_, E2.d, E2.r, prR_SRd P E2.a, agr_mono SRd_p E2.a⟩, ?_⟩
        · rw [B29_11 d1 D0.s.f7 n45', e12', C_ty D0.k x1]; simp only [obs]; rw [show I3 (tM g (ty g x)) - 1 = I3 (tM g (ty g x) - 1) from I3_sub (b := 1) (by omega), d2']; exact d3
        · rw [R, f1]; simp only [obs]; rw [f2']; simp only [obs]; rw [f3]; rfl
        · refine ⟨(Or.inr (Or.inr (Or.inr (Or.inr (Or.inr (Or.inr (Or.inr (Or.inr (Or.inr (Or.inr (Or.inr (Or.inl ⟨rfl, x, n, k, (hpl g x).take (tM g (ty g x) - 1), x1, rfl, by omega, rfl, k1, k2, ?_, rfl, rfl⟩)))))))))))), kR_h K x1, kL_app (kL_take (kL_h K x1)) (kL_rep (by omega) (by omega)), by rw [List.length_append, List.length_take, List.length_replicate]; omega⟩
          rw [← ke]; exact take_last (by omega) (by omega)
  · rw [show inR b (10 + 1) = false from j] at n11
    rw [j, if_neg (by decide)] at R
    exact ⟨.ref 2, tl_3 c7 (B9_11 e7) n11, ⟨g, R, agr_rfl⟩, ⟨by decide, by decide⟩⟩
theorem C_lacks17 {h g : sm_H} (K : K1 h g) {a b : Int32} {c : Int64} {o p : Nat} {ps : List Int32} (S : fS h (I3 17) a b c o p ps) : F_7 h = some (b2 (!(decide (0 < ps.length) && aH g ps ps.length)), h) := by
  have l20 := S.r.2.1
  have Z := C_rsize S.w S.r
  have H := C_lacksH0 K S
  show F_7_0 h = _
  unfold F_7_0 F_7_135 F_7_140
  rw [S.f7, if_neg (by decide), if_neg (by decide), if_pos (by decide), S.f11]; simp only [obs, true_or, or_true, if_true]
  rw [if_neg (not_not_intro (S.w.i h)), Z]; simp only [obs]
  by_cases q : 0 < ps.length
  · rw [if_neg (by rw [I3_lit, I3_inj (by omega) (by decide)]; omega), decide_eq_true q, H]; simp only [obs]
    cases aH g ps ps.length <;> rfl
  · rw [if_pos (by rw [show ps.length = 0 by omega]; rfl), decide_eq_false q]; rfl
def swB (g : sm_H) (ps : List Int32) (x : Nat) : Bool := all1 (fun k => decide (ty g (tn (at0 ps (k + 1))) = ty g x)) (ps.length - 1)
def i1B (l : List Int32) : Bool := decide (0 < l.length) && decide (at0 l 0 = 5)
theorem mk_17 {h g : sm_H} (K : K1 h g) (a b : Int32) (c : Int64) {o p : Nat} {ps : List Int32} (S : fS h (I3 17) 0 0 0 o p ps) (op : oP o p) (P : prR g ps) : ∃ out, OC h (I3 17) 0 0 0 out ∧ OR g (I3 17) a b c out ∧ OK g 17 0 0 0 out := by
  have e7 := S.f7
  have wK := K.1
  have h12 := wK.2.1
  have l20 := S.r.2.1
  have w500 : nH g ≤ 500 := K.2.2.2.2.1.1.2
  have w300 : nT g ≤ 300 := K.2.2.1.1.2
  have c7 := C_lacks17 K S
  have R : F_336 (I3 17) a b c g = ((F_331_0 g).bind fun q => some (q.1, q.2)) := B336_17 _ _ _
  unfold F_331_0 at R
  by_cases q0 : 0 < ps.length
  · rw [if_neg (by rw [P.1, I3_lit, I3_lt (by omega) (by decide)]; omega), P.1, R_areH K.2.2.2.2.1 P (Nat.le_refl _)] at R; simp only [obs] at R
    rw [decide_eq_true q0, Bool.true_and] at c7
    cases i : aH g ps ps.length with
    | false =>
      rw [i] at c7 R
      exact ⟨.ref 1, tl_1 c7, ⟨g, R, agr_rfl⟩, ⟨by decide, by decide⟩⟩
    | true =>
      rw [i] at c7 R
      have hp : ∀ k, k < ps.length → ∃ y, y < nH g ∧ at0 ps k = I3 y ∧ tn (at0 ps k) = y := fun k hk => by
        obtain ⟨y, y1, y2⟩ := inR_x (by omega) (all1_iff.mp i k hk)
        exact ⟨y, y1, y2, by rw [y2, tnI (by omega)]⟩
      obtain ⟨x, x1, x2, -⟩ := hp 0 q0
      have e12 : h.1 34 12 = I3 x := by rw [S.f12, at1_in q0, x2]
      have m10 := mn_10 K x1
      have hl := hpl_len g x
      have ld := prR_ld P q0
      rw [x2] at ld
      rw [if_neg (by decide), show ldI g 69 24 0 = _ from ld] at R; simp only [obs] at R
      have tx := ty_lt K x1
      have n11 : F_11 h = some (0, h) := B11_17 e7 (e12 ▸ C_mn K x1)
      have n14 : F_14 h = some (b2 (!(swB g ps x && i1B (hpl g x))), h) := by
        have main : F_21 h = some (b2 (!(swB g ps x && i1B (hpl g x))), h) := by
          have L := lp_all (body := F_21_2B) (fun k => decide (ty g (tn (at0 ps (k + 1))) = ty g x)) (ps.length - 1) (fun k => (I3 (k + 1), h)) (1, h) (b2 (!i1B (hpl g x)), h) (f := 1000000) (by omega) (fun k hk e => ?_) (fun k hk e => ?_) ?_
          · refine Eq.trans (show F_21 h = lp F_21_2B 1000000 (I3 (0 + 1), h) from rfl) (L.trans ?_)
            unfold swB
            cases all1 (fun k => decide (ty g (tn (at0 ps (k + 1))) = ty g x)) (ps.length - 1) <;> rfl
          · obtain ⟨y, y1, y2, y3⟩ := hp (k + 1) (by omega)
            have ty1 := ty_lt K y1
            show F_21_2B (I3 (k + 1), h) = _
            unfold F_21_2B
            rw [S.f11]; simp only [obs]
            rw [if_neg (not_not_intro (S.w.i h)), C_rsize S.w S.r]; simp only [obs]
            rw [if_neg (by rw [I3_le (by omega) (by omega)]; omega), S.f11]; simp only [obs]
            rw [if_neg (not_not_intro (S.w.i h)), C_rat S.w S.r (by omega), y2]; simp only [obs]
            rw [C_ty K y1]; simp only [obs]
            rw [e12, C_ty K x1]; simp only [obs]
            have e := of_decide_eq_true e
            rw [y3] at e
            rw [if_pos (by rw [e]), I3_lit, I3_add]
          · obtain ⟨y, y1, y2, y3⟩ := hp (k + 1) (by omega)
            have ty1 := ty_lt K y1
            show F_21_2B (I3 (k + 1), h) = _
            unfold F_21_2B
            rw [S.f11]; simp only [obs]
            rw [if_neg (not_not_intro (S.w.i h)), C_rsize S.w S.r]; simp only [obs]
            rw [if_neg (by rw [I3_le (by omega) (by omega)]; omega), S.f11]; simp only [obs]
            rw [if_neg (not_not_intro (S.w.i h)), C_rat S.w S.r (by omega), y2]; simp only [obs]
            rw [C_ty K y1]; simp only [obs]
            rw [e12, C_ty K x1]; simp only [obs]
            have e := of_decide_eq_false e
            rw [y3] at e
            rw [if_neg (by rw [I3_inj (by omega) (by omega)]; exact e)]
          · show F_21_2B (I3 (ps.length - 1 + 1), h) = _
            unfold F_21_2B F_21_71
            rw [S.f11]; simp only [obs, true_or, or_true, if_true]
            rw [if_neg (not_not_intro (S.w.i h)), C_rsize S.w S.r]; simp only [obs]
            rw [if_pos (by rw [I3_le (by omega) (by omega)]; omega), e12]
            unfold i1B
            by_cases q : 0 < (hpl g x).length
            · rw [show F_46 (I3 x) 0 h = _ from C_pc K x1 (k := 0) q, decide_eq_true q]; simp only [obs]
              by_cases q1 : at0 (hpl g x) 0 = 5
              · rw [if_pos q1, decide_eq_true q1]; rfl
              · rw [if_neg q1, decide_eq_false q1]; rfl
            · rw [C_pc_o K x1 (x := 0) (by show inR (I3 0) _ = _; rw [inR_I (by omega)]; exact decide_eq_false q), decide_eq_false q]; simp only [obs]
              rw [if_neg (by decide)]; rfl
        rw [B14_17 e7, main]; simp only [obs]
        exact z01 h _
      obtain ⟨g0, f1, E0⟩ := E_clear K (hrs g x)
      obtain ⟨g1, f2, E1⟩ := E_all E0 x1 (by decide)
      rw [List.nil_append] at E1
      have RL : F_331_31 (I3 x) 1 g = some (bif swB g ps x && i1B (hpl g x) then (0, g1) else (3, g)) := by
        have L := lp_all (body := F_331_31B) (fun k => decide (ty g (tn (at0 ps (k + 1))) = ty g x)) (ps.length - 1) (fun k => (I3 x, I3 (k + 1), g)) (3, g) (bif i1B (hpl g x) then (0, g1) else (3, g)) (f := 1000000) (by omega) (fun k hk e => ?_) (fun k hk e => ?_) ?_
        · refine Eq.trans (show F_331_31 (I3 x) 1 g = lp F_331_31B 1000000 (I3 x, I3 (0 + 1), g) from rfl) (L.trans ?_)
          unfold swB
          cases all1 (fun k => decide (ty g (tn (at0 ps (k + 1))) = ty g x)) (ps.length - 1) <;> rfl
        · obtain ⟨y, y1, y2, y3⟩ := hp (k + 1) (by omega)
          have ty1 := ty_lt K y1
          show F_331_31B (I3 x, I3 (k + 1), g) = _
          unfold F_331_31B
          rw [if_neg (by rw [P.1, I3_le (by omega) (by omega)]; omega), prR_ld P (by omega), y2]; simp only [obs]
          rw [R_ty K y1]; simp only [obs]
          rw [R_ty K x1]; simp only [obs]
          have e := of_decide_eq_true e
          rw [y3] at e
          rw [if_pos (by rw [e]), I3_lit, I3_add]
        · obtain ⟨y, y1, y2, y3⟩ := hp (k + 1) (by omega)
          have ty1 := ty_lt K y1
          show F_331_31B (I3 x, I3 (k + 1), g) = _
          unfold F_331_31B
          rw [if_neg (by rw [P.1, I3_le (by omega) (by omega)]; omega), prR_ld P (by omega), y2]; simp only [obs]
          rw [R_ty K y1]; simp only [obs]
          rw [R_ty K x1]; simp only [obs]
          have e := of_decide_eq_false e
          rw [y3] at e
          rw [if_neg (by rw [I3_inj (by omega) (by omega)]; exact e)]
        · show F_331_31B (I3 x, I3 (ps.length - 1 + 1), g) = _
          unfold F_331_31B F_331_85
          rw [if_pos (by rw [P.1, I3_le (by omega) (by omega)]; omega), R_mn K x1]; simp only [obs]
          unfold i1B
          by_cases q : 0 < (hpl g x).length
          · rw [if_neg (by rw [I3_lit, I3_inj (by omega) (by decide)]; omega), show F_306 (I3 x) 0 g = _ from R_pc K x1 (k := 0) q, decide_eq_true q]; simp only [obs]
            by_cases q1 : at0 (hpl g x) 0 = 5
            · rw [if_pos q1, decide_eq_true q1, R_rs K x1]; simp only [obs]
              rw [f1]; simp only [obs]
              rw [E_many E0 x1]; simp only [obs]
              rw [f2]; rfl
            · rw [if_neg q1, decide_eq_false q1]; rfl
          · rw [if_pos (show I3 (tM g (ty g x)) = (0 : Int32) from congrArg I3 (show tM g (ty g x) = 0 by omega)), decide_eq_false q]; rfl
      rw [RL] at R
      cases l : swB g ps x && i1B (hpl g x) with
      | false =>
        rw [l] at n14 R
        exact ⟨.ref 3, tl_4 c7 (B9_17 e7) n11 n14 agr_rfl, ⟨g, R, agr_rfl⟩, ⟨by decide, by decide⟩⟩
      | true =>
        rw [l] at n14 R
        refine finX K S op P x1 (by rw [at1_in q0, x2]) c7 (B9_17 e7) n11 n14 (B26_17 e7) (fun z1 z2 z3 => B29_17 z1 z2 z3) R E1 ?_
        rw [Bool.and_eq_true] at l
        obtain ⟨l1, l2⟩ := l
        unfold i1B at l2
        rw [Bool.and_eq_true, decide_eq_true_eq, decide_eq_true_eq] at l2
        refine (Or.inr (Or.inr (Or.inr (Or.inr (Or.inr (Or.inr (Or.inr (Or.inr (Or.inr (Or.inr (Or.inr (Or.inr (Or.inr (Or.inr (Or.inr (Or.inr (Or.inl ⟨rfl, x, (hpl g x).drop 1, x1, q0, x2, fun k hk => ?_, cons_drop l2.1 l2.2, rfl, rfl⟩)))))))))))))))))
        obtain ⟨y, y1, y2, y3⟩ := hp k hk
        refine ⟨y, y1, y2, ?_⟩
        cases k with
        | zero =>
          rw [x2, I3_inj (by omega) (by omega)] at y2
          rw [y2]
        | succ k =>
          have := of_decide_eq_true (all1_iff.mp l1 k (by omega))
          rw [y3] at this; exact this
  · rw [decide_eq_false q0, Bool.false_and] at c7
    rw [if_pos (by rw [P.1, show ps.length = 0 by omega]; decide)] at R
    exact ⟨.ref 1, tl_1 c7, ⟨g, R, agr_rfl⟩, ⟨by decide, by decide⟩⟩
theorem all1_succ (p : Nat → Bool) (n : Nat) : all1 p (n + 1) = (all1 p n && p n) := by
  have e : (all1 p (n + 1) = true) ↔ ((all1 p n && p n) = true) := by
    rw [Bool.and_eq_true, all1_iff, all1_iff]
    exact ⟨fun h => ⟨fun k hk => h k (by omega), h n (by omega)⟩, fun h k hk => by
      rcases (show k < n ∨ k = n by omega) with z | z
      · exact h.1 k z
      · rw [z]; exact h.2⟩
  cases h1 : all1 p (n + 1) <;> cases h2 : (all1 p n && p n)
  · rfl
  · rw [h1, h2] at e; exact absurd (e.mpr rfl) (by decide)
  · rw [h1, h2] at e; exact absurd (e.mp rfl) (by decide)
  · rfl
theorem all1_0 (p : Nat → Bool) : all1 p 0 = true := all1_iff.mpr (fun k hk => by omega)
theorem C_type {u g : sm_H} (K : K1 u g) {l : List Int32} (d : dC u l) {t : Nat} (ht : t < nT g) (hl : l.length ≤ 100) : ∃ u1, F_31 (I3 t) u = some (rs g t, u1) ∧ dC u1 (l ++ pl g t) ∧ agr SCd u u1 := by
  have wT := K.2.2.1
  obtain ⟨u1, c1, c2, c3⟩ := C_withPlaces K d hl ht (Nat.le_refl (tM g t)) (show 0 ≤ 1000 by omega)
  have K2 := K1_h K (agr_mono SCd_not c3)
  have T1 : F_226 (I3 t) u = some (I3 (tM g t), u) := by have := C_tmany wT K.2.2.2.1 ht; rw [(wT.2.1 t ht).2.1.1] at this; exact this
  have T2 := C_tres wT K2.2.2.2.1 ht
  rw [Nat.sub_zero, ← pl_len, seg_all] at c2
  refine ⟨u1, ?_, c2, c3⟩
  show F_31_0 (I3 t) u = _
  unfold F_31_0
  rw [T1]; simp only [obs]
  rw [show F_230 (I3 t) 0 (I3 (tM g t)) u = some u1 from c1]; simp only [obs]
  rw [T2]; rfl
def stB (ps : List Int32) : Bool := all1 (fun k => decide (at0 ps (k + 1) = I3 k)) (ps.length - 1)
theorem C_stays {h2 : sm_H} {o p : Nat} {ps : List Int32} (w : isRw o p) (r : hasL h2 o p ps) (f11 : sm_rr G0 h2 34 11 = some o) (hl : 0 < ps.length) : F_28 h2 = some (b2 (stB ps), h2) := by
  have l20 := r.2.1
  have L := lp_all (body := F_28_2B) (fun k => decide (at0 ps (k + 1) = I3 k)) (ps.length - 1) (fun k => (I3 (k + 1), h2)) (0, h2) (1, h2) (f := 1000000) (by omega) (fun k hk e => ?_) (fun k hk e => ?_) ?_
  · refine Eq.trans (show F_28 h2 = lp F_28_2B 1000000 (I3 (0 + 1), h2) from rfl) (L.trans ?_)
    unfold stB
    cases all1 (fun k => decide (at0 ps (k + 1) = I3 k)) (ps.length - 1) <;> rfl
  · show F_28_2B (I3 (k + 1), h2) = _
    unfold F_28_2B
    rw [f11]; simp only [obs]
    rw [if_neg (not_not_intro (w.i h2)), C_rsize w r]; simp only [obs]
    rw [if_neg (by rw [I3_le (by omega) (by omega)]; omega), f11]; simp only [obs]
    rw [if_neg (not_not_intro (w.i h2)), C_rat w r (by omega)]; simp only [obs]
    rw [show I3 (k + 1) - 1 = I3 k from I3_sub (a := k + 1) (b := 1) (by omega), if_pos (of_decide_eq_true e), I3_lit, I3_add]
  · show F_28_2B (I3 (k + 1), h2) = _
    unfold F_28_2B
    rw [f11]; simp only [obs]
    rw [if_neg (not_not_intro (w.i h2)), C_rsize w r]; simp only [obs]
    rw [if_neg (by rw [I3_le (by omega) (by omega)]; omega), f11]; simp only [obs]
    rw [if_neg (not_not_intro (w.i h2)), C_rat w r (by omega)]; simp only [obs]
    rw [show I3 (k + 1) - 1 = I3 k from I3_sub (a := k + 1) (b := 1) (by omega), if_neg (of_decide_eq_false e)]
  · show F_28_2B (I3 (ps.length - 1 + 1), h2) = _
    unfold F_28_2B
    rw [f11]; simp only [obs]
    rw [if_neg (not_not_intro (w.i h2)), C_rsize w r]; simp only [obs]
    rw [if_pos (by rw [I3_le (by omega) (by omega)]; omega)]
theorem R_stays {h g2 : sm_H} (K2 : K1 h g2) {t x : Nat} (ht : t < nT g2) (hx : x < nH g2) {ps : List Int32} (P : prR g2 ps) (hl : 0 < ps.length) :
    (t = ty g2 x ∧ stB ps = true ∧ F_319_275 (I3 t) (I3 x) g2 = some (-1 - I3 x, g2)) ∨ (¬ (t = ty g2 x ∧ stB ps = true) ∧ ∃ g3, F_319_275 (I3 t) (I3 x) g2 = some (0, g3) ∧ E h g2 g3 (rs g2 t) (pl g2 t)) := by
  have w300 : nT g2 ≤ 300 := K2.2.2.1.1.2
  have l20 := P.2.1
  have tx := ty_lt K2 hx
  obtain ⟨g0, f1, E0⟩ := E_clear K2 (rs g2 t)
  obtain ⟨g1, f2, E1⟩ := E_type E0 ht (by decide)
  rw [List.nil_append] at E1
  have lo : ∀ f0 : Bool, F_319_294 (I3 t) (I3 x) (b2 f0) 1 g2 = some (bif f0 && stB ps then (-1 - I3 x, g2) else (0, g1)) := fun f0 => by
    have L := lp_ex (body := F_319_294B) (P := fun k s => s = (I3 t, I3 x, b2 (f0 && all1 (fun k => decide (at0 ps (k + 1) = I3 k)) k), I3 (k + 1), g2)) (Q := fun r => r = bif f0 && stB ps then (-1 - I3 x, g2) else (0, g1)) (ps.length - 1) (fun k s hk p1 => ?_) (fun s p1 => ?_) (I3 t, I3 x, b2 f0, I3 1, g2) 1000000 (by rw [all1_0, Bool.and_true]) (by omega)
    · obtain ⟨r, e1, e2⟩ := L
      rw [← e2]; exact e1
    · subst p1
      refine Or.inl ⟨_, ?_, rfl⟩
      show F_319_294B (I3 t, I3 x, b2 (f0 && all1 (fun k => decide (at0 ps (k + 1) = I3 k)) k), I3 (k + 1), g2) = _
      unfold F_319_294B F_319_325 F_319_326
      rw [if_neg (by rw [P.1, I3_le (by omega) (by omega)]; omega), all1_succ]; simp only [obs]
      cases i : f0 && all1 (fun k => decide (at0 ps (k + 1) = I3 k)) k with
      | false =>
        rw [if_pos (by decide), ← Bool.and_assoc, i, show I3 (k + 1) + 1 = I3 (k + 1 + 1) from I3_add (k + 1) 1]; rfl
      | true =>
        rw [if_neg (by decide), ← Bool.and_assoc, i, prR_ld P (by omega)]; simp only [obs]
        rw [show I3 (k + 1) - 1 = I3 k from I3_sub (a := k + 1) (b := 1) (by omega), show I3 (k + 1) + 1 = I3 (k + 1 + 1) from I3_add (k + 1) 1]
        by_cases q : at0 ps (k + 1) = I3 k
        · rw [if_pos q, decide_eq_true q]; rfl
        · rw [if_neg q, decide_eq_false q]; rfl
    · subst p1
      show ∃ r, F_319_294B (I3 t, I3 x, b2 (f0 && stB ps), I3 (ps.length - 1 + 1), g2) = some (.inr r) ∧ _
      refine ⟨_, ?_, rfl⟩
      unfold F_319_294B
      rw [if_pos (by rw [P.1, I3_le (by omega) (by omega)]; omega)]
      cases f0 && stB ps with
      | false =>
        rw [if_pos (show b2 false = 0 by decide), ldI_I (by omega) (by omega)]; simp only [obs]
        rw [show F_308 (g2.1 72 t) g2 = some g0 from f1]; simp only [obs]
        rw [f2]; rfl
      | true => rw [if_neg (show ¬ b2 true = 0 by decide)]; rfl
  have e0 : F_319_275 (I3 t) (I3 x) g2 = some (bif decide (t = ty g2 x) && stB ps then (-1 - I3 x, g2) else (0, g1)) := by
    unfold F_319_275 F_319_290
    rw [R_ty K2 hx]; simp only [obs]
    by_cases q : t = ty g2 x
    · rw [if_pos (by rw [q]), decide_eq_true q]; exact lo true
    · rw [if_neg (by rw [I3_inj (by omega) (by omega)]; exact fun z => q z.symm), decide_eq_false q]; exact lo false
  by_cases q : t = ty g2 x ∧ stB ps = true
  · rw [decide_eq_true q.1, q.2] at e0
    exact Or.inl ⟨q.1, q.2, e0⟩
  · refine Or.inr ⟨q, g1, ?_, E1⟩
    rw [e0]
    have : (decide (t = ty g2 x) && stB ps) = false := by
      cases i : decide (t = ty g2 x) && stB ps with
      | false => rfl
      | true =>
        rw [Bool.and_eq_true, decide_eq_true_eq] at i
        exact absurd i q
    rw [this]; rfl
theorem pl_agr {g u : sm_H} (a : agr SRp g u) (t : Nat) : pl u t = pl g t := by
  have e : tM u t = tM g t := by show tn _ = tn _; rw [a.1 73 t (by unfold SRp; omega)]
  show lst _ (tM u t) = lst _ (tM g t)
  rw [e]; exact lst_congr (fun k _ => a.1 74 _ (by unfold SRp; omega))
theorem prR_SRd' {g u : sm_H} {ps : List Int32} (P : prR g ps) (a : agr SRd g u) : prR u ps := prR_SRd P a
theorem mk5_end {h g h2 g2 : sm_H} (K : K1 h g) {a : Int32} {c : Int64} {o p o' p' t x : Nat} {ps ps' : List Int32} (S : fS h (I3 5) 0 (I3 t) 0 o p ps) (ht : t < nT g) (hx : x < nH g) (c7 : F_7 h = some (0, h)) (n9 : F_9 h = some (0, h)) (n11 : F_11 h = some (0, h)) (n14 : F_14 h = some (0, h))
    (J : F_27 h = some h2) (ag : agr Ssc h h2) (e7 : h2.1 34 7 = I3 5) (e8 : h2.1 34 8 = 0) (e9 : h2.1 34 9 = I3 t) (e10 : h2.2.1 34 10 = 0) (e11 : sm_rr G0 h2 34 11 = some o') (e12 : h2.1 34 12 = I3 x) (w : isRw o' p') (op : oP o' p') (r : hasL h2 o' p' ps') (hl : 0 < ps'.length)
    (RJ : F_336 (I3 5) a (I3 t) c g = (F_319_275 (I3 t) (I3 x) g2).bind fun q => some (q.1, q.2)) (bg : agr SRp g g2) (P : prR g2 ps') (fs : FS g 5 0 (I3 t) 0 ps' (rs g t) (pl g t)) : ∃ out, OC h (I3 5) 0 (I3 t) 0 out ∧ OR g (I3 5) a (I3 t) c out ∧ OK g 5 0 (I3 t) 0 out := by
  have wT := K.2.2.1
  have w500 : nH g ≤ 500 := K.2.2.2.2.1.1.2
  have w300 : nT g ≤ 300 := wT.1.2
  have K2 : K1 h2 g := K1_h K (agr_mono Ssc_not ag)
  have KG : K1 h g2 := K1_g K (agr_mono SRp_not bg)
  have nt : nT g2 = nT g := by show tn _ = tn _; rw [bg.1 67 10 (by unfold SRp; omega)]
  have nh : nH g2 = nH g := by show tn _ = tn _; rw [bg.1 67 18 (by unfold SRp; omega)]
  have et : ty g2 x = ty g x := by show tn _ = tn _; rw [bg.1 76 x (by unfold SRp; omega)]
  have tx := ty_lt K hx
  have t10 : (pl g t).length ≤ 10 := by rw [pl_len]; exact (wT.2.1 t ht).2.1.2
  have n26 : F_26 h = some (if t = ty g x ∧ stB ps' = true then I3 x else -1, h2) := by
    rw [B26_5 S.f7, J]; simp only [obs]
    rw [e12, C_ty K2 hx, e9]; simp only [obs]
    by_cases q : t = ty g x
    · rw [if_pos (by rw [q]), C_stays w r e11 hl]; simp only [obs]
      cases i : stB ps' with
      | false => rw [if_pos (by decide), if_neg (show ¬ (t = ty g x ∧ false = true) from fun z => absurd z.2 (by decide))]; rfl
      | true =>
        rw [if_neg (by decide), if_pos ⟨q, rfl⟩, e12]; rfl
    · rw [if_neg (by rw [I3_inj (by omega) (by omega)]; exact q), if_neg (fun z => q z.1)]; rfl
  rcases R_stays KG (t := t) (x := x) (by rw [nt]; exact ht) (by rw [nh]; exact hx) P hl with ⟨q1, q2, q3⟩ | ⟨q, g3, q3, E3⟩
  · rw [et] at q1
    rw [if_pos ⟨q1, q2⟩] at n26
    rw [q3] at RJ
    exact ⟨.smp x, tl_5 (by omega) c7 n9 n11 n14 n26 ag, ⟨g2, RJ, bg⟩, hx⟩
  · rw [et] at q
    rw [if_neg q] at n26
    rw [q3] at RJ
    obtain ⟨u, d1, d2, d3⟩ := C_begin h2
    have Ku := K1_h K2 (agr_mono SCd_not d3)
    obtain ⟨u1, v1, v2, v3⟩ := C_type Ku d2 ht (by decide)
    rw [List.nil_append] at v2
    have e34 : ∀ j, u.1 34 j = h2.1 34 j := fun j => d3.1 34 j (by unfold SCd; omega)
    have n45 := C_mn Ku hx
    have hu := hasL_agr (hasL_agr r d3 (fun j => by unfold SCd; omega)) v3 (fun j => by unfold SCd; omega)
    have er : rs g2 t = rs g t := bg.1 72 t (by unfold SRp; omega)
    have dd := E3.d
    have rr := E3.r
    rw [pl_agr bg] at dd
    rw [er] at rr
    refine ⟨.fin (rs g t) (pl g t) ps' o' p', tl_6 w c7 n9 n11 n14 n26 e7 e8 e9 e10 e11 ?_ v2 hu op (agr_trans ag (Ssc_d (agr_trans d3 v3))), ⟨g3, RJ, dd, rr, prR_SRd P E3.a, agr_trans bg (agr_mono SRd_p E3.a)⟩, ⟨fs, kR1_rs wT ht, kL_pl wT ht, by omega⟩⟩
    rw [B29_5 d1 ((e34 7).trans e7) (((e34 12).trans e12) ▸ n45)]; unfold F_29_411
    rw [e34, e9, v1]; rfl
