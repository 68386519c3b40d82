def asB (g : sm_H) (u t : Nat) (f : Bool) : Bool := decide (tM g t = tM g u) && (all1 (fun k => mayB g (tP g t k) (tP g u k) f false) (tM g u) && mayB g (tR g u) (tR g t) f true)
theorem asB_x {g : sm_H} {u t : Nat} {f : Bool} (h : asB g u t f = true) : mayAs g u t f := by
  unfold asB at h
  rw [Bool.and_eq_true, Bool.and_eq_true] at h
  exact ⟨of_decide_eq_true h.1, fun k hk => all1_iff.mp h.2.1 k hk, h.2.2⟩
theorem mayB_0 {g : sm_H} {a b : Nat} {f : Bool} (h : a = 0 ∨ b = 0) : mayB g a b f true = true := by
  unfold mayB
  by_cases q : a = b
  · rw [if_pos q]
  · rw [if_neg q]
    by_cases q0 : a = 0
    · rw [if_pos q0]
    · rw [if_neg q0, if_pos (by omega)]
theorem mayB_n {g : sm_H} {a b : Nat} {f : Bool} (h1 : a ≠ 0) (h2 : b ≠ 0) : mayB g a b f true = mayB g a b f false := by
  unfold mayB
  rw [if_neg h1, if_neg h2, if_neg h1, if_neg h2]
theorem C_allowsAs {h g : sm_H} (K : K1 h g) {u t : Nat} (hu : u < nT g) (ht : t < nT g) (f : Bool) : F_236 (I3 u) (I3 t) (b2 f) h = some (b2 (asB g u t f), h) := by
  have wK := K.1
  have cKh := K.2.1
  have wT := K.2.2.1
  have cTh := K.2.2.2.1
  have h12 := wK.2.1
  have u10 : tM g u ≤ 10 := (wT.2.1 u hu).2.1.2
  have t10 : tM g t ≤ 10 := (wT.2.1 t ht).2.1.2
  have mu : F_226 (I3 u) h = some (I3 (tM g u), h) := by have := C_tmany wT cTh hu; rw [(wT.2.1 u hu).2.1.1] at this; exact this
  have mt : F_226 (I3 t) h = some (I3 (tM g t), h) := by have := C_tmany wT cTh ht; rw [(wT.2.1 t ht).2.1.1] at this; exact this
  have ru := C_tres wT cTh hu
  have rt := C_tres wT cTh ht
  have cu := (wT.2.1 u hu).1
  have ct := (wT.2.1 t ht).1
  have zf : F_236_68 (I3 u) (I3 t) (b2 f) h = some (b2 (mayB g (tR g u) (tR g t) f true), h) := by
    unfold F_236_68 F_236_107 F_236_112
    rw [ru]; simp only [Option.bind_some, true_or, or_true, if_true]
    rw [rt]; simp only [Option.bind_some, true_or, or_true, if_true]
    rw [cu.1, ct.1]
    have cu2 : tR g u ≤ 19 + nC g := cu.2
    have ct2 : tR g t ≤ 19 + nC g := ct.2
    by_cases q1 : tR g u = 0
    · rw [if_pos (show I3 (tR g u) = (0 : Int32) from congrArg I3 q1), mayB_0 (Or.inl q1)]; rfl
    · rw [if_neg (show ¬ I3 (tR g u) = (0 : Int32) by rw [I3_lit, I3_inj (by omega) (by decide)]; exact q1)]
      by_cases q2 : tR g t = 0
      · rw [if_pos (show I3 (tR g t) = (0 : Int32) from congrArg I3 q2), mayB_0 (Or.inr q2)]; rfl
      · rw [if_neg (show ¬ I3 (tR g t) = (0 : Int32) by rw [I3_lit, I3_inj (by omega) (by decide)]; exact q2)]
        rw [C_allows wK cKh (a := tR g u) (b := tR g t) (by omega) (by omega) (by omega) (by omega) f, mayB_n q1 q2]; simp only [Option.bind_some]
        cases mayB g (tR g u) (tR g t) f false <;> rfl
  show F_236_0 (I3 u) (I3 t) (b2 f) h = _
  unfold F_236_0
  rw [mu]; simp only [Option.bind_some]
  rw [mt]; simp only [Option.bind_some]
  unfold asB
  by_cases q : tM g t = tM g u
  · rw [if_pos (by rw [q]), decide_eq_true q, Bool.true_and]
    have L := lp_all (body := F_236_18B) (fun k => mayB g (tP g t k) (tP g u k) f false) (tM g u) (fun k => (I3 u, I3 t, b2 f, I3 k, h)) (0, h) (b2 (mayB g (tR g u) (tR g t) f true), h) (f := 1000000) (by omega) (fun k hk e => ?_) (fun k hk e => ?_) ?_
    · refine Eq.trans (show F_236_18 (I3 u) (I3 t) (b2 f) 0 h = lp F_236_18B 1000000 (I3 u, I3 t, b2 f, I3 0, h) from rfl) (L.trans ?_)
      cases all1 (fun k => mayB g (tP g t k) (tP g u k) f false) (tM g u) <;> rfl
    · have pu := C_tplace wT cTh hu hk
      have pt := C_tplace wT cTh ht (k := k) (by omega)
      have ku := (wT.2.1 u hu).2.2 k hk
      have kt := (wT.2.1 t ht).2.2 k (by omega)
      rw [ku.1.1] at pu
      rw [kt.1.1] at pt
      have A := C_allows wK cKh (a := tP g t k) (b := tP g u k) kt.2 (by have := kt.1.2; show tn _ < _; omega) ku.2 (by have := ku.1.2; show tn _ < _; omega) f
      rw [e] at A
      show F_236_18B (I3 u, I3 t, b2 f, I3 k, h) = _
      unfold F_236_18B
      rw [mu]; simp only [Option.bind_some]
      rw [if_neg (by rw [I3_le (by omega) (by omega)]; omega), if_neg (by rw [I3_lit, I3_le (by decide) (by omega)]; omega), pt]; simp only [Option.bind_some]
      rw [pu]; simp only [Option.bind_some]
      rw [A]; simp only [Option.bind_some]
      rw [if_neg (by decide), I3_lit, I3_add]
    · have pu := C_tplace wT cTh hu hk
      have pt := C_tplace wT cTh ht (k := k) (by omega)
      have ku := (wT.2.1 u hu).2.2 k hk
      have kt := (wT.2.1 t ht).2.2 k (by omega)
      rw [ku.1.1] at pu
      rw [kt.1.1] at pt
      have A := C_allows wK cKh (a := tP g t k) (b := tP g u k) kt.2 (by have := kt.1.2; show tn _ < _; omega) ku.2 (by have := ku.1.2; show tn _ < _; omega) f
      rw [e] at A
      show F_236_18B (I3 u, I3 t, b2 f, I3 k, h) = _
      unfold F_236_18B
      rw [mu]; simp only [Option.bind_some]
      rw [if_neg (by rw [I3_le (by omega) (by omega)]; omega), if_neg (by rw [I3_lit, I3_le (by decide) (by omega)]; omega), pt]; simp only [Option.bind_some]
      rw [pu]; simp only [Option.bind_some]
      rw [A]; simp only [Option.bind_some]
      rw [if_pos (by decide)]
    · show F_236_18B (I3 u, I3 t, b2 f, I3 (tM g u), h) = _
      unfold F_236_18B
      rw [mu]; simp only [Option.bind_some]
      rw [if_pos (by rw [I3_le (by omega) (by omega)]; omega), zf]; rfl
  · rw [if_neg (by rw [I3_inj (by omega) (by omega)]; exact fun z => q z.symm), decide_eq_false q]; rfl
theorem R_mayAs {h g : sm_H} (K : K1 h g) {x t : Nat} (hx : x < nH g) (ht : t < nT g) (f : Bool) : F_326 (I3 x) (I3 t) (b2 f) g = some (b2 (asB g (ty g x) t f), g) := by
  have wK := K.1
  have wT := K.2.2.1
  have h12 := wK.2.1
  have w300 : nT g ≤ 300 := wT.1.2
  have hu := ty_lt K hx
  have u10 : tM g (ty g x) ≤ 10 := (wT.2.1 _ hu).2.1.2
  have t10 : tM g t ≤ 10 := (wT.2.1 t ht).2.1.2
  have mu := R_mn K hx
  have cu := (wT.2.1 _ hu).1
  have ct := (wT.2.1 t ht).1
  show F_326_0 (I3 x) (I3 t) (b2 f) g = _
  unfold F_326_0
  rw [ldI_I (by omega) (by omega), (wT.2.1 t ht).2.1.1]; simp only [Option.bind_some]
  rw [mu]; simp only [Option.bind_some]
  unfold asB
  by_cases q : tM g t = tM g (ty g x)
  · rw [if_pos (by show I3 (tM g t) = _; rw [q]), decide_eq_true q, Bool.true_and]
    have L := lp_all (body := F_326_19B) (fun k => mayB g (tP g t k) (tP g (ty g x) k) f false) (tM g (ty g x)) (fun k => (I3 x, I3 t, b2 f, I3 k, g)) (0, g) (b2 (mayB g (tR g (ty g x)) (tR g t) f true), g) (f := 1000000) (by omega) (fun k hk e => ?_) (fun k hk e => ?_) ?_
    · refine Eq.trans (show F_326_19 (I3 x) (I3 t) (b2 f) 0 g = lp F_326_19B 1000000 (I3 x, I3 t, b2 f, I3 0, g) from rfl) (L.trans ?_)
      cases all1 (fun k => mayB g (tP g t k) (tP g (ty g x) k) f false) (tM g (ty g x)) <;> rfl
    · have pu := R_place wT K.2.2.2.2.1 hx hk
      have ku := (wT.2.1 _ hu).2.2 k hk
      have kt := (wT.2.1 t ht).2.2 k (by omega)
      rw [ku.1.1] at pu
      have A := R_mayBe wK (a := tP g t k) (b := tP g (ty g x) k) (by have := kt.1.2; show tn _ < _; omega) (by have := ku.1.2; show tn _ < _; omega) f false
      rw [e] at A
      show F_326_19B (I3 x, I3 t, b2 f, I3 k, g) = _
      unfold F_326_19B
      rw [mu]; simp only [Option.bind_some]
      rw [if_neg (by rw [I3_le (by omega) (by omega)]; omega), I3_lit, I3_mul, I3_add, ldI_I (show 10 * t + k < 3000 by omega) (by omega), kt.1.1]; simp only [Option.bind_some]
      rw [pu]; simp only [Option.bind_some]
      rw [show F_297 (I3 (tP g t k)) (I3 (tP g (ty g x) k)) (b2 f) 0 g = some (b2 true, g) from A]; simp only [Option.bind_some]
      rw [if_neg (by decide), I3_lit, I3_add]
    · have pu := R_place wT K.2.2.2.2.1 hx hk
      have ku := (wT.2.1 _ hu).2.2 k hk
      have kt := (wT.2.1 t ht).2.2 k (by omega)
      rw [ku.1.1] at pu
      have A := R_mayBe wK (a := tP g t k) (b := tP g (ty g x) k) (by have := kt.1.2; show tn _ < _; omega) (by have := ku.1.2; show tn _ < _; omega) f false
      rw [e] at A
      show F_326_19B (I3 x, I3 t, b2 f, I3 k, g) = _
      unfold F_326_19B
      rw [mu]; simp only [Option.bind_some]
      rw [if_neg (by rw [I3_le (by omega) (by omega)]; omega), I3_lit, I3_mul, I3_add, ldI_I (show 10 * t + k < 3000 by omega) (by omega), kt.1.1]; simp only [Option.bind_some]
      rw [pu]; simp only [Option.bind_some]
      rw [show F_297 (I3 (tP g t k)) (I3 (tP g (ty g x) k)) (b2 f) 0 g = some (b2 false, g) from A]; simp only [Option.bind_some]
      rw [if_pos (by decide)]
    · have A := R_mayBe wK (a := tR g (ty g x)) (b := tR g t) (by have := cu.2; show tn _ < _; omega) (by have := ct.2; show tn _ < _; omega) f true
      show F_326_19B (I3 x, I3 t, b2 f, I3 (tM g (ty g x)), g) = _
      unfold F_326_19B
      rw [mu]; simp only [Option.bind_some]
      rw [if_pos (by rw [I3_le (by omega) (by omega)]; omega), R_rs K hx]; simp only [Option.bind_some]
      rw [ldI_I (by omega) (by omega), show hrs g x = I3 (tR g (ty g x)) from cu.1, ct.1]; simp only [Option.bind_some]
      rw [show F_297 (I3 (tR g (ty g x))) (I3 (tR g t)) (b2 f) 1 g = _ from A]; simp only [Option.bind_some]
      rw [if_pos (b2_ok _)]
  · rw [if_neg (by show ¬ I3 (tM g t) = _; rw [I3_inj (by omega) (by omega)]; exact q), decide_eq_false q]; rfl
theorem mk_12 {h g : sm_H} (K : K1 h g) (a b : Int32) (c : Int64) {o p : Nat} {ps : List Int32} (S : fS h (I3 12) 0 b 0 o p ps) (op : oP o p) (P : prR g ps) : ∃ out, OC h (I3 12) 0 b 0 out ∧ OR g (I3 12) a b c out ∧ OK g 12 0 b 0 out := by
  have e7 := S.f7
  have wT := K.2.2.1
  have w300 : nT g ≤ 300 := wT.1.2
  have w500 : nH g ≤ 500 := K.2.2.2.2.1.1.2
  refine gen1 K S P (by decide) (by decide) (by decide) rfl ((B336_12 _ _ _).trans rfl) rfl rfl (fun x x1 ep e12 ld c7 R => ?_)
  subst ep
  dsimp only at R
  have n9 := (B9_12 e7).trans (n9_272 K S.f9)
  have RT := R_isT wT b
  rw [if_neg (by decide)] at R
  rcases inR_c b (nT g) (by omega) with ⟨t, t1, rfl, i⟩ | i
  · rw [i] at n9 RT
    have t10 : (pl g t).length ≤ 10 := by rw [pl_len]; exact (wT.2.1 t t1).2.1.2
    have tx := ty_lt K x1
    have n11 : F_11 h = some (0, h) := B11_12 e7 (e12 ▸ C_mn K x1)
    have n14 : F_14 h = some (b2 (!asB g (ty g x) t false), h) := by
      rw [B14_12 e7]
      unfold F_14_363
      rw [e12, C_ty K x1]; simp only [Option.bind_some]
      rw [S.f7, if_neg (show ¬ (I3 12 : Int32) = 13 by decide), S.f9]
      unfold F_14_396
      rw [show F_236 (I3 (ty g x)) (I3 t) 0 h = some (b2 (asB g (ty g x) t false), h) from C_allowsAs K tx t1 false]; simp only [Option.bind_some, F_14_407, true_or, or_true, if_true]
      exact notb h _
    have n26 : F_26 h = some (if t = ty g x then I3 x else -1, h) := by
      rw [B26_12 e7]
      unfold F_26_121
      rw [e12, C_ty K x1, S.f9]; simp only [Option.bind_some]
      by_cases q : t = ty g x
      · rw [if_pos (by rw [q]), if_pos q, e12]; rfl
      · rw [if_neg (by rw [I3_inj (by omega) (by omega)]; exact q), if_neg q]; rfl
    rw [RT] at R; simp only [Option.bind_some] at R
    rw [if_neg (by decide), ld] at R; simp only [Option.bind_some] at R
    rw [show F_326 (I3 x) (I3 t) 0 g = some (b2 (asB g (ty g x) t false), g) from R_mayAs K x1 t1 false] at R; simp only [Option.bind_some] at R
    cases j : asB g (ty g x) t false with
    | false =>
      rw [j] at n14 R
      rw [if_pos (by decide)] at R
      exact ⟨.ref 3, tl_4 c7 n9 n11 n14 agr_rfl, ⟨g, R, agr_rfl⟩, ⟨by decide, by decide⟩⟩
    | true =>
      rw [j] at n14 R
      rw [if_neg (by decide), R_ty K x1] at R; simp only [Option.bind_some] at R
      by_cases q : t = ty g x
      · rw [if_pos q] at n26
        rw [if_pos (by rw [q])] at R
        exact ⟨.smp x, tl_5 (by omega) c7 n9 n11 n14 n26 agr_rfl, ⟨g, R, agr_rfl⟩, x1⟩
      · rw [if_neg q] at n26
        rw [if_neg (by rw [I3_inj (by omega) (by omega)]; exact fun z => q z.symm), ldI_I (by omega) (by omega)] at R; simp only [Option.bind_some] at R
        obtain ⟨u, d1, D0⟩ := D_begin K S op
        obtain ⟨u1, d2, D1⟩ := D_type D0 op t1 (by decide)
        obtain ⟨g0, y1, E0⟩ := E_clear K (rs g t)
        obtain ⟨g1, y2, E1⟩ := E_type E0 t1 (by decide)
        have n45' := C_mn D0.k x1
        rw [show I3 x = u.1 34 12 from (D0.s.f12.trans rfl).symm] at n45'
        refine ⟨.fin (rs g t) (pl g t) _ o p, tl_6 S.w c7 n9 n11 n14 n26 S.f7 S.f8 S.f9 S.f10 S.f11 ?_ D1.d D1.s.r op (Ssc_d D1.a), ⟨g1, ?_, E1.d, E1.r, prR_SRd P E1.a, agr_mono SRd_p E1.a⟩, ?_⟩
        · rw [B29_12 d1 D0.s.f7 n45']; unfold F_29_411
          rw [D0.s.f9, d2]; rfl
        · rw [R, y1]; simp only [Option.bind_some]; rw [y2]; rfl
        · exact ⟨(Or.inr (Or.inr (Or.inr (Or.inr (Or.inr (Or.inr (Or.inr (Or.inr (Or.inr (Or.inr (Or.inr (Or.inr (Or.inl ⟨Or.inl rfl, x, t, x1, rfl, t1, rfl, asB_x j, rfl, rfl⟩))))))))))))), kR1_rs wT t1, kL_pl wT t1, by omega⟩
  · rw [i] at n9 RT
    rw [RT] at R; simp only [Option.bind_some] at R
    rw [if_pos (by decide)] at R
    exact ⟨.ref 1, tl_2 c7 n9, ⟨g, R, agr_rfl⟩, ⟨by decide, by decide⟩⟩
theorem mk_13 {h g : sm_H} (K : K1 h g) (a b : Int32) (c : Int64) {o p : Nat} {ps : List Int32} (S : fS h (I3 13) 0 b 0 o p ps) (op : oP o p) (P : prR g ps) : ∃ out, OC h (I3 13) 0 b 0 out ∧ OR g (I3 13) a b c out ∧ OK g 13 0 b 0 out := by
  have e7 := S.f7
  have wT := K.2.2.1
  have w300 : nT g ≤ 300 := wT.1.2
  have w500 : nH g ≤ 500 := K.2.2.2.2.1.1.2
  refine gen1 K S P (by decide) (by decide) (by decide) rfl ((B336_13 _ _ _).trans rfl) rfl rfl (fun x x1 ep e12 ld c7 R => ?_)
  subst ep
  dsimp only at R
  have n9 := (B9_13 e7).trans (n9_272 K S.f9)
  have RT := R_isT wT b
  rw [if_neg (by decide)] at R
  rcases inR_c b (nT g) (by omega) with ⟨t, t1, rfl, i⟩ | i
  · rw [i] at n9 RT
    have t10 : (pl g t).length ≤ 10 := by rw [pl_len]; exact (wT.2.1 t t1).2.1.2
    have tx := ty_lt K x1
    have n11 : F_11 h = some (0, h) := B11_13 e7 (e12 ▸ C_mn K x1)
    have n14 : F_14 h = some (b2 (!asB g (ty g x) t true), h) := by
      rw [B14_13 e7]
      unfold F_14_363
      rw [e12, C_ty K x1]; simp only [Option.bind_some]
      rw [S.f7, if_pos (show (I3 13 : Int32) = 13 by decide), S.f9]
      unfold F_14_396
      rw [show F_236 (I3 (ty g x)) (I3 t) 1 h = some (b2 (asB g (ty g x) t true), h) from C_allowsAs K tx t1 true]; simp only [Option.bind_some, F_14_407, true_or, or_true, if_true]
      exact notb h _
    have n26 : F_26 h = some (if t = ty g x then I3 x else -1, h) := by
      rw [B26_13 e7]
      unfold F_26_121
      rw [e12, C_ty K x1, S.f9]; simp only [Option.bind_some]
      by_cases q : t = ty g x
      · rw [if_pos (by rw [q]), if_pos q, e12]; rfl
      · rw [if_neg (by rw [I3_inj (by omega) (by omega)]; exact q), if_neg q]; rfl
    rw [RT] at R; simp only [Option.bind_some] at R
    rw [if_neg (by decide), ld] at R; simp only [Option.bind_some] at R
    rw [show F_326 (I3 x) (I3 t) 1 g = some (b2 (asB g (ty g x) t true), g) from R_mayAs K x1 t1 true] at R; simp only [Option.bind_some] at R
    cases j : asB g (ty g x) t true with
    | false =>
      rw [j] at n14 R
      rw [if_pos (by decide)] at R
      exact ⟨.ref 3, tl_4 c7 n9 n11 n14 agr_rfl, ⟨g, R, agr_rfl⟩, ⟨by decide, by decide⟩⟩
    | true =>
      rw [j] at n14 R
      rw [if_neg (by decide), R_ty K x1] at R; simp only [Option.bind_some] at R
      by_cases q : t = ty g x
      · rw [if_pos q] at n26
        rw [if_pos (by rw [q])] at R
        exact ⟨.smp x, tl_5 (by omega) c7 n9 n11 n14 n26 agr_rfl, ⟨g, R, agr_rfl⟩, x1⟩
      · rw [if_neg q] at n26
        rw [if_neg (by rw [I3_inj (by omega) (by omega)]; exact fun z => q z.symm), ldI_I (by omega) (by omega)] at R; simp only [Option.bind_some] at R
        obtain ⟨u, d1, D0⟩ := D_begin K S op
        obtain ⟨u1, d2, D1⟩ := D_type D0 op t1 (by decide)
        obtain ⟨g0, y1, E0⟩ := E_clear K (rs g t)
        obtain ⟨g1, y2, E1⟩ := E_type E0 t1 (by decide)
        have n45' := C_mn D0.k x1
        rw [show I3 x = u.1 34 12 from (D0.s.f12.trans rfl).symm] at n45'
        refine ⟨.fin (rs g t) (pl g t) _ o p, tl_6 S.w c7 n9 n11 n14 n26 S.f7 S.f8 S.f9 S.f10 S.f11 ?_ D1.d D1.s.r op (Ssc_d D1.a), ⟨g1, ?_, E1.d, E1.r, prR_SRd P E1.a, agr_mono SRd_p E1.a⟩, ?_⟩
        · rw [B29_13 d1 D0.s.f7 n45']; unfold F_29_411
          rw [D0.s.f9, d2]; rfl
        · rw [R, y1]; simp only [Option.bind_some]; rw [y2]; rfl
        · exact ⟨(Or.inr (Or.inr (Or.inr (Or.inr (Or.inr (Or.inr (Or.inr (Or.inr (Or.inr (Or.inr (Or.inr (Or.inr (Or.inl ⟨Or.inr rfl, x, t, x1, rfl, t1, rfl, asB_x j, rfl, rfl⟩))))))))))))), kR1_rs wT t1, kL_pl wT t1, by omega⟩
  · rw [i] at n9 RT
    rw [RT] at R; simp only [Option.bind_some] at R
    rw [if_pos (by decide)] at R
    exact ⟨.ref 1, tl_2 c7 n9, ⟨g, R, agr_rfl⟩, ⟨by decide, by decide⟩⟩
theorem mk_29 {h g : sm_H} (K : K1 h g) (a b : Int32) (c : Int64) {o p : Nat} {ps : List Int32} (S : fS h (I3 29) a 0 0 o p ps) (op : oP o p) (P : prR g ps) : ∃ out, OC h (I3 29) a 0 0 out ∧ OR g (I3 29) a b c out ∧ OK g 29 a 0 0 out := by
  have wK := K.1
  have h12 := wK.2.1
  have e7 := S.f7
  have cGq := K.2.2.2.2.2.2.2.2.1
  have w80 : nG g ≤ 80 := cGq.2.1.2
  have w500 : nH g ≤ 500 := K.2.2.2.2.1.1.2
  have e35 : g.1 67 35 = I3 (nG g) := cGq.2.1.1
  have C1 := C_hasTg (h := h) (n := nG g) (cGq.1.trans e35) (by omega) a
  have RO : F_315 (Int32.toInt64 a) 0 (Int32.toInt64 (g.1 67 35 - 1)) g = some (b2 (!inR a (nG g)), g) := by rw [e35]; exact R_outI (n := nG g) (by omega) a
  have tg : ∀ n, n < nG g → ∃ y, y < nH g ∧ g.1 92 n = I3 y ∧ tn (g.1 92 n) = y := fun n hn => by
    obtain ⟨y, y1, y2⟩ := cGq.2.2.2 n hn
    exact ⟨y, y1, y2, by rw [y2]; exact I3_clamp (by omega)⟩
  refine genA (r := hrs g (tn (g.1 92 (tn a)))) (l := hpl g (tn (g.1 92 (tn a)))) K S op P (by decide) (by decide) (by decide) rfl (inR a (nG g)) (fun _ => ?_) (fun z => ?_) (B14_29 e7) (B26_29 e7) (fun z kv => ?_) (fun z => ?_) (fun z kv => ?_) (fun z kv => ?_) (fun kv => ?_)
  · rw [B9_29 e7, S.f8, C1]; simp only [Option.bind_some, F_9_413, true_or, or_true, if_true]
    exact notb h _
  · subst z; rw [B11_29 e7 (n11d K S)]; rfl
  · subst z
    have kv' := kv
    obtain ⟨n, n1, rfl⟩ := inR_x (by omega) kv
    rw [show tn (I3 n) = n from I3_clamp (by omega)]
    obtain ⟨y, y1, y2, y3⟩ := tg n n1
    rw [y3]
    obtain ⟨u, d1, D0⟩ := D_begin K S op
    obtain ⟨u1, d2, D1⟩ := D_type D0 op (ty_lt K y1) (by decide)
    refine ⟨u1, ?_, D1.d, D1.a⟩
    have cu := D0.k.2.2.2.2.2.2.2.2.1
    have C2 := C_hasTg (h := u) (n := nG g) (cu.1.trans e35) (by omega) (I3 n)
    have C3 : F_157 (I3 n) u = some (I3 y, u) := by
      show F_157_0 (I3 n) u = _
      unfold F_157_0
      rw [C2, kv']; simp only [Option.bind_some]
      rw [if_neg (by decide), ldI_I (by omega) (by omega), cu.2.2.1 n (by omega), y2]; rfl
    rw [B29_29 d1 D0.s.f7 (n11d D0.k D0.s), D0.s.f8, C3]; simp only [Option.bind_some]; rw [C_ty D0.k y1]; simp only [Option.bind_some]; rw [d2]; rfl
  · rw [B336_29]; unfold F_336_257; rw [s335 _ _ _ z, B335_29]; rfl
  · refine ⟨g, ?_, agr_rfl⟩
    rw [B336_29, F_336_257, s335' _ _ _ z, B335_29, if_neg (by decide), RO, kv]; rfl
  · have kv' := kv
    obtain ⟨n, n1, rfl⟩ := inR_x (by omega) kv
    rw [show tn (I3 n) = n from I3_clamp (by omega)]
    obtain ⟨y, y1, y2, y3⟩ := tg n n1
    rw [y3]
    obtain ⟨g0, f1, E0⟩ := E_clear K (hrs g y)
    obtain ⟨g1, f2, E1⟩ := E_all E0 y1 (by decide)
    have l0 : ldI g 92 80 (I3 n) = some (I3 y) := by rw [ldI_I (by omega) (by omega), y2]
    have l1 : ldI g0 92 80 (I3 n) = some (I3 y) := by rw [ldI_I (by omega) (by omega), E0.a.1 92 n (by unfold SRd; omega), y2]
    refine ⟨g1, ?_, E1.d, E1.a, E1.r⟩
    rw [B336_29, F_336_257, s335' _ _ _ z, B335_29, if_neg (by decide), RO, kv']; simp only [Option.bind_some]; rw [if_pos (by decide), l0]; simp only [Option.bind_some]; rw [R_rs K y1]; simp only [Option.bind_some]; rw [f1]; simp only [Option.bind_some]; rw [l1]; simp only [Option.bind_some]; rw [E_many E0 y1]; simp only [Option.bind_some]; rw [f2]; rfl
  · obtain ⟨n, n1, rfl⟩ := inR_x (by omega) kv
    rw [show tn (I3 n) = n from I3_clamp (by omega)]
    obtain ⟨y, y1, y2, y3⟩ := tg n n1
    have m10 := mn_10 K y1
    refine ⟨(Or.inr (Or.inr (Or.inr (Or.inr (Or.inr (Or.inr (Or.inr (Or.inr (Or.inr (Or.inr (Or.inr (Or.inr (Or.inr (Or.inr (Or.inr (Or.inr (Or.inr (Or.inr (Or.inr (Or.inr (Or.inr (Or.inl ⟨rfl, rfl, n, n1, rfl, rfl, rfl⟩)))))))))))))))))))))), ?_, ?_, ?_⟩
    · rw [y3]; exact kR_h K y1
    · rw [y3]; exact kL_h K y1
    · rw [y3]; omega
theorem mk_30 {h g : sm_H} (K : K1 h g) (a b : Int32) (c : Int64) {o p : Nat} {ps : List Int32} (S : fS h (I3 30) a 0 0 o p ps) (op : oP o p) (P : prR g ps) : ∃ out, OC h (I3 30) a 0 0 out ∧ OR g (I3 30) a b c out ∧ OK g 30 a 0 0 out := by
  have e7 := S.f7
  have h12 := K.1.2.1
  have cOq := K.2.2.2.2.2.2.2.2.2.1
  have w20 : nO g ≤ 20 := cOq.2.1.2
  have w300 : nT g ≤ 300 := K.2.2.1.1.2
  have e37 : g.1 67 37 = I3 (nO g) := cOq.2.1.1
  have C1 := C_hasPt (h := h) (n := nO g) (cOq.1.trans e37) (by omega) a
  have RO : F_315 (Int32.toInt64 a) 0 (Int32.toInt64 (g.1 67 37 - 1)) g = some (b2 (!inR a (nO g)), g) := by rw [e37]; exact R_outI (n := nO g) (by omega) a
  have hF : ∀ X, F_335_12 (I3 30) a b 0 g = X → F_335_12 (I3 30) a b 1 g = X → F_336 (I3 30) a b c g = X.bind fun q => some (q.1, q.2) := fun X x0 x1 => by
    rw [B336_30]; unfold F_336_257
    by_cases z : g.1 67 3 = 0
    · rw [s335' _ _ _ z, x1]
    · rw [s335 _ _ _ z, x0]
  refine gen2 K S P (by decide) (by decide) (by decide) rfl (hF _ (B335_30 _ _ _) (B335_30 _ _ _)) rfl rfl (fun x y x1 y1 ep e12 e13 ld ld' c7 R => ?_)
  subst ep
  dsimp only at R
  have n9 := B9_30 e7
  rw [S.f8, C1] at n9; simp only [Option.bind_some, F_9_433, true_or, or_true, if_true] at n9
  rw [notb] at n9
  rw [if_neg (by decide), RO] at R; simp only [Option.bind_some] at R
  have n11 : F_11 h = some (0, h) := B11_30 e7 (e12 ▸ C_mn K x1)
  have tx := ty_lt K x1
  have tyy := ty_lt K y1
  have m10 := mn_10 K x1
  cases j : inR a (nO g) with
  | false =>
    rw [j] at n9 R
    rw [if_neg (by decide)] at R
    exact ⟨.ref 1, tl_2 c7 n9, ⟨g, R, agr_rfl⟩, ⟨by decide, by decide⟩⟩
  | true =>
    rw [j] at n9 R
    rw [if_pos (by decide), ld] at R; simp only [Option.bind_some] at R
    rw [R_ty K x1, ld'] at R; simp only [Option.bind_some] at R
    rw [R_ty K y1] at R; simp only [Option.bind_some] at R
    have n14 := B14_30 e7
    rw [e12, C_ty K x1] at n14; simp only [Option.bind_some] at n14
    rw [e13, C_ty K y1] at n14; simp only [Option.bind_some] at n14
    by_cases q : ty g x = ty g y
    · rw [if_pos (by rw [q])] at n14 R
      obtain ⟨u, d1, D0⟩ := D_begin K S op
      obtain ⟨u1, d2, D1⟩ := D_type D0 op tx (by decide)
      obtain ⟨g0, f1, E0⟩ := E_clear K (hrs g x)
      obtain ⟨g1, f2, E1⟩ := E_all E0 x1 (by decide)
      have n45' := C_mn D0.k x1
      have e12' : u.1 34 12 = I3 x := D0.s.f12
      rw [← e12'] at n45'
      have l0 : ldI g0 69 24 0 = some (I3 x) := by
        have := prR_ld (prR_SRd P E0.a) (k := 0) (Nat.le_of_ble_eq_true rfl); exact this
      refine ⟨.fin (hrs g x) (hpl g x) _ o p, tl_6 S.w c7 n9 n11 n14 (B26_30 e7) S.f7 S.f8 S.f9 S.f10 S.f11 ?_ D1.d D1.s.r op (Ssc_d D1.a), ⟨g1, ?_, E1.d, E1.r, prR_SRd P E1.a, agr_mono SRd_p E1.a⟩, ?_⟩
      · rw [B29_30 d1 D0.s.f7 n45']; unfold F_29_395
        rw [e12', C_ty D0.k x1]; simp only [Option.bind_some]; rw [d2]; rfl
      · rw [R, R_rs K x1]; simp only [Option.bind_some]; rw [f1]; simp only [Option.bind_some]; rw [l0]; simp only [Option.bind_some]; rw [E_many E0 x1]; simp only [Option.bind_some]; rw [f2]; rfl
      · obtain ⟨n, n1, rfl⟩ := inR_x (by omega) j
        exact ⟨(Or.inr (Or.inr (Or.inr (Or.inr (Or.inr (Or.inr (Or.inr (Or.inr (Or.inr (Or.inr (Or.inr (Or.inr (Or.inr (Or.inr (Or.inr (Or.inr (Or.inr (Or.inr (Or.inr (Or.inr (Or.inr (Or.inr (Or.inl ⟨rfl, x, y, n, x1, y1, rfl, q, n1, rfl, rfl, rfl⟩))))))))))))))))))))))), kR_h K x1, kL_h K x1, by omega⟩
    · have q' : ¬ I3 (ty g x) = I3 (ty g y) := by rw [I3_inj (by omega) (by omega)]; exact q
      rw [if_neg q'] at n14 R
      exact ⟨.ref 3, tl_4 c7 n9 n11 n14 agr_rfl, ⟨g, R, agr_rfl⟩, ⟨by decide, by decide⟩⟩
