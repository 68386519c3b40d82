theorem R_out' {h : sm_H} {m : Nat} (hm : m < 2147483647) (x : Int32) : F_315 x.toInt64 0 (I3 m).toInt64 h = some (b2 (!inR x (m + 1)), h) := by
  have := R_outI (h := h) (n := m + 1) (by omega) x
  rw [I3_sub (by omega)] at this; exact this
theorem rngle {α : Type} {x : Int32} {m : Nat} {A C : α} (hm : m < 2147483647) : (if x < 0 then A else if x ≤ I3 m then C else A) = bif inR x (m + 1) then C else A := by
  rcases I3_cases x with ⟨k, hk, rfl⟩ | hx
  · rw [if_neg (I3_nn hk), inR_I hk]
    by_cases c : k < m + 1
    · rw [if_pos (by rw [I3_le hk (by omega)]; omega), decide_eq_true c]; rfl
    · rw [if_neg (by rw [I3_le hk (by omega)]; omega), decide_eq_false c]; rfl
  · rw [if_pos hx]
    rcases inR_c x (m + 1) (by omega) with ⟨k, h1, h2, h3⟩ | h3
    · exact absurd h2 (neg_ne_I3 hx (by omega))
    · rw [h3]; rfl
theorem D_insideT {h u g : sm_H} {f b : Int32} {c : Int64} {o p x n t m : Nat} {ps : List Int32} (d : D h u g f (I3 n) b c o p ps []) (op : oP o p) (hx : x < nH g) (e0 : at1 ps 0 = I3 x) (hn : n ≤ (hpl g x).length) (ht : t < nT g) (hm : m ≤ (hpl g x).length) : ∃ u1, F_30 (I3 t) (I3 m) u = some (hrs g x, u1) ∧ D h u1 g f (I3 n) b c o p ps ((hpl g x).take n ++ (pl g t ++ (hpl g x).drop m)) := by
  have m10 := mn_10 d.k hx
  have t10 : tM g t ≤ 10 := (d.k.2.2.1.2.1 t ht).2.1.2
  have hl := hpl_len g x
  obtain ⟨u1, v1, D1⟩ := D_places d op (t := ty g x) (i := 0) (j := n) (ty_lt d.k hx) (by omega) (by omega) (by decide)
  rw [List.nil_append, Nat.sub_zero] at D1
  obtain ⟨u2, v2, D2⟩ := D_places D1 op (t := t) (i := 0) (j := tM g t) ht (Nat.le_refl _) (by omega) (by rw [seg_len]; omega)
  rw [Nat.sub_zero, ← pl_len, seg_all] at D2
  obtain ⟨u3, v3, D3⟩ := D_places D2 op (t := ty g x) (i := m) (j := tM g (ty g x)) (ty_lt d.k hx) (Nat.le_refl _) (by omega) (by rw [List.length_append, seg_len, pl_len]; omega)
  rw [seg_take hn, seg_drop (L := pl g (ty g x)) (by have := pl_len g (ty g x); omega), List.append_assoc] at D3
  refine ⟨u3, ?_, D3⟩
  show F_30_0 (I3 t) (I3 m) u = _
  unfold F_30_0
  have v1' : F_230 (I3 (ty g x)) 0 (I3 n) u = some u1 := v1
  have v2' : F_230 (I3 t) 0 (I3 (tM g t)) u1 = some u2 := v2
  have c1 := C_tmany d.k.2.2.1 D1.k.2.2.2.1 ht
  rw [(d.k.2.2.1.2.1 t ht).2.1.1] at c1
  rw [d.s.f12, e0, C_ty d.k hx]; simp only [Option.bind_some]; rw [d.s.f8, v1']; simp only [Option.bind_some]; rw [c1]; simp only [Option.bind_some]; rw [v2']; simp only [Option.bind_some]; rw [D2.s.f12, e0, C_ty D2.k hx]; simp only [Option.bind_some]; rw [D2.s.f12, e0, C_mn D2.k hx]; simp only [Option.bind_some]; rw [v3]; simp only [Option.bind_some]; rw [D3.s.f12, e0, C_rs D3.k hx]; rfl
theorem D_insideN {h u g : sm_H} {f b : Int32} {c : Int64} {o p x n m : Nat} {ps : List Int32} (d : D h u g f (I3 n) b c o p ps []) (op : oP o p) (hx : x < nH g) (e0 : at1 ps 0 = I3 x) (hn : n ≤ (hpl g x).length) (hm : m ≤ (hpl g x).length) : ∃ u1, F_30 (-1) (I3 m) u = some (hrs g x, u1) ∧ D h u1 g f (I3 n) b c o p ps ((hpl g x).take n ++ (hpl g x).drop m) := by
  have m10 := mn_10 d.k hx
  have hl := hpl_len g x
  obtain ⟨u1, v1, D1⟩ := D_places d op (t := ty g x) (i := 0) (j := n) (ty_lt d.k hx) (by omega) (by omega) (by decide)
  rw [List.nil_append, Nat.sub_zero] at D1
  obtain ⟨u3, v3, D3⟩ := D_places D1 op (t := ty g x) (i := m) (j := tM g (ty g x)) (ty_lt d.k hx) (Nat.le_refl _) (by omega) (by rw [seg_len]; omega)
  rw [seg_take hn, seg_drop (L := pl g (ty g x)) (by have := pl_len g (ty g x); omega)] at D3
  refine ⟨u3, ?_, D3⟩
  show F_30_0 (-1) (I3 m) u = _
  unfold F_30_0
  have v1' : F_230 (I3 (ty g x)) 0 (I3 n) u = some u1 := v1
  have v2' : F_230 (-1) 0 0 u1 = some u1 := rfl
  have c1 := C_tmany_o d.k.2.2.1 D1.k.2.2.2.1 (inR_m1 (nT g))
  rw [d.s.f12, e0, C_ty d.k hx]; simp only [Option.bind_some]; rw [d.s.f8, v1']; simp only [Option.bind_some]; rw [c1]; simp only [Option.bind_some]; rw [v2']; simp only [Option.bind_some]; rw [D1.s.f12, e0, C_ty D1.k hx]; simp only [Option.bind_some]; rw [D1.s.f12, e0, C_mn D1.k hx]; simp only [Option.bind_some]; rw [v3]; simp only [Option.bind_some]; rw [D3.s.f12, e0, C_rs D3.k hx]; rfl
theorem mk_1 {h g : sm_H} (K : K1 h g) (a b : Int32) (c : Int64) {o p : Nat} {ps : List Int32} (S : fS h (I3 1) 0 0 0 o p ps) (op : oP o p) (P : prR g ps) : ∃ out, OC h (I3 1) 0 0 0 out ∧ OR g (I3 1) a b c out ∧ OK g 1 0 0 0 out := by
  have e7 := S.f7
  have h12 := K.1.2.1
  have hF : ∀ X, F_335_12 (I3 1) a b 0 g = X → F_335_12 (I3 1) a b 1 g = X → F_336 (I3 1) a b c g = X.bind fun q => some (q.1, q.2) := fun X x0 x1 => by
    rw [B336_1]; unfold F_336_257
    by_cases z : g.1 67 3 = 0
    · rw [s335' _ _ _ z, x1]
    · rw [s335 _ _ _ z, x0]
  refine gen1 K S P (by decide) (by decide) (by decide) rfl (hF _ (B335_1 _ _ _) (B335_1 _ _ _)) rfl rfl (fun x x1 ep e12 ld c7 R => ?_)
  subst ep
  dsimp only at R
  obtain ⟨u, d1, D0⟩ := D_begin K S op
  obtain ⟨g0, y1, E0⟩ := E_clear K 18
  have n45 := C_mn K x1
  have n45' := C_mn D0.k x1
  rw [← e12] at n45
  rw [show I3 x = u.1 34 12 from (D0.s.f12.trans rfl).symm] at n45'
  refine ⟨.fin 18 [] _ o p, tl_6 S.w c7 (B9_1 e7) (B11_1 e7 n45) (B14_1 e7) (B26_1 e7) S.f7 S.f8 S.f9 S.f10 S.f11 ?_ D0.d D0.s.r op (Ssc_d D0.a), ⟨g0, ?_, E0.d, E0.r, ?_, agr_mono SRd_p E0.a⟩, ?_⟩
  · rw [B29_1 d1 D0.s.f7 n45']; unfold F_29_461; rw [B32_1 D0.s.f7]; rfl
  · rw [R, if_neg (by decide), y1]; rfl
  · exact prR_SRd P E0.a
  · exact ⟨(Or.inr (Or.inl ⟨rfl, ⟨x, x1, rfl⟩, rfl, rfl⟩)), ⟨18, rfl, by omega⟩, kL_0, by decide⟩
theorem mk_4 {h g : sm_H} (K : K1 h g) (a b : Int32) (c : Int64) {o p : Nat} {ps : List Int32} (S : fS h (I3 4) a b 0 o p ps) (op : oP o p) (P : prR g ps) : ∃ out, OC h (I3 4) a b 0 out ∧ OR g (I3 4) a b c out ∧ OK g 4 a b 0 out := by
  have e7 := S.f7
  have wT := K.2.2.1
  have w300 : nT g ≤ 300 := wT.1.2
  have w500 : nH g ≤ 500 := K.2.2.2.2.1.1.2
  refine gen1 K S P (by decide) (by decide) (by decide) rfl ((B336_4 _ _ _).trans rfl) rfl rfl (fun x x1 ep e12 ld c7 R => ?_)
  subst ep
  dsimp only at R
  have m10 := mn_10 K x1
  have hl := hpl_len g x
  have n9 := (B9_4 e7).trans (n9_272 K S.f9)
  have RT := R_isT wT b
  rw [if_neg (by decide)] at R
  rcases inR_c b (nT g) (by omega) with ⟨t, t1, rfl, i⟩ | i
  · rw [i] at n9 RT
    rw [RT] at R; simp only [Option.bind_some] at R
    rw [if_neg (by decide), ld] at R; simp only [Option.bind_some] at R
    rw [R_mn K x1] at R; simp only [Option.bind_some] at R
    rw [R_out' (by omega)] at R; simp only [Option.bind_some] at R
    have n45 := C_mn K x1
    have n11 := B11_4 e7 (e12 ▸ n45)
    rw [S.f8, rngle (by omega)] at n11
    have m10t : tM g t ≤ 10 := (wT.2.1 t t1).2.1.2
    have t10 : (pl g t).length ≤ 10 := by rw [pl_len]; exact m10t
    have n26 := B26_4 e7
    have c1 := C_tmany wT K.2.2.2.1 t1
    rw [(wT.2.1 t t1).2.1.1] at c1
    rw [S.f9, c1] at n26; simp only [Option.bind_some] at n26
    rcases inR_c a (tM g (ty g x) + 1) (by omega) with ⟨n, n1, rfl, j⟩ | j
    · rw [j] at n11 R
      rw [if_pos (by decide), ldI_I (by omega) (by omega), (wT.2.1 t t1).2.1.1] at R; simp only [Option.bind_some] at R
      by_cases q : tM g t = 0
      · rw [if_pos (show I3 (tM g t) = (0 : Int32) from congrArg I3 q), e12] at n26
        rw [if_pos (show I3 (tM g t) = (0 : Int32) from congrArg I3 q)] at R
        exact ⟨.smp x, tl_5 (by omega) c7 n9 n11 (B14_4 e7) n26 agr_rfl, ⟨g, R, agr_rfl⟩, x1⟩
      · have q' : ¬ I3 (tM g t) = 0 := by rw [I3_lit, I3_inj (by omega) (by decide)]; exact q
        rw [if_neg q'] at n26 R
        obtain ⟨u, d1, D0⟩ := D_begin K S op
        obtain ⟨u1, d2, D1⟩ := D_insideT D0 op x1 rfl (n := n) (t := t) (m := n) (by omega) t1 (by omega)
        obtain ⟨g0, y1, E0⟩ := E_clear K (hrs g x)
        obtain ⟨g1, y2, E1⟩ := E_places E0 (i := 0) (j := n) x1 (by omega) (by decide) (by omega)
        rw [List.nil_append, Nat.sub_zero, seg_take (by omega)] at E1
        obtain ⟨g2, y3, E2⟩ := E_type E1 t1 (by rw [List.length_take]; omega)
        obtain ⟨g3, y4, E3⟩ := E_places E2 (i := n) (j := tM g (ty g x)) x1 (Nat.le_refl _) (by rw [List.length_append, List.length_take]; omega) (by omega)
        rw [seg_drop (L := hpl g x) (by omega), List.append_assoc] at E3
        have y2' : F_310 (I3 x) 0 (I3 n) g0 = some g1 := y2
        have n45' := C_mn D0.k x1
        rw [show I3 x = u.1 34 12 from (D0.s.f12.trans rfl).symm] at n45'
        refine ⟨.fin (hrs g x) ((hpl g x).take n ++ (pl g t ++ (hpl g x).drop n)) _ o p, tl_6 S.w c7 n9 n11 (B14_4 e7) n26 S.f7 S.f8 S.f9 S.f10 S.f11 ?_ D1.d D1.s.r op (Ssc_d D1.a), ⟨g3, ?_, E3.d, E3.r, prR_SRd P E3.a, agr_mono SRd_p E3.a⟩, ?_⟩
        · rw [B29_4 d1 D0.s.f7 n45', D0.s.f9, D0.s.f8, d2]; rfl
        · rw [R, R_rs K x1]; simp only [Option.bind_some]; rw [y1]; simp only [Option.bind_some]; rw [y2']; simp only [Option.bind_some]; rw [y3]; simp only [Option.bind_some]; rw [E_many E2 x1]; simp only [Option.bind_some]; rw [y4]; rfl
        · exact ⟨(Or.inr (Or.inr (Or.inr (Or.inr (Or.inl ⟨rfl, x, n, t, x1, rfl, by omega, rfl, t1, rfl, rfl, rfl⟩))))), kR_h K x1, kL_app (kL_take (kL_h K x1)) (kL_app (kL_pl wT t1) (kL_drop (kL_h K x1))), by rw [List.length_append, List.length_append, List.length_take, List.length_drop]; omega⟩
    · rw [j] at n11 R
      rw [if_neg (by decide)] at R
      exact ⟨.ref 2, tl_3 c7 n9 n11, ⟨g, R, agr_rfl⟩, ⟨by decide, by decide⟩⟩
  · rw [i] at n9 RT
    rw [RT] at R; simp only [Option.bind_some] at R
    rw [if_pos (by decide)] at R
    exact ⟨.ref 1, tl_2 c7 n9, ⟨g, R, agr_rfl⟩, ⟨by decide, by decide⟩⟩
def asB (g : sm_H) (u t : Nat) (f : Bool) : Bool := decide (tM g t = tM g u) && (all1 (fun k => mayB g (tP g t k) (tP g u k) f false) (tM g u) && mayB g (tR g u) (tR g t) f true)
theorem asB_x {g : sm_H} {u t : Nat} {f : Bool} (h : asB g u t f = true) : mayAs g u t f := by
  unfold asB at h
  rw [Bool.and_eq_true, Bool.and_eq_true] at h
  exact ⟨of_decide_eq_true h.1, fun k hk => all1_iff.mp h.2.1 k hk, h.2.2⟩
theorem mayB_0 {g : sm_H} {a b : Nat} {f : Bool} (h : a = 0 ∨ b = 0) : mayB g a b f true = true := by
  unfold mayB
  by_cases q : a = b
  · rw [if_pos q]
  · rw [if_neg q]
    by_cases q0 : a = 0
    · rw [if_pos q0]
    · rw [if_neg q0, if_pos (by omega)]
theorem mayB_n {g : sm_H} {a b : Nat} {f : Bool} (h1 : a ≠ 0) (h2 : b ≠ 0) : mayB g a b f true = mayB g a b f false := by
  unfold mayB
  rw [if_neg h1, if_neg h2, if_neg h1, if_neg h2]
theorem C_allowsAs {h g : sm_H} (K : K1 h g) {u t : Nat} (hu : u < nT g) (ht : t < nT g) (f : Bool) : F_236 (I3 u) (I3 t) (b2 f) h = some (b2 (asB g u t f), h) := by
  have wK := K.1
  have cKh := K.2.1
  have wT := K.2.2.1
  have cTh := K.2.2.2.1
  have h12 := wK.2.1
  have u10 : tM g u ≤ 10 := (wT.2.1 u hu).2.1.2
  have t10 : tM g t ≤ 10 := (wT.2.1 t ht).2.1.2
  have mu : F_226 (I3 u) h = some (I3 (tM g u), h) := by have := C_tmany wT cTh hu; rw [(wT.2.1 u hu).2.1.1] at this; exact this
  have mt : F_226 (I3 t) h = some (I3 (tM g t), h) := by have := C_tmany wT cTh ht; rw [(wT.2.1 t ht).2.1.1] at this; exact this
  have ru := C_tres wT cTh hu
  have rt := C_tres wT cTh ht
  have cu := (wT.2.1 u hu).1
  have ct := (wT.2.1 t ht).1
  have zf : F_236_68 (I3 u) (I3 t) (b2 f) h = some (b2 (mayB g (tR g u) (tR g t) f true), h) := by
    unfold F_236_68 F_236_107 F_236_112
    rw [ru]; simp only [Option.bind_some, true_or, or_true, if_true]
    rw [rt]; simp only [Option.bind_some, true_or, or_true, if_true]
    rw [cu.1, ct.1]
    have cu2 : tR g u ≤ 19 + nC g := cu.2
    have ct2 : tR g t ≤ 19 + nC g := ct.2
    by_cases q1 : tR g u = 0
    · rw [if_pos (show I3 (tR g u) = (0 : Int32) from congrArg I3 q1), mayB_0 (Or.inl q1)]; rfl
    · rw [if_neg (show ¬ I3 (tR g u) = (0 : Int32) by rw [I3_lit, I3_inj (by omega) (by decide)]; exact q1)]
      by_cases q2 : tR g t = 0
      · rw [if_pos (show I3 (tR g t) = (0 : Int32) from congrArg I3 q2), mayB_0 (Or.inr q2)]; rfl
      · rw [if_neg (show ¬ I3 (tR g t) = (0 : Int32) by rw [I3_lit, I3_inj (by omega) (by decide)]; exact q2)]
        rw [C_allows wK cKh (a := tR g u) (b := tR g t) (by omega) (by omega) (by omega) (by omega) f, mayB_n q1 q2]; simp only [Option.bind_some]
        cases mayB g (tR g u) (tR g t) f false <;> rfl
  show F_236_0 (I3 u) (I3 t) (b2 f) h = _
  unfold F_236_0
  rw [mu]; simp only [Option.bind_some]
  rw [mt]; simp only [Option.bind_some]
  unfold asB
  by_cases q : tM g t = tM g u
  · rw [if_pos (by rw [q]), decide_eq_true q, Bool.true_and]
    have L := lp_all (body := F_236_18B) (fun k => mayB g (tP g t k) (tP g u k) f false) (tM g u) (fun k => (I3 u, I3 t, b2 f, I3 k, h)) (0, h) (b2 (mayB g (tR g u) (tR g t) f true), h) (f := 1000000) (by omega) (fun k hk e => ?_) (fun k hk e => ?_) ?_
    · refine Eq.trans (show F_236_18 (I3 u) (I3 t) (b2 f) 0 h = lp F_236_18B 1000000 (I3 u, I3 t, b2 f, I3 0, h) from rfl) (L.trans ?_)
      cases all1 (fun k => mayB g (tP g t k) (tP g u k) f false) (tM g u) <;> rfl
    · have pu := C_tplace wT cTh hu hk
      have pt := C_tplace wT cTh ht (k := k) (by omega)
      have ku := (wT.2.1 u hu).2.2 k hk
      have kt := (wT.2.1 t ht).2.2 k (by omega)
      rw [ku.1.1] at pu
      rw [kt.1.1] at pt
      have A := C_allows wK cKh (a := tP g t k) (b := tP g u k) kt.2 (by have := kt.1.2; show tn _ < _; omega) ku.2 (by have := ku.1.2; show tn _ < _; omega) f
      rw [e] at A
      show F_236_18B (I3 u, I3 t, b2 f, I3 k, h) = _
      unfold F_236_18B
      rw [mu]; simp only [Option.bind_some]
      rw [if_neg (by rw [I3_le (by omega) (by omega)]; omega), if_neg (by rw [I3_lit, I3_le (by decide) (by omega)]; omega), pt]; simp only [Option.bind_some]
      rw [pu]; simp only [Option.bind_some]
      rw [A]; simp only [Option.bind_some]
      rw [if_neg (by decide), I3_lit, I3_add]
    · have pu := C_tplace wT cTh hu hk
      have pt := C_tplace wT cTh ht (k := k) (by omega)
      have ku := (wT.2.1 u hu).2.2 k hk
      have kt := (wT.2.1 t ht).2.2 k (by omega)
      rw [ku.1.1] at pu
      rw [kt.1.1] at pt
      have A := C_allows wK cKh (a := tP g t k) (b := tP g u k) kt.2 (by have := kt.1.2; show tn _ < _; omega) ku.2 (by have := ku.1.2; show tn _ < _; omega) f
      rw [e] at A
      show F_236_18B (I3 u, I3 t, b2 f, I3 k, h) = _
      unfold F_236_18B
      rw [mu]; simp only [Option.bind_some]
      rw [if_neg (by rw [I3_le (by omega) (by omega)]; omega), if_neg (by rw [I3_lit, I3_le (by decide) (by omega)]; omega), pt]; simp only [Option.bind_some]
      rw [pu]; simp only [Option.bind_some]
      rw [A]; simp only [Option.bind_some]
      rw [if_pos (by decide)]
    · show F_236_18B (I3 u, I3 t, b2 f, I3 (tM g u), h) = _
      unfold F_236_18B
      rw [mu]; simp only [Option.bind_some]
      rw [if_pos (by rw [I3_le (by omega) (by omega)]; omega), zf]; rfl
  · rw [if_neg (by rw [I3_inj (by omega) (by omega)]; exact fun z => q z.symm), decide_eq_false q]; rfl
theorem R_mayAs {h g : sm_H} (K : K1 h g) {x t : Nat} (hx : x < nH g) (ht : t < nT g) (f : Bool) : F_326 (I3 x) (I3 t) (b2 f) g = some (b2 (asB g (ty g x) t f), g) := by
  have wK := K.1
  have wT := K.2.2.1
  have h12 := wK.2.1
  have w300 : nT g ≤ 300 := wT.1.2
  have hu := ty_lt K hx
  have u10 : tM g (ty g x) ≤ 10 := (wT.2.1 _ hu).2.1.2
  have t10 : tM g t ≤ 10 := (wT.2.1 t ht).2.1.2
  have mu := R_mn K hx
  have cu := (wT.2.1 _ hu).1
  have ct := (wT.2.1 t ht).1
  show F_326_0 (I3 x) (I3 t) (b2 f) g = _
  unfold F_326_0
  rw [ldI_I (by omega) (by omega), (wT.2.1 t ht).2.1.1]; simp only [Option.bind_some]
  rw [mu]; simp only [Option.bind_some]
  unfold asB
  by_cases q : tM g t = tM g (ty g x)
  · rw [if_pos (by show I3 (tM g t) = _; rw [q]), decide_eq_true q, Bool.true_and]
    have L := lp_all (body := F_326_19B) (fun k => mayB g (tP g t k) (tP g (ty g x) k) f false) (tM g (ty g x)) (fun k => (I3 x, I3 t, b2 f, I3 k, g)) (0, g) (b2 (mayB g (tR g (ty g x)) (tR g t) f true), g) (f := 1000000) (by omega) (fun k hk e => ?_) (fun k hk e => ?_) ?_
    · refine Eq.trans (show F_326_19 (I3 x) (I3 t) (b2 f) 0 g = lp F_326_19B 1000000 (I3 x, I3 t, b2 f, I3 0, g) from rfl) (L.trans ?_)
      cases all1 (fun k => mayB g (tP g t k) (tP g (ty g x) k) f false) (tM g (ty g x)) <;> rfl
    · have pu := R_place wT K.2.2.2.2.1 hx hk
      have ku := (wT.2.1 _ hu).2.2 k hk
      have kt := (wT.2.1 t ht).2.2 k (by omega)
      rw [ku.1.1] at pu
      have A := R_mayBe wK (a := tP g t k) (b := tP g (ty g x) k) (by have := kt.1.2; show tn _ < _; omega) (by have := ku.1.2; show tn _ < _; omega) f false
      rw [e] at A
      show F_326_19B (I3 x, I3 t, b2 f, I3 k, g) = _
      unfold F_326_19B
      rw [mu]; simp only [Option.bind_some]
      rw [if_neg (by rw [I3_le (by omega) (by omega)]; omega), I3_lit, I3_mul, I3_add, ldI_I (show 10 * t + k < 3000 by omega) (by omega), kt.1.1]; simp only [Option.bind_some]
      rw [pu]; simp only [Option.bind_some]
      rw [show F_297 (I3 (tP g t k)) (I3 (tP g (ty g x) k)) (b2 f) 0 g = some (b2 true, g) from A]; simp only [Option.bind_some]
      rw [if_neg (by decide), I3_lit, I3_add]
    · have pu := R_place wT K.2.2.2.2.1 hx hk
      have ku := (wT.2.1 _ hu).2.2 k hk
      have kt := (wT.2.1 t ht).2.2 k (by omega)
      rw [ku.1.1] at pu
      have A := R_mayBe wK (a := tP g t k) (b := tP g (ty g x) k) (by have := kt.1.2; show tn _ < _; omega) (by have := ku.1.2; show tn _ < _; omega) f false
      rw [e] at A
      show F_326_19B (I3 x, I3 t, b2 f, I3 k, g) = _
      unfold F_326_19B
      rw [mu]; simp only [Option.bind_some]
      rw [if_neg (by rw [I3_le (by omega) (by omega)]; omega), I3_lit, I3_mul, I3_add, ldI_I (show 10 * t + k < 3000 by omega) (by omega), kt.1.1]; simp only [Option.bind_some]
      rw [pu]; simp only [Option.bind_some]
      rw [show F_297 (I3 (tP g t k)) (I3 (tP g (ty g x) k)) (b2 f) 0 g = some (b2 false, g) from A]; simp only [Option.bind_some]
      rw [if_pos (by decide)]
    · have A := R_mayBe wK (a := tR g (ty g x)) (b := tR g t) (by have := cu.2; show tn _ < _; omega) (by have := ct.2; show tn _ < _; omega) f true
      show F_326_19B (I3 x, I3 t, b2 f, I3 (tM g (ty g x)), g) = _
      unfold F_326_19B
      rw [mu]; simp only [Option.bind_some]
      rw [if_pos (by rw [I3_le (by omega) (by omega)]; omega), R_rs K hx]; simp only [Option.bind_some]
      rw [ldI_I (by omega) (by omega), show hrs g x = I3 (tR g (ty g x)) from cu.1, ct.1]; simp only [Option.bind_some]
      rw [show F_297 (I3 (tR g (ty g x))) (I3 (tR g t)) (b2 f) 1 g = _ from A]; simp only [Option.bind_some]
      rw [if_pos (b2_ok _)]
  · rw [if_neg (by show ¬ I3 (tM g t) = _; rw [I3_inj (by omega) (by omega)]; exact q), decide_eq_false q]; rfl
theorem mk_12 {h g : sm_H} (K : K1 h g) (a b : Int32) (c : Int64) {o p : Nat} {ps : List Int32} (S : fS h (I3 12) 0 b 0 o p ps) (op : oP o p) (P : prR g ps) : ∃ out, OC h (I3 12) 0 b 0 out ∧ OR g (I3 12) a b c out ∧ OK g 12 0 b 0 out := by
  have e7 := S.f7
  have wT := K.2.2.1
  have w300 : nT g ≤ 300 := wT.1.2
  have w500 : nH g ≤ 500 := K.2.2.2.2.1.1.2
  refine gen1 K S P (by decide) (by decide) (by decide) rfl ((B336_12 _ _ _).trans rfl) rfl rfl (fun x x1 ep e12 ld c7 R => ?_)
  subst ep
  dsimp only at R
  have n9 := (B9_12 e7).trans (n9_272 K S.f9)
  have RT := R_isT wT b
  rw [if_neg (by decide)] at R
  rcases inR_c b (nT g) (by omega) with ⟨t, t1, rfl, i⟩ | i
  · rw [i] at n9 RT
    have t10 : (pl g t).length ≤ 10 := by rw [pl_len]; exact (wT.2.1 t t1).2.1.2
    have tx := ty_lt K x1
    have n11 : F_11 h = some (0, h) := B11_12 e7 (e12 ▸ C_mn K x1)
    have n14 : F_14 h = some (b2 (!asB g (ty g x) t false), h) := by
      rw [B14_12 e7]
      unfold F_14_363
      rw [e12, C_ty K x1]; simp only [Option.bind_some]
      rw [S.f7, if_neg (show ¬ (I3 12 : Int32) = 13 by decide), S.f9]
      unfold F_14_396
      rw [show F_236 (I3 (ty g x)) (I3 t) 0 h = some (b2 (asB g (ty g x) t false), h) from C_allowsAs K tx t1 false]; simp only [Option.bind_some, F_14_407, true_or, or_true, if_true]
      exact notb h _
    have n26 : F_26 h = some (if t = ty g x then I3 x else -1, h) := by
      rw [B26_12 e7]
      unfold F_26_121
      rw [e12, C_ty K x1, S.f9]; simp only [Option.bind_some]
      by_cases q : t = ty g x
      · rw [if_pos (by rw [q]), if_pos q, e12]; rfl
      · rw [if_neg (by rw [I3_inj (by omega) (by omega)]; exact q), if_neg q]; rfl
    rw [RT] at R; simp only [Option.bind_some] at R
    rw [if_neg (by decide), ld] at R; simp only [Option.bind_some] at R
    rw [show F_326 (I3 x) (I3 t) 0 g = some (b2 (asB g (ty g x) t false), g) from R_mayAs K x1 t1 false] at R; simp only [Option.bind_some] at R
    cases j : asB g (ty g x) t false with
    | false =>
      rw [j] at n14 R
      rw [if_pos (by decide)] at R
      exact ⟨.ref 3, tl_4 c7 n9 n11 n14 agr_rfl, ⟨g, R, agr_rfl⟩, ⟨by decide, by decide⟩⟩
    | true =>
      rw [j] at n14 R
      rw [if_neg (by decide), R_ty K x1] at R; simp only [Option.bind_some] at R
      by_cases q : t = ty g x
      · rw [if_pos q] at n26
        rw [if_pos (by rw [q])] at R
        exact ⟨.smp x, tl_5 (by omega) c7 n9 n11 n14 n26 agr_rfl, ⟨g, R, agr_rfl⟩, x1⟩
      · rw [if_neg q] at n26
        rw [if_neg (by rw [I3_inj (by omega) (by omega)]; exact fun z => q z.symm), ldI_I (by omega) (by omega)] at R; simp only [Option.bind_some] at R
        obtain ⟨u, d1, D0⟩ := D_begin K S op
        obtain ⟨u1, d2, D1⟩ := D_type D0 op t1 (by decide)
        obtain ⟨g0, y1, E0⟩ := E_clear K (rs g t)
        obtain ⟨g1, y2, E1⟩ := E_type E0 t1 (by decide)
        have n45' := C_mn D0.k x1
        rw [show I3 x = u.1 34 12 from (D0.s.f12.trans rfl).symm] at n45'
        refine ⟨.fin (rs g t) (pl g t) _ o p, tl_6 S.w c7 n9 n11 n14 n26 S.f7 S.f8 S.f9 S.f10 S.f11 ?_ D1.d D1.s.r op (Ssc_d D1.a), ⟨g1, ?_, E1.d, E1.r, prR_SRd P E1.a, agr_mono SRd_p E1.a⟩, ?_⟩
        · rw [B29_12 d1 D0.s.f7 n45']; unfold F_29_411
          rw [D0.s.f9, d2]; rfl
        · rw [R, y1]; simp only [Option.bind_some]; rw [y2]; rfl
        · exact ⟨(Or.inr (Or.inr (Or.inr (Or.inr (Or.inr (Or.inr (Or.inr (Or.inr (Or.inr (Or.inr (Or.inr (Or.inr (Or.inl ⟨Or.inl rfl, x, t, x1, rfl, t1, rfl, asB_x j, rfl, rfl⟩))))))))))))), kR1_rs wT t1, kL_pl wT t1, by omega⟩
  · rw [i] at n9 RT
    rw [RT] at R; simp only [Option.bind_some] at R
    rw [if_pos (by decide)] at R
    exact ⟨.ref 1, tl_2 c7 n9, ⟨g, R, agr_rfl⟩, ⟨by decide, by decide⟩⟩
theorem mk_13 {h g : sm_H} (K : K1 h g) (a b : Int32) (c : Int64) {o p : Nat} {ps : List Int32} (S : fS h (I3 13) 0 b 0 o p ps) (op : oP o p) (P : prR g ps) : ∃ out, OC h (I3 13) 0 b 0 out ∧ OR g (I3 13) a b c out ∧ OK g 13 0 b 0 out := by
  have e7 := S.f7
  have wT := K.2.2.1
  have w300 : nT g ≤ 300 := wT.1.2
  have w500 : nH g ≤ 500 := K.2.2.2.2.1.1.2
  refine gen1 K S P (by decide) (by decide) (by decide) rfl ((B336_13 _ _ _).trans rfl) rfl rfl (fun x x1 ep e12 ld c7 R => ?_)
  subst ep
  dsimp only at R
  have n9 := (B9_13 e7).trans (n9_272 K S.f9)
  have RT := R_isT wT b
  rw [if_neg (by decide)] at R
  rcases inR_c b (nT g) (by omega) with ⟨t, t1, rfl, i⟩ | i
  · rw [i] at n9 RT
    have t10 : (pl g t).length ≤ 10 := by rw [pl_len]; exact (wT.2.1 t t1).2.1.2
    have tx := ty_lt K x1
    have n11 : F_11 h = some (0, h) := B11_13 e7 (e12 ▸ C_mn K x1)
    have n14 : F_14 h = some (b2 (!asB g (ty g x) t true), h) := by
      rw [B14_13 e7]
      unfold F_14_363
      rw [e12, C_ty K x1]; simp only [Option.bind_some]
      rw [S.f7, if_pos (show (I3 13 : Int32) = 13 by decide), S.f9]
      unfold F_14_396
      rw [show F_236 (I3 (ty g x)) (I3 t) 1 h = some (b2 (asB g (ty g x) t true), h) from C_allowsAs K tx t1 true]; simp only [Option.bind_some, F_14_407, true_or, or_true, if_true]
      exact notb h _
    have n26 : F_26 h = some (if t = ty g x then I3 x else -1, h) := by
      rw [B26_13 e7]
      unfold F_26_121
      rw [e12, C_ty K x1, S.f9]; simp only [Option.bind_some]
      by_cases q : t = ty g x
      · rw [if_pos (by rw [q]), if_pos q, e12]; rfl
      · rw [if_neg (by rw [I3_inj (by omega) (by omega)]; exact q), if_neg q]; rfl
    rw [RT] at R; simp only [Option.bind_some] at R
    rw [if_neg (by decide), ld] at R; simp only [Option.bind_some] at R
    rw [show F_326 (I3 x) (I3 t) 1 g = some (b2 (asB g (ty g x) t true), g) from R_mayAs K x1 t1 true] at R; simp only [Option.bind_some] at R
    cases j : asB g (ty g x) t true with
    | false =>
      rw [j] at n14 R
      rw [if_pos (by decide)] at R
      exact ⟨.ref 3, tl_4 c7 n9 n11 n14 agr_rfl, ⟨g, R, agr_rfl⟩, ⟨by decide, by decide⟩⟩
    | true =>
      rw [j] at n14 R
      rw [if_neg (by decide), R_ty K x1] at R; simp only [Option.bind_some] at R
      by_cases q : t = ty g x
      · rw [if_pos q] at n26
        rw [if_pos (by rw [q])] at R
        exact ⟨.smp x, tl_5 (by omega) c7 n9 n11 n14 n26 agr_rfl, ⟨g, R, agr_rfl⟩, x1⟩
      · rw [if_neg q] at n26
        rw [if_neg (by rw [I3_inj (by omega) (by omega)]; exact fun z => q z.symm), ldI_I (by omega) (by omega)] at R; simp only [Option.bind_some] at R
        obtain ⟨u, d1, D0⟩ := D_begin K S op
        obtain ⟨u1, d2, D1⟩ := D_type D0 op t1 (by decide)
        obtain ⟨g0, y1, E0⟩ := E_clear K (rs g t)
        obtain ⟨g1, y2, E1⟩ := E_type E0 t1 (by decide)
        have n45' := C_mn D0.k x1
        rw [show I3 x = u.1 34 12 from (D0.s.f12.trans rfl).symm] at n45'
        refine ⟨.fin (rs g t) (pl g t) _ o p, tl_6 S.w c7 n9 n11 n14 n26 S.f7 S.f8 S.f9 S.f10 S.f11 ?_ D1.d D1.s.r op (Ssc_d D1.a), ⟨g1, ?_, E1.d, E1.r, prR_SRd P E1.a, agr_mono SRd_p E1.a⟩, ?_⟩
        · rw [B29_13 d1 D0.s.f7 n45']; unfold F_29_411
          rw [D0.s.f9, d2]; rfl
        · rw [R, y1]; simp only [Option.bind_some]; rw [y2]; rfl
        · exact ⟨(Or.inr (Or.inr (Or.inr (Or.inr (Or.inr (Or.inr (Or.inr (Or.inr (Or.inr (Or.inr (Or.inr (Or.inr (Or.inl ⟨Or.inr rfl, x, t, x1, rfl, t1, rfl, asB_x j, rfl, rfl⟩))))))))))))), kR1_rs wT t1, kL_pl wT t1, by omega⟩
  · rw [i] at n9 RT
    rw [RT] at R; simp only [Option.bind_some] at R
    rw [if_pos (by decide)] at R
    exact ⟨.ref 1, tl_2 c7 n9, ⟨g, R, agr_rfl⟩, ⟨by decide, by decide⟩⟩
theorem mk_29 {h g : sm_H} (K : K1 h g) (a b : Int32) (c : Int64) {o p : Nat} {ps : List Int32} (S : fS h (I3 29) a 0 0 o p ps) (op : oP o p) (P : prR g ps) : ∃ out, OC h (I3 29) a 0 0 out ∧ OR g (I3 29) a b c out ∧ OK g 29 a 0 0 out := by
  have wK := K.1
  have h12 := wK.2.1
  have e7 := S.f7
  have cGq := K.2.2.2.2.2.2.2.2.1
  have w80 : nG g ≤ 80 := cGq.2.1.2
  have w500 : nH g ≤ 500 := K.2.2.2.2.1.1.2
  have e35 : g.1 67 35 = I3 (nG g) := cGq.2.1.1
  have C1 := C_hasTg (h := h) (n := nG g) (cGq.1.trans e35) (by omega) a
  have RO : F_315 (Int32.toInt64 a) 0 (Int32.toInt64 (g.1 67 35 - 1)) g = some (b2 (!inR a (nG g)), g) := by rw [e35]; exact R_outI (n := nG g) (by omega) a
  have tg : ∀ n, n < nG g → ∃ y, y < nH g ∧ g.1 92 n = I3 y ∧ tn (g.1 92 n) = y := fun n hn => by
    obtain ⟨y, y1, y2⟩ := cGq.2.2.2 n hn
    exact ⟨y, y1, y2, by rw [y2]; exact I3_clamp (by omega)⟩
  refine genA (r := hrs g (tn (g.1 92 (tn a)))) (l := hpl g (tn (g.1 92 (tn a)))) K S op P (by decide) (by decide) (by decide) rfl (inR a (nG g)) (fun _ => ?_) (fun z => ?_) (B14_29 e7) (B26_29 e7) (fun z kv => ?_) (fun z => ?_) (fun z kv => ?_) (fun z kv => ?_) (fun kv => ?_)
  · rw [B9_29 e7, S.f8, C1]; simp only [Option.bind_some, F_9_413, true_or, or_true, if_true]
    exact notb h _
  · subst z; rw [B11_29 e7 (n11d K S)]; rfl
  · subst z
    have kv' := kv
    obtain ⟨n, n1, rfl⟩ := inR_x (by omega) kv
    rw [show tn (I3 n) = n from I3_clamp (by omega)]
    obtain ⟨y, y1, y2, y3⟩ := tg n n1
    rw [y3]
    obtain ⟨u, d1, D0⟩ := D_begin K S op
    obtain ⟨u1, d2, D1⟩ := D_type D0 op (ty_lt K y1) (by decide)
    refine ⟨u1, ?_, D1.d, D1.a⟩
    have cu := D0.k.2.2.2.2.2.2.2.2.1
    have C2 := C_hasTg (h := u) (n := nG g) (cu.1.trans e35) (by omega) (I3 n)
    have C3 : F_157 (I3 n) u = some (I3 y, u) := by
      show F_157_0 (I3 n) u = _
      unfold F_157_0
      rw [C2, kv']; simp only [Option.bind_some]
      rw [if_neg (by decide), ldI_I (by omega) (by omega), cu.2.2.1 n (by omega), y2]; rfl
    rw [B29_29 d1 D0.s.f7 (n11d D0.k D0.s), D0.s.f8, C3]; simp only [Option.bind_some]; rw [C_ty D0.k y1]; simp only [Option.bind_some]; rw [d2]; rfl
  · rw [B336_29]; unfold F_336_257; rw [s335 _ _ _ z, B335_29]; rfl
  · refine ⟨g, ?_, agr_rfl⟩
    rw [B336_29, F_336_257, s335' _ _ _ z, B335_29, if_neg (by decide), RO, kv]; rfl
  · have kv' := kv
    obtain ⟨n, n1, rfl⟩ := inR_x (by omega) kv
    rw [show tn (I3 n) = n from I3_clamp (by omega)]
    obtain ⟨y, y1, y2, y3⟩ := tg n n1
    rw [y3]
    obtain ⟨g0, f1, E0⟩ := E_clear K (hrs g y)
    obtain ⟨g1, f2, E1⟩ := E_all E0 y1 (by decide)
    have l0 : ldI g 92 80 (I3 n) = some (I3 y) := by rw [ldI_I (by omega) (by omega), y2]
    have l1 : ldI g0 92 80 (I3 n) = some (I3 y) := by rw [ldI_I (by omega) (by omega), E0.a.1 92 n (by unfold SRd; omega), y2]
    refine ⟨g1, ?_, E1.d, E1.a, E1.r⟩
    rw [B336_29, F_336_257, s335' _ _ _ z, B335_29, if_neg (by decide), RO, kv']; simp only [Option.bind_some]; rw [if_pos (by decide), l0]; simp only [Option.bind_some]; rw [R_rs K y1]; simp only [Option.bind_some]; rw [f1]; simp only [Option.bind_some]; rw [l1]; simp only [Option.bind_some]; rw [E_many E0 y1]; simp only [Option.bind_some]; rw [f2]; rfl
  · obtain ⟨n, n1, rfl⟩ := inR_x (by omega) kv
    rw [show tn (I3 n) = n from I3_clamp (by omega)]
    obtain ⟨y, y1, y2, y3⟩ := tg n n1
    have m10 := mn_10 K y1
    refine ⟨(Or.inr (Or.inr (Or.inr (Or.inr (Or.inr (Or.inr (Or.inr (Or.inr (Or.inr (Or.inr (Or.inr (Or.inr (Or.inr (Or.inr (Or.inr (Or.inr (Or.inr (Or.inr (Or.inr (Or.inr (Or.inr (Or.inl ⟨rfl, rfl, n, n1, rfl, rfl, rfl⟩)))))))))))))))))))))), ?_, ?_, ?_⟩
    · rw [y3]; exact kR_h K y1
    · rw [y3]; exact kL_h K y1
    · rw [y3]; omega
theorem mk_30 {h g : sm_H} (K : K1 h g) (a b : Int32) (c : Int64) {o p : Nat} {ps : List Int32} (S : fS h (I3 30) a 0 0 o p ps) (op : oP o p) (P : prR g ps) : ∃ out, OC h (I3 30) a 0 0 out ∧ OR g (I3 30) a b c out ∧ OK g 30 a 0 0 out := by
  have e7 := S.f7
  have h12 := K.1.2.1
  have cOq := K.2.2.2.2.2.2.2.2.2.1
  have w20 : nO g ≤ 20 := cOq.2.1.2
  have w300 : nT g ≤ 300 := K.2.2.1.1.2
  have e37 : g.1 67 37 = I3 (nO g) := cOq.2.1.1
  have C1 := C_hasPt (h := h) (n := nO g) (cOq.1.trans e37) (by omega) a
  have RO : F_315 (Int32.toInt64 a) 0 (Int32.toInt64 (g.1 67 37 - 1)) g = some (b2 (!inR a (nO g)), g) := by rw [e37]; exact R_outI (n := nO g) (by omega) a
  have hF : ∀ X, F_335_12 (I3 30) a b 0 g = X → F_335_12 (I3 30) a b 1 g = X → F_336 (I3 30) a b c g = X.bind fun q => some (q.1, q.2) := fun X x0 x1 => by
    rw [B336_30]; unfold F_336_257
    by_cases z : g.1 67 3 = 0
    · rw [s335' _ _ _ z, x1]
    · rw [s335 _ _ _ z, x0]
  refine gen2 K S P (by decide) (by decide) (by decide) rfl (hF _ (B335_30 _ _ _) (B335_30 _ _ _)) rfl rfl (fun x y x1 y1 ep e12 e13 ld ld' c7 R => ?_)
  subst ep
  dsimp only at R
  have n9 := B9_30 e7
  rw [S.f8, C1] at n9; simp only [Option.bind_some, F_9_433, true_or, or_true, if_true] at n9
  rw [notb] at n9
  rw [if_neg (by decide), RO] at R; simp only [Option.bind_some] at R
  have n11 : F_11 h = some (0, h) := B11_30 e7 (e12 ▸ C_mn K x1)
  have tx := ty_lt K x1
  have tyy := ty_lt K y1
  have m10 := mn_10 K x1
  cases j : inR a (nO g) with
  | false =>
    rw [j] at n9 R
    rw [if_neg (by decide)] at R
    exact ⟨.ref 1, tl_2 c7 n9, ⟨g, R, agr_rfl⟩, ⟨by decide, by decide⟩⟩
  | true =>
    rw [j] at n9 R
    rw [if_pos (by decide), ld] at R; simp only [Option.bind_some] at R
    rw [R_ty K x1, ld'] at R; simp only [Option.bind_some] at R
    rw [R_ty K y1] at R; simp only [Option.bind_some] at R
    have n14 := B14_30 e7
    rw [e12, C_ty K x1] at n14; simp only [Option.bind_some] at n14
    rw [e13, C_ty K y1] at n14; simp only [Option.bind_some] at n14
    by_cases q : ty g x = ty g y
    · rw [if_pos (by rw [q])] at n14 R
      obtain ⟨u, d1, D0⟩ := D_begin K S op
      obtain ⟨u1, d2, D1⟩ := D_type D0 op tx (by decide)
      obtain ⟨g0, f1, E0⟩ := E_clear K (hrs g x)
      obtain ⟨g1, f2, E1⟩ := E_all E0 x1 (by decide)
      have n45' := C_mn D0.k x1
      have e12' : u.1 34 12 = I3 x := D0.s.f12
      rw [← e12'] at n45'
      have l0 : ldI g0 69 24 0 = some (I3 x) := by
        have := prR_ld (prR_SRd P E0.a) (k := 0) (Nat.le_of_ble_eq_true rfl); exact this
      refine ⟨.fin (hrs g x) (hpl g x) _ o p, tl_6 S.w c7 n9 n11 n14 (B26_30 e7) S.f7 S.f8 S.f9 S.f10 S.f11 ?_ D1.d D1.s.r op (Ssc_d D1.a), ⟨g1, ?_, E1.d, E1.r, prR_SRd P E1.a, agr_mono SRd_p E1.a⟩, ?_⟩
      · rw [B29_30 d1 D0.s.f7 n45']; unfold F_29_395
        rw [e12', C_ty D0.k x1]; simp only [Option.bind_some]; rw [d2]; rfl
      · rw [R, R_rs K x1]; simp only [Option.bind_some]; rw [f1]; simp only [Option.bind_some]; rw [l0]; simp only [Option.bind_some]; rw [E_many E0 x1]; simp only [Option.bind_some]; rw [f2]; rfl
      · obtain ⟨n, n1, rfl⟩ := inR_x (by omega) j
        exact ⟨(Or.inr (Or.inr (Or.inr (Or.inr (Or.inr (Or.inr (Or.inr (Or.inr (Or.inr (Or.inr (Or.inr (Or.inr (Or.inr (Or.inr (Or.inr (Or.inr (Or.inr (Or.inr (Or.inr (Or.inr (Or.inr (Or.inr (Or.inl ⟨rfl, x, y, n, x1, y1, rfl, q, n1, rfl, rfl, rfl⟩))))))))))))))))))))))), kR_h K x1, kL_h K x1, by omega⟩
    · have q' : ¬ I3 (ty g x) = I3 (ty g y) := by rw [I3_inj (by omega) (by omega)]; exact q
      rw [if_neg q'] at n14 R
      exact ⟨.ref 3, tl_4 c7 n9 n11 n14 agr_rfl, ⟨g, R, agr_rfl⟩, ⟨by decide, by decide⟩⟩
def fitB (m L : List Int32) (i j : Nat) : Bool := all1 (fun k => decide (j + k < L.length) && decide (at0 L (j + k) = at0 m (i + k))) (m.length - i)
theorem fitB_pre {m L : List Int32} {i j : Nat} (h : fitB m L i j = true) : pre (m.drop i) (L.drop j) := by
  unfold fitB at h
  have h := all1_iff.mp h
  refine ⟨?_, fun k hk => ?_⟩
  · rw [List.length_drop, List.length_drop]
    rcases Nat.eq_zero_or_pos (m.length - i) with z | z
    · omega
    · have := h (m.length - i - 1) (by omega)
      rw [Bool.and_eq_true, decide_eq_true_eq] at this
      omega
  · rw [List.length_drop] at hk
    have := h k hk
    rw [Bool.and_eq_true, decide_eq_true_eq, decide_eq_true_eq] at this
    rw [at0_drop, at0_drop]; exact this.2
theorem fitB_shift {m L L' : List Int32} {i j j' : Nat} (e : L.drop j = L'.drop j') : fitB m L i j = fitB m L' i j' := by
  unfold fitB
  refine all1_congr (fun k hk => ?_)
  have e1 : L.length - j = L'.length - j' := by rw [← List.length_drop, e, List.length_drop]
  have e2 : at0 L (j + k) = at0 L' (j' + k) := by rw [← at0_drop, e, at0_drop]
  have e3 : (j + k < L.length) = (j' + k < L'.length) := propext ⟨fun z => by omega, fun z => by omega⟩
  rw [e2]; simp only [e3]
theorem C_agree {h g : sm_H} (K : K1 h g) {t u i j : Nat} (ht : t < nT g) (hu : u < nT g) (hi : i ≤ (pl g t).length) (hj : j ≤ (pl g u).length) : F_235 (I3 t) (I3 i) (I3 u) (I3 j) (I3 ((pl g t).length - i)) h = some (b2 (fitB (pl g t) (pl g u) i j), h) := by
  have wT := K.2.2.1
  have cTh := K.2.2.2.1
  have w300 : nT g ≤ 300 := wT.1.2
  have lt := pl_len g t
  have lu := pl_len g u
  have t10 : tM g t ≤ 10 := (wT.2.1 t ht).2.1.2
  have u10 : tM g u ≤ 10 := (wT.2.1 u hu).2.1.2
  have e4 : h.1 5 4 = I3 (nT g) := cTh.1.trans wT.1.1
  have l1 : ldI h 7 300 (I3 t) = some (I3 (tM g t)) := by rw [ldI_I (by omega) (by omega), (cTh.2.1 t (by omega)).2, (wT.2.1 t ht).2.1.1]
  have l2 : ldI h 7 300 (I3 u) = some (I3 (tM g u)) := by rw [ldI_I (by omega) (by omega), (cTh.2.1 u (by omega)).2, (wT.2.1 u hu).2.1.1]
  show F_235_0 (I3 t) (I3 i) (I3 u) (I3 j) (I3 ((pl g t).length - i)) h = _
  unfold F_235_0
  rw [if_neg (I3_nn (by omega)), e4, if_neg (by rw [I3_le (by omega) (by omega)]; omega), if_neg (I3_nn (by omega)), if_pos (by rw [I3_lt (by omega) (by omega)]; omega), if_neg (I3_nn (by omega)), if_neg (I3_nn (by omega)), if_pos (by rw [I3_lit, I3_le (by decide) (by omega)]; omega), l1]; simp only [Option.bind_some]
  rw [I3_add, if_neg (by rw [I3_lt (by omega) (by omega)]; omega), l2]; simp only [Option.bind_some]
  rw [I3_add]
  by_cases q : j + ((pl g t).length - i) ≤ tM g u
  · rw [if_pos (by rw [I3_le (by omega) (by omega)]; exact q)]
    have L := lp_all (body := F_235_74B) (fun k => decide (j + k < (pl g u).length) && decide (at0 (pl g u) (j + k) = at0 (pl g t) (i + k))) ((pl g t).length - i) (fun k => (I3 t, I3 i, I3 u, I3 j, I3 ((pl g t).length - i), I3 k, h)) (0, h) (1, h) (f := 1000000) (by omega) (fun k hk e => ?_) (fun k hk e => ?_) ?_
    · refine Eq.trans (show F_235_74 (I3 t) (I3 i) (I3 u) (I3 j) (I3 ((pl g t).length - i)) 0 h = lp F_235_74B 1000000 (I3 t, I3 i, I3 u, I3 j, I3 ((pl g t).length - i), I3 0, h) from rfl) (L.trans ?_)
      unfold fitB
      cases all1 (fun k => decide (j + k < (pl g u).length) && decide (at0 (pl g u) (j + k) = at0 (pl g t) (i + k))) ((pl g t).length - i) <;> rfl
    · rw [Bool.and_eq_true, decide_eq_true_eq, decide_eq_true_eq] at e
      show F_235_74B (I3 t, I3 i, I3 u, I3 j, I3 ((pl g t).length - i), I3 k, h) = _
      unfold F_235_74B
      rw [if_neg (by rw [I3_le (by omega) (by omega)]; omega), I3_lit, I3_mul, I3_mul, I3_add, I3_add, I3_add, I3_add, ldI_I (by omega) (by omega), ldI_I (by omega) (by omega), cTh.2.2 _ (by omega), cTh.2.2 _ (by omega)]; simp only [Option.bind_some]
      have e1 := e.2
      rw [at0_lst (by omega), at0_lst (by omega)] at e1
      rw [if_pos (by rw [show t * 10 + i + k = 10 * t + (i + k) by omega, show u * 10 + j + k = 10 * u + (j + k) by omega]; exact e1.symm), I3_lit, I3_add]
    · have e1 : ¬ at0 (pl g u) (j + k) = at0 (pl g t) (i + k) := by
        rw [decide_eq_true (show j + k < (pl g u).length by omega), Bool.true_and] at e
        exact of_decide_eq_false e
      show F_235_74B (I3 t, I3 i, I3 u, I3 j, I3 ((pl g t).length - i), I3 k, h) = _
      unfold F_235_74B
      rw [if_neg (by rw [I3_le (by omega) (by omega)]; omega), I3_lit, I3_mul, I3_mul, I3_add, I3_add, I3_add, I3_add, ldI_I (by omega) (by omega), ldI_I (by omega) (by omega), cTh.2.2 _ (by omega), cTh.2.2 _ (by omega)]; simp only [Option.bind_some]
      rw [at0_lst (by omega), at0_lst (by omega)] at e1
      rw [if_neg (by rw [show t * 10 + i + k = 10 * t + (i + k) by omega, show u * 10 + j + k = 10 * u + (j + k) by omega]; exact fun z => e1 z.symm)]
    · show F_235_74B (I3 t, I3 i, I3 u, I3 j, I3 ((pl g t).length - i), I3 ((pl g t).length - i), h) = _
      unfold F_235_74B
      rw [if_pos (by rw [I3_le (by omega) (by omega)]; omega)]
  · rw [if_neg (by rw [I3_le (by omega) (by omega)]; exact q)]
    have : fitB (pl g t) (pl g u) i j = false := by
      cases f : fitB (pl g t) (pl g u) i j with
      | false => rfl
      | true =>
        have := (fitB_pre f).1
        rw [List.length_drop, List.length_drop] at this
        omega
    rw [this]; rfl
theorem R_areFirst {h g u : sm_H} {r : Int32} {l : List Int32} (e : E h g u r l) {x i j : Nat} (hx : x < nH g) (hi : i ≤ (hpl g x).length) (hj : j ≤ 1000) (hl : l.length ≤ 64) : F_312 (I3 x) (I3 i) (I3 j) u = some (b2 (fitB (hpl g x) l i j), u) := by
  have hx' : x < nH u := by rw [e.nH]; exact hx
  have m10 := mn_10 e.k hx'
  rw [e.hpl] at m10
  have ml := hpl_len g x
  have M := E_many e hx
  have L := lp_all (body := F_312_3B) (fun k => decide (j + k < l.length) && decide (at0 l (j + k) = at0 (hpl g x) (i + k))) ((hpl g x).length - i) (fun k => (I3 x, I3 i, I3 j, I3 (i + k), u)) (0, u) (1, u) (f := 1000000) (by omega) (fun k hk z => ?_) (fun k hk z => ?_) ?_
  · refine Eq.trans (show F_312 (I3 x) (I3 i) (I3 j) u = lp F_312_3B 1000000 (I3 x, I3 i, I3 j, I3 (i + 0), u) from rfl) (L.trans ?_)
    unfold fitB
    cases all1 (fun k => decide (j + k < l.length) && decide (at0 l (j + k) = at0 (hpl g x) (i + k))) ((hpl g x).length - i) <;> rfl
  · rw [Bool.and_eq_true, decide_eq_true_eq, decide_eq_true_eq] at z
    show F_312_3B (I3 x, I3 i, I3 j, I3 (i + k), u) = _
    unfold F_312_3B
    rw [M]; simp only [Option.bind_some]
    rw [if_neg (by rw [I3_le (by omega) (by omega)]; omega), e.d.1, I3_add, I3_sub (by omega), if_neg (by rw [I3_le (by omega) (by omega)]; omega), ldI_I (by omega) (by omega), e.d.2 _ (by omega), E_place e hx (k := i + k) (by omega)]; simp only [Option.bind_some]
    rw [if_pos (by rw [show j + (i + k) - i = j + k by omega]; exact z.2), I3_lit, I3_add, Nat.add_assoc]
  · show F_312_3B (I3 x, I3 i, I3 j, I3 (i + k), u) = _
    unfold F_312_3B F_312_47
    rw [M]; simp only [Option.bind_some]
    rw [if_neg (by rw [I3_le (by omega) (by omega)]; omega), e.d.1, I3_add, I3_sub (by omega)]
    by_cases q : j + k < l.length
    · rw [decide_eq_true q, Bool.true_and] at z
      rw [if_neg (by rw [I3_le (by omega) (by omega)]; omega), ldI_I (by omega) (by omega), e.d.2 _ (by omega), E_place e hx (k := i + k) (by omega)]; simp only [Option.bind_some]
      rw [if_neg (by rw [show j + (i + k) - i = j + k by omega]; exact of_decide_eq_false z)]; rfl
    · rw [if_pos (by rw [I3_le (by omega) (by omega)]; omega)]; rfl
  · show F_312_3B (I3 x, I3 i, I3 j, I3 (i + ((hpl g x).length - i)), u) = _
    unfold F_312_3B
    rw [M]; simp only [Option.bind_some]
    rw [if_pos (by rw [I3_le (by omega) (by omega)]; omega)]
theorem cons_drop {l : List Int32} {x : Int32} (h : 0 < l.length) (e : at0 l 0 = x) : l = x :: l.drop 1 := by
  cases l with
  | nil => cases h
  | cons a m => rw [show at0 (a :: m) 0 = a from rfl] at e; rw [e]; rfl
theorem gen3 {h g : sm_H} (K : K1 h g) {fn : Nat} {f a b a' b' : Int32} {c c' : Int64} {o p : Nat} {ps : List Int32} (S : fS h f a' b' c' o p ps) (P : prR g ps) (f5 : f ≠ 5) (f18 : f ≠ 18) (f17 : f ≠ 17) (pn : sm_ldI G0 h 1000001 f = some (I3 3)) {Z : Int32 × sm_H → Option (Int32 × sm_H)} {X : Option (Int32 × sm_H)}
    (hF : F_336 f a b c g = (if g.1 67 3 = 3 then (F_314 0 3 g).bind Z else X).bind fun q => some (q.1, q.2)) (zX : X = some (1, g)) (zZ : Z (0, g) = some (1, g))
    (good : ∀ x y w, x < nH g → y < nH g → w < nH g → ps = [I3 x, I3 y, I3 w] → h.1 34 12 = I3 x → h.1 34 13 = I3 y → h.1 34 14 = I3 w → ldI g 69 24 0 = some (I3 x) → ldI g 69 24 1 = some (I3 y) → ldI g 69 24 2 = some (I3 w) → F_7 h = some (0, h) → F_336 f a b c g = (Z (1, g)).bind (fun q => some (q.1, q.2)) → ∃ out, OC h f a' b' c' out ∧ OR g f a b c out ∧ OK g fn a' b' c' out) : ∃ out, OC h f a' b' c' out ∧ OR g f a b c out ∧ OK g fn a' b' c' out := by
  refine genB K S P (by decide) f5 f18 f17 pn rfl hF zX zZ (fun l e c7 r => ?_)
  obtain ⟨x, x1, x2⟩ := e 0 (by decide)
  obtain ⟨y, y1, y2⟩ := e 1 (by decide)
  obtain ⟨w, w1, w2⟩ := e 2 (by decide)
  have ep := list3 l x2 y2 w2
  have ld := prR_ld P (k := 0) (by omega)
  have ld' := prR_ld P (k := 1) (by omega)
  have ld'' := prR_ld P (k := 2) (by omega)
  rw [x2] at ld
  rw [y2] at ld'
  rw [w2] at ld''
  refine good x y w x1 y1 w1 ep ?_ ?_ ?_ ld ld' ld'' c7 r
  · rw [S.f12, ep]; rfl
  · rw [S.f13, ep]; rfl
  · rw [S.f14, ep]; rfl
theorem mk_14 {h g : sm_H} (K : K1 h g) (a b : Int32) (c : Int64) {o p : Nat} {ps : List Int32} (S : fS h (I3 14) 0 0 0 o p ps) (op : oP o p) (P : prR g ps) : ∃ out, OC h (I3 14) 0 0 0 out ∧ OR g (I3 14) a b c out ∧ OK g 14 0 0 0 out := by
  have e7 := S.f7
  have h12 := K.1.2.1
  have w300 : nT g ≤ 300 := K.2.2.1.1.2
  refine gen3 K S P (by decide) (by decide) (by decide) rfl ((B336_14 _ _ _).trans rfl) rfl rfl (fun x y w x1 y1 w1 ep e12 e13 e14 ld ld' ld'' c7 R => ?_)
  subst ep
  dsimp only at R
  have n11 : F_11 h = some (0, h) := B11_14 e7 (e12 ▸ C_mn K x1)
  have tx := ty_lt K x1
  have tyy := ty_lt K y1
  have tw := ty_lt K w1
  have m10 := mn_10 K y1
  have n14 := B14_14 e7
  rw [e13, C_ty K y1] at n14; simp only [obs] at n14
  rw [e14, C_ty K w1] at n14; simp only [obs] at n14
  rw [if_neg (by decide), ld] at R; simp only [obs] at R
  rw [ld'] at R; simp only [obs] at R
  rw [R_ty K y1] at R; simp only [obs] at R
  rw [ld''] at R; simp only [obs] at R
  rw [R_ty K w1] at R; simp only [obs] at R
  by_cases q : ty g y = ty g w
  · rw [if_pos (by rw [q])] at n14 R
    rw [e12, C_rs K x1] at n14; simp only [obs] at n14
    rw [R_rs K x1] at R; simp only [obs] at R
    by_cases q1 : hrs g x = 1
    · rw [if_pos q1] at n14 R
      rw [e12, C_ty K x1] at n14; simp only [obs] at n14
      rw [e13, C_ty K y1] at n14; simp only [obs] at n14
      rw [e12, C_mn K x1] at n14; simp only [obs] at n14
      have A := C_agree K (i := 0) (j := 0) tx tyy (by omega) (by omega)
      rw [Nat.sub_zero, pl_len] at A
      have A' : F_235 (I3 (ty g x)) 0 (I3 (ty g y)) 0 (I3 (tM g (ty g x))) h = some (b2 (fitB (hpl g x) (hpl g y) 0 0), h) := A
      rw [A'] at n14; simp only [obs] at n14
      rw [R_rs K y1] at R; simp only [obs] at R
      obtain ⟨g0, f1, E0⟩ := E_clear K (hrs g y)
      obtain ⟨g1, f2, E1⟩ := E_all E0 y1 (by decide)
      rw [f1] at R; simp only [obs] at R
      rw [E_many E0 y1] at R; simp only [obs] at R
      rw [f2] at R; simp only [obs] at R
      rw [List.nil_append] at E1
      have F1 : F_312 (I3 x) 0 0 g1 = some (b2 (fitB (hpl g x) (hpl g y) 0 0), g1) := R_areFirst E1 (i := 0) (j := 0) x1 (by omega) (by omega) (by omega)
      rw [F1] at R; simp only [obs] at R
      cases j : fitB (hpl g x) (hpl g y) 0 0 with
      | false =>
        rw [j] at n14 R
        rw [if_pos (by decide)] at n14 R
        exact ⟨.ref 3, tl_4 c7 (B9_14 e7) n11 n14 agr_rfl, ⟨g1, R, agr_mono SRd_p E1.a⟩, ⟨by decide, by decide⟩⟩
      | true =>
        rw [j] at n14 R
        rw [if_neg (by decide)] at n14 R
        obtain ⟨u, d1, D0⟩ := D_begin K S op
        obtain ⟨u1, d2, D1⟩ := D_type D0 op tyy (by decide)
        have n45' := C_mn D0.k x1
        have e12' : u.1 34 12 = I3 x := D0.s.f12
        have e13' : u.1 34 13 = I3 y := D0.s.f13
        rw [← e12'] at n45'
        refine ⟨.fin (hrs g y) (hpl g y) _ o p, tl_6 S.w c7 (B9_14 e7) n11 n14 (B26_14 e7) S.f7 S.f8 S.f9 S.f10 S.f11 ?_ D1.d D1.s.r op (Ssc_d D1.a), ⟨g1, R, E1.d, E1.r, prR_SRd P E1.a, agr_mono SRd_p E1.a⟩, ?_⟩
        · rw [B29_14 d1 D0.s.f7 n45', e13', C_ty D0.k y1]; simp only [obs]; rw [d2]; rfl
        · exact ⟨(Or.inr (Or.inr (Or.inr (Or.inr (Or.inr (Or.inr (Or.inr (Or.inr (Or.inr (Or.inr (Or.inr (Or.inr (Or.inr (Or.inl ⟨rfl, x, y, w, x1, y1, w1, rfl, q, q1, fitB_pre j, rfl, rfl⟩)))))))))))))), kR_h K y1, kL_h K y1, by omega⟩
    · rw [if_neg q1] at n14 R
      exact ⟨.ref 3, tl_4 c7 (B9_14 e7) n11 n14 agr_rfl, ⟨g, R, agr_rfl⟩, ⟨by decide, by decide⟩⟩
  · have q' : ¬ I3 (ty g y) = I3 (ty g w) := by rw [I3_inj (by omega) (by omega)]; exact q
    rw [if_neg q'] at n14 R
    exact ⟨.ref 3, tl_4 c7 (B9_14 e7) n11 n14 agr_rfl, ⟨g, R, agr_rfl⟩, ⟨by decide, by decide⟩⟩
theorem len_one {l : List Int32} {x : Int32} (h : l.length = 1) (e : at0 l 0 = x) : l = [x] := list1 h e
def resB (g : sm_H) (x y : Nat) : Bool := if hrs g x = 0 then decide ((hpl g y).length = 0) else decide ((hpl g y).length = 1) && decide (at0 (hpl g y) 0 = hrs g x)
theorem resB_x {g : sm_H} {x y : Nat} (h : resB g x y = true) : hpl g y = (if hrs g x = 0 then [] else [hrs g x]) := by
  unfold resB at h
  by_cases q : hrs g x = 0
  · rw [if_pos q] at h ⊢
    exact List.eq_nil_of_length_eq_zero (of_decide_eq_true h)
  · rw [if_neg q] at h ⊢
    rw [Bool.and_eq_true, decide_eq_true_eq, decide_eq_true_eq] at h
    exact len_one h.1 h.2
theorem mk_9 {h g : sm_H} (K : K1 h g) (a b : Int32) (c : Int64) {o p : Nat} {ps : List Int32} (S : fS h (I3 9) 0 0 0 o p ps) (op : oP o p) (P : prR g ps) : ∃ out, OC h (I3 9) 0 0 0 out ∧ OR g (I3 9) a b c out ∧ OK g 9 0 0 0 out := by
  have e7 := S.f7
  have h12 := K.1.2.1
  have w300 : nT g ≤ 300 := K.2.2.1.1.2
  have w500 : nH g ≤ 500 := K.2.2.2.2.1.1.2
  refine gen2 K S P (by decide) (by decide) (by decide) rfl ((B336_9 _ _ _).trans rfl) rfl rfl (fun x y x1 y1 ep e12 e13 ld ld' c7 R => ?_)
  subst ep
  dsimp only at R
  have n11 : F_11 h = some (0, h) := B11_9 e7 (e12 ▸ C_mn K x1)
  have tx := ty_lt K x1
  have m10 := mn_10 K x1
  have m10y := mn_10 K y1
  have ly := hpl_len g y
  have n14 : F_14 h = some (b2 (!resB g x y), h) := by
    rw [B14_9 e7, e13, C_mn K y1]; simp only [obs]
    rw [e12, C_rs K x1]; simp only [obs]
    simp only [F_14_289, F_14_336, F_14_332, F_14_337, true_or, or_true, if_true, e12, C_rs K x1, obs, e13]
    unfold resB
    by_cases q : hrs g x = 0
    · rw [if_pos q, if_pos q, if_pos q]
      by_cases q1 : (hpl g y).length = 0
      · rw [if_pos (show I3 (tM g (ty g y)) = (0 : Int32) from congrArg I3 (ly.symm.trans q1)), decide_eq_true q1]; rfl
      · rw [if_neg (show ¬ I3 (tM g (ty g y)) = (0 : Int32) by rw [I3_lit, I3_inj (by omega) (by decide)]; omega), decide_eq_false q1]; rfl
    · rw [if_neg q, if_neg q, if_neg q]
      by_cases q1 : (hpl g y).length = 1
      · rw [if_pos (show I3 (tM g (ty g y)) = (1 : Int32) from congrArg I3 (ly.symm.trans q1)), decide_eq_true q1, show F_46 (I3 y) 0 h = _ from C_pc K y1 (k := 0) (by omega)]; simp only [obs]
        by_cases q2 : at0 (hpl g y) 0 = hrs g x
        · simp only [e12, C_rs K x1, obs]; rw [if_pos q2, decide_eq_true q2]; rfl
        · simp only [e12, C_rs K x1, obs]; rw [if_neg q2, decide_eq_false q2]; rfl
      · rw [if_neg (show ¬ I3 (tM g (ty g y)) = (1 : Int32) by rw [I3_lit, I3_inj (by omega) (by decide)]; omega), decide_eq_false q1]; rfl
  have n26 : F_26 h = some (if fm g y = 2 then I3 x else -1, h) := by
    have f38 : fm g y ≤ 38 := (K.2.2.2.2.1.2 y y1).1.2
    rw [B26_9 e7]
    unfold F_26_148
    rw [e13, C_fm K y1]; simp only [obs]
    by_cases q : fm g y = 2
    · rw [if_pos (show I3 (fm g y) = (2 : Int32) from congrArg I3 q), if_pos q, e12]; rfl
    · rw [if_neg (show ¬ I3 (fm g y) = (2 : Int32) by rw [I3_lit, I3_inj (by omega) (by decide)]; exact q), if_neg q]; rfl
  have RR : F_336 (I3 9) a b c g = ((F_323_85 (I3 x) (I3 y) (b2 (resB g x y)) g).bind fun q => some (q.1, q.2)) := by
    rw [R, if_neg (by decide), ld]; simp only [obs]
    rw [ld']; simp only [obs]
    rw [R_rs K x1]; simp only [obs]
    unfold resB F_323_84
    by_cases q : hrs g x = 0
    · rw [if_pos q, if_pos q, R_mn K y1]; simp only [obs]
      by_cases q1 : (hpl g y).length = 0
      · rw [if_pos (show I3 (tM g (ty g y)) = (0 : Int32) from congrArg I3 (ly.symm.trans q1)), decide_eq_true q1]; rfl
      · rw [if_neg (show ¬ I3 (tM g (ty g y)) = (0 : Int32) by rw [I3_lit, I3_inj (by omega) (by decide)]; omega), decide_eq_false q1]; rfl
    · rw [if_neg q, if_neg q, R_mn K y1]; simp only [obs]
      by_cases q1 : (hpl g y).length = 1
      · rw [if_pos (show I3 (tM g (ty g y)) = (1 : Int32) from congrArg I3 (ly.symm.trans q1)), decide_eq_true q1, show F_306 (I3 y) 0 g = _ from R_pc K y1 (k := 0) (by omega)]; simp only [obs]
        rw [R_rs K x1]; simp only [obs]
        by_cases q2 : at0 (hpl g y) 0 = hrs g x
        · rw [if_pos q2, decide_eq_true q2]; rfl
        · rw [if_neg q2, decide_eq_false q2]; rfl
      · rw [if_neg (show ¬ I3 (tM g (ty g y)) = (1 : Int32) by rw [I3_lit, I3_inj (by omega) (by decide)]; omega), decide_eq_false q1]; rfl
  cases j : resB g x y with
  | false =>
    rw [j] at n14 RR
    exact ⟨.ref 3, tl_4 c7 (B9_9 e7) n11 n14 agr_rfl, ⟨g, RR, agr_rfl⟩, ⟨by decide, by decide⟩⟩
  | true =>
    have f38 : fm g y ≤ 38 := (K.2.2.2.2.1.2 y y1).1.2
    rw [j] at n14 RR
    unfold F_323_85 at RR
    rw [if_neg (by decide), R_fm K y1] at RR; simp only [obs] at RR
    by_cases q : fm g y = 2
    · rw [if_pos q] at n26
      rw [if_pos (show I3 (fm g y) = (2 : Int32) from congrArg I3 q)] at RR
      exact ⟨.smp x, tl_5 (by omega) c7 (B9_9 e7) n11 n14 n26 agr_rfl, ⟨g, RR, agr_rfl⟩, x1⟩
    · rw [if_neg q] at n26
      rw [if_neg (show ¬ I3 (fm g y) = (2 : Int32) by rw [I3_lit, I3_inj (by omega) (by decide)]; exact q)] at RR
      obtain ⟨u, d1, D0⟩ := D_begin K S op
      obtain ⟨u1, d2, D1⟩ := D_places D0 op (t := ty g x) (i := 0) (j := tM g (ty g x)) tx (Nat.le_refl _) (by omega) (by decide)
      rw [Nat.sub_zero, ← pl_len, seg_all, List.nil_append] at D1
      obtain ⟨g0, f1, E0⟩ := E_clear K (hrs g y)
      obtain ⟨g1, f2, E1⟩ := E_all E0 x1 (by decide)
      have n45' := C_mn D0.k x1
      have e12' : u.1 34 12 = I3 x := D0.s.f12
      have e13' : u1.1 34 13 = I3 y := D1.s.f13
      rw [← e12'] at n45'
      have d2' : F_230 (I3 (ty g x)) 0 (I3 (tM g (ty g x))) u = some u1 := d2
      refine ⟨.fin (hrs g y) (hpl g x) _ o p, tl_6 S.w c7 (B9_9 e7) n11 n14 n26 S.f7 S.f8 S.f9 S.f10 S.f11 ?_ D1.d D1.s.r op (Ssc_d D1.a), ⟨g1, ?_, E1.d, E1.r, prR_SRd P E1.a, agr_mono SRd_p E1.a⟩, ?_⟩
      · rw [B29_9 d1 D0.s.f7 n45', e12', C_ty D0.k x1]; simp only [obs]; rw [d2']; simp only [obs]; rw [e13', C_rs D1.k y1]; rfl
      · rw [RR, R_rs K y1]; simp only [obs]; rw [f1]; simp only [obs]; rw [E_many E0 x1]; simp only [obs]; rw [f2]; rfl
      · exact ⟨(Or.inr (Or.inr (Or.inr (Or.inr (Or.inr (Or.inr (Or.inr (Or.inr (Or.inr (Or.inl ⟨rfl, x, y, x1, y1, rfl, resB_x j, rfl, rfl⟩)))))))))), kR_h K y1, kL_h K x1, by omega⟩
theorem rngle1 {α : Type} {x : Int32} {m : Nat} {A C : α} (hm : m < 2147483647) : (if x < 0 then A else if x ≤ I3 m - 1 then C else A) = bif inR x m then C else A := by
  rcases I3_cases x with ⟨k, hk, rfl⟩ | hx
  · rw [if_neg (I3_nn hk), inR_I hk]
    have e : (I3 k ≤ I3 m - 1) = (k < m) := by
      rw [Int32.le_iff_toInt_le, I3_toInt hk, I3_lit, I3m1 (by omega)]
      exact propext ⟨fun z => by omega, fun z => by omega⟩
    by_cases c : k < m
    · rw [if_pos (by rw [e]; exact c), decide_eq_true c]; rfl
    · rw [if_neg (by rw [e]; exact c), decide_eq_false c]; rfl
  · rw [if_pos hx]
    rcases inR_c x m (by omega) with ⟨k, h1, h2, h3⟩ | h3
    · exact absurd h2 (neg_ne_I3 hx (by omega))
    · rw [h3]; rfl
def givB (g : sm_H) (x y n : Nat) : Bool := decide (hrs g y = 0) || decide (at0 (hpl g x) n = hrs g y)
theorem C_given {h g : sm_H} (K : K1 h g) {y : Nat} (y1 : y < nH g) (e13 : h.1 34 13 = I3 y) : F_12 h = some (I3 (gone (hrs g y)), h) := by
  show F_12_0 h = _
  unfold F_12_0 gone
  rw [e13, C_rs K y1]; simp only [obs]
  by_cases q : hrs g y = 0
  · rw [if_pos q, if_pos q]; rfl
  · rw [if_neg q, if_neg q]; rfl
theorem gone_1 (r : Int32) : gone r ≤ 1 := by unfold gone; split <;> omega
theorem C_disG {h g : sm_H} (K : K1 h g) {x y n : Nat} (x1 : x < nH g) (y1 : y < nH g) (e12 : h.1 34 12 = I3 x) (e13 : h.1 34 13 = I3 y) (e8 : h.1 34 8 = I3 n) (hn : n + gone (hrs g y) ≤ (hpl g x).length) : F_17 h = some (b2 (!givB g x y n), h) := by
  show F_17_0 h = _
  simp only [F_17_0, F_17_47, F_17_48, true_or, or_true, if_true, e12, e13, e8, C_rs K y1, obs]
  unfold givB
  unfold gone at hn
  by_cases q : hrs g y = 0
  · rw [if_pos q, decide_eq_true q]; rfl
  · rw [if_neg q] at hn
    rw [if_neg q, decide_eq_false q, C_pc K x1 (by omega)]; simp only [obs, e13, C_rs K y1]
    by_cases q1 : at0 (hpl g x) n = hrs g y
    · rw [if_pos q1, decide_eq_true q1]; rfl
    · rw [if_neg q1, decide_eq_false q1]; rfl
theorem C_mis {h g : sm_H} (K : K1 h g) {x y : Nat} {a : Int32} (x1 : x < nH g) (y1 : y < nH g) (e13 : h.1 34 13 = I3 y) (e8 : h.1 34 8 = a) : F_11_145 (I3 (tM g (ty g x))) h = some (b2 (!inR a ((hpl g x).length + 1 - gone (hrs g y))), h) := by
  have m10 := mn_10 K x1
  have hl := hpl_len g x
  unfold F_11_145 F_11_165 F_11_170
  rw [zz1, e8, C_given K y1 e13]; simp only [obs, true_or, or_true, if_true]
  unfold gone
  by_cases q : hrs g y = 0
  · rw [if_pos q, show I3 (tM g (ty g x)) - I3 0 = I3 (tM g (ty g x)) by rw [I3_sub (by omega)]; rfl, rngle (by omega), hl]
    show _ = some (b2 (!inR a (tM g (ty g x) + 1)), h)
    cases inR a (tM g (ty g x) + 1) <;> rfl
  · rw [if_neg q, show I3 (tM g (ty g x)) - I3 1 = I3 (tM g (ty g x)) - 1 from rfl, rngle1 (by omega), hl]
    show _ = some (b2 (!inR a (tM g (ty g x))), h)
    cases inR a (tM g (ty g x)) <;> rfl
theorem R_mis {h g : sm_H} (K : K1 h g) {x y : Nat} (a : Int32) (x1 : x < nH g) : F_315 (Int32.toInt64 a) 0 (Int32.toInt64 (I3 (tM g (ty g x)) - I3 (gone (hrs g y)))) g = some (b2 (!inR a ((hpl g x).length + 1 - gone (hrs g y))), g) := by
  have m10 := mn_10 K x1
  have hl := hpl_len g x
  unfold gone
  by_cases q : hrs g y = 0
  · rw [if_pos q, show I3 (tM g (ty g x)) - I3 0 = I3 (tM g (ty g x)) by rw [I3_sub (by omega)]; rfl, R_out' (by omega), hl]; rfl
  · rw [if_neg q, hl]
    exact R_outI (n := tM g (ty g x)) (by omega) a
theorem gv_if {g : sm_H} {y : Nat} {α : Type} (X : Int32 → α) : (if hrs g y = 0 then X 0 else X 1) = X (I3 (gone (hrs g y))) := by
  unfold gone
  by_cases q : hrs g y = 0
  · rw [if_pos q, if_pos q]; rfl
  · rw [if_neg q, if_neg q]; rfl
theorem mk_7 {h g : sm_H} (K : K1 h g) (a b : Int32) (c : Int64) {o p : Nat} {ps : List Int32} (S : fS h (I3 7) a 0 0 o p ps) (op : oP o p) (P : prR g ps) : ∃ out, OC h (I3 7) a 0 0 out ∧ OR g (I3 7) a b c out ∧ OK g 7 a 0 0 out := by
  have e7 := S.f7
  have h12 := K.1.2.1
  have w500 : nH g ≤ 500 := K.2.2.2.2.1.1.2
  refine gen2 K S P (by decide) (by decide) (by decide) rfl ((B336_7 _ _ _).trans rfl) rfl rfl (fun x y x1 y1 ep e12 e13 ld ld' c7 R => ?_)
  subst ep
  dsimp only at R
  have m10 := mn_10 K x1
  have m10y := mn_10 K y1
  have hl := hpl_len g x
  have hly := hpl_len g y
  have gv1 := gone_1 (hrs g y)
  have n11 : F_11 h = _ := B11_7 e7 (e12 ▸ C_mn K x1)
  rw [C_mis K x1 y1 e13 S.f8] at n11
  rw [if_neg (by decide), ld] at R; simp only [obs] at R
  rw [ld'] at R; simp only [obs] at R
  rw [R_rs K y1] at R; simp only [obs] at R
  rw [gv_if (g := g) (y := y) (fun v => F_321_46 a (I3 x) (I3 y) v g)] at R
  unfold F_321_46 at R
  rw [R_mn K x1] at R; simp only [obs] at R
  rw [R_mis K a x1 (y := y)] at R; simp only [obs] at R
  rcases inR_c a ((hpl g x).length + 1 - gone (hrs g y)) (by omega) with ⟨n, n1, rfl, i⟩ | i
  · rw [i] at n11 R
    rw [if_pos (by decide)] at R
    have n14 : F_14 h = some (b2 (!givB g x y n), h) := by
      rw [B14_7 e7, C_disG K x1 y1 e12 e13 S.f8 (by omega)]; simp only [obs]
      exact z01 h _
    have f38 : fm g y ≤ 38 := (K.2.2.2.2.1.2 y y1).1.2
    have n26 : F_26 h = some (if fm g y = 2 then I3 x else -1, h) := by
      rw [B26_7 e7]
      unfold F_26_148
      rw [e13, C_fm K y1]; simp only [obs]
      by_cases q : fm g y = 2
      · rw [if_pos (show I3 (fm g y) = (2 : Int32) from congrArg I3 q), if_pos q, e12]; rfl
      · rw [if_neg (show ¬ I3 (fm g y) = (2 : Int32) by rw [I3_lit, I3_inj (by omega) (by decide)]; exact q), if_neg q]; rfl
    have RR : F_336 (I3 7) (I3 n) b c g = ((if givB g x y n = true then F_321_90 (I3 n) (I3 x) (I3 y) (I3 (gone (hrs g y))) g else some (3, g)).bind fun q => some (q.1, q.2)) := by
      rw [R]
      unfold givB
      by_cases q : hrs g y = 0
      · rw [if_neg (show ¬ I3 (gone (hrs g y)) = 1 by unfold gone; rw [if_pos q]; decide), decide_eq_true q, Bool.true_or, if_pos rfl]
      · have gy : gone (hrs g y) = 1 := by unfold gone; rw [if_neg q]
        rw [if_pos (show I3 (gone (hrs g y)) = 1 by rw [gy]; rfl), decide_eq_false q, Bool.false_or, R_pc K x1 (by omega)]; simp only [obs]
        rw [R_rs K y1]; simp only [obs]
        by_cases q1 : at0 (hpl g x) n = hrs g y
        · rw [if_pos q1, if_pos (decide_eq_true q1)]
        · rw [if_neg q1, if_neg (by rw [decide_eq_true_eq]; exact q1)]
    cases j : givB g x y n with
    | false =>
      rw [j] at n14 RR
      exact ⟨.ref 3, tl_4 c7 (B9_7 e7) n11 n14 agr_rfl, ⟨g, RR, agr_rfl⟩, ⟨by decide, by decide⟩⟩
    | true =>
      rw [j] at n14 RR
      rw [if_pos rfl] at RR
      unfold F_321_90 at RR
      rw [R_fm K y1] at RR; simp only [obs] at RR
      by_cases q : fm g y = 2
      · rw [if_pos q] at n26
        rw [if_pos (show I3 (fm g y) = (2 : Int32) from congrArg I3 q)] at RR
        exact ⟨.smp x, tl_5 (by omega) c7 (B9_7 e7) n11 n14 n26 agr_rfl, ⟨g, RR, agr_rfl⟩, x1⟩
      · rw [if_neg q] at n26
        rw [if_neg (show ¬ I3 (fm g y) = (2 : Int32) by rw [I3_lit, I3_inj (by omega) (by decide)]; exact q)] at RR
        obtain ⟨u, d1, D0⟩ := D_begin K S op
        obtain ⟨u1, d2, D1⟩ := D_insideT D0 op x1 rfl (n := n) (t := ty g y) (m := n + gone (hrs g y)) (by omega) (ty_lt K y1) (by omega)
        obtain ⟨g0, f1, E0⟩ := E_clear K (hrs g x)
        obtain ⟨g1, f2, E1⟩ := E_places E0 (i := 0) (j := n) x1 (by omega) (by decide) (by omega)
        rw [List.nil_append, Nat.sub_zero, seg_take (by omega)] at E1
        obtain ⟨g2, f3, E2⟩ := E_all E1 y1 (by rw [List.length_take]; omega)
        obtain ⟨g3, f4, E3⟩ := E_places E2 (i := n + gone (hrs g y)) (j := tM g (ty g x)) x1 (Nat.le_refl _) (by rw [List.length_append, List.length_take]; omega) (by omega)
        rw [seg_drop (L := hpl g x) (by omega), List.append_assoc] at E3
        have n45' := C_mn D0.k x1
        have e12' : u.1 34 12 = I3 x := D0.s.f12
        have e13' : u.1 34 13 = I3 y := D0.s.f13
        rw [← e12'] at n45'
        have f2' : F_310 (I3 x) 0 (I3 n) g0 = some g1 := f2
        refine ⟨.fin (hrs g x) ((hpl g x).take n ++ (hpl g y ++ (hpl g x).drop (n + gone (hrs g y)))) _ o p, tl_6 S.w c7 (B9_7 e7) n11 n14 n26 S.f7 S.f8 S.f9 S.f10 S.f11 ?_ D1.d D1.s.r op (Ssc_d D1.a), ⟨g3, ?_, E3.d, E3.r, prR_SRd P E3.a, agr_mono SRd_p E3.a⟩, ?_⟩
        · rw [B29_7 d1 D0.s.f7 n45', e13', C_ty D0.k y1]; simp only [obs]; rw [C_given D0.k y1 e13']; simp only [obs]; rw [D0.s.f8, I3_add, d2]; rfl
        · rw [RR, R_rs K x1]; simp only [obs]; rw [f1]; simp only [obs]; rw [f2']; simp only [obs]; rw [E_many E1 y1]; simp only [obs]; rw [f3]; simp only [obs]; rw [E_many E2 x1]; simp only [obs]; rw [I3_add, f4]; rfl
        · refine ⟨(Or.inr (Or.inr (Or.inr (Or.inr (Or.inr (Or.inr (Or.inr (Or.inl ⟨rfl, x, y, n, x1, y1, rfl, rfl, by omega, fun z => ?_, rfl, rfl⟩)))))))), kR_h K x1, kL_app (kL_take (kL_h K x1)) (kL_app (kL_h K y1) (kL_drop (kL_h K x1))), by rw [List.length_append, List.length_append, List.length_take, List.length_drop]; omega⟩
          unfold givB at j
          rw [decide_eq_false z, Bool.false_or] at j
          exact of_decide_eq_true j
  · rw [i] at n11 R
    rw [if_neg (by decide)] at R
    exact ⟨.ref 2, tl_3 c7 (B9_7 e7) n11, ⟨g, R, agr_rfl⟩, ⟨by decide, by decide⟩⟩
theorem mk_8 {h g : sm_H} (K : K1 h g) (a b : Int32) (c : Int64) {o p : Nat} {ps : List Int32} (S : fS h (I3 8) a 0 0 o p ps) (op : oP o p) (P : prR g ps) : ∃ out, OC h (I3 8) a 0 0 out ∧ OR g (I3 8) a b c out ∧ OK g 8 a 0 0 out := by
  have e7 := S.f7
  have h12 := K.1.2.1
  have w500 : nH g ≤ 500 := K.2.2.2.2.1.1.2
  refine gen2 K S P (by decide) (by decide) (by decide) rfl ((B336_8 _ _ _).trans rfl) rfl rfl (fun x y x1 y1 ep e12 e13 ld ld' c7 R => ?_)
  subst ep
  dsimp only at R
  have m10 := mn_10 K x1
  have m10y := mn_10 K y1
  have hl := hpl_len g x
  have hly := hpl_len g y
  have gv1 := gone_1 (hrs g y)
  have n11 : F_11 h = _ := B11_8 e7 (e12 ▸ C_mn K x1)
  rw [C_mis K x1 y1 e13 S.f8] at n11
  rw [if_neg (by decide), ld] at R; simp only [obs] at R
  rw [ld'] at R; simp only [obs] at R
  rw [R_rs K y1] at R; simp only [obs] at R
  rw [gv_if (g := g) (y := y) (fun v => F_322_46 a (I3 x) (I3 y) v g)] at R
  unfold F_322_46 at R
  rw [R_mn K x1] at R; simp only [obs] at R
  rw [R_mis K a x1 (y := y)] at R; simp only [obs] at R
  rcases inR_c a ((hpl g x).length + 1 - gone (hrs g y)) (by omega) with ⟨n, n1, rfl, i⟩ | i
  · rw [i] at n11 R
    rw [if_pos (by decide)] at R
    have RR : F_336 (I3 8) (I3 n) b c g = ((if givB g x y n = true then F_322_90 (I3 n) (I3 x) (I3 y) (I3 (gone (hrs g y))) g else some (3, g)).bind fun q => some (q.1, q.2)) := by
      rw [R]
      unfold givB
      by_cases q : hrs g y = 0
      · rw [if_neg (show ¬ I3 (gone (hrs g y)) = 1 by unfold gone; rw [if_pos q]; decide), decide_eq_true q, Bool.true_or, if_pos rfl]
      · have gy : gone (hrs g y) = 1 := by unfold gone; rw [if_neg q]
        rw [if_pos (show I3 (gone (hrs g y)) = 1 by rw [gy]; rfl), decide_eq_false q, Bool.false_or, R_pc K x1 (by omega)]; simp only [obs]
        rw [R_rs K y1]; simp only [obs]
        by_cases q1 : at0 (hpl g x) n = hrs g y
        · rw [if_pos q1, if_pos (decide_eq_true q1)]
        · rw [if_neg q1, if_neg (by rw [decide_eq_true_eq]; exact q1)]
    have n14 := B14_8 e7
    rw [C_disG K x1 y1 e12 e13 S.f8 (by omega)] at n14; simp only [obs] at n14
    cases j : givB g x y n with
    | false =>
      rw [j] at n14 RR
      exact ⟨.ref 3, tl_4 c7 (B9_8 e7) n11 n14 agr_rfl, ⟨g, RR, agr_rfl⟩, ⟨by decide, by decide⟩⟩
    | true =>
      rw [j] at n14 RR
      rw [if_pos (by decide), e13, C_ty K y1] at n14; simp only [obs] at n14
      rw [e12, C_ty K x1] at n14; simp only [obs] at n14
      rw [C_given K y1 e13] at n14; simp only [obs] at n14
      rw [e13, C_mn K y1] at n14; simp only [obs] at n14
      have A := C_agree K (i := 0) (j := n + gone (hrs g y)) (ty_lt K y1) (ty_lt K x1) (by omega) (by have := pl_len g (ty g x); omega)
      rw [Nat.sub_zero, pl_len] at A
      have A' : F_235 (I3 (ty g y)) 0 (I3 (ty g x)) (I3 (n + gone (hrs g y))) (I3 (tM g (ty g y))) h = some (b2 (fitB (hpl g y) (hpl g x) 0 (n + gone (hrs g y))), h) := A
      rw [S.f8, I3_add, A'] at n14; simp only [obs] at n14
      rw [if_pos rfl] at RR
      unfold F_322_90 at RR
      rw [R_rs K x1] at RR; simp only [obs] at RR
      obtain ⟨g0, f1, E0⟩ := E_clear K (hrs g x)
      obtain ⟨g1, f2, E1⟩ := E_places E0 (i := 0) (j := n) x1 (by omega) (by decide) (by omega)
      rw [List.nil_append, Nat.sub_zero, seg_take (by omega)] at E1
      obtain ⟨g3, f4, E3⟩ := E_places E1 (i := n + gone (hrs g y)) (j := tM g (ty g x)) x1 (Nat.le_refl _) (by rw [List.length_take]; omega) (by omega)
      rw [seg_drop (L := hpl g x) (by omega)] at E3
      have f2' : F_310 (I3 x) 0 (I3 n) g0 = some g1 := f2
      rw [f1] at RR; simp only [obs] at RR
      rw [f2'] at RR; simp only [obs] at RR
      rw [E_many E1 x1] at RR; simp only [obs] at RR
      rw [I3_add, f4] at RR; simp only [obs] at RR
      have F1 := R_areFirst E3 (i := 0) (j := n) y1 (by omega) (by omega) (by rw [List.length_append, List.length_take, List.length_drop]; omega)
      have ed : ((hpl g x).take n ++ (hpl g x).drop (n + gone (hrs g y))).drop n = (hpl g x).drop (n + gone (hrs g y)) := List.drop_left' (by rw [List.length_take]; omega)
      rw [fitB_shift ed] at F1
      have F1' : F_312 (I3 y) 0 (I3 n) g3 = some (b2 (fitB (hpl g y) (hpl g x) 0 (n + gone (hrs g y))), g3) := F1
      rw [F1'] at RR; simp only [obs] at RR
      cases k : fitB (hpl g y) (hpl g x) 0 (n + gone (hrs g y)) with
      | false =>
        rw [k] at n14 RR
        exact ⟨.ref 3, tl_4 c7 (B9_8 e7) n11 n14 agr_rfl, ⟨g3, RR, agr_mono SRd_p E3.a⟩, ⟨by decide, by decide⟩⟩
      | true =>
        rw [k] at n14 RR
        obtain ⟨u, d1, D0⟩ := D_begin K S op
        obtain ⟨u1, d2, D1⟩ := D_insideN D0 op x1 rfl (n := n) (m := n + gone (hrs g y)) (by omega) (by omega)
        have n45' := C_mn D0.k x1
        have e12' : u.1 34 12 = I3 x := D0.s.f12
        have e13' : u.1 34 13 = I3 y := D0.s.f13
        rw [← e12'] at n45'
        refine ⟨.fin (hrs g x) ((hpl g x).take n ++ (hpl g x).drop (n + gone (hrs g y))) _ o p, tl_6 S.w c7 (B9_8 e7) n11 n14 (B26_8 e7) S.f7 S.f8 S.f9 S.f10 S.f11 ?_ D1.d D1.s.r op (Ssc_d D1.a), ⟨g3, RR, E3.d, E3.r, prR_SRd P E3.a, agr_mono SRd_p E3.a⟩, ?_⟩
        · rw [B29_8 d1 D0.s.f7 n45', C_given D0.k y1 e13']; simp only [obs]; rw [D0.s.f8, I3_add, d2]; rfl
        · refine ⟨(Or.inr (Or.inr (Or.inr (Or.inr (Or.inr (Or.inr (Or.inr (Or.inr (Or.inl ⟨rfl, x, y, n, x1, y1, rfl, rfl, by omega, fun z => ?_, rfl, rfl, ?_⟩))))))))), kR_h K x1, kL_app (kL_take (kL_h K x1)) (kL_drop (kL_h K x1)), by rw [List.length_append, List.length_take, List.length_drop]; omega⟩
          · unfold givB at j
            rw [decide_eq_false z, Bool.false_or] at j
            exact of_decide_eq_true j
          · rw [ed]; exact fitB_pre k
  · rw [i] at n11 R
    rw [if_neg (by decide)] at R
    exact ⟨.ref 2, tl_3 c7 (B9_8 e7) n11, ⟨g, R, agr_rfl⟩, ⟨by decide, by decide⟩⟩
