theorem R_out' {h : sm_H} {m : Nat} (hm : m < 2147483647) (x : Int32) : F_315 x.toInt64 0 (I3 m).toInt64 h = some (b2 (!inR x (m + 1)), h) := by
  have := R_outI (h := h) (n := m + 1) (by omega) x
  rw [I3_sub (by omega)] at this; exact this
theorem rngle {α : Type} {x : Int32} {m : Nat} {A C : α} (hm : m < 2147483647) : (if x < 0 then A else if x ≤ I3 m then C else A) = bif inR x (m + 1) then C else A := by
  rcases I3_cases x with ⟨k, hk, rfl⟩ | hx
  · rw [if_neg (I3_nn hk), inR_I hk]
    by_cases c : k < m + 1
    · rw [if_pos (by rw [I3_le hk (by omega)]; omega), decide_eq_true c]; rfl
    · rw [if_neg (by rw [I3_le hk (by omega)]; omega), decide_eq_false c]; rfl
  · rw [if_pos hx]
    rcases inR_c x (m + 1) (by omega) with ⟨k, h1, h2, h3⟩ | h3
    · exact absurd h2 (neg_ne_I3 hx (by omega))
    · rw [h3]; rfl
theorem D_insideT {h u g : sm_H} {f b : Int32} {c : Int64} {o p x n t m : Nat} {ps : List Int32} (d : D h u g f (I3 n) b c o p ps []) (op : oP o p) (hx : x < nH g) (e0 : at1 ps 0 = I3 x) (hn : n ≤ (hpl g x).length) (ht : t < nT g) (hm : m ≤ (hpl g x).length) : ∃ u1, F_30 (I3 t) (I3 m) u = some (hrs g x, u1) ∧ D h u1 g f (I3 n) b c o p ps ((hpl g x).take n ++ (pl g t ++ (hpl g x).drop m)) := by
  have m10 := mn_10 d.k hx
  have t10 : tM g t ≤ 10 := (d.k.2.2.1.2.1 t ht).2.1.2
  have hl := hpl_len g x
  obtain ⟨u1, v1, D1⟩ := D_places d op (t := ty g x) (i := 0) (j := n) (ty_lt d.k hx) (by omega) (by omega) (by decide)
  rw [List.nil_append, Nat.sub_zero] at D1
  obtain ⟨u2, v2, D2⟩ := D_places D1 op (t := t) (i := 0) (j := tM g t) ht (Nat.le_refl _) (by omega) (by rw [seg_len]; omega)
  rw [Nat.sub_zero, ← pl_len, seg_all] at D2
  obtain ⟨u3, v3, D3⟩ := D_places D2 op (t := ty g x) (i := m) (j := tM g (ty g x)) (ty_lt d.k hx) (Nat.le_refl _) (by omega) (by rw [List.length_append, seg_len, pl_len]; omega)
  rw [seg_take hn, seg_drop (L := pl g (ty g x)) (by have := pl_len g (ty g x); omega), List.append_assoc] at D3
  refine ⟨u3, ?_, D3⟩
  show F_30_0 (I3 t) (I3 m) u = _
  unfold F_30_0
  have v1' : F_230 (I3 (ty g x)) 0 (I3 n) u = some u1 := v1
  have v2' : F_230 (I3 t) 0 (I3 (tM g t)) u1 = some u2 := v2
  have c1 := C_tmany d.k.2.2.1 D1.k.2.2.2.1 ht
  rw [(d.k.2.2.1.2.1 t ht).2.1.1] at c1
  rw [d.s.f12, e0, C_ty d.k hx]; simp only [Option.bind_some]; rw [d.s.f8, v1']; simp only [Option.bind_some]; rw [c1]; simp only [Option.bind_some]; rw [v2']; simp only [Option.bind_some]; rw [D2.s.f12, e0, C_ty D2.k hx]; simp only [Option.bind_some]; rw [D2.s.f12, e0, C_mn D2.k hx]; simp only [Option.bind_some]; rw [v3]; simp only [Option.bind_some]; rw [D3.s.f12, e0, C_rs D3.k hx]; rfl
theorem D_insideN {h u g : sm_H} {f b : Int32} {c : Int64} {o p x n m : Nat} {ps : List Int32} (d : D h u g f (I3 n) b c o p ps []) (op : oP o p) (hx : x < nH g) (e0 : at1 ps 0 = I3 x) (hn : n ≤ (hpl g x).length) (hm : m ≤ (hpl g x).length) : ∃ u1, F_30 (-1) (I3 m) u = some (hrs g x, u1) ∧ D h u1 g f (I3 n) b c o p ps ((hpl g x).take n ++ (hpl g x).drop m) := by
  have m10 := mn_10 d.k hx
  have hl := hpl_len g x
  obtain ⟨u1, v1, D1⟩ := D_places d op (t := ty g x) (i := 0) (j := n) (ty_lt d.k hx) (by omega) (by omega) (by decide)
  rw [List.nil_append, Nat.sub_zero] at D1
  obtain ⟨u3, v3, D3⟩ := D_places D1 op (t := ty g x) (i := m) (j := tM g (ty g x)) (ty_lt d.k hx) (Nat.le_refl _) (by omega) (by rw [seg_len]; omega)
  rw [seg_take hn, seg_drop (L := pl g (ty g x)) (by have := pl_len g (ty g x); omega)] at D3
  refine ⟨u3, ?_, D3⟩
  show F_30_0 (-1) (I3 m) u = _
  unfold F_30_0
  have v1' : F_230 (I3 (ty g x)) 0 (I3 n) u = some u1 := v1
  have v2' : F_230 (-1) 0 0 u1 = some u1 := rfl
  have c1 := C_tmany_o d.k.2.2.1 D1.k.2.2.2.1 (inR_m1 (nT g))
  rw [d.s.f12, e0, C_ty d.k hx]; simp only [Option.bind_some]; rw [d.s.f8, v1']; simp only [Option.bind_some]; rw [c1]; simp only [Option.bind_some]; rw [v2']; simp only [Option.bind_some]; rw [D1.s.f12, e0, C_ty D1.k hx]; simp only [Option.bind_some]; rw [D1.s.f12, e0, C_mn D1.k hx]; simp only [Option.bind_some]; rw [v3]; simp only [Option.bind_some]; rw [D3.s.f12, e0, C_rs D3.k hx]; rfl
theorem mk_1 {h g : sm_H} (K : K1 h g) (a b : Int32) (c : Int64) {o p : Nat} {ps : List Int32} (S : fS h (I3 1) 0 0 0 o p ps) (op : oP o p) (P : prR g ps) : ∃ out, OC h (I3 1) 0 0 0 out ∧ OR g (I3 1) a b c out ∧ OK g 1 0 0 0 out := by
  have e7 := S.f7
  have h12 := K.1.2.1
  have hF : ∀ X, F_335_12 (I3 1) a b 0 g = X → F_335_12 (I3 1) a b 1 g = X → F_336 (I3 1) a b c g = X.bind fun q => some (q.1, q.2) := fun X x0 x1 => by
    rw [B336_1]; unfold F_336_257
    by_cases z : g.1 67 3 = 0
    · rw [s335' _ _ _ z, x1]
    · rw [s335 _ _ _ z, x0]
  refine gen1 K S P (by decide) (by decide) (by decide) rfl (hF _ (B335_1 _ _ _) (B335_1 _ _ _)) rfl rfl (fun x x1 ep e12 ld c7 R => ?_)
  subst ep
  dsimp only at R
  obtain ⟨u, d1, D0⟩ := D_begin K S op
  obtain ⟨g0, y1, E0⟩ := E_clear K 18
  have n45 := C_mn K x1
  have n45' := C_mn D0.k x1
  rw [← e12] at n45
  rw [show I3 x = u.1 34 12 from (D0.s.f12.trans rfl).symm] at n45'
  refine ⟨.fin 18 [] _ o p, tl_6 S.w c7 (B9_1 e7) (B11_1 e7 n45) (B14_1 e7) (B26_1 e7) S.f7 S.f8 S.f9 S.f10 S.f11 ?_ D0.d D0.s.r op (Ssc_d D0.a), ⟨g0, ?_, E0.d, E0.r, ?_, agr_mono SRd_p E0.a⟩, ?_⟩
  · rw [B29_1 d1 D0.s.f7 n45']; unfold F_29_461; rw [B32_1 D0.s.f7]; rfl
  · rw [R, if_neg (by decide), y1]; rfl
  · exact prR_SRd P E0.a
  · exact ⟨(Or.inr (Or.inl ⟨rfl, ⟨x, x1, rfl⟩, rfl, rfl⟩)), ⟨18, rfl, by omega⟩, kL_0, by decide⟩
theorem mk_4 {h g : sm_H} (K : K1 h g) (a b : Int32) (c : Int64) {o p : Nat} {ps : List Int32} (S : fS h (I3 4) a b 0 o p ps) (op : oP o p) (P : prR g ps) : ∃ out, OC h (I3 4) a b 0 out ∧ OR g (I3 4) a b c out ∧ OK g 4 a b 0 out := by
  have e7 := S.f7
  have wT := K.2.2.1
  have w300 : nT g ≤ 300 := wT.1.2
  have w500 : nH g ≤ 500 := K.2.2.2.2.1.1.2
  refine gen1 K S P (by decide) (by decide) (by decide) rfl ((B336_4 _ _ _).trans rfl) rfl rfl (fun x x1 ep e12 ld c7 R => ?_)
  subst ep
  dsimp only at R
  have m10 := mn_10 K x1
  have hl := hpl_len g x
  have n9 := (B9_4 e7).trans (n9_272 K S.f9)
  have RT := R_isT wT b
  rw [if_neg (by decide)] at R
  rcases inR_c b (nT g) (by omega) with ⟨t, t1, rfl, i⟩ | i
  · rw [i] at n9 RT
    rw [RT] at R; simp only [Option.bind_some] at R
    rw [if_neg (by decide), ld] at R; simp only [Option.bind_some] at R
    rw [R_mn K x1] at R; simp only [Option.bind_some] at R
    rw [R_out' (by omega)] at R; simp only [Option.bind_some] at R
    have n45 := C_mn K x1
    have n11 := B11_4 e7 (e12 ▸ n45)
    rw [S.f8, rngle (by omega)] at n11
    have m10t : tM g t ≤ 10 := (wT.2.1 t t1).2.1.2
    have t10 : (pl g t).length ≤ 10 := by rw [pl_len]; exact m10t
    have n26 := B26_4 e7
    have c1 := C_tmany wT K.2.2.2.1 t1
    rw [(wT.2.1 t t1).2.1.1] at c1
    rw [S.f9, c1] at n26; simp only [Option.bind_some] at n26
    rcases inR_c a (tM g (ty g x) + 1) (by omega) with ⟨n, n1, rfl, j⟩ | j
    · rw [j] at n11 R
      rw [if_pos (by decide), ldI_I (by omega) (by omega), (wT.2.1 t t1).2.1.1] at R; simp only [Option.bind_some] at R
      by_cases q : tM g t = 0
      · rw [if_pos (show I3 (tM g t) = (0 : Int32) from congrArg I3 q), e12] at n26
        rw [if_pos (show I3 (tM g t) = (0 : Int32) from congrArg I3 q)] at R
        exact ⟨.smp x, tl_5 (by omega) c7 n9 n11 (B14_4 e7) n26 agr_rfl, ⟨g, R, agr_rfl⟩, x1⟩
      · have q' : ¬ I3 (tM g t) = 0 := by rw [I3_lit, I3_inj (by omega) (by decide)]; exact q
        rw [if_neg q'] at n26 R
        obtain ⟨u, d1, D0⟩ := D_begin K S op
        obtain ⟨u1, d2, D1⟩ := D_insideT D0 op x1 rfl (n := n) (t := t) (m := n) (by omega) t1 (by omega)
        obtain ⟨g0, y1, E0⟩ := E_clear K (hrs g x)
        obtain ⟨g1, y2, E1⟩ := E_places E0 (i := 0) (j := n) x1 (by omega) (by decide) (by omega)
        rw [List.nil_append, Nat.sub_zero, seg_take (by omega)] at E1
        obtain ⟨g2, y3, E2⟩ := E_type E1 t1 (by rw [List.length_take]; omega)
        obtain ⟨g3, y4, E3⟩ := E_places E2 (i := n) (j := tM g (ty g x)) x1 (Nat.le_refl _) (by rw [List.length_append, List.length_take]; omega) (by omega)
        rw [seg_drop (L := hpl g x) (by omega), List.append_assoc] at E3
        have y2' : F_310 (I3 x) 0 (I3 n) g0 = some g1 := y2
        have n45' := C_mn D0.k x1
        rw [show I3 x = u.1 34 12 from (D0.s.f12.trans rfl).symm] at n45'
        refine ⟨.fin (hrs g x) ((hpl g x).take n ++ (pl g t ++ (hpl g x).drop n)) _ o p, tl_6 S.w c7 n9 n11 (B14_4 e7) n26 S.f7 S.f8 S.f9 S.f10 S.f11 ?_ D1.d D1.s.r op (Ssc_d D1.a), ⟨g3, ?_, E3.d, E3.r, prR_SRd P E3.a, agr_mono SRd_p E3.a⟩, ?_⟩
        · rw [B29_4 d1 D0.s.f7 n45', D0.s.f9, D0.s.f8, d2]; rfl
        · rw [R, R_rs K x1]; simp only [Option.bind_some]; rw [y1]; simp only [Option.bind_some]; rw [y2']; simp only [Option.bind_some]; rw [y3]; simp only [Option.bind_some]; rw [E_many E2 x1]; simp only [Option.bind_some]; rw [y4]; rfl
        · exact ⟨(Or.inr (Or.inr (Or.inr (Or.inr (Or.inl ⟨rfl, x, n, t, x1, rfl, by omega, rfl, t1, rfl, rfl, rfl⟩))))), kR_h K x1, kL_app (kL_take (kL_h K x1)) (kL_app (kL_pl wT t1) (kL_drop (kL_h K x1))), by rw [List.length_append, List.length_append, List.length_take, List.length_drop]; omega⟩
    · rw [j] at n11 R
      rw [if_neg (by decide)] at R
      exact ⟨.ref 2, tl_3 c7 n9 n11, ⟨g, R, agr_rfl⟩, ⟨by decide, by decide⟩⟩
  · rw [i] at n9 RT
    rw [RT] at R; simp only [Option.bind_some] at R
    rw [if_pos (by decide)] at R
    exact ⟨.ref 1, tl_2 c7 n9, ⟨g, R, agr_rfl⟩, ⟨by decide, by decide⟩⟩
