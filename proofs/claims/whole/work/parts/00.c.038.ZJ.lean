theorem hC7 {h g : sm_H} (K : K1 h g) {f a b : Int32} {c : Int64} {o p : Nat} {ps : List Int32} (S : fS h f a b c o p ps) (f5 : f ≠ 5) (f18 : f ≠ 18) (f17 : f ≠ 17) (pn : sm_ldI G0 h 1000001 f = some (I3 0)) : (ps = [] ∧ F_7 h = some (0, h)) ∨ (ps.length ≠ 0 ∧ F_7 h = some (1, h)) := by
  have := C_lacksP K S (n := 0) (by decide) f5 f18 f17 pn
  by_cases q : ps.length = 0
  · have e := List.eq_nil_of_length_eq_zero q
    subst e
    exact Or.inl ⟨rfl, this⟩
  · rw [decide_eq_false q] at this
    exact Or.inr ⟨q, this⟩
theorem C45m {h g : sm_H} (K : K1 h g) : F_45 (-1) h = some (0, h) := C_placesOf_o K.2.2.2.2.1 K.2.2.2.2.2.1 (inR_m1 _)
theorem agr_fS {h h1 : sm_H} {f a b : Int32} {c : Int64} {o p : Nat} {ps : List Int32} (S : fS h f a b c o p ps) (op : o = 35 ∧ p = 36 ∨ o = 56 ∧ p = 57 ∨ o = 64 ∧ p = 65) (ag : agr SCd h h1) : fS h1 f a b c o p ps := by
  have e : ∀ j, h1.1 34 j = h.1 34 j := fun j => ag.1 34 j (by unfold SCd; omega)
  refine ⟨(e 7).trans S.f7, (e 8).trans S.f8, (e 9).trans S.f9, (ag.2.1 34 10 (by unfold SCd; omega)).trans S.f10, ?_, (e 12).trans S.f12, (e 13).trans S.f13, (e 14).trans S.f14, S.w, hasL_agr S.r ag (fun j => by unfold SCd; omega)⟩
  have := S.f11
  show h1.2.2.1 34 11 = some o
  rw [ag.2.2.1 34 11 (by unfold SCd; omega)]
  exact this
theorem Ssc_d {h h1 : sm_H} (a : agr SCd h h1) : agr Ssc h h1 := agr_mono (fun _ _ z => Or.inl z) a
theorem e67 {g : sm_H} {ps : List Int32} (P : prR g ps) (q : ps.length ≠ 0) : (g.1 67 3 = I3 0) = False := by
  have := P.2.1
  rw [P.1]; exact eq_false (by rw [I3_inj (by omega) (by decide)]; exact q)
theorem genA {h g : sm_H} (K : K1 h g) {n : Nat} {f a b a' b' : Int32} {c c' : Int64} {o p : Nat} {ps : List Int32} (S : fS h f a' b' c' o p ps) (op : o = 35 ∧ p = 36 ∨ o = 56 ∧ p = 57 ∨ o = 64 ∧ p = 65) (P : prR g ps) (f5 : f ≠ 5) (f18 : f ≠ 18) (f17 : f ≠ 17) (pn : sm_ldI G0 h 1000001 f = some (I3 0)) (cd : Bool) {r : Int32} {l : List Int32}
    (n9 : ps = [] → F_9 h = some (b2 (!cd), h)) (n11 : ps = [] → F_11 h = some (0, h)) (n14 : F_14 h = some (0, h)) (n26 : F_26 h = some (-1, h))
    (n29 : ps = [] → cd = true → ∃ h3, F_29 h = some (r, h3) ∧ dC h3 l ∧ agr SCd h h3)
    (rf : g.1 67 3 ≠ 0 → F_336 f a b c g = some (1, g)) (r0 : g.1 67 3 = 0 → cd = false → ∃ g1, F_336 f a b c g = some (1, g1) ∧ agr SRp g g1)
    (r1 : g.1 67 3 = 0 → cd = true → ∃ g1, F_336 f a b c g = some (0, g1) ∧ dR g1 l ∧ agr SRd g g1 ∧ g1.1 67 20 = r)
    (ok : cd = true → FS g n a' b' c' [] r l ∧ kR1 g r ∧ kL g l ∧ l.length ≤ 64) : ∃ out, OC h f a' b' c' out ∧ OR g f a b c out ∧ OK g n a' b' c' out := by
  rcases hC7 K S f5 f18 f17 pn with ⟨rfl, q7⟩ | ⟨q, q7⟩
  · have P3 : g.1 67 3 = 0 := P.1
    cases cd with
    | false =>
      obtain ⟨g1, z1, z2⟩ := r0 P3 rfl
      exact ⟨.ref 1, tl_2 q7 (n9 rfl), ⟨g1, z1, z2⟩, ⟨by decide, by decide⟩⟩
    | true =>
      obtain ⟨h3, y1, y2, y3⟩ := n29 rfl rfl
      obtain ⟨g1, z1, z2, z3, z4⟩ := r1 P3 rfl
      refine ⟨.fin r l [] o p, tl_6 S.w q7 (n9 rfl) (n11 rfl) n14 n26 S.f7 S.f8 S.f9 S.f10 S.f11 y1 y2 (agr_fS S op y3).r op (Ssc_d y3), ⟨g1, z1, z2, z4, ?_, agr_mono SRd_p z3⟩, ok rfl⟩
      exact ⟨by rw [z3.1 67 3 (by unfold SRd; omega)]; exact P.1, P.2.1, fun k hk => by cases hk⟩
  · refine ⟨.ref 1, tl_1 q7, ⟨g, rf ?_, agr_rfl⟩, ⟨by decide, by decide⟩⟩
    have := e67 P q
    exact fun z => this.mp z
theorem n11_0 {h g : sm_H} (K : K1 h g) {f a b : Int32} {c : Int64} {o p : Nat} (S : fS h f a b c o p []) : h.1 34 12 = -I3 1 ∧ F_45 (-I3 1) h = some (0, h) := ⟨S.f12, C45m K⟩
abbrev D (h u g : sm_H) (f a b : Int32) (c : Int64) (o p : Nat) (ps l : List Int32) : Prop := (K1 u g) ∧ (fS u f a b c o p ps) ∧ (dC u l) ∧ (agr SCd h u)
theorem D.k {h u g : sm_H} {f a b : Int32} {c : Int64} {o p : Nat} {ps l : List Int32} (F_ : D h u g f a b c o p ps l) : K1 u g := F_.1
theorem D.s {h u g : sm_H} {f a b : Int32} {c : Int64} {o p : Nat} {ps l : List Int32} (F_ : D h u g f a b c o p ps l) : fS u f a b c o p ps := F_.2.1
theorem D.d {h u g : sm_H} {f a b : Int32} {c : Int64} {o p : Nat} {ps l : List Int32} (F_ : D h u g f a b c o p ps l) : dC u l := F_.2.2.1
theorem D.a {h u g : sm_H} {f a b : Int32} {c : Int64} {o p : Nat} {ps l : List Int32} (F_ : D h u g f a b c o p ps l) : agr SCd h u := F_.2.2.2
theorem D_begin {h g : sm_H} (K : K1 h g) {f a b : Int32} {c : Int64} {o p : Nat} {ps : List Int32} (S : fS h f a b c o p ps) (op : o = 35 ∧ p = 36 ∨ o = 56 ∧ p = 57 ∨ o = 64 ∧ p = 65) : ∃ u, F_228 h = some u ∧ D h u g f a b c o p ps [] := by
  obtain ⟨h0, b1, b2', b3⟩ := C_begin h
  exact ⟨h0, b1, K1_h K (agr_mono SCd_not b3), agr_fS S op b3, b2', b3⟩
theorem D_with {h u g : sm_H} {f a b : Int32} {c : Int64} {o p : Nat} {ps l : List Int32} (d : D h u g f a b c o p ps l) (op : o = 35 ∧ p = 36 ∨ o = 56 ∧ p = 57 ∨ o = 64 ∧ p = 65) (x : Int32) (hl : l.length < 100) : ∃ u1, F_229 x u = some u1 ∧ D h u1 g f a b c o p ps (l ++ [x]) := by
  obtain ⟨h1, c1, c2, c3⟩ := C_with d.d (by omega) x
  exact ⟨h1, c1, K1_h d.k (agr_mono SCd_not c3), agr_fS d.s op c3, c2, agr_trans d.a c3⟩
theorem D_places {h u g : sm_H} {f a b : Int32} {c : Int64} {o p : Nat} {ps l : List Int32} (d : D h u g f a b c o p ps l) (op : o = 35 ∧ p = 36 ∨ o = 56 ∧ p = 57 ∨ o = 64 ∧ p = 65) {t i j : Nat} (ht : t < nT g) (hj : j ≤ tM g t) (hi : i ≤ 1000) (hl : l.length ≤ 100) : ∃ u1, F_230 (I3 t) (I3 i) (I3 j) u = some u1 ∧ D h u1 g f a b c o p ps (l ++ seg (pl g t) i (j - i)) := by
  obtain ⟨h1, c1, c2, c3⟩ := C_withPlaces d.k d.d hl ht hj hi
  exact ⟨h1, c1, K1_h d.k (agr_mono SCd_not c3), agr_fS d.s op c3, c2, agr_trans d.a c3⟩
theorem D_type {h u g : sm_H} {f a b : Int32} {c : Int64} {o p : Nat} {ps l : List Int32} (d : D h u g f a b c o p ps l) (op : o = 35 ∧ p = 36 ∨ o = 56 ∧ p = 57 ∨ o = 64 ∧ p = 65) {t : Nat} (ht : t < nT g) (hl : l.length ≤ 100) : ∃ u1, F_31 (I3 t) u = some (rs g t, u1) ∧ D h u1 g f a b c o p ps (l ++ pl g t) := by
  have wT := d.k.2.2.1
  have T1 := C_tmany wT d.k.2.2.2.1 ht
  have mm : g.1 73 t = I3 (tM g t) := (wT.2.1 _ ht).2.1.1
  rw [mm] at T1
  obtain ⟨u1, c1, D1⟩ := D_places d op (i := 0) (j := tM g t) ht (Nat.le_refl _) (by omega) hl
  have T2 := C_tres wT D1.k.2.2.2.1 ht
  have ln : (pl g t).length = tM g t := lst_len _ _
  rw [Nat.sub_zero, ← ln, seg_all] at D1
  refine ⟨u1, ?_, D1⟩
  show F_31_0 (I3 t) u = _
  unfold F_31_0
  rw [T1]; simp only [Option.bind_some]
  have c1' : F_230 (I3 t) 0 (I3 (tM g t)) u = some u1 := c1
  rw [c1']; simp only [Option.bind_some]
  rw [T2]; rfl
theorem rr_1 (g : sm_H) (r x : Int32) : ∃ g0 g1, F_308 r g = some g0 ∧ F_309 x g0 = some g1 ∧ dR g1 [x] ∧ agr SRd g g1 ∧ g1.1 67 20 = r := by
  obtain ⟨g0, f1, f2, f3, f4⟩ := R_clear g r
  obtain ⟨g1, r1, r2, r3, r4⟩ := R_addNew f2 (by decide) x
  rw [List.nil_append] at r2
  exact ⟨g0, g1, f1, r1, r2, agr_trans f3 r3, r4.trans f4⟩
theorem rr_2 (g : sm_H) (r x y : Int32) : ∃ g0 g1 g2, F_308 r g = some g0 ∧ F_309 x g0 = some g1 ∧ F_309 y g1 = some g2 ∧ dR g2 [x, y] ∧ agr SRd g g2 ∧ g2.1 67 20 = r := by
  obtain ⟨g0, g1, f1, r1, r2, r3, r4⟩ := rr_1 g r x
  obtain ⟨g2, s1, s2, s3, s4⟩ := R_addNew r2 (Nat.le_of_ble_eq_true rfl) y
  exact ⟨g0, g1, g2, f1, r1, s1, s2, agr_trans r3 s3, s4.trans r4⟩
theorem len1 (x : Int32) : [x].length ≤ 64 := Nat.le_of_ble_eq_true rfl
theorem len2 (x y : Int32) : [x, y].length ≤ 64 := Nat.le_of_ble_eq_true rfl
theorem kV_0 {g : sm_H} (wK : wfK g) {a : Int32} (kv : kV g a = false) : inR a (20 + nC g) = false ∨ (inR a (20 + nC g) = true ∧ a = I3 0) := by
  unfold kV at kv
  cases i : inR a (20 + nC g) with
  | false => exact Or.inl rfl
  | true =>
    rw [i, Bool.true_and] at kv
    exact Or.inr ⟨rfl, Classical.not_not.mp (of_decide_eq_false kv)⟩
theorem z01 (h : sm_H) (b : Bool) : (if b2 b = 0 ∨ b2 b = 1 then some (b2 b, h) else none) = some (b2 b, h) := if_pos (b2_ok b)
theorem zz0 (h : sm_H) : (if (0 : Int32) = 0 ∨ (0 : Int32) = 1 then some ((0 : Int32), h) else none) = some (0, h) := if_pos (Or.inl rfl)
theorem zz1 (h : sm_H) : (if (1 : Int32) = 0 ∨ (1 : Int32) = 1 then some ((1 : Int32), h) else none) = some (1, h) := if_pos (Or.inr rfl)
theorem notb (h : sm_H) (b : Bool) : (if b2 b = 0 then (some ((1 : Int32), h) : Option (Int32 × sm_H)) else some (0, h)) = some (b2 (!b), h) := by cases b <;> rfl
theorem s335 {g : sm_H} (f a b : Int32) (z : g.1 67 3 ≠ 0) : F_335 f a b g = F_335_12 f a b 0 g := if_neg z
theorem s335' {g : sm_H} (f a b : Int32) (z : g.1 67 3 = 0) : F_335 f a b g = F_335_12 f a b 1 g := if_pos z
theorem n11d {h g : sm_H} (K : K1 h g) {f a b : Int32} {c : Int64} {o p : Nat} (S : fS h f a b c o p []) : F_45 (h.1 34 12) h = some (0, h) := by rw [S.f12]; exact C45m K
theorem mk_2 {h g : sm_H} (K : K1 h g) {a : Int32} {o p : Nat} {ps : List Int32} (S : fS h (I3 2) a 0 0 o p ps) (op : o = 35 ∧ p = 36 ∨ o = 56 ∧ p = 57 ∨ o = 64 ∧ p = 65) (P : prR g ps) (b : Int32) (c : Int64) : ∃ out, OC h (I3 2) a 0 0 out ∧ OR g (I3 2) a b c out ∧ OK g 2 a 0 0 out := by
  have wK := K.1
  have h12 := wK.2.1
  have R1 := R_kind wK a
  have HV := C_hasV wK K.2.1 a
  have e7 := S.f7
  refine genA (r := a) (l := [a]) K S op P (by decide) (by decide) (by decide) rfl (kV g a) (fun _ => ?_) (fun z => ?_) (B14_2 e7) (B26_2 e7) (fun z _ => ?_) (fun z => ?_) (fun z kv => ?_) (fun z kv => ?_) (fun kv => ?_)
  · rw [B9_2 e7, S.f8, HV]; simp only [Option.bind_some, F_9_218, true_or, or_true, if_true]
    exact notb h _
  · subst z; rw [B11_2 e7 (n11d K S)]; rfl
  · subst z
    obtain ⟨u, d1, D0⟩ := D_begin K S op
    obtain ⟨u1, d2, D1⟩ := D_with D0 op a (by decide)
    refine ⟨u1, ?_, D1.d, D1.a⟩
    rw [B29_2 d1 D0.s.f7 (n11d D0.k D0.s)]; unfold F_29_461
    rw [B32_2 D0.s.f7, D0.s.f8, d2]; simp only [Option.bind_some]
    rw [D1.s.f8]
  · rw [B336_2]; unfold F_336_257; rw [s335 _ _ _ z, B335_2]; rfl
  · refine ⟨g, ?_, agr_rfl⟩
    rw [B336_2]; unfold F_336_257; rw [s335' _ _ _ z, B335_2, if_neg (by decide), R1]; simp only [Option.bind_some]
    rcases kV_0 wK kv with i | ⟨i, rfl⟩
    · rw [i]; rfl
    · rw [i]; rfl
  · obtain ⟨k, rfl, k1, k2⟩ := (kV_iff wK).mp kv
    obtain ⟨g0, g1, f1, r1, r2, r3, r4⟩ := rr_1 g (I3 k) (I3 k)
    refine ⟨g1, ?_, r2, r3, r4⟩
    rw [show inR (I3 k) (20 + nC g) = true by rw [inR_I (by omega)]; simp [k2]] at R1
    rw [B336_2]; unfold F_336_257; rw [s335' _ _ _ z, B335_2, if_neg (by decide), R1]; simp only [Option.bind_some]
    rw [if_neg (by decide), if_neg (by rw [I3_lit, I3_inj (by omega) (by decide)]; omega), f1]; simp only [Option.bind_some]
    rw [r1]; rfl
  · obtain ⟨k, rfl, k1, k2⟩ := (kV_iff wK).mp kv
    exact ⟨Or.inr (Or.inr (Or.inl ⟨rfl, rfl, rfl, rfl, k, k1, k2, rfl⟩)), ⟨k, rfl, k2⟩, kL_1 k1 k2, len1 _⟩
theorem R_out12 {h : sm_H} (x : Int32) : F_315 x.toInt64 0 12 h = some (b2 (!inR x 13), h) := R_outI (n := 13) (by decide) x
theorem mk_3 {h g : sm_H} (K : K1 h g) {a b : Int32} {o p : Nat} {ps : List Int32} (S : fS h (I3 3) a b 0 o p ps) (op : o = 35 ∧ p = 36 ∨ o = 56 ∧ p = 57 ∨ o = 64 ∧ p = 65) (P : prR g ps) (c : Int64) : ∃ out, OC h (I3 3) a b 0 out ∧ OR g (I3 3) a b c out ∧ OK g 3 a b 0 out := by
  have wK := K.1
  have h12 := wK.2.1
  have e7 := S.f7
  have RO := R_out12 (h := g) a
  refine genA (r := if 10 < a then 1 else b) (l := [b, b]) K S op P (by decide) (by decide) (by decide) rfl (inR a 13 && (decide (b = 5) || decide (b = 6))) (fun _ => ?_) (fun z => ?_) (B14_3 e7) (B26_3 e7) (fun z kv => ?_) (fun z => ?_) (fun z kv => ?_) (fun z kv => ?_) (fun kv => ?_)
  · rw [B9_3 e7, S.f8, S.f9]; unfold F_9_252 F_9_256 F_9_257; rw [zz0, zz1]
    have q99 : ∀ (A B : Option (Int32 × sm_H)), (if a < 0 then A else if 12 < a then A else B) = bif inR a 13 then B else A := fun A B => by
      rcases I3_cases a with ⟨k, hk, rfl⟩ | hx
      · rw [if_neg (I3_nn hk), inR_I hk]
        by_cases c : k < 13
        · rw [if_neg (by rw [I3_lit, I3_lt (by decide) hk]; omega), decide_eq_true c]; rfl
        · rw [if_pos (by rw [I3_lit, I3_lt (by decide) hk]; omega), decide_eq_false c]; rfl
      · rw [if_pos hx]
        rcases inR_c a 13 (by decide) with ⟨k, h1, h2, h3⟩ | h3
        · exact absurd h2 (neg_ne_I3 hx (by omega))
        · rw [h3]; rfl
    rw [q99]
    cases inR a 13 with
    | false => rfl
    | true =>
      by_cases c5 : b = 5
      · rw [if_pos c5, decide_eq_true c5]; rfl
      · rw [if_neg c5, decide_eq_false c5]
        by_cases c6 : b = 6
        · rw [if_pos c6, decide_eq_true c6]; rfl
        · rw [if_neg c6, decide_eq_false c6]; rfl
  · subst z; rw [B11_3 e7 (n11d K S)]; rfl
  · subst z
    obtain ⟨u, d1, D0⟩ := D_begin K S op
    obtain ⟨u1, d2, D1⟩ := D_with D0 op b (by decide)
    obtain ⟨u2, d3, D2⟩ := D_with D1 op b (Nat.le_of_ble_eq_true rfl)
    refine ⟨u2, ?_, D2.d, D2.a⟩
    rw [B29_3 d1 D0.s.f7 (n11d D0.k D0.s)]; unfold F_29_461
    rw [B32_3 D0.s.f7, D0.s.f9, d2]; simp only [Option.bind_some]
    rw [D1.s.f9, d3]; simp only [Option.bind_some]
    rw [D2.s.f8, D2.s.f9]; unfold F_32_219
    rw [Bool.and_eq_true] at kv
    obtain ⟨k, k1, rfl⟩ := inR_x (by decide) kv.1
    by_cases q : k < 11
    · rw [if_pos (by rw [I3_lit, I3_lt (by omega) (by decide)]; exact q), if_neg (by rw [I3_lit, I3_lt (by decide) (by omega)]; omega)]; rfl
    · rw [if_neg (by rw [I3_lit, I3_lt (by omega) (by decide)]; exact q), if_pos (by rw [I3_lit, I3_lt (by decide) (by omega)]; omega)]; rfl
  · rw [B336_3]; unfold F_336_257; rw [s335 _ _ _ z, B335_3]; rfl
  · refine ⟨g, ?_, agr_rfl⟩
    rw [B336_3]; unfold F_336_257; rw [s335' _ _ _ z, B335_3, if_neg (by decide), RO]; simp only [Option.bind_some]
    cases i : inR a 13 with
    | false => rfl
    | true =>
      rw [i, Bool.true_and, Bool.or_eq_false_iff, decide_eq_false_iff_not, decide_eq_false_iff_not] at kv
      rw [if_pos (by decide), if_neg kv.1, if_neg kv.2]; rfl
  · rw [Bool.and_eq_true] at kv
    obtain ⟨k, k1, rfl⟩ := inR_x (by decide) kv.1
    rw [kv.1] at RO
    have b56 : b = 5 ∨ b = 6 := by simpa using kv.2
    obtain ⟨g0, g1, g2, f1, r1, r1', r2, r3, r4⟩ := rr_2 g (if 10 < I3 k then 1 else b) b b
    refine ⟨g2, ?_, r2, r3, r4⟩
    have key : F_335_248 (I3 k) b g = some (0, g2) := by
      unfold F_335_248 F_335_260
      by_cases q : k < 11
      · rw [if_neg (by rw [I3_lit, I3_lt (by decide) (by omega)]; omega)] at f1
        rw [if_pos (by rw [I3_lit, I3_le (by omega) (by decide)]; omega), f1]; simp only [Option.bind_some]
        rw [r1]; simp only [Option.bind_some]
        rw [r1']; rfl
      · rw [if_pos (by rw [I3_lit, I3_lt (by decide) (by omega)]; omega)] at f1
        rw [if_neg (by rw [I3_lit, I3_le (by omega) (by decide)]; omega), f1]; simp only [Option.bind_some]
        rw [r1]; simp only [Option.bind_some]
        rw [r1']; rfl
    rw [B336_3]; unfold F_336_257; rw [s335' _ _ _ z, B335_3, if_neg (by decide), RO]; simp only [Option.bind_some]
    rw [if_pos (by decide)]
    rcases b56 with q | q
    · rw [if_pos q, key]; rfl
    · rw [if_neg (by rw [q]; decide), if_pos q, key]; rfl
  · rw [Bool.and_eq_true] at kv
    obtain ⟨k, k1, rfl⟩ := inR_x (by decide) kv.1
    have b56 : b = 5 ∨ b = 6 := by simpa using kv.2
    have kb : ∃ w, (w = 5 ∨ w = 6) ∧ b = I3 w := by rcases b56 with q | q; exact ⟨5, Or.inl rfl, q⟩; exact ⟨6, Or.inr rfl, q⟩
    obtain ⟨w, w1, rfl⟩ := kb
    have er : (if 10 < I3 k then (1 : Int32) else I3 w) = if 10 < k then 1 else I3 w := by
      by_cases q : 10 < k
      · rw [if_pos q, if_pos (by rw [I3_lit, I3_lt (by decide) (by omega)]; exact q)]
      · rw [if_neg q, if_neg (by rw [I3_lit, I3_lt (by decide) (by omega)]; exact q)]
    rw [er]
    refine ⟨Or.inr (Or.inr (Or.inr (Or.inl ⟨rfl, rfl, rfl, k, w, by omega, rfl, w1, rfl, rfl⟩))), ?_, kL_app (kL_1 (by omega) (by omega)) (kL_1 (by omega) (by omega)), len2 _ _⟩
    split
    · exact ⟨1, rfl, by omega⟩
    · exact ⟨w, rfl, by omega⟩
