theorem hC7 {h g : sm_H} (K : K1 h g) {f a b : Int32} {c : Int64} {o p : Nat} {ps : List Int32} (S : fS h f a b c o p ps) (f5 : f ≠ 5) (f18 : f ≠ 18) (f17 : f ≠ 17) (pn : sm_ldI G0 h 1000001 f = some (I3 0)) : (ps = [] ∧ F_7 h = some (0, h)) ∨ (ps.length ≠ 0 ∧ F_7 h = some (1, h)) := by
  have := C_lacksP K S (n := 0) (by decide) f5 f18 f17 pn
  by_cases q : ps.length = 0
  · have e := List.eq_nil_of_length_eq_zero q
    subst e
    exact Or.inl ⟨rfl, this⟩
  · rw [decide_eq_false q] at this
    exact Or.inr ⟨q, this⟩
theorem C45m {h g : sm_H} (K : K1 h g) : F_45 (-1) h = some (0, h) := C_placesOf_o K.2.2.2.2.1 K.2.2.2.2.2.1 (inR_m1 _)
theorem agr_fS {h h1 : sm_H} {f a b : Int32} {c : Int64} {o p : Nat} {ps : List Int32} (S : fS h f a b c o p ps) (op : o = 35 ∧ p = 36 ∨ o = 56 ∧ p = 57 ∨ o = 64 ∧ p = 65) (ag : agr SCd h h1) : fS h1 f a b c o p ps := by
  have e : ∀ j, h1.1 34 j = h.1 34 j := fun j => ag.1 34 j (by unfold SCd; omega)
  refine ⟨(e 7).trans S.f7, (e 8).trans S.f8, (e 9).trans S.f9, (ag.2.1 34 10 (by unfold SCd; omega)).trans S.f10, ?_, (e 12).trans S.f12, (e 13).trans S.f13, (e 14).trans S.f14, S.w, hasL_agr S.r ag (fun j => by unfold SCd; omega)⟩
  have := S.f11
  show h1.2.2.1 34 11 = some o
  rw [ag.2.2.1 34 11 (by unfold SCd; omega)]
  exact this
theorem Ssc_d {h h1 : sm_H} (a : agr SCd h h1) : agr Ssc h h1 := agr_mono (fun _ _ z => Or.inl z) a
theorem e67 {g : sm_H} {ps : List Int32} (P : prR g ps) (q : ps.length ≠ 0) : (g.1 67 3 = I3 0) = False := by
  have := P.2.1
  rw [P.1]; exact eq_false (by rw [I3_inj (by omega) (by decide)]; exact q)
theorem genA {h g : sm_H} (K : K1 h g) {n : Nat} {f a b a' b' : Int32} {c c' : Int64} {o p : Nat} {ps : List Int32} (S : fS h f a' b' c' o p ps) (op : o = 35 ∧ p = 36 ∨ o = 56 ∧ p = 57 ∨ o = 64 ∧ p = 65) (P : prR g ps) (f5 : f ≠ 5) (f18 : f ≠ 18) (f17 : f ≠ 17) (pn : sm_ldI G0 h 1000001 f = some (I3 0)) (cd : Bool) {r : Int32} {l : List Int32}
    (n9 : ps = [] → F_9 h = some (b2 (!cd), h)) (n11 : ps = [] → F_11 h = some (0, h)) (n14 : F_14 h = some (0, h)) (n26 : F_26 h = some (-1, h))
    (n29 : ps = [] → cd = true → ∃ h3, F_29 h = some (r, h3) ∧ dC h3 l ∧ agr SCd h h3)
    (rf : g.1 67 3 ≠ 0 → F_336 f a b c g = some (1, g)) (r0 : g.1 67 3 = 0 → cd = false → ∃ g1, F_336 f a b c g = some (1, g1) ∧ agr SRp g g1)
    (r1 : g.1 67 3 = 0 → cd = true → ∃ g1, F_336 f a b c g = some (0, g1) ∧ dR g1 l ∧ agr SRd g g1 ∧ g1.1 67 20 = r)
    (ok : cd = true → FS g n a' b' c' [] r l ∧ kR1 g r ∧ kL g l ∧ l.length ≤ 64) : ∃ out, OC h f a' b' c' out ∧ OR g f a b c out ∧ OK g n a' b' c' out := by
  rcases hC7 K S f5 f18 f17 pn with ⟨rfl, q7⟩ | ⟨q, q7⟩
  · have P3 : g.1 67 3 = 0 := P.1
    cases cd with
    | false =>
      obtain ⟨g1, z1, z2⟩ := r0 P3 rfl
      exact ⟨.ref 1, tl_2 q7 (n9 rfl), ⟨g1, z1, z2⟩, ⟨by decide, by decide⟩⟩
    | true =>
      obtain ⟨h3, y1, y2, y3⟩ := n29 rfl rfl
      obtain ⟨g1, z1, z2, z3, z4⟩ := r1 P3 rfl
      refine ⟨.fin r l [] o p, tl_6 S.w q7 (n9 rfl) (n11 rfl) n14 n26 S.f7 S.f8 S.f9 S.f10 S.f11 y1 y2 (agr_fS S op y3).r op (Ssc_d y3), ⟨g1, z1, z2, z4, ?_, agr_mono SRd_p z3⟩, ok rfl⟩
      exact ⟨by rw [z3.1 67 3 (by unfold SRd; omega)]; exact P.1, P.2.1, fun k hk => by cases hk⟩
  · refine ⟨.ref 1, tl_1 q7, ⟨g, rf ?_, agr_rfl⟩, ⟨by decide, by decide⟩⟩
    have := e67 P q
    exact fun z => this.mp z
theorem n11_0 {h g : sm_H} (K : K1 h g) {f a b : Int32} {c : Int64} {o p : Nat} (S : fS h f a b c o p []) : h.1 34 12 = -I3 1 ∧ F_45 (-I3 1) h = some (0, h) := ⟨S.f12, C45m K⟩
abbrev D (h u g : sm_H) (f a b : Int32) (c : Int64) (o p : Nat) (ps l : List Int32) : Prop := (K1 u g) ∧ (fS u f a b c o p ps) ∧ (dC u l) ∧ (agr SCd h u)
theorem D.k {h u g : sm_H} {f a b : Int32} {c : Int64} {o p : Nat} {ps l : List Int32} (F_ : D h u g f a b c o p ps l) : K1 u g := F_.1
theorem D.s {h u g : sm_H} {f a b : Int32} {c : Int64} {o p : Nat} {ps l : List Int32} (F_ : D h u g f a b c o p ps l) : fS u f a b c o p ps := F_.2.1
theorem D.d {h u g : sm_H} {f a b : Int32} {c : Int64} {o p : Nat} {ps l : List Int32} (F_ : D h u g f a b c o p ps l) : dC u l := F_.2.2.1
theorem D.a {h u g : sm_H} {f a b : Int32} {c : Int64} {o p : Nat} {ps l : List Int32} (F_ : D h u g f a b c o p ps l) : agr SCd h u := F_.2.2.2
theorem D_begin {h g : sm_H} (K : K1 h g) {f a b : Int32} {c : Int64} {o p : Nat} {ps : List Int32} (S : fS h f a b c o p ps) (op : o = 35 ∧ p = 36 ∨ o = 56 ∧ p = 57 ∨ o = 64 ∧ p = 65) : ∃ u, F_228 h = some u ∧ D h u g f a b c o p ps [] := by
  obtain ⟨h0, b1, b2', b3⟩ := C_begin h
  exact ⟨h0, b1, K1_h K (agr_mono SCd_not b3), agr_fS S op b3, b2', b3⟩
theorem D_with {h u g : sm_H} {f a b : Int32} {c : Int64} {o p : Nat} {ps l : List Int32} (d : D h u g f a b c o p ps l) (op : o = 35 ∧ p = 36 ∨ o = 56 ∧ p = 57 ∨ o = 64 ∧ p = 65) (x : Int32) (hl : l.length < 100) : ∃ u1, F_229 x u = some u1 ∧ D h u1 g f a b c o p ps (l ++ [x]) := by
  obtain ⟨h1, c1, c2, c3⟩ := C_with d.d (by omega) x
  exact ⟨h1, c1, K1_h d.k (agr_mono SCd_not c3), agr_fS d.s op c3, c2, agr_trans d.a c3⟩
theorem D_places {h u g : sm_H} {f a b : Int32} {c : Int64} {o p : Nat} {ps l : List Int32} (d : D h u g f a b c o p ps l) (op : o = 35 ∧ p = 36 ∨ o = 56 ∧ p = 57 ∨ o = 64 ∧ p = 65) {t i j : Nat} (ht : t < nT g) (hj : j ≤ tM g t) (hi : i ≤ 1000) (hl : l.length ≤ 100) : ∃ u1, F_230 (I3 t) (I3 i) (I3 j) u = some u1 ∧ D h u1 g f a b c o p ps (l ++ seg (pl g t) i (j - i)) := by
  obtain ⟨h1, c1, c2, c3⟩ := C_withPlaces d.k d.d hl ht hj hi
  exact ⟨h1, c1, K1_h d.k (agr_mono SCd_not c3), agr_fS d.s op c3, c2, agr_trans d.a c3⟩
theorem D_type {h u g : sm_H} {f a b : Int32} {c : Int64} {o p : Nat} {ps l : List Int32} (d : D h u g f a b c o p ps l) (op : o = 35 ∧ p = 36 ∨ o = 56 ∧ p = 57 ∨ o = 64 ∧ p = 65) {t : Nat} (ht : t < nT g) (hl : l.length ≤ 100) : ∃ u1, F_31 (I3 t) u = some (rs g t, u1) ∧ D h u1 g f a b c o p ps (l ++ pl g t) := by
  have wT := d.k.2.2.1
  have T1 := C_tmany wT d.k.2.2.2.1 ht
  have mm : g.1 73 t = I3 (tM g t) := (wT.2.1 _ ht).2.1.1
  rw [mm] at T1
  obtain ⟨u1, c1, D1⟩ := D_places d op (i := 0) (j := tM g t) ht (Nat.le_refl _) (by omega) hl
  have T2 := C_tres wT D1.k.2.2.2.1 ht
  have ln : (pl g t).length = tM g t := lst_len _ _
  rw [Nat.sub_zero, ← ln, seg_all] at D1
  refine ⟨u1, ?_, D1⟩
  show F_31_0 (I3 t) u = _
  unfold F_31_0
  rw [T1]; simp only [Option.bind_some]
  have c1' : F_230 (I3 t) 0 (I3 (tM g t)) u = some u1 := c1
  rw [c1']; simp only [Option.bind_some]
  rw [T2]; rfl
theorem rr_1 (g : sm_H) (r x : Int32) : ∃ g0 g1, F_308 r g = some g0 ∧ F_309 x g0 = some g1 ∧ dR g1 [x] ∧ agr SRd g g1 ∧ g1.1 67 20 = r := by
  obtain ⟨g0, f1, f2, f3, f4⟩ := R_clear g r
  obtain ⟨g1, r1, r2, r3, r4⟩ := R_addNew f2 (by decide) x
  rw [List.nil_append] at r2
  exact ⟨g0, g1, f1, r1, r2, agr_trans f3 r3, r4.trans f4⟩
theorem rr_2 (g : sm_H) (r x y : Int32) : ∃ g0 g1 g2, F_308 r g = some g0 ∧ F_309 x g0 = some g1 ∧ F_309 y g1 = some g2 ∧ dR g2 [x, y] ∧ agr SRd g g2 ∧ g2.1 67 20 = r := by
  obtain ⟨g0, g1, f1, r1, r2, r3, r4⟩ := rr_1 g r x
  obtain ⟨g2, s1, s2, s3, s4⟩ := R_addNew r2 (Nat.le_of_ble_eq_true rfl) y
  exact ⟨g0, g1, g2, f1, r1, s1, s2, agr_trans r3 s3, s4.trans r4⟩
theorem len1 (x : Int32) : [x].length ≤ 64 := Nat.le_of_ble_eq_true rfl
theorem len2 (x y : Int32) : [x, y].length ≤ 64 := Nat.le_of_ble_eq_true rfl
theorem kV_0 {g : sm_H} (wK : wfK g) {a : Int32} (kv : kV g a = false) : inR a (20 + nC g) = false ∨ (inR a (20 + nC g) = true ∧ a = I3 0) := by
  unfold kV at kv
  cases i : inR a (20 + nC g) with
  | false => exact Or.inl rfl
  | true =>
    rw [i, Bool.true_and] at kv
    exact Or.inr ⟨rfl, Classical.not_not.mp (of_decide_eq_false kv)⟩
theorem z01 (h : sm_H) (b : Bool) : (if b2 b = 0 ∨ b2 b = 1 then some (b2 b, h) else none) = some (b2 b, h) := if_pos (b2_ok b)
theorem zz0 (h : sm_H) : (if (0 : Int32) = 0 ∨ (0 : Int32) = 1 then some ((0 : Int32), h) else none) = some (0, h) := if_pos (Or.inl rfl)
theorem zz1 (h : sm_H) : (if (1 : Int32) = 0 ∨ (1 : Int32) = 1 then some ((1 : Int32), h) else none) = some (1, h) := if_pos (Or.inr rfl)
theorem notb (h : sm_H) (b : Bool) : (if b2 b = 0 then (some ((1 : Int32), h) : Option (Int32 × sm_H)) else some (0, h)) = some (b2 (!b), h) := by cases b <;> rfl
theorem s335 {g : sm_H} (f a b : Int32) (z : g.1 67 3 ≠ 0) : F_335 f a b g = F_335_12 f a b 0 g := if_neg z
theorem s335' {g : sm_H} (f a b : Int32) (z : g.1 67 3 = 0) : F_335 f a b g = F_335_12 f a b 1 g := if_pos z
theorem n11d {h g : sm_H} (K : K1 h g) {f a b : Int32} {c : Int64} {o p : Nat} (S : fS h f a b c o p []) : F_45 (h.1 34 12) h = some (0, h) := by rw [S.f12]; exact C45m K
theorem mk_2 {h g : sm_H} (K : K1 h g) {a : Int32} {o p : Nat} {ps : List Int32} (S : fS h (I3 2) a 0 0 o p ps) (op : o = 35 ∧ p = 36 ∨ o = 56 ∧ p = 57 ∨ o = 64 ∧ p = 65) (P : prR g ps) (b : Int32) (c : Int64) : ∃ out, OC h (I3 2) a 0 0 out ∧ OR g (I3 2) a b c out ∧ OK g 2 a 0 0 out := by
  have wK := K.1
  have h12 := wK.2.1
  have R1 := R_kind wK a
  have HV := C_hasV wK K.2.1 a
  have e7 := S.f7
  refine genA (r := a) (l := [a]) K S op P (by decide) (by decide) (by decide) rfl (kV g a) (fun _ => ?_) (fun z => ?_) (B14_2 e7) (B26_2 e7) (fun z _ => ?_) (fun z => ?_) (fun z kv => ?_) (fun z kv => ?_) (fun kv => ?_)
  · rw [B9_2 e7, S.f8, HV]; simp only [Option.bind_some, F_9_218, true_or, or_true, if_true]
    exact notb h _
  · subst z; rw [B11_2 e7 (n11d K S)]; rfl
  · subst z
    obtain ⟨u, d1, D0⟩ := D_begin K S op
    obtain ⟨u1, d2, D1⟩ := D_with D0 op a (by decide)
    refine ⟨u1, ?_, D1.d, D1.a⟩
    rw [B29_2 d1 D0.s.f7 (n11d D0.k D0.s)]; unfold F_29_461
    rw [B32_2 D0.s.f7, D0.s.f8, d2]; simp only [Option.bind_some]
    rw [D1.s.f8]
  · rw [B336_2]; unfold F_336_257; rw [s335 _ _ _ z, B335_2]; rfl
  · refine ⟨g, ?_, agr_rfl⟩
    rw [B336_2]; unfold F_336_257; rw [s335' _ _ _ z, B335_2, if_neg (by decide), R1]; simp only [Option.bind_some]
    rcases kV_0 wK kv with i | ⟨i, rfl⟩
    · rw [i]; rfl
    · rw [i]; rfl
  · obtain ⟨k, rfl, k1, k2⟩ := (kV_iff wK).mp kv
    obtain ⟨g0, g1, f1, r1, r2, r3, r4⟩ := rr_1 g (I3 k) (I3 k)
    refine ⟨g1, ?_, r2, r3, r4⟩
    rw [show inR (I3 k) (20 + nC g) = true by rw [inR_I (by omega)]; simp [k2]] at R1
    rw [B336_2]; unfold F_336_257; rw [s335' _ _ _ z, B335_2, if_neg (by decide), R1]; simp only [Option.bind_some]
    rw [if_neg (by decide), if_neg (by rw [I3_lit, I3_inj (by omega) (by decide)]; omega), f1]; simp only [Option.bind_some]
    rw [r1]; rfl
  · obtain ⟨k, rfl, k1, k2⟩ := (kV_iff wK).mp kv
    exact ⟨Or.inr (Or.inr (Or.inl ⟨rfl, rfl, rfl, rfl, k, k1, k2, rfl⟩)), ⟨k, rfl, k2⟩, kL_1 k1 k2, len1 _⟩
theorem R_out12 {h : sm_H} (x : Int32) : F_315 x.toInt64 0 12 h = some (b2 (!inR x 13), h) := R_outI (n := 13) (by decide) x
theorem mk_3 {h g : sm_H} (K : K1 h g) {a b : Int32} {o p : Nat} {ps : List Int32} (S : fS h (I3 3) a b 0 o p ps) (op : o = 35 ∧ p = 36 ∨ o = 56 ∧ p = 57 ∨ o = 64 ∧ p = 65) (P : prR g ps) (c : Int64) : ∃ out, OC h (I3 3) a b 0 out ∧ OR g (I3 3) a b c out ∧ OK g 3 a b 0 out := by
  have wK := K.1
  have h12 := wK.2.1
  have e7 := S.f7
  have RO := R_out12 (h := g) a
  refine genA (r := if 10 < a then 1 else b) (l := [b, b]) K S op P (by decide) (by decide) (by decide) rfl (inR a 13 && (decide (b = 5) || decide (b = 6))) (fun _ => ?_) (fun z => ?_) (B14_3 e7) (B26_3 e7) (fun z kv => ?_) (fun z => ?_) (fun z kv => ?_) (fun z kv => ?_) (fun kv => ?_)
  · rw [B9_3 e7, S.f8, S.f9]; unfold F_9_252 F_9_256 F_9_257; rw [zz0, zz1]
    have q99 : ∀ (A B : Option (Int32 × sm_H)), (if a < 0 then A else if 12 < a then A else B) = bif inR a 13 then B else A := fun A B => by
      rcases I3_cases a with ⟨k, hk, rfl⟩ | hx
      · rw [if_neg (I3_nn hk), inR_I hk]
        by_cases c : k < 13
        · rw [if_neg (by rw [I3_lit, I3_lt (by decide) hk]; omega), decide_eq_true c]; rfl
        · rw [if_pos (by rw [I3_lit, I3_lt (by decide) hk]; omega), decide_eq_false c]; rfl
      · rw [if_pos hx]
        rcases inR_c a 13 (by decide) with ⟨k, h1, h2, h3⟩ | h3
        · exact absurd h2 (neg_ne_I3 hx (by omega))
        · rw [h3]; rfl
    rw [q99]
    cases inR a 13 with
    | false => rfl
    | true =>
      by_cases c5 : b = 5
      · rw [if_pos c5, decide_eq_true c5]; rfl
      · rw [if_neg c5, decide_eq_false c5]
        by_cases c6 : b = 6
        · rw [if_pos c6, decide_eq_true c6]; rfl
        · rw [if_neg c6, decide_eq_false c6]; rfl
  · subst z; rw [B11_3 e7 (n11d K S)]; rfl
  · subst z
    obtain ⟨u, d1, D0⟩ := D_begin K S op
    obtain ⟨u1, d2, D1⟩ := D_with D0 op b (by decide)
    obtain ⟨u2, d3, D2⟩ := D_with D1 op b (Nat.le_of_ble_eq_true rfl)
    refine ⟨u2, ?_, D2.d, D2.a⟩
    rw [B29_3 d1 D0.s.f7 (n11d D0.k D0.s)]; unfold F_29_461
    rw [B32_3 D0.s.f7, D0.s.f9, d2]; simp only [Option.bind_some]
    rw [D1.s.f9, d3]; simp only [Option.bind_some]
    rw [D2.s.f8, D2.s.f9]; unfold F_32_219
    rw [Bool.and_eq_true] at kv
    obtain ⟨k, k1, rfl⟩ := inR_x (by decide) kv.1
    by_cases q : k < 11
    · rw [if_pos (by rw [I3_lit, I3_lt (by omega) (by decide)]; exact q), if_neg (by rw [I3_lit, I3_lt (by decide) (by omega)]; omega)]; rfl
    · rw [if_neg (by rw [I3_lit, I3_lt (by omega) (by decide)]; exact q), if_pos (by rw [I3_lit, I3_lt (by decide) (by omega)]; omega)]; rfl
  · rw [B336_3]; unfold F_336_257; rw [s335 _ _ _ z, B335_3]; rfl
  · refine ⟨g, ?_, agr_rfl⟩
    rw [B336_3]; unfold F_336_257; rw [s335' _ _ _ z, B335_3, if_neg (by decide), RO]; simp only [Option.bind_some]
    cases i : inR a 13 with
    | false => rfl
    | true =>
      rw [i, Bool.true_and, Bool.or_eq_false_iff, decide_eq_false_iff_not, decide_eq_false_iff_not] at kv
      rw [if_pos (by decide), if_neg kv.1, if_neg kv.2]; rfl
  · rw [Bool.and_eq_true] at kv
    obtain ⟨k, k1, rfl⟩ := inR_x (by decide) kv.1
    rw [kv.1] at RO
    have b56 : b = 5 ∨ b = 6 := by simpa using kv.2
    obtain ⟨g0, g1, g2, f1, r1, r1', r2, r3, r4⟩ := rr_2 g (if 10 < I3 k then 1 else b) b b
    refine ⟨g2, ?_, r2, r3, r4⟩
    have key : F_335_248 (I3 k) b g = some (0, g2) := by
      unfold F_335_248 F_335_260
      by_cases q : k < 11
      · rw [if_neg (by rw [I3_lit, I3_lt (by decide) (by omega)]; omega)] at f1
        rw [if_pos (by rw [I3_lit, I3_le (by omega) (by decide)]; omega), f1]; simp only [Option.bind_some]
        rw [r1]; simp only [Option.bind_some]
        rw [r1']; rfl
      · rw [if_pos (by rw [I3_lit, I3_lt (by decide) (by omega)]; omega)] at f1
        rw [if_neg (by rw [I3_lit, I3_le (by omega) (by decide)]; omega), f1]; simp only [Option.bind_some]
        rw [r1]; simp only [Option.bind_some]
        rw [r1']; rfl
    rw [B336_3]; unfold F_336_257; rw [s335' _ _ _ z, B335_3, if_neg (by decide), RO]; simp only [Option.bind_some]
    rw [if_pos (by decide)]
    rcases b56 with q | q
    · rw [if_pos q, key]; rfl
    · rw [if_neg (by rw [q]; decide), if_pos q, key]; rfl
  · rw [Bool.and_eq_true] at kv
    obtain ⟨k, k1, rfl⟩ := inR_x (by decide) kv.1
    have b56 : b = 5 ∨ b = 6 := by simpa using kv.2
    have kb : ∃ w, (w = 5 ∨ w = 6) ∧ b = I3 w := by rcases b56 with q | q; exact ⟨5, Or.inl rfl, q⟩; exact ⟨6, Or.inr rfl, q⟩
    obtain ⟨w, w1, rfl⟩ := kb
    have er : (if 10 < I3 k then (1 : Int32) else I3 w) = if 10 < k then 1 else I3 w := by
      by_cases q : 10 < k
      · rw [if_pos q, if_pos (by rw [I3_lit, I3_lt (by decide) (by omega)]; exact q)]
      · rw [if_neg q, if_neg (by rw [I3_lit, I3_lt (by decide) (by omega)]; exact q)]
    rw [er]
    refine ⟨Or.inr (Or.inr (Or.inr (Or.inl ⟨rfl, rfl, rfl, k, w, by omega, rfl, w1, rfl, rfl⟩))), ?_, kL_app (kL_1 (by omega) (by omega)) (kL_1 (by omega) (by omega)), len2 _ _⟩
    split
    · exact ⟨1, rfl, by omega⟩
    · exact ⟨w, rfl, by omega⟩
def rowB (a : Int32) : Bool := decide (a = 15 ∨ a = 16 ∨ a = 17)
theorem rowB_x {a : Int32} (h : rowB a = true) : ∃ k, 15 ≤ k ∧ k ≤ 17 ∧ a = I3 k := by
  rcases of_decide_eq_true h with rfl | rfl | rfl
  · exact ⟨15, by decide, by decide, rfl⟩
  · exact ⟨16, by decide, by decide, rfl⟩
  · exact ⟨17, by decide, by decide, rfl⟩
theorem rowB_I {a : Nat} (ha : a < 2147483648) : rowB (I3 a) = decide (15 ≤ a ∧ a ≤ 17) := by
  unfold rowB
  congr 1
  simp only [I3_lit, I3_inj ha (show 15 < 2147483648 by decide), I3_inj ha (show 16 < 2147483648 by decide), I3_inj ha (show 17 < 2147483648 by decide)]
  exact propext ⟨by omega, by omega⟩
theorem rowB_n {a : Int32} (h : a < 0) : rowB a = false := by
  unfold rowB
  rw [decide_eq_false_iff_not]
  rintro (q | q | q) <;> · rw [q] at h; exact absurd h (by decide)
theorem lt_of_neg {a : Int32} (h : a < 0) {n : Nat} (hn : n < 2147483648) : a < I3 n := neg_lt_I3 h hn
theorem C_isRowX (h : sm_H) (a : Int32) : F_59 a h = some (b2 (rowB a), h) := by
  rcases I3_cases a with ⟨k, hk, rfl⟩ | q
  · rw [C_isRow hk, rowB_I hk]
  · rw [rowB_n q]
    show F_59_0 a h = _
    unfold F_59_0
    rw [if_pos (show a < (15 : Int32) from neg_lt_I3 q (a := 15) (by decide))]; rfl
theorem R_isRowX (h : sm_H) (a : Int32) : F_293 a h = some (b2 (rowB a), h) := by
  rcases I3_cases a with ⟨k, hk, rfl⟩ | q
  · rw [R_isRow hk, rowB_I hk]
  · rw [rowB_n q]
    show F_293_0 a h = _
    unfold F_293_0
    rw [if_pos (show a < (15 : Int32) from neg_lt_I3 q (a := 15) (by decide))]; rfl
theorem R_elem (h : sm_H) {k : Nat} (k1 : 15 ≤ k) (k2 : k ≤ 17) : F_294 (I3 k) h = some (I3 (k - 10), h) := by
  rcases (show k = 15 ∨ k = 16 ∨ k = 17 by omega) with rfl | rfl | rfl <;> rfl
theorem len_a1 {l : List Int32} {x : Int32} : (l ++ [x]).length = l.length + 1 := by simp
theorem D_chg {h u g : sm_H} {f a b : Int32} {c : Int64} {o p : Nat} {ps l : List Int32} (d : D h u g f a b c o p ps l) (op : o = 35 ∧ p = 36 ∨ o = 56 ∧ p = 57 ∨ o = 64 ∧ p = 65) (e : Int32) {w : Nat} (w1 : 4 ≤ w) (w2 : w ≤ 8) (hl : l.length < 90) : ∃ u1, F_33 e (I3 w) u = some (chgR e w, u1) ∧ D h u1 g f a b c o p ps (l ++ chgL e w) := by
  obtain ⟨u1, v1, D1⟩ := D_with d op e (by omega)
  obtain ⟨u2, v2, D2⟩ := D_with D1 op e (by rw [len_a1]; omega)
  rcases (show w = 4 ∨ w = 5 ∨ w = 6 ∨ w = 7 ∨ w = 8 by omega) with rfl | rfl | rfl | rfl | rfl
  · exact ⟨u, rfl, by rw [show chgL e 4 = [] from rfl, List.append_nil]; exact d⟩
  · refine ⟨u1, ?_, D1⟩
    show F_33_0 e (I3 5) u = _
    unfold F_33_0
    rw [if_neg (by decide), v1]; rfl
  · refine ⟨u1, ?_, D1⟩
    show F_33_0 e (I3 6) u = _
    unfold F_33_0
    rw [if_neg (by decide), v1]; rfl
  · refine ⟨u2, ?_, by rw [List.append_assoc] at D2; exact D2⟩
    show F_33_0 e (I3 7) u = _
    unfold F_33_0
    rw [if_neg (by decide), v1]; simp only [Option.bind_some]
    unfold F_33_13
    rw [if_pos (by decide), v2]; rfl
  · refine ⟨u1, ?_, D1⟩
    show F_33_0 e (I3 8) u = _
    unfold F_33_0
    rw [if_neg (by decide), v1]; rfl
theorem n9_350 {h : sm_H} {a : Int32} (e8 : h.1 34 8 = a) : F_9_350 h = some (b2 (!rowB a), h) := by
  unfold F_9_350
  rw [e8, C_isRowX]; simp only [Option.bind_some, F_9_369, true_or, or_true, if_true]
  exact notb h _
theorem n9_272 {h g : sm_H} (K : K1 h g) {b : Int32} (e9 : h.1 34 9 = b) : F_9_272 h = some (b2 (!inR b (nT g)), h) := by
  unfold F_9_272
  rw [e9, C_hasT K.2.2.1 K.2.2.2.1]; simp only [Option.bind_some, F_9_291, true_or, or_true, if_true]
  exact notb h _
theorem D_row {h u g : sm_H} {f k : Nat} {b : Int32} {c : Int64} {o p : Nat} {ps : List Int32} (f1 : 22 ≤ f) (f2 : f ≤ 26) (k1 : 15 ≤ k) (k2 : k ≤ 17) (d : D h u g (I3 f) (I3 k) b c o p ps []) (op : o = 35 ∧ p = 36 ∨ o = 56 ∧ p = 57 ∨ o = 64 ∧ p = 65) : ∃ u1, F_32_304 u = some (chgR (I3 (k - 10)) (f - 18), u1) ∧ D h u1 g (I3 f) (I3 k) b c o p ps (I3 k :: 5 :: chgL (I3 (k - 10)) (f - 18)) := by
  obtain ⟨u1, v1, D1⟩ := D_with d op (I3 k) (by decide)
  obtain ⟨u2, v2, D2⟩ := D_with D1 op 5 (Nat.le_of_ble_eq_true rfl)
  obtain ⟨u3, v3, D3⟩ := D_chg D2 op (I3 (k - 10)) (w := f - 18) (by omega) (by omega) (Nat.le_of_ble_eq_true rfl)
  refine ⟨u3, ?_, D3⟩
  unfold F_32_304
  rw [d.s.f8, v1]; simp only [Option.bind_some]
  rw [v2]; simp only [Option.bind_some]
  rw [D2.s.f8, C_elem k1 k2]; simp only [Option.bind_some]
  rw [D2.s.f7]
  have : I3 f - 22 + 4 = I3 (f - 18) := by
    rw [I3_lit, I3_lit, I3_sub (by omega), I3_add]
    show I3 (f - 22 + 4) = _
    congr 1; omega
  rw [this, v3]; rfl
theorem R_row (g : sm_H) {f k : Nat} (f1 : 22 ≤ f) (f2 : f ≤ 26) (k1 : 15 ≤ k) (k2 : k ≤ 17) : ∃ g1, F_334_28 (I3 f) (I3 k) g = some (0, g1) ∧ dR g1 (I3 k :: 5 :: chgL (I3 (k - 10)) (f - 18)) ∧ agr SRd g g1 ∧ g1.1 67 20 = chgR (I3 (k - 10)) (f - 18) := by
  have E := R_elem g k1 k2
  revert E
  generalize I3 (k - 10) = x
  intro E
  obtain ⟨g0, g1, g2, y1, y2, y3, y4, y5, y6⟩ := rr_2 g (chgR (x) (f - 18)) (I3 k) 5
  obtain ⟨g3, z1, z2, z3, z4⟩ := R_addNew y4 (Nat.le_of_ble_eq_true rfl) (x)
  obtain ⟨g4, x1, x2, x3, x4⟩ := R_addNew z2 (Nat.le_of_ble_eq_true rfl) (x)
  have e : ∀ (r : Int32) (X : Option (Int32 × sm_H)), F_308 r g = some g0 → (I3 f = 22 → F_334_120 (I3 f) (x) g2 = X) → (I3 f ≠ 22 → F_334_120 (I3 f) (x) g3 = X) → F_334_75 (I3 f) (I3 k) (x) r g = X := fun r X e1 e2 e3 => by
    unfold F_334_75
    rw [e1]; simp only [Option.bind_some]
    rw [if_neg (by rw [I3_lit, I3_inj (by omega) (by decide)]; omega), y2]; simp only [Option.bind_some]
    rw [if_neg (by rw [I3_lit, I3_inj (by omega) (by decide)]; omega), y3]; simp only [Option.bind_some]
    by_cases q : I3 f = 22
    · rw [if_pos q]; exact e2 q
    · rw [if_neg q, z1]; simp only [Option.bind_some]; exact e3 q
  unfold F_334_28
  rw [E]; simp only [Option.bind_some]
  rcases (show f = 22 ∨ f = 23 ∨ f = 24 ∨ f = 25 ∨ f = 26 by omega) with rfl | rfl | rfl | rfl | rfl
  · have cr : chgR x (22 - 18) = x := by unfold chgR; simp
    have cl : chgL x (22 - 18) = [] := by unfold chgL; simp
    rw [cr] at y1 y6; rw [cr, cl, if_neg (by decide), if_neg (by decide), if_neg (by decide), if_neg (by decide)]
    refine ⟨g2, e _ (some (0, g2)) y1 (fun _ => ?_) (fun z => absurd rfl z), y4, y5, y6⟩
    unfold F_334_120; rw [if_neg (by decide)]; rfl
  · have cr : chgR x (23 - 18) = 0 := by unfold chgR; simp
    have cl : chgL x (23 - 18) = [x] := by unfold chgL; simp
    rw [cr] at y1 y6; rw [cr, cl, if_neg (by decide), if_neg (by decide), if_pos (by decide)]
    refine ⟨g3, e _ (some (0, g3)) y1 (fun z => absurd z (by decide)) (fun _ => ?_), z2, agr_trans y5 z3, z4.trans y6⟩
    unfold F_334_120; rw [if_neg (by decide)]; rfl
  · have cr : chgR x (24 - 18) = x := by unfold chgR; simp
    have cl : chgL x (24 - 18) = [x] := by unfold chgL; simp
    rw [cr] at y1 y6; rw [cr, cl, if_neg (by decide), if_neg (by decide), if_neg (by decide), if_neg (by decide)]
    refine ⟨g3, e _ (some (0, g3)) y1 (fun z => absurd z (by decide)) (fun _ => ?_), z2, agr_trans y5 z3, z4.trans y6⟩
    unfold F_334_120; rw [if_neg (by decide)]; rfl
  · have cr : chgR x (25 - 18) = 1 := by unfold chgR; simp
    have cl : chgL x (25 - 18) = [x, x] := by unfold chgL; simp
    rw [cr] at y1 y6; rw [cr, cl, if_neg (by decide), if_neg (by decide), if_neg (by decide), if_pos (by decide)]
    refine ⟨g4, e _ (some (0, g4)) y1 (fun z => absurd z (by decide)) (fun _ => ?_), x2, agr_trans (agr_trans y5 z3) x3, (x4.trans z4).trans y6⟩
    unfold F_334_120; rw [if_pos (by decide), x1]; rfl
  · have cr : chgR x (26 - 18) = x := by unfold chgR; simp
    have cl : chgL x (26 - 18) = [x] := by unfold chgL; simp
    rw [cr] at y1 y6; rw [cr, cl, if_neg (by decide), if_neg (by decide), if_neg (by decide), if_neg (by decide)]
    refine ⟨g3, e _ (some (0, g3)) y1 (fun z => absurd z (by decide)) (fun _ => ?_), z2, agr_trans y5 z3, z4.trans y6⟩
    unfold F_334_120; rw [if_neg (by decide)]; rfl
theorem okRow {g : sm_H} {f k : Nat} (f1 : 22 ≤ f) (f2 : f ≤ 26) (k1 : 15 ≤ k) (k2 : k ≤ 17) (k3 : f = 26 → k ≠ 17) : FS g f (I3 k) 0 0 [] (chgR (I3 (k - 10)) (f - 18)) (I3 k :: 5 :: chgL (I3 (k - 10)) (f - 18)) ∧ kR1 g (chgR (I3 (k - 10)) (f - 18)) ∧ kL g (I3 k :: 5 :: chgL (I3 (k - 10)) (f - 18)) ∧ (I3 k :: 5 :: chgL (I3 (k - 10)) (f - 18)).length ≤ 64 := by
  have ke := kL_1 (g := g) (q := k - 10) (by omega) (by omega)
  have h1 : kL g (chgL (I3 (k - 10)) (f - 18)) ∧ (chgL (I3 (k - 10)) (f - 18)).length ≤ 2 := by
    rcases (show f = 22 ∨ f = 23 ∨ f = 24 ∨ f = 25 ∨ f = 26 by omega) with rfl | rfl | rfl | rfl | rfl
    · exact ⟨kL_0, Nat.le_of_ble_eq_true rfl⟩
    · exact ⟨ke, Nat.le_of_ble_eq_true rfl⟩
    · exact ⟨ke, Nat.le_of_ble_eq_true rfl⟩
    · exact ⟨kL_app ke ke, Nat.le_of_ble_eq_true rfl⟩
    · exact ⟨ke, Nat.le_of_ble_eq_true rfl⟩
  refine ⟨?_, ?_, kL_app (kL_1 (by omega) (by omega)) (kL_app (kL_1 (q := 5) (by omega) (by omega)) h1.1), by simp only [List.length_cons]; omega⟩
  · refine Or.inr (Or.inr (Or.inr (Or.inr (Or.inr (Or.inr (Or.inr (Or.inr (Or.inr (Or.inr (Or.inr (Or.inr (Or.inr (Or.inr (Or.inr (Or.inr (Or.inr (Or.inr (Or.inr (Or.inl ⟨by omega, f2, rfl, k, k1, k2, rfl, k3, ?_, ?_, fun _ => ⟨rfl, rfl⟩⟩)))))))))))))))))))
    · omega
    · omega
  · rcases (show f = 22 ∨ f = 23 ∨ f = 24 ∨ f = 25 ∨ f = 26 by omega) with rfl | rfl | rfl | rfl | rfl
    · exact ⟨_, rfl, by omega⟩
    · exact ⟨0, rfl, by omega⟩
    · exact ⟨_, rfl, by omega⟩
    · exact ⟨1, rfl, by omega⟩
    · exact ⟨_, rfl, by omega⟩
abbrev oP (o p : Nat) : Prop := o = 35 ∧ p = 36 ∨ o = 56 ∧ p = 57 ∨ o = 64 ∧ p = 65
theorem mkRow {h g : sm_H} (K : K1 h g) {f : Nat} (f1 : 22 ≤ f) (f2 : f ≤ 26) {a : Int32} {o p : Nat} {ps : List Int32} (S : fS h (I3 f) a 0 0 o p ps) (op : oP o p) (P : prR g ps) (b : Int32) (c : Int64) (pn : sm_ldI G0 h 1000001 (I3 f) = some (I3 0)) (cd : Bool) (c1 : cd = (rowB a && !(decide (f = 26) && decide (a = 17))))
    (b9 : F_9 h = some (b2 (!cd), h)) (b11 : ∀ v, F_45 (h.1 34 12) h = some (v, h) → F_11 h = some (0, h)) (b14 : F_14 h = some (0, h)) (b26 : F_26 h = some (-1, h)) (b29 : ∀ {u : sm_H} {v : Int32}, F_228 h = some u → u.1 34 7 = I3 f → F_45 (u.1 34 12) u = some (v, u) → F_29 h = F_29_461 u) (b32 : ∀ {u : sm_H}, u.1 34 7 = I3 f → F_32 u = F_32_304 u) (b336 : F_336 (I3 f) a b c g = F_336_250 (I3 f) a g) : ∃ out, OC h (I3 f) a 0 0 out ∧ OR g (I3 f) a b c out ∧ OK g f a 0 0 out := by
  have nf : ∀ n, n < 22 → I3 f ≠ I3 n := fun n hn => by rw [Ne, I3_inj (by omega) (by omega)]; omega
  refine genA (r := chgR (I3 (tn a - 10)) (f - 18)) (l := a :: 5 :: chgL (I3 (tn a - 10)) (f - 18)) K S op P (nf 5 (by decide)) (nf 18 (by decide)) (nf 17 (by decide)) pn cd (fun _ => b9) (fun z => ?_) b14 b26 (fun z kv => ?_) (fun z => ?_) (fun z kv => ?_) (fun z kv => ?_) (fun kv => ?_)
  · subst z; exact b11 _ (n11d K S)
  · subst z
    rw [c1, Bool.and_eq_true] at kv
    obtain ⟨k, k1, k2, rfl⟩ := rowB_x kv.1
    rw [show tn (I3 k) = k from I3_clamp (by omega)]
    obtain ⟨u, d1, D0⟩ := D_begin K S op
    obtain ⟨u1, d2, D1⟩ := D_row f1 f2 k1 k2 D0 op
    refine ⟨u1, ?_, D1.d, D1.a⟩
    rw [b29 d1 D0.s.f7 (n11d D0.k D0.s)]; unfold F_29_461
    rw [b32 D0.s.f7, d2]; rfl
  · rw [b336]; unfold F_336_250
    show ((F_334_0 (I3 f) a g).bind fun q2 => some (q2.1, q2.2)) = _
    unfold F_334_0
    rw [if_neg z]; rfl
  · refine ⟨g, ?_, agr_rfl⟩
    rw [b336]; unfold F_336_250
    show ((F_334_0 (I3 f) a g).bind fun q2 => some (q2.1, q2.2)) = _
    unfold F_334_0
    rw [if_pos z, R_isRowX]; simp only [Option.bind_some]
    rw [c1] at kv
    cases i : rowB a with
    | false => rfl
    | true =>
      rw [i, Bool.true_and, Bool.not_eq_false', Bool.and_eq_true] at kv
      rw [if_neg (by decide), if_pos (by rw [of_decide_eq_true kv.1]; rfl), if_pos (of_decide_eq_true kv.2)]; rfl
  · rw [c1, Bool.and_eq_true] at kv
    have kv1 := kv.1
    obtain ⟨k, k1, k2, rfl⟩ := rowB_x kv.1
    rw [show tn (I3 k) = k from I3_clamp (by omega)]
    obtain ⟨g1, y1, y2, y3, y4⟩ := R_row g f1 f2 k1 k2
    refine ⟨g1, ?_, y2, y3, y4⟩
    rw [b336]; unfold F_336_250
    show ((F_334_0 (I3 f) (I3 k) g).bind fun q2 => some (q2.1, q2.2)) = _
    unfold F_334_0
    rw [if_pos z, R_isRowX, kv1]; simp only [Option.bind_some]
    rw [if_neg (by decide)]
    by_cases q : I3 f = 26
    · rw [if_pos q]
      have q' : f = 26 := (I3_inj (by omega) (by decide)).mp q
      have n17 : ¬ I3 k = 17 := by
        intro e
        have := kv.2
        rw [decide_eq_true q', decide_eq_true e] at this; cases this
      rw [if_neg n17, y1]; rfl
    · rw [if_neg q, y1]; rfl
  · rw [c1, Bool.and_eq_true] at kv
    obtain ⟨k, k1, k2, rfl⟩ := rowB_x kv.1
    rw [show tn (I3 k) = k from I3_clamp (by omega)]
    refine okRow f1 f2 k1 k2 (fun e1 e2 => ?_)
    have := kv.2
    subst e1; subst e2; revert this; decide
theorem mk_22 {h g : sm_H} (K : K1 h g) {a : Int32} {o p : Nat} {ps : List Int32} (S : fS h (I3 22) a 0 0 o p ps) (op : oP o p) (P : prR g ps) (b : Int32) (c : Int64) : ∃ out, OC h (I3 22) a 0 0 out ∧ OR g (I3 22) a b c out ∧ OK g 22 a 0 0 out :=
  mkRow K (by decide) (by decide) S op P b c rfl (rowB a) (by cases rowB a <;> rfl) ((B9_22 S.f7).trans (n9_350 S.f8)) (fun v e => (B11_22 S.f7 e).trans rfl) (B14_22 S.f7) (B26_22 S.f7) (fun x y z => B29_22 x y z) (fun x => B32_22 x) (B336_22 _ _ _)
theorem mk_23 {h g : sm_H} (K : K1 h g) {a : Int32} {o p : Nat} {ps : List Int32} (S : fS h (I3 23) a 0 0 o p ps) (op : oP o p) (P : prR g ps) (b : Int32) (c : Int64) : ∃ out, OC h (I3 23) a 0 0 out ∧ OR g (I3 23) a b c out ∧ OK g 23 a 0 0 out :=
  mkRow K (by decide) (by decide) S op P b c rfl (rowB a) (by cases rowB a <;> rfl) ((B9_23 S.f7).trans (n9_350 S.f8)) (fun v e => (B11_23 S.f7 e).trans rfl) (B14_23 S.f7) (B26_23 S.f7) (fun x y z => B29_23 x y z) (fun x => B32_23 x) (B336_23 _ _ _)
theorem mk_24 {h g : sm_H} (K : K1 h g) {a : Int32} {o p : Nat} {ps : List Int32} (S : fS h (I3 24) a 0 0 o p ps) (op : oP o p) (P : prR g ps) (b : Int32) (c : Int64) : ∃ out, OC h (I3 24) a 0 0 out ∧ OR g (I3 24) a b c out ∧ OK g 24 a 0 0 out :=
  mkRow K (by decide) (by decide) S op P b c rfl (rowB a) (by cases rowB a <;> rfl) ((B9_24 S.f7).trans (n9_350 S.f8)) (fun v e => (B11_24 S.f7 e).trans rfl) (B14_24 S.f7) (B26_24 S.f7) (fun x y z => B29_24 x y z) (fun x => B32_24 x) (B336_24 _ _ _)
theorem mk_25 {h g : sm_H} (K : K1 h g) {a : Int32} {o p : Nat} {ps : List Int32} (S : fS h (I3 25) a 0 0 o p ps) (op : oP o p) (P : prR g ps) (b : Int32) (c : Int64) : ∃ out, OC h (I3 25) a 0 0 out ∧ OR g (I3 25) a b c out ∧ OK g 25 a 0 0 out :=
  mkRow K (by decide) (by decide) S op P b c rfl (rowB a) (by cases rowB a <;> rfl) ((B9_25 S.f7).trans (n9_350 S.f8)) (fun v e => (B11_25 S.f7 e).trans rfl) (B14_25 S.f7) (B26_25 S.f7) (fun x y z => B29_25 x y z) (fun x => B32_25 x) (B336_25 _ _ _)
theorem mk_26 {h g : sm_H} (K : K1 h g) {a : Int32} {o p : Nat} {ps : List Int32} (S : fS h (I3 26) a 0 0 o p ps) (op : oP o p) (P : prR g ps) (b : Int32) (c : Int64) : ∃ out, OC h (I3 26) a 0 0 out ∧ OR g (I3 26) a b c out ∧ OK g 26 a 0 0 out := by
  refine mkRow K (by decide) (by decide) S op P b c rfl (decide (a = 15 ∨ a = 16)) ?_ ?_ (fun v e => (B11_26 S.f7 e).trans rfl) (B14_26 S.f7) (B26_26 S.f7) (fun x y z => B29_26 x y z) (fun x => B32_26 x) (B336_26 _ _ _)
  · unfold rowB
    by_cases q5 : a = 15
    · subst q5; rfl
    · by_cases q6 : a = 16
      · subst q6; rfl
      · by_cases q7 : a = 17
        · subst q7; rfl
        · rw [decide_eq_false (by rintro (z | z); exact q5 z; exact q6 z), decide_eq_false (by rintro (z | z | z); exact q5 z; exact q6 z; exact q7 z)]; rfl
  · rw [B9_26 S.f7, S.f8]
    by_cases q5 : a = 15
    · subst q5; rfl
    · by_cases q6 : a = 16
      · subst q6; rfl
      · rw [if_neg q5, if_neg q6, decide_eq_false (by rintro (z | z); exact q5 z; exact q6 z)]; rfl
theorem mk_20 {h g : sm_H} (K : K1 h g) {a : Int32} {o p : Nat} {ps : List Int32} (S : fS h (I3 20) a 0 0 o p ps) (op : oP o p) (P : prR g ps) (b : Int32) (c : Int64) : ∃ out, OC h (I3 20) a 0 0 out ∧ OR g (I3 20) a b c out ∧ OK g 20 a 0 0 out := by
  have e7 := S.f7
  refine genA (r := a) (l := [5]) K S op P (by decide) (by decide) (by decide) rfl (rowB a) (fun _ => (B9_20 e7).trans (n9_350 S.f8)) (fun z => ?_) (B14_20 e7) (B26_20 e7) (fun z kv => ?_) (fun z => ?_) (fun z kv => ?_) (fun z kv => ?_) (fun kv => ?_)
  · subst z; rw [B11_20 e7 (n11d K S)]; rfl
  · subst z
    obtain ⟨u, d1, D0⟩ := D_begin K S op
    obtain ⟨u1, d2, D1⟩ := D_with D0 op 5 (by decide)
    refine ⟨u1, ?_, D1.d, D1.a⟩
    rw [B29_20 d1 D0.s.f7 (n11d D0.k D0.s)]; unfold F_29_461
    rw [B32_20 D0.s.f7, d2]; simp only [Option.bind_some]
    rw [D1.s.f8]
  · rw [B336_20]; unfold F_336_250
    show ((F_334_0 (I3 20) a g).bind fun q2 => some (q2.1, q2.2)) = _
    unfold F_334_0
    rw [if_neg z]; rfl
  · refine ⟨g, ?_, agr_rfl⟩
    rw [B336_20]; unfold F_336_250
    show ((F_334_0 (I3 20) a g).bind fun q2 => some (q2.1, q2.2)) = _
    unfold F_334_0
    rw [if_pos z, R_isRowX, kv]; rfl
  · have kv' := kv
    obtain ⟨k, k1, k2, rfl⟩ := rowB_x kv
    obtain ⟨g0, g1, f1, r1, r2, r3, r4⟩ := rr_1 g (I3 k) 5
    refine ⟨g1, ?_, r2, r3, r4⟩
    rw [B336_20]; unfold F_336_250
    show ((F_334_0 (I3 20) (I3 k) g).bind fun q2 => some (q2.1, q2.2)) = _
    unfold F_334_0
    rw [if_pos z, R_isRowX, kv']; simp only [Option.bind_some]
    rw [if_neg (by decide), if_neg (by decide)]; unfold F_334_28
    rw [R_elem _ k1 k2]; simp only [Option.bind_some]
    rw [if_pos (by decide)]; unfold F_334_75
    rw [f1]; simp only [Option.bind_some]
    rw [if_pos (by decide), r1]; rfl
  · obtain ⟨k, k1, k2, rfl⟩ := rowB_x kv
    exact ⟨Or.inr (Or.inr (Or.inr (Or.inr (Or.inr (Or.inr (Or.inr (Or.inr (Or.inr (Or.inr (Or.inr (Or.inr (Or.inr (Or.inr (Or.inr (Or.inr (Or.inr (Or.inr (Or.inr (Or.inl ⟨by decide, by decide, rfl, k, k1, k2, rfl, by omega, fun _ => ⟨rfl, rfl⟩, by omega, by omega⟩))))))))))))))))))), ⟨k, rfl, by omega⟩, kL_1 (q := 5) (by omega) (by omega), len1 _⟩
theorem mk_21 {h g : sm_H} (K : K1 h g) {a : Int32} {o p : Nat} {ps : List Int32} (S : fS h (I3 21) a 0 0 o p ps) (op : oP o p) (P : prR g ps) (b : Int32) (c : Int64) : ∃ out, OC h (I3 21) a 0 0 out ∧ OR g (I3 21) a b c out ∧ OK g 21 a 0 0 out := by
  have e7 := S.f7
  refine genA (r := 5) (l := [a]) K S op P (by decide) (by decide) (by decide) rfl (rowB a) (fun _ => (B9_21 e7).trans (n9_350 S.f8)) (fun z => ?_) (B14_21 e7) (B26_21 e7) (fun z kv => ?_) (fun z => ?_) (fun z kv => ?_) (fun z kv => ?_) (fun kv => ?_)
  · subst z; rw [B11_21 e7 (n11d K S)]; rfl
  · subst z
    obtain ⟨u, d1, D0⟩ := D_begin K S op
    obtain ⟨u1, d2, D1⟩ := D_with D0 op a (by decide)
    refine ⟨u1, ?_, D1.d, D1.a⟩
    rw [B29_21 d1 D0.s.f7 (n11d D0.k D0.s)]; unfold F_29_461
    rw [B32_21 D0.s.f7, D0.s.f8, d2]; rfl
  · rw [B336_21]; unfold F_336_250
    show ((F_334_0 (I3 21) a g).bind fun q2 => some (q2.1, q2.2)) = _
    unfold F_334_0
    rw [if_neg z]; rfl
  · refine ⟨g, ?_, agr_rfl⟩
    rw [B336_21]; unfold F_336_250
    show ((F_334_0 (I3 21) a g).bind fun q2 => some (q2.1, q2.2)) = _
    unfold F_334_0
    rw [if_pos z, R_isRowX, kv]; rfl
  · have kv' := kv
    obtain ⟨k, k1, k2, rfl⟩ := rowB_x kv
    obtain ⟨g0, g1, f1, r1, r2, r3, r4⟩ := rr_1 g 5 (I3 k)
    refine ⟨g1, ?_, r2, r3, r4⟩
    rw [B336_21]; unfold F_336_250
    show ((F_334_0 (I3 21) (I3 k) g).bind fun q2 => some (q2.1, q2.2)) = _
    unfold F_334_0
    rw [if_pos z, R_isRowX, kv']; simp only [Option.bind_some]
    rw [if_neg (by decide), if_neg (by decide)]; unfold F_334_28
    rw [R_elem _ k1 k2]; simp only [Option.bind_some]
    rw [if_neg (by decide), if_pos (by decide)]; unfold F_334_75
    rw [f1]; simp only [Option.bind_some]
    rw [if_neg (by decide), r1]; simp only [Option.bind_some]
    rw [if_pos (by decide)]; rfl
  · obtain ⟨k, k1, k2, rfl⟩ := rowB_x kv
    exact ⟨Or.inr (Or.inr (Or.inr (Or.inr (Or.inr (Or.inr (Or.inr (Or.inr (Or.inr (Or.inr (Or.inr (Or.inr (Or.inr (Or.inr (Or.inr (Or.inr (Or.inr (Or.inr (Or.inr (Or.inl ⟨by decide, by decide, rfl, k, k1, k2, rfl, by omega, by omega, fun _ => ⟨rfl, rfl⟩, by omega⟩))))))))))))))))))), ⟨5, rfl, by omega⟩, kL_1 (by omega) (by omega), len1 _⟩
def eB (g : sm_H) (x : Int32) : Bool := inR x (20 + nC g) && B g (tn x) 19
theorem eB_x {g : sm_H} (wK : wfK g) {x : Int32} (h : eB g x = true) : ∃ e, e < 20 + nC g ∧ x = I3 e ∧ B g e 19 = true := by
  have h12 := wK.2.1
  unfold eB at h
  rw [Bool.and_eq_true] at h
  obtain ⟨e, e1, rfl⟩ := inR_x (by omega) h.1
  have h2 := h.2
  rw [show tn (I3 e) = e from I3_clamp (by omega)] at h2
  exact ⟨e, e1, rfl, h2⟩
theorem C_below19 {h g : sm_H} (wK : wfK g) (cK : cK h g) (x : Int32) : F_60 x 19 h = some (b2 (eB g x), h) := by
  have h12 := wK.2.1
  unfold eB
  rcases inR_c x (20 + nC g) (by omega) with ⟨e, e1, rfl, i⟩ | i
  · have := C_belowN wK cK e1 (y := 19) (by omega)
    rw [i, Bool.true_and, show tn (I3 e) = e from I3_clamp (by omega)]
    exact this
  · rw [i, Bool.false_and]
    have e0 : h.1 1 3 = I3 (20 + nC g) := cK.1
    show F_60_0 x 19 h = _
    unfold F_60_0
    rw [rng1 e0 (by omega), i]; rfl
theorem R_below19 {g : sm_H} (wK : wfK g) {x : Nat} (hx : x < 20 + nC g) : F_295 (I3 x) 19 g = some (b2 (B g x 19), g) := R_below wK hx (o := 19) (by decide)
theorem R_eB {g : sm_H} (wK : wfK g) (x : Int32) (X Y : sm_H → Option (Int32 × sm_H)) : ((F_289 x g).bind fun q20 => if q20.1 = 0 then X q20.2 else ((F_295 x 19 q20.2).bind fun q21 => if q21.1 = 0 then X q21.2 else Y q21.2)) = bif eB g x then Y g else X g := by
  have h12 := wK.2.1
  rw [R_kind wK x]; simp only [Option.bind_some]
  unfold eB
  rcases inR_c x (20 + nC g) (by omega) with ⟨e, e1, rfl, i⟩ | i
  · rw [i, if_neg (by decide), R_below19 wK e1, Bool.true_and, show tn (I3 e) = e from I3_clamp (by omega)]; simp only [Option.bind_some]
    cases B g e 19 <;> rfl
  · rw [i]; rfl
theorem mk_19 {h g : sm_H} (K : K1 h g) (a b : Int32) (c : Int64) {o p : Nat} {ps : List Int32} (S : fS h (I3 19) a b 0 o p ps) (op : oP o p) (P : prR g ps) : ∃ out, OC h (I3 19) a b 0 out ∧ OR g (I3 19) a b c out ∧ OK g 19 a b 0 out := by
  have wK := K.1
  have h12 := wK.2.1
  have e7 := S.f7
  refine genA (r := a) (l := [b]) K S op P (by decide) (by decide) (by decide) rfl (inR a (20 + nC g) && eB g b) (fun _ => ?_) (fun z => ?_) (B14_19 e7) (B26_19 e7) (fun z kv => ?_) (fun z => ?_) (fun z kv => ?_) (fun z kv => ?_) (fun kv => ?_)
  · rw [B9_19 e7, S.f8, C_has wK K.2.1]; simp only [Option.bind_some]; rw [S.f9, C_below19 wK K.2.1]; simp only [Option.bind_some]
    cases inR a (20 + nC g) with
    | false => rfl
    | true => cases eB g b <;> rfl
  · subst z; rw [B11_19 e7 (n11d K S)]; rfl
  · subst z
    obtain ⟨u, d1, D0⟩ := D_begin K S op
    obtain ⟨u1, d2, D1⟩ := D_with D0 op b (by decide)
    refine ⟨u1, ?_, D1.d, D1.a⟩
    rw [B29_19 d1 D0.s.f7 (n11d D0.k D0.s)]; unfold F_29_461
    rw [B32_19 D0.s.f7, D0.s.f9, d2]; simp only [Option.bind_some]; rw [D1.s.f8]
  · rw [B336_19]; unfold F_336_257; rw [s335 _ _ _ z, B335_19]; rfl
  · refine ⟨g, ?_, agr_rfl⟩
    rw [B336_19, F_336_257, s335' _ _ _ z, B335_19, if_neg (by decide), R_kind wK a]; simp only [Option.bind_some]; rw [R_eB wK b F_335_306 (fun u => (F_308 a u).bind fun q22 => (F_309 b q22).bind fun q23 => some (0, q23))]
    cases i : inR a (20 + nC g) with
    | false => rfl
    | true =>
      rw [i, Bool.true_and] at kv
      rw [kv]; rfl
  · rw [Bool.and_eq_true] at kv
    obtain ⟨g0, g1, f1, r1, r2, r3, r4⟩ := rr_1 g a b
    refine ⟨g1, ?_, r2, r3, r4⟩
    rw [B336_19, F_336_257, s335' _ _ _ z, B335_19, if_neg (by decide), R_kind wK a, kv.1]; simp only [Option.bind_some]; rw [if_neg (by decide), R_eB wK b F_335_306 (fun u => (F_308 a u).bind fun q22 => (F_309 b q22).bind fun q23 => some (0, q23)), kv.2, cond_true, f1]; simp only [Option.bind_some]; rw [r1]; rfl
  · rw [Bool.and_eq_true] at kv
    obtain ⟨k, k1, rfl⟩ := inR_x (by omega) kv.1
    obtain ⟨e, e1, rfl, e2⟩ := eB_x wK kv.2
    have e0 : 0 < e := by
      rcases Nat.eq_zero_or_pos e with z | z
      · subst z
        rw [show B g 0 19 = false from rfl] at e2; cases e2
      · exact z
    exact ⟨(Or.inr (Or.inr (Or.inr (Or.inr (Or.inr (Or.inr (Or.inr (Or.inr (Or.inr (Or.inr (Or.inr (Or.inr (Or.inr (Or.inr (Or.inr (Or.inr (Or.inr (Or.inr (Or.inl ⟨rfl, rfl, k, e, k1, rfl, e1, rfl, e2, rfl, rfl⟩))))))))))))))))))), ⟨k, rfl, k1⟩, kL_1 e0 e1, len1 _⟩
theorem mk_27 {h g : sm_H} (K : K1 h g) (a b : Int32) (c : Int64) {o p : Nat} {ps : List Int32} (S : fS h (I3 27) 0 b 0 o p ps) (op : oP o p) (P : prR g ps) : ∃ out, OC h (I3 27) 0 b 0 out ∧ OR g (I3 27) a b c out ∧ OK g 27 0 b 0 out := by
  have wK := K.1
  have h12 := wK.2.1
  have wT := K.2.2.1
  have w300 : nT g ≤ 300 := wT.1.2
  have e7 := S.f7
  refine genA (r := rs g (tn b)) (l := 18 :: pl g (tn b)) K S op P (by decide) (by decide) (by decide) rfl (inR b (nT g)) (fun _ => (B9_27 e7).trans (n9_272 K S.f9)) (fun z => ?_) (B14_27 e7) (B26_27 e7) (fun z kv => ?_) (fun z => ?_) (fun z kv => ?_) (fun z kv => ?_) (fun kv => ?_)
  · subst z; rw [B11_27 e7 (n11d K S)]; rfl
  · subst z
    obtain ⟨t, t1, rfl⟩ := inR_x (by omega) kv
    rw [show tn (I3 t) = t from I3_clamp (by omega)]
    obtain ⟨u, d1, D0⟩ := D_begin K S op
    obtain ⟨u1, d2, D1⟩ := D_with D0 op 18 (by decide)
    obtain ⟨u2, d3, D2⟩ := D_type D1 op t1 (Nat.le_of_ble_eq_true rfl)
    refine ⟨u2, ?_, D2.d, D2.a⟩
    rw [B29_27 d1 D0.s.f7 (n11d D0.k D0.s)]; unfold F_29_420
    rw [d2]; simp only [Option.bind_some]; rw [D1.s.f9, d3]; rfl
  · rw [B336_27]; unfold F_336_257; rw [s335 _ _ _ z, B335_27]; rfl
  · refine ⟨g, ?_, agr_rfl⟩
    rw [B336_27, F_336_257, s335' _ _ _ z, B335_27, F_335_320, if_neg (by decide), R_isT wT b, kv]; rfl
  · have kv' := kv
    obtain ⟨t, t1, rfl⟩ := inR_x (by omega) kv
    rw [show tn (I3 t) = t from I3_clamp (by omega)]
    obtain ⟨g0, g1, f1, r1, r2, r3, r4⟩ := rr_1 g (rs g t) 18
    have m10 : tM g t ≤ 10 := (wT.2.1 t t1).2.1.2
    have et : tM g1 t = tM g t := by show tn _ = tn _; rw [r3.1 73 t (by unfold SRd; omega)]
    have ep : pl g1 t = pl g t := by
      show lst _ (tM g1 t) = lst _ (tM g t)
      rw [et]; exact lst_congr (fun k _ => r3.1 74 _ (by unfold SRd; omega))
    have nt : nT g1 = nT g := by show tn _ = tn _; rw [r3.1 67 10 (by unfold SRd; omega)]
    obtain ⟨g2, s1, s2, s3, s4⟩ := R_addType (K1_g K (agr_mono SRd_not r3)) r2 (by rw [nt]; exact t1) (by rw [et]; simp only [List.length_cons, List.length_nil]; omega)
    rw [ep] at s2
    refine ⟨g2, ?_, s2, agr_trans r3 s3, s4.trans r4⟩
    rw [B336_27, F_336_257, s335' _ _ _ z, B335_27, F_335_320, if_neg (by decide), R_isT wT (I3 t), kv']; simp only [Option.bind_some]; rw [if_neg (by decide), ldI_I (by omega) (by omega)]; simp only [Option.bind_some]; rw [f1]; simp only [Option.bind_some]; rw [r1]; simp only [Option.bind_some]; rw [s1]; rfl
  · obtain ⟨t, t1, rfl⟩ := inR_x (by omega) kv
    rw [show tn (I3 t) = t from I3_clamp (by omega)]
    have m10 : tM g t ≤ 10 := (wT.2.1 t t1).2.1.2
    have ln : (pl g t).length = tM g t := lst_len _ _
    exact ⟨(Or.inr (Or.inr (Or.inr (Or.inr (Or.inr (Or.inr (Or.inr (Or.inr (Or.inr (Or.inr (Or.inr (Or.inr (Or.inr (Or.inr (Or.inr (Or.inr (Or.inr (Or.inr (Or.inr (Or.inr (Or.inl ⟨Or.inl rfl, rfl, t, t1, rfl, rfl, rfl⟩))))))))))))))))))))), kR1_rs wT t1, kL_app (kL_1 (q := 18) (by omega) (by omega)) (kL_pl wT t1), by simp only [List.length_cons]; omega⟩
theorem mk_28 {h g : sm_H} (K : K1 h g) (a b : Int32) (c : Int64) {o p : Nat} {ps : List Int32} (S : fS h (I3 28) 0 b 0 o p ps) (op : oP o p) (P : prR g ps) : ∃ out, OC h (I3 28) 0 b 0 out ∧ OR g (I3 28) a b c out ∧ OK g 28 0 b 0 out := by
  have wK := K.1
  have h12 := wK.2.1
  have wT := K.2.2.1
  have w300 : nT g ≤ 300 := wT.1.2
  have e7 := S.f7
  refine genA (r := rs g (tn b)) (l := 18 :: pl g (tn b)) K S op P (by decide) (by decide) (by decide) rfl (inR b (nT g)) (fun _ => (B9_28 e7).trans (n9_272 K S.f9)) (fun z => ?_) (B14_28 e7) (B26_28 e7) (fun z kv => ?_) (fun z => ?_) (fun z kv => ?_) (fun z kv => ?_) (fun kv => ?_)
  · subst z; rw [B11_28 e7 (n11d K S)]; rfl
  · subst z
    obtain ⟨t, t1, rfl⟩ := inR_x (by omega) kv
    rw [show tn (I3 t) = t from I3_clamp (by omega)]
    obtain ⟨u, d1, D0⟩ := D_begin K S op
    obtain ⟨u1, d2, D1⟩ := D_with D0 op 18 (by decide)
    obtain ⟨u2, d3, D2⟩ := D_type D1 op t1 (Nat.le_of_ble_eq_true rfl)
    refine ⟨u2, ?_, D2.d, D2.a⟩
    rw [B29_28 d1 D0.s.f7 (n11d D0.k D0.s)]; unfold F_29_420
    rw [d2]; simp only [Option.bind_some]; rw [D1.s.f9, d3]; rfl
  · rw [B336_28]; unfold F_336_257; rw [s335 _ _ _ z, B335_28]; rfl
  · refine ⟨g, ?_, agr_rfl⟩
    rw [B336_28, F_336_257, s335' _ _ _ z, B335_28, F_335_320, if_neg (by decide), R_isT wT b, kv]; rfl
  · have kv' := kv
    obtain ⟨t, t1, rfl⟩ := inR_x (by omega) kv
    rw [show tn (I3 t) = t from I3_clamp (by omega)]
    obtain ⟨g0, g1, f1, r1, r2, r3, r4⟩ := rr_1 g (rs g t) 18
    have m10 : tM g t ≤ 10 := (wT.2.1 t t1).2.1.2
    have et : tM g1 t = tM g t := by show tn _ = tn _; rw [r3.1 73 t (by unfold SRd; omega)]
    have ep : pl g1 t = pl g t := by
      show lst _ (tM g1 t) = lst _ (tM g t)
      rw [et]; exact lst_congr (fun k _ => r3.1 74 _ (by unfold SRd; omega))
    have nt : nT g1 = nT g := by show tn _ = tn _; rw [r3.1 67 10 (by unfold SRd; omega)]
    obtain ⟨g2, s1, s2, s3, s4⟩ := R_addType (K1_g K (agr_mono SRd_not r3)) r2 (by rw [nt]; exact t1) (by rw [et]; simp only [List.length_cons, List.length_nil]; omega)
    rw [ep] at s2
    refine ⟨g2, ?_, s2, agr_trans r3 s3, s4.trans r4⟩
    rw [B336_28, F_336_257, s335' _ _ _ z, B335_28, F_335_320, if_neg (by decide), R_isT wT (I3 t), kv']; simp only [Option.bind_some]; rw [if_neg (by decide), ldI_I (by omega) (by omega)]; simp only [Option.bind_some]; rw [f1]; simp only [Option.bind_some]; rw [r1]; simp only [Option.bind_some]; rw [s1]; rfl
  · obtain ⟨t, t1, rfl⟩ := inR_x (by omega) kv
    rw [show tn (I3 t) = t from I3_clamp (by omega)]
    have m10 : tM g t ≤ 10 := (wT.2.1 t t1).2.1.2
    have ln : (pl g t).length = tM g t := lst_len _ _
    exact ⟨(Or.inr (Or.inr (Or.inr (Or.inr (Or.inr (Or.inr (Or.inr (Or.inr (Or.inr (Or.inr (Or.inr (Or.inr (Or.inr (Or.inr (Or.inr (Or.inr (Or.inr (Or.inr (Or.inr (Or.inr (Or.inl ⟨Or.inr rfl, rfl, t, t1, rfl, rfl, rfl⟩))))))))))))))))))))), kR1_rs wT t1, kL_app (kL_1 (q := 18) (by omega) (by omega)) (kL_pl wT t1), by simp only [List.length_cons]; omega⟩
theorem mk_34 {h g : sm_H} (K : K1 h g) (a b : Int32) (c : Int64) {o p : Nat} {ps : List Int32} (S : fS h (I3 34) 0 b 0 o p ps) (op : oP o p) (P : prR g ps) : ∃ out, OC h (I3 34) 0 b 0 out ∧ OR g (I3 34) a b c out ∧ OK g 34 0 b 0 out := by
  have wK := K.1
  have h12 := wK.2.1
  have wT := K.2.2.1
  have w300 : nT g ≤ 300 := wT.1.2
  have e7 := S.f7
  refine genA (r := rs g (tn b)) (l := pl g (tn b)) K S op P (by decide) (by decide) (by decide) rfl (inR b (nT g)) (fun _ => (B9_34 e7).trans (n9_272 K S.f9)) (fun z => ?_) (B14_34 e7) (B26_34 e7) (fun z kv => ?_) (fun z => ?_) (fun z kv => ?_) (fun z kv => ?_) (fun kv => ?_)
  · subst z; rw [B11_34 e7 (n11d K S)]; rfl
  · subst z
    obtain ⟨t, t1, rfl⟩ := inR_x (by omega) kv
    rw [show tn (I3 t) = t from I3_clamp (by omega)]
    obtain ⟨u, d1, D0⟩ := D_begin K S op
    obtain ⟨u2, d3, D2⟩ := D_type D0 op t1 (by decide)
    refine ⟨u2, ?_, D2.d, D2.a⟩
    rw [B29_34 d1 D0.s.f7 (n11d D0.k D0.s)]; unfold F_29_411
    rw [D0.s.f9, d3]; rfl
  · rw [B336_34]; unfold F_336_257; rw [s335 _ _ _ z, B335_34]; rfl
  · refine ⟨g, ?_, agr_rfl⟩
    rw [B336_34, F_336_257, s335' _ _ _ z, B335_34, F_335_598, if_neg (by decide), R_isT wT b, kv]; rfl
  · have kv' := kv
    obtain ⟨t, t1, rfl⟩ := inR_x (by omega) kv
    rw [show tn (I3 t) = t from I3_clamp (by omega)]
    obtain ⟨g1, f1, f2, f3, f4⟩ := R_clear g (rs g t)
    have m10 : tM g t ≤ 10 := (wT.2.1 t t1).2.1.2
    have et : tM g1 t = tM g t := by show tn _ = tn _; rw [f3.1 73 t (by unfold SRd; omega)]
    have ep : pl g1 t = pl g t := by
      show lst _ (tM g1 t) = lst _ (tM g t)
      rw [et]; exact lst_congr (fun k _ => f3.1 74 _ (by unfold SRd; omega))
    have nt : nT g1 = nT g := by show tn _ = tn _; rw [f3.1 67 10 (by unfold SRd; omega)]
    obtain ⟨g2, s1, s2, s3, s4⟩ := R_addType (K1_g K (agr_mono SRd_not f3)) f2 (by rw [nt]; exact t1) (by rw [et]; simp only [List.length_nil]; omega)
    rw [ep] at s2
    refine ⟨g2, ?_, s2, agr_trans f3 s3, s4.trans f4⟩
    rw [B336_34, F_336_257, s335' _ _ _ z, B335_34, F_335_598, if_neg (by decide), R_isT wT (I3 t), kv']; simp only [Option.bind_some]; rw [if_neg (by decide), ldI_I (by omega) (by omega)]; simp only [Option.bind_some]; rw [f1]; simp only [Option.bind_some]; rw [s1]; rfl
  · obtain ⟨t, t1, rfl⟩ := inR_x (by omega) kv
    rw [show tn (I3 t) = t from I3_clamp (by omega)]
    have m10 : tM g t ≤ 10 := (wT.2.1 t t1).2.1.2
    have ln : (pl g t).length = tM g t := lst_len _ _
    exact ⟨(Or.inr (Or.inr (Or.inr (Or.inr (Or.inr (Or.inr (Or.inr (Or.inr (Or.inr (Or.inr (Or.inr (Or.inr (Or.inr (Or.inr (Or.inr (Or.inr (Or.inr (Or.inr (Or.inr (Or.inr (Or.inr (Or.inr (Or.inr (Or.inr (Or.inr (Or.inr (Or.inl ⟨rfl, rfl, t, t1, rfl, rfl, rfl⟩))))))))))))))))))))))))))), kR1_rs wT t1, kL_pl wT t1, by omega⟩
theorem refB {h g : sm_H} (wK : wfK g) (cK : cK h g) (a : Int32) : F_57 a h = some (b2 (inR a (20 + nC g) && decide (¬ a < 7)), h) := by
  have h12 := wK.2.1
  show F_57_0 a h = _
  unfold F_57_0 F_57_18 F_57_19; rw [zz0, zz1]
  by_cases q : a < 7
  · rw [if_pos q, decide_eq_false (not_not_intro q), Bool.and_false]; rfl
  · rw [if_neg q, decide_eq_true q, Bool.and_true]
    have n0 : ¬ a < 0 := fun z => q (neg_lt_I3 z (a := 7) (by decide))
    have := rng1 (x := a) (n := 20 + nC g) (a := (some ((0 : Int32), h))) (b := some ((1 : Int32), h)) cK.1 (by omega)
    rw [if_neg n0] at this
    rw [this]; exact cb2
theorem mk_31 {h g : sm_H} (K : K1 h g) (a b : Int32) (c : Int64) {o p : Nat} {ps : List Int32} (S : fS h (I3 31) a 0 0 o p ps) (op : oP o p) (P : prR g ps) : ∃ out, OC h (I3 31) a 0 0 out ∧ OR g (I3 31) a b c out ∧ OK g 31 a 0 0 out := by
  have wK := K.1
  have h12 := wK.2.1
  have e7 := S.f7
  have RR : F_291 a g = some (b2 (decide (¬ a < 7)), g) := by
    show F_291_0 a g = _
    unfold F_291_0
    by_cases q : a < 7
    · rw [if_pos q, decide_eq_false (not_not_intro q)]; rfl
    · rw [if_neg q, decide_eq_true q]; rfl
  refine genA (r := 1) (l := [7]) K S op P (by decide) (by decide) (by decide) rfl (inR a (20 + nC g) && decide (¬ a < 7)) (fun _ => ?_) (fun z => ?_) (B14_31 e7) (B26_31 e7) (fun z kv => ?_) (fun z => ?_) (fun z kv => ?_) (fun z kv => ?_) (fun kv => ?_)
  · rw [B9_31 e7, S.f8, refB wK K.2.1]; simp only [Option.bind_some, F_9_453, true_or, or_true, if_true]
    exact notb h _
  · subst z; rw [B11_31 e7 (n11d K S)]; rfl
  · subst z
    obtain ⟨u, d1, D0⟩ := D_begin K S op
    obtain ⟨u1, d2, D1⟩ := D_with D0 op 7 (by decide)
    refine ⟨u1, ?_, D1.d, D1.a⟩
    rw [B29_31 d1 D0.s.f7 (n11d D0.k D0.s)]; unfold F_29_461
    rw [B32_31 D0.s.f7, d2]; rfl
  · rw [B336_31]; unfold F_336_257; rw [s335 _ _ _ z, B335_31]; rfl
  · refine ⟨g, ?_, agr_rfl⟩
    rw [B336_31, F_336_257, s335' _ _ _ z, B335_31, if_neg (by decide), R_kind wK a]; simp only [Option.bind_some]; rw [RR]; simp only [Option.bind_some]
    revert kv
    cases inR a (20 + nC g) <;> cases decide (¬ a < 7) <;> intro kv <;> first | rfl | cases kv
  · rw [Bool.and_eq_true] at kv
    obtain ⟨g0, g1, f1, r1, r2, r3, r4⟩ := rr_1 g 1 7
    refine ⟨g1, ?_, r2, r3, r4⟩
    rw [B336_31, F_336_257, s335' _ _ _ z, B335_31, if_neg (by decide), R_kind wK a, kv.1]; simp only [Option.bind_some]; rw [if_neg (by decide), RR, kv.2]; simp only [Option.bind_some]; rw [if_neg (by decide), f1]; simp only [Option.bind_some]; rw [r1]; rfl
  · rw [Bool.and_eq_true] at kv
    obtain ⟨k, k1, rfl⟩ := inR_x (by omega) kv.1
    have k7 : 7 ≤ k := by
      have := of_decide_eq_true kv.2
      rw [I3_lit, I3_lt (by omega) (by decide)] at this; omega
    exact ⟨(Or.inr (Or.inr (Or.inr (Or.inr (Or.inr (Or.inr (Or.inr (Or.inr (Or.inr (Or.inr (Or.inr (Or.inr (Or.inr (Or.inr (Or.inr (Or.inr (Or.inr (Or.inr (Or.inr (Or.inr (Or.inr (Or.inr (Or.inr (Or.inl ⟨rfl, rfl, ⟨k, k7, k1, rfl⟩, rfl, rfl⟩)))))))))))))))))))))))), ⟨1, rfl, by omega⟩, kL_1 (q := 7) (by omega) (by omega), len1 _⟩
theorem mk_32 {h g : sm_H} (K : K1 h g) (a b : Int32) (c : Int64) {o p : Nat} {ps : List Int32} (S : fS h (I3 32) 0 0 0 o p ps) (op : oP o p) (P : prR g ps) : ∃ out, OC h (I3 32) 0 0 0 out ∧ OR g (I3 32) a b c out ∧ OK g 32 0 0 0 out := by
  have e7 := S.f7
  refine genA (r := 1) (l := [7, 7]) K S op P (by decide) (by decide) (by decide) rfl true (fun _ => B9_32 e7) (fun z => ?_) (B14_32 e7) (B26_32 e7) (fun z kv => ?_) (fun z => ?_) (fun z kv => by cases kv) (fun z kv => ?_) (fun kv => ?_)
  · subst z; rw [B11_32 e7 (n11d K S)]; rfl
  · subst z
    obtain ⟨u, d1, D0⟩ := D_begin K S op
    obtain ⟨u1, d2, D1⟩ := D_with D0 op 7 (by decide)
    obtain ⟨u2, d3, D2⟩ := D_with D1 op 7 (by decide)
    refine ⟨u2, ?_, D2.d, D2.a⟩
    rw [B29_32 d1 D0.s.f7 (n11d D0.k D0.s)]; unfold F_29_461
    rw [B32_32 D0.s.f7, d2]; simp only [Option.bind_some]; rw [d3]; rfl
  · rw [B336_32]; unfold F_336_257; rw [s335 _ _ _ z, B335_32]; rfl
  · obtain ⟨g0, g1, g2, f1, r1, r1', r2, r3, r4⟩ := rr_2 g 1 7 7
    refine ⟨g2, ?_, r2, r3, r4⟩
    rw [B336_32, F_336_257, s335' _ _ _ z, B335_32, if_neg (by decide), f1]; simp only [Option.bind_some]; rw [r1]; simp only [Option.bind_some]; rw [r1']; rfl
  · exact ⟨(Or.inr (Or.inr (Or.inr (Or.inr (Or.inr (Or.inr (Or.inr (Or.inr (Or.inr (Or.inr (Or.inr (Or.inr (Or.inr (Or.inr (Or.inr (Or.inr (Or.inr (Or.inr (Or.inr (Or.inr (Or.inr (Or.inr (Or.inr (Or.inr (Or.inl ⟨rfl, rfl, rfl, rfl⟩))))))))))))))))))))))))), ⟨1, rfl, by omega⟩, kL_app (kL_1 (q := 7) (by omega) (by omega)) (kL_1 (q := 7) (by omega) (by omega)), len2 _ _⟩
theorem mk_33 {h g : sm_H} (K : K1 h g) (a b : Int32) (c : Int64) {o p : Nat} {ps : List Int32} (S : fS h (I3 33) 0 0 0 o p ps) (op : oP o p) (P : prR g ps) : ∃ out, OC h (I3 33) 0 0 0 out ∧ OR g (I3 33) a b c out ∧ OK g 33 0 0 0 out := by
  have e7 := S.f7
  refine genA (r := 5) (l := [19]) K S op P (by decide) (by decide) (by decide) rfl true (fun _ => B9_33 e7) (fun z => ?_) (B14_33 e7) (B26_33 e7) (fun z kv => ?_) (fun z => ?_) (fun z kv => by cases kv) (fun z kv => ?_) (fun kv => ?_)
  · subst z; rw [B11_33 e7 (n11d K S)]; rfl
  · subst z
    obtain ⟨u, d1, D0⟩ := D_begin K S op
    obtain ⟨u1, d2, D1⟩ := D_with D0 op 19 (by decide)
    refine ⟨u1, ?_, D1.d, D1.a⟩
    rw [B29_33 d1 D0.s.f7 (n11d D0.k D0.s)]; unfold F_29_461
    rw [B32_33 D0.s.f7, d2]; rfl
  · rw [B336_33]; unfold F_336_257; rw [s335 _ _ _ z, B335_33]; rfl
  · obtain ⟨g0, g1, f1, r1, r2, r3, r4⟩ := rr_1 g 5 19
    refine ⟨g1, ?_, r2, r3, r4⟩
    rw [B336_33, F_336_257, s335' _ _ _ z, B335_33, if_neg (by decide), f1]; simp only [Option.bind_some]; rw [r1]; rfl
  · exact ⟨(Or.inr (Or.inr (Or.inr (Or.inr (Or.inr (Or.inr (Or.inr (Or.inr (Or.inr (Or.inr (Or.inr (Or.inr (Or.inr (Or.inr (Or.inr (Or.inr (Or.inr (Or.inr (Or.inr (Or.inr (Or.inr (Or.inr (Or.inr (Or.inr (Or.inr (Or.inl ⟨rfl, rfl, rfl, rfl⟩)))))))))))))))))))))))))), ⟨5, rfl, by omega⟩, kL_1 (q := 19) (by omega) (by omega), len1 _⟩
theorem obs {α β : Type} (a : α) (f : α → Option β) : (some a).bind f = f a := Eq.trans (Option.bind_some a f) (Eq.refl _)
theorem tnI {n : Nat} (h : n < 2147483648) : tn (I3 n) = n := I3_clamp h
abbrev E (h g u : sm_H) (r : Int32) (l : List Int32) : Prop := (K1 h u) ∧ (dR u l) ∧ (agr SRd g u) ∧ (u.1 67 20 = r)
theorem E.k {h g u : sm_H} {r : Int32} {l : List Int32} (F_ : E h g u r l) : K1 h u := F_.1
theorem E.d {h g u : sm_H} {r : Int32} {l : List Int32} (F_ : E h g u r l) : dR u l := F_.2.1
theorem E.a {h g u : sm_H} {r : Int32} {l : List Int32} (F_ : E h g u r l) : agr SRd g u := F_.2.2.1
theorem E.r {h g u : sm_H} {r : Int32} {l : List Int32} (F_ : E h g u r l) : u.1 67 20 = r := F_.2.2.2
section
variable {h g u : sm_H} {r : Int32} {l : List Int32}
theorem E.nH (e : E h g u r l) : nH u = nH g := by show tn _ = tn _; rw [e.a.1 67 18 (by unfold SRd; omega)]
theorem E.nT (e : E h g u r l) : nT u = nT g := by show tn _ = tn _; rw [e.a.1 67 10 (by unfold SRd; omega)]
theorem E.ty (e : E h g u r l) (x : Nat) : ty u x = ty g x := by show tn _ = tn _; rw [e.a.1 76 x (by unfold SRd; omega)]
theorem E.tM (e : E h g u r l) (t : Nat) : tM u t = tM g t := by show tn _ = tn _; rw [e.a.1 73 t (by unfold SRd; omega)]
theorem E.rs (e : E h g u r l) (t : Nat) : rs u t = rs g t := e.a.1 72 t (by unfold SRd; omega)
theorem e_pl (e : E h g u r l) (t : Nat) : pl u t = pl g t := by
  show lst _ (tM u t) = lst _ (tM g t)
  rw [e.tM]; exact lst_congr (fun k _ => e.a.1 74 _ (by unfold SRd; omega))
theorem E.pl (e : E h g u r l) (t : Nat) : pl u t = pl g t := e_pl e t
theorem e_hpl (e : E h g u r l) (x : Nat) : hpl u x = hpl g x := by show pl u (ty u x) = _; rw [e.ty, e.pl]
theorem E.hpl (e : E h g u r l) (x : Nat) : hpl u x = hpl g x := e_hpl e x
theorem e_hrs (e : E h g u r l) (x : Nat) : hrs u x = hrs g x := by show rs u (ty u x) = _; rw [e.ty, e.rs]
theorem E.hrs (e : E h g u r l) (x : Nat) : hrs u x = hrs g x := e_hrs e x
theorem E.ld (e : E h g u r l) (k : Nat) : u.1 69 k = g.1 69 k := e.a.1 69 k (by unfold SRd; omega)
end
theorem E_clear {h g : sm_H} (K : K1 h g) (r : Int32) : ∃ u, F_308 r g = some u ∧ E h g u r [] := by
  obtain ⟨u, f1, f2, f3, f4⟩ := R_clear g r
  exact ⟨u, f1, K1_g K (agr_mono SRd_not f3), f2, f3, f4⟩
theorem E_add {h g u : sm_H} {r : Int32} {l : List Int32} (e : E h g u r l) (hl : l.length < 64) (x : Int32) : ∃ u1, F_309 x u = some u1 ∧ E h g u1 r (l ++ [x]) := by
  obtain ⟨u1, r1, r2, r3, r4⟩ := R_addNew e.d hl x
  exact ⟨u1, r1, K1_g e.k (agr_mono SRd_not r3), r2, agr_trans e.a r3, r4.trans e.r⟩
theorem E_type {h g u : sm_H} {r : Int32} {l : List Int32} (e : E h g u r l) {t : Nat} (ht : t < nT g) (hl : l.length ≤ 54) : ∃ u1, F_311 (I3 t) u = some u1 ∧ E h g u1 r (l ++ pl g t) := by
  have m10 : tM u t ≤ 10 := (e.k.2.2.1.2.1 t (by rw [e.nT]; exact ht)).2.1.2
  obtain ⟨u1, r1, r2, r3, r4⟩ := R_addType e.k e.d (t := t) (by rw [e.nT]; exact ht) (by omega)
  rw [e.pl] at r2
  exact ⟨u1, r1, K1_g e.k (agr_mono SRd_not r3), r2, agr_trans e.a r3, r4.trans e.r⟩
theorem E_places {h g u : sm_H} {r : Int32} {l : List Int32} (e : E h g u r l) {x i j : Nat} (hx : x < nH g) (hj : j ≤ tM g (ty g x)) (hl : l.length ≤ 54) (hi : i ≤ 1000) : ∃ u1, F_310 (I3 x) (I3 i) (I3 j) u = some u1 ∧ E h g u1 r (l ++ seg (hpl g x) i (j - i)) := by
  have hx' : x < nH u := by rw [e.nH]; exact hx
  have m10 : tM u (ty u x) ≤ 10 := (e.k.2.2.1.2.1 _ (e.k.2.2.2.2.1.2 x hx').2.2.1).2.1.2
  have em : tM u (ty u x) = tM g (ty g x) := by rw [e.ty, e.tM]
  obtain ⟨u1, r1, r2, r3, r4⟩ := R_addPlaces e.k e.d (x := x) (a := i) (b := j) hx' (by omega) (by omega) hi
  rw [e.hpl] at r2
  exact ⟨u1, r1, K1_g e.k (agr_mono SRd_not r3), r2, agr_trans e.a r3, r4.trans e.r⟩
theorem E_many {h g u : sm_H} {r : Int32} {l : List Int32} (e : E h g u r l) {x : Nat} (hx : x < nH g) : F_305 (I3 x) u = some (I3 (tM g (ty g x)), u) := by
  have := R_many e.k.2.2.1 e.k.2.2.2.2.1 (x := x) (by rw [e.nH]; exact hx)
  rw [e.ty, e.tM] at this; exact this
theorem E_result {h g u : sm_H} {r : Int32} {l : List Int32} (e : E h g u r l) {x : Nat} (hx : x < nH g) : F_307 (I3 x) u = some (hrs g x, u) := by
  have := R_result e.k.2.2.1 e.k.2.2.2.2.1 (x := x) (by rw [e.nH]; exact hx)
  rw [e.hrs] at this; exact this
theorem hpl_len (g : sm_H) (x : Nat) : (hpl g x).length = tM g (ty g x) := lst_len _ _
theorem pl_len (g : sm_H) (t : Nat) : (pl g t).length = tM g t := lst_len _ _
theorem E_place {h g u : sm_H} {r : Int32} {l : List Int32} (e : E h g u r l) {x k : Nat} (hx : x < nH g) (hk : k < (hpl g x).length) : F_306 (I3 x) (I3 k) u = some (at0 (hpl g x) k, u) := by
  rw [hpl_len] at hk
  have := R_place e.k.2.2.1 e.k.2.2.2.2.1 (x := x) (k := k) (by rw [e.nH]; exact hx) (by rw [e.ty, e.tM]; exact hk)
  rw [e.ty, e.a.1 74 _ (by unfold SRd; omega)] at this
  rw [this, at0_lst hk]
theorem E_all {h g u : sm_H} {r : Int32} {l : List Int32} (e : E h g u r l) {x : Nat} (hx : x < nH g) (hl : l.length ≤ 54) : ∃ u1, F_310 (I3 x) 0 (I3 (tM g (ty g x))) u = some u1 ∧ E h g u1 r (l ++ hpl g x) := by
  obtain ⟨u1, c1, c2⟩ := E_places e (i := 0) hx (Nat.le_refl _) hl (by omega)
  rw [Nat.sub_zero, ← hpl_len, seg_all] at c2
  exact ⟨u1, c1, c2⟩
theorem C_ty {h g : sm_H} (K : K1 h g) {p : Nat} (hp : p < nH g) : F_41 (I3 p) h = some (I3 (ty g p), h) := by
  have := C_typeOf K.2.2.2.2.1 K.2.2.2.2.2.1 hp
  rw [(K.2.2.2.2.1.2 p hp).2.1] at this; exact this
theorem C_rs {h g : sm_H} (K : K1 h g) {p : Nat} (hp : p < nH g) : F_44 (I3 p) h = some (hrs g p, h) := C_resultOf K.2.2.2.2.1 K.2.2.2.2.2.1 hp
theorem C_mn {h g : sm_H} (K : K1 h g) {p : Nat} (hp : p < nH g) : F_45 (I3 p) h = some (I3 (tM g (ty g p)), h) := by
  have := C_placesOf K.2.2.2.2.1 K.2.2.2.2.2.1 hp
  rw [(K.2.2.1.2.1 _ (K.2.2.2.2.1.2 p hp).2.2.1).2.1.1] at this; exact this
theorem C_fm {h g : sm_H} (K : K1 h g) {p : Nat} (hp : p < nH g) : F_37 (I3 p) h = some (I3 (fm g p), h) := by
  have := C_form K.2.2.2.2.1 K.2.2.2.2.2.1 hp
  rw [(K.2.2.2.2.1.2 p hp).1.1] at this; exact this
theorem C_pc {h g : sm_H} (K : K1 h g) {p : Nat} (hp : p < nH g) {k : Nat} (hk : k < (hpl g p).length) : F_46 (I3 p) (I3 k) h = some (at0 (hpl g p) k, h) := by
  rw [hpl_len] at hk
  have := C_place K.2.2.1 K.2.2.2.2.1 K.2.2.2.2.2.1 hp hk
  rw [this, at0_lst hk]
theorem C_pc_o {h g : sm_H} (K : K1 h g) {p : Nat} (hp : p < nH g) {x : Int32} (hx : inR x (hpl g p).length = false) : F_46 (I3 p) x h = some (-1, h) := by
  rw [hpl_len] at hx
  exact C_place_o K.2.2.1 K.2.2.2.2.1 K.2.2.2.2.2.1 hp hx
theorem R_mn {h g : sm_H} (K : K1 h g) {p : Nat} (hp : p < nH g) : F_305 (I3 p) g = some (I3 (tM g (ty g p)), g) := R_many K.2.2.1 K.2.2.2.2.1 hp
theorem R_rs {h g : sm_H} (K : K1 h g) {p : Nat} (hp : p < nH g) : F_307 (I3 p) g = some (hrs g p, g) := R_result K.2.2.1 K.2.2.2.2.1 hp
theorem R_pc {h g : sm_H} (K : K1 h g) {p : Nat} (hp : p < nH g) {k : Nat} (hk : k < (hpl g p).length) : F_306 (I3 p) (I3 k) g = some (at0 (hpl g p) k, g) := by
  rw [hpl_len] at hk
  rw [R_place K.2.2.1 K.2.2.2.2.1 hp hk, at0_lst hk]
theorem R_ty {h g : sm_H} (K : K1 h g) {p : Nat} (hp : p < nH g) : ldI g 76 500 (I3 p) = some (I3 (ty g p)) := by
  have w500 : nH g ≤ 500 := K.2.2.2.2.1.1.2
  rw [ldI_I (by omega) (by omega), (K.2.2.2.2.1.2 p hp).2.1]
theorem R_fm {h g : sm_H} (K : K1 h g) {p : Nat} (hp : p < nH g) : ldI g 75 500 (I3 p) = some (I3 (fm g p)) := by
  have w500 : nH g ≤ 500 := K.2.2.2.2.1.1.2
  rw [ldI_I (by omega) (by omega), (K.2.2.2.2.1.2 p hp).1.1]
theorem ty_lt {h g : sm_H} (K : K1 h g) {p : Nat} (hp : p < nH g) : ty g p < nT g := (K.2.2.2.2.1.2 p hp).2.2.1
theorem mn_10 {h g : sm_H} (K : K1 h g) {p : Nat} (hp : p < nH g) : (hpl g p).length ≤ 10 := by rw [hpl_len]; exact (K.2.2.1.2.1 _ (ty_lt K hp)).2.1.2
theorem rs_k {h g : sm_H} (K : K1 h g) {p : Nat} (hp : p < nH g) : ∃ q, hrs g p = I3 q ∧ q < 20 + nC g := by
  have := (K.2.2.1.2.1 _ (ty_lt K hp)).1
  exact ⟨tR g (ty g p), this.1, by have := this.2; show tn _ < _; omega⟩
theorem kL_h {h g : sm_H} (K : K1 h g) {p : Nat} (hp : p < nH g) : kL g (hpl g p) := kL_pl K.2.2.1 (ty_lt K hp)
theorem kR_h {h g : sm_H} (K : K1 h g) {p : Nat} (hp : p < nH g) : kR1 g (hrs g p) := kR1_rs K.2.2.1 (ty_lt K hp)
theorem genB {h g : sm_H} (K : K1 h g) {n fn : Nat} {f a b a' b' nn : Int32} {c c' : Int64} {o p : Nat} {ps : List Int32} (S : fS h f a' b' c' o p ps) (P : prR g ps) (n3 : n ≤ 3) (f5 : f ≠ 5) (f18 : f ≠ 18) (f17 : f ≠ 17) (pn : sm_ldI G0 h 1000001 f = some (I3 n)) (en : nn = I3 n) {Z : Int32 × sm_H → Option (Int32 × sm_H)} {X : Option (Int32 × sm_H)}
    (hF : F_336 f a b c g = (if g.1 67 3 = nn then (F_314 0 nn g).bind Z else X).bind fun q => some (q.1, q.2)) (zX : X = some (1, g)) (zZ : Z (0, g) = some (1, g))
    (good : ps.length = n → (∀ k, k < n → ∃ q, q < nH g ∧ at0 ps k = I3 q) → F_7 h = some (0, h) → F_336 f a b c g = (Z (1, g)).bind (fun q => some (q.1, q.2)) → ∃ out, OC h f a' b' c' out ∧ OR g f a b c out ∧ OK g fn a' b' c' out) : ∃ out, OC h f a' b' c' out ∧ OR g f a b c out ∧ OK g fn a' b' c' out := by
  have l20 := P.2.1
  have w500 : nH g ≤ 500 := K.2.2.2.2.1.1.2
  have L := C_lacksP K S n3 f5 f18 f17 pn
  subst en zX
  by_cases q : ps.length = n
  · rw [decide_eq_true q, Bool.true_and] at L
    rw [if_pos (by rw [P.1, q]), R_areH K.2.2.2.2.1 P (by omega)] at hF; simp only [Option.bind_some] at hF
    cases i : aH g ps n with
    | false =>
      rw [i] at L hF
      refine ⟨.ref 1, tl_1 L, ⟨g, ?_, agr_rfl⟩, ⟨by decide, by decide⟩⟩
      rw [hF, show (b2 false, g) = ((0 : Int32), g) from rfl, zZ]; rfl
    | true =>
      rw [i] at L hF
      refine good q (fun k hk => ?_) L hF
      obtain ⟨q, q1, q2⟩ := inR_x (by omega) (all1_iff.mp i k hk)
      exact ⟨q, q1, q2⟩
  · rw [decide_eq_false q, Bool.false_and] at L
    refine ⟨.ref 1, tl_1 L, ⟨g, ?_, agr_rfl⟩, ⟨by decide, by decide⟩⟩
    rw [hF, if_neg (by rw [P.1, I3_inj (by omega) (by omega)]; exact q)]; rfl
theorem list1 {ps : List Int32} {x : Int32} (h : ps.length = 1) (e : at0 ps 0 = x) : ps = [x] := by
  match ps, h with
  | [a], _ => rw [show at0 [a] 0 = a from rfl] at e; rw [e]
theorem list2 {ps : List Int32} {x y : Int32} (h : ps.length = 2) (e : at0 ps 0 = x) (e' : at0 ps 1 = y) : ps = [x, y] := by
  match ps, h with
  | [a, b], _ => rw [show at0 [a, b] 0 = a from rfl] at e; rw [show at0 [a, b] 1 = b from rfl] at e'; rw [e, e']
theorem list3 {ps : List Int32} {x y z : Int32} (h : ps.length = 3) (e : at0 ps 0 = x) (e' : at0 ps 1 = y) (e'' : at0 ps 2 = z) : ps = [x, y, z] := by
  match ps, h with
  | [a, b, c], _ => rw [show at0 [a, b, c] 0 = a from rfl] at e; rw [show at0 [a, b, c] 1 = b from rfl] at e'; rw [show at0 [a, b, c] 2 = c from rfl] at e''; rw [e, e', e'']
theorem prR_ld {g : sm_H} {ps : List Int32} (P : prR g ps) {k : Nat} (hk : k < ps.length) : ldI g 69 24 (I3 k) = some (at0 ps k) := by
  have := P.2.1
  rw [ldI_I (by omega) (by omega), P.2.2 k hk]
theorem gen1 {h g : sm_H} (K : K1 h g) {fn : Nat} {f a b a' b' : Int32} {c c' : Int64} {o p : Nat} {ps : List Int32} (S : fS h f a' b' c' o p ps) (P : prR g ps) (f5 : f ≠ 5) (f18 : f ≠ 18) (f17 : f ≠ 17) (pn : sm_ldI G0 h 1000001 f = some (I3 1)) {Z : Int32 × sm_H → Option (Int32 × sm_H)} {X : Option (Int32 × sm_H)}
    (hF : F_336 f a b c g = (if g.1 67 3 = 1 then (F_314 0 1 g).bind Z else X).bind fun q => some (q.1, q.2)) (zX : X = some (1, g)) (zZ : Z (0, g) = some (1, g))
    (good : ∀ x, x < nH g → ps = [I3 x] → h.1 34 12 = I3 x → ldI g 69 24 0 = some (I3 x) → F_7 h = some (0, h) → F_336 f a b c g = (Z (1, g)).bind (fun q => some (q.1, q.2)) → ∃ out, OC h f a' b' c' out ∧ OR g f a b c out ∧ OK g fn a' b' c' out) : ∃ out, OC h f a' b' c' out ∧ OR g f a b c out ∧ OK g fn a' b' c' out := by
  refine genB K S P (by decide) f5 f18 f17 pn rfl hF zX zZ (fun l e c7 r => ?_)
  obtain ⟨x, x1, x2⟩ := e 0 (by decide)
  have ep := list1 l x2
  have ld := prR_ld P (k := 0) (by omega)
  rw [x2] at ld
  refine good x x1 ep ?_ ld c7 r
  rw [S.f12, ep]; rfl
theorem gen2 {h g : sm_H} (K : K1 h g) {fn : Nat} {f a b a' b' : Int32} {c c' : Int64} {o p : Nat} {ps : List Int32} (S : fS h f a' b' c' o p ps) (P : prR g ps) (f5 : f ≠ 5) (f18 : f ≠ 18) (f17 : f ≠ 17) (pn : sm_ldI G0 h 1000001 f = some (I3 2)) {Z : Int32 × sm_H → Option (Int32 × sm_H)} {X : Option (Int32 × sm_H)}
    (hF : F_336 f a b c g = (if g.1 67 3 = 2 then (F_314 0 2 g).bind Z else X).bind fun q => some (q.1, q.2)) (zX : X = some (1, g)) (zZ : Z (0, g) = some (1, g))
    (good : ∀ x y, x < nH g → y < nH g → ps = [I3 x, I3 y] → h.1 34 12 = I3 x → h.1 34 13 = I3 y → ldI g 69 24 0 = some (I3 x) → ldI g 69 24 1 = some (I3 y) → F_7 h = some (0, h) → F_336 f a b c g = (Z (1, g)).bind (fun q => some (q.1, q.2)) → ∃ out, OC h f a' b' c' out ∧ OR g f a b c out ∧ OK g fn a' b' c' out) : ∃ out, OC h f a' b' c' out ∧ OR g f a b c out ∧ OK g fn a' b' c' out := by
  refine genB K S P (by decide) f5 f18 f17 pn rfl hF zX zZ (fun l e c7 r => ?_)
  obtain ⟨x, x1, x2⟩ := e 0 (by decide)
  obtain ⟨y, y1, y2⟩ := e 1 (by decide)
  have ep := list2 l x2 y2
  have ld := prR_ld P (k := 0) (by omega)
  have ld' := prR_ld P (k := 1) (by omega)
  rw [x2] at ld
  rw [y2] at ld'
  refine good x y x1 y1 ep ?_ ?_ ld ld' c7 r
  · rw [S.f12, ep]; rfl
  · rw [S.f13, ep]; rfl
theorem prR_SRd {g u : sm_H} {ps : List Int32} (P : prR g ps) (a : agr SRd g u) : prR u ps :=
  ⟨by rw [a.1 67 3 (by unfold SRd; omega)]; exact P.1, P.2.1, fun k hk => by rw [a.1 69 k (by unfold SRd; omega)]; exact P.2.2 k hk⟩
theorem at0_take {l : List Int32} {n i : Nat} (h : i < n) : at0 (l.take n) i = at0 l i := by
  unfold at0; rw [List.getD_eq_getElem?_getD, List.getD_eq_getElem?_getD, List.getElem?_take_of_lt h]
theorem at0_drop {l : List Int32} {n i : Nat} : at0 (l.drop n) i = at0 l (n + i) := by
  unfold at0; rw [List.getD_eq_getElem?_getD, List.getD_eq_getElem?_getD, List.getElem?_drop]
theorem kL_take {g : sm_H} {l : List Int32} {n : Nat} (h : kL g l) : kL g (l.take n) := fun i hi => by
  rw [List.length_take] at hi
  rw [at0_take (by omega)]; exact h i (by omega)
theorem kL_drop {g : sm_H} {l : List Int32} {n : Nat} (h : kL g l) : kL g (l.drop n) := fun i hi => by
  rw [List.length_drop] at hi
  rw [at0_drop]; exact h (n + i) (by omega)
