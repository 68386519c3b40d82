theorem par3 (g : sm_H) (x y z : Int32) : prR (sm_wI (sm_wI (sm_wI (sm_wI g 69 0 x) 69 1 y) 69 2 z) 67 3 3) [x, y, z] ∧ agr SRp g (sm_wI (sm_wI (sm_wI (sm_wI g 69 0 x) 69 1 y) 69 2 z) 67 3 3) := by
  refine ⟨⟨rfl, by simp, fun k hk => ?_⟩, agr_wI (agr_wI (agr_wI (agr_wI agr_rfl (by unfold SRp; omega)) (by unfold SRp; omega)) (by unfold SRp; omega)) (by unfold SRp; omega)⟩
  rcases (show k = 0 ∨ k = 1 ∨ k = 2 by simp only [List.length_cons, List.length_nil] at hk; omega) with rfl | rfl | rfl <;> rfl
theorem S56_stk (b j : Nat) (z : S56 b j) : ¬ (b = 55 ∧ j = 12 ∨ b = 60) := by unfold S56 at z; omega
theorem mayB_00 (g : sm_H) {a b : Nat} (n : a ≠ b) (h : a = 0 ∨ b = 0) (f : Bool) : mayB g a b f false = false := by
  unfold mayB
  rw [if_neg n]
  by_cases q : a = 0
  · rw [if_pos q]
  · rw [if_neg q, if_pos (by omega)]
theorem C_64 {h g : sm_H} (K : K1 h g) {a b : Nat} (n : a ≠ b) (ha : a < 20 + nC g) (hb : b < 20 + nC g) : F_64 (I3 a) (I3 b) 0 h = some (b2 (mayB g a b false false), h) := by
  by_cases z : a = 0 ∨ b = 0
  · rw [mayB_00 g n z]
    refine C_allows_o K.1 K.2.1 0 ?_
    rcases z with rfl | rfl
    · exact Or.inr (Or.inl rfl)
    · exact Or.inr (Or.inr (Or.inr rfl))
  · exact C_allows K.1 K.2.1 (by omega) ha (by omega) hb false
theorem ty_un {h g : sm_H} (K : K1 h g) {y z : Nat} (y1 : y < nH g) (z1 : z < nH g) (r : hrs g y = hrs g z) (p : hpl g y = hpl g z) : ty g y = ty g z := by
  have ly := hpl_len g y
  have lz := hpl_len g z
  have a := (K.2.2.1.2.1 _ (ty_lt K y1)).2.1.1
  have b := (K.2.2.1.2.1 _ (ty_lt K z1)).2.1.1
  have e : tM g (ty g y) = tM g (ty g z) := by rw [← ly, ← lz, p]
  refine K.2.2.1.2.2 _ _ (ty_lt K y1) (ty_lt K z1) r ?_ (fun i hi => ?_)
  · show g.1 73 _ = g.1 73 _
    exact (a.trans (congrArg I3 e)).trans b.symm
  · have u1 : at0 (hpl g y) i = g.1 74 (10 * ty g y + i) := at0_lst hi
    have u2 : at0 (hpl g z) i = g.1 74 (10 * ty g z + i) := at0_lst (by omega)
    rw [← u1, ← u2, p]
section
variable {h g : sm_H} {nm : Nat → Int64} {kd : List Int32} {pc base k : Nat} {pt : Nat → Nat} {ex : Int32}
theorem guardMk (K : K1 h g) (nf : NF h g) (wh : g.1 67 106 = I3 pc) (st : STK h base 3 pt) (ok : ∀ i, i < 3 → pt i < nH g ∧ hpl g (pt i) = kd) (r0 : hrs g (pt 0) = 1) (r12 : hrs g (pt 1) = hrs g (pt 2)) : PO base h g pc ((F_187 (I3 base) h).bind fun q2 =>
  (F_187 (I3 base + 1) q2.2).bind fun q3 =>
  (F_141 56 q2.1 q3.1 q3.2).bind fun q4 =>
  (F_187 (I3 base + 2) q4.2).bind fun q5 =>
  (F_139 56 q5.1 q5.2).bind fun q6 =>
  (F_5 14 0 0 0 56 q6.2).bind fun q7 =>
  if 0 ≤ q7.1 then (F_205_188 q7.1 q7.2)
  else ((F_169 8 (I3 pc) q7.2).bind fun q8 =>
  F_205_188 q8.1 q8.2)) (F_461_106 (I3 (pt 0)) (I3 (pt 1)) (I3 (pt 2)) g) kd := by
  obtain ⟨o1, o2⟩ := ok 0 (by omega)
  obtain ⟨p1, p2⟩ := ok 1 (by omega)
  obtain ⟨s1, s2⟩ := ok 2 (by omega)
  obtain ⟨h1, c1, c2, c3⟩ := C_two56 h (I3 (pt 0)) (I3 (pt 1))
  obtain ⟨h2, d1, d2, d3⟩ := C_app56 c2 (by simp) (I3 (pt 2))
  have st1 := STK_agr st c3 S56_stk
  have R2 : hasL h2 56 57 [I3 (pt 0), I3 (pt 1), I3 (pt 2)] := d2
  obtain ⟨u1, u2⟩ := par3 g (I3 (pt 0)) (I3 (pt 1)) (I3 (pt 2))
  have T2 := TK_par (TK_row (TK_row (TK_rfl K) c3) d3) u2
  have n2 := NF_par (NF_row (NF_row nf c3) d3) u2
  have ck := ck_14 (K1_c19 T2.k) (P := (show prR (sm_wI (sm_wI (sm_wI (sm_wI (sm_wI g 69 0 (I3 (pt 0))) 69 1 (I3 (pt 1))) 69 2 (I3 (pt 2))) 67 3 3) 67 19 0) _ from u1)) (x := pt 0) (y := pt 1) (z := pt 2) o1 p1 s1 (show ty g (pt 1) = ty g (pt 2) from ty_un K p1 s1 r12 (p2.trans s2.symm)) r0 (by show pre (hpl g (pt 0)) (hpl g (pt 1)); rw [o2, p2]; exact pre_rfl _) 0 0 0
  have M := mkForm T2.k n2 (f := 14) (wh_TK wh T2) 0 0 0 R2 u1 (by decide) (show (hpl g (pt 1)).length ≤ 64 by have := mn_10 K p1; omega) ck
  rw [show F_187 (I3 base) h = some (I3 (pt 0), h) from STK_at st (i := 0) (by omega)]; simp only [obs]
  rw [show I3 base + 1 = I3 (base + 1) from I3_add base 1, show I3 base + 2 = I3 (base + 2) from I3_add base 2, STK_at st (i := 1) (by omega)]; simp only [obs]
  rw [c1]; simp only [obs]
  rw [STK_at st1 (i := 2) (by omega)]; simp only [obs]
  rw [d1]; simp only [obs]
  unfold F_461_106 F_205_188
  rw [if_neg (h_m1 K o1), if_neg (h_m1 K p1), if_neg (h_m1 K s1), if_pos nf.2.1, show stI g 69 24 0 (I3 (pt 0)) = some (sm_wI g 69 0 (I3 (pt 0))) from stI_I (k := 0) (by decide) (by decide)]; simp only [obs]
  rw [show stI (sm_wI g 69 0 (I3 (pt 0))) 69 24 1 (I3 (pt 1)) = some (sm_wI (sm_wI g 69 0 (I3 (pt 0))) 69 1 (I3 (pt 1))) from stI_I (k := 1) (by decide) (by decide)]; simp only [obs]
  rw [show stI (sm_wI (sm_wI g 69 0 (I3 (pt 0))) 69 1 (I3 (pt 1))) 69 24 2 (I3 (pt 2)) = some (sm_wI (sm_wI (sm_wI g 69 0 (I3 (pt 0))) 69 1 (I3 (pt 1))) 69 2 (I3 (pt 2))) from stI_I (k := 2) (by decide) (by decide)]; simp only [obs]
  rw [bind_id]
  rcases M with ⟨z, h3, g3, m1, m2, m3, m4, m5, m6, m7⟩ | ⟨w', h3, h4, g4, w0, m1, m2, m3, m4, m5⟩
  · rw [show F_5 14 0 0 0 56 h2 = _ from m1]; simp only [obs]
    rw [if_pos (h_ge m6.k m3)]
    exact Or.inl ⟨z, h3, g3, rfl, m2, m3, m5.trans p2, TB_of (TK_trans T2 m6), m7⟩
  · rw [show F_5 14 0 0 0 56 h2 = _ from m1]; simp only [obs]
    rw [if_neg (Int32.not_le.mpr w0), m2]
    exact Or.inr ⟨8, h4, g4, rfl, m3, TB_of (TK_trans T2 m4), m5⟩
theorem d106 (g : sm_H) (x y z : Int32) (h : x = -1 ∨ y = -1 ∨ z = -1 ∨ ¬ g.1 67 77 = 0) : F_461_106 x y z g = some (-1, g) := by
  unfold F_461_106 F_461_131
  by_cases a : x = -1
  · rw [if_pos a]
  · rw [if_neg a]
    by_cases b : y = -1
    · rw [if_pos b]
    · rw [if_neg b]
      by_cases c : z = -1
      · rw [if_pos c]
      · rw [if_neg c, if_neg]
        rcases h with h | h | h | h
        · exact absurd h a
        · exact absurd h b
        · exact absurd h c
        · exact h
theorem d413 (g : sm_H) (f : ¬ g.1 67 77 = 0) (e p : Int32) : F_413 e p g = some (0, g) := by
  show F_413_0 e p g = _
  unfold F_413_0 F_413_17
  rw [if_neg f]
theorem do_0 (K : K1 h g) (S : SCO nm kd h g) (nf : NF h g) (wh : g.1 67 106 = I3 pc) (st : STK h base 3 pt) (ok : ∀ i, i < 3 → pt i < nH g ∧ hpl g (pt i) = kd) (fr : FRM g k 2 ex 3 pt) : PO base h g pc (CP 0 ex (I3 base) (I3 pc) h) (F_460 (I3 k) g) kd := by
  have h12 := K.1.2.1
  obtain ⟨o1, o2⟩ := ok 0 (by omega)
  obtain ⟨p1, p2⟩ := ok 1 (by omega)
  obtain ⟨s1, s2⟩ := ok 2 (by omega)
  obtain ⟨q, q1, q2⟩ := rs_k K p1
  obtain ⟨r, r1, r2⟩ := rs_k K s1
  rw [F460 fr]
  unfold F_460_74
  rw [ld122 fr, ld119 fr]; simp only [obs]
  rw [if_neg (by decide), if_pos trivial, show pO 3 pt 0 = I3 (pt 0) from rfl, show pO 3 pt 1 = I3 (pt 1) from rfl, show pO 3 pt 2 = I3 (pt 2) from rfl, bind_id]
  have C0 : CP 0 ex (I3 base) (I3 pc) h = F_205 (I3 base) (I3 pc) h := by
    unfold CP
    rw [show F_203 0 ex (I3 base) h = some (1, h) from rfl]; simp only [obs]
    rw [if_neg (by decide), if_pos trivial, bind_id]
  rw [C0]
  have C1 : F_205 (I3 base) (I3 pc) h = F_205_0 (I3 base) (I3 pc) h := rfl
  have R1 : F_461 (I3 (pt 0)) (I3 (pt 1)) (I3 (pt 2)) g = F_461_0 (I3 (pt 0)) (I3 (pt 1)) (I3 (pt 2)) g := rfl
  unfold F_205_0 at C1
  unfold F_461_0 at R1
  rcases pass1 K S nf (i := 0) wh st (by omega) o1 o2 (k := 1) (by omega) with ⟨z, h1, g1, a1, a2, a3, a4, a5, a6, a7, a8⟩ | ⟨e, h1, g1, a1, a2, a3, a4⟩
  · rw [show F_190 (I3 base) 1 (I3 pc) h = some (1, h1) from a1] at C1; simp only [obs] at C1
    rw [show F_433 (I3 (pt 0)) 1 g = some (I3 z, g1) from a2] at R1; simp only [obs] at R1
    have nc := a7.nC
    have p1' := a7.nH p1
    have s1' := a7.nH s1
    have q1' : hrs g1 (pt 1) = I3 q := (a7.hrs K p1).trans q1
    have r1' : hrs g1 (pt 2) = I3 r := (a7.hrs K s1).trans r1
    have u1 : updN pt 0 z 1 = pt 1 := rfl
    have u2 : updN pt 0 z 2 = pt 2 := rfl
    have S1 := SCO_TB S a7
    have wh1 := wh_TB wh a7
    have ok1 : ∀ i, i < 3 → updN pt 0 z i < nH g1 ∧ hpl g1 (updN pt 0 z i) = kd := fun i hi => by
      rcases (show i = 0 ∨ i = 1 ∨ i = 2 by omega) with rfl | rfl | rfl
      · exact ⟨a3, a5⟩
      · exact ⟨p1', (a7.hpl K p1).trans p2⟩
      · exact ⟨s1', (a7.hpl K s1).trans s2⟩
    rw [if_neg (by decide), show I3 base + 1 = I3 (base + 1) from I3_add base 1, show I3 base + 2 = I3 (base + 2) from I3_add base 2, show F_189 (I3 (base + 1)) h1 = some (hrs g1 (pt 1), h1) from C_189 (pt := updN pt 0 z) a7.k a6 (i := 1) (by omega) p1', q1'] at C1; simp only [obs] at C1
    rw [show F_189 (I3 (base + 2)) h1 = some (hrs g1 (pt 2), h1) from C_189 (pt := updN pt 0 z) a7.k a6 (i := 2) (by omega) s1', r1'] at C1; simp only [obs] at C1
    rw [R_rs a7.k p1', q1'] at R1; simp only [obs] at R1
    rw [R_rs a7.k s1', r1'] at R1; simp only [obs] at R1
    rw [C1, R1]
    refine PO_tr a7 ?_
    have fin2 : PO base h1 g1 pc (F_205_49 (I3 base) (I3 pc) (I3 q) (I3 r) h1) ((F_433 (I3 (pt 2)) (I3 q) g1).bind fun q19 => F_461_106 (I3 z) (I3 (pt 1)) q19.1 q19.2) kd := by
      unfold F_205_49 F_205_54 F_205_83 F_205_98 F_205_109
      rw [if_neg (by decide), if_neg (by decide), if_neg (by decide), show I3 base + 2 = I3 (base + 2) from I3_add base 2]
      rcases pass1 a7.k S1 a8 (i := 2) (pc := pc) wh1 a6 (by omega) (by rw [u2]; exact s1') (by rw [u2]; exact (ok1 2 (by omega)).2) (k := q) (by omega) with ⟨w, h2, g2, c1, c2, c3, c4, c5, c6, c7, c8⟩ | ⟨e, h2, g2, c1, c2, c3, c4⟩
      · rw [u2] at c2
        rw [c1, c2]; simp only [obs]
        rw [if_neg (by decide)]
        have T := TB_mono (Nat.le_add_right base 2) c7
        refine PO_tr T ?_
        have G := guardMk (pt := updN (updN pt 0 z) 2 w) T.k c8 (wh_TB wh1 T) c6 (fun i hi => by
          rcases (show i = 0 ∨ i = 1 ∨ i = 2 by omega) with rfl | rfl | rfl
          · exact ⟨T.nH a3, (T.hpl a7.k a3).trans a5⟩
          · exact ⟨T.nH p1', (T.hpl a7.k p1').trans (ok1 1 (by omega)).2⟩
          · exact ⟨c3, c5⟩) ((T.hrs a7.k a3).trans a4) (((T.hrs a7.k p1').trans q1').trans c4.symm)
        rw [show I3 base + 2 = I3 (base + 2) from I3_add base 2, show updN (updN pt 0 z) 2 w 0 = z from rfl, show updN (updN pt 0 z) 2 w 1 = pt 1 from rfl, show updN (updN pt 0 z) 2 w 2 = w from rfl] at G
        exact G
      · rw [u2] at c2
        rw [c1, c2]; simp only [obs]
        rw [if_pos trivial, d106 _ _ _ _ (Or.inr (Or.inr (Or.inl rfl)))]
        exact PO_fail (TB_of c3) c4 rfl rfl agr_rfl
    by_cases e : q = r
    · subst e
      rw [if_pos rfl, if_pos rfl]
      have id2 : F_433 (I3 (pt 2)) (I3 q) g1 = some (I3 (pt 2), g1) := by
        show F_433_0 (I3 (pt 2)) (I3 q) g1 = _
        unfold F_433_0
        rw [if_pos a8.2.1, if_neg (h_m1 a7.k s1'), R_rs a7.k s1', r1']; simp only [obs]
        rw [if_pos trivial]
      rw [id2] at fin2; simp only [obs] at fin2
      exact fin2
    · have e1 : ¬ I3 q = I3 r := by rw [I3_inj (by omega) (by omega)]; exact e
      rw [if_neg e1, if_neg e1, C_64 a7.k (fun z => e z.symm) (by omega) (by omega), R_rs a7.k s1', r1']; simp only [obs]
      rw [R_rs a7.k p1', q1']; simp only [obs]
      rw [show F_297 (I3 r) (I3 q) 0 0 g1 = some (b2 (mayB g1 r q false false), g1) from R_mayBe a7.k.1 (by omega) (by omega) false false]; simp only [obs]
      cases m : mayB g1 r q false false with
      | true =>
        rw [if_neg (by decide), if_neg (by decide), R_rs a7.k p1', q1']; simp only [obs]
        exact fin2
      | false =>
        rw [if_pos (by decide), if_pos (by decide), R_rs a7.k p1', q1']; simp only [obs]
        rw [R_rs a7.k s1', r1']; simp only [obs]
        rw [show F_297 (I3 q) (I3 r) 0 0 g1 = some (b2 (mayB g1 q r false false), g1) from R_mayBe a7.k.1 (by omega) (by omega) false false]; simp only [obs]
        unfold F_205_54
        rw [if_pos rfl, C_64 a7.k e (by omega) (by omega)]; simp only [obs]
        cases m2 : mayB g1 q r false false with
        | true =>
          rw [if_neg (by decide), if_neg (by decide), R_rs a7.k s1', r1']; simp only [obs]
          unfold F_205_83 F_205_98 F_205_109
          rw [if_pos rfl, if_pos rfl, show I3 base + 1 = I3 (base + 1) from I3_add base 1]
          rcases pass1 a7.k S1 a8 (i := 1) (pc := pc) wh1 a6 (by omega) (by rw [u1]; exact p1') (by rw [u1]; exact (ok1 1 (by omega)).2) (k := r) (by omega) with ⟨w, h2, g2, c1, c2, c3, c4, c5, c6, c7, c8⟩ | ⟨e, h2, g2, c1, c2, c3, c4⟩
          · rw [u1] at c2
            rw [c1, c2]; simp only [obs]
            rw [if_neg (by decide)]
            have T := TB_mono (Nat.le_add_right base 1) c7
            refine PO_tr T ?_
            have G := guardMk (pt := updN (updN pt 0 z) 1 w) T.k c8 (wh_TB wh1 T) c6 (fun i hi => by
              rcases (show i = 0 ∨ i = 1 ∨ i = 2 by omega) with rfl | rfl | rfl
              · exact ⟨T.nH a3, (T.hpl a7.k a3).trans a5⟩
              · exact ⟨c3, c5⟩
              · exact ⟨T.nH s1', (T.hpl a7.k s1').trans (ok1 2 (by omega)).2⟩) ((T.hrs a7.k a3).trans a4) (c4.trans ((T.hrs a7.k s1').trans r1').symm)
            rw [show I3 base + 1 = I3 (base + 1) from I3_add base 1, show updN (updN pt 0 z) 1 w 0 = z from rfl, show updN (updN pt 0 z) 1 w 1 = w from rfl, show updN (updN pt 0 z) 1 w 2 = pt 2 from rfl] at G
            exact G
          · rw [u1] at c2
            rw [c1, c2]; simp only [obs]
            rw [if_pos trivial, d106 _ _ _ _ (Or.inr (Or.inl rfl))]
            exact PO_fail (TB_of c3) c4 rfl rfl agr_rfl
        | false =>
          rw [if_pos (by decide), if_pos (by decide)]
          obtain ⟨h2, g2, f1, f2, f3, f4⟩ := failB a7.k a8 (e := 7) (pc := pc) (by decide) (by decide)
          rw [show F_169 7 (I3 pc) h1 = some (-1, h2) from f1, wh1, show F_413 7 (I3 pc) g1 = some (0, g2) from f2]; simp only [obs]
          rw [d106 _ _ _ _ (Or.inr (Or.inr (Or.inr (FT_ne f4))))]
          exact PO_fail (TB_of f3) f4 rfl rfl agr_rfl
  · rw [show F_190 (I3 base) 1 (I3 pc) h = some (0, h1) from a1] at C1; simp only [obs] at C1
    rw [show F_433 (I3 (pt 0)) 1 g = some (-1, g1) from a2] at R1; simp only [obs] at R1
    rw [if_pos trivial] at C1
    have nc := a3.nC
    have p1' := a3.nH p1
    have s1' := a3.nH s1
    have q1' : hrs g1 (pt 1) = I3 q := (a3.hrs K p1).trans q1
    have r1' : hrs g1 (pt 2) = I3 r := (a3.hrs K s1).trans r1
    have fne := FT_ne a4
    have x1 := R_rs a3.k p1'
    have x2 := R_rs a3.k s1'
    have x3 : F_297 (I3 r) (I3 q) 0 0 g1 = some (b2 (mayB g1 r q false false), g1) := R_mayBe a3.k.1 (by omega) (by omega) false false
    have x4 : F_297 (I3 q) (I3 r) 0 0 g1 = some (b2 (mayB g1 q r false false), g1) := R_mayBe a3.k.1 (by omega) (by omega) false false
    have x5 : ∀ y z, F_461_106 (-1) y z g1 = some (-1, g1) := fun y z => d106 _ _ _ _ (Or.inl rfl)
    rw [q1'] at x1
    rw [r1'] at x2
    simp only [obs, x1, x2, x3, x4, d413 _ fne, dd433 fne, x5, ite_self] at R1
    exact PO_fail (TB_of a3) a4 C1 R1 agr_rfl
theorem folded1 (K : K1 h g) (nf : NF h g) (wh : g.1 67 106 = I3 pc) {x y : Nat} (x1 : x < nH g) (y1 : y < nH g) (ex : hpl g x = hrs g y :: kd) (ey : hpl g y = kd) (ry : ¬ hrs g y = 0) : MkO h g pc (F_206 (I3 x) (I3 y) (I3 pc) h) (F_432 8 0 (I3 x) (I3 y) g) (hrs g x) kd := by
  have gn : gone (hrs g y) = 1 := gone_n ry
  have el : (hpl g x).take 0 ++ (hpl g x).drop (0 + gone (hrs g y)) = kd := by rw [gn, ex]; rfl
  obtain ⟨h1, c1, c2⟩ := foldMk K nf (n := 0) wh x1 y1 (by rw [gn, ex, List.length_cons]; omega) (fun _ => by rw [ex]; rfl) (by rw [el, ey]; exact pre_rfl _) el
  have C0 : F_206 (I3 x) (I3 y) (I3 pc) h = F_206_0 (I3 x) (I3 y) (I3 pc) h := rfl
  unfold F_206_0 F_206_40 at C0
  rw [c1] at C0; simp only [obs] at C0
  rcases c2 with ⟨z, h2, g2, q1, q2, q3, q4, q5, q6, q7⟩ | ⟨w', h2, h3, g3, w0, q1, q2, q3, q4, q5⟩
  · rw [show F_5 8 0 0 0 56 h1 = _ from q1] at C0; simp only [obs] at C0
    rw [if_pos (h_ge q6.k q3)] at C0
    exact Or.inl ⟨z, h2, g2, C0, q2, q3, q4, q5, q6, q7⟩
  · rw [show F_5 8 0 0 0 56 h1 = _ from q1] at C0; simp only [obs] at C0
    rw [if_neg (Int32.not_le.mpr w0), q2] at C0
    exact Or.inr ⟨8, h3, g3, C0, q3, q4, q5⟩
theorem catchMk (K : K1 h g) (nf : NF h g) (wh : g.1 67 106 = I3 pc) {x y : Nat} (x1 : x < nH g) (y1 : y < nH g) (ex : hpl g x = kd) (ey : hpl g y = 19 :: kd) (er : hrs g y = hrs g x) : MkO h g pc ((F_141 56 (I3 x) (I3 y) h).bind fun q16 =>
  (F_5 15 19 0 0 q16.1 q16.2).bind fun q17 =>
  if 0 ≤ q17.1 then (some (q17.1, q17.2))
  else ((F_169 8 (I3 pc) q17.2).bind fun q18 => some (q18.1, q18.2))) (F_432 15 19 (I3 x) (I3 y) g) (hrs g x) kd := by
  obtain ⟨h1, r1, r2, r3⟩ := C_two56 h (I3 x) (I3 y)
  obtain ⟨p1, p2⟩ := par2 g (I3 x) (I3 y)
  have T2 := TK_par (TK_row (TK_rfl K) r3) p2
  have n2 := NF_par (NF_row nf r3) p2
  have ck : Ck (sm_wI (sm_wI (sm_wI (sm_wI g 69 0 (I3 x)) 69 1 (I3 y)) 67 3 2) 67 19 0) 15 19 0 0 (hrs g x) (hpl g x) := ck_15 (K1_c19 T2.k) (P := (show prR (sm_wI (sm_wI (sm_wI (sm_wI g 69 0 (I3 x)) 69 1 (I3 y)) 67 3 2) 67 19 0) [I3 x, I3 y] from p1)) (x := x) (y := y) (m := kd) x1 y1 ey (by show pre kd (hpl g x); rw [ex]; exact pre_rfl _) er 0 0
  have M := mkForm T2.k n2 (f := 15) (wh_TK wh T2) 19 0 0 r2 p1 (by decide) (by have := mn_10 K x1; omega) ck
  have R0 : F_432 15 19 (I3 x) (I3 y) g = F_429 15 19 0 0 (sm_wI (sm_wI (sm_wI g 69 0 (I3 x)) 69 1 (I3 y)) 67 3 2) := by
    show F_432_0 15 19 (I3 x) (I3 y) g = _
    unfold F_432_0
    rw [if_neg (h_m1 K x1), if_neg (h_m1 K y1), show stI g 69 24 0 (I3 x) = some (sm_wI g 69 0 (I3 x)) from stI_I (k := 0) (by decide) (by decide)]; simp only [obs]
    rw [show stI (sm_wI g 69 0 (I3 x)) 69 24 1 (I3 y) = some (sm_wI (sm_wI g 69 0 (I3 x)) 69 1 (I3 y)) from stI_I (k := 1) (by decide) (by decide)]; simp only [obs]
    rw [bind_id]
  rw [R0, r1]; simp only [obs]
  rcases M with ⟨z, h3, g3, m1, m2, m3, m4, m5, m6, m7⟩ | ⟨w', h3, h4, g4, w0, m1, m2, m3, m4, m5⟩
  · rw [show F_5 15 19 0 0 56 h1 = _ from m1]; simp only [obs]
    rw [if_pos (h_ge m6.k m3)]
    exact Or.inl ⟨z, h3, g3, rfl, m2, m3, m4, m5.trans ex, TK_trans T2 m6, m7⟩
  · rw [show F_5 15 19 0 0 56 h1 = _ from m1]; simp only [obs]
    rw [if_neg (Int32.not_le.mpr w0), m2]
    exact Or.inr ⟨8, h4, g4, rfl, m3, TK_trans T2 m4, m5⟩
theorem a433 (K : K1 h g) (S : SCO nm kd h g) (nf : NF h g) {y : Nat} (wh : g.1 67 106 = I3 pc) (y1 : y < nH g) (hy : hpl g y = kd) (hk : k < 20 + nC g) {v : Int32} {g2 : sm_H} (e : F_433 (I3 y) (I3 k) g = some (v, g2)) : agr SRq g g2 := by
  rcases passedAs K S nf wh y1 hy hk with ⟨z, h1, g1, a1, a2, a3, a4, a5, a6, a7⟩ | ⟨e', h1, g1, a1, a2, a3, a4⟩
  · rw [a2] at e; cases e; exact a6.a
  · rw [a2] at e; cases e; exact a3.a
theorem called (K : K1 h g) (S : SCO nm kd h g) (nf : NF h g) (wh : g.1 67 106 = I3 pc) {x d m : Nat} {l : List Int32} (x1 : x < nH g) (ex : hpl g x = l) (lm : l.length = m) (m6 : m ≤ 6) (d1 : d < 60) (k1 : k < 24) (g115 : g.1 115 d = I3 m) (g114 : g.1 114 d = I3 x) (g116 : ∀ i, i < m → g.1 116 (6 * d + i) = at0 l i) (st : STK h base m pt) (ok : ∀ i, i < m → pt i < nH g ∧ hpl g (pt i) = kd) (f125 : ∀ i, i < m → g.1 125 (20 * k + i) = I3 (pt i)) (rec : sm_H → Option (Int32 × sm_H)) :
    PO base h g pc (F_214_133 rec (I3 pc) (I3 base) (I3 x) (I3 m) 0 h) (F_463_30 (I3 k) (I3 d) 0 g) kd := by
  have h12 := K.1.2.1
  have kl : kL g l := by rw [← ex]; exact kL_h K x1
  have LP : ∀ r i, i + r = m → ∀ (f : Nat) (h1 g1 : sm_H) (p : Nat → Nat), r < f → TB base h g h1 g1 → NF h1 g1 → STK h1 base m p → (∀ j, j < m → p j < nH g1 ∧ hpl g1 (p j) = kd) → (∀ j, i ≤ j → p j = pt j) → (∀ j, j < i → hrs g1 (p j) = at0 l j ∧ g1.1 129 j = I3 (p j)) → PO base h g pc (lp (F_214_133B rec) f (I3 pc, I3 base, I3 x, I3 m, I3 i, h1)) (lp F_463_30B f (I3 k, I3 d, I3 i, g1)) kd := by
    intro r
    induction r with
    | zero =>
      intro i hi f h1 g1 p hf T n1 s1 ok1 pe pd
      have ei : i = m := by omega
      subst ei
      have e115 : ∀ g2, agr S127 g1 g2 → ldI g2 115 60 (I3 d) = some (I3 i) := fun g2 a => by rw [ldI_I d1 (by decide), a.1 115 d (by unfold S127; omega), T.a.1 115 d (by unfold SRa SRq SRb SRp SRh SRt; omega), g115]
      have CP2 : ∀ r j, j + r = i → ∀ (f : Nat) (g2 : sm_H), r < f → agr S127 g1 g2 → (∀ t, t < i → g2.1 129 t = I3 (p t)) → (∀ t, t < j → g2.1 127 t = I3 (p t)) → ∃ g3, lp F_463_92B f (I3 d, I3 j, g2) = F_434 (I3 x) (I3 i) g3 ∧ agr S127 g1 g3 ∧ ∀ t, t < i → g3.1 127 t = I3 (p t) := by
        intro r
        induction r with
        | zero =>
          intro j hj f g2 hf a2 b2' c2
          have ej : j = i := by omega
          subst ej
          refine ⟨g2, ?_, a2, c2⟩
          rw [lp_oK (by omega)]
          unfold F_463_92B
          rw [e115 g2 a2]; simp only [obs]
          rw [if_pos (by rw [I3_le (by omega) (by omega)]; omega), ldI_I d1 (by decide), a2.1 114 d (by unfold S127; omega), T.a.1 114 d (by unfold SRa SRq SRb SRp SRh SRt; omega), g114]; simp only [obs]
          cases F_434 (I3 x) (I3 j) g2 <;> rfl
        | succ r ih =>
          intro j hj f g2 hf a2 b2' c2
          rw [lp_s (s' := (I3 d, I3 (j + 1), sm_wI g2 127 j (I3 (p j)))) (by omega) (by
            unfold F_463_92B
            rw [e115 g2 a2]; simp only [obs]
            rw [if_neg (by rw [I3_le (by omega) (by omega)]; omega), ldI_I (by omega) (by decide), b2' j (by omega)]; simp only [obs]
            rw [stI_I (by omega) (by decide)]; simp only [obs]
            rw [show I3 j + 1 = I3 (j + 1) from I3_add j 1])]
          refine ih (j + 1) (by omega) (f - 1) _ (by omega) (agr_wI a2 (by unfold S127; omega)) (fun t ht => b2' t ht) (fun t ht => ?_)
          show (if t = j then I3 (p j) else g2.1 127 t) = _
          by_cases q : t = j
          · rw [if_pos q, q]
          · rw [if_neg q]; exact c2 t (by omega)
      obtain ⟨g3, q1, q2, q3⟩ := CP2 i 0 (by omega) 1000000 g1 (by omega) agr_rfl (fun t ht => (pd t ht).2) (fun t ht => by omega)
      have T3 : TB base h g h1 g3 := TB_127 T q2
      have T13 : TB base h1 g1 h1 g3 := TB_127 (TB_of (TK_rfl T.k)) q2
      have A := applied T3.k (SCO_TB S T3) (NF_127 n1 q2) (wh_TB wh T3) (x := x) (T3.nH x1) s1 (by rw [T3.hpl K x1, ex]; exact lm) (by omega) q3 (fun j hj => ⟨T13.nH (ok1 j hj).1, (T13.hpl T.k (ok1 j hj).1).trans (ok1 j hj).2, by rw [T3.hpl K x1, ex, T13.hrs T.k (ok1 j hj).1]; exact (pd j hj).1⟩)
      have CC : lp (F_214_133B rec) f (I3 pc, I3 base, I3 x, I3 i, I3 i, h1) = F_192 (I3 x) (I3 base) (I3 i) (I3 pc) h1 := by
        rw [lp_oK (by omega)]
        unfold F_214_133B
        rw [if_pos (by rw [I3_le (by omega) (by omega)]; omega)]
        simp only []
        cases F_192 (I3 x) (I3 base) (I3 i) (I3 pc) h1 <;> rfl
      have RR : lp F_463_30B f (I3 k, I3 d, I3 i, g1) = F_434 (I3 x) (I3 i) g3 := by
        rw [lp_oK (by omega)]
        unfold F_463_30B
        rw [e115 g1 agr_rfl]; simp only [obs]
        rw [if_pos (by rw [I3_le (by omega) (by omega)]; omega), show F_463_92 (I3 d) 0 g1 = F_434 (I3 x) (I3 i) g3 from q1]
        cases F_434 (I3 x) (I3 i) g3 <;> rfl
      rw [CC, RR]
      exact PO_tr T3 (PO_of A)
    | succ r ih =>
      intro i hi f h1 g1 p hf T n1 s1 ok1 pe pd
      obtain ⟨q, q1, q2, q3⟩ := kl i (by omega)
      have nc := T.nC
      have b1 : ldI g1 115 60 (I3 d) = some (I3 m) := by rw [ldI_I d1 (by decide), T.a.1 115 d (by unfold SRa SRq SRb SRp SRh SRt; omega), g115]
      have b2' : ldI g1 125 480 (20 * I3 k + I3 i) = some (I3 (p i)) := by
        rw [show (20 : Int32) * I3 k + I3 i = I3 (20 * k + i) by rw [I3_lit, I3_mul, I3_add], ldI_I (by omega) (by decide), T.a.1 125 _ (by unfold SRa SRq SRb SRp SRh SRt; omega), f125 i (by omega), pe i (Nat.le_refl _)]
      have b3 : ldI g1 116 360 (6 * I3 d + I3 i) = some (I3 q) := by
        rw [show (6 : Int32) * I3 d + I3 i = I3 (6 * d + i) by rw [I3_lit, I3_mul, I3_add], ldI_I (by omega) (by decide), T.a.1 116 _ (by unfold SRa SRq SRb SRp SRh SRt; omega), g116 i (by omega), q1]
      have b4 : F_46 (I3 x) (I3 i) h1 = some (I3 q, h1) := by
        have hx' : hpl g1 x = l := (T.hpl K x1).trans ex
        rw [C_pc T.k (T.nH x1) (by rw [hx']; omega), hx', q1]
      have bc : ∀ v h2, F_190 (I3 (base + i)) (I3 q) (I3 pc) h1 = some (v, h2) → F_214_133B rec (I3 pc, I3 base, I3 x, I3 m, I3 i, h1) = if v = 0 then some (.inr (-1, h2)) else some (.inl (I3 pc, I3 base, I3 x, I3 m, I3 (i + 1), h2)) := fun v h2 z => by
        unfold F_214_133B
        rw [if_neg (by rw [I3_le (by omega) (by omega)]; omega)]
        simp only []
        rw [b4]; simp only [obs]
        rw [show I3 base + I3 i = I3 (base + i) from I3_add base i, z]; simp only [obs]
        rw [show I3 i + 1 = I3 (i + 1) from I3_add i 1]
      have br : ∀ v g2, F_433 (I3 (p i)) (I3 q) g1 = some (v, g2) → F_463_30B (I3 k, I3 d, I3 i, g1) = if v = -1 then some (.inr (-1, g2)) else some (.inl (I3 k, I3 d, I3 (i + 1), sm_wI g2 129 i v)) := fun v g2 z => by
        unfold F_463_30B
        rw [b1]; simp only [obs]
        rw [if_neg (by rw [I3_le (by omega) (by omega)]; omega), b2']; simp only [obs]
        rw [b3]; simp only [obs]
        rw [z]; simp only [obs]
        rw [stI_I (by omega) (by decide)]; simp only [obs]
        rw [show I3 i + 1 = I3 (i + 1) from I3_add i 1]
      rcases pass1 T.k (SCO_TB S T) n1 (i := i) (pc := pc) (wh_TB wh T) s1 (by omega) (ok1 i (by omega)).1 (ok1 i (by omega)).2 (k := q) (by omega) with ⟨w, h2, g2, c1, c2, c3, c4, c5, c6, c7, c8⟩ | ⟨e, h2, g2, c1, c2, c3, c4⟩
      · have B1 := bc _ _ c1
        have B2 := br _ _ c2
        have a29 : agr S127 g2 (sm_wI g2 129 i (I3 w)) := agr_wI agr_rfl (by unfold S127; omega)
        rw [if_neg (by decide)] at B1
        rw [if_neg (h_m1 c7.k c3)] at B2
        rw [lp_s (by omega) B1, lp_s (by omega) B2]
        have T2 : TB base h1 g1 h2 (sm_wI g2 129 i (I3 w)) := TB_127 (TB_mono (Nat.le_add_right base i) c7) a29
        refine ih (i + 1) (by omega) (f - 1) _ _ (updN p i w) (by omega) (TB_trans T T2) (NF_127 c8 a29) c6 (fun j hj => ?_) (fun j hj => ?_) (fun j hj => ?_)
        · by_cases z : j = i
          · subst z
            rw [up_s]; exact ⟨c3, c5⟩
          · rw [up_o _ _ z]
            exact ⟨T2.nH (ok1 j hj).1, (T2.hpl T.k (ok1 j hj).1).trans (ok1 j hj).2⟩
        · rw [up_o _ _ (by omega)]; exact pe j (by omega)
        · by_cases z : j = i
          · subst z
            rw [up_s]; exact ⟨c4.trans q1.symm, if_pos rfl⟩
          · rw [up_o _ _ z]
            have ok2 := (ok1 j (by omega)).1
            refine ⟨(T2.hrs T.k ok2).trans (pd j (by omega)).1, ?_⟩
            show (if j = i then I3 w else g2.1 129 j) = _
            rw [if_neg z, (a433 T.k (SCO_TB S T) n1 (wh_TB wh T) (ok1 i (by omega)).1 (ok1 i (by omega)).2 (k := q) (by omega) c2).1 129 j (by unfold SRq SRb SRp SRh SRt; omega)]; exact (pd j (by omega)).2
      · have B1 := bc _ _ c1
        have B2 := br _ _ c2
        rw [if_pos rfl] at B1 B2
        rw [lp_e (by omega) B1, lp_e (by omega) B2]
        exact PO_fail (TB_trans T (TB_of c3)) c4 rfl rfl agr_rfl
  exact LP m 0 (by omega) 1000000 h g pt (by omega) (TB_of (TK_rfl K)) nf st ok (fun _ _ => rfl) (fun j hj => by omega)
end
abbrev Ssp (b j : Nat) : Prop := b = 55 ∧ j = 9 ∨ b = 58 ∨ b = 59
abbrev Ssr (b j : Nat) : Prop := b = 67 ∧ j = 94 ∨ b = 117 ∨ b = 118
theorem Ssp_not (b j : Nat) (z : Ssp b j) : notC b j := by
  rcases z with ⟨rfl, rfl⟩ | rfl | rfl <;> rfl
theorem Ssr_not (b j : Nat) (z : Ssr b j) : notR b j := by
  rcases z with ⟨rfl, rfl⟩ | rfl | rfl <;> rfl
def TW (b0 : Nat) (h g h1 g1 : sm_H) : Prop := K1 h1 g1 ∧ ext g g1 ∧ grow g g1 ∧ agr (fun b j => (SCq b j ∨ b = 60 ∧ b0 ≤ j) ∨ Ssp b j) h h1 ∧ agr (fun b j => SRa b j ∨ Ssr b j) g g1
theorem TW_of {b0 : Nat} {h g h1 g1 : sm_H} (t : TB b0 h g h1 g1) : TW b0 h g h1 g1 := ⟨t.1, t.2.1, t.2.2.1, agr_mono (fun _ _ z => Or.inl z) t.2.2.2.1, agr_mono (fun _ _ z => Or.inl z) t.2.2.2.2⟩
theorem TW.k {b0 : Nat} {h g h1 g1 : sm_H} (t : TW b0 h g h1 g1) : K1 h1 g1 := t.1
theorem TW.e {b0 : Nat} {h g h1 g1 : sm_H} (t : TW b0 h g h1 g1) : ext g g1 := t.2.1
theorem TW.r {b0 : Nat} {h g h1 g1 : sm_H} (t : TW b0 h g h1 g1) : grow g g1 := t.2.2.1
theorem TW.c {b0 : Nat} {h g h1 g1 : sm_H} (t : TW b0 h g h1 g1) : agr (fun b j => (SCq b j ∨ b = 60 ∧ b0 ≤ j) ∨ Ssp b j) h h1 := t.2.2.2.1
theorem TW.a {b0 : Nat} {h g h1 g1 : sm_H} (t : TW b0 h g h1 g1) : agr (fun b j => SRa b j ∨ Ssr b j) g g1 := t.2.2.2.2
theorem TW_trans {b0 : Nat} {h g h1 g1 h2 g2 : sm_H} (a : TW b0 h g h1 g1) (b : TW b0 h1 g1 h2 g2) : TW b0 h g h2 g2 := ⟨b.1, ext_trans a.2.1 b.2.1, grow_trans a.2.2.1 b.2.2.1, agr_trans a.2.2.2.1 b.2.2.2.1, agr_trans a.2.2.2.2 b.2.2.2.2⟩
theorem TW.hrs {b0 : Nat} {h g h1 g1 : sm_H} (t : TW b0 h g h1 g1) {h' : sm_H} (K : K1 h' g) {x : Nat} (hx : x < nH g) : hrs g1 x = hrs g x := ext_hrs K.2.2.2.2.1 t.e hx
theorem TW.hpl {b0 : Nat} {h g h1 g1 : sm_H} (t : TW b0 h g h1 g1) {h' : sm_H} (K : K1 h' g) {x : Nat} (hx : x < nH g) : hpl g1 x = hpl g x := ext_hpl K.2.2.2.2.1 t.e hx
theorem TW.nH {b0 : Nat} {h g h1 g1 : sm_H} (t : TW b0 h g h1 g1) {x : Nat} (hx : x < nH g) : x < nH g1 := Nat.lt_of_lt_of_le hx t.r.2.2.1
theorem TW_sc {b0 : Nat} {h g h1 g1 : sm_H} (K : K1 h g) (a : agr Ssp h h1) (b : agr Ssr g g1) : TW b0 h g h1 g1 := by
  have E := ext_eq (ok_of_not Ssr_not b)
  exact ⟨K1_g (K1_h K (agr_mono Ssp_not a)) (agr_mono Ssr_not b), E.1, E.2.1, agr_mono (fun _ _ z => Or.inr z) a, agr_mono (fun _ _ z => Or.inr z) b⟩
theorem NF_sc {h g h1 g1 : sm_H} (n : NF h g) (a : agr Ssp h h1) (b : agr Ssr g g1) : NF h1 g1 := NF_agr n a b (by unfold Ssp; omega) (by unfold Ssr; omega)
theorem STK_sc {h h1 : sm_H} {base m : Nat} {pt : Nat → Nat} (s : STK h base m pt) (a : agr Ssp h h1) : STK h1 base m pt := STK_agr s a (fun b j z => by unfold Ssp at z; omega)
def SCC (nm : Nat → Int64) (kd : List Int32) (h : sm_H) : Prop := h.1 55 9 = I3 kd.length ∧ ∀ i, i < kd.length → h.2.1 58 i = nm i ∧ h.1 59 i = at0 kd i
def SCR (nm : Nat → Int64) (kd : List Int32) (g : sm_H) : Prop := g.1 67 94 = I3 (400 - kd.length) ∧ ∀ i, i < kd.length → g.2.1 117 (400 - kd.length + i) = nm i ∧ g.1 118 (400 - kd.length + i) = at0 kd i
theorem SCO_iff {nm : Nat → Int64} {kd : List Int32} {h g : sm_H} : SCO nm kd h g ↔ SCC nm kd h ∧ SCR nm kd g ∧ kd.length ≤ 13 ∧ kL g kd := by
  constructor
  · rintro ⟨a, b, c, d, e⟩
    exact ⟨⟨a, fun i hi => ⟨(e i hi).1, (e i hi).2.1⟩⟩, ⟨c, fun i hi => (e i hi).2.2⟩, b, d⟩
  · rintro ⟨⟨a, b⟩, ⟨c, d⟩, e, f⟩
    exact ⟨a, e, c, f, fun i hi => ⟨(b i hi).1, (b i hi).2, d i hi⟩⟩
theorem cp58 (h : sm_H) {s d n : Nat} (h1 : s + n ≤ 16) (h2 : d + n ≤ 16) : sm_cpJ G0 h 58 (I3 s) 58 (I3 d) (I3 n) = some (h.1, va_up h.2.1 58 (va_cpy (h.2.1 58) (h.2.1 58) s d n), h.2.2) := by
  unfold sm_cpJ
  have i1 : sm_is G0 h 58 101 = true := rfl
  have i3 : sm_ln G0 h 58 = 16 := rfl
  rw [i1, i3, I3_clamp (by omega), I3_clamp (by omega), I3_clamp (by omega), if_pos ⟨I3_nn (by omega), I3_nn (by omega), I3_nn (by omega), by omega, by omega⟩]
  rfl
theorem cp59 (h : sm_H) {s d n : Nat} (h1 : s + n ≤ 16) (h2 : d + n ≤ 16) : sm_cpI G0 h 59 (I3 s) 59 (I3 d) (I3 n) = some (va_up h.1 59 (va_cpy (h.1 59) (h.1 59) s d n), h.2) := by
  unfold sm_cpI
  have i1 : sm_is G0 h 59 100 = true := rfl
  have i3 : sm_ln G0 h 59 = 16 := rfl
  rw [i1, i3, I3_clamp (by omega), I3_clamp (by omega), I3_clamp (by omega), if_pos ⟨I3_nn (by omega), I3_nn (by omega), I3_nn (by omega), by omega, by omega⟩]
  rfl
theorem agr58 {h : sm_H} {f : Nat → Int64} : agr Ssp h (h.1, va_up h.2.1 58 f, h.2.2) := by
  refine ⟨fun _ _ _ => rfl, fun b j n => ?_, fun _ _ _ => rfl, rfl⟩
  show va_up h.2.1 58 f b j = _
  unfold va_up
  rw [if_neg]; unfold Ssp at n; omega
theorem agr59 {h : sm_H} {f : Nat → Int32} : agr Ssp h (va_up h.1 59 f, h.2) := by
  refine ⟨fun b j n => ?_, fun _ _ _ => rfl, fun _ _ _ => rfl, rfl⟩
  show va_up h.1 59 f b j = _
  unfold va_up
  rw [if_neg]; unfold Ssp at n; omega
theorem C_shift {h : sm_H} {nm : Nat → Int64} {kd : List Int32} (S : SCC nm kd h) {n : Nat} (hn : kd.length + n ≤ 16) (pc : Int32) : ∃ h1, F_182 (I3 n) pc h = some (1, h1) ∧ h1.1 55 9 = I3 (kd.length + n) ∧ (∀ i, i < kd.length → h1.2.1 58 (n + i) = nm i ∧ h1.1 59 (n + i) = at0 kd i) ∧ agr Ssp h h1 := by
  refine ⟨_, ?_, ?_, fun i hi => ?_, agr_trans (agr_trans (agr58 (f := va_cpy (h.2.1 58) (h.2.1 58) 0 n kd.length)) (agr59 (f := va_cpy (h.1 59) (h.1 59) 0 n kd.length))) (agr_wI agr_rfl (Or.inl ⟨rfl, rfl⟩) (x := I3 (kd.length + n)))⟩
  · show F_182_0 (I3 n) pc h = _
    unfold F_182_0
    rw [if_neg (I3_nn (by omega)), S.1, I3_add, if_pos (by rw [I3_lit, I3_le (by omega) (by decide)]; exact hn), show sm_cpJ G0 h 58 0 58 (I3 n) (I3 kd.length) = _ from cp58 h (s := 0) (d := n) (n := kd.length) (by omega) (by omega)]; simp only [obs]
    rw [S.1, show sm_cpI G0 (h.1, va_up h.2.1 58 (va_cpy (h.2.1 58) (h.2.1 58) 0 n kd.length), h.2.2) 59 0 59 (I3 n) (I3 kd.length) = _ from cp59 _ (s := 0) (d := n) (n := kd.length) (by omega) (by omega)]; simp only [obs]
    rw [show (va_up h.1 59 (va_cpy (h.1 59) (h.1 59) 0 n kd.length) 55 9 : Int32) = I3 kd.length from S.1, I3_add]
  · rfl
  · have z := S.2 i hi
    constructor
    · show va_cpy (h.2.1 58) (h.2.1 58) 0 n kd.length (n + i) = _
      unfold va_cpy
      rw [if_pos (by omega), show 0 + (n + i - n) = i by omega]; exact z.1
    · show va_cpy (h.1 59) (h.1 59) 0 n kd.length (n + i) = _
      unfold va_cpy
      rw [if_pos (by omega), show 0 + (n + i - n) = i by omega]; exact z.2
theorem C_drop {h : sm_H} {nm nm' : Nat → Int64} {ks kd : List Int32} (S : SCC nm' (ks ++ kd) h) (l16 : (ks ++ kd).length ≤ 16) (e : ∀ i, nm' (ks.length + i) = nm i) : ∃ h1, F_184 (I3 ks.length) h = some h1 ∧ SCC nm kd h1 ∧ agr Ssp h h1 := by
  rw [List.length_append] at l16
  have s1 := S.1
  rw [List.length_append] at s1
  refine ⟨_, ?_, ⟨?_, fun i hi => ?_⟩, agr_trans (agr_trans (agr_wI agr_rfl (Or.inl ⟨rfl, rfl⟩) (x := I3 kd.length)) (agr58 (f := va_cpy (h.2.1 58) (h.2.1 58) ks.length 0 kd.length))) (agr59 (f := va_cpy (h.1 59) (h.1 59) ks.length 0 kd.length))⟩
  · show F_184_0 (I3 ks.length) h = _
    unfold F_184_0
    rw [if_neg (I3_nn (by omega)), s1, if_pos (by rw [I3_le (by omega) (by omega)]; omega), I3_sub (by omega), show ks.length + kd.length - ks.length = kd.length by omega]; simp only [obs]
    rw [show (sm_wI h 55 9 (I3 kd.length)).1 55 9 = I3 kd.length from rfl, show sm_cpJ G0 (sm_wI h 55 9 (I3 kd.length)) 58 (I3 ks.length) 58 0 (I3 kd.length) = _ from cp58 _ (s := ks.length) (d := 0) (n := kd.length) (by omega) (by omega)]; simp only [obs]
    rw [show ((sm_wI h 55 9 (I3 kd.length)).1 55 9 : Int32) = I3 kd.length from rfl, show sm_cpI G0 ((sm_wI h 55 9 (I3 kd.length)).1, va_up (sm_wI h 55 9 (I3 kd.length)).2.1 58 (va_cpy ((sm_wI h 55 9 (I3 kd.length)).2.1 58) ((sm_wI h 55 9 (I3 kd.length)).2.1 58) ks.length 0 kd.length), (sm_wI h 55 9 (I3 kd.length)).2.2) 59 (I3 ks.length) 59 0 (I3 kd.length) = _ from cp59 _ (s := ks.length) (d := 0) (n := kd.length) (by omega) (by omega)]
    rfl
  · rfl
  · have z := S.2 (ks.length + i) (by rw [List.length_append]; omega)
    rw [at0_app2 (by omega), show ks.length + i - ks.length = i by omega, e i] at z
    constructor
    · show va_cpy (h.2.1 58) (h.2.1 58) ks.length 0 kd.length i = _
      unfold va_cpy
      rw [if_pos (by omega), show ks.length + (i - 0) = ks.length + i by omega]; exact z.1
    · show va_cpy (h.1 59) (h.1 59) ks.length 0 kd.length i = _
      unfold va_cpy
      rw [if_pos (by omega), show ks.length + (i - 0) = ks.length + i by omega]; exact z.2
theorem kL_tail {g : sm_H} {ks kd : List Int32} (k : kL g (ks ++ kd)) : kL g kd := fun i hi => by
  have := k (ks.length + i) (by rw [List.length_append]; omega)
  rw [at0_app2 (by omega), show ks.length + i - ks.length = i by omega] at this; exact this
theorem SCO_drop {h g : sm_H} {nm nm' : Nat → Int64} {ks kd : List Int32} (S : SCO nm' (ks ++ kd) h g) (e : ∀ i, nm' (ks.length + i) = nm i) : ∃ h1, F_184 (I3 ks.length) h = some h1 ∧ SCO nm kd h1 (sm_wI g 67 94 (I3 (400 - kd.length))) ∧ agr Ssp h h1 ∧ agr Ssr g (sm_wI g 67 94 (I3 (400 - kd.length))) := by
  obtain ⟨a, b, c, d⟩ := SCO_iff.mp S
  have la := c
  rw [List.length_append] at la
  obtain ⟨h1, c1, c2, c3⟩ := C_drop a (by rw [List.length_append]; omega) e
  refine ⟨h1, c1, SCO_iff.mpr ⟨c2, ⟨rfl, fun i hi => ?_⟩, by omega, kL_tail d⟩, c3, agr_wI agr_rfl (Or.inl ⟨rfl, rfl⟩)⟩
  have z := b.2 (ks.length + i) (by rw [List.length_append]; omega)
  rw [List.length_append, at0_app2 (by omega), show ks.length + i - ks.length = i by omega, e i, show 400 - (ks.length + kd.length) + (ks.length + i) = 400 - kd.length + i by omega] at z
  exact z
def nm1 (n : Int64) (nm : Nat → Int64) (i : Nat) : Int64 := if i = 0 then n else nm (i - 1)
theorem nm1_s (n : Int64) (nm : Nat → Int64) (i : Nat) : nm1 n nm (1 + i) = nm i := by
  unfold nm1; rw [if_neg (by omega), show 1 + i - 1 = i by omega]
theorem R_bind {g : sm_H} {nm : Nat → Int64} {kd : List Int32} (S : SCR nm kd g) (l : kd.length < 400) (n : Int64) (k : Int32) : ∃ g1, F_444 n k g = some g1 ∧ SCR (nm1 n nm) (k :: kd) g1 ∧ agr Ssr g g1 := by
  have e : I3 (400 - kd.length) - 1 = I3 (400 - (kd.length + 1)) := by
    rw [show (1 : Int32) = I3 1 from rfl, I3_sub (by omega)]; congr 1
  refine ⟨sm_wI (sm_wJ (sm_wI g 67 94 (I3 (400 - (kd.length + 1)))) 117 (400 - (kd.length + 1)) n) 118 (400 - (kd.length + 1)) k, ?_, ⟨rfl, fun i hi => ?_⟩, agr_wI (agr_wJ (agr_wI agr_rfl (Or.inl ⟨rfl, rfl⟩)) (Or.inr (Or.inl rfl))) (Or.inr (Or.inr rfl))⟩
  · show F_444_0 n k g = _
    unfold F_444_0
    rw [S.1, e]; simp only [obs]
    rw [show (sm_wI g 67 94 (I3 (400 - (kd.length + 1)))).1 67 94 = I3 (400 - (kd.length + 1)) from rfl, stJ_I (by omega) (by decide)]; simp only [obs]
    rw [show (sm_wJ (sm_wI g 67 94 (I3 (400 - (kd.length + 1)))) 117 (400 - (kd.length + 1)) n).1 67 94 = I3 (400 - (kd.length + 1)) from rfl, stI_I (by omega) (by decide)]; simp only [obs]
  · rw [List.length_cons] at hi ⊢
    unfold nm1
    cases i with
    | zero =>
      exact ⟨if_pos rfl, if_pos rfl⟩
    | succ i =>
      have z := S.2 i (by omega)
      rw [show 400 - (kd.length + 1) + (i + 1) = 400 - kd.length + i by omega]
      constructor
      · show (if 400 - kd.length + i = 400 - (kd.length + 1) then n else g.2.1 117 (400 - kd.length + i)) = if i + 1 = 0 then n else nm (i + 1 - 1)
        rw [if_neg (by omega), if_neg (by omega), show i + 1 - 1 = i by omega]; exact z.1
      · show (if 400 - kd.length + i = 400 - (kd.length + 1) then k else g.1 118 (400 - kd.length + i)) = at0 (k :: kd) (i + 1)
        rw [if_neg (by omega)]; exact z.2
theorem SCO_bind {h g : sm_H} {nm : Nat → Int64} {kd : List Int32} (S : SCO nm kd h g) (l : kd.length ≤ 10) (n : Int64) {k : Nat} (k0 : 0 < k) (hk : k < 20 + nC g) (pc : Int32) : ∃ h1 h2 g1, F_182 1 pc h = some (1, h1) ∧ F_183 0 n (I3 k) h1 = some h2 ∧ F_444 n (I3 k) g = some g1 ∧ SCO (nm1 n nm) (I3 k :: kd) h2 g1 ∧ agr Ssp h h2 ∧ agr Ssr g g1 := by
  obtain ⟨a, b, c, d⟩ := SCO_iff.mp S
  obtain ⟨h1, c1, c2, c3, c4⟩ := C_shift a (n := 1) (by omega) pc
  obtain ⟨g1, d1, d2, d3⟩ := R_bind b (by omega) n (I3 k)
  refine ⟨h1, sm_wI (sm_wJ h1 58 0 n) 59 0 (I3 k), g1, c1, ?_, d1, SCO_iff.mpr ⟨⟨c2, fun i hi => ?_⟩, d2, by rw [List.length_cons]; omega, fun i hi => ?_⟩, agr_trans c4 (agr_wI (agr_wJ agr_rfl (Or.inr (Or.inl rfl))) (Or.inr (Or.inr rfl))), d3⟩
  · show F_183_0 0 n (I3 k) h1 = _
    unfold F_183_0 F_183_25
    rw [if_neg (by decide), if_neg (by decide), show stJ h1 58 16 0 n = some (sm_wJ h1 58 0 n) from stJ_I (k := 0) (by decide) (by decide)]; simp only [obs]
    rw [show stI (sm_wJ h1 58 0 n) 59 16 0 (I3 k) = some (sm_wI (sm_wJ h1 58 0 n) 59 0 (I3 k)) from stI_I (k := 0) (by decide) (by decide)]; simp only [obs]
  · rw [List.length_cons] at hi
    unfold nm1
    cases i with
    | zero => exact ⟨rfl, rfl⟩
    | succ i =>
      have z := c3 i (by omega)
      rw [show 1 + i = i + 1 by omega] at z
      constructor
      · show (if i + 1 = 0 then n else h1.2.1 58 (i + 1)) = if i + 1 = 0 then n else nm (i + 1 - 1)
        rw [if_neg (by omega), if_neg (by omega), show i + 1 - 1 = i by omega]; exact z.1
      · show (if i + 1 = 0 then I3 k else h1.1 59 (i + 1)) = at0 (I3 k :: kd) (i + 1)
        rw [if_neg (by omega)]; exact z.2
  · have nc : nC g1 = nC g := by show tn _ = tn _; rw [d3.1 67 6 (by unfold Ssr; omega)]
    cases i with
    | zero => exact ⟨k, rfl, k0, by rw [nc]; exact hk⟩
    | succ i =>
      rw [List.length_cons] at hi
      obtain ⟨q, q1, q2, q3⟩ := d i (by omega)
      exact ⟨q, q1, q2, by rw [nc]; exact q3⟩
theorem loopCk {h g : sm_H} (K : K1 h g) {ps : List Int32} (P : prR g ps) {n t c r : Nat} {a b : Nat → Nat} {kd ks : List Int32} (n1 : 1 ≤ n) (n3 : n ≤ 3) (t1 : t < nT g) (pl1 : pl g t = kd) (rs1 : rs g t = hrs g r) (lk : ks.length = n) (ll : ps.length = 4 * n + 4) (pa : ∀ i, i < n → at0 ps (4 * i) = I3 (a i) ∧ at0 ps (4 * i + 1) = I3 (b i) ∧ at0 ps (4 * i + 2) = -1 ∧ at0 ps (4 * i + 3) = -1) (p0 : at0 ps (4 * n) = -1) (p1 : at0 ps (4 * n + 1) = -1) (p2 : at0 ps (4 * n + 2) = I3 c) (p3 : at0 ps (4 * n + 3) = I3 r)
    (ha : ∀ i, i < n → a i < nH g ∧ hpl g (a i) = kd ∧ hrs g (a i) = at0 ks i) (hb : ∀ i, i < n → b i < nH g ∧ hpl g (b i) = ks ++ kd ∧ hrs g (b i) = at0 ks i) (hc : c < nH g ∧ hpl g c = ks ++ kd ∧ hrs g c = 1) (hr : r < nH g ∧ hpl g r = ks ++ kd) (k0 : ∀ i, i < n → ¬ at0 ks i = 0) (x : Int32) (y : Int64) : Ck g 18 x (I3 t) y (rs g t) (pl g t) := by
  have w5 := w500 K
  have tna : ∀ {z : Nat}, z < nH g → tn (I3 z) = z := fun h => tnI (by omega)
  have m1 : ∀ {z : Nat}, z < nH g → ¬ I3 z = (-1 : Int32) := fun h => h_m1 K h
  have ok : okP g ps = true := by
    unfold okP
    rw [all1_iff]
    intro k hk
    rw [ll] at hk
    have H : ∀ z, z < nH g → (inR (I3 z) (nH g) || (true && decide (I3 z = -1))) = true := fun z hz => by rw [inR_I (by omega), decide_eq_true hz]; rfl
    have M : ∀ x : Int32, x = -1 → (inR x (nH g) || (true && decide (x = -1))) = true := fun x e => by rw [decide_eq_true e]; cases inR x (nH g) <;> rfl
    by_cases q : k < 4 * n
    · have z := pa (k / 4) (by omega)
      rcases (show k = 4 * (k / 4) ∨ k = 4 * (k / 4) + 1 ∨ k = 4 * (k / 4) + 2 ∨ k = 4 * (k / 4) + 3 by omega) with e | e | e | e <;> rw [e]
      · rw [z.1]; exact H _ (ha _ (by omega)).1
      · rw [z.2.1]; exact H _ (hb _ (by omega)).1
      · exact M _ z.2.2.1
      · exact M _ z.2.2.2
    · rcases (show k = 4 * n ∨ k = 4 * n + 1 ∨ k = 4 * n + 2 ∨ k = 4 * n + 3 by omega) with e | e | e | e <;> rw [e]
      · exact M _ p0
      · exact M _ p1
      · rw [p2]; exact H _ hc.1
      · rw [p3]; exact H _ hr.1
  have vb : ∀ i, i < n → vk g ps i = at0 ks i := fun i hi => by
    unfold vk
    have z := hb i hi
    rw [(pa i hi).2.1, if_pos (m1 z.1), tna z.1]; exact z.2.2
  have vn : vk g ps n = 0 := by
    unfold vk
    rw [p1, p0, if_neg (not_not_intro rfl), if_neg (not_not_intro rfl)]
  have vt : ∀ i, i ≤ n → vrs g ps i = ks.take i := fun i => by
    induction i with
    | zero => intro _; rfl
    | succ i ih =>
      intro hi
      rw [vrs_s, ih (by omega), vb i (by omega), if_neg (k0 i (by omega)), List.take_succ_eq_append_getElem (by omega), ← at0_get (by omega)]
  have vr : vrs g ps (n + 1) = ks := by rw [vrs_s, vn, if_pos rfl, List.append_nil, vt n (Nat.le_refl _), List.take_of_length_le (by omega)]
  have ft : ∀ l : List Int32, fitB l l 0 0 = true := fun l => fitB_ok (pre_rfl _)
  have lb : lpB g ps t (ps.length / 4) = true := by
    rw [show ps.length / 4 = n + 1 by omega]
    unfold lpB
    rw [vr, pl1, Bool.and_eq_true, all1_iff]
    refine ⟨fun i hi => ?_, ?_⟩
    · unfold P1 P2 cA cB cC cD cE cFz
      show ((decide (at0 ps (4 * i + 0) = -1) || (decide (at0 ps (4 * i + 1) = -1) || decide (hrs g (tn (at0 ps (4 * i + 0))) = hrs g (tn (at0 ps (4 * i + 1)))))) && ((decide (at0 ps (4 * i + 3) = -1) || !decide (at0 ps (4 * i + 2) = -1)) && ((decide (at0 ps (4 * i + 2) = -1) || decide (hrs g (tn (at0 ps (4 * i + 2))) = 1)) && (decide (at0 ps (4 * i + 3) = -1) || decide (hrs g (tn (at0 ps (4 * i + 3))) = rs g t)))) && ((decide (at0 ps (4 * i + 0) = -1) || fitB (hpl g (tn (at0 ps (4 * i + 0)))) (pl g t) 0 0) && ((decide (at0 ps (4 * i + 1) = -1) || fitB (hpl g (tn (at0 ps (4 * i + 1)))) (ks ++ kd) 0 0) && ((decide (at0 ps (4 * i + 2) = -1) || fitB (hpl g (tn (at0 ps (4 * i + 2)))) (ks ++ kd) 0 0) && (decide (at0 ps (4 * i + 3) = -1) || fitB (hpl g (tn (at0 ps (4 * i + 3)))) (ks ++ kd) 0 0))))) = true
      rw [Nat.add_zero]
      by_cases q : i < n
      · obtain ⟨z0, z1, z2, z3⟩ := pa i q
        obtain ⟨a1, a2, a3⟩ := ha i q
        obtain ⟨b1, b2', b3⟩ := hb i q
        rw [z0, z1, z2, z3, tna a1, tna b1, a2, b2', pl1, ft, ft, a3, b3, decide_eq_false (m1 a1), decide_eq_false (m1 b1), decide_eq_true (rfl : at0 ks i = at0 ks i), decide_eq_true (rfl : (-1 : Int32) = -1)]; rfl
      · have e : i = n := by omega
        subst e
        rw [p0, p1, p2, p3, tna hc.1, tna hr.1, hc.2.1, hr.2, ft, hc.2.2, rs1, decide_eq_false (m1 hc.1), decide_eq_false (m1 hr.1), decide_eq_true (rfl : hrs g r = hrs g r), decide_eq_true (rfl : (-1 : Int32) = -1), decide_eq_true (rfl : (1 : Int32) = 1)]; rfl
    · rw [hasK_s]
      show (hasK ps n || !decide (at0 ps (4 * n + 2) = -1)) = true
      rw [p2, decide_eq_false (m1 hc.1)]; cases hasK ps n <;> rfl
  exact ck_18 K P t1 (by omega) (by omega) (by omega) ok lb x y
theorem take_s {l : List Int32} {j : Nat} (h : j < l.length) : l.take j ++ [at0 l j] = l.take (j + 1) := by
  rw [List.take_succ_eq_append_getElem h, ← at0_get h]
theorem row_s {h : sm_H} {ps : List Int32} {j : Nat} (r : hasL h 56 57 (ps.take j)) (hj : j < ps.length) (l20 : ps.length ≤ 20) {x : Int32} (e : at0 ps j = x) : ∃ h1, F_139 56 x h = some (1, h1) ∧ hasL h1 56 57 (ps.take (j + 1)) ∧ agr S56 h h1 := by
  have tl : (ps.take j).length = j := by rw [List.length_take]; omega
  obtain ⟨h1, a, b, c⟩ := C_app56 r (by omega) x
  rw [← e, take_s hj] at b
  exact ⟨h1, a, b, c⟩
section
variable {h g : sm_H} {nm nm' : Nat → Int64} {kd ks : List Int32} {pc base k n : Nat} {pt : Nat → Nat}
theorem C_213 {ps : List Int32} (n3 : n ≤ 3) (st : STK h base (2 * n + 2) pt) (ll : ps.length = 4 * n + 4) (pa : ∀ i, i < n → at0 ps (4 * i) = I3 (pt i) ∧ at0 ps (4 * i + 1) = I3 (pt (n + i)) ∧ at0 ps (4 * i + 2) = -1 ∧ at0 ps (4 * i + 3) = -1) (p0 : at0 ps (4 * n) = -1) (p1 : at0 ps (4 * n + 1) = -1) (p2 : at0 ps (4 * n + 2) = I3 (pt (2 * n))) (p3 : at0 ps (4 * n + 3) = I3 (pt (2 * n + 1))) : ∃ h1, F_213 (I3 base) (I3 n) h = some h1 ∧ hasL h1 56 57 ps ∧ agr S56 h h1 := by
  have LP : ∀ r i, i + r = n → ∀ (f : Nat) (u : sm_H), r < f → agr S56 h u → hasL u 56 57 (ps.take (4 * i)) → ∃ h1, lp F_213_9B f (I3 base, I3 n, I3 i, u) = some h1 ∧ hasL h1 56 57 ps ∧ agr S56 h h1 := by
    intro r
    induction r with
    | zero =>
      intro i hi f u hf a1 r0
      have e : i = n := by omega
      subst e
      have b12 : i + i = 2 * i := by omega
      obtain ⟨u1, c1, d1, e1⟩ := row_s r0 (by omega) (by omega) p0
      obtain ⟨u2, c2, d2, e2⟩ := row_s d1 (by omega) (by omega) p1
      obtain ⟨u3, c3, d3, e3⟩ := row_s d2 (by omega) (by omega) p2
      obtain ⟨u4, c4, d4, e4⟩ := row_s d3 (by omega) (by omega) p3
      have s2 := STK_agr (STK_agr (STK_agr st a1 S56_stk) e1 S56_stk) e2 S56_stk
      have s3 := STK_agr s2 e3 S56_stk
      rw [List.take_of_length_le (by omega)] at d4
      refine ⟨u4, lp_e (by omega) ?_, d4, agr_trans (agr_trans (agr_trans (agr_trans a1 e1) e2) e3) e4⟩
      unfold F_213_9B
      show (if I3 i ≤ I3 i then _ else _) = _
      rw [if_pos (by rw [I3_le (by omega) (by omega)]; omega)]
      simp only []
      rw [c1]; simp only [obs]
      rw [c2]; simp only [obs]
      rw [show I3 base + 2 * I3 i = I3 (base + 2 * i) by rw [I3_lit, I3_mul, I3_add], STK_at s2 (i := 2 * i) (by omega)]; simp only [obs]
      rw [c3]; simp only [obs]
      rw [show I3 (base + 2 * i) + 1 = I3 (base + (2 * i + 1)) from I3_add _ 1, STK_at s3 (i := 2 * i + 1) (by omega)]; simp only [obs]
      rw [c4]; rfl
    | succ r ih =>
      intro i hi f u hf a1 r0
      obtain ⟨z0, z1, z2, z3⟩ := pa i (by omega)
      obtain ⟨u1, c1, d1, e1⟩ := row_s r0 (by omega) (by omega) z0
      obtain ⟨u2, c2, d2, e2⟩ := row_s d1 (by omega) (by omega) z1
      obtain ⟨u3, c3, d3, e3⟩ := row_s d2 (by omega) (by omega) z2
      obtain ⟨u4, c4, d4, e4⟩ := row_s d3 (by omega) (by omega) z3
      have s0 := STK_agr st a1 S56_stk
      have s1 := STK_agr s0 e1 S56_stk
      rw [lp_s (s' := (I3 base, I3 n, I3 (i + 1), u4)) (by omega) (by
        unfold F_213_9B
        show (if I3 n ≤ I3 i then _ else _) = _
        rw [if_neg (by rw [I3_le (by omega) (by omega)]; omega)]
        simp only []
        rw [show I3 base + I3 i = I3 (base + i) from I3_add _ _, STK_at s0 (i := i) (by omega)]; simp only [obs]
        rw [c1]; simp only [obs]
        rw [show I3 base + I3 n + I3 i = I3 (base + (n + i)) by rw [I3_add, I3_add, Nat.add_assoc], STK_at s1 (i := n + i) (by omega)]; simp only [obs]
        rw [c2]; simp only [obs]
        rw [c3]; simp only [obs]
        rw [c4]; simp only [obs]
        rw [show I3 i + 1 = I3 (i + 1) from I3_add i 1])]
      exact ih (i + 1) (by omega) (f - 1) u4 (by omega) (agr_trans (agr_trans (agr_trans (agr_trans a1 e1) e2) e3) e4) (by rw [show 4 * (i + 1) = 4 * i + 1 + 1 + 1 + 1 by omega]; exact d4)
  obtain ⟨h1, a, b, c⟩ := LP n 0 (by omega) 1000000 (sm_wI h 56 1 0) (by omega) (agr_wI agr_rfl (Or.inl ⟨rfl, rfl⟩)) (show hasL (sm_wI h 56 1 0) 56 57 [] from ⟨rfl, by decide, fun k hk => by cases hk⟩)
  refine ⟨h1, ?_, b, c⟩
  show F_213_0 (I3 base) (I3 n) h = _
  unfold F_213_0
  rw [show F_138 56 h = some (sm_wI h 56 1 0) from rfl]; simp only [obs]
  exact a
theorem R_462a (x y : Int32) (g : sm_H) : ∃ g1, F_462_9 x y 0 g = F_462_30 x y 0 g1 ∧ agr S127 g g1 ∧ ∀ j, j < 16 → g1.1 128 j = -1 := by
  have LP : ∀ r i, i + r = 16 → ∀ (f : Nat) (u : sm_H), r < f → agr S127 g u → (∀ j, j < i → u.1 128 j = -1) → ∃ g1, lp F_462_9B f (x, y, I3 i, u) = F_462_30 x y 0 g1 ∧ agr S127 g g1 ∧ ∀ j, j < 16 → g1.1 128 j = -1 := by
    intro r
    induction r with
    | zero =>
      intro i hi f u hf a1 b1
      have e : i = 16 := by omega
      subst e
      refine ⟨u, ?_, a1, b1⟩
      rw [lp_oK (by omega)]
      unfold F_462_9B
      show oK _ _ (if 16 ≤ I3 16 then _ else _) = _
      rw [if_pos (by decide)]
      simp only []
      cases F_462_30 x y 0 u <;> rfl
    | succ r ih =>
      intro i hi f u hf a1 b1
      rw [lp_s (s' := (x, y, I3 (i + 1), sm_wI u 128 i (-1))) (by omega) (by
        unfold F_462_9B
        show (if 16 ≤ I3 i then _ else _) = _
        rw [if_neg (by rw [I3_lit, I3_le (by decide) (by omega)]; omega)]
        simp only []
        rw [stI_I (by omega) (by decide)]; simp only [obs]
        rw [show I3 i + 1 = I3 (i + 1) from I3_add i 1])]
      refine ih (i + 1) (by omega) (f - 1) _ (by omega) (agr_wI a1 (by unfold S127; omega)) (fun j hj => ?_)
      show (if j = i then -1 else u.1 128 j) = _
      by_cases q : j = i
      · rw [if_pos q]
      · rw [if_neg q]; exact b1 j (by omega)
  exact LP 16 0 (by omega) 1000000 g (by omega) agr_rfl (fun j hj => by omega)
theorem R_462c {l : Nat} (l16 : l ≤ 16) (t : Int32) (g : sm_H) (e3 : g.1 67 3 = I3 l) : ∃ g1, F_462_212 t 0 g = F_429 18 0 t 0 g1 ∧ agr SRp g g1 ∧ prR g1 (lst (fun j => g.1 128 j) l) := by
  have LP : ∀ r i, i + r = l → ∀ (f : Nat) (u : sm_H), r < f → agr (fun b _ => b = 69) g u → (∀ j, j < i → u.1 69 j = g.1 128 j) → ∃ g1, lp F_462_212B f (t, I3 i, u) = F_429 18 0 t 0 g1 ∧ agr (fun b _ => b = 69) g g1 ∧ ∀ j, j < l → g1.1 69 j = g.1 128 j := by
    intro r
    induction r with
    | zero =>
      intro i hi f u hf a1 b1
      have e : i = l := by omega
      subst e
      refine ⟨u, ?_, a1, b1⟩
      rw [lp_oK (by omega)]
      unfold F_462_212B
      show oK _ _ (if u.1 67 3 ≤ I3 i then _ else _) = _
      rw [a1.1 67 3 (by omega), e3, if_pos (by rw [I3_le (by omega) (by omega)]; omega)]
      simp only []
      cases F_429 18 0 t 0 u <;> rfl
    | succ r ih =>
      intro i hi f u hf a1 b1
      rw [lp_s (s' := (t, I3 (i + 1), sm_wI u 69 i (g.1 128 i))) (by omega) (by
        unfold F_462_212B
        show (if u.1 67 3 ≤ I3 i then _ else _) = _
        rw [a1.1 67 3 (by omega), e3, if_neg (by rw [I3_le (by omega) (by omega)]; omega)]
        simp only []
        rw [ldI_I (by omega) (by decide), a1.1 128 i (by omega)]; simp only [obs]
        rw [stI_I (by omega) (by decide)]; simp only [obs]
        rw [show I3 i + 1 = I3 (i + 1) from I3_add i 1])]
      refine ih (i + 1) (by omega) (f - 1) _ (by omega) (agr_wI a1 rfl) (fun j hj => ?_)
      show (if j = i then g.1 128 i else u.1 69 j) = _
      by_cases q : j = i
      · rw [if_pos q, q]
      · rw [if_neg q]; exact b1 j (by omega)
  obtain ⟨g1, a, b, c⟩ := LP l 0 (by omega) 1000000 g (by omega) agr_rfl (fun j hj => by omega)
  refine ⟨g1, a, agr_mono (fun b j z => by unfold SRp; omega) b, ?_, by rw [lst_len]; omega, fun j hj => ?_⟩
  · rw [b.1 67 3 (by omega), e3, lst_len]
  · rw [lst_len] at hj
    rw [c j hj, at0_lst hj]
def NL (h : sm_H) : Prop := ∃ l, l ≤ 16 ∧ h.1 55 9 = I3 l
theorem NL_S {h g : sm_H} {nm : Nat → Int64} {kd : List Int32} (S : SCO nm kd h g) : NL h := ⟨kd.length, by have := S.2.1; omega, S.1⟩
def PW (b0 : Nat) (h g : sm_H) (pc : Nat) (rc rr : Option (Int32 × sm_H)) (nm : Nat → Int64) (kd : List Int32) : Prop :=
  (∃ y h1 g1, rc = some (I3 y, h1) ∧ rr = some (I3 y, g1) ∧ y < nH g1 ∧ hpl g1 y = kd ∧ TW b0 h g h1 g1 ∧ NF h1 g1 ∧ SCO nm kd h1 g1) ∨ ∃ e h1 g1, rc = some (-1, h1) ∧ rr = some (-1, g1) ∧ TW b0 h g h1 g1 ∧ FT e pc h1 g1 ∧ NL h1
theorem R_462d (K : K1 h g) (k1 : k < 24) (n3 : n ≤ 3) (fne : ¬ g.1 67 77 = 0) (ok : ∀ i, i < n → ∃ y, y < nH g ∧ g.1 125 (20 * k + i) = I3 y) : ∀ r i, i + r = n → ∀ (f : Nat) (u : sm_H), r < f → agr S127 g u → ∃ g1, lp F_462_30B f (I3 k, I3 n, I3 i, u) = some (-1, g1) ∧ agr S127 g g1 := by
  have ix : ∀ j, (20 : Int32) * I3 k + I3 j = I3 (20 * k + j) := fun j => by rw [I3_lit, I3_mul, I3_add]
  have fu : ∀ u, agr S127 g u → ¬ u.1 67 77 = 0 := fun u a => by rw [a.1 67 77 (by unfold S127; omega)]; exact fne
  intro r
  induction r with
  | zero =>
    intro i hi f u hf a1
    have e : i = n := by omega
    subst e
    have a2 : agr S127 g (sm_wI u 128 (4 * i + 2) (-1)) := agr_wI a1 (by unfold S127; omega)
    have a3 : agr S127 g (sm_wI (sm_wI u 128 (4 * i + 2) (-1)) 128 (4 * i + 3) ((sm_wI u 128 (4 * i + 2) (-1)).1 125 (20 * k + (2 * i + 1)))) := agr_wI a2 (by unfold S127; omega)
    refine ⟨_, lp_e (by omega) ?_, a3⟩
    unfold F_462_30B
    show (if I3 i ≤ I3 i then _ else _) = _
    rw [if_pos (by rw [I3_le (by omega) (by omega)]; omega)]
    simp only []
    rw [show (2 : Int32) * I3 i = I3 (2 * i) from I3_mul 2 i, show (4 : Int32) * I3 i = I3 (4 * i) from I3_mul 4 i, ix, ldI_I (by omega) (by decide)]; simp only [obs]
    rw [dd433 (fu u a1)]; simp only [obs]
    rw [show I3 (4 * i) + 2 = I3 (4 * i + 2) from I3_add _ 2, show I3 (4 * i) + 3 = I3 (4 * i + 3) from I3_add _ 3, show I3 (20 * k + 2 * i) + 1 = I3 (20 * k + (2 * i + 1)) from I3_add _ 1, stI_I (by omega) (by decide)]; simp only [obs]
    rw [ldI_I (by omega) (by decide)]; simp only [obs]
    rw [stI_I (by omega) (by decide)]; simp only [obs]
    rw [if_neg (fu _ a3)]
  | succ r ih =>
    intro i hi f u hf a1
    obtain ⟨y, y1, y2⟩ := ok i (by omega)
    have a2 : agr S127 g (sm_wI u 128 (4 * i) (I3 y)) := agr_wI a1 (by unfold S127; omega)
    have a3 : agr S127 g (sm_wI (sm_wI u 128 (4 * i) (I3 y)) 128 (4 * i + 1) (-1)) := agr_wI a2 (by unfold S127; omega)
    have T := TB_127 (TB_of (b0 := 0) (TK_rfl K)) a2
    have l1 : ∀ u, agr S127 g u → ldI u 125 480 (I3 (20 * k + i)) = some (I3 y) := fun u a => by rw [ldI_I (by omega) (by decide), a.1 125 _ (by unfold S127; omega), y2]
    rw [lp_s (s' := (I3 k, I3 n, I3 (i + 1), sm_wI (sm_wI u 128 (4 * i) (I3 y)) 128 (4 * i + 1) (-1))) (by omega) (by
      unfold F_462_30B
      show (if I3 n ≤ I3 i then _ else _) = _
      rw [if_neg (by rw [I3_le (by omega) (by omega)]; omega)]
      simp only []
      rw [show (4 : Int32) * I3 i = I3 (4 * i) from I3_mul 4 i, ix, ix, l1 u a1]; simp only [obs]
      rw [stI_I (by omega) (by decide)]; simp only [obs]
      rw [show I3 (20 * k + n) + I3 i = I3 (20 * k + n + i) from I3_add _ _, ldI_I (by omega) (by decide)]; simp only [obs]
      rw [l1 _ a2]; simp only [obs]
      rw [R_rs T.k (T.nH y1)]; simp only [obs]
      rw [dd433 (fu _ a2)]; simp only [obs]
      rw [show I3 (4 * i) + 1 = I3 (4 * i + 1) from I3_add _ 1, stI_I (by omega) (by decide)]; simp only [obs]
      rw [show I3 i + 1 = I3 (i + 1) from I3_add i 1])]
    exact ih (i + 1) (by omega) (f - 1) _ (by omega) a3
theorem TW_dd {b0 : Nat} {h1 g1 g2 : sm_H} (t : TW b0 h g h1 g1) (a : agr Sdd g1 g2) : TW b0 h g h1 g2 := TW_trans t (TW_of (TB_dd (TB_of (TK_rfl t.k)) a))
theorem wh_TW {b0 : Nat} {h1 g1 : sm_H} (wh : g.1 67 106 = I3 pc) (t : TW b0 h g h1 g1) : g1.1 67 106 = I3 pc := (t.a.1 67 106 (by unfold SRa SRq SRb SRp SRh SRt Ssr; omega)).trans wh
theorem loopEnd (K : K1 h g) (S : SCO nm' (ks ++ kd) h g) (en : ∀ i, nm' (ks.length + i) = nm i) (nf : NF h g) (wh : g.1 67 106 = I3 pc) (n1 : 1 ≤ n) (n3 : n ≤ 3) (lk : ks.length = n) (st : STK h base (2 * n + 2) pt) (k1 : k < 24) (k0 : ∀ i, i < n → ¬ at0 ks i = 0) (ok0 : ∀ i, i < n → pt i < nH g ∧ hpl g (pt i) = kd ∧ hrs g (pt i) = at0 ks i) (ok1 : ∀ j, n ≤ j → j < 2 * n + 2 → pt j < nH g ∧ hpl g (pt j) = ks ++ kd) (f125 : ∀ i, i < 2 * n + 2 → g.1 125 (20 * k + i) = I3 (pt i)) (f122 : g.1 122 k = I3 n) (f123 : g.1 123 k = I3 (400 - kd.length)) (rec : sm_H → Option (Int32 × sm_H)) :
    PW base h g pc (F_211_69 rec (I3 pc) (I3 base) (I3 n) 0 h) (F_462 (I3 k) g) nm kd := by
  have h12 := K.1.2.1
  have ix : ∀ j, (20 : Int32) * I3 k + I3 j = I3 (20 * k + j) := fun j => by rw [I3_lit, I3_mul, I3_add]
  obtain ⟨g0, r1, r2, r3⟩ := R_462a (I3 k) (I3 n) g
  have R0 : F_462 (I3 k) g = lp F_462_30B 1000000 (I3 k, I3 n, I3 0, g0) := by
    show F_462_0 (I3 k) g = _
    unfold F_462_0
    rw [ldI_I k1 (by decide), f122]; simp only [obs]
    exact r1
  rw [R0]
  have kL12 : (ks ++ kd).length ≤ 13 := S.2.1
  rw [List.length_append] at kL12
  have LP : ∀ r i, i + r = n → ∀ (f : Nat) (h1 g1 : sm_H) (p : Nat → Nat), r < f → TB base h g h1 g1 → NF h1 g1 → STK h1 base (2 * n + 2) p → (∀ j, j < n → p j = pt j) → (∀ j, n + i ≤ j → p j = pt j) → (∀ j, n ≤ j → j < 2 * n + 2 → p j < nH g1 ∧ hpl g1 (p j) = ks ++ kd) → (∀ j, j < i → hrs g1 (p (n + j)) = at0 ks j ∧ g1.1 128 (4 * j) = I3 (p j) ∧ g1.1 128 (4 * j + 1) = I3 (p (n + j))) → (∀ j, j < 16 → (4 * i ≤ j ∨ j % 4 = 2 ∨ j % 4 = 3) → g1.1 128 j = -1) → PW base h g pc (lp (F_211_69B rec) f (I3 pc, I3 base, I3 n, I3 i, h1)) (lp F_462_30B f (I3 k, I3 n, I3 i, g1)) nm kd := by
    intro r
    induction r with
    | zero =>
      intro i hi f h1 g1 p hf T nf1 s1 pa pb pc1 pd pe
      have e : i = n := by omega
      subst e
      have nc := T.nC
      have S1 := SCO_TB S T
      have wh1 := wh_TB wh T
      have l125 : ∀ u, agr SRa g u → ∀ j, j < 2 * i + 2 → ldI u 125 480 (I3 (20 * k + j)) = some (I3 (pt j)) := fun u a j hj => by rw [ldI_I (by omega) (by decide), a.1 125 _ (by unfold SRa SRq SRb SRp SRh SRt; omega), f125 j hj]
      have ec : p (2 * i) = pt (2 * i) := pb _ (by omega)
      have er : p (2 * i + 1) = pt (2 * i + 1) := pb _ (by omega)
      have C0 : ∀ v h2, F_190 (I3 (base + 2 * i)) 1 (I3 pc) h1 = some (v, h2) → F_211_69B rec (I3 pc, I3 base, I3 i, I3 i, h1) = if v = 0 then some (.inr (-1, h2)) else ((F_184 (I3 i) h2).bind fun q2 =>
          (F_189 (I3 (base + 2 * i) + 1) q2).bind fun q3 =>
          (F_185 q3.1 (I3 pc) q3.2).bind fun q4 =>
          if q4.1 = (-1) then (some (.inr ((-1), q4.2)))
          else ((F_213 (I3 base) (I3 i) q4.2).bind fun q5 =>
          (F_5 18 0 q4.1 0 56 q5).bind fun q6 =>
          if 0 ≤ q6.1 then ((F_211_194 rec q6.1 q6.2).map fun r => (.inr r))
          else ((F_169 8 (I3 pc) q6.2).bind fun q7 =>
          (F_211_194 rec q7.1 q7.2).map fun r => (.inr r)))) := fun v h2 z => by
        unfold F_211_69B
        show (if I3 i ≤ I3 i then _ else _) = _
        rw [if_pos (by rw [I3_le (by omega) (by omega)]; omega)]
        simp only []
        rw [show I3 base + 2 * I3 i = I3 (base + 2 * i) by rw [I3_lit, I3_mul, I3_add], z]; simp only [obs]
      have R1 : ∀ v g2, F_433 (I3 (pt (2 * i))) 1 g1 = some (v, g2) → agr SRq g1 g2 → F_462_30B (I3 k, I3 i, I3 i, g1) = if (sm_wI (sm_wI g2 128 (4 * i + 2) v) 128 (4 * i + 3) (I3 (pt (2 * i + 1)))).1 67 77 = 0 then ((F_307 (I3 (pt (2 * i + 1))) (sm_wI (sm_wI (sm_wI g2 128 (4 * i + 2) v) 128 (4 * i + 3) (I3 (pt (2 * i + 1)))) 67 94 (I3 (400 - kd.length)))).bind fun q13 =>
          (F_428 q13.1 q13.2).bind fun q14 =>
          if q14.1 = (-1) then (some (.inr ((-1), q14.2)))
          else ((some (sm_wI q14.2 67 3 (I3 (4 * i + 4)))).bind fun h15 =>
          (F_462_212 q14.1 0 h15).map fun r => (.inr r))) else some (.inr (-1, sm_wI (sm_wI g2 128 (4 * i + 2) v) 128 (4 * i + 3) (I3 (pt (2 * i + 1))))) := fun v g2 z aq => by
        have a2 : agr SRa g g2 := agr_trans T.a (agr_mono (fun _ _ z => Or.inl z) aq)
        unfold F_462_30B
        show (if I3 i ≤ I3 i then _ else _) = _
        rw [if_pos (by rw [I3_le (by omega) (by omega)]; omega)]
        simp only []
        rw [show (2 : Int32) * I3 i = I3 (2 * i) from I3_mul 2 i, show (4 : Int32) * I3 i = I3 (4 * i) from I3_mul 4 i, ix, l125 g1 T.a _ (by omega)]; simp only [obs]
        rw [z]; simp only [obs]
        rw [show I3 (4 * i) + 2 = I3 (4 * i + 2) from I3_add _ 2, show I3 (4 * i) + 3 = I3 (4 * i + 3) from I3_add _ 3, show I3 (4 * i) + 4 = I3 (4 * i + 4) from I3_add _ 4, show I3 (20 * k + 2 * i) + 1 = I3 (20 * k + (2 * i + 1)) from I3_add _ 1, stI_I (by omega) (by decide)]; simp only [obs]
        rw [l125 (sm_wI g2 128 (4 * i + 2) v) (agr_wI a2 (Or.inr (by omega))) _ (by omega)]; simp only [obs]
        rw [stI_I (by omega) (by decide)]; simp only [obs]
        rw [ldI_I k1 (by decide), show (sm_wI (sm_wI g2 128 (4 * i + 2) v) 128 (4 * i + 3) (I3 (pt (2 * i + 1)))).1 123 k = I3 (400 - kd.length) from (a2.1 123 k (by unfold SRa SRq SRb SRp SRh SRt; omega)).trans f123]; simp only [obs]
        rw [ldI_I (by omega) (by decide), show (sm_wI (sm_wI (sm_wI g2 128 (4 * i + 2) v) 128 (4 * i + 3) (I3 (pt (2 * i + 1)))) 67 94 (I3 (400 - kd.length))).1 128 (4 * i + 3) = I3 (pt (2 * i + 1)) from if_pos rfl]; simp only [obs]
      rcases pass1 T.k S1 nf1 (i := 2 * i) (pc := pc) wh1 s1 (by omega) (pc1 (2 * i) (by omega) (by omega)).1 (pc1 (2 * i) (by omega) (by omega)).2 (k := 1) (by omega) with ⟨z, h2, g2, c1, c2, c3, c4, c5, c6, c7, c8⟩ | ⟨e, h2, g2, c1, c2, c3, c4⟩
      · have aq := a433 T.k S1 nf1 wh1 (pc1 (2 * i) (by omega) (by omega)).1 (pc1 (2 * i) (by omega) (by omega)).2 (k := 1) (by omega) c2
        rw [ec] at c2
        have B1 := C0 _ _ c1
        have B2 := R1 _ _ c2 aq
        rw [if_neg (by decide)] at B1
        have a23 : agr S127 g2 (sm_wI (sm_wI g2 128 (4 * i + 2) (I3 z)) 128 (4 * i + 3) (I3 (pt (2 * i + 1)))) := agr_wI (agr_wI agr_rfl (by unfold S127; omega)) (by unfold S127; omega)
        have v128 : ∀ x, (sm_wI (sm_wI g2 128 (4 * i + 2) (I3 z)) 128 (4 * i + 3) (I3 (pt (2 * i + 1)))).1 128 x = if x = 4 * i + 3 then I3 (pt (2 * i + 1)) else if x = 4 * i + 2 then I3 z else g2.1 128 x := fun x => rfl
        generalize hg3 : sm_wI (sm_wI g2 128 (4 * i + 2) (I3 z)) 128 (4 * i + 3) (I3 (pt (2 * i + 1))) = g3 at *
        have T2 := TB_mono (Nat.le_add_right base (2 * i)) c7
        have T13 : TB base h1 g1 h2 g3 := TB_127 T2 a23
        have T3 : TB base h g h2 g3 := TB_trans T T13
        have n3' : NF h2 g3 := NF_127 c8 a23
        rw [if_pos n3'.2.1] at B2
        have en' : ∀ j, nm' (ks.length + j) = nm j := en
        obtain ⟨h3, d1, d2, d3, d4⟩ := SCO_drop (SCO_TB S T3) en'
        rw [lk] at d1
        have W34 : TW base h2 g3 h3 (sm_wI g3 67 94 (I3 (400 - kd.length))) := TW_sc T3.k d3 d4
        have v4 : ∀ x, (sm_wI g3 67 94 (I3 (400 - kd.length))).1 128 x = g3.1 128 x := fun x => rfl
        generalize hg4 : sm_wI g3 67 94 (I3 (400 - kd.length)) = g4 at *
        have W04 : TW base h g h3 g4 := TW_trans (TW_of T3) W34
        have W14 : TW base h1 g1 h3 g4 := TW_trans (TW_of T13) W34
        have W24 : TW base h2 g2 h3 g4 := TW_trans (TW_of (TB_127 (TB_of (TK_rfl c7.k)) a23)) W34
        have n4 : NF h3 g4 := NF_sc n3' d3 d4
        have wh4 := wh_TW wh W04
        have okr := ok1 (2 * i + 1) (by omega) (by omega)
        have okr4 := W04.nH okr.1
        have s3 := STK_sc c6 d3
        rw [d1] at B1; simp only [obs] at B1
        have u1 : updN p (2 * i) z (2 * i + 1) = pt (2 * i + 1) := by rw [up_o _ _ (by omega)]; exact er
        rw [show I3 (base + 2 * i) + 1 = I3 (base + (2 * i + 1)) from I3_add _ 1, C_189 W34.k s3 (i := 2 * i + 1) (by omega) (by rw [u1]; exact okr4), u1] at B1; simp only [obs] at B1
        rw [R_rs W34.k okr4] at B2; simp only [obs] at B2
        rcases scopeTy W34.k d2 n4 wh4 (kR_h W34.k okr4) with ⟨t, h5, g5, e1, e2, t1, t2, t3, t4, T5, n5⟩ | ⟨e, h5, g5, e1, e2, T5, ft⟩
        · have w3 := w300 T5.k
          rw [e1] at B1; simp only [obs] at B1
          rw [e2] at B2; simp only [obs] at B2
          rw [if_neg (I3_m1 (by omega))] at B1 B2
          have v5 : ∀ x, g5.1 128 x = if x = 4 * i + 3 then I3 (pt (2 * i + 1)) else if x = 4 * i + 2 then I3 z else g1.1 128 x := fun x => by
            rw [T5.a.1 128 x (by unfold SRq SRb SRp SRh SRt; omega), v4, v128, aq.1 128 x (by unfold SRq SRb SRp SRh SRt; omega)]
          have at5 : ∀ x, x < 4 * i + 4 → at0 (lst (fun j => g5.1 128 j) (4 * i + 4)) x = g5.1 128 x := fun x hx => at0_lst hx
          have qa : ∀ j, j < i → at0 (lst (fun j => g5.1 128 j) (4 * i + 4)) (4 * j) = I3 (updN p (2 * i) z j) ∧ at0 (lst (fun j => g5.1 128 j) (4 * i + 4)) (4 * j + 1) = I3 (updN p (2 * i) z (i + j)) ∧ at0 (lst (fun j => g5.1 128 j) (4 * i + 4)) (4 * j + 2) = -1 ∧ at0 (lst (fun j => g5.1 128 j) (4 * i + 4)) (4 * j + 3) = -1 := fun j hj => by
            rw [at5 _ (by omega), at5 _ (by omega), at5 _ (by omega), at5 _ (by omega), v5, v5, v5, v5]
            rw [if_neg (by omega), if_neg (by omega), if_neg (by omega), if_neg (by omega), if_neg (by omega), if_neg (by omega), if_neg (by omega), if_neg (by omega), up_o _ _ (by omega), up_o _ _ (by omega)]
            exact ⟨(pd j hj).2.1, (pd j hj).2.2, pe _ (by omega) (by omega), pe _ (by omega) (by omega)⟩
          have q0 : at0 (lst (fun j => g5.1 128 j) (4 * i + 4)) (4 * i) = -1 := by rw [at5 _ (by omega), v5, if_neg (by omega), if_neg (by omega)]; exact pe _ (by omega) (by omega)
          have q1 : at0 (lst (fun j => g5.1 128 j) (4 * i + 4)) (4 * i + 1) = -1 := by rw [at5 _ (by omega), v5, if_neg (by omega), if_neg (by omega)]; exact pe _ (by omega) (by omega)
          have q2 : at0 (lst (fun j => g5.1 128 j) (4 * i + 4)) (4 * i + 2) = I3 z := by rw [at5 _ (by omega), v5, if_neg (by omega), if_pos rfl]
          have q3 : at0 (lst (fun j => g5.1 128 j) (4 * i + 4)) (4 * i + 3) = I3 (pt (2 * i + 1)) := by rw [at5 _ (by omega), v5, if_pos rfl]
          have ll : (lst (fun j => g5.1 128 j) (4 * i + 4)).length = 4 * i + 4 := lst_len _ _
          obtain ⟨h6, x1, x2, x3⟩ := C_213 (ps := lst (fun j => g5.1 128 j) (4 * i + 4)) n3 (STK_TK s3 T5) ll qa q0 q1 (by rw [q2, up_s]) (by rw [q3, u1])
          rw [x1] at B1; simp only [obs] at B1
          obtain ⟨g6, y1, y2, y3⟩ := R_462c (l := 4 * i + 4) (by omega) (I3 t) (sm_wI g5 67 3 (I3 (4 * i + 4))) rfl
          have a56 : agr SRp g5 g6 := agr_trans (agr_wI agr_rfl (by unfold SRp; omega)) y2
          have T46 : TK h3 g4 h6 g6 := TK_par (TK_row T5 x3) a56
          have n6 : NF h6 g6 := NF_par (NF_row n5 x3) a56
          have K6 := K1_c19 T46.k
          have e56 : ext g5 (sm_wI g6 67 19 0) := ext_trans (TK_par (TK_rfl T5.k) a56).e (ext_19 g6 0)
          have W06 : TW base h g h6 (sm_wI g6 67 19 0) := TW_trans W04 (TW_of (TB_of (TK_19 T46)))
          have W16 : TW base h1 g1 h6 (sm_wI g6 67 19 0) := TW_trans W14 (TW_of (TB_of (TK_19 T46)))
          have W26 : TW base h2 g2 h6 (sm_wI g6 67 19 0) := TW_trans W24 (TW_of (TB_of (TK_19 T46)))
          have W56 : TK h5 g5 h6 (sm_wI g6 67 19 0) := TK_19 (TK_par (TK_row (TK_rfl T5.k) x3) a56)
          have tnT : nT (sm_wI g6 67 19 0) = nT g5 := congrArg tn (a56.1 67 10 (by unfold SRp; omega))
          have tt1 : t < nT (sm_wI g6 67 19 0) := by rw [tnT]; exact t1
          have tt2 : rs (sm_wI g6 67 19 0) t = rs g5 t := a56.1 72 t (by unfold SRp; omega)
          have ttm : tM (sm_wI g6 67 19 0) t = tM g5 t := congrArg tn (a56.1 73 t (by unfold SRp; omega))
          have tt3 : pl (sm_wI g6 67 19 0) t = kd := by
            rw [← t3]
            show lst _ (tM (sm_wI g6 67 19 0) t) = lst _ (tM g5 t)
            rw [ttm]; exact lst_congr (fun x _ => a56.1 74 _ (by unfold SRp; omega))
          have ck := loopCk K6 (ps := lst (fun j => g5.1 128 j) (4 * i + 4)) y3 (n := i) (t := t) (c := z) (r := pt (2 * i + 1)) (a := pt) (b := fun j => p (i + j)) (kd := kd) (ks := ks) n1 n3 tt1 tt3 (tt2.trans (t2.trans ((TK_19 T46).hrs W34.k okr4).symm)) lk ll (fun j hj => by
            obtain ⟨z0, z1, z2, z3⟩ := qa j hj
            rw [up_o _ _ (by omega), pa j hj] at z0
            rw [up_o _ _ (by omega)] at z1
            exact ⟨z0, z1, z2, z3⟩) q0 q1 q2 q3 (fun j hj => ⟨W06.nH (ok0 j hj).1, (W06.hpl K (ok0 j hj).1).trans (ok0 j hj).2.1, (W06.hrs K (ok0 j hj).1).trans (ok0 j hj).2.2⟩) (fun j hj => ⟨W16.nH (pc1 (i + j) (by omega) (by omega)).1, (W16.hpl T.k (pc1 (i + j) (by omega) (by omega)).1).trans (pc1 (i + j) (by omega) (by omega)).2, (W16.hrs T.k (pc1 (i + j) (by omega) (by omega)).1).trans (pd j hj).1⟩) ⟨W26.nH c3, (W26.hpl c7.k c3).trans c5, (W26.hrs c7.k c3).trans c4⟩ ⟨W06.nH okr.1, (W06.hpl K okr.1).trans okr.2⟩ k0 0 0
          rw [tt3] at ck
          have M := mkForm T46.k n6 (f := 18) (wh_TK wh4 T46) 0 (I3 t) 0 x2 y3 (by decide) (by omega) ck
          rw [show F_462_212 (I3 t) 0 (sm_wI g5 67 3 (I3 (4 * i + 4))) = F_429 18 0 (I3 t) 0 g6 from y1] at B2
          rcases M with ⟨w, h7, g7, m1, m2, m3, m4, m5, m6, m7⟩ | ⟨w', h7, h8, g8, w0, m1, m2, m3, m4, m5⟩
          · rw [show F_5 18 0 (I3 t) 0 56 h6 = _ from m1] at B1; simp only [obs] at B1
            rw [if_pos (h_ge m6.k m3)] at B1
            rw [show F_429 18 0 (I3 t) 0 g6 = _ from m2] at B2
            refine Or.inl ⟨w, h7, g7, lp_e (by omega) B1, lp_e (by omega) B2, m3, m5, TW_trans W04 (TW_of (TB_of (TK_trans T46 m6))), m7, SCO_TK d2 (TK_trans T46 m6)⟩
          · rw [show F_5 18 0 (I3 t) 0 56 h6 = _ from m1] at B1; simp only [obs] at B1
            rw [if_neg (Int32.not_le.mpr w0), m2] at B1
            rw [show F_429 18 0 (I3 t) 0 g6 = _ from m3] at B2
            exact Or.inr ⟨8, h8, g8, lp_e (by omega) B1, lp_e (by omega) B2, TW_trans W04 (TW_of (TB_of (TK_trans T46 m4))), m5, NL_S (SCO_TK d2 (TK_trans T46 m4))⟩
        · rw [e1] at B1; simp only [obs] at B1
          rw [e2] at B2; simp only [obs] at B2
          rw [if_pos trivial] at B1 B2
          rw [lp_e (by omega) B1, lp_e (by omega) B2]
          exact Or.inr ⟨e, h5, g5, rfl, rfl, TW_trans W04 (TW_of (TB_of T5)), ft, NL_S (SCO_TK d2 T5)⟩
      · rw [ec] at c2
        have B1 := C0 _ _ c1
        have B2 := R1 _ _ c2 c3.a
        rw [if_pos rfl] at B1
        have a2 : agr S127 g2 (sm_wI (sm_wI g2 128 (4 * i + 2) (-1)) 128 (4 * i + 3) (I3 (pt (2 * i + 1)))) := agr_wI (agr_wI agr_rfl (by unfold S127; omega)) (by unfold S127; omega)
        rw [if_neg (by rw [a2.1 67 77 (by unfold S127; omega)]; exact FT_ne c4)] at B2
        rw [lp_e (by omega) B1, lp_e (by omega) B2]
        exact Or.inr ⟨e, h2, _, rfl, rfl, TW_dd (TW_of (TB_trans T (TB_of c3))) (ag127 a2), FT_dd c4 (ag127 a2), NL_S (SCO_TB S (TB_trans T (TB_of (b0 := base) c3)))⟩
    | succ r ih =>
      intro i hi f h1 g1 p hf T nf1 s1 pa pb pc1 pd pe
      obtain ⟨o1, o2, o3⟩ := ok0 i (by omega)
      obtain ⟨q, q1, q2⟩ := rs_k K o1
      have nc := T.nC
      have a1 : agr S127 g1 (sm_wI g1 128 (4 * i) (I3 (pt i))) := agr_wI agr_rfl (by unfold S127; omega)
      have v1 : ∀ x, (sm_wI g1 128 (4 * i) (I3 (pt i))).1 128 x = if x = 4 * i then I3 (pt i) else g1.1 128 x := fun x => rfl
      have st1 : ldI g1 125 480 (I3 (20 * k + i)) = some (I3 (pt i)) := by rw [ldI_I (by omega) (by decide), T.a.1 125 _ (by unfold SRa SRq SRb SRp SRh SRt; omega), f125 i (by omega)]
      have st2 : stI g1 128 16 (I3 (4 * i)) (I3 (pt i)) = some (sm_wI g1 128 (4 * i) (I3 (pt i))) := stI_I (by omega) (by decide)
      generalize hg : sm_wI g1 128 (4 * i) (I3 (pt i)) = g1' at *
      have T11 : TB base h1 g1 h1 g1' := TB_127 (TB_of (TK_rfl T.k)) a1
      have T' : TB base h g h1 g1' := TB_trans T T11
      have nf' : NF h1 g1' := NF_127 nf1 a1
      have wh' := wh_TB wh T'
      have S' := SCO_TB S T'
      have o1' := T'.nH o1
      have ri : hrs g1' (pt i) = I3 q := (T'.hrs K o1).trans q1
      have ri1 : hrs g1 (pt i) = I3 q := (T.hrs K o1).trans q1
      have oks := pc1 (n + i) (by omega) (by omega)
      have oks' := T11.nH oks.1
      have es : p (n + i) = pt (n + i) := pb _ (by omega)
      have b125 : ∀ j, j < 2 * n + 2 → ldI g1' 125 480 (I3 (20 * k + j)) = some (I3 (pt j)) := fun j hj => by rw [ldI_I (by omega) (by decide), T'.a.1 125 _ (by unfold SRa SRq SRb SRp SRh SRt; omega), f125 j hj]
      have B1 : ∀ v h2, F_190 (I3 (base + (n + i))) (I3 q) (I3 pc) h1 = some (v, h2) → F_211_69B rec (I3 pc, I3 base, I3 n, I3 i, h1) = if v = 0 then some (.inr (-1, h2)) else some (.inl (I3 pc, I3 base, I3 n, I3 (i + 1), h2)) := fun v h2 z => by
        unfold F_211_69B
        show (if I3 n ≤ I3 i then _ else _) = _
        rw [if_neg (by rw [I3_le (by omega) (by omega)]; omega)]
        simp only []
        rw [show I3 base + I3 i = I3 (base + i) from I3_add _ _, C_189 T.k s1 (i := i) (by omega) (by rw [pa i (by omega)]; exact T.nH o1), pa i (by omega), ri1]; simp only [obs]
        rw [show I3 base + I3 n + I3 i = I3 (base + (n + i)) by rw [I3_add, I3_add, Nat.add_assoc], z]; simp only [obs]
        rw [show I3 i + 1 = I3 (i + 1) from I3_add i 1]
      have B2 : ∀ v g2, F_433 (I3 (pt (n + i))) (I3 q) g1' = some (v, g2) → F_462_30B (I3 k, I3 n, I3 i, g1) = some (.inl (I3 k, I3 n, I3 (i + 1), sm_wI g2 128 (4 * i + 1) v)) := fun v g2 z => by
        unfold F_462_30B
        show (if I3 n ≤ I3 i then _ else _) = _
        rw [if_neg (by rw [I3_le (by omega) (by omega)]; omega)]
        simp only []
        rw [show (4 : Int32) * I3 i = I3 (4 * i) from I3_mul 4 i, ix, ix, st1]; simp only [obs]
        rw [st2]; simp only [obs]
        rw [show I3 (20 * k + n) + I3 i = I3 (20 * k + (n + i)) by rw [I3_add, Nat.add_assoc], b125 _ (by omega)]; simp only [obs]
        rw [b125 _ (by omega)]; simp only [obs]
        rw [R_rs T'.k o1', ri]; simp only [obs]
        rw [z]; simp only [obs]
        rw [show I3 (4 * i) + 1 = I3 (4 * i + 1) from I3_add _ 1, stI_I (by omega) (by decide)]; simp only [obs]
        rw [show I3 i + 1 = I3 (i + 1) from I3_add i 1]
      have hps : hpl g1' (p (n + i)) = ks ++ kd := (T11.hpl T.k oks.1).trans oks.2
      rcases pass1 T'.k S' nf' (i := n + i) (pc := pc) wh' s1 (by omega) oks' hps (k := q) (by have := T'.nC; omega) with ⟨z, h2, g2, c1, c2, c3, c4, c5, c6, c7, c8⟩ | ⟨e, h2, g2, c1, c2, c3, c4⟩
      · have aq := a433 T'.k S' nf' wh' oks' hps (k := q) (by have := T'.nC; omega) c2
        rw [es] at c2
        have b1 := B1 _ _ c1
        have b2 := B2 _ _ c2
        rw [if_neg (by decide)] at b1
        rw [lp_s (by omega) b1, lp_s (by omega) b2]
        have a2 : agr S127 g2 (sm_wI g2 128 (4 * i + 1) (I3 z)) := agr_wI agr_rfl (by unfold S127; omega)
        have v2 : ∀ x, (sm_wI g2 128 (4 * i + 1) (I3 z)).1 128 x = if x = 4 * i + 1 then I3 z else if x = 4 * i then I3 (pt i) else g1.1 128 x := fun x => by
          show (if x = 4 * i + 1 then I3 z else g2.1 128 x) = _
          rw [aq.1 128 x (by unfold SRq SRb SRp SRh SRt; omega), v1]
        have T12 : TB base h1 g1 h2 (sm_wI g2 128 (4 * i + 1) (I3 z)) := TB_127 (TB_trans T11 (TB_mono (Nat.le_add_right base (n + i)) c7)) a2
        have Tz : TB base h2 g2 h2 (sm_wI g2 128 (4 * i + 1) (I3 z)) := TB_127 (TB_of (TK_rfl c7.k)) a2
        refine ih (i + 1) (by omega) (f - 1) _ _ (updN p (n + i) z) (by omega) (TB_trans T T12) (NF_127 c8 a2) c6 (fun j hj => ?_) (fun j hj => ?_) (fun j hj1 hj2 => ?_) (fun j hj => ?_) (fun j hj hj2 => ?_)
        · rw [up_o _ _ (by omega)]; exact pa j hj
        · rw [up_o _ _ (by omega)]; exact pb j (by omega)
        · by_cases w : j = n + i
          · subst w
            rw [up_s]; exact ⟨Tz.nH c3, (Tz.hpl c7.k c3).trans c5⟩
          · rw [up_o _ _ w]
            exact ⟨T12.nH (pc1 j hj1 hj2).1, (T12.hpl T.k (pc1 j hj1 hj2).1).trans (pc1 j hj1 hj2).2⟩
        · rw [v2, v2]
          by_cases w : j = i
          · subst w
            rw [up_s, if_neg (by omega), if_pos rfl, if_pos rfl, up_o _ _ (by omega), pa j (by omega)]
            exact ⟨((Tz.hrs c7.k c3).trans c4).trans (q1.symm.trans o3), rfl, rfl⟩
          · obtain ⟨d1, d2, d3⟩ := pd j (by omega)
            rw [if_neg (by omega), if_neg (by omega), if_neg (by omega), if_neg (by omega), up_o _ _ (by omega), up_o _ _ (by omega)]
            exact ⟨(T12.hrs T.k (pc1 (n + j) (by omega) (by omega)).1).trans d1, d2, d3⟩
        · rw [v2, if_neg (by omega), if_neg (by omega)]
          exact pe j hj (by omega)
      · rw [es] at c2
        have b1 := B1 _ _ c1
        have b2 := B2 _ _ c2
        rw [if_pos rfl] at b1
        rw [lp_e (by omega) b1, lp_s (by omega) b2]
        have a2 : agr S127 g2 (sm_wI g2 128 (4 * i + 1) (-1)) := agr_wI agr_rfl (by unfold S127; omega)
        have T2 : TB base h g h2 g2 := TB_trans T' (TB_of c3)
        obtain ⟨g4, d1, d2⟩ := R_462d T2.k k1 n3 (FT_ne c4) (fun j hj => ⟨pt j, T2.nH (ok0 j hj).1, (T2.a.1 125 _ (by unfold SRa SRq SRb SRp SRh SRt; omega)).trans (f125 j (by omega))⟩) r (i + 1) (by omega) (f - 1) _ (by omega) a2
        exact Or.inr ⟨e, h2, g4, rfl, d1, TW_dd (TW_of T2) (ag127 d2), FT_dd c4 (ag127 d2), NL_S (SCO_TB S T2)⟩
  exact LP n 0 (by omega) 1000000 h g0 pt (by omega) (TB_127 (TB_of (TK_rfl K)) r2) (NF_127 nf r2) st (fun _ _ => rfl) (fun _ _ => rfl) (fun j h1 h2 => ⟨(TB_127 (TB_of (b0 := 0) (TK_rfl K)) r2).nH (ok1 j h1 h2).1, ((TB_127 (TB_of (b0 := 0) (TK_rfl K)) r2).hpl K (ok1 j h1 h2).1).trans (ok1 j h1 h2).2⟩) (fun j hj => by omega) (fun j hj _ => r3 j hj)
end
