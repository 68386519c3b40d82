theorem par3 (g : sm_H) (x y z : Int32) : prR (sm_wI (sm_wI (sm_wI (sm_wI g 69 0 x) 69 1 y) 69 2 z) 67 3 3) [x, y, z] ∧ agr SRp g (sm_wI (sm_wI (sm_wI (sm_wI g 69 0 x) 69 1 y) 69 2 z) 67 3 3) := by
  refine ⟨⟨rfl, by simp, fun k hk => ?_⟩, agr_wI (agr_wI (agr_wI (agr_wI agr_rfl (by unfold SRp; omega)) (by unfold SRp; omega)) (by unfold SRp; omega)) (by unfold SRp; omega)⟩
  rcases (show k = 0 ∨ k = 1 ∨ k = 2 by simp only [List.length_cons, List.length_nil] at hk; omega) with rfl | rfl | rfl <;> rfl
theorem S56_stk (b j : Nat) (z : S56 b j) : ¬ (b = 55 ∧ j = 12 ∨ b = 60) := by unfold S56 at z; omega
theorem mayB_00 (g : sm_H) {a b : Nat} (n : a ≠ b) (h : a = 0 ∨ b = 0) (f : Bool) : mayB g a b f false = false := by
  unfold mayB
  rw [if_neg n]
  by_cases q : a = 0
  · rw [if_pos q]
  · rw [if_neg q, if_pos (by omega)]
theorem C_64 {h g : sm_H} (K : K1 h g) {a b : Nat} (n : a ≠ b) (ha : a < 20 + nC g) (hb : b < 20 + nC g) : F_64 (I3 a) (I3 b) 0 h = some (b2 (mayB g a b false false), h) := by
  by_cases z : a = 0 ∨ b = 0
  · rw [mayB_00 g n z]
    refine C_allows_o K.1 K.2.1 0 ?_
    rcases z with rfl | rfl
    · exact Or.inr (Or.inl rfl)
    · exact Or.inr (Or.inr (Or.inr rfl))
  · exact C_allows K.1 K.2.1 (by omega) ha (by omega) hb false
theorem ty_un {h g : sm_H} (K : K1 h g) {y z : Nat} (y1 : y < nH g) (z1 : z < nH g) (r : hrs g y = hrs g z) (p : hpl g y = hpl g z) : ty g y = ty g z := by
  have ly := hpl_len g y
  have lz := hpl_len g z
  have a := (K.2.2.1.2.1 _ (ty_lt K y1)).2.1.1
  have b := (K.2.2.1.2.1 _ (ty_lt K z1)).2.1.1
  have e : tM g (ty g y) = tM g (ty g z) := by rw [← ly, ← lz, p]
  refine K.2.2.1.2.2 _ _ (ty_lt K y1) (ty_lt K z1) r ?_ (fun i hi => ?_)
  · show g.1 73 _ = g.1 73 _
    exact (a.trans (congrArg I3 e)).trans b.symm
  · have u1 : at0 (hpl g y) i = g.1 74 (10 * ty g y + i) := at0_lst hi
    have u2 : at0 (hpl g z) i = g.1 74 (10 * ty g z + i) := at0_lst (by omega)
    rw [← u1, ← u2, p]
section
variable {h g : sm_H} {nm : Nat → Int64} {kd : List Int32} {pc base k : Nat} {pt : Nat → Nat} {ex : Int32}
theorem guardMk (K : K1 h g) (nf : NF h g) (wh : g.1 67 106 = I3 pc) (st : STK h base 3 pt) (ok : ∀ i, i < 3 → pt i < nH g ∧ hpl g (pt i) = kd) (r0 : hrs g (pt 0) = 1) (r12 : hrs g (pt 1) = hrs g (pt 2)) : PO base h g pc ((F_187 (I3 base) h).bind fun q2 =>
  (F_187 (I3 base + 1) q2.2).bind fun q3 =>
  (F_141 56 q2.1 q3.1 q3.2).bind fun q4 =>
  (F_187 (I3 base + 2) q4.2).bind fun q5 =>
  (F_139 56 q5.1 q5.2).bind fun q6 =>
  (F_5 14 0 0 0 56 q6.2).bind fun q7 =>
  if 0 ≤ q7.1 then (F_205_188 q7.1 q7.2)
  else ((F_169 8 (I3 pc) q7.2).bind fun q8 =>
  F_205_188 q8.1 q8.2)) (F_461_106 (I3 (pt 0)) (I3 (pt 1)) (I3 (pt 2)) g) kd := by
  obtain ⟨o1, o2⟩ := ok 0 (by omega)
  obtain ⟨p1, p2⟩ := ok 1 (by omega)
  obtain ⟨s1, s2⟩ := ok 2 (by omega)
  obtain ⟨h1, c1, c2, c3⟩ := C_two56 h (I3 (pt 0)) (I3 (pt 1))
  obtain ⟨h2, d1, d2, d3⟩ := C_app56 c2 (by simp) (I3 (pt 2))
  have st1 := STK_agr st c3 S56_stk
  have R2 : hasL h2 56 57 [I3 (pt 0), I3 (pt 1), I3 (pt 2)] := d2
  obtain ⟨u1, u2⟩ := par3 g (I3 (pt 0)) (I3 (pt 1)) (I3 (pt 2))
  have T2 := TK_par (TK_row (TK_row (TK_rfl K) c3) d3) u2
  have n2 := NF_par (NF_row (NF_row nf c3) d3) u2
  have ck := ck_14 (K1_c19 T2.k) (P := (show prR (sm_wI (sm_wI (sm_wI (sm_wI (sm_wI g 69 0 (I3 (pt 0))) 69 1 (I3 (pt 1))) 69 2 (I3 (pt 2))) 67 3 3) 67 19 0) _ from u1)) (x := pt 0) (y := pt 1) (z := pt 2) o1 p1 s1 (show ty g (pt 1) = ty g (pt 2) from ty_un K p1 s1 r12 (p2.trans s2.symm)) r0 (by show pre (hpl g (pt 0)) (hpl g (pt 1)); rw [o2, p2]; exact pre_rfl _) 0 0 0
  have M := mkForm T2.k n2 (f := 14) (wh_TK wh T2) 0 0 0 R2 u1 (by decide) (show (hpl g (pt 1)).length ≤ 64 by have := mn_10 K p1; omega) ck
  rw [show F_187 (I3 base) h = some (I3 (pt 0), h) from STK_at st (i := 0) (by omega)]; simp only [obs]
  rw [show I3 base + 1 = I3 (base + 1) from I3_add base 1, show I3 base + 2 = I3 (base + 2) from I3_add base 2, STK_at st (i := 1) (by omega)]; simp only [obs]
  rw [c1]; simp only [obs]
  rw [STK_at st1 (i := 2) (by omega)]; simp only [obs]
  rw [d1]; simp only [obs]
  unfold F_461_106 F_205_188
  rw [if_neg (h_m1 K o1), if_neg (h_m1 K p1), if_neg (h_m1 K s1), if_pos nf.2, show stI g 69 24 0 (I3 (pt 0)) = some (sm_wI g 69 0 (I3 (pt 0))) from stI_I (k := 0) (by decide) (by decide)]; simp only [obs]
  rw [show stI (sm_wI g 69 0 (I3 (pt 0))) 69 24 1 (I3 (pt 1)) = some (sm_wI (sm_wI g 69 0 (I3 (pt 0))) 69 1 (I3 (pt 1))) from stI_I (k := 1) (by decide) (by decide)]; simp only [obs]
  rw [show stI (sm_wI (sm_wI g 69 0 (I3 (pt 0))) 69 1 (I3 (pt 1))) 69 24 2 (I3 (pt 2)) = some (sm_wI (sm_wI (sm_wI g 69 0 (I3 (pt 0))) 69 1 (I3 (pt 1))) 69 2 (I3 (pt 2))) from stI_I (k := 2) (by decide) (by decide)]; simp only [obs]
  rw [bind_id]
  rcases M with ⟨z, h3, g3, m1, m2, m3, m4, m5, m6, m7⟩ | ⟨w', h3, h4, g4, w0, m1, m2, m3, m4, m5⟩
  · rw [show F_5 14 0 0 0 56 h2 = _ from m1]; simp only [obs]
    rw [if_pos (h_ge m6.k m3)]
    exact Or.inl ⟨z, h3, g3, rfl, m2, m3, m5.trans p2, TB_of (TK_trans T2 m6), m7⟩
  · rw [show F_5 14 0 0 0 56 h2 = _ from m1]; simp only [obs]
    rw [if_neg (Int32.not_le.mpr w0), m2]
    exact Or.inr ⟨8, h4, g4, rfl, m3, TB_of (TK_trans T2 m4), m5⟩
theorem d106 (g : sm_H) (x y z : Int32) (h : x = -1 ∨ y = -1 ∨ z = -1 ∨ ¬ g.1 67 77 = 0) : F_461_106 x y z g = some (-1, g) := by
  unfold F_461_106 F_461_131
  by_cases a : x = -1
  · rw [if_pos a]
  · rw [if_neg a]
    by_cases b : y = -1
    · rw [if_pos b]
    · rw [if_neg b]
      by_cases c : z = -1
      · rw [if_pos c]
      · rw [if_neg c, if_neg]
        rcases h with h | h | h | h
        · exact absurd h a
        · exact absurd h b
        · exact absurd h c
        · exact h
theorem d413 (g : sm_H) (f : ¬ g.1 67 77 = 0) (e p : Int32) : F_413 e p g = some (0, g) := by
  show F_413_0 e p g = _
  unfold F_413_0 F_413_17
  rw [if_neg f]
theorem do_0 (K : K1 h g) (S : SCO nm kd h g) (nf : NF h g) (wh : g.1 67 106 = I3 pc) (st : STK h base 3 pt) (ok : ∀ i, i < 3 → pt i < nH g ∧ hpl g (pt i) = kd) (fr : FRM g k 2 ex 3 pt) : PO base h g pc (CP 0 ex (I3 base) (I3 pc) h) (F_460 (I3 k) g) kd := by
  have h12 := K.1.2.1
  obtain ⟨o1, o2⟩ := ok 0 (by omega)
  obtain ⟨p1, p2⟩ := ok 1 (by omega)
  obtain ⟨s1, s2⟩ := ok 2 (by omega)
  obtain ⟨q, q1, q2⟩ := rs_k K p1
  obtain ⟨r, r1, r2⟩ := rs_k K s1
  rw [F460 fr]
  unfold F_460_74
  rw [ld122 fr, ld119 fr]; simp only [obs]
  rw [if_neg (by decide), if_pos trivial, show pO 3 pt 0 = I3 (pt 0) from rfl, show pO 3 pt 1 = I3 (pt 1) from rfl, show pO 3 pt 2 = I3 (pt 2) from rfl, bind_id]
  have C0 : CP 0 ex (I3 base) (I3 pc) h = F_205 (I3 base) (I3 pc) h := by
    unfold CP
    rw [show F_203 0 ex (I3 base) h = some (1, h) from rfl]; simp only [obs]
    rw [if_neg (by decide), if_pos trivial, bind_id]
  rw [C0]
  have C1 : F_205 (I3 base) (I3 pc) h = F_205_0 (I3 base) (I3 pc) h := rfl
  have R1 : F_461 (I3 (pt 0)) (I3 (pt 1)) (I3 (pt 2)) g = F_461_0 (I3 (pt 0)) (I3 (pt 1)) (I3 (pt 2)) g := rfl
  unfold F_205_0 at C1
  unfold F_461_0 at R1
  rcases pass1 K S nf (i := 0) wh st (by omega) o1 o2 (k := 1) (by omega) with ⟨z, h1, g1, a1, a2, a3, a4, a5, a6, a7, a8⟩ | ⟨e, h1, g1, a1, a2, a3, a4⟩
  · rw [show F_190 (I3 base) 1 (I3 pc) h = some (1, h1) from a1] at C1; simp only [obs] at C1
    rw [show F_433 (I3 (pt 0)) 1 g = some (I3 z, g1) from a2] at R1; simp only [obs] at R1
    have nc := a7.nC
    have p1' := a7.nH p1
    have s1' := a7.nH s1
    have q1' : hrs g1 (pt 1) = I3 q := (a7.hrs K p1).trans q1
    have r1' : hrs g1 (pt 2) = I3 r := (a7.hrs K s1).trans r1
    have u1 : updN pt 0 z 1 = pt 1 := rfl
    have u2 : updN pt 0 z 2 = pt 2 := rfl
    have S1 := SCO_TB S a7
    have wh1 := wh_TB wh a7
    have ok1 : ∀ i, i < 3 → updN pt 0 z i < nH g1 ∧ hpl g1 (updN pt 0 z i) = kd := fun i hi => by
      rcases (show i = 0 ∨ i = 1 ∨ i = 2 by omega) with rfl | rfl | rfl
      · exact ⟨a3, a5⟩
      · exact ⟨p1', (a7.hpl K p1).trans p2⟩
      · exact ⟨s1', (a7.hpl K s1).trans s2⟩
    rw [if_neg (by decide), show I3 base + 1 = I3 (base + 1) from I3_add base 1, show I3 base + 2 = I3 (base + 2) from I3_add base 2, show F_189 (I3 (base + 1)) h1 = some (hrs g1 (pt 1), h1) from C_189 (pt := updN pt 0 z) a7.k a6 (i := 1) (by omega) p1', q1'] at C1; simp only [obs] at C1
    rw [show F_189 (I3 (base + 2)) h1 = some (hrs g1 (pt 2), h1) from C_189 (pt := updN pt 0 z) a7.k a6 (i := 2) (by omega) s1', r1'] at C1; simp only [obs] at C1
    rw [R_rs a7.k p1', q1'] at R1; simp only [obs] at R1
    rw [R_rs a7.k s1', r1'] at R1; simp only [obs] at R1
    rw [C1, R1]
    refine PO_tr a7 ?_
    have fin2 : PO base h1 g1 pc (F_205_49 (I3 base) (I3 pc) (I3 q) (I3 r) h1) ((F_433 (I3 (pt 2)) (I3 q) g1).bind fun q19 => F_461_106 (I3 z) (I3 (pt 1)) q19.1 q19.2) kd := by
      unfold F_205_49 F_205_54 F_205_83 F_205_98 F_205_109
      rw [if_neg (by decide), if_neg (by decide), if_neg (by decide), show I3 base + 2 = I3 (base + 2) from I3_add base 2]
      rcases pass1 a7.k S1 a8 (i := 2) (pc := pc) wh1 a6 (by omega) (by rw [u2]; exact s1') (by rw [u2]; exact (ok1 2 (by omega)).2) (k := q) (by omega) with ⟨w, h2, g2, c1, c2, c3, c4, c5, c6, c7, c8⟩ | ⟨e, h2, g2, c1, c2, c3, c4⟩
      · rw [u2] at c2
        rw [c1, c2]; simp only [obs]
        rw [if_neg (by decide)]
        have T := TB_mono (Nat.le_add_right base 2) c7
        refine PO_tr T ?_
        have G := guardMk (pt := updN (updN pt 0 z) 2 w) T.k c8 (wh_TB wh1 T) c6 (fun i hi => by
          rcases (show i = 0 ∨ i = 1 ∨ i = 2 by omega) with rfl | rfl | rfl
          · exact ⟨T.nH a3, (T.hpl a7.k a3).trans a5⟩
          · exact ⟨T.nH p1', (T.hpl a7.k p1').trans (ok1 1 (by omega)).2⟩
          · exact ⟨c3, c5⟩) ((T.hrs a7.k a3).trans a4) (((T.hrs a7.k p1').trans q1').trans c4.symm)
        rw [show I3 base + 2 = I3 (base + 2) from I3_add base 2, show updN (updN pt 0 z) 2 w 0 = z from rfl, show updN (updN pt 0 z) 2 w 1 = pt 1 from rfl, show updN (updN pt 0 z) 2 w 2 = w from rfl] at G
        exact G
      · rw [u2] at c2
        rw [c1, c2]; simp only [obs]
        rw [if_pos trivial, d106 _ _ _ _ (Or.inr (Or.inr (Or.inl rfl)))]
        exact PO_fail (TB_of c3) c4 rfl rfl agr_rfl
    by_cases e : q = r
    · subst e
      rw [if_pos rfl, if_pos rfl]
      have id2 : F_433 (I3 (pt 2)) (I3 q) g1 = some (I3 (pt 2), g1) := by
        show F_433_0 (I3 (pt 2)) (I3 q) g1 = _
        unfold F_433_0
        rw [if_pos a8.2, if_neg (h_m1 a7.k s1'), R_rs a7.k s1', r1']; simp only [obs]
        rw [if_pos trivial]
      rw [id2] at fin2; simp only [obs] at fin2
      exact fin2
    · have e1 : ¬ I3 q = I3 r := by rw [I3_inj (by omega) (by omega)]; exact e
      rw [if_neg e1, if_neg e1, C_64 a7.k (fun z => e z.symm) (by omega) (by omega), R_rs a7.k s1', r1']; simp only [obs]
      rw [R_rs a7.k p1', q1']; simp only [obs]
      rw [show F_297 (I3 r) (I3 q) 0 0 g1 = some (b2 (mayB g1 r q false false), g1) from R_mayBe a7.k.1 (by omega) (by omega) false false]; simp only [obs]
      cases m : mayB g1 r q false false with
      | true =>
        rw [if_neg (by decide), if_neg (by decide), R_rs a7.k p1', q1']; simp only [obs]
        exact fin2
      | false =>
        rw [if_pos (by decide), if_pos (by decide), R_rs a7.k p1', q1']; simp only [obs]
        rw [R_rs a7.k s1', r1']; simp only [obs]
        rw [show F_297 (I3 q) (I3 r) 0 0 g1 = some (b2 (mayB g1 q r false false), g1) from R_mayBe a7.k.1 (by omega) (by omega) false false]; simp only [obs]
        unfold F_205_54
        rw [if_pos rfl, C_64 a7.k e (by omega) (by omega)]; simp only [obs]
        cases m2 : mayB g1 q r false false with
        | true =>
          rw [if_neg (by decide), if_neg (by decide), R_rs a7.k s1', r1']; simp only [obs]
          unfold F_205_83 F_205_98 F_205_109
          rw [if_pos rfl, if_pos rfl, show I3 base + 1 = I3 (base + 1) from I3_add base 1]
          rcases pass1 a7.k S1 a8 (i := 1) (pc := pc) wh1 a6 (by omega) (by rw [u1]; exact p1') (by rw [u1]; exact (ok1 1 (by omega)).2) (k := r) (by omega) with ⟨w, h2, g2, c1, c2, c3, c4, c5, c6, c7, c8⟩ | ⟨e, h2, g2, c1, c2, c3, c4⟩
          · rw [u1] at c2
            rw [c1, c2]; simp only [obs]
            rw [if_neg (by decide)]
            have T := TB_mono (Nat.le_add_right base 1) c7
            refine PO_tr T ?_
            have G := guardMk (pt := updN (updN pt 0 z) 1 w) T.k c8 (wh_TB wh1 T) c6 (fun i hi => by
              rcases (show i = 0 ∨ i = 1 ∨ i = 2 by omega) with rfl | rfl | rfl
              · exact ⟨T.nH a3, (T.hpl a7.k a3).trans a5⟩
              · exact ⟨c3, c5⟩
              · exact ⟨T.nH s1', (T.hpl a7.k s1').trans (ok1 2 (by omega)).2⟩) ((T.hrs a7.k a3).trans a4) (c4.trans ((T.hrs a7.k s1').trans r1').symm)
            rw [show I3 base + 1 = I3 (base + 1) from I3_add base 1, show updN (updN pt 0 z) 1 w 0 = z from rfl, show updN (updN pt 0 z) 1 w 1 = w from rfl, show updN (updN pt 0 z) 1 w 2 = pt 2 from rfl] at G
            exact G
          · rw [u1] at c2
            rw [c1, c2]; simp only [obs]
            rw [if_pos trivial, d106 _ _ _ _ (Or.inr (Or.inl rfl))]
            exact PO_fail (TB_of c3) c4 rfl rfl agr_rfl
        | false =>
          rw [if_pos (by decide), if_pos (by decide)]
          obtain ⟨h2, g2, f1, f2, f3, f4⟩ := failB a7.k a8 (e := 7) (pc := pc) (by decide) (by decide)
          rw [show F_169 7 (I3 pc) h1 = some (-1, h2) from f1, wh1, show F_413 7 (I3 pc) g1 = some (0, g2) from f2]; simp only [obs]
          rw [d106 _ _ _ _ (Or.inr (Or.inr (Or.inr (FT_ne f4))))]
          exact PO_fail (TB_of f3) f4 rfl rfl agr_rfl
  · rw [show F_190 (I3 base) 1 (I3 pc) h = some (0, h1) from a1] at C1; simp only [obs] at C1
    rw [show F_433 (I3 (pt 0)) 1 g = some (-1, g1) from a2] at R1; simp only [obs] at R1
    rw [if_pos trivial] at C1
    have nc := a3.nC
    have p1' := a3.nH p1
    have s1' := a3.nH s1
    have q1' : hrs g1 (pt 1) = I3 q := (a3.hrs K p1).trans q1
    have r1' : hrs g1 (pt 2) = I3 r := (a3.hrs K s1).trans r1
    have fne := FT_ne a4
    have x1 := R_rs a3.k p1'
    have x2 := R_rs a3.k s1'
    have x3 : F_297 (I3 r) (I3 q) 0 0 g1 = some (b2 (mayB g1 r q false false), g1) := R_mayBe a3.k.1 (by omega) (by omega) false false
    have x4 : F_297 (I3 q) (I3 r) 0 0 g1 = some (b2 (mayB g1 q r false false), g1) := R_mayBe a3.k.1 (by omega) (by omega) false false
    have x5 : ∀ y z, F_461_106 (-1) y z g1 = some (-1, g1) := fun y z => d106 _ _ _ _ (Or.inl rfl)
    rw [q1'] at x1
    rw [r1'] at x2
    simp only [obs, x1, x2, x3, x4, d413 _ fne, dd433 fne, x5, ite_self] at R1
    exact PO_fail (TB_of a3) a4 C1 R1 agr_rfl
theorem folded1 (K : K1 h g) (nf : NF h g) (wh : g.1 67 106 = I3 pc) {x y : Nat} (x1 : x < nH g) (y1 : y < nH g) (ex : hpl g x = hrs g y :: kd) (ey : hpl g y = kd) (ry : ¬ hrs g y = 0) : MkO h g pc (F_206 (I3 x) (I3 y) (I3 pc) h) (F_432 8 0 (I3 x) (I3 y) g) (hrs g x) kd := by
  have gn : gone (hrs g y) = 1 := gone_n ry
  have el : (hpl g x).take 0 ++ (hpl g x).drop (0 + gone (hrs g y)) = kd := by rw [gn, ex]; rfl
  obtain ⟨h1, c1, c2⟩ := foldMk K nf (n := 0) wh x1 y1 (by rw [gn, ex, List.length_cons]; omega) (fun _ => by rw [ex]; rfl) (by rw [el, ey]; exact pre_rfl _) el
  have C0 : F_206 (I3 x) (I3 y) (I3 pc) h = F_206_0 (I3 x) (I3 y) (I3 pc) h := rfl
  unfold F_206_0 F_206_40 at C0
  rw [c1] at C0; simp only [obs] at C0
  rcases c2 with ⟨z, h2, g2, q1, q2, q3, q4, q5, q6, q7⟩ | ⟨w', h2, h3, g3, w0, q1, q2, q3, q4, q5⟩
  · rw [show F_5 8 0 0 0 56 h1 = _ from q1] at C0; simp only [obs] at C0
    rw [if_pos (h_ge q6.k q3)] at C0
    exact Or.inl ⟨z, h2, g2, C0, q2, q3, q4, q5, q6, q7⟩
  · rw [show F_5 8 0 0 0 56 h1 = _ from q1] at C0; simp only [obs] at C0
    rw [if_neg (Int32.not_le.mpr w0), q2] at C0
    exact Or.inr ⟨8, h3, g3, C0, q3, q4, q5⟩
theorem catchMk (K : K1 h g) (nf : NF h g) (wh : g.1 67 106 = I3 pc) {x y : Nat} (x1 : x < nH g) (y1 : y < nH g) (ex : hpl g x = kd) (ey : hpl g y = 19 :: kd) (er : hrs g y = hrs g x) : MkO h g pc ((F_141 56 (I3 x) (I3 y) h).bind fun q16 =>
  (F_5 15 19 0 0 q16.1 q16.2).bind fun q17 =>
  if 0 ≤ q17.1 then (some (q17.1, q17.2))
  else ((F_169 8 (I3 pc) q17.2).bind fun q18 => some (q18.1, q18.2))) (F_432 15 19 (I3 x) (I3 y) g) (hrs g x) kd := by
  obtain ⟨h1, r1, r2, r3⟩ := C_two56 h (I3 x) (I3 y)
  obtain ⟨p1, p2⟩ := par2 g (I3 x) (I3 y)
  have T2 := TK_par (TK_row (TK_rfl K) r3) p2
  have n2 := NF_par (NF_row nf r3) p2
  have ck : Ck (sm_wI (sm_wI (sm_wI (sm_wI g 69 0 (I3 x)) 69 1 (I3 y)) 67 3 2) 67 19 0) 15 19 0 0 (hrs g x) (hpl g x) := ck_15 (K1_c19 T2.k) (P := (show prR (sm_wI (sm_wI (sm_wI (sm_wI g 69 0 (I3 x)) 69 1 (I3 y)) 67 3 2) 67 19 0) [I3 x, I3 y] from p1)) (x := x) (y := y) (m := kd) x1 y1 ey (by show pre kd (hpl g x); rw [ex]; exact pre_rfl _) er 0 0
  have M := mkForm T2.k n2 (f := 15) (wh_TK wh T2) 19 0 0 r2 p1 (by decide) (by have := mn_10 K x1; omega) ck
  have R0 : F_432 15 19 (I3 x) (I3 y) g = F_429 15 19 0 0 (sm_wI (sm_wI (sm_wI g 69 0 (I3 x)) 69 1 (I3 y)) 67 3 2) := by
    show F_432_0 15 19 (I3 x) (I3 y) g = _
    unfold F_432_0
    rw [if_neg (h_m1 K x1), if_neg (h_m1 K y1), show stI g 69 24 0 (I3 x) = some (sm_wI g 69 0 (I3 x)) from stI_I (k := 0) (by decide) (by decide)]; simp only [obs]
    rw [show stI (sm_wI g 69 0 (I3 x)) 69 24 1 (I3 y) = some (sm_wI (sm_wI g 69 0 (I3 x)) 69 1 (I3 y)) from stI_I (k := 1) (by decide) (by decide)]; simp only [obs]
    rw [bind_id]
  rw [R0, r1]; simp only [obs]
  rcases M with ⟨z, h3, g3, m1, m2, m3, m4, m5, m6, m7⟩ | ⟨w', h3, h4, g4, w0, m1, m2, m3, m4, m5⟩
  · rw [show F_5 15 19 0 0 56 h1 = _ from m1]; simp only [obs]
    rw [if_pos (h_ge m6.k m3)]
    exact Or.inl ⟨z, h3, g3, rfl, m2, m3, m4, m5.trans ex, TK_trans T2 m6, m7⟩
  · rw [show F_5 15 19 0 0 56 h1 = _ from m1]; simp only [obs]
    rw [if_neg (Int32.not_le.mpr w0), m2]
    exact Or.inr ⟨8, h4, g4, rfl, m3, TK_trans T2 m4, m5⟩
theorem a433 (K : K1 h g) (S : SCO nm kd h g) (nf : NF h g) {y : Nat} (wh : g.1 67 106 = I3 pc) (y1 : y < nH g) (hy : hpl g y = kd) (hk : k < 20 + nC g) {v : Int32} {g2 : sm_H} (e : F_433 (I3 y) (I3 k) g = some (v, g2)) : agr SRq g g2 := by
  rcases passedAs K S nf wh y1 hy hk with ⟨z, h1, g1, a1, a2, a3, a4, a5, a6, a7⟩ | ⟨e', h1, g1, a1, a2, a3, a4⟩
  · rw [a2] at e; cases e; exact a6.a
  · rw [a2] at e; cases e; exact a3.a
theorem called (K : K1 h g) (S : SCO nm kd h g) (nf : NF h g) (wh : g.1 67 106 = I3 pc) {x d m : Nat} {l : List Int32} (x1 : x < nH g) (ex : hpl g x = l) (lm : l.length = m) (m6 : m ≤ 6) (d1 : d < 60) (k1 : k < 24) (g115 : g.1 115 d = I3 m) (g114 : g.1 114 d = I3 x) (g116 : ∀ i, i < m → g.1 116 (6 * d + i) = at0 l i) (st : STK h base m pt) (ok : ∀ i, i < m → pt i < nH g ∧ hpl g (pt i) = kd) (f125 : ∀ i, i < m → g.1 125 (20 * k + i) = I3 (pt i)) (rec : sm_H → Option (Int32 × sm_H)) :
    PO base h g pc (F_214_133 rec (I3 pc) (I3 base) (I3 x) (I3 m) 0 h) (F_463_30 (I3 k) (I3 d) 0 g) kd := by
  have h12 := K.1.2.1
  have kl : kL g l := by rw [← ex]; exact kL_h K x1
  have LP : ∀ r i, i + r = m → ∀ (f : Nat) (h1 g1 : sm_H) (p : Nat → Nat), r < f → TB base h g h1 g1 → NF h1 g1 → STK h1 base m p → (∀ j, j < m → p j < nH g1 ∧ hpl g1 (p j) = kd) → (∀ j, i ≤ j → p j = pt j) → (∀ j, j < i → hrs g1 (p j) = at0 l j ∧ g1.1 129 j = I3 (p j)) → PO base h g pc (lp (F_214_133B rec) f (I3 pc, I3 base, I3 x, I3 m, I3 i, h1)) (lp F_463_30B f (I3 k, I3 d, I3 i, g1)) kd := by
    intro r
    induction r with
    | zero =>
      intro i hi f h1 g1 p hf T n1 s1 ok1 pe pd
      have ei : i = m := by omega
      subst ei
      have e115 : ∀ g2, agr S127 g1 g2 → ldI g2 115 60 (I3 d) = some (I3 i) := fun g2 a => by rw [ldI_I d1 (by decide), a.1 115 d (by unfold S127; omega), T.a.1 115 d (by unfold SRa SRq SRb SRp SRh SRt; omega), g115]
      have CP2 : ∀ r j, j + r = i → ∀ (f : Nat) (g2 : sm_H), r < f → agr S127 g1 g2 → (∀ t, t < i → g2.1 129 t = I3 (p t)) → (∀ t, t < j → g2.1 127 t = I3 (p t)) → ∃ g3, lp F_463_92B f (I3 d, I3 j, g2) = F_434 (I3 x) (I3 i) g3 ∧ agr S127 g1 g3 ∧ ∀ t, t < i → g3.1 127 t = I3 (p t) := by
        intro r
        induction r with
        | zero =>
          intro j hj f g2 hf a2 b2' c2
          have ej : j = i := by omega
          subst ej
          refine ⟨g2, ?_, a2, c2⟩
          rw [lp_oK (by omega)]
          unfold F_463_92B
          rw [e115 g2 a2]; simp only [obs]
          rw [if_pos (by rw [I3_le (by omega) (by omega)]; omega), ldI_I d1 (by decide), a2.1 114 d (by unfold S127; omega), T.a.1 114 d (by unfold SRa SRq SRb SRp SRh SRt; omega), g114]; simp only [obs]
          cases F_434 (I3 x) (I3 j) g2 <;> rfl
        | succ r ih =>
          intro j hj f g2 hf a2 b2' c2
          rw [lp_s (s' := (I3 d, I3 (j + 1), sm_wI g2 127 j (I3 (p j)))) (by omega) (by
            unfold F_463_92B
            rw [e115 g2 a2]; simp only [obs]
            rw [if_neg (by rw [I3_le (by omega) (by omega)]; omega), ldI_I (by omega) (by decide), b2' j (by omega)]; simp only [obs]
            rw [stI_I (by omega) (by decide)]; simp only [obs]
            rw [show I3 j + 1 = I3 (j + 1) from I3_add j 1])]
          refine ih (j + 1) (by omega) (f - 1) _ (by omega) (agr_wI a2 (by unfold S127; omega)) (fun t ht => b2' t ht) (fun t ht => ?_)
          show (if t = j then I3 (p j) else g2.1 127 t) = _
          by_cases q : t = j
          · rw [if_pos q, q]
          · rw [if_neg q]; exact c2 t (by omega)
      obtain ⟨g3, q1, q2, q3⟩ := CP2 i 0 (by omega) 1000000 g1 (by omega) agr_rfl (fun t ht => (pd t ht).2) (fun t ht => by omega)
      have T3 : TB base h g h1 g3 := TB_127 T q2
      have T13 : TB base h1 g1 h1 g3 := TB_127 (TB_of (TK_rfl T.k)) q2
      have A := applied T3.k (SCO_TB S T3) (NF_127 n1 q2) (wh_TB wh T3) (x := x) (T3.nH x1) s1 (by rw [T3.hpl K x1, ex]; exact lm) (by omega) q3 (fun j hj => ⟨T13.nH (ok1 j hj).1, (T13.hpl T.k (ok1 j hj).1).trans (ok1 j hj).2, by rw [T3.hpl K x1, ex, T13.hrs T.k (ok1 j hj).1]; exact (pd j hj).1⟩)
      have CC : lp (F_214_133B rec) f (I3 pc, I3 base, I3 x, I3 i, I3 i, h1) = F_192 (I3 x) (I3 base) (I3 i) (I3 pc) h1 := by
        rw [lp_oK (by omega)]
        unfold F_214_133B
        rw [if_pos (by rw [I3_le (by omega) (by omega)]; omega)]
        simp only []
        cases F_192 (I3 x) (I3 base) (I3 i) (I3 pc) h1 <;> rfl
      have RR : lp F_463_30B f (I3 k, I3 d, I3 i, g1) = F_434 (I3 x) (I3 i) g3 := by
        rw [lp_oK (by omega)]
        unfold F_463_30B
        rw [e115 g1 agr_rfl]; simp only [obs]
        rw [if_pos (by rw [I3_le (by omega) (by omega)]; omega), show F_463_92 (I3 d) 0 g1 = F_434 (I3 x) (I3 i) g3 from q1]
        cases F_434 (I3 x) (I3 i) g3 <;> rfl
      rw [CC, RR]
      exact PO_tr T3 (PO_of A)
    | succ r ih =>
      intro i hi f h1 g1 p hf T n1 s1 ok1 pe pd
      obtain ⟨q, q1, q2, q3⟩ := kl i (by omega)
      have nc := T.nC
      have b1 : ldI g1 115 60 (I3 d) = some (I3 m) := by rw [ldI_I d1 (by decide), T.a.1 115 d (by unfold SRa SRq SRb SRp SRh SRt; omega), g115]
      have b2' : ldI g1 125 480 (20 * I3 k + I3 i) = some (I3 (p i)) := by
        rw [show (20 : Int32) * I3 k + I3 i = I3 (20 * k + i) by rw [I3_lit, I3_mul, I3_add], ldI_I (by omega) (by decide), T.a.1 125 _ (by unfold SRa SRq SRb SRp SRh SRt; omega), f125 i (by omega), pe i (Nat.le_refl _)]
      have b3 : ldI g1 116 360 (6 * I3 d + I3 i) = some (I3 q) := by
        rw [show (6 : Int32) * I3 d + I3 i = I3 (6 * d + i) by rw [I3_lit, I3_mul, I3_add], ldI_I (by omega) (by decide), T.a.1 116 _ (by unfold SRa SRq SRb SRp SRh SRt; omega), g116 i (by omega), q1]
      have b4 : F_46 (I3 x) (I3 i) h1 = some (I3 q, h1) := by
        have hx' : hpl g1 x = l := (T.hpl K x1).trans ex
        rw [C_pc T.k (T.nH x1) (by rw [hx']; omega), hx', q1]
      have bc : ∀ v h2, F_190 (I3 (base + i)) (I3 q) (I3 pc) h1 = some (v, h2) → F_214_133B rec (I3 pc, I3 base, I3 x, I3 m, I3 i, h1) = if v = 0 then some (.inr (-1, h2)) else some (.inl (I3 pc, I3 base, I3 x, I3 m, I3 (i + 1), h2)) := fun v h2 z => by
        unfold F_214_133B
        rw [if_neg (by rw [I3_le (by omega) (by omega)]; omega)]
        simp only []
        rw [b4]; simp only [obs]
        rw [show I3 base + I3 i = I3 (base + i) from I3_add base i, z]; simp only [obs]
        rw [show I3 i + 1 = I3 (i + 1) from I3_add i 1]
      have br : ∀ v g2, F_433 (I3 (p i)) (I3 q) g1 = some (v, g2) → F_463_30B (I3 k, I3 d, I3 i, g1) = if v = -1 then some (.inr (-1, g2)) else some (.inl (I3 k, I3 d, I3 (i + 1), sm_wI g2 129 i v)) := fun v g2 z => by
        unfold F_463_30B
        rw [b1]; simp only [obs]
        rw [if_neg (by rw [I3_le (by omega) (by omega)]; omega), b2']; simp only [obs]
        rw [b3]; simp only [obs]
        rw [z]; simp only [obs]
        rw [stI_I (by omega) (by decide)]; simp only [obs]
        rw [show I3 i + 1 = I3 (i + 1) from I3_add i 1]
      rcases pass1 T.k (SCO_TB S T) n1 (i := i) (pc := pc) (wh_TB wh T) s1 (by omega) (ok1 i (by omega)).1 (ok1 i (by omega)).2 (k := q) (by omega) with ⟨w, h2, g2, c1, c2, c3, c4, c5, c6, c7, c8⟩ | ⟨e, h2, g2, c1, c2, c3, c4⟩
      · have B1 := bc _ _ c1
        have B2 := br _ _ c2
        have a29 : agr S127 g2 (sm_wI g2 129 i (I3 w)) := agr_wI agr_rfl (by unfold S127; omega)
        rw [if_neg (by decide)] at B1
        rw [if_neg (h_m1 c7.k c3)] at B2
        rw [lp_s (by omega) B1, lp_s (by omega) B2]
        have T2 : TB base h1 g1 h2 (sm_wI g2 129 i (I3 w)) := TB_127 (TB_mono (Nat.le_add_right base i) c7) a29
        refine ih (i + 1) (by omega) (f - 1) _ _ (updN p i w) (by omega) (TB_trans T T2) (NF_127 c8 a29) c6 (fun j hj => ?_) (fun j hj => ?_) (fun j hj => ?_)
        · by_cases z : j = i
          · subst z
            rw [up_s]; exact ⟨c3, c5⟩
          · rw [up_o _ _ z]
            exact ⟨T2.nH (ok1 j hj).1, (T2.hpl T.k (ok1 j hj).1).trans (ok1 j hj).2⟩
        · rw [up_o _ _ (by omega)]; exact pe j (by omega)
        · by_cases z : j = i
          · subst z
            rw [up_s]; exact ⟨c4.trans q1.symm, if_pos rfl⟩
          · rw [up_o _ _ z]
            have ok2 := (ok1 j (by omega)).1
            refine ⟨(T2.hrs T.k ok2).trans (pd j (by omega)).1, ?_⟩
            show (if j = i then I3 w else g2.1 129 j) = _
            rw [if_neg z, (a433 T.k (SCO_TB S T) n1 (wh_TB wh T) (ok1 i (by omega)).1 (ok1 i (by omega)).2 (k := q) (by omega) c2).1 129 j (by unfold SRq SRb SRp SRh SRt; omega)]; exact (pd j (by omega)).2
      · have B1 := bc _ _ c1
        have B2 := br _ _ c2
        rw [if_pos rfl] at B1 B2
        rw [lp_e (by omega) B1, lp_e (by omega) B2]
        exact PO_fail (TB_trans T (TB_of c3)) c4 rfl rfl agr_rfl
  exact LP m 0 (by omega) 1000000 h g pt (by omega) (TB_of (TK_rfl K)) nf st ok (fun _ _ => rfl) (fun j hj => by omega)
end
