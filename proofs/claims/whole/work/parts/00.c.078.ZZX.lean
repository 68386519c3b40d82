theorem rowV {h g : sm_H} (K : K1 h g) {k : Nat} (k1 : 15 ≤ k) (k2 : k ≤ 17) {v : Val} (ok : okV g k v.1 v.2) : (v = (0, 0) ∧ tag v.1 = 0) ∨ ∃ t, t < nX g ∧ v = (I3 k, I6 t) ∧ g.1 96 t = I3 k ∧ szX g t = tn (g.1 97 t) ∧ g.1 97 t = I3 (tn (g.1 97 t)) ∧ tn (g.1 97 t) ≤ 100 ∧ tag v.1 = v.1 ∧ v.1 ≠ 0 ∧ ∀ i, i < tn (g.1 97 t) → okV g (k - 10) (g.1 98 (100 * t + i)) (g.2.1 99 (100 * t + i)) := by
  have h12 := K.1.2.1
  have wX := K.2.2.2.2.2.2.2.2.2.2.2.1
  rcases okV_7 K.1 (by omega) ok with ⟨z1, z2⟩ | ⟨q, z1, z2, z3, z4, z5, z6, z7⟩
  · exact Or.inl ⟨z1, z2⟩
  · right
    have qk : q = k := by
      by_cases e : q = k
      · exact e
      · rw [B_self1 K.1 (by omega) (by omega) q e z3] at z4; cases z4
    subst qk
    obtain ⟨t, t1, tn', t96⟩ : ∃ t, t < nX g ∧ v.2 = I6 t ∧ g.1 96 t = I3 q := by
      rcases z5 with w | w | w | w
      · omega
      · exact w.2
      · omega
      · omega
    have w := wX.2.1 t t1
    refine ⟨t, t1, Prod.ext z1 tn', t96, ?_, w.1.1, w.1.2, z6, z7, ?_⟩
    · unfold szX; rw [t96, tnI (by omega), if_pos (by omega)]
    · rcases w.2 with ⟨k', a1, a2, a3, a4⟩ | ⟨k', a1, a2, a3, a4⟩
      · rw [t96, I3_inj (by omega) (by omega)] at a3
        rw [← a3] at a4; exact a4
      · rw [t96, I3_inj (by omega) (by omega)] at a3; omega
theorem nX_1000 {h g : sm_H} (K : K1 h g) : nX g ≤ 1000 := K.2.2.2.2.2.2.2.2.2.2.2.1.1.2
theorem run_21 {rec : Int32 → Int32 → sm_H → Option (Int32 × sm_H)} {d fuel s x vp : Nat} {vs : List Val} {h0 g0 h g : sm_H} (IH : CallOK (d + 1) rec) (F : Fr d fuel s x vp vs h0 g0 h g 0 (s + 1)) (c63 : g.1 67 63 = 0) (c59 : g.1 67 59 = I3 (vp + vs.length)) (eh : sm_wI h0 49 8 (h0.1 49 8 + 1) = h) (lf : h0.1 49 8 < h0.1 49 7) (f : fm g0 x = 21) : Ends d fuel s vp (tn (hrs g0 x)) h0 g0 0 (F_82R rec (I3 x) (I3 d) h0) g := by
  have d1 := F.d1
  have v10 := F.v10
  have x500 := F.x500
  have vl := F.vl
  have vx := F.vx
  have fs := F.fs0
  rw [f] at fs
  have C := B82_21 (rec := rec) (x1 := I3 x) (x2 := I3 d) (by rw [I3_lit, I3_lt (by omega) (by decide)]; omega) lf eh (f ▸ F.f37)
  rw [C]
  have R := B370_21 F.c56 F.l103 F.l105 F.l305 F.l77 F.l78 F.l81 F.l81' (f ▸ F.l75)
  obtain ⟨ep, k, k1, k2, ea, -, -, r21, -⟩ := FS_21 fs
  obtain ⟨er, el⟩ := r21 rfl
  have h12 := F.m.k.1.2.1
  have x1000 := nX_1000 F.m.k
  have wX := F.m.k.2.2.2.2.2.2.2.2.2.2.2.1
  have cXq := F.m.k.2.2.2.2.2.2.2.2.2.2.2.2.1
  have cXhq := F.m.k.2.2.2.2.2.2.2.2.2.2.2.2.2.1
  have v1 : 0 < vs.length := by rw [vx, el]; exact Nat.zero_lt_succ _
  have ok := F.ty.2 0 v1
  rw [el, show at0 [g0.1 77 x] 0 = g0.1 77 x from rfl, ea, tnI (by omega)] at ok
  have k0 : F_351 0 g = _ := F.k351 (i := 0) v1
  have n0 : F_352 0 g = _ := F.k352 (i := 0) v1
  have c0 : F_77 (I3 d) 0 h = _ := F.c77 (i := 0) v1
  have t0 : F_78 (I3 d) 0 h = _ := F.c78 (i := 0) v1
  have C0 := B102_21 (x2 := I3 d) (F.f38) (f ▸ F.f37)
  rw [t0] at C0; simp only [obs] at C0
  unfold F_370_726 at R
  rw [F.l75, f] at R; simp only [obs] at R
  rw [bind_id1, show F_361 (I3 21) (g0.1 77 x) g = F_361_0 (I3 21) (g0.1 77 x) g from rfl] at R
  unfold F_361_0 at R
  rw [k0] at R; simp only [obs] at R
  rcases rowV F.m.k k1 k2 ok with ⟨z1, z2⟩ | ⟨t, t1, tv, t96, tsz, t97, t100, z6, z7, -⟩
  · rw [if_pos z2] at C0
    obtain ⟨u, h', f1, f2, f3⟩ := Fr_fail (rk := tn (hrs g0 x)) F 1
    rw [f2] at C0; simp only [obs] at C0
    have CC : F_82_367 rec (I3 x) (I3 d) h = some (1, h') := by unfold F_82_367; rw [bind_id, C0]
    rw [CC]
    refine Ends_step (step_enter (by omega) F.c64 F.c56 c63 ?_) f3
    rw [R, z1, if_pos (show ((0 : Int32), (0 : Int64)).1 = 0 from rfl), f1]; rfl
  · have tn2 : (atv vs 0).2 = I6 t := by rw [tv]
    rw [if_neg (by rw [z6]; exact z7), c0, tn2] at C0; simp only [obs] at C0
    have th := thX wX cXhq t1
    rw [C_thing wX cXq cXhq t1] at C0; simp only [obs] at C0
    rw [if_neg (not_not_intro th.1), C_thsz th, tsz] at C0; simp only [obs] at C0
    rw [if_neg z7, n0, tn2] at R; simp only [obs] at R
    rw [if_pos (by decide), I6_32, ldI_I (by omega) (by decide), t97] at R; simp only [obs] at R
    obtain ⟨u, h', e1, e2, e3⟩ := Fr_give (rk := tn (hrs g0 x)) F 5 (Int32.toInt64 (I3 (tn (g.1 97 t)))) (by
      rw [er, show tn (5 : Int32) = 5 from rfl]
      refine Or.inl ⟨by decide, by decide, rfl, ⟨fun z => by (cases z), fun z => by (cases z), fun z => by (cases z), fun z => by (cases z), fun _ => ?_⟩⟩
      rw [toI64, I3_toInt (by omega)]; omega)
    rw [show F_75 (Int32.toInt64 (I3 (tn (g.1 97 t)))) 0 h = some (0, h') from e2] at C0; simp only [obs] at C0
    have CC : F_82_367 rec (I3 x) (I3 d) h = some (0, h') := by unfold F_82_367; rw [bind_id, C0]
    rw [CC]
    refine Ends_step (step_enter (by omega) F.c64 F.c56 c63 ?_) e3
    rw [R, e1]; rfl
def rowL (g : sm_H) (t n : Nat) : List Val := (List.range n).map (fun i => (g.1 98 (100 * t + i), g.2.1 99 (100 * t + i)))
theorem rowL_len (g : sm_H) (t n : Nat) : (rowL g t n).length = n := by unfold rowL; rw [List.length_map, List.length_range]
theorem rowL_s (g : sm_H) (t n : Nat) : rowL g t (n + 1) = rowL g t n ++ [(g.1 98 (100 * t + n), g.2.1 99 (100 * t + n))] := by unfold rowL; rw [List.range_succ, List.map_append]; rfl
theorem atv_rowL {g : sm_H} {t n i : Nat} (h : i < n) : atv (rowL g t n) i = (g.1 98 (100 * t + i), g.2.1 99 (100 * t + i)) := by
  unfold rowL atv; rw [List.getD_eq_getElem?_getD, List.getElem?_map, List.getElem?_range h]; rfl
theorem run_10 {rec : Int32 → Int32 → sm_H → Option (Int32 × sm_H)} {d fuel s x vp : Nat} {vs : List Val} {h0 g0 h g : sm_H} (IH : CallOK (d + 1) rec) (F : Fr d fuel s x vp vs h0 g0 h g 0 (s + 1)) (c63 : g.1 67 63 = 0) (c59 : g.1 67 59 = I3 (vp + vs.length)) (eh : sm_wI h0 49 8 (h0.1 49 8 + 1) = h) (lf : h0.1 49 8 < h0.1 49 7) (f : fm g0 x = 10) : Ends d fuel s vp (tn (hrs g0 x)) h0 g0 0 (F_82R rec (I3 x) (I3 d) h0) g := by
  have d1 := F.d1
  have v10 := F.v10
  have x500 := F.x500
  have vl := F.vl
  have vx := F.vx
  have fs := F.fs0
  rw [f] at fs
  have C := B82_10 (rec := rec) (x1 := I3 x) (x2 := I3 d) (by rw [I3_lit, I3_lt (by omega) (by decide)]; omega) lf eh (f ▸ F.f37)
  rw [C]
  have R := B370_10 F.c56 F.l103 F.l105 F.l305 F.l77 F.l78 F.l81 F.l81' (f ▸ F.l75)
  obtain ⟨y, k, n, y1, ep, k1, k2, ea, hn, eb, ek, er, el⟩ := FS_10 fs
  have h12 := F.m.k.1.2.1
  have x1000 := nX_1000 F.m.k
  have ny := F.n10 y1
  have wX := F.m.k.2.2.2.2.2.2.2.2.2.2.2.1
  have cXq := F.m.k.2.2.2.2.2.2.2.2.2.2.2.2.1
  have cXhq := F.m.k.2.2.2.2.2.2.2.2.2.2.2.2.2.1
  have pl1 : (prt g0 x).length = 1 := by rw [ep]; rfl
  have e81 : g0.1 81 (24 * x) = I3 y := by have := F.at81 (k := 0) (by omega); rw [ep] at this; exact this
  have lx : vs.length = (hpl g0 y).length - n + 1 := by rw [vx, el, List.length_append, List.length_take]; simp only [List.length_cons, List.length_nil]; omega
  generalize hfi : (hpl g0 y).length - n = fi at *
  have ok := F.ty.2 fi (by omega)
  rw [el, at0_app2 (by rw [List.length_take]; omega), show fi - ((hpl g0 y).take fi).length = 0 by rw [List.length_take]; omega, show at0 [g0.1 77 x] 0 = g0.1 77 x from rfl, ea, tnI (by omega)] at ok
  have c0 := F.c77 (i := fi) (by omega)
  have t0 := F.c78 (i := fi) (by omega)
  have st0 := F.st fi (by omega)
  have main : ∀ (o t : Nat) (sz : Nat), (n = 0 ∨ (isTh h (131 + 3 * t) (132 + 3 * t) (133 + 3 * t) sz ∧ o = 131 + 3 * t ∧ t < nX g ∧ n = sz ∧ (∀ i, i < n → h.2.1 (132 + 3 * t) i = g.2.1 99 (100 * t + i) ∧ h.1 (133 + 3 * t) i = tag (g.1 98 (100 * t + i))) ∧ ∀ i, i < n → okV g (k - 10) (g.1 98 (100 * t + i)) (g.2.1 99 (100 * t + i)))) → t < 100000 → ∃ h1, F_80 (I3 d) 0 0 (I3 fi) h = some h1 ∧ ∃ h2 g' u, F_87_115 rec (I3 d) (I3 y) (I3 n) (I3 fi) o 0 h1 = rec (I3 y) (I3 (d + 1)) h2 ∧ F_366_90 (I3 y) (I3 n) (I3 d) (I3 (vp + fi)) (I3 t) g = some u ∧ Ends d fuel s vp (tn (hrs g0 y)) h0 g0 (0 + 1) (rec (I3 y) (I3 (d + 1)) h2) u := fun o t sz ht t100 => by
    obtain ⟨h1, a1, L1⟩ := C_lend (i := 0) (n := fi) (Ly_0 h (d + 1)) F.fr d1 (by omega) (by omega) (by simp only [List.length_nil]; omega)
    obtain ⟨g1, b1, P1⟩ := R_copy (i := 0) (n := fi) (Ph_0 c59) F.st (Nat.le_refl _) (by omega) (by simp only [List.length_nil]; omega)
    rw [List.nil_append] at L1 P1
    have s1 : (sub vs 0 fi).length = fi := sub_len (by omega)
    refine ⟨h1, a1, ?_⟩
    have CL : ∀ j, j ≤ n → ∃ h2, F_87_115 rec (I3 d) (I3 y) (I3 n) (I3 fi) o 0 h1 = lp (F_87_115B rec) (1000000 - j) (I3 d, I3 y, I3 n, I3 fi, o, I3 j, h2) ∧ Ly h h2 (d + 1) (sub vs 0 fi ++ rowL g t j) := by
      intro j
      induction j with
      | zero => intro _; exact ⟨h1, rfl, by rw [show rowL g t 0 = [] from rfl, List.append_nil]; exact L1⟩
      | succ j ih =>
        intro hj
        obtain ⟨h2, e1, L2⟩ := ih (by omega)
        rcases ht with z | ⟨th, ho, tX, nsz, cel, -⟩
        · omega
        have wl : (sub vs 0 fi ++ rowL g t j).length = fi + j := by rw [List.length_append, s1, rowL_len]
        obtain ⟨h3, a3, L3⟩ := C_lay1 L2 (by omega) (by omega) (g.1 98 (100 * t + j), g.2.1 99 (100 * t + j))
        rw [wl] at a3
        have F2 := Fr_Ly F L2
        have th2 := thX F2.m.k.2.2.2.2.2.2.2.2.2.2.2.1 F2.m.k.2.2.2.2.2.2.2.2.2.2.2.2.2.1 tX
        have szE : szX g t = sz := by
          have := (thX wX cXhq tX).2.2.2.2.1
          have w := th.2.2.2.2.1
          omega
        rw [szE] at th2
        have v1 : h2.2.1 (132 + 3 * t) j = g.2.1 99 (100 * t + j) := by rw [L2.a.2.1 _ _ (by unfold SL; omega)]; exact (cel j (by omega)).1
        have v2 : h2.1 (133 + 3 * t) j = tag (g.1 98 (100 * t + j)) := by rw [L2.a.1 _ _ (by unfold SL; omega)]; exact (cel j (by omega)).2
        refine ⟨h3, ?_, by rw [rowL_s, ← List.append_assoc]; exact L3⟩
        rw [e1, lp_s (n := 1000000 - j) (s' := (I3 d, I3 y, I3 n, I3 fi, o, I3 (j + 1), h3)) (by omega) ?_]
        · rw [show 1000000 - j - 1 = 1000000 - (j + 1) by omega]
        · subst ho
          unfold F_87_115B
          rw [if_neg (by rw [I3_le (by omega) (by omega)]; omega), if_neg (by rw [I3_lit, I3_le (by decide) (by omega)]; omega), if_neg (not_not_intro th2.1), C_thnum th2 (by omega), v1]; simp only [obs]
          rw [if_neg (not_not_intro th2.1), C_thtag th2 (by omega), v2]; simp only [obs]
          rw [show I3 d + 1 = I3 (d + 1) from I3_add d 1, I3_add, a3]; simp only [obs]
          rw [show I3 j + 1 = I3 (j + 1) from I3_add j 1]
    obtain ⟨h2, e1, L2⟩ := CL n (Nat.le_refl _)
    have RL : ∀ j, j ≤ n → ∃ g2, F_366_105 (I3 y) (I3 n) (I3 t) 0 g1 = lp F_366_105B (1000000 - j) (I3 y, I3 n, I3 t, I3 j, g2) ∧ Ph g g2 (vp + vs.length) (sub vs 0 fi ++ rowL g t j) := by
      intro j
      induction j with
      | zero => intro _; exact ⟨g1, rfl, by rw [show rowL g t 0 = [] from rfl, List.append_nil]; exact P1⟩
      | succ j ih =>
        intro hj
        obtain ⟨g2, e2, P2⟩ := ih (by omega)
        rcases ht with z | ⟨th, ho, tX, nsz, cel, -⟩
        · omega
        have wl : (sub vs 0 fi ++ rowL g t j).length = fi + j := by rw [List.length_append, s1, rowL_len]
        obtain ⟨g3, b3, P3⟩ := R_push P2 (by omega) (g.1 98 (100 * t + j), g.2.1 99 (100 * t + j))
        refine ⟨g3, ?_, by rw [rowL_s, ← List.append_assoc]; exact P3⟩
        rw [e2, lp_s (n := 1000000 - j) (s' := (I3 y, I3 n, I3 t, I3 (j + 1), g3)) (by omega) ?_]
        · rw [show 1000000 - j - 1 = 1000000 - (j + 1) by omega]
        · unfold F_366_105B
          rw [if_neg (by rw [I3_le (by omega) (by omega)]; omega), show (100 : Int32) * I3 t + I3 j = I3 (100 * t + j) by rw [I3_lit, I3_mul, I3_add], ldI_I (by omega) (by decide), P2.a.1 98 _ (by unfold SP; omega)]; simp only [obs]
          rw [ldJ_I (by omega) (by decide), P2.a.2.1 99 _ (by unfold SP; omega)]; simp only [obs]
          rw [b3]; simp only [obs]
          rw [show I3 j + 1 = I3 (j + 1) from I3_add j 1]
    obtain ⟨g2, e2, P2⟩ := RL n (Nat.le_refl _)
    have tw : tyV g (hpl g0 y) (sub vs 0 fi ++ rowL g t n) := by
      have z1 := tyV_sub F.ty (i := 0) (n := fi) (by omega)
      have z2 : tyV g ((hpl g0 y).drop fi) (rowL g t n) := by
        refine ⟨by rw [rowL_len, List.length_drop]; omega, fun i hi => ?_⟩
        rw [rowL_len] at hi
        rcases ht with z | ⟨th, ho, tX, nsz, cel, oke⟩
        · omega
        rw [atv_rowL hi, at0_drop, ek (fi + i) (by omega) (by omega), tnI (by omega)]
        exact oke i hi
      have z := tyV_app z1 z2
      have e3 : seg (hpl g0 x) 0 fi = (hpl g0 y).take fi := by
        rw [seg_take (by omega), el, List.take_append_of_le_length (by rw [List.length_take]; omega), List.take_take, Nat.min_self]
      rw [e3, List.take_append_drop] at z; exact z
    obtain ⟨u, f1, f2⟩ := tail2 IH F y1 (Nat.le_refl _) (by omega) L2 P2 tw
    refine ⟨h2, g2, u, ?_, ?_, f2⟩
    · rw [e1]
      have fin : ∀ (r : Option (Int32 × sm_H)), F_87_115B rec (I3 d, I3 y, I3 n, I3 fi, o, I3 n, h2) = r.map (fun q => .inr q) → lp (F_87_115B rec) (1000000 - n) (I3 d, I3 y, I3 n, I3 fi, o, I3 n, h2) = r := fun r z => by
        cases r with
        | none =>
          have := lp_n (n := 1000000 - n - 1) z
          rw [show 1000000 - n - 1 + 1 = 1000000 - n by omega] at this; exact this
        | some r => exact lp_e (by omega) z
      refine fin _ ?_
      unfold F_87_115B F_87_161
      rw [if_pos (by rw [I3_le (by omega) (by omega)]; omega), bind_id, show I3 d + 1 = I3 (d + 1) from I3_add d 1]
    · unfold F_366_90
      rw [F.l105]; simp only [obs]
      rw [show F_343 (I3 vp) (I3 (vp + fi)) g = some g1 from b1]; simp only [obs]
      rw [e2]
      refine lp_e (by omega) ?_
      unfold F_366_105B
      rw [if_pos (by rw [I3_le (by omega) (by omega)]; omega), f1]; rfl
  have C0 : ((F_87 rec (I3 x) (I3 d) h).bind fun q16 => some (q16.1, q16.2)) = (if tag (atv vs fi).1 = 0 then (if I3 n = 0 then (F_87_54 rec (I3 d) (I3 y) (I3 n) (I3 fi) h) else ((F_76 1 h).bind fun q20 => some (q20.1, q20.2))) else (F_87_54 rec (I3 d) (I3 y) (I3 n) (I3 fi) h)) := by
    rw [bind_id, show F_87 rec (I3 x) (I3 d) h = F_87_0 rec (I3 x) (I3 d) h from rfl]
    unfold F_87_0
    rw [show F_43 (I3 x) 0 h = some (I3 y, h) by have := F.f43 (k := 0) (by omega); rw [ep] at this; exact this]; simp only [obs]
    rw [F.f39, eb]; simp only [obs]
    rw [F.cmn y1]; simp only [obs]
    rw [I3_sub hn, hfi, t0]; simp only [obs]
  have R0 : F_370 g = (if (atv vs fi).1 = 0 then (if I3 n ≤ 0 then (F_366_52 (I3 y) (I3 n) (I3 d) (I3 (vp + fi)) g) else ((F_348 1 g).bind fun q19 => some q19)) else (F_366_52 (I3 y) (I3 n) (I3 d) (I3 (vp + fi)) g)) := by
    rw [R, e81, eb, bind_id1, show F_366 (I3 y) (I3 n) g = F_366_0 (I3 y) (I3 n) g from rfl]
    unfold F_366_0
    simp only [obs]
    rw [F.c56, show I3 (d + 1) - 1 = I3 d from I3_sub (a := d + 1) (b := 1) (by omega), F.l103]; simp only [obs]
    rw [F.l305]; simp only [obs]
    rw [F.l105]; simp only [obs]
    rw [show I3 vp + I3 vs.length - 1 = I3 (vp + fi) by rw [I3_add, lx]; exact I3_sub (a := vp + (fi + 1)) (b := 1) (by omega), ldI_I (by omega) (by decide), st0.1]; simp only [obs]
  have R52 : F_366_52 (I3 y) (I3 n) (I3 d) (I3 (vp + fi)) g = (if (atv vs fi).1 = 0 then (F_366_90 (I3 y) (I3 n) (I3 d) (I3 (vp + fi)) (Int64.toInt32 (atv vs fi).2) g) else ((ldI g 97 1000 (Int64.toInt32 (atv vs fi).2)).bind fun v11 => if v11 = I3 n then (F_366_90 (I3 y) (I3 n) (I3 d) (I3 (vp + fi)) (Int64.toInt32 (atv vs fi).2) g) else ((F_348 7 g).bind fun q12 => some q12))) := by
    unfold F_366_52
    rw [ldJ_I (by omega) (by decide), st0.2]; simp only [obs]
    rw [ldI_I (by omega) (by decide), st0.1]; simp only [obs]
  rw [C0]
  rcases rowV F.m.k k1 k2 ok with ⟨z1, z2⟩ | ⟨t, t1, tv, t96, tsz, t97, t100, z6, z7, oke⟩
  · rw [if_pos z2]
    rw [if_pos (by rw [z1])] at R0 R52
    by_cases n0 : n = 0
    · rw [if_pos (show I3 n = (0 : Int32) from congrArg I3 n0)]
      rw [if_pos (by rw [n0]; decide), R52, z1] at R0
      obtain ⟨h1, a1, h2, g', u, f1, f2, f3⟩ := main 26 0 0 (Or.inl n0) (by decide)
      have CC : F_87_54 rec (I3 d) (I3 y) (I3 n) (I3 fi) h = rec (I3 y) (I3 (d + 1)) h2 := by
        unfold F_87_54 F_87_81
        rw [t0]; simp only [obs]
        rw [if_pos z2, show F_147 (-1) h = some (26, h) from C_thing0 wX cXq]; simp only [obs]
        rw [if_neg (not_not_intro (th26 h).1), C_thsz (th26 h)]; simp only [obs]
        rw [if_pos (by rw [n0]), a1]; simp only [obs]
        exact f1
      rw [CC, er]
      refine Ends_step (step_enter (by omega) F.c64 F.c56 c63 ?_) f3
      rw [R0]; exact f2
    · rw [if_neg (show ¬ I3 n = (0 : Int32) by rw [I3_lit, I3_inj (by omega) (by decide)]; exact n0)]
      rw [if_neg (by rw [I3_lit, I3_le (by omega) (by decide)]; omega)] at R0
      obtain ⟨u, h', f1, f2, f3⟩ := Fr_fail (rk := tn (hrs g0 x)) F 1
      rw [f2]
      refine Ends_step (step_enter (by omega) F.c64 F.c56 c63 ?_) f3
      rw [R0, f1]; rfl
  · have tn2 : (atv vs fi).2 = I6 t := by rw [tv]
    rw [if_neg (by rw [z6]; exact z7)]
    rw [if_neg z7] at R0 R52
    rw [R52, tn2, I6_32, ldI_I (by omega) (by decide), t97] at R0; simp only [obs] at R0
    have th := thX wX cXhq t1
    have C54 : F_87_54 rec (I3 d) (I3 y) (I3 n) (I3 fi) h = (if I3 (szX g t) = I3 n then ((F_80 (I3 d) 0 0 (I3 fi) h).bind fun q11 => F_87_115 rec (I3 d) (I3 y) (I3 n) (I3 fi) (131 + 3 * t) 0 q11) else ((F_76 7 h).bind fun q12 => some (q12.1, q12.2))) := by
      unfold F_87_54 F_87_81
      rw [t0]; simp only [obs]
      rw [if_neg (by rw [z6]; exact z7), c0, tn2]; simp only [obs]
      rw [C_thing wX cXq cXhq t1]; simp only [obs]
      rw [if_neg (not_not_intro th.1), C_thsz th]; simp only [obs]
    rw [C54, tsz]
    by_cases e : tn (g.1 97 t) = n
    · rw [if_pos (by rw [e])] at R0 ⊢
      obtain ⟨h1, a1, h2, g', u, f1, f2, f3⟩ := main (131 + 3 * t) t (szX g t) (Or.inr ⟨th, rfl, t1, by omega, fun i hi => (cXhq.2.2 t t1).2.2.2.2.2.2.2.2 i (by omega), fun i hi => oke i (by omega)⟩) (by omega)
      rw [a1]; simp only [obs]
      rw [f1, er]
      refine Ends_step (step_enter (by omega) F.c64 F.c56 c63 ?_) f3
      rw [R0]; exact f2
    · have e' : ¬ I3 (tn (g.1 97 t)) = I3 n := by rw [I3_inj (by omega) (by omega)]; exact e
      rw [if_neg e'] at R0 ⊢
      obtain ⟨u, h', f1, f2, f3⟩ := Fr_fail (rk := tn (hrs g0 x)) F 7
      rw [f2]
      refine Ends_step (step_enter (by omega) F.c64 F.c56 c63 ?_) f3
      rw [R0, f1]; rfl
