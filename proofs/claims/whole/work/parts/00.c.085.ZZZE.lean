theorem NwC.thing {h h1 : sm_H} {t sz : Nat} (C : NwC h h1 t sz) (ht : t < 1000) : F_147 (I6 t) h1 = some (131 + 3 * t, h1) := by
  have l : sm_ldR G0 h1 22 (I3 t) = some (some (131 + 3 * t)) := by
    show (if sm_in (I3 t) 1000 then some (h1.2.2.1 22 (I3 t).toNatClampNeg) else none) = _
    rw [if_pos (sm_in_I3 (by omega) (by omega)), I3_clamp (by omega), C.e22]
  have e0 : (0 : Int64).toInt = 0 := rfl
  show F_147_0 (I6 t) h1 = _
  unfold F_147_0
  rw [if_neg (by rw [cmp_lt, I6_toInt (by omega), e0]; omega), C.e21, if_pos (by rw [cmp_lt, I6_toInt (by omega), toI64, I3_toInt (by omega)]; omega), I6_32, l]
  rfl
theorem at0_rep (k : Int32) : ∀ (n i : Nat), i < n → at0 (List.replicate n k) i = k := fun n i hi => by
  unfold at0; rw [List.getD_eq_getElem?_getD, List.getElem?_replicate, if_pos hi]; rfl
theorem run_11 {rec : Int32 → Int32 → sm_H → Option (Int32 × sm_H)} {d fuel s x vp : Nat} {vs : List Val} {h0 g0 h g : sm_H} (IH : CallOK (d + 1) rec) (F : Fr d fuel s x vp vs h0 g0 h g 0 (s + 1)) (c63 : g.1 67 63 = 0) (c59 : g.1 67 59 = I3 (vp + vs.length)) (eh : sm_wI h0 49 8 (h0.1 49 8 + 1) = h) (lf : h0.1 49 8 < h0.1 49 7) (f : fm g0 x = 11) : Ends d fuel s vp (tn (hrs g0 x)) h0 g0 0 (F_82R rec (I3 x) (I3 d) h0) g := by
  have d1 := F.d1
  have v10 := F.v10
  have x500 := F.x500
  have vl := F.vl
  have vx := F.vx
  have fs := F.fs0
  rw [f] at fs
  have C := B82_11 (rec := rec) (x1 := I3 x) (x2 := I3 d) (by rw [I3_lit, I3_lt (by omega) (by decide)]; omega) lf eh (f ▸ F.f37)
  rw [C]
  have R := B370_11 F.c56 F.l103 F.l105 F.l305 F.l77 F.l78 F.l81 F.l81' (f ▸ F.l75)
  obtain ⟨y, n, k, m, y1, ep, hn, eb, k1, k2, ey, er, el⟩ := FS_11 fs
  have K := F.m.k
  have h12 := K.1.2.1
  have x1000 := nX_1000 K
  have ny := F.n10 y1
  have wX := K.2.2.2.2.2.2.2.2.2.2.2.1
  have cXq := K.2.2.2.2.2.2.2.2.2.2.2.2.1
  have cXhq := K.2.2.2.2.2.2.2.2.2.2.2.2.2.1
  have pl1 : (prt g0 x).length = 1 := by rw [ep]; rfl
  have e81 : g0.1 81 (24 * x) = I3 y := by have := F.at81 (k := 0) (by omega); rw [ep] at this; exact this
  have ly : (hpl g0 y).length = m.length + 1 := by rw [ey, List.length_append]; rfl
  have lx : vs.length = m.length + n := by rw [vx, el, List.length_append, List.length_replicate]
  generalize hM : m.length = M at *
  have v10 := F.v10
  have ky : at0 (hpl g0 y) M = I3 k := by rw [ey, at0_app2 (by omega), hM, Nat.sub_self]; rfl
  have y1' : y < nH g := by rw [m_nH F.ar]; exact y1
  have oks : ∀ i, i < n → okV g (k - 10) (atv vs (M + i)).1 (atv vs (M + i)).2 := fun i hi => by
    have z := F.ty.2 (M + i) (by omega)
    rw [el, at0_app2 (by omega), hM, Nat.add_sub_cancel_left, at0_rep _ _ _ hi, tnI (by omega)] at z; exact z
  have CC : ∀ r, F_88 rec (I3 x) (I3 d) h = r → ((F_88 rec (I3 x) (I3 d) h).bind fun q17 => some (q17.1, q17.2)) = r := fun r e => by rw [bind_id, e]
  have C0 : F_88 rec (I3 x) (I3 d) h = F_88_0 rec (I3 x) (I3 d) h := rfl
  unfold F_88_0 at C0
  rw [show F_43 (I3 x) 0 h = some (I3 y, h) by have := F.f43 (k := 0) (by omega); rw [ep] at this; exact this] at C0; simp only [obs] at C0
  rw [F.cmn y1, ly] at C0; simp only [obs] at C0
  rw [F.f39, eb] at C0; simp only [obs] at C0
  rw [show I3 (M + 1) - 1 = I3 M from I3_sub (a := M + 1) (b := 1) (by omega)] at C0
  rw [bind_id1, e81, eb, show F_367 (I3 y) (I3 n) g = F_367_0 (I3 y) (I3 n) g from rfl] at R
  unfold F_367_0 at R
  simp only [obs] at R
  rw [F.c56, show I3 (d + 1) - 1 = I3 d from I3_sub (a := d + 1) (b := 1) (by omega), F.l103] at R; simp only [obs] at R
  rw [F.l305] at R; simp only [obs] at R
  by_cases q2 : nX g < 1000
  · obtain ⟨h1, a1, N1, z1⟩ := C_new1 (h := h) (t := nX g) (sz := n) q2 (by omega) (cXq.1.trans wX.1.1) cXhq.1
    obtain ⟨b0, g1, b1, N2, z2⟩ := R_new (k := k) (sz := n) wX.1 q2 (by omega)
    generalize ht : nX g = t at *
    rw [a1] at C0; simp only [obs] at C0
    rw [if_neg (I3_m1 (by omega)), I3_64 (by omega), N1.thing q2] at C0; simp only [obs] at C0
    rw [b0] at R; simp only [obs] at R
    rw [if_pos trivial, F.mn y1, ly] at R; simp only [obs] at R
    have hM0 : M < tM g (ty g y) := by rw [← hpl_len, m_hpl F.ar]; omega
    rw [show I3 (M + 1) - 1 = I3 M from I3_sub (a := M + 1) (b := 1) (by omega), R_place K.2.2.1 K.2.2.2.2.1 y1' hM0, show g.1 74 (10 * ty g y + M) = I3 k by
      rw [← ky, ← m_hpl F.ar]; exact (at0_lst (f := fun k => g.1 74 (10 * ty g y + k)) hM0).symm] at R; simp only [obs] at R
    rw [b1] at R; simp only [obs] at R
    have CL : ∀ j, j ≤ n → ∃ h2, F_88_66 rec (I3 d) (I3 y) (I3 M) (I3 n) (I3 t) (131 + 3 * t) 0 h1 = lp (F_88_66B rec) (1000000 - j) (I3 d, I3 y, I3 M, I3 n, I3 t, 131 + 3 * t, I3 j, h2) ∧ NwC h h2 t n ∧ ∀ i, i < j → h2.2.1 (132 + 3 * t) i = (atv vs (M + i)).2 ∧ h2.1 (133 + 3 * t) i = tag (atv vs (M + i)).1 := by
      intro j
      induction j with
      | zero => intro _; exact ⟨h1, rfl, N1, fun i hi => by omega⟩
      | succ j ih =>
        intro hj
        obtain ⟨h2, e, N, a⟩ := ih (by omega)
        have th := N.isTh (cXhq.1.trans (by rw [ht])) (by omega) q2
        refine ⟨_, ?_, N.put (i := j) (atv vs (M + j)).2 (tag (atv vs (M + j)).1), fun i hi => ?_⟩
        · rw [e, lp_s (n := 1000000 - j) (s' := (I3 d, I3 y, I3 M, I3 n, I3 t, 131 + 3 * t, I3 (j + 1), sm_wI (sm_wJ h2 (132 + 3 * t) j (atv vs (M + j)).2) (133 + 3 * t) j (tag (atv vs (M + j)).1))) (by omega) ?_]
          · rw [show 1000000 - j - 1 = 1000000 - (j + 1) by omega]
          · have f1 := (F.fr (M + j) (by omega)).1
            have f2 := (F.fr (M + j) (by omega)).2
            unfold F_88_66B
            rw [if_neg (by rw [I3_le (by omega) (by omega)]; omega), if_neg (by rw [I3_lit, I3_le (by decide) (by omega)]; omega), I3_add, C_num (by omega) (by omega), N.a.2.1 50 _ (by omega), f1]; simp only [obs]
            rw [C_tg (by omega) (by omega), N.a.1 51 _ (by omega), f2]; simp only [obs]
            rw [if_neg (not_not_intro th.1), C_thchg th (by omega)]; simp only [obs]
            rw [show I3 j + 1 = I3 (j + 1) from I3_add j 1]
        · rw [wI_1, wJ_rd, wI_rd, show (sm_wJ h2 (132 + 3 * t) j (atv vs (M + j)).2).1 = h2.1 from rfl]
          by_cases q : i = j
          · rw [if_pos ⟨rfl, q⟩, if_pos ⟨rfl, q⟩, q]; exact ⟨rfl, rfl⟩
          · rw [if_neg (fun z => q z.2), if_neg (fun z => q z.2)]; exact a i (by omega)
    have RL : ∀ j, j ≤ n → ∃ g2, F_367_54 (I3 y) (I3 n) (I3 d) (I3 vs.length) (I3 k) (I3 t) 0 g1 = lp F_367_54B (1000000 - j) (I3 y, I3 n, I3 d, I3 vs.length, I3 k, I3 t, I3 j, g2) ∧ NwR g g2 t k n ∧ ∀ i, i < j → g2.1 98 (100 * t + i) = (atv vs (M + i)).1 ∧ g2.2.1 99 (100 * t + i) = (atv vs (M + i)).2 := by
      intro j
      induction j with
      | zero => intro _; exact ⟨g1, rfl, N2, fun i hi => by omega⟩
      | succ j ih =>
        intro hj
        obtain ⟨g2, e, N, a⟩ := ih (by omega)
        refine ⟨_, ?_, N.put (i := j) (by omega) (atv vs (M + j)), fun i hi => ?_⟩
        · rw [e, lp_s (n := 1000000 - j) (s' := (I3 y, I3 n, I3 d, I3 vs.length, I3 k, I3 t, I3 (j + 1), sm_wJ (sm_wI g2 98 (100 * t + j) (atv vs (M + j)).1) 99 (100 * t + j) (atv vs (M + j)).2)) (by omega) ?_]
          · rw [show 1000000 - j - 1 = 1000000 - (j + 1) by omega]
          · have f1 := (F.st (M + j) (by omega)).1
            have f2 := (F.st (M + j) (by omega)).2
            have e105 : ldI g2 105 100 (I3 d) = some (I3 vp) := by rw [ldI_I d1 (by decide), N.a.1 105 d (by omega), F.c105]
            have ix : I3 vp + I3 vs.length - I3 n + I3 j = I3 (vp + (M + j)) := by
              rw [I3_add, I3_sub (by omega), I3_add]; congr 1; omega
            unfold F_367_54B
            rw [if_neg (by rw [I3_le (by omega) (by omega)]; omega), e105]; simp only [obs]
            rw [ix, ldI_I (by omega) (by decide), N.a.1 108 _ (by omega), f1]; simp only [obs]
            rw [show (100 : Int32) * I3 t + I3 j = I3 (100 * t + j) by rw [I3_lit, I3_mul, I3_add], stI_I (by omega) (by decide)]; simp only [obs]
            rw [show ldI (sm_wI g2 98 (100 * t + j) (atv vs (M + j)).1) 105 100 (I3 d) = some (I3 vp) by rw [← e105, ldI_I d1 (by decide), ldI_I d1 (by decide)]; rfl]; simp only [obs]
            rw [ix, ldJ_I (by omega) (by decide), show (sm_wI g2 98 (100 * t + j) (atv vs (M + j)).1).2.1 109 (vp + (M + j)) = g2.2.1 109 (vp + (M + j)) from rfl, N.a.2.1 109 _ (by omega), f2]; simp only [obs]
            rw [stJ_I (by omega) (by decide)]; simp only [obs]
            rw [show I3 j + 1 = I3 (j + 1) from I3_add j 1]
        · show (if 100 * t + i = 100 * t + j then (atv vs (M + j)).1 else g2.1 98 (100 * t + i)) = _ ∧ (if 100 * t + i = 100 * t + j then (atv vs (M + j)).2 else g2.2.1 99 (100 * t + i)) = _
          by_cases q : i = j
          · rw [if_pos (by omega), if_pos (by omega), q]; exact ⟨rfl, rfl⟩
          · rw [if_neg (by omega), if_neg (by omega)]; exact a i (by omega)
    obtain ⟨h2, c1, N3, c2⟩ := CL n (Nat.le_refl _)
    obtain ⟨g2, r1, N4, r2⟩ := RL n (Nat.le_refl _)
    have es : n = if k < 20 then n else 24 := by rw [if_pos (by omega)]
    obtain ⟨K', w1, w2, w3, w4⟩ := T_new K (by omega) k1 (by omega) (show n ≤ 100 by omega) (show n ≤ 100 by omega) (ht ▸ N3) (ht ▸ N4) es (fun i hi => by
      rw [ht, (c2 i hi).1, (c2 i hi).2, (r2 i hi).1, (r2 i hi).2]; exact ⟨rfl, rfl⟩) (Or.inl ⟨k2, fun i hi => by rw [ht, (r2 i hi).1, (r2 i hi).2]; exact oks i hi⟩)
    have F2 := Fr_th F K' w1 w2 w3
    rw [ht] at w4
    have nC2 : nC g2 = nC g := by show tn _ = tn _; rw [w2.1 67 6 (by unfold SRx; omega)]
    have okt : okV g2 k (I3 k) (I6 t) := okV_new K' k1 (by omega) (Or.inl k2) (by omega) N4.e96
    have c59' : g2.1 67 59 = I3 (vp + vs.length) := (w2.1 67 59 (by unfold SRx; omega)).trans c59
    obtain ⟨h3, l1, L1⟩ := C_lend (i := 0) (n := M) (Ly_0 h2 (d + 1)) F2.fr d1 (by omega) (by omega) (by simp only [List.length_nil]; omega)
    obtain ⟨g3, p1, P1⟩ := R_copy (i := 0) (n := M) (Ph_0 c59') F2.st (Nat.le_refl _) (by omega) (by simp only [List.length_nil]; omega)
    rw [List.nil_append] at L1 P1
    have s1 : (sub vs 0 M).length = M := sub_len (by omega)
    obtain ⟨h4, l2, L2⟩ := C_lay1 L1 (by omega) (by omega) (I3 k, I6 t)
    obtain ⟨g4, p2, P2⟩ := R_push P1 (by omega) (I3 k, I6 t)
    rw [s1, tag_I (by omega) (by omega)] at l2
    have tw : tyV g2 (hpl g0 y) (sub vs 0 M ++ [(I3 k, I6 t)]) := by
      have z := tyV_app (tyV_sub F2.ty (i := 0) (n := M) (by omega)) (tyV_1 (k := I3 k) (v := (I3 k, I6 t)) (by rw [tnI (by omega)]; exact okt))
      have e3 : seg (hpl g0 x) 0 M = m := by
        rw [seg_take (by omega), el, List.take_append_of_le_length (by omega), ← hM, List.take_length]
      rw [e3, ← ey] at z; exact z
    obtain ⟨u, f1, f2⟩ := tail2 IH F2 y1 (Nat.le_refl _) (by omega) L2 P2 tw
    have F3 := Fr_Ly F2 L1
    have Cfin : F_88 rec (I3 x) (I3 d) h = rec (I3 y) (I3 (d + 1)) h4 := by
      rw [C0, c1]
      have fin : ∀ (r : Option (Int32 × sm_H)), F_88_66B rec (I3 d, I3 y, I3 M, I3 n, I3 t, 131 + 3 * t, I3 n, h2) = r.map (fun q => .inr q) → lp (F_88_66B rec) (1000000 - n) (I3 d, I3 y, I3 M, I3 n, I3 t, 131 + 3 * t, I3 n, h2) = r := fun r z => by
        cases r with
        | none =>
          have := lp_n (n := 1000000 - n - 1) z
          rw [show 1000000 - n - 1 + 1 = 1000000 - n by omega] at this; exact this
        | some r => exact lp_e (by omega) z
      refine fin _ ?_
      unfold F_88_66B F_88_113
      rw [if_pos (by rw [I3_le (by omega) (by omega)]; omega), show F_80 (I3 d) 0 0 (I3 M) h2 = some h3 from l1]; simp only [obs]
      have hM' : M < tM g2 (ty g2 y) := by rw [← hpl_len, m_hpl F2.ar]; omega
      rw [C_place F3.m.k.2.2.1 F3.m.k.2.2.2.2.1 F3.m.k.2.2.2.2.2.1 (by rw [m_nH F2.ar]; exact y1) hM', show g2.1 74 (10 * ty g2 y + M) = I3 k by
        rw [← ky, ← m_hpl F2.ar]; exact (at0_lst (f := fun k => g2.1 74 (10 * ty g2 y + k)) hM').symm]; simp only [obs]
      rw [show I3 d + 1 = I3 (d + 1) from I3_add d 1, I3_64 (by omega), l2]; simp only [obs]
      rw [bind_id]
    rw [CC _ Cfin, er]
    refine Ends_step (step_enter (by omega) F.c64 F.c56 c63 ?_) f2
    rw [R, r1]
    refine lp_e (by omega) ?_
    unfold F_367_54B
    rw [if_pos (by rw [I3_le (by omega) (by omega)]; omega), F2.l105]; simp only [obs]
    rw [show I3 vp + I3 vs.length - I3 n = I3 (vp + M) by rw [I3_add, I3_sub (by omega)]; congr 1; omega, show F_343 (I3 vp) (I3 (vp + M)) g2 = some g3 from p1]; simp only [obs]
    rw [I3_64 (by omega), show F_342 (I3 k) (I6 t) g3 = some g4 from p2]; simp only [obs]
    rw [f1]; simp only [obs]
  · have q3 : nX g = 1000 := by omega
    rw [C_new0 (by omega) (by rw [cXq.1, wX.1.1]; show I3 (nX g) = _; rw [q3])] at C0; simp only [obs] at C0
    rw [R_new0 wX.1 q3] at R; simp only [obs] at R
    rw [if_pos trivial] at C0
    rw [if_neg (by decide)] at R
    rw [CC _ C0]
    exact Ends_step (step_enter (by omega) F.c64 F.c56 c63 R) (Fr_full F)
