theorem run_9 {rec : Int32 → Int32 → sm_H → Option (Int32 × sm_H)} {d fuel s x vp : Nat} {vs : List Val} {h0 g0 h g : sm_H} (IH : CallOK (d + 1) rec) (F : Fr d fuel s x vp vs h0 g0 h g 0 (s + 1)) (c63 : g.1 67 63 = 0) (c59 : g.1 67 59 = I3 (vp + vs.length)) (eh : sm_wI h0 49 8 (h0.1 49 8 + 1) = h) (lf : h0.1 49 8 < h0.1 49 7) (f : fm g0 x = 9) : Ends d fuel s vp (tn (hrs g0 x)) h0 g0 0 (F_82R rec (I3 x) (I3 d) h0) g := by
  have d1 := F.d1
  have v10 := F.v10
  have x500 := F.x500
  have vl := F.vl
  have vx := F.vx
  have fs := F.fs0
  rw [f] at fs
  have C := B82_9 (rec := rec) (x1 := I3 x) (x2 := I3 d) (by rw [I3_lit, I3_lt (by omega) (by decide)]; omega) lf eh (f ▸ F.f37)
  rw [C]
  have R := B370_9 F.c56 F.l103 F.l105 F.l305 F.l77 F.l78 F.l81 F.l81' (f ▸ F.l75)
  obtain ⟨y, z, y1, z1, ep, eq, er, el⟩ := FS_9 fs
  have pl2 : (prt g0 x).length = 2 := by rw [ep]; rfl
  have q0 : g0.1 81 (24 * x) = I3 y := by have := F.at81 (k := 0) (by omega); rw [ep] at this; exact this
  have q1 : g0.1 81 (24 * x + 1) = I3 z := by have := F.at81 (k := 1) (by omega); rw [ep] at this; exact this
  obtain ⟨⟨h', a1, L⟩, g', b1, P⟩ := Fr_all F c59 y1 (by rw [vx, el]; exact Nat.le_refl _)
  have M : ∃ u, F_350 (I3 y) 1 g' = some u ∧ Ends d fuel s vp (tn (hrs g0 x)) h0 g0 (0 + 1) ((rec (I3 y) (I3 (d + 1)) h').bind fun q3 => if q3.1 = 0 then ((F_79 (I3 d + 1) 0 (q3.2.2.1 49 9) (q3.2.1 49 10) q3.2).bind fun q4 => (F_43 (I3 x) 1 q4).bind fun q5 => (rec q5.1 (I3 d + 1) q5.2).bind fun q6 => some (q6.1, q6.2)) else (some (q3.1, q3.2))) u := by
    refine midG IH F 1 y1 (Nat.le_refl _) (by omega) L P (tyV_first F.ty (by rw [el]; exact pre_rfl _)) (rk := tn (hrs g0 x)) (fun o h1 o1 o2 => if_neg (I3_ne0 (by omega) o2)) (fun out h1 g1 p1 s1 o1 G t59 t63 t62 t104 r kp _ => ?_)
    rcases (show out = 0 ∨ out = 1 by omega) with rfl | rfl
    · have G' := Fr_63 G
      rw [if_pos (show I3 0 = (0 : Int32) from rfl)]
      obtain ⟨h2, a2, L2⟩ := C_lay1 (Ly_0 h1 (d + 1)) (by omega) (by decide) (g1.1 67 60, g1.2.1 67 61)
      rw [List.nil_append] at L2
      have G2 := Fr_Ly G L2
      have CC : ((F_79 (I3 d + 1) 0 (h1.2.1 49 9) (h1.1 49 10) h1).bind fun q4 => (F_43 (I3 x) 1 q4).bind fun q5 => (rec q5.1 (I3 d + 1) q5.2).bind fun q6 => some (q6.1, q6.2)) = rec (I3 z) (I3 (d + 1)) h2 := by
        rw [r.1, r.2.1, show I3 d + 1 = I3 (d + 1) from I3_add d 1, show F_79 (I3 (d + 1)) 0 (g1.2.1 67 61) (tag (g1.1 67 60)) h1 = some h2 from a2]; simp only [obs]
        rw [show F_43 (I3 x) 1 h2 = some (I3 z, h2) by have := G2.f43 (k := 1) (by omega); rw [ep] at this; exact this]; simp only [obs]
        rw [bind_id]
      show Ends d fuel s vp (tn (hrs g0 x)) h0 g0 p1 ((F_79 (I3 d + 1) 0 (h1.2.1 49 9) (h1.1 49 10) h1).bind fun q4 => (F_43 (I3 x) 1 q4).bind fun q5 => (rec q5.1 (I3 d + 1) q5.2).bind fun q6 => some (q6.1, q6.2)) g1
      rw [CC, er]
      have g1r := go_1 G t62 t104 (X := fun h27 => (F_307 (g0.1 81 (24 * x)) h27).bind fun q52 => if q52.1 = 0 then F_377_458 (g0.1 81 (24 * x + 1)) q52.2 else (F_342 (g1.1 67 60) (g1.2.1 67 61) q52.2).bind fun q53 => F_377_458 (g0.1 81 (24 * x + 1)) q53) (fun h27 _ v45 hv => by rw [← hv, f, if_neg (by decide), if_neg (by decide), if_pos (by decide)])
      rw [q0, q1, G'.rs y1] at g1r; simp only [obs] at g1r
      by_cases q : hrs g0 y = 0
      · rw [if_pos q] at eq g1r
        obtain ⟨u', e1', e2'⟩ := tail2 IH G' z1 (Nat.le_refl _) (by omega) (Ly_nil L2) (Ph_0 (show (sm_wI g1 67 63 0).1 67 59 = _ from t59)) (by rw [eq]; exact tyV_0 _)
        refine Ends_step (step_goOn (by omega) G.c64 G.c56 t63 ?_) e2'
        rw [g1r]
        unfold F_377_458
        rw [e1']; rfl
      · rw [if_neg q] at eq g1r
        obtain ⟨g2, b2, P2⟩ := R_push (Ph_0 (show (sm_wI g1 67 63 0).1 67 59 = _ from t59)) (by simp only [List.length_nil]; omega) (g1.1 67 60, g1.2.1 67 61)
        rw [List.nil_append] at P2
        obtain ⟨u', e1', e2'⟩ := tail2 IH G' z1 (Nat.le_refl _) (by omega) L2 P2 (by rw [eq]; exact tyV_1 (okV_grow G.m.k.1 (grow_N (agr_wI agr_rfl (by unfold SN; omega))) (r.2.2.1 rfl)))
        refine Ends_step (step_goOn (by omega) G.c64 G.c56 t63 ?_) e2'
        rw [g1r, b2]; simp only [obs]
        unfold F_377_458
        rw [e1']; rfl
    · rw [if_neg (I3_ne0 (o := 1) (by omega) (by omega))]
      exact thru G (Nat.le_refl 1) t63 t62 ⟨r.1, r.2.1, fun z => by (cases z), r.2.2.2⟩ (fun z => by cases z) (fun _ => Or.inr (by omega))
  obtain ⟨u, e1, e2⟩ := M
  refine Ends_step (step_enter (by omega) F.c64 F.c56 c63 ?_) ?_ (u' := u)
  · rw [R, q0]
    unfold F_370_514
    rw [I3_add, vx, el, b1]; simp only [obs]
    rw [e1]; rfl
  · have CC : ((F_86 rec (I3 x) (I3 d) h).bind fun q15 => some (q15.1, q15.2)) = ((rec (I3 y) (I3 (d + 1)) h').bind fun q3 => if q3.1 = 0 then ((F_79 (I3 d + 1) 0 (q3.2.2.1 49 9) (q3.2.1 49 10) q3.2).bind fun q4 => (F_43 (I3 x) 1 q4).bind fun q5 => (rec q5.1 (I3 d + 1) q5.2).bind fun q6 => some (q6.1, q6.2)) else (some (q3.1, q3.2))) := by
      rw [bind_id, show F_86 rec (I3 x) (I3 d) h = F_86_0 rec (I3 x) (I3 d) h from rfl]
      unfold F_86_0
      rw [show F_43 (I3 x) 0 h = some (I3 y, h) by have := F.f43 (k := 0) (by omega); rw [ep] at this; exact this]; simp only [obs]
      rw [a1]; simp only [obs]
      rw [show I3 d + 1 = I3 (d + 1) from I3_add d 1]
    rw [CC]; exact e2
theorem gone_0 {r : Int32} (h : r = 0) : gone r = 0 := by unfold gone; rw [if_pos h]
theorem gone_n {r : Int32} (h : ¬ r = 0) : gone r = 1 := by unfold gone; rw [if_neg h]
theorem lay_given {d fuel s0 x vp p s : Nat} {vs : List Val} {h0 g0 h g : sm_H} (F : Fr d fuel s0 x vp vs h0 g0 h g p s) (c59 : g.1 67 59 = I3 (vp + vs.length)) {n z i k : Nat} (z1 : z < nH g0) (hn : n ≤ vs.length) (hk : i + k ≤ vs.length) (kl : n + gone (hrs g0 z) + k ≤ 10) (v : Val) (h9 : h.2.1 49 9 = v.2) (h10 : h.1 49 10 = tag v.1) :
    ∃ h1 h2 ws, F_80 (I3 d) 0 0 (I3 n) h = some h1 ∧ (if hrs g0 z = 0 then h2 = h1 else F_79 (I3 d + 1) (I3 n) (h1.2.1 49 9) (h1.1 49 10) h1 = some h2) ∧ Ly h h2 (d + 1) ws ∧ ws = sub vs 0 n ++ (if hrs g0 z = 0 then [] else [v]) ∧ ws.length = n + gone (hrs g0 z) ∧
      (∃ h3, F_80 (I3 d) (I3 i) (I3 (n + gone (hrs g0 z))) (I3 k) h2 = some h3 ∧ Ly h h3 (d + 1) (ws ++ sub vs i k)) ∧ ∃ g1 g2, F_343 (I3 vp) (I3 (vp + n)) g = some g1 ∧ Ph g g1 (vp + vs.length) (sub vs 0 n) ∧ (if hrs g0 z = 0 then g2 = g1 else F_342 v.1 v.2 g1 = some g2) ∧ Ph g g2 (vp + vs.length) ws ∧ ∃ g3, F_343 (I3 (vp + i)) (I3 (vp + i + k)) g2 = some g3 ∧ Ph g g3 (vp + vs.length) (ws ++ sub vs i k) := by
  have d1 := F.d1
  have v10 := F.v10
  have vl := F.vl
  have gv := gone_1 (hrs g0 z)
  obtain ⟨h1, a1, L1⟩ := C_lend (i := 0) (n := n) (Ly_0 h (d + 1)) F.fr d1 (by omega) (by omega) (by simp only [List.length_nil]; omega)
  obtain ⟨g1, b1, P1⟩ := R_copy (i := 0) (n := n) (Ph_0 c59) F.st (Nat.le_refl _) (by omega) (by simp only [List.length_nil]; omega)
  rw [List.nil_append] at L1 P1
  have s1 : (sub vs 0 n).length = n := sub_len (by omega)
  by_cases q : hrs g0 z = 0
  · rw [gone_0 q]
    obtain ⟨h3, a3, L3⟩ := C_lend (i := i) (n := k) L1 F.fr d1 (by omega) hk (by omega)
    obtain ⟨g3, b3, P3⟩ := R_copy (i := i) (n := k) P1 F.st (Nat.le_refl _) hk (by omega)
    rw [s1] at a3
    refine ⟨h1, h1, sub vs 0 n, a1, by rw [if_pos q], L1, by rw [if_pos q, List.append_nil], by rw [s1]; rfl, ⟨h3, a3, L3⟩, g1, g1, b1, P1, ?_, P1, g3, b3, P3⟩
    rw [if_pos q]
  · rw [gone_n q]
    obtain ⟨h2, a2, L2⟩ := C_lay1 L1 (by omega) (by omega) v
    obtain ⟨g2, b2, P2⟩ := R_push P1 (by omega) v
    have l2 : (sub vs 0 n ++ [v]).length = n + 1 := by rw [List.length_append, s1]; rfl
    obtain ⟨h3, a3, L3⟩ := C_lend (i := i) (n := k) L2 F.fr d1 (by omega) hk (by omega)
    obtain ⟨g3, b3, P3⟩ := R_copy (i := i) (n := k) P2 F.st (Nat.le_refl _) hk (by omega)
    rw [l2] at a3
    rw [s1] at a2
    refine ⟨h1, h2, sub vs 0 n ++ [v], a1, ?_, L2, by rw [if_neg q], l2, ⟨h3, a3, L3⟩, g1, g2, b1, P1, ?_, P2, g3, b3, P3⟩
    · rw [if_neg q, show I3 d + 1 = I3 (d + 1) from I3_add d 1, L1.a.2.1 49 9 (by unfold SL; omega), L1.a.1 49 10 (by unfold SL; omega), h9, h10]; exact a2
    · rw [if_neg q]; exact b2
theorem run_giv {rec : Int32 → Int32 → sm_H → Option (Int32 × sm_H)} {d fuel s x vp : Nat} {vs : List Val} {h0 g0 h g : sm_H} (IH : CallOK (d + 1) rec) (F : Fr d fuel s x vp vs h0 g0 h g 0 (s + 1)) (c63 : g.1 67 63 = 0) (c59 : g.1 67 59 = I3 (vp + vs.length)) {y z n i : Nat} (fd : fm g0 x = 7 ∨ fm g0 x = 8) (hi : i = if fm g0 x = 8 then n else n + (hpl g0 z).length) (y1 : y < nH g0) (z1 : z < nH g0) (ep : prt g0 x = [I3 y, I3 z]) (ea : g0.1 77 x = I3 n) (hn : n + gone (hrs g0 z) ≤ (hpl g0 y).length) (kd : hrs g0 z ≠ 0 → at0 (hpl g0 y) n = hrs g0 z) (er : hrs g0 x = hrs g0 y)
    (vn : n + (hpl g0 z).length ≤ vs.length) (vi : i + ((hpl g0 y).length - n - gone (hrs g0 z)) = vs.length) (tz : tyV g (hpl g0 z) (sub vs n (hpl g0 z).length)) (ta : seg (hpl g0 x) 0 n = (hpl g0 y).take n) (tb : (hpl g0 x).drop i = (hpl g0 y).drop (n + gone (hrs g0 z)))
    (R : F_370 g = ((F_305 (I3 z) g).bind fun q50 => (F_343 (I3 vp + I3 n) (I3 vp + I3 n + q50.1) q50.2).bind fun q51 => (F_350 (I3 z) 1 q51).bind fun q52 => some q52)) : Ends d fuel s vp (tn (hrs g0 x)) h0 g0 0 (F_82_199 rec (I3 x) (I3 d) h) g := by
  have d1 := F.d1
  have v10 := F.v10
  have x500 := F.x500
  have vl := F.vl
  have vx := F.vx
  have ny := F.n10 y1
  have nz := F.n10 z1
  have f38 : fm g0 x ≤ 38 := by omega
  have pl2 : (prt g0 x).length = 2 := by rw [ep]; rfl
  have q0 : g0.1 81 (24 * x) = I3 y := by have := F.at81 (k := 0) (by omega); rw [ep] at this; exact this
  have q1 : g0.1 81 (24 * x + 1) = I3 z := by have := F.at81 (k := 1) (by omega); rw [ep] at this; exact this
  obtain ⟨h', a1, L⟩ := C_lend (i := n) (n := (hpl g0 z).length) (Ly_0 h (d + 1)) F.fr d1 (by omega) vn (by simp only [List.length_nil]; omega)
  obtain ⟨g', b1, P⟩ := R_copy (i := n) (n := (hpl g0 z).length) (Ph_0 c59) F.st (Nat.le_refl _) vn (by simp only [List.length_nil]; omega)
  rw [List.nil_append] at L P
  have F1 := Fr_Ly F L
  have M : ∃ u, F_350 (I3 z) 1 g' = some u ∧ Ends d fuel s vp (tn (hrs g0 x)) h0 g0 (0 + 1) ((rec (I3 z) (I3 (d + 1)) h').bind fun q12 => if q12.1 = 0 then ((F_44 (I3 z) q12.2).bind fun q13 => if q13.1 = 0 then (F_85_88 rec (I3 x) (I3 d) (I3 y) (I3 n) (I3 (hpl g0 z).length) 0 q13.2) else (F_85_88 rec (I3 x) (I3 d) (I3 y) (I3 n) (I3 (hpl g0 z).length) 1 q13.2)) else (some (q12.1, q12.2))) u := by
    refine midG IH F 1 z1 (Nat.le_refl _) (by omega) L P tz (rk := tn (hrs g0 x)) (fun o h1 o1 o2 => if_neg (I3_ne0 (by omega) o2)) (fun out h1 g1 p1 s1 o1 G t59 t63 t62 t104 r kp _ => ?_)
    rcases (show out = 0 ∨ out = 1 by omega) with rfl | rfl
    · have G' := Fr_63 G
      rw [if_pos (show I3 0 = (0 : Int32) from rfl), show F_44 (I3 z) (I3 0, h1).2 = some (hrs g0 z, h1) from G.crs z1]; simp only [obs]
      obtain ⟨h2, h3, ws, j1, j2, j3, j4, j5, ⟨h4, j6, j7⟩, g2, g3, k1, k2, k3, k4, g4, k5, k6⟩ := lay_given G' (show (sm_wI g1 67 63 0).1 67 59 = _ from t59) (n := n) (i := i) (k := (hpl g0 y).length - n - gone (hrs g0 z)) z1 (by omega) (by omega) (by omega) (g1.1 67 60, g1.2.1 67 61) r.1 r.2.1
      have Gh := Fr_Ly G j3
      have tw : tyV (sm_wI g1 67 63 0) (hpl g0 y) (ws ++ sub vs i ((hpl g0 y).length - n - gone (hrs g0 z))) := by
        have e2 : seg (hpl g0 x) i ((hpl g0 y).length - n - gone (hrs g0 z)) = (hpl g0 y).drop (n + gone (hrs g0 z)) := by rw [seg_drop (by omega), tb]
        have t1 := tyV_sub G'.ty (i := 0) (n := n) (by omega)
        have t3 := tyV_sub G'.ty (i := i) (n := (hpl g0 y).length - n - gone (hrs g0 z)) (by omega)
        rw [ta] at t1
        rw [e2] at t3
        rw [j4]
        by_cases q : hrs g0 z = 0
        · rw [if_pos q, List.append_nil]
          rw [gone_0 q, Nat.add_zero, Nat.sub_zero] at t3
          rw [gone_0 q, Nat.sub_zero]
          have z := tyV_app t1 t3
          rw [List.take_append_drop] at z; exact z
        · rw [if_neg q]
          have ok : okV (sm_wI g1 67 63 0) (tn (hrs g0 z)) (g1.1 67 60) (g1.2.1 67 61) := okV_grow G.m.k.1 (grow_N (agr_wI agr_rfl (show SN 67 63 by unfold SN; omega))) (r.2.2.1 rfl)
          have z := tyV_app (tyV_app t1 (tyV_1 (k := at0 (hpl g0 y) n) (v := (g1.1 67 60, g1.2.1 67 61)) (by rw [kd q]; exact ok))) t3
          rw [gone_n q] at z hn
          rw [at0_get (show n < (hpl g0 y).length by omega), ← List.take_succ_eq_append_getElem (by omega), List.take_append_drop] at z
          rw [gone_n q]; exact z
      obtain ⟨u', e1', e2'⟩ := tail2 IH G' y1 (Nat.le_refl _) (by omega) j7 k6 tw
      have C122 : F_85_122 rec (I3 x) (I3 d) (I3 y) (I3 n) (I3 (hpl g0 z).length) (I3 (gone (hrs g0 z))) h3 = rec (I3 y) (I3 (d + 1)) h4 := by
        have C145 : F_85_145 rec (I3 d) (I3 y) (I3 n) (I3 (gone (hrs g0 z))) (I3 i) h3 = rec (I3 y) (I3 (d + 1)) h4 := by
          unfold F_85_145
          rw [Gh.cmn y1]; simp only [obs]
          rw [I3_add, I3_sub (by omega), I3_sub (by omega), j6]; simp only [obs]
          rw [bind_id, show I3 d + 1 = I3 (d + 1) from I3_add d 1]
        unfold F_85_122
        rw [Gh.f37]; simp only [obs]
        rcases fd with q | q
        · rw [q] at hi
          rw [q, if_neg (by decide), I3_add]
          rw [if_neg (by decide)] at hi
          rw [← hi]; exact C145
        · rw [q] at hi
          rw [q, if_pos (by decide)]
          rw [if_pos rfl] at hi
          rw [hi] at C145; exact C145
      have CC : (if hrs g0 z = 0 then (F_85_88 rec (I3 x) (I3 d) (I3 y) (I3 n) (I3 (hpl g0 z).length) 0 h1) else (F_85_88 rec (I3 x) (I3 d) (I3 y) (I3 n) (I3 (hpl g0 z).length) 1 h1)) = rec (I3 y) (I3 (d + 1)) h4 := by
        unfold F_85_88
        rw [j1]; simp only [obs]
        by_cases q : hrs g0 z = 0
        · rw [if_pos q, if_neg (by decide)]
          rw [if_pos q] at j2
          rw [gone_0 q, j2] at C122; exact C122
        · rw [if_neg q, if_pos trivial]
          rw [if_neg q] at j2
          rw [j2]; simp only [obs]
          rw [gone_n q] at C122; exact C122
      rw [CC, er]
      refine Ends_step (step_goOn (by omega) G.c64 G.c56 t63 ?_) e2'
      have G2 := Fr_Ph G' (Nat.le_refl _) k2
      rcases fd with q | q
      · rw [q] at hi
        rw [if_neg (by decide)] at hi
        refine (go_1 G t62 t104 (X := fun h27 => (F_343 (I3 vp) (I3 vp + g0.1 77 x) h27).bind fun q46 => (F_307 (g0.1 81 (24 * x + 1)) q46).bind fun q47 => if q47.1 = 0 then F_377_370 (I3 vp) (I3 vs.length) (g0.1 77 x) (g0.1 81 (24 * x)) (g0.1 81 (24 * x + 1)) q47.2 else (F_342 (g1.1 67 60) (g1.2.1 67 61) q47.2).bind fun q48 => F_377_370 (I3 vp) (I3 vs.length) (g0.1 77 x) (g0.1 81 (24 * x)) (g0.1 81 (24 * x + 1)) q48) (fun h27 _ v45 hv => by rw [← hv, q, if_pos (by decide)])).trans ?_
        rw [ea, q0, q1, I3_add, k1]; simp only [obs]
        rw [G2.rs z1]; simp only [obs]
        have fin : F_377_370 (I3 vp) (I3 vs.length) (I3 n) (I3 y) (I3 z) g3 = some u' := by
          unfold F_377_370
          rw [(Fr_Ph G' (Nat.le_refl _) k4).mn z1]; simp only [obs]
          rw [I3_add, I3_add, I3_add, show vp + n + (hpl g0 z).length = vp + i by omega, show vp + vs.length = vp + i + ((hpl g0 y).length - n - gone (hrs g0 z)) by omega, k5]; simp only [obs]
          rw [e1']; rfl
        by_cases qz : hrs g0 z = 0
        · rw [if_pos qz] at k3 ⊢; rw [k3] at fin; exact fin
        · rw [if_neg qz] at k3 ⊢; rw [k3]; simp only [obs]; exact fin
      · rw [q] at hi
        rw [if_pos rfl] at hi
        refine (go_1 G t62 t104 (X := fun h27 => (F_343 (I3 vp) (I3 vp + g0.1 77 x) h27).bind fun q49 => (F_307 (g0.1 81 (24 * x + 1)) q49).bind fun q50 => if q50.1 = 0 then F_377_422 (I3 vp) (I3 vs.length) (g0.1 77 x) (g0.1 81 (24 * x)) q50.2 else (F_342 (g1.1 67 60) (g1.2.1 67 61) q50.2).bind fun q51 => F_377_422 (I3 vp) (I3 vs.length) (g0.1 77 x) (g0.1 81 (24 * x)) q51) (fun h27 _ v45 hv => by rw [← hv, q, if_neg (by decide), if_pos (by decide)])).trans ?_
        rw [ea, q0, q1, I3_add, k1]; simp only [obs]
        rw [G2.rs z1]; simp only [obs]
        have fin : F_377_422 (I3 vp) (I3 vs.length) (I3 n) (I3 y) g3 = some u' := by
          unfold F_377_422
          rw [I3_add, I3_add, show vp + n = vp + i by omega, show vp + vs.length = vp + i + ((hpl g0 y).length - n - gone (hrs g0 z)) by omega, k5]; simp only [obs]
          rw [e1']; rfl
        by_cases qz : hrs g0 z = 0
        · rw [if_pos qz] at k3 ⊢; rw [k3] at fin; exact fin
        · rw [if_neg qz] at k3 ⊢; rw [k3]; simp only [obs]; exact fin
    · rw [if_neg (I3_ne0 (o := 1) (by omega) (by omega))]
      exact thru G (Nat.le_refl 1) t63 t62 ⟨r.1, r.2.1, fun z => by (cases z), r.2.2.2⟩ (fun z => by cases z) (fun _ => Or.inr (by omega))
  obtain ⟨u, e1, e2⟩ := M
  refine Ends_step (step_enter (by omega) F.c64 F.c56 c63 ?_) ?_ (u' := u)
  · rw [R, F.mn z1]; simp only [obs]
    rw [I3_add, I3_add, b1]; simp only [obs]
    rw [e1]; rfl
  · have CC : F_82_199 rec (I3 x) (I3 d) h = ((rec (I3 z) (I3 (d + 1)) h').bind fun q12 => if q12.1 = 0 then ((F_44 (I3 z) q12.2).bind fun q13 => if q13.1 = 0 then (F_85_88 rec (I3 x) (I3 d) (I3 y) (I3 n) (I3 (hpl g0 z).length) 0 q13.2) else (F_85_88 rec (I3 x) (I3 d) (I3 y) (I3 n) (I3 (hpl g0 z).length) 1 q13.2)) else (some (q12.1, q12.2))) := by
      unfold F_82_199
      rw [bind_id, show F_85 rec (I3 x) (I3 d) h = F_85_0 rec (I3 x) (I3 d) h from rfl]
      unfold F_85_0
      rw [show F_43 (I3 x) 0 h = some (I3 y, h) by have := F.f43 (k := 0) (by omega); rw [ep] at this; exact this]; simp only [obs]
      rw [show F_43 (I3 x) 1 h = some (I3 z, h) by have := F.f43 (k := 1) (by omega); rw [ep] at this; exact this]; simp only [obs]
      rw [F.f38, ea]; simp only [obs]
      rw [F.cmn z1]; simp only [obs]
      rw [show F_80 (I3 d) (I3 n) 0 (I3 (hpl g0 z).length) h = some h' from a1]; simp only [obs]
      rw [show I3 d + 1 = I3 (d + 1) from I3_add d 1]
    rw [CC]; exact e2
theorem run_7 {rec : Int32 → Int32 → sm_H → Option (Int32 × sm_H)} {d fuel s x vp : Nat} {vs : List Val} {h0 g0 h g : sm_H} (IH : CallOK (d + 1) rec) (F : Fr d fuel s x vp vs h0 g0 h g 0 (s + 1)) (c63 : g.1 67 63 = 0) (c59 : g.1 67 59 = I3 (vp + vs.length)) (eh : sm_wI h0 49 8 (h0.1 49 8 + 1) = h) (lf : h0.1 49 8 < h0.1 49 7) (f : fm g0 x = 7) : Ends d fuel s vp (tn (hrs g0 x)) h0 g0 0 (F_82R rec (I3 x) (I3 d) h0) g := by
  have d1 := F.d1
  have v10 := F.v10
  have x500 := F.x500
  have vl := F.vl
  have vx := F.vx
  have fs := F.fs0
  rw [f] at fs
  have C := B82_7 (rec := rec) (x1 := I3 x) (x2 := I3 d) (by rw [I3_lit, I3_lt (by omega) (by decide)]; omega) lf eh (f ▸ F.f37)
  rw [C]
  have R := B370_7 F.c56 F.l103 F.l105 F.l305 F.l77 F.l78 F.l81 F.l81' (f ▸ F.l75)
  obtain ⟨y, z, n, y1, z1, ep, ea, hn, kd, er, el⟩ := FS_7 fs
  have ny := F.n10 y1
  have gv := gone_1 (hrs g0 z)
  have pl2 : (prt g0 x).length = 2 := by rw [ep]; rfl
  have q1 : g0.1 81 (24 * x + 1) = I3 z := by have := F.at81 (k := 1) (by omega); rw [ep] at this; exact this
  have lx : vs.length = n + (hpl g0 z).length + ((hpl g0 y).length - (n + gone (hrs g0 z))) := by rw [vx, el, List.length_append, List.length_append, List.length_take, List.length_drop]; omega
  refine run_giv (i := n + (hpl g0 z).length) IH F c63 c59 (Or.inl f) (by rw [f]; rfl) y1 z1 ep ea hn kd er (by omega) (by omega) ?_ ?_ ?_ (by rw [R, q1, ea])
  · have t := tyV_sub F.ty (i := n) (n := (hpl g0 z).length) (by omega)
    have e : seg (hpl g0 x) n (hpl g0 z).length = hpl g0 z := by
      refine lst_ext (seg_len _ _ _) (fun i hi => ?_)
      rw [seg_len] at hi
      rw [show at0 (seg (hpl g0 x) n (hpl g0 z).length) i = at0 (hpl g0 x) (n + i) from at0_lst hi, el, at0_app2 (by rw [List.length_take]; omega), at0_app1 (by rw [List.length_take]; omega)]
      congr 1; rw [List.length_take]; omega
    rw [e] at t; exact t
  · rw [seg_take (by omega), el, List.take_append_of_le_length (by rw [List.length_take]; omega), List.take_take, Nat.min_self]
  · rw [el, ← List.append_assoc, List.drop_left' (by rw [List.length_append, List.length_take]; omega)]
theorem run_8 {rec : Int32 → Int32 → sm_H → Option (Int32 × sm_H)} {d fuel s x vp : Nat} {vs : List Val} {h0 g0 h g : sm_H} (IH : CallOK (d + 1) rec) (F : Fr d fuel s x vp vs h0 g0 h g 0 (s + 1)) (c63 : g.1 67 63 = 0) (c59 : g.1 67 59 = I3 (vp + vs.length)) (eh : sm_wI h0 49 8 (h0.1 49 8 + 1) = h) (lf : h0.1 49 8 < h0.1 49 7) (f : fm g0 x = 8) : Ends d fuel s vp (tn (hrs g0 x)) h0 g0 0 (F_82R rec (I3 x) (I3 d) h0) g := by
  have d1 := F.d1
  have v10 := F.v10
  have x500 := F.x500
  have vl := F.vl
  have vx := F.vx
  have fs := F.fs0
  rw [f] at fs
  have C := B82_8 (rec := rec) (x1 := I3 x) (x2 := I3 d) (by rw [I3_lit, I3_lt (by omega) (by decide)]; omega) lf eh (f ▸ F.f37)
  rw [C]
  have R := B370_8 F.c56 F.l103 F.l105 F.l305 F.l77 F.l78 F.l81 F.l81' (f ▸ F.l75)
  obtain ⟨y, z, n, y1, z1, ep, ea, hn, kd, er, el, pr⟩ := FS_8 fs
  have ny := F.n10 y1
  have gv := gone_1 (hrs g0 z)
  have pl2 : (prt g0 x).length = 2 := by rw [ep]; rfl
  have q1 : g0.1 81 (24 * x + 1) = I3 z := by have := F.at81 (k := 1) (by omega); rw [ep] at this; exact this
  have lx : vs.length = n + ((hpl g0 y).length - (n + gone (hrs g0 z))) := by rw [vx, el, List.length_append, List.length_take, List.length_drop]; omega
  have lz : n + (hpl g0 z).length ≤ vs.length := by have := pr.1; rw [List.length_drop, ← vx] at this; omega
  refine run_giv (i := n) IH F c63 c59 (Or.inr f) (by rw [f]; rfl) y1 z1 ep ea hn kd er lz (by omega) ?_ ?_ ?_ (by rw [R, q1, ea])
  · have t := tyV_sub F.ty (i := n) (n := (hpl g0 z).length) lz
    have e : seg (hpl g0 x) n (hpl g0 z).length = hpl g0 z := by
      refine lst_ext (seg_len _ _ _) (fun i hi => ?_)
      rw [seg_len] at hi
      rw [show at0 (seg (hpl g0 x) n (hpl g0 z).length) i = at0 (hpl g0 x) (n + i) from at0_lst hi]
      have := pr.2 i hi
      rw [at0_drop] at this; exact this
    rw [e] at t; exact t
  · rw [seg_take (by omega), el, List.take_append_of_le_length (by rw [List.length_take]; omega), List.take_take, Nat.min_self]
  · rw [el, List.drop_left' (by rw [List.length_take]; omega)]
