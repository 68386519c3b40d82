theorem go_378 {d fuel s0 x vp p s : Nat} {vs : List Val} {h0 g0 h g : sm_H} (F : Fr d fuel s0 x vp vs h0 g0 h g p s) (c62 : g.1 67 62 = I3 1) : F_377 g = F_378_0 (I3 d) (I3 x) (I3 vp) (I3 vs.length) (sm_wI g 67 63 0) := by
  show F_377_0 g = _
  unfold F_377_0
  simp only [obs]
  rw [F.c56, show I3 (d + 1) - 1 = I3 d from I3_sub (a := d + 1) (b := 1) (by omega), F.l103]; simp only [obs]
  rw [F.l105]; simp only [obs]
  rw [F.l305]; simp only [obs]
  rw [F.l77]; simp only [obs]
  rw [F.l81]; simp only [obs]
  rw [F.l81']; simp only [obs]
  rw [if_neg (show ¬ (sm_wI g 67 63 0).1 67 62 = 0 by show ¬ g.1 67 62 = 0; rw [c62]; decide), bind_id1]
theorem okE_V {g : sm_H} {k : Int32} {n : Int64} (h : okE g k n) : ∃ q, k = I3 q ∧ q < 20 + nC g ∧ 9 ≤ q ∧ okO g q n ∧ B g q 19 = true := by
  obtain ⟨q, q1, q2, q3, q4⟩ := h
  exact ⟨q, q1, q2, okO_7 q4, q4, q3⟩
theorem pre_cons {a : Int32} {m l : List Int32} {g : sm_H} {vs : List Val} {v : Val} (ty : tyV g l vs) (p : pre m l) (ok : okV g (tn a) v.1 v.2) : tyV g (a :: m) ([v] ++ sub vs 0 m.length) := tyV_app (tyV_1 ok) (tyV_first ty p)
theorem run_15 {rec : Int32 → Int32 → sm_H → Option (Int32 × sm_H)} {d fuel s x vp : Nat} {vs : List Val} {h0 g0 h g : sm_H} (IH : CallOK (d + 1) rec) (F : Fr d fuel s x vp vs h0 g0 h g 0 (s + 1)) (c63 : g.1 67 63 = 0) (c59 : g.1 67 59 = I3 (vp + vs.length)) (eh : sm_wI h0 49 8 (h0.1 49 8 + 1) = h) (lf : h0.1 49 8 < h0.1 49 7) (f : fm g0 x = 15) : Ends d fuel s vp (tn (hrs g0 x)) h0 g0 0 (F_82R rec (I3 x) (I3 d) h0) g := by
  have d1 := F.d1
  have v10 := F.v10
  have x500 := F.x500
  have vl := F.vl
  have vx := F.vx
  have fs := F.fs0
  rw [f] at fs
  have C := B82_15 (rec := rec) (x1 := I3 x) (x2 := I3 d) (by rw [I3_lit, I3_lt (by omega) (by decide)]; omega) lf eh (f ▸ F.f37)
  rw [C]
  have R := B370_15 F.c56 F.l103 F.l105 F.l305 F.l77 F.l78 F.l81 F.l81' (f ▸ F.l75)
  obtain ⟨y, z, k, m, y1, z1, ep, k1, ea, kb, eq, pr, er', er, el⟩ := FS_15 fs
  have h12 := F.m.k.1.2.1
  have nC0 : nC g0 = nC g := (m_nC F.ar).symm
  have pl2 : (prt g0 x).length = 2 := by rw [ep]; rfl
  have q0 : g0.1 81 (24 * x) = I3 y := by have := F.at81 (k := 0) (by omega); rw [ep] at this; exact this
  have q1 : g0.1 81 (24 * x + 1) = I3 z := by have := F.at81 (k := 1) (by omega); rw [ep] at this; exact this
  have nz := F.n10 z1
  have lz : (hpl g0 z).length = m.length + 1 := by rw [eq]; rfl
  have pr' : pre m (hpl g0 x) := by rw [el]; exact pr
  have lm : m.length ≤ vs.length := by rw [vx]; exact pr'.1
  obtain ⟨⟨h', a1, L⟩, g', b1, P⟩ := Fr_all F c59 y1 (by rw [vx, el]; exact Nat.le_refl _)
  have M : ∃ u, F_350 (I3 y) 1 g' = some u ∧ Ends d fuel s vp (tn (hrs g0 x)) h0 g0 (0 + 1) ((rec (I3 y) (I3 (d + 1)) h').bind fun q4 => if q4.1 = 1 then ((F_38 (I3 x) q4.2).bind fun q5 => (F_60 (q4.2.1 49 10) q5.1 q5.2).bind fun q6 => if q6.1 = 0 then (F_93_65 rec q4.1 q6.2) else ((F_79 (I3 d + 1) 0 (q6.2.2.1 49 9) (q6.2.1 49 10) q6.2).bind fun q7 => (F_45 (I3 z) q7).bind fun q8 => (F_80 (I3 d) 0 1 (q8.1 - 1) q8.2).bind fun q9 => (rec (I3 z) (I3 d + 1) q9).bind fun q10 => some (q10.1, q10.2))) else (F_93_65 rec q4.1 q4.2)) u := by
    refine midG IH F 1 y1 (Nat.le_refl _) (by omega) L P (tyV_first F.ty (by rw [el]; exact pre_rfl _)) (rk := tn (hrs g0 x)) (fun o h1 o1 o2 => by rw [if_neg (I3_ne1 o1 o2)]; rfl) (fun out h1 g1 p1 s1 o1 G t59 t63 t62 t104 r kp _ => ?_)
    have G' := Fr_63 G
    rcases (show out = 0 ∨ out = 1 by omega) with rfl | rfl
    · rw [if_neg (show ¬ I3 0 = (1 : Int32) by decide)]
      rw [er]
      obtain ⟨u', e1', e2'⟩ := Fr_pass (rk := tn (hrs g0 y)) G' (g1.1 67 60) (g1.2.1 67 61) r.1 r.2.1 (okV_grow G.m.k.1 (grow_N (agr_wI agr_rfl (by unfold SN; omega))) (r.2.2.1 rfl))
      refine Ends_step (step_goOn (by omega) G.c64 G.c56 t63 ?_) e2'
      refine (go_1 G t62 t104 (X := fun h27 => F_377_622 (g1.1 67 60) (g1.2.1 67 61) h27) (fun h27 _ v45 hv => by rw [← hv, f, if_neg (by decide), if_neg (by decide), if_neg (by decide), if_neg (by decide), if_neg (by decide), if_neg (by decide), if_neg (by decide)])).trans ?_
      unfold F_377_622
      rw [e1']; rfl
    · rw [if_pos (show I3 1 = (1 : Int32) from rfl)]
      obtain ⟨q, qe, qn, q9, qo, qb⟩ := okE_V (r.2.2.2 rfl)
      have nC1 : nC g1 = nC g0 := m_nC G.ar
      have tg : h1.1 49 10 = I3 q := by rw [r.2.1, qe, tag_I (by omega) (by omega)]
      have CB := C_belowN G.m.k.1 G.m.k.2.1 qn (y := k) (by omega)
      have RB := R_below G'.m.k.1 (x := q) (o := k) qn (by omega)
      rw [show B (sm_wI g1 67 63 0) q k = B g1 q k from rfl] at RB
      have t6 : F_378_0 (I3 d) (I3 x) (I3 vp) (I3 vs.length) (sm_wI g1 67 63 0) = if B g1 q k = true then ((F_342 (g1.1 67 60) (g1.2.1 67 61) (sm_wI g1 67 63 0)).bind fun q20 => (F_305 (I3 z) q20).bind fun q21 => (F_343 (I3 vp) (I3 vp + q21.1 - 1) q21.2).bind fun q22 => (F_349 (I3 z) q22).bind fun q23 => F_378_199 q23) else F_378_93 (I3 d) (I3 x) (I3 vp) (g1.1 67 60) (g1.2.1 67 61) (I3 z) (sm_wI g1 67 63 0) := by
        unfold F_378_0
        simp only [obs]
        rw [G'.l81', q1]; simp only [obs]
        rw [G'.l75, f]; simp only [obs]
        rw [if_pos (by decide), ldI_I d1 (by decide)]; simp only [obs]
        rw [if_pos (show (sm_wI g1 67 63 0).1 104 d = 1 from t104), G'.l77, ea]; simp only [obs]
        rw [show (sm_wI g1 67 63 0).1 67 60 = I3 q from qe, RB]; simp only [obs]
        rw [show g1.1 67 60 = I3 q from qe, show (sm_wI g1 67 63 0).2.1 67 61 = g1.2.1 67 61 from rfl]
        cases B g1 q k <;> rfl
      rw [show F_38 (I3 x) (I3 1, h1).2 = some (g0.1 77 x, h1) from G.f38, ea]; simp only [obs]
      rw [tg, CB]; simp only [obs]
      have ge := go_378 G t62
      rw [t6] at ge
      cases bq : B g1 q k with
      | false =>
        rw [bq, if_neg (by decide)] at ge
        rw [if_pos (by decide)]
        obtain ⟨u', e1', e2'⟩ := Fr_threw (rk := tn (hrs g0 x)) G' (g1.1 67 60) (g1.2.1 67 61) r.1 r.2.1 (okE_grow G.m.k.1 (grow_N (agr_wI agr_rfl (by unfold SN; omega))) (r.2.2.2 rfl))
        refine Ends_step (step_goOn (by omega) G.c64 G.c56 t63 ?_) e2'
        rw [ge]
        unfold F_378_93 F_378_191 F_378_199
        rw [G'.l75, f]; simp only [obs]
        rw [if_neg (by decide), e1']; rfl
      | true =>
        rw [bq, if_pos rfl] at ge
        rw [if_neg (by decide)]
        obtain ⟨h2, a2, L2⟩ := C_lay1 (Ly_0 h1 (d + 1)) (by omega) (by decide) (g1.1 67 60, g1.2.1 67 61)
        obtain ⟨g2, b2, P2⟩ := R_push (Ph_0 (show (sm_wI g1 67 63 0).1 67 59 = _ from t59)) (by simp only [List.length_nil]; omega) (g1.1 67 60, g1.2.1 67 61)
        rw [List.nil_append] at L2 P2
        obtain ⟨h3, a3, L3⟩ := C_lend (i := 0) (n := m.length) L2 G.fr d1 (by omega) (by omega) (by simp only [List.length_cons, List.length_nil]; omega)
        obtain ⟨g3, b3, P3⟩ := R_copy (i := 0) (n := m.length) P2 G'.st (Nat.le_refl _) (by omega) (by simp only [List.length_cons, List.length_nil]; omega)
        have G2 := Fr_Ly G L2
        have Gp := Fr_Ph G' (Nat.le_refl _) P2
        have okx : okV (sm_wI g1 67 63 0) (tn (g0.1 77 x)) (g1.1 67 60) (g1.2.1 67 61) := by
          rw [ea, tnI (by omega)]
          refine okV_grow G.m.k.1 (grow_N (agr_wI agr_rfl (by unfold SN; omega))) (Or.inr (Or.inr ⟨?_, q, qe, qn, bq, qo⟩))
          by_cases q7 : 7 ≤ k
          · exact q7
          · have := B_lt7 G.m.k.1 (o := k) (by omega) q (by omega) qn
            rw [bq] at this; cases this
        obtain ⟨u', e1', e2'⟩ := tail2 IH G' z1 (Nat.le_refl _) (by omega) L3 P3 (by rw [eq]; exact pre_cons G'.ty pr' okx)
        have CC : ((F_79 (I3 d + 1) 0 (h1.2.1 49 9) (h1.1 49 10) h1).bind fun q7 => (F_45 (I3 z) q7).bind fun q8 => (F_80 (I3 d) 0 1 (q8.1 - 1) q8.2).bind fun q9 => (rec (I3 z) (I3 d + 1) q9).bind fun q10 => some (q10.1, q10.2)) = rec (I3 z) (I3 (d + 1)) h3 := by
          rw [r.1, r.2.1, show I3 d + 1 = I3 (d + 1) from I3_add d 1, show F_79 (I3 (d + 1)) 0 (g1.2.1 67 61) (tag (g1.1 67 60)) h1 = some h2 from a2]; simp only [obs]
          rw [G2.cmn z1]; simp only [obs]
          rw [lz, show I3 (m.length + 1) - 1 = I3 m.length from I3_sub (a := m.length + 1) (b := 1) (by omega), show F_80 (I3 d) 0 1 (I3 m.length) h2 = some h3 from a3]; simp only [obs]
          rw [bind_id]
        rw [CC, er, ← er']
        refine Ends_step (step_goOn (by omega) G.c64 G.c56 t63 ?_) e2'
        rw [ge, b2]; simp only [obs]
        rw [Gp.mn z1]; simp only [obs]
        rw [lz, show I3 vp + I3 (m.length + 1) - 1 = I3 (vp + m.length) by rw [I3_add]; exact I3_sub (a := vp + (m.length + 1)) (b := 1) (by omega), show F_343 (I3 vp) (I3 (vp + m.length)) g2 = some g3 from b3]; simp only [obs]
        rw [e1']; rfl
  obtain ⟨u, e1, e2⟩ := M
  refine Ends_step (step_enter (by omega) F.c64 F.c56 c63 ?_) ?_ (u' := u)
  · rw [R, q0]
    unfold F_370_514
    rw [I3_add, vx, el, b1]; simp only [obs]
    rw [e1]; rfl
  · have CC : ((F_93 rec (I3 x) (I3 d) h).bind fun q19 => some (q19.1, q19.2)) = ((rec (I3 y) (I3 (d + 1)) h').bind fun q4 => if q4.1 = 1 then ((F_38 (I3 x) q4.2).bind fun q5 => (F_60 (q4.2.1 49 10) q5.1 q5.2).bind fun q6 => if q6.1 = 0 then (F_93_65 rec q4.1 q6.2) else ((F_79 (I3 d + 1) 0 (q6.2.2.1 49 9) (q6.2.1 49 10) q6.2).bind fun q7 => (F_45 (I3 z) q7).bind fun q8 => (F_80 (I3 d) 0 1 (q8.1 - 1) q8.2).bind fun q9 => (rec (I3 z) (I3 d + 1) q9).bind fun q10 => some (q10.1, q10.2))) else (F_93_65 rec q4.1 q4.2)) := by
      rw [bind_id, show F_93 rec (I3 x) (I3 d) h = F_93_0 rec (I3 x) (I3 d) h from rfl]
      unfold F_93_0
      rw [show F_43 (I3 x) 0 h = some (I3 y, h) by have := F.f43 (k := 0) (by omega); rw [ep] at this; exact this]; simp only [obs]
      rw [show F_43 (I3 x) 1 h = some (I3 z, h) by have := F.f43 (k := 1) (by omega); rw [ep] at this; exact this]; simp only [obs]
      rw [a1]; simp only [obs]
      rw [show I3 d + 1 = I3 (d + 1) from I3_add d 1]
    rw [CC]; exact e2
theorem go_2 {d fuel s0 x vp p s : Nat} {vs : List Val} {h0 g0 h g : sm_H} (F : Fr d fuel s0 x vp vs h0 g0 h g p s) (c62 : g.1 67 62 = I3 0) (c104 : g.1 104 d = 2) : F_377 g = F_347 (g.1 108 (vp + vs.length)) (g.2.1 109 (vp + vs.length)) (sm_wI g 67 63 0) := by
  have v10 := F.v10
  have vl := F.vl
  have d1 := F.d1
  show F_377_0 g = _
  unfold F_377_0
  simp only [obs]
  rw [F.c56, show I3 (d + 1) - 1 = I3 d from I3_sub (a := d + 1) (b := 1) (by omega), F.l103]; simp only [obs]
  rw [F.l105]; simp only [obs]
  rw [F.l305]; simp only [obs]
  rw [F.l77]; simp only [obs]
  rw [F.l81]; simp only [obs]
  rw [F.l81']; simp only [obs]
  rw [if_pos (show (sm_wI g 67 63 0).1 67 62 = 0 from c62), ldI_I F.d1 (by decide), show (sm_wI g 67 63 0).1 104 d = g.1 104 d from rfl, c104]; simp only [obs]
  rw [if_pos trivial, I3_add, ldI_I (by omega) (by decide), ldJ_I (by omega) (by decide)]; simp only [obs]
  rw [bind_id1]; rfl
theorem okV_null {g : sm_H} {k : Nat} (h : 7 ≤ k) : okV g k 0 0 := Or.inr (Or.inl ⟨Or.inr h, rfl, rfl⟩)
theorem run_16 {rec : Int32 → Int32 → sm_H → Option (Int32 × sm_H)} {d fuel s x vp : Nat} {vs : List Val} {h0 g0 h g : sm_H} (IH : CallOK (d + 1) rec) (F : Fr d fuel s x vp vs h0 g0 h g 0 (s + 1)) (c63 : g.1 67 63 = 0) (c59 : g.1 67 59 = I3 (vp + vs.length)) (eh : sm_wI h0 49 8 (h0.1 49 8 + 1) = h) (lf : h0.1 49 8 < h0.1 49 7) (f : fm g0 x = 16) : Ends d fuel s vp (tn (hrs g0 x)) h0 g0 0 (F_82R rec (I3 x) (I3 d) h0) g := by
  have d1 := F.d1
  have v10 := F.v10
  have x500 := F.x500
  have vl := F.vl
  have vx := F.vx
  have fs := F.fs0
  rw [f] at fs
  have C := B82_16 (rec := rec) (x1 := I3 x) (x2 := I3 d) (by rw [I3_lit, I3_lt (by omega) (by decide)]; omega) lf eh (f ▸ F.f37)
  rw [C]
  have R := B370_16 F.c56 F.l103 F.l105 F.l305 F.l77 F.l78 F.l81 F.l81' (f ▸ F.l75)
  obtain ⟨y, z, m, y1, z1, ep, eq, pr, er', er, el⟩ := FS_16 fs
  have h12 := F.m.k.1.2.1
  have pl2 : (prt g0 x).length = 2 := by rw [ep]; rfl
  have q0 : g0.1 81 (24 * x) = I3 y := by have := F.at81 (k := 0) (by omega); rw [ep] at this; exact this
  have q1 : g0.1 81 (24 * x + 1) = I3 z := by have := F.at81 (k := 1) (by omega); rw [ep] at this; exact this
  have nz := F.n10 z1
  have gv := gone_1 (hrs g0 y)
  have lz : (hpl g0 z).length = m.length + 1 + gone (hrs g0 y) := by
    rw [eq]
    by_cases q : hrs g0 y = 0
    · rw [if_pos q, gone_0 q]; rfl
    · rw [if_neg q, gone_n q]; rfl
  have eq' : hpl g0 z = [19] ++ (if hrs g0 y = 0 then [] else [hrs g0 y]) ++ m := by
    rw [eq]
    by_cases q : hrs g0 y = 0
    · rw [if_pos q, if_pos q]; rfl
    · rw [if_neg q, if_neg q]; rfl
  have pr' : pre m (hpl g0 x) := by rw [el]; exact pr
  have lm : m.length ≤ vs.length := by rw [vx]; exact pr'.1
  have lay : ∀ (ha ga gb : sm_H) (pa sa : Nat), Fr d fuel s x vp vs h0 g0 ha ga pa sa → ∀ T, vp + vs.length ≤ T → T ≤ vp + vs.length + 1 → ga.1 67 59 = I3 T → ∀ (v w : Val) (φ : sm_H → sm_H), (∀ a, agr S48 a (φ a)) → okV ga 19 v.1 v.2 → okV ga (tn (hrs g0 y)) w.1 w.2 →
      ∃ h1 h2 h3 g1 g2 g3 ws, F_79 (I3 d + 1) 0 v.2 (tag v.1) ha = some h1 ∧ (if hrs g0 y = 0 then h2 = h1 else F_79 (I3 d + 1) 1 w.2 (tag w.1) h1 = some h2) ∧ F_45 (I3 z) h2 = some (I3 (hpl g0 z).length, h2) ∧ F_80 (I3 d) 0 (I3 (1 + gone (hrs g0 y))) (I3 m.length) h2 = some h3 ∧ Ly ha h1 (d + 1) [v] ∧ Ly ha h3 (d + 1) ws ∧
        F_342 v.1 v.2 ga = some g1 ∧ Ph ga g1 T [v] ∧ (if hrs g0 y = 0 then g2 = g1 else F_342 w.1 w.2 (φ g1) = some g2) ∧ (∃ us, Ph ga g2 T us) ∧ F_343 (I3 vp) (I3 (vp + m.length)) g2 = some g3 ∧ Ph ga g3 T ws ∧ tyV ga (hpl g0 z) ws := fun ha ga gb pa sa G T t1 t2 t59 v w φ hφ okv okw => by
    obtain ⟨h1, a1, L1⟩ := C_lay1 (Ly_0 ha (d + 1)) (by omega) (by decide) v
    obtain ⟨g1, b1, P1⟩ := R_push (Ph_0 t59) (by simp only [List.length_nil]; omega) v
    rw [List.nil_append] at L1 P1
    have e1 : I3 d + 1 = I3 (d + 1) := I3_add d 1
    by_cases q : hrs g0 y = 0
    · obtain ⟨h3, a3, L3⟩ := C_lend (i := 0) (n := m.length) L1 G.fr d1 (by omega) (by omega) (by simp only [List.length_cons, List.length_nil]; omega)
      obtain ⟨g3, b3, P3⟩ := R_copy (i := 0) (n := m.length) P1 G.st t1 (by omega) (by simp only [List.length_cons, List.length_nil]; omega)
      refine ⟨h1, h1, h3, g1, g1, g3, _, by rw [e1]; exact a1, by rw [if_pos q], (Fr_Ly G L1).cmn z1, by rw [gone_0 q]; exact a3, L1, L3, b1, P1, by rw [if_pos q], ⟨_, P1⟩, b3, P3, ?_⟩
      rw [eq', if_pos q, List.append_nil]
      exact tyV_app (tyV_1 okv) (tyV_first G.ty pr')
    · obtain ⟨h2, a2, L2⟩ := C_lay1 L1 (by omega) (by simp only [List.length_cons, List.length_nil]; omega) w
      obtain ⟨g2, b2, P2⟩ := R_push (Ph_48 P1 (hφ g1)) (by simp only [List.length_cons, List.length_nil]; omega) w
      have l2 : ([v] ++ [w]).length = 2 := rfl
      obtain ⟨h3, a3, L3⟩ := C_lend (i := 0) (n := m.length) L2 G.fr d1 (by omega) (by omega) (by rw [l2]; omega)
      obtain ⟨g3, b3, P3⟩ := R_copy (i := 0) (n := m.length) P2 G.st t1 (by omega) (by rw [l2]; omega)
      refine ⟨h1, h2, h3, g1, g2, g3, _, by rw [e1]; exact a1, by rw [if_neg q, e1]; exact a2, (Fr_Ly G L2).cmn z1, by rw [gone_n q]; exact a3, L1, L3, b1, P1, by rw [if_neg q]; exact b2, ⟨_, P2⟩, b3, P3, ?_⟩
      rw [eq', if_neg q]
      exact tyV_app (tyV_app (tyV_1 okv) (tyV_1 okw)) (tyV_first G.ty pr')
  obtain ⟨⟨h', a1, L⟩, g', b1, P⟩ := Fr_all F c59 y1 (by rw [vx, el]; exact Nat.le_refl _)
  have M : ∃ u, F_350 (I3 y) 1 g' = some u ∧ Ends d fuel s vp (tn (hrs g0 x)) h0 g0 (0 + 1) ((rec (I3 y) (I3 (d + 1)) h').bind fun q11 => if q11.1 = 0 then (F_94_51 rec (I3 d) (I3 y) (I3 z) q11.1 q11.2) else (if q11.1 = 1 then (F_94_51 rec (I3 d) (I3 y) (I3 z) q11.1 q11.2) else (some (q11.1, q11.2)))) u := by
    refine midG IH F 1 y1 (Nat.le_refl _) (by omega) L P (tyV_first F.ty (by rw [el]; exact pre_rfl _)) (rk := tn (hrs g0 x)) (fun o h1 o1 o2 => by rw [if_neg (I3_ne0 (by omega) o2), if_neg (I3_ne1 o1 o2)]) (fun out h1 g1 p1 s1 o1 G t59 t63 t62 t104 r kp _ => ?_)
    have G' := Fr_63 G
    have gw : grow g1 (sm_wI g1 67 63 0) := grow_N (agr_wI agr_rfl (by unfold SN; omega))
    rcases (show out = 0 ∨ out = 1 by omega) with rfl | rfl
    · rw [if_pos (show I3 0 = (0 : Int32) from rfl)]
      obtain ⟨j1, j2, j3, k1, k2, k3, ws, c1, c2, c3, c4, c5, c6, e1, e2, e3, e4, e5, e6, tw⟩ := lay h1 (sm_wI g1 67 63 0) g1 p1 s1 G' (vp + vs.length) (Nat.le_refl _) (by omega) t59 (0, 0) (g1.1 67 60, g1.2.1 67 61) id (fun _ => agr_rfl) (okV_null (by decide)) (okV_grow G.m.k.1 gw (r.2.2.1 rfl))
      obtain ⟨u', f1, f2⟩ := tail2 IH G' z1 (Nat.le_refl _) (by omega) c6 e6 tw
      have C157 : F_94_157 rec (I3 d) (I3 z) 0 0 0 (I3 (1 + gone (hrs g0 y))) j2 = rec (I3 z) (I3 (d + 1)) j3 := by
        unfold F_94_157 F_94_209
        rw [c3]; simp only [obs]
        rw [lz, I3_sub (by omega), show m.length + 1 + gone (hrs g0 y) - (1 + gone (hrs g0 y)) = m.length by omega, c4]; simp only [obs]
        rw [show I3 d + 1 = I3 (d + 1) from I3_add d 1]
        cases rec (I3 z) (I3 (d + 1)) j3 <;> rfl
      have CC : F_94_51 rec (I3 d) (I3 y) (I3 z) (I3 0) h1 = rec (I3 z) (I3 (d + 1)) j3 := by
        unfold F_94_51 F_94_62 F_94_77 F_94_92
        rw [if_neg (by decide), if_pos (show (0 : Int32) = 0 from rfl), if_pos (show (0 : Int32) = 0 from rfl), show F_79 (I3 d + 1) 0 0 0 h1 = some j1 from c1]; simp only [obs]
        rw [(Fr_Ly G c5).crs y1]; simp only [obs]
        by_cases q : hrs g0 y = 0
        · rw [if_pos q] at c2 ⊢
          rw [gone_0 q, c2] at C157; exact C157
        · rw [if_neg q] at c2 ⊢
          rw [if_pos trivial]
          unfold F_94_138 F_94_151
          rw [if_pos (show (0 : Int32) = 0 from rfl), c5.a.2.1 49 9 (by unfold SL; omega), c5.a.1 49 10 (by unfold SL; omega), r.1, r.2.1, c2]; simp only [obs]
          rw [gone_n q] at C157; exact C157
      show Ends d fuel s vp (tn (hrs g0 x)) h0 g0 p1 (F_94_51 rec (I3 d) (I3 y) (I3 z) (I3 0) h1) g1
      rw [CC, er, ← er']
      refine Ends_step (step_goOn (by omega) G.c64 G.c56 t63 ?_) f2
      refine (go_1 G t62 t104 (X := fun h27 => (F_342 0 0 h27).bind fun q56 => (F_307 (I3 x) q56).bind fun q57 => if q57.1 = 0 then F_377_588 (I3 x) (I3 vp) (g0.1 81 (24 * x + 1)) q57.2 else (F_342 (g1.1 67 60) (g1.2.1 67 61) q57.2).bind fun q58 => F_377_588 (I3 x) (I3 vp) (g0.1 81 (24 * x + 1)) q58) (fun h27 _ v45 hv => by rw [← hv, f, if_neg (by decide), if_neg (by decide), if_neg (by decide), if_neg (by decide), if_neg (by decide), if_neg (by decide), if_pos (by decide)])).trans ?_
      rw [show F_342 0 0 (sm_wI g1 67 63 0) = some k1 from e1]; simp only [obs]
      rw [(Fr_Ph G' (Nat.le_refl _) e2).rs F.x1, er, q1]; simp only [obs]
      obtain ⟨us, e4⟩ := e4
      have fin : F_377_588 (I3 x) (I3 vp) (I3 z) k2 = some u' := by
        unfold F_377_588 F_377_611
        rw [(Fr_Ph G' (Nat.le_refl _) e4).mn z1]; simp only [obs]
        rw [(Fr_Ph G' (Nat.le_refl _) e4).rs F.x1, er]; simp only [obs]
        have hg : ∀ o : Nat, o = 1 + gone (hrs g0 y) → ((F_343 (I3 vp) (I3 vp + I3 (hpl g0 z).length - I3 o) k2).bind fun q2 => (F_349 (I3 z) q2).bind fun q3 => some q3) = some u' := fun o ho => by
          rw [I3_add, I3_sub (by omega), show vp + (hpl g0 z).length - o = vp + m.length by omega, e5]; simp only [obs]
          rw [f1]; rfl
        by_cases q : hrs g0 y = 0
        · rw [if_pos q]; exact hg 1 (by rw [gone_0 q])
        · rw [if_neg q]; exact hg 2 (by rw [gone_n q])
      by_cases q : hrs g0 y = 0
      · rw [if_pos q] at e3 ⊢; rw [e3] at fin; exact fin
      · rw [if_neg q] at e3 ⊢; rw [show F_342 (g1.1 67 60) (g1.2.1 67 61) k1 = some k2 from e3]; simp only [obs]; exact fin
    · rw [if_neg (show ¬ I3 1 = (0 : Int32) by decide), if_pos (show I3 1 = (1 : Int32) from rfl)]
      obtain ⟨q, qe, qn, q9, qo, qb⟩ := okE_V (r.2.2.2 rfl)
      have okx : okV (sm_wI g1 67 63 0) 19 (g1.1 67 60) (g1.2.1 67 61) := okV_grow G.m.k.1 gw (Or.inr (Or.inr ⟨by decide, q, qe, qn, qb, qo⟩))
      have rk20 : tn (hrs g0 y) < 2147483648 := by
        obtain ⟨w, w1, w2⟩ := rs_k G.m.k (p := y) (by rw [m_nH G.ar]; exact y1)
        rw [m_hrs G.ar] at w1
        rw [w1, tnI (by have := G.m.k.1.2.1; omega)]; have := G.m.k.1.2.1; omega
      have hI : hrs g0 y = I3 (tn (hrs g0 y)) := by
        obtain ⟨w, w1, w2⟩ := rs_k G.m.k (p := y) (by rw [m_nH G.ar]; exact y1)
        rw [m_hrs G.ar] at w1
        rw [w1, tnI (by have := G.m.k.1.2.1; omega)]
      obtain ⟨g2, b2, P2⟩ := R_push (Ph_0 (show (sm_wI g1 67 63 0).1 67 59 = _ from t59)) (by simp only [List.length_nil]; omega) (g1.1 67 60, g1.2.1 67 61)
      rw [List.nil_append] at P2
      have G2 := Fr_Ph G' (Nat.le_refl _) P2
      have gw2 : grow (sm_wI g1 67 63 0) g2 := grow_N (agr_mono (fun b j z => by unfold SP at z; unfold SN; omega) P2.a)
      have zv : okV g2 (tn (hrs g0 y)) (zk (hrs g0 y)) 0 := by
        have := okV_zk (g := g2) (q := tn (hrs g0 y)) rk20
        rw [← hI] at this; exact this
      obtain ⟨j1, j2, j3, k1, k2, k3, ws, c1, c2, c3, c4, c5, c6, e1, e2, e3, e4, e5, e6, tw⟩ := lay h1 g2 g2 p1 s1 G2 (vp + vs.length + 1) (by omega) (Nat.le_refl _) P2.n (g1.1 67 60, g1.2.1 67 61) (zk (hrs g0 y), 0) (fun a => sm_wJ (sm_wI a 67 48 (zk (hrs g0 y))) 67 49 0) (fun a => agr_wJ (agr_wI agr_rfl (by unfold S48; omega)) (by unfold S48; omega)) (okV_grow G'.m.k.1 gw2 okx) zv
      have M2 : ∃ u, F_350 (I3 z) 2 k3 = some u ∧ Ends d fuel s vp (tn (hrs g0 x)) h0 g0 (p1 + 1) ((rec (I3 z) (I3 (d + 1)) j3).bind fun q3 => if (1 : Int32) = 0 then (F_94_209 rec q3.1 q3.2) else (if q3.1 = 0 then ((F_75 (g1.2.1 67 61) (tag (g1.1 67 60)) q3.2).bind fun q4 => some (1, q4.2)) else (F_94_209 rec q3.1 q3.2))) u := by
        refine midG IH G2 2 z1 (by omega) (by omega) c6 e6 tw (rk := tn (hrs g0 x)) (fun o h1 o1 o2 => by rw [if_neg (by decide), if_neg (I3_ne0 (by omega) o2)]; rfl) (fun out h4 g4 p4 s4 o1 G4 t59' t63' t62' t104' r' kp' gr' => ?_)
        have G4' := Fr_63 G4
        rcases (show out = 0 ∨ out = 1 by omega) with rfl | rfl
        · rw [if_neg (by decide), if_pos (show I3 0 = (0 : Int32) from rfl)]
          have kx : g4.1 108 (vp + vs.length) = g1.1 67 60 ∧ g4.2.1 109 (vp + vs.length) = g1.2.1 67 61 := by
            have a := kp'.2 (vp + vs.length) (by omega)
            have b : k3.1 108 (vp + vs.length) = g2.1 108 (vp + vs.length) ∧ k3.2.1 109 (vp + vs.length) = g2.2.1 109 (vp + vs.length) := ⟨e6.a.1 108 _ (by unfold SP; omega), e6.a.2.1 109 _ (by unfold SP; omega)⟩
            have c := P2.s 0 (Nat.lt_of_lt_of_eq (Nat.zero_lt_succ 0) rfl)
            rw [Nat.add_zero] at c
            exact ⟨a.1.trans (b.1.trans c.1), a.2.trans (b.2.trans c.2)⟩
          have a : agr (SC1 d) h4 (sm_wI (sm_wJ h4 49 9 (g1.2.1 67 61)) 49 10 (tag (g1.1 67 60))) := agr_wI (agr_wJ agr_rfl (by unfold SC1; omega)) (by unfold SC1; omega)
          have gx : grow g1 g4 := grow_trans gw (grow_trans gw2 (grow_trans (grow_N (agr_mono (fun b j z => by unfold SP at z; unfold SN; omega) e6.a)) (grow_trans (grow_N (agr_wI agr_rfl (by unfold SN; omega))) gr')))
          have H4 := Fr_h G4' a rfl
          obtain ⟨u5, v1, v2⟩ := Fr_threw (rk := tn (hrs g0 x)) H4 (g1.1 67 60) (g1.2.1 67 61) rfl rfl (okE_grow G4.m.k.1 (grow_N (agr_wI agr_rfl (by unfold SN; omega))) (okE_grow G.m.k.1 gx (r.2.2.2 rfl)))
          refine Ends_step (step_goOn (by omega) G4.c64 G4.c56 t63' ?_) v2
          rw [go_2 G4 t62' t104', kx.1, kx.2]; exact v1
        · rw [if_neg (by decide), if_neg (show ¬ I3 1 = (0 : Int32) by decide)]
          exact thru G4 (Nat.le_refl 1) t63' t62' ⟨r'.1, r'.2.1, fun z => by (cases z), r'.2.2.2⟩ (fun z => by cases z) (fun _ => Or.inl (by rw [t104']; decide))
      obtain ⟨u', f1, f2⟩ := M2
      have C157 : F_94_157 rec (I3 d) (I3 z) 1 (g1.2.1 67 61) (tag (g1.1 67 60)) (I3 (1 + gone (hrs g0 y))) j2 = ((rec (I3 z) (I3 (d + 1)) j3).bind fun q3 => if (1 : Int32) = 0 then (F_94_209 rec q3.1 q3.2) else (if q3.1 = 0 then ((F_75 (g1.2.1 67 61) (tag (g1.1 67 60)) q3.2).bind fun q4 => some (1, q4.2)) else (F_94_209 rec q3.1 q3.2))) := by
        unfold F_94_157
        rw [c3]; simp only [obs]
        rw [lz, I3_sub (by omega), show m.length + 1 + gone (hrs g0 y) - (1 + gone (hrs g0 y)) = m.length by omega, c4]; simp only [obs]
        rw [show I3 d + 1 = I3 (d + 1) from I3_add d 1]
      have CC : F_94_51 rec (I3 d) (I3 y) (I3 z) (I3 1) h1 = ((rec (I3 z) (I3 (d + 1)) j3).bind fun q3 => if (1 : Int32) = 0 then (F_94_209 rec q3.1 q3.2) else (if q3.1 = 0 then ((F_75 (g1.2.1 67 61) (tag (g1.1 67 60)) q3.2).bind fun q4 => some (1, q4.2)) else (F_94_209 rec q3.1 q3.2))) := by
        unfold F_94_51 F_94_62 F_94_77 F_94_92
        rw [if_pos (show I3 1 = (1 : Int32) from rfl), if_neg (show ¬ (1 : Int32) = 0 by decide), if_neg (show ¬ (1 : Int32) = 0 by decide), r.1, r.2.1, c1]; simp only [obs]
        rw [(Fr_Ly G2 c5).crs y1]; simp only [obs]
        by_cases q : hrs g0 y = 0
        · rw [if_pos q] at c2 ⊢
          rw [gone_0 q, c2] at C157; exact C157
        · rw [if_neg q] at c2 ⊢
          rw [if_neg (by decide)]
          unfold F_94_138 F_94_151
          rw [tag_zk] at c2
          rw [if_neg (show ¬ (1 : Int32) = 0 by decide), c2]; simp only [obs]
          rw [gone_n q] at C157; exact C157
      show Ends d fuel s vp (tn (hrs g0 x)) h0 g0 p1 (F_94_51 rec (I3 d) (I3 y) (I3 z) (I3 1) h1) g1
      rw [CC]
      refine Ends_step (step_goOn (by omega) G.c64 G.c56 t63 ?_) f2
      rw [go_378 G t62]
      unfold F_378_0
      simp only [obs]
      rw [G'.l81', q1]; simp only [obs]
      rw [G'.l75, f]; simp only [obs]
      rw [if_neg (by decide)]
      unfold F_378_93
      rw [G'.l75, f]; simp only [obs]
      rw [if_pos (by decide), ldI_I d1 (by decide)]; simp only [obs]
      rw [if_pos (show (sm_wI g1 67 63 0).1 104 d = 1 from t104), show F_342 ((sm_wI g1 67 63 0).1 67 60) ((sm_wI g1 67 63 0).2.1 67 61) (sm_wI g1 67 63 0) = some g2 from b2]; simp only [obs]
      rw [show F_342 ((sm_wI g1 67 63 0).1 67 60) ((sm_wI g1 67 63 0).2.1 67 61) g2 = some k1 from e1]; simp only [obs]
      have Gk1 := Fr_Ph G2 (by omega) e2
      rw [Gk1.rs F.x1, er]; simp only [obs]
      obtain ⟨us, e4⟩ := e4
      have fin : ∀ o : Nat, o = 1 + gone (hrs g0 y) → F_378_165 (I3 vp) (I3 z) (I3 o) k2 = some u' := fun o ho => by
        unfold F_378_165 F_378_199
        rw [(Fr_Ph G2 (by omega) e4).mn z1]; simp only [obs]
        rw [I3_add, I3_sub (by omega), show vp + (hpl g0 z).length - o = vp + m.length by omega, e5]; simp only [obs]
        rw [f1]; rfl
      by_cases q : hrs g0 y = 0
      · rw [if_pos q] at e3 ⊢
        have := fin 1 (by rw [gone_0 q])
        rw [e3] at this; exact this
      · rw [if_neg q] at e3 ⊢
        rw [Gk1.rs F.x1, er]; simp only [obs]
        rw [show F_299 (hrs g0 y) k1 = some (sm_wJ (sm_wI k1 67 48 (zk (hrs g0 y))) 67 49 0) by rw [hI]; exact R_zero rk20]; simp only [obs]
        rw [show F_342 ((sm_wJ (sm_wI k1 67 48 (zk (hrs g0 y))) 67 49 0).1 67 48) ((sm_wJ (sm_wI k1 67 48 (zk (hrs g0 y))) 67 49 0).2.1 67 49) (sm_wJ (sm_wI k1 67 48 (zk (hrs g0 y))) 67 49 0) = some k2 from e3]; simp only [obs]
        exact fin 2 (by rw [gone_n q])
  obtain ⟨u, e1, e2⟩ := M
  refine Ends_step (step_enter (by omega) F.c64 F.c56 c63 ?_) ?_ (u' := u)
  · rw [R, q0]
    unfold F_370_514
    rw [I3_add, vx, el, b1]; simp only [obs]
    rw [e1]; rfl
  · have CC : ((F_94 rec (I3 x) (I3 d) h).bind fun q20 => some (q20.1, q20.2)) = ((rec (I3 y) (I3 (d + 1)) h').bind fun q11 => if q11.1 = 0 then (F_94_51 rec (I3 d) (I3 y) (I3 z) q11.1 q11.2) else (if q11.1 = 1 then (F_94_51 rec (I3 d) (I3 y) (I3 z) q11.1 q11.2) else (some (q11.1, q11.2)))) := by
      rw [bind_id, show F_94 rec (I3 x) (I3 d) h = F_94_0 rec (I3 x) (I3 d) h from rfl]
      unfold F_94_0
      rw [show F_43 (I3 x) 0 h = some (I3 y, h) by have := F.f43 (k := 0) (by omega); rw [ep] at this; exact this]; simp only [obs]
      rw [show F_43 (I3 x) 1 h = some (I3 z, h) by have := F.f43 (k := 1) (by omega); rw [ep] at this; exact this]; simp only [obs]
      rw [a1]; simp only [obs]
      rw [show I3 d + 1 = I3 (d + 1) from I3_add d 1]
    rw [CC]; exact e2
theorem B102_0 {x1 x2 a : Int32} {h : sm_H} (e38 : F_38 x1 h = some (a, h)) (e37 : F_37 x1 h = some (I3 0, h)) : F_102 x1 x2 h = ((F_40 x1 h).bind fun q11 =>
  (F_153 a q11.1 q11.2).bind fun q12 =>
  (F_40 x1 q12.2).bind fun q13 =>
  (F_154 a q13.1 q13.2).bind fun q14 =>
  (F_75 q12.1 q14.1 q14.2).bind fun q15 =>
  some (q15.1, q15.2)) := by
  show F_102_0 x1 x2 h = _
  unfold F_102_0
  rw [e38]; simp only [obs]
  rw [e37]; simp only [obs]
  rw [if_pos (show (I3 0 : Int32) = 0 by decide)]
theorem B102_1 {x1 x2 a : Int32} {h : sm_H} (e38 : F_38 x1 h = some (a, h)) (e37 : F_37 x1 h = some (I3 1, h)) : F_102 x1 x2 h = ((F_43 x1 0 h).bind fun q16 =>
  (F_75 (Int32.toInt64 q16.1) 18 q16.2).bind fun q17 =>
  some (q17.1, q17.2)) := by
  show F_102_0 x1 x2 h = _
  unfold F_102_0
  rw [e38]; simp only [obs]
  rw [e37]; simp only [obs]
  rw [if_neg (show ¬ (I3 1 : Int32) = 0 by decide), if_pos (show (I3 1 : Int32) = 1 by decide)]
theorem B102_2 {x1 x2 a : Int32} {h : sm_H} (e38 : F_38 x1 h = some (a, h)) (e37 : F_37 x1 h = some (I3 2, h)) : F_102 x1 x2 h = ((F_77 x2 0 h).bind fun q18 =>
  (F_78 x2 0 q18.2).bind fun q19 =>
  (F_75 q18.1 q19.1 q19.2).bind fun q20 =>
  some (q20.1, q20.2)) := by
  show F_102_0 x1 x2 h = _
  unfold F_102_0
  rw [e38]; simp only [obs]
  rw [e37]; simp only [obs]
  rw [if_neg (show ¬ (I3 2 : Int32) = 0 by decide), if_neg (show ¬ (I3 2 : Int32) = 1 by decide), if_pos (show (I3 2 : Int32) = 2 by decide)]
theorem B102_3 {x1 x2 a : Int32} {h : sm_H} (e38 : F_38 x1 h = some (a, h)) (e37 : F_37 x1 h = some (I3 3, h)) : F_102 x1 x2 h = ((F_39 x1 h).bind fun q21 =>
  if q21.1 = 6 then (F_102_267  x2 a 1 q21.2)
  else (F_102_267  x2 a 0 q21.2)) := by
  show F_102_0 x1 x2 h = _
  unfold F_102_0
  rw [e38]; simp only [obs]
  rw [e37]; simp only [obs]
  rw [if_neg (show ¬ (I3 3 : Int32) = 0 by decide), if_neg (show ¬ (I3 3 : Int32) = 1 by decide), if_neg (show ¬ (I3 3 : Int32) = 2 by decide), if_pos (show (I3 3 : Int32) = 3 by decide)]
theorem B102_19 {x1 x2 a : Int32} {h : sm_H} (e38 : F_38 x1 h = some (a, h)) (e37 : F_37 x1 h = some (I3 19, h)) : F_102 x1 x2 h = ((F_77 x2 0 h).bind fun q22 =>
  (F_78 x2 0 q22.2).bind fun q23 =>
  (F_75 q22.1 q23.1 q23.2).bind fun q24 =>
  if (q24.2.1 49 10) = 0 then ((F_76 1 q24.2).bind fun q25 =>
  F_102_316  q25.1 q25.2)
  else (F_102_316  1 q24.2)) := by
  show F_102_0 x1 x2 h = _
  unfold F_102_0
  rw [e38]; simp only [obs]
  rw [e37]; simp only [obs]
  rw [if_neg (show ¬ (I3 19 : Int32) = 0 by decide), if_neg (show ¬ (I3 19 : Int32) = 1 by decide), if_neg (show ¬ (I3 19 : Int32) = 2 by decide), if_neg (show ¬ (I3 19 : Int32) = 3 by decide), if_pos (show (I3 19 : Int32) = 19 by decide)]
theorem B102_20 {x1 x2 a : Int32} {h : sm_H} (e38 : F_38 x1 h = some (a, h)) (e37 : F_37 x1 h = some (I3 20, h)) : F_102 x1 x2 h = ((F_77 x2 0 h).bind fun q26 =>
  (F_107 a (Int64.toInt32 q26.1) q26.2).bind fun q27 =>
  some (q27.1, q27.2)) := by
  show F_102_0 x1 x2 h = _
  unfold F_102_0
  rw [e38]; simp only [obs]
  rw [e37]; simp only [obs]
  rw [if_neg (show ¬ (I3 20 : Int32) = 0 by decide), if_neg (show ¬ (I3 20 : Int32) = 1 by decide), if_neg (show ¬ (I3 20 : Int32) = 2 by decide), if_neg (show ¬ (I3 20 : Int32) = 3 by decide), if_neg (show ¬ (I3 20 : Int32) = 19 by decide), if_pos (show (I3 20 : Int32) = 20 by decide)]
theorem B102_21 {x1 x2 a : Int32} {h : sm_H} (e38 : F_38 x1 h = some (a, h)) (e37 : F_37 x1 h = some (I3 21, h)) : F_102 x1 x2 h = ((F_78 x2 0 h).bind fun q28 =>
  if q28.1 = 0 then ((F_76 1 q28.2).bind fun q34 =>
  some (q34.1, q34.2))
  else ((F_77 x2 0 q28.2).bind fun q29 =>
  (F_147 q29.1 q29.2).bind fun q30 =>
  if ¬ (sm_is G0 q30.2 q30.1 8 = true) then none else (F_216 q30.1 q30.2).bind fun q31 =>
  (F_75 (Int32.toInt64 q31.1) 0 q31.2).bind fun q33 =>
  some (q33.1, q33.2))) := by
  show F_102_0 x1 x2 h = _
  unfold F_102_0
  rw [e38]; simp only [obs]
  rw [e37]; simp only [obs]
  rw [if_neg (show ¬ (I3 21 : Int32) = 0 by decide), if_neg (show ¬ (I3 21 : Int32) = 1 by decide), if_neg (show ¬ (I3 21 : Int32) = 2 by decide), if_neg (show ¬ (I3 21 : Int32) = 3 by decide), if_neg (show ¬ (I3 21 : Int32) = 19 by decide), if_neg (show ¬ (I3 21 : Int32) = 20 by decide), if_pos (show (I3 21 : Int32) = 21 by decide)]
theorem B102_22 {x1 x2 a : Int32} {h : sm_H} (e38 : F_38 x1 h = some (a, h)) (e37 : F_37 x1 h = some (I3 22, h)) : F_102 x1 x2 h = (F_102_368  x1 x2 h) := by
  show F_102_0 x1 x2 h = _
  unfold F_102_0
  rw [e38]; simp only [obs]
  rw [e37]; simp only [obs]
  rw [if_neg (show ¬ (I3 22 : Int32) = 0 by decide), if_neg (show ¬ (I3 22 : Int32) = 1 by decide), if_neg (show ¬ (I3 22 : Int32) = 2 by decide), if_neg (show ¬ (I3 22 : Int32) = 3 by decide), if_neg (show ¬ (I3 22 : Int32) = 19 by decide), if_neg (show ¬ (I3 22 : Int32) = 20 by decide), if_neg (show ¬ (I3 22 : Int32) = 21 by decide), if_pos (show (I3 22 : Int32) = 22 by decide)]
theorem B102_23 {x1 x2 a : Int32} {h : sm_H} (e38 : F_38 x1 h = some (a, h)) (e37 : F_37 x1 h = some (I3 23, h)) : F_102 x1 x2 h = (F_102_368  x1 x2 h) := by
  show F_102_0 x1 x2 h = _
  unfold F_102_0
  rw [e38]; simp only [obs]
  rw [e37]; simp only [obs]
  rw [if_neg (show ¬ (I3 23 : Int32) = 0 by decide), if_neg (show ¬ (I3 23 : Int32) = 1 by decide), if_neg (show ¬ (I3 23 : Int32) = 2 by decide), if_neg (show ¬ (I3 23 : Int32) = 3 by decide), if_neg (show ¬ (I3 23 : Int32) = 19 by decide), if_neg (show ¬ (I3 23 : Int32) = 20 by decide), if_neg (show ¬ (I3 23 : Int32) = 21 by decide), if_neg (show ¬ (I3 23 : Int32) = 22 by decide), if_pos (show (I3 23 : Int32) = 23 by decide)]
theorem B102_24 {x1 x2 a : Int32} {h : sm_H} (e38 : F_38 x1 h = some (a, h)) (e37 : F_37 x1 h = some (I3 24, h)) : F_102 x1 x2 h = (F_102_368  x1 x2 h) := by
  show F_102_0 x1 x2 h = _
  unfold F_102_0
  rw [e38]; simp only [obs]
  rw [e37]; simp only [obs]
  rw [if_neg (show ¬ (I3 24 : Int32) = 0 by decide), if_neg (show ¬ (I3 24 : Int32) = 1 by decide), if_neg (show ¬ (I3 24 : Int32) = 2 by decide), if_neg (show ¬ (I3 24 : Int32) = 3 by decide), if_neg (show ¬ (I3 24 : Int32) = 19 by decide), if_neg (show ¬ (I3 24 : Int32) = 20 by decide), if_neg (show ¬ (I3 24 : Int32) = 21 by decide), if_neg (show ¬ (I3 24 : Int32) = 22 by decide), if_neg (show ¬ (I3 24 : Int32) = 23 by decide), if_pos (show (I3 24 : Int32) = 24 by decide)]
theorem B102_25 {x1 x2 a : Int32} {h : sm_H} (e38 : F_38 x1 h = some (a, h)) (e37 : F_37 x1 h = some (I3 25, h)) : F_102 x1 x2 h = (F_102_368  x1 x2 h) := by
  show F_102_0 x1 x2 h = _
  unfold F_102_0
  rw [e38]; simp only [obs]
  rw [e37]; simp only [obs]
  rw [if_neg (show ¬ (I3 25 : Int32) = 0 by decide), if_neg (show ¬ (I3 25 : Int32) = 1 by decide), if_neg (show ¬ (I3 25 : Int32) = 2 by decide), if_neg (show ¬ (I3 25 : Int32) = 3 by decide), if_neg (show ¬ (I3 25 : Int32) = 19 by decide), if_neg (show ¬ (I3 25 : Int32) = 20 by decide), if_neg (show ¬ (I3 25 : Int32) = 21 by decide), if_neg (show ¬ (I3 25 : Int32) = 22 by decide), if_neg (show ¬ (I3 25 : Int32) = 23 by decide), if_neg (show ¬ (I3 25 : Int32) = 24 by decide), if_pos (show (I3 25 : Int32) = 25 by decide)]
theorem B102_26 {x1 x2 a : Int32} {h : sm_H} (e38 : F_38 x1 h = some (a, h)) (e37 : F_37 x1 h = some (I3 26, h)) : F_102 x1 x2 h = (F_102_368  x1 x2 h) := by
  show F_102_0 x1 x2 h = _
  unfold F_102_0
  rw [e38]; simp only [obs]
  rw [e37]; simp only [obs]
  rw [if_neg (show ¬ (I3 26 : Int32) = 0 by decide), if_neg (show ¬ (I3 26 : Int32) = 1 by decide), if_neg (show ¬ (I3 26 : Int32) = 2 by decide), if_neg (show ¬ (I3 26 : Int32) = 3 by decide), if_neg (show ¬ (I3 26 : Int32) = 19 by decide), if_neg (show ¬ (I3 26 : Int32) = 20 by decide), if_neg (show ¬ (I3 26 : Int32) = 21 by decide), if_neg (show ¬ (I3 26 : Int32) = 22 by decide), if_neg (show ¬ (I3 26 : Int32) = 23 by decide), if_neg (show ¬ (I3 26 : Int32) = 24 by decide), if_neg (show ¬ (I3 26 : Int32) = 25 by decide), if_pos (show (I3 26 : Int32) = 26 by decide)]
theorem B102_31 {x1 x2 a : Int32} {h : sm_H} (e38 : F_38 x1 h = some (a, h)) (e37 : F_37 x1 h = some (I3 31, h)) : F_102 x1 x2 h = ((F_78 x2 0 h).bind fun q35 =>
  if q35.1 = 0 then (F_102_406  q35.2)
  else ((F_78 x2 0 q35.2).bind fun q36 =>
  (F_60 q36.1 a q36.2).bind fun q37 =>
  if q37.1 = 0 then (F_102_406  q37.2)
  else (F_102_407  1 q37.2))) := by
  show F_102_0 x1 x2 h = _
  unfold F_102_0
  rw [e38]; simp only [obs]
  rw [e37]; simp only [obs]
  rw [if_neg (show ¬ (I3 31 : Int32) = 0 by decide), if_neg (show ¬ (I3 31 : Int32) = 1 by decide), if_neg (show ¬ (I3 31 : Int32) = 2 by decide), if_neg (show ¬ (I3 31 : Int32) = 3 by decide), if_neg (show ¬ (I3 31 : Int32) = 19 by decide), if_neg (show ¬ (I3 31 : Int32) = 20 by decide), if_neg (show ¬ (I3 31 : Int32) = 21 by decide), if_neg (show ¬ (I3 31 : Int32) = 22 by decide), if_neg (show ¬ (I3 31 : Int32) = 23 by decide), if_neg (show ¬ (I3 31 : Int32) = 24 by decide), if_neg (show ¬ (I3 31 : Int32) = 25 by decide), if_neg (show ¬ (I3 31 : Int32) = 26 by decide), if_pos (show (I3 31 : Int32) = 31 by decide)]
theorem B102_32 {x1 x2 a : Int32} {h : sm_H} (e38 : F_38 x1 h = some (a, h)) (e37 : F_37 x1 h = some (I3 32, h)) : F_102 x1 x2 h = ((F_103 x2 h).bind fun q38 =>
  if q38.1 = 0 then (F_102_426  0 q38.2)
  else (F_102_426  1 q38.2)) := by
  show F_102_0 x1 x2 h = _
  unfold F_102_0
  rw [e38]; simp only [obs]
  rw [e37]; simp only [obs]
  rw [if_neg (show ¬ (I3 32 : Int32) = 0 by decide), if_neg (show ¬ (I3 32 : Int32) = 1 by decide), if_neg (show ¬ (I3 32 : Int32) = 2 by decide), if_neg (show ¬ (I3 32 : Int32) = 3 by decide), if_neg (show ¬ (I3 32 : Int32) = 19 by decide), if_neg (show ¬ (I3 32 : Int32) = 20 by decide), if_neg (show ¬ (I3 32 : Int32) = 21 by decide), if_neg (show ¬ (I3 32 : Int32) = 22 by decide), if_neg (show ¬ (I3 32 : Int32) = 23 by decide), if_neg (show ¬ (I3 32 : Int32) = 24 by decide), if_neg (show ¬ (I3 32 : Int32) = 25 by decide), if_neg (show ¬ (I3 32 : Int32) = 26 by decide), if_neg (show ¬ (I3 32 : Int32) = 31 by decide), if_pos (show (I3 32 : Int32) = 32 by decide)]
theorem B102_33 {x1 x2 a : Int32} {h : sm_H} (e38 : F_38 x1 h = some (a, h)) (e37 : F_37 x1 h = some (I3 33, h)) : F_102 x1 x2 h = ((F_78 x2 0 h).bind fun q39 =>
  if q39.1 = 0 then ((F_76 1 q39.2).bind fun q42 =>
  some (q42.1, q42.2))
  else ((F_78 x2 0 q39.2).bind fun q40 =>
  if q40.1 = 19 then ((F_77 x2 0 q40.2).bind fun q41 =>
  F_102_468  q41.1 q41.2)
  else (F_102_468  0 q40.2))) := by
  show F_102_0 x1 x2 h = _
  unfold F_102_0
  rw [e38]; simp only [obs]
  rw [e37]; simp only [obs]
  rw [if_neg (show ¬ (I3 33 : Int32) = 0 by decide), if_neg (show ¬ (I3 33 : Int32) = 1 by decide), if_neg (show ¬ (I3 33 : Int32) = 2 by decide), if_neg (show ¬ (I3 33 : Int32) = 3 by decide), if_neg (show ¬ (I3 33 : Int32) = 19 by decide), if_neg (show ¬ (I3 33 : Int32) = 20 by decide), if_neg (show ¬ (I3 33 : Int32) = 21 by decide), if_neg (show ¬ (I3 33 : Int32) = 22 by decide), if_neg (show ¬ (I3 33 : Int32) = 23 by decide), if_neg (show ¬ (I3 33 : Int32) = 24 by decide), if_neg (show ¬ (I3 33 : Int32) = 25 by decide), if_neg (show ¬ (I3 33 : Int32) = 26 by decide), if_neg (show ¬ (I3 33 : Int32) = 31 by decide), if_neg (show ¬ (I3 33 : Int32) = 32 by decide), if_pos (show (I3 33 : Int32) = 33 by decide)]
theorem B102_34 {x1 x2 a : Int32} {h : sm_H} (e38 : F_38 x1 h = some (a, h)) (e37 : F_37 x1 h = some (I3 34, h)) : F_102 x1 x2 h = (F_102_480  h) := by
  show F_102_0 x1 x2 h = _
  unfold F_102_0
  rw [e38]; simp only [obs]
  rw [e37]; simp only [obs]
  rw [if_neg (show ¬ (I3 34 : Int32) = 0 by decide), if_neg (show ¬ (I3 34 : Int32) = 1 by decide), if_neg (show ¬ (I3 34 : Int32) = 2 by decide), if_neg (show ¬ (I3 34 : Int32) = 3 by decide), if_neg (show ¬ (I3 34 : Int32) = 19 by decide), if_neg (show ¬ (I3 34 : Int32) = 20 by decide), if_neg (show ¬ (I3 34 : Int32) = 21 by decide), if_neg (show ¬ (I3 34 : Int32) = 22 by decide), if_neg (show ¬ (I3 34 : Int32) = 23 by decide), if_neg (show ¬ (I3 34 : Int32) = 24 by decide), if_neg (show ¬ (I3 34 : Int32) = 25 by decide), if_neg (show ¬ (I3 34 : Int32) = 26 by decide), if_neg (show ¬ (I3 34 : Int32) = 31 by decide), if_neg (show ¬ (I3 34 : Int32) = 32 by decide), if_neg (show ¬ (I3 34 : Int32) = 33 by decide), if_neg (show ¬ (I3 34 : Int32) = 35 by decide)]
theorem B102_35 {x1 x2 a : Int32} {h : sm_H} (e38 : F_38 x1 h = some (a, h)) (e37 : F_37 x1 h = some (I3 35, h)) : F_102 x1 x2 h = ((F_109 x1 x2 h).bind fun q43 =>
  some (q43.1, q43.2)) := by
  show F_102_0 x1 x2 h = _
  unfold F_102_0
  rw [e38]; simp only [obs]
  rw [e37]; simp only [obs]
  rw [if_neg (show ¬ (I3 35 : Int32) = 0 by decide), if_neg (show ¬ (I3 35 : Int32) = 1 by decide), if_neg (show ¬ (I3 35 : Int32) = 2 by decide), if_neg (show ¬ (I3 35 : Int32) = 3 by decide), if_neg (show ¬ (I3 35 : Int32) = 19 by decide), if_neg (show ¬ (I3 35 : Int32) = 20 by decide), if_neg (show ¬ (I3 35 : Int32) = 21 by decide), if_neg (show ¬ (I3 35 : Int32) = 22 by decide), if_neg (show ¬ (I3 35 : Int32) = 23 by decide), if_neg (show ¬ (I3 35 : Int32) = 24 by decide), if_neg (show ¬ (I3 35 : Int32) = 25 by decide), if_neg (show ¬ (I3 35 : Int32) = 26 by decide), if_neg (show ¬ (I3 35 : Int32) = 31 by decide), if_neg (show ¬ (I3 35 : Int32) = 32 by decide), if_neg (show ¬ (I3 35 : Int32) = 33 by decide), if_pos (show (I3 35 : Int32) = 35 by decide)]
theorem okV_6 {g : sm_H} {v : Val} {k : Nat} (h1 : 1 ≤ k) (h2 : k ≤ 6) (h : okV g k v.1 v.2) : v.1 = I3 k ∧ okN k v.2 := by
  rcases h with ⟨a, b, c, e⟩ | ⟨a, b, c⟩ | ⟨a, b⟩
  · exact ⟨c, e⟩
  · omega
  · omega
theorem okV_7 {g : sm_H} {v : Val} {k : Nat} (wK : wfK g) (h7 : 7 ≤ k) (h : okV g k v.1 v.2) : (v = (0, 0) ∧ tag v.1 = 0) ∨ ∃ q, v.1 = I3 q ∧ 9 ≤ q ∧ q < 20 + nC g ∧ B g q k = true ∧ okO g q v.2 ∧ tag v.1 = v.1 ∧ v.1 ≠ 0 := by
  have h12 := wK.2.1
  rcases h with ⟨a, b, c, e⟩ | ⟨a, b, c⟩ | ⟨a, q, b, c, e, o⟩
  · omega
  · left; exact ⟨Prod.ext b c, by rw [b]; decide⟩
  · right
    have q9 := okO_7 o
    refine ⟨q, b, q9, c, e, o, ?_, ?_⟩
    · rw [b, tag_I (by omega) (by omega)]
    · rw [b, Ne, I3_lit, I3_inj (by omega) (by decide)]; omega
theorem run_0 {rec : Int32 → Int32 → sm_H → Option (Int32 × sm_H)} {d fuel s x vp : Nat} {vs : List Val} {h0 g0 h g : sm_H} (IH : CallOK (d + 1) rec) (F : Fr d fuel s x vp vs h0 g0 h g 0 (s + 1)) (c63 : g.1 67 63 = 0) (c59 : g.1 67 59 = I3 (vp + vs.length)) (eh : sm_wI h0 49 8 (h0.1 49 8 + 1) = h) (lf : h0.1 49 8 < h0.1 49 7) (f : fm g0 x = 0) : Ends d fuel s vp (tn (hrs g0 x)) h0 g0 0 (F_82R rec (I3 x) (I3 d) h0) g := by
  have d1 := F.d1
  have v10 := F.v10
  have x500 := F.x500
  have vl := F.vl
  have vx := F.vx
  have fs := F.fs0
  rw [f] at fs
  have C := B82_0 (rec := rec) (x1 := I3 x) (x2 := I3 d) (by rw [I3_lit, I3_lt (by omega) (by decide)]; omega) lf eh (f ▸ F.f37)
  rw [C]
  have R := B370_0 F.c56 F.l103 F.l105 F.l305 F.l77 F.l78 F.l81 F.l81' (f ▸ F.l75)
  obtain ⟨ep, el, er, k, k0, k1, ea, ok⟩ := FS_0 fs
  have kg : k < 20 + nC g := by rw [m_nC F.ar]; exact k1
  obtain ⟨v1, v2, v3, g2, w4, w5, w6, w7⟩ := constV F.m.k (c := g0.2.1 79 x) kg (okK_m F.ar ok)
  have h12 := F.m.k.1.2.1
  have rk : tn (hrs g0 x) = k := by rw [er, ea, tnI (by omega)]
  have F2 := Fr_48 F w5
  obtain ⟨u, h', e1, e2, e3⟩ := Fr_give (rk := tn (hrs g0 x)) F2 (conV g k (g0.2.1 79 x)).1 (conV g k (g0.2.1 79 x)).2 (by rw [rk]; exact okV_grow F.m.k.1 (grow_N (agr_mono (fun b j z => by unfold S48 at z; unfold SN; omega) w5)) v1)
  have CC : F_82_367 rec (I3 x) (I3 d) h = some (0, h') := by
    unfold F_82_367
    rw [bind_id, B102_0 (F.f38) (f ▸ F.f37), F.f40, ea]; simp only [obs]
    rw [v2]; simp only [obs]
    rw [F.f40]; simp only [obs]
    rw [v3]; simp only [obs]
    rw [e2]; rfl
  rw [CC]
  refine Ends_step (step_enter (by omega) F.c64 F.c56 c63 ?_) e3
  rw [R, F.l79]; simp only [obs]
  rw [ea, w4]; simp only [obs]
  rw [w6, w7, e1]; rfl
theorem run_1 {rec : Int32 → Int32 → sm_H → Option (Int32 × sm_H)} {d fuel s x vp : Nat} {vs : List Val} {h0 g0 h g : sm_H} (IH : CallOK (d + 1) rec) (F : Fr d fuel s x vp vs h0 g0 h g 0 (s + 1)) (c63 : g.1 67 63 = 0) (c59 : g.1 67 59 = I3 (vp + vs.length)) (eh : sm_wI h0 49 8 (h0.1 49 8 + 1) = h) (lf : h0.1 49 8 < h0.1 49 7) (f : fm g0 x = 1) : Ends d fuel s vp (tn (hrs g0 x)) h0 g0 0 (F_82R rec (I3 x) (I3 d) h0) g := by
  have d1 := F.d1
  have v10 := F.v10
  have x500 := F.x500
  have vl := F.vl
  have vx := F.vx
  have fs := F.fs0
  rw [f] at fs
  have C := B82_1 (rec := rec) (x1 := I3 x) (x2 := I3 d) (by rw [I3_lit, I3_lt (by omega) (by decide)]; omega) lf eh (f ▸ F.f37)
  rw [C]
  have R := B370_1 F.c56 F.l103 F.l105 F.l305 F.l77 F.l78 F.l81 F.l81' (f ▸ F.l75)
  obtain ⟨⟨y, y1, ep⟩, er, el⟩ := FS_1 fs
  have w500 : nH g ≤ 500 := F.m.k.2.2.2.2.1.1.2
  have y1' : y < nH g := by rw [m_nH F.ar]; exact y1
  have pl1 : (prt g0 x).length = 1 := by rw [ep]; rfl
  have e81 : g0.1 81 (24 * x) = I3 y := by have := F.at81 (k := 0) (by omega); rw [ep] at this; exact this
  obtain ⟨u, h', e1, e2, e3⟩ := Fr_give (rk := tn (hrs g0 x)) F 18 (Int32.toInt64 (I3 y)) (by
    rw [er, show tn (18 : Int32) = 18 from rfl]
    exact Or.inr (Or.inr ⟨by decide, 18, rfl, by omega, B_self g 12 18, Or.inr (Or.inr (Or.inl ⟨rfl, y, y1', I3_64 (by omega)⟩))⟩))
  have CC : F_82_367 rec (I3 x) (I3 d) h = some (0, h') := by
    unfold F_82_367
    rw [bind_id, B102_1 (F.f38) (f ▸ F.f37), show F_43 (I3 x) 0 h = some (I3 y, h) by have := F.f43 (k := 0) (by omega); rw [ep] at this; exact this]; simp only [obs]
    rw [show F_75 (Int32.toInt64 (I3 y)) 18 h = some (0, h') from e2]; rfl
  rw [CC]
  refine Ends_step (step_enter (by omega) F.c64 F.c56 c63 ?_) e3
  rw [R, e81, e1]; rfl
theorem run_2 {rec : Int32 → Int32 → sm_H → Option (Int32 × sm_H)} {d fuel s x vp : Nat} {vs : List Val} {h0 g0 h g : sm_H} (IH : CallOK (d + 1) rec) (F : Fr d fuel s x vp vs h0 g0 h g 0 (s + 1)) (c63 : g.1 67 63 = 0) (c59 : g.1 67 59 = I3 (vp + vs.length)) (eh : sm_wI h0 49 8 (h0.1 49 8 + 1) = h) (lf : h0.1 49 8 < h0.1 49 7) (f : fm g0 x = 2) : Ends d fuel s vp (tn (hrs g0 x)) h0 g0 0 (F_82R rec (I3 x) (I3 d) h0) g := by
  have d1 := F.d1
  have v10 := F.v10
  have x500 := F.x500
  have vl := F.vl
  have vx := F.vx
  have fs := F.fs0
  rw [f] at fs
  have C := B82_2 (rec := rec) (x1 := I3 x) (x2 := I3 d) (by rw [I3_lit, I3_lt (by omega) (by decide)]; omega) lf eh (f ▸ F.f37)
  rw [C]
  have R := B370_2 F.c56 F.l103 F.l105 F.l305 F.l77 F.l78 F.l81 F.l81' (f ▸ F.l75)
  obtain ⟨ep, el, er, k, k0, k1, ea⟩ := FS_2 fs
  have v1 : 0 < vs.length := by rw [vx, el]; exact Nat.zero_lt_succ _
  have ok := F.ty.2 0 v1
  rw [el, show at0 [g0.1 77 x] 0 = g0.1 77 x from rfl, ← er] at ok
  obtain ⟨u, h', e1, e2, e3⟩ := Fr_give (rk := tn (hrs g0 x)) F (atv vs 0).1 (atv vs 0).2 ok
  have CC : F_82_367 rec (I3 x) (I3 d) h = some (0, h') := by
    unfold F_82_367
    rw [bind_id, B102_2 (F.f38) (f ▸ F.f37), show F_77 (I3 d) 0 h = _ from F.c77 (i := 0) v1]; simp only [obs]
    rw [show F_78 (I3 d) 0 h = _ from F.c78 (i := 0) v1]; simp only [obs]
    rw [e2]; rfl
  rw [CC]
  refine Ends_step (step_enter (by omega) F.c64 F.c56 c63 ?_) e3
  rw [R, show F_351 0 g = _ from F.k351 (i := 0) v1]; simp only [obs]
  rw [show F_352 0 g = _ from F.k352 (i := 0) v1]; simp only [obs]
  rw [e1]; rfl
theorem run_34 {rec : Int32 → Int32 → sm_H → Option (Int32 × sm_H)} {d fuel s x vp : Nat} {vs : List Val} {h0 g0 h g : sm_H} (IH : CallOK (d + 1) rec) (F : Fr d fuel s x vp vs h0 g0 h g 0 (s + 1)) (c63 : g.1 67 63 = 0) (c59 : g.1 67 59 = I3 (vp + vs.length)) (eh : sm_wI h0 49 8 (h0.1 49 8 + 1) = h) (lf : h0.1 49 8 < h0.1 49 7) (f : fm g0 x = 34) : Ends d fuel s vp (tn (hrs g0 x)) h0 g0 0 (F_82R rec (I3 x) (I3 d) h0) g := by
  have d1 := F.d1
  have v10 := F.v10
  have x500 := F.x500
  have vl := F.vl
  have vx := F.vx
  have fs := F.fs0
  rw [f] at fs
  have C := B82_34 (rec := rec) (x1 := I3 x) (x2 := I3 d) (by rw [I3_lit, I3_lt (by omega) (by decide)]; omega) lf eh (f ▸ F.f37)
  rw [C]
  have R := B370_34 F.c56 F.l103 F.l105 F.l305 F.l77 F.l78 F.l81 F.l81' (f ▸ F.l75)
  obtain ⟨ep, t, t1, eb, er, el⟩ := FS_34 fs
  have h12 := F.m.k.1.2.1
  obtain ⟨q, q1, q2⟩ := rs_k F.m.k F.hx
  rw [m_hrs F.ar] at q1
  have z := okV_zk (g := g) (q := q) (by omega)
  obtain ⟨u, h', e1, e2, e3⟩ := Fr_give (rk := tn (hrs g0 x)) (Fr_48 F (g' := sm_wJ (sm_wI g 67 48 (zk (I3 q))) 67 49 0) (agr_wJ (agr_wI agr_rfl (by unfold S48; omega)) (by unfold S48; omega))) (zk (I3 q)) 0 (by rw [q1, tnI (by omega)]; exact okV_grow F.m.k.1 (grow_N (agr_wJ (agr_wI agr_rfl (by unfold SN; omega)) (by unfold SN; omega))) z)
  rw [tag_zk] at e2
  have CC : F_82_367 rec (I3 x) (I3 d) h = some (0, h') := by
    unfold F_82_367
    rw [bind_id, B102_34 (F.f38) (f ▸ F.f37)]
    unfold F_102_480
    rw [e2]; rfl
  rw [CC]
  refine Ends_step (step_enter (by omega) F.c64 F.c56 c63 ?_) e3
  rw [R, F.rs F.x1, q1]; simp only [obs]
  rw [show F_346 (I3 q) g = F_346_0 (I3 q) g from rfl]
  unfold F_346_0
  rw [R_zero (by omega)]; simp only [obs]
  rw [show F_345 ((sm_wJ (sm_wI g 67 48 (zk (I3 q))) 67 49 0).1 67 48) ((sm_wJ (sm_wI g 67 48 (zk (I3 q))) 67 49 0).2.1 67 49) (sm_wJ (sm_wI g 67 48 (zk (I3 q))) 67 49 0) = some u from e1]; rfl
theorem run_19 {rec : Int32 → Int32 → sm_H → Option (Int32 × sm_H)} {d fuel s x vp : Nat} {vs : List Val} {h0 g0 h g : sm_H} (IH : CallOK (d + 1) rec) (F : Fr d fuel s x vp vs h0 g0 h g 0 (s + 1)) (c63 : g.1 67 63 = 0) (c59 : g.1 67 59 = I3 (vp + vs.length)) (eh : sm_wI h0 49 8 (h0.1 49 8 + 1) = h) (lf : h0.1 49 8 < h0.1 49 7) (f : fm g0 x = 19) : Ends d fuel s vp (tn (hrs g0 x)) h0 g0 0 (F_82R rec (I3 x) (I3 d) h0) g := by
  have d1 := F.d1
  have v10 := F.v10
  have x500 := F.x500
  have vl := F.vl
  have vx := F.vx
  have fs := F.fs0
  rw [f] at fs
  have C := B82_19 (rec := rec) (x1 := I3 x) (x2 := I3 d) (by rw [I3_lit, I3_lt (by omega) (by decide)]; omega) lf eh (f ▸ F.f37)
  rw [C]
  have R := B370_19 F.c56 F.l103 F.l105 F.l305 F.l77 F.l78 F.l81 F.l81' (f ▸ F.l75)
  obtain ⟨ep, k, e, k1, ea, e1', eb, be, er, el⟩ := FS_19 fs
  have h12 := F.m.k.1.2.1
  have nC0 : nC g0 = nC g := (m_nC F.ar).symm
  have v1 : 0 < vs.length := by rw [vx, el]; exact Nat.zero_lt_succ _
  have ok := F.ty.2 0 v1
  rw [el, show at0 [g0.1 78 x] 0 = g0.1 78 x from rfl, eb, tnI (by omega)] at ok
  have e19 : e = 19 ∨ 20 ≤ e := by
    by_cases q : 20 ≤ e
    · exact Or.inr q
    · have z : B g0 e 19 = kBase e 19 := bel_lt20 g0 12 e 19 (by omega)
      rw [be, kB_eq (by decide) (by decide), eq_comm, decide_eq_true_eq] at z
      exact Or.inl z
  have e7 : 7 ≤ e := by omega
  have a : agr (SC1 d) h (sm_wI (sm_wJ h 49 9 (atv vs 0).2) 49 10 (tag (atv vs 0).1)) := agr_wI (agr_wJ agr_rfl (by unfold SC1; omega)) (by unfold SC1; omega)
  have F2 := Fr_h F a rfl
  have C0 : F_82_367 rec (I3 x) (I3 d) h = (if tag (atv vs 0).1 = 0 then ((F_76 1 (sm_wI (sm_wJ h 49 9 (atv vs 0).2) 49 10 (tag (atv vs 0).1))).bind fun q25 => F_102_316 q25.1 q25.2) else (F_102_316 1 (sm_wI (sm_wJ h 49 9 (atv vs 0).2) 49 10 (tag (atv vs 0).1)))) := by
    unfold F_82_367
    rw [bind_id, B102_19 (F.f38) (f ▸ F.f37), show F_77 (I3 d) 0 h = _ from F.c77 (i := 0) v1]; simp only [obs]
    rw [show F_78 (I3 d) 0 h = _ from F.c78 (i := 0) v1]; simp only [obs]
    rw [show F_75 (atv vs 0).2 (tag (atv vs 0).1) h = some (0, sm_wI (sm_wJ h 49 9 (atv vs 0).2) 49 10 (tag (atv vs 0).1)) from rfl]; simp only [obs]
    rfl
  rw [C0]
  have k0 := F.k351 (i := 0) v1
  rcases okV_7 F.m.k.1 e7 ok with ⟨z1, z2⟩ | ⟨q, z1, z2, z3, z4, z5, z6, z7⟩
  · rw [if_pos z2]
    obtain ⟨u, h', f1, f2, f3⟩ := Fr_fail (rk := tn (hrs g0 x)) F2 1
    rw [f2]; simp only [obs]
    refine Ends_step (step_enter (by omega) F.c64 F.c56 c63 ?_) f3
    rw [R, show F_351 0 g = _ from k0, z1]; simp only [obs]
    rw [if_pos trivial, f1]; rfl
  · rw [if_neg (by rw [z6]; exact z7)]
    have bq : B g q 19 = true := by
      rcases e19 with z | z
      · rw [z] at z4; exact z4
      · exact B_trans F.m.k.1 z (by rw [m_B F.ar]; exact be) q z3 z4
    obtain ⟨u, f1, f2⟩ := Fr_threw (rk := tn (hrs g0 x)) F2 (atv vs 0).1 (atv vs 0).2 rfl rfl ⟨q, z1, z3, bq, z5⟩
    refine Ends_step (step_enter (by omega) F.c64 F.c56 c63 ?_) f2
    rw [R, show F_351 0 g = _ from k0]; simp only [obs]
    rw [if_neg z7, show F_351 0 g = _ from k0]; simp only [obs]
    rw [show F_352 0 g = _ from F.k352 (i := 0) v1]; simp only [obs]
    rw [f1]; rfl
theorem run_31 {rec : Int32 → Int32 → sm_H → Option (Int32 × sm_H)} {d fuel s x vp : Nat} {vs : List Val} {h0 g0 h g : sm_H} (IH : CallOK (d + 1) rec) (F : Fr d fuel s x vp vs h0 g0 h g 0 (s + 1)) (c63 : g.1 67 63 = 0) (c59 : g.1 67 59 = I3 (vp + vs.length)) (eh : sm_wI h0 49 8 (h0.1 49 8 + 1) = h) (lf : h0.1 49 8 < h0.1 49 7) (f : fm g0 x = 31) : Ends d fuel s vp (tn (hrs g0 x)) h0 g0 0 (F_82R rec (I3 x) (I3 d) h0) g := by
  have d1 := F.d1
  have v10 := F.v10
  have x500 := F.x500
  have vl := F.vl
  have vx := F.vx
  have fs := F.fs0
  rw [f] at fs
  have C := B82_31 (rec := rec) (x1 := I3 x) (x2 := I3 d) (by rw [I3_lit, I3_lt (by omega) (by decide)]; omega) lf eh (f ▸ F.f37)
  rw [C]
  have R := B370_31 F.c56 F.l103 F.l105 F.l305 F.l77 F.l78 F.l81 F.l81' (f ▸ F.l75)
  obtain ⟨ep, ⟨k, k7, k1, ea⟩, er, el⟩ := FS_31 fs
  have h12 := F.m.k.1.2.1
  have nC0 : nC g0 = nC g := (m_nC F.ar).symm
  have v1 : 0 < vs.length := by rw [vx, el]; exact Nat.zero_lt_succ _
  have ok := F.ty.2 0 v1
  rw [el, show at0 [(7 : Int32)] 0 = I3 7 from rfl, tnI (by decide)] at ok
  have k0 := F.k351 (i := 0) v1
  have t0 := F.c78 (i := 0) v1
  have C0 := B102_31 (x2 := I3 d) (F.f38) (f ▸ F.f37)
  rw [show F_78 (I3 d) 0 h = _ from t0, ea] at C0; simp only [obs] at C0
  have go : ∀ b : Bool, F_102 (I3 x) (I3 d) h = F_102_407 (b2 b).toInt64 h → F_370 g = (F_345 1 (b2 b).toInt64 g).bind (fun q => some q) → Ends d fuel s vp (tn (hrs g0 x)) h0 g0 0 (F_82_367 rec (I3 x) (I3 d) h) g := fun b z1 z2 => by
    obtain ⟨u, h', e1, e2, e3⟩ := Fr_give (rk := tn (hrs g0 x)) F 1 (b2 b).toInt64 (by
      rw [er, show tn (1 : Int32) = 1 from rfl]
      refine Or.inl ⟨by decide, by decide, rfl, ⟨fun _ => by (cases b; exact Or.inl rfl; exact Or.inr rfl), (fun z => by cases z), (fun z => by cases z), (fun z => by cases z), (fun z => by cases z)⟩⟩)
    have CC : F_82_367 rec (I3 x) (I3 d) h = some (0, h') := by
      unfold F_82_367
      rw [bind_id, z1]
      unfold F_102_407
      rw [show F_75 (b2 b).toInt64 0 h = some (0, h') from e2]; rfl
    rw [CC]
    refine Ends_step (step_enter (by omega) F.c64 F.c56 c63 ?_) e3
    rw [z2, e1]; rfl
  rcases okV_7 F.m.k.1 (by decide) ok with ⟨z1, z2⟩ | ⟨q, z1, z2, z3, z4, z5, z6, z7⟩
  · refine go false ?_ ?_
    · rw [C0, if_pos z2]; rfl
    · rw [R, show F_351 0 g = _ from k0, z1]; simp only [obs]
      rw [if_pos trivial]; rfl
  · have CB := C_belowN F.m.k.1 F.m.k.2.1 z3 (y := k) (by omega)
    have RB := R_below F.m.k.1 (x := q) (o := k) z3 (by omega)
    refine go (B g q k) ?_ ?_
    · rw [C0, if_neg (by rw [z6]; exact z7), show F_78 (I3 d) 0 h = _ from t0]; simp only [obs]
      rw [z6, z1, CB]; simp only [obs]
      cases B g q k <;> rfl
    · rw [R, show F_351 0 g = _ from k0]; simp only [obs]
      rw [if_neg z7, show F_351 0 g = _ from k0]; simp only [obs]
      rw [z1, ea, RB]; simp only [obs]
      cases B g q k <;> rfl
theorem run_33 {rec : Int32 → Int32 → sm_H → Option (Int32 × sm_H)} {d fuel s x vp : Nat} {vs : List Val} {h0 g0 h g : sm_H} (IH : CallOK (d + 1) rec) (F : Fr d fuel s x vp vs h0 g0 h g 0 (s + 1)) (c63 : g.1 67 63 = 0) (c59 : g.1 67 59 = I3 (vp + vs.length)) (eh : sm_wI h0 49 8 (h0.1 49 8 + 1) = h) (lf : h0.1 49 8 < h0.1 49 7) (f : fm g0 x = 33) : Ends d fuel s vp (tn (hrs g0 x)) h0 g0 0 (F_82R rec (I3 x) (I3 d) h0) g := by
  have d1 := F.d1
  have v10 := F.v10
  have x500 := F.x500
  have vl := F.vl
  have vx := F.vx
  have fs := F.fs0
  rw [f] at fs
  have C := B82_33 (rec := rec) (x1 := I3 x) (x2 := I3 d) (by rw [I3_lit, I3_lt (by omega) (by decide)]; omega) lf eh (f ▸ F.f37)
  rw [C]
  have R := B370_33 F.c56 F.l103 F.l105 F.l305 F.l77 F.l78 F.l81 F.l81' (f ▸ F.l75)
  obtain ⟨ep, er, el⟩ := FS_33 fs
  have h12 := F.m.k.1.2.1
  have v1 : 0 < vs.length := by rw [vx, el]; exact Nat.zero_lt_succ _
  have ok := F.ty.2 0 v1
  rw [el, show at0 [(19 : Int32)] 0 = I3 19 from rfl, tnI (by decide)] at ok
  have k0 := F.k351 (i := 0) v1
  have t0 := F.c78 (i := 0) v1
  have C0 := B102_33 (x2 := I3 d) (F.f38) (f ▸ F.f37)
  rw [show F_78 (I3 d) 0 h = _ from t0] at C0; simp only [obs] at C0
  rcases okV_7 F.m.k.1 (by decide) ok with ⟨z1, z2⟩ | ⟨q, z1, z2, z3, z4, z5, z6, z7⟩
  · rw [if_pos z2] at C0
    obtain ⟨u, h', f1, f2, f3⟩ := Fr_fail (rk := tn (hrs g0 x)) F 1
    rw [f2] at C0; simp only [obs] at C0
    have CC : F_82_367 rec (I3 x) (I3 d) h = some (1, h') := by unfold F_82_367; rw [bind_id, C0]
    rw [CC]
    refine Ends_step (step_enter (by omega) F.c64 F.c56 c63 ?_) f3
    rw [R, show F_351 0 g = _ from k0, z1]; simp only [obs]
    rw [if_pos trivial, f1]; rfl
  · rw [if_neg (by rw [z6]; exact z7), show F_78 (I3 d) 0 h = _ from t0] at C0; simp only [obs] at C0
    rw [z6] at C0
    have go : ∀ n : Int64, F_102 (I3 x) (I3 d) h = F_102_468 n h → okN 5 n → F_370 g = F_370_923 5 n g → Ends d fuel s vp (tn (hrs g0 x)) h0 g0 0 (F_82_367 rec (I3 x) (I3 d) h) g := fun n w1 w2 w3 => by
      obtain ⟨u, h', e1, e2, e3⟩ := Fr_give (rk := tn (hrs g0 x)) F 5 n (by rw [er, show tn (5 : Int32) = 5 from rfl]; exact Or.inl ⟨by decide, by decide, rfl, w2⟩)
      have CC : F_82_367 rec (I3 x) (I3 d) h = some (0, h') := by
        unfold F_82_367
        rw [bind_id, w1]
        unfold F_102_468
        rw [show F_75 n 0 h = some (0, h') from e2]; rfl
      rw [CC]
      refine Ends_step (step_enter (by omega) F.c64 F.c56 c63 ?_) e3
      rw [w3]
      unfold F_370_923
      rw [e1]; rfl
    by_cases q19 : (atv vs 0).1 = 19
    · rw [if_pos q19, show F_77 (I3 d) 0 h = _ from F.c77 (i := 0) v1] at C0; simp only [obs] at C0
      have qq : q = 19 := by rw [z1] at q19; exact (I3_inj (by omega) (by decide)).mp q19
      have rg : 0 ≤ (atv vs 0).2.toInt ∧ (atv vs 0).2.toInt ≤ 100 := by
        rcases z5 with w | w | w | w
        · omega
        · omega
        · omega
        · exact w.2
      refine go (atv vs 0).2 C0 ⟨fun z => by (cases z), fun z => by (cases z), fun z => by (cases z), fun z => by (cases z), fun _ => by omega⟩ ?_
      rw [R, show F_351 0 g = _ from k0]; simp only [obs]
      rw [if_neg z7, show F_351 0 g = _ from k0]; simp only [obs]
      rw [if_pos q19, show F_352 0 g = _ from F.k352 (i := 0) v1]; simp only [obs]
    · rw [if_neg q19] at C0
      refine go 0 C0 ⟨fun z => by (cases z), fun z => by (cases z), fun z => by (cases z), fun z => by (cases z), fun _ => by decide⟩ ?_
      rw [R, show F_351 0 g = _ from k0]; simp only [obs]
      rw [if_neg z7, show F_351 0 g = _ from k0]; simp only [obs]
      rw [if_neg q19]
