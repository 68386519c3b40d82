theorem run_12 {rec : Int32 → Int32 → sm_H → Option (Int32 × sm_H)} {d fuel s x vp : Nat} {vs : List Val} {h0 g0 h g : sm_H} (IH : CallOK (d + 1) rec) (F : Fr d fuel s x vp vs h0 g0 h g 0 (s + 1)) (c63 : g.1 67 63 = 0) (c59 : g.1 67 59 = I3 (vp + vs.length)) (eh : sm_wI h0 49 8 (h0.1 49 8 + 1) = h) (lf : h0.1 49 8 < h0.1 49 7) (f : fm g0 x = 12) : Ends d fuel s vp (tn (hrs g0 x)) h0 g0 0 (F_82R rec (I3 x) (I3 d) h0) g := by
  have d1 := F.d1
  have v10 := F.v10
  have x500 := F.x500
  have vl := F.vl
  have vx := F.vx
  have fs := F.fs0
  rw [f] at fs
  have C := B82_12 (rec := rec) (x1 := I3 x) (x2 := I3 d) (by rw [I3_lit, I3_lt (by omega) (by decide)]; omega) lf eh (f ▸ F.f37)
  rw [C]
  have R := B370_12 F.c56 F.l103 F.l105 F.l305 F.l77 F.l78 F.l81 F.l81' (f ▸ F.l75)
  obtain ⟨y, t, y1, ep, t1, eb, ms, er, el⟩ := FS_12 fs
  obtain ⟨m1, m2, m3⟩ := ms
  have h12 := F.m.k.1.2.1
  have t1' : t < nT g := by rw [m_nT F.ar]; exact t1
  have pl1 : (prt g0 x).length = 1 := by rw [ep]; rfl
  have e81 : g0.1 81 (24 * x) = I3 y := by have := F.at81 (k := 0) (by omega); rw [ep] at this; exact this
  have ly := hpl_len g0 y
  have lt := pl_len g0 t
  have lx : vs.length = (hpl g0 y).length := by rw [vx, el]; omega
  have hI : ∀ u, u < nT g0 → g0.1 72 u = I3 (tR g0 u) ∧ tR g0 u < 20 + nC g := fun u hu => by
    have z := (F.m.k.2.2.1.2.1 u (by rw [m_nT F.ar]; exact hu)).1
    rw [(m_c F.ar (show 70 ≤ 72 by decide) (by decide)).1] at z
    exact ⟨z.1, by have := z.2; show tn _ < _; omega⟩
  have tyy : ty g0 y < nT g0 := by rw [← m_nT F.ar, ← m_ty F.ar]; exact ty_lt F.m.k (by rw [m_nH F.ar]; exact y1)
  have CC : F_82_227 rec (I3 x) (I3 d) h = F_89 rec (I3 y) (I3 t) (I3 0) (I3 d) (b2 false) h := by
    unfold F_82_227 F_82_265
    rw [show F_43 (I3 x) 0 h = some (I3 y, h) by have := F.f43 (k := 0) (by omega); rw [ep] at this; exact this]; simp only [obs]
    rw [F.f39, eb]; simp only [obs]
    rw [F.f37, f]; simp only [obs]
    rw [if_neg (show ¬ (I3 12 : Int32) = 13 by decide), bind_id]; rfl
  have RR : F_370 g = F_370_570 (I3 y) (I3 y) (I3 t) (b2 false) g := by
    rw [R, eb, e81]
    unfold F_370_549
    rw [F.l75, f]; simp only [obs]
    rw [if_neg (show ¬ (I3 12 : Int32) = 13 by decide)]; rfl
  rw [CC]
  rcases asLoop rec F c59 (i := 0) false y1 t1 (by omega) (by omega) (fun k hk => by rw [Nat.zero_add, el]) (fun k hk => by have z := m2 k (by omega); rw [show tn (at0 (hpl g0 y) k) = tP g0 (ty g0 y) k by rw [at0_lst (by omega)]]; exact z) with ⟨h', g', ws, e1, e2, L, P, tw⟩ | ⟨e, h', g', ws, us, ee, e1, e2, L, P⟩
  · rw [e1]
    have Fh := Fr_Lz F L
    have M : ∃ u, F_350 (I3 y) 1 g' = some u ∧ Ends d fuel s vp (tn (hrs g0 x)) h0 g0 (0 + 1) (contA rec y t d false h') u := by
      refine midG IH Fh 1 y1 (Nat.le_refl _) (by omega) (Lz_Ly L) P tw (rk := tn (hrs g0 x)) (fun o h1 o1 o2 => if_neg (I3_ne0 (by omega) o2)) (fun out h1 g1 p1 s1 o1 G t59 t63 t62 t104 r kp _ => ?_)
      rcases (show out = 0 ∨ out = 1 by omega) with rfl | rfl
      · have G' := Fr_63 G
        rw [if_pos (show I3 0 = (0 : Int32) from rfl), show F_44 (I3 y) (I3 0, h1).2 = some (hrs g0 y, h1) from G.crs y1]; simp only [obs]
        rw [C_tres G.m.k.2.2.1 G.m.k.2.2.2.1 (by rw [m_nT G.ar]; exact t1), (m_c G.ar (show 70 ≤ 72 by decide) (by decide)).1]; simp only [obs]
        have iy := hI _ tyy
        have it := hI t t1
        have nC1 : nC g1 = nC g := by rw [m_nC G.ar, m_nC F.ar]
        have gx : F_377 g1 = F_377_497 (hrs g0 y) (hrs g0 x) (g1.1 67 60) (g1.2.1 67 61) (b2 false) (sm_wI g1 67 63 0) := by
          refine (go_1 G t62 t104 (X := fun h27 => F_377_465 (I3 x) (g0.1 81 (24 * x)) (g1.1 67 60) (g1.2.1 67 61) h27) (fun h27 _ v45 hv => by rw [← hv, f, if_neg (by decide), if_neg (by decide), if_neg (by decide), if_pos (by decide)])).trans ?_
          show F_377_465 (I3 x) (g0.1 81 (24 * x)) (g1.1 67 60) (g1.2.1 67 61) (sm_wI g1 67 63 0) = _
          unfold F_377_465
          rw [e81, G'.rs y1]; simp only [obs]
          rw [G'.rs F.x1]; simp only [obs]
          rw [G'.l75, f]; simp only [obs]
          rw [if_neg (show ¬ (I3 12 : Int32) = 13 by decide)]; rfl
        have okr := okV_grow G.m.k.1 (grow_N (agr_wI agr_rfl (show SN 67 63 by unfold SN; omega)) : grow g1 (sm_wI g1 67 63 0)) (r.2.2.1 rfl)
        rw [show tn (hrs g0 y) = tR g0 (ty g0 y) from rfl] at okr
        have mg : mayB (sm_wI g1 67 63 0) (tR g0 (ty g0 y)) (tR g0 t) false true = true := by
          have : ∀ a b, B (sm_wI g1 67 63 0) a b = B g0 a b := m_B G'.ar
          unfold mayB; unfold mayB at m3; simp only [this]; exact m3
        rw [show hrs g0 y = I3 (tR g0 (ty g0 y)) from iy.1, it.1]
        rw [show hrs g0 y = I3 (tR g0 (ty g0 y)) from iy.1, er, show rs g0 t = I3 (tR g0 t) from it.1] at gx
        have rkx : tn (hrs g0 x) = tR g0 t := by rw [er]
        rcases conv G'.m.k (a := tR g0 (ty g0 y)) (b := tR g0 t) (by show _ < 20 + nC g1; omega) (by show _ < 20 + nC g1; omega) false okr mg r.1 r.2.1 with ⟨h3, g3, z1, z2, z3⟩ | ⟨e, h3, g3, ee, z1, z2, z3, z4, z5⟩
        · rw [z1]; simp only [obs]
          rw [if_pos trivial]
          have G3 := Fr_48 (Fr_h G' (agr_mono (fun b j z => by unfold S910 at z; unfold SC1; omega) z3.c) z3.r) z3.a
          obtain ⟨u', f1, f2⟩ := Fr_pass (rk := tn (hrs g0 x)) G3 (g3.1 67 48) (g3.2.1 67 49) z3.n z3.t (by rw [rkx]; exact okV_grow G'.m.k.1 (grow_N (agr_mono (fun b j z => by unfold S48 at z; unfold SN; omega) z3.a)) z3.ok)
          refine Ends_step (step_goOn (by omega) G.c64 G.c56 t63 ?_) f2
          rw [gx]
          unfold F_377_497
          rw [z2]; simp only [obs]
          rw [if_pos trivial, f1]; rfl
        · have ne : ¬ e = 0 := by rcases ee with rfl | rfl <;> decide
          rw [z1]; simp only [obs]
          rw [if_neg ne]
          have G3 := Fr_48 (Fr_h G' (agr_mono (fun b j z => by unfold S910 at z; unfold SC1; omega) z4) z5) z3
          obtain ⟨u', h5, f1, f2, f3⟩ := Fr_fail (rk := tn (hrs g0 x)) G3 e (by rcases ee with rfl | rfl <;> decide)
          rw [f2]; simp only [obs]
          refine Ends_step (step_goOn (by omega) G.c64 G.c56 t63 ?_) f3
          rw [gx]
          unfold F_377_497
          rw [z2]; simp only [obs]
          rw [if_neg ne, f1]; rfl
      · rw [if_neg (I3_ne0 (o := 1) (by omega) (by omega))]
        exact thru G (Nat.le_refl 1) t63 t62 ⟨r.1, r.2.1, fun z => by (cases z), r.2.2.2⟩ (fun z => by cases z) (fun _ => Or.inr (by omega))
    obtain ⟨u, f1, f2⟩ := M
    refine Ends_step (step_enter (by omega) F.c64 F.c56 c63 ?_) f2
    rw [RR]
    unfold F_370_570
    rw [show F_356 (I3 y) (I3 t) (b2 false) 0 g = some (1, g') from e2]; simp only [obs]
    rw [if_neg (by decide), f1]; rfl
  · rw [e1]
    obtain ⟨u', h5, f1, f2, f3⟩ := Fr_fail (rk := tn (hrs g0 x)) (Fr_Ph (Fr_Lz F L) (Nat.le_refl _) P) e (by rcases ee with rfl | rfl <;> decide)
    rw [f2]; simp only [obs]
    refine Ends_step (step_enter (by omega) F.c64 F.c56 c63 ?_) f3
    rw [RR]
    unfold F_370_570
    rw [show F_356 (I3 y) (I3 t) (b2 false) 0 g = _ from e2, f1]; rfl
theorem run_13 {rec : Int32 → Int32 → sm_H → Option (Int32 × sm_H)} {d fuel s x vp : Nat} {vs : List Val} {h0 g0 h g : sm_H} (IH : CallOK (d + 1) rec) (F : Fr d fuel s x vp vs h0 g0 h g 0 (s + 1)) (c63 : g.1 67 63 = 0) (c59 : g.1 67 59 = I3 (vp + vs.length)) (eh : sm_wI h0 49 8 (h0.1 49 8 + 1) = h) (lf : h0.1 49 8 < h0.1 49 7) (f : fm g0 x = 13) : Ends d fuel s vp (tn (hrs g0 x)) h0 g0 0 (F_82R rec (I3 x) (I3 d) h0) g := by
  have d1 := F.d1
  have v10 := F.v10
  have x500 := F.x500
  have vl := F.vl
  have vx := F.vx
  have fs := F.fs0
  rw [f] at fs
  have C := B82_13 (rec := rec) (x1 := I3 x) (x2 := I3 d) (by rw [I3_lit, I3_lt (by omega) (by decide)]; omega) lf eh (f ▸ F.f37)
  rw [C]
  have R := B370_13 F.c56 F.l103 F.l105 F.l305 F.l77 F.l78 F.l81 F.l81' (f ▸ F.l75)
  obtain ⟨y, t, y1, ep, t1, eb, ms, er, el⟩ := FS_13 fs
  obtain ⟨m1, m2, m3⟩ := ms
  have h12 := F.m.k.1.2.1
  have t1' : t < nT g := by rw [m_nT F.ar]; exact t1
  have pl1 : (prt g0 x).length = 1 := by rw [ep]; rfl
  have e81 : g0.1 81 (24 * x) = I3 y := by have := F.at81 (k := 0) (by omega); rw [ep] at this; exact this
  have ly := hpl_len g0 y
  have lt := pl_len g0 t
  have lx : vs.length = (hpl g0 y).length := by rw [vx, el]; omega
  have hI : ∀ u, u < nT g0 → g0.1 72 u = I3 (tR g0 u) ∧ tR g0 u < 20 + nC g := fun u hu => by
    have z := (F.m.k.2.2.1.2.1 u (by rw [m_nT F.ar]; exact hu)).1
    rw [(m_c F.ar (show 70 ≤ 72 by decide) (by decide)).1] at z
    exact ⟨z.1, by have := z.2; show tn _ < _; omega⟩
  have tyy : ty g0 y < nT g0 := by rw [← m_nT F.ar, ← m_ty F.ar]; exact ty_lt F.m.k (by rw [m_nH F.ar]; exact y1)
  have CC : F_82_227 rec (I3 x) (I3 d) h = F_89 rec (I3 y) (I3 t) (I3 0) (I3 d) (b2 true) h := by
    unfold F_82_227 F_82_265
    rw [show F_43 (I3 x) 0 h = some (I3 y, h) by have := F.f43 (k := 0) (by omega); rw [ep] at this; exact this]; simp only [obs]
    rw [F.f39, eb]; simp only [obs]
    rw [F.f37, f]; simp only [obs]
    rw [if_pos (show (I3 13 : Int32) = 13 by decide), bind_id]; rfl
  have RR : F_370 g = F_370_570 (I3 y) (I3 y) (I3 t) (b2 true) g := by
    rw [R, eb, e81]
    unfold F_370_549
    rw [F.l75, f]; simp only [obs]
    rw [if_pos (show (I3 13 : Int32) = 13 by decide)]; rfl
  rw [CC]
  rcases asLoop rec F c59 (i := 0) true y1 t1 (by omega) (by omega) (fun k hk => by rw [Nat.zero_add, el]) (fun k hk => by have z := m2 k (by omega); rw [show tn (at0 (hpl g0 y) k) = tP g0 (ty g0 y) k by rw [at0_lst (by omega)]]; exact z) with ⟨h', g', ws, e1, e2, L, P, tw⟩ | ⟨e, h', g', ws, us, ee, e1, e2, L, P⟩
  · rw [e1]
    have Fh := Fr_Lz F L
    have M : ∃ u, F_350 (I3 y) 1 g' = some u ∧ Ends d fuel s vp (tn (hrs g0 x)) h0 g0 (0 + 1) (contA rec y t d true h') u := by
      refine midG IH Fh 1 y1 (Nat.le_refl _) (by omega) (Lz_Ly L) P tw (rk := tn (hrs g0 x)) (fun o h1 o1 o2 => if_neg (I3_ne0 (by omega) o2)) (fun out h1 g1 p1 s1 o1 G t59 t63 t62 t104 r kp _ => ?_)
      rcases (show out = 0 ∨ out = 1 by omega) with rfl | rfl
      · have G' := Fr_63 G
        rw [if_pos (show I3 0 = (0 : Int32) from rfl), show F_44 (I3 y) (I3 0, h1).2 = some (hrs g0 y, h1) from G.crs y1]; simp only [obs]
        rw [C_tres G.m.k.2.2.1 G.m.k.2.2.2.1 (by rw [m_nT G.ar]; exact t1), (m_c G.ar (show 70 ≤ 72 by decide) (by decide)).1]; simp only [obs]
        have iy := hI _ tyy
        have it := hI t t1
        have nC1 : nC g1 = nC g := by rw [m_nC G.ar, m_nC F.ar]
        have gx : F_377 g1 = F_377_497 (hrs g0 y) (hrs g0 x) (g1.1 67 60) (g1.2.1 67 61) (b2 true) (sm_wI g1 67 63 0) := by
          refine (go_1 G t62 t104 (X := fun h27 => F_377_465 (I3 x) (g0.1 81 (24 * x)) (g1.1 67 60) (g1.2.1 67 61) h27) (fun h27 _ v45 hv => by rw [← hv, f, if_neg (by decide), if_neg (by decide), if_neg (by decide), if_neg (by decide), if_pos (by decide)])).trans ?_
          show F_377_465 (I3 x) (g0.1 81 (24 * x)) (g1.1 67 60) (g1.2.1 67 61) (sm_wI g1 67 63 0) = _
          unfold F_377_465
          rw [e81, G'.rs y1]; simp only [obs]
          rw [G'.rs F.x1]; simp only [obs]
          rw [G'.l75, f]; simp only [obs]
          rw [if_pos (show (I3 13 : Int32) = 13 by decide)]; rfl
        have okr := okV_grow G.m.k.1 (grow_N (agr_wI agr_rfl (show SN 67 63 by unfold SN; omega)) : grow g1 (sm_wI g1 67 63 0)) (r.2.2.1 rfl)
        rw [show tn (hrs g0 y) = tR g0 (ty g0 y) from rfl] at okr
        have mg : mayB (sm_wI g1 67 63 0) (tR g0 (ty g0 y)) (tR g0 t) true true = true := by
          have : ∀ a b, B (sm_wI g1 67 63 0) a b = B g0 a b := m_B G'.ar
          unfold mayB; unfold mayB at m3; simp only [this]; exact m3
        rw [show hrs g0 y = I3 (tR g0 (ty g0 y)) from iy.1, it.1]
        rw [show hrs g0 y = I3 (tR g0 (ty g0 y)) from iy.1, er, show rs g0 t = I3 (tR g0 t) from it.1] at gx
        have rkx : tn (hrs g0 x) = tR g0 t := by rw [er]
        rcases conv G'.m.k (a := tR g0 (ty g0 y)) (b := tR g0 t) (by show _ < 20 + nC g1; omega) (by show _ < 20 + nC g1; omega) true okr mg r.1 r.2.1 with ⟨h3, g3, z1, z2, z3⟩ | ⟨e, h3, g3, ee, z1, z2, z3, z4, z5⟩
        · rw [z1]; simp only [obs]
          rw [if_pos trivial]
          have G3 := Fr_48 (Fr_h G' (agr_mono (fun b j z => by unfold S910 at z; unfold SC1; omega) z3.c) z3.r) z3.a
          obtain ⟨u', f1, f2⟩ := Fr_pass (rk := tn (hrs g0 x)) G3 (g3.1 67 48) (g3.2.1 67 49) z3.n z3.t (by rw [rkx]; exact okV_grow G'.m.k.1 (grow_N (agr_mono (fun b j z => by unfold S48 at z; unfold SN; omega) z3.a)) z3.ok)
          refine Ends_step (step_goOn (by omega) G.c64 G.c56 t63 ?_) f2
          rw [gx]
          unfold F_377_497
          rw [z2]; simp only [obs]
          rw [if_pos trivial, f1]; rfl
        · have ne : ¬ e = 0 := by rcases ee with rfl | rfl <;> decide
          rw [z1]; simp only [obs]
          rw [if_neg ne]
          have G3 := Fr_48 (Fr_h G' (agr_mono (fun b j z => by unfold S910 at z; unfold SC1; omega) z4) z5) z3
          obtain ⟨u', h5, f1, f2, f3⟩ := Fr_fail (rk := tn (hrs g0 x)) G3 e (by rcases ee with rfl | rfl <;> decide)
          rw [f2]; simp only [obs]
          refine Ends_step (step_goOn (by omega) G.c64 G.c56 t63 ?_) f3
          rw [gx]
          unfold F_377_497
          rw [z2]; simp only [obs]
          rw [if_neg ne, f1]; rfl
      · rw [if_neg (I3_ne0 (o := 1) (by omega) (by omega))]
        exact thru G (Nat.le_refl 1) t63 t62 ⟨r.1, r.2.1, fun z => by (cases z), r.2.2.2⟩ (fun z => by cases z) (fun _ => Or.inr (by omega))
    obtain ⟨u, f1, f2⟩ := M
    refine Ends_step (step_enter (by omega) F.c64 F.c56 c63 ?_) f2
    rw [RR]
    unfold F_370_570
    rw [show F_356 (I3 y) (I3 t) (b2 true) 0 g = some (1, g') from e2]; simp only [obs]
    rw [if_neg (by decide), f1]; rfl
  · rw [e1]
    obtain ⟨u', h5, f1, f2, f3⟩ := Fr_fail (rk := tn (hrs g0 x)) (Fr_Ph (Fr_Lz F L) (Nat.le_refl _) P) e (by rcases ee with rfl | rfl <;> decide)
    rw [f2]; simp only [obs]
    refine Ends_step (step_enter (by omega) F.c64 F.c56 c63 ?_) f3
    rw [RR]
    unfold F_370_570
    rw [show F_356 (I3 y) (I3 t) (b2 true) 0 g = _ from e2, f1]; rfl
