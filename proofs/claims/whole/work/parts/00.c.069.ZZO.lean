section
variable {d fuel s0 x vp p s : Nat} {vs : List Val} {h0 g0 h g : sm_H}
theorem midG {rec : Int32 → Int32 → sm_H → Option (Int32 × sm_H)} (IH : CallOK (d + 1) rec) (F : Fr d fuel s0 x vp vs h0 g0 h g p s) {h' g' : sm_H} {y T : Nat} {ws : List Val} (st : Int32) (y1 : y < nH g0) (t1 : vp + vs.length ≤ T) (t2 : T ≤ vp + vs.length + 10) (L : Ly h h' (d + 1) ws) (P : Ph g g' T ws) (tw : tyV g (hpl g0 y) ws) {rk : Nat} {k : Int32 × sm_H → Option (Int32 × sm_H)}
    (stop : ∀ o h1, 2 ≤ o → o ≤ 4 → k (I3 o, h1) = some (I3 o, h1))
    (go : ∀ out h1 g1 p1 s1, out ≤ 1 → Fr d fuel s0 x vp vs h0 g0 h1 g1 p1 s1 → g1.1 67 59 = I3 T → g1.1 67 63 = 1 → g1.1 67 62 = I3 out → g1.1 104 d = st → res h1 g1 out (tn (hrs g0 y)) → keepR (d + 1) T (sm_wI g' 104 d st) g1 → grow (sm_wI g' 104 d st) g1 → Ends d fuel s0 vp rk h0 g0 p1 (k (I3 out, h1)) g1) :
    ∃ u, F_350 (I3 y) st g' = some u ∧ Ends d fuel s0 vp rk h0 g0 (p + 1) ((rec (I3 y) (I3 (d + 1)) h').bind k) u := by
  have F1 := Fr_Ph (Fr_Ly F L) t1 P
  have a : agr (SG d (vp + vs.length)) g' (sm_wI g' 104 d st) := agr_wI agr_rfl (by unfold SG; omega)
  have F' := Fr_g F1 a
  obtain ⟨u, e1, e2⟩ := Fr_sub IH F' y1 t1 t2 P.n L.f P.s (tyV_grow F1.m.k.1 (grow_N (agr_mono (SG_N _ _) a)) (tyV_Ph F P tw))
  refine ⟨u, ?_, ?_⟩
  · show F_350_0 (I3 y) st g' = _
    unfold F_350_0
    rw [F1.c56, show I3 (d + 1) - 1 = I3 d from I3_sub (a := d + 1) (b := 1) (by omega), stI_I F.d1 (by decide)]; simp only [obs]
    rw [e1]; simp only [obs]
  · rcases e2 with ⟨out, h1, g1, c, s1, o1, o2, o3, o4, o5, o6, o7, o8, o9, o10, o11, -⟩ | ⟨out, h1, o1, e4, o2, o3⟩
    · rw [o2]; simp only [obs]
      have k104 : g1.1 104 d = st := by
        rw [o9.1 104 d (by decide) (by decide) (by omega)]
        show (if d = d then st else g'.1 104 d) = _; rw [if_pos rfl]
      exact Ends_lp o3 (go out h1 g1 _ s1 o1 o4 o5 o6 o7 k104 o8 o9 o11)
    · rw [o2]; simp only [obs]
      rw [stop _ _ o1 e4]; exact o3 _
theorem Fr_63 (F : Fr d fuel s0 x vp vs h0 g0 h g p s) : Fr d fuel s0 x vp vs h0 g0 h (sm_wI g 67 63 0) p s := Fr_g F (agr_wI agr_rfl (by unfold SG; omega))
end
theorem I3_ne0 {o : Nat} (h1 : 1 ≤ o) (h2 : o ≤ 4) : ¬ I3 o = (0 : Int32) := by rw [I3_lit, I3_inj (by omega) (by decide)]; omega
theorem I3_ne1 {o : Nat} (h1 : 2 ≤ o) (h2 : o ≤ 4) : ¬ I3 o = (1 : Int32) := by rw [I3_lit, I3_inj (by omega) (by decide)]; omega
theorem Ly_nil {h h' : sm_H} {d : Nat} {ws : List Val} (L : Ly h h' d ws) : Ly h h' d [] := ⟨L.a, (fun i hi => by cases hi), L.r⟩
theorem run_14 {rec : Int32 → Int32 → sm_H → Option (Int32 × sm_H)} {d fuel s x vp : Nat} {vs : List Val} {h0 g0 h g : sm_H} (IH : CallOK (d + 1) rec) (F : Fr d fuel s x vp vs h0 g0 h g 0 (s + 1)) (c63 : g.1 67 63 = 0) (c59 : g.1 67 59 = I3 (vp + vs.length)) (eh : sm_wI h0 49 8 (h0.1 49 8 + 1) = h) (lf : h0.1 49 8 < h0.1 49 7) (f : fm g0 x = 14) : Ends d fuel s vp (tn (hrs g0 x)) h0 g0 0 (F_82R rec (I3 x) (I3 d) h0) g := by
  have d1 := F.d1
  have v10 := F.v10
  have x500 := F.x500
  have vl := F.vl
  have vx := F.vx
  have fs := F.fs0
  rw [f] at fs
  have C := B82_14 (rec := rec) (x1 := I3 x) (x2 := I3 d) (by rw [I3_lit, I3_lt (by omega) (by decide)]; omega) lf eh (f ▸ F.f37)
  rw [C]
  have R := B370_14 F.c56 F.l103 F.l105 F.l305 F.l77 F.l78 F.l81 F.l81' (f ▸ F.l75)
  obtain ⟨y, z, w, y1, z1, w1, ep, et, e1r, pr, er, el⟩ := FS_14 fs
  have pl3 : (prt g0 x).length = 3 := by rw [ep]; rfl
  have q0 : g0.1 81 (24 * x) = I3 y := by have := F.at81 (k := 0) (by omega); rw [ep] at this; exact this
  have q1 : g0.1 81 (24 * x + 1) = I3 z := by have := F.at81 (k := 1) (by omega); rw [ep] at this; exact this
  have q2 : g0.1 81 (24 * x + 2) = I3 w := by have := F.at81 (k := 2) (by omega); rw [ep] at this; exact this
  obtain ⟨⟨h', a1, L⟩, g', b1, P⟩ := Fr_all F c59 y1 (by rw [vx, el]; exact pr.1)
  have el' : hpl g0 w = hpl g0 z := by show pl g0 (ty g0 w) = pl g0 (ty g0 z); rw [et]
  have er' : hrs g0 w = hrs g0 z := by show rs g0 (ty g0 w) = rs g0 (ty g0 z); rw [et]
  have M : ∃ u, F_350 (I3 y) 1 g' = some u ∧ Ends d fuel s vp (tn (hrs g0 x)) h0 g0 (0 + 1) ((rec (I3 y) (I3 (d + 1)) h').bind fun q6 => if q6.1 = 0 then (if (lg_cmp (q6.2.2.1 49 9) 1) = 0 then (F_92_53 rec (I3 d) (I3 x) 1 q6.2) else (F_92_53 rec (I3 d) (I3 x) 2 q6.2)) else (some (q6.1, q6.2))) u := by
    refine midG IH F 1 y1 (Nat.le_refl _) (by omega) L P (tyV_first F.ty (by rw [el]; exact pr)) (rk := tn (hrs g0 x)) (k := fun q6 => if q6.1 = 0 then (if (lg_cmp (q6.2.2.1 49 9) 1) = 0 then (F_92_53 rec (I3 d) (I3 x) 1 q6.2) else (F_92_53 rec (I3 d) (I3 x) 2 q6.2)) else (some (q6.1, q6.2))) (fun o h1 o1 o2 => if_neg (I3_ne0 (by omega) o2)) (fun out h1 g1 p1 s1 o1 G t59 t63 t62 t104 r kp _ => ?_)
    rcases (show out = 0 ∨ out = 1 by omega) with rfl | rfl
    · have G' := Fr_63 G
      have key : ∀ (i : Nat) (v : Nat), v < nH g0 → hpl g0 v = hpl g0 x → hrs g0 v = hrs g0 x → i < 3 → at0 (prt g0 x) i = I3 v → (∀ q54, Fr d fuel s x vp vs h0 g0 h1 q54 p1 s1 → (if lg_cmp (g1.2.1 67 61) 1 = 0 then F_377_562 (g0.1 81 (24 * x + 1)) q54 else (ldI q54 81 12000 (24 * I3 x + 2)).bind fun v55 => F_377_562 v55 q54) = F_377_562 (I3 v) q54) → Ends d fuel s vp (tn (hrs g0 x)) h0 g0 p1 (F_92_53 rec (I3 d) (I3 x) (I3 i) h1) g1 := fun i v v1 v2 v3 i1 i2 hq => by
        obtain ⟨h'', g'', u', a2, b2, e1', F'', e2'⟩ := tail_all IH G' (show (sm_wI g1 67 63 0).1 67 59 = _ from t59) v1 (by rw [v2]; exact pre_rfl _)
        have CC : F_92_53 rec (I3 d) (I3 x) (I3 i) h1 = rec (I3 v) (I3 (d + 1)) h'' := by
          unfold F_92_53
          rw [G.f43 (by omega), i2]; simp only [obs]
          rw [a2]; simp only [obs]
          rw [bind_id, show I3 d + 1 = I3 (d + 1) from I3_add d 1]
        rw [CC, ← v3]
        refine Ends_step (step_goOn (by omega) G.c64 G.c56 t63 ?_) e2'
        refine (go_1 G t62 t104 (X := fun h27 => (F_343 (I3 vp) (I3 vp + I3 vs.length) h27).bind fun q54 => if lg_cmp (g1.2.1 67 61) 1 = 0 then F_377_562 (g0.1 81 (24 * x + 1)) q54 else (ldI q54 81 12000 (24 * I3 x + 2)).bind fun v55 => F_377_562 v55 q54) (fun h27 _ v45 hv => ?_)).trans ?_
        · rw [← hv, f, if_neg (by decide), if_neg (by decide), if_neg (by decide), if_neg (by decide), if_neg (by decide), if_pos (by decide)]
        · show (F_343 (I3 vp) (I3 vp + I3 vs.length) (sm_wI g1 67 63 0)).bind _ = _
          rw [I3_add, vx, ← v2, b2]; simp only [obs]
          rw [hq g'' F'']
          unfold F_377_562
          rw [e1']; rfl
      rw [if_pos (show I3 0 = (0 : Int32) from rfl)]
      show Ends d fuel s vp (tn (hrs g0 x)) h0 g0 p1 (if (lg_cmp (h1.2.1 49 9) 1) = 0 then (F_92_53 rec (I3 d) (I3 x) 1 h1) else (F_92_53 rec (I3 d) (I3 x) 2 h1)) g1
      rw [r.1]
      by_cases q : lg_cmp (g1.2.1 67 61) 1 = 0
      · rw [if_pos q]
        refine key 1 z z1 el.symm er.symm (by omega) (by rw [ep]; rfl) (fun q54 _ => ?_)
        rw [if_pos q, q1]
      · rw [if_neg q]
        refine key 2 w w1 (by rw [el', el]) (by rw [er', er]) (by omega) (by rw [ep]; rfl) (fun q54 Fq => ?_)
        rw [if_neg q, show (24 : Int32) * I3 x + 2 = I3 (24 * x + 2) by rw [I3_lit, I3_lit, I3_mul, I3_add], Fq.l81k (by omega), q2]; simp only [obs]
    · rw [if_neg (I3_ne0 (o := 1) (by omega) (by omega))]
      exact thru G (Nat.le_refl 1) t63 t62 ⟨r.1, r.2.1, fun z => by (cases z), r.2.2.2⟩ (fun z => by cases z) (fun _ => Or.inr (by omega))
  obtain ⟨u, e1, e2⟩ := M
  refine Ends_step (step_enter (by omega) F.c64 F.c56 c63 ?_) ?_ (u' := u)
  · rw [R, q0, F.mn y1]; simp only [obs]
    rw [I3_add, b1]; simp only [obs]
    rw [e1]
    rfl
  · have CC : ((F_92 rec (I3 x) (I3 d) h).bind fun q18 => some (q18.1, q18.2)) = ((rec (I3 y) (I3 (d + 1)) h').bind fun q6 => if q6.1 = 0 then (if (lg_cmp (q6.2.2.1 49 9) 1) = 0 then (F_92_53 rec (I3 d) (I3 x) 1 q6.2) else (F_92_53 rec (I3 d) (I3 x) 2 q6.2)) else (some (q6.1, q6.2))) := by
      rw [bind_id, show F_92 rec (I3 x) (I3 d) h = F_92_0 rec (I3 x) (I3 d) h from rfl]
      unfold F_92_0
      rw [show F_43 (I3 x) 0 h = some (I3 y, h) by have := F.f43 (k := 0) (by omega); rw [ep] at this; exact this]; simp only [obs]
      rw [a1]; simp only [obs]
      rw [show I3 d + 1 = I3 (d + 1) from I3_add d 1]
    rw [CC]; exact e2
