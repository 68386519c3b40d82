theorem I3_m1i {N : Nat} (hN : 0 < N) (h : N < 1000) : (Int32.toInt64 (I3 N - 1)).toInt = (N : Int) - 1 := by
  rw [toI64, I3_lit, I3m1 (by omega)]
theorem run_17 {rec : Int32 → Int32 → sm_H → Option (Int32 × sm_H)} {d fuel s x vp : Nat} {vs : List Val} {h0 g0 h g : sm_H} (IH : CallOK (d + 1) rec) (F : Fr d fuel s x vp vs h0 g0 h g 0 (s + 1)) (c63 : g.1 67 63 = 0) (c59 : g.1 67 59 = I3 (vp + vs.length)) (eh : sm_wI h0 49 8 (h0.1 49 8 + 1) = h) (lf : h0.1 49 8 < h0.1 49 7) (f : fm g0 x = 17) : Ends d fuel s vp (tn (hrs g0 x)) h0 g0 0 (F_82R rec (I3 x) (I3 d) h0) g := by
  have d1 := F.d1
  have v10 := F.v10
  have x500 := F.x500
  have vl := F.vl
  have vx := F.vx
  have fs := F.fs0
  rw [f] at fs
  have C := B82_17 (rec := rec) (x1 := I3 x) (x2 := I3 d) (by rw [I3_lit, I3_lt (by omega) (by decide)]; omega) lf eh (f ▸ F.f37)
  rw [C]
  have R := B370_17 F.c56 F.l103 F.l105 F.l305 F.l77 F.l78 F.l81 F.l81' (f ▸ F.l75)
  obtain ⟨p, mm, p1, l0, e0, all, hp, er, el⟩ := FS_17 fs
  have N20 : (prt g0 x).length ≤ 20 := by
    have := (F.m.k.2.2.2.2.1.2 x F.hx).2.2.2.2
    rw [show tn (g.1 80 x) = pm g x from rfl, m_pm F.ar, ← prt_len] at this; exact this
  have v0 : 0 < vs.length := by rw [vx, el, hp]; exact Nat.zero_lt_succ _
  have pq : F_42 (I3 x) h = some (I3 (prt g0 x).length, h) := by
    have z := C_partsOf F.m.k.2.2.2.2.1 F.m.k.2.2.2.2.2.1 F.hx
    rw [(F.m.k.2.2.2.2.1.2 x F.hx).2.2.2.1, show tn (g.1 80 x) = pm g x from rfl, m_pm F.ar, ← prt_len] at z; exact z
  generalize hn : (atv vs 0).2 = n
  have c77 : F_77 (I3 d) 0 h = some (n, h) := by have := F.c77 (i := 0) v0; rw [hn] at this; exact this
  have key : ∀ idx w, idx < (prt g0 x).length → w < nH g0 → at0 (prt g0 x) idx = I3 w → ty g0 w = ty g0 p → F_84 (I3 x) n h = F_84_47 (I3 x) (I3 idx) h → (∀ g', Fr d fuel s x vp vs h0 g0 h g' 0 (s + 1) → (if lg_cmp n 0 < 0 then F_370_663 (I3 p) g' else (ldI g' 80 500 (I3 x)).bind fun v63 => if 0 ≤ lg_cmp n (Int32.toInt64 (v63 - 1)) then F_370_663 (I3 p) g' else (ldI g' 81 12000 (24 * I3 x + 1 + Int64.toInt32 n)).bind fun v64 => F_370_665 v64 g') = F_370_665 (I3 w) g') → Ends d fuel s vp (tn (hrs g0 x)) h0 g0 0 (F_82_192 rec (I3 x) (I3 d) h) g := fun idx w i1 w1 w2 w3 w4 w5 => by
    have w2' : hpl g0 w = hpl g0 x := by rw [el]; show pl g0 (ty g0 w) = pl g0 (ty g0 p); rw [w3]
    have w3' : hrs g0 w = hrs g0 x := by rw [er]; show rs g0 (ty g0 w) = rs g0 (ty g0 p); rw [w3]
    obtain ⟨h', g', u, a1, b1, e1, F', e2⟩ := tail_all IH F c59 w1 (by rw [w2']; exact pre_rfl _)
    have CC : F_82_192 rec (I3 x) (I3 d) h = rec (I3 w) (I3 (d + 1)) h' := by
      unfold F_82_192
      rw [bind_id, show F_83 rec (I3 x) (I3 d) h = F_83_0 rec (I3 x) (I3 d) h from rfl]
      unfold F_83_0 F_83_334
      rw [show F_43 (I3 x) 0 h = some (I3 p, h) by have := F.f43 (k := 0) l0; rw [e0] at this; exact this]; simp only [obs]
      rw [F.f38]; simp only [obs]
      rw [F.f37, f]; simp only [obs]
      rw [if_neg (by decide), if_neg (by decide), if_neg (by decide), if_pos (by decide), c77]; simp only [obs]
      rw [w4]
      unfold F_84_47
      rw [F.f43 i1, w2]; simp only [obs]
      rw [a1]; simp only [obs]
      rw [bind_id, show I3 d + 1 = I3 (d + 1) from I3_add d 1]
    rw [CC, ← w3']
    refine Ends_step (step_enter (by omega) F.c64 F.c56 c63 ?_) e2
    have e81 : g0.1 81 (24 * x) = I3 p := by have := F.at81 (k := 0) l0; rw [← e0]; exact this
    rw [R, show F_352 0 g = some (n, g) by have := F.k352 (i := 0) v0; rw [hn] at this; exact this]; simp only [obs]
    rw [I3_add, vx, ← w2', b1]; simp only [obs]
    rw [e81]
    have := w5 g' F'
    rw [this]
    unfold F_370_665
    rw [e1]; rfl
  have N0 := l0
  by_cases q1 : n.toInt < 0
  · refine key 0 p l0 p1 e0 rfl ?_ (fun g' F' => ?_)
    · show F_84_0 (I3 x) n h = _
      unfold F_84_0 F_84_26 F_84_27
      rw [if_pos (by rw [cmp_lt]; exact q1), if_pos rfl]; rfl
    · rw [if_pos (by rw [cmp_lt]; exact q1)]; rfl
  · have l80 : ∀ g', Fr d fuel s x vp vs h0 g0 h g' 0 (s + 1) → ldI g' 80 500 (I3 x) = some (I3 (prt g0 x).length) := fun g' F' => by
      rw [ldI_I x500 (by decide), (F'.m.k.2.2.2.2.1.2 x F'.hx).2.2.2.1, show tn (g'.1 80 x) = pm g' x from rfl, m_pm F'.ar, ← prt_len]
    by_cases q2 : ((prt g0 x).length : Int) - 1 ≤ n.toInt
    · refine key 0 p l0 p1 e0 rfl ?_ (fun g' F' => ?_)
      · show F_84_0 (I3 x) n h = _
        unfold F_84_0 F_84_26 F_84_27
        rw [if_neg (by rw [cmp_lt]; exact q1), pq]; simp only [obs]
        rw [if_pos (by rw [cmp_ge, I3_m1i l0 (by omega)]; exact q2)]; rfl
      · rw [if_neg (by rw [cmp_lt]; exact q1), l80 g' F']; simp only [obs]
        rw [if_pos (by rw [cmp_ge, I3_m1i l0 (by omega)]; exact q2)]; rfl
    · have z0 : (0 : Int64).toInt = 0 := rfl
      have en : n = I6 n.toInt.toNat := by rw [← Int64.toInt_inj, I6_toInt (by omega)]; omega
      have e32 : Int64.toInt32 n = I3 n.toInt.toNat := by rw [en, I6_32, ← en]
      obtain ⟨w, w1, w2, w3⟩ := all (n.toInt.toNat + 1) (by omega)
      refine key (n.toInt.toNat + 1) w (by omega) w1 w2 w3 ?_ (fun g' F' => ?_)
      · show F_84_0 (I3 x) n h = _
        unfold F_84_0 F_84_27
        rw [if_neg (by rw [cmp_lt]; exact q1), pq]; simp only [obs]
        rw [if_neg (by rw [cmp_ge, I3_m1i l0 (by omega)]; exact q2), if_neg (by decide), e32, show I3 n.toInt.toNat + 1 = I3 (n.toInt.toNat + 1) from I3_add _ 1]
      · rw [if_neg (by rw [cmp_lt]; exact q1), l80 g' F']; simp only [obs]
        rw [if_neg (by rw [cmp_ge, I3_m1i l0 (by omega)]; exact q2), e32, show (24 : Int32) * I3 x + 1 + I3 n.toInt.toNat = I3 (24 * x + (n.toInt.toNat + 1)) by rw [I3_lit, I3_lit, I3_mul, I3_add, I3_add, Nat.add_assoc, Nat.add_comm 1], F'.l81k (by omega), F'.at81 (by omega), w2]; simp only [obs]
section
variable {d fuel s0 x vp p s : Nat} {vs : List Val} {h0 g0 h g : sm_H}
theorem mid {rec : Int32 → Int32 → sm_H → Option (Int32 × sm_H)} (IH : CallOK (d + 1) rec) (F : Fr d fuel s0 x vp vs h0 g0 h g p s) {h' g' : sm_H} {y T : Nat} {ws : List Val} (st : Int32) (y1 : y < nH g0) (t1 : vp + vs.length ≤ T) (t2 : T ≤ vp + vs.length + 10) (L : Ly h h' (d + 1) ws) (P : Ph g g' T ws) (tw : tyV g (hpl g0 y) ws) {rk : Nat} {k : Int32 × sm_H → Option (Int32 × sm_H)}
    (thr : ∀ o h1, o ≠ 0 → k (o, h1) = some (o, h1)) (cat : st ≠ 1 ∨ (fm g0 x ≠ 15 ∧ fm g0 x ≠ 16))
    (go : ∀ h1 g1 p1 s1, Fr d fuel s0 x vp vs h0 g0 h1 g1 p1 s1 → g1.1 67 59 = I3 T → g1.1 67 63 = 1 → g1.1 67 62 = I3 0 → g1.1 104 d = st → res h1 g1 0 (tn (hrs g0 y)) → keepR (d + 1) T (sm_wI g' 104 d st) g1 → Ends d fuel s0 vp rk h0 g0 p1 (k (0, h1)) g1) :
    ∃ u, F_350 (I3 y) st g' = some u ∧ Ends d fuel s0 vp rk h0 g0 (p + 1) ((rec (I3 y) (I3 (d + 1)) h').bind k) u := by
  have F1 := Fr_Ph (Fr_Ly F L) t1 P
  have a : agr (SG d (vp + vs.length)) g' (sm_wI g' 104 d st) := agr_wI agr_rfl (by unfold SG; omega)
  have F' := Fr_g F1 a
  obtain ⟨u, e1, e2⟩ := Fr_sub IH F' y1 t1 t2 P.n L.f P.s (tyV_grow F1.m.k.1 (grow_N (agr_mono (SG_N _ _) a)) (tyV_Ph F P tw))
  refine ⟨u, ?_, ?_⟩
  · show F_350_0 (I3 y) st g' = _
    unfold F_350_0
    rw [F1.c56, show I3 (d + 1) - 1 = I3 d from I3_sub (a := d + 1) (b := 1) (by omega), stI_I F.d1 (by decide)]; simp only [obs]
    rw [e1]; simp only [obs]
  · rcases e2 with ⟨out, h1, g1, c, s1, o1, o2, o3, o4, o5, o6, o7, o8, o9, o10, -⟩ | ⟨out, h1, o1, e4, o2, o3⟩
    · rw [o2]; simp only [obs]
      have k104 : g1.1 104 d = st := by
        rw [o9.1 104 d (by decide) (by decide) (by omega)]
        show (if d = d then st else g'.1 104 d) = _; rw [if_pos rfl]
      refine Ends_lp o3 ?_
      rcases (show out = 0 ∨ out = 1 by omega) with rfl | rfl
      · refine go h1 g1 _ s1 o4 o5 o6 o7 k104 o8 o9
      · rw [thr _ _ (by decide)]
        exact thru o4 (Nat.le_refl 1) o6 o7 ⟨o8.1, o8.2.1, fun z => by (cases z), o8.2.2.2⟩ (fun z => by cases z) (fun _ => by rw [k104]; exact cat)
    · rw [o2]; simp only [obs]
      rw [thr _ _ (by rw [Ne, I3_lit, I3_inj (by omega) (by decide)]; omega)]; exact o3 _
end
theorem go_1 {d fuel s0 x vp p s : Nat} {vs : List Val} {h0 g0 h g : sm_H} (F : Fr d fuel s0 x vp vs h0 g0 h g p s) (c62 : g.1 67 62 = I3 0) (c104 : g.1 104 d = 1) {X : sm_H → Option sm_H} (hX : ∀ (h27 : sm_H), h27 = sm_wI g 67 63 0 → ∀ v45, I3 (fm g0 x) = v45 →
    (if v45 = 7 then (F_343 (I3 vp) (I3 vp + g0.1 77 x) h27).bind fun q46 => (F_307 (g0.1 81 (24 * x + 1)) q46).bind fun q47 => if q47.1 = 0 then F_377_370 (I3 vp) (I3 vs.length) (g0.1 77 x) (g0.1 81 (24 * x)) (g0.1 81 (24 * x + 1)) q47.2 else (F_342 (g.1 67 60) (g.2.1 67 61) q47.2).bind fun q48 => F_377_370 (I3 vp) (I3 vs.length) (g0.1 77 x) (g0.1 81 (24 * x)) (g0.1 81 (24 * x + 1)) q48
    else if v45 = 8 then (F_343 (I3 vp) (I3 vp + g0.1 77 x) h27).bind fun q49 => (F_307 (g0.1 81 (24 * x + 1)) q49).bind fun q50 => if q50.1 = 0 then F_377_422 (I3 vp) (I3 vs.length) (g0.1 77 x) (g0.1 81 (24 * x)) q50.2 else (F_342 (g.1 67 60) (g.2.1 67 61) q50.2).bind fun q51 => F_377_422 (I3 vp) (I3 vs.length) (g0.1 77 x) (g0.1 81 (24 * x)) q51
    else if v45 = 9 then (F_307 (g0.1 81 (24 * x)) h27).bind fun q52 => if q52.1 = 0 then F_377_458 (g0.1 81 (24 * x + 1)) q52.2 else (F_342 (g.1 67 60) (g.2.1 67 61) q52.2).bind fun q53 => F_377_458 (g0.1 81 (24 * x + 1)) q53
    else if v45 = 12 then F_377_465 (I3 x) (g0.1 81 (24 * x)) (g.1 67 60) (g.2.1 67 61) h27
    else if v45 = 13 then F_377_465 (I3 x) (g0.1 81 (24 * x)) (g.1 67 60) (g.2.1 67 61) h27
    else if v45 = 14 then (F_343 (I3 vp) (I3 vp + I3 vs.length) h27).bind fun q54 => if lg_cmp (g.2.1 67 61) 1 = 0 then F_377_562 (g0.1 81 (24 * x + 1)) q54 else (ldI q54 81 12000 (24 * I3 x + 2)).bind fun v55 => F_377_562 v55 q54
    else if v45 = 16 then (F_342 0 0 h27).bind fun q56 => (F_307 (I3 x) q56).bind fun q57 => if q57.1 = 0 then F_377_588 (I3 x) (I3 vp) (g0.1 81 (24 * x + 1)) q57.2 else (F_342 (g.1 67 60) (g.2.1 67 61) q57.2).bind fun q58 => F_377_588 (I3 x) (I3 vp) (g0.1 81 (24 * x + 1)) q58
    else F_377_622 (g.1 67 60) (g.2.1 67 61) h27) = X h27) : F_377 g = X (sm_wI g 67 63 0) := by
  have F' := Fr_g F (g' := sm_wI g 67 63 0) (agr_wI agr_rfl (by unfold SG; omega))
  rw [← hX (sm_wI g 67 63 0) rfl _ rfl]
  show F_377_0 g = _
  unfold F_377_0
  simp only [obs]
  rw [F.c56, show I3 (d + 1) - 1 = I3 d from I3_sub (a := d + 1) (b := 1) (by omega), F.l103]; simp only [obs]
  rw [F.l105]; simp only [obs]
  rw [F.l305]; simp only [obs]
  rw [F.l77]; simp only [obs]
  rw [F.l81]; simp only [obs]
  rw [F.l81']; simp only [obs]
  rw [if_pos (show (sm_wI g 67 63 0).1 67 62 = 0 from c62), ldI_I F.d1 (by decide), show (sm_wI g 67 63 0).1 104 d = g.1 104 d from rfl, c104]; simp only [obs]
  rw [if_neg (by decide), if_neg (by decide), if_neg (by decide), if_neg (by decide), if_neg (by decide), if_neg (by decide), if_neg (by decide), F'.l75]; simp only [obs]
  rfl
