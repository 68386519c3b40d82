theorem Ends_lp {d fuel s0 vp rk p c : Nat} {h0 g0 u u' : sm_H} {r : Option (Int32 × sm_H)} (L : Lp c u u') (E : Ends d fuel s0 vp rk h0 g0 (p + c) r u') : Ends d fuel s0 vp rk h0 g0 p r u := by
  obtain ⟨out, h1, g1, c', s1, o1, o2, o3, o4, o5, o6, o7, o8, o9⟩ := E
  refine ⟨out, h1, g1, c + c', s1, o1, Lp_trans L o2, o3, o4, o5, o6, o7, o8, ?_⟩
  rcases o9 with ⟨q1, q2, q3⟩ | ⟨q1, q2, q3, q4⟩
  · exact Or.inl ⟨q1, by omega, q3⟩
  · exact Or.inr ⟨q1, q2, by omega, q4⟩
section
variable {d fuel s0 x vp p s : Nat} {vs : List Val} {h0 g0 h g : sm_H}
theorem Fr.x500 (F : Fr d fuel s0 x vp vs h0 g0 h g p s) : x < 500 := by
  have := F.hx
  have w500 : nH g ≤ 500 := F.m.k.2.2.2.2.1.1.2
  omega
theorem Fr.l103 (F : Fr d fuel s0 x vp vs h0 g0 h g p s) : ldI g 103 100 (I3 d) = some (I3 x) := by rw [ldI_I F.d1 (by decide), F.c103]
theorem Fr.l105 (F : Fr d fuel s0 x vp vs h0 g0 h g p s) : ldI g 105 100 (I3 d) = some (I3 vp) := by rw [ldI_I F.d1 (by decide), F.c105]
theorem Fr.vl' (F : Fr d fuel s0 x vp vs h0 g0 h g p s) : vs.length = tM g (CHandleHouseLaw_law_r9294_ac1f8b.ty g x) := by rw [F.ty.1, ← m_hpl F.ar, hpl_len]
theorem Fr.l305 (F : Fr d fuel s0 x vp vs h0 g0 h g p s) : F_305 (I3 x) g = some (I3 vs.length, g) := by rw [R_mn F.m.k F.hx, F.vl']
theorem Fr.l77 (F : Fr d fuel s0 x vp vs h0 g0 h g p s) : ldI g 77 500 (I3 x) = some (g0.1 77 x) := by rw [ldI_I F.x500 (by decide), (m_c F.ar (by decide) (by decide)).1]
theorem Fr.l78 (F : Fr d fuel s0 x vp vs h0 g0 h g p s) : ldI g 78 500 (I3 x) = some (g0.1 78 x) := by rw [ldI_I F.x500 (by decide), (m_c F.ar (by decide) (by decide)).1]
theorem Fr.l79 (F : Fr d fuel s0 x vp vs h0 g0 h g p s) : ldJ g 79 500 (I3 x) = some (g0.2.1 79 x) := by rw [ldJ_I F.x500 (by decide), (m_c F.ar (by decide) (by decide)).2]
theorem Fr.l75 (F : Fr d fuel s0 x vp vs h0 g0 h g p s) : ldI g 75 500 (I3 x) = some (I3 (fm g0 x)) := by rw [R_fm F.m.k F.hx, m_fm F.ar]
theorem Fr.l81k (F : Fr d fuel s0 x vp vs h0 g0 h g p s) {k : Nat} (hk : k < 24) : ldI g 81 12000 (I3 (24 * x + k)) = some (g0.1 81 (24 * x + k)) := by
  have := F.x500
  rw [ldI_I (by omega) (by decide), (m_c F.ar (by decide) (by decide)).1]
theorem Fr.l81 (F : Fr d fuel s0 x vp vs h0 g0 h g p s) : ldI g 81 12000 (24 * I3 x) = some (g0.1 81 (24 * x)) := by
  rw [show (24 : Int32) * I3 x = I3 (24 * x + 0) by rw [I3_lit, I3_mul]; rfl]; exact F.l81k (by decide)
theorem Fr.l81' (F : Fr d fuel s0 x vp vs h0 g0 h g p s) : ldI g 81 12000 (24 * I3 x + 1) = some (g0.1 81 (24 * x + 1)) := by
  rw [show (24 : Int32) * I3 x + 1 = I3 (24 * x + 1) by rw [I3_lit, I3_lit, I3_mul, I3_add]]; exact F.l81k (by decide)
theorem Fr.f37 (F : Fr d fuel s0 x vp vs h0 g0 h g p s) : F_37 (I3 x) h = some (I3 (fm g0 x), h) := by rw [C_fm F.m.k F.hx, m_fm F.ar]
theorem Fr.f38 (F : Fr d fuel s0 x vp vs h0 g0 h g p s) : F_38 (I3 x) h = some (g0.1 77 x, h) := by rw [C_ha F.m.k.2.2.2.2.1 F.m.k.2.2.2.2.2.1 F.hx, (m_c F.ar (by decide) (by decide)).1]
theorem Fr.f39 (F : Fr d fuel s0 x vp vs h0 g0 h g p s) : F_39 (I3 x) h = some (g0.1 78 x, h) := by rw [C_hb F.m.k.2.2.2.2.1 F.m.k.2.2.2.2.2.1 F.hx, (m_c F.ar (by decide) (by decide)).1]
theorem Fr.f40 (F : Fr d fuel s0 x vp vs h0 g0 h g p s) : F_40 (I3 x) h = some (g0.2.1 79 x, h) := by rw [C_hc F.m.k.2.2.2.2.1 F.m.k.2.2.2.2.2.1 F.hx, (m_c F.ar (by decide) (by decide)).2]
theorem Fr.f43 (F : Fr d fuel s0 x vp vs h0 g0 h g p s) {k : Nat} (hk : k < (prt g0 x).length) : F_43 (I3 x) (I3 k) h = some (at0 (prt g0 x) k, h) := by
  rw [prt_len] at hk
  rw [C_part F.m.k.2.2.2.2.1 F.m.k.2.2.2.2.2.1 F.hx (by rw [m_pm F.ar]; exact hk), (m_c F.ar (by decide) (by decide)).1, at0_lst hk]
theorem Fr.at81 (F : Fr d fuel s0 x vp vs h0 g0 h g p s) {k : Nat} (hk : k < (prt g0 x).length) : g0.1 81 (24 * x + k) = at0 (prt g0 x) k := by
  rw [prt_len] at hk
  rw [at0_lst hk]
theorem Fr.mn (F : Fr d fuel s0 x vp vs h0 g0 h g p s) {y : Nat} (hy : y < nH g0) : F_305 (I3 y) g = some (I3 (hpl g0 y).length, g) := by rw [R_mn F.m.k (by rw [m_nH F.ar]; exact hy), ← hpl_len, m_hpl F.ar]
theorem Fr.cmn (F : Fr d fuel s0 x vp vs h0 g0 h g p s) {y : Nat} (hy : y < nH g0) : F_45 (I3 y) h = some (I3 (hpl g0 y).length, h) := by rw [C_mn F.m.k (by rw [m_nH F.ar]; exact hy), ← hpl_len, m_hpl F.ar]
theorem Fr.rs (F : Fr d fuel s0 x vp vs h0 g0 h g p s) {y : Nat} (hy : y < nH g0) : F_307 (I3 y) g = some (hrs g0 y, g) := by rw [R_rs F.m.k (by rw [m_nH F.ar]; exact hy), m_hrs F.ar]
theorem Fr.crs (F : Fr d fuel s0 x vp vs h0 g0 h g p s) {y : Nat} (hy : y < nH g0) : F_44 (I3 y) h = some (hrs g0 y, h) := by rw [C_rs F.m.k (by rw [m_nH F.ar]; exact hy), m_hrs F.ar]
theorem Fr.n10 (F : Fr d fuel s0 x vp vs h0 g0 h g p s) {y : Nat} (hy : y < nH g0) : (hpl g0 y).length ≤ 10 := by
  have := mn_10 F.m.k (p := y) (by rw [m_nH F.ar]; exact hy)
  rw [m_hpl F.ar] at this; exact this
theorem Fr.vx (F : Fr d fuel s0 x vp vs h0 g0 h g p s) : vs.length = (hpl g0 x).length := F.ty.1
theorem Fr.d16 (F : Fr d fuel s0 x vp vs h0 g0 h g p s) : d < 2147483648 := by have := F.d1; omega
theorem Fr.fs (F : Fr d fuel s0 x vp vs h0 g0 h g p s) : FS g (fm g0 x) (g0.1 77 x) (g0.1 78 x) (g0.2.1 79 x) (prt g0 x) (hrs g0 x) (hpl g0 x) := by
  have wF := F.m.k.2.2.2.2.2.2.2.2.2.2.2.2.2.2
  rw [wfF_0] at wF
  have := wF.1 x F.hx
  rw [m_fm F.ar, m_prt F.ar, m_hrs F.ar, m_hpl F.ar, (m_c F.ar (show 70 ≤ 77 by decide) (by decide)).1, (m_c F.ar (show 70 ≤ 78 by decide) (by decide)).1, (m_c F.ar (show 70 ≤ 79 by decide) (by decide)).2] at this
  exact this
end
theorem go_thr {d fuel s0 x vp p s : Nat} {vs : List Val} {h0 g0 h g : sm_H} (F : Fr d fuel s0 x vp vs h0 g0 h g p s) (c62 : g.1 67 62 = I3 1) (ne : g.1 104 d ≠ 1 ∨ (fm g0 x ≠ 15 ∧ fm g0 x ≠ 16)) : F_377 g = F_347 (g.1 67 60) (g.2.1 67 61) (sm_wI g 67 63 0) := by
  have f38 : fm g0 x ≤ 38 := by have := (F.m.k.2.2.2.2.1.2 x F.hx).1.2; rw [show tn (g.1 75 x) = fm g x from rfl, m_fm F.ar] at this; exact this
  have x500 := F.x500
  have F' := Fr_g F (g' := sm_wI g 67 63 0) (agr_wI agr_rfl (by unfold SG; omega))
  have key : F_378_93 (I3 d) (I3 x) (I3 vp) (g.1 67 60) (g.2.1 67 61) (g0.1 81 (24 * x + 1)) (sm_wI g 67 63 0) = (F_347 (g.1 67 60) (g.2.1 67 61) (sm_wI g 67 63 0)).bind some := by
    unfold F_378_93 F_378_191 F_378_199
    rw [F'.l75]; simp only [obs]
    by_cases q : fm g0 x = 16
    · rw [if_pos (show I3 (fm g0 x) = (16 : Int32) from congrArg I3 q), ldI_I F.d1 (by decide)]; simp only [obs]
      rw [if_neg (show ¬ (sm_wI g 67 63 0).1 104 d = 1 from fun z => by rcases ne with n | n; exact n z; exact n.2 q)]
    · rw [if_neg (show ¬ I3 (fm g0 x) = (16 : Int32) by rw [I3_lit, I3_inj (by omega) (by decide)]; exact q)]
  show F_377_0 g = _
  unfold F_377_0
  simp only [obs]
  rw [F.c56, show I3 (d + 1) - 1 = I3 d from I3_sub (a := d + 1) (b := 1) (by omega), F.l103]; simp only [obs]
  rw [F.l105]; simp only [obs]
  rw [F.l305]; simp only [obs]
  rw [F.l77]; simp only [obs]
  rw [F.l81]; simp only [obs]
  rw [F.l81']; simp only [obs]
  rw [if_neg (show ¬ (sm_wI g 67 63 0).1 67 62 = 0 by show ¬ g.1 67 62 = 0; rw [c62]; decide), show F_378 (I3 d) (I3 x) (I3 vp) (I3 vs.length) (sm_wI g 67 63 0) = F_378_0 (I3 d) (I3 x) (I3 vp) (I3 vs.length) (sm_wI g 67 63 0) from rfl]
  unfold F_378_0
  simp only [obs]
  rw [show (sm_wI g 67 63 0).1 67 60 = g.1 67 60 from rfl, show (sm_wI g 67 63 0).2.1 67 61 = g.2.1 67 61 from rfl, F'.l81']; simp only [obs]
  rw [F'.l75]; simp only [obs]
  have fin : ((F_347 (g.1 67 60) (g.2.1 67 61) (sm_wI g 67 63 0)).bind some).bind some = F_347 (g.1 67 60) (g.2.1 67 61) (sm_wI g 67 63 0) := by
    cases F_347 (g.1 67 60) (g.2.1 67 61) (sm_wI g 67 63 0) <;> rfl
  by_cases q : fm g0 x = 15
  · rw [if_pos (show I3 (fm g0 x) = (15 : Int32) from congrArg I3 q), ldI_I F.d1 (by decide)]; simp only [obs]
    rw [if_neg (show ¬ (sm_wI g 67 63 0).1 104 d = 1 from fun z => by rcases ne with n | n; exact n z; exact n.1 q), key]; exact fin
  · rw [if_neg (show ¬ I3 (fm g0 x) = (15 : Int32) by rw [I3_lit, I3_inj (by omega) (by decide)]; exact q), key]; exact fin
theorem go_90 {d fuel s0 x vp p s : Nat} {vs : List Val} {h0 g0 h g : sm_H} (F : Fr d fuel s0 x vp vs h0 g0 h g p s) (c62 : g.1 67 62 = I3 0) (c104 : g.1 104 d = 90) : F_377 g = F_345 (g.1 67 60) (g.2.1 67 61) (sm_wI g 67 63 0) := by
  show F_377_0 g = _
  unfold F_377_0
  simp only [obs]
  rw [F.c56, show I3 (d + 1) - 1 = I3 d from I3_sub (a := d + 1) (b := 1) (by omega), F.l103]; simp only [obs]
  rw [F.l105]; simp only [obs]
  rw [F.l305]; simp only [obs]
  rw [F.l77]; simp only [obs]
  rw [F.l81]; simp only [obs]
  rw [F.l81']; simp only [obs]
  rw [if_pos (show (sm_wI g 67 63 0).1 67 62 = 0 from c62), ldI_I F.d1 (by decide), show (sm_wI g 67 63 0).1 104 d = g.1 104 d from rfl, c104]; simp only [obs]
  rw [if_neg (by decide), if_neg (by decide), if_neg (by decide), if_neg (by decide), if_neg (by decide), if_neg (by decide), if_pos (by decide)]
  show (F_345 (g.1 67 60) (g.2.1 67 61) (sm_wI g 67 63 0)).bind some = _
  cases F_345 (g.1 67 60) (g.2.1 67 61) (sm_wI g 67 63 0) <;> rfl
section
variable {d fuel s0 x vp p s : Nat} {vs : List Val} {h0 g0 h g : sm_H}
theorem thru (F : Fr d fuel s0 x vp vs h0 g0 h g p s) {out rk : Nat} (o1 : out ≤ 1) (c63 : g.1 67 63 = 1) (c62 : g.1 67 62 = I3 out) (r : res h g out rk) (h104 : out = 0 → g.1 104 d = 90) (ne : out = 1 → g.1 104 d ≠ 1 ∨ (fm g0 x ≠ 15 ∧ fm g0 x ≠ 16)) : Ends d fuel s0 vp rk h0 g0 p (some (I3 out, h)) g := by
  have d1 := F.d1
  have F' := Fr_g F (g' := sm_wI g 67 63 0) (agr_wI agr_rfl (by unfold SG; omega))
  rcases (show out = 0 ∨ out = 1 by omega) with rfl | rfl
  · obtain ⟨u, e1, e2⟩ := Fr_pass (rk := rk) F' (g.1 67 60) (g.2.1 67 61) r.1 r.2.1 (r.2.2.1 rfl)
    exact Ends_step (step_goOn (by omega) F.c64 F.c56 c63 ((go_90 F c62 (h104 rfl)).trans e1)) e2
  · obtain ⟨u, e1, e2⟩ := Fr_threw (rk := rk) F' (g.1 67 60) (g.2.1 67 61) r.1 r.2.1 (r.2.2.2 rfl)
    exact Ends_step (step_goOn (by omega) F.c64 F.c56 c63 ((go_thr F c62 (ne rfl)).trans e1)) e2
theorem tail {rec : Int32 → Int32 → sm_H → Option (Int32 × sm_H)} (IH : CallOK (d + 1) rec) (F : Fr d fuel s0 x vp vs h0 g0 h g p s) {y T : Nat} {ws : List Val} (y1 : y < nH g0) (t1 : vp + vs.length ≤ T) (t2 : T ≤ vp + vs.length + 10) (c59 : g.1 67 59 = I3 (T + ws.length)) (ft : frm h (d + 1) ws) (sw : stk g T ws) (tw : tyV g (hpl g0 y) ws) : ∃ u, F_349 (I3 y) g = some u ∧ Ends d fuel s0 vp (tn (hrs g0 y)) h0 g0 (p + 1) (rec (I3 y) (I3 (d + 1)) h) u := by
  have a : agr (SG d (vp + vs.length)) g (sm_wI g 104 d 90) := agr_wI agr_rfl (by unfold SG; omega)
  have F' := Fr_g F a
  obtain ⟨u, e1, e2⟩ := Fr_sub IH F' y1 t1 t2 c59 ft sw (tyV_grow F.m.k.1 (grow_N (agr_mono (SG_N _ _) a)) tw)
  refine ⟨u, ?_, ?_⟩
  · show F_349_0 (I3 y) g = _
    unfold F_349_0
    rw [F.c56, show I3 (d + 1) - 1 = I3 d from I3_sub (a := d + 1) (b := 1) (by omega), stI_I F.d1 (by decide)]; simp only [obs]
    rw [e1]; simp only [obs]
  · rcases e2 with ⟨out, h1, g1, c, s1, o1, o2, o3, o4, o5, o6, o7, o8, o9, o10, -⟩ | ⟨out, h1, o1, -, o2, o3⟩
    · rw [o2]
      have k104 : g1.1 104 d = 90 := by
        rw [o9.1 104 d (by decide) (by decide) (by omega)]
        show (if d = d then (90 : Int32) else g.1 104 d) = _; rw [if_pos rfl]
      exact Ends_lp o3 (thru o4 o1 o6 o7 o8 (fun _ => k104) (fun _ => Or.inl (by rw [k104]; decide)))
    · rw [o2]; exact o3 _
end
