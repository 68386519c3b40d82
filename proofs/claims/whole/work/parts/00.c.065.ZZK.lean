theorem tyV_sub {g : sm_H} {ks : List Int32} {vs : List Val} (h : tyV g ks vs) {i n : Nat} (hi : i + n ≤ vs.length) : tyV g (seg ks i n) (sub vs i n) := by
  have sl := sub_len hi
  refine ⟨by rw [sl, seg_len], fun k hk => ?_⟩
  rw [sl] at hk
  rw [atv_sub hk, show at0 (seg ks i n) k = at0 ks (i + k) from at0_lst hk]
  exact h.2 (i + k) (by omega)
theorem tyV_app {g : sm_H} {ks ls : List Int32} {vs ws : List Val} (h : tyV g ks vs) (k : tyV g ls ws) : tyV g (ks ++ ls) (vs ++ ws) := by
  refine ⟨by rw [List.length_append, List.length_append, h.1, k.1], fun i hi => ?_⟩
  rw [List.length_append] at hi
  have h1 := h.1
  by_cases q : i < vs.length
  · rw [atv_app1 q, at0_app1 (by omega)]; exact h.2 i q
  · rw [atv_app2 (by omega), at0_app2 (by omega), ← h1]; exact k.2 (i - vs.length) (by omega)
theorem tyV_0 (g : sm_H) : tyV g [] [] := ⟨rfl, fun i hi => by cases hi⟩
theorem tyV_1 {g : sm_H} {k : Int32} {v : Val} (h : okV g (tn k) v.1 v.2) : tyV g [k] [v] := ⟨rfl, fun i hi => by
  have : i = 0 := by simp only [List.length_cons, List.length_nil] at hi; omega
  subst this; exact h⟩
theorem SL_1 (d b j : Nat) (z : SL (d + 1) b j) : SC1 d b j := by unfold SL at z; unfold SC1; omega
section
variable {d fuel s0 x vp p s : Nat} {vs : List Val} {h0 g0 h g : sm_H}
theorem Fr_Ly (F : Fr d fuel s0 x vp vs h0 g0 h g p s) {h' : sm_H} {ws : List Val} (L : Ly h h' (d + 1) ws) : Fr d fuel s0 x vp vs h0 g0 h' g p s := Fr_h F (agr_mono (SL_1 d) L.a) L.r
theorem Fr_Ph (F : Fr d fuel s0 x vp vs h0 g0 h g p s) {g' : sm_H} {T : Nat} {ws : List Val} (t : vp + vs.length ≤ T) (P : Ph g g' T ws) : Fr d fuel s0 x vp vs h0 g0 h g' p s := Fr_g F (agr_mono (fun b j z => Or.inl (by unfold SP at z ⊢; omega)) P.a)
theorem tyV_Ph (F : Fr d fuel s0 x vp vs h0 g0 h g p s) {g' : sm_H} {T : Nat} {ws us : List Val} {ks : List Int32} (P : Ph g g' T ws) (t : tyV g ks us) : tyV g' ks us := tyV_grow F.m.k.1 (grow_N (agr_mono (fun b j z => by unfold SP at z; unfold SN; omega) P.a)) t
theorem tail2 {rec : Int32 → Int32 → sm_H → Option (Int32 × sm_H)} (IH : CallOK (d + 1) rec) (F : Fr d fuel s0 x vp vs h0 g0 h g p s) {h' g' : sm_H} {y T : Nat} {ws : List Val} (y1 : y < nH g0) (t1 : vp + vs.length ≤ T) (t2 : T ≤ vp + vs.length + 10) (L : Ly h h' (d + 1) ws) (P : Ph g g' T ws) (tw : tyV g (hpl g0 y) ws) : ∃ u, F_349 (I3 y) g' = some u ∧ Ends d fuel s0 vp (tn (hrs g0 y)) h0 g0 (p + 1) (rec (I3 y) (I3 (d + 1)) h') u :=
  tail IH (Fr_Ph (Fr_Ly F L) t1 P) y1 t1 t2 P.n L.f P.s (tyV_Ph F P tw)
end
theorem bind_id {α : Type} (r : Option (Int32 × α)) : (r.bind fun q => some (q.1, q.2)) = r := by cases r <;> rfl
theorem bind_id1 {α : Type} (r : Option α) : (r.bind fun q => some q) = r := by cases r <;> rfl
theorem at0_1 (x : Int32) : at0 [x] 0 = x := rfl
theorem run_4 {rec : Int32 → Int32 → sm_H → Option (Int32 × sm_H)} {d fuel s x vp : Nat} {vs : List Val} {h0 g0 h g : sm_H} (IH : CallOK (d + 1) rec) (F : Fr d fuel s x vp vs h0 g0 h g 0 (s + 1)) (c63 : g.1 67 63 = 0) (c59 : g.1 67 59 = I3 (vp + vs.length)) (eh : sm_wI h0 49 8 (h0.1 49 8 + 1) = h) (lf : h0.1 49 8 < h0.1 49 7) (f : fm g0 x = 4) : Ends d fuel s vp (tn (hrs g0 x)) h0 g0 0 (F_82R rec (I3 x) (I3 d) h0) g := by
  have d1 := F.d1
  have v10 := F.v10
  have x500 := F.x500
  have vl := F.vl
  have vx := F.vx
  have fs := F.fs0
  rw [f] at fs
  have C := B82_4 (rec := rec) (x1 := I3 x) (x2 := I3 d) (by rw [I3_lit, I3_lt (by omega) (by decide)]; omega) lf eh (f ▸ F.f37)
  rw [C]
  have R := B370_4 F.c56 F.l103 F.l105 F.l305 F.l77 F.l78 F.l81 F.l81' (f ▸ F.l75)
  obtain ⟨y, n, t, y1, ep, hn, ea, t1, eb, er, el⟩ := FS_4 fs
  have n10 := F.n10 y1
  have wT := F.m.k.2.2.1
  have t1' : t < nT g := by rw [m_nT F.ar]; exact t1
  have t10 : tM g0 t ≤ 10 := by have := (wT.2.1 t t1').2.1.2; rw [show tn (g.1 73 t) = tM g t from rfl, m_tM F.ar] at this; exact this
  have lt := pl_len g0 t
  have pl1 : (prt g0 x).length = 1 := by rw [ep]; rfl
  have e81 : g0.1 81 (24 * x) = I3 y := by have := F.at81 (k := 0) (by omega); rw [ep] at this; exact this
  have lx : vs.length = (hpl g0 y).length + tM g0 t := by rw [vx, el, List.length_append, List.length_append, List.length_take, List.length_drop]; omega
  obtain ⟨h1, a1, L1⟩ := C_lend (i := 0) (n := n) (Ly_0 h (d + 1)) F.fr d1 (by omega) (by omega) (by simp only [List.length_nil]; omega)
  rw [List.nil_append] at L1
  have s1 : (sub vs 0 n).length = n := sub_len (by omega)
  obtain ⟨h2, a2, L2⟩ := C_lend (i := n + tM g0 t) (n := (hpl g0 y).length - n) L1 F.fr d1 (by omega) (by omega) (by omega)
  rw [s1] at a2
  have F1 := Fr_Ly F L1
  have c1 : F_226 (I3 t) h1 = some (I3 (tM g0 t), h1) := by
    have z := C_tmany F1.m.k.2.2.1 F1.m.k.2.2.2.1 t1'
    rw [(wT.2.1 t t1').2.1.1, show tn (g.1 73 t) = tM g t from rfl, m_tM F.ar] at z; exact z
  have CC : F_82_192 rec (I3 x) (I3 d) h = rec (I3 y) (I3 (d + 1)) h2 := by
    unfold F_82_192
    rw [bind_id, show F_83 rec (I3 x) (I3 d) h = F_83_0 rec (I3 x) (I3 d) h from rfl]
    unfold F_83_0 F_83_334
    rw [show F_43 (I3 x) 0 h = some (I3 y, h) by have := F.f43 (k := 0) (by omega); rw [ep] at this; exact this]; simp only [obs]
    rw [F.f38, ea]; simp only [obs]
    rw [F.f37, f]; simp only [obs]
    rw [if_pos (by decide), show F_80 (I3 d) 0 0 (I3 n) h = some h1 from a1]; simp only [obs]
    rw [F1.f39, eb]; simp only [obs]
    rw [c1]; simp only [obs]
    rw [F1.cmn y1]; simp only [obs]
    rw [I3_add, I3_sub hn, a2]; simp only [obs]
    rw [bind_id, show I3 d + 1 = I3 (d + 1) from I3_add d 1]
  rw [CC]
  obtain ⟨g1, b1, P1⟩ := R_copy (i := 0) (n := n) (Ph_0 c59) F.st (Nat.le_refl _) (by omega) (by simp only [List.length_nil]; omega)
  rw [List.nil_append] at P1
  obtain ⟨g2, b2, P2⟩ := R_copy (i := n + tM g0 t) (n := (hpl g0 y).length - n) P1 F.st (Nat.le_refl _) (by omega) (by omega)
  have tw : tyV g (hpl g0 y) (sub vs 0 n ++ sub vs (n + tM g0 t) ((hpl g0 y).length - n)) := by
    have z := tyV_app (tyV_sub F.ty (i := 0) (n := n) (by omega)) (tyV_sub F.ty (i := n + tM g0 t) (n := (hpl g0 y).length - n) (by omega))
    have e1 : seg (hpl g0 x) 0 n = (hpl g0 y).take n := by
      rw [seg_take (by omega), el, List.take_append_of_le_length (by rw [List.length_take]; omega), List.take_take, Nat.min_self]
    have e2 : seg (hpl g0 x) (n + tM g0 t) ((hpl g0 y).length - n) = (hpl g0 y).drop n := by
      rw [seg_drop (by omega), el, ← List.append_assoc, List.drop_left' (by rw [List.length_append, List.length_take]; omega)]
    rw [e1, e2, List.take_append_drop] at z; exact z
  obtain ⟨u, e1, e2⟩ := tail2 IH F y1 (Nat.le_refl _) (by omega) L2 P2 tw
  rw [er]
  refine Ends_step (step_enter (by omega) F.c64 F.c56 c63 ?_) e2
  rw [R, ea, eb, I3_add, show F_343 (I3 vp) (I3 (vp + n)) g = some g1 from b1]; simp only [obs]
  have l73 : ldI g1 73 300 (I3 t) = some (I3 (tM g0 t)) := by
    have w300 : nT g ≤ 300 := wT.1.2
    rw [ldI_I (by omega) (by decide), P1.a.1 73 t (by unfold SP; omega), (wT.2.1 t t1').2.1.1, show tn (g.1 73 t) = tM g t from rfl, m_tM F.ar]
  rw [l73]; simp only [obs]
  rw [I3_add, I3_add, e81, show vp + n + tM g0 t = vp + (n + tM g0 t) by omega, show vp + vs.length = vp + (n + tM g0 t) + ((hpl g0 y).length - n) by omega, b2]; simp only [obs]
  rw [e1]; rfl
