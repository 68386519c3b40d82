theorem run_6 {rec : Int32 → Int32 → sm_H → Option (Int32 × sm_H)} {d fuel s x vp : Nat} {vs : List Val} {h0 g0 h g : sm_H} (IH : CallOK (d + 1) rec) (F : Fr d fuel s x vp vs h0 g0 h g 0 (s + 1)) (c63 : g.1 67 63 = 0) (c59 : g.1 67 59 = I3 (vp + vs.length)) (eh : sm_wI h0 49 8 (h0.1 49 8 + 1) = h) (lf : h0.1 49 8 < h0.1 49 7) (f : fm g0 x = 6) : Ends d fuel s vp (tn (hrs g0 x)) h0 g0 0 (F_82R rec (I3 x) (I3 d) h0) g := by
  have d1 := F.d1
  have v10 := F.v10
  have x500 := F.x500
  have vl := F.vl
  have vx := F.vx
  have fs := F.fs0
  rw [f] at fs
  have C := B82_6 (rec := rec) (x1 := I3 x) (x2 := I3 d) (by rw [I3_lit, I3_lt (by omega) (by decide)]; omega) lf eh (f ▸ F.f37)
  rw [C]
  have R := B370_6 F.c56 F.l103 F.l105 F.l305 F.l77 F.l78 F.l81 F.l81' (f ▸ F.l75)
  obtain ⟨y, n, y1, ep, hn, ea, ok, er, el⟩ := FS_6 fs
  have n10 := F.n10 y1
  have pl1 : (prt g0 x).length = 1 := by rw [ep]; rfl
  have e81 : g0.1 81 (24 * x) = I3 y := by have := F.at81 (k := 0) (by omega); rw [ep] at this; exact this
  have lx : vs.length + 1 = (hpl g0 y).length := by rw [vx, el, List.length_append, List.length_take, List.length_drop]; omega
  have y1' : y < nH g := by rw [m_nH F.ar]; exact y1
  obtain ⟨k, k1, k2, k3⟩ := kL_h F.m.k y1' n (by rw [m_hpl F.ar]; exact hn)
  rw [m_hpl F.ar] at k1
  have h12 := F.m.k.1.2.1
  rw [k1, tnI (by omega)] at ok
  obtain ⟨h1, a1, L1⟩ := C_lend (i := 0) (n := n) (Ly_0 h (d + 1)) F.fr d1 (by omega) (by omega) (by simp only [List.length_nil]; omega)
  rw [List.nil_append] at L1
  have s1 : (sub vs 0 n).length = n := sub_len (by omega)
  have F1 := Fr_Ly F L1
  obtain ⟨v1, v2, v3, -⟩ := constV F1.m.k (c := g0.2.1 79 x) k3 (okK_m F.ar ok)
  rw [conV_m F.ar] at v1 v2 v3
  generalize hv : conV g0 k (g0.2.1 79 x) = v at v1 v2 v3
  obtain ⟨h2, a2, L2⟩ := C_lay1 L1 (by omega) (by omega) v
  have l2 : (sub vs 0 n ++ [v]).length = n + 1 := by rw [List.length_append, s1]; rfl
  obtain ⟨h3, a3, L3⟩ := C_lend (i := n) (n := (hpl g0 y).length - n - 1) L2 F.fr d1 (by omega) (by omega) (by omega)
  rw [l2] at a3
  rw [s1] at a2
  have F2 := Fr_Ly F L2
  have CC : F_82_192 rec (I3 x) (I3 d) h = rec (I3 y) (I3 (d + 1)) h3 := by
    unfold F_82_192
    rw [bind_id, show F_83 rec (I3 x) (I3 d) h = F_83_0 rec (I3 x) (I3 d) h from rfl]
    unfold F_83_0 F_83_334
    rw [show F_43 (I3 x) 0 h = some (I3 y, h) by have := F.f43 (k := 0) (by omega); rw [ep] at this; exact this]; simp only [obs]
    rw [F.f38, ea]; simp only [obs]
    rw [F.f37, f]; simp only [obs]
    rw [if_neg (by decide), if_neg (by decide), if_pos (by decide), C_pc F.m.k y1' (by rw [m_hpl F.ar]; exact hn), m_hpl F.ar, k1]; simp only [obs]
    rw [F.f40]; simp only [obs]
    rw [show F_80 (I3 d) 0 0 (I3 n) h = some h1 from a1]; simp only [obs]
    rw [v2]; simp only [obs]
    rw [v3]; simp only [obs]
    rw [show I3 d + 1 = I3 (d + 1) from I3_add d 1, a2]; simp only [obs]
    rw [F2.cmn y1]; simp only [obs]
    rw [show I3 n + 1 = I3 (n + 1) from I3_add n 1, show I3 (hpl g0 y).length - I3 n - 1 = I3 ((hpl g0 y).length - n - 1) by rw [I3_sub (by omega)]; exact I3_sub (b := 1) (by omega), a3]; simp only [obs]
    rw [bind_id]
  rw [CC]
  obtain ⟨g1, b1, P1⟩ := R_copy (i := 0) (n := n) (Ph_0 c59) F.st (Nat.le_refl _) (by omega) (by simp only [List.length_nil]; omega)
  rw [List.nil_append] at P1
  have G1 := Fr_Ph F (Nat.le_refl _) P1
  obtain ⟨-, -, -, g2, w4, w5, w6, w7⟩ := constV G1.m.k (c := g0.2.1 79 x) (by rw [m_nC G1.ar, ← m_nC F.ar]; exact k3) (okK_m G1.ar ok)
  rw [conV_m G1.ar, hv] at w6 w7
  have P2 := Ph_48 P1 w5
  obtain ⟨g3, b3, P3⟩ := R_push P2 (by omega) v
  obtain ⟨g4, b4, P4⟩ := R_copy (i := n) (n := (hpl g0 y).length - n - 1) P3 F.st (Nat.le_refl _) (by omega) (by omega)
  have tw : tyV g (hpl g0 y) (sub vs 0 n ++ [v] ++ sub vs n ((hpl g0 y).length - n - 1)) := by
    have z := tyV_app (tyV_app (tyV_sub F.ty (i := 0) (n := n) (by omega)) (tyV_1 (k := at0 (hpl g0 y) n) (v := v) (by rw [k1, tnI (by omega)]; exact v1))) (tyV_sub F.ty (i := n) (n := (hpl g0 y).length - n - 1) (by omega))
    have e1 : seg (hpl g0 x) 0 n = (hpl g0 y).take n := by
      rw [seg_take (by omega), el, List.take_append_of_le_length (by rw [List.length_take]; omega), List.take_take, Nat.min_self]
    have e2 : seg (hpl g0 x) n ((hpl g0 y).length - n - 1) = (hpl g0 y).drop (n + 1) := by
      rw [seg_drop (by omega), el, List.drop_left' (by rw [List.length_take]; omega)]
    have e3 : (hpl g0 y).take n ++ [at0 (hpl g0 y) n] = (hpl g0 y).take (n + 1) := by
      rw [at0_get hn, ← List.take_succ_eq_append_getElem hn]
    rw [e1, e2, e3, List.take_append_drop] at z; exact z
  obtain ⟨u, e1, e2⟩ := tail2 IH F y1 (Nat.le_refl _) (by omega) L3 P4 tw
  rw [er]
  refine Ends_step (step_enter (by omega) F.c64 F.c56 c63 ?_) e2
  rw [R, ea, e81, I3_add, show F_343 (I3 vp) (I3 (vp + n)) g = some g1 from b1]; simp only [obs]
  rw [R_pc G1.m.k (by rw [m_nH G1.ar]; exact y1) (by rw [m_hpl G1.ar]; exact hn), m_hpl G1.ar, k1]; simp only [obs]
  rw [G1.l79]; simp only [obs]
  rw [w4]; simp only [obs]
  rw [w6, w7, b3]; simp only [obs]
  rw [I3_add, show vp + vs.length = vp + n + ((hpl g0 y).length - n - 1) by omega, b4]; simp only [obs]
  rw [e1]; rfl
def mvl (vs : List Val) (L : List Int32) (k : Nat) : List Val := (List.range k).map (fun i => atv vs (tn (at0 L (i + 1))))
theorem mvl_len (vs : List Val) (L : List Int32) (k : Nat) : (mvl vs L k).length = k := by unfold mvl; rw [List.length_map, List.length_range]
theorem mvl_s (vs : List Val) (L : List Int32) (k : Nat) : mvl vs L (k + 1) = mvl vs L k ++ [atv vs (tn (at0 L (k + 1)))] := by unfold mvl; rw [List.range_succ, List.map_append]; rfl
theorem atv_mvl {vs : List Val} {L : List Int32} {k i : Nat} (h : i < k) : atv (mvl vs L k) i = atv vs (tn (at0 L (i + 1))) := by
  unfold mvl atv; rw [List.getD_eq_getElem?_getD, List.getElem?_map, List.getElem?_range h]; rfl
theorem sub_1 {vs : List Val} {j : Nat} (h : j < vs.length) : sub vs j 1 = [atv vs j] := by
  have := sub_succ (l := vs) (i := j) (n := 0) (by omega)
  rw [sub_0, List.nil_append] at this; exact this
theorem run_5 {rec : Int32 → Int32 → sm_H → Option (Int32 × sm_H)} {d fuel s x vp : Nat} {vs : List Val} {h0 g0 h g : sm_H} (IH : CallOK (d + 1) rec) (F : Fr d fuel s x vp vs h0 g0 h g 0 (s + 1)) (c63 : g.1 67 63 = 0) (c59 : g.1 67 59 = I3 (vp + vs.length)) (eh : sm_wI h0 49 8 (h0.1 49 8 + 1) = h) (lf : h0.1 49 8 < h0.1 49 7) (f : fm g0 x = 5) : Ends d fuel s vp (tn (hrs g0 x)) h0 g0 0 (F_82R rec (I3 x) (I3 d) h0) g := by
  have d1 := F.d1
  have v10 := F.v10
  have x500 := F.x500
  have vl := F.vl
  have vx := F.vx
  have fs := F.fs0
  rw [f] at fs
  have C := B82_5 (rec := rec) (x1 := I3 x) (x2 := I3 d) (by rw [I3_lit, I3_lt (by omega) (by decide)]; omega) lf eh (f ▸ F.f37)
  rw [C]
  have R := B370_5 F.c56 F.l103 F.l105 F.l305 F.l77 F.l78 F.l81 F.l81' (f ▸ F.l75)
  obtain ⟨y, t, y1, t1, eb, er, er', el, pl', e0, mv⟩ := FS_5 fs
  have n10 := F.n10 y1
  have e81 : g0.1 81 (24 * x) = I3 y := by have := F.at81 (k := 0) (by omega); rw [← e0]; exact this
  have mj : ∀ k, k < (hpl g0 y).length → ∃ j, j < vs.length ∧ at0 (prt g0 x) (k + 1) = I3 j ∧ at0 (hpl g0 x) j = at0 (hpl g0 y) k := fun k hk => by
    obtain ⟨j, j1, j2, j3⟩ := mv k hk
    exact ⟨j, by omega, by rw [Nat.add_comm]; exact j2, j3⟩
  have CL : ∃ h2, F_83_131 rec (I3 x) (I3 d) (I3 y) 0 h = rec (I3 y) (I3 (d + 1)) h2 ∧ Ly h h2 (d + 1) (mvl vs (prt g0 x) (hpl g0 y).length) := by
    have LL : ∀ k, k ≤ (hpl g0 y).length → ∃ h2, F_83_131 rec (I3 x) (I3 d) (I3 y) 0 h = lp (F_83_131B rec) (1000000 - k) (I3 x, I3 d, I3 y, I3 k, h2) ∧ Ly h h2 (d + 1) (mvl vs (prt g0 x) k) := by
      intro k
      induction k with
      | zero => intro _; exact ⟨h, rfl, Ly_0 h (d + 1)⟩
      | succ k ih =>
        intro hk
        obtain ⟨h2, e1, e2⟩ := ih (by omega)
        obtain ⟨j, j1, j2, j3⟩ := mj k (by omega)
        have F2 := Fr_Ly F e2
        obtain ⟨h3, a3, L3⟩ := C_lend (i := j) (n := 1) e2 F.fr d1 (by omega) (by omega) (by rw [mvl_len]; omega)
        rw [mvl_len] at a3
        rw [sub_1 j1] at L3
        refine ⟨h3, ?_, by rw [mvl_s, j2, tnI (by omega)]; exact L3⟩
        rw [e1, lp_s (n := 1000000 - k) (s' := (I3 x, I3 d, I3 y, I3 (k + 1), h3)) (by omega) ?_]
        · rw [show 1000000 - k - 1 = 1000000 - (k + 1) by omega]
        · unfold F_83_131B
          rw [F2.cmn y1]; simp only [obs]
          rw [if_neg (by rw [I3_le (by omega) (by omega)]; omega), show I3 k + 1 = I3 (k + 1) from I3_add k 1, F2.f43 (by omega), j2]; simp only [obs]
          rw [show F_80 (I3 d) (I3 j) (I3 k) 1 h2 = some h3 from a3]; simp only [obs]
    obtain ⟨h2, e1, e2⟩ := LL _ (Nat.le_refl _)
    refine ⟨h2, ?_, e2⟩
    rw [e1]
    have F2 := Fr_Ly F e2
    have fin : ∀ (r : Option (Int32 × sm_H)), F_83_131B rec (I3 x, I3 d, I3 y, I3 (hpl g0 y).length, h2) = r.map (fun q => .inr q) → lp (F_83_131B rec) (1000000 - (hpl g0 y).length) (I3 x, I3 d, I3 y, I3 (hpl g0 y).length, h2) = r := fun r z => by
      cases r with
      | none =>
        have := lp_n (n := 1000000 - (hpl g0 y).length - 1) z
        rw [show 1000000 - (hpl g0 y).length - 1 + 1 = 1000000 - (hpl g0 y).length by omega] at this; exact this
      | some r => exact lp_e (by omega) z
    refine fin _ ?_
    unfold F_83_131B F_83_334
    rw [F2.cmn y1]; simp only [obs]
    rw [if_pos (by rw [I3_le (by omega) (by omega)]; omega), bind_id, show I3 d + 1 = I3 (d + 1) from I3_add d 1]
  obtain ⟨h2, c1, L2⟩ := CL
  have CC : F_82_192 rec (I3 x) (I3 d) h = rec (I3 y) (I3 (d + 1)) h2 := by
    unfold F_82_192
    rw [bind_id, show F_83 rec (I3 x) (I3 d) h = F_83_0 rec (I3 x) (I3 d) h from rfl]
    unfold F_83_0
    rw [show F_43 (I3 x) 0 h = some (I3 y, h) by have := F.f43 (k := 0) (by omega); rw [e0] at this; exact this]; simp only [obs]
    rw [F.f38]; simp only [obs]
    rw [F.f37, f]; simp only [obs]
    rw [if_neg (by decide), if_pos (by decide), c1]
  rw [CC]
  have tw : tyV g (hpl g0 y) (mvl vs (prt g0 x) (hpl g0 y).length) := by
    refine ⟨mvl_len _ _ _, fun i hi => ?_⟩
    rw [mvl_len] at hi
    obtain ⟨j, j1, j2, j3⟩ := mj i hi
    rw [atv_mvl hi, j2, tnI (by omega), ← j3]
    exact F.ty.2 j j1
  have RL : ∃ g2, F_370_338 (I3 x) (I3 y) 0 g = (F_349 (I3 y) g2).bind (fun q => some q) ∧ Ph g g2 (vp + vs.length) (mvl vs (prt g0 x) (hpl g0 y).length) := by
    have LL : ∀ k, k ≤ (hpl g0 y).length → ∃ g2, F_370_338 (I3 x) (I3 y) 0 g = lp F_370_338B (1000000 - k) (I3 x, I3 y, I3 k, g2) ∧ Ph g g2 (vp + vs.length) (mvl vs (prt g0 x) k) := by
      intro k
      induction k with
      | zero => intro _; exact ⟨g, rfl, Ph_0 c59⟩
      | succ k ih =>
        intro hk
        obtain ⟨g2, e1, e2⟩ := ih (by omega)
        obtain ⟨j, j1, j2, j3⟩ := mj k (by omega)
        have F2 := Fr_Ph F (Nat.le_refl _) e2
        obtain ⟨g3, b3, P3⟩ := R_push e2 (by rw [mvl_len]; omega) (atv vs j)
        refine ⟨g3, ?_, by rw [mvl_s, j2, tnI (by omega)]; exact P3⟩
        rw [e1, lp_s (n := 1000000 - k) (s' := (I3 x, I3 y, I3 (k + 1), g3)) (by omega) ?_]
        · rw [show 1000000 - k - 1 = 1000000 - (k + 1) by omega]
        · have l81 : ldI g2 81 12000 (24 * I3 x + 1 + I3 k) = some (I3 j) := by
            rw [show (24 : Int32) * I3 x + 1 + I3 k = I3 (24 * x + (k + 1)) by rw [I3_lit, I3_lit, I3_mul, I3_add, I3_add, Nat.add_assoc, Nat.add_comm 1 k], F2.l81k (by omega), F2.at81 (by omega), j2]
          unfold F_370_338B
          rw [F2.mn y1]; simp only [obs]
          rw [if_neg (by rw [I3_le (by omega) (by omega)]; omega), l81]; simp only [obs]
          rw [F2.k351 j1]; simp only [obs]
          rw [l81]; simp only [obs]
          rw [F2.k352 j1]; simp only [obs]
          rw [b3]; simp only [obs]
          rw [show I3 k + 1 = I3 (k + 1) from I3_add k 1]
    obtain ⟨g2, e1, e2⟩ := LL _ (Nat.le_refl _)
    refine ⟨g2, ?_, e2⟩
    rw [e1]
    have F2 := Fr_Ph F (Nat.le_refl _) e2
    have fin : ∀ (r : Option sm_H), F_370_338B (I3 x, I3 y, I3 (hpl g0 y).length, g2) = r.map (fun q => .inr q) → lp F_370_338B (1000000 - (hpl g0 y).length) (I3 x, I3 y, I3 (hpl g0 y).length, g2) = r := fun r z => by
      cases r with
      | none =>
        have := lp_n (n := 1000000 - (hpl g0 y).length - 1) z
        rw [show 1000000 - (hpl g0 y).length - 1 + 1 = 1000000 - (hpl g0 y).length by omega] at this; exact this
      | some r => exact lp_e (by omega) z
    refine fin _ ?_
    unfold F_370_338B
    rw [F2.mn y1]; simp only [obs]
    rw [if_pos (by rw [I3_le (by omega) (by omega)]; omega)]
    cases F_349 (I3 y) g2 <;> rfl
  obtain ⟨g2, r1, P2⟩ := RL
  obtain ⟨u, e1, e2⟩ := tail2 IH F y1 (Nat.le_refl _) (by omega) L2 P2 tw
  rw [er]
  refine Ends_step (step_enter (by omega) F.c64 F.c56 c63 ?_) e2
  rw [R, e81, r1, e1]; rfl
