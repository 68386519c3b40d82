theorem chgL_0 (e : Int32) {w : Nat} (w1 : 5 ≤ w) (w2 : w ≤ 8) : 0 < (chgL e w).length ∧ at0 (chgL e w) 0 = e := by
  unfold chgL
  rcases (show w = 5 ∨ w = 6 ∨ w = 7 ∨ w = 8 by omega) with rfl | rfl | rfl | rfl <;> exact ⟨Nat.zero_lt_succ _, rfl⟩
theorem chgL_1 (e : Int32) : 1 < (chgL e 7).length ∧ at0 (chgL e 7) 1 = e := ⟨Nat.le_refl 2, rfl⟩
theorem cell_el {h g : sm_H} (K : K1 h g) {t k i : Nat} (t1 : t < nX g) (k1 : 15 ≤ k) (k2 : k ≤ 17) (t96 : g.1 96 t = I3 k) (i1 : i < tn (g.1 97 t)) (ok : okV g (k - 10) (g.1 98 (100 * t + i)) (g.2.1 99 (100 * t + i))) : Cell h g (131 + 3 * t) (132 + 3 * t) (133 + 3 * t) i (szX g t) (100 * t + i) 0 (k - 10) (g.1 98 (100 * t + i), g.2.1 99 (100 * t + i)) := by
  have wX := K.2.2.2.2.2.2.2.2.2.2.2.1
  have cXhq := K.2.2.2.2.2.2.2.2.2.2.2.2.2.1
  have x1000 := nX_1000 K
  have w := wX.2.1 t t1
  have w12 := w.1.2
  have esz : szX g t = tn (g.1 97 t) := by unfold szX; rw [t96, tnI (by omega), if_pos (by omega)]
  refine ⟨thX wX cXhq t1, by omega, (cXhq.2.2 t t1).2.2.2.2.2.2.2.2 i (by omega), Or.inl ⟨rfl, by omega, rfl, rfl⟩, ok, fun v okv => ?_⟩
  unfold putR
  rw [if_pos rfl]
  exact T_chg K t1 (by omega) v (Or.inl ⟨k, k1, k2, t96, okv⟩)
section
variable {d fuel s0 x vp p s : Nat} {vs : List Val} {h0 g0 h g : sm_H}
theorem elems {rec : Int32 → Int32 → sm_H → Option (Int32 × sm_H)} (F : Fr d fuel s0 x vp vs h0 g0 h g p s) (c63 : g.1 67 63 = 0) {w k : Nat} (w1 : 4 ≤ w) (w2 : w ≤ 8) (f : fm g0 x = 18 + w) (k1 : 15 ≤ k) (k2 : k ≤ 17) (ea : g0.1 77 x = I3 k) (w8 : w = 8 → k ≠ 17) (er : hrs g0 x = chgR (I3 (k - 10)) w) (el : hpl g0 x = I3 k :: 5 :: chgL (I3 (k - 10)) w) (C0 : F_102 (I3 x) (I3 d) h = F_102_368 (I3 x) (I3 d) h) (R : F_370 g = F_370_726 (I3 x) (g0.1 77 x) g) : Ends d fuel s0 vp (tn (hrs g0 x)) h0 g0 p (F_82_367 rec (I3 x) (I3 d) h) g := by
  have d1 := F.d1
  have vx := F.vx
  have h12 := F.m.k.1.2.1
  have x1000 := nX_1000 F.m.k
  have wX := F.m.k.2.2.2.2.2.2.2.2.2.2.2.1
  have cXq := F.m.k.2.2.2.2.2.2.2.2.2.2.2.2.1
  have cXhq := F.m.k.2.2.2.2.2.2.2.2.2.2.2.2.2.1
  have vl : vs.length = 2 + (chgL (I3 (k - 10)) w).length := by rw [vx, el]; simp only [List.length_cons]; omega
  have ok0 := F.ty.2 0 (by omega)
  have ok1 := F.ty.2 1 (by omega)
  rw [el, show at0 (I3 k :: 5 :: chgL (I3 (k - 10)) w) 0 = I3 k from rfl, tnI (by omega)] at ok0
  rw [el, show at0 (I3 k :: 5 :: chgL (I3 (k - 10)) w) 1 = 5 from rfl, show tn (5 : Int32) = 5 from rfl] at ok1
  obtain ⟨-, n5⟩ := okV_6 (by decide) (by decide) ok1
  have n5 := n5.2.2.2.2 rfl
  have ok2 : ∀ j, j < (chgL (I3 (k - 10)) w).length → 2 + j < vs.length ∧ okV g (tn (at0 (chgL (I3 (k - 10)) w) j)) (atv vs (2 + j)).1 (atv vs (2 + j)).2 := fun j hj => by
    have z := F.ty.2 (2 + j) (by omega)
    rw [el, show at0 (I3 k :: 5 :: chgL (I3 (k - 10)) w) (2 + j) = at0 (chgL (I3 (k - 10)) w) j by rw [Nat.add_comm]; rfl] at z
    exact ⟨by omega, z⟩
  have tk : tn (I3 (k - 10)) = k - 10 := tnI (by omega)
  have a1 : 5 ≤ w → 2 < vs.length ∧ okV g (k - 10) (atv vs 2).1 (atv vs 2).2 := fun h5 => by
    have c0 := chgL_0 (I3 (k - 10)) h5 w2
    have z := ok2 0 c0.1; rw [c0.2, tk] at z; exact z
  have a2 : w = 7 → 2 + 1 < vs.length ∧ okV g (k - 10) (atv vs (2 + 1)).1 (atv vs (2 + 1)).2 := fun h7 => by
    subst h7
    have c0 := chgL_1 (I3 (k - 10))
    have z := ok2 1 c0.1; rw [c0.2, tk] at z; exact z
  have k0 : F_351 0 g = _ := F.k351 (i := 0) (by omega)
  have n0 : F_352 0 g = _ := F.k352 (i := 0) (by omega)
  have n1 : F_352 1 g = _ := F.k352 (i := 1) (by omega)
  have c0 : F_77 (I3 d) 0 h = _ := F.c77 (i := 0) (by omega)
  have c1 : F_77 (I3 d) 1 h = _ := F.c77 (i := 1) (by omega)
  have t0 : F_78 (I3 d) 0 h = _ := F.c78 (i := 0) (by omega)
  unfold F_370_726 at R
  rw [F.l75, f] at R; simp only [obs] at R
  rw [bind_id1, show F_361 (I3 (18 + w)) (g0.1 77 x) g = F_361_0 (I3 (18 + w)) (g0.1 77 x) g from rfl] at R
  unfold F_361_0 F_361_67 at R
  rw [k0] at R; simp only [obs] at R
  unfold F_102_368 at C0
  rw [bind_id, show F_108 (I3 x) (I3 d) h = F_108_0 (I3 x) (I3 d) h from rfl] at C0
  unfold F_108_0 at C0
  rw [t0] at C0; simp only [obs] at C0
  have CC : ∀ r, F_102 (I3 x) (I3 d) h = r → F_82_367 rec (I3 x) (I3 d) h = r := fun r e => by unfold F_82_367; rw [bind_id, e]
  rcases rowV F.m.k k1 k2 ok0 with ⟨z1, z2⟩ | ⟨t, t1, tv, t96, tsz, t97, t100, z6, z7, oke⟩
  · rw [if_pos z2] at C0
    obtain ⟨u, h', f1, f2, f3⟩ := Fr_fail (rk := tn (hrs g0 x)) F 1
    rw [f2] at C0; simp only [obs] at C0
    rw [CC _ C0]
    refine Ends_step (step_enter (by omega) F.c64 F.c56 c63 ?_) f3
    rw [R, z1, if_pos (show ((0 : Int32), (0 : Int64)).1 = 0 from rfl), f1]; rfl
  · have tn2 : (atv vs 0).2 = I6 t := by rw [tv]
    have th := thX wX cXhq t1
    rw [if_neg (by rw [z6]; exact z7), c0, tn2] at C0; simp only [obs] at C0
    rw [C_thing wX cXq cXhq t1] at C0; simp only [obs] at C0
    rw [c1] at C0; simp only [obs] at C0
    rw [if_neg (not_not_intro th.1), C_thhas th, tsz] at C0; simp only [obs] at C0
    rw [if_neg z7, n0, tn2] at R; simp only [obs] at R
    rw [if_neg (show ¬ I3 (18 + w) = (21 : Int32) by rw [I3_lit, I3_inj (by omega) (by decide)]; omega), n1] at R; simp only [obs] at R
    rw [I6_32, ldI_I (by omega) (by decide), t97] at R; simp only [obs] at R
    generalize hn : (atv vs 1).2 = n at *
    have e0 : (0 : Int64).toInt = 0 := rfl
    have eR : Int32.toInt64 (Int64.toInt32 n) = n := by
      have := nar_id (k := 5) (by decide) (by decide) (n := n) ⟨fun z => by (cases z), fun z => by (cases z), fun z => by (cases z), fun z => by (cases z), fun _ => n5⟩
      exact this
    have en : (Int64.toInt32 n).toInt = n.toInt := by rw [← toI64, eR]
    by_cases q : 0 ≤ n.toInt ∧ n.toInt < (tn (g.1 97 t) : Int)
    · have ei : Int64.toInt32 n = I3 n.toInt.toNat := by
        rw [← Int32.toInt_inj, en, I3_toInt (by omega)]; omega
      generalize hi : n.toInt.toNat = i at *
      have i1 : i < tn (g.1 97 t) := by omega
      rw [ei, inR_I (by omega), decide_eq_true i1, if_neg (by decide), F.f37, f] at C0; simp only [obs] at C0
      rw [F.f38, ea] at C0; simp only [obs] at C0
      rw [C_elem k1 k2] at C0; simp only [obs] at C0
      obtain ⟨u, h', e1, e2, e3⟩ := chg F (fun h K => cell_el K t1 k1 k2 t96 i1 (oke i i1)) (k := k - 10) (by omega) (by omega) w1 w2 (fun z => ⟨by omega, by have := w8 z; omega⟩) (Nat.le_refl 2) a1 a2
      rw [show I3 (18 + w) - 22 + 4 = I3 w by rw [show (22 : Int32) = I3 22 from rfl, show (4 : Int32) = I3 4 from rfl, I3_sub (by omega), I3_add]; congr 1; omega, show F_110 (131 + 3 * t) (I3 i) (I3 w) (I3 (k - 10)) (I3 d) 2 h = some (0, h') from e1] at C0; simp only [obs] at C0
      rw [CC _ C0, er]
      refine Ends_step (step_enter (by omega) F.c64 F.c56 c63 ?_) e3
      rw [R, if_neg (by rw [cmp_lt]; omega), if_pos (by rw [cmp_lt, toI64, I3_toInt (by omega)]; omega), ea, R_elem g k1 k2]; simp only [obs]
      rw [ei, show (100 : Int32) * I3 t + I3 i = I3 (100 * t + i) by rw [I3_lit, I3_mul, I3_add], show F_360 (I3 (18 + w)) (I3 (100 * t + i)) 0 (I3 (k - 10)) 2 g = some u from e2]; rfl
    · have ir : inR (Int64.toInt32 n) (tn (g.1 97 t)) = false := by unfold inR; rw [en]; exact decide_eq_false q
      rw [ir, if_pos (by decide)] at C0
      obtain ⟨u, h', f1, f2, f3⟩ := Fr_fail (rk := tn (hrs g0 x)) F 6
      rw [f2] at C0; simp only [obs] at C0
      rw [CC _ C0]
      refine Ends_step (step_enter (by omega) F.c64 F.c56 c63 ?_) f3
      rw [R]
      by_cases q1 : n.toInt < 0
      · rw [if_pos (by rw [cmp_lt]; exact q1), f1]; rfl
      · rw [if_neg (by rw [cmp_lt]; exact q1), if_neg (by rw [cmp_lt, toI64, I3_toInt (by omega)]; omega), f1]; rfl
end
theorem run_22 {rec : Int32 → Int32 → sm_H → Option (Int32 × sm_H)} {d fuel s x vp : Nat} {vs : List Val} {h0 g0 h g : sm_H} (IH : CallOK (d + 1) rec) (F : Fr d fuel s x vp vs h0 g0 h g 0 (s + 1)) (c63 : g.1 67 63 = 0) (c59 : g.1 67 59 = I3 (vp + vs.length)) (eh : sm_wI h0 49 8 (h0.1 49 8 + 1) = h) (lf : h0.1 49 8 < h0.1 49 7) (f : fm g0 x = 22) : Ends d fuel s vp (tn (hrs g0 x)) h0 g0 0 (F_82R rec (I3 x) (I3 d) h0) g := by
  have d1 := F.d1
  have v10 := F.v10
  have x500 := F.x500
  have vl := F.vl
  have vx := F.vx
  have fs := F.fs0
  rw [f] at fs
  have C := B82_22 (rec := rec) (x1 := I3 x) (x2 := I3 d) (by rw [I3_lit, I3_lt (by omega) (by decide)]; omega) lf eh (f ▸ F.f37)
  rw [C]
  have R := B370_22 F.c56 F.l103 F.l105 F.l305 F.l77 F.l78 F.l81 F.l81' (f ▸ F.l75)
  obtain ⟨ep, k, k1, k2, ea, w8, -, -, r⟩ := FS_22 fs
  obtain ⟨er, el⟩ := r (by decide)
  rw [ea] at el
  exact elems F c63 (w := 4) (by decide) (by decide) f k1 k2 ea (fun z => by cases z) er el (B102_22 F.f38 (f ▸ F.f37)) R
theorem run_23 {rec : Int32 → Int32 → sm_H → Option (Int32 × sm_H)} {d fuel s x vp : Nat} {vs : List Val} {h0 g0 h g : sm_H} (IH : CallOK (d + 1) rec) (F : Fr d fuel s x vp vs h0 g0 h g 0 (s + 1)) (c63 : g.1 67 63 = 0) (c59 : g.1 67 59 = I3 (vp + vs.length)) (eh : sm_wI h0 49 8 (h0.1 49 8 + 1) = h) (lf : h0.1 49 8 < h0.1 49 7) (f : fm g0 x = 23) : Ends d fuel s vp (tn (hrs g0 x)) h0 g0 0 (F_82R rec (I3 x) (I3 d) h0) g := by
  have d1 := F.d1
  have v10 := F.v10
  have x500 := F.x500
  have vl := F.vl
  have vx := F.vx
  have fs := F.fs0
  rw [f] at fs
  have C := B82_23 (rec := rec) (x1 := I3 x) (x2 := I3 d) (by rw [I3_lit, I3_lt (by omega) (by decide)]; omega) lf eh (f ▸ F.f37)
  rw [C]
  have R := B370_23 F.c56 F.l103 F.l105 F.l305 F.l77 F.l78 F.l81 F.l81' (f ▸ F.l75)
  obtain ⟨ep, k, k1, k2, ea, w8, -, -, r⟩ := FS_23 fs
  obtain ⟨er, el⟩ := r (by decide)
  rw [ea] at el
  exact elems F c63 (w := 5) (by decide) (by decide) f k1 k2 ea (fun z => by cases z) er el (B102_23 F.f38 (f ▸ F.f37)) R
theorem run_24 {rec : Int32 → Int32 → sm_H → Option (Int32 × sm_H)} {d fuel s x vp : Nat} {vs : List Val} {h0 g0 h g : sm_H} (IH : CallOK (d + 1) rec) (F : Fr d fuel s x vp vs h0 g0 h g 0 (s + 1)) (c63 : g.1 67 63 = 0) (c59 : g.1 67 59 = I3 (vp + vs.length)) (eh : sm_wI h0 49 8 (h0.1 49 8 + 1) = h) (lf : h0.1 49 8 < h0.1 49 7) (f : fm g0 x = 24) : Ends d fuel s vp (tn (hrs g0 x)) h0 g0 0 (F_82R rec (I3 x) (I3 d) h0) g := by
  have d1 := F.d1
  have v10 := F.v10
  have x500 := F.x500
  have vl := F.vl
  have vx := F.vx
  have fs := F.fs0
  rw [f] at fs
  have C := B82_24 (rec := rec) (x1 := I3 x) (x2 := I3 d) (by rw [I3_lit, I3_lt (by omega) (by decide)]; omega) lf eh (f ▸ F.f37)
  rw [C]
  have R := B370_24 F.c56 F.l103 F.l105 F.l305 F.l77 F.l78 F.l81 F.l81' (f ▸ F.l75)
  obtain ⟨ep, k, k1, k2, ea, w8, -, -, r⟩ := FS_24 fs
  obtain ⟨er, el⟩ := r (by decide)
  rw [ea] at el
  exact elems F c63 (w := 6) (by decide) (by decide) f k1 k2 ea (fun z => by cases z) er el (B102_24 F.f38 (f ▸ F.f37)) R
theorem run_25 {rec : Int32 → Int32 → sm_H → Option (Int32 × sm_H)} {d fuel s x vp : Nat} {vs : List Val} {h0 g0 h g : sm_H} (IH : CallOK (d + 1) rec) (F : Fr d fuel s x vp vs h0 g0 h g 0 (s + 1)) (c63 : g.1 67 63 = 0) (c59 : g.1 67 59 = I3 (vp + vs.length)) (eh : sm_wI h0 49 8 (h0.1 49 8 + 1) = h) (lf : h0.1 49 8 < h0.1 49 7) (f : fm g0 x = 25) : Ends d fuel s vp (tn (hrs g0 x)) h0 g0 0 (F_82R rec (I3 x) (I3 d) h0) g := by
  have d1 := F.d1
  have v10 := F.v10
  have x500 := F.x500
  have vl := F.vl
  have vx := F.vx
  have fs := F.fs0
  rw [f] at fs
  have C := B82_25 (rec := rec) (x1 := I3 x) (x2 := I3 d) (by rw [I3_lit, I3_lt (by omega) (by decide)]; omega) lf eh (f ▸ F.f37)
  rw [C]
  have R := B370_25 F.c56 F.l103 F.l105 F.l305 F.l77 F.l78 F.l81 F.l81' (f ▸ F.l75)
  obtain ⟨ep, k, k1, k2, ea, w8, -, -, r⟩ := FS_25 fs
  obtain ⟨er, el⟩ := r (by decide)
  rw [ea] at el
  exact elems F c63 (w := 7) (by decide) (by decide) f k1 k2 ea (fun z => by cases z) er el (B102_25 F.f38 (f ▸ F.f37)) R
theorem run_26 {rec : Int32 → Int32 → sm_H → Option (Int32 × sm_H)} {d fuel s x vp : Nat} {vs : List Val} {h0 g0 h g : sm_H} (IH : CallOK (d + 1) rec) (F : Fr d fuel s x vp vs h0 g0 h g 0 (s + 1)) (c63 : g.1 67 63 = 0) (c59 : g.1 67 59 = I3 (vp + vs.length)) (eh : sm_wI h0 49 8 (h0.1 49 8 + 1) = h) (lf : h0.1 49 8 < h0.1 49 7) (f : fm g0 x = 26) : Ends d fuel s vp (tn (hrs g0 x)) h0 g0 0 (F_82R rec (I3 x) (I3 d) h0) g := by
  have d1 := F.d1
  have v10 := F.v10
  have x500 := F.x500
  have vl := F.vl
  have vx := F.vx
  have fs := F.fs0
  rw [f] at fs
  have C := B82_26 (rec := rec) (x1 := I3 x) (x2 := I3 d) (by rw [I3_lit, I3_lt (by omega) (by decide)]; omega) lf eh (f ▸ F.f37)
  rw [C]
  have R := B370_26 F.c56 F.l103 F.l105 F.l305 F.l77 F.l78 F.l81 F.l81' (f ▸ F.l75)
  obtain ⟨ep, k, k1, k2, ea, w8, -, -, r⟩ := FS_26 fs
  obtain ⟨er, el⟩ := r (by decide)
  rw [ea] at el
  exact elems F c63 (w := 8) (by decide) (by decide) f k1 k2 ea (fun _ => w8 rfl) er el (B102_26 F.f38 (f ▸ F.f37)) R
