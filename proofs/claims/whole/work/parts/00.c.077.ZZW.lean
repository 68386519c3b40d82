theorem B_self1 {g : sm_H} (wK : wfK g) {o : Nat} (h1 : 9 ≤ o) (h2 : o ≤ 18) : ∀ x, x ≠ o → x < 20 + nC g → B g x o = false := by
  intro x
  induction x using Nat.strongRecOn with
  | _ x ih =>
    intro e1 e2
    rcases Nat.lt_or_ge x 20 with c | c
    · rw [B_lt20 c, kB_eq (by omega) (by omega)]; simp [e1]
    · have p2 := (wK.2.2 (x - 20) (by omega)).2
      rw [B_ge20 wK e2 c, ih _ (by omega) (by omega) (by omega)]
      have : Nat.beq x o = false := by
        cases q : Nat.beq x o with
        | false => rfl
        | true => have := Nat.eq_of_beq_eq_true q; omega
      rw [this]; rfl
section
variable {d fuel s0 x vp p s : Nat} {vs : List Val} {h0 g0 h g : sm_H}
theorem tailK {rec : Int32 → Int32 → sm_H → Option (Int32 × sm_H)} (IH : CallOK (d + 1) rec) (F : Fr d fuel s0 x vp vs h0 g0 h g p s) {h' g' : sm_H} {y T : Nat} {ws : List Val} (y1 : y < nH g0) (t1 : vp + vs.length ≤ T) (t2 : T ≤ vp + vs.length + 10) (L : Ly h h' (d + 1) ws) (P : Ph g g' T ws) (tw : tyV g (hpl g0 y) ws) {k : Int32 × sm_H → Option (Int32 × sm_H)} (stop : ∀ o h1, 1 ≤ o → o ≤ 4 → k (I3 o, h1) = some (I3 o, h1))
    (go : ∀ h1 g1 p1 s1, Fr d fuel s0 x vp vs h0 g0 h1 g1 p1 s1 → res h1 g1 0 (tn (hrs g0 y)) → ∃ h2, k (I3 0, h1) = some (0, h2) ∧ agr S910 h1 h2 ∧ h2.2.2 = h1.2.2 ∧ res h2 g1 0 (tn (hrs g0 y))) : ∃ u, F_349 (I3 y) g' = some u ∧ Ends d fuel s0 vp (tn (hrs g0 y)) h0 g0 (p + 1) ((rec (I3 y) (I3 (d + 1)) h').bind k) u := by
  have M := midG IH F (y := y) 90 y1 t1 t2 L P tw (rk := tn (hrs g0 y)) (k := k) (fun o h1 o1 o2 => stop o h1 (by omega) o2) (fun out h1 g1 p1 s1 o1 G t59 t63 t62 t104 r kp _ => by
    rcases (show out = 0 ∨ out = 1 by omega) with rfl | rfl
    · obtain ⟨h2, k1, k2, k3, k4⟩ := go h1 g1 p1 s1 G r
      rw [k1]
      exact thru (Fr_h G (agr_mono (fun b j z => by unfold S910 at z; unfold SC1; omega) k2) k3) (out := 0) (by decide) t63 t62 k4 (fun _ => t104) (fun z => by cases z)
    · rw [stop 1 h1 (by decide) (by decide)]
      exact thru G (Nat.le_refl 1) t63 t62 ⟨r.1, r.2.1, fun z => by (cases z), r.2.2.2⟩ (fun z => by cases z) (fun _ => Or.inl (by rw [t104]; decide)))
  obtain ⟨u, e1, e2⟩ := M
  refine ⟨u, ?_, e2⟩
  have F1 := Fr_Ph (Fr_Ly F L) t1 P
  have z : F_350_0 (I3 y) 90 g' = F_349_0 (I3 y) g' := rfl
  exact z.symm.trans e1
theorem asSame (rec : Int32 → Int32 → sm_H → Option (Int32 × sm_H)) (F : Fr d fuel s0 x vp vs h0 g0 h g p s) {y i : Nat} (f : Bool) (y1 : y < nH g0) (hi : i + (hpl g0 y).length ≤ vs.length) : ∃ h', F_89 rec (I3 y) (I3 (ty g0 y)) (I3 i) (I3 d) (b2 f) h = contA rec y (ty g0 y) d f h' ∧ Lz h h' d (sub vs i (hpl g0 y).length) := by
  have d1 := F.d1
  have v10 := F.v10
  have h12 := F.m.k.1.2.1
  have ly := hpl_len g0 y
  have y1' : y < nH g := by rw [m_nH F.ar]; exact y1
  have tg : ty g0 y < nT g := by rw [← m_ty F.ar]; exact ty_lt F.m.k y1'
  have LL : ∀ k, k ≤ (hpl g0 y).length → ∃ h', F_89 rec (I3 y) (I3 (ty g0 y)) (I3 i) (I3 d) (b2 f) h = lp (F_89_3B rec) (1000000 - k) (I3 y, I3 (ty g0 y), I3 i, I3 d, b2 f, I3 k, h') ∧ Lz h h' d (sub vs i k) := by
    intro k
    induction k with
    | zero => intro _; exact ⟨h, rfl, Lz_0 h d⟩
    | succ k ih =>
      intro hk
      obtain ⟨h', e1, L⟩ := ih (by omega)
      have Fh := Fr_Lz F L
      have ha9 : agr S910 h' (sm_wI (sm_wJ h' 49 9 (atv vs (i + k)).2) 49 10 (tag (atv vs (i + k)).1)) := agr_wI (agr_wJ agr_rfl (by unfold S910; omega)) (by unfold S910; omega)
      have L2 := Lz_cv L ha9 rfl
      have Fh2 := Fr_Lz F L2
      have sl : (sub vs i k).length = k := sub_len (by omega)
      obtain ⟨h4, a4, L4⟩ := Lz_lay L2 d1 (by omega) (atv vs (i + k))
      rw [sl] at a4
      obtain ⟨a, a1, a2, a3⟩ := kL_h F.m.k y1' k (by rw [m_hpl F.ar]; omega)
      rw [m_hpl F.ar] at a1
      refine ⟨h4, ?_, by rw [sub_succ (by omega)]; exact L4⟩
      rw [e1, lp_s (n := 1000000 - k) (s' := (I3 y, I3 (ty g0 y), I3 i, I3 d, b2 f, I3 (k + 1), h4)) (by omega) ?_]
      · rw [show 1000000 - k - 1 = 1000000 - (k + 1) by omega]
      · unfold F_89_3B
        rw [Fh.cmn y1]; simp only [obs]
        rw [if_neg (by rw [I3_le (by omega) (by omega)]; omega), I3_add, Fh.c77 (by omega)]; simp only [obs]
        rw [Fh.c78 (by omega)]; simp only [obs]
        rw [show F_75 (atv vs (i + k)).2 (tag (atv vs (i + k)).1) h' = some (0, sm_wI (sm_wJ h' 49 9 (atv vs (i + k)).2) 49 10 (tag (atv vs (i + k)).1)) from rfl]; simp only [obs]
        rw [C_tplace Fh2.m.k.2.2.1 Fh2.m.k.2.2.2.1 tg (by rw [m_tM F.ar]; omega)]; simp only [obs]
        rw [C_pc Fh2.m.k y1' (by rw [m_hpl F.ar]; omega), m_hpl F.ar, a1, (m_c F.ar (show 70 ≤ 74 by decide) (by decide)).1]
        have e74 : g0.1 74 (10 * ty g0 y + k) = I3 a := by rw [at0_lst (by omega)] at a1; exact a1
        rw [e74]; simp only [obs]
        have c90 : F_90 (I3 a) (I3 a) (b2 f) (sm_wI (sm_wJ h' 49 9 (atv vs (i + k)).2) 49 10 (tag (atv vs (i + k)).1)) = some (0, sm_wI (sm_wJ h' 49 9 (atv vs (i + k)).2) 49 10 (tag (atv vs (i + k)).1)) := by
          show F_90_0 (I3 a) (I3 a) (b2 f) _ = _
          unfold F_90_0
          rw [if_neg (by rw [I3_lit, I3_inj (by omega) (by decide)]; omega), if_neg (by rw [I3_lit, I3_inj (by omega) (by decide)]; omega), if_pos rfl]
        rw [c90]; simp only [obs]
        rw [if_pos trivial, show I3 d + 1 = I3 (d + 1) from I3_add d 1, show F_79 (I3 (d + 1)) (I3 k) ((sm_wI (sm_wJ h' 49 9 (atv vs (i + k)).2) 49 10 (tag (atv vs (i + k)).1)).2.1 49 9) ((sm_wI (sm_wJ h' 49 9 (atv vs (i + k)).2) 49 10 (tag (atv vs (i + k)).1)).1 49 10) (sm_wI (sm_wJ h' 49 9 (atv vs (i + k)).2) 49 10 (tag (atv vs (i + k)).1)) = some h4 from a4]; simp only [obs]
        rw [show I3 k + 1 = I3 (k + 1) from I3_add k 1]
  obtain ⟨h', e1, L⟩ := LL _ (Nat.le_refl _)
  refine ⟨h', ?_, L⟩
  have Fh := Fr_Lz F L
  rw [e1]
  have fin : ∀ (r : Option (Int32 × sm_H)), F_89_3B rec (I3 y, I3 (ty g0 y), I3 i, I3 d, b2 f, I3 (hpl g0 y).length, h') = r.map (fun q => .inr q) → lp (F_89_3B rec) (1000000 - (hpl g0 y).length) (I3 y, I3 (ty g0 y), I3 i, I3 d, b2 f, I3 (hpl g0 y).length, h') = r := fun r z => by
    cases r with
    | none =>
      have := lp_n (n := 1000000 - (hpl g0 y).length - 1) z
      rw [show 1000000 - (hpl g0 y).length - 1 + 1 = 1000000 - (hpl g0 y).length by omega] at this; exact this
    | some r => exact lp_e (by omega) z
  refine fin _ ?_
  unfold F_89_3B contA F_89_163
  rw [Fh.cmn y1]; simp only [obs]
  rw [if_pos (by rw [I3_le (by omega) (by omega)]; omega), show I3 d + 1 = I3 (d + 1) from I3_add d 1]
  cases rec (I3 y) (I3 (d + 1)) h' with
  | none => rfl
  | some q2 =>
    simp only [obs]
    by_cases q0 : q2.1 = 0
    · rw [if_pos q0, if_pos q0]
      cases F_44 (I3 y) q2.2 with
      | none => rfl
      | some q3 =>
        simp only [obs]
        cases F_225 (I3 (ty g0 y)) q3.2 with
        | none => rfl
        | some q4 =>
          simp only [obs]
          cases F_90 q3.1 q4.1 (b2 f) q4.2 with
          | none => rfl
          | some q5 =>
            simp only [obs]
            by_cases q1 : q5.1 = 0
            · rw [if_pos q1, if_pos q1]; first | rfl | done
            · rw [if_neg q1, if_neg q1]; rfl
    · rw [if_neg q0, if_neg q0]; rfl
end
theorem go_12 {d fuel s0 x vp p s : Nat} {vs : List Val} {h0 g0 h g : sm_H} (F : Fr d fuel s0 x vp vs h0 g0 h g p s) {y : Nat} (y1 : y < nH g0) (c62 : g.1 67 62 = I3 0) (c104 : g.1 104 d = 12) (c106 : g.1 106 d = I3 y) : F_377 g = ((F_300 (hrs g0 y) (hrs g0 x) (g.1 67 60) (g.2.1 67 61) 0 (sm_wI g 67 63 0)).bind fun q37 => if q37.1 = 0 then ((F_345 (q37.2.1 67 48) (q37.2.2.1 67 49) q37.2).bind fun q38 => F_377_252 q38) else ((F_348 q37.1 q37.2).bind fun q39 => F_377_252 q39)) := by
  have F' := Fr_63 F
  show F_377_0 g = _
  unfold F_377_0
  simp only [obs]
  rw [F.c56, show I3 (d + 1) - 1 = I3 d from I3_sub (a := d + 1) (b := 1) (by omega), F.l103]; simp only [obs]
  rw [F.l105]; simp only [obs]
  rw [F.l305]; simp only [obs]
  rw [F.l77]; simp only [obs]
  rw [F.l81]; simp only [obs]
  rw [F.l81']; simp only [obs]
  rw [if_pos (show (sm_wI g 67 63 0).1 67 62 = 0 from c62), ldI_I F.d1 (by decide), show (sm_wI g 67 63 0).1 104 d = g.1 104 d from rfl, c104]; simp only [obs]
  rw [if_neg (by decide), if_pos (by decide), ldI_I F.d1 (by decide), show (sm_wI g 67 63 0).1 106 d = g.1 106 d from rfl, c106]; simp only [obs]
  rw [F'.rs y1]; simp only [obs]
  rw [F'.rs F.x1]; simp only [obs]
  rfl
theorem asB_m {g g1 : sm_H} (a : agr SRm g g1) (u t : Nat) (f : Bool) : asB g1 u t f = asB g u t f := by
  have e1 : ∀ t k, tP g1 t k = tP g t k := fun t k => by show tn _ = tn _; rw [(m_c a (show 70 ≤ 74 by decide) (by decide)).1]
  have e2 : ∀ t, tR g1 t = tR g t := fun t => by show tn _ = tn _; rw [(m_c a (show 70 ≤ 72 by decide) (by decide)).1]
  have e3 : ∀ a' b' f r, mayB g1 a' b' f r = mayB g a' b' f r := fun a' b' f r => by unfold mayB; rw [m_B a]
  unfold asB
  rw [m_tM a, m_tM a, e2, e2, e3]
  congr 2
  exact all1_congr (fun k _ => by rw [e1, e1, e3])
theorem run_inv {rec : Int32 → Int32 → sm_H → Option (Int32 × sm_H)} {d fuel s x vp : Nat} {vs : List Val} {h0 g0 h g : sm_H} (IH : CallOK (d + 1) rec) (F : Fr d fuel s x vp vs h0 g0 h g 0 (s + 1)) (c63 : g.1 67 63 = 0) (c59 : g.1 67 59 = I3 (vp + vs.length)) (b : Bool) (fd : fm g0 x = if b then 28 else 27) {t : Nat} (t1 : t < nT g0) (eb : g0.1 78 x = I3 t) (er : hrs g0 x = rs g0 t) (el : hpl g0 x = 18 :: pl g0 t) (R : F_370 g = ((F_365 (I3 t) (b2 b) g).bind fun q => some q)) : Ends d fuel s vp (tn (hrs g0 x)) h0 g0 0 (F_82_312 rec (I3 x) (I3 d) h) g := by
  have d1 := F.d1
  have v10 := F.v10
  have x500 := F.x500
  have vl := F.vl
  have vx := F.vx
  have h12 := F.m.k.1.2.1
  have w500 : nH g ≤ 500 := F.m.k.2.2.2.2.1.1.2
  have w300 : nT g ≤ 300 := F.m.k.2.2.1.1.2
  have nT0 : nT g = nT g0 := m_nT F.ar
  have lt := pl_len g0 t
  have lx : vs.length = 1 + (pl g0 t).length := by rw [vx, el, List.length_cons]; omega
  have ok := F.ty.2 0 (by omega)
  rw [el, show at0 ((18 : Int32) :: pl g0 t) 0 = I3 18 from rfl, tnI (by decide)] at ok
  have k0 : F_351 0 g = _ := F.k351 (i := 0) (by omega)
  have n0 : F_352 0 g = _ := F.k352 (i := 0) (by omega)
  have c0 : F_77 (I3 d) 0 h = _ := F.c77 (i := 0) (by omega)
  have t0 : F_78 (I3 d) 0 h = _ := F.c78 (i := 0) (by omega)
  rw [bind_id1, show F_365 (I3 t) (b2 b) g = F_365_0 (I3 t) (b2 b) g from rfl] at R
  unfold F_365_0 at R
  rw [k0] at R; simp only [obs] at R
  have C99 : F_99 (I3 x) (I3 d) h = F_99_0 (I3 x) (I3 d) h := rfl
  unfold F_99_0 at C99
  rw [t0] at C99; simp only [obs] at C99
  have failing : ∀ (c : Nat), c = 1 ∨ c = 5 → F_99 (I3 x) (I3 d) h = some (-I3 c, h) → F_370 g = ((F_348 (I3 c) g).bind fun q => some q) → Ends d fuel s vp (tn (hrs g0 x)) h0 g0 0 (F_82_312 rec (I3 x) (I3 d) h) g := fun c hc z1 z2 => by
    obtain ⟨u, h', f1, f2, f3⟩ := Fr_fail (rk := tn (hrs g0 x)) F (I3 c) (by rcases hc with rfl | rfl <;> decide)
    have CC : F_82_312 rec (I3 x) (I3 d) h = some (1, h') := by
      unfold F_82_312 F_82_352
      rw [z1]; simp only [obs]
      rw [if_neg (by rcases hc with rfl | rfl <;> decide), show -(-I3 c) = I3 c by rcases hc with rfl | rfl <;> decide, f2]; simp only [obs]
    rw [CC]
    refine Ends_step (step_enter (by omega) F.c64 F.c56 c63 ?_) f3
    rw [z2, f1]; rfl
  rcases okV_7 F.m.k.1 (by decide) ok with ⟨z1, z2⟩ | ⟨q, z1, z2, z3, z4, z5, z6, z7⟩
  · refine failing 1 (Or.inl rfl) ?_ ?_
    · rw [C99, if_pos z2]; rfl
    · rw [R, z1, if_pos (show ((0 : Int32), (0 : Int64)).1 = 0 from rfl)]; rfl
  · have q18 : q = 18 := by
      by_cases e : q = 18
      · exact e
      · rw [B_self1 F.m.k.1 (by decide) (by decide) q e z3] at z4; cases z4
    obtain ⟨y, y1', yn⟩ : ∃ y, y < nH g ∧ (atv vs 0).2 = I6 y := by
      rcases z5 with w | w | w | w
      · omega
      · omega
      · exact w.2
      · omega
    have y1 : y < nH g0 := by rw [← m_nH F.ar]; exact y1'
    have tyy : ty g y < nT g := ty_lt F.m.k y1'
    have ety : ty g y = ty g0 y := m_ty F.ar y
    have e32 : Int64.toInt32 (atv vs 0).2 = I3 y := by rw [yn, I6_32]
    have f38 : fm g0 x ≤ 38 := by rw [fd]; split <;> omega
    rw [if_neg (by rw [z6]; exact z7), c0] at C99; simp only [obs] at C99
    rw [e32, F.f39, eb] at C99; simp only [obs] at C99
    rw [C_ty F.m.k y1'] at C99; simp only [obs] at C99
    rw [if_neg z7, n0] at R; simp only [obs] at R
    rw [e32, F.c56, show I3 (d + 1) - 1 = I3 d from I3_sub (a := d + 1) (b := 1) (by omega), F.l105] at R; simp only [obs] at R
    rw [R_ty F.m.k y1'] at R; simp only [obs] at R
    have AS : F_236 (I3 (ty g y)) (I3 t) 0 h = some (b2 (asB g (ty g y) t false), h) := C_allowsAs F.m.k tyy (by omega) false
    have C47 : ∀ sb : Bool, F_99_47 (I3 x) (I3 y) (I3 t) (b2 sb) h = if (sb || (b && asB g (ty g y) t false)) = true then some (I3 y, h) else some (-I3 5, h) := fun sb => by
      unfold F_99_47 F_99_87 F_99_88 F_99_100 F_99_106
      rw [F.f37, fd]; simp only [obs]
      cases b with
      | true =>
        rw [if_pos (by decide), C_ty F.m.k y1']; simp only [obs]
        rw [AS]; simp only [obs]
        cases sb <;> cases asB g (ty g y) t false <;> rfl
      | false =>
        rw [if_neg (by decide)]
        cases sb <;> rfl
    have C99' : F_99 (I3 x) (I3 d) h = if (decide (ty g y = t) || (b && asB g (ty g y) t false)) = true then some (I3 y, h) else some (-I3 5, h) := by
      rw [C99]
      by_cases e : ty g y = t
      · rw [if_pos (by rw [e]), decide_eq_true e]; exact C47 true
      · rw [if_neg (by rw [I3_inj (by omega) (by omega)]; exact e), decide_eq_false e]; exact C47 false
    have CC : F_99 (I3 x) (I3 d) h = some (I3 y, h) → F_82_312 rec (I3 x) (I3 d) h = F_89 rec (I3 y) (I3 t) (I3 1) (I3 d) (b2 false) h := fun z => by
      unfold F_82_312 F_82_352
      rw [z]; simp only [obs]
      rw [if_pos (by rw [I3_lit, I3_le (by decide) (by omega)]; omega), F.f39, eb]; simp only [obs]
      rw [bind_id]; rfl
    by_cases e : ty g y = t
    · rw [decide_eq_true e, Bool.true_or, if_pos rfl] at C99'
      rw [CC C99']
      have et : ty g0 y = t := by rw [← ety]; exact e
      have hy : hpl g0 y = pl g0 t := by show pl g0 (ty g0 y) = _; rw [et]
      have hr : hrs g0 y = rs g0 t := by show rs g0 (ty g0 y) = _; rw [et]
      have ly : (hpl g0 y).length = (pl g0 t).length := by rw [hy]
      obtain ⟨h', a1, L⟩ := asSame rec F (i := 1) false y1 (by omega)
      rw [et] at a1
      rw [a1]
      obtain ⟨g', b1, P⟩ := R_copy (i := 1) (n := (hpl g0 y).length) (Ph_0 c59) F.st (Nat.le_refl _) (by omega) (by simp only [List.length_nil]; omega)
      rw [List.nil_append] at P
      have Fh := Fr_Lz F L
      have tw : tyV g (hpl g0 y) (sub vs 1 (hpl g0 y).length) := by
        have z := tyV_sub F.ty (i := 1) (n := (hpl g0 y).length) (by omega)
        have e1 : seg (hpl g0 x) 1 (hpl g0 y).length = hpl g0 y := by
          rw [seg_drop (by omega), el, hy]; rfl
        rw [e1] at z; exact z
      have T := tailK IH Fh (y := y) y1 (Nat.le_refl _) (by omega) (Lz_Ly L) P tw (k := fun q2 => if q2.1 = 0 then ((F_44 (I3 y) q2.2).bind fun q3 => (F_225 (I3 t) q3.2).bind fun q4 => (F_90 q3.1 q4.1 (b2 false) q4.2).bind fun q5 => if q5.1 = 0 then some (0, q5.2) else ((F_76 q5.1 q5.2).bind fun q6 => some (q6.1, q6.2))) else some (q2.1, q2.2)) (fun o h1 o1 o2 => if_neg (I3_ne0 o1 o2)) (fun h1 g1 p1 s1 G r => by
        have nC1 : nC g1 = nC g := by rw [m_nC G.ar, m_nC F.ar]
        obtain ⟨w, w1, w2⟩ := rs_k G.m.k (p := y) (by rw [m_nH G.ar]; exact y1)
        rw [m_hrs G.ar] at w1
        rw [if_pos (show I3 0 = (0 : Int32) from rfl), show F_44 (I3 y) (I3 0, h1).2 = some (hrs g0 y, h1) from G.crs y1]; simp only [obs]
        rw [C_tres G.m.k.2.2.1 G.m.k.2.2.2.1 (by rw [m_nT G.ar]; exact t1), (m_c G.ar (show 70 ≤ 72 by decide) (by decide)).1]; simp only [obs]
        rw [show g0.1 72 t = hrs g0 y from hr.symm, w1]
        by_cases w0 : w = 0
        · subst w0
          refine ⟨sm_wI (sm_wJ h1 49 9 0) 49 10 0, ?_, agr_wI (agr_wJ agr_rfl (by unfold S910; omega)) (by unfold S910; omega), rfl, ?_⟩
          · show ((F_90_0 (I3 0) (I3 0) (b2 false) h1).bind _) = _
            unfold F_90_0 F_90_8
            rw [if_pos (by decide)]; rfl
          · have o0 := r.2.2.1 rfl
            rw [w1, tnI (by decide)] at o0
            have e0 : g1.1 67 60 = 0 ∧ g1.2.1 67 61 = 0 := by
              rcases o0 with ⟨z, _⟩ | ⟨_, z1, z2⟩ | ⟨z, _⟩
              · omega
              · exact ⟨z1, z2⟩
              · omega
            exact ⟨by rw [e0.2]; rfl, by rw [e0.1]; show (0 : Int32) = tag 0; decide, fun _ => by rw [tnI (by decide)]; exact o0, fun z => by cases z⟩
        · refine ⟨h1, ?_, agr_rfl, rfl, by rw [← w1]; exact r⟩
          show ((F_90_0 (I3 w) (I3 w) (b2 false) h1).bind _) = _
          unfold F_90_0
          rw [if_neg (by rw [I3_lit, I3_inj (by omega) (by decide)]; exact w0), if_neg (by rw [I3_lit, I3_inj (by omega) (by decide)]; exact w0), if_pos rfl]; simp only [obs]
          rw [if_pos trivial])
      obtain ⟨u, f1, f2⟩ := T
      rw [er, ← hr]
      refine Ends_step (step_enter (by omega) F.c64 F.c56 c63 ?_) f2
      unfold F_365_120 at R
      rw [R, if_pos (by rw [e]), F.mn y1]; simp only [obs]
      rw [show I3 vp + 1 = I3 (vp + 1) from I3_add vp 1, I3_add, b1]; simp only [obs]
      rw [f1]; rfl
    · rw [decide_eq_false e, Bool.false_or] at C99'
      rw [if_neg (by rw [I3_inj (by omega) (by omega)]; exact e)] at R
      have no : F_99 (I3 x) (I3 d) h = some (-I3 5, h) → F_370 g = F_365_82 g → Ends d fuel s vp (tn (hrs g0 x)) h0 g0 0 (F_82_312 rec (I3 x) (I3 d) h) g := fun z1 z2 => failing 5 (Or.inr rfl) z1 (by rw [z2]; rfl)
      cases b with
      | false =>
        rw [Bool.false_and, if_neg (by decide)] at C99'
        rw [if_pos (show b2 false = 0 from rfl)] at R
        exact no C99' R
      | true =>
        rw [Bool.true_and] at C99'
        rw [if_neg (show ¬ b2 true = 0 by decide), show F_326 (I3 y) (I3 t) 0 g = some (b2 (asB g (ty g y) t false), g) from R_mayAs F.m.k y1' (by omega) false] at R; simp only [obs] at R
        cases l : asB g (ty g y) t false with
        | false =>
          rw [l, if_neg (by decide)] at C99'
          rw [l, if_pos (by decide)] at R
          exact no C99' R
        | true =>
          rw [l, if_pos rfl] at C99'
          rw [l, if_neg (by decide)] at R
          rw [CC C99']
          have l0 := l
          rw [asB_m F.ar, ety] at l0
          obtain ⟨m1, m2, m3⟩ := asB_x l0
          have ly := hpl_len g0 y
          have hI : ∀ u, u < nT g0 → g0.1 72 u = I3 (tR g0 u) ∧ tR g0 u < 20 + nC g := fun u hu => by
            have z := (F.m.k.2.2.1.2.1 u (by omega)).1
            rw [(m_c F.ar (show 70 ≤ 72 by decide) (by decide)).1] at z
            exact ⟨z.1, by have := z.2; show tn _ < _; omega⟩
          rcases asLoop rec F c59 (i := 1) false y1 t1 (by omega) (by omega) (fun k hk => by rw [el, Nat.add_comm]; rfl) (fun k hk => by have z := m2 k (by omega); rw [show tn (at0 (hpl g0 y) k) = tP g0 (ty g0 y) k by rw [at0_lst (by omega)]]; exact z) with ⟨h', g', ws, e1, e2, L, P, tw⟩ | ⟨ec, h', g', ws, us, ee, e1, e2, L, P⟩
          · rw [e1]
            have Fh := Fr_Lz F L
            have aB : agr (SG d (vp + vs.length)) g (sm_wI g 106 d (I3 y)) := agr_wI agr_rfl (by unfold SG; omega)
            have FB := Fr_g Fh aB
            have PB : Ph (sm_wI g 106 d (I3 y)) (sm_wI g' 106 d (I3 y)) (vp + vs.length) ws := ⟨agr_wI2 P.a 106 d (I3 y), P.n, P.s⟩
            have M : ∃ u, F_350 (I3 y) 12 (sm_wI g' 106 d (I3 y)) = some u ∧ Ends d fuel s vp (tn (hrs g0 x)) h0 g0 (0 + 1) (contA rec y t d false h') u := by
              refine midG IH FB 12 y1 (Nat.le_refl _) (by omega) (Lz_Ly L) PB (tyV_grow F.m.k.1 (grow_N (agr_mono (SG_N _ _) aB)) tw) (rk := tn (hrs g0 x)) (fun o h1 o1 o2 => if_neg (I3_ne0 (by omega) o2)) (fun out h1 g1 p1 s1 o1 G t59 t63 t62 t104 r kp _ => ?_)
              rcases (show out = 0 ∨ out = 1 by omega) with rfl | rfl
              · have G' := Fr_63 G
                have c106 : g1.1 106 d = I3 y := by
                  rw [kp.1 106 d (by decide) (by decide) (by omega)]
                  show (if d = d then I3 y else g'.1 106 d) = _; rw [if_pos rfl]
                rw [if_pos (show I3 0 = (0 : Int32) from rfl), show F_44 (I3 y) (I3 0, h1).2 = some (hrs g0 y, h1) from G.crs y1]; simp only [obs]
                rw [C_tres G.m.k.2.2.1 G.m.k.2.2.2.1 (by rw [m_nT G.ar]; exact t1), (m_c G.ar (show 70 ≤ 72 by decide) (by decide)).1]; simp only [obs]
                have iy := hI (ty g0 y) (by rw [← ety, ← nT0]; exact tyy)
                have it := hI t t1
                have nC1 : nC g1 = nC g := by rw [m_nC G.ar, m_nC F.ar]
                have gx := go_12 G y1 t62 t104 c106
                have okr := okV_grow G.m.k.1 (grow_N (agr_wI agr_rfl (show SN 67 63 by unfold SN; omega)) : grow g1 (sm_wI g1 67 63 0)) (r.2.2.1 rfl)
                rw [show tn (hrs g0 y) = tR g0 (ty g0 y) from rfl] at okr
                have mg : mayB (sm_wI g1 67 63 0) (tR g0 (ty g0 y)) (tR g0 t) false true = true := by
                  have : ∀ a b, B (sm_wI g1 67 63 0) a b = B g0 a b := m_B G'.ar
                  unfold mayB; unfold mayB at m3; simp only [this]; exact m3
                rw [show hrs g0 y = I3 (tR g0 (ty g0 y)) from iy.1, it.1]
                rw [show hrs g0 y = I3 (tR g0 (ty g0 y)) from iy.1, er, show rs g0 t = I3 (tR g0 t) from it.1] at gx
                have rkx : tn (hrs g0 x) = tR g0 t := by rw [er]
                rcases conv G'.m.k (a := tR g0 (ty g0 y)) (b := tR g0 t) (by show _ < 20 + nC g1; omega) (by show _ < 20 + nC g1; omega) false okr mg r.1 r.2.1 with ⟨h3, g3, z1, z2, z3⟩ | ⟨e, h3, g3, ee, z1, z2, z3, z4, z5⟩
                · rw [z1]; simp only [obs]
                  rw [if_pos trivial]
                  have G3 := Fr_48 (Fr_h G' (agr_mono (fun b j z => by unfold S910 at z; unfold SC1; omega) z3.c) z3.r) z3.a
                  obtain ⟨u', f1, f2⟩ := Fr_pass (rk := tn (hrs g0 x)) G3 (g3.1 67 48) (g3.2.1 67 49) z3.n z3.t (by rw [rkx]; exact okV_grow G'.m.k.1 (grow_N (agr_mono (fun b j z => by unfold S48 at z; unfold SN; omega) z3.a)) z3.ok)
                  refine Ends_step (step_goOn (by omega) G.c64 G.c56 t63 ?_) f2
                  rw [gx, show F_300 (I3 (tR g0 (ty g0 y))) (I3 (tR g0 t)) (g1.1 67 60) (g1.2.1 67 61) 0 (sm_wI g1 67 63 0) = some (0, g3) from z2]; simp only [obs]
                  rw [if_pos trivial, f1]; rfl
                · have ne : ¬ e = 0 := by rcases ee with rfl | rfl <;> decide
                  rw [z1]; simp only [obs]
                  rw [if_neg ne]
                  have G3 := Fr_48 (Fr_h G' (agr_mono (fun b j z => by unfold S910 at z; unfold SC1; omega) z4) z5) z3
                  obtain ⟨u', h5, f1, f2, f3⟩ := Fr_fail (rk := tn (hrs g0 x)) G3 e (by rcases ee with rfl | rfl <;> decide)
                  rw [f2]; simp only [obs]
                  refine Ends_step (step_goOn (by omega) G.c64 G.c56 t63 ?_) f3
                  rw [gx, show F_300 (I3 (tR g0 (ty g0 y))) (I3 (tR g0 t)) (g1.1 67 60) (g1.2.1 67 61) 0 (sm_wI g1 67 63 0) = some (e, g3) from z2]; simp only [obs]
                  rw [if_neg ne, f1]; rfl
              · rw [if_neg (I3_ne0 (o := 1) (by omega) (by omega))]
                exact thru G (Nat.le_refl 1) t63 t62 ⟨r.1, r.2.1, fun z => by (cases z), r.2.2.2⟩ (fun z => by cases z) (fun _ => Or.inl (by rw [t104]; decide))
            obtain ⟨u, f1, f2⟩ := M
            refine Ends_step (step_enter (by omega) F.c64 F.c56 c63 ?_) f2
            rw [R, show F_356 (I3 y) (I3 t) 0 1 g = some (1, g') from e2]; simp only [obs]
            have Fg := Fr_Ph F (Nat.le_refl _) P
            rw [if_neg (by decide), Fg.c56, show I3 (d + 1) - 1 = I3 d from I3_sub (a := d + 1) (b := 1) (by omega), stI_I d1 (by decide)]; simp only [obs]
            rw [f1]; rfl
          · rw [e1]
            obtain ⟨u', h5, f1, f2, f3⟩ := Fr_fail (rk := tn (hrs g0 x)) (Fr_Ph (Fr_Lz F L) (Nat.le_refl _) P) ec (by rcases ee with rfl | rfl <;> decide)
            rw [f2]; simp only [obs]
            refine Ends_step (step_enter (by omega) F.c64 F.c56 c63 ?_) f3
            rw [R, show F_356 (I3 y) (I3 t) 0 1 g = _ from e2, f1]; rfl
theorem run_27 {rec : Int32 → Int32 → sm_H → Option (Int32 × sm_H)} {d fuel s x vp : Nat} {vs : List Val} {h0 g0 h g : sm_H} (IH : CallOK (d + 1) rec) (F : Fr d fuel s x vp vs h0 g0 h g 0 (s + 1)) (c63 : g.1 67 63 = 0) (c59 : g.1 67 59 = I3 (vp + vs.length)) (eh : sm_wI h0 49 8 (h0.1 49 8 + 1) = h) (lf : h0.1 49 8 < h0.1 49 7) (f : fm g0 x = 27) : Ends d fuel s vp (tn (hrs g0 x)) h0 g0 0 (F_82R rec (I3 x) (I3 d) h0) g := by
  have d1 := F.d1
  have v10 := F.v10
  have x500 := F.x500
  have vl := F.vl
  have vx := F.vx
  have fs := F.fs0
  rw [f] at fs
  have C := B82_27 (rec := rec) (x1 := I3 x) (x2 := I3 d) (by rw [I3_lit, I3_lt (by omega) (by decide)]; omega) lf eh (f ▸ F.f37)
  rw [C]
  have R := B370_27 F.c56 F.l103 F.l105 F.l305 F.l77 F.l78 F.l81 F.l81' (f ▸ F.l75)
  obtain ⟨ep, t, t1, eb, er, el⟩ := FS_27 fs
  exact run_inv IH F c63 c59 false f t1 eb er el (by rw [R, eb]; rfl)
theorem run_28 {rec : Int32 → Int32 → sm_H → Option (Int32 × sm_H)} {d fuel s x vp : Nat} {vs : List Val} {h0 g0 h g : sm_H} (IH : CallOK (d + 1) rec) (F : Fr d fuel s x vp vs h0 g0 h g 0 (s + 1)) (c63 : g.1 67 63 = 0) (c59 : g.1 67 59 = I3 (vp + vs.length)) (eh : sm_wI h0 49 8 (h0.1 49 8 + 1) = h) (lf : h0.1 49 8 < h0.1 49 7) (f : fm g0 x = 28) : Ends d fuel s vp (tn (hrs g0 x)) h0 g0 0 (F_82R rec (I3 x) (I3 d) h0) g := by
  have d1 := F.d1
  have v10 := F.v10
  have x500 := F.x500
  have vl := F.vl
  have vx := F.vx
  have fs := F.fs0
  rw [f] at fs
  have C := B82_28 (rec := rec) (x1 := I3 x) (x2 := I3 d) (by rw [I3_lit, I3_lt (by omega) (by decide)]; omega) lf eh (f ▸ F.f37)
  rw [C]
  have R := B370_28 F.c56 F.l103 F.l105 F.l305 F.l77 F.l78 F.l81 F.l81' (f ▸ F.l75)
  obtain ⟨ep, t, t1, eb, er, el⟩ := FS_28 fs
  exact run_inv IH F c63 c59 true f t1 eb er el (by rw [R, eb]; rfl)
