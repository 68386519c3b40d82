theorem B_self1 {g : sm_H} (wK : wfK g) {o : Nat} (h1 : 9 ≤ o) (h2 : o ≤ 18) : ∀ x, x ≠ o → x < 20 + nC g → B g x o = false := by
  intro x
  induction x using Nat.strongRecOn with
  | _ x ih =>
    intro e1 e2
    rcases Nat.lt_or_ge x 20 with c | c
    · rw [B_lt20 c, kB_eq (by omega) (by omega)]; simp [e1]
    · have p2 := (wK.2.2 (x - 20) (by omega)).2
      rw [B_ge20 wK e2 c, ih _ (by omega) (by omega) (by omega)]
      have : Nat.beq x o = false := by
        cases q : Nat.beq x o with
        | false => rfl
        | true => have := Nat.eq_of_beq_eq_true q; omega
      rw [this]; rfl
section
variable {d fuel s0 x vp p s : Nat} {vs : List Val} {h0 g0 h g : sm_H}
theorem tailK {rec : Int32 → Int32 → sm_H → Option (Int32 × sm_H)} (IH : CallOK (d + 1) rec) (F : Fr d fuel s0 x vp vs h0 g0 h g p s) {h' g' : sm_H} {y T : Nat} {ws : List Val} (y1 : y < nH g0) (t1 : vp + vs.length ≤ T) (t2 : T ≤ vp + vs.length + 10) (L : Ly h h' (d + 1) ws) (P : Ph g g' T ws) (tw : tyV g (hpl g0 y) ws) {k : Int32 × sm_H → Option (Int32 × sm_H)} (stop : ∀ o h1, 1 ≤ o → o ≤ 4 → k (I3 o, h1) = some (I3 o, h1))
    (go : ∀ h1 g1 p1 s1, Fr d fuel s0 x vp vs h0 g0 h1 g1 p1 s1 → res h1 g1 0 (tn (hrs g0 y)) → ∃ h2, k (I3 0, h1) = some (0, h2) ∧ agr S910 h1 h2 ∧ h2.2.2 = h1.2.2 ∧ res h2 g1 0 (tn (hrs g0 y))) : ∃ u, F_349 (I3 y) g' = some u ∧ Ends d fuel s0 vp (tn (hrs g0 y)) h0 g0 (p + 1) ((rec (I3 y) (I3 (d + 1)) h').bind k) u := by
  have M := midG IH F (y := y) 90 y1 t1 t2 L P tw (rk := tn (hrs g0 y)) (k := k) (fun o h1 o1 o2 => stop o h1 (by omega) o2) (fun out h1 g1 p1 s1 o1 G t59 t63 t62 t104 r kp _ => by
    rcases (show out = 0 ∨ out = 1 by omega) with rfl | rfl
    · obtain ⟨h2, k1, k2, k3, k4⟩ := go h1 g1 p1 s1 G r
      rw [k1]
      exact thru (Fr_h G (agr_mono (fun b j z => by unfold S910 at z; unfold SC1; omega) k2) k3) (out := 0) (by decide) t63 t62 k4 (fun _ => t104) (fun z => by cases z)
    · rw [stop 1 h1 (by decide) (by decide)]
      exact thru G (Nat.le_refl 1) t63 t62 ⟨r.1, r.2.1, fun z => by (cases z), r.2.2.2⟩ (fun z => by cases z) (fun _ => Or.inl (by rw [t104]; decide)))
  obtain ⟨u, e1, e2⟩ := M
  refine ⟨u, ?_, e2⟩
  have F1 := Fr_Ph (Fr_Ly F L) t1 P
  have z : F_350_0 (I3 y) 90 g' = F_349_0 (I3 y) g' := rfl
  exact z.symm.trans e1
theorem asSame (rec : Int32 → Int32 → sm_H → Option (Int32 × sm_H)) (F : Fr d fuel s0 x vp vs h0 g0 h g p s) {y i : Nat} (f : Bool) (y1 : y < nH g0) (hi : i + (hpl g0 y).length ≤ vs.length) : ∃ h', F_89 rec (I3 y) (I3 (ty g0 y)) (I3 i) (I3 d) (b2 f) h = contA rec y (ty g0 y) d f h' ∧ Lz h h' d (sub vs i (hpl g0 y).length) := by
  have d1 := F.d1
  have v10 := F.v10
  have h12 := F.m.k.1.2.1
  have ly := hpl_len g0 y
  have y1' : y < nH g := by rw [m_nH F.ar]; exact y1
  have tg : ty g0 y < nT g := by rw [← m_ty F.ar]; exact ty_lt F.m.k y1'
  have LL : ∀ k, k ≤ (hpl g0 y).length → ∃ h', F_89 rec (I3 y) (I3 (ty g0 y)) (I3 i) (I3 d) (b2 f) h = lp (F_89_3B rec) (1000000 - k) (I3 y, I3 (ty g0 y), I3 i, I3 d, b2 f, I3 k, h') ∧ Lz h h' d (sub vs i k) := by
    intro k
    induction k with
    | zero => intro _; exact ⟨h, rfl, Lz_0 h d⟩
    | succ k ih =>
      intro hk
      obtain ⟨h', e1, L⟩ := ih (by omega)
      have Fh := Fr_Lz F L
      have ha9 : agr S910 h' (sm_wI (sm_wJ h' 49 9 (atv vs (i + k)).2) 49 10 (tag (atv vs (i + k)).1)) := agr_wI (agr_wJ agr_rfl (by unfold S910; omega)) (by unfold S910; omega)
      have L2 := Lz_cv L ha9 rfl
      have Fh2 := Fr_Lz F L2
      have sl : (sub vs i k).length = k := sub_len (by omega)
      obtain ⟨h4, a4, L4⟩ := Lz_lay L2 d1 (by omega) (atv vs (i + k))
      rw [sl] at a4
      obtain ⟨a, a1, a2, a3⟩ := kL_h F.m.k y1' k (by rw [m_hpl F.ar]; omega)
      rw [m_hpl F.ar] at a1
      refine ⟨h4, ?_, by rw [sub_succ (by omega)]; exact L4⟩
      rw [e1, lp_s (n := 1000000 - k) (s' := (I3 y, I3 (ty g0 y), I3 i, I3 d, b2 f, I3 (k + 1), h4)) (by omega) ?_]
      · rw [show 1000000 - k - 1 = 1000000 - (k + 1) by omega]
      · unfold F_89_3B
        rw [Fh.cmn y1]; simp only [obs]
        rw [if_neg (by rw [I3_le (by omega) (by omega)]; omega), I3_add, Fh.c77 (by omega)]; simp only [obs]
        rw [Fh.c78 (by omega)]; simp only [obs]
        rw [show F_75 (atv vs (i + k)).2 (tag (atv vs (i + k)).1) h' = some (0, sm_wI (sm_wJ h' 49 9 (atv vs (i + k)).2) 49 10 (tag (atv vs (i + k)).1)) from rfl]; simp only [obs]
        rw [C_tplace Fh2.m.k.2.2.1 Fh2.m.k.2.2.2.1 tg (by rw [m_tM F.ar]; omega)]; simp only [obs]
        rw [C_pc Fh2.m.k y1' (by rw [m_hpl F.ar]; omega), m_hpl F.ar, a1, (m_c F.ar (show 70 ≤ 74 by decide) (by decide)).1]
        have e74 : g0.1 74 (10 * ty g0 y + k) = I3 a := by rw [at0_lst (by omega)] at a1; exact a1
        rw [e74]; simp only [obs]
        have c90 : F_90 (I3 a) (I3 a) (b2 f) (sm_wI (sm_wJ h' 49 9 (atv vs (i + k)).2) 49 10 (tag (atv vs (i + k)).1)) = some (0, sm_wI (sm_wJ h' 49 9 (atv vs (i + k)).2) 49 10 (tag (atv vs (i + k)).1)) := by
          show F_90_0 (I3 a) (I3 a) (b2 f) _ = _
          unfold F_90_0
          rw [if_neg (by rw [I3_lit, I3_inj (by omega) (by decide)]; omega), if_neg (by rw [I3_lit, I3_inj (by omega) (by decide)]; omega), if_pos rfl]
        rw [c90]; simp only [obs]
        rw [if_pos trivial, show I3 d + 1 = I3 (d + 1) from I3_add d 1, show F_79 (I3 (d + 1)) (I3 k) ((sm_wI (sm_wJ h' 49 9 (atv vs (i + k)).2) 49 10 (tag (atv vs (i + k)).1)).2.1 49 9) ((sm_wI (sm_wJ h' 49 9 (atv vs (i + k)).2) 49 10 (tag (atv vs (i + k)).1)).1 49 10) (sm_wI (sm_wJ h' 49 9 (atv vs (i + k)).2) 49 10 (tag (atv vs (i + k)).1)) = some h4 from a4]; simp only [obs]
        rw [show I3 k + 1 = I3 (k + 1) from I3_add k 1]
  obtain ⟨h', e1, L⟩ := LL _ (Nat.le_refl _)
  refine ⟨h', ?_, L⟩
  have Fh := Fr_Lz F L
  rw [e1]
  have fin : ∀ (r : Option (Int32 × sm_H)), F_89_3B rec (I3 y, I3 (ty g0 y), I3 i, I3 d, b2 f, I3 (hpl g0 y).length, h') = r.map (fun q => .inr q) → lp (F_89_3B rec) (1000000 - (hpl g0 y).length) (I3 y, I3 (ty g0 y), I3 i, I3 d, b2 f, I3 (hpl g0 y).length, h') = r := fun r z => by
    cases r with
    | none =>
      have := lp_n (n := 1000000 - (hpl g0 y).length - 1) z
      rw [show 1000000 - (hpl g0 y).length - 1 + 1 = 1000000 - (hpl g0 y).length by omega] at this; exact this
    | some r => exact lp_e (by omega) z
  refine fin _ ?_
  unfold F_89_3B contA F_89_163
  rw [Fh.cmn y1]; simp only [obs]
  rw [if_pos (by rw [I3_le (by omega) (by omega)]; omega), show I3 d + 1 = I3 (d + 1) from I3_add d 1]
  cases rec (I3 y) (I3 (d + 1)) h' with
  | none => rfl
  | some q2 =>
    simp only [obs]
    by_cases q0 : q2.1 = 0
    · rw [if_pos q0, if_pos q0]
      cases F_44 (I3 y) q2.2 with
      | none => rfl
      | some q3 =>
        simp only [obs]
        cases F_225 (I3 (ty g0 y)) q3.2 with
        | none => rfl
        | some q4 =>
          simp only [obs]
          cases F_90 q3.1 q4.1 (b2 f) q4.2 with
          | none => rfl
          | some q5 =>
            simp only [obs]
            by_cases q1 : q5.1 = 0
            · rw [if_pos q1, if_pos q1]; first | rfl | done
            · rw [if_neg q1, if_neg q1]; rfl
    · rw [if_neg q0, if_neg q0]; rfl
end
theorem go_12 {d fuel s0 x vp p s : Nat} {vs : List Val} {h0 g0 h g : sm_H} (F : Fr d fuel s0 x vp vs h0 g0 h g p s) {y : Nat} (y1 : y < nH g0) (c62 : g.1 67 62 = I3 0) (c104 : g.1 104 d = 12) (c106 : g.1 106 d = I3 y) : F_377 g = ((F_300 (hrs g0 y) (hrs g0 x) (g.1 67 60) (g.2.1 67 61) 0 (sm_wI g 67 63 0)).bind fun q37 => if q37.1 = 0 then ((F_345 (q37.2.1 67 48) (q37.2.2.1 67 49) q37.2).bind fun q38 => F_377_252 q38) else ((F_348 q37.1 q37.2).bind fun q39 => F_377_252 q39)) := by
  have F' := Fr_63 F
  show F_377_0 g = _
  unfold F_377_0
  simp only [obs]
  rw [F.c56, show I3 (d + 1) - 1 = I3 d from I3_sub (a := d + 1) (b := 1) (by omega), F.l103]; simp only [obs]
  rw [F.l105]; simp only [obs]
  rw [F.l305]; simp only [obs]
  rw [F.l77]; simp only [obs]
  rw [F.l81]; simp only [obs]
  rw [F.l81']; simp only [obs]
  rw [if_pos (show (sm_wI g 67 63 0).1 67 62 = 0 from c62), ldI_I F.d1 (by decide), show (sm_wI g 67 63 0).1 104 d = g.1 104 d from rfl, c104]; simp only [obs]
  rw [if_neg (by decide), if_pos (by decide), ldI_I F.d1 (by decide), show (sm_wI g 67 63 0).1 106 d = g.1 106 d from rfl, c106]; simp only [obs]
  rw [F'.rs y1]; simp only [obs]
  rw [F'.rs F.x1]; simp only [obs]
  rfl
theorem asB_m {g g1 : sm_H} (a : agr SRm g g1) (u t : Nat) (f : Bool) : asB g1 u t f = asB g u t f := by
  have e1 : ∀ t k, tP g1 t k = tP g t k := fun t k => by show tn _ = tn _; rw [(m_c a (show 70 ≤ 74 by decide) (by decide)).1]
  have e2 : ∀ t, tR g1 t = tR g t := fun t => by show tn _ = tn _; rw [(m_c a (show 70 ≤ 72 by decide) (by decide)).1]
  have e3 : ∀ a' b' f r, mayB g1 a' b' f r = mayB g a' b' f r := fun a' b' f r => by unfold mayB; rw [m_B a]
  unfold asB
  rw [m_tM a, m_tM a, e2, e2, e3]
  congr 2
  exact all1_congr (fun k _ => by rw [e1, e1, e3])
theorem run_inv {rec : Int32 → Int32 → sm_H → Option (Int32 × sm_H)} {d fuel s x vp : Nat} {vs : List Val} {h0 g0 h g : sm_H} (IH : CallOK (d + 1) rec) (F : Fr d fuel s x vp vs h0 g0 h g 0 (s + 1)) (c63 : g.1 67 63 = 0) (c59 : g.1 67 59 = I3 (vp + vs.length)) (b : Bool) (fd : fm g0 x = if b then 28 else 27) {t : Nat} (t1 : t < nT g0) (eb : g0.1 78 x = I3 t) (er : hrs g0 x = rs g0 t) (el : hpl g0 x = 18 :: pl g0 t) (R : F_370 g = ((F_365 (I3 t) (b2 b) g).bind fun q => some q)) : Ends d fuel s vp (tn (hrs g0 x)) h0 g0 0 (F_82_312 rec (I3 x) (I3 d) h) g := by
  have d1 := F.d1
  have v10 := F.v10
  have x500 := F.x500
  have vl := F.vl
  have vx := F.vx
  have h12 := F.m.k.1.2.1
  have w500 : nH g ≤ 500 := F.m.k.2.2.2.2.1.1.2
  have w300 : nT g ≤ 300 := F.m.k.2.2.1.1.2
  have nT0 : nT g = nT g0 := m_nT F.ar
  have lt := pl_len g0 t
  have lx : vs.length = 1 + (pl g0 t).length := by rw [vx, el, List.length_cons]; omega
  have ok := F.ty.2 0 (by omega)
  rw [el, show at0 ((18 : Int32) :: pl g0 t) 0 = I3 18 from rfl, tnI (by decide)] at ok
  have k0 : F_351 0 g = _ := F.k351 (i := 0) (by omega)
  have n0 : F_352 0 g = _ := F.k352 (i := 0) (by omega)
  have c0 : F_77 (I3 d) 0 h = _ := F.c77 (i := 0) (by omega)
  have t0 : F_78 (I3 d) 0 h = _ := F.c78 (i := 0) (by omega)
  rw [bind_id1, show F_365 (I3 t) (b2 b) g = F_365_0 (I3 t) (b2 b) g from rfl] at R
  unfold F_365_0 at R
  rw [k0] at R; simp only [obs] at R
  have C99 : F_99 (I3 x) (I3 d) h = F_99_0 (I3 x) (I3 d) h := rfl
  unfold F_99_0 at C99
  rw [t0] at C99; simp only [obs] at C99
  have failing : ∀ (c : Nat), c = 1 ∨ c = 5 → F_99 (I3 x) (I3 d) h = some (-I3 c, h) → F_370 g = ((F_348 (I3 c) g).bind fun q => some q) → Ends d fuel s vp (tn (hrs g0 x)) h0 g0 0 (F_82_312 rec (I3 x) (I3 d) h) g := fun c hc z1 z2 => by
    obtain ⟨u, h', f1, f2, f3⟩ := Fr_fail (rk := tn (hrs g0 x)) F (I3 c) (by rcases hc with rfl | rfl <;> decide)
    have CC : F_82_312 rec (I3 x) (I3 d) h = some (1, h') := by
      unfold F_82_312 F_82_352
      rw [z1]; simp only [obs]
      rw [if_neg (by rcases hc with rfl | rfl <;> decide), show -(-I3 c) = I3 c by rcases hc with rfl | rfl <;> decide, f2]; simp only [obs]
    rw [CC]
    refine Ends_step (step_enter (by omega) F.c64 F.c56 c63 ?_) f3
    rw [z2, f1]; rfl
  rcases okV_7 F.m.k.1 (by decide) ok with ⟨z1, z2⟩ | ⟨q, z1, z2, z3, z4, z5, z6, z7⟩
  · refine failing 1 (Or.inl rfl) ?_ ?_
    · rw [C99, if_pos z2]; rfl
    · rw [R, z1, if_pos (show ((0 : Int32), (0 : Int64)).1 = 0 from rfl)]; rfl
  · have q18 : q = 18 := by
      by_cases e : q = 18
      · exact e
      · rw [B_self1 F.m.k.1 (by decide) (by decide) q e z3] at z4; cases z4
    obtain ⟨y, y1', yn⟩ : ∃ y, y < nH g ∧ (atv vs 0).2 = I6 y := by
      rcases z5 with w | w | w | w
      · omega
      · omega
      · exact w.2
      · omega
    have y1 : y < nH g0 := by rw [← m_nH F.ar]; exact y1'
    have tyy : ty g y < nT g := ty_lt F.m.k y1'
    have ety : ty g y = ty g0 y := m_ty F.ar y
    have e32 : Int64.toInt32 (atv vs 0).2 = I3 y := by rw [yn, I6_32]
    have f38 : fm g0 x ≤ 38 := by rw [fd]; split <;> omega
    rw [if_neg (by rw [z6]; exact z7), c0] at C99; simp only [obs] at C99
    rw [e32, F.f39, eb] at C99; simp only [obs] at C99
    rw [C_ty F.m.k y1'] at C99; simp only [obs] at C99
    rw [if_neg z7, n0] at R; simp only [obs] at R
    rw [e32, F.c56, show I3 (d + 1) - 1 = I3 d from I3_sub (a := d + 1) (b := 1) (by omega), F.l105] at R; simp only [obs] at R
    rw [R_ty F.m.k y1'] at R; simp only [obs] at R
    have AS : F_236 (I3 (ty g y)) (I3 t) 0 h = some (b2 (asB g (ty g y) t false), h) := C_allowsAs F.m.k tyy (by omega) false
    have C47 : ∀ sb : Bool, F_99_47 (I3 x) (I3 y) (I3 t) (b2 sb) h = if (sb || (b && asB g (ty g y) t false)) = true then some (I3 y, h) else some (-I3 5, h) := fun sb => by
      unfold F_99_47 F_99_87 F_99_88 F_99_100 F_99_106
      rw [F.f37, fd]; simp only [obs]
      cases b with
      | true =>
        rw [if_pos (by decide), C_ty F.m.k y1']; simp only [obs]
        rw [AS]; simp only [obs]
        cases sb <;> cases asB g (ty g y) t false <;> rfl
      | false =>
        rw [if_neg (by decide)]
        cases sb <;> rfl
    have C99' : F_99 (I3 x) (I3 d) h = if (decide (ty g y = t) || (b && asB g (ty g y) t false)) = true then some (I3 y, h) else some (-I3 5, h) := by
      rw [C99]
      by_cases e : ty g y = t
      · rw [if_pos (by rw [e]), decide_eq_true e]; exact C47 true
      · rw [if_neg (by rw [I3_inj (by omega) (by omega)]; exact e), decide_eq_false e]; exact C47 false
    have CC : F_99 (I3 x) (I3 d) h = some (I3 y, h) → F_82_312 rec (I3 x) (I3 d) h = F_89 rec (I3 y) (I3 t) (I3 1) (I3 d) (b2 false) h := fun z => by
      unfold F_82_312 F_82_352
      rw [z]; simp only [obs]
      rw [if_pos (by rw [I3_lit, I3_le (by decide) (by omega)]; omega), F.f39, eb]; simp only [obs]
      rw [bind_id]; rfl
    by_cases e : ty g y = t
    · rw [decide_eq_true e, Bool.true_or, if_pos rfl] at C99'
      rw [CC C99']
      have et : ty g0 y = t := by rw [← ety]; exact e
      have hy : hpl g0 y = pl g0 t := by show pl g0 (ty g0 y) = _; rw [et]
      have hr : hrs g0 y = rs g0 t := by show rs g0 (ty g0 y) = _; rw [et]
      have ly : (hpl g0 y).length = (pl g0 t).length := by rw [hy]
      obtain ⟨h', a1, L⟩ := asSame rec F (i := 1) false y1 (by omega)
      rw [et] at a1
      rw [a1]
      obtain ⟨g', b1, P⟩ := R_copy (i := 1) (n := (hpl g0 y).length) (Ph_0 c59) F.st (Nat.le_refl _) (by omega) (by simp only [List.length_nil]; omega)
      rw [List.nil_append] at P
      have Fh := Fr_Lz F L
      have tw : tyV g (hpl g0 y) (sub vs 1 (hpl g0 y).length) := by
        have z := tyV_sub F.ty (i := 1) (n := (hpl g0 y).length) (by omega)
        have e1 : seg (hpl g0 x) 1 (hpl g0 y).length = hpl g0 y := by
          rw [seg_drop (by omega), el, hy]; rfl
        rw [e1] at z; exact z
      have T := tailK IH Fh (y := y) y1 (Nat.le_refl _) (by omega) (Lz_Ly L) P tw (k := fun q2 => if q2.1 = 0 then ((F_44 (I3 y) q2.2).bind fun q3 => (F_225 (I3 t) q3.2).bind fun q4 => (F_90 q3.1 q4.1 (b2 false) q4.2).bind fun q5 => if q5.1 = 0 then some (0, q5.2) else ((F_76 q5.1 q5.2).bind fun q6 => some (q6.1, q6.2))) else some (q2.1, q2.2)) (fun o h1 o1 o2 => if_neg (I3_ne0 o1 o2)) (fun h1 g1 p1 s1 G r => by
        have nC1 : nC g1 = nC g := by rw [m_nC G.ar, m_nC F.ar]
        obtain ⟨w, w1, w2⟩ := rs_k G.m.k (p := y) (by rw [m_nH G.ar]; exact y1)
        rw [m_hrs G.ar] at w1
        rw [if_pos (show I3 0 = (0 : Int32) from rfl), show F_44 (I3 y) (I3 0, h1).2 = some (hrs g0 y, h1) from G.crs y1]; simp only [obs]
        rw [C_tres G.m.k.2.2.1 G.m.k.2.2.2.1 (by rw [m_nT G.ar]; exact t1), (m_c G.ar (show 70 ≤ 72 by decide) (by decide)).1]; simp only [obs]
        rw [show g0.1 72 t = hrs g0 y from hr.symm, w1]
        by_cases w0 : w = 0
        · subst w0
          refine ⟨sm_wI (sm_wJ h1 49 9 0) 49 10 0, ?_, agr_wI (agr_wJ agr_rfl (by unfold S910; omega)) (by unfold S910; omega), rfl, ?_⟩
          · show ((F_90_0 (I3 0) (I3 0) (b2 false) h1).bind _) = _
            unfold F_90_0 F_90_8
            rw [if_pos (by decide)]; rfl
          · have o0 := r.2.2.1 rfl
            rw [w1, tnI (by decide)] at o0
            have e0 : g1.1 67 60 = 0 ∧ g1.2.1 67 61 = 0 := by
              rcases o0 with ⟨z, _⟩ | ⟨_, z1, z2⟩ | ⟨z, _⟩
              · omega
              · exact ⟨z1, z2⟩
              · omega
            exact ⟨by rw [e0.2]; rfl, by rw [e0.1]; show (0 : Int32) = tag 0; decide, fun _ => by rw [tnI (by decide)]; exact o0, fun z => by cases z⟩
        · refine ⟨h1, ?_, agr_rfl, rfl, by rw [← w1]; exact r⟩
          show ((F_90_0 (I3 w) (I3 w) (b2 false) h1).bind _) = _
          unfold F_90_0
          rw [if_neg (by rw [I3_lit, I3_inj (by omega) (by decide)]; exact w0), if_neg (by rw [I3_lit, I3_inj (by omega) (by decide)]; exact w0), if_pos rfl]; simp only [obs]
          rw [if_pos trivial])
      obtain ⟨u, f1, f2⟩ := T
      rw [er, ← hr]
      refine Ends_step (step_enter (by omega) F.c64 F.c56 c63 ?_) f2
      unfold F_365_120 at R
      rw [R, if_pos (by rw [e]), F.mn y1]; simp only [obs]
      rw [show I3 vp + 1 = I3 (vp + 1) from I3_add vp 1, I3_add, b1]; simp only [obs]
      rw [f1]; rfl
    · rw [decide_eq_false e, Bool.false_or] at C99'
      rw [if_neg (by rw [I3_inj (by omega) (by omega)]; exact e)] at R
      have no : F_99 (I3 x) (I3 d) h = some (-I3 5, h) → F_370 g = F_365_82 g → Ends d fuel s vp (tn (hrs g0 x)) h0 g0 0 (F_82_312 rec (I3 x) (I3 d) h) g := fun z1 z2 => failing 5 (Or.inr rfl) z1 (by rw [z2]; rfl)
      cases b with
      | false =>
        rw [Bool.false_and, if_neg (by decide)] at C99'
        rw [if_pos (show b2 false = 0 from rfl)] at R
        exact no C99' R
      | true =>
        rw [Bool.true_and] at C99'
        rw [if_neg (show ¬ b2 true = 0 by decide), show F_326 (I3 y) (I3 t) 0 g = some (b2 (asB g (ty g y) t false), g) from R_mayAs F.m.k y1' (by omega) false] at R; simp only [obs] at R
        cases l : asB g (ty g y) t false with
        | false =>
          rw [l, if_neg (by decide)] at C99'
          rw [l, if_pos (by decide)] at R
          exact no C99' R
        | true =>
          rw [l, if_pos rfl] at C99'
          rw [l, if_neg (by decide)] at R
          rw [CC C99']
          have l0 := l
          rw [asB_m F.ar, ety] at l0
          obtain ⟨m1, m2, m3⟩ := asB_x l0
          have ly := hpl_len g0 y
          have hI : ∀ u, u < nT g0 → g0.1 72 u = I3 (tR g0 u) ∧ tR g0 u < 20 + nC g := fun u hu => by
            have z := (F.m.k.2.2.1.2.1 u (by omega)).1
            rw [(m_c F.ar (show 70 ≤ 72 by decide) (by decide)).1] at z
            exact ⟨z.1, by have := z.2; show tn _ < _; omega⟩
          rcases asLoop rec F c59 (i := 1) false y1 t1 (by omega) (by omega) (fun k hk => by rw [el, Nat.add_comm]; rfl) (fun k hk => by have z := m2 k (by omega); rw [show tn (at0 (hpl g0 y) k) = tP g0 (ty g0 y) k by rw [at0_lst (by omega)]]; exact z) with ⟨h', g', ws, e1, e2, L, P, tw⟩ | ⟨ec, h', g', ws, us, ee, e1, e2, L, P⟩
          · rw [e1]
            have Fh := Fr_Lz F L
            have aB : agr (SG d (vp + vs.length)) g (sm_wI g 106 d (I3 y)) := agr_wI agr_rfl (by unfold SG; omega)
            have FB := Fr_g Fh aB
            have PB : Ph (sm_wI g 106 d (I3 y)) (sm_wI g' 106 d (I3 y)) (vp + vs.length) ws := ⟨agr_wI2 P.a 106 d (I3 y), P.n, P.s⟩
            have M : ∃ u, F_350 (I3 y) 12 (sm_wI g' 106 d (I3 y)) = some u ∧ Ends d fuel s vp (tn (hrs g0 x)) h0 g0 (0 + 1) (contA rec y t d false h') u := by
              refine midG IH FB 12 y1 (Nat.le_refl _) (by omega) (Lz_Ly L) PB (tyV_grow F.m.k.1 (grow_N (agr_mono (SG_N _ _) aB)) tw) (rk := tn (hrs g0 x)) (fun o h1 o1 o2 => if_neg (I3_ne0 (by omega) o2)) (fun out h1 g1 p1 s1 o1 G t59 t63 t62 t104 r kp _ => ?_)
              rcases (show out = 0 ∨ out = 1 by omega) with rfl | rfl
              · have G' := Fr_63 G
                have c106 : g1.1 106 d = I3 y := by
                  rw [kp.1 106 d (by decide) (by decide) (by omega)]
                  show (if d = d then I3 y else g'.1 106 d) = _; rw [if_pos rfl]
                rw [if_pos (show I3 0 = (0 : Int32) from rfl), show F_44 (I3 y) (I3 0, h1).2 = some (hrs g0 y, h1) from G.crs y1]; simp only [obs]
                rw [C_tres G.m.k.2.2.1 G.m.k.2.2.2.1 (by rw [m_nT G.ar]; exact t1), (m_c G.ar (show 70 ≤ 72 by decide) (by decide)).1]; simp only [obs]
                have iy := hI (ty g0 y) (by rw [← ety, ← nT0]; exact tyy)
                have it := hI t t1
                have nC1 : nC g1 = nC g := by rw [m_nC G.ar, m_nC F.ar]
                have gx := go_12 G y1 t62 t104 c106
                have okr := okV_grow G.m.k.1 (grow_N (agr_wI agr_rfl (show SN 67 63 by unfold SN; omega)) : grow g1 (sm_wI g1 67 63 0)) (r.2.2.1 rfl)
                rw [show tn (hrs g0 y) = tR g0 (ty g0 y) from rfl] at okr
                have mg : mayB (sm_wI g1 67 63 0) (tR g0 (ty g0 y)) (tR g0 t) false true = true := by
                  have : ∀ a b, B (sm_wI g1 67 63 0) a b = B g0 a b := m_B G'.ar
                  unfold mayB; unfold mayB at m3; simp only [this]; exact m3
                rw [show hrs g0 y = I3 (tR g0 (ty g0 y)) from iy.1, it.1]
                rw [show hrs g0 y = I3 (tR g0 (ty g0 y)) from iy.1, er, show rs g0 t = I3 (tR g0 t) from it.1] at gx
                have rkx : tn (hrs g0 x) = tR g0 t := by rw [er]
                rcases conv G'.m.k (a := tR g0 (ty g0 y)) (b := tR g0 t) (by show _ < 20 + nC g1; omega) (by show _ < 20 + nC g1; omega) false okr mg r.1 r.2.1 with ⟨h3, g3, z1, z2, z3⟩ | ⟨e, h3, g3, ee, z1, z2, z3, z4, z5⟩
                · rw [z1]; simp only [obs]
                  rw [if_pos trivial]
                  have G3 := Fr_48 (Fr_h G' (agr_mono (fun b j z => by unfold S910 at z; unfold SC1; omega) z3.c) z3.r) z3.a
                  obtain ⟨u', f1, f2⟩ := Fr_pass (rk := tn (hrs g0 x)) G3 (g3.1 67 48) (g3.2.1 67 49) z3.n z3.t (by rw [rkx]; exact okV_grow G'.m.k.1 (grow_N (agr_mono (fun b j z => by unfold S48 at z; unfold SN; omega) z3.a)) z3.ok)
                  refine Ends_step (step_goOn (by omega) G.c64 G.c56 t63 ?_) f2
                  rw [gx, show F_300 (I3 (tR g0 (ty g0 y))) (I3 (tR g0 t)) (g1.1 67 60) (g1.2.1 67 61) 0 (sm_wI g1 67 63 0) = some (0, g3) from z2]; simp only [obs]
                  rw [if_pos trivial, f1]; rfl
                · have ne : ¬ e = 0 := by rcases ee with rfl | rfl <;> decide
                  rw [z1]; simp only [obs]
                  rw [if_neg ne]
                  have G3 := Fr_48 (Fr_h G' (agr_mono (fun b j z => by unfold S910 at z; unfold SC1; omega) z4) z5) z3
                  obtain ⟨u', h5, f1, f2, f3⟩ := Fr_fail (rk := tn (hrs g0 x)) G3 e (by rcases ee with rfl | rfl <;> decide)
                  rw [f2]; simp only [obs]
                  refine Ends_step (step_goOn (by omega) G.c64 G.c56 t63 ?_) f3
                  rw [gx, show F_300 (I3 (tR g0 (ty g0 y))) (I3 (tR g0 t)) (g1.1 67 60) (g1.2.1 67 61) 0 (sm_wI g1 67 63 0) = some (e, g3) from z2]; simp only [obs]
                  rw [if_neg ne, f1]; rfl
              · rw [if_neg (I3_ne0 (o := 1) (by omega) (by omega))]
                exact thru G (Nat.le_refl 1) t63 t62 ⟨r.1, r.2.1, fun z => by (cases z), r.2.2.2⟩ (fun z => by cases z) (fun _ => Or.inl (by rw [t104]; decide))
            obtain ⟨u, f1, f2⟩ := M
            refine Ends_step (step_enter (by omega) F.c64 F.c56 c63 ?_) f2
            rw [R, show F_356 (I3 y) (I3 t) 0 1 g = some (1, g') from e2]; simp only [obs]
            have Fg := Fr_Ph F (Nat.le_refl _) P
            rw [if_neg (by decide), Fg.c56, show I3 (d + 1) - 1 = I3 d from I3_sub (a := d + 1) (b := 1) (by omega), stI_I d1 (by decide)]; simp only [obs]
            rw [f1]; rfl
          · rw [e1]
            obtain ⟨u', h5, f1, f2, f3⟩ := Fr_fail (rk := tn (hrs g0 x)) (Fr_Ph (Fr_Lz F L) (Nat.le_refl _) P) ec (by rcases ee with rfl | rfl <;> decide)
            rw [f2]; simp only [obs]
            refine Ends_step (step_enter (by omega) F.c64 F.c56 c63 ?_) f3
            rw [R, show F_356 (I3 y) (I3 t) 0 1 g = _ from e2, f1]; rfl
theorem run_27 {rec : Int32 → Int32 → sm_H → Option (Int32 × sm_H)} {d fuel s x vp : Nat} {vs : List Val} {h0 g0 h g : sm_H} (IH : CallOK (d + 1) rec) (F : Fr d fuel s x vp vs h0 g0 h g 0 (s + 1)) (c63 : g.1 67 63 = 0) (c59 : g.1 67 59 = I3 (vp + vs.length)) (eh : sm_wI h0 49 8 (h0.1 49 8 + 1) = h) (lf : h0.1 49 8 < h0.1 49 7) (f : fm g0 x = 27) : Ends d fuel s vp (tn (hrs g0 x)) h0 g0 0 (F_82R rec (I3 x) (I3 d) h0) g := by
  have d1 := F.d1
  have v10 := F.v10
  have x500 := F.x500
  have vl := F.vl
  have vx := F.vx
  have fs := F.fs0
  rw [f] at fs
  have C := B82_27 (rec := rec) (x1 := I3 x) (x2 := I3 d) (by rw [I3_lit, I3_lt (by omega) (by decide)]; omega) lf eh (f ▸ F.f37)
  rw [C]
  have R := B370_27 F.c56 F.l103 F.l105 F.l305 F.l77 F.l78 F.l81 F.l81' (f ▸ F.l75)
  obtain ⟨ep, t, t1, eb, er, el⟩ := FS_27 fs
  exact run_inv IH F c63 c59 false f t1 eb er el (by rw [R, eb]; rfl)
theorem run_28 {rec : Int32 → Int32 → sm_H → Option (Int32 × sm_H)} {d fuel s x vp : Nat} {vs : List Val} {h0 g0 h g : sm_H} (IH : CallOK (d + 1) rec) (F : Fr d fuel s x vp vs h0 g0 h g 0 (s + 1)) (c63 : g.1 67 63 = 0) (c59 : g.1 67 59 = I3 (vp + vs.length)) (eh : sm_wI h0 49 8 (h0.1 49 8 + 1) = h) (lf : h0.1 49 8 < h0.1 49 7) (f : fm g0 x = 28) : Ends d fuel s vp (tn (hrs g0 x)) h0 g0 0 (F_82R rec (I3 x) (I3 d) h0) g := by
  have d1 := F.d1
  have v10 := F.v10
  have x500 := F.x500
  have vl := F.vl
  have vx := F.vx
  have fs := F.fs0
  rw [f] at fs
  have C := B82_28 (rec := rec) (x1 := I3 x) (x2 := I3 d) (by rw [I3_lit, I3_lt (by omega) (by decide)]; omega) lf eh (f ▸ F.f37)
  rw [C]
  have R := B370_28 F.c56 F.l103 F.l105 F.l305 F.l77 F.l78 F.l81 F.l81' (f ▸ F.l75)
  obtain ⟨ep, t, t1, eb, er, el⟩ := FS_28 fs
  exact run_inv IH F c63 c59 true f t1 eb er el (by rw [R, eb]; rfl)
theorem rowV {h g : sm_H} (K : K1 h g) {k : Nat} (k1 : 15 ≤ k) (k2 : k ≤ 17) {v : Val} (ok : okV g k v.1 v.2) : (v = (0, 0) ∧ tag v.1 = 0) ∨ ∃ t, t < nX g ∧ v = (I3 k, I6 t) ∧ g.1 96 t = I3 k ∧ szX g t = tn (g.1 97 t) ∧ g.1 97 t = I3 (tn (g.1 97 t)) ∧ tn (g.1 97 t) ≤ 100 ∧ tag v.1 = v.1 ∧ v.1 ≠ 0 ∧ ∀ i, i < tn (g.1 97 t) → okV g (k - 10) (g.1 98 (100 * t + i)) (g.2.1 99 (100 * t + i)) := by
  have h12 := K.1.2.1
  have wX := K.2.2.2.2.2.2.2.2.2.2.2.1
  rcases okV_7 K.1 (by omega) ok with ⟨z1, z2⟩ | ⟨q, z1, z2, z3, z4, z5, z6, z7⟩
  · exact Or.inl ⟨z1, z2⟩
  · right
    have qk : q = k := by
      by_cases e : q = k
      · exact e
      · rw [B_self1 K.1 (by omega) (by omega) q e z3] at z4; cases z4
    subst qk
    obtain ⟨t, t1, tn', t96⟩ : ∃ t, t < nX g ∧ v.2 = I6 t ∧ g.1 96 t = I3 q := by
      rcases z5 with w | w | w | w
      · omega
      · exact w.2
      · omega
      · omega
    have w := wX.2.1 t t1
    refine ⟨t, t1, Prod.ext z1 tn', t96, ?_, w.1.1, w.1.2, z6, z7, ?_⟩
    · unfold szX; rw [t96, tnI (by omega), if_pos (by omega)]
    · rcases w.2 with ⟨k', a1, a2, a3, a4⟩ | ⟨k', a1, a2, a3, a4⟩
      · rw [t96, I3_inj (by omega) (by omega)] at a3
        rw [← a3] at a4; exact a4
      · rw [t96, I3_inj (by omega) (by omega)] at a3; omega
theorem nX_1000 {h g : sm_H} (K : K1 h g) : nX g ≤ 1000 := K.2.2.2.2.2.2.2.2.2.2.2.1.1.2
theorem run_21 {rec : Int32 → Int32 → sm_H → Option (Int32 × sm_H)} {d fuel s x vp : Nat} {vs : List Val} {h0 g0 h g : sm_H} (IH : CallOK (d + 1) rec) (F : Fr d fuel s x vp vs h0 g0 h g 0 (s + 1)) (c63 : g.1 67 63 = 0) (c59 : g.1 67 59 = I3 (vp + vs.length)) (eh : sm_wI h0 49 8 (h0.1 49 8 + 1) = h) (lf : h0.1 49 8 < h0.1 49 7) (f : fm g0 x = 21) : Ends d fuel s vp (tn (hrs g0 x)) h0 g0 0 (F_82R rec (I3 x) (I3 d) h0) g := by
  have d1 := F.d1
  have v10 := F.v10
  have x500 := F.x500
  have vl := F.vl
  have vx := F.vx
  have fs := F.fs0
  rw [f] at fs
  have C := B82_21 (rec := rec) (x1 := I3 x) (x2 := I3 d) (by rw [I3_lit, I3_lt (by omega) (by decide)]; omega) lf eh (f ▸ F.f37)
  rw [C]
  have R := B370_21 F.c56 F.l103 F.l105 F.l305 F.l77 F.l78 F.l81 F.l81' (f ▸ F.l75)
  obtain ⟨ep, k, k1, k2, ea, -, -, r21, -⟩ := FS_21 fs
  obtain ⟨er, el⟩ := r21 rfl
  have h12 := F.m.k.1.2.1
  have x1000 := nX_1000 F.m.k
  have wX := F.m.k.2.2.2.2.2.2.2.2.2.2.2.1
  have cXq := F.m.k.2.2.2.2.2.2.2.2.2.2.2.2.1
  have cXhq := F.m.k.2.2.2.2.2.2.2.2.2.2.2.2.2.1
  have v1 : 0 < vs.length := by rw [vx, el]; exact Nat.zero_lt_succ _
  have ok := F.ty.2 0 v1
  rw [el, show at0 [g0.1 77 x] 0 = g0.1 77 x from rfl, ea, tnI (by omega)] at ok
  have k0 : F_351 0 g = _ := F.k351 (i := 0) v1
  have n0 : F_352 0 g = _ := F.k352 (i := 0) v1
  have c0 : F_77 (I3 d) 0 h = _ := F.c77 (i := 0) v1
  have t0 : F_78 (I3 d) 0 h = _ := F.c78 (i := 0) v1
  have C0 := B102_21 (x2 := I3 d) (F.f38) (f ▸ F.f37)
  rw [t0] at C0; simp only [obs] at C0
  unfold F_370_726 at R
  rw [F.l75, f] at R; simp only [obs] at R
  rw [bind_id1, show F_361 (I3 21) (g0.1 77 x) g = F_361_0 (I3 21) (g0.1 77 x) g from rfl] at R
  unfold F_361_0 at R
  rw [k0] at R; simp only [obs] at R
  rcases rowV F.m.k k1 k2 ok with ⟨z1, z2⟩ | ⟨t, t1, tv, t96, tsz, t97, t100, z6, z7, -⟩
  · rw [if_pos z2] at C0
    obtain ⟨u, h', f1, f2, f3⟩ := Fr_fail (rk := tn (hrs g0 x)) F 1
    rw [f2] at C0; simp only [obs] at C0
    have CC : F_82_367 rec (I3 x) (I3 d) h = some (1, h') := by unfold F_82_367; rw [bind_id, C0]
    rw [CC]
    refine Ends_step (step_enter (by omega) F.c64 F.c56 c63 ?_) f3
    rw [R, z1, if_pos (show ((0 : Int32), (0 : Int64)).1 = 0 from rfl), f1]; rfl
  · have tn2 : (atv vs 0).2 = I6 t := by rw [tv]
    rw [if_neg (by rw [z6]; exact z7), c0, tn2] at C0; simp only [obs] at C0
    have th := thX wX cXhq t1
    rw [C_thing wX cXq cXhq t1] at C0; simp only [obs] at C0
    rw [if_neg (not_not_intro th.1), C_thsz th, tsz] at C0; simp only [obs] at C0
    rw [if_neg z7, n0, tn2] at R; simp only [obs] at R
    rw [if_pos (by decide), I6_32, ldI_I (by omega) (by decide), t97] at R; simp only [obs] at R
    obtain ⟨u, h', e1, e2, e3⟩ := Fr_give (rk := tn (hrs g0 x)) F 5 (Int32.toInt64 (I3 (tn (g.1 97 t)))) (by
      rw [er, show tn (5 : Int32) = 5 from rfl]
      refine Or.inl ⟨by decide, by decide, rfl, ⟨fun z => by (cases z), fun z => by (cases z), fun z => by (cases z), fun z => by (cases z), fun _ => ?_⟩⟩
      rw [toI64, I3_toInt (by omega)]; omega)
    rw [show F_75 (Int32.toInt64 (I3 (tn (g.1 97 t)))) 0 h = some (0, h') from e2] at C0; simp only [obs] at C0
    have CC : F_82_367 rec (I3 x) (I3 d) h = some (0, h') := by unfold F_82_367; rw [bind_id, C0]
    rw [CC]
    refine Ends_step (step_enter (by omega) F.c64 F.c56 c63 ?_) e3
    rw [R, e1]; rfl
def rowL (g : sm_H) (t n : Nat) : List Val := (List.range n).map (fun i => (g.1 98 (100 * t + i), g.2.1 99 (100 * t + i)))
theorem rowL_len (g : sm_H) (t n : Nat) : (rowL g t n).length = n := by unfold rowL; rw [List.length_map, List.length_range]
theorem rowL_s (g : sm_H) (t n : Nat) : rowL g t (n + 1) = rowL g t n ++ [(g.1 98 (100 * t + n), g.2.1 99 (100 * t + n))] := by unfold rowL; rw [List.range_succ, List.map_append]; rfl
theorem atv_rowL {g : sm_H} {t n i : Nat} (h : i < n) : atv (rowL g t n) i = (g.1 98 (100 * t + i), g.2.1 99 (100 * t + i)) := by
  unfold rowL atv; rw [List.getD_eq_getElem?_getD, List.getElem?_map, List.getElem?_range h]; rfl
theorem run_10 {rec : Int32 → Int32 → sm_H → Option (Int32 × sm_H)} {d fuel s x vp : Nat} {vs : List Val} {h0 g0 h g : sm_H} (IH : CallOK (d + 1) rec) (F : Fr d fuel s x vp vs h0 g0 h g 0 (s + 1)) (c63 : g.1 67 63 = 0) (c59 : g.1 67 59 = I3 (vp + vs.length)) (eh : sm_wI h0 49 8 (h0.1 49 8 + 1) = h) (lf : h0.1 49 8 < h0.1 49 7) (f : fm g0 x = 10) : Ends d fuel s vp (tn (hrs g0 x)) h0 g0 0 (F_82R rec (I3 x) (I3 d) h0) g := by
  have d1 := F.d1
  have v10 := F.v10
  have x500 := F.x500
  have vl := F.vl
  have vx := F.vx
  have fs := F.fs0
  rw [f] at fs
  have C := B82_10 (rec := rec) (x1 := I3 x) (x2 := I3 d) (by rw [I3_lit, I3_lt (by omega) (by decide)]; omega) lf eh (f ▸ F.f37)
  rw [C]
  have R := B370_10 F.c56 F.l103 F.l105 F.l305 F.l77 F.l78 F.l81 F.l81' (f ▸ F.l75)
  obtain ⟨y, k, n, y1, ep, k1, k2, ea, hn, eb, ek, er, el⟩ := FS_10 fs
  have h12 := F.m.k.1.2.1
  have x1000 := nX_1000 F.m.k
  have ny := F.n10 y1
  have wX := F.m.k.2.2.2.2.2.2.2.2.2.2.2.1
  have cXq := F.m.k.2.2.2.2.2.2.2.2.2.2.2.2.1
  have cXhq := F.m.k.2.2.2.2.2.2.2.2.2.2.2.2.2.1
  have pl1 : (prt g0 x).length = 1 := by rw [ep]; rfl
  have e81 : g0.1 81 (24 * x) = I3 y := by have := F.at81 (k := 0) (by omega); rw [ep] at this; exact this
  have lx : vs.length = (hpl g0 y).length - n + 1 := by rw [vx, el, List.length_append, List.length_take]; simp only [List.length_cons, List.length_nil]; omega
  generalize hfi : (hpl g0 y).length - n = fi at *
  have ok := F.ty.2 fi (by omega)
  rw [el, at0_app2 (by rw [List.length_take]; omega), show fi - ((hpl g0 y).take fi).length = 0 by rw [List.length_take]; omega, show at0 [g0.1 77 x] 0 = g0.1 77 x from rfl, ea, tnI (by omega)] at ok
  have c0 := F.c77 (i := fi) (by omega)
  have t0 := F.c78 (i := fi) (by omega)
  have st0 := F.st fi (by omega)
  have main : ∀ (o t : Nat) (sz : Nat), (n = 0 ∨ (isTh h (131 + 3 * t) (132 + 3 * t) (133 + 3 * t) sz ∧ o = 131 + 3 * t ∧ t < nX g ∧ n = sz ∧ (∀ i, i < n → h.2.1 (132 + 3 * t) i = g.2.1 99 (100 * t + i) ∧ h.1 (133 + 3 * t) i = tag (g.1 98 (100 * t + i))) ∧ ∀ i, i < n → okV g (k - 10) (g.1 98 (100 * t + i)) (g.2.1 99 (100 * t + i)))) → t < 100000 → ∃ h1, F_80 (I3 d) 0 0 (I3 fi) h = some h1 ∧ ∃ h2 g' u, F_87_115 rec (I3 d) (I3 y) (I3 n) (I3 fi) o 0 h1 = rec (I3 y) (I3 (d + 1)) h2 ∧ F_366_90 (I3 y) (I3 n) (I3 d) (I3 (vp + fi)) (I3 t) g = some u ∧ Ends d fuel s vp (tn (hrs g0 y)) h0 g0 (0 + 1) (rec (I3 y) (I3 (d + 1)) h2) u := fun o t sz ht t100 => by
    obtain ⟨h1, a1, L1⟩ := C_lend (i := 0) (n := fi) (Ly_0 h (d + 1)) F.fr d1 (by omega) (by omega) (by simp only [List.length_nil]; omega)
    obtain ⟨g1, b1, P1⟩ := R_copy (i := 0) (n := fi) (Ph_0 c59) F.st (Nat.le_refl _) (by omega) (by simp only [List.length_nil]; omega)
    rw [List.nil_append] at L1 P1
    have s1 : (sub vs 0 fi).length = fi := sub_len (by omega)
    refine ⟨h1, a1, ?_⟩
    have CL : ∀ j, j ≤ n → ∃ h2, F_87_115 rec (I3 d) (I3 y) (I3 n) (I3 fi) o 0 h1 = lp (F_87_115B rec) (1000000 - j) (I3 d, I3 y, I3 n, I3 fi, o, I3 j, h2) ∧ Ly h h2 (d + 1) (sub vs 0 fi ++ rowL g t j) := by
      intro j
      induction j with
      | zero => intro _; exact ⟨h1, rfl, by rw [show rowL g t 0 = [] from rfl, List.append_nil]; exact L1⟩
      | succ j ih =>
        intro hj
        obtain ⟨h2, e1, L2⟩ := ih (by omega)
        rcases ht with z | ⟨th, ho, tX, nsz, cel, -⟩
        · omega
        have wl : (sub vs 0 fi ++ rowL g t j).length = fi + j := by rw [List.length_append, s1, rowL_len]
        obtain ⟨h3, a3, L3⟩ := C_lay1 L2 (by omega) (by omega) (g.1 98 (100 * t + j), g.2.1 99 (100 * t + j))
        rw [wl] at a3
        have F2 := Fr_Ly F L2
        have th2 := thX F2.m.k.2.2.2.2.2.2.2.2.2.2.2.1 F2.m.k.2.2.2.2.2.2.2.2.2.2.2.2.2.1 tX
        have szE : szX g t = sz := by
          have := (thX wX cXhq tX).2.2.2.2.1
          have w := th.2.2.2.2.1
          omega
        rw [szE] at th2
        have v1 : h2.2.1 (132 + 3 * t) j = g.2.1 99 (100 * t + j) := by rw [L2.a.2.1 _ _ (by unfold SL; omega)]; exact (cel j (by omega)).1
        have v2 : h2.1 (133 + 3 * t) j = tag (g.1 98 (100 * t + j)) := by rw [L2.a.1 _ _ (by unfold SL; omega)]; exact (cel j (by omega)).2
        refine ⟨h3, ?_, by rw [rowL_s, ← List.append_assoc]; exact L3⟩
        rw [e1, lp_s (n := 1000000 - j) (s' := (I3 d, I3 y, I3 n, I3 fi, o, I3 (j + 1), h3)) (by omega) ?_]
        · rw [show 1000000 - j - 1 = 1000000 - (j + 1) by omega]
        · subst ho
          unfold F_87_115B
          rw [if_neg (by rw [I3_le (by omega) (by omega)]; omega), if_neg (by rw [I3_lit, I3_le (by decide) (by omega)]; omega), if_neg (not_not_intro th2.1), C_thnum th2 (by omega), v1]; simp only [obs]
          rw [if_neg (not_not_intro th2.1), C_thtag th2 (by omega), v2]; simp only [obs]
          rw [show I3 d + 1 = I3 (d + 1) from I3_add d 1, I3_add, a3]; simp only [obs]
          rw [show I3 j + 1 = I3 (j + 1) from I3_add j 1]
    obtain ⟨h2, e1, L2⟩ := CL n (Nat.le_refl _)
    have RL : ∀ j, j ≤ n → ∃ g2, F_366_105 (I3 y) (I3 n) (I3 t) 0 g1 = lp F_366_105B (1000000 - j) (I3 y, I3 n, I3 t, I3 j, g2) ∧ Ph g g2 (vp + vs.length) (sub vs 0 fi ++ rowL g t j) := by
      intro j
      induction j with
      | zero => intro _; exact ⟨g1, rfl, by rw [show rowL g t 0 = [] from rfl, List.append_nil]; exact P1⟩
      | succ j ih =>
        intro hj
        obtain ⟨g2, e2, P2⟩ := ih (by omega)
        rcases ht with z | ⟨th, ho, tX, nsz, cel, -⟩
        · omega
        have wl : (sub vs 0 fi ++ rowL g t j).length = fi + j := by rw [List.length_append, s1, rowL_len]
        obtain ⟨g3, b3, P3⟩ := R_push P2 (by omega) (g.1 98 (100 * t + j), g.2.1 99 (100 * t + j))
        refine ⟨g3, ?_, by rw [rowL_s, ← List.append_assoc]; exact P3⟩
        rw [e2, lp_s (n := 1000000 - j) (s' := (I3 y, I3 n, I3 t, I3 (j + 1), g3)) (by omega) ?_]
        · rw [show 1000000 - j - 1 = 1000000 - (j + 1) by omega]
        · unfold F_366_105B
          rw [if_neg (by rw [I3_le (by omega) (by omega)]; omega), show (100 : Int32) * I3 t + I3 j = I3 (100 * t + j) by rw [I3_lit, I3_mul, I3_add], ldI_I (by omega) (by decide), P2.a.1 98 _ (by unfold SP; omega)]; simp only [obs]
          rw [ldJ_I (by omega) (by decide), P2.a.2.1 99 _ (by unfold SP; omega)]; simp only [obs]
          rw [b3]; simp only [obs]
          rw [show I3 j + 1 = I3 (j + 1) from I3_add j 1]
    obtain ⟨g2, e2, P2⟩ := RL n (Nat.le_refl _)
    have tw : tyV g (hpl g0 y) (sub vs 0 fi ++ rowL g t n) := by
      have z1 := tyV_sub F.ty (i := 0) (n := fi) (by omega)
      have z2 : tyV g ((hpl g0 y).drop fi) (rowL g t n) := by
        refine ⟨by rw [rowL_len, List.length_drop]; omega, fun i hi => ?_⟩
        rw [rowL_len] at hi
        rcases ht with z | ⟨th, ho, tX, nsz, cel, oke⟩
        · omega
        rw [atv_rowL hi, at0_drop, ek (fi + i) (by omega) (by omega), tnI (by omega)]
        exact oke i hi
      have z := tyV_app z1 z2
      have e3 : seg (hpl g0 x) 0 fi = (hpl g0 y).take fi := by
        rw [seg_take (by omega), el, List.take_append_of_le_length (by rw [List.length_take]; omega), List.take_take, Nat.min_self]
      rw [e3, List.take_append_drop] at z; exact z
    obtain ⟨u, f1, f2⟩ := tail2 IH F y1 (Nat.le_refl _) (by omega) L2 P2 tw
    refine ⟨h2, g2, u, ?_, ?_, f2⟩
    · rw [e1]
      have fin : ∀ (r : Option (Int32 × sm_H)), F_87_115B rec (I3 d, I3 y, I3 n, I3 fi, o, I3 n, h2) = r.map (fun q => .inr q) → lp (F_87_115B rec) (1000000 - n) (I3 d, I3 y, I3 n, I3 fi, o, I3 n, h2) = r := fun r z => by
        cases r with
        | none =>
          have := lp_n (n := 1000000 - n - 1) z
          rw [show 1000000 - n - 1 + 1 = 1000000 - n by omega] at this; exact this
        | some r => exact lp_e (by omega) z
      refine fin _ ?_
      unfold F_87_115B F_87_161
      rw [if_pos (by rw [I3_le (by omega) (by omega)]; omega), bind_id, show I3 d + 1 = I3 (d + 1) from I3_add d 1]
    · unfold F_366_90
      rw [F.l105]; simp only [obs]
      rw [show F_343 (I3 vp) (I3 (vp + fi)) g = some g1 from b1]; simp only [obs]
      rw [e2]
      refine lp_e (by omega) ?_
      unfold F_366_105B
      rw [if_pos (by rw [I3_le (by omega) (by omega)]; omega), f1]; rfl
  have C0 : ((F_87 rec (I3 x) (I3 d) h).bind fun q16 => some (q16.1, q16.2)) = (if tag (atv vs fi).1 = 0 then (if I3 n = 0 then (F_87_54 rec (I3 d) (I3 y) (I3 n) (I3 fi) h) else ((F_76 1 h).bind fun q20 => some (q20.1, q20.2))) else (F_87_54 rec (I3 d) (I3 y) (I3 n) (I3 fi) h)) := by
    rw [bind_id, show F_87 rec (I3 x) (I3 d) h = F_87_0 rec (I3 x) (I3 d) h from rfl]
    unfold F_87_0
    rw [show F_43 (I3 x) 0 h = some (I3 y, h) by have := F.f43 (k := 0) (by omega); rw [ep] at this; exact this]; simp only [obs]
    rw [F.f39, eb]; simp only [obs]
    rw [F.cmn y1]; simp only [obs]
    rw [I3_sub hn, hfi, t0]; simp only [obs]
  have R0 : F_370 g = (if (atv vs fi).1 = 0 then (if I3 n ≤ 0 then (F_366_52 (I3 y) (I3 n) (I3 d) (I3 (vp + fi)) g) else ((F_348 1 g).bind fun q19 => some q19)) else (F_366_52 (I3 y) (I3 n) (I3 d) (I3 (vp + fi)) g)) := by
    rw [R, e81, eb, bind_id1, show F_366 (I3 y) (I3 n) g = F_366_0 (I3 y) (I3 n) g from rfl]
    unfold F_366_0
    simp only [obs]
    rw [F.c56, show I3 (d + 1) - 1 = I3 d from I3_sub (a := d + 1) (b := 1) (by omega), F.l103]; simp only [obs]
    rw [F.l305]; simp only [obs]
    rw [F.l105]; simp only [obs]
    rw [show I3 vp + I3 vs.length - 1 = I3 (vp + fi) by rw [I3_add, lx]; exact I3_sub (a := vp + (fi + 1)) (b := 1) (by omega), ldI_I (by omega) (by decide), st0.1]; simp only [obs]
  have R52 : F_366_52 (I3 y) (I3 n) (I3 d) (I3 (vp + fi)) g = (if (atv vs fi).1 = 0 then (F_366_90 (I3 y) (I3 n) (I3 d) (I3 (vp + fi)) (Int64.toInt32 (atv vs fi).2) g) else ((ldI g 97 1000 (Int64.toInt32 (atv vs fi).2)).bind fun v11 => if v11 = I3 n then (F_366_90 (I3 y) (I3 n) (I3 d) (I3 (vp + fi)) (Int64.toInt32 (atv vs fi).2) g) else ((F_348 7 g).bind fun q12 => some q12))) := by
    unfold F_366_52
    rw [ldJ_I (by omega) (by decide), st0.2]; simp only [obs]
    rw [ldI_I (by omega) (by decide), st0.1]; simp only [obs]
  rw [C0]
  rcases rowV F.m.k k1 k2 ok with ⟨z1, z2⟩ | ⟨t, t1, tv, t96, tsz, t97, t100, z6, z7, oke⟩
  · rw [if_pos z2]
    rw [if_pos (by rw [z1])] at R0 R52
    by_cases n0 : n = 0
    · rw [if_pos (show I3 n = (0 : Int32) from congrArg I3 n0)]
      rw [if_pos (by rw [n0]; decide), R52, z1] at R0
      obtain ⟨h1, a1, h2, g', u, f1, f2, f3⟩ := main 26 0 0 (Or.inl n0) (by decide)
      have CC : F_87_54 rec (I3 d) (I3 y) (I3 n) (I3 fi) h = rec (I3 y) (I3 (d + 1)) h2 := by
        unfold F_87_54 F_87_81
        rw [t0]; simp only [obs]
        rw [if_pos z2, show F_147 (-1) h = some (26, h) from C_thing0 wX cXq]; simp only [obs]
        rw [if_neg (not_not_intro (th26 h).1), C_thsz (th26 h)]; simp only [obs]
        rw [if_pos (by rw [n0]), a1]; simp only [obs]
        exact f1
      rw [CC, er]
      refine Ends_step (step_enter (by omega) F.c64 F.c56 c63 ?_) f3
      rw [R0]; exact f2
    · rw [if_neg (show ¬ I3 n = (0 : Int32) by rw [I3_lit, I3_inj (by omega) (by decide)]; exact n0)]
      rw [if_neg (by rw [I3_lit, I3_le (by omega) (by decide)]; omega)] at R0
      obtain ⟨u, h', f1, f2, f3⟩ := Fr_fail (rk := tn (hrs g0 x)) F 1
      rw [f2]
      refine Ends_step (step_enter (by omega) F.c64 F.c56 c63 ?_) f3
      rw [R0, f1]; rfl
  · have tn2 : (atv vs fi).2 = I6 t := by rw [tv]
    rw [if_neg (by rw [z6]; exact z7)]
    rw [if_neg z7] at R0 R52
    rw [R52, tn2, I6_32, ldI_I (by omega) (by decide), t97] at R0; simp only [obs] at R0
    have th := thX wX cXhq t1
    have C54 : F_87_54 rec (I3 d) (I3 y) (I3 n) (I3 fi) h = (if I3 (szX g t) = I3 n then ((F_80 (I3 d) 0 0 (I3 fi) h).bind fun q11 => F_87_115 rec (I3 d) (I3 y) (I3 n) (I3 fi) (131 + 3 * t) 0 q11) else ((F_76 7 h).bind fun q12 => some (q12.1, q12.2))) := by
      unfold F_87_54 F_87_81
      rw [t0]; simp only [obs]
      rw [if_neg (by rw [z6]; exact z7), c0, tn2]; simp only [obs]
      rw [C_thing wX cXq cXhq t1]; simp only [obs]
      rw [if_neg (not_not_intro th.1), C_thsz th]; simp only [obs]
    rw [C54, tsz]
    by_cases e : tn (g.1 97 t) = n
    · rw [if_pos (by rw [e])] at R0 ⊢
      obtain ⟨h1, a1, h2, g', u, f1, f2, f3⟩ := main (131 + 3 * t) t (szX g t) (Or.inr ⟨th, rfl, t1, by omega, fun i hi => (cXhq.2.2 t t1).2.2.2.2.2.2.2.2 i (by omega), fun i hi => oke i (by omega)⟩) (by omega)
      rw [a1]; simp only [obs]
      rw [f1, er]
      refine Ends_step (step_enter (by omega) F.c64 F.c56 c63 ?_) f3
      rw [R0]; exact f2
    · have e' : ¬ I3 (tn (g.1 97 t)) = I3 n := by rw [I3_inj (by omega) (by omega)]; exact e
      rw [if_neg e'] at R0 ⊢
      obtain ⟨u, h', f1, f2, f3⟩ := Fr_fail (rk := tn (hrs g0 x)) F 7
      rw [f2]
      refine Ends_step (step_enter (by omega) F.c64 F.c56 c63 ?_) f3
      rw [R0, f1]; rfl
abbrev SCx (b j : Nat) : Prop := (b = 21 ∧ j = 2) ∨ b = 22 ∨ b = 24 ∨ b = 25 ∨ 131 ≤ b
abbrev SRx (b j : Nat) : Prop := (b = 67 ∧ j = 45) ∨ (96 ≤ b ∧ b ≤ 101)
def nxC (b j : Nat) : Bool := (Nat.beq b 21 && Nat.beq j 2) || Nat.beq b 22 || Nat.beq b 24 || Nat.beq b 25 || Nat.ble 131 b
def nxR (b j : Nat) : Bool := (Nat.beq b 67 && Nat.beq j 45) || (Nat.ble 96 b && Nat.ble b 101)
theorem nxC_S {b j : Nat} (e : nxC b j = false) : ¬ SCx b j := fun z => by
  have t : nxC b j = true := by
    unfold nxC
    unfold SCx at z
    simp only [Bool.or_eq_true, Bool.and_eq_true, Nat.beq_eq, Nat.ble_eq]
    omega
  rw [t] at e; cases e
theorem nxR_S {b j : Nat} (e : nxR b j = false) : ¬ SRx b j := fun z => by
  have t : nxR b j = true := by
    unfold nxR
    unfold SRx at z
    simp only [Bool.or_eq_true, Bool.and_eq_true, Nat.beq_eq, Nat.ble_eq]
    omega
  rw [t] at e; cases e
def zC (h : sm_H) : sm_H := (fun b j => cond (nxC b j) 0 (h.1 b j), fun b j => cond (nxC b j) 0 (h.2.1 b j), fun _ _ => none, fun _ => 0, fun _ => 0, 0, 0)
def zR (h : sm_H) : sm_H := (fun b j => cond (nxR b j) 0 (h.1 b j), fun b j => cond (nxR b j) 0 (h.2.1 b j), fun _ _ => none, fun _ => 0, fun _ => 0, 0, 0)
theorem zC_eq {h h1 : sm_H} (a : agr3 SCx h h1) : zC h1 = zC h := by
  refine Prod.ext (funext fun b => funext fun j => ?_) (Prod.ext (funext fun b => funext fun j => ?_) rfl)
  · show cond (nxC b j) 0 (h1.1 b j) = cond (nxC b j) 0 (h.1 b j)
    cases q : nxC b j with
    | true => rfl
    | false => exact a.1 b j (nxC_S q)
  · show cond (nxC b j) 0 (h1.2.1 b j) = cond (nxC b j) 0 (h.2.1 b j)
    cases q : nxC b j with
    | true => rfl
    | false => exact a.2.1 b j (nxC_S q)
theorem zR_eq {h h1 : sm_H} (a : agr SRx h h1) : zR h1 = zR h := by
  refine Prod.ext (funext fun b => funext fun j => ?_) (Prod.ext (funext fun b => funext fun j => ?_) rfl)
  · show cond (nxR b j) 0 (h1.1 b j) = cond (nxR b j) 0 (h.1 b j)
    cases q : nxR b j with
    | true => rfl
    | false => exact a.1 b j (nxR_S q)
  · show cond (nxR b j) 0 (h1.2.1 b j) = cond (nxR b j) 0 (h.2.1 b j)
    cases q : nxR b j with
    | true => rfl
    | false => exact a.2.1 b j (nxR_S q)
theorem B_z (g : sm_H) (a b : Nat) : B (zR g) a b = B g a b := B_par (fun _ => rfl) a b
theorem cK_z {h g : sm_H} : cK (zC h) (zR g) ↔ cK h g := by
  unfold cK
  constructor
  · rintro ⟨a, b, c⟩
    exact ⟨a, b, fun x y hx hy => (c x y hx hy).trans (by rw [B_z])⟩
  · rintro ⟨a, b, c⟩
    refine ⟨a, b, fun x y hx hy => (c x y hx hy).trans (by rw [B_z])⟩
theorem K1_th {h g h1 g1 : sm_H} (K : K1 h g) (ac : agr3 SCx h h1) (ar : agr SRx g g1) (G : grow g g1) (wX : wfX g1) (cX1 : cX h1 g1) (cXh1 : cXh h1 g1) : K1 h1 g1 := by
  obtain ⟨wK, cK, wT, cT, wH, cH, wM, cM, cG, cO, cV, -, -, -, wF⟩ := K
  have eC := zC_eq ac
  have eR := zR_eq ar
  refine ⟨?_, ?_, ?_, ?_, ?_, ?_, ?_, ?_, ?_, ?_, ?_, wX, cX1, cXh1, ?_⟩
  · have : wfK (zR g) := wK
    rw [← eR] at this; exact this
  · have := cK_z.mpr cK
    rw [← eR, ← eC] at this; exact cK_z.mp this
  · have : wfT (zR g) := wT
    rw [← eR] at this; exact this
  · have : g_cT (zC h) (zR g) := cT
    rw [← eR, ← eC] at this; exact this
  · have : wfH0 (zR g) := wH
    rw [← eR] at this; exact this
  · have : g_cH (zC h) (zR g) := cH
    rw [← eR, ← eC] at this; exact this
  · have : wfM (zR g) := wM
    rw [← eR] at this; exact this
  · have : g_cM (zC h) (zR g) := cM
    rw [← eR, ← eC] at this; exact this
  · have : g_cG (zC h) (zR g) := cG
    rw [← eR, ← eC] at this; exact this
  · have : g_cO (zC h) (zR g) := cO
    rw [← eR, ← eC] at this; exact this
  · obtain ⟨v1, v2, v3, v4⟩ := cV
    have e40 : g1.1 67 40 = g.1 67 40 := ar.1 67 40 (by unfold SRx; omega)
    refine ⟨?_, ?_, fun v hv => ?_, fun v hv => ?_⟩
    · rw [ac.1 21 6 (by unfold SCx; omega), e40]; exact v1
    · rw [e40]; exact v2
    · rw [ac.1 31 v (by unfold SCx; omega), ac.2.1 30 v (by unfold SCx; omega), ar.1 94 v (by unfold SRx; omega), ar.2.1 95 v (by unfold SRx; omega)]; exact v3 v hv
    · have hv : v < tn (g1.1 67 40) := hv
      rw [e40] at hv
      obtain ⟨q, q1, q2, q3⟩ := v4 v hv
      refine ⟨q, (ar.1 94 v (by unfold SRx; omega)).trans q1, by have := G.1; omega, ?_⟩
      rw [ar.2.1 95 v (by unfold SRx; omega)]
      exact okO_grow G q3
  · have : wfF (zR g) := wF
    rw [← eR] at this; exact this
section
variable {d fuel s0 x vp p s : Nat} {vs : List Val} {h0 g0 h g : sm_H}
theorem Fr_th (F : Fr d fuel s0 x vp vs h0 g0 h g p s) {h' g' : sm_H} (K : K1 h' g') (ac : agr3 SCx h h') (ar : agr SRx g g') (G : grow g g') : Fr d fuel s0 x vp vs h0 g0 h' g' p s := by
  obtain ⟨m, b, lt, d1, x1, c56, c103, c105, c64, vl, ty, fr, st, aC, aR, gr, kc, kr⟩ := F
  refine ⟨⟨K, (ac.1 49 7 (by unfold SCx; omega)).trans m.hf, (ar.1 67 65 (by unfold SRx; omega)).trans m.gf, (ac.1 49 8 (by unfold SCx; omega)).trans m.hs, (ar.1 67 66 (by unfold SRx; omega)).trans m.gs, m.le, m.fm⟩, b, lt, d1, x1, (ar.1 67 56 (by unfold SRx; omega)).trans c56, (ar.1 103 d (by unfold SRx; omega)).trans c103, (ar.1 105 d (by unfold SRx; omega)).trans c105, (ar.1 67 64 (by unfold SRx; omega)).trans c64, vl, tyV_grow m.k.1 G ty, fun i hi => ?_, fun i hi => ?_, agr3_trans aC (agr3_mono (fun b j z => by unfold SCx at z; unfold SCm; omega) ac), agr_trans aR (agr_mono (fun b j z => by unfold SRx at z; unfold SRm; omega) ar), grow_trans gr G, keepC_trans kc (fun k hk => ⟨ac.2.1 50 k (by unfold SCx; omega), ac.1 51 k (by unfold SCx; omega)⟩), keepR_trans kr ⟨fun c i h1 h2 hi => ar.1 c i (by unfold SRx; omega), fun k hk => ⟨ar.1 108 k (by unfold SRx; omega), ar.2.1 109 k (by unfold SRx; omega)⟩⟩⟩
  · rw [ac.2.1 50 _ (by unfold SCx; omega), ac.1 51 _ (by unfold SCx; omega)]
    exact fr i hi
  · rw [ar.1 108 _ (by unfold SRx; omega), ar.2.1 109 _ (by unfold SRx; omega)]
    exact st i hi
end
theorem same_g {g g1 : sm_H} (a : agr SRx g g1) (e : g1.1 67 45 = g.1 67 45) (e96 : ∀ t, g1.1 96 t = g.1 96 t) : grow g g1 := by
  refine ⟨?_, ?_, ?_, fun t _ => e96 t, fun c _ => a.1 70 c (by unfold SRx; omega)⟩
  · show tn _ ≤ tn _; rw [a.1 67 6 (by unfold SRx; omega)]; exact Nat.le_refl _
  · show tn _ ≤ tn _; rw [e]; exact Nat.le_refl _
  · show tn _ ≤ tn _; rw [a.1 67 18 (by unfold SRx; omega)]; exact Nat.le_refl _
theorem T_chg {h g : sm_H} (K : K1 h g) {t i : Nat} (ht : t < nX g) (hi : i < szX g t) (v : Val) (ok : (∃ k, 15 ≤ k ∧ k ≤ 17 ∧ g.1 96 t = I3 k ∧ okV g (k - 10) v.1 v.2) ∨ (i < nS g ∧ (∃ k, 20 ≤ k ∧ k < 20 + nC g ∧ g.1 96 t = I3 k) ∧ ∀ m, m < nM g → g.1 87 m = 1 → g.1 86 m = 0 → tn (g.1 91 m) = i → okV g (tn (g.1 88 m)) v.1 v.2)) :
    K1 (sm_wI (sm_wJ h (132 + 3 * t) i v.2) (133 + 3 * t) i (tag v.1)) (sm_wJ (sm_wI g 98 (100 * t + i) v.1) 99 (100 * t + i) v.2) ∧ agr3 SCx h (sm_wI (sm_wJ h (132 + 3 * t) i v.2) (133 + 3 * t) i (tag v.1)) ∧ agr SRx g (sm_wJ (sm_wI g 98 (100 * t + i) v.1) 99 (100 * t + i) v.2) ∧ grow g (sm_wJ (sm_wI g 98 (100 * t + i) v.1) 99 (100 * t + i) v.2) := by
  have wX := K.2.2.2.2.2.2.2.2.2.2.2.1
  have cX0 := K.2.2.2.2.2.2.2.2.2.2.2.2.1
  have cXh0 := K.2.2.2.2.2.2.2.2.2.2.2.2.2.1
  have wM := K.2.2.2.2.2.2.1
  have h12 := K.1.2.1
  have nS24 : nS g ≤ 24 := wM.2.1.2
  have sz := szX_le wX ht
  have x1000 := nX_1000 K
  have ac : agr3 SCx h (sm_wI (sm_wJ h (132 + 3 * t) i v.2) (133 + 3 * t) i (tag v.1)) := agr3_of (agr_wI (agr_wJ agr_rfl (by unfold SCx; omega)) (by unfold SCx; omega))
  have ar : agr SRx g (sm_wJ (sm_wI g 98 (100 * t + i) v.1) 99 (100 * t + i) v.2) := agr_wJ (agr_wI agr_rfl (by unfold SRx; omega)) (by unfold SRx; omega)
  have G : grow g (sm_wJ (sm_wI g 98 (100 * t + i) v.1) 99 (100 * t + i) v.2) := same_g ar rfl (fun _ => rfl)
  refine ⟨K1_th K ac ar G ?_ ?_ ?_, ac, ar, G⟩
  · obtain ⟨w1, w2, w3⟩ := wX
    refine ⟨w1, fun t' ht' => ?_, fun m hm e1 e2 => okV_grow K.1 G (w3 m hm e1 e2)⟩
    obtain ⟨a1, a2⟩ := w2 t' ht'
    refine ⟨a1, ?_⟩
    rcases a2 with ⟨k, k1, k2, k3, k4⟩ | ⟨k, k1, k2, k3, k4⟩
    · refine Or.inl ⟨k, k1, k2, k3, fun j hj => ?_⟩
      have hj : j < tn (g.1 97 t') := hj
      have a12 := a1.2
      refine okV_grow (g := g) K.1 G ?_
      show okV g (k - 10) (if _ = _ then v.1 else g.1 98 (100 * t' + j)) (if _ = _ then v.2 else g.2.1 99 (100 * t' + j))
      by_cases q : 100 * t' + j = 100 * t + i
      · have : t' = t := by omega
        subst this
        rw [if_pos q, if_pos q]
        rcases ok with ⟨k', z1, z2, z3, z4⟩ | ⟨z0, ⟨k', z1, z2, z3⟩, z4⟩
        · rw [k3, I3_inj (by omega) (by omega)] at z3
          subst z3; exact z4
        · rw [k3, I3_inj (by omega) (by omega)] at z3; omega
      · rw [if_neg q, if_neg q]; exact k4 j hj
    · refine Or.inr ⟨k, k1, k2, k3, fun m hm e1 e2 => ?_⟩
      have e1 : g.1 87 m = 1 := e1
      have e2 : g.1 86 m = 0 := e2
      obtain ⟨s, s1, s2⟩ : ∃ s, s < nS g ∧ g.1 91 m = I3 s := by
        rcases (wM.2.2 m hm).2.2.2.2 with z | z
        · exact z.2.2.2 e2
        · rw [z.1] at e1; exact absurd e1 (by decide)
      have es : tn (g.1 91 m) = s := by rw [s2, tnI (by omega)]
      refine okV_grow (g := g) K.1 G ?_
      show okV g (tn (g.1 88 m)) (if 100 * t' + tn (g.1 91 m) = 100 * t + i then v.1 else g.1 98 (100 * t' + tn (g.1 91 m))) (if 100 * t' + tn (g.1 91 m) = 100 * t + i then v.2 else g.2.1 99 (100 * t' + tn (g.1 91 m)))
      by_cases q : 100 * t' + tn (g.1 91 m) = 100 * t + i
      · have : t' = t := by omega
        subst this
        rw [if_pos q, if_pos q]
        rcases ok with ⟨k', z1, z2, z3, z4⟩ | ⟨z0, ⟨k', z1, z2, z3⟩, z4⟩
        · rw [k3, I3_inj (by omega) (by omega)] at z3; omega
        · exact z4 m hm e1 e2 (by omega)
      · rw [if_neg q, if_neg q]; exact k4 m hm e1 e2
  · obtain ⟨x1, x2, x3, x4, x5⟩ := cX0
    refine ⟨?_, fun m hm => ?_, fun t' j n1 n2 n3 => ?_, fun t' j n1 n2 n3 n4 => ?_, x5⟩
    · rw [wI_rd, if_neg (by omega)]; exact x1
    · rw [wI_1, wJ_rd, if_neg (by omega), wI_rd, if_neg (by omega)]; exact x2 m hm
    · have n1 : nX g ≤ t' := n1
      show (if 100 * t' + j = 100 * t + i then v.1 else g.1 98 (100 * t' + j)) = 0 ∧ (if 100 * t' + j = 100 * t + i then v.2 else g.2.1 99 (100 * t' + j)) = 0
      rw [if_neg (by omega), if_neg (by omega)]; exact x3 t' j n1 n2 n3
    · have n1 : t' < nX g := n1
      have n2 : 20 ≤ tn (g.1 96 t') := n2
      have n3 : nS g ≤ j := n3
      show (if 100 * t' + j = 100 * t + i then v.1 else g.1 98 (100 * t' + j)) = 0 ∧ (if 100 * t' + j = 100 * t + i then v.2 else g.2.1 99 (100 * t' + j)) = 0
      have q : ¬ 100 * t' + j = 100 * t + i := fun q => by
        have : t' = t := by omega
        subst this
        rcases ok with ⟨k', z1, z2, z3, z4⟩ | ⟨z0, -⟩
        · have n2 : 20 ≤ tn (g.1 96 t') := n2
          rw [z3, tnI (by omega)] at n2; omega
        · omega
      rw [if_neg q, if_neg q]; exact x4 t' j n1 n2 n3 n4
  · obtain ⟨y1, y2, y3⟩ := cXh0
    refine ⟨y1, y2, fun t' ht' => ?_⟩
    have ht' : t' < nX g := ht'
    obtain ⟨c1, c2, c3, c4, c5, c6, c7, c8, c9⟩ := y3 t' ht'
    refine ⟨c1, c2, c3, c4, c5, c6, c7, c8, fun j hj => ?_⟩
    have hj : j < szX g t' := hj
    have sz' := szX_le wX ht'
    rw [wI_1, wJ_rd, wI_rd, show (sm_wJ h (132 + 3 * t) i v.2).1 = h.1 from rfl]
    show (if _ then v.2 else h.2.1 (132 + 3 * t') j) = (if 100 * t' + j = 100 * t + i then v.2 else g.2.1 99 (100 * t' + j)) ∧ (if _ then tag v.1 else h.1 (133 + 3 * t') j) = tag (if 100 * t' + j = 100 * t + i then v.1 else g.1 98 (100 * t' + j))
    by_cases q : 100 * t' + j = 100 * t + i
    · rw [if_pos (by omega), if_pos q, if_pos (by omega), if_pos q]; exact ⟨rfl, rfl⟩
    · rw [if_neg (by omega), if_neg q, if_neg (by omega), if_neg q]; exact c9 j hj
theorem T_sta {h g : sm_H} (K : K1 h g) {m : Nat} (hm : m < nM g) (m87 : g.1 87 m = 1) (v : Val) (ok : okV g (tn (g.1 88 m)) v.1 v.2) :
    K1 (sm_wI (sm_wJ h 24 m v.2) 25 m (tag v.1)) (sm_wJ (sm_wI g 100 m v.1) 101 m v.2) ∧ agr3 SCx h (sm_wI (sm_wJ h 24 m v.2) 25 m (tag v.1)) ∧ agr SRx g (sm_wJ (sm_wI g 100 m v.1) 101 m v.2) ∧ grow g (sm_wJ (sm_wI g 100 m v.1) 101 m v.2) := by
  have wX := K.2.2.2.2.2.2.2.2.2.2.2.1
  have cX0 := K.2.2.2.2.2.2.2.2.2.2.2.2.1
  have cXh0 := K.2.2.2.2.2.2.2.2.2.2.2.2.2.1
  have ac : agr3 SCx h (sm_wI (sm_wJ h 24 m v.2) 25 m (tag v.1)) := agr3_of (agr_wI (agr_wJ agr_rfl (by unfold SCx; omega)) (by unfold SCx; omega))
  have ar : agr SRx g (sm_wJ (sm_wI g 100 m v.1) 101 m v.2) := agr_wJ (agr_wI agr_rfl (by unfold SRx; omega)) (by unfold SRx; omega)
  have G : grow g (sm_wJ (sm_wI g 100 m v.1) 101 m v.2) := same_g ar rfl (fun _ => rfl)
  refine ⟨K1_th K ac ar G ?_ ?_ ?_, ac, ar, G⟩
  · obtain ⟨w1, w2, w3⟩ := wX
    refine ⟨w1, fun t ht => ?_, fun m' hm' e1 e2 => ?_⟩
    · obtain ⟨a1, a2⟩ := w2 t ht
      refine ⟨a1, ?_⟩
      rcases a2 with ⟨k, k1, k2, k3, k4⟩ | ⟨k, k1, k2, k3, k4⟩
      · exact Or.inl ⟨k, k1, k2, k3, fun j hj => okV_grow K.1 G (k4 j hj)⟩
      · exact Or.inr ⟨k, k1, k2, k3, fun m' hm' e1 e2 => okV_grow K.1 G (k4 m' hm' e1 e2)⟩
    · refine okV_grow (g := g) K.1 G ?_
      show okV g (tn (g.1 88 m')) (if m' = m then v.1 else g.1 100 m') (if m' = m then v.2 else g.2.1 101 m')
      by_cases q : m' = m
      · rw [if_pos q, if_pos q, q]; exact ok
      · rw [if_neg q, if_neg q]; exact w3 m' hm' e1 e2
  · obtain ⟨x1, x2, x3, x4, x5⟩ := cX0
    refine ⟨x1, fun m' hm' => ?_, x3, x4, fun m' n1 n2 => ?_, x5.2⟩
    · show (if m' = m then v.2 else h.2.1 24 m') = (if m' = m then v.2 else g.2.1 101 m') ∧ (if m' = m then tag v.1 else h.1 25 m') = tag (if m' = m then v.1 else g.1 100 m')
      by_cases q : m' = m
      · rw [if_pos q, if_pos q, if_pos q, if_pos q]; exact ⟨rfl, rfl⟩
      · rw [if_neg q, if_neg q, if_neg q, if_neg q]; exact x2 m' hm'
    · have n1 : nM g ≤ m' := n1
      show (if m' = m then v.1 else g.1 100 m') = 0 ∧ (if m' = m then v.2 else g.2.1 101 m') = 0
      rw [if_neg (by omega), if_neg (by omega)]; exact x5.1 m' n1 n2
  · exact cXh_fr (hi_wI (hi_wJ hi_rfl (by decide)) (by decide)) cXh0
abbrev NwC (h h1 : sm_H) (t sz : Nat) : Prop := (agr3 (fun b j => (b = 21 ∧ j = 2) ∨ (b = 22 ∧ j = t) ∨ 131 + 3 * t ≤ b) h h1) ∧ (∀ b, b < 131 + 3 * t → h1.2.2.2.1 b = h.2.2.2.1 b ∧ h1.2.2.2.2.1 b = h.2.2.2.2.1 b) ∧ (h1.2.2.2.2.2.1 = h.2.2.2.2.2.1 + 3) ∧ (h1.2.2.2.2.2.2 = h.2.2.2.2.2.2 + (2 + sz + sz)) ∧ (h1.1 21 2 = I3 (t + 1)) ∧ (h1.2.2.1 22 t = some (131 + 3 * t)) ∧ (h1.2.2.1 (131 + 3 * t) 0 = some (132 + 3 * t)) ∧ (h1.2.2.1 (131 + 3 * t) 1 = some (133 + 3 * t)) ∧ (h1.2.2.2.1 (131 + 3 * t) = 8 ∧ h1.2.2.2.1 (132 + 3 * t) = 101 ∧ h1.2.2.2.1 (133 + 3 * t) = 100) ∧ (h1.2.2.2.2.1 (132 + 3 * t) = sz ∧ h1.2.2.2.2.1 (133 + 3 * t) = sz)
theorem NwC.a {h h1 : sm_H} {t sz : Nat} (F_ : NwC h h1 t sz) : agr3 (fun b j => (b = 21 ∧ j = 2) ∨ (b = 22 ∧ j = t) ∨ 131 + 3 * t ≤ b) h h1 := F_.1
theorem NwC.c {h h1 : sm_H} {t sz : Nat} (F_ : NwC h h1 t sz) : ∀ b, b < 131 + 3 * t → h1.2.2.2.1 b = h.2.2.2.1 b ∧ h1.2.2.2.2.1 b = h.2.2.2.2.1 b := F_.2.1
theorem NwC.n {h h1 : sm_H} {t sz : Nat} (F_ : NwC h h1 t sz) : h1.2.2.2.2.2.1 = h.2.2.2.2.2.1 + 3 := F_.2.2.1
theorem NwC.sl {h h1 : sm_H} {t sz : Nat} (F_ : NwC h h1 t sz) : h1.2.2.2.2.2.2 = h.2.2.2.2.2.2 + (2 + sz + sz) := F_.2.2.2.1
theorem NwC.e21 {h h1 : sm_H} {t sz : Nat} (F_ : NwC h h1 t sz) : h1.1 21 2 = I3 (t + 1) := F_.2.2.2.2.1
theorem NwC.e22 {h h1 : sm_H} {t sz : Nat} (F_ : NwC h h1 t sz) : h1.2.2.1 22 t = some (131 + 3 * t) := F_.2.2.2.2.2.1
theorem NwC.r0 {h h1 : sm_H} {t sz : Nat} (F_ : NwC h h1 t sz) : h1.2.2.1 (131 + 3 * t) 0 = some (132 + 3 * t) := F_.2.2.2.2.2.2.1
theorem NwC.r1 {h h1 : sm_H} {t sz : Nat} (F_ : NwC h h1 t sz) : h1.2.2.1 (131 + 3 * t) 1 = some (133 + 3 * t) := F_.2.2.2.2.2.2.2.1
theorem NwC.k {h h1 : sm_H} {t sz : Nat} (F_ : NwC h h1 t sz) : h1.2.2.2.1 (131 + 3 * t) = 8 ∧ h1.2.2.2.1 (132 + 3 * t) = 101 ∧ h1.2.2.2.1 (133 + 3 * t) = 100 := F_.2.2.2.2.2.2.2.2.1
theorem NwC.l {h h1 : sm_H} {t sz : Nat} (F_ : NwC h h1 t sz) : h1.2.2.2.2.1 (132 + 3 * t) = sz ∧ h1.2.2.2.2.1 (133 + 3 * t) = sz := F_.2.2.2.2.2.2.2.2.2
abbrev NwR (g g1 : sm_H) (t k sz : Nat) : Prop := (agr (fun b j => (b = 67 ∧ j = 45) ∨ (b = 96 ∧ j = t) ∨ (b = 97 ∧ j = t) ∨ ((b = 98 ∨ b = 99) ∧ 100 * t ≤ j ∧ j < 100 * t + 100)) g g1) ∧ (g1.1 67 45 = I3 (t + 1)) ∧ (g1.1 96 t = I3 k) ∧ (g1.1 97 t = I3 sz)
theorem NwR.a {g g1 : sm_H} {t k sz : Nat} (F_ : NwR g g1 t k sz) : agr (fun b j => (b = 67 ∧ j = 45) ∨ (b = 96 ∧ j = t) ∨ (b = 97 ∧ j = t) ∨ ((b = 98 ∨ b = 99) ∧ 100 * t ≤ j ∧ j < 100 * t + 100)) g g1 := F_.1
theorem NwR.e45 {g g1 : sm_H} {t k sz : Nat} (F_ : NwR g g1 t k sz) : g1.1 67 45 = I3 (t + 1) := F_.2.1
theorem NwR.e96 {g g1 : sm_H} {t k sz : Nat} (F_ : NwR g g1 t k sz) : g1.1 96 t = I3 k := F_.2.2.1
theorem NwR.e97 {g g1 : sm_H} {t k sz : Nat} (F_ : NwR g g1 t k sz) : g1.1 97 t = I3 sz := F_.2.2.2
theorem T_new {h g h1 g1 : sm_H} (K : K1 h g) (x1 : nX g < 1000) {k sz sz' : Nat} (k1 : 15 ≤ k) (hk : k < 20 + nC g) (hs : sz ≤ 100) (hs' : sz' ≤ 100) (C : NwC h h1 (nX g) sz) (R : NwR g g1 (nX g) k sz') (es : sz = if k < 20 then sz' else 24)
    (el : ∀ i, i < sz → h1.2.1 (132 + 3 * nX g) i = g1.2.1 99 (100 * nX g + i) ∧ h1.1 (133 + 3 * nX g) i = tag (g1.1 98 (100 * nX g + i)))
    (ok : (k ≤ 17 ∧ ∀ i, i < sz → okV g (k - 10) (g1.1 98 (100 * nX g + i)) (g1.2.1 99 (100 * nX g + i))) ∨ (20 ≤ k ∧ (∀ m, m < nM g → g.1 87 m = 1 → g.1 86 m = 0 → okV g (tn (g.1 88 m)) (g1.1 98 (100 * nX g + tn (g.1 91 m))) (g1.2.1 99 (100 * nX g + tn (g.1 91 m)))) ∧ ∀ i, nS g ≤ i → i < 24 → g1.1 98 (100 * nX g + i) = 0 ∧ g1.2.1 99 (100 * nX g + i) = 0)) :
    K1 h1 g1 ∧ agr3 SCx h h1 ∧ agr SRx g g1 ∧ grow g g1 ∧ nX g1 = nX g + 1 := by
  have wX := K.2.2.2.2.2.2.2.2.2.2.2.1
  have cX0 := K.2.2.2.2.2.2.2.2.2.2.2.2.1
  have cXh0 := K.2.2.2.2.2.2.2.2.2.2.2.2.2.1
  have wM := K.2.2.2.2.2.2.1
  have h12 := K.1.2.1
  have nS24 : nS g ≤ 24 := wM.2.1.2
  have nX1 : nX g1 = nX g + 1 := by show tn _ = _; rw [R.e45, tnI (by omega)]
  generalize ht : nX g = t at *
  have ac : agr3 SCx h h1 := agr3_mono (fun b j z => by unfold SCx; omega) C.a
  have ar : agr SRx g g1 := agr_mono (fun b j z => by unfold SRx; omega) R.a
  have c67 : ∀ j, j ≠ 45 → g1.1 67 j = g.1 67 j := fun j hj => R.a.1 67 j (by omega)
  have enC : nC g1 = nC g := by show tn _ = tn _; rw [c67 6 (by decide)]
  have enM : nM g1 = nM g := by show tn _ = tn _; rw [c67 32 (by decide)]
  have enS : nS g1 = nS g := by show tn _ = tn _; rw [c67 33 (by decide)]
  have G : grow g g1 := ⟨by omega, by omega, by show tn _ ≤ tn _; rw [c67 18 (by decide)]; exact Nat.le_refl _, fun t' ht' => R.a.1 96 t' (by omega), fun c _ => R.a.1 70 c (by omega)⟩
  have st : ∀ b j, 70 ≤ b → b ≤ 95 → g1.1 b j = g.1 b j := fun b j b1 b2 => R.a.1 b j (by omega)
  have old98 : ∀ t' j, t' < t → j < 100 → g1.1 98 (100 * t' + j) = g.1 98 (100 * t' + j) ∧ g1.2.1 99 (100 * t' + j) = g.2.1 99 (100 * t' + j) := fun t' j a b => ⟨R.a.1 98 _ (by omega), R.a.2.1 99 _ (by omega)⟩
  have ek : tn (g1.1 96 t) = k := by rw [R.e96, tnI (by omega)]
  have e97 : tn (g1.1 97 t) = sz' := by rw [R.e97, tnI (by omega)]
  have esz : szX g1 t = sz := by unfold szX; rw [ek, e97, es]
  have eszo : ∀ t', t' < t → szX g1 t' = szX g t' := fun t' ht' => by unfold szX; rw [R.a.1 96 t' (by omega), R.a.1 97 t' (by omega)]
  refine ⟨K1_th K ac ar G ?_ ?_ ?_, ac, ar, G, nX1⟩
  · obtain ⟨w1, w2, w3⟩ := wX
    refine ⟨by rw [R.e45]; exact cnt_up (by omega) (by decide), fun t' ht' => ?_, fun m hm e1 e2 => ?_⟩
    · rcases (show t' < t ∨ t' = t by omega) with lt | rfl
      · obtain ⟨a1, a2⟩ := w2 t' (by omega)
        refine ⟨by rw [R.a.1 97 t' (by omega)]; exact a1, ?_⟩
        rcases a2 with ⟨k', q1, q2, q3, q4⟩ | ⟨k', q1, q2, q3, q4⟩
        · refine Or.inl ⟨k', q1, q2, (R.a.1 96 t' (by omega)).trans q3, fun j hj => ?_⟩
          rw [R.a.1 97 t' (by omega)] at hj
          rw [(old98 t' j lt (by have := a1.2; omega)).1, (old98 t' j lt (by have := a1.2; omega)).2]
          exact okV_grow K.1 G (q4 j hj)
        · refine Or.inr ⟨k', q1, by omega, (R.a.1 96 t' (by omega)).trans q3, fun m hm e1 e2 => ?_⟩
          rw [enM] at hm
          rw [st 87 m (by decide) (by decide)] at e1
          rw [st 86 m (by decide) (by decide)] at e2
          obtain ⟨s, s1, s2⟩ : ∃ s, s < nS g ∧ g.1 91 m = I3 s := by
            rcases (wM.2.2 m hm).2.2.2.2 with z | z
            · exact z.2.2.2 e2
            · rw [z.1] at e1; exact absurd e1 (by decide)
          have es : tn (g.1 91 m) = s := by rw [s2, tnI (by omega)]
          rw [st 88 m (by decide) (by decide), st 91 m (by decide) (by decide), (old98 t' (tn (g.1 91 m)) lt (by omega)).1, (old98 t' (tn (g.1 91 m)) lt (by omega)).2]
          exact okV_grow K.1 G (q4 m hm e1 e2)
      · refine ⟨by rw [R.e97]; exact cnt_up hs' (by decide), ?_⟩
        rcases ok with ⟨z1, z2⟩ | ⟨z1, z2, z3⟩
        · refine Or.inl ⟨k, k1, z1, R.e96, fun j hj => ?_⟩
          rw [e97] at hj
          exact okV_grow K.1 G (z2 j (by rw [es, if_pos (by omega)]; exact hj))
        · refine Or.inr ⟨k, z1, by omega, R.e96, fun m hm e1 e2 => ?_⟩
          rw [enM] at hm
          rw [st 87 m (by decide) (by decide)] at e1
          rw [st 86 m (by decide) (by decide)] at e2
          rw [st 88 m (by decide) (by decide), st 91 m (by decide) (by decide)]
          exact okV_grow K.1 G (z2 m hm e1 e2)
    · rw [enM] at hm
      rw [st 87 m (by decide) (by decide)] at e1
      rw [st 86 m (by decide) (by decide)] at e2
      rw [st 88 m (by decide) (by decide), R.a.1 100 m (by omega), R.a.2.1 101 m (by omega)]
      exact okV_grow K.1 G (w3 m hm e1 e2)
  · obtain ⟨y1, y2, y3, y4, y5⟩ := cX0
    refine ⟨C.e21.trans R.e45.symm, fun m hm => ?_, fun t' j n1 n2 n3 => ?_, fun t' j n1 n2 n3 n4 => ?_, fun m n1 n2 => ?_, fun a b ab hb a1 a2 b1 b2 e => ?_⟩
    · rw [C.a.2.1 24 m (by omega), C.a.1 25 m (by omega), R.a.1 100 m (by omega), R.a.2.1 101 m (by omega)]; exact y2 m hm
    · rw [R.a.1 98 _ (by omega), R.a.2.1 99 _ (by omega)]; exact y3 t' j (by omega) n2 n3
    · rcases (show t' < t ∨ t' = t by omega) with lt | rfl
      · rw [(old98 t' j lt (by omega)).1, (old98 t' j lt (by omega)).2]
        rw [R.a.1 96 t' (by omega)] at n2
        exact y4 t' j (by omega) n2 (by omega) n4
      · rcases ok with ⟨z1, z2⟩ | ⟨z1, z2, z3⟩
        · omega
        · exact z3 j (by omega) n4
    · rw [R.a.1 100 m (by omega), R.a.2.1 101 m (by omega)]; exact y5.1 m (by omega) n2
    · rw [enM] at hb
      rw [st 87 _ (by decide) (by decide)] at a1 b1
      rw [st 86 _ (by decide) (by decide)] at a2 b2
      rw [st 91 _ (by decide) (by decide), st 91 _ (by decide) (by decide)] at e
      exact y5.2 a b ab (by omega) a1 a2 b1 b2 e
  · obtain ⟨y1, y2, y3⟩ := cXh0
    refine ⟨by rw [C.n, nX1]; omega, by rw [C.sl, nX1]; omega, fun t' ht' => ?_⟩
    rcases (show t' < t ∨ t' = t by omega) with lt | rfl
    · obtain ⟨c1, c2, c3, c4, c5, c6, c7, c8, c9⟩ := y3 t' (by omega)
      rw [(C.c (131 + 3 * t') (by omega)).1, (C.c (132 + 3 * t') (by omega)).1, (C.c (133 + 3 * t') (by omega)).1, (C.c (132 + 3 * t') (by omega)).2, (C.c (133 + 3 * t') (by omega)).2, C.a.2.2 22 t' (by omega), C.a.2.2 (131 + 3 * t') 0 (by omega), C.a.2.2 (131 + 3 * t') 1 (by omega), eszo t' lt]
      refine ⟨c1, c2, c3, c4, c5, c6, c7, c8, fun j hj => ?_⟩
      have sz1 := szX_le wX (t := t') (by omega)
      rw [C.a.2.1 (132 + 3 * t') j (by omega), C.a.1 (133 + 3 * t') j (by omega), (old98 t' j lt (by omega)).1, (old98 t' j lt (by omega)).2]
      exact c9 j hj
    · rw [esz]
      exact ⟨C.e22, C.k.1, C.r0, C.r1, C.k.2.1, C.k.2.2, C.l.1, C.l.2, el⟩
