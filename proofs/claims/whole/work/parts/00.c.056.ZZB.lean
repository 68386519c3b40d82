theorem fit0 {h g u : sm_H} {r : Int32} {l : List Int32} (e : E h g u r l) (l64 : l.length ≤ 64) {y j : Nat} (y1 : y < nH g) (hj : j ≤ 1000) : F_312 (I3 y) 0 (I3 j) u = some (b2 (fitB (hpl g y) l 0 j), u) := R_areFirst e (i := 0) (j := j) y1 (by omega) hj l64
theorem R_pass2 {h g u : sm_H} {t n V : Nat} {ps W : List Int32} (K : K1 h g) (e : E h g u (rs g t) W) (L : LPt g ps n) (P : prR g ps) (ht : t < nT g) (hW : W = vrs g ps n ++ pl g t) (hV : V = (vrs g ps n).length) (f : Bool) :
    ∃ g1, F_333_310 (I3 t) (b2 f) (I3 V) 0 u = some (bif all1 (P2 g W ps t) n && f then (0, g1) else (3, u)) ∧ (f = true → E h g g1 (rs g t) (pl g t)) := by
  have n4 := L.n4
  have ll := L.l
  have vl := vrs_len g ps n
  have w300 : nT g ≤ 300 := K.2.2.1.1.2
  have t10 : (pl g t).length ≤ 10 := by rw [pl_len]; exact (K.2.2.1.2.1 t ht).2.1.2
  have Wl : W.length ≤ 64 := by rw [hW, List.length_append]; omega
  have Pu := prR_SRd P e.a
  obtain ⟨g0, f1, E0⟩ := E_clear e.k (rs g t)
  obtain ⟨g1, f2, E1⟩ := E_type E0 (t := t) (by rw [e.nT]; exact ht) (by decide)
  rw [List.nil_append, e.pl] at E1
  refine ⟨g1, ?_, fun _ => ⟨E1.k, E1.d, agr_trans e.a E1.a, E1.r⟩⟩
  have LL := lp_all (body := F_333_310B) (P2 g W ps t) n (fun k => (I3 t, b2 f, I3 V, I3 (4 * k), u)) (3, u) (bif f then (0, g1) else (3, u)) (f := 1000000) (by omega) (fun k hk z => ?_) (fun k hk z => ?_) ?_
  · refine Eq.trans (show F_333_310 (I3 t) (b2 f) (I3 V) 0 u = lp F_333_310B 1000000 (I3 t, b2 f, I3 V, I3 (4 * 0), u) from rfl) (LL.trans ?_)
    cases all1 (P2 g W ps t) n <;> cases f <;> rfl
  rotate_left 2
  · show F_333_310B (I3 t, b2 f, I3 V, I3 (4 * n), u) = _
    unfold F_333_310B
    rw [if_pos (by rw [Pu.1, ll, I3_le (by omega) (by omega)]; omega)]
    cases f with
    | false => rw [if_pos (show b2 false = 0 by decide)]; rfl
    | true =>
      rw [if_neg (show ¬ b2 true = 0 by decide), ldI_I (by omega) (by omega), show u.1 72 t = rs g t from e.rs t]; simp only [obs]
      rw [f1]; simp only [obs]
      rw [f2]; rfl
  all_goals
    have in351 : F_333_351 (I3 t) (b2 f) (I3 V) (I3 (4 * k)) 1 u = some (bif (cFz g W ps k 1 && (cFz g W ps k 2 && cFz g W ps k 3)) then .inl (I3 t, b2 f, I3 V, I3 (4 * (k + 1)), u) else .inr (3, u)) := by
      have stp : ∀ j, j < 3 → F_333_351B (I3 t, b2 f, I3 V, I3 (4 * k), I3 (1 + j), u) = if cFz g W ps k (1 + j) = true then some (.inl (I3 t, b2 f, I3 V, I3 (4 * k), I3 (1 + (j + 1)), u)) else some (.inr (.inr (3, u))) := fun j hj => by
        unfold F_333_351B F_333_392 cFz
        have ldp : ldI u 69 24 (I3 (4 * k) + I3 (1 + j)) = some (pt ps k (1 + j)) := by
          rw [I3_add]; exact prR_ld Pu (by omega)
        rw [if_neg (by rw [I3_lit, I3_le (by decide) (by omega)]; omega), ldp]; simp only [obs]
        rw [show I3 (1 + j) + 1 = I3 (1 + (j + 1)) from I3_add _ 1]
        refine L.c hk (show 1 + j < 4 by omega) (fun e0 => ?_) (fun y y1 y2 y3 y4 => ?_)
        · rw [if_pos e0, decide_eq_true e0]; rfl
        · rw [if_neg y4, decide_eq_false y4, Bool.false_or, y3, y2, show F_312 (I3 y) 0 0 u = _ from fit0 e Wl y1 (j := 0) (by omega)]; simp only [obs]
          cases fitB (hpl g y) W 0 0 <;> rfl
      have fin : F_333_351B (I3 t, b2 f, I3 V, I3 (4 * k), I3 (1 + 3), u) = some (.inr (.inl (I3 t, b2 f, I3 V, I3 (4 * (k + 1)), u))) := by
        unfold F_333_351B
        rw [if_pos (show (4 : Int32) ≤ I3 (1 + 3) by decide), show I3 (4 * k) + 4 = I3 (4 * (k + 1)) from I3_add _ 4]; rfl
      have s0 := stp 0 (by omega)
      have s1 := stp 1 (by omega)
      have s2 := stp 2 (by omega)
      show lp F_333_351B 1000000 (I3 t, b2 f, I3 V, I3 (4 * k), I3 (1 + 0), u) = _
      cases i1 : cFz g W ps k 1 with
      | false => rw [show cFz g W ps k (1 + 0) = false from i1, if_neg (by decide)] at s0; rw [lp_e (by decide) s0]; rfl
      | true =>
        rw [show cFz g W ps k (1 + 0) = true from i1, if_pos rfl] at s0
        rw [lp_s (by decide) s0]
        cases i2 : cFz g W ps k 2 with
        | false => rw [show cFz g W ps k (1 + 1) = false from i2, if_neg (by decide)] at s1; rw [lp_e (by decide) s1]; rfl
        | true =>
          rw [show cFz g W ps k (1 + 1) = true from i2, if_pos rfl] at s1
          rw [lp_s (by decide) s1]
          cases i3 : cFz g W ps k 3 with
          | false => rw [show cFz g W ps k (1 + 2) = false from i3, if_neg (by decide)] at s2; rw [lp_e (by decide) s2]; rfl
          | true =>
            rw [show cFz g W ps k (1 + 2) = true from i3, if_pos rfl] at s2
            rw [lp_s (by decide) s2, lp_e (by decide) fin]; rfl
    have hd : F_333_310B (I3 t, b2 f, I3 V, I3 (4 * k), u) = if P2 g W ps t k = true then some (.inl (I3 t, b2 f, I3 V, I3 (4 * (k + 1)), u)) else some (.inr (3, u)) := by
      unfold F_333_310B F_333_348 P2 cE
      have ldp : ldI u 69 24 (I3 (4 * k)) = some (pt ps k 0) := prR_ld Pu (by omega)
      rw [if_neg (by rw [Pu.1, I3_le (by omega) (by omega)]; omega), ldp]; simp only [obs]
      refine L.c hk (show 0 < 4 by omega) (fun e0 => ?_) (fun y y1 y2 y3 y4 => ?_)
      · rw [if_pos e0, decide_eq_true e0, in351, Bool.true_or, Bool.true_and]
        cases (cFz g W ps k 1 && (cFz g W ps k 2 && cFz g W ps k 3)) <;> rfl
      · have sh : fitB (hpl g y) W 0 V = fitB (hpl g y) (pl g t) 0 0 := fitB_shift (by rw [hW, hV, List.drop_left' rfl]; rfl)
        rw [if_neg y4, decide_eq_false y4, Bool.false_or, y3, y2, fit0 e Wl y1 (by omega), sh]; simp only [obs]
        cases fitB (hpl g y) (pl g t) 0 0 with
        | false => rfl
        | true =>
          rw [if_neg (by decide), in351, Bool.true_and]
          cases (cFz g W ps k 1 && (cFz g W ps k 2 && cFz g W ps k 3)) <;> rfl
    show F_333_310B (I3 t, b2 f, I3 V, I3 (4 * k), u) = _
    rw [hd, z]; rfl
theorem all1_and (p q : Nat → Bool) (n : Nat) : all1 (fun i => p i && q i) n = (all1 p n && all1 q n) := by
  induction n with
  | zero => rw [all1_0, all1_0, all1_0]; rfl
  | succ n ih =>
    rw [all1_succ, all1_succ, all1_succ, ih]
    cases all1 p n <;> cases all1 q n <;> cases p n <;> cases q n <;> rfl
theorem R_pass1 {h g u : sm_H} {t n : Nat} {ps : List Int32} (K : K1 h g) (e : E h g u (rs g t) []) (L : LPt g ps n) (P : prR g ps) (ht : t < nT g) :
    ∃ r, F_333_90 (I3 t) 0 0 u = some r ∧ ((lpB g ps t n = true ∧ r.1 = 0 ∧ E h g r.2 (rs g t) (pl g t)) ∨ (lpB g ps t n = false ∧ r.1 = 3 ∧ agr SRd g r.2)) := by
  have n4 := L.n4
  have ll := L.l
  have w300 : nT g ≤ 300 := K.2.2.1.1.2
  have t10 : tM g t ≤ 10 := (K.2.2.1.2.1 t ht).2.1.2
  have LL := lp_ex (body := F_333_90B) (P := fun k s => s.1 = I3 t ∧ s.2.1 = b2 (hasK ps k) ∧ s.2.2.1 = I3 (4 * k) ∧ E h g s.2.2.2 (rs g t) (vrs g ps k) ∧ ∀ i, i < k → P1 g ps t i = true) (Q := fun r => (lpB g ps t n = true ∧ r.1 = 0 ∧ E h g r.2 (rs g t) (pl g t)) ∨ (lpB g ps t n = false ∧ r.1 = 3 ∧ agr SRd g r.2)) n (fun k s hk p1 => ?_) (fun s p1 => ?_) (I3 t, 0, 0, u) 1000000 ⟨rfl, rfl, rfl, e, fun i hi => by omega⟩ (by omega)
  · exact LL
  · obtain ⟨s1, s2, s3, s4⟩ := s
    obtain ⟨p1, p2, p3, p4, p5⟩ := p1
    have p1 : s1 = I3 t := p1
    have p2 : s2 = b2 (hasK ps k) := p2
    have p3 : s3 = I3 (4 * k) := p3
    have p4 : E h g s4 (rs g t) (vrs g ps k) := p4
    subst p1 p2 p3
    have vl := vrs_len g ps k
    have Ps := prR_SRd P p4.a
    have ld0 : ldI s4 69 24 (I3 (4 * k)) = some (pt ps k 0) := prR_ld Ps (by omega)
    have ld1 : ldI s4 69 24 (I3 (4 * k) + 1) = some (pt ps k 1) := by rw [show I3 (4 * k) + 1 = I3 (4 * k + 1) from I3_add _ 1]; exact prR_ld Ps (by omega)
    have bad : P1 g ps t k = false → lpB g ps t n = false := fun z => by
      unfold lpB
      rw [all1_and]
      have : all1 (P1 g ps t) n = false := by
        cases i : all1 (P1 g ps t) n with
        | false => rfl
        | true => rw [all1_iff.mp i k hk] at z; cases z
      rw [show all1 (fun i => P1 g ps t i) n = false from this]; rfl
    have t178 : ∀ v, E h g v (rs g t) (vrs g ps (k + 1)) → F_333_178 (I3 t) (b2 (hasK ps k)) (I3 (4 * k)) v = if (cB ps k && (cC g ps k && cD g ps t k)) = true then some (.inl (I3 t, b2 (hasK ps (k + 1)), I3 (4 * (k + 1)), v)) else some (.inr (3, v)) := fun v Ev => by
      have Pv := prR_SRd P Ev.a
      have ld2 : ldI v 69 24 (I3 (4 * k) + 2) = some (pt ps k 2) := by rw [show I3 (4 * k) + 2 = I3 (4 * k + 2) from I3_add _ 2]; exact prR_ld Pv (by omega)
      have ld3 : ldI v 69 24 (I3 (4 * k) + 3) = some (pt ps k 3) := by rw [show I3 (4 * k) + 3 = I3 (4 * k + 3) from I3_add _ 3]; exact prR_ld Pv (by omega)
      have lr : ldI v 72 300 (I3 t) = some (rs g t) := by rw [ldI_I (by omega) (by omega)]; exact congrArg some (Ev.rs t)
      have t256 : F_333_256 (I3 t) (b2 (hasK ps (k + 1))) (I3 (4 * k)) v = if cD g ps t k = true then some (.inl (I3 t, b2 (hasK ps (k + 1)), I3 (4 * (k + 1)), v)) else some (.inr (3, v)) := by
        unfold F_333_256 F_333_291 cD
        rw [ld3]; simp only [obs]
        rw [show I3 (4 * k) + 4 = I3 (4 * (k + 1)) from I3_add _ 4]
        refine L.c hk (show 3 < 4 by omega) (fun e0 => ?_) (fun y y1 y2 y3 y4 => ?_)
        · rw [if_pos e0, decide_eq_true e0]; rfl
        · rw [if_neg y4, decide_eq_false y4, Bool.false_or, y3, y2, E_result Ev y1]; simp only [obs]
          rw [lr]; simp only [obs]
          by_cases q : hrs g y = rs g t
          · rw [if_pos q, if_pos (decide_eq_true q)]
          · rw [if_neg q, if_neg (by rw [decide_eq_true_eq]; exact q)]
      have t226 : F_333_226 (I3 t) (b2 (hasK ps (k + 1))) (I3 (4 * k)) v = if (cC g ps k && cD g ps t k) = true then some (.inl (I3 t, b2 (hasK ps (k + 1)), I3 (4 * (k + 1)), v)) else some (.inr (3, v)) := by
        unfold F_333_226
        rw [ld2]; simp only [obs]
        refine L.c hk (show 2 < 4 by omega) (fun e0 => ?_) (fun y y1 y2 y3 y4 => ?_)
        · rw [if_pos e0, t256, show cC g ps k = true by unfold cC; rw [decide_eq_true e0]; rfl, Bool.true_and]
        · rw [if_neg y4, y2, E_result Ev y1]; simp only [obs]
          by_cases q : hrs g y = 1
          · rw [if_pos q, t256, show cC g ps k = true by unfold cC; rw [y3, decide_eq_true q, Bool.or_true], Bool.true_and]
          · rw [if_neg q, show cC g ps k = false by unfold cC; rw [y3, decide_eq_false q, decide_eq_false y4]; rfl]; rfl
      have t199 : F_333_199 (I3 t) (I3 (4 * k)) (b2 (hasK ps (k + 1))) v = if (cB ps k && (cC g ps k && cD g ps t k)) = true then some (.inl (I3 t, b2 (hasK ps (k + 1)), I3 (4 * (k + 1)), v)) else some (.inr (3, v)) := by
        unfold F_333_199
        rw [ld3]; simp only [obs]
        rw [ld2, t226]; simp only [obs]
        by_cases q3 : pt ps k 3 = -1
        · rw [if_pos q3, show cB ps k = true by unfold cB; rw [decide_eq_true q3]; rfl, Bool.true_and]
        · rw [if_neg q3]
          by_cases q2 : pt ps k 2 = -1
          · rw [if_pos q2, show cB ps k = false by unfold cB; rw [decide_eq_true q2, decide_eq_false q3]; rfl]; rfl
          · rw [if_neg q2, show cB ps k = true by unfold cB; rw [decide_eq_false q2]; simp, Bool.true_and]
      unfold F_333_178 F_333_194
      rw [← t199, hasK_s, ld2]; simp only [obs]
      cases hasK ps k with
      | true => rw [if_neg (by decide)]; rfl
      | false =>
        rw [if_pos (by decide)]
        by_cases q : pt ps k 2 = -1
        · rw [if_pos q, decide_eq_true q]; rfl
        · rw [if_neg q, decide_eq_false q]; rfl
    have t167 : ∃ v, E h g v (rs g t) (vrs g ps (k + 1)) ∧ F_333_167 (I3 t) (b2 (hasK ps k)) (I3 (4 * k)) (vk g ps k) s4 = F_333_178 (I3 t) (b2 (hasK ps k)) (I3 (4 * k)) v := by
      unfold F_333_167
      by_cases q : vk g ps k = 0
      · refine ⟨s4, ?_, by rw [if_pos q]⟩
        rw [vrs_s, if_pos q, List.append_nil]; exact p4
      · obtain ⟨v, v1, Ev⟩ := E_add p4 (by omega) (vk g ps k)
        refine ⟨v, ?_, by rw [if_neg q, v1]; simp only [obs]⟩
        rw [vrs_s, if_neg q]; exact Ev
    obtain ⟨v, Ev, ev⟩ := t167
    rw [t178 v Ev] at ev
    have hd : F_333_90B (I3 t, b2 (hasK ps k), I3 (4 * k), s4) = if cA g ps k = true then F_333_167 (I3 t) (b2 (hasK ps k)) (I3 (4 * k)) (vk g ps k) s4 else some (.inr (3, s4)) := by
      unfold F_333_90B
      rw [if_neg (by rw [Ps.1, I3_le (by omega) (by omega)]; omega), ld0]; simp only [obs]
      rw [ld1]; simp only [obs]
      rw [R_vk K p4 L hk]; simp only [obs]
      rw [ld0, ld1]; simp only [obs]
      unfold cA
      refine L.c hk (show 0 < 4 by omega) (fun e0 => ?_) (fun y y1 y2 y3 y4 => ?_)
      · rw [if_pos e0, decide_eq_true e0]; rfl
      · rw [if_neg y4, decide_eq_false y4, Bool.false_or, y3]
        refine L.c hk (show 1 < 4 by omega) (fun e1 => ?_) (fun w w1 w2 w3 w4 => ?_)
        · rw [if_pos e1, decide_eq_true e1]; rfl
        · rw [if_neg w4, decide_eq_false w4, Bool.false_or, w3, show F_307 (pt ps k 0) s4 = some (hrs g y, s4) by rw [y2]; exact E_result p4 y1]; simp only [obs]
          rw [ld1]; simp only [obs]
          rw [show F_307 (pt ps k 1) s4 = some (hrs g w, s4) by rw [w2]; exact E_result p4 w1]; simp only [obs]
          by_cases q : hrs g y = hrs g w
          · rw [if_pos q, if_pos (decide_eq_true q)]
          · rw [if_neg q, if_neg (by rw [decide_eq_true_eq]; exact q)]
    rw [ev] at hd
    cases ca : cA g ps k with
    | false =>
      rw [ca, if_neg (by decide)] at hd
      exact Or.inr ⟨_, hd, Or.inr ⟨bad (by unfold P1; rw [ca]; rfl), rfl, p4.a⟩⟩
    | true =>
      rw [ca, if_pos rfl] at hd
      cases cb : cB ps k && (cC g ps k && cD g ps t k) with
      | false =>
        rw [cb, if_neg (by decide)] at hd
        exact Or.inr ⟨_, hd, Or.inr ⟨bad (by unfold P1; rw [ca, cb]; rfl), rfl, Ev.a⟩⟩
      | true =>
        rw [cb, if_pos rfl] at hd
        refine Or.inl ⟨_, hd, rfl, rfl, rfl, Ev, fun i hi => ?_⟩
        rcases (show i < k ∨ i = k by omega) with z | z
        · exact p5 i z
        · rw [z]; unfold P1; rw [ca, cb]; rfl
  · obtain ⟨s1, s2, s3, s4⟩ := s
    obtain ⟨p1, p2, p3, p4, p5⟩ := p1
    have p1 : s1 = I3 t := p1
    have p2 : s2 = b2 (hasK ps n) := p2
    have p3 : s3 = I3 (4 * n) := p3
    have p4 : E h g s4 (rs g t) (vrs g ps n) := p4
    subst p1 p2 p3
    have vl := vrs_len g ps n
    have Ps := prR_SRd P p4.a
    obtain ⟨u1, v1, E1⟩ := E_type p4 ht (by omega)
    obtain ⟨g1, y1, y2⟩ := R_pass2 K E1 L P ht rfl rfl (hasK ps n)
    have all : lpB g ps t n = (all1 (P2 g (vrs g ps n ++ pl g t) ps t) n && hasK ps n) := by
      unfold lpB
      rw [all1_and, show all1 (fun i => P1 g ps t i) n = true from all1_iff.mpr p5, Bool.true_and]
    have hd : F_333_90B (I3 t, b2 (hasK ps n), I3 (4 * n), s4) = some (.inr (bif lpB g ps t n then (0, g1) else (3, u1))) := by
      unfold F_333_90B
      rw [if_pos (by rw [Ps.1, ll, I3_le (by omega) (by omega)]; omega)]; simp only [obs]
      rw [v1]; simp only [obs]
      rw [p4.d.1, y1, all]; rfl
    refine ⟨_, hd, ?_⟩
    cases l : lpB g ps t n with
    | true =>
      rw [l, eq_comm, Bool.and_eq_true] at all
      exact Or.inl ⟨rfl, rfl, y2 all.2⟩
    | false => exact Or.inr ⟨rfl, rfl, E1.a⟩
theorem mod4 : ∀ n, n < 21 → decide (I3 n - I3 n / 4 * 4 = 0) = decide (n % 4 = 0) := by decide
def okP (g : sm_H) (ps : List Int32) : Bool := all1 (fun k => inR (at0 ps k) (nH g) || (true && decide (at0 ps k = -1))) ps.length
theorem LP_of {h g : sm_H} (K : K1 h g) {ps : List Int32} (q0 : ps.length ≠ 0) (q4 : ps.length % 4 = 0) (q16 : ps.length ≤ 16) (o : okP g ps = true) : LPt g ps (ps.length / 4) := by
  have w500 : nH g ≤ 500 := K.2.2.2.2.1.1.2
  refine ⟨by omega, by omega, by omega, fun i z hi hz => ?_⟩
  have := all1_iff.mp o (4 * i + z) (by omega)
  rw [Bool.true_and, Bool.or_eq_true, decide_eq_true_eq] at this
  rcases this with e | e
  · obtain ⟨y, y1, y2⟩ := inR_x (by omega) e
    refine Or.inr ⟨y, y1, y2, ?_, ?_⟩
    · show tn (at0 ps (4 * i + z)) = y
      rw [y2, tnI (by omega)]
    · show at0 ps (4 * i + z) ≠ -1
      rw [y2]; exact I3_m1 (by omega)
  · exact Or.inl e
theorem C_lacks18 {h g : sm_H} (K : K1 h g) {a b : Int32} {c : Int64} {o p : Nat} {ps : List Int32} (S : fS h (I3 18) a b c o p ps) : F_7 h = some (b2 (!(decide (ps.length ≠ 0) && (decide (ps.length % 4 = 0) && (decide (ps.length ≤ 16) && okP g ps)))), h) := by
  have l20 := S.r.2.1
  have Z := C_rsize S.w S.r
  have H : F_8 1 h = some (b2 (!okP g ps), h) := C_lacksH K S true
  have m4 := mod4 ps.length (by omega)
  show F_7_0 h = _
  unfold F_7_0 F_7_102 F_7_107
  rw [S.f7, if_neg (by decide), if_pos (by decide), S.f11]; simp only [obs, true_or, or_true, if_true]
  rw [if_neg (not_not_intro (S.w.i h)), Z]; simp only [obs]
  by_cases q : ps.length = 0
  · rw [if_pos (by rw [q]; rfl), decide_eq_false (not_not_intro q)]; rfl
  · rw [if_neg (by rw [I3_lit, I3_inj (by omega) (by decide)]; exact q), decide_eq_true q, Bool.true_and, S.f11]; simp only [obs]
    rw [if_neg (not_not_intro (S.w.i h)), Z]; simp only [obs]
    rw [if_neg (by decide)]
    by_cases q4 : ps.length % 4 = 0
    · rw [if_pos (of_decide_eq_true (m4.trans (decide_eq_true q4))), decide_eq_true q4, Bool.true_and, S.f11]; simp only [obs]
      rw [if_neg (not_not_intro (S.w.i h)), Z]; simp only [obs]
      by_cases q16 : ps.length ≤ 16
      · rw [if_neg (by rw [I3_lit, I3_lt (by decide) (by omega)]; omega), H, decide_eq_true q16, Bool.true_and]; simp only [obs]
        cases okP g ps <;> rfl
      · rw [if_pos (by rw [I3_lit, I3_lt (by decide) (by omega)]; omega), decide_eq_false q16]; rfl
    · rw [if_neg (of_decide_eq_false (m4.trans (decide_eq_false q4))), decide_eq_false q4]; rfl
theorem mk_18 {h g : sm_H} (K : K1 h g) (a b : Int32) (c : Int64) {o p : Nat} {ps : List Int32} (S : fS h (I3 18) 0 b 0 o p ps) (op : oP o p) (P : prR g ps) : ∃ out, OC h (I3 18) 0 b 0 out ∧ OR g (I3 18) a b c out ∧ OK g 18 0 b 0 out := by
  have e7 := S.f7
  have wT := K.2.2.1
  have wH := K.2.2.2.2.1
  have l20 := S.r.2.1
  have w500 : nH g ≤ 500 := wH.1.2
  have w300 : nT g ≤ 300 := wT.1.2
  have c7 := C_lacks18 K S
  have n9 := (B9_18 e7).trans (n9_272 K S.f9)
  have m4 := mod4 ps.length (by omega)
  have R : F_336 (I3 18) a b c g = ((F_333_0 b g).bind fun q => some (q.1, q.2)) := B336_18 _ _ _
  unfold F_333_0 F_333_33 at R
  rw [R_isT wT b] at R; simp only [obs] at R
  rw [P.1] at R
  have bad7 : (decide (ps.length ≠ 0) && (decide (ps.length % 4 = 0) && (decide (ps.length ≤ 16) && okP g ps))) = false → F_336 (I3 18) a b c g = some (1, g) → ∃ out, OC h (I3 18) 0 b 0 out ∧ OR g (I3 18) a b c out ∧ OK g 18 0 b 0 out := fun z r => by
    rw [z] at c7
    exact ⟨.ref 1, tl_1 c7, ⟨g, r, agr_rfl⟩, ⟨by decide, by decide⟩⟩
  rcases inR_c b (nT g) (by omega) with ⟨t, t1, rfl, j⟩ | j
  · rw [j] at n9 R
    rw [if_neg (by decide)] at R
    by_cases q : ps.length = 0
    · rw [if_pos (by rw [q]; rfl)] at R
      exact bad7 (by rw [decide_eq_false (not_not_intro q)]; rfl) R
    · rw [if_neg (by rw [I3_lit, I3_inj (by omega) (by decide)]; exact q), if_neg (by decide)] at R
      by_cases q4 : ps.length % 4 = 0
      · rw [if_pos (of_decide_eq_true (m4.trans (decide_eq_true q4)))] at R
        by_cases q16 : ps.length ≤ 16
        · rw [if_pos (by rw [I3_lit, I3_le (by omega) (by decide)]; exact q16)] at R
          obtain ⟨g0, f1, E0⟩ := E_clear K (rs g t)
          have R37 : F_333_37 (I3 t) 0 g = bif okP g ps then F_333_90 (I3 t) 0 0 g0 else some (1, g) := by
            have L := lp_allO (body := F_333_37B) (fun k => inR (at0 ps k) (nH g) || (true && decide (at0 ps k = -1))) ps.length (fun k => (I3 t, I3 k, g)) (1, g) (F_333_90 (I3 t) 0 0 g0) (f := 1000000) (by omega) (fun k hk e => ?_) (fun k hk e => ?_) ?_
            · exact L
            · show F_333_37B (I3 t, I3 k, g) = _
              unfold F_333_37B F_333_70
              rw [if_neg (by rw [P.1, I3_le (by omega) (by omega)]; omega), prR_ld P hk]; simp only [obs]
              rw [show I3 k + 1 = I3 (k + 1) from I3_add k 1]
              by_cases q1 : at0 ps k = -1
              · rw [if_pos q1]
              · rw [if_neg q1, R_isHg wH]; simp only [obs]
                rw [decide_eq_false q1, Bool.and_false, Bool.or_false] at e
                rw [e, if_neg (by decide)]
            · show F_333_37B (I3 t, I3 k, g) = _
              unfold F_333_37B F_333_70
              rw [if_neg (by rw [P.1, I3_le (by omega) (by omega)]; omega), prR_ld P hk]; simp only [obs]
              rw [Bool.or_eq_false_iff, Bool.true_and, decide_eq_false_iff_not] at e
              rw [if_neg e.2, R_isHg wH, e.1]; simp only [obs]
              rw [if_pos (by decide)]
            · show F_333_37B (I3 t, I3 ps.length, g) = _
              unfold F_333_37B
              rw [if_pos (by rw [P.1, I3_le (by omega) (by omega)]; omega), ldI_I (by omega) (by omega)]; simp only [obs]
              rw [show F_308 (g.1 72 t) g = some g0 from f1]; simp only [obs]
          rw [R37] at R
          cases ok : okP g ps with
          | false =>
            rw [ok] at R
            exact bad7 (by rw [ok]; simp) R
          | true =>
            rw [ok, decide_eq_true q, decide_eq_true q4, decide_eq_true q16] at c7
            rw [ok, cond_true] at R
            have L := LP_of K q q4 q16 ok
            obtain ⟨h2, v1, v2, v3⟩ := C_findV K S op L
            have K2 : K1 h2 g := K1_h K (agr_mono Ssc_not (agr_mono S37_sc v2))
            have S2 := agr_fS37 S op v2
            have n11 : F_11 h = some (0, h) := by
              refine L.c L.n0 (show 0 < 4 by omega) (fun e0 => ?_) (fun y y1 y2 y3 y4 => ?_)
              · exact B11_18 e7 (v := 0) (by rw [S.f12, at1_in (by omega), show at0 ps 0 = -1 from e0]; exact C45m K)
              · exact B11_18 e7 (by rw [S.f12, at1_in (by omega), show at0 ps 0 = I3 y from y2]; exact C_mn K y1)
            have n14 : F_14 h = some (b2 (!lpB g ps t (ps.length / 4)), h2) := by
              rw [B14_18 e7, show F_22 h = F_22_0 h from rfl]
              unfold F_22_0
              rw [v1]; simp only [obs]
              rw [C_loop K2 S2 v3 L t1]; simp only [obs]
              exact z01 h2 _
            obtain ⟨r, r1, r2⟩ := R_pass1 K E0 L P t1
            rw [r1] at R
            rcases r2 with ⟨l1, l2, l3⟩ | ⟨l1, l2, l3⟩
            · rw [l1] at n14
              have t10 : (pl g t).length ≤ 10 := by rw [pl_len]; exact (wT.2.1 t t1).2.1.2
              obtain ⟨u, d1, D0⟩ := D_begin K2 S2 op
              obtain ⟨u1, d2, D1⟩ := D_type D0 op t1 (by decide)
              refine ⟨.fin (rs g t) (pl g t) ps o p, tl_6 S2.w c7 n9 n11 n14 (B26_18 S2.f7) S2.f7 S2.f8 S2.f9 S2.f10 S2.f11 ?_ D1.d D1.s.r op (agr_trans (agr_mono S37_sc v2) (Ssc_d D1.a)), ⟨r.2, ?_, l3.d, l3.r, prR_SRd P l3.a, agr_mono SRd_p l3.a⟩, ?_⟩
              · have go : ∀ v, F_45 (u.1 34 12) u = some (v, u) → F_29 h2 = some (rs g t, u1) := fun v hv => by
                  rw [B29_18 d1 D0.s.f7 hv]; unfold F_29_411
                  rw [D0.s.f9, d2]; rfl
                refine L.c L.n0 (show 0 < 4 by omega) (fun e0 => ?_) (fun y y1 y2 y3 y4 => ?_)
                · exact go 0 (by rw [D0.s.f12, at1_in (by omega), show at0 ps 0 = -1 from e0]; exact C45m D0.k)
                · exact go _ (by rw [D0.s.f12, at1_in (by omega), show at0 ps 0 = I3 y from y2]; exact C_mn D0.k y1)
              · rw [R]; show some (r.1, r.2) = _; rw [l2]
              · refine ⟨?_, kR1_rs wT t1, kL_pl wT t1, by omega⟩
                unfold lpB at l1
                rw [Bool.and_eq_true] at l1
                have hs := l1.2
                have hc : ∀ i, i < ps.length / 4 → (P1 g ps t i && P2 g (vrs g ps (ps.length / 4) ++ pl g t) ps t i) = true := all1_iff.mp l1.1
                have ex : ∃ i, i < ps.length / 4 ∧ at0 ps (4 * i + 2) ≠ -1 := by
                  refine Classical.byContradiction (fun z => ?_)
                  have : all1 (fun i => decide (pt ps i 2 = -1)) (ps.length / 4) = true := all1_iff.mpr (fun k hk => decide_eq_true (Classical.not_not.mp (fun q => z ⟨k, hk, q⟩)))
                  unfold hasK at hs
                  rw [this] at hs; cases hs
                refine (Or.inr (Or.inr (Or.inr (Or.inr (Or.inr (Or.inr (Or.inr (Or.inr (Or.inr (Or.inr (Or.inr (Or.inr (Or.inr (Or.inr (Or.inr (Or.inr (Or.inr (Or.inl ⟨rfl, t, ps.length / 4, t1, rfl, L.n0, L.n4, L.l, fun k hk => ?_, ex, fun i hi => ?_, rfl, rfl⟩))))))))))))))))))
                · rcases L.h (k / 4) (k % 4) (by omega) (by omega) with z | ⟨y, y1, y2, -⟩
                  · left; have z' : at0 ps (4 * (k / 4) + k % 4) = -1 := z; rw [show 4 * (k / 4) + k % 4 = k by omega] at z'; exact z'
                  · right; have z' : at0 ps (4 * (k / 4) + k % 4) = I3 y := y2; rw [show 4 * (k / 4) + k % 4 = k by omega] at z'; exact ⟨y, y1, z'⟩
                · have z := hc i hi
                  unfold P1 P2 cA cB cC cD cE at z
                  simp only [Bool.and_eq_true, Bool.or_eq_true, decide_eq_true_eq, Bool.not_eq_true', decide_eq_false_iff_not] at z
                  obtain ⟨⟨za, zb, zc, zd⟩, ze, zf1, zf2, zf3⟩ := z
                  have zf : ∀ w, 1 ≤ w → w < 4 → cFz g (vrs g ps (ps.length / 4) ++ pl g t) ps i w = true := fun w w1 w2 => by
                    rcases (show w = 1 ∨ w = 2 ∨ w = 3 by omega) with rfl | rfl | rfl
                    · exact zf1
                    · exact zf2
                    · exact zf3
                  refine ⟨fun n0 n1 => ?_, fun n3 => ?_, fun n2 => ?_, fun n3 => ?_, fun n0 => ?_, fun w w1 w2 nw => ?_⟩
                  · rcases za with q | q | q
                    · exact absurd q n0
                    · exact absurd q n1
                    · exact q
                  · rcases zb with q | q
                    · exact absurd q n3
                    · exact q
                  · rcases zc with q | q
                    · exact absurd q n2
                    · exact q
                  · rcases zd with q | q
                    · exact absurd q n3
                    · exact q
                  · rcases ze with q | q
                    · exact absurd q n0
                    · exact fitB_pre q
                  · have z := zf w w1 w2
                    unfold cFz at z
                    rw [Bool.or_eq_true, decide_eq_true_eq] at z
                    rcases z with q | q
                    · exact absurd q nw
                    · exact fitB_pre q
            · rw [l1] at n14
              refine ⟨.ref 3, tl_4 c7 n9 n11 n14 (agr_mono S37_sc v2), ⟨r.2, ?_, agr_mono SRd_p l3⟩, ⟨by decide, by decide⟩⟩
              rw [R]; show some (r.1, r.2) = _; rw [l2]; rfl
        · rw [if_neg (by rw [I3_lit, I3_le (by omega) (by decide)]; exact q16)] at R
          exact bad7 (by rw [decide_eq_false q16]; simp) R
      · rw [if_neg (of_decide_eq_false (m4.trans (decide_eq_false q4)))] at R
        exact bad7 (by rw [decide_eq_false q4]; simp) R
  · rw [j] at n9 R
    rw [if_pos (by decide)] at R
    cases c : (decide (ps.length ≠ 0) && (decide (ps.length % 4 = 0) && (decide (ps.length ≤ 16) && okP g ps))) with
    | false => exact bad7 c R
    | true =>
      rw [c] at c7
      exact ⟨.ref 1, tl_2 c7 n9, ⟨g, R, agr_rfl⟩, ⟨by decide, by decide⟩⟩
