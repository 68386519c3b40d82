theorem fit0 {h g u : sm_H} {r : Int32} {l : List Int32} (e : E h g u r l) (l64 : l.length ≤ 64) {y j : Nat} (y1 : y < nH g) (hj : j ≤ 1000) : F_312 (I3 y) 0 (I3 j) u = some (b2 (fitB (hpl g y) l 0 j), u) := R_areFirst e (i := 0) (j := j) y1 (by omega) hj l64
theorem R_pass2 {h g u : sm_H} {t n V : Nat} {ps W : List Int32} (K : K1 h g) (e : E h g u (rs g t) W) (L : LPt g ps n) (P : prR g ps) (ht : t < nT g) (hW : W = vrs g ps n ++ pl g t) (hV : V = (vrs g ps n).length) (f : Bool) :
    ∃ g1, F_333_310 (I3 t) (b2 f) (I3 V) 0 u = some (bif all1 (P2 g W ps t) n && f then (0, g1) else (3, u)) ∧ (f = true → E h g g1 (rs g t) (pl g t)) := by
  have n4 := L.n4
  have ll := L.l
  have vl := vrs_len g ps n
  have w300 : nT g ≤ 300 := K.2.2.1.1.2
  have t10 : (pl g t).length ≤ 10 := by rw [pl_len]; exact (K.2.2.1.2.1 t ht).2.1.2
  have Wl : W.length ≤ 64 := by rw [hW, List.length_append]; omega
  have Pu := prR_SRd P e.a
  obtain ⟨g0, f1, E0⟩ := E_clear e.k (rs g t)
  obtain ⟨g1, f2, E1⟩ := E_type E0 (t := t) (by rw [e.nT]; exact ht) (by decide)
  rw [List.nil_append, e.pl] at E1
  refine ⟨g1, ?_, fun _ => ⟨E1.k, E1.d, agr_trans e.a E1.a, E1.r⟩⟩
  have LL := lp_all (body := F_333_310B) (P2 g W ps t) n (fun k => (I3 t, b2 f, I3 V, I3 (4 * k), u)) (3, u) (bif f then (0, g1) else (3, u)) (f := 1000000) (by omega) (fun k hk z => ?_) (fun k hk z => ?_) ?_
  · refine Eq.trans (show F_333_310 (I3 t) (b2 f) (I3 V) 0 u = lp F_333_310B 1000000 (I3 t, b2 f, I3 V, I3 (4 * 0), u) from rfl) (LL.trans ?_)
    cases all1 (P2 g W ps t) n <;> cases f <;> rfl
  rotate_left 2
  · show F_333_310B (I3 t, b2 f, I3 V, I3 (4 * n), u) = _
    unfold F_333_310B
    rw [if_pos (by rw [Pu.1, ll, I3_le (by omega) (by omega)]; omega)]
    cases f with
    | false => rw [if_pos (show b2 false = 0 by decide)]; rfl
    | true =>
      rw [if_neg (show ¬ b2 true = 0 by decide), ldI_I (by omega) (by omega), show u.1 72 t = rs g t from e.rs t]; simp only [obs]
      rw [f1]; simp only [obs]
      rw [f2]; rfl
  all_goals
    have in351 : F_333_351 (I3 t) (b2 f) (I3 V) (I3 (4 * k)) 1 u = some (bif (cFz g W ps k 1 && (cFz g W ps k 2 && cFz g W ps k 3)) then .inl (I3 t, b2 f, I3 V, I3 (4 * (k + 1)), u) else .inr (3, u)) := by
      have stp : ∀ j, j < 3 → F_333_351B (I3 t, b2 f, I3 V, I3 (4 * k), I3 (1 + j), u) = if cFz g W ps k (1 + j) = true then some (.inl (I3 t, b2 f, I3 V, I3 (4 * k), I3 (1 + (j + 1)), u)) else some (.inr (.inr (3, u))) := fun j hj => by
        unfold F_333_351B F_333_392 cFz
        have ldp : ldI u 69 24 (I3 (4 * k) + I3 (1 + j)) = some (pt ps k (1 + j)) := by
          rw [I3_add]; exact prR_ld Pu (by omega)
        rw [if_neg (by rw [I3_lit, I3_le (by decide) (by omega)]; omega), ldp]; simp only [obs]
        rw [show I3 (1 + j) + 1 = I3 (1 + (j + 1)) from I3_add _ 1]
        refine L.c hk (show 1 + j < 4 by omega) (fun e0 => ?_) (fun y y1 y2 y3 y4 => ?_)
        · rw [if_pos e0, decide_eq_true e0]; rfl
        · rw [if_neg y4, decide_eq_false y4, Bool.false_or, y3, y2, show F_312 (I3 y) 0 0 u = _ from fit0 e Wl y1 (j := 0) (by omega)]; simp only [obs]
          cases fitB (hpl g y) W 0 0 <;> rfl
      have fin : F_333_351B (I3 t, b2 f, I3 V, I3 (4 * k), I3 (1 + 3), u) = some (.inr (.inl (I3 t, b2 f, I3 V, I3 (4 * (k + 1)), u))) := by
        unfold F_333_351B
        rw [if_pos (show (4 : Int32) ≤ I3 (1 + 3) by decide), show I3 (4 * k) + 4 = I3 (4 * (k + 1)) from I3_add _ 4]; rfl
      have s0 := stp 0 (by omega)
      have s1 := stp 1 (by omega)
      have s2 := stp 2 (by omega)
      show lp F_333_351B 1000000 (I3 t, b2 f, I3 V, I3 (4 * k), I3 (1 + 0), u) = _
      cases i1 : cFz g W ps k 1 with
      | false => rw [show cFz g W ps k (1 + 0) = false from i1, if_neg (by decide)] at s0; rw [lp_e (by decide) s0]; rfl
      | true =>
        rw [show cFz g W ps k (1 + 0) = true from i1, if_pos rfl] at s0
        rw [lp_s (by decide) s0]
        cases i2 : cFz g W ps k 2 with
        | false => rw [show cFz g W ps k (1 + 1) = false from i2, if_neg (by decide)] at s1; rw [lp_e (by decide) s1]; rfl
        | true =>
          rw [show cFz g W ps k (1 + 1) = true from i2, if_pos rfl] at s1
          rw [lp_s (by decide) s1]
          cases i3 : cFz g W ps k 3 with
          | false => rw [show cFz g W ps k (1 + 2) = false from i3, if_neg (by decide)] at s2; rw [lp_e (by decide) s2]; rfl
          | true =>
            rw [show cFz g W ps k (1 + 2) = true from i3, if_pos rfl] at s2
            rw [lp_s (by decide) s2, lp_e (by decide) fin]; rfl
    have hd : F_333_310B (I3 t, b2 f, I3 V, I3 (4 * k), u) = if P2 g W ps t k = true then some (.inl (I3 t, b2 f, I3 V, I3 (4 * (k + 1)), u)) else some (.inr (3, u)) := by
      unfold F_333_310B F_333_348 P2 cE
      have ldp : ldI u 69 24 (I3 (4 * k)) = some (pt ps k 0) := prR_ld Pu (by omega)
      rw [if_neg (by rw [Pu.1, I3_le (by omega) (by omega)]; omega), ldp]; simp only [obs]
      refine L.c hk (show 0 < 4 by omega) (fun e0 => ?_) (fun y y1 y2 y3 y4 => ?_)
      · rw [if_pos e0, decide_eq_true e0, in351, Bool.true_or, Bool.true_and]
        cases (cFz g W ps k 1 && (cFz g W ps k 2 && cFz g W ps k 3)) <;> rfl
      · have sh : fitB (hpl g y) W 0 V = fitB (hpl g y) (pl g t) 0 0 := fitB_shift (by rw [hW, hV, List.drop_left' rfl]; rfl)
        rw [if_neg y4, decide_eq_false y4, Bool.false_or, y3, y2, fit0 e Wl y1 (by omega), sh]; simp only [obs]
        cases fitB (hpl g y) (pl g t) 0 0 with
        | false => rfl
        | true =>
          rw [if_neg (by decide), in351, Bool.true_and]
          cases (cFz g W ps k 1 && (cFz g W ps k 2 && cFz g W ps k 3)) <;> rfl
    show F_333_310B (I3 t, b2 f, I3 V, I3 (4 * k), u) = _
    rw [hd, z]; rfl
theorem all1_and (p q : Nat → Bool) (n : Nat) : all1 (fun i => p i && q i) n = (all1 p n && all1 q n) := by
  induction n with
  | zero => rw [all1_0, all1_0, all1_0]; rfl
  | succ n ih =>
    rw [all1_succ, all1_succ, all1_succ, ih]
    cases all1 p n <;> cases all1 q n <;> cases p n <;> cases q n <;> rfl
theorem R_pass1 {h g u : sm_H} {t n : Nat} {ps : List Int32} (K : K1 h g) (e : E h g u (rs g t) []) (L : LPt g ps n) (P : prR g ps) (ht : t < nT g) :
    ∃ r, F_333_90 (I3 t) 0 0 u = some r ∧ ((lpB g ps t n = true ∧ r.1 = 0 ∧ E h g r.2 (rs g t) (pl g t)) ∨ (lpB g ps t n = false ∧ r.1 = 3 ∧ agr SRd g r.2)) := by
  have n4 := L.n4
  have ll := L.l
  have w300 : nT g ≤ 300 := K.2.2.1.1.2
  have t10 : tM g t ≤ 10 := (K.2.2.1.2.1 t ht).2.1.2
  have LL := lp_ex (body := F_333_90B) (P := fun k s => s.1 = I3 t ∧ s.2.1 = b2 (hasK ps k) ∧ s.2.2.1 = I3 (4 * k) ∧ E h g s.2.2.2 (rs g t) (vrs g ps k) ∧ ∀ i, i < k → P1 g ps t i = true) (Q := fun r => (lpB g ps t n = true ∧ r.1 = 0 ∧ E h g r.2 (rs g t) (pl g t)) ∨ (lpB g ps t n = false ∧ r.1 = 3 ∧ agr SRd g r.2)) n (fun k s hk p1 => ?_) (fun s p1 => ?_) (I3 t, 0, 0, u) 1000000 ⟨rfl, rfl, rfl, e, fun i hi => by omega⟩ (by omega)
  · exact LL
  · obtain ⟨s1, s2, s3, s4⟩ := s
    obtain ⟨p1, p2, p3, p4, p5⟩ := p1
    have p1 : s1 = I3 t := p1
    have p2 : s2 = b2 (hasK ps k) := p2
    have p3 : s3 = I3 (4 * k) := p3
    have p4 : E h g s4 (rs g t) (vrs g ps k) := p4
    subst p1 p2 p3
    have vl := vrs_len g ps k
    have Ps := prR_SRd P p4.a
    have ld0 : ldI s4 69 24 (I3 (4 * k)) = some (pt ps k 0) := prR_ld Ps (by omega)
    have ld1 : ldI s4 69 24 (I3 (4 * k) + 1) = some (pt ps k 1) := by rw [show I3 (4 * k) + 1 = I3 (4 * k + 1) from I3_add _ 1]; exact prR_ld Ps (by omega)
    have bad : P1 g ps t k = false → lpB g ps t n = false := fun z => by
      unfold lpB
      rw [all1_and]
      have : all1 (P1 g ps t) n = false := by
        cases i : all1 (P1 g ps t) n with
        | false => rfl
        | true => rw [all1_iff.mp i k hk] at z; cases z
      rw [show all1 (fun i => P1 g ps t i) n = false from this]; rfl
    have t178 : ∀ v, E h g v (rs g t) (vrs g ps (k + 1)) → F_333_178 (I3 t) (b2 (hasK ps k)) (I3 (4 * k)) v = if (cB ps k && (cC g ps k && cD g ps t k)) = true then some (.inl (I3 t, b2 (hasK ps (k + 1)), I3 (4 * (k + 1)), v)) else some (.inr (3, v)) := fun v Ev => by
      have Pv := prR_SRd P Ev.a
      have ld2 : ldI v 69 24 (I3 (4 * k) + 2) = some (pt ps k 2) := by rw [show I3 (4 * k) + 2 = I3 (4 * k + 2) from I3_add _ 2]; exact prR_ld Pv (by omega)
      have ld3 : ldI v 69 24 (I3 (4 * k) + 3) = some (pt ps k 3) := by rw [show I3 (4 * k) + 3 = I3 (4 * k + 3) from I3_add _ 3]; exact prR_ld Pv (by omega)
      have lr : ldI v 72 300 (I3 t) = some (rs g t) := by rw [ldI_I (by omega) (by omega)]; exact congrArg some (Ev.rs t)
      have t256 : F_333_256 (I3 t) (b2 (hasK ps (k + 1))) (I3 (4 * k)) v = if cD g ps t k = true then some (.inl (I3 t, b2 (hasK ps (k + 1)), I3 (4 * (k + 1)), v)) else some (.inr (3, v)) := by
        unfold F_333_256 F_333_291 cD
        rw [ld3]; simp only [obs]
        rw [show I3 (4 * k) + 4 = I3 (4 * (k + 1)) from I3_add _ 4]
        refine L.c hk (show 3 < 4 by omega) (fun e0 => ?_) (fun y y1 y2 y3 y4 => ?_)
        · rw [if_pos e0, decide_eq_true e0]; rfl
        · rw [if_neg y4, decide_eq_false y4, Bool.false_or, y3, y2, E_result Ev y1]; simp only [obs]
          rw [lr]; simp only [obs]
          by_cases q : hrs g y = rs g t
          · rw [if_pos q, if_pos (decide_eq_true q)]
          · rw [if_neg q, if_neg (by rw [decide_eq_true_eq]; exact q)]
      have t226 : F_333_226 (I3 t) (b2 (hasK ps (k + 1))) (I3 (4 * k)) v = if (cC g ps k && cD g ps t k) = true then some (.inl (I3 t, b2 (hasK ps (k + 1)), I3 (4 * (k + 1)), v)) else some (.inr (3, v)) := by
        unfold F_333_226
        rw [ld2]; simp only [obs]
        refine L.c hk (show 2 < 4 by omega) (fun e0 => ?_) (fun y y1 y2 y3 y4 => ?_)
        · rw [if_pos e0, t256, show cC g ps k = true by unfold cC; rw [decide_eq_true e0]; rfl, Bool.true_and]
        · rw [if_neg y4, y2, E_result Ev y1]; simp only [obs]
          by_cases q : hrs g y = 1
          · rw [if_pos q, t256, show cC g ps k = true by unfold cC; rw [y3, decide_eq_true q, Bool.or_true], Bool.true_and]
          · rw [if_neg q, show cC g ps k = false by unfold cC; rw [y3, decide_eq_false q, decide_eq_false y4]; rfl]; rfl
      have t199 : F_333_199 (I3 t) (I3 (4 * k)) (b2 (hasK ps (k + 1))) v = if (cB ps k && (cC g ps k && cD g ps t k)) = true then some (.inl (I3 t, b2 (hasK ps (k + 1)), I3 (4 * (k + 1)), v)) else some (.inr (3, v)) := by
        unfold F_333_199
        rw [ld3]; simp only [obs]
        rw [ld2, t226]; simp only [obs]
        by_cases q3 : pt ps k 3 = -1
        · rw [if_pos q3, show cB ps k = true by unfold cB; rw [decide_eq_true q3]; rfl, Bool.true_and]
        · rw [if_neg q3]
          by_cases q2 : pt ps k 2 = -1
          · rw [if_pos q2, show cB ps k = false by unfold cB; rw [decide_eq_true q2, decide_eq_false q3]; rfl]; rfl
          · rw [if_neg q2, show cB ps k = true by unfold cB; rw [decide_eq_false q2]; simp, Bool.true_and]
      unfold F_333_178 F_333_194
      rw [← t199, hasK_s, ld2]; simp only [obs]
      cases hasK ps k with
      | true => rw [if_neg (by decide)]; rfl
      | false =>
        rw [if_pos (by decide)]
        by_cases q : pt ps k 2 = -1
        · rw [if_pos q, decide_eq_true q]; rfl
        · rw [if_neg q, decide_eq_false q]; rfl
    have t167 : ∃ v, E h g v (rs g t) (vrs g ps (k + 1)) ∧ F_333_167 (I3 t) (b2 (hasK ps k)) (I3 (4 * k)) (vk g ps k) s4 = F_333_178 (I3 t) (b2 (hasK ps k)) (I3 (4 * k)) v := by
      unfold F_333_167
      by_cases q : vk g ps k = 0
      · refine ⟨s4, ?_, by rw [if_pos q]⟩
        rw [vrs_s, if_pos q, List.append_nil]; exact p4
      · obtain ⟨v, v1, Ev⟩ := E_add p4 (by omega) (vk g ps k)
        refine ⟨v, ?_, by rw [if_neg q, v1]; simp only [obs]⟩
        rw [vrs_s, if_neg q]; exact Ev
    obtain ⟨v, Ev, ev⟩ := t167
    rw [t178 v Ev] at ev
    have hd : F_333_90B (I3 t, b2 (hasK ps k), I3 (4 * k), s4) = if cA g ps k = true then F_333_167 (I3 t) (b2 (hasK ps k)) (I3 (4 * k)) (vk g ps k) s4 else some (.inr (3, s4)) := by
      unfold F_333_90B
      rw [if_neg (by rw [Ps.1, I3_le (by omega) (by omega)]; omega), ld0]; simp only [obs]
      rw [ld1]; simp only [obs]
      rw [R_vk K p4 L hk]; simp only [obs]
      rw [ld0, ld1]; simp only [obs]
      unfold cA
      refine L.c hk (show 0 < 4 by omega) (fun e0 => ?_) (fun y y1 y2 y3 y4 => ?_)
      · rw [if_pos e0, decide_eq_true e0]; rfl
      · rw [if_neg y4, decide_eq_false y4, Bool.false_or, y3]
        refine L.c hk (show 1 < 4 by omega) (fun e1 => ?_) (fun w w1 w2 w3 w4 => ?_)
        · rw [if_pos e1, decide_eq_true e1]; rfl
        · rw [if_neg w4, decide_eq_false w4, Bool.false_or, w3, show F_307 (pt ps k 0) s4 = some (hrs g y, s4) by rw [y2]; exact E_result p4 y1]; simp only [obs]
          rw [ld1]; simp only [obs]
          rw [show F_307 (pt ps k 1) s4 = some (hrs g w, s4) by rw [w2]; exact E_result p4 w1]; simp only [obs]
          by_cases q : hrs g y = hrs g w
          · rw [if_pos q, if_pos (decide_eq_true q)]
          · rw [if_neg q, if_neg (by rw [decide_eq_true_eq]; exact q)]
    rw [ev] at hd
    cases ca : cA g ps k with
    | false =>
      rw [ca, if_neg (by decide)] at hd
      exact Or.inr ⟨_, hd, Or.inr ⟨bad (by unfold P1; rw [ca]; rfl), rfl, p4.a⟩⟩
    | true =>
      rw [ca, if_pos rfl] at hd
      cases cb : cB ps k && (cC g ps k && cD g ps t k) with
      | false =>
        rw [cb, if_neg (by decide)] at hd
        exact Or.inr ⟨_, hd, Or.inr ⟨bad (by unfold P1; rw [ca, cb]; rfl), rfl, Ev.a⟩⟩
      | true =>
        rw [cb, if_pos rfl] at hd
        refine Or.inl ⟨_, hd, rfl, rfl, rfl, Ev, fun i hi => ?_⟩
        rcases (show i < k ∨ i = k by omega) with z | z
        · exact p5 i z
        · rw [z]; unfold P1; rw [ca, cb]; rfl
  · obtain ⟨s1, s2, s3, s4⟩ := s
    obtain ⟨p1, p2, p3, p4, p5⟩ := p1
    have p1 : s1 = I3 t := p1
    have p2 : s2 = b2 (hasK ps n) := p2
    have p3 : s3 = I3 (4 * n) := p3
    have p4 : E h g s4 (rs g t) (vrs g ps n) := p4
    subst p1 p2 p3
    have vl := vrs_len g ps n
    have Ps := prR_SRd P p4.a
    obtain ⟨u1, v1, E1⟩ := E_type p4 ht (by omega)
    obtain ⟨g1, y1, y2⟩ := R_pass2 K E1 L P ht rfl rfl (hasK ps n)
    have all : lpB g ps t n = (all1 (P2 g (vrs g ps n ++ pl g t) ps t) n && hasK ps n) := by
      unfold lpB
      rw [all1_and, show all1 (fun i => P1 g ps t i) n = true from all1_iff.mpr p5, Bool.true_and]
    have hd : F_333_90B (I3 t, b2 (hasK ps n), I3 (4 * n), s4) = some (.inr (bif lpB g ps t n then (0, g1) else (3, u1))) := by
      unfold F_333_90B
      rw [if_pos (by rw [Ps.1, ll, I3_le (by omega) (by omega)]; omega)]; simp only [obs]
      rw [v1]; simp only [obs]
      rw [p4.d.1, y1, all]; rfl
    refine ⟨_, hd, ?_⟩
    cases l : lpB g ps t n with
    | true =>
      rw [l, eq_comm, Bool.and_eq_true] at all
      exact Or.inl ⟨rfl, rfl, y2 all.2⟩
    | false => exact Or.inr ⟨rfl, rfl, E1.a⟩
theorem mod4 : ∀ n, n < 21 → decide (I3 n - I3 n / 4 * 4 = 0) = decide (n % 4 = 0) := by decide
def okP (g : sm_H) (ps : List Int32) : Bool := all1 (fun k => inR (at0 ps k) (nH g) || (true && decide (at0 ps k = -1))) ps.length
theorem LP_of {h g : sm_H} (K : K1 h g) {ps : List Int32} (q0 : ps.length ≠ 0) (q4 : ps.length % 4 = 0) (q16 : ps.length ≤ 16) (o : okP g ps = true) : LPt g ps (ps.length / 4) := by
  have w500 : nH g ≤ 500 := K.2.2.2.2.1.1.2
  refine ⟨by omega, by omega, by omega, fun i z hi hz => ?_⟩
  have := all1_iff.mp o (4 * i + z) (by omega)
  rw [Bool.true_and, Bool.or_eq_true, decide_eq_true_eq] at this
  rcases this with e | e
  · obtain ⟨y, y1, y2⟩ := inR_x (by omega) e
    refine Or.inr ⟨y, y1, y2, ?_, ?_⟩
    · show tn (at0 ps (4 * i + z)) = y
      rw [y2, tnI (by omega)]
    · show at0 ps (4 * i + z) ≠ -1
      rw [y2]; exact I3_m1 (by omega)
  · exact Or.inl e
theorem C_lacks18 {h g : sm_H} (K : K1 h g) {a b : Int32} {c : Int64} {o p : Nat} {ps : List Int32} (S : fS h (I3 18) a b c o p ps) : F_7 h = some (b2 (!(decide (ps.length ≠ 0) && (decide (ps.length % 4 = 0) && (decide (ps.length ≤ 16) && okP g ps)))), h) := by
  have l20 := S.r.2.1
  have Z := C_rsize S.w S.r
  have H : F_8 1 h = some (b2 (!okP g ps), h) := C_lacksH K S true
  have m4 := mod4 ps.length (by omega)
  show F_7_0 h = _
  unfold F_7_0 F_7_102 F_7_107
  rw [S.f7, if_neg (by decide), if_pos (by decide), S.f11]; simp only [obs, true_or, or_true, if_true]
  rw [if_neg (not_not_intro (S.w.i h)), Z]; simp only [obs]
  by_cases q : ps.length = 0
  · rw [if_pos (by rw [q]; rfl), decide_eq_false (not_not_intro q)]; rfl
  · rw [if_neg (by rw [I3_lit, I3_inj (by omega) (by decide)]; exact q), decide_eq_true q, Bool.true_and, S.f11]; simp only [obs]
    rw [if_neg (not_not_intro (S.w.i h)), Z]; simp only [obs]
    rw [if_neg (by decide)]
    by_cases q4 : ps.length % 4 = 0
    · rw [if_pos (of_decide_eq_true (m4.trans (decide_eq_true q4))), decide_eq_true q4, Bool.true_and, S.f11]; simp only [obs]
      rw [if_neg (not_not_intro (S.w.i h)), Z]; simp only [obs]
      by_cases q16 : ps.length ≤ 16
      · rw [if_neg (by rw [I3_lit, I3_lt (by decide) (by omega)]; omega), H, decide_eq_true q16, Bool.true_and]; simp only [obs]
        cases okP g ps <;> rfl
      · rw [if_pos (by rw [I3_lit, I3_lt (by decide) (by omega)]; omega), decide_eq_false q16]; rfl
    · rw [if_neg (of_decide_eq_false (m4.trans (decide_eq_false q4))), decide_eq_false q4]; rfl
theorem mk_18 {h g : sm_H} (K : K1 h g) (a b : Int32) (c : Int64) {o p : Nat} {ps : List Int32} (S : fS h (I3 18) 0 b 0 o p ps) (op : oP o p) (P : prR g ps) : ∃ out, OC h (I3 18) 0 b 0 out ∧ OR g (I3 18) a b c out ∧ OK g 18 0 b 0 out := by
  have e7 := S.f7
  have wT := K.2.2.1
  have wH := K.2.2.2.2.1
  have l20 := S.r.2.1
  have w500 : nH g ≤ 500 := wH.1.2
  have w300 : nT g ≤ 300 := wT.1.2
  have c7 := C_lacks18 K S
  have n9 := (B9_18 e7).trans (n9_272 K S.f9)
  have m4 := mod4 ps.length (by omega)
  have R : F_336 (I3 18) a b c g = ((F_333_0 b g).bind fun q => some (q.1, q.2)) := B336_18 _ _ _
  unfold F_333_0 F_333_33 at R
  rw [R_isT wT b] at R; simp only [obs] at R
  rw [P.1] at R
  have bad7 : (decide (ps.length ≠ 0) && (decide (ps.length % 4 = 0) && (decide (ps.length ≤ 16) && okP g ps))) = false → F_336 (I3 18) a b c g = some (1, g) → ∃ out, OC h (I3 18) 0 b 0 out ∧ OR g (I3 18) a b c out ∧ OK g 18 0 b 0 out := fun z r => by
    rw [z] at c7
    exact ⟨.ref 1, tl_1 c7, ⟨g, r, agr_rfl⟩, ⟨by decide, by decide⟩⟩
  rcases inR_c b (nT g) (by omega) with ⟨t, t1, rfl, j⟩ | j
  · rw [j] at n9 R
    rw [if_neg (by decide)] at R
    by_cases q : ps.length = 0
    · rw [if_pos (by rw [q]; rfl)] at R
      exact bad7 (by rw [decide_eq_false (not_not_intro q)]; rfl) R
    · rw [if_neg (by rw [I3_lit, I3_inj (by omega) (by decide)]; exact q), if_neg (by decide)] at R
      by_cases q4 : ps.length % 4 = 0
      · rw [if_pos (of_decide_eq_true (m4.trans (decide_eq_true q4)))] at R
        by_cases q16 : ps.length ≤ 16
        · rw [if_pos (by rw [I3_lit, I3_le (by omega) (by decide)]; exact q16)] at R
          obtain ⟨g0, f1, E0⟩ := E_clear K (rs g t)
          have R37 : F_333_37 (I3 t) 0 g = bif okP g ps then F_333_90 (I3 t) 0 0 g0 else some (1, g) := by
            have L := lp_allO (body := F_333_37B) (fun k => inR (at0 ps k) (nH g) || (true && decide (at0 ps k = -1))) ps.length (fun k => (I3 t, I3 k, g)) (1, g) (F_333_90 (I3 t) 0 0 g0) (f := 1000000) (by omega) (fun k hk e => ?_) (fun k hk e => ?_) ?_
            · exact L
            · show F_333_37B (I3 t, I3 k, g) = _
              unfold F_333_37B F_333_70
              rw [if_neg (by rw [P.1, I3_le (by omega) (by omega)]; omega), prR_ld P hk]; simp only [obs]
              rw [show I3 k + 1 = I3 (k + 1) from I3_add k 1]
              by_cases q1 : at0 ps k = -1
              · rw [if_pos q1]
              · rw [if_neg q1, R_isHg wH]; simp only [obs]
                rw [decide_eq_false q1, Bool.and_false, Bool.or_false] at e
                rw [e, if_neg (by decide)]
            · show F_333_37B (I3 t, I3 k, g) = _
              unfold F_333_37B F_333_70
              rw [if_neg (by rw [P.1, I3_le (by omega) (by omega)]; omega), prR_ld P hk]; simp only [obs]
              rw [Bool.or_eq_false_iff, Bool.true_and, decide_eq_false_iff_not] at e
              rw [if_neg e.2, R_isHg wH, e.1]; simp only [obs]
              rw [if_pos (by decide)]
            · show F_333_37B (I3 t, I3 ps.length, g) = _
              unfold F_333_37B
              rw [if_pos (by rw [P.1, I3_le (by omega) (by omega)]; omega), ldI_I (by omega) (by omega)]; simp only [obs]
              rw [show F_308 (g.1 72 t) g = some g0 from f1]; simp only [obs]
          rw [R37] at R
          cases ok : okP g ps with
          | false =>
            rw [ok] at R
            exact bad7 (by rw [ok]; simp) R
          | true =>
            rw [ok, decide_eq_true q, decide_eq_true q4, decide_eq_true q16] at c7
            rw [ok, cond_true] at R
            have L := LP_of K q q4 q16 ok
            obtain ⟨h2, v1, v2, v3⟩ := C_findV K S op L
            have K2 : K1 h2 g := K1_h K (agr_mono Ssc_not (agr_mono S37_sc v2))
            have S2 := agr_fS37 S op v2
            have n11 : F_11 h = some (0, h) := by
              refine L.c L.n0 (show 0 < 4 by omega) (fun e0 => ?_) (fun y y1 y2 y3 y4 => ?_)
              · exact B11_18 e7 (v := 0) (by rw [S.f12, at1_in (by omega), show at0 ps 0 = -1 from e0]; exact C45m K)
              · exact B11_18 e7 (by rw [S.f12, at1_in (by omega), show at0 ps 0 = I3 y from y2]; exact C_mn K y1)
            have n14 : F_14 h = some (b2 (!lpB g ps t (ps.length / 4)), h2) := by
              rw [B14_18 e7, show F_22 h = F_22_0 h from rfl]
              unfold F_22_0
              rw [v1]; simp only [obs]
              rw [C_loop K2 S2 v3 L t1]; simp only [obs]
              exact z01 h2 _
            obtain ⟨r, r1, r2⟩ := R_pass1 K E0 L P t1
            rw [r1] at R
            rcases r2 with ⟨l1, l2, l3⟩ | ⟨l1, l2, l3⟩
            · rw [l1] at n14
              have t10 : (pl g t).length ≤ 10 := by rw [pl_len]; exact (wT.2.1 t t1).2.1.2
              obtain ⟨u, d1, D0⟩ := D_begin K2 S2 op
              obtain ⟨u1, d2, D1⟩ := D_type D0 op t1 (by decide)
              refine ⟨.fin (rs g t) (pl g t) ps o p, tl_6 S2.w c7 n9 n11 n14 (B26_18 S2.f7) S2.f7 S2.f8 S2.f9 S2.f10 S2.f11 ?_ D1.d D1.s.r op (agr_trans (agr_mono S37_sc v2) (Ssc_d D1.a)), ⟨r.2, ?_, l3.d, l3.r, prR_SRd P l3.a, agr_mono SRd_p l3.a⟩, ?_⟩
              · have go : ∀ v, F_45 (u.1 34 12) u = some (v, u) → F_29 h2 = some (rs g t, u1) := fun v hv => by
                  rw [B29_18 d1 D0.s.f7 hv]; unfold F_29_411
                  rw [D0.s.f9, d2]; rfl
                refine L.c L.n0 (show 0 < 4 by omega) (fun e0 => ?_) (fun y y1 y2 y3 y4 => ?_)
                · exact go 0 (by rw [D0.s.f12, at1_in (by omega), show at0 ps 0 = -1 from e0]; exact C45m D0.k)
                · exact go _ (by rw [D0.s.f12, at1_in (by omega), show at0 ps 0 = I3 y from y2]; exact C_mn D0.k y1)
              · rw [R]; show some (r.1, r.2) = _; rw [l2]
              · refine ⟨?_, kR1_rs wT t1, kL_pl wT t1, by omega⟩
                unfold lpB at l1
                rw [Bool.and_eq_true] at l1
                have hs := l1.2
                have hc : ∀ i, i < ps.length / 4 → (P1 g ps t i && P2 g (vrs g ps (ps.length / 4) ++ pl g t) ps t i) = true := all1_iff.mp l1.1
                have ex : ∃ i, i < ps.length / 4 ∧ at0 ps (4 * i + 2) ≠ -1 := by
                  refine Classical.byContradiction (fun z => ?_)
                  have : all1 (fun i => decide (pt ps i 2 = -1)) (ps.length / 4) = true := all1_iff.mpr (fun k hk => decide_eq_true (Classical.not_not.mp (fun q => z ⟨k, hk, q⟩)))
                  unfold hasK at hs
                  rw [this] at hs; cases hs
                refine (Or.inr (Or.inr (Or.inr (Or.inr (Or.inr (Or.inr (Or.inr (Or.inr (Or.inr (Or.inr (Or.inr (Or.inr (Or.inr (Or.inr (Or.inr (Or.inr (Or.inr (Or.inl ⟨rfl, t, ps.length / 4, t1, rfl, L.n0, L.n4, L.l, fun k hk => ?_, ex, fun i hi => ?_, rfl, rfl⟩))))))))))))))))))
                · rcases L.h (k / 4) (k % 4) (by omega) (by omega) with z | ⟨y, y1, y2, -⟩
                  · left; have z' : at0 ps (4 * (k / 4) + k % 4) = -1 := z; rw [show 4 * (k / 4) + k % 4 = k by omega] at z'; exact z'
                  · right; have z' : at0 ps (4 * (k / 4) + k % 4) = I3 y := y2; rw [show 4 * (k / 4) + k % 4 = k by omega] at z'; exact ⟨y, y1, z'⟩
                · have z := hc i hi
                  unfold P1 P2 cA cB cC cD cE at z
                  simp only [Bool.and_eq_true, Bool.or_eq_true, decide_eq_true_eq, Bool.not_eq_true', decide_eq_false_iff_not] at z
                  obtain ⟨⟨za, zb, zc, zd⟩, ze, zf1, zf2, zf3⟩ := z
                  have zf : ∀ w, 1 ≤ w → w < 4 → cFz g (vrs g ps (ps.length / 4) ++ pl g t) ps i w = true := fun w w1 w2 => by
                    rcases (show w = 1 ∨ w = 2 ∨ w = 3 by omega) with rfl | rfl | rfl
                    · exact zf1
                    · exact zf2
                    · exact zf3
                  refine ⟨fun n0 n1 => ?_, fun n3 => ?_, fun n2 => ?_, fun n3 => ?_, fun n0 => ?_, fun w w1 w2 nw => ?_⟩
                  · rcases za with q | q | q
                    · exact absurd q n0
                    · exact absurd q n1
                    · exact q
                  · rcases zb with q | q
                    · exact absurd q n3
                    · exact q
                  · rcases zc with q | q
                    · exact absurd q n2
                    · exact q
                  · rcases zd with q | q
                    · exact absurd q n3
                    · exact q
                  · rcases ze with q | q
                    · exact absurd q n0
                    · exact fitB_pre q
                  · have z := zf w w1 w2
                    unfold cFz at z
                    rw [Bool.or_eq_true, decide_eq_true_eq] at z
                    rcases z with q | q
                    · exact absurd q nw
                    · exact fitB_pre q
            · rw [l1] at n14
              refine ⟨.ref 3, tl_4 c7 n9 n11 n14 (agr_mono S37_sc v2), ⟨r.2, ?_, agr_mono SRd_p l3⟩, ⟨by decide, by decide⟩⟩
              rw [R]; show some (r.1, r.2) = _; rw [l2]; rfl
        · rw [if_neg (by rw [I3_lit, I3_le (by omega) (by decide)]; exact q16)] at R
          exact bad7 (by rw [decide_eq_false q16]; simp) R
      · rw [if_neg (of_decide_eq_false (m4.trans (decide_eq_false q4)))] at R
        exact bad7 (by rw [decide_eq_false q4]; simp) R
  · rw [j] at n9 R
    rw [if_pos (by decide)] at R
    cases c : (decide (ps.length ≠ 0) && (decide (ps.length % 4 = 0) && (decide (ps.length ≤ 16) && okP g ps))) with
    | false => exact bad7 c R
    | true =>
      rw [c] at c7
      exact ⟨.ref 1, tl_2 c7 n9, ⟨g, R, agr_rfl⟩, ⟨by decide, by decide⟩⟩
theorem C_rat1 {h : sm_H} {o p : Nat} {ps : List Int32} (w : isRw o p) (r : hasL h o p ps) {k : Nat} (hk : k < 100) : F_137 o (I3 k) h = some (at1 ps k, h) := by
  by_cases q : k < ps.length
  · rw [C_rat w r q, at1_in q]
  · rw [C_rat_o w r (by rw [inR_I (by omega)]; exact decide_eq_false q), at1_out (by omega)]
abbrev S34 (b _j : Nat) : Prop := b = 34
theorem hasL34 {h h1 : sm_H} {o p : Nat} {ps : List Int32} (op : oP o p) (r : hasL h o p ps) (a : agr S34 h h1) : hasL h1 o p ps := hasL_agr r a (fun j => by unfold S34; unfold oP at op; omega)
theorem C_set {h : sm_H} {f : Nat} {v a b : Int32} {c : Int64} {o p : Nat} {ps : List Int32} (w : isRw o p) (op : oP o p) (r : hasL h o p ps) (hf : f < 35) (t : ∀ h, sm_ldI G0 h 1000000 (I3 f) = some v) {va vb vc : Bool} (ea : (v &&& 1 = 0) = (va = false)) (eb : (v &&& 2 = 0) = (vb = false)) (ec : (v &&& 4 = 0) = (vc = false)) :
    ∃ h', F_5 (I3 f) a b c o h = tl h' ∧ fS h' (I3 f) (bif va then a else 0) (bif vb then b else 0) (bif vc then c else 0) o p ps ∧ agr S34 h h' := by
  have key : ∀ (h0 : sm_H) (z : Int64), agr S34 h h0 → ∃ h', F_5_82 o z h0 = tl h' ∧ agr S34 h h' ∧ h'.2.1 34 10 = z ∧ sm_rr G0 h' 34 11 = some o ∧ h'.1 34 12 = at1 ps 0 ∧ h'.1 34 13 = at1 ps 1 ∧ h'.1 34 14 = at1 ps 2 ∧ h'.1 34 7 = h0.1 34 7 ∧ h'.1 34 8 = h0.1 34 8 ∧ h'.1 34 9 = h0.1 34 9 := fun h0 z a0 => by
    have a1 : agr S34 h (sm_wR (sm_wJ h0 34 10 z) 34 11 (some o)) := agr_wR (agr_wJ a0 rfl) rfl
    have a2 : agr S34 h (sm_wI (sm_wR (sm_wJ h0 34 10 z) 34 11 (some o)) 34 12 (at1 ps 0)) := agr_wI a1 rfl
    have a3 : agr S34 h (sm_wI (sm_wI (sm_wR (sm_wJ h0 34 10 z) 34 11 (some o)) 34 12 (at1 ps 0)) 34 13 (at1 ps 1)) := agr_wI a2 rfl
    refine ⟨sm_wI (sm_wI (sm_wI (sm_wR (sm_wJ h0 34 10 z) 34 11 (some o)) 34 12 (at1 ps 0)) 34 13 (at1 ps 1)) 34 14 (at1 ps 2), ?_, agr_wI a3 rfl, rfl, rfl, rfl, rfl, rfl, rfl, rfl, rfl⟩
    unfold F_5_82
    simp only [obs]
    rw [if_neg (not_not_intro (w.i _)), show F_137 o 0 _ = _ from C_rat1 w (hasL34 op r a1) (k := 0) (by decide)]; simp only [obs]
    rw [if_neg (not_not_intro (w.i _)), show F_137 o 1 _ = _ from C_rat1 w (hasL34 op r a2) (k := 1) (by decide)]; simp only [obs]
    rw [if_neg (not_not_intro (w.i _)), show F_137 o 2 _ = _ from C_rat1 w (hasL34 op r a3) (k := 2) (by decide)]; simp only [obs]
    unfold tl
    rfl
  obtain ⟨h', k1, k2, k3, k4, k5, k6, k7, k8, k9, k10⟩ := key (sm_wI (sm_wI (sm_wI h 34 7 (I3 f)) 34 8 (bif va then a else 0)) 34 9 (bif vb then b else 0)) (bif vc then c else 0) (agr_wI (agr_wI (agr_wI agr_rfl rfl) rfl) rfl)
  refine ⟨h', ?_, ⟨k8, k9, k10, k3, k4, k5, k6, k7, w, hasL34 op r k2⟩, k2⟩
  rw [← k1]
  show F_5_0 (I3 f) a b c o h = _
  unfold F_5_0
  rw [if_neg (I3_nn (by omega)), show sm_al G0 h 1000000 = some (I3 35) from rfl]; simp only [obs]
  rw [if_neg (by rw [I3_le (by decide) (by omega)]; omega), show sm_al G0 h 1000001 = some (I3 35) from rfl]; simp only [obs]
  rw [if_pos (by rw [I3_lt (by omega) (by decide)]; exact hf), t]; simp only [obs]
  unfold F_5_43 F_5_62
  simp only [obs, t]
  simp only [ea, eb, ec]
  cases va <;> cases vb <;> cases vc <;> rfl
theorem neg1sub {y : Nat} (hy : y < 1000) : (-1 - I3 y : Int32).toInt = -1 - (y : Int) := by
  rw [Int32.toInt_sub, I3_toInt (by omega), show (-1 : Int32).toInt = -1 from rfl]
  rw [Int.bmod_eq_of_le] <;> omega
theorem sub2 {y : Nat} (hy : y < 1000) : (-1 - (-1 - I3 y) : Int32) = I3 y := by
  rw [← Int32.toInt_inj, Int32.toInt_sub, neg1sub hy, I3_toInt (by omega), show (-1 : Int32).toInt = -1 from rfl]
  rw [Int.bmod_eq_of_le] <;> omega
theorem ext_19 (g : sm_H) (x : Int32) : ext g (sm_wI g 67 19 x) := by
  obtain ⟨c1, c2, c3, c4, c5, c6, c7, c8, c9, c10, c11⟩ := ext_rfl (g := g)
  exact ⟨c1, c2, c3, c4, c5, c6, c7, c8, c9, c10, c11⟩
theorem grow_19 (g : sm_H) (x : Int32) : grow g (sm_wI g 67 19 x) := by
  obtain ⟨c1, c2, c3, c4, c5⟩ := grow_rfl (g := g)
  exact ⟨c1, c2, c3, c4, c5⟩
abbrev SCb (b j : Nat) : Prop := Ssc b j ∨ SCh b j
abbrev SRb (b j : Nat) : Prop := SRp b j ∨ SRh b j
def bOut (g1 : sm_H) (v w' : Int32) : Prop := (∃ e, 1 ≤ e ∧ e ≤ 5 ∧ w' = -I3 e ∧ v = -1 ∧ g1.1 67 19 = I3 e) ∨ ∃ y, y < nH g1 ∧ w' = I3 y ∧ v = I3 y ∧ g1.1 67 19 = 0
theorem buildF {h g : sm_H} (K : K1 h g) {f : Nat} {tv a b : Int32} {c : Int64} {o p : Nat} {ps : List Int32} (w : isRw o p) (op : oP o p) (r : hasL h o p ps) (P : prR g ps) (hf : f < 35) (t : ∀ h, sm_ldI G0 h 1000000 (I3 f) = some tv) {va vb vc : Bool} (ea : (tv &&& 1 = 0) = (va = false)) (eb : (tv &&& 2 = 0) = (vb = false)) (ec : (tv &&& 4 = 0) = (vc = false)) (rA : ∀ g, F_337 (I3 f) g = some (b2 va, g)) (rB : ∀ g, F_338 (I3 f) g = some (b2 vb, g)) (rC : vc = decide (f = 0 ∨ f = 6))
    (mk : ∀ h' g', K1 h' g' → fS h' (I3 f) (bif va then a else 0) (bif vb then b else 0) (bif vc then c else 0) o p ps → prR g' ps → ∃ out, OC h' (I3 f) (bif va then a else 0) (bif vb then b else 0) (bif vc then c else 0) out ∧ OR g' (I3 f) a b c out ∧ OK g' f (bif va then a else 0) (bif vb then b else 0) (bif vc then c else 0) out) :
    ∃ v w' h1 g1, F_5 (I3 f) a b c o h = some (w', h1) ∧ F_341 (I3 f) a b c g = some (v, g1) ∧ K1 h1 g1 ∧ ext g g1 ∧ grow g g1 ∧ agr SCb h h1 ∧ agr SRb g g1 ∧ bOut g1 v w' := by
  obtain ⟨h', c1, c2, c3⟩ := C_set (a := a) (b := b) (c := c) w op r hf t ea eb ec
  have a3 : agr Ssc h h' := agr_mono (fun b' j z => Or.inr (by unfold S34 at z; omega)) c3
  have K' : K1 h' (sm_wI g 67 19 0) := K1_19 (K1_h K (agr_mono Ssc_not a3)) 0
  have P' : prR (sm_wI g 67 19 0) ps := P
  have ag0 : agr SRb g (sm_wI g 67 19 0) := agr_wI agr_rfl (Or.inr (Or.inr (Or.inl ⟨rfl, Or.inr rfl⟩)))
  have E0 := ext_19 g 0
  have G0' := grow_19 g 0
  obtain ⟨out, o1, o2, o3⟩ := mk h' (sm_wI g 67 19 0) K' c2 P'
  have start : ∀ q, F_336 (I3 f) a b c (sm_wI g 67 19 0) = some q → F_341 (I3 f) a b c g = F_341_28 (I3 f) a b c q.1 q.2 := fun q hq => by
    show F_341_0 (I3 f) a b c g = _
    unfold F_341_0
    simp only [obs]
    rw [if_neg (I3_nn (by omega)), if_pos (by rw [I3_lit, I3_le (by omega) (by decide)]; omega), hq]; simp only [obs]
  rcases out with e | y | ⟨r, l, ps', o', p'⟩
  · obtain ⟨h1, x1, x2⟩ := o1
    obtain ⟨g1, y1, y2⟩ := o2
    have e3 : 1 ≤ e ∧ e ≤ 3 := o3
    have st := start _ y1
    have E1 := ext_eq (okR_SRp y2)
    have E2 := ext_19 g1 (I3 e)
    have G2 := grow_19 g1 (I3 e)
    refine ⟨-1, -I3 e, h1, sm_wI g1 67 19 (I3 e), c1.trans x1, ?_, K1_19 (K1_g (K1_h K' (agr_mono Ssc_not x2)) (agr_mono SRp_not y2)) _, ext_trans E0 (ext_trans E1.1 E2), grow_trans G0' (grow_trans E1.2.1 G2), agr_mono (fun _ _ z => Or.inl z) (agr_trans a3 x2), agr_wI (agr_trans ag0 (agr_mono (fun _ _ z => Or.inl z) y2)) (Or.inr (Or.inr (Or.inl ⟨rfl, Or.inr rfl⟩))), Or.inl ⟨e, e3.1, by omega, rfl, rfl, rfl⟩⟩
    rw [st]
    unfold F_341_28
    rw [if_neg (by rw [I3_lit, I3_le (by omega) (by decide)]; omega)]; simp only [obs]
  · obtain ⟨h1, x1, x2⟩ := o1
    obtain ⟨g1, y1, y2⟩ := o2
    have e3 : y < nH (sm_wI g 67 19 0) := o3
    have w500 : nH (sm_wI g 67 19 0) ≤ 500 := K'.2.2.2.2.1.1.2
    have st := start _ y1
    have E1 := ext_eq (okR_SRp y2)
    have nh : nH g1 = nH (sm_wI g 67 19 0) := by show tn _ = tn _; rw [y2.1 67 18 (by unfold SRp; omega)]
    refine ⟨I3 y, I3 y, h1, g1, c1.trans x1, ?_, K1_g (K1_h K' (agr_mono Ssc_not x2)) (agr_mono SRp_not y2), ext_trans E0 E1.1, grow_trans G0' E1.2.1, agr_mono (fun _ _ z => Or.inl z) (agr_trans a3 x2), agr_trans ag0 (agr_mono (fun _ _ z => Or.inl z) y2), Or.inr ⟨y, by omega, rfl, rfl, by rw [y2.1 67 19 (by unfold SRp; omega)]; rfl⟩⟩
    rw [st]
    unfold F_341_28
    clear E0 G0' E1
    have n1 := neg1sub (y := y) (by omega)
    have z0 : (0 : Int32).toInt = 0 := rfl
    rw [if_pos (by rw [Int32.le_iff_toInt_le, n1, z0]; omega), if_neg (by rw [Int32.le_iff_toInt_le, n1, z0]; omega), sub2 (by omega)]
  · obtain ⟨h1, x1, x2, x3, x4, x5, x6⟩ := o1
    obtain ⟨g1, y1, y2, y3, y4, y5⟩ := o2
    obtain ⟨z1, z2, z3, z4⟩ := (o3 : FS _ f _ _ _ ps' r l ∧ kR1 _ r ∧ kL _ l ∧ l.length ≤ 64)
    have st := start _ y1
    have E1 := ext_eq (okR_SRp y5)
    have K2 : K1 h1 g1 := K1_g (K1_h K' (agr_mono Ssc_not x6)) (agr_mono SRp_not y5)
    have bK := K'
    have nC1 : nC g1 = nC (sm_wI g 67 19 0) := by show tn _ = tn _; rw [y5.1 67 6 (by unfold SRp; omega)]
    have FS1 : FS g1 f (bif va then a else 0) (bif vb then b else 0) (bif vc then c else 0) ps' r l := FS_up (K1_base K') (fun k hk => by
      have := (K1_base K2).g k (by show k < tn _; rw [y5.1 67 35 (by unfold SRp; omega)]; exact hk)
      exact this) E1.1 z1
    have kr : kR1 g1 r := by obtain ⟨q, q1, q2⟩ := z2; exact ⟨q, q1, by rw [nC1]; exact q2⟩
    have kl : kL g1 l := fun i hi => by obtain ⟨q, q1, q2, q3⟩ := z3 i hi; exact ⟨q, q1, q2, by rw [nC1]; exact q3⟩
    obtain ⟨v, w', h2, g2, m1, m2, m3, m4, m5, m6, m7, m8⟩ := MH K2 x4 (by omega) (by omega) x3 y4 x2 y2 y3 z4 kr kl FS1
    refine ⟨v, w', h2, g2, ?_, ?_, m3, ext_trans E0 (ext_trans E1.1 m4), grow_trans G0' (grow_trans E1.2.1 m5), agr_trans (agr_mono (fun _ _ z => Or.inl z) (agr_trans a3 x6)) (agr_mono (fun _ _ z => Or.inr z) m6), agr_trans ag0 (agr_trans (agr_mono (fun _ _ z => Or.inl z) y5) (agr_mono (fun _ _ z => Or.inr z) m7)), ?_⟩
    · rw [c1, x1, m1]; rfl
    · rw [st]
      unfold F_341_28
      rw [if_pos (show (0 : Int32) ≤ 0 by decide), if_pos (show (0 : Int32) ≤ 0 by decide)]
      have go : ∀ vq : Bool, (bif vq then c else 0) = (bif vc then c else 0) → F_341_68 (I3 f) a b c (b2 vq) g1 = some (v, g2) := fun vq hq => by
        have m2' : F_341_107 (I3 f) (bif va then a else 0) (bif vb then b else 0) (bif vq then c else 0) g1 = some (v, g2) := by
          unfold F_341_107; rw [hq, m2]; rfl
        unfold F_341_68 F_341_84 F_341_96
        rw [rA]; simp only [obs]
        rw [rB]; simp only [obs]
        cases va <;> cases vb <;> cases vq <;> exact m2'
      unfold F_341_63
      by_cases q0 : f = 0
      · rw [if_pos (show I3 f = (0 : Int32) from congrArg I3 q0)]
        exact go true (by rw [rC, decide_eq_true (Or.inl q0)])
      · rw [if_neg (by rw [I3_lit, I3_inj (by omega) (by decide)]; exact q0)]
        by_cases q6 : f = 6
        · rw [if_pos (show I3 f = (6 : Int32) from congrArg I3 q6)]
          exact go true (by rw [rC, decide_eq_true (Or.inr q6)])
        · rw [if_neg (by rw [I3_lit, I3_inj (by omega) (by decide)]; exact q6)]
          exact go false (by rw [rC, decide_eq_false (by omega)])
    · rcases m8 with ⟨e, e1, e2, e3, e4⟩ | ⟨y, q1, q2, q3, q4⟩
      · exact Or.inl ⟨e, by omega, by omega, e2, e3, e4⟩
      · exact Or.inr ⟨y, q1, q2, q3, by rw [q4, y5.1 67 19 (by unfold SRp; omega)]; rfl⟩
theorem build {h g : sm_H} (K : K1 h g) (x a b : Int32) (c : Int64) {o p : Nat} {ps : List Int32} (w : isRw o p) (op : oP o p) (ne : o ≠ 35) (r : hasL h o p ps) (P : prR g ps) :
    ∃ v w' h1 g1, F_5 x a b c o h = some (w', h1) ∧ F_341 x a b c g = some (v, g1) ∧ K1 h1 g1 ∧ ext g g1 ∧ grow g g1 ∧ agr SCb h h1 ∧ agr SRb g g1 ∧ bOut g1 v w' := by
  have no : F_5 x a b c o h = some (-1, h) → F_341 x a b c g = F_341_28 x a b c 1 (sm_wI g 67 19 0) → ∃ v w' h1 g1, F_5 x a b c o h = some (w', h1) ∧ F_341 x a b c g = some (v, g1) ∧ K1 h1 g1 ∧ ext g g1 ∧ grow g g1 ∧ agr SCb h h1 ∧ agr SRb g g1 ∧ bOut g1 v w' := fun z1 z2 => by
    refine ⟨-1, -1, h, sm_wI (sm_wI g 67 19 0) 67 19 1, z1, ?_, K1_19 (K1_19 K 0) 1, ext_trans (ext_19 g 0) (ext_19 _ 1), grow_trans (grow_19 g 0) (grow_19 _ 1), agr_rfl, agr_wI (agr_wI agr_rfl (Or.inr (Or.inr (Or.inl ⟨rfl, Or.inr rfl⟩)))) (Or.inr (Or.inr (Or.inl ⟨rfl, Or.inr rfl⟩))), Or.inl ⟨1, by decide, by decide, rfl, rfl, rfl⟩⟩
    rw [z2]
    unfold F_341_28
    rw [if_neg (by decide)]; simp only [obs]
  rcases I3_cases x with ⟨f, f1, rfl⟩ | q
  · by_cases hf : f < 35
    · rcases (show f = 0 ∨ f = 1 ∨ f = 2 ∨ f = 3 ∨ f = 4 ∨ f = 5 ∨ f = 6 ∨ f = 7 ∨ f = 8 ∨ f = 9 ∨ f = 10 ∨ f = 11 ∨ f = 12 ∨ f = 13 ∨ f = 14 ∨ f = 15 ∨ f = 16 ∨ f = 17 ∨ f = 18 ∨ f = 19 ∨ f = 20 ∨ f = 21 ∨ f = 22 ∨ f = 23 ∨ f = 24 ∨ f = 25 ∨ f = 26 ∨ f = 27 ∨ f = 28 ∨ f = 29 ∨ f = 30 ∨ f = 31 ∨ f = 32 ∨ f = 33 ∨ f = 34 by omega) with rfl | rfl | rfl | rfl | rfl | rfl | rfl | rfl | rfl | rfl | rfl | rfl | rfl | rfl | rfl | rfl | rfl | rfl | rfl | rfl | rfl | rfl | rfl | rfl | rfl | rfl | rfl | rfl | rfl | rfl | rfl | rfl | rfl | rfl | rfl
      · exact buildF K w op r P (by decide) (va := true) (vb := false) (vc := true) (fun _ => rfl) (by decide) (by decide) (by decide) (fun _ => rfl) (fun _ => rfl) (by decide) (fun h' g' K' S' P' => mk_0 K' a b c S' op P')
      · exact buildF K w op r P (by decide) (va := false) (vb := false) (vc := false) (fun _ => rfl) (by decide) (by decide) (by decide) (fun _ => rfl) (fun _ => rfl) (by decide) (fun h' g' K' S' P' => mk_1 K' a b c S' op P')
      · exact buildF K w op r P (by decide) (va := true) (vb := false) (vc := false) (fun _ => rfl) (by decide) (by decide) (by decide) (fun _ => rfl) (fun _ => rfl) (by decide) (fun h' g' K' S' P' => mk_2 K' S' op P' b c)
      · exact buildF K w op r P (by decide) (va := true) (vb := true) (vc := false) (fun _ => rfl) (by decide) (by decide) (by decide) (fun _ => rfl) (fun _ => rfl) (by decide) (fun h' g' K' S' P' => mk_3 K' S' op P' c)
      · exact buildF K w op r P (by decide) (va := true) (vb := true) (vc := false) (fun _ => rfl) (by decide) (by decide) (by decide) (fun _ => rfl) (fun _ => rfl) (by decide) (fun h' g' K' S' P' => mk_4 K' a b c S' op P')
      · exact buildF K w op r P (by decide) (va := false) (vb := true) (vc := false) (fun _ => rfl) (by decide) (by decide) (by decide) (fun _ => rfl) (fun _ => rfl) (by decide) (fun h' g' K' S' P' => mk_5 K' a b c S' op ne P')
      · exact buildF K w op r P (by decide) (va := true) (vb := false) (vc := true) (fun _ => rfl) (by decide) (by decide) (by decide) (fun _ => rfl) (fun _ => rfl) (by decide) (fun h' g' K' S' P' => mk_6 K' a b c S' op P')
      · exact buildF K w op r P (by decide) (va := true) (vb := false) (vc := false) (fun _ => rfl) (by decide) (by decide) (by decide) (fun _ => rfl) (fun _ => rfl) (by decide) (fun h' g' K' S' P' => mk_7 K' a b c S' op P')
      · exact buildF K w op r P (by decide) (va := true) (vb := false) (vc := false) (fun _ => rfl) (by decide) (by decide) (by decide) (fun _ => rfl) (fun _ => rfl) (by decide) (fun h' g' K' S' P' => mk_8 K' a b c S' op P')
      · exact buildF K w op r P (by decide) (va := false) (vb := false) (vc := false) (fun _ => rfl) (by decide) (by decide) (by decide) (fun _ => rfl) (fun _ => rfl) (by decide) (fun h' g' K' S' P' => mk_9 K' a b c S' op P')
      · exact buildF K w op r P (by decide) (va := true) (vb := true) (vc := false) (fun _ => rfl) (by decide) (by decide) (by decide) (fun _ => rfl) (fun _ => rfl) (by decide) (fun h' g' K' S' P' => mk_10 K' a b c S' op P')
      · exact buildF K w op r P (by decide) (va := false) (vb := true) (vc := false) (fun _ => rfl) (by decide) (by decide) (by decide) (fun _ => rfl) (fun _ => rfl) (by decide) (fun h' g' K' S' P' => mk_11 K' a b c S' op P')
      · exact buildF K w op r P (by decide) (va := false) (vb := true) (vc := false) (fun _ => rfl) (by decide) (by decide) (by decide) (fun _ => rfl) (fun _ => rfl) (by decide) (fun h' g' K' S' P' => mk_12 K' a b c S' op P')
      · exact buildF K w op r P (by decide) (va := false) (vb := true) (vc := false) (fun _ => rfl) (by decide) (by decide) (by decide) (fun _ => rfl) (fun _ => rfl) (by decide) (fun h' g' K' S' P' => mk_13 K' a b c S' op P')
      · exact buildF K w op r P (by decide) (va := false) (vb := false) (vc := false) (fun _ => rfl) (by decide) (by decide) (by decide) (fun _ => rfl) (fun _ => rfl) (by decide) (fun h' g' K' S' P' => mk_14 K' a b c S' op P')
      · exact buildF K w op r P (by decide) (va := true) (vb := false) (vc := false) (fun _ => rfl) (by decide) (by decide) (by decide) (fun _ => rfl) (fun _ => rfl) (by decide) (fun h' g' K' S' P' => mk_15 K' a b c S' op P')
      · exact buildF K w op r P (by decide) (va := false) (vb := false) (vc := false) (fun _ => rfl) (by decide) (by decide) (by decide) (fun _ => rfl) (fun _ => rfl) (by decide) (fun h' g' K' S' P' => mk_16 K' a b c S' op P')
      · exact buildF K w op r P (by decide) (va := false) (vb := false) (vc := false) (fun _ => rfl) (by decide) (by decide) (by decide) (fun _ => rfl) (fun _ => rfl) (by decide) (fun h' g' K' S' P' => mk_17 K' a b c S' op P')
      · exact buildF K w op r P (by decide) (va := false) (vb := true) (vc := false) (fun _ => rfl) (by decide) (by decide) (by decide) (fun _ => rfl) (fun _ => rfl) (by decide) (fun h' g' K' S' P' => mk_18 K' a b c S' op P')
      · exact buildF K w op r P (by decide) (va := true) (vb := true) (vc := false) (fun _ => rfl) (by decide) (by decide) (by decide) (fun _ => rfl) (fun _ => rfl) (by decide) (fun h' g' K' S' P' => mk_19 K' a b c S' op P')
      · exact buildF K w op r P (by decide) (va := true) (vb := false) (vc := false) (fun _ => rfl) (by decide) (by decide) (by decide) (fun _ => rfl) (fun _ => rfl) (by decide) (fun h' g' K' S' P' => mk_20 K' S' op P' b c)
      · exact buildF K w op r P (by decide) (va := true) (vb := false) (vc := false) (fun _ => rfl) (by decide) (by decide) (by decide) (fun _ => rfl) (fun _ => rfl) (by decide) (fun h' g' K' S' P' => mk_21 K' S' op P' b c)
      · exact buildF K w op r P (by decide) (va := true) (vb := false) (vc := false) (fun _ => rfl) (by decide) (by decide) (by decide) (fun _ => rfl) (fun _ => rfl) (by decide) (fun h' g' K' S' P' => mk_22 K' S' op P' b c)
      · exact buildF K w op r P (by decide) (va := true) (vb := false) (vc := false) (fun _ => rfl) (by decide) (by decide) (by decide) (fun _ => rfl) (fun _ => rfl) (by decide) (fun h' g' K' S' P' => mk_23 K' S' op P' b c)
      · exact buildF K w op r P (by decide) (va := true) (vb := false) (vc := false) (fun _ => rfl) (by decide) (by decide) (by decide) (fun _ => rfl) (fun _ => rfl) (by decide) (fun h' g' K' S' P' => mk_24 K' S' op P' b c)
      · exact buildF K w op r P (by decide) (va := true) (vb := false) (vc := false) (fun _ => rfl) (by decide) (by decide) (by decide) (fun _ => rfl) (fun _ => rfl) (by decide) (fun h' g' K' S' P' => mk_25 K' S' op P' b c)
      · exact buildF K w op r P (by decide) (va := true) (vb := false) (vc := false) (fun _ => rfl) (by decide) (by decide) (by decide) (fun _ => rfl) (fun _ => rfl) (by decide) (fun h' g' K' S' P' => mk_26 K' S' op P' b c)
      · exact buildF K w op r P (by decide) (va := false) (vb := true) (vc := false) (fun _ => rfl) (by decide) (by decide) (by decide) (fun _ => rfl) (fun _ => rfl) (by decide) (fun h' g' K' S' P' => mk_27 K' a b c S' op P')
      · exact buildF K w op r P (by decide) (va := false) (vb := true) (vc := false) (fun _ => rfl) (by decide) (by decide) (by decide) (fun _ => rfl) (fun _ => rfl) (by decide) (fun h' g' K' S' P' => mk_28 K' a b c S' op P')
      · exact buildF K w op r P (by decide) (va := true) (vb := false) (vc := false) (fun _ => rfl) (by decide) (by decide) (by decide) (fun _ => rfl) (fun _ => rfl) (by decide) (fun h' g' K' S' P' => mk_29 K' a b c S' op P')
      · exact buildF K w op r P (by decide) (va := true) (vb := false) (vc := false) (fun _ => rfl) (by decide) (by decide) (by decide) (fun _ => rfl) (fun _ => rfl) (by decide) (fun h' g' K' S' P' => mk_30 K' a b c S' op P')
      · exact buildF K w op r P (by decide) (va := true) (vb := false) (vc := false) (fun _ => rfl) (by decide) (by decide) (by decide) (fun _ => rfl) (fun _ => rfl) (by decide) (fun h' g' K' S' P' => mk_31 K' a b c S' op P')
      · exact buildF K w op r P (by decide) (va := false) (vb := false) (vc := false) (fun _ => rfl) (by decide) (by decide) (by decide) (fun _ => rfl) (fun _ => rfl) (by decide) (fun h' g' K' S' P' => mk_32 K' a b c S' op P')
      · exact buildF K w op r P (by decide) (va := false) (vb := false) (vc := false) (fun _ => rfl) (by decide) (by decide) (by decide) (fun _ => rfl) (fun _ => rfl) (by decide) (fun h' g' K' S' P' => mk_33 K' a b c S' op P')
      · exact buildF K w op r P (by decide) (va := false) (vb := true) (vc := false) (fun _ => rfl) (by decide) (by decide) (by decide) (fun _ => rfl) (fun _ => rfl) (by decide) (fun h' g' K' S' P' => mk_34 K' a b c S' op P')
    · refine no ?_ ?_
      · show F_5_0 (I3 f) a b c o h = _
        unfold F_5_0 F_5_20
        rw [if_neg (I3_nn (by omega)), show sm_al G0 h 1000000 = some (I3 35) from rfl]; simp only [obs]
        rw [if_pos (by rw [I3_le (by decide) (by omega)]; omega)]
      · show F_341_0 (I3 f) a b c g = _
        unfold F_341_0 F_341_15
        simp only [obs]
        rw [if_neg (I3_nn (by omega)), if_neg (by rw [I3_lit, I3_le (by omega) (by decide)]; omega)]
  · refine no ?_ ?_
    · show F_5_0 x a b c o h = _
      unfold F_5_0 F_5_20
      rw [if_pos q]
    · show F_341_0 x a b c g = _
      unfold F_341_0 F_341_15
      simp only [obs]
      rw [if_pos q]
theorem K1_row {h g : sm_H} (K : K1 h g) : K1 (sm_wI h 64 1 0) g := by
  obtain ⟨wK, cK, wT, cT, wH, cH, wM, cM, cG, cO, cV, wX, cX, cXh, wF⟩ := K
  exact ⟨wK, cK, wT, cT, wH, cH, wM, cM, cG, cO, cV, wX, cX, cXh_fr (by repeat first | exact hi_rfl | refine hi_wI ?_ (by decide) | refine hi_wJ ?_ (by decide)) cXh, wF⟩
theorem K1_rowR {h g : sm_H} (K : K1 h g) : K1 h (sm_wI g 67 1 0) := by
  obtain ⟨wK, cK, wT, cT, wH, cH, wM, cM, cG, cO, cV, wX, cX, cXh, wF⟩ := K
  exact ⟨wK, cK, wT, cT, wH, cH, wM, cM, cG, cO, cV, wX, cX, cXh, wF⟩
theorem make2 (x a b : Int32) (c : Int64) (h g : sm_H) (I : I1 h g) : ∃ v h1 g1, F_263 x a b c h = some (v, h1) ∧ F_384 x a b c g = some (v, g1) ∧ I1 h1 g1 ∧ kR h h1 ∧ kC g g1 := by
  have K := (I1_K.mp I).1
  have cRr := (I1_K.mp I).2.1
  have RC := cR_L cRr
  have n20 : tn (g.1 67 1) ≤ 20 := cRr.2.1.2
  have e1 : g.1 67 1 = I3 (tn (g.1 67 1)) := cRr.2.1.1
  generalize hps : lst (g.1 68) (tn (g.1 67 1)) = ps at RC
  have len : ps.length = tn (g.1 67 1) := by rw [← hps, lst_len]
  have v68 : ∀ k, k < ps.length → g.1 68 k = at0 ps k := fun k hk => by rw [← hps, at0_lst (by omega)]
  have RL : ∃ g0, F_384 x a b c g = (F_341 x a b c (sm_wI g0 67 1 0)).bind (fun q => some (q.1, q.2)) ∧ agr SRp g g0 ∧ prR g0 ps := by
    have LL : ∀ k, k ≤ ps.length → ∃ u, F_384 x a b c g = lp F_384_11B (1000000 - k) (x, a, b, c, I3 k, u) ∧ agr SRp g u ∧ u.1 67 3 = I3 ps.length ∧ ∀ i, i < k → u.1 69 i = at0 ps i := by
      intro k
      induction k with
      | zero =>
        intro _
        refine ⟨sm_wI g 67 3 (g.1 67 1), rfl, agr_wI agr_rfl (by unfold SRp; omega), ?_, fun i hi => by omega⟩
        rw [len]; exact e1
      | succ k ih =>
        intro hk
        obtain ⟨u, u1, u2, u3, u4⟩ := ih (by omega)
        refine ⟨sm_wI u 69 k (at0 ps k), ?_, agr_wI u2 (by unfold SRp; omega), u3, fun i hi => ?_⟩
        · rw [u1, lp_s (n := 1000000 - k) (s' := (x, a, b, c, I3 (k + 1), sm_wI u 69 k (at0 ps k))) (by omega) ?_]
          · rw [show 1000000 - k - 1 = 1000000 - (k + 1) by omega]
          · unfold F_384_11B
            rw [if_neg (by rw [u3, I3_le (by omega) (by omega)]; omega), ldI_I (by omega) (by omega), u2.1 68 k (by unfold SRp; omega), v68 k (by omega)]; simp only [obs]
            rw [stI_I (by omega) (by omega)]; simp only [obs]
            rw [show I3 k + 1 = I3 (k + 1) from I3_add k 1]
        · show (if i = k then at0 ps k else u.1 69 i) = _
          by_cases q : i = k
          · rw [if_pos q, q]
          · rw [if_neg q]; exact u4 i (by omega)
    obtain ⟨u, u1, u2, u3, u4⟩ := LL ps.length (Nat.le_refl _)
    refine ⟨u, ?_, u2, ⟨u3, by omega, u4⟩⟩
    rw [u1]
    have fin : ∀ (r : Option (Int32 × sm_H)), F_384_11B (x, a, b, c, I3 ps.length, u) = r.map (fun q => .inr q) → lp F_384_11B (1000000 - ps.length) (x, a, b, c, I3 ps.length, u) = r := fun r z => by
      cases r with
      | none =>
        have := lp_n (n := 1000000 - ps.length - 1) z
        rw [show 1000000 - ps.length - 1 + 1 = 1000000 - ps.length by omega] at this; exact this
      | some r => exact lp_e (by omega) z
    refine fin _ ?_
    unfold F_384_11B
    rw [if_pos (by rw [u3, I3_le (by omega) (by omega)]; omega)]; simp only [obs]
    cases F_341 x a b c (sm_wI u 67 1 0) with
    | none => rfl
    | some q => rfl
  obtain ⟨g0, r1, r2, r3⟩ := RL
  have K0 : K1 h (sm_wI g0 67 1 0) := K1_rowR (K1_g K (agr_mono SRp_not r2))
  have P0 : prR (sm_wI g0 67 1 0) ps := r3
  obtain ⟨v, w', h1, g1, b1, b2', b3, b4, b5, b6, b7, b8⟩ := build K0 x a b c rw64 (Or.inr (Or.inr ⟨rfl, rfl⟩)) (by decide) RC P0
  have bg : agr SRp (sm_wI g 67 1 0) (sm_wI g0 67 1 0) := agr_wI2 r2 67 1 0
  have w500 : nH g1 ≤ 500 := b3.2.2.2.2.1.1.2
  have as : ∀ z : Nat, g1.1 67 19 = I3 z → I1 (sm_wI (sm_wI h1 0 12 (I3 z)) 64 1 0) g1 ∧ kR h (sm_wI (sm_wI h1 0 12 (I3 z)) 64 1 0) ∧ kC g g1 := fun z hz => by
    have I' := I1_row0 I
    have E0 := ext_eq (okR_SRp bg)
    refine ⟨?_, ?_, ?_⟩
    · have B1 := (refuse2 I' z).1
      refine I1_re' B1 (h1 := sm_wI (sm_wI h1 0 12 (I3 z)) 64 1 0) (K1_row (K1_0 b3 _)) ?_ ?_ ?_ ?_ ?_
      · exact ext_trans (g := sm_wI (sm_wI (sm_wI g 67 1 0) 67 19 0) 67 19 (I3 z)) (g1 := sm_wI g0 67 1 0) (by
          obtain ⟨c1, c2, c3, c4, c5, c6, c7, c8, c9, c10, c11⟩ := E0.1
          exact ⟨c1, c2, c3, c4, c5, c6, c7, c8, c9, c10, c11⟩) b4
      · exact grow_trans (g := sm_wI (sm_wI (sm_wI g 67 1 0) 67 19 0) 67 19 (I3 z)) (g1 := sm_wI g0 67 1 0) (by
          obtain ⟨c1, c2, c3, c4, c5⟩ := E0.2.1
          exact ⟨c1, c2, c3, c4, c5⟩) b5
      · intro b' j o
        have n1 : ¬ SCb b' j := by unfold oC at o; unfold SCb Ssc SCd SCh SCt; omega
        refine ⟨?_, ?_⟩
        · rw [wI_rd, wI_rd, wI_rd, wI_rd, b6.1 b' j n1]
          by_cases q : b' = 64 ∧ j = 1
          · rw [if_pos q, if_neg (by omega), if_pos q]
          · rw [if_neg q, if_neg q]
        · exact b6.2.1 b' j n1
      · intro b' j o
        by_cases q : b' = 67 ∧ j = 19
        · obtain ⟨rfl, rfl⟩ := q
          exact hz
        · have n1 : ¬ SRb b' j := by unfold oR at o; unfold SRb SRp SRh SRt; omega
          have n2 : ¬ SRp b' j := by unfold oR at o; unfold SRp; omega
          rw [b7.1 b' j n1, bg.1 b' j n2, wI_rd (sm_wI (sm_wI g 67 1 0) 67 19 0), if_neg q, wI_rd (sm_wI g 67 1 0), if_neg q]
      · intro b' j o q
        have n1 : ¬ SRb b' j := by unfold oR at o; unfold SRb SRp SRh SRt; omega
        have n2 : ¬ SRp b' j := by unfold oR at o; unfold SRp; omega
        rw [b7.2.1 b' j n1, bg.2.1 b' j n2]; rfl
    · exact kR_agr (S := fun b j => SCb b j ∨ b = 0 ∨ b = 64) (agr_wI (agr_wI (agr_mono (fun _ _ z => Or.inl z) b6) (Or.inr (Or.inl rfl))) (Or.inr (Or.inr rfl))) (fun b j z => by unfold SCb Ssc SCd SCh SCt at z; omega)
    · refine kC_agr (S := fun b _ => 67 ≤ b ∧ b < 131) ?_ (fun b j z => z)
      refine agr_trans (agr_wI (agr_mono (fun b j z => by unfold SRp at z; omega) r2) (by omega)) (agr_mono (fun b j z => by unfold SRb SRp SRh SRt at z; omega) b7)
  have CC : ∀ z : Nat, F_264 w' h1 = some (v, sm_wI h1 0 12 (I3 z)) → F_263 x a b c h = some (v, sm_wI (sm_wI h1 0 12 (I3 z)) 64 1 0) := fun z hz => by
    show F_263_0 x a b c h = _
    unfold F_263_0
    rw [b1]; simp only [obs]
    rw [hz]; simp only [obs]
    rw [show F_138 64 (sm_wI h1 0 12 (I3 z)) = some (sm_wI (sm_wI h1 0 12 (I3 z)) 64 1 0) from rfl]; rfl
  have RR : F_384 x a b c g = some (v, g1) := by rw [r1, b2']; rfl
  rcases b8 with ⟨e, e1, e2, rfl, rfl, e4⟩ | ⟨y, y1, rfl, rfl, y4⟩
  · exact ⟨-1, _, g1, CC e (C_judgeN (by omega) (by omega)), RR, as e e4⟩
  · exact ⟨I3 y, _, g1, CC 0 (C_judge (by omega)), RR, as 0 y4⟩
theorem op_make {h : sm_H} (x a b : Int32) (c : Int64) (I : I0 h) : ∃ v h1 h2, F_263 x a b c h = some (v, h1) ∧ F_384 x a b c h1 = some (v, h2) ∧ I0 h2 := op_of2 (make2 x a b c) I
abbrev Val : Type := Int32 × Int64
abbrev atv (l : List Val) (i : Nat) : Val := l.getD i (0, 0)
theorem atv_app1 {l m : List Val} {i : Nat} (h : i < l.length) : atv (l ++ m) i = atv l i := by
  unfold atv; rw [List.getD_eq_getElem?_getD, List.getD_eq_getElem?_getD, List.getElem?_append_left h]
theorem atv_app2 {l m : List Val} {i : Nat} (h : l.length ≤ i) : atv (l ++ m) i = atv m (i - l.length) := by
  unfold atv; rw [List.getD_eq_getElem?_getD, List.getD_eq_getElem?_getD, List.getElem?_append_right h]
def sub (l : List Val) (i n : Nat) : List Val := (l.drop i).take n
theorem sub_len {l : List Val} {i n : Nat} (h : i + n ≤ l.length) : (sub l i n).length = n := by
  unfold sub; rw [List.length_take, List.length_drop]; omega
theorem atv_sub {l : List Val} {i n k : Nat} (h : k < n) : atv (sub l i n) k = atv l (i + k) := by
  unfold sub atv; rw [List.getD_eq_getElem?_getD, List.getD_eq_getElem?_getD, List.getElem?_take_of_lt h, List.getElem?_drop]
theorem sub_all (l : List Val) : sub l 0 l.length = l := by unfold sub; rw [List.drop_zero, List.take_length]
theorem sub_0 (l : List Val) (i : Nat) : sub l i 0 = [] := rfl
theorem sub_succ {l : List Val} {i n : Nat} (h : i + n < l.length) : sub l i (n + 1) = sub l i n ++ [atv l (i + n)] := by
  unfold sub
  have h1 : n < (l.drop i).length := by rw [List.length_drop]; omega
  rw [List.take_succ_eq_append_getElem h1]
  congr 2
  unfold atv
  rw [List.getElem_drop, List.getD_eq_getElem?_getD, List.getElem?_eq_getElem h]; rfl
def stk (g : sm_H) (b : Nat) (vs : List Val) : Prop := ∀ i, i < vs.length → g.1 108 (b + i) = (atv vs i).1 ∧ g.2.1 109 (b + i) = (atv vs i).2
def frm (h : sm_H) (d : Nat) (vs : List Val) : Prop := ∀ i, i < vs.length → h.2.1 50 (16 * d + i) = (atv vs i).2 ∧ h.1 51 (16 * d + i) = tag (atv vs i).1
def tyV (g : sm_H) (ks : List Int32) (vs : List Val) : Prop := vs.length = ks.length ∧ ∀ i, i < vs.length → okV g (tn (at0 ks i)) (atv vs i).1 (atv vs i).2
theorem C_num {h : sm_H} {d i : Nat} (hd : d ≤ 100) (hi : i < 16) : F_77 (I3 d) (I3 i) h = some (h.2.1 50 (16 * d + i), h) := by
  show F_77_0 (I3 d) (I3 i) h = _
  unfold F_77_0 F_77_30
  simp only [obs]
  rw [show I3 d * 16 + I3 i = I3 (16 * d + i) by rw [I3_lit, I3_mul, I3_add, Nat.mul_comm], if_neg (I3_nn (by omega)), show sm_al G0 h 50 = some (I3 1616) from rfl]; simp only [obs]
  rw [if_neg (by rw [I3_le (by decide) (by omega)]; omega), ldJ_I (by omega) (by omega)]; simp only [obs]
theorem C_tg {h : sm_H} {d i : Nat} (hd : d ≤ 100) (hi : i < 16) : F_78 (I3 d) (I3 i) h = some (h.1 51 (16 * d + i), h) := by
  show F_78_0 (I3 d) (I3 i) h = _
  unfold F_78_0 F_78_30
  simp only [obs]
  rw [show I3 d * 16 + I3 i = I3 (16 * d + i) by rw [I3_lit, I3_mul, I3_add, Nat.mul_comm], if_neg (I3_nn (by omega)), show sm_al G0 h 51 = some (I3 1616) from rfl]; simp only [obs]
  rw [if_neg (by rw [I3_le (by decide) (by omega)]; omega), ldI_I (by omega) (by omega)]; simp only [obs]
theorem C_lay0 {h : sm_H} {d i : Nat} (hd : d ≤ 100) (hi : i < 16) (n : Int64) (t : Int32) : F_79 (I3 d) (I3 i) n t h = some (sm_wI (sm_wJ h 50 (16 * d + i) n) 51 (16 * d + i) t) := by
  show F_79_0 (I3 d) (I3 i) n t h = _
  unfold F_79_0 F_79_50
  simp only [obs]
  rw [show I3 d * 16 + I3 i = I3 (16 * d + i) by rw [I3_lit, I3_mul, I3_add, Nat.mul_comm], if_neg (I3_nn (by omega)), show sm_al G0 h 50 = some (I3 1616) from rfl]; simp only [obs]
  rw [if_neg (by rw [I3_le (by decide) (by omega)]; omega), show sm_al G0 h 51 = some (I3 1616) from rfl]; simp only [obs]
  rw [if_neg (by rw [I3_le (by decide) (by omega)]; omega), stJ_I (by omega) (by omega)]; simp only [obs]
  rw [stI_I (by omega) (by omega)]; simp only [obs]
abbrev SL (d b j : Nat) : Prop := (b = 50 ∨ b = 51) ∧ 16 * d ≤ j ∧ j < 16 * d + 16
abbrev Ly (h h' : sm_H) (d : Nat) (ws : List Val) : Prop := (agr (SL d) h h') ∧ (frm h' d ws) ∧ (h'.2.2 = h.2.2)
theorem Ly.a {h h' : sm_H} {d : Nat} {ws : List Val} (F_ : Ly h h' d ws) : agr (SL d) h h' := F_.1
theorem Ly.f {h h' : sm_H} {d : Nat} {ws : List Val} (F_ : Ly h h' d ws) : frm h' d ws := F_.2.1
theorem Ly.r {h h' : sm_H} {d : Nat} {ws : List Val} (F_ : Ly h h' d ws) : h'.2.2 = h.2.2 := F_.2.2
theorem Ly_0 (h : sm_H) (d : Nat) : Ly h h d [] := ⟨agr_rfl, (fun i hi => by cases hi), rfl⟩
theorem frm_agr {h h' : sm_H} {d d' : Nat} {vs : List Val} (F : frm h d vs) (a : agr (SL d') h h') (l : vs.length ≤ 16) (ne : d ≠ d') : frm h' d vs := fun i hi => by
  rw [a.2.1 50 _ (by unfold SL; omega), a.1 51 _ (by unfold SL; omega)]
  exact F i hi
theorem wI_1 (h : sm_H) (a k : Nat) (x : Int32) : (sm_wI h a k x).2.1 = h.2.1 := rfl
theorem C_lay1 {h h' : sm_H} {d : Nat} {ws : List Val} (L : Ly h h' d ws) (hd : d ≤ 100) (hw : ws.length < 16) (v : Val) : ∃ h2, F_79 (I3 d) (I3 ws.length) v.2 (tag v.1) h' = some h2 ∧ Ly h h2 d (ws ++ [v]) := by
  refine ⟨_, C_lay0 hd hw v.2 (tag v.1), agr_wI (agr_wJ L.a (by unfold SL; omega)) (by unfold SL; omega), fun i hi => ?_, L.r⟩
  rw [List.length_append] at hi
  have hi : i < ws.length + 1 := hi
  rw [wI_1, wI_rd, wJ_rd, show (sm_wJ h' 50 (16 * d + ws.length) v.2).1 = h'.1 from rfl]
  by_cases q : i = ws.length
  · rw [if_pos (by omega), if_pos (by omega), q, atv_app2 (Nat.le_refl _), Nat.sub_self]; exact ⟨rfl, rfl⟩
  · rw [if_neg (by omega), if_neg (by omega), atv_app1 (by omega)]; exact L.f i (by omega)
theorem C_lend {h h' : sm_H} {d i n : Nat} {vs ws : List Val} (L : Ly h h' (d + 1) ws) (F : frm h d vs) (hd : d < 100) (v16 : vs.length ≤ 16) (hi : i + n ≤ vs.length) (hw : ws.length + n ≤ 16) : ∃ h2, F_80 (I3 d) (I3 i) (I3 ws.length) (I3 n) h' = some h2 ∧ Ly h h2 (d + 1) (ws ++ sub vs i n) := by
  have LL := lp_ex (body := F_80_3B) (P := fun k s => s.1 = I3 d ∧ s.2.1 = I3 i ∧ s.2.2.1 = I3 ws.length ∧ s.2.2.2.1 = I3 n ∧ s.2.2.2.2.1 = I3 k ∧ Ly h s.2.2.2.2.2 (d + 1) (ws ++ sub vs i k)) (Q := fun h2 => Ly h h2 (d + 1) (ws ++ sub vs i n)) n (fun k s hk p1 => ?_) (fun s p1 => ?_) (I3 d, I3 i, I3 ws.length, I3 n, 0, h') 1000000 ⟨rfl, rfl, rfl, rfl, rfl, by rw [sub_0, List.append_nil]; exact L⟩ (by omega)
  · obtain ⟨h2, e1, e2⟩ := LL
    exact ⟨h2, e1, e2⟩
  · obtain ⟨s1, s2, s3, s4, s5, s6⟩ := s
    obtain ⟨p1, p2, p3, p4, p5, p6⟩ := p1
    have p1 : s1 = I3 d := p1
    have p2 : s2 = I3 i := p2
    have p3 : s3 = I3 ws.length := p3
    have p4 : s4 = I3 n := p4
    have p5 : s5 = I3 k := p5
    have p6 : Ly h s6 (d + 1) (ws ++ sub vs i k) := p6
    subst p1 p2 p3 p4 p5
    have sl : (sub vs i k).length = k := sub_len (by omega)
    have wl : (ws ++ sub vs i k).length = ws.length + k := by rw [List.length_append, sl]
    have F6 := frm_agr F p6.a v16 (by omega) (i + k) (by omega)
    obtain ⟨h2, c1, c2⟩ := C_lay1 p6 (by omega) (by omega) (atv vs (i + k))
    refine Or.inl ⟨(I3 d, I3 i, I3 ws.length, I3 n, I3 (k + 1), h2), ?_, rfl, rfl, rfl, rfl, rfl, ?_⟩
    · show F_80_3B (I3 d, I3 i, I3 ws.length, I3 n, I3 k, s6) = _
      unfold F_80_3B
      rw [if_neg (by rw [I3_le (by omega) (by omega)]; omega), if_neg (by rw [I3_lit, I3_le (by decide) (by omega)]; omega), I3_add, C_num (by omega) (by omega)]; simp only [obs]
      rw [C_tg (by omega) (by omega)]; simp only [obs]
      rw [F6.1, F6.2, show I3 d + 1 = I3 (d + 1) from I3_add d 1, I3_add, ← wl, c1]; simp only [obs]
      rw [show I3 k + 1 = I3 (k + 1) from I3_add k 1]
    · show Ly h h2 (d + 1) _
      rw [sub_succ (by omega), ← List.append_assoc]; exact c2
  · obtain ⟨s1, s2, s3, s4, s5, s6⟩ := s
    obtain ⟨p1, p2, p3, p4, p5, p6⟩ := p1
    have p4 : s4 = I3 n := p4
    have p5 : s5 = I3 n := p5
    subst p4 p5
    refine ⟨s6, ?_, p6⟩
    show F_80_3B (s1, s2, s3, I3 n, I3 n, s6) = _
    unfold F_80_3B
    rw [if_pos (by rw [I3_le (by omega) (by omega)]; omega)]; rfl
abbrev SP (T b j : Nat) : Prop := (b = 108 ∧ T ≤ j) ∨ (b = 109 ∧ T ≤ j) ∨ (b = 67 ∧ (j = 59 ∨ j = 48 ∨ j = 49))
abbrev Ph (g g' : sm_H) (T : Nat) (ws : List Val) : Prop := (agr (SP T) g g') ∧ (g'.1 67 59 = I3 (T + ws.length)) ∧ (stk g' T ws)
theorem Ph.a {g g' : sm_H} {T : Nat} {ws : List Val} (F_ : Ph g g' T ws) : agr (SP T) g g' := F_.1
theorem Ph.n {g g' : sm_H} {T : Nat} {ws : List Val} (F_ : Ph g g' T ws) : g'.1 67 59 = I3 (T + ws.length) := F_.2.1
theorem Ph.s {g g' : sm_H} {T : Nat} {ws : List Val} (F_ : Ph g g' T ws) : stk g' T ws := F_.2.2
theorem Ph_0 {g : sm_H} {T : Nat} (e : g.1 67 59 = I3 T) : Ph g g T [] := ⟨agr_rfl, e, fun i hi => by cases hi⟩
theorem R_push {g g' : sm_H} {T : Nat} {ws : List Val} (P : Ph g g' T ws) (hT : T + ws.length < 6000) (v : Val) : ∃ g2, F_342 v.1 v.2 g' = some g2 ∧ Ph g g2 T (ws ++ [v]) := by
  refine ⟨sm_wI (sm_wJ (sm_wI g' 108 (T + ws.length) v.1) 109 (T + ws.length) v.2) 67 59 (I3 (T + ws.length + 1)), ?_, agr_wI (agr_wJ (agr_wI P.a (by unfold SP; omega)) (by unfold SP; omega)) (by unfold SP; omega), ?_, fun i hi => ?_⟩
  · show F_342_0 v.1 v.2 g' = _
    unfold F_342_0
    rw [P.n, stI_I (by omega) (by omega)]; simp only [obs]
    rw [show (sm_wI g' 108 (T + ws.length) v.1).1 67 59 = g'.1 67 59 from rfl, P.n, stJ_I (by omega) (by omega)]; simp only [obs]
    rw [show (sm_wJ (sm_wI g' 108 (T + ws.length) v.1) 109 (T + ws.length) v.2).1 67 59 = g'.1 67 59 from rfl, P.n, show I3 (T + ws.length) + 1 = I3 (T + ws.length + 1) from I3_add _ 1]
  · rw [List.length_append]; rfl
  · rw [List.length_append] at hi
    have hi : i < ws.length + 1 := hi
    rw [show (sm_wI (sm_wJ (sm_wI g' 108 (T + ws.length) v.1) 109 (T + ws.length) v.2) 67 59 (I3 (T + ws.length + 1))).1 108 (T + i) = (sm_wI g' 108 (T + ws.length) v.1).1 108 (T + i) from rfl, show (sm_wI (sm_wJ (sm_wI g' 108 (T + ws.length) v.1) 109 (T + ws.length) v.2) 67 59 (I3 (T + ws.length + 1))).2.1 109 (T + i) = (sm_wJ (sm_wI g' 108 (T + ws.length) v.1) 109 (T + ws.length) v.2).2.1 109 (T + i) from rfl, wI_rd, wJ_rd]
    by_cases q : i = ws.length
    · rw [if_pos (by omega), if_pos (by omega), q, atv_app2 (Nat.le_refl _), Nat.sub_self]; exact ⟨rfl, rfl⟩
    · rw [if_neg (by omega), if_neg (by omega), atv_app1 (by omega)]; exact P.s i (by omega)
theorem stk_agr {g g' : sm_H} {T vp : Nat} {vs : List Val} (S : stk g vp vs) (a : agr (SP T) g g') (l : vp + vs.length ≤ T) : stk g' vp vs := fun i hi => by
  rw [a.1 108 _ (by unfold SP; omega), a.2.1 109 _ (by unfold SP; omega)]
  exact S i hi
theorem R_copy {g g' : sm_H} {T vp i n : Nat} {vs ws : List Val} (P : Ph g g' T ws) (S : stk g vp vs) (hv : vp + vs.length ≤ T) (hi : i + n ≤ vs.length) (hT : T + ws.length + n ≤ 6000) : ∃ g2, F_343 (I3 (vp + i)) (I3 (vp + i + n)) g' = some g2 ∧ Ph g g2 T (ws ++ sub vs i n) := by
  have LL := lp_ex (body := F_343_2B) (P := fun k s => s.1 = I3 (vp + i + n) ∧ s.2.1 = I3 (vp + i + k) ∧ Ph g s.2.2 T (ws ++ sub vs i k)) (Q := fun g2 => Ph g g2 T (ws ++ sub vs i n)) n (fun k s hk p1 => ?_) (fun s p1 => ?_) (I3 (vp + i + n), I3 (vp + i), g') 1000000 ⟨rfl, rfl, by rw [sub_0, List.append_nil]; exact P⟩ (by omega)
  · obtain ⟨g2, e1, e2⟩ := LL
    exact ⟨g2, e1, e2⟩
  · obtain ⟨s1, s2, s3⟩ := s
    obtain ⟨p1, p2, p3⟩ := p1
    have p1 : s1 = I3 (vp + i + n) := p1
    have p2 : s2 = I3 (vp + i + k) := p2
    have p3 : Ph g s3 T (ws ++ sub vs i k) := p3
    subst p1 p2
    have sl : (sub vs i k).length = k := sub_len (by omega)
    have wl : (ws ++ sub vs i k).length = ws.length + k := by rw [List.length_append, sl]
    have S3 := stk_agr S p3.a hv (i + k) (by omega)
    rw [← Nat.add_assoc] at S3
    obtain ⟨g2, c1, c2⟩ := R_push p3 (by omega) (atv vs (i + k))
    refine Or.inl ⟨(I3 (vp + i + n), I3 (vp + i + (k + 1)), g2), ?_, rfl, rfl, ?_⟩
    · show F_343_2B (I3 (vp + i + n), I3 (vp + i + k), s3) = _
      unfold F_343_2B
      rw [if_neg (by rw [I3_le (by omega) (by omega)]; omega), ldI_I (by omega) (by omega), ldJ_I (by omega) (by omega)]; simp only [obs]
      rw [S3.1, S3.2, c1]; simp only [obs]
      rw [show I3 (vp + i + k) + 1 = I3 (vp + i + (k + 1)) from I3_add (vp + i + k) 1]
    · show Ph g g2 T _
      rw [sub_succ (by omega), ← List.append_assoc]; exact c2
  · obtain ⟨s1, s2, s3⟩ := s
    obtain ⟨p1, p2, p3⟩ := p1
    have p1 : s1 = I3 (vp + i + n) := p1
    have p2 : s2 = I3 (vp + i + n) := p2
    subst p1 p2
    refine ⟨s3, ?_, p3⟩
    show F_343_2B (I3 (vp + i + n), I3 (vp + i + n), s3) = _
    unfold F_343_2B
    rw [if_pos (by rw [I3_le (by omega) (by omega)]; omega)]
