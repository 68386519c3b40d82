def lpB (g : sm_H) (ps : List Int32) (t n : Nat) : Bool := all1 (fun i => P1 g ps t i && P2 g (vrs g ps n ++ pl g t) ps t i) n && hasK ps n
theorem C_loop {h g : sm_H} (K : K1 h g) {a : Int32} {c : Int64} {o p n t : Nat} {ps : List Int32} (S : fS h (I3 18) a (I3 t) c o p ps) (V : vS h (vrs g ps n)) (L : LPt g ps n) (ht : t < nT g) : F_22_8 0 0 h = some (b2 (!lpB g ps t n), h) := by
  have n4 := L.n4
  have ll := L.l
  have vl := vrs_len g ps n
  have wT := K.2.2.1
  have LL := lp_all (body := F_22_8B) (fun i => P1 g ps t i && P2 g (vrs g ps n ++ pl g t) ps t i) n (fun k => (b2 (hasK ps k), I3 (4 * k), h)) (1, h) (b2 (!hasK ps n), h) (f := 1000000) (by omega) (fun k hk e => ?_) (fun k hk e => ?_) ?_
  · refine Eq.trans (show F_22_8 0 0 h = lp F_22_8B 1000000 (b2 (hasK ps 0), I3 (4 * 0), h) from rfl) (LL.trans ?_)
    unfold lpB
    cases all1 (fun i => P1 g ps t i && P2 g (vrs g ps n ++ pl g t) ps t i) n <;> rfl
  rotate_left 2
  · show F_22_8B (b2 (hasK ps n), I3 (4 * n), h) = _
    unfold F_22_8B F_22_200
    simp only [true_or, or_true, if_true]
    rw [S.f11]; simp only [obs]
    rw [if_neg (not_not_intro (S.w.i h)), C_rsize S.w S.r]; simp only [obs]
    rw [if_pos (by rw [ll, I3_le (by omega) (by omega)]; omega)]
    cases hasK ps n <;> rfl
  all_goals
    have hd : F_22_8B (b2 (hasK ps k), I3 (4 * k), h) = F_22_79 (I3 (4 * k)) (pt ps k 0) (pt ps k 1) (pt ps k 2) (pt ps k 3) (b2 (hasK ps (k + 1))) h := by
      unfold F_22_8B
      rw [S.f11]; simp only [obs]
      rw [if_neg (not_not_intro (S.w.i h)), C_rsize S.w S.r]; simp only [obs]
      rw [if_neg (by rw [I3_le (by omega) (by omega)]; omega), S.f11]; simp only [obs]
      rw [if_neg (not_not_intro (S.w.i h)), C_rat S.w S.r (by omega)]; simp only [obs]
      rw [S.f11]; simp only [obs]
      rw [if_neg (not_not_intro (S.w.i h)), show I3 (4 * k) + 1 = I3 (4 * k + 1) from I3_add _ 1, C_rat S.w S.r (by omega)]; simp only [obs]
      rw [S.f11]; simp only [obs]
      rw [if_neg (not_not_intro (S.w.i h)), show I3 (4 * k) + 2 = I3 (4 * k + 2) from I3_add _ 2, C_rat S.w S.r (by omega)]; simp only [obs]
      rw [S.f11]; simp only [obs]
      rw [if_neg (not_not_intro (S.w.i h)), show I3 (4 * k) + 3 = I3 (4 * k + 3) from I3_add _ 3, C_rat S.w S.r (by omega)]; simp only [obs]
      rw [hasK_s]
      unfold F_22_74
      cases hasK ps k with
      | true => rw [if_neg (by decide)]; rfl
      | false =>
        rw [if_pos (by decide)]
        by_cases q : pt ps k 2 = -1
        · rw [if_pos (show at0 ps (4 * k + 2) = -1 from q), decide_eq_true q]; rfl
        · rw [if_neg (show ¬ at0 ps (4 * k + 2) = -1 from q), decide_eq_false q]; rfl
    have CI := C_init K L hk ht S.f9
    have R1 := C_round K V (by omega) ht S.f9 (L.h k 1 hk (by omega))
    have R2 := C_round K V (by omega) ht S.f9 (L.h k 2 hk (by omega))
    have R3 := C_round K V (by omega) ht S.f9 (L.h k 3 hk (by omega))
    have nx : I3 (4 * k) + 4 = I3 (4 * (k + 1)) := I3_add _ 4
    have t154 : F_22_154 (b2 (hasK ps (k + 1))) (I3 (4 * k)) (pt ps k 3) h = if cD g ps t k = true then some (.inl (b2 (hasK ps (k + 1)), I3 (4 * (k + 1)), h)) else some (.inr (1, h)) := by
      unfold F_22_154 F_22_185 cD
      rw [nx]
      refine L.c hk (show 3 < 4 by omega) (fun e0 => ?_) (fun y y1 y2 y3 y4 => ?_)
      · rw [if_pos e0, decide_eq_true e0]; rfl
      · rw [if_neg y4, decide_eq_false y4, Bool.false_or, y3, show F_44 (pt ps k 3) h = some (hrs g y, h) by rw [y2]; exact C_rs K y1]; simp only [obs]
        rw [S.f9, C_tres wT K.2.2.2.1 ht]; simp only [obs]
        by_cases q : hrs g y = rs g t
        · rw [if_pos (show hrs g y = g.1 72 t from q), if_pos (decide_eq_true q)]
        · rw [if_neg (show ¬ hrs g y = g.1 72 t from q), if_neg (by rw [decide_eq_true_eq]; exact q)]
    have t92 : F_22_92 (b2 (hasK ps (k + 1))) (I3 (4 * k)) (pt ps k 0) (pt ps k 1) (pt ps k 2) (pt ps k 3) h = if (cA g ps k && cE g ps t k && (cFz g (vrs g ps n ++ pl g t) ps k 1 && (cFz g (vrs g ps n ++ pl g t) ps k 2 && cFz g (vrs g ps n ++ pl g t) ps k 3)) && (cC g ps k && cD g ps t k)) = true then some (.inl (b2 (hasK ps (k + 1)), I3 (4 * (k + 1)), h)) else some (.inr (1, h)) := by
      unfold F_22_92 F_22_131 F_22_102
      rw [CI]; simp only [obs]
      cases cA g ps k && cE g ps t k with
      | false => rfl
      | true =>
        rw [if_pos (by decide), R1]; simp only [obs]
        unfold cFz
        cases (decide (pt ps k 1 = -1) || fitB (hpl g (tn (pt ps k 1))) (vrs g ps n ++ pl g t) 0 0) with
        | false => rfl
        | true =>
          rw [if_pos (by decide), R2]; simp only [obs]
          cases (decide (pt ps k 2 = -1) || fitB (hpl g (tn (pt ps k 2))) (vrs g ps n ++ pl g t) 0 0) with
          | false => rfl
          | true =>
            rw [if_pos (by decide), R3]; simp only [obs]
            cases (decide (pt ps k 3 = -1) || fitB (hpl g (tn (pt ps k 3))) (vrs g ps n ++ pl g t) 0 0) with
            | false => rfl
            | true =>
              rw [if_pos (by decide), t154]
              simp only [Bool.true_and]
              refine L.c hk (show 2 < 4 by omega) (fun e0 => ?_) (fun y y1 y2 y3 y4 => ?_)
              · rw [if_pos e0, show cC g ps k = true by unfold cC; rw [decide_eq_true e0]; rfl, Bool.true_and]
              · rw [if_neg y4, show F_44 (pt ps k 2) h = some (hrs g y, h) by rw [y2]; exact C_rs K y1]; simp only [obs]
                by_cases q : hrs g y = 1
                · rw [if_pos q, t154, show cC g ps k = true by unfold cC; rw [y3, decide_eq_true q, Bool.or_true], Bool.true_and]
                · rw [if_neg q, show cC g ps k = false by unfold cC; rw [y3, decide_eq_false q, decide_eq_false y4]; rfl]; rfl
    have t79 : F_22_8B (b2 (hasK ps k), I3 (4 * k), h) = if (P1 g ps t k && P2 g (vrs g ps n ++ pl g t) ps t k) = true then some (.inl (b2 (hasK ps (k + 1)), I3 (4 * (k + 1)), h)) else some (.inr (1, h)) := by
      rw [hd]
      unfold F_22_79 F_22_102
      rw [t92]
      unfold P1 P2
      by_cases q3 : pt ps k 3 = -1
      · rw [if_pos q3, show cB ps k = true by unfold cB; rw [decide_eq_true q3]; rfl]
        cases cA g ps k <;> cases cE g ps t k <;> cases cC g ps k <;> cases cD g ps t k <;> simp
      · rw [if_neg q3]
        by_cases q2 : pt ps k 2 = -1
        · rw [if_pos q2, show cB ps k = false by unfold cB; rw [decide_eq_true q2, decide_eq_false q3]; rfl]
          cases cA g ps k <;> rfl
        · rw [if_neg q2, show cB ps k = true by unfold cB; rw [decide_eq_false q2]; simp]
          cases cA g ps k <;> cases cE g ps t k <;> cases cC g ps k <;> cases cD g ps t k <;> simp
    show F_22_8B (b2 (hasK ps k), I3 (4 * k), h) = _
    rw [t79]
    simp only [e]
    rfl
