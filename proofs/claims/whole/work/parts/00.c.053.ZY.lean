def mvB1 (g : sm_H) (ps : List Int32) (t : Nat) : Bool := all1 (fun k => inR (at0 ps (k + 1)) (tM g t)) (ps.length - 1)
def mvB3 (g : sm_H) (ps : List Int32) (t x : Nat) : Bool := all1 (fun k => decide (at0 (pl g t) (tn (at0 ps (k + 1))) = at0 (hpl g x) k)) (ps.length - 1)
theorem lp_allO {σ ρ : Type} {body : σ → Option (σ ⊕ ρ)} (p : Nat → Bool) (n : Nat) (s : Nat → σ) (r0 : ρ) (r : Option ρ) {f : Nat} (hf : n < f) (h0 : ∀ k, k < n → p k = true → body (s k) = some (.inl (s (k + 1)))) (h1 : ∀ k, k < n → p k = false → body (s k) = some (.inr r0)) (h2 : body (s n) = r.map .inr) : lp body f (s 0) = bif all1 p n then r else some r0 := by
  cases r with
  | some r =>
    rw [lp_all p n s r0 r hf h0 h1 h2]
    cases all1 p n <;> rfl
  | none =>
    cases l : all1 p n with
    | true =>
      have step : ∀ k, k ≤ n → lp body f (s 0) = lp body (f - k) (s k) := by
        intro k
        induction k with
        | zero => intro _; rfl
        | succ k ih =>
          intro hk
          rw [ih (by omega), lp_s (by omega) (h0 k (by omega) (all1_iff.mp l k (by omega)))]
          congr 1
      rw [step n (Nat.le_refl _)]
      have := lp_n (n := f - n - 1) h2
      rw [show f - n - 1 + 1 = f - n by omega] at this; exact this
    | false =>
      have ⟨s1, s2, s3⟩ := fst1_spec (fun k => !p k) n
      have lt : fst1 (fun k => !p k) n < n := by
        rcases (show fst1 (fun k => !p k) n < n ∨ fst1 (fun k => !p k) n = n by omega) with z | z
        · exact z
        · have : all1 p n = true := all1_iff.mpr (fun k hk => by have := s2 k (by omega); simpa using this)
          rw [this] at l; cases l
      have step : ∀ k, k ≤ fst1 (fun k => !p k) n → lp body f (s 0) = lp body (f - k) (s k) := by
        intro k
        induction k with
        | zero => intro _; rfl
        | succ k ih =>
          intro hk
          rw [ih (by omega), lp_s (by omega) (h0 k (by omega) (by have := s2 k (by omega); simpa using this))]
          congr 1
      rw [step _ (Nat.le_refl _)]
      exact lp_e (by omega) (h1 _ lt (by have := s3 lt; simpa using this))
theorem aH1 (g : sm_H) (ps : List Int32) : aH g ps 1 = inR (at0 ps 0) (nH g) := by
  show all1 _ (0 + 1) = _
  rw [all1_succ, all1_0, Bool.true_and]
theorem mk_5 {h g : sm_H} (K : K1 h g) (a b : Int32) (c : Int64) {o p : Nat} {ps : List Int32} (S : fS h (I3 5) 0 b 0 o p ps) (op : oP o p) (ne : o ≠ 35) (P : prR g ps) : ∃ out, OC h (I3 5) 0 b 0 out ∧ OR g (I3 5) a b c out ∧ OK g 5 0 b 0 out := by
  have e7 := S.f7
  have wK := K.1
  have h12 := wK.2.1
  have wT := K.2.2.1
  have wH := K.2.2.2.2.1
  have l20 := S.r.2.1
  have w500 : nH g ≤ 500 := wH.1.2
  have w300 : nT g ≤ 300 := wT.1.2
  have R : F_336 (I3 5) a b c g = ((F_319_0 b g).bind fun q => some (q.1, q.2)) := B336_5 _ _ _
  unfold F_319_0 at R
  have c7 : F_7_0 h = F_7_0 h := rfl
  have bad1 : F_7_0 h = some (1, h) → F_336 (I3 5) a b c g = some (1, g) → ∃ out, OC h (I3 5) 0 b 0 out ∧ OR g (I3 5) a b c out ∧ OK g 5 0 b 0 out := fun z r => ⟨.ref 1, tl_1 z, ⟨g, r, agr_rfl⟩, ⟨by decide, by decide⟩⟩
  conv at c7 => rhs; unfold F_7_0
  rw [e7, if_pos (show (I3 5 : Int32) = 5 by decide), S.f12, C_hasHg wH K.2.2.2.2.2.1] at c7; simp only [obs] at c7
  by_cases q0 : 0 < ps.length
  · rw [if_neg (by rw [P.1, I3_lit, I3_lt (by omega) (by decide)]; omega), show F_314 0 1 g = _ from R_areH wH P (n := 1) (by omega), aH1] at R; simp only [obs] at R
    rw [at1_in q0] at c7
    rcases inR_c (at0 ps 0) (nH g) (by omega) with ⟨x, x1, x2, i⟩ | i
    · have m10 := mn_10 K x1
      have hl := hpl_len g x
      have e12 : h.1 34 12 = I3 x := by rw [S.f12, at1_in q0, x2]
      rw [i, if_neg (by decide), S.f11] at c7; simp only [obs] at c7
      rw [if_neg (not_not_intro (S.w.i h)), C_rsize S.w S.r] at c7; simp only [obs] at c7
      rw [e12, C_mn K x1] at c7; simp only [obs] at c7
      rw [show (1 : Int32) + I3 (tM g (ty g x)) = I3 (1 + tM g (ty g x)) from I3_add 1 _] at c7
      have ld := prR_ld P q0
      rw [x2] at ld
      rw [i, if_neg (by decide), R_isT wT b] at R; simp only [obs] at R
      have n9 := (B9_5 e7).trans (n9_272 K S.f9)
      by_cases q1 : ps.length = 1 + tM g (ty g x)
      · rw [if_pos (by rw [q1])] at c7
        have c7 : F_7 h = some (0, h) := c7
        rcases inR_c b (nT g) (by omega) with ⟨t, t1, rfl, j⟩ | j
        · rw [j] at n9 R
          rw [if_neg (by decide), show ldI g 69 24 0 = _ from ld] at R; simp only [obs] at R
          rw [R_mn K x1] at R; simp only [obs] at R
          rw [P.1, show (1 : Int32) + I3 (tM g (ty g x)) = I3 (1 + tM g (ty g x)) from I3_add 1 _, if_pos (by rw [q1]), show ldI g 69 24 0 = _ from ld] at R; simp only [obs] at R
          have t10 : tM g t ≤ 10 := (wT.2.1 t t1).2.1.2
          have lt := pl_len g t
          have mt : F_226 (I3 t) h = some (I3 (tM g t), h) := by have z := C_tmany wT K.2.2.2.1 t1; rw [(wT.2.1 t t1).2.1.1] at z; exact z
          have n11 : F_11 h = some (b2 (!mvB1 g ps t), h) := by
            have main : F_13 h = some (b2 (!mvB1 g ps t), h) := by
              have L := lp_all (body := F_13_2B) (fun k => inR (at0 ps (k + 1)) (tM g t)) (ps.length - 1) (fun k => (I3 (k + 1), h)) (1, h) (0, h) (f := 1000000) (by omega) (fun k hk e => ?_) (fun k hk e => ?_) ?_
              · refine Eq.trans (show F_13 h = lp F_13_2B 1000000 (I3 (0 + 1), h) from rfl) (L.trans ?_)
                unfold mvB1
                cases all1 (fun k => inR (at0 ps (k + 1)) (tM g t)) (ps.length - 1) <;> rfl
              · obtain ⟨y, y1, y2⟩ := inR_x (by omega) e
                show F_13_2B (I3 (k + 1), h) = _
                unfold F_13_2B
                rw [S.f11]; simp only [obs]
                rw [if_neg (not_not_intro (S.w.i h)), C_rsize S.w S.r]; simp only [obs]
                rw [if_neg (by rw [I3_le (by omega) (by omega)]; omega), S.f11]; simp only [obs]
                rw [if_neg (not_not_intro (S.w.i h)), C_rat S.w S.r (by omega), y2]; simp only [obs]
                rw [if_neg (I3_nn (by omega)), S.f11]; simp only [obs]
                rw [if_neg (not_not_intro (S.w.i h)), C_rat S.w S.r (by omega), y2]; simp only [obs]
                rw [S.f9, mt]; simp only [obs]
                rw [if_pos (by rw [I3_lt (by omega) (by omega)]; exact y1), I3_lit, I3_add]
              · show F_13_2B (I3 (k + 1), h) = _
                unfold F_13_2B F_13_46
                rw [S.f11]; simp only [obs]
                rw [if_neg (not_not_intro (S.w.i h)), C_rsize S.w S.r]; simp only [obs]
                rw [if_neg (by rw [I3_le (by omega) (by omega)]; omega), S.f11]; simp only [obs]
                rw [if_neg (not_not_intro (S.w.i h)), C_rat S.w S.r (by omega)]; simp only [obs]
                rcases I3_cases (at0 ps (k + 1)) with ⟨y, y1, y2⟩ | z
                · rw [y2, inR_I y1] at e
                  rw [y2, if_neg (I3_nn (by omega)), S.f11]; simp only [obs]
                  rw [if_neg (not_not_intro (S.w.i h)), C_rat S.w S.r (by omega), y2]; simp only [obs]
                  rw [S.f9, mt]; simp only [obs]
                  rw [if_neg (by rw [I3_lt (by omega) (by omega)]; exact of_decide_eq_false e)]; rfl
                · rw [if_pos z]; rfl
              · show F_13_2B (I3 (ps.length - 1 + 1), h) = _
                unfold F_13_2B
                rw [S.f11]; simp only [obs]
                rw [if_neg (not_not_intro (S.w.i h)), C_rsize S.w S.r]; simp only [obs]
                rw [if_pos (by rw [I3_le (by omega) (by omega)]; omega)]
            rw [B11_5 e7 (e12 ▸ C_mn K x1), main]; simp only [obs]
            exact z01 h _
          have R1 : F_319_55 (I3 t) (I3 x) 1 g = if mvB1 g ps t = true then (if rs g t = hrs g x then F_319_112 (I3 t) (I3 x) 1 g else some (3, g)) else some (2, g) := by
            have L := lp_allO (body := F_319_55B) (fun k => inR (at0 ps (k + 1)) (tM g t)) (ps.length - 1) (fun k => (I3 t, I3 x, I3 (k + 1), g)) (2, g) (if rs g t = hrs g x then F_319_112 (I3 t) (I3 x) 1 g else some (3, g)) (f := 1000000) (by omega) (fun k hk e => ?_) (fun k hk e => ?_) ?_
            · refine Eq.trans (show F_319_55 (I3 t) (I3 x) 1 g = lp F_319_55B 1000000 (I3 t, I3 x, I3 (0 + 1), g) from rfl) (L.trans ?_)
              unfold mvB1
              cases all1 (fun k => inR (at0 ps (k + 1)) (tM g t)) (ps.length - 1) <;> rfl
            · show F_319_55B (I3 t, I3 x, I3 (k + 1), g) = _
              unfold F_319_55B
              rw [if_neg (by rw [P.1, I3_le (by omega) (by omega)]; omega), prR_ld P (by omega)]; simp only [obs]
              rw [ldI_I (by omega) (by omega), (wT.2.1 t t1).2.1.1]; simp only [obs]
              rw [show F_315 (Int32.toInt64 (at0 ps (k + 1))) 0 (Int32.toInt64 (I3 (tM g t) - 1)) g = some (b2 (!inR (at0 ps (k + 1)) (tM g t)), g) from R_outI (n := tM g t) (by omega) _, e]; simp only [obs]
              rw [if_pos (by decide), I3_lit, I3_add]
            · show F_319_55B (I3 t, I3 x, I3 (k + 1), g) = _
              unfold F_319_55B
              rw [if_neg (by rw [P.1, I3_le (by omega) (by omega)]; omega), prR_ld P (by omega)]; simp only [obs]
              rw [ldI_I (by omega) (by omega), (wT.2.1 t t1).2.1.1]; simp only [obs]
              rw [show F_315 (Int32.toInt64 (at0 ps (k + 1))) 0 (Int32.toInt64 (I3 (tM g t) - 1)) g = some (b2 (!inR (at0 ps (k + 1)) (tM g t)), g) from R_outI (n := tM g t) (by omega) _, e]; simp only [obs]
              rw [if_neg (by decide)]
            · show F_319_55B (I3 t, I3 x, I3 (ps.length - 1 + 1), g) = _
              unfold F_319_55B
              rw [if_pos (by rw [P.1, I3_le (by omega) (by omega)]; omega), ldI_I (by omega) (by omega)]; simp only [obs]
              rw [R_rs K x1]; simp only [obs]
              by_cases q2 : rs g t = hrs g x
              · rw [if_pos (show g.1 72 t = hrs g x from q2), if_pos q2]
              · rw [if_neg (show ¬ g.1 72 t = hrs g x from q2), if_neg q2]; rfl
          rw [R1] at R
          cases l1 : mvB1 g ps t with
          | false =>
            rw [l1] at n11 R
            rw [if_neg (by decide)] at R
            exact ⟨.ref 2, tl_3 c7 n9 n11, ⟨g, R, agr_rfl⟩, ⟨by decide, by decide⟩⟩
          | true =>
            rw [l1] at n11 R
            rw [if_pos rfl] at R
            have hp : ∀ k, k < ps.length - 1 → ∃ y, y < tM g t ∧ at0 ps (k + 1) = I3 y ∧ tn (at0 ps (k + 1)) = y := fun k hk => by
              obtain ⟨y, y1, y2⟩ := inR_x (by omega) (all1_iff.mp l1 k hk)
              exact ⟨y, y1, y2, by rw [y2, tnI (by omega)]⟩
            have n14 : F_14 h = some (b2 (!(decide (rs g t = hrs g x) && mvB3 g ps t x)), h) := by
              have main : F_16 h = some (b2 (!(decide (rs g t = hrs g x) && mvB3 g ps t x)), h) := by
                show F_16_0 h = _
                unfold F_16_0
                rw [S.f9, C_tres wT K.2.2.2.1 t1]; simp only [obs]
                rw [e12, C_rs K x1]; simp only [obs]
                by_cases q2 : rs g t = hrs g x
                · rw [if_pos (show g.1 72 t = hrs g x from q2), decide_eq_true q2, Bool.true_and]
                  have L := lp_all (body := F_16_29B) (fun k => decide (at0 (pl g t) (tn (at0 ps (k + 1))) = at0 (hpl g x) k)) (ps.length - 1) (fun k => (I3 (k + 1), h)) (1, h) (0, h) (f := 1000000) (by omega) (fun k hk e => ?_) (fun k hk e => ?_) ?_
                  · refine Eq.trans (show F_16_29 1 h = lp F_16_29B 1000000 (I3 (0 + 1), h) from rfl) (L.trans ?_)
                    unfold mvB3
                    cases all1 (fun k => decide (at0 (pl g t) (tn (at0 ps (k + 1))) = at0 (hpl g x) k)) (ps.length - 1) <;> rfl
                  · obtain ⟨y, y1, y2, y3⟩ := hp k hk
                    show F_16_29B (I3 (k + 1), h) = _
                    unfold F_16_29B
                    rw [S.f11]; simp only [obs]
                    rw [if_neg (not_not_intro (S.w.i h)), C_rsize S.w S.r]; simp only [obs]
                    rw [if_neg (by rw [I3_le (by omega) (by omega)]; omega), S.f11]; simp only [obs]
                    rw [if_neg (not_not_intro (S.w.i h)), C_rat S.w S.r (by omega), y2, S.f9]; simp only [obs]
                    rw [C_tplace wT K.2.2.2.1 t1 y1]; simp only [obs]
                    rw [e12, show I3 (k + 1) - 1 = I3 k from I3_sub (a := k + 1) (b := 1) (by omega), C_pc K x1 (by omega)]; simp only [obs]
                    have e := of_decide_eq_true e
                    rw [y3, at0_lst y1] at e
                    rw [if_pos e, I3_lit, I3_add]
                  · obtain ⟨y, y1, y2, y3⟩ := hp k hk
                    show F_16_29B (I3 (k + 1), h) = _
                    unfold F_16_29B
                    rw [S.f11]; simp only [obs]
                    rw [if_neg (not_not_intro (S.w.i h)), C_rsize S.w S.r]; simp only [obs]
                    rw [if_neg (by rw [I3_le (by omega) (by omega)]; omega), S.f11]; simp only [obs]
                    rw [if_neg (not_not_intro (S.w.i h)), C_rat S.w S.r (by omega), y2, S.f9]; simp only [obs]
                    rw [C_tplace wT K.2.2.2.1 t1 y1]; simp only [obs]
                    rw [e12, show I3 (k + 1) - 1 = I3 k from I3_sub (a := k + 1) (b := 1) (by omega), C_pc K x1 (by omega)]; simp only [obs]
                    have e := of_decide_eq_false e
                    rw [y3, at0_lst y1] at e
                    rw [if_neg e]
                  · show F_16_29B (I3 (ps.length - 1 + 1), h) = _
                    unfold F_16_29B
                    rw [S.f11]; simp only [obs]
                    rw [if_neg (not_not_intro (S.w.i h)), C_rsize S.w S.r]; simp only [obs]
                    rw [if_pos (by rw [I3_le (by omega) (by omega)]; omega)]
                · rw [if_neg (show ¬ g.1 72 t = hrs g x from q2), decide_eq_false q2]; rfl
              rw [B14_5 e7, main]; simp only [obs]
              exact z01 h _
            by_cases q2 : rs g t = hrs g x
            · rw [if_pos q2] at R
              rw [decide_eq_true q2, Bool.true_and] at n14
              have R3 : F_319_112 (I3 t) (I3 x) 1 g = bif mvB3 g ps t x then (if fm g x = 5 then ((ldI g 81 12000 (24 * I3 x)).bind fun v18 => (F_305 v18 g).bind fun q19 => F_319_185 (I3 t) (I3 x) v18 q19.1 0 q19.2) else F_319_275 (I3 t) (I3 x) g) else some (3, g) := by
                have f38 : fm g x ≤ 38 := (wH.2 x x1).1.2
                have L := lp_allO (body := F_319_112B) (fun k => decide (at0 (pl g t) (tn (at0 ps (k + 1))) = at0 (hpl g x) k)) (ps.length - 1) (fun k => (I3 t, I3 x, I3 (k + 1), g)) (3, g) (if fm g x = 5 then ((ldI g 81 12000 (24 * I3 x)).bind fun v18 => (F_305 v18 g).bind fun q19 => F_319_185 (I3 t) (I3 x) v18 q19.1 0 q19.2) else F_319_275 (I3 t) (I3 x) g) (f := 1000000) (by omega) (fun k hk e => ?_) (fun k hk e => ?_) ?_
                · exact L
                · obtain ⟨y, y1, y2, y3⟩ := hp k hk
                  show F_319_112B (I3 t, I3 x, I3 (k + 1), g) = _
                  unfold F_319_112B
                  rw [if_neg (by rw [P.1, I3_le (by omega) (by omega)]; omega), prR_ld P (by omega), y2]; simp only [obs]
                  rw [show (10 : Int32) * I3 t + I3 y = I3 (10 * t + y) by rw [I3_lit, I3_mul, I3_add], ldI_I (by omega) (by omega)]; simp only [obs]
                  rw [show I3 (k + 1) - 1 = I3 k from I3_sub (a := k + 1) (b := 1) (by omega), R_pc K x1 (by omega)]; simp only [obs]
                  have e := of_decide_eq_true e
                  rw [y3, at0_lst y1] at e
                  rw [if_pos e, I3_lit, I3_add]
                · obtain ⟨y, y1, y2, y3⟩ := hp k hk
                  show F_319_112B (I3 t, I3 x, I3 (k + 1), g) = _
                  unfold F_319_112B
                  rw [if_neg (by rw [P.1, I3_le (by omega) (by omega)]; omega), prR_ld P (by omega), y2]; simp only [obs]
                  rw [show (10 : Int32) * I3 t + I3 y = I3 (10 * t + y) by rw [I3_lit, I3_mul, I3_add], ldI_I (by omega) (by omega)]; simp only [obs]
                  rw [show I3 (k + 1) - 1 = I3 k from I3_sub (a := k + 1) (b := 1) (by omega), R_pc K x1 (by omega)]; simp only [obs]
                  have e := of_decide_eq_false e
                  rw [y3, at0_lst y1] at e
                  rw [if_neg e]
                · show F_319_112B (I3 t, I3 x, I3 (ps.length - 1 + 1), g) = _
                  unfold F_319_112B
                  rw [if_pos (by rw [P.1, I3_le (by omega) (by omega)]; omega), R_fm K x1]; simp only [obs]
                  by_cases q : fm g x = 5
                  · rw [if_pos (show I3 (fm g x) = (5 : Int32) from congrArg I3 q), if_pos q]
                    cases ldI g 81 12000 (24 * I3 x) with
                    | none => rfl
                    | some v =>
                      simp only [obs]
                      cases F_305 v g with
                      | none => rfl
                      | some q => rfl
                  · rw [if_neg (show ¬ I3 (fm g x) = (5 : Int32) by rw [I3_lit, I3_inj (by omega) (by decide)]; exact q), if_neg q]
              rw [R3] at R
              cases l3 : mvB3 g ps t x with
              | false =>
                rw [l3] at n14 R
                exact ⟨.ref 3, tl_4 c7 n9 n11 n14 agr_rfl, ⟨g, R, agr_rfl⟩, ⟨by decide, by decide⟩⟩
              | true =>
                rw [l3] at n14 R
                rw [cond_true] at R
                have hq : ∀ k, k < (hpl g x).length → ∃ j, j < (pl g t).length ∧ at0 ps (1 + k) = I3 j ∧ at0 (pl g t) j = at0 (hpl g x) k := fun k hk => by
                  obtain ⟨y, y1, y2, y3⟩ := hp k (by omega)
                  have := of_decide_eq_true (all1_iff.mp l3 k (by omega))
                  rw [y3] at this
                  exact ⟨y, by omega, by rw [Nat.add_comm]; exact y2, this⟩
                by_cases q5 : fm g x = 5
                ·
                  rw [if_pos q5] at R
                  have wF := K.2.2.2.2.2.2.2.2.2.2.2.2.2.2
                  rw [wfF_0] at wF
                  have fx := wF.1 x x1
                  rw [q5] at fx
                  obtain ⟨p', t', z1, z2, z3, z4, z5, z6, z7, z8, z9⟩ := FS_5 fx
                  have m10' := mn_10 K z1
                  have hl' := hpl_len g p'
                  have ix : ∀ i, i < (hpl g p').length → ∃ j, at0 (prt g x) (1 + i) = I3 j ∧ j + 1 < ps.length ∧ j < (hpl g x).length ∧ at0 (hpl g x) j = at0 (hpl g p') i := fun i hi => by
                    obtain ⟨j, j1, j2, j3⟩ := z9 i hi
                    exact ⟨j, j2, by omega, j1, j3⟩
                  obtain ⟨h2, c1, c2, c3, c4, c5, c6, c8, c9, c10⟩ := C_join K S op ne x1 e12 (by omega) (fun i hi => by obtain ⟨j, j1, j2, -⟩ := ix i (by omega); exact ⟨j, j1, j2⟩) q5
                  obtain ⟨g2, r1, r2, r3⟩ := R_join (t := t) K P x1 z7 z8 (fun i hi => by obtain ⟨j, j1, j2, -⟩ := ix i (by omega); exact ⟨j, j1, j2⟩)
                  have v81 : g.1 81 (24 * x) = I3 p' := by rw [← z8]; exact (at0_lst (f := fun k => g.1 81 (24 * x + k)) (n := pm g x) (i := 0) (by rw [← prt_len]; omega)).symm
                  rw [show (24 : Int32) * I3 x = I3 (24 * x) by rw [I3_lit, I3_mul], ldI_I (by omega) (by omega), v81] at R; simp only [obs] at R
                  rw [R_mn K z1] at R; simp only [obs] at R
                  rw [← hl', r1] at R
                  have jl : (joinL ps (prt g x)).length = 1 + (hpl g p').length := by unfold joinL; rw [List.length_cons, lst_len]; omega
                  refine mk5_end K S t1 z1 c7 n9 n11 n14 c1 c2 c3 c4 c5 c6 c8 (c9.trans z8) rw35 (Or.inl ⟨rfl, rfl⟩) c10 (by omega) R r2 r3 ?_
                  refine (Or.inr (Or.inr (Or.inr (Or.inr (Or.inr (Or.inl ⟨rfl, p', t, z1, t1, rfl, q2.trans z4, rfl, rfl, jl, z8, fun k hk => ?_⟩))))))
                  obtain ⟨j, j1, j2, j3, j4⟩ := ix k hk
                  obtain ⟨i, i1, i2, i3⟩ := hq j j3
                  refine ⟨i, i1, ?_, i3.trans j4⟩
                  rw [Nat.add_comm]
                  show at0 (lst (fun i => at0 ps (tn (at0 (prt g x) (1 + i)) + 1)) ((prt g x).length - 1)) k = _
                  rw [at0_lst (by omega), j1, tnI (by omega), Nat.add_comm j 1]; exact i2
                · rw [if_neg q5] at R
                  have J : F_27 h = some h := by
                    have f38 : fm g x ≤ 38 := (wH.2 x x1).1.2
                    show F_27_0 h = _
                    unfold F_27_0
                    rw [e12, C_fm K x1]; simp only [obs]
                    rw [if_neg (show ¬ I3 (fm g x) = (5 : Int32) by rw [I3_lit, I3_inj (by omega) (by decide)]; exact q5)]
                  exact mk5_end K S t1 x1 c7 n9 n11 n14 J agr_rfl S.f7 S.f8 S.f9 S.f10 S.f11 e12 S.w op S.r q0 R agr_rfl P (Or.inr (Or.inr (Or.inr (Or.inr (Or.inr (Or.inl ⟨rfl, x, t, x1, t1, rfl, q2, rfl, rfl, by omega, x2, hq⟩))))))
            · rw [if_neg q2] at R
              rw [decide_eq_false q2, Bool.false_and] at n14
              exact ⟨.ref 3, tl_4 c7 n9 n11 n14 agr_rfl, ⟨g, R, agr_rfl⟩, ⟨by decide, by decide⟩⟩
        · rw [j] at n9 R
          rw [if_pos (by decide)] at R
          exact ⟨.ref 1, tl_2 c7 n9, ⟨g, R, agr_rfl⟩, ⟨by decide, by decide⟩⟩
      · have q1' : ¬ I3 ps.length = I3 (1 + tM g (ty g x)) := by rw [I3_inj (by omega) (by omega)]; exact q1
        rw [if_neg q1'] at c7
        refine bad1 c7 ?_
        rw [R]
        cases inR b (nT g) with
        | false => rfl
        | true =>
          rw [if_neg (by decide), show ldI g 69 24 0 = _ from ld]; simp only [obs]
          rw [R_mn K x1]; simp only [obs]
          rw [P.1, show (1 : Int32) + I3 (tM g (ty g x)) = I3 (1 + tM g (ty g x)) from I3_add 1 _, if_neg q1']; rfl
    · rw [i] at c7 R
      rw [if_pos (by decide)] at c7 R
      exact bad1 c7 R
  · rw [at1_out (by omega), inR_m1] at c7
    rw [if_pos (by decide)] at c7
    rw [if_pos (by rw [P.1, show ps.length = 0 by omega]; decide)] at R
    exact bad1 c7 R
