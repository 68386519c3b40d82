theorem C_lacks17 {h g : sm_H} (K : K1 h g) {a b : Int32} {c : Int64} {o p : Nat} {ps : List Int32} (S : fS h (I3 17) a b c o p ps) : F_7 h = some (b2 (!(decide (0 < ps.length) && aH g ps ps.length)), h) := by
  have l20 := S.r.2.1
  have Z := C_rsize S.w S.r
  have H := C_lacksH0 K S
  show F_7_0 h = _
  unfold F_7_0 F_7_135 F_7_140
  rw [S.f7, if_neg (by decide), if_neg (by decide), if_pos (by decide), S.f11]; simp only [obs, true_or, or_true, if_true]
  rw [if_neg (not_not_intro (S.w.i h)), Z]; simp only [obs]
  by_cases q : 0 < ps.length
  · rw [if_neg (by rw [I3_lit, I3_inj (by omega) (by decide)]; omega), decide_eq_true q, H]; simp only [obs]
    cases aH g ps ps.length <;> rfl
  · rw [if_pos (by rw [show ps.length = 0 by omega]; rfl), decide_eq_false q]; rfl
def swB (g : sm_H) (ps : List Int32) (x : Nat) : Bool := all1 (fun k => decide (ty g (tn (at0 ps (k + 1))) = ty g x)) (ps.length - 1)
def i1B (l : List Int32) : Bool := decide (0 < l.length) && decide (at0 l 0 = 5)
theorem mk_17 {h g : sm_H} (K : K1 h g) (a b : Int32) (c : Int64) {o p : Nat} {ps : List Int32} (S : fS h (I3 17) 0 0 0 o p ps) (op : oP o p) (P : prR g ps) : ∃ out, OC h (I3 17) 0 0 0 out ∧ OR g (I3 17) a b c out ∧ OK g 17 0 0 0 out := by
  have e7 := S.f7
  have wK := K.1
  have h12 := wK.2.1
  have l20 := S.r.2.1
  have w500 : nH g ≤ 500 := K.2.2.2.2.1.1.2
  have w300 : nT g ≤ 300 := K.2.2.1.1.2
  have c7 := C_lacks17 K S
  have R : F_336 (I3 17) a b c g = ((F_331_0 g).bind fun q => some (q.1, q.2)) := B336_17 _ _ _
  unfold F_331_0 at R
  by_cases q0 : 0 < ps.length
  · rw [if_neg (by rw [P.1, I3_lit, I3_lt (by omega) (by decide)]; omega), P.1, R_areH K.2.2.2.2.1 P (Nat.le_refl _)] at R; simp only [obs] at R
    rw [decide_eq_true q0, Bool.true_and] at c7
    cases i : aH g ps ps.length with
    | false =>
      rw [i] at c7 R
      exact ⟨.ref 1, tl_1 c7, ⟨g, R, agr_rfl⟩, ⟨by decide, by decide⟩⟩
    | true =>
      rw [i] at c7 R
      have hp : ∀ k, k < ps.length → ∃ y, y < nH g ∧ at0 ps k = I3 y ∧ tn (at0 ps k) = y := fun k hk => by
        obtain ⟨y, y1, y2⟩ := inR_x (by omega) (all1_iff.mp i k hk)
        exact ⟨y, y1, y2, by rw [y2, tnI (by omega)]⟩
      obtain ⟨x, x1, x2, -⟩ := hp 0 q0
      have e12 : h.1 34 12 = I3 x := by rw [S.f12, at1_in q0, x2]
      have m10 := mn_10 K x1
      have hl := hpl_len g x
      have ld := prR_ld P q0
      rw [x2] at ld
      rw [if_neg (by decide), show ldI g 69 24 0 = _ from ld] at R; simp only [obs] at R
      have tx := ty_lt K x1
      have n11 : F_11 h = some (0, h) := B11_17 e7 (e12 ▸ C_mn K x1)
      have n14 : F_14 h = some (b2 (!(swB g ps x && i1B (hpl g x))), h) := by
        have main : F_21 h = some (b2 (!(swB g ps x && i1B (hpl g x))), h) := by
          have L := lp_all (body := F_21_2B) (fun k => decide (ty g (tn (at0 ps (k + 1))) = ty g x)) (ps.length - 1) (fun k => (I3 (k + 1), h)) (1, h) (b2 (!i1B (hpl g x)), h) (f := 1000000) (by omega) (fun k hk e => ?_) (fun k hk e => ?_) ?_
          · refine Eq.trans (show F_21 h = lp F_21_2B 1000000 (I3 (0 + 1), h) from rfl) (L.trans ?_)
            unfold swB
            cases all1 (fun k => decide (ty g (tn (at0 ps (k + 1))) = ty g x)) (ps.length - 1) <;> rfl
          · obtain ⟨y, y1, y2, y3⟩ := hp (k + 1) (by omega)
            have ty1 := ty_lt K y1
            show F_21_2B (I3 (k + 1), h) = _
            unfold F_21_2B
            rw [S.f11]; simp only [obs]
            rw [if_neg (not_not_intro (S.w.i h)), C_rsize S.w S.r]; simp only [obs]
            rw [if_neg (by rw [I3_le (by omega) (by omega)]; omega), S.f11]; simp only [obs]
            rw [if_neg (not_not_intro (S.w.i h)), C_rat S.w S.r (by omega), y2]; simp only [obs]
            rw [C_ty K y1]; simp only [obs]
            rw [e12, C_ty K x1]; simp only [obs]
            have e := of_decide_eq_true e
            rw [y3] at e
            rw [if_pos (by rw [e]), I3_lit, I3_add]
          · obtain ⟨y, y1, y2, y3⟩ := hp (k + 1) (by omega)
            have ty1 := ty_lt K y1
            show F_21_2B (I3 (k + 1), h) = _
            unfold F_21_2B
            rw [S.f11]; simp only [obs]
            rw [if_neg (not_not_intro (S.w.i h)), C_rsize S.w S.r]; simp only [obs]
            rw [if_neg (by rw [I3_le (by omega) (by omega)]; omega), S.f11]; simp only [obs]
            rw [if_neg (not_not_intro (S.w.i h)), C_rat S.w S.r (by omega), y2]; simp only [obs]
            rw [C_ty K y1]; simp only [obs]
            rw [e12, C_ty K x1]; simp only [obs]
            have e := of_decide_eq_false e
            rw [y3] at e
            rw [if_neg (by rw [I3_inj (by omega) (by omega)]; exact e)]
          · show F_21_2B (I3 (ps.length - 1 + 1), h) = _
            unfold F_21_2B F_21_71
            rw [S.f11]; simp only [obs, true_or, or_true, if_true]
            rw [if_neg (not_not_intro (S.w.i h)), C_rsize S.w S.r]; simp only [obs]
            rw [if_pos (by rw [I3_le (by omega) (by omega)]; omega), e12]
            unfold i1B
            by_cases q : 0 < (hpl g x).length
            · rw [show F_46 (I3 x) 0 h = _ from C_pc K x1 (k := 0) q, decide_eq_true q]; simp only [obs]
              by_cases q1 : at0 (hpl g x) 0 = 5
              · rw [if_pos q1, decide_eq_true q1]; rfl
              · rw [if_neg q1, decide_eq_false q1]; rfl
            · rw [C_pc_o K x1 (x := 0) (by show inR (I3 0) _ = _; rw [inR_I (by omega)]; exact decide_eq_false q), decide_eq_false q]; simp only [obs]
              rw [if_neg (by decide)]; rfl
        rw [B14_17 e7, main]; simp only [obs]
        exact z01 h _
      obtain ⟨g0, f1, E0⟩ := E_clear K (hrs g x)
      obtain ⟨g1, f2, E1⟩ := E_all E0 x1 (by decide)
      rw [List.nil_append] at E1
      have RL : F_331_31 (I3 x) 1 g = some (bif swB g ps x && i1B (hpl g x) then (0, g1) else (3, g)) := by
        have L := lp_all (body := F_331_31B) (fun k => decide (ty g (tn (at0 ps (k + 1))) = ty g x)) (ps.length - 1) (fun k => (I3 x, I3 (k + 1), g)) (3, g) (bif i1B (hpl g x) then (0, g1) else (3, g)) (f := 1000000) (by omega) (fun k hk e => ?_) (fun k hk e => ?_) ?_
        · refine Eq.trans (show F_331_31 (I3 x) 1 g = lp F_331_31B 1000000 (I3 x, I3 (0 + 1), g) from rfl) (L.trans ?_)
          unfold swB
          cases all1 (fun k => decide (ty g (tn (at0 ps (k + 1))) = ty g x)) (ps.length - 1) <;> rfl
        · obtain ⟨y, y1, y2, y3⟩ := hp (k + 1) (by omega)
          have ty1 := ty_lt K y1
          show F_331_31B (I3 x, I3 (k + 1), g) = _
          unfold F_331_31B
          rw [if_neg (by rw [P.1, I3_le (by omega) (by omega)]; omega), prR_ld P (by omega), y2]; simp only [obs]
          rw [R_ty K y1]; simp only [obs]
          rw [R_ty K x1]; simp only [obs]
          have e := of_decide_eq_true e
          rw [y3] at e
          rw [if_pos (by rw [e]), I3_lit, I3_add]
        · obtain ⟨y, y1, y2, y3⟩ := hp (k + 1) (by omega)
          have ty1 := ty_lt K y1
          show F_331_31B (I3 x, I3 (k + 1), g) = _
          unfold F_331_31B
          rw [if_neg (by rw [P.1, I3_le (by omega) (by omega)]; omega), prR_ld P (by omega), y2]; simp only [obs]
          rw [R_ty K y1]; simp only [obs]
          rw [R_ty K x1]; simp only [obs]
          have e := of_decide_eq_false e
          rw [y3] at e
          rw [if_neg (by rw [I3_inj (by omega) (by omega)]; exact e)]
        · show F_331_31B (I3 x, I3 (ps.length - 1 + 1), g) = _
          unfold F_331_31B F_331_85
          rw [if_pos (by rw [P.1, I3_le (by omega) (by omega)]; omega), R_mn K x1]; simp only [obs]
          unfold i1B
          by_cases q : 0 < (hpl g x).length
          · rw [if_neg (by rw [I3_lit, I3_inj (by omega) (by decide)]; omega), show F_306 (I3 x) 0 g = _ from R_pc K x1 (k := 0) q, decide_eq_true q]; simp only [obs]
            by_cases q1 : at0 (hpl g x) 0 = 5
            · rw [if_pos q1, decide_eq_true q1, R_rs K x1]; simp only [obs]
              rw [f1]; simp only [obs]
              rw [E_many E0 x1]; simp only [obs]
              rw [f2]; rfl
            · rw [if_neg q1, decide_eq_false q1]; rfl
          · rw [if_pos (show I3 (tM g (ty g x)) = (0 : Int32) from congrArg I3 (show tM g (ty g x) = 0 by omega)), decide_eq_false q]; rfl
      rw [RL] at R
      cases l : swB g ps x && i1B (hpl g x) with
      | false =>
        rw [l] at n14 R
        exact ⟨.ref 3, tl_4 c7 (B9_17 e7) n11 n14 agr_rfl, ⟨g, R, agr_rfl⟩, ⟨by decide, by decide⟩⟩
      | true =>
        rw [l] at n14 R
        refine finX K S op P x1 (by rw [at1_in q0, x2]) c7 (B9_17 e7) n11 n14 (B26_17 e7) (fun z1 z2 z3 => B29_17 z1 z2 z3) R E1 ?_
        rw [Bool.and_eq_true] at l
        obtain ⟨l1, l2⟩ := l
        unfold i1B at l2
        rw [Bool.and_eq_true, decide_eq_true_eq, decide_eq_true_eq] at l2
        refine (Or.inr (Or.inr (Or.inr (Or.inr (Or.inr (Or.inr (Or.inr (Or.inr (Or.inr (Or.inr (Or.inr (Or.inr (Or.inr (Or.inr (Or.inr (Or.inr (Or.inl ⟨rfl, x, (hpl g x).drop 1, x1, q0, x2, fun k hk => ?_, cons_drop l2.1 l2.2, rfl, rfl⟩)))))))))))))))))
        obtain ⟨y, y1, y2, y3⟩ := hp k hk
        refine ⟨y, y1, y2, ?_⟩
        cases k with
        | zero =>
          rw [x2, I3_inj (by omega) (by omega)] at y2
          rw [y2]
        | succ k =>
          have := of_decide_eq_true (all1_iff.mp l1 k (by omega))
          rw [y3] at this; exact this
  · rw [decide_eq_false q0, Bool.false_and] at c7
    rw [if_pos (by rw [P.1, show ps.length = 0 by omega]; decide)] at R
    exact ⟨.ref 1, tl_1 c7, ⟨g, R, agr_rfl⟩, ⟨by decide, by decide⟩⟩
