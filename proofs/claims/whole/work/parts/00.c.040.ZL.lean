def eB (g : sm_H) (x : Int32) : Bool := inR x (20 + nC g) && B g (tn x) 19
theorem eB_x {g : sm_H} (wK : wfK g) {x : Int32} (h : eB g x = true) : ∃ e, e < 20 + nC g ∧ x = I3 e ∧ B g e 19 = true := by
  have h12 := wK.2.1
  unfold eB at h
  rw [Bool.and_eq_true] at h
  obtain ⟨e, e1, rfl⟩ := inR_x (by omega) h.1
  have h2 := h.2
  rw [show tn (I3 e) = e from I3_clamp (by omega)] at h2
  exact ⟨e, e1, rfl, h2⟩
theorem C_below19 {h g : sm_H} (wK : wfK g) (cK : cK h g) (x : Int32) : F_60 x 19 h = some (b2 (eB g x), h) := by
  have h12 := wK.2.1
  unfold eB
  rcases inR_c x (20 + nC g) (by omega) with ⟨e, e1, rfl, i⟩ | i
  · have := C_belowN wK cK e1 (y := 19) (by omega)
    rw [i, Bool.true_and, show tn (I3 e) = e from I3_clamp (by omega)]
    exact this
  · rw [i, Bool.false_and]
    have e0 : h.1 1 3 = I3 (20 + nC g) := cK.1
    show F_60_0 x 19 h = _
    unfold F_60_0
    rw [rng1 e0 (by omega), i]; rfl
theorem R_below19 {g : sm_H} (wK : wfK g) {x : Nat} (hx : x < 20 + nC g) : F_295 (I3 x) 19 g = some (b2 (B g x 19), g) := R_below wK hx (o := 19) (by decide)
theorem R_eB {g : sm_H} (wK : wfK g) (x : Int32) (X Y : sm_H → Option (Int32 × sm_H)) : ((F_289 x g).bind fun q20 => if q20.1 = 0 then X q20.2 else ((F_295 x 19 q20.2).bind fun q21 => if q21.1 = 0 then X q21.2 else Y q21.2)) = bif eB g x then Y g else X g := by
  have h12 := wK.2.1
  rw [R_kind wK x]; simp only [Option.bind_some]
  unfold eB
  rcases inR_c x (20 + nC g) (by omega) with ⟨e, e1, rfl, i⟩ | i
  · rw [i, if_neg (by decide), R_below19 wK e1, Bool.true_and, show tn (I3 e) = e from I3_clamp (by omega)]; simp only [Option.bind_some]
    cases B g e 19 <;> rfl
  · rw [i]; rfl
theorem mk_19 {h g : sm_H} (K : K1 h g) (a b : Int32) (c : Int64) {o p : Nat} {ps : List Int32} (S : fS h (I3 19) a b 0 o p ps) (op : oP o p) (P : prR g ps) : ∃ out, OC h (I3 19) a b 0 out ∧ OR g (I3 19) a b c out ∧ OK g 19 a b 0 out := by
  have wK := K.1
  have h12 := wK.2.1
  have e7 := S.f7
  refine genA (r := a) (l := [b]) K S op P (by decide) (by decide) (by decide) rfl (inR a (20 + nC g) && eB g b) (fun _ => ?_) (fun z => ?_) (B14_19 e7) (B26_19 e7) (fun z kv => ?_) (fun z => ?_) (fun z kv => ?_) (fun z kv => ?_) (fun kv => ?_)
  · rw [B9_19 e7, S.f8, C_has wK K.2.1]; simp only [Option.bind_some]; rw [S.f9, C_below19 wK K.2.1]; simp only [Option.bind_some]
    cases inR a (20 + nC g) with
    | false => rfl
    | true => cases eB g b <;> rfl
  · subst z; rw [B11_19 e7 (n11d K S)]; rfl
  · subst z
    obtain ⟨u, d1, D0⟩ := D_begin K S op
    obtain ⟨u1, d2, D1⟩ := D_with D0 op b (by decide)
    refine ⟨u1, ?_, D1.d, D1.a⟩
    rw [B29_19 d1 D0.s.f7 (n11d D0.k D0.s)]; unfold F_29_461
    rw [B32_19 D0.s.f7, D0.s.f9, d2]; simp only [Option.bind_some]; rw [D1.s.f8]
  · rw [B336_19]; unfold F_336_257; rw [s335 _ _ _ z, B335_19]; rfl
  · refine ⟨g, ?_, agr_rfl⟩
    rw [B336_19, F_336_257, s335' _ _ _ z, B335_19, if_neg (by decide), R_kind wK a]; simp only [Option.bind_some]; rw [R_eB wK b F_335_306 (fun u => (F_308 a u).bind fun q22 => (F_309 b q22).bind fun q23 => some (0, q23))]
    cases i : inR a (20 + nC g) with
    | false => rfl
    | true =>
      rw [i, Bool.true_and] at kv
      rw [kv]; rfl
  · rw [Bool.and_eq_true] at kv
    obtain ⟨g0, g1, f1, r1, r2, r3, r4⟩ := rr_1 g a b
    refine ⟨g1, ?_, r2, r3, r4⟩
    rw [B336_19, F_336_257, s335' _ _ _ z, B335_19, if_neg (by decide), R_kind wK a, kv.1]; simp only [Option.bind_some]; rw [if_neg (by decide), R_eB wK b F_335_306 (fun u => (F_308 a u).bind fun q22 => (F_309 b q22).bind fun q23 => some (0, q23)), kv.2, cond_true, f1]; simp only [Option.bind_some]; rw [r1]; rfl
  · rw [Bool.and_eq_true] at kv
    obtain ⟨k, k1, rfl⟩ := inR_x (by omega) kv.1
    obtain ⟨e, e1, rfl, e2⟩ := eB_x wK kv.2
    have e0 : 0 < e := by
      rcases Nat.eq_zero_or_pos e with z | z
      · subst z
        rw [show B g 0 19 = false from rfl] at e2; cases e2
      · exact z
    exact ⟨(Or.inr (Or.inr (Or.inr (Or.inr (Or.inr (Or.inr (Or.inr (Or.inr (Or.inr (Or.inr (Or.inr (Or.inr (Or.inr (Or.inr (Or.inr (Or.inr (Or.inr (Or.inr (Or.inl ⟨rfl, rfl, k, e, k1, rfl, e1, rfl, e2, rfl, rfl⟩))))))))))))))))))), ⟨k, rfl, k1⟩, kL_1 e0 e1, len1 _⟩
theorem mk_27 {h g : sm_H} (K : K1 h g) (a b : Int32) (c : Int64) {o p : Nat} {ps : List Int32} (S : fS h (I3 27) 0 b 0 o p ps) (op : oP o p) (P : prR g ps) : ∃ out, OC h (I3 27) 0 b 0 out ∧ OR g (I3 27) a b c out ∧ OK g 27 0 b 0 out := by
  have wK := K.1
  have h12 := wK.2.1
  have wT := K.2.2.1
  have w300 : nT g ≤ 300 := wT.1.2
  have e7 := S.f7
  refine genA (r := rs g (tn b)) (l := 18 :: pl g (tn b)) K S op P (by decide) (by decide) (by decide) rfl (inR b (nT g)) (fun _ => (B9_27 e7).trans (n9_272 K S.f9)) (fun z => ?_) (B14_27 e7) (B26_27 e7) (fun z kv => ?_) (fun z => ?_) (fun z kv => ?_) (fun z kv => ?_) (fun kv => ?_)
  · subst z; rw [B11_27 e7 (n11d K S)]; rfl
  · subst z
    obtain ⟨t, t1, rfl⟩ := inR_x (by omega) kv
    rw [show tn (I3 t) = t from I3_clamp (by omega)]
    obtain ⟨u, d1, D0⟩ := D_begin K S op
    obtain ⟨u1, d2, D1⟩ := D_with D0 op 18 (by decide)
    obtain ⟨u2, d3, D2⟩ := D_type D1 op t1 (Nat.le_of_ble_eq_true rfl)
    refine ⟨u2, ?_, D2.d, D2.a⟩
    rw [B29_27 d1 D0.s.f7 (n11d D0.k D0.s)]; unfold F_29_420
    rw [d2]; simp only [Option.bind_some]; rw [D1.s.f9, d3]; rfl
  · rw [B336_27]; unfold F_336_257; rw [s335 _ _ _ z, B335_27]; rfl
  · refine ⟨g, ?_, agr_rfl⟩
    rw [B336_27, F_336_257, s335' _ _ _ z, B335_27, F_335_320, if_neg (by decide), R_isT wT b, kv]; rfl
  · have kv' := kv
    obtain ⟨t, t1, rfl⟩ := inR_x (by omega) kv
    rw [show tn (I3 t) = t from I3_clamp (by omega)]
    obtain ⟨g0, g1, f1, r1, r2, r3, r4⟩ := rr_1 g (rs g t) 18
    have m10 : tM g t ≤ 10 := (wT.2.1 t t1).2.1.2
    have et : tM g1 t = tM g t := by show tn _ = tn _; rw [r3.1 73 t (by unfold SRd; omega)]
    have ep : pl g1 t = pl g t := by
      show lst _ (tM g1 t) = lst _ (tM g t)
      rw [et]; exact lst_congr (fun k _ => r3.1 74 _ (by unfold SRd; omega))
    have nt : nT g1 = nT g := by show tn _ = tn _; rw [r3.1 67 10 (by unfold SRd; omega)]
    obtain ⟨g2, s1, s2, s3, s4⟩ := R_addType (K1_g K (agr_mono SRd_not r3)) r2 (by rw [nt]; exact t1) (by rw [et]; simp only [List.length_cons, List.length_nil]; omega)
    rw [ep] at s2
    refine ⟨g2, ?_, s2, agr_trans r3 s3, s4.trans r4⟩
    rw [B336_27, F_336_257, s335' _ _ _ z, B335_27, F_335_320, if_neg (by decide), R_isT wT (I3 t), kv']; simp only [Option.bind_some]; rw [if_neg (by decide), ldI_I (by omega) (by omega)]; simp only [Option.bind_some]; rw [f1]; simp only [Option.bind_some]; rw [r1]; simp only [Option.bind_some]; rw [s1]; rfl
  · obtain ⟨t, t1, rfl⟩ := inR_x (by omega) kv
    rw [show tn (I3 t) = t from I3_clamp (by omega)]
    have m10 : tM g t ≤ 10 := (wT.2.1 t t1).2.1.2
    have ln : (pl g t).length = tM g t := lst_len _ _
    exact ⟨(Or.inr (Or.inr (Or.inr (Or.inr (Or.inr (Or.inr (Or.inr (Or.inr (Or.inr (Or.inr (Or.inr (Or.inr (Or.inr (Or.inr (Or.inr (Or.inr (Or.inr (Or.inr (Or.inr (Or.inr (Or.inl ⟨Or.inl rfl, rfl, t, t1, rfl, rfl, rfl⟩))))))))))))))))))))), kR1_rs wT t1, kL_app (kL_1 (q := 18) (by omega) (by omega)) (kL_pl wT t1), by simp only [List.length_cons]; omega⟩
theorem mk_28 {h g : sm_H} (K : K1 h g) (a b : Int32) (c : Int64) {o p : Nat} {ps : List Int32} (S : fS h (I3 28) 0 b 0 o p ps) (op : oP o p) (P : prR g ps) : ∃ out, OC h (I3 28) 0 b 0 out ∧ OR g (I3 28) a b c out ∧ OK g 28 0 b 0 out := by
  have wK := K.1
  have h12 := wK.2.1
  have wT := K.2.2.1
  have w300 : nT g ≤ 300 := wT.1.2
  have e7 := S.f7
  refine genA (r := rs g (tn b)) (l := 18 :: pl g (tn b)) K S op P (by decide) (by decide) (by decide) rfl (inR b (nT g)) (fun _ => (B9_28 e7).trans (n9_272 K S.f9)) (fun z => ?_) (B14_28 e7) (B26_28 e7) (fun z kv => ?_) (fun z => ?_) (fun z kv => ?_) (fun z kv => ?_) (fun kv => ?_)
  · subst z; rw [B11_28 e7 (n11d K S)]; rfl
  · subst z
    obtain ⟨t, t1, rfl⟩ := inR_x (by omega) kv
    rw [show tn (I3 t) = t from I3_clamp (by omega)]
    obtain ⟨u, d1, D0⟩ := D_begin K S op
    obtain ⟨u1, d2, D1⟩ := D_with D0 op 18 (by decide)
    obtain ⟨u2, d3, D2⟩ := D_type D1 op t1 (Nat.le_of_ble_eq_true rfl)
    refine ⟨u2, ?_, D2.d, D2.a⟩
    rw [B29_28 d1 D0.s.f7 (n11d D0.k D0.s)]; unfold F_29_420
    rw [d2]; simp only [Option.bind_some]; rw [D1.s.f9, d3]; rfl
  · rw [B336_28]; unfold F_336_257; rw [s335 _ _ _ z, B335_28]; rfl
  · refine ⟨g, ?_, agr_rfl⟩
    rw [B336_28, F_336_257, s335' _ _ _ z, B335_28, F_335_320, if_neg (by decide), R_isT wT b, kv]; rfl
  · have kv' := kv
    obtain ⟨t, t1, rfl⟩ := inR_x (by omega) kv
    rw [show tn (I3 t) = t from I3_clamp (by omega)]
    obtain ⟨g0, g1, f1, r1, r2, r3, r4⟩ := rr_1 g (rs g t) 18
    have m10 : tM g t ≤ 10 := (wT.2.1 t t1).2.1.2
    have et : tM g1 t = tM g t := by show tn _ = tn _; rw [r3.1 73 t (by unfold SRd; omega)]
    have ep : pl g1 t = pl g t := by
      show lst _ (tM g1 t) = lst _ (tM g t)
      rw [et]; exact lst_congr (fun k _ => r3.1 74 _ (by unfold SRd; omega))
    have nt : nT g1 = nT g := by show tn _ = tn _; rw [r3.1 67 10 (by unfold SRd; omega)]
    obtain ⟨g2, s1, s2, s3, s4⟩ := R_addType (K1_g K (agr_mono SRd_not r3)) r2 (by rw [nt]; exact t1) (by rw [et]; simp only [List.length_cons, List.length_nil]; omega)
    rw [ep] at s2
    refine ⟨g2, ?_, s2, agr_trans r3 s3, s4.trans r4⟩
    rw [B336_28, F_336_257, s335' _ _ _ z, B335_28, F_335_320, if_neg (by decide), R_isT wT (I3 t), kv']; simp only [Option.bind_some]; rw [if_neg (by decide), ldI_I (by omega) (by omega)]; simp only [Option.bind_some]; rw [f1]; simp only [Option.bind_some]; rw [r1]; simp only [Option.bind_some]; rw [s1]; rfl
  · obtain ⟨t, t1, rfl⟩ := inR_x (by omega) kv
    rw [show tn (I3 t) = t from I3_clamp (by omega)]
    have m10 : tM g t ≤ 10 := (wT.2.1 t t1).2.1.2
    have ln : (pl g t).length = tM g t := lst_len _ _
    exact ⟨(Or.inr (Or.inr (Or.inr (Or.inr (Or.inr (Or.inr (Or.inr (Or.inr (Or.inr (Or.inr (Or.inr (Or.inr (Or.inr (Or.inr (Or.inr (Or.inr (Or.inr (Or.inr (Or.inr (Or.inr (Or.inl ⟨Or.inr rfl, rfl, t, t1, rfl, rfl, rfl⟩))))))))))))))))))))), kR1_rs wT t1, kL_app (kL_1 (q := 18) (by omega) (by omega)) (kL_pl wT t1), by simp only [List.length_cons]; omega⟩
theorem mk_34 {h g : sm_H} (K : K1 h g) (a b : Int32) (c : Int64) {o p : Nat} {ps : List Int32} (S : fS h (I3 34) 0 b 0 o p ps) (op : oP o p) (P : prR g ps) : ∃ out, OC h (I3 34) 0 b 0 out ∧ OR g (I3 34) a b c out ∧ OK g 34 0 b 0 out := by
  have wK := K.1
  have h12 := wK.2.1
  have wT := K.2.2.1
  have w300 : nT g ≤ 300 := wT.1.2
  have e7 := S.f7
  refine genA (r := rs g (tn b)) (l := pl g (tn b)) K S op P (by decide) (by decide) (by decide) rfl (inR b (nT g)) (fun _ => (B9_34 e7).trans (n9_272 K S.f9)) (fun z => ?_) (B14_34 e7) (B26_34 e7) (fun z kv => ?_) (fun z => ?_) (fun z kv => ?_) (fun z kv => ?_) (fun kv => ?_)
  · subst z; rw [B11_34 e7 (n11d K S)]; rfl
  · subst z
    obtain ⟨t, t1, rfl⟩ := inR_x (by omega) kv
    rw [show tn (I3 t) = t from I3_clamp (by omega)]
    obtain ⟨u, d1, D0⟩ := D_begin K S op
    obtain ⟨u2, d3, D2⟩ := D_type D0 op t1 (by decide)
    refine ⟨u2, ?_, D2.d, D2.a⟩
    rw [B29_34 d1 D0.s.f7 (n11d D0.k D0.s)]; unfold F_29_411
    rw [D0.s.f9, d3]; rfl
  · rw [B336_34]; unfold F_336_257; rw [s335 _ _ _ z, B335_34]; rfl
  · refine ⟨g, ?_, agr_rfl⟩
    rw [B336_34, F_336_257, s335' _ _ _ z, B335_34, F_335_598, if_neg (by decide), R_isT wT b, kv]; rfl
  · have kv' := kv
    obtain ⟨t, t1, rfl⟩ := inR_x (by omega) kv
    rw [show tn (I3 t) = t from I3_clamp (by omega)]
    obtain ⟨g1, f1, f2, f3, f4⟩ := R_clear g (rs g t)
    have m10 : tM g t ≤ 10 := (wT.2.1 t t1).2.1.2
    have et : tM g1 t = tM g t := by show tn _ = tn _; rw [f3.1 73 t (by unfold SRd; omega)]
    have ep : pl g1 t = pl g t := by
      show lst _ (tM g1 t) = lst _ (tM g t)
      rw [et]; exact lst_congr (fun k _ => f3.1 74 _ (by unfold SRd; omega))
    have nt : nT g1 = nT g := by show tn _ = tn _; rw [f3.1 67 10 (by unfold SRd; omega)]
    obtain ⟨g2, s1, s2, s3, s4⟩ := R_addType (K1_g K (agr_mono SRd_not f3)) f2 (by rw [nt]; exact t1) (by rw [et]; simp only [List.length_nil]; omega)
    rw [ep] at s2
    refine ⟨g2, ?_, s2, agr_trans f3 s3, s4.trans f4⟩
    rw [B336_34, F_336_257, s335' _ _ _ z, B335_34, F_335_598, if_neg (by decide), R_isT wT (I3 t), kv']; simp only [Option.bind_some]; rw [if_neg (by decide), ldI_I (by omega) (by omega)]; simp only [Option.bind_some]; rw [f1]; simp only [Option.bind_some]; rw [s1]; rfl
  · obtain ⟨t, t1, rfl⟩ := inR_x (by omega) kv
    rw [show tn (I3 t) = t from I3_clamp (by omega)]
    have m10 : tM g t ≤ 10 := (wT.2.1 t t1).2.1.2
    have ln : (pl g t).length = tM g t := lst_len _ _
    exact ⟨(Or.inr (Or.inr (Or.inr (Or.inr (Or.inr (Or.inr (Or.inr (Or.inr (Or.inr (Or.inr (Or.inr (Or.inr (Or.inr (Or.inr (Or.inr (Or.inr (Or.inr (Or.inr (Or.inr (Or.inr (Or.inr (Or.inr (Or.inr (Or.inr (Or.inr (Or.inr (Or.inl ⟨rfl, rfl, t, t1, rfl, rfl, rfl⟩))))))))))))))))))))))))))), kR1_rs wT t1, kL_pl wT t1, by omega⟩
theorem refB {h g : sm_H} (wK : wfK g) (cK : cK h g) (a : Int32) : F_57 a h = some (b2 (inR a (20 + nC g) && decide (¬ a < 7)), h) := by
  have h12 := wK.2.1
  show F_57_0 a h = _
  unfold F_57_0 F_57_18 F_57_19; rw [zz0, zz1]
  by_cases q : a < 7
  · rw [if_pos q, decide_eq_false (not_not_intro q), Bool.and_false]; rfl
  · rw [if_neg q, decide_eq_true q, Bool.and_true]
    have n0 : ¬ a < 0 := fun z => q (neg_lt_I3 z (a := 7) (by decide))
    have := rng1 (x := a) (n := 20 + nC g) (a := (some ((0 : Int32), h))) (b := some ((1 : Int32), h)) cK.1 (by omega)
    rw [if_neg n0] at this
    rw [this]; exact cb2
theorem mk_31 {h g : sm_H} (K : K1 h g) (a b : Int32) (c : Int64) {o p : Nat} {ps : List Int32} (S : fS h (I3 31) a 0 0 o p ps) (op : oP o p) (P : prR g ps) : ∃ out, OC h (I3 31) a 0 0 out ∧ OR g (I3 31) a b c out ∧ OK g 31 a 0 0 out := by
  have wK := K.1
  have h12 := wK.2.1
  have e7 := S.f7
  have RR : F_291 a g = some (b2 (decide (¬ a < 7)), g) := by
    show F_291_0 a g = _
    unfold F_291_0
    by_cases q : a < 7
    · rw [if_pos q, decide_eq_false (not_not_intro q)]; rfl
    · rw [if_neg q, decide_eq_true q]; rfl
  refine genA (r := 1) (l := [7]) K S op P (by decide) (by decide) (by decide) rfl (inR a (20 + nC g) && decide (¬ a < 7)) (fun _ => ?_) (fun z => ?_) (B14_31 e7) (B26_31 e7) (fun z kv => ?_) (fun z => ?_) (fun z kv => ?_) (fun z kv => ?_) (fun kv => ?_)
  · rw [B9_31 e7, S.f8, refB wK K.2.1]; simp only [Option.bind_some, F_9_453, true_or, or_true, if_true]
    exact notb h _
  · subst z; rw [B11_31 e7 (n11d K S)]; rfl
  · subst z
    obtain ⟨u, d1, D0⟩ := D_begin K S op
    obtain ⟨u1, d2, D1⟩ := D_with D0 op 7 (by decide)
    refine ⟨u1, ?_, D1.d, D1.a⟩
    rw [B29_31 d1 D0.s.f7 (n11d D0.k D0.s)]; unfold F_29_461
    rw [B32_31 D0.s.f7, d2]; rfl
  · rw [B336_31]; unfold F_336_257; rw [s335 _ _ _ z, B335_31]; rfl
  · refine ⟨g, ?_, agr_rfl⟩
    rw [B336_31, F_336_257, s335' _ _ _ z, B335_31, if_neg (by decide), R_kind wK a]; simp only [Option.bind_some]; rw [RR]; simp only [Option.bind_some]
    revert kv
    cases inR a (20 + nC g) <;> cases decide (¬ a < 7) <;> intro kv <;> first | rfl | cases kv
  · rw [Bool.and_eq_true] at kv
    obtain ⟨g0, g1, f1, r1, r2, r3, r4⟩ := rr_1 g 1 7
    refine ⟨g1, ?_, r2, r3, r4⟩
    rw [B336_31, F_336_257, s335' _ _ _ z, B335_31, if_neg (by decide), R_kind wK a, kv.1]; simp only [Option.bind_some]; rw [if_neg (by decide), RR, kv.2]; simp only [Option.bind_some]; rw [if_neg (by decide), f1]; simp only [Option.bind_some]; rw [r1]; rfl
  · rw [Bool.and_eq_true] at kv
    obtain ⟨k, k1, rfl⟩ := inR_x (by omega) kv.1
    have k7 : 7 ≤ k := by
      have := of_decide_eq_true kv.2
      rw [I3_lit, I3_lt (by omega) (by decide)] at this; omega
    exact ⟨(Or.inr (Or.inr (Or.inr (Or.inr (Or.inr (Or.inr (Or.inr (Or.inr (Or.inr (Or.inr (Or.inr (Or.inr (Or.inr (Or.inr (Or.inr (Or.inr (Or.inr (Or.inr (Or.inr (Or.inr (Or.inr (Or.inr (Or.inr (Or.inl ⟨rfl, rfl, ⟨k, k7, k1, rfl⟩, rfl, rfl⟩)))))))))))))))))))))))), ⟨1, rfl, by omega⟩, kL_1 (q := 7) (by omega) (by omega), len1 _⟩
theorem mk_32 {h g : sm_H} (K : K1 h g) (a b : Int32) (c : Int64) {o p : Nat} {ps : List Int32} (S : fS h (I3 32) 0 0 0 o p ps) (op : oP o p) (P : prR g ps) : ∃ out, OC h (I3 32) 0 0 0 out ∧ OR g (I3 32) a b c out ∧ OK g 32 0 0 0 out := by
  have e7 := S.f7
  refine genA (r := 1) (l := [7, 7]) K S op P (by decide) (by decide) (by decide) rfl true (fun _ => B9_32 e7) (fun z => ?_) (B14_32 e7) (B26_32 e7) (fun z kv => ?_) (fun z => ?_) (fun z kv => by cases kv) (fun z kv => ?_) (fun kv => ?_)
  · subst z; rw [B11_32 e7 (n11d K S)]; rfl
  · subst z
    obtain ⟨u, d1, D0⟩ := D_begin K S op
    obtain ⟨u1, d2, D1⟩ := D_with D0 op 7 (by decide)
    obtain ⟨u2, d3, D2⟩ := D_with D1 op 7 (by decide)
    refine ⟨u2, ?_, D2.d, D2.a⟩
    rw [B29_32 d1 D0.s.f7 (n11d D0.k D0.s)]; unfold F_29_461
    rw [B32_32 D0.s.f7, d2]; simp only [Option.bind_some]; rw [d3]; rfl
  · rw [B336_32]; unfold F_336_257; rw [s335 _ _ _ z, B335_32]; rfl
  · obtain ⟨g0, g1, g2, f1, r1, r1', r2, r3, r4⟩ := rr_2 g 1 7 7
    refine ⟨g2, ?_, r2, r3, r4⟩
    rw [B336_32, F_336_257, s335' _ _ _ z, B335_32, if_neg (by decide), f1]; simp only [Option.bind_some]; rw [r1]; simp only [Option.bind_some]; rw [r1']; rfl
  · exact ⟨(Or.inr (Or.inr (Or.inr (Or.inr (Or.inr (Or.inr (Or.inr (Or.inr (Or.inr (Or.inr (Or.inr (Or.inr (Or.inr (Or.inr (Or.inr (Or.inr (Or.inr (Or.inr (Or.inr (Or.inr (Or.inr (Or.inr (Or.inr (Or.inr (Or.inl ⟨rfl, rfl, rfl, rfl⟩))))))))))))))))))))))))), ⟨1, rfl, by omega⟩, kL_app (kL_1 (q := 7) (by omega) (by omega)) (kL_1 (q := 7) (by omega) (by omega)), len2 _ _⟩
theorem mk_33 {h g : sm_H} (K : K1 h g) (a b : Int32) (c : Int64) {o p : Nat} {ps : List Int32} (S : fS h (I3 33) 0 0 0 o p ps) (op : oP o p) (P : prR g ps) : ∃ out, OC h (I3 33) 0 0 0 out ∧ OR g (I3 33) a b c out ∧ OK g 33 0 0 0 out := by
  have e7 := S.f7
  refine genA (r := 5) (l := [19]) K S op P (by decide) (by decide) (by decide) rfl true (fun _ => B9_33 e7) (fun z => ?_) (B14_33 e7) (B26_33 e7) (fun z kv => ?_) (fun z => ?_) (fun z kv => by cases kv) (fun z kv => ?_) (fun kv => ?_)
  · subst z; rw [B11_33 e7 (n11d K S)]; rfl
  · subst z
    obtain ⟨u, d1, D0⟩ := D_begin K S op
    obtain ⟨u1, d2, D1⟩ := D_with D0 op 19 (by decide)
    refine ⟨u1, ?_, D1.d, D1.a⟩
    rw [B29_33 d1 D0.s.f7 (n11d D0.k D0.s)]; unfold F_29_461
    rw [B32_33 D0.s.f7, d2]; rfl
  · rw [B336_33]; unfold F_336_257; rw [s335 _ _ _ z, B335_33]; rfl
  · obtain ⟨g0, g1, f1, r1, r2, r3, r4⟩ := rr_1 g 5 19
    refine ⟨g1, ?_, r2, r3, r4⟩
    rw [B336_33, F_336_257, s335' _ _ _ z, B335_33, if_neg (by decide), f1]; simp only [Option.bind_some]; rw [r1]; rfl
  · exact ⟨(Or.inr (Or.inr (Or.inr (Or.inr (Or.inr (Or.inr (Or.inr (Or.inr (Or.inr (Or.inr (Or.inr (Or.inr (Or.inr (Or.inr (Or.inr (Or.inr (Or.inr (Or.inr (Or.inr (Or.inr (Or.inr (Or.inr (Or.inr (Or.inr (Or.inr (Or.inl ⟨rfl, rfl, rfl, rfl⟩)))))))))))))))))))))))))), ⟨5, rfl, by omega⟩, kL_1 (q := 19) (by omega) (by omega), len1 _⟩
