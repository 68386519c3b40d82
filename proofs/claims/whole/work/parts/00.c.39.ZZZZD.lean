def OP (o : Nat) (h g : sm_H) : Prop := h.1 55 16 = I3 o ∧ g.1 67 86 = I3 o ∧ o ≤ 20
section
variable {n : Nat} {bt : Nat → Nat} {o T k : Nat} {nm : Nat → Int64} {kd : List Int32} {h g : sm_H}
theorem OP_x (p : OP o h g) {h1 g1 : sm_H} {P Q : Nat → Nat → Prop} (a : agr P h h1) (b : agr Q g g1) (z1 : ¬ P 55 16) (z2 : ¬ Q 67 86) : OP o h1 g1 := ⟨(a.1 55 16 z1).trans p.1, (b.1 67 86 z2).trans p.2.1, p.2.2⟩
theorem TS_o (s : TS n bt T k nm kd h g) (x y : Int32) : TS n bt T k nm kd (sm_wI h 55 16 x) (sm_wI g 67 86 y) ∧ XT T k h g (sm_wI h 55 16 x) (sm_wI g 67 86 y) := by
  have a : agr (fun b j => b = 55 ∧ j = 16) h (sm_wI h 55 16 x) := agr_wI agr_rfl ⟨rfl, rfl⟩
  have b : agr (fun b j => b = 67 ∧ j = 86) g (sm_wI g 67 86 y) := agr_wI agr_rfl ⟨rfl, rfl⟩
  have X : XT T k h g (sm_wI h 55 16 x) (sm_wI g 67 86 y) := XT_x s.K (agr_mono (fun b j z => Or.inr (Or.inr ⟨z.1, Or.inr z.2⟩)) a) (agr_mono (fun b j z => Or.inr (Or.inl ⟨z.1, Or.inl z.2⟩)) b)
  exact ⟨⟨X.k1, s.nf, SCO_agr s.S a b (Nat.le_refl _) (fun b j z => by omega) (fun b j z => by omega), s.t, s.b, s.xc, s.xr⟩, X⟩
theorem agr_c16 (h : sm_H) (x : Int32) : agr (fun b j => b = 55 ∧ j = 16) h (sm_wI h 55 16 x) := agr_wI agr_rfl ⟨rfl, rfl⟩
theorem closeB (s : TS n bt T k nm kd h g) (p : OP (o + 1) h g) {f : Nat} (c : CB n bt f h) (r : RB n bt f g) : (∃ h1 g1, F_175 h = some (1, h1) ∧ F_427 g = some (1, g1) ∧ TS n bt T k nm kd h1 g1 ∧ OP o h1 g1 ∧ CB n bt (nx n bt f) h1 ∧ RB n bt (nx n bt f) g1 ∧ f < nx n bt f ∧ XT T k h g h1 g1) ∨ ∃ e h2 g2, F_175 h = some (0, h2) ∧ F_427 g = some (0, g2) ∧ FT e f h2 g2 ∧ XT T k h g h2 g2 := by
  have fn := RB_n r
  have S0 := TS_o s (I3 o) (g.1 67 86)
  have e86 : sm_wI g 67 86 (g.1 67 86) = g := by
    unfold sm_wI
    refine Prod.ext ?_ rfl
    funext b j
    show (if b = 67 then fun j => if j = 86 then g.1 67 86 else g.1 67 j else g.1 b) j = g.1 b j
    by_cases q : b = 67
    · subst q
      rw [if_pos rfl]
      show (if j = 86 then g.1 67 86 else g.1 67 j) = _
      by_cases w : j = 86
      · rw [if_pos w, w]
      · rw [if_neg w]
    · rw [if_neg q]
  rw [e86] at S0
  have C0 : F_175 h = (F_172 2 (sm_wI h 55 16 (I3 o))).bind fun q2 => if q2.1 = 0 ∨ q2.1 = 1 then some (q2.1, q2.2) else none := by
    show F_175_0 h = _
    unfold F_175_0
    rw [p.1, I3_s1]; rfl
  have R0 : F_427 g = (refE 4 (fun u => (F_420 u).bind fun q2 => some (1, q2)) g).bind fun q1 => if q1.1 = 0 then some (0, q1.2) else ((some (sm_wI q1.2 67 86 ((q1.2.1 67 86) - 1))).bind fun h2 => some (1, h2)) := rfl
  rw [C0, R0]
  rcases expect (x := 2) (by decide) S0.1 (f := f) c r with ⟨q, h1, g1, a1, a2, a3, a4, a5, a6, a7, a8⟩ | ⟨q, h2, g2, a1, a2, a3, a4⟩
  · left
    obtain ⟨g2, t1, t2, t3, t4⟩ := take_R a5 fn a4
    have eo : g2.1 67 86 = I3 (o + 1) := (t4.1 67 86 (by omega)).trans ((a7.1 67 86 (by unfold SLx; omega)).trans p.2.1)
    have e16 : h1.1 55 16 = I3 o := a6.1 55 16 (by unfold S52; omega)
    have S2 := TS_o t3 (I3 o) (I3 o)
    have hw : sm_wI h1 55 16 (I3 o) = h1 := by
      unfold sm_wI
      refine Prod.ext ?_ rfl
      funext b j
      show (if b = 55 then fun j => if j = 16 then I3 o else h1.1 55 j else h1.1 b) j = h1.1 b j
      by_cases q : b = 55
      · subst q
        rw [if_pos rfl]
        show (if j = 16 then I3 o else h1.1 55 j) = _
        by_cases w : j = 16
        · rw [if_pos w, w, e16]
        · rw [if_neg w]
      · rw [if_neg q]
    rw [hw] at S2
    refine ⟨h1, sm_wI g2 67 86 (I3 o), ?_, ?_, S2.1, ⟨e16, rfl, by have := p.2.2; omega⟩, CB_nx fn a3 (by omega), t2, ?_, ?_⟩
    · rw [show F_172 2 (sm_wI h 55 16 (I3 o)) = some (1, h1) from a1]; simp only [obs]
      rw [if_pos (Or.inr trivial)]
    · rw [show refE 4 (fun u => (F_420 u).bind fun q2 => some (1, q2)) g = _ from a2 _, t1]; simp only [obs]
      rw [if_neg (by decide), eo, I3_s1]
    · have := (wen_n (n := n) (bt := bt) fn).2.2 (by omega) (by omega)
      exact Nat.lt_of_lt_of_le this (far_ge _ _ _ _)
    · have x1 : XT T k (sm_wI h 55 16 (I3 o)) g h1 g2 := (TS_x S0.1 a6 (agr_trans (agr_mono (fun b j z => Or.inl z) a7) (agr_mono (fun b j z => Or.inl ⟨z.1, by omega, by omega⟩) t4))).2
      exact XT_trans (XT_trans S0.2 x1) S2.2
  · right
    refine ⟨_, h2, g2, ?_, ?_, a3, XT_trans S0.2 a4⟩
    · rw [show F_172 2 (sm_wI h 55 16 (I3 o)) = some (0, h2) from a1]; simp only [obs]
      rw [if_pos (Or.inl trivial)]
    · rw [show refE 4 (fun u => (F_420 u).bind fun q2 => some (1, q2)) g = _ from a2 _]; simp only [obs]
      rw [if_pos trivial]
theorem openS (s : TS n bt T k nm kd h g) (p : OP o h g) {f : Nat} (fn : f ≤ n) (lc : LXC n bt f h) (lr : LXR n bt f g) (w : wrd n bt f = 1) : (∃ h1 g1, o < 20 ∧ F_173 h = some (1, h1) ∧ F_425 g = some (1, g1) ∧ TS n bt T k nm kd h1 g1 ∧ OP (o + 1) h1 g1 ∧ CB n bt (nx n bt f) h1 ∧ RB n bt (nx n bt f) g1 ∧ f < nx n bt f ∧ XT T k h g h1 g1 ∧ agr (fun b j => b = 55 ∧ j = 16) h h1 ∧ agr (fun b j => b = 67 ∧ (j = 86 ∨ j = 79)) g g1) ∨ ∃ e h2 g2, F_173 h = some (0, h2) ∧ F_425 g = some (0, g2) ∧ FT e f h2 g2 ∧ XT T k h g h2 g2 := by
  have C0 : F_173 h = F_173_0 h := rfl
  have R0 : F_425 g = F_425_0 g := rfl
  unfold F_173_0 F_173_15 F_173_37 at C0
  unfold F_425_0 at R0
  rw [p.1] at C0
  rw [p.2.1] at R0
  have p3 := p.2.2
  by_cases q : o < 20
  · left
    obtain ⟨S1, X1⟩ := TS_o s (I3 (o + 1)) (I3 (o + 1))
    have lr' : LXR n bt f (sm_wI g 67 86 (I3 (o + 1))) := lr
    obtain ⟨g2, t1, t2, t3, t4⟩ := take_R S1 fn lr'
    refine ⟨sm_wI h 55 16 (I3 (o + 1)), g2, q, ?_, ?_, t3, ⟨rfl, t4.1 67 86 (by omega), by omega⟩, CB_nx fn (show LXC n bt f (sm_wI h 55 16 (I3 (o + 1))) from lc) (by omega), t2, ?_, XT_trans X1 (TS_x S1 agr_rfl (agr_mono (fun b j z => Or.inl ⟨z.1, by omega, by omega⟩) t4)).2, agr_c16 _ _, agr_trans (agr_wI agr_rfl ⟨rfl, Or.inl rfl⟩) (agr_mono (fun b j z => ⟨z.1, Or.inr z.2⟩) t4)⟩
    · rw [C0, if_pos (by rw [I3_lit, I3_lt (by omega) (by decide)]; exact q), show I3 o + 1 = I3 (o + 1) from I3_add o 1]; simp only [obs]
      rw [show (sm_wI h 55 16 (I3 (o + 1))).1 55 17 = 0 from s.nf.1, if_pos rfl, if_pos (by decide)]
    · rw [R0, if_neg (by rw [I3_lit, I3_inj (by omega) (by decide)]; omega), show I3 o + 1 = I3 (o + 1) from I3_add o 1]; simp only [obs]
      rw [t1]; rfl
    · have := (wen_n (n := n) (bt := bt) fn).2.2 (by omega) (by omega)
      exact Nat.lt_of_lt_of_le this (far_ge _ _ _ _)
  · right
    have e20 : o = 20 := by omega
    obtain ⟨h2, g2, f1, f2, f3, f4⟩ := XT_fail s (T' := T) (k' := k) (e := 5) (f := f) (by decide) (by decide)
    have X2 : XT T k h2 g2 (sm_wI h2 55 16 (h2.1 55 16 + 1)) g2 := XT_x f4.k1 (agr_wI agr_rfl (Or.inr (Or.inr ⟨rfl, Or.inr rfl⟩))) agr_rfl
    refine ⟨5, sm_wI h2 55 16 (h2.1 55 16 + 1), g2, ?_, ?_, ⟨f3.1, f3.2.1, f3.2.2⟩, XT_trans f4 X2⟩
    · rw [C0, if_neg (by rw [I3_lit, I3_lt (by omega) (by decide)]; exact q), C_170 lc, show F_169 5 (I3 f) h = some (-1, h2) from f1]; simp only [obs]
      rw [if_neg (by show ¬ h2.1 55 17 = 0; rw [f3.1]; decide), if_pos (by decide)]
    · rw [R0, if_pos (by rw [e20]; rfl), lr.2.1, show F_413 5 (I3 f) g = some (0, g2) from f2]; simp only [obs]
      rw [if_pos (Or.inl trivial)]
theorem openB (s : TS n bt T k nm kd h g) (p : OP o h g) {f : Nat} (c : CB n bt f h) (r : RB n bt f g) : (∃ h1 g1, o < 20 ∧ F_174 h = some (1, h1) ∧ F_426 g = some (1, g1) ∧ TS n bt T k nm kd h1 g1 ∧ OP (o + 1) h1 g1 ∧ CB n bt (nx n bt f) h1 ∧ RB n bt (nx n bt f) g1 ∧ f < nx n bt f ∧ XT T k h g h1 g1 ∧ agr (fun b j => S52 b j ∨ b = 55 ∧ j = 16) h h1 ∧ agr (fun b j => SLx b j ∨ b = 67 ∧ j = 86) g g1) ∨ ∃ e h2 g2, F_174 h = some (0, h2) ∧ F_426 g = some (0, g2) ∧ FT e f h2 g2 ∧ XT T k h g h2 g2 := by
  have fn := RB_n r
  have C0 : F_174 h = F_174_0 h := rfl
  unfold F_174_0 F_174_19 F_174_20 at C0
  have R0 : F_426 g = refE 3 (fun u => (F_425 u).bind fun q2 => if q2.1 = 0 ∨ q2.1 = 1 then some (q2.1, q2.2) else none) g := rfl
  rw [C0, R0]
  rcases expect (x := 1) (by decide) s (f := f) c r with ⟨q, h1, g1, a1, a2, a3, a4, a5, a6, a7, a8⟩ | ⟨q, h2, g2, a1, a2, a3, a4⟩
  · have x1 : XT T k h g h1 g1 := (TS_x s a6 (agr_mono (fun b j z => Or.inl z) a7)).2
    have p1 := OP_x p a6 a7 (by unfold S52; omega) (by unfold SLx; omega)
    rw [show F_172 1 h = some (1, h1) from a1, show refE 3 (fun u => (F_425 u).bind fun q2 => if q2.1 = 0 ∨ q2.1 = 1 then some (q2.1, q2.2) else none) g = _ from a2 _]; simp only [obs]
    rw [if_neg (by decide)]
    rcases openS a5 p1 fn a3 a4 q with ⟨h2, g2, b1, b2', b3, b4, b5, b6, b7, b8, b9, b10, b11⟩ | ⟨e, h2, g2, b1, b2', b3, b4⟩
    · left
      refine ⟨h2, g2, b1, ?_, ?_, b4, b5, b6, b7, b8, XT_trans x1 b9, agr_trans (agr_mono (fun b j z => Or.inl z) a6) (agr_mono (fun b j z => Or.inr z) b10), agr_trans (agr_mono (fun b j z => Or.inl z) a7) (agr_mono (fun b j z => by
        rcases z with ⟨z1, z2 | z2⟩
        · exact Or.inr ⟨z1, z2⟩
        · exact Or.inl ⟨z1, by omega, by omega⟩) b11)⟩
      · rw [b2']; simp only [obs]
        rw [if_neg (by decide), if_pos (Or.inr trivial)]
      · rw [b3]; simp only [obs]
        rw [if_pos (Or.inr trivial)]
    · right
      refine ⟨e, h2, g2, ?_, ?_, b3, XT_trans x1 b4⟩
      · rw [b1]; simp only [obs]
        rw [if_pos trivial, if_pos (Or.inl trivial)]
      · rw [b2']; simp only [obs]
        rw [if_pos (Or.inl trivial)]
  · right
    rw [show F_172 1 h = some (0, h2) from a1, show refE 3 (fun u => (F_425 u).bind fun q2 => if q2.1 = 0 ∨ q2.1 = 1 then some (q2.1, q2.2) else none) g = _ from a2 _]; simp only [obs]
    exact ⟨_, h2, g2, by rw [if_pos trivial, if_pos (Or.inl trivial)], rfl, a3, a4⟩
theorem nameB (s : TS n bt T k nm kd h g) {f : Nat} (c : CB n bt f h) (r : RB n bt f g) : (∃ h1 g1, F_172 4 h = some (1, h1) ∧ F_450 g = some (1, g1) ∧ TS n bt T k nm kd h1 g1 ∧ h1.2.1 52 10 = foldN bt f (men n bt f - f) ∧ g1.2.1 67 108 = foldN bt f (men n bt f - f) ∧ LXC n bt f h1 ∧ CB n bt (nx n bt f) h1 ∧ RB n bt (nx n bt f) g1 ∧ f < nx n bt f ∧ XT T k h g h1 g1 ∧ agr S52 h h1 ∧ agr (fun b j => SLx b j ∨ b = 67 ∧ j = 108) g g1) ∨ ∃ e h2 g2, F_172 4 h = some (0, h2) ∧ F_450 g = some (0, g2) ∧ FT e f h2 g2 ∧ XT T k h g h2 g2 := by
  have fn := RB_n r
  have R0 : F_450 g = refE 1 (fun u => (some (sm_wJ u 67 108 (u.2.1 67 83))).bind fun h2 => (F_420 h2).bind fun q3 => some (1, q3)) g := rfl
  rw [R0]
  rcases expect (x := 4) (by decide) s (f := f) c r with ⟨q, h1, g1, a1, a2, a3, a4, a5, a6, a7, a8⟩ | ⟨q, h2, g2, a1, a2, a3, a4⟩
  · left
    have b8 : agr (fun b j => b = 67 ∧ j = 108) g1 (sm_wJ g1 67 108 (g1.2.1 67 83)) := agr_wJ agr_rfl ⟨rfl, rfl⟩
    have S2 := (TS_x (T' := T) (k' := k) a5 agr_rfl (agr_mono (fun b j z => Or.inr ⟨z.1, by omega⟩) b8)).1
    obtain ⟨g2, t1, t2, t3, t4⟩ := take_R S2 fn (show LXR n bt f (sm_wJ g1 67 108 (g1.2.1 67 83)) from ⟨a4.1, a4.2.1, a4.2.2.1, a4.2.2.2.1, a4.2.2.2.2.1, a4.2.2.2.2.2.1, a4.2.2.2.2.2.2⟩)
    have ag : agr (fun b j => SLx b j ∨ b = 67 ∧ j = 108) g g2 := agr_trans (agr_trans (agr_mono (fun b j z => Or.inl z) a7) (agr_mono (fun b j z => Or.inr z) b8)) (agr_mono (fun b j z => Or.inl ⟨z.1, by omega, by omega⟩) t4)
    refine ⟨h1, g2, a1, ?_, t3, a3.2.2.2.2.2.1 q, ?_, a3, CB_nx fn a3 (by omega), t2, ?_, (TS_x s a6 (agr_mono (fun b j z => by
      rcases z with z | z
      · exact Or.inl z
      · exact Or.inr ⟨z.1, by omega⟩) ag)).2, a6, ag⟩
    · rw [show refE 1 (fun u => (some (sm_wJ u 67 108 (u.2.1 67 83))).bind fun h2 => (F_420 h2).bind fun q3 => some (1, q3)) g = _ from a2 _]; simp only [obs]
      rw [t1]; rfl
    · rw [t4.2.1 67 108 (by omega), show (sm_wJ g1 67 108 (g1.2.1 67 83)).2.1 67 108 = g1.2.1 67 83 from rfl]; exact a4.2.2.2.2.2.1 q
    · have := (wen_n (n := n) (bt := bt) fn).2.2 (by omega) (by omega)
      exact Nat.lt_of_lt_of_le this (far_ge _ _ _ _)
  · right
    exact ⟨_, h2, g2, a1, a2 _, a3, a4⟩
end
