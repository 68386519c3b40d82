def OP (o : Nat) (h g : sm_H) : Prop := h.1 55 16 = I3 o ∧ g.1 67 86 = I3 o ∧ o ≤ 20
section
variable {n : Nat} {bt : Nat → Nat} {o T k : Nat} {nm : Nat → Int64} {kd : List Int32} {h g : sm_H}
theorem OP_x (p : OP o h g) {h1 g1 : sm_H} {P Q : Nat → Nat → Prop} (a : agr P h h1) (b : agr Q g g1) (z1 : ¬ P 55 16) (z2 : ¬ Q 67 86) : OP o h1 g1 := ⟨(a.1 55 16 z1).trans p.1, (b.1 67 86 z2).trans p.2.1, p.2.2⟩
theorem TS_o (s : TS n bt T k nm kd h g) (x y : Int32) : TS n bt T k nm kd (sm_wI h 55 16 x) (sm_wI g 67 86 y) ∧ XT T k h g (sm_wI h 55 16 x) (sm_wI g 67 86 y) := by
  have a : agr (fun b j => b = 55 ∧ j = 16) h (sm_wI h 55 16 x) := agr_wI agr_rfl ⟨rfl, rfl⟩
  have b : agr (fun b j => b = 67 ∧ j = 86) g (sm_wI g 67 86 y) := agr_wI agr_rfl ⟨rfl, rfl⟩
  have X : XT T k h g (sm_wI h 55 16 x) (sm_wI g 67 86 y) := XT_x s.K (agr_mono (fun b j z => Or.inr (Or.inr ⟨z.1, Or.inr z.2⟩)) a) (agr_mono (fun b j z => Or.inr (Or.inl ⟨z.1, Or.inl z.2⟩)) b)
  exact ⟨⟨X.k1, s.nf, SCO_agr s.S a b (Nat.le_refl _) (fun b j z => by omega) (fun b j z => by omega), s.t, s.b, s.xc, s.xr⟩, X⟩
theorem agr_c16 (h : sm_H) (x : Int32) : agr (fun b j => b = 55 ∧ j = 16) h (sm_wI h 55 16 x) := agr_wI agr_rfl ⟨rfl, rfl⟩
theorem closeB (s : TS n bt T k nm kd h g) (p : OP (o + 1) h g) {f : Nat} (c : CB n bt f h) (r : RB n bt f g) : (∃ h1 g1, F_175 h = some (1, h1) ∧ F_427 g = some (1, g1) ∧ TS n bt T k nm kd h1 g1 ∧ OP o h1 g1 ∧ CB n bt (nx n bt f) h1 ∧ RB n bt (nx n bt f) g1 ∧ f < nx n bt f ∧ XT T k h g h1 g1) ∨ ∃ e h2 g2, F_175 h = some (0, h2) ∧ F_427 g = some (0, g2) ∧ FT e f h2 g2 ∧ XT T k h g h2 g2 := by
  have fn := RB_n r
  have S0 := TS_o s (I3 o) (g.1 67 86)
  have e86 : sm_wI g 67 86 (g.1 67 86) = g := by
    unfold sm_wI
    refine Prod.ext ?_ rfl
    funext b j
    show (if b = 67 then fun j => if j = 86 then g.1 67 86 else g.1 67 j else g.1 b) j = g.1 b j
    by_cases q : b = 67
    · subst q
      rw [if_pos rfl]
      show (if j = 86 then g.1 67 86 else g.1 67 j) = _
      by_cases w : j = 86
      · rw [if_pos w, w]
      · rw [if_neg w]
    · rw [if_neg q]
  rw [e86] at S0
  have C0 : F_175 h = (F_172 2 (sm_wI h 55 16 (I3 o))).bind fun q2 => if q2.1 = 0 ∨ q2.1 = 1 then some (q2.1, q2.2) else none := by
    show F_175_0 h = _
    unfold F_175_0
    rw [p.1, I3_s1]; rfl
  have R0 : F_427 g = (refE 4 (fun u => (F_420 u).bind fun q2 => some (1, q2)) g).bind fun q1 => if q1.1 = 0 then some (0, q1.2) else ((some (sm_wI q1.2 67 86 ((q1.2.1 67 86) - 1))).bind fun h2 => some (1, h2)) := rfl
  rw [C0, R0]
  rcases expect (x := 2) (by decide) S0.1 (f := f) c r with ⟨q, h1, g1, a1, a2, a3, a4, a5, a6, a7, a8⟩ | ⟨q, h2, g2, a1, a2, a3, a4⟩
  · left
    obtain ⟨g2, t1, t2, t3, t4⟩ := take_R a5 fn a4
    have eo : g2.1 67 86 = I3 (o + 1) := (t4.1 67 86 (by omega)).trans ((a7.1 67 86 (by unfold SLx; omega)).trans p.2.1)
    have e16 : h1.1 55 16 = I3 o := a6.1 55 16 (by unfold S52; omega)
    have S2 := TS_o t3 (I3 o) (I3 o)
    have hw : sm_wI h1 55 16 (I3 o) = h1 := by
      unfold sm_wI
      refine Prod.ext ?_ rfl
      funext b j
      show (if b = 55 then fun j => if j = 16 then I3 o else h1.1 55 j else h1.1 b) j = h1.1 b j
      by_cases q : b = 55
      · subst q
        rw [if_pos rfl]
        show (if j = 16 then I3 o else h1.1 55 j) = _
        by_cases w : j = 16
        · rw [if_pos w, w, e16]
        · rw [if_neg w]
      · rw [if_neg q]
    rw [hw] at S2
    refine ⟨h1, sm_wI g2 67 86 (I3 o), ?_, ?_, S2.1, ⟨e16, rfl, by have := p.2.2; omega⟩, CB_nx fn a3 (by omega), t2, ?_, ?_⟩
    · rw [show F_172 2 (sm_wI h 55 16 (I3 o)) = some (1, h1) from a1]; simp only [obs]
      rw [if_pos (Or.inr trivial)]
    · rw [show refE 4 (fun u => (F_420 u).bind fun q2 => some (1, q2)) g = _ from a2 _, t1]; simp only [obs]
      rw [if_neg (by decide), eo, I3_s1]
    · have := (wen_n (n := n) (bt := bt) fn).2.2 (by omega) (by omega)
      exact Nat.lt_of_lt_of_le this (far_ge _ _ _ _)
    · have x1 : XT T k (sm_wI h 55 16 (I3 o)) g h1 g2 := (TS_x S0.1 a6 (agr_trans (agr_mono (fun b j z => Or.inl z) a7) (agr_mono (fun b j z => Or.inl ⟨z.1, by omega, by omega⟩) t4))).2
      exact XT_trans (XT_trans S0.2 x1) S2.2
  · right
    refine ⟨_, h2, g2, ?_, ?_, a3, XT_trans S0.2 a4⟩
    · rw [show F_172 2 (sm_wI h 55 16 (I3 o)) = some (0, h2) from a1]; simp only [obs]
      rw [if_pos (Or.inl trivial)]
    · rw [show refE 4 (fun u => (F_420 u).bind fun q2 => some (1, q2)) g = _ from a2 _]; simp only [obs]
      rw [if_pos trivial]
end
