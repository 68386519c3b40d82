abbrev Scl (b j : Nat) : Prop := S52 b j ∨ b = 55 ∧ j = 16
abbrev Srl (b j : Nat) : Prop := SLx b j ∨ b = 67 ∧ (j = 86 ∨ j = 105 ∨ j = 106 ∨ j = 108)
section
variable {n : Nat} {bt : Nat → Nat} {nd o T j k m p f f0 : Nat} {nm nm' : Nat → Int64} {kd kd' : List Int32} {pt : Nat → Nat} {h g : sm_H} {rec : sm_H → Option (Int32 × sm_H)}
theorem wp_wp (x : Option (Int32 × sm_H)) : wp (wp x) = wp x := by
  cases x with
  | none => rfl
  | some q =>
    unfold wp
    show (if q.1 = 0 ∨ q.1 = 1 then some (q.1, q.2) else none).bind _ = if q.1 = 0 ∨ q.1 = 1 then some (q.1, q.2) else none
    by_cases z : q.1 = 0 ∨ q.1 = 1
    · rw [if_pos z]
      show (if q.1 = 0 ∨ q.1 = 1 then some (q.1, q.2) else none) = _
      rw [if_pos z]
    · rw [if_neg z]; rfl
theorem TS_y {T' k' : Nat} (s : TS n bt T k nm kd h g) {h1 g1 : sm_H} (a : agr Scl h h1) (b : agr Srl g g1) : TS n bt T k nm kd h1 g1 ∧ XT T' k' h g h1 g1 := by
  have X : XT T' k' h g h1 g1 := XT_x s.K (agr_mono (fun b j z => by
    rcases z with z | z
    · exact Or.inl z
    · exact Or.inr (Or.inr ⟨z.1, Or.inr z.2⟩)) a) (agr_mono (fun b j z => by
    rcases z with z | ⟨z1, z2⟩
    · exact Or.inl z
    · exact Or.inr (Or.inl ⟨z1, by omega⟩)) b)
  refine ⟨⟨X.k1, NF_agr s.nf a b (by unfold Scl S52; omega) (by unfold Srl SLx; omega), SCO_agr s.S a b (Nat.le_of_eq (by show tn _ = tn _; rw [b.1 67 6 (by unfold Srl SLx; omega)])) (fun b j z => by unfold Scl S52 at z; omega) (fun b j z => by unfold Srl SLx at z; omega), ⟨(a.1 55 12 (by unfold Scl S52; omega)).trans s.t.1, s.t.2⟩, (b.1 67 102 (by unfold Srl SLx; omega)).trans s.b, TXC_agr s.xc a (fun b j z => by unfold Scl S52 at z; omega), TXR_agr s.xr b (fun b j z => by unfold Srl SLx at z; omega)⟩, X⟩
theorem nx_gt (fn : f ≤ n) (w0 : wrd n bt f ≠ 0) (w6 : wrd n bt f ≠ 6) : f < nx n bt f := by
  have := (wen_n (n := n) (bt := bt) fn).2.2 w0 w6
  exact Nat.lt_of_lt_of_le this (far_ge _ _ _ _)
theorem fail_C {e : Nat} (nf : h.1 55 17 = 0) (e0 : Int32) (he : e0 = I3 e) : ∃ h2, F_169 e0 (I3 f) h = some (-1, h2) ∧ h2.1 55 17 = I3 e ∧ h2.1 55 18 = I3 f ∧ agr (fun b j => b = 55 ∧ (j = 17 ∨ j = 18)) h h2 := by
  subst he
  refine ⟨sm_wI (sm_wI h 55 17 (I3 e)) 55 18 (I3 f), ?_, rfl, rfl, agr_wI (agr_wI agr_rfl ⟨rfl, Or.inl rfl⟩) ⟨rfl, Or.inr rfl⟩⟩
  show F_169_0 (I3 e) (I3 f) h = _
  unfold F_169_0
  rw [if_pos nf]; rfl
theorem fail_R {e : Nat} (nf : g.1 67 77 = 0) (e0 : Int32) (he : e0 = I3 e) : ∃ g2, F_413 e0 (I3 f) g = some (0, g2) ∧ g2.1 67 77 = I3 e ∧ g2.1 67 78 = I3 f ∧ agr (fun b j => b = 67 ∧ (j = 77 ∨ j = 78)) g g2 := by
  subst he
  refine ⟨sm_wI (sm_wI g 67 77 (I3 e)) 67 78 (I3 f), ?_, rfl, rfl, agr_wI (agr_wI agr_rfl ⟨rfl, Or.inl rfl⟩) ⟨rfl, Or.inr rfl⟩⟩
  show F_413_0 (I3 e) (I3 f) g = _
  unfold F_413_0
  rw [if_pos nf]; rfl
theorem close_C (xc : TXC n bt h) (nf : h.1 55 17 = 0) (c : CB n bt f h) (p : h.1 55 16 = I3 (o + 1)) (fn : f ≤ n) : (wrd n bt f = 2 ∧ ∃ h1, F_175 h = some (1, h1) ∧ h1.1 55 16 = I3 o ∧ CB n bt (nx n bt f) h1 ∧ agr Scl h h1) ∨ (wrd n bt f ≠ 2 ∧ ∃ h1 h2, F_175 h = some (0, h2) ∧ F_169 (I3 (er n bt f)) (I3 f) h1 = some (-1, h2) ∧ agr Scl h h1) := by
  obtain ⟨q, q1, q2, q3⟩ := c
  have w6 := wrd_6 n bt f
  have a0 : agr (fun b j => b = 55 ∧ j = 16) h (sm_wI h 55 16 (I3 o)) := agr_wI agr_rfl ⟨rfl, rfl⟩
  obtain ⟨h1, c1, c2, c4⟩ := C_step (h := sm_wI h 55 16 (I3 o)) (TXC_agr xc a0 (fun b j z => by omega)) q1 q2
  rw [q3] at c1 c2
  have nf1 : h1.1 55 17 = 0 := (c4.1 55 17 (by unfold S52; omega)).trans nf
  have C0 : F_175 h = (F_172 2 (sm_wI h 55 16 (I3 o))).bind fun q2 => if q2.1 = 0 ∨ q2.1 = 1 then some (q2.1, q2.2) else none := by
    show F_175_0 h = _
    unfold F_175_0
    rw [p, I3_s1]; rfl
  have C1 : F_172 2 (sm_wI h 55 16 (I3 o)) = F_172_0 2 (sm_wI h 55 16 (I3 o)) := rfl
  unfold F_172_0 F_172_31 F_172_35 F_172_47 at C1
  rw [c1] at C1; simp only [obs] at C1
  have ah : agr Scl h h1 := agr_trans (agr_mono (fun b j z => Or.inr z) a0) (agr_mono (fun b j z => Or.inl z) c4)
  by_cases w : wrd n bt f = 2
  · left
    refine ⟨w, h1, ?_, (c4.1 55 16 (by unfold S52; omega)).trans rfl, CB_nx fn c2 (by omega), ah⟩
    rw [if_pos (by rw [w]; rfl), if_pos nf1, if_pos (by decide)] at C1
    rw [C0, C1]; rfl
  · right
    obtain ⟨h2, f1, f2, f3, f4⟩ := fail_C (h := h1) (f := f) nf1 (I3 (er n bt f)) rfl
    refine ⟨w, h1, h2, ?_, f1, ah⟩
    have e9 := er_9 n bt f
    have z35 : (if h2.1 55 17 = 0 then (if (1 : Int32) = 0 ∨ (1 : Int32) = 1 then some ((1 : Int32), h2) else none) else (if (0 : Int32) = 0 ∨ (0 : Int32) = 1 then some (0, h2) else none)) = some (0, h2) := by
      rw [if_neg, if_pos (Or.inl rfl)]
      rw [f2, I3_lit, I3_inj (by omega) (by decide)]; omega
    rw [if_neg (by rw [I3_lit, I3_inj (by omega) (by decide)]; exact w)] at C1
    have C2 : F_172 2 (sm_wI h 55 16 (I3 o)) = some (0, h2) := by
      unfold er at f1
      by_cases v : wrd n bt f = 6
      · rw [if_pos v] at f1
        rw [if_pos (by rw [v]; rfl), show F_244 h1 = some (h1.1 52 6, h1) from rfl, c2.2.2.1 v] at C1; simp only [obs] at C1
        rw [C_170 c2, f1] at C1; simp only [obs] at C1
        rw [C1]; exact z35
      · rw [if_neg v] at f1
        rw [if_neg (by rw [I3_lit, I3_inj (by omega) (by decide)]; exact v), C_170 c2, show F_169 4 (I3 f) h1 = some (-1, h2) from f1] at C1; simp only [obs] at C1
        rw [C1]; exact z35
    rw [C0, C2]; rfl
theorem close_R (xr : TXR n bt g) (nf : g.1 67 77 = 0) (r : RB n bt f g) (p : g.1 67 86 = I3 (o + 1)) : (wrd n bt f = 2 ∧ ∃ g1, F_427 g = some (1, g1) ∧ g1.1 67 86 = I3 o ∧ RB n bt (nx n bt f) g1 ∧ agr Srl g g1) ∨ (wrd n bt f ≠ 2 ∧ ∃ g1 g2, F_427 g = some (0, g2) ∧ F_413 (I3 (er n bt f)) (I3 f) g1 = some (0, g2) ∧ agr Srl g g1) := by
  have fn := RB_n r
  have w6 := wrd_6 n bt f
  obtain ⟨q, q1, q2, q3⟩ := r
  obtain ⟨g1, a, b, c, d⟩ := R_look xr q1 q2
  rw [q3] at b c d
  have nf1 : g1.1 67 77 = 0 := (a.1 67 77 (by unfold SLx; omega)).trans nf
  have R0 : F_427 g = (refE 4 (fun u => (F_420 u).bind fun q2 => some (1, q2)) g).bind fun q1 => if q1.1 = 0 then some (0, q1.2) else ((some (sm_wI q1.2 67 86 ((q1.2.1 67 86) - 1))).bind fun h2 => some (1, h2)) := rfl
  unfold refE at R0
  by_cases w : wrd n bt f = 2
  · left
    rw [if_neg (by omega)] at d
    rw [d.1] at R0; simp only [obs] at R0
    rw [if_neg (by decide), if_pos (by rw [d.2.2.2.1, w]; rfl)] at R0
    have F4 : F_420 g1 = some (sm_wI g1 67 79 (I3 (wen n bt f))) := by
      show F_420_0 g1 = _
      unfold F_420_0
      rw [d.2.2.2.2.1]; rfl
    rw [F4] at R0; simp only [obs] at R0
    rw [if_neg (by decide), show (sm_wI g1 67 79 (I3 (wen n bt f))).1 67 86 = I3 (o + 1) from (a.1 67 86 (by unfold SLx; omega)).trans p, I3_s1] at R0
    exact ⟨w, _, R0, rfl, ⟨wen n bt f, rfl, (wen_n fn).1, rfl⟩, agr_wI (agr_wI (agr_mono (fun b j z => Or.inl z) a) (Or.inl ⟨rfl, by omega, by omega⟩)) (Or.inr ⟨rfl, by omega⟩)⟩
  · right
    obtain ⟨g2, f1, f2, f3, f4⟩ := fail_R (g := g1) (f := f) nf1 (I3 (er n bt f)) rfl
    refine ⟨w, g1, g2, ?_, f1, agr_mono (fun b j z => Or.inl z) a⟩
    unfold er at f1
    by_cases v : wrd n bt f = 6
    · rw [if_pos v] at f1 d
      rw [d, f1] at R0; simp only [obs] at R0
      rw [R0]; rfl
    · rw [if_neg v] at f1 d
      rw [d.1] at R0; simp only [obs] at R0
      rw [if_neg (by decide), if_neg (by
          rw [d.2.2.2.1, show (4 : Int32) = I3 (rwd 2) from rfl, I3_inj (by have := rwd_5 (x := wrd n bt f) (by omega); omega) (by decide)]
          exact fun z => w (rwd_inj (by omega) (by omega) z)), f421 g1 c, show F_413 4 (I3 f) g1 = some (0, g2) from f1] at R0; simp only [obs] at R0
      rw [R0]; rfl
theorem close_108 {g1 : sm_H} (xr : TXR n bt g) (nf : g.1 67 77 = 0) (r : RB n bt f g) (p : g.1 67 86 = I3 (o + 1)) (e : F_427 g = some (1, g1)) : g1.2.1 67 108 = g.2.1 67 108 := by
  have w6 := wrd_6 n bt f
  rcases close_R xr nf r p with ⟨w, g2, a1, a2, a3, a4⟩ | ⟨w, g2, g3, a1, -⟩
  · obtain ⟨q, q1, q2, q3⟩ := r
    obtain ⟨g4, a, b, c, d⟩ := R_look xr q1 q2
    rw [q3, if_neg (by omega)] at d
    have R0 : F_427 g = (refE 4 (fun u => (F_420 u).bind fun q2 => some (1, q2)) g).bind fun q1 => if q1.1 = 0 then some (0, q1.2) else ((some (sm_wI q1.2 67 86 ((q1.2.1 67 86) - 1))).bind fun h2 => some (1, h2)) := rfl
    unfold refE at R0
    rw [d.1] at R0; simp only [obs] at R0
    rw [if_neg (by decide), if_pos (by rw [d.2.2.2.1, w]; rfl)] at R0
    have F4 : F_420 g4 = some (sm_wI g4 67 79 (I3 (wen n bt f))) := by
      show F_420_0 g4 = _
      unfold F_420_0
      rw [d.2.2.2.2.1]; rfl
    rw [F4] at R0; simp only [obs] at R0
    rw [if_neg (by decide), e] at R0
    injection R0 with R0
    have := congrArg Prod.snd R0
    rw [show g1 = _ from this]
    exact a.2.1 67 108 (by unfold SLx; omega)
  · rw [a1] at e
    injection e with e
    exact absurd (show (0 : Int32) = 1 from congrArg Prod.fst e) (by decide)
theorem closeE (s : TS n bt T k nm kd h g) (p : OP (o + 1) h g) (c : CB n bt f h) (r : RB n bt f g) : (∃ h1 g1, F_175 h = some (1, h1) ∧ F_427 g = some (1, g1) ∧ TS n bt T k nm kd h1 g1 ∧ OP o h1 g1 ∧ CB n bt (nx n bt f) h1 ∧ RB n bt (nx n bt f) g1 ∧ f < nx n bt f ∧ agr Scl h h1 ∧ agr Srl g g1) ∨ ∃ e h2 g2, F_175 h = some (0, h2) ∧ F_427 g = some (0, g2) ∧ FT e f h2 g2 ∧ XT T k h g h2 g2 := by
  have fn := RB_n r
  rcases close_C s.xc s.nf.1 c p.1 fn with ⟨w, h1, a1, a2, a3, a4⟩ | ⟨w, h1, h2, a1, -, -⟩
  · rcases close_R s.xr s.nf.2 r p.2.1 with ⟨-, g1, b1, b2', b3, b4⟩ | ⟨w', -⟩
    · exact Or.inl ⟨h1, g1, a1, b1, (TS_y (T' := 0) (k' := 0) s a4 b4).1, ⟨a2, b2', by have := p.2.2; omega⟩, a3, b3, nx_gt fn (by omega) (by omega), a4, b4⟩
    · exact absurd w w'
  · right
    rcases closeB s p c r with ⟨h1, g1, c1, -⟩ | z
    · rw [a1] at c1
      injection c1 with c1
      exact absurd (show (0 : Int32) = 1 from congrArg Prod.fst c1) (by decide)
    · exact z
end
