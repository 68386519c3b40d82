section
variable {n : Nat} {bt : Nat → Nat} {nd o T j k m p f f0 np : Nat} {ps : Nat → Int64} {ks : Nat → Int32} {h g h1 g1 h2 g2 : sm_H}
theorem K1_115 (K : K1 h g) (i : Nat) (x : Int32) : K1 h (sm_wI g 115 i x) ∧ ext g (sm_wI g 115 i x) ∧ grow g (sm_wI g 115 i x) := by
  obtain ⟨wK, cK, wT, cT, wH, cH, wM, cM, cG, cO, cV, wX, cX, cXh, wF⟩ := K
  obtain ⟨c1, c2, c3, c4, c5, c6, c7, c8, c9, c10, c11⟩ := ext_rfl (g := g)
  obtain ⟨d1, d2, d3, d4, d5⟩ := grow_rfl (g := g)
  exact ⟨⟨wK, cK, wT, cT, wH, cH, wM, cM, cG, cO, cV, wX, cX, cXh, wF⟩, ⟨c1, c2, c3, c4, c5, c6, c7, c8, c9, c10, c11⟩, ⟨d1, d2, d3, d4, d5⟩⟩
theorem K1_116 (K : K1 h g) (i : Nat) (x : Int32) : K1 h (sm_wI g 116 i x) ∧ ext g (sm_wI g 116 i x) ∧ grow g (sm_wI g 116 i x) := by
  obtain ⟨wK, cK, wT, cT, wH, cH, wM, cM, cG, cO, cV, wX, cX, cXh, wF⟩ := K
  obtain ⟨c1, c2, c3, c4, c5, c6, c7, c8, c9, c10, c11⟩ := ext_rfl (g := g)
  obtain ⟨d1, d2, d3, d4, d5⟩ := grow_rfl (g := g)
  exact ⟨⟨wK, cK, wT, cT, wH, cH, wM, cM, cG, cO, cV, wX, cX, cXh, wF⟩, ⟨c1, c2, c3, c4, c5, c6, c7, c8, c9, c10, c11⟩, ⟨d1, d2, d3, d4, d5⟩⟩
theorem PS_y {P Q : Nat → Nat → Prop} (s : PS nd np ps ks h g) (a : agr P h h1) (b : agr Q g g1) (p : ∀ b j, P b j → ¬ (b = 55 ∧ j = 9 ∨ b = 58 ∨ b = 59)) (q : ∀ b j, Q b j → ¬ (b = 115 ∧ j = nd ∨ b = 117 ∧ j < 390 + np ∨ b = 116 ∧ j < 6 * nd + np ∨ b = 67 ∧ j = 6)) : PS nd np ps ks h1 g1 := by
  obtain ⟨s1, s2, s3, s4⟩ := s
  have nc : nC g1 = nC g := by show tn _ = tn _; rw [b.1 67 6 (fun z => q _ _ z (by omega))]
  refine ⟨s1, (a.1 55 9 (fun z => p _ _ z (by omega))).trans s2, (b.1 115 nd (fun z => q _ _ z (by omega))).trans s3, fun i hi => ?_⟩
  obtain ⟨t1, t2, t3, t4, t5⟩ := s4 i hi
  exact ⟨(a.2.1 58 i (fun z => p _ _ z (by omega))).trans t1, (a.1 59 i (fun z => p _ _ z (by omega))).trans t2, (b.2.1 117 _ (fun z => q _ _ z (by omega))).trans t3, (b.1 116 _ (fun z => q _ _ z (by omega))).trans t4, by rw [nc]; exact t5⟩
theorem Scl_p (b j : Nat) (z : Scl b j) : ¬ (b = 55 ∧ j = 9 ∨ b = 58 ∨ b = 59) := by unfold Scl S52 at z; omega
theorem Srl_p (b j : Nat) (z : Srl b j) : ¬ (b = 115 ∧ j = nd ∨ b = 117 ∧ j < 390 + np ∨ b = 116 ∧ j < 6 * nd + np ∨ b = 67 ∧ j = 6) := by unfold Srl SLx at z; omega
def E464 (nd fu : Nat) (g : sm_H) : Option (Int32 × sm_H) := (F_418 g).bind fun q24 => if q24.1 = 0 then some (0, q24.2) else lp F_464_25B fu (I3 nd, q24.2)
theorem parN (nd60 : nd < 60) : ∀ r np, np + r = 6 → ∀ (fc fu f : Nat) (ps : Nat → Int64) (ks : Nat → Int32) (h g : sm_H), r + 1 < fc → r + 1 < fu → TU n bt k h g → OP 2 h g → CB n bt f h → RB n bt f g → PS nd np ps ks h g →
    (∃ h1 g1 f' np' ps' ks', lp F_178_16B fc (I3 np, h) = some (1, h1) ∧ E464 nd fu g = some (1, g1) ∧ f < f' ∧ TU n bt k h1 g1 ∧ OP 1 h1 g1 ∧ CB n bt f' h1 ∧ RB n bt f' g1 ∧ PS nd np' ps' ks' h1 g1 ∧ PQ nd h g h1 g1) ∨ ∃ e pc h1 g1, lp F_178_16B fc (I3 np, h) = some (0, h1) ∧ E464 nd fu g = some (0, g1) ∧ FT e pc h1 g1 ∧ PQ nd h g h1 g1 := by
  intro r
  induction r with
  | zero =>
    intro np hnp fc fu f ps ks h g hc hf s o c rb P
    have n6 := P.1
    have fn := RB_n rb
    have w6 := wrd_6 n bt f
    obtain ⟨h1, c1, c2, c3, c4⟩ := step_C s c
    obtain ⟨g1, d1, d2, d3, d4, d5⟩ := look_R c3 rb
    have X1 : ∀ T' k', XT T' k' h g h1 g1 := fun T' k' => XT_y s.K (S52_Scl c4) (SLx_Srl d2)
    have C0 : F_178_16B (I3 np, h) = (F_171 h).bind fun q4 => if q4.1 = 2 then ((some (sm_wI q4.2 55 16 ((q4.2.1 55 16) - 1))).bind fun h6 => some (.inr (1, h6))) else (if q4.1 = 1 then (F_178_55 (I3 np) q4.2) else ((F_170 4 q4.2).bind fun q5 => F_178_55 (I3 np) q5.2)) := by
      unfold F_178_16B
      show (if 6 < I3 np then _ else _) = _
      rw [if_neg (by rw [I3_lit, I3_lt (by decide) (by omega)]; omega)]
    have R0 : E464 nd fu g = E464 nd fu g := rfl
    conv at R0 => rhs; unfold E464
    by_cases w : wrd n bt f = 6
    · right
      obtain ⟨h2, g2, b1, b2', b3, b4, b5⟩ := badWord c3 c2 rb w
      rw [b2'] at R0; simp only [obs] at R0; rw [if_pos trivial] at R0
      rw [C_171b c1 w b1] at C0; simp only [obs] at C0
      rw [if_neg (by decide), if_neg (by decide), C_170f b3] at C0; simp only [obs] at C0
      unfold F_178_55 F_178_76 at C0
      rw [if_neg (FT_nz b3)] at C0
      exact ⟨_, _, h2, g2, lp_e (by omega) C0, R0, b3, PQ_XT (XT_trans (XT_y s.K (S52_Scl c4) agr_rfl) b4)⟩
    rw [if_neg w] at d5
    obtain ⟨d5, lr⟩ := d5
    rw [C_171 c1 w] at C0; simp only [obs] at C0
    rw [d5] at R0; simp only [obs] at R0; rw [if_neg (by decide)] at R0
    have R1 : F_464_25B (I3 nd, g1) = F_464_25B (I3 nd, g1) := rfl
    conv at R1 => rhs; unfold F_464_25B
    simp only [] at R1
    rw [lr.2.2.1] at R1
    have nr : ∀ x : Nat, x < 6 → wrd n bt f ≠ x → ¬ I3 (rwd (wrd n bt f)) = I3 (rwd x) := fun x hx z => by
      rw [I3_inj (by have := rwd_5 (x := wrd n bt f) (by omega); omega) (by have := rwd_5 (x := x) (by omega); omega)]
      exact fun y => z (rwd_inj (by omega) (by omega) y)
    have nw : ∀ x : Nat, x < 6 → wrd n bt f ≠ x → ¬ I3 (wrd n bt f) = I3 x := fun x hx z => by rw [I3_inj (by omega) (by omega)]; exact z
    have p1 : OP 2 h1 g1 := OP_x o c4 d2 (by unfold S52; omega) (by unfold SLx; omega)
    by_cases w2 : wrd n bt f = 2
    · left
      rw [if_pos (by rw [w2]; rfl), p1.1, show I3 2 - 1 = I3 1 from I3_s1 1] at C0
      obtain ⟨g2, t1, t2, t3, t4⟩ := take_R d1 fn lr
      rw [if_pos (by rw [w2]; rfl), t1] at R1; simp only [obs] at R1
      rw [show g2.1 67 86 = I3 2 from (t4.1 67 86 (by omega)).trans p1.2.1, show I3 2 - 1 = I3 1 from I3_s1 1] at R1
      have a2 : agr Scl h1 (sm_wI h1 55 16 (I3 1)) := agr_wI agr_rfl (Or.inr ⟨rfl, rfl⟩)
      have b2' : agr Srl g1 (sm_wI g2 67 86 (I3 1)) := agr_wI (agr_mono (fun b j z => Or.inl ⟨z.1, by omega, by omega⟩) t4) (Or.inr ⟨rfl, Or.inl rfl⟩)
      obtain ⟨s2, X2⟩ := TS_y (T' := 0) (k' := 0) d1 a2 b2'
      exact ⟨_, _, nx n bt f, np, ps, ks, lp_e (by omega) C0, by rw [R0]; exact lp_e (by omega) R1, nx_gt fn (by omega) w, s2, ⟨rfl, rfl, by decide⟩, CB_nx (h := h1) fn c2 w, t2, PS_y P (agr_trans (S52_Scl c4) a2) (agr_trans (SLx_Srl d2) b2') Scl_p Srl_p, PQ_XT (XT_trans (X1 0 0) X2)⟩
    rw [if_neg (show ¬ I3 (wrd n bt f) = (2 : Int32) from nw 2 (by decide) w2)] at C0
    rw [if_neg (show ¬ I3 (rwd (wrd n bt f)) = (4 : Int32) from nr 2 (by decide) w2)] at R1
    by_cases w1 : wrd n bt f = 1
    rotate_left
    · right
      obtain ⟨h2, g2, f1, f2, f3, f4⟩ := XT_fail d1 (T' := 0) (k' := 0) (e := 4) (f := f) (by decide) (by decide)
      rw [if_neg (show ¬ I3 (wrd n bt f) = (1 : Int32) from nw 1 (by decide) w1), C_170 c2, show F_169 4 (I3 f) h1 = some (-1, h2) from f1] at C0; simp only [obs] at C0
      unfold F_178_55 F_178_76 at C0
      rw [if_neg (FT_nz f3)] at C0
      have q1 := f421 g1 d4
      rw [show F_413 4 (I3 f) g1 = some (0, g2) from f2] at q1
      rw [if_neg (show ¬ I3 (rwd (wrd n bt f)) = (3 : Int32) from nr 1 (by decide) w1)] at R1
      have R2 : F_464_25B (I3 nd, g1) = some (.inr (0, g2)) := by
        rw [R1]
        cases hq : F_421 g1 with
        | none => rw [hq] at q1; cases q1
        | some q =>
          rw [hq] at q1
          simp only [Option.bind_some] at q1 ⊢
          by_cases z : q.1 = 0 ∨ q.1 = 1
          · rw [if_pos z] at q1 ⊢
            injection q1 with q1
            rw [q1]
          · rw [if_neg z] at q1; cases q1
      exact ⟨4, f, h2, g2, lp_e (by omega) C0, by rw [R0]; exact lp_e (by omega) R2, f3, PQ_XT (XT_trans (X1 0 0) f4)⟩
    rw [if_pos (by rw [w1]; rfl)] at C0
    rw [if_pos (by rw [w1]; rfl)] at R1
    unfold F_178_55 F_178_76 at C0
    unfold F_464_60 at R1
    rw [if_pos c3.nf.1] at C0
    rcases openS d1 p1 fn c2 lr w1 with ⟨h2, g2, -, a1, a2, a3, a4, a5, a6, a7, a8, a9, a10⟩ | ⟨e', h2, g2, a1, a2, a3, a4⟩
    rotate_left
    · right
      rw [a1] at C0; simp only [obs] at C0; rw [if_pos trivial] at C0
      rw [a2] at R1; simp only [obs] at R1; rw [if_pos trivial] at R1
      exact ⟨e', _, h2, g2, lp_e (by omega) C0, by rw [R0]; exact lp_e (by omega) R1, a3, PQ_XT (XT_trans (X1 0 0) (XT_mono (Nat.zero_le _) (Nat.zero_le _) a4))⟩
    rw [a1] at C0; simp only [obs] at C0; rw [if_neg (by decide)] at C0
    rw [a2] at R1; simp only [obs] at R1; rw [if_neg (by decide)] at R1
    have C1 : F_179 h2 = F_179_0 h2 := rfl
    unfold F_179_0 F_179_36 F_179_63 at C1
    have fn1 := RB_n a6
    have w6' := wrd_6 n bt (nx n bt f)
    obtain ⟨h3, k1, k2, k3, k4⟩ := step_C a3 a5
    obtain ⟨g3, l1, l2, l3, l4, l5⟩ := look_R k3 a6
    have CC := C_172 (x := 4) (by decide) k1 k2 k3.nf.1
    have X02 : XT 0 0 h g h2 g2 := XT_trans (X1 0 0) (XT_mono (Nat.zero_le _) (Nat.zero_le _) a8)
    have X03 : XT 0 0 h g h3 g3 := XT_trans X02 (XT_y a3.K (S52_Scl k4) (SLx_Srl l2))
    have FIN : ∀ {h4 g4 : sm_H} {e' pc : Nat}, F_179 h2 = some (0, h4) → F_464_25B (I3 nd, g1) = some (.inr (0, g4)) → FT e' pc h4 g4 → PQ nd h g h4 g4 → ∃ e pc h1 g1, lp F_178_16B fc (I3 np, h) = some (0, h1) ∧ E464 nd fu g = some (0, g1) ∧ FT e pc h1 g1 ∧ PQ nd h g h1 g1 := fun x1 x2 x3 x4 => by
      rw [x1] at C0; simp only [obs] at C0; rw [if_pos trivial] at C0
      exact ⟨_, _, _, _, lp_e (by omega) C0, by rw [R0]; exact lp_e (by omega) x2, x3, x4⟩
    by_cases w4 : wrd n bt (nx n bt f) = 4
    rotate_left
    · right
      obtain ⟨h4, m1, m2⟩ := CC.2 w4
      obtain ⟨h5, g5, f1, f2, f3, f4⟩ := XT_fail l1 (T' := 0) (k' := 0) (f := nx n bt f) (er_9 n bt (nx n bt f)).1 (er_9 n bt (nx n bt f)).2
      rw [m2] at f1
      injection f1 with f1
      have q1 : h4 = h5 := congrArg Prod.snd f1
      subst q1
      rw [show F_172 4 h2 = some (0, h4) from m1] at C1; simp only [obs] at C1; rw [if_pos trivial] at C1
      refine FIN C1 ?_ f3 (PQ_XT (XT_trans X03 f4))
      rw [R1]
      unfold er at f2
      by_cases v : wrd n bt (nx n bt f) = 6
      · rw [if_pos v] at f2 l5
        rw [l5, f2]; rfl
      · rw [if_neg v] at f2 l5
        rw [l5.1]; simp only [obs]
        rw [if_neg (by decide), if_neg (show ¬ g3.1 67 80 = 1 by
          rw [l5.2.2.2.1, show (1 : Int32) = I3 (rwd 4) from rfl, I3_inj (by have := rwd_5 (x := wrd n bt (nx n bt f)) (by omega); omega) (by decide)]
          exact fun y => w4 (rwd_inj (by omega) (by omega) y))]
        have q1 := f421 g3 l4
        rw [show F_413 4 (I3 (nx n bt f)) g3 = some (0, g5) from f2] at q1
        cases hq : F_421 g3 with
        | none => rw [hq] at q1; cases q1
        | some q =>
          rw [hq] at q1
          simp only [Option.bind_some] at q1 ⊢
          by_cases z : q.1 = 0 ∨ q.1 = 1
          · rw [if_pos z] at q1 ⊢
            injection q1 with q1
            rw [q1]
          · rw [if_neg z] at q1; cases q1
    rw [if_neg (by omega)] at l5
    obtain ⟨l5, lr3⟩ := l5
    rw [show F_172 4 h2 = some (1, h3) from CC.1 w4] at C1; simp only [obs] at C1
    rw [if_neg (by decide), show F_248 h3 = some (h3.2.1 52 10, h3) from rfl, k2.2.2.2.2.2.1 w4] at C1; simp only [obs] at C1
    have P3 : PS nd np ps ks h3 g3 := PS_y P (agr_trans (agr_trans (S52_Scl c4) (agr_mono (fun b j z => Or.inr z) a9)) (S52_Scl k4)) (agr_trans (agr_trans (SLx_Srl d2) (agr_mono (fun b j z => by
      rcases z with ⟨z1, z2 | z2⟩
      · exact Or.inr ⟨z1, Or.inl z2⟩
      · exact Or.inl ⟨z1, by omega, by omega⟩) a10)) (SLx_Srl l2)) Scl_p Srl_p
    have ex := lr3.2.2.2.2.2.1 w4
    generalize hx : foldN bt (nx n bt f) (men n bt (nx n bt f) - nx n bt f) = x at C1 ex
    rw [l5] at R1; simp only [obs] at R1
    rw [if_neg (by decide), if_pos (show g3.1 67 80 = 1 from lr3.2.2.1.trans (by rw [w4]; rfl)), ldI_I nd60 (by decide), P3.2.2.1] at R1; simp only [obs] at R1
    have R2 : F_464_25B (I3 nd, g1) = F_464_94 (I3 nd) (b2 (decide (np = 6))) 0 g3 := by
      rw [R1]
      unfold F_464_91
      by_cases z : np = 6
      · rw [if_pos (by rw [z]; rfl), decide_eq_true z]; rfl
      · rw [if_neg (by rw [I3_lit, I3_inj (by omega) (by decide)]; exact z), decide_eq_false z]; rfl
    have R3 : ∀ r, (if np = 6 ∨ dw ps np x < np then endB g3 else endS nd g3) = some r → F_464_25B (I3 nd, g1) = some r := fun r hr => by
      rw [R2]
      refine R_94 (ps := ps) nd60 n6 P3.2.2.1 (fun q hq => (P3.2.2.2 q hq).2.2.1) ex _ ?_
      by_cases z : np = 6 ∨ dw ps np x < np
      · rw [if_pos z] at hr
        rw [if_pos (by
          rcases z with z | z
          · exact Or.inl (decide_eq_true z)
          · exact Or.inr z)]
        exact hr
      · rw [if_neg z] at hr
        rw [if_neg (by
          rintro (y | y)
          · exact z (Or.inl (of_decide_eq_true y))
          · exact z (Or.inr y))]
        exact hr
    rw [P3.2.1] at C1
    by_cases bad : np = 6 ∨ dw ps np x < np
    · right
      obtain ⟨h4, g4, f1, f2, f3, f4⟩ := XT_fail l1 (T' := 0) (k' := 0) (e := 6) (f := nx n bt f) (by decide) (by decide)
      rw [if_pos bad] at R3
      refine FIN (h4 := h4) (g4 := g4) ?_ (R3 _ ?_) f3 (PQ_XT (XT_trans X03 f4))
      · rw [C1]
        by_cases z : np = 6
        · rw [if_pos (by rw [z]; decide), C_170 k2, show F_169 6 (I3 (nx n bt f)) h3 = some (-1, h4) from f1]; rfl
        · have dz : dw ps np x < np := by
            rcases bad with y | y
            · exact absurd y z
            · exact y
          rw [if_neg (by rw [I3_lit, I3_le (by decide) (by omega)]; omega), C_181s P3.2.1 (by omega) (fun q hq => (P3.2.2.2 q hq).1), if_pos dz]; simp only [obs]
          rw [if_neg (I3_m1 (by omega)), C_170 k2, show F_169 6 (I3 (nx n bt f)) h3 = some (-1, h4) from f1]; rfl
      · unfold endB
        rw [lr3.2.1, show F_413 6 (I3 (nx n bt f)) g3 = some (0, g4) from f2]; rfl
    rw [if_neg bad] at R3
    exact absurd (Or.inl (by omega)) bad
  | succ r ih =>
    intro np hnp fc fu f ps ks h g hc hf s o c rb P
    have n6 := P.1
    have fn := RB_n rb
    have w6 := wrd_6 n bt f
    obtain ⟨h1, c1, c2, c3, c4⟩ := step_C s c
    obtain ⟨g1, d1, d2, d3, d4, d5⟩ := look_R c3 rb
    have X1 : ∀ T' k', XT T' k' h g h1 g1 := fun T' k' => XT_y s.K (S52_Scl c4) (SLx_Srl d2)
    have C0 : F_178_16B (I3 np, h) = (F_171 h).bind fun q4 => if q4.1 = 2 then ((some (sm_wI q4.2 55 16 ((q4.2.1 55 16) - 1))).bind fun h6 => some (.inr (1, h6))) else (if q4.1 = 1 then (F_178_55 (I3 np) q4.2) else ((F_170 4 q4.2).bind fun q5 => F_178_55 (I3 np) q5.2)) := by
      unfold F_178_16B
      show (if 6 < I3 np then _ else _) = _
      rw [if_neg (by rw [I3_lit, I3_lt (by decide) (by omega)]; omega)]
    have R0 : E464 nd fu g = E464 nd fu g := rfl
    conv at R0 => rhs; unfold E464
    by_cases w : wrd n bt f = 6
    · right
      obtain ⟨h2, g2, b1, b2', b3, b4, b5⟩ := badWord c3 c2 rb w
      rw [b2'] at R0; simp only [obs] at R0; rw [if_pos trivial] at R0
      rw [C_171b c1 w b1] at C0; simp only [obs] at C0
      rw [if_neg (by decide), if_neg (by decide), C_170f b3] at C0; simp only [obs] at C0
      unfold F_178_55 F_178_76 at C0
      rw [if_neg (FT_nz b3)] at C0
      exact ⟨_, _, h2, g2, lp_e (by omega) C0, R0, b3, PQ_XT (XT_trans (XT_y s.K (S52_Scl c4) agr_rfl) b4)⟩
    rw [if_neg w] at d5
    obtain ⟨d5, lr⟩ := d5
    rw [C_171 c1 w] at C0; simp only [obs] at C0
    rw [d5] at R0; simp only [obs] at R0; rw [if_neg (by decide)] at R0
    have R1 : F_464_25B (I3 nd, g1) = F_464_25B (I3 nd, g1) := rfl
    conv at R1 => rhs; unfold F_464_25B
    simp only [] at R1
    rw [lr.2.2.1] at R1
    have nr : ∀ x : Nat, x < 6 → wrd n bt f ≠ x → ¬ I3 (rwd (wrd n bt f)) = I3 (rwd x) := fun x hx z => by
      rw [I3_inj (by have := rwd_5 (x := wrd n bt f) (by omega); omega) (by have := rwd_5 (x := x) (by omega); omega)]
      exact fun y => z (rwd_inj (by omega) (by omega) y)
    have nw : ∀ x : Nat, x < 6 → wrd n bt f ≠ x → ¬ I3 (wrd n bt f) = I3 x := fun x hx z => by rw [I3_inj (by omega) (by omega)]; exact z
    have p1 : OP 2 h1 g1 := OP_x o c4 d2 (by unfold S52; omega) (by unfold SLx; omega)
    by_cases w2 : wrd n bt f = 2
    · left
      rw [if_pos (by rw [w2]; rfl), p1.1, show I3 2 - 1 = I3 1 from I3_s1 1] at C0
      obtain ⟨g2, t1, t2, t3, t4⟩ := take_R d1 fn lr
      rw [if_pos (by rw [w2]; rfl), t1] at R1; simp only [obs] at R1
      rw [show g2.1 67 86 = I3 2 from (t4.1 67 86 (by omega)).trans p1.2.1, show I3 2 - 1 = I3 1 from I3_s1 1] at R1
      have a2 : agr Scl h1 (sm_wI h1 55 16 (I3 1)) := agr_wI agr_rfl (Or.inr ⟨rfl, rfl⟩)
      have b2' : agr Srl g1 (sm_wI g2 67 86 (I3 1)) := agr_wI (agr_mono (fun b j z => Or.inl ⟨z.1, by omega, by omega⟩) t4) (Or.inr ⟨rfl, Or.inl rfl⟩)
      obtain ⟨s2, X2⟩ := TS_y (T' := 0) (k' := 0) d1 a2 b2'
      exact ⟨_, _, nx n bt f, np, ps, ks, lp_e (by omega) C0, by rw [R0]; exact lp_e (by omega) R1, nx_gt fn (by omega) w, s2, ⟨rfl, rfl, by decide⟩, CB_nx (h := h1) fn c2 w, t2, PS_y P (agr_trans (S52_Scl c4) a2) (agr_trans (SLx_Srl d2) b2') Scl_p Srl_p, PQ_XT (XT_trans (X1 0 0) X2)⟩
    rw [if_neg (show ¬ I3 (wrd n bt f) = (2 : Int32) from nw 2 (by decide) w2)] at C0
    rw [if_neg (show ¬ I3 (rwd (wrd n bt f)) = (4 : Int32) from nr 2 (by decide) w2)] at R1
    by_cases w1 : wrd n bt f = 1
    rotate_left
    · right
      obtain ⟨h2, g2, f1, f2, f3, f4⟩ := XT_fail d1 (T' := 0) (k' := 0) (e := 4) (f := f) (by decide) (by decide)
      rw [if_neg (show ¬ I3 (wrd n bt f) = (1 : Int32) from nw 1 (by decide) w1), C_170 c2, show F_169 4 (I3 f) h1 = some (-1, h2) from f1] at C0; simp only [obs] at C0
      unfold F_178_55 F_178_76 at C0
      rw [if_neg (FT_nz f3)] at C0
      have q1 := f421 g1 d4
      rw [show F_413 4 (I3 f) g1 = some (0, g2) from f2] at q1
      rw [if_neg (show ¬ I3 (rwd (wrd n bt f)) = (3 : Int32) from nr 1 (by decide) w1)] at R1
      have R2 : F_464_25B (I3 nd, g1) = some (.inr (0, g2)) := by
        rw [R1]
        cases hq : F_421 g1 with
        | none => rw [hq] at q1; cases q1
        | some q =>
          rw [hq] at q1
          simp only [Option.bind_some] at q1 ⊢
          by_cases z : q.1 = 0 ∨ q.1 = 1
          · rw [if_pos z] at q1 ⊢
            injection q1 with q1
            rw [q1]
          · rw [if_neg z] at q1; cases q1
      exact ⟨4, f, h2, g2, lp_e (by omega) C0, by rw [R0]; exact lp_e (by omega) R2, f3, PQ_XT (XT_trans (X1 0 0) f4)⟩
    rw [if_pos (by rw [w1]; rfl)] at C0
    rw [if_pos (by rw [w1]; rfl)] at R1
    unfold F_178_55 F_178_76 at C0
    unfold F_464_60 at R1
    rw [if_pos c3.nf.1] at C0
    rcases openS d1 p1 fn c2 lr w1 with ⟨h2, g2, -, a1, a2, a3, a4, a5, a6, a7, a8, a9, a10⟩ | ⟨e', h2, g2, a1, a2, a3, a4⟩
    rotate_left
    · right
      rw [a1] at C0; simp only [obs] at C0; rw [if_pos trivial] at C0
      rw [a2] at R1; simp only [obs] at R1; rw [if_pos trivial] at R1
      exact ⟨e', _, h2, g2, lp_e (by omega) C0, by rw [R0]; exact lp_e (by omega) R1, a3, PQ_XT (XT_trans (X1 0 0) (XT_mono (Nat.zero_le _) (Nat.zero_le _) a4))⟩
    rw [a1] at C0; simp only [obs] at C0; rw [if_neg (by decide)] at C0
    rw [a2] at R1; simp only [obs] at R1; rw [if_neg (by decide)] at R1
    have C1 : F_179 h2 = F_179_0 h2 := rfl
    unfold F_179_0 F_179_36 F_179_63 at C1
    have fn1 := RB_n a6
    have w6' := wrd_6 n bt (nx n bt f)
    obtain ⟨h3, k1, k2, k3, k4⟩ := step_C a3 a5
    obtain ⟨g3, l1, l2, l3, l4, l5⟩ := look_R k3 a6
    have CC := C_172 (x := 4) (by decide) k1 k2 k3.nf.1
    have X02 : XT 0 0 h g h2 g2 := XT_trans (X1 0 0) (XT_mono (Nat.zero_le _) (Nat.zero_le _) a8)
    have X03 : XT 0 0 h g h3 g3 := XT_trans X02 (XT_y a3.K (S52_Scl k4) (SLx_Srl l2))
    have FIN : ∀ {h4 g4 : sm_H} {e' pc : Nat}, F_179 h2 = some (0, h4) → F_464_25B (I3 nd, g1) = some (.inr (0, g4)) → FT e' pc h4 g4 → PQ nd h g h4 g4 → ∃ e pc h1 g1, lp F_178_16B fc (I3 np, h) = some (0, h1) ∧ E464 nd fu g = some (0, g1) ∧ FT e pc h1 g1 ∧ PQ nd h g h1 g1 := fun x1 x2 x3 x4 => by
      rw [x1] at C0; simp only [obs] at C0; rw [if_pos trivial] at C0
      exact ⟨_, _, _, _, lp_e (by omega) C0, by rw [R0]; exact lp_e (by omega) x2, x3, x4⟩
    by_cases w4 : wrd n bt (nx n bt f) = 4
    rotate_left
    · right
      obtain ⟨h4, m1, m2⟩ := CC.2 w4
      obtain ⟨h5, g5, f1, f2, f3, f4⟩ := XT_fail l1 (T' := 0) (k' := 0) (f := nx n bt f) (er_9 n bt (nx n bt f)).1 (er_9 n bt (nx n bt f)).2
      rw [m2] at f1
      injection f1 with f1
      have q1 : h4 = h5 := congrArg Prod.snd f1
      subst q1
      rw [show F_172 4 h2 = some (0, h4) from m1] at C1; simp only [obs] at C1; rw [if_pos trivial] at C1
      refine FIN C1 ?_ f3 (PQ_XT (XT_trans X03 f4))
      rw [R1]
      unfold er at f2
      by_cases v : wrd n bt (nx n bt f) = 6
      · rw [if_pos v] at f2 l5
        rw [l5, f2]; rfl
      · rw [if_neg v] at f2 l5
        rw [l5.1]; simp only [obs]
        rw [if_neg (by decide), if_neg (show ¬ g3.1 67 80 = 1 by
          rw [l5.2.2.2.1, show (1 : Int32) = I3 (rwd 4) from rfl, I3_inj (by have := rwd_5 (x := wrd n bt (nx n bt f)) (by omega); omega) (by decide)]
          exact fun y => w4 (rwd_inj (by omega) (by omega) y))]
        have q1 := f421 g3 l4
        rw [show F_413 4 (I3 (nx n bt f)) g3 = some (0, g5) from f2] at q1
        cases hq : F_421 g3 with
        | none => rw [hq] at q1; cases q1
        | some q =>
          rw [hq] at q1
          simp only [Option.bind_some] at q1 ⊢
          by_cases z : q.1 = 0 ∨ q.1 = 1
          · rw [if_pos z] at q1 ⊢
            injection q1 with q1
            rw [q1]
          · rw [if_neg z] at q1; cases q1
    rw [if_neg (by omega)] at l5
    obtain ⟨l5, lr3⟩ := l5
    rw [show F_172 4 h2 = some (1, h3) from CC.1 w4] at C1; simp only [obs] at C1
    rw [if_neg (by decide), show F_248 h3 = some (h3.2.1 52 10, h3) from rfl, k2.2.2.2.2.2.1 w4] at C1; simp only [obs] at C1
    have P3 : PS nd np ps ks h3 g3 := PS_y P (agr_trans (agr_trans (S52_Scl c4) (agr_mono (fun b j z => Or.inr z) a9)) (S52_Scl k4)) (agr_trans (agr_trans (SLx_Srl d2) (agr_mono (fun b j z => by
      rcases z with ⟨z1, z2 | z2⟩
      · exact Or.inr ⟨z1, Or.inl z2⟩
      · exact Or.inl ⟨z1, by omega, by omega⟩) a10)) (SLx_Srl l2)) Scl_p Srl_p
    have ex := lr3.2.2.2.2.2.1 w4
    generalize hx : foldN bt (nx n bt f) (men n bt (nx n bt f) - nx n bt f) = x at C1 ex
    rw [l5] at R1; simp only [obs] at R1
    rw [if_neg (by decide), if_pos (show g3.1 67 80 = 1 from lr3.2.2.1.trans (by rw [w4]; rfl)), ldI_I nd60 (by decide), P3.2.2.1] at R1; simp only [obs] at R1
    have R2 : F_464_25B (I3 nd, g1) = F_464_94 (I3 nd) (b2 (decide (np = 6))) 0 g3 := by
      rw [R1]
      unfold F_464_91
      by_cases z : np = 6
      · rw [if_pos (by rw [z]; rfl), decide_eq_true z]; rfl
      · rw [if_neg (by rw [I3_lit, I3_inj (by omega) (by decide)]; exact z), decide_eq_false z]; rfl
    have R3 : ∀ r, (if np = 6 ∨ dw ps np x < np then endB g3 else endS nd g3) = some r → F_464_25B (I3 nd, g1) = some r := fun r hr => by
      rw [R2]
      refine R_94 (ps := ps) nd60 n6 P3.2.2.1 (fun q hq => (P3.2.2.2 q hq).2.2.1) ex _ ?_
      by_cases z : np = 6 ∨ dw ps np x < np
      · rw [if_pos z] at hr
        rw [if_pos (by
          rcases z with z | z
          · exact Or.inl (decide_eq_true z)
          · exact Or.inr z)]
        exact hr
      · rw [if_neg z] at hr
        rw [if_neg (by
          rintro (y | y)
          · exact z (Or.inl (of_decide_eq_true y))
          · exact z (Or.inr y))]
        exact hr
    rw [P3.2.1] at C1
    by_cases bad : np = 6 ∨ dw ps np x < np
    · right
      obtain ⟨h4, g4, f1, f2, f3, f4⟩ := XT_fail l1 (T' := 0) (k' := 0) (e := 6) (f := nx n bt f) (by decide) (by decide)
      rw [if_pos bad] at R3
      refine FIN (h4 := h4) (g4 := g4) ?_ (R3 _ ?_) f3 (PQ_XT (XT_trans X03 f4))
      · rw [C1]
        by_cases z : np = 6
        · rw [if_pos (by rw [z]; decide), C_170 k2, show F_169 6 (I3 (nx n bt f)) h3 = some (-1, h4) from f1]; rfl
        · have dz : dw ps np x < np := by
            rcases bad with y | y
            · exact absurd y z
            · exact y
          rw [if_neg (by rw [I3_lit, I3_le (by decide) (by omega)]; omega), C_181s P3.2.1 (by omega) (fun q hq => (P3.2.2.2 q hq).1), if_pos dz]; simp only [obs]
          rw [if_neg (I3_m1 (by omega)), C_170 k2, show F_169 6 (I3 (nx n bt f)) h3 = some (-1, h4) from f1]; rfl
      · unfold endB
        rw [lr3.2.1, show F_413 6 (I3 (nx n bt f)) g3 = some (0, g4) from f2]; rfl
    rw [if_neg bad] at R3
    have n5 : np < 6 := by omega
    have dz : ¬ dw ps np x < np := fun z => bad (Or.inr z)
    rw [if_neg (by rw [I3_lit, I3_le (by decide) (by omega)]; omega), C_181s P3.2.1 (by omega) (fun q hq => (P3.2.2.2 q hq).1), if_neg dz] at C1; simp only [obs] at C1
    rw [if_pos trivial] at C1
    unfold endS at R3
    rw [ldI_I nd60 (by decide), P3.2.2.1] at R3; simp only [obs] at R3
    rw [show (390 : Int32) + I3 np = I3 (390 + np) by rw [I3_lit, I3_add], stJ_I (by omega) (by decide), ex] at R3; simp only [obs] at R3
    have a34 : agr (fun b j => b = 117 ∧ j = 390 + np) g3 (sm_wJ g3 117 (390 + np) x) := agr_wJ agr_rfl ⟨rfl, rfl⟩
    have X34 : XT 0 0 h3 g3 h3 (sm_wJ g3 117 (390 + np) x) := XT_TW (TW_sc l1.K agr_rfl (agr_mono (fun b j z => Or.inr (Or.inl z.1)) a34)) (fun z => z)
    have s4 : TU n bt k h3 (sm_wJ g3 117 (390 + np) x) := ⟨X34.k1, l1.nf, trivial, l1.t, l1.b, l1.xc, l1.xr⟩
    have lr4 : LXR n bt (nx n bt f) (sm_wJ g3 117 (390 + np) x) := lr3
    have v117 : ∀ q, (sm_wJ g3 117 (390 + np) x).2.1 117 q = if q = 390 + np then x else g3.2.1 117 q := fun q => rfl
    have P4 : PS nd np ps ks h3 (sm_wJ g3 117 (390 + np) x) := PS_y (P := fun _ _ => False) P3 agr_rfl a34 (fun b j z => z.elim) (fun b j z => by omega)
    generalize hg4 : sm_wJ g3 117 (390 + np) x = g4 at *
    obtain ⟨g5, t1, t2, t3, t4⟩ := take_R s4 fn1 lr4
    rw [t1] at R3; simp only [obs] at R3
    have a45 : agr Srl g4 g5 := agr_mono (fun b j z => Or.inl ⟨z.1, by omega, by omega⟩) t4
    have X05 : XT 0 0 h g h3 g5 := XT_trans X03 (XT_trans X34 (XT_y s4.K agr_rfl a45))
    have c5 : CB n bt (nx n bt (nx n bt f)) h3 := CB_nx fn1 k2 (by omega)
    rcases kindB false t3 c5 t2 with ⟨i, h6, g6, y1, y2, y3, y4, y5, y6, y7, y8, y9, y10, y11, y12⟩ | ⟨e', h6, g6, y1, y2, y3, y4⟩
    rotate_left
    · right
      rw [show F_176 0 h3 = some (-1, h6) from y1] at C1; simp only [obs] at C1; rw [if_pos trivial] at C1
      rw [show F_424 0 g5 = some (0, g6) from y2] at R3; simp only [obs] at R3; rw [if_pos trivial] at R3
      exact FIN C1 (R3 _ rfl) y3 (PQ_XT (XT_trans X05 (XT_mono (Nat.zero_le _) (Nat.zero_le _) y4)))
    have i20 := y6.K.1.2.1
    have nc6 : nC g6 = nC g5 := nC_XR y10.a
    rw [show F_176 0 h3 = some (I3 i, h6) from y1] at C1; simp only [obs] at C1; rw [if_neg (I3_m1 (by omega))] at C1
    rw [show F_424 0 g5 = some (1, g6) from y2] at R3; simp only [obs] at R3; rw [if_neg (by decide)] at R3
    have p6 : OP 3 h6 g6 := ⟨(y11.1 55 16 (by unfold S52; omega)).trans ((k4.1 55 16 (by unfold S52; omega)).trans a4.1), (y12.1 67 86 (by unfold SLx; omega)).trans ((t4.1 67 86 (by omega)).trans ((a34.1 67 86 (by omega)).trans ((l2.1 67 86 (by unfold SLx; omega)).trans a4.2.1))), by decide⟩
    rcases closeE y6 p6 y7 y8 with ⟨h7, g7, q1, q2, q3, q4, q5, q6, q7, q8, q9⟩ | ⟨e', h7, g7, q1, q2, q3, q4⟩
    rotate_left
    · right
      rw [q1] at C1; simp only [obs] at C1; rw [if_pos trivial] at C1
      rw [q2] at R3; simp only [obs] at R3; rw [if_pos trivial] at R3
      exact FIN C1 (R3 _ rfl) q3 (PQ_XT (XT_trans X05 (XT_trans (XT_mono (Nat.zero_le _) (Nat.zero_le _) y10) (XT_mono (Nat.zero_le _) (Nat.zero_le _) q4))))
    have af := close_f y6.xr y6.nf.2 y8 p6.2.1 q2
    rw [q1] at C1; simp only [obs] at C1; rw [if_neg (by decide)] at C1
    rw [q2] at R3; simp only [obs] at R3; rw [if_neg (by decide)] at R3
    have X07 : XT 0 0 h g h7 g7 := XT_trans X05 (XT_trans (XT_mono (Nat.zero_le _) (Nat.zero_le _) y10) (XT_y y6.K q8 q9))
    have a47c : agr Scl h3 h7 := agr_trans (S52_Scl y11) q8
    have a47r : agr Srl g4 g7 := agr_trans (agr_trans a45 (agr_mono (fun b j z => by
      rcases z with z | z
      · exact Or.inl z
      · exact Or.inr ⟨z.1, by omega⟩) y12)) q9
    have P7 : PS nd np ps ks h7 g7 := PS_y P4 a47c a47r Scl_p Srl_p
    have v7 : g7.2.1 117 (390 + np) = x := (a47r.2.1 117 _ (by unfold Srl SLx; omega)).trans (by rw [v117, if_pos rfl])
    rw [P7.2.1, stJ_I (by omega) (by decide)] at C1; simp only [obs] at C1
    rw [show (sm_wJ h7 58 np x).1 55 9 = I3 np from P7.2.1, stI_I (by omega) (by decide)] at C1; simp only [obs] at C1
    rw [show (sm_wI (sm_wJ h7 58 np x) 59 np (I3 i)).1 55 9 = I3 np from P7.2.1, show I3 np + 1 = I3 (np + 1) from I3_add np 1] at C1
    rw [C1] at C0; simp only [obs] at C0; rw [if_neg (by decide), show I3 np + 1 = I3 (np + 1) from I3_add np 1] at C0
    rw [ldI_I nd60 (by decide), P7.2.2.1] at R3; simp only [obs] at R3
    rw [show (6 : Int32) * I3 nd + I3 np = I3 (6 * nd + np) by rw [I3_lit, I3_mul, I3_add], stI_I (by omega) (by decide), show g7.1 67 105 = I3 i from (af.1 67 105 (by unfold SLx; omega)).trans y3] at R3; simp only [obs] at R3
    rw [ldI_I nd60 (by decide), show (sm_wI g7 116 (6 * nd + np) (I3 i)).1 115 nd = I3 np from P7.2.2.1] at R3; simp only [obs] at R3
    rw [stI_I nd60 (by decide), show I3 np + 1 = I3 (np + 1) from I3_add np 1] at R3; simp only [obs] at R3
    have KA := K1_116 (h := h7) q3.K (6 * nd + np) (I3 i)
    have KB := K1_115 KA.1 nd (I3 (np + 1))
    have a8c : agr Ssp h7 (sm_wI (sm_wI (sm_wJ h7 58 np x) 59 np (I3 i)) 55 9 (I3 (np + 1))) := agr_wI (agr_wI (agr_wJ agr_rfl (Or.inr (Or.inl rfl))) (Or.inr (Or.inr rfl))) (Or.inl ⟨rfl, rfl⟩)
    have a8r : agr (fun b j => b = 115 ∧ j = nd ∨ b = 116 ∧ j = 6 * nd + np) g7 (sm_wI (sm_wI g7 116 (6 * nd + np) (I3 i)) 115 nd (I3 (np + 1))) := agr_wI (agr_wI agr_rfl (Or.inr ⟨rfl, rfl⟩)) (Or.inl ⟨rfl, rfl⟩)
    have K8 : K1 (sm_wI (sm_wI (sm_wJ h7 58 np x) 59 np (I3 i)) 55 9 (I3 (np + 1))) (sm_wI (sm_wI g7 116 (6 * nd + np) (I3 i)) 115 nd (I3 (np + 1))) := K1_h KB.1 (agr_mono Ssp_not a8c)
    have PQ8 : PQ nd h7 g7 (sm_wI (sm_wI (sm_wJ h7 58 np x) 59 np (I3 i)) 55 9 (I3 (np + 1))) (sm_wI (sm_wI g7 116 (6 * nd + np) (I3 i)) 115 nd (I3 (np + 1))) := ⟨K8, ext_trans KA.2.1 KB.2.1, grow_trans KA.2.2 KB.2.2, agr_mono (fun b j z => Or.inr (Or.inl z)) a8c, agr_mono (fun b j z => Or.inr (by omega)) a8r⟩
    have P8 : PS nd (np + 1) (fun q => if q = np then x else ps q) (fun q => if q = np then I3 i else ks q) (sm_wI (sm_wI (sm_wJ h7 58 np x) 59 np (I3 i)) 55 9 (I3 (np + 1))) (sm_wI (sm_wI g7 116 (6 * nd + np) (I3 i)) 115 nd (I3 (np + 1))) := by
      refine ⟨by omega, rfl, if_pos rfl, fun q hq => ?_⟩
      have nc : nC (sm_wI (sm_wI g7 116 (6 * nd + np) (I3 i)) 115 nd (I3 (np + 1))) = nC g7 := rfl
      have nc7 : nC g7 = nC g6 := by show tn _ = tn _; rw [q9.1 67 6 (by unfold Srl SLx; omega)]
      by_cases z : q = np
      · subst z
        exact ⟨(if_pos rfl).trans (if_pos rfl).symm, (if_pos rfl).trans (if_pos rfl).symm, v7.trans (if_pos rfl).symm, (if_pos rfl).trans (if_pos rfl).symm, i, if_pos rfl, y5 rfl, by omega⟩
      · obtain ⟨z1, z2, z3, z4, z5⟩ := P7.2.2.2 q (by omega)
        refine ⟨?_, ?_, ?_, ?_, ?_⟩
        · show (if q = np then x else h7.2.1 58 q) = _
          rw [if_neg z]
          show h7.2.1 58 q = if q = np then x else ps q
          rw [if_neg z]; exact z1
        · show (if q = np then I3 i else h7.1 59 q) = _
          rw [if_neg z]
          show h7.1 59 q = if q = np then I3 i else ks q
          rw [if_neg z]; exact z2
        · show g7.2.1 117 (390 + q) = if q = np then x else ps q
          rw [if_neg z]; exact z3
        · show (if 6 * nd + q = 6 * nd + np then I3 i else g7.1 116 (6 * nd + q)) = if q = np then I3 i else ks q
          rw [if_neg (by omega), if_neg z]; exact z4
        · show ∃ i', (if q = np then I3 i else ks q) = I3 i' ∧ _
          rw [if_neg z]; exact z5
    have s8 : TU n bt k (sm_wI (sm_wI (sm_wJ h7 58 np x) 59 np (I3 i)) 55 9 (I3 (np + 1))) (sm_wI (sm_wI g7 116 (6 * nd + np) (I3 i)) 115 nd (I3 (np + 1))) := ⟨K8, q3.nf, trivial, q3.t, q3.b, q3.xc, q3.xr⟩
    have p8 : OP 2 (sm_wI (sm_wI (sm_wJ h7 58 np x) 59 np (I3 i)) 55 9 (I3 (np + 1))) (sm_wI (sm_wI g7 116 (6 * nd + np) (I3 i)) 115 nd (I3 (np + 1))) := q4
    have c8 : CB n bt (nx n bt (nx n bt (nx n bt (nx n bt f)))) (sm_wI (sm_wI (sm_wJ h7 58 np x) 59 np (I3 i)) 55 9 (I3 (np + 1))) := q5
    have r8 : RB n bt (nx n bt (nx n bt (nx n bt (nx n bt f)))) (sm_wI (sm_wI g7 116 (6 * nd + np) (I3 i)) 115 nd (I3 (np + 1))) := q6
    generalize sm_wI (sm_wI (sm_wJ h7 58 np x) 59 np (I3 i)) 55 9 (I3 (np + 1)) = h8 at *
    generalize sm_wI (sm_wI g7 116 (6 * nd + np) (I3 i)) 115 nd (I3 (np + 1)) = g8 at *
    have PQ0 : PQ nd h g h8 g8 := PQ_trans (PQ_XT X07) PQ8
    have ff1 := nx_gt (n := n) (bt := bt) fn1 (by omega) (by omega)
    have L : lp F_178_16B fc (I3 np, h) = lp F_178_16B (fc - 1) (I3 (np + 1), h8) := lp_s (by omega) C0
    have EE : E464 nd fu g = E464 nd (fu - 1) g8 := by
      rw [R0]
      unfold E464
      obtain ⟨g9, e1, e2, e3, e4, e5⟩ := look_R s8 r8
      by_cases v : wrd n bt (nx n bt (nx n bt (nx n bt (nx n bt f)))) = 6
      · rw [if_pos v] at e5
        obtain ⟨g10, u1, -⟩ := fail_R (g := g9) (f := nx n bt (nx n bt (nx n bt (nx n bt f)))) e1.nf.2 (I3 (wtr n bt (nx n bt (nx n bt (nx n bt (nx n bt f)))))) rfl
        rw [e5, u1] at R3 ⊢
        simp only [obs] at R3 ⊢
        rw [if_pos trivial] at R3
        exact lp_e (by omega) (R3 _ rfl)
      · rw [if_neg v] at e5
        rw [e5.1] at R3 ⊢
        simp only [obs] at R3 ⊢
        rw [if_neg (by decide)] at R3 ⊢
        exact lp_s (by omega) (R3 _ rfl)
    rw [L, EE]
    rcases ih (np + 1) (by omega) (fc - 1) (fu - 1) _ _ _ h8 g8 (by omega) (by omega) s8 p8 c8 r8 P8 with ⟨h9, g9, f', np', ps', ks', z1, z2, z3, z4, z5, z6, z7, z8, z9⟩ | ⟨e', pc, h9, g9, z1, z2, z3, z4⟩
    · exact Or.inl ⟨h9, g9, f', np', ps', ks', z1, z2, by omega, z4, z5, z6, z7, z8, PQ_trans PQ0 z9⟩
    · exact Or.inr ⟨e', pc, h9, g9, z1, z2, z3, PQ_trans PQ0 z4⟩
end
