def ES (n : Nat) (bt : Nat → Nat) (nd : Nat) (rec : sm_H → Option (Int32 × sm_H)) (o0 : Nat) : Prop := ∀ (o T k m f : Nat) (nm : Nat → Int64) (kd : List Int32) (h g : sm_H), o0 ≤ o → TS n bt T (k + 1) nm kd h g → OP o h g → DF nd h g → LXC n bt f h → RB n bt f g → wrd n bt f ≠ 6 → k < o → T ≤ 8 * k → m ≤ 4000 → g.1 124 k = I3 m → EO n bt o T k m f nm kd h g (rec h) (F_448 g)
section
variable {n : Nat} {bt : Nat → Nat} {nd o T j k m p f f0 nv : Nat} {nm nm' ns : Nat → Int64} {kd kd' : List Int32} {pt : Nat → Nat} {h g : sm_H} {rec rec2 : sm_H → Option (Int32 × sm_H)}
theorem EX_of {o0 : Nat} (hr : ∀ u, rec u = F_194R rec2 u) (S : ES n bt nd rec o0) : EX n bt nd rec o0 := fun o T k m f nm kd h g ho s p d c r ko hT m3 e => exprA hr (fun h1 a s1 p1 l1 w1 => S o T k m f nm kd h1 g ho s1 p1 (DF_T (T := T) (k := k) s.K d (XT_y s.K (S52_Scl a) agr_rfl)) l1 r w1 ko hT m3 e) s p c r
theorem F460e (hj : j < 24) (e : g.1 124 j = I3 m) : ∃ y2 y3 y4, F_460 (I3 j) g = F_460_74 (I3 j) y2 y3 y4 g := by
  show ∃ y2 y3 y4, F_460_0 (I3 j) g = _
  unfold F_460_0 F_460_22 F_460_48
  have l4 : ldI g 124 24 (I3 j) = some (I3 m) := by rw [ldI_I hj (by decide), e]
  rw [l4]; simp only [obs]
  rw [show (20 : Int32) * I3 j = I3 (20 * j + 0) by rw [I3_lit, I3_mul]; rfl, show I3 (20 * j + 0) + 1 = I3 (20 * j + 1) from I3_add _ 1, show I3 (20 * j + 0) + 2 = I3 (20 * j + 2) from I3_add _ 2, ldI_I (by omega) (by decide), ldI_I (by omega) (by decide), ldI_I (by omega) (by decide)]; simp only [obs]
  by_cases q0 : I3 m ≤ 0
  · rw [if_pos q0]
    by_cases q1 : I3 m ≤ 1
    · rw [if_pos q1]
      by_cases q2 : I3 m ≤ 2
      · rw [if_pos q2]; exact ⟨_, _, _, rfl⟩
      · rw [if_neg q2]; exact ⟨_, _, _, rfl⟩
    · rw [if_neg q1]
      by_cases q2 : I3 m ≤ 2
      · rw [if_pos q2]; exact ⟨_, _, _, rfl⟩
      · rw [if_neg q2]; exact ⟨_, _, _, rfl⟩
  · rw [if_neg q0]
    by_cases q1 : I3 m ≤ 1
    · rw [if_pos q1]
      by_cases q2 : I3 m ≤ 2
      · rw [if_pos q2]; exact ⟨_, _, _, rfl⟩
      · rw [if_neg q2]; exact ⟨_, _, _, rfl⟩
    · rw [if_neg q1]
      by_cases q2 : I3 m ≤ 2
      · rw [if_pos q2]; exact ⟨_, _, _, rfl⟩
      · rw [if_neg q2]; exact ⟨_, _, _, rfl⟩
theorem F460c {d : Nat} (hj : j < 24) (e : g.1 124 j = I3 m) (s : g.1 119 j = 18) (x : g.1 122 j = I3 d) : F_460 (I3 j) g = F_463 (I3 j) (I3 d) g := by
  obtain ⟨y2, y3, y4, E⟩ := F460e hj e
  rw [E]
  unfold F_460_74
  rw [ldI_I hj (by decide), x, ldI_I hj (by decide), s]; simp only [obs]
  rw [if_neg (by decide), if_neg (by decide), if_neg (by decide), if_neg (by decide), if_neg (by decide), if_neg (by decide), if_neg (by decide), if_neg (by decide), if_neg (by decide), if_neg (by decide), if_neg (by decide), if_neg (by decide), if_neg (by decide), if_neg (by decide), if_neg (by decide), if_neg (by decide), if_neg (by decide), bind_id]
theorem F451c (b : g.1 67 102 = I3 (j + 1)) (j4 : j < 24) (s : g.1 119 j = 18) : F_451 g = (F_418 g).bind fun q10 => if q10.1 = 0 then (some (0, q10.2)) else (if (q10.2.1 67 80) = 4 then wp (F_457 q10.2) else wp (F_448 q10.2)) := by
  show F_451_0 g = _
  unfold F_451_0
  rw [b, I3_s1]; simp only [obs]
  rw [ldI_I j4 (by decide), s]; simp only [obs]
  rw [show F_442 18 g = some (-1, g) from rfl]; simp only [obs]
  rw [if_pos trivial, ldI_I j4 (by decide), s]; simp only [obs]
  simp only [if_true]; rfl
theorem callN {a d : Nat} (hr : ∀ u, rec u = F_194R rec2 u) (S : ES n bt nd rec (o + 1)) (ko : k < o) (hT : T ≤ 8 * k) (m3 : m ≤ 4000) (hd : d < nd) : ∀ (r fu f M : Nat) (pt : Nat → Nat) (h g : sm_H), n - f < r → r ≤ fu → M < f → BS n bt nd (o + 1) T (k + 1) M (min M 6) f nm kd pt h g → FC g (k + 1) f0 kd.length 18 0 (I3 d) → (∀ i, i < M → pt i < nH g ∧ hpl g (pt i) = kd) → g.1 114 d = I3 a → a < nH g → g.1 124 k = I3 m → BO n bt o T k m f nm kd h g (lp (F_214_49B rec) fu (I3 f0, I3 T, I3 a, I3 (hpl g a).length, I3 M, I3 M, h)) := by
  intro r
  induction r with
  | zero =>
    intro fu f M pt h g hn
    omega
  | succ r ih =>
    intro fu f M pt h g hn hf Mf B F ok e114 ha e
    have o20 := B.op.2.2
    have fn := RB_n B.r
    have n3 := B.t.xr.2.1
    have w6 := wrd_6 n bt f
    obtain ⟨h1, c1, c2, c3, c4⟩ := step_C B.t B.c
    obtain ⟨g1, d1, d2, d3, d4, d5⟩ := look_R c3 B.r
    have X1 : ∀ T' k', XT T' k' h g h1 g1 := fun T' k' => XT_y B.t.K (S52_Scl c4) (SLx_Srl d2)
    have h10 := hpl10 B.t.K ha
    have C0 : F_214_49B rec (I3 f0, I3 T, I3 a, I3 (hpl g a).length, I3 M, I3 M, h) = (F_171 h).bind fun q9 => if q9.1 = 2 then ((F_214_105 rec (I3 f0) (I3 T) (I3 a) (I3 (hpl g a).length) (I3 M) q9.2).map fun r => (.inr r)) else ((rec q9.2).bind fun q10 => if q10.1 = (-1) then ((F_214_94 rec q10.2).map fun r => (.inr r)) else (if 6 ≤ I3 M then (F_214_96 rec (I3 f0) (I3 T) (I3 a) (I3 (hpl g a).length) (I3 M) (I3 M) q10.2) else ((F_188 q10.1 0 q10.2).bind fun q11 => if q11.1 = 0 then ((F_214_94 rec q11.2).map fun r => (.inr r)) else (F_214_96 rec (I3 f0) (I3 T) (I3 a) (I3 (hpl g a).length) (I3 M) (I3 M) q11.2)))) := by
      unfold F_214_49B
      show (if 3000 ≤ I3 M then _ else _) = _
      rw [if_neg (by rw [I3_lit, I3_le (by decide) (by omega)]; omega)]
    have R0 := F451c B.t.b (by omega) F.1
    by_cases w : wrd n bt f = 6
    · obtain ⟨h2, g2, b1, b2', b3, b4, b5⟩ := badWord c3 c2 B.r w
      rw [b2'] at R0; simp only [obs] at R0; rw [if_pos trivial] at R0
      have e2 : rec h2 = some (-1, h2) := by
        rw [hr]
        show F_194_0 rec2 h2 = _
        unfold F_194_0 F_194_109
        rw [show F_243 h2 = some (h2.1 52 5, h2) from rfl]; simp only [obs]
        rw [show F_242 h2 = some (h2.1 52 4, h2) from rfl, b5.1 52 4 (by omega), c2.2.1, w]; simp only [obs]
        rw [if_neg (by decide), if_neg (by decide), if_neg (by decide), C_170f b3]; rfl
      rw [C_171b c1 w b1] at C0; simp only [obs] at C0
      rw [if_neg (by decide), e2] at C0; simp only [obs] at C0
      rw [if_pos trivial] at C0
      exact BO_f B.t.b (by omega) fn R0 (lp_e (by omega) C0) b3 (XT_trans (XT_y B.t.K (S52_Scl c4) agr_rfl) b4)
    rw [if_neg w] at d5
    obtain ⟨d5, lr⟩ := d5
    rw [C_171 c1 w] at C0; simp only [obs] at C0
    rw [d5] at R0; simp only [obs] at R0; rw [if_neg (by decide)] at R0
    have F1 := FC_r F (SLx_Srl d2)
    by_cases w2 : wrd n bt f = 2
    · rw [if_pos (by rw [w2]; rfl)] at C0
      rw [if_pos (by rw [lr.2.2.1, w2]; rfl), F457e] at R0
      have p1 : OP (o + 1) h1 g1 := OP_x B.op c4 d2 (by unfold S52; omega) (by unfold SLx; omega)
      rcases close_R d1.xr d1.nf.2 d3 p1.2.1 with ⟨-, g2, z1, z2, z3, z4⟩ | ⟨w', -⟩
      rotate_left
      · exact absurd w2 w'
      rw [z1] at R0; simp only [obs] at R0; rw [if_neg (by decide)] at R0
      unfold F_214_105 at C0
      rw [p1.1, I3_s1] at C0; simp only [obs] at C0
      have a5 : agr Scl h1 (sm_wI h1 55 16 (I3 o)) := agr_wI agr_rfl (Or.inr ⟨rfl, rfl⟩)
      have p5 : (sm_wI h1 55 16 (I3 o)).1 55 16 = I3 o := rfl
      have c5 : CB n bt (nx n bt f) (sm_wI h1 55 16 (I3 o)) := CB_nx (h := h1) fn c2 w
      generalize hh5 : sm_wI h1 55 16 (I3 o) = h5 at *
      obtain ⟨s5, X5⟩ := TS_y (T' := T) (k' := k + 1) d1 a5 z4
      have X05 := XT_trans (X1 T (k + 1)) X5
      have F2 := FC_r F1 z4
      have a26 : agr (fun b j => SLx b j ∨ (b = 67 ∧ (j = 105 ∨ j = 106 ∨ j = 108))) g2 (sm_wI g2 67 106 (I3 f0)) := agr_wI agr_rfl (Or.inr ⟨rfl, Or.inr (Or.inl rfl)⟩)
      obtain ⟨s6, X6⟩ := TS_x (T' := T) (k' := k + 1) s5 agr_rfl a26
      have X06 := XT_trans X05 X6
      have D6 := DF_T B.t.K B.d X06
      obtain ⟨t1, t2, a', t3, t4, t5, t6, t7⟩ := D6.2.2.2 d hd
      have nd6 := D6.2.2.1
      have e6 : (sm_wI g2 67 106 (I3 f0)).1 114 d = I3 a := (X06.a.1 114 d (by unfold XRc SRa SRq SRb SRp SRh SRt Ssr SLx; omega)).trans e114
      have ea : a' = a := by
        have z := t4.symm.trans e6
        have l1 := lt500 s6.K t3
        have l2 := lt500 B.t.K ha
        exact (I3_inj (by omega) (by omega)).mp z
      subst ea
      have hl : hpl (sm_wI g2 67 106 (I3 f0)) a' = hpl g a' := X06.hpl B.t.K ha
      have m6 : (sm_wI g2 67 106 (I3 f0)).1 124 (k + 1) = I3 M := (z4.1 124 _ (by unfold Srl SLx; omega)).trans ((d2.1 124 _ (by unfold SLx; omega)).trans B.mm)
      have P6 : F_460 (I3 (k + 1)) (sm_wI g2 67 106 (I3 f0)) = if M = (hpl g a').length then F_463_30 (I3 (k + 1)) (I3 d) 0 (sm_wI g2 67 106 (I3 f0)) else ((F_413 9 (I3 f0) (sm_wI g2 67 106 (I3 f0))).bind fun q16 => some ((-1), q16.2)) := by
        rw [F460c (by omega) m6 F2.1 F2.2.2.2.1]
        show F_463_0 (I3 (k + 1)) (I3 d) (sm_wI g2 67 106 (I3 f0)) = _
        unfold F_463_0
        rw [ldI_I (by omega) (by decide), m6]; simp only [obs]
        rw [ldI_I (by omega) (by decide), t6, hl]; simp only [obs]
        by_cases q : M = (hpl g a').length
        · rw [if_pos q, if_pos (by rw [q])]
        · rw [if_neg q, if_neg (by rw [I3_inj (by omega) (by omega)]; exact q)]; rfl
      have P : PW T h5 (sm_wI g2 67 106 (I3 f0)) f0 (if M = (hpl g a').length then F_214_133 rec (I3 f0) (I3 T) (I3 a') (I3 (hpl g a').length) 0 h5 else ((F_169 9 (I3 f0) h5).bind fun q6 => some (q6.1, q6.2))) (F_460 (I3 (k + 1)) (sm_wI g2 67 106 (I3 f0))) nm kd := by
        rw [P6]
        by_cases q : M = (hpl g a').length
        · rw [if_pos q, if_pos q]
          have M6 : M ≤ 6 := by rw [q, ← hl]; exact t5
          rw [Nat.min_eq_left M6] at B s6
          refine PW_of s6.S (called (m := (hpl g a').length) s6.K s6.S s6.nf rfl t3 rfl (by rw [hl]) (by omega) (by omega) (by omega) (by rw [← hl]; exact t6) e6 (fun i hi => t7 i (by rw [hl]; exact hi)) (pt := pt) ⟨T + M, s6.t.1, by omega, s6.t.2, fun i hi => ?_⟩ (fun i hi => ?_) (fun i hi => ?_) rec)
          · exact (a5.1 60 _ (by unfold Scl S52; omega)).trans ((c4.1 60 _ (by unfold S52; omega)).trans (B.s i (by omega)))
          · have zz := ok i (by omega)
            exact ⟨X06.nH zz.1, (X06.hpl B.t.K zz.1).trans zz.2⟩
          · exact (z4.1 125 _ (by unfold Srl SLx; omega)).trans ((d2.1 125 _ (by unfold SLx; omega)).trans (B.q i (by omega) (by omega)))
        · rw [if_neg q, if_neg q]
          obtain ⟨h6, g6, f1, f2, f3, f4⟩ := failB s6.K s6.nf (e := 9) (pc := f0) (by decide) (by decide)
          rw [show F_169 9 (I3 f0) h5 = some (-1, h6) from f1, show F_413 9 (I3 f0) (sm_wI g2 67 106 (I3 f0)) = some (0, g6) from f2]
          exact Or.inr ⟨9, h6, g6, rfl, rfl, TW_of (TB_of f3), f4, NL_S (SCO_TK s6.S f3)⟩
      have C1 : F_214_49B rec (I3 f0, I3 T, I3 a', I3 (hpl g a').length, I3 M, I3 M, h) = (if M = (hpl g a').length then F_214_133 rec (I3 f0) (I3 T) (I3 a') (I3 (hpl g a').length) 0 h5 else ((F_169 9 (I3 f0) h5).bind fun q6 => some (q6.1, q6.2))).map fun r => (.inr r) := by
        rw [C0]
        by_cases q : M = (hpl g a').length
        · rw [if_pos q, if_pos (by rw [q])]
        · rw [if_neg q, if_neg (by rw [I3_inj (by omega) (by omega)]; exact q)]
      have L : ∀ v, (if M = (hpl g a').length then F_214_133 rec (I3 f0) (I3 T) (I3 a') (I3 (hpl g a').length) 0 h5 else ((F_169 9 (I3 f0) h5).bind fun q6 => some (q6.1, q6.2))) = some v → lp (F_214_49B rec) fu (I3 f0, I3 T, I3 a', I3 (hpl g a').length, I3 M, I3 M, h) = some v := fun v hv => by
        rw [hv] at C1
        exact lp_e (by omega) C1
      have nf5 := nx_gt (n := n) (bt := bt) fn (by omega) w
      rcases finish (T := T) (k := k) (m := m) (n := n) (bt := bt) (o := o) (f' := nx n bt f) (by omega) (by omega) m3 s5.K s5.b s5.xc s5.xr ⟨p5, z2, by omega⟩ c5 z3 F2.2.1 F2.2.2.2.2 ((X05.a.1 124 k (by unfold XRc SRa SRq SRb SRp SRh SRt Ssr SLx; omega)).trans e) P with ⟨yy, h12, g12, i1, i2, i3, i4, i5, i6, i7, i8, i9, i10, i11, i12, i13, i14⟩ | ⟨e', h12, g12, i1, i2, i3, i4⟩
      · exact Or.inl ⟨yy, h12, g12, nx n bt f, 1, L _ i1, RunR_run (j := k + 1) B.t.b (by omega) (by omega) R0 ⟨g12, by rw [i2, wp1], Run_rfl g12⟩, by omega, i3, i4, i5, i6, i7, i8, ext_trans X05.e i9, grow_trans X05.r i10, agr_trans X05.c i11, agr_trans (agr_mono (fun b i z => Or.inl z) X05.a) i12, i13, i14⟩
      · rw [i2] at R0
        exact BO_f B.t.b (by omega) fn R0 (L _ i1) i3 (XT_trans (XT_mono (Nat.zero_le _) (Nat.zero_le _) X05) i4)
    · have nw : ¬ I3 (wrd n bt f) = (2 : Int32) := by rw [I3_lit, I3_inj (by omega) (by decide)]; exact w2
      rw [if_neg nw] at C0
      rw [if_neg (by
        rw [lr.2.2.1, show (4 : Int32) = I3 (rwd 2) from rfl, I3_inj (by have := rwd_5 (x := wrd n bt f) (by omega); omega) (by decide)]
        exact fun y => w2 (rwd_inj (by omega) (by omega) y))] at R0
      have p6 : min M 6 ≤ 6 := Nat.min_le_right _ _
      have e1 := S (o + 1) (T + min M 6) (k + 1) M f nm kd h1 g1 (Nat.le_refl _) d1 (OP_x B.op c4 d2 (by unfold S52; omega) (by unfold SLx; omega)) (DF_T B.t.K B.d (X1 T (k + 1))) c2 d3 w (by omega) (by omega) (by omega) ((d2.1 124 _ (by unfold SLx; omega)).trans B.mm)
      have Xg : ∀ T' k', XT T' k' h g h g1 := fun T' k' => XT_y B.t.K agr_rfl (SLx_Srl d2)
      have sg := (TS_y (T' := 0) (k' := 0) B.t agr_rfl (SLx_Srl d2)).1
      have Bg : BS n bt nd (o + 1) T (k + 1) M (min M 6) f nm kd pt h g1 := ⟨sg, OP_x (P := fun _ _ => False) B.op agr_rfl d2 (fun z => z) (by unfold SLx; omega), DF_T B.t.K B.d (Xg T (k + 1)), B.c, d3, (d2.1 124 _ (by unfold SLx; omega)).trans B.mm, fun i hi i2 => (d2.1 125 _ (by unfold SLx; omega)).trans (B.q i hi i2), B.s⟩
      rcases partE Bg (Nat.min_le_left _ _) (EO_step sg.K c4 e1) with ⟨y, h2, g2, f', c, q1, q2, q3, q4, q5, q6, q7⟩ | ⟨e', pc, h2, g2, c, q1, q2, q3, q4, q5⟩
      rotate_left
      · rw [q1] at C0; simp only [obs] at C0
        rw [if_pos trivial] at C0
        exact BO_d B.t.b (by omega) (Nat.le_refl _) R0 q5 q4 (lp_e (by omega) C0) q2 (XT_trans (Xg 0 0) q3)
      rw [q1] at C0; simp only [obs] at C0
      rw [if_neg (h_m1 q4.t.K q5)] at C0
      have Rn : Run g (c + 1) g2 := RunR_run (j := k + 1) B.t.b (by omega) (by omega) R0 (RunR_wp q2)
      have fin : ∀ h3, XT T (k + 1) h g h3 g2 → F_214_49B rec (I3 f0, I3 T, I3 a, I3 (hpl g a).length, I3 M, I3 M, h) = F_214_96 rec (I3 f0) (I3 T) (I3 a) (I3 (hpl g a).length) (I3 M) (I3 M) h3 → BS n bt nd (o + 1) T (k + 1) (M + 1) (min (M + 1) 6) f' nm kd (updN pt M y) h3 g2 → BO n bt o T k m f nm kd h g (lp (F_214_49B rec) fu (I3 f0, I3 T, I3 a, I3 (hpl g a).length, I3 M, I3 M, h)) := fun h3 X3 C3 B3 => by
        unfold F_214_96 at C3
        rw [show I3 M + 1 = I3 (M + 1) from I3_add M 1] at C3; simp only [obs] at C3
        have hl : hpl g2 a = hpl g a := X3.hpl B.t.K ha
        have F2 := FC_x F1 q7.2.2.2
        have fn2 := RB_n q4.r
        refine BO_tr (f := f') Rn (by omega) X3 ?_
        rw [lp_s (by omega) C3]
        have I := ih (fu - 1) f' (M + 1) (updN pt M y) h3 g2 (by omega) (by omega) (by omega) B3 F2 (fun i hi => ?_) ((X3.a.1 114 d (by unfold XRc SRa SRq SRb SRp SRh SRt Ssr SLx; omega)).trans e114) (X3.nH ha) ((X3.a.1 124 k (by unfold XRc SRa SRq SRb SRp SRh SRt Ssr SLx; omega)).trans e)
        · rw [hl] at I; exact I
        · by_cases z : i = M
          · subst z
            rw [up_s]; exact ⟨q5, q6⟩
          · have zz := ok i (by omega)
            rw [up_o _ _ z]
            exact ⟨X3.nH zz.1, (X3.hpl B.t.K zz.1).trans zz.2⟩
      have X2 : XT T (k + 1) h g h2 g2 := XT_trans (Xg T (k + 1)) (PT_XT q4.t.K q4.t.l (PT_s (by omega) q7))
      by_cases m6 : 6 ≤ M
      · rw [if_pos (by rw [I3_lit, I3_le (by decide) (by omega)]; exact m6)] at C0
        refine fin h2 X2 C0 ?_
        rw [Nat.min_eq_right m6] at q4
        rw [Nat.min_eq_right (show 6 ≤ M + 1 by omega)]
        exact q4
      · rw [if_neg (by rw [I3_lit, I3_le (by decide) (by omega)]; exact m6)] at C0
        rw [Nat.min_eq_left (show M ≤ 6 by omega)] at q4
        obtain ⟨h3, v1, v2, v3, v4, v5⟩ := pushP q4 (by omega) (by rw [up_s]; exact lt500 q4.t.K q5) 0
        rw [up_s] at v1
        rw [v1] at C0; simp only [obs] at C0
        rw [if_neg (by decide)] at C0
        refine fin h3 (XT_trans X2 (PT_XT v2.t.K v2.t.l (PT_s (by omega) v3))) C0 ?_
        rw [Nat.min_eq_left (show M + 1 ≤ 6 by omega)]
        exact v2
theorem callX {d : Nat} (hr : ∀ u, rec u = F_194R rec2 u) (S : ES n bt nd rec (o + 1)) (B : BS n bt nd (o + 1) T (k + 1) 0 0 f nm kd pt h g) (F : FC g (k + 1) f0 kd.length 18 0 (I3 d)) (ko : k < o) (hT : T ≤ 8 * k) (m3 : m ≤ 4000) (e : g.1 124 k = I3 m) (hd : d < nd) (f1 : 0 < f) : BO n bt o T k m f nm kd h g (F_214 rec (I3 d) (I3 f0) h) := by
  obtain ⟨t1, t2, a, t3, t4, t5, t6, t7⟩ := B.d.2.2.2 d hd
  have nd6 := B.d.2.2.1
  have n3 := B.t.xr.2.1
  have C0 : F_214 rec (I3 d) (I3 f0) h = lp (F_214_49B rec) 1000000 (I3 f0, I3 T, I3 a, I3 (hpl g a).length, I3 0, I3 0, h) := by
    show F_214_0 rec (I3 d) (I3 f0) h = _
    unfold F_214_0
    rw [if_neg (I3_nn (by omega)), B.d.1, if_pos (by rw [I3_lt (by omega) (by omega)]; exact hd), show h.1 55 12 = I3 T from B.t.t.1]; simp only [obs]
    rw [ldI_I (by omega) (by decide), t2, t4]; simp only [obs]
    rw [C_mn B.t.K t3, ← hpl_len]; rfl
  rw [C0]
  exact callN hr S ko hT m3 hd (n - f + 1) 1000000 f 0 pt h g (by omega) (by omega) f1 B F (fun i hi => by omega) t4 t3 e
end
