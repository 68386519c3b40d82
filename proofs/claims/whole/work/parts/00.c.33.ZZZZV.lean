def ES (n : Nat) (bt : Nat → Nat) (nd : Nat) (rec : sm_H → Option (Int32 × sm_H)) (o0 : Nat) : Prop := ∀ (o T k m f : Nat) (nm : Nat → Int64) (kd : List Int32) (h g : sm_H), o0 ≤ o → TS n bt T (k + 1) nm kd h g → OP o h g → DF nd h g → LXC n bt f h → RB n bt f g → wrd n bt f ≠ 6 → k < o → T ≤ 8 * k → m ≤ 4000 → g.1 124 k = I3 m → EO n bt o T k m f nm kd h g (rec h) (F_448 g)
section
variable {n : Nat} {bt : Nat → Nat} {nd o T j k m p f f0 nv : Nat} {nm nm' ns : Nat → Int64} {kd kd' : List Int32} {pt : Nat → Nat} {h g : sm_H} {rec rec2 : sm_H → Option (Int32 × sm_H)}
theorem EX_of {o0 : Nat} (hr : ∀ u, rec u = F_194R rec2 u) (S : ES n bt nd rec o0) : EX n bt nd rec o0 := fun o T k m f nm kd h g ho s p d c r ko hT m3 e => exprA hr (fun h1 a s1 p1 l1 w1 => S o T k m f nm kd h1 g ho s1 p1 (DF_T (T := T) (k := k) s.K d (XT_y s.K (S52_Scl a) agr_rfl)) l1 r w1 ko hT m3 e) s p c r
theorem F460e (hj : j < 24) (e : g.1 124 j = I3 m) : ∃ y2 y3 y4, F_460 (I3 j) g = F_460_74 (I3 j) y2 y3 y4 g := by
  show ∃ y2 y3 y4, F_460_0 (I3 j) g = _
  unfold F_460_0 F_460_22 F_460_48
  have l4 : ldI g 124 24 (I3 j) = some (I3 m) := by rw [ldI_I hj (by decide), e]
  rw [l4]; simp only [obs]
  rw [show (20 : Int32) * I3 j = I3 (20 * j + 0) by rw [I3_lit, I3_mul]; rfl, show I3 (20 * j + 0) + 1 = I3 (20 * j + 1) from I3_add _ 1, show I3 (20 * j + 0) + 2 = I3 (20 * j + 2) from I3_add _ 2, ldI_I (by omega) (by decide), ldI_I (by omega) (by decide), ldI_I (by omega) (by decide)]; simp only [obs]
  by_cases q0 : I3 m ≤ 0
  · rw [if_pos q0]
    by_cases q1 : I3 m ≤ 1
    · rw [if_pos q1]
      by_cases q2 : I3 m ≤ 2
      · rw [if_pos q2]; exact ⟨_, _, _, rfl⟩
      · rw [if_neg q2]; exact ⟨_, _, _, rfl⟩
    · rw [if_neg q1]
      by_cases q2 : I3 m ≤ 2
      · rw [if_pos q2]; exact ⟨_, _, _, rfl⟩
      · rw [if_neg q2]; exact ⟨_, _, _, rfl⟩
  · rw [if_neg q0]
    by_cases q1 : I3 m ≤ 1
    · rw [if_pos q1]
      by_cases q2 : I3 m ≤ 2
      · rw [if_pos q2]; exact ⟨_, _, _, rfl⟩
      · rw [if_neg q2]; exact ⟨_, _, _, rfl⟩
    · rw [if_neg q1]
      by_cases q2 : I3 m ≤ 2
      · rw [if_pos q2]; exact ⟨_, _, _, rfl⟩
      · rw [if_neg q2]; exact ⟨_, _, _, rfl⟩
theorem F460c {d : Nat} (hj : j < 24) (e : g.1 124 j = I3 m) (s : g.1 119 j = 18) (x : g.1 122 j = I3 d) : F_460 (I3 j) g = F_463 (I3 j) (I3 d) g := by
  obtain ⟨y2, y3, y4, E⟩ := F460e hj e
  rw [E]
  unfold F_460_74
  rw [ldI_I hj (by decide), x, ldI_I hj (by decide), s]; simp only [obs]
  rw [if_neg (by decide), if_neg (by decide), if_neg (by decide), if_neg (by decide), if_neg (by decide), if_neg (by decide), if_neg (by decide), if_neg (by decide), if_neg (by decide), if_neg (by decide), if_neg (by decide), if_neg (by decide), if_neg (by decide), if_neg (by decide), if_neg (by decide), if_neg (by decide), if_neg (by decide), bind_id]
theorem F451c (b : g.1 67 102 = I3 (j + 1)) (j4 : j < 24) (s : g.1 119 j = 18) : F_451 g = (F_418 g).bind fun q10 => if q10.1 = 0 then (some (0, q10.2)) else (if (q10.2.1 67 80) = 4 then wp (F_457 q10.2) else wp (F_448 q10.2)) := by
  show F_451_0 g = _
  unfold F_451_0
  rw [b, I3_s1]; simp only [obs]
  rw [ldI_I j4 (by decide), s]; simp only [obs]
  rw [show F_442 18 g = some (-1, g) from rfl]; simp only [obs]
  rw [if_pos trivial, ldI_I j4 (by decide), s]; simp only [obs]
  simp only [if_true]; rfl
theorem callN {a d : Nat} (hr : ∀ u, rec u = F_194R rec2 u) (S : ES n bt nd rec (o + 1)) (ko : k < o) (hT : T ≤ 8 * k) (m3 : m ≤ 4000) (hd : d < nd) : ∀ (r fu f M : Nat) (pt : Nat → Nat) (h g : sm_H), n - f < r → r ≤ fu → M < f → BS n bt nd (o + 1) T (k + 1) M (min M 6) f nm kd pt h g → FC g (k + 1) f0 kd.length 18 0 (I3 d) → (∀ i, i < M → pt i < nH g ∧ hpl g (pt i) = kd) → g.1 114 d = I3 a → a < nH g → g.1 124 k = I3 m → BO n bt o T k m f nm kd h g (lp (F_214_49B rec) fu (I3 f0, I3 T, I3 a, I3 (hpl g a).length, I3 M, I3 M, h)) := by
  intro r
  induction r with
  | zero =>
    intro fu f M pt h g hn
    omega
  | succ r ih =>
    intro fu f M pt h g hn hf Mf B F ok e114 ha e
    have o20 := B.op.2.2
    have fn := RB_n B.r
    have n3 := B.t.xr.2.1
    have w6 := wrd_6 n bt f
    obtain ⟨h1, c1, c2, c3, c4⟩ := step_C B.t B.c
    obtain ⟨g1, d1, d2, d3, d4, d5⟩ := look_R c3 B.r
    have X1 : ∀ T' k', XT T' k' h g h1 g1 := fun T' k' => XT_y B.t.K (S52_Scl c4) (SLx_Srl d2)
    have h10 := hpl10 B.t.K ha
    have C0 : F_214_49B rec (I3 f0, I3 T, I3 a, I3 (hpl g a).length, I3 M, I3 M, h) = (F_171 h).bind fun q9 => if q9.1 = 2 then ((F_214_105 rec (I3 f0) (I3 T) (I3 a) (I3 (hpl g a).length) (I3 M) q9.2).map fun r => (.inr r)) else ((rec q9.2).bind fun q10 => if q10.1 = (-1) then ((F_214_94 rec q10.2).map fun r => (.inr r)) else (if 6 ≤ I3 M then (F_214_96 rec (I3 f0) (I3 T) (I3 a) (I3 (hpl g a).length) (I3 M) (I3 M) q10.2) else ((F_188 q10.1 0 q10.2).bind fun q11 => if q11.1 = 0 then ((F_214_94 rec q11.2).map fun r => (.inr r)) else (F_214_96 rec (I3 f0) (I3 T) (I3 a) (I3 (hpl g a).length) (I3 M) (I3 M) q11.2)))) := by
      unfold F_214_49B
      show (if 3000 ≤ I3 M then _ else _) = _
      rw [if_neg (by rw [I3_lit, I3_le (by decide) (by omega)]; omega)]
    have R0 := F451c B.t.b (by omega) F.1
    by_cases w : wrd n bt f = 6
    · obtain ⟨h2, g2, b1, b2', b3, b4, b5⟩ := badWord c3 c2 B.r w
      rw [b2'] at R0; simp only [obs] at R0; rw [if_pos trivial] at R0
      have e2 : rec h2 = some (-1, h2) := by
        rw [hr]
        show F_194_0 rec2 h2 = _
        unfold F_194_0 F_194_109
        rw [show F_243 h2 = some (h2.1 52 5, h2) from rfl]; simp only [obs]
        rw [show F_242 h2 = some (h2.1 52 4, h2) from rfl, b5.1 52 4 (by omega), c2.2.1, w]; simp only [obs]
        rw [if_neg (by decide), if_neg (by decide), if_neg (by decide), C_170f b3]; rfl
      rw [C_171b c1 w b1] at C0; simp only [obs] at C0
      rw [if_neg (by decide), e2] at C0; simp only [obs] at C0
      rw [if_pos trivial] at C0
      exact BO_f B.t.b (by omega) fn R0 (lp_e (by omega) C0) b3 (XT_trans (XT_y B.t.K (S52_Scl c4) agr_rfl) b4)
    rw [if_neg w] at d5
    obtain ⟨d5, lr⟩ := d5
    rw [C_171 c1 w] at C0; simp only [obs] at C0
    rw [d5] at R0; simp only [obs] at R0; rw [if_neg (by decide)] at R0
    have F1 := FC_r F (SLx_Srl d2)
    by_cases w2 : wrd n bt f = 2
    · rw [if_pos (by rw [w2]; rfl)] at C0
      rw [if_pos (by rw [lr.2.2.1, w2]; rfl), F457e] at R0
      have p1 : OP (o + 1) h1 g1 := OP_x B.op c4 d2 (by unfold S52; omega) (by unfold SLx; omega)
      rcases close_R d1.xr d1.nf.2.1 d3 p1.2.1 with ⟨-, g2, z1, z2, z3, z4⟩ | ⟨w', -⟩
      rotate_left
      · exact absurd w2 w'
      rw [z1] at R0; simp only [obs] at R0; rw [if_neg (by decide)] at R0
      unfold F_214_105 at C0
      rw [p1.1, I3_s1] at C0; simp only [obs] at C0
      have a5 : agr Scl h1 (sm_wI h1 55 16 (I3 o)) := agr_wI agr_rfl (Or.inr ⟨rfl, rfl⟩)
      have p5 : (sm_wI h1 55 16 (I3 o)).1 55 16 = I3 o := rfl
      have c5 : CB n bt (nx n bt f) (sm_wI h1 55 16 (I3 o)) := CB_nx (h := h1) fn c2 w
      generalize hh5 : sm_wI h1 55 16 (I3 o) = h5 at *
      obtain ⟨s5, X5⟩ := TS_y (T' := T) (k' := k + 1) d1 a5 z4
      have X05 := XT_trans (X1 T (k + 1)) X5
      have F2 := FC_r F1 z4
      have a26 : agr (fun b j => SLx b j ∨ (b = 67 ∧ (j = 105 ∨ j = 106 ∨ j = 108))) g2 (sm_wI g2 67 106 (I3 f0)) := agr_wI agr_rfl (Or.inr ⟨rfl, Or.inr (Or.inl rfl)⟩)
      obtain ⟨s6, X6⟩ := TS_x (T' := T) (k' := k + 1) s5 agr_rfl a26
      have X06 := XT_trans X05 X6
      have D6 := DF_T B.t.K B.d X06
      obtain ⟨t1, t2, a', t3, t4, t5, t6, t7⟩ := D6.2.2.2 d hd
      have nd6 := D6.2.2.1
      have e6 : (sm_wI g2 67 106 (I3 f0)).1 114 d = I3 a := (X06.a.1 114 d (by unfold XRc SRa SRq SRb SRp SRh SRt Ssr SLx; omega)).trans e114
      have ea : a' = a := by
        have z := t4.symm.trans e6
        have l1 := lt500 s6.K t3
        have l2 := lt500 B.t.K ha
        exact (I3_inj (by omega) (by omega)).mp z
      subst ea
      have hl : hpl (sm_wI g2 67 106 (I3 f0)) a' = hpl g a' := X06.hpl B.t.K ha
      have m6 : (sm_wI g2 67 106 (I3 f0)).1 124 (k + 1) = I3 M := (z4.1 124 _ (by unfold Srl SLx; omega)).trans ((d2.1 124 _ (by unfold SLx; omega)).trans B.mm)
      have P6 : F_460 (I3 (k + 1)) (sm_wI g2 67 106 (I3 f0)) = if M = (hpl g a').length then F_463_30 (I3 (k + 1)) (I3 d) 0 (sm_wI g2 67 106 (I3 f0)) else ((F_413 9 (I3 f0) (sm_wI g2 67 106 (I3 f0))).bind fun q16 => some ((-1), q16.2)) := by
        rw [F460c (by omega) m6 F2.1 F2.2.2.2.1]
        show F_463_0 (I3 (k + 1)) (I3 d) (sm_wI g2 67 106 (I3 f0)) = _
        unfold F_463_0
        rw [ldI_I (by omega) (by decide), m6]; simp only [obs]
        rw [ldI_I (by omega) (by decide), t6, hl]; simp only [obs]
        by_cases q : M = (hpl g a').length
        · rw [if_pos q, if_pos (by rw [q])]
        · rw [if_neg q, if_neg (by rw [I3_inj (by omega) (by omega)]; exact q)]; rfl
      have P : PW T h5 (sm_wI g2 67 106 (I3 f0)) f0 (if M = (hpl g a').length then F_214_133 rec (I3 f0) (I3 T) (I3 a') (I3 (hpl g a').length) 0 h5 else ((F_169 9 (I3 f0) h5).bind fun q6 => some (q6.1, q6.2))) (F_460 (I3 (k + 1)) (sm_wI g2 67 106 (I3 f0))) nm kd := by
        rw [P6]
        by_cases q : M = (hpl g a').length
        · rw [if_pos q, if_pos q]
          have M6 : M ≤ 6 := by rw [q, ← hl]; exact t5
          rw [Nat.min_eq_left M6] at B s6
          refine PW_of s6.S (called (m := (hpl g a').length) s6.K s6.S s6.nf rfl t3 rfl (by rw [hl]) (by omega) (by omega) (by omega) (by rw [← hl]; exact t6) e6 (fun i hi => t7 i (by rw [hl]; exact hi)) (pt := pt) ⟨T + M, s6.t.1, by omega, s6.t.2, fun i hi => ?_⟩ (fun i hi => ?_) (fun i hi => ?_) rec)
          · exact (a5.1 60 _ (by unfold Scl S52; omega)).trans ((c4.1 60 _ (by unfold S52; omega)).trans (B.s i (by omega)))
          · have zz := ok i (by omega)
            exact ⟨X06.nH zz.1, (X06.hpl B.t.K zz.1).trans zz.2⟩
          · exact (z4.1 125 _ (by unfold Srl SLx; omega)).trans ((d2.1 125 _ (by unfold SLx; omega)).trans (B.q i (by omega) (by omega)))
        · rw [if_neg q, if_neg q]
          obtain ⟨h6, g6, f1, f2, f3, f4⟩ := failB s6.K s6.nf (e := 9) (pc := f0) (by decide) (by decide)
          rw [show F_169 9 (I3 f0) h5 = some (-1, h6) from f1, show F_413 9 (I3 f0) (sm_wI g2 67 106 (I3 f0)) = some (0, g6) from f2]
          exact Or.inr ⟨9, h6, g6, rfl, rfl, TW_of (TB_of f3), f4, NL_S (SCO_TK s6.S f3)⟩
      have C1 : F_214_49B rec (I3 f0, I3 T, I3 a', I3 (hpl g a').length, I3 M, I3 M, h) = (if M = (hpl g a').length then F_214_133 rec (I3 f0) (I3 T) (I3 a') (I3 (hpl g a').length) 0 h5 else ((F_169 9 (I3 f0) h5).bind fun q6 => some (q6.1, q6.2))).map fun r => (.inr r) := by
        rw [C0]
        by_cases q : M = (hpl g a').length
        · rw [if_pos q, if_pos (by rw [q])]
        · rw [if_neg q, if_neg (by rw [I3_inj (by omega) (by omega)]; exact q)]
      have L : ∀ v, (if M = (hpl g a').length then F_214_133 rec (I3 f0) (I3 T) (I3 a') (I3 (hpl g a').length) 0 h5 else ((F_169 9 (I3 f0) h5).bind fun q6 => some (q6.1, q6.2))) = some v → lp (F_214_49B rec) fu (I3 f0, I3 T, I3 a', I3 (hpl g a').length, I3 M, I3 M, h) = some v := fun v hv => by
        rw [hv] at C1
        exact lp_e (by omega) C1
      have nf5 := nx_gt (n := n) (bt := bt) fn (by omega) w
      rcases finish (T := T) (k := k) (m := m) (n := n) (bt := bt) (o := o) (f' := nx n bt f) (by omega) (by omega) m3 s5.K s5.b s5.xc s5.xr ⟨p5, z2, by omega⟩ c5 z3 F2.2.1 F2.2.2.2.2 ((X05.a.1 124 k (by unfold XRc SRa SRq SRb SRp SRh SRt Ssr SLx; omega)).trans e) P with ⟨yy, h12, g12, i1, i2, i3, i4, i5, i6, i7, i8, i9, i10, i11, i12, i13, i14⟩ | ⟨e', h12, g12, i1, i2, i3, i4⟩
      · exact Or.inl ⟨yy, h12, g12, nx n bt f, 1, L _ i1, RunR_run (j := k + 1) B.t.b (by omega) (by omega) R0 ⟨g12, by rw [i2, wp1], Run_rfl g12⟩, by omega, i3, i4, i5, i6, i7, i8, ext_trans X05.e i9, grow_trans X05.r i10, agr_trans X05.c i11, agr_trans (agr_mono (fun b i z => Or.inl z) X05.a) i12, i13, i14⟩
      · rw [i2] at R0
        exact BO_f B.t.b (by omega) fn R0 (L _ i1) i3 (XT_trans (XT_mono (Nat.zero_le _) (Nat.zero_le _) X05) i4)
    · have nw : ¬ I3 (wrd n bt f) = (2 : Int32) := by rw [I3_lit, I3_inj (by omega) (by decide)]; exact w2
      rw [if_neg nw] at C0
      rw [if_neg (by
        rw [lr.2.2.1, show (4 : Int32) = I3 (rwd 2) from rfl, I3_inj (by have := rwd_5 (x := wrd n bt f) (by omega); omega) (by decide)]
        exact fun y => w2 (rwd_inj (by omega) (by omega) y))] at R0
      have p6 : min M 6 ≤ 6 := Nat.min_le_right _ _
      have e1 := S (o + 1) (T + min M 6) (k + 1) M f nm kd h1 g1 (Nat.le_refl _) d1 (OP_x B.op c4 d2 (by unfold S52; omega) (by unfold SLx; omega)) (DF_T B.t.K B.d (X1 T (k + 1))) c2 d3 w (by omega) (by omega) (by omega) ((d2.1 124 _ (by unfold SLx; omega)).trans B.mm)
      have Xg : ∀ T' k', XT T' k' h g h g1 := fun T' k' => XT_y B.t.K agr_rfl (SLx_Srl d2)
      have sg := (TS_y (T' := 0) (k' := 0) B.t agr_rfl (SLx_Srl d2)).1
      have Bg : BS n bt nd (o + 1) T (k + 1) M (min M 6) f nm kd pt h g1 := ⟨sg, OP_x (P := fun _ _ => False) B.op agr_rfl d2 (fun z => z) (by unfold SLx; omega), DF_T B.t.K B.d (Xg T (k + 1)), B.c, d3, (d2.1 124 _ (by unfold SLx; omega)).trans B.mm, fun i hi i2 => (d2.1 125 _ (by unfold SLx; omega)).trans (B.q i hi i2), B.s⟩
      rcases partE Bg (Nat.min_le_left _ _) (EO_step sg.K c4 e1) with ⟨y, h2, g2, f', c, q1, q2, q3, q4, q5, q6, q7⟩ | ⟨e', pc, h2, g2, c, q1, q2, q3, q4, q5⟩
      rotate_left
      · rw [q1] at C0; simp only [obs] at C0
        rw [if_pos trivial] at C0
        exact BO_d B.t.b (by omega) (Nat.le_refl _) R0 q5 q4 (lp_e (by omega) C0) q2 (XT_trans (Xg 0 0) q3)
      rw [q1] at C0; simp only [obs] at C0
      rw [if_neg (h_m1 q4.t.K q5)] at C0
      have Rn : Run g (c + 1) g2 := RunR_run (j := k + 1) B.t.b (by omega) (by omega) R0 (RunR_wp q2)
      have fin : ∀ h3, XT T (k + 1) h g h3 g2 → F_214_49B rec (I3 f0, I3 T, I3 a, I3 (hpl g a).length, I3 M, I3 M, h) = F_214_96 rec (I3 f0) (I3 T) (I3 a) (I3 (hpl g a).length) (I3 M) (I3 M) h3 → BS n bt nd (o + 1) T (k + 1) (M + 1) (min (M + 1) 6) f' nm kd (updN pt M y) h3 g2 → BO n bt o T k m f nm kd h g (lp (F_214_49B rec) fu (I3 f0, I3 T, I3 a, I3 (hpl g a).length, I3 M, I3 M, h)) := fun h3 X3 C3 B3 => by
        unfold F_214_96 at C3
        rw [show I3 M + 1 = I3 (M + 1) from I3_add M 1] at C3; simp only [obs] at C3
        have hl : hpl g2 a = hpl g a := X3.hpl B.t.K ha
        have F2 := FC_x F1 q7.2.2.2
        have fn2 := RB_n q4.r
        refine BO_tr (f := f') Rn (by omega) X3 ?_
        rw [lp_s (by omega) C3]
        have I := ih (fu - 1) f' (M + 1) (updN pt M y) h3 g2 (by omega) (by omega) (by omega) B3 F2 (fun i hi => ?_) ((X3.a.1 114 d (by unfold XRc SRa SRq SRb SRp SRh SRt Ssr SLx; omega)).trans e114) (X3.nH ha) ((X3.a.1 124 k (by unfold XRc SRa SRq SRb SRp SRh SRt Ssr SLx; omega)).trans e)
        · rw [hl] at I; exact I
        · by_cases z : i = M
          · subst z
            rw [up_s]; exact ⟨q5, q6⟩
          · have zz := ok i (by omega)
            rw [up_o _ _ z]
            exact ⟨X3.nH zz.1, (X3.hpl B.t.K zz.1).trans zz.2⟩
      have X2 : XT T (k + 1) h g h2 g2 := XT_trans (Xg T (k + 1)) (PT_XT q4.t.K q4.t.l (PT_s (by omega) q7))
      by_cases m6 : 6 ≤ M
      · rw [if_pos (by rw [I3_lit, I3_le (by decide) (by omega)]; exact m6)] at C0
        refine fin h2 X2 C0 ?_
        rw [Nat.min_eq_right m6] at q4
        rw [Nat.min_eq_right (show 6 ≤ M + 1 by omega)]
        exact q4
      · rw [if_neg (by rw [I3_lit, I3_le (by decide) (by omega)]; exact m6)] at C0
        rw [Nat.min_eq_left (show M ≤ 6 by omega)] at q4
        obtain ⟨h3, v1, v2, v3, v4, v5⟩ := pushP q4 (by omega) (by rw [up_s]; exact lt500 q4.t.K q5) 0
        rw [up_s] at v1
        rw [v1] at C0; simp only [obs] at C0
        rw [if_neg (by decide)] at C0
        refine fin h3 (XT_trans X2 (PT_XT v2.t.K v2.t.l (PT_s (by omega) v3))) C0 ?_
        rw [Nat.min_eq_left (show M + 1 ≤ 6 by omega)]
        exact v2
theorem callX {d : Nat} (hr : ∀ u, rec u = F_194R rec2 u) (S : ES n bt nd rec (o + 1)) (B : BS n bt nd (o + 1) T (k + 1) 0 0 f nm kd pt h g) (F : FC g (k + 1) f0 kd.length 18 0 (I3 d)) (ko : k < o) (hT : T ≤ 8 * k) (m3 : m ≤ 4000) (e : g.1 124 k = I3 m) (hd : d < nd) (f1 : 0 < f) : BO n bt o T k m f nm kd h g (F_214 rec (I3 d) (I3 f0) h) := by
  obtain ⟨t1, t2, a, t3, t4, t5, t6, t7⟩ := B.d.2.2.2 d hd
  have nd6 := B.d.2.2.1
  have n3 := B.t.xr.2.1
  have C0 : F_214 rec (I3 d) (I3 f0) h = lp (F_214_49B rec) 1000000 (I3 f0, I3 T, I3 a, I3 (hpl g a).length, I3 0, I3 0, h) := by
    show F_214_0 rec (I3 d) (I3 f0) h = _
    unfold F_214_0
    rw [if_neg (I3_nn (by omega)), B.d.1, if_pos (by rw [I3_lt (by omega) (by omega)]; exact hd), show h.1 55 12 = I3 T from B.t.t.1]; simp only [obs]
    rw [ldI_I (by omega) (by decide), t2, t4]; simp only [obs]
    rw [C_mn B.t.K t3, ← hpl_len]; rfl
  rw [C0]
  exact callN hr S ko hT m3 hd (n - f + 1) 1000000 f 0 pt h g (by omega) (by omega) f1 B F (fun i hi => by omega) t4 t3 e
end
section
variable {n : Nat} {bt : Nat → Nat} {nd o T j k m p f f0 nv : Nat} {nm nm' ns : Nat → Int64} {kd kd' : List Int32} {pt : Nat → Nat} {h g : sm_H} {rec rec2 : sm_H → Option (Int32 × sm_H)}
theorem XT_12 {T' k' : Nat} (K : K1 h g) (x : Int32) : XT T' k' h g (sm_wI h 55 12 x) g := XT_x K (agr_wI agr_rfl (Or.inr (Or.inr ⟨rfl, Or.inl rfl⟩))) agr_rfl
theorem EO_bad {e pc : Nat} {h1 g1 : sm_H} {rc rr : Option (Int32 × sm_H)} (c : rc = some (-1, sm_wI h1 55 12 (I3 T))) (r : rr = some (0, g1)) (ft : FT e pc h1 g1) (x : XT 0 0 h g h1 g1) : EO n bt o T k m f nm kd h g rc rr := Or.inr ⟨e, pc, _, g1, c, ⟨ft.1, ft.2.1, ft.2.2⟩, XT_trans x (XT_12 x.k1 _), Or.inl r⟩
theorem EO_BO {f2 : Nat} {h4 g7 : sm_H} {rc rr : Option (Int32 × sm_H)} {q : Option (Int32 × sm_H)} (b : BO n bt o T k m f2 nm kd h4 g7 rc) (ff : f + 2 ≤ f2) (X : XT T (k + 1) h g h4 g7) (eq : ∀ y u, rc = some (y, u) → q = some (y, sm_wI u 55 12 (I3 T))) (er : rr = some (1, g7)) : EO n bt o T k m f nm kd h g q rr := by
  rcases b with ⟨y, h1, g2, f', c, e1, e2, e3, e4, e5, e6, e7, e8, e9, e10, e11, e12, e13, e14⟩ | ⟨e, pc, h1, g1, c, e1, e2, e3, e4, e5⟩
  · exact Or.inl ⟨y, _, g7, g2, f', c, eq _ _ e1, er, e2, by omega, e4, e5, e6, e7, e8, e9, ext_trans X.e e10, grow_trans X.r e11, agr_trans X.c e12, agr_trans (agr_mono (fun b j z => Or.inl z) X.a) e13, e14⟩
  · exact Or.inr ⟨e, pc, _, g1, eq _ _ e1, ⟨e2.1, e2.2.1, e2.2.2⟩, XT_trans (XT_mono (Nat.zero_le _) (Nat.zero_le _) X) (XT_trans e3 (XT_12 e3.k1 _)), Or.inr ⟨g7, c, er, by omega, e5⟩⟩
theorem pushX (s : TS n bt T (k + 1) nm kd h g) (k1 : k + 1 < 24) (srt ex : Int32) (f0 : Nat) : ∃ g1, F_445 srt (I3 f0) g = some g1 ∧ g1.1 67 102 - 1 = I3 (k + 1) ∧ stI g1 122 24 (I3 (k + 1)) ex = some (sm_wI g1 122 (k + 1) ex) ∧ FC (sm_wI g1 122 (k + 1) ex) (k + 1) f0 kd.length srt 0 ex ∧ (sm_wI g1 122 (k + 1) ex).1 124 (k + 1) = I3 0 ∧ TS n bt T (k + 2) nm kd h (sm_wI g1 122 (k + 1) ex) ∧ agr (fun b i => (119 ≤ b ∧ b ≤ 124 ∧ i = k + 1) ∨ b = 67 ∧ i = 102) g (sm_wI g1 122 (k + 1) ex) ∧ XT T (k + 1) h g h (sm_wI g1 122 (k + 1) ex) := by
  obtain ⟨g1, a1, a2, a3, a4, a5, a6, a7, a8, a9⟩ := pushR k1 s.b srt (I3 f0)
  have ag : agr (fun b i => (119 ≤ b ∧ b ≤ 124 ∧ i = k + 1) ∨ b = 67 ∧ i = 102) g (sm_wI g1 122 (k + 1) ex) := agr_wI a9 (Or.inl ⟨by decide, by decide, rfl⟩)
  have X : XT T (k + 1) h g h (sm_wI g1 122 (k + 1) ex) := XT_x s.K agr_rfl (agr_mono (fun b i z => by
    rcases z with ⟨z1, z2, z3⟩ | z
    · exact Or.inr (Or.inr (Or.inl ⟨z1, z2, by omega⟩))
    · exact Or.inr (Or.inl ⟨z.1, by omega⟩)) ag)
  refine ⟨g1, a1, by rw [a8]; exact I3_s1 (k + 1), stI_I k1 (by decide), ⟨a2, a3, a4, if_pos rfl, a6.trans s.S.2.2.1⟩, a7, ⟨X.k1, NF_agr (S := fun _ _ => False) s.nf agr_rfl ag ⟨fun z => z, fun z => z⟩ (by omega), SCO_agr (P := fun _ _ => False) s.S agr_rfl ag (Nat.le_of_eq (by show tn _ = tn _; rw [ag.1 67 6 (by omega)])) (fun b j z => z.elim) (fun b j z => by omega), s.t, a8, s.xc, TXR_agr s.xr ag (fun b j z => by omega)⟩, ag, X⟩
theorem C_69 (rec : sm_H → Option (Int32 × sm_H)) (y v : Int32) (u : sm_H) : F_196_69 rec v y u = some (y, sm_wI u 55 12 v) := rfl
theorem kch {α : Type} {x : Nat} (hx : x < 16) (A B : α) : (if I3 (x + 2) = 7 then A else if I3 (x + 2) = 8 then A else if I3 (x + 2) = 9 then A else if I3 (x + 2) = 10 then A else if I3 (x + 2) = 14 then A else if I3 (x + 2) = 16 then A else B) = if x = 5 ∨ x = 6 ∨ x = 7 ∨ x = 8 ∨ x = 12 ∨ x = 14 then A else B := by
  have e : ∀ y : Nat, y < 20 → (I3 (x + 2) = I3 y ↔ x + 2 = y) := fun y hy => I3_inj (by omega) (by omega)
  by_cases a : x = 5
  · rw [if_pos (show I3 (x + 2) = 7 from (e 7 (by decide)).mpr (by omega)), if_pos (by omega)]
  rw [if_neg (show ¬ I3 (x + 2) = 7 from fun z => a (by have := (e 7 (by decide)).mp z; omega))]
  by_cases b : x = 6
  · rw [if_pos (show I3 (x + 2) = 8 from (e 8 (by decide)).mpr (by omega)), if_pos (by omega)]
  rw [if_neg (show ¬ I3 (x + 2) = 8 from fun z => b (by have := (e 8 (by decide)).mp z; omega))]
  by_cases c : x = 7
  · rw [if_pos (show I3 (x + 2) = 9 from (e 9 (by decide)).mpr (by omega)), if_pos (by omega)]
  rw [if_neg (show ¬ I3 (x + 2) = 9 from fun z => c (by have := (e 9 (by decide)).mp z; omega))]
  by_cases d : x = 8
  · rw [if_pos (show I3 (x + 2) = 10 from (e 10 (by decide)).mpr (by omega)), if_pos (by omega)]
  rw [if_neg (show ¬ I3 (x + 2) = 10 from fun z => d (by have := (e 10 (by decide)).mp z; omega))]
  by_cases f : x = 12
  · rw [if_pos (show I3 (x + 2) = 14 from (e 14 (by decide)).mpr (by omega)), if_pos (by omega)]
  rw [if_neg (show ¬ I3 (x + 2) = 14 from fun z => f (by have := (e 14 (by decide)).mp z; omega))]
  by_cases g : x = 14
  · rw [if_pos (show I3 (x + 2) = 16 from (e 16 (by decide)).mpr (by omega)), if_pos (by omega)]
  rw [if_neg (show ¬ I3 (x + 2) = 16 from fun z => g (by have := (e 16 (by decide)).mp z; omega)), if_neg (by omega)]
theorem C_200 {x : Nat} (hx : x < 16) (t : h.1 55 12 = I3 T) : F_200 rec (I3 x) 0 (I3 f) h = if x = 5 ∨ x = 6 ∨ x = 7 ∨ x = 8 ∨ x = 12 ∨ x = 14 then F_200_29 rec (I3 x) (I3 f) (I3 T) (b2 (decide (x = 14))) h else F_200_34 rec (I3 x) (I3 f) (I3 T) 0 h := by
  have e : ∀ y : Nat, y < 20 → (I3 x = I3 y ↔ x = y) := fun y hy => I3_inj (by omega) (by omega)
  have n : ∀ y : Nat, y < 20 → x ≠ y → ¬ I3 x = I3 y := fun y hy z w => z ((e y hy).mp w)
  show F_200_0 rec (I3 x) 0 (I3 f) h = _
  unfold F_200_0
  rw [t]; simp only [obs]
  have C1 : F_201 (I3 x) h = F_201_0 (I3 x) h := rfl
  unfold F_201_0 F_201_56 F_201_58 at C1
  by_cases q : x = 5 ∨ x = 6 ∨ x = 7 ∨ x = 8 ∨ x = 12 ∨ x = 14
  · have C2 : F_201 (I3 x) h = some (1, h) := by
      rw [C1]
      rcases q with rfl | rfl | rfl | rfl | rfl | rfl <;> rfl
    rw [if_pos q, C2]; simp only [obs]
    rw [if_neg (by decide)]
    by_cases z : x = 14
    · rw [if_pos (show I3 x = 14 by rw [z]; rfl), decide_eq_true z]; rfl
    · rw [if_neg (show ¬ I3 x = 14 from n 14 (by decide) z), decide_eq_false z]; rfl
  · rw [if_neg (show ¬ I3 x = 5 from n 5 (by decide) (by omega)), if_neg (show ¬ I3 x = 6 from n 6 (by decide) (by omega)), if_neg (show ¬ I3 x = 7 from n 7 (by decide) (by omega)), if_neg (show ¬ I3 x = 8 from n 8 (by decide) (by omega)), if_neg (show ¬ I3 x = 12 from n 12 (by decide) (by omega)), if_neg (show ¬ I3 x = 14 from n 14 (by decide) (by omega))] at C1
    rw [if_neg q, C1]; simp only [obs]
    rw [if_pos trivial]
theorem R_182 {x : Nat} (hx : x < 16) (v : Int32) (u : sm_H) : F_446_182 (I3 (x + 2)) v u = F_446_194 v (b2 (decide (x = 14))) u := by
  unfold F_446_182
  by_cases z : x = 14
  · rw [if_pos (show I3 (x + 2) = 16 by rw [z]; rfl), decide_eq_true z]; rfl
  · rw [if_neg (show ¬ I3 (x + 2) = (16 : Int32) by rw [I3_lit, I3_inj (by omega) (by decide)]; omega), decide_eq_false z]; rfl
theorem openX {rc2 : sm_H → Option (Int32 × sm_H)} (S : o < 20 → (∀ u, rec u = F_194R rc2 u) ∧ ES n bt nd rec (o + 1)) (s : TS n bt T (k + 1) nm kd h g) (p : OP o h g) (D : DF nd h g) (lc : LXC n bt f h) (r : RB n bt f g) (w : wrd n bt f = 1) (ko : k < o) (hT : T ≤ 8 * k) (m3 : m ≤ 4000) (e : g.1 124 k = I3 m) : EO n bt o T k m f nm kd h g (F_194R rec h) (F_448 g) := by
  have o20 := p.2.2
  have fn := RB_n r
  obtain ⟨g1, d1, d2, d3, d4, d5⟩ := look_R s r
  rw [if_neg (by omega)] at d5
  obtain ⟨d5, lr⟩ := d5
  have a12 : agr Srl g1 (sm_wI g1 67 106 (I3 f)) := agr_wI agr_rfl (Or.inr ⟨rfl, by omega⟩)
  have a02 : agr Srl g (sm_wI g1 67 106 (I3 f)) := agr_trans (SLx_Srl d2) a12
  obtain ⟨s2, X2⟩ := TS_y (T' := T) (k' := k + 1) s agr_rfl a02
  have lr2 : LXR n bt f (sm_wI g1 67 106 (I3 f)) := lr
  have R0 : F_448 g = wp (F_446 (sm_wI g1 67 106 (I3 f))) := by
    show F_448_0 g = _
    unfold F_448_0
    rw [d5]; simp only [obs]
    rw [if_neg (by decide), d4, show (sm_wI g1 67 106 (I3 f)).1 67 80 = 3 from lr.2.2.1.trans (by rw [w]; rfl), if_neg (by decide), if_pos (by decide)]; rfl
  have e81 : (sm_wI g1 67 106 (I3 f)).1 67 81 = I3 f := d4
  have p2 : OP o h (sm_wI g1 67 106 (I3 f)) := ⟨p.1, (d2.1 67 86 (by unfold SLx; omega)).trans p.2.1, p.2.2⟩
  have C0 : F_194R rec h = F_194_0 rec h := rfl
  unfold F_194_0 F_194_108 at C0
  rw [show F_243 h = some (h.1 52 5, h) from rfl, lc.1] at C0; simp only [obs] at C0
  rw [show F_242 h = some (h.1 52 4, h) from rfl, lc.2.1, w] at C0; simp only [obs] at C0
  rw [if_pos (by decide)] at C0
  have R1 : F_446 (sm_wI g1 67 106 (I3 f)) = F_446_0 (sm_wI g1 67 106 (I3 f)) := rfl
  unfold F_446_0 F_446_19 at R1
  rw [e81] at R1; simp only [obs] at R1
  generalize hg2 : sm_wI g1 67 106 (I3 f) = g2 at *
  rcases openS s2 p2 fn lc lr2 w with ⟨h3, g3, o19, b1, b2', b3, b4, b5, b6, b7, b8, b9, b10⟩ | ⟨e', h3, g3, b1, b2', b3, b4⟩
  rotate_left
  · rw [b1] at C0; simp only [obs] at C0; rw [if_pos trivial] at C0
    rw [b2'] at R1; simp only [obs] at R1; rw [if_pos trivial] at R1
    exact Or.inr ⟨e', _, h3, g3, C0, b3, XT_trans (XT_mono (Nat.zero_le _) (Nat.zero_le _) X2) (XT_mono (Nat.zero_le _) (Nat.zero_le _) b4), Or.inl (by rw [R0, R1, wp0])⟩
  obtain ⟨hr, S⟩ := S o19
  have EXr : EX n bt nd rec (o + 1) := EX_of hr S
  rw [b1] at C0; simp only [obs] at C0; rw [if_neg (by decide), bind_id] at C0
  rw [b2'] at R1; simp only [obs] at R1; rw [if_neg (by decide)] at R1
  have C1 : F_196 rec (I3 f) h3 = F_196_0 rec (I3 f) h3 := rfl
  unfold F_196_0 at C1
  rw [show h3.1 55 12 = I3 T from b3.t.1] at C1; simp only [obs] at C1
  have X03 : XT T (k + 1) h g h3 g3 := XT_trans X2 b8
  have fn1 := RB_n b6
  have w6 := wrd_6 n bt (nx n bt f)
  obtain ⟨h4, c1, c2, c3, c4⟩ := step_C b3 b5
  obtain ⟨g4, q1, q2, q3, q4, q5⟩ := look_R c3 b6
  have X34 : ∀ T' k', XT T' k' h3 g3 h4 g4 := fun T' k' => XT_y b3.K (S52_Scl c4) (SLx_Srl q2)
  have X04 := XT_trans X03 (X34 T (k + 1))
  by_cases w1 : wrd n bt (nx n bt f) = 6
  · obtain ⟨h5, g5, v1, v2, v3, v4, v5⟩ := badWord c3 c2 b6 w1
    rw [v2] at R1; simp only [obs] at R1; rw [if_pos trivial] at R1
    rw [C_171b c1 w1 v1] at C1; simp only [obs] at C1
    rw [if_neg (by decide), if_neg (by decide), C_170f v3] at C1; simp only [obs] at C1
    exact EO_bad (C0.trans C1) (by rw [R0, R1, wp0]) v3 (XT_trans (XT_mono (Nat.zero_le _) (Nat.zero_le _) X03) (XT_trans (XT_y b3.K (S52_Scl c4) agr_rfl) v4))
  rw [if_neg w1] at q5
  obtain ⟨q5, lr4⟩ := q5
  rw [q5] at R1; simp only [obs] at R1; rw [if_neg (by decide)] at R1
  rw [C_171 c1 w1] at C1; simp only [obs] at C1
  have nw : ∀ x : Nat, x < 6 → wrd n bt (nx n bt f) ≠ x → ¬ I3 (wrd n bt (nx n bt f)) = I3 x := fun x hx z => by rw [I3_inj (by omega) (by omega)]; exact z
  have nr : ∀ x : Nat, x < 6 → wrd n bt (nx n bt f) ≠ x → ¬ g4.1 67 80 = I3 (rwd x) := fun x hx z => by
    rw [lr4.2.2.1, I3_inj (by have := rwd_5 (x := wrd n bt (nx n bt f)) (by omega); omega) (by have := rwd_5 (x := x) (by omega); omega)]
    exact fun y => z (rwd_inj (by omega) (by omega) y)
  by_cases w45 : wrd n bt (nx n bt f) ≠ 4 ∧ wrd n bt (nx n bt f) ≠ 5
  · obtain ⟨h5, g5, f1, f2, f3, f4⟩ := XT_fail q1 (T' := 0) (k' := 0) (e := 4) (f := nx n bt f) (by decide) (by decide)
    rw [if_neg (show ¬ g4.1 67 80 = 1 from nr 4 (by decide) w45.1), if_neg (show ¬ g4.1 67 80 = 5 from nr 5 (by decide) w45.2), f421 g4 q4, show F_413 4 (I3 (nx n bt f)) g4 = some (0, g5) from f2] at R1
    rw [if_neg (show ¬ I3 (wrd n bt (nx n bt f)) = (5 : Int32) from nw 5 (by decide) w45.2), if_neg (show ¬ I3 (wrd n bt (nx n bt f)) = (4 : Int32) from nw 4 (by decide) w45.1), C_170 c2, show F_169 4 (I3 (nx n bt f)) h4 = some (-1, h5) from f1] at C1; simp only [obs] at C1
    exact EO_bad (C0.trans C1) (by rw [R0, R1, wp0]) f3 (XT_trans (XT_mono (Nat.zero_le _) (Nat.zero_le _) X04) f4)
  have R2 : F_446 g2 = F_446_42 (I3 f) g4 := by
    rw [R1]
    by_cases z : wrd n bt (nx n bt f) = 4
    · rw [if_pos (show g4.1 67 80 = 1 from lr4.2.2.1.trans (by rw [z]; rfl))]
    · rw [if_neg (show ¬ g4.1 67 80 = 1 from nr 4 (by decide) z), if_pos (show g4.1 67 80 = 5 from lr4.2.2.1.trans (by rw [show wrd n bt (nx n bt f) = 5 by omega]; rfl))]
  have D4 : DF nd h4 g4 := DF_T s.K D X04
  have ff2 : nx n bt f < nx n bt (nx n bt f) := nx_gt fn1 (by omega) w1
  obtain ⟨g5, t1, t2, t3, t4⟩ := take_R q1 fn1 lr4
  have X45 : ∀ T' k', XT T' k' h4 g4 h4 g5 := fun T' k' => XT_y q1.K agr_rfl (agr_mono (fun b j z => Or.inl ⟨z.1, by omega, by omega⟩) t4)
  have X05 := XT_trans X04 (X45 T (k + 1))
  have p4 : OP (o + 1) h4 g4 := OP_x b4 c4 q2 (by unfold S52; omega) (by unfold SLx; omega)
  have p5 : OP (o + 1) h4 g5 := OP_x (P := fun _ _ => False) p4 agr_rfl t4 (fun z => z) (by omega)
  have e5 : g5.1 124 k = I3 m := (X05.a.1 124 k (by unfold XRc SRa SRq SRb SRp SRh SRt Ssr SLx; omega)).trans e
  have c5 : CB n bt (nx n bt (nx n bt f)) h4 := CB_nx fn1 c2 w1
  have PU : ∀ srt ex : Int32, ∃ g6, F_445 srt (I3 f) g5 = some g6 ∧ g6.1 67 102 - 1 = I3 (k + 1) ∧ stI g6 122 24 (I3 (k + 1)) ex = some (sm_wI g6 122 (k + 1) ex) ∧ FC (sm_wI g6 122 (k + 1) ex) (k + 1) f kd.length srt 0 ex ∧ BS n bt nd (o + 1) T (k + 1) 0 0 (nx n bt (nx n bt f)) nm kd (fun _ => 0) h4 (sm_wI g6 122 (k + 1) ex) ∧ XT T (k + 1) h g h4 (sm_wI g6 122 (k + 1) ex) ∧ (sm_wI g6 122 (k + 1) ex).1 124 k = I3 m := fun srt ex => by
    obtain ⟨g6, z1, z2, z3, z4, z5, z6, z7, z8⟩ := pushX t3 (by omega) srt ex f
    have X6 := XT_trans X05 z8
    exact ⟨g6, z1, z2, z3, z4, ⟨z6, OP_x (P := fun _ _ => False) p5 agr_rfl z7 (fun z => z) (by omega), DF_T s.K D X6, c5, RB_x t2 (z7.1 67 79 (by omega)), z5, fun i hi => by omega, fun i hi => by omega⟩, X6, (z7.1 124 k (by omega)).trans e5⟩
  have GL : ∀ {rc : Option (Int32 × sm_H)} {g7 : sm_H}, F_196 rec (I3 f) h3 = (rc.bind fun q => F_196_69 rec (I3 T) q.1 q.2) → ∀ y u, rc = some (y, u) → F_194R rec h = some (y, sm_wI u 55 12 (I3 T)) := fun {rc g7} hc y u z => by
    rw [C0, hc, z]; rfl
  by_cases w5 : wrd n bt (nx n bt f) = 5
  · obtain ⟨sg, sg1, sg2⟩ := c2.2.2.2.2.2.2 w5
    rw [if_pos (by rw [w5]; rfl), show F_245 h4 = some (h4.1 52 7, h4) from rfl, sg2] at C1; simp only [obs] at C1
    have s12 := sgn_12 sg1
    have e83 : g4.2.1 67 83 = Int32.toInt64 (I3 (bt (nx n bt f))) := lr4.2.2.2.2.2.2 w5
    have RS := R_441s (g := g4) sg1
    have C2 : F_200 rec 16 (I3 sg) (I3 f) h4 = F_200_34 rec 16 (I3 f) (I3 T) (I3 sg) h4 := by
      show F_200_0 rec 16 (I3 sg) (I3 f) h4 = _
      unfold F_200_0
      rw [show h4.1 55 12 = I3 T from c3.t.1]; simp only [obs]
      rw [show F_201 16 h4 = some (0, h4) from rfl]; simp only [obs]
      rw [if_pos trivial]
    rw [C2] at C1
    obtain ⟨g6, z1, z2, z3, z4, z5, z6, z7⟩ := PU 1 (I3 sg)
    have R3 : F_446 g2 = some (1, sm_wI g6 122 (k + 1) (I3 sg)) := by
      rw [R2]
      unfold F_446_42 F_446_67 F_446_89 F_446_114 F_446_143
      rw [e83, RS.2]; simp only [obs]
      rw [if_neg (by decide), if_neg (by decide), e83, RS.1]; simp only [obs]
      rw [t1]; simp only [obs]
      rw [if_neg (by decide), z1]; simp only [obs]
      rw [z2]
      rw [if_neg (by decide), z3]; simp only [obs]
      rw [if_neg (by decide), if_neg (by decide), if_neg (by decide), if_neg (by decide), if_neg (by decide), if_neg (by decide)]
    exact EO_BO (opS s12 EXr z5 z4 ko hT m3 z7) (by omega) z6 (GL (g7 := g6) C1) (by rw [R0, R3, wp1])
  have w4 : wrd n bt (nx n bt f) = 4 := by omega
  rw [if_neg (show ¬ I3 (wrd n bt (nx n bt f)) = (5 : Int32) from nw 5 (by decide) w5), if_pos (by rw [w4]; rfl), show F_248 h4 = some (h4.2.1 52 10, h4) from rfl, c2.2.2.2.2.2.1 w4] at C1; simp only [obs] at C1
  have e83 : g4.2.1 67 83 = foldN bt (nx n bt f) (men n bt (nx n bt f) - nx n bt f) := lr4.2.2.2.2.2.1 w4
  obtain ⟨xm, x1, x2, x3⟩ := name_ns w4
  rw [x2] at C1 e83
  rw [C_197] at C1; simp only [obs] at C1
  have R44 := R_440 (g := g4) x1 x3
  have R41 := R_441n (g := g4) x1 x3
  have C2 : F_198 rec (I3 f) (if kw (I6 xm) < 16 then I3 (kw (I6 xm)) else -1) h4 = F_198_0 rec (I3 f) (if kw (I6 xm) < 16 then I3 (kw (I6 xm)) else -1) h4 := rfl
  unfold F_198_0 F_198_75 at C2
  by_cases kq : kw (I6 xm) < 16
  rotate_left
  · rw [if_neg kq] at C1 C2 R44
    rw [if_pos rfl, show F_248 h4 = some (h4.2.1 52 10, h4) from rfl, c2.2.2.2.2.2.1 w4, x2] at C2; simp only [obs] at C2
    rw [C_166 D4] at C2; simp only [obs] at C2
    rw [bind_id] at C2
    have R43 := R_443 D4 (I6 xm)
    have R2' : F_446 g2 = F_446_67 (I3 f) (-1) (if wd nd (I6 xm) g4 < nd then I3 (wd nd (I6 xm) g4) else -1) g4 := by
      rw [R2]
      unfold F_446_42
      rw [e83, R44]; simp only [obs]
      rw [if_pos trivial, e83, R43]; simp only [obs]
    by_cases dq : wd nd (I6 xm) g4 < nd
    rotate_left
    · rw [if_neg dq] at C2 R2'
      obtain ⟨h6, g6, f1, f2, f3, f4⟩ := XT_fail q1 (T' := 0) (k' := 0) (e := 6) (f := nx n bt f) (by decide) (by decide)
      have C3 : F_214 rec (-1) (I3 f) h4 = some (-1, h6) := by
        show F_214_0 rec (-1) (I3 f) h4 = _
        unfold F_214_0 F_214_12
        rw [if_pos (by decide), C_170 c2, show F_169 6 (I3 (nx n bt f)) h4 = some (-1, h6) from f1]; rfl
      rw [C3] at C2
      rw [C2] at C1; simp only [obs] at C1
      have R3 : F_446 g2 = some (0, g6) := by
        rw [R2']
        unfold F_446_67
        rw [if_pos rfl, if_pos rfl, q4, show F_413 6 (I3 (nx n bt f)) g4 = some (0, g6) from f2]; rfl
      exact EO_bad (C0.trans C1) (by rw [R0, R3, wp0]) f3 (XT_trans (XT_mono (Nat.zero_le _) (Nat.zero_le _) X04) f4)
    rw [if_pos dq] at C2 R2'
    rw [C2] at C1
    have nd6 := D.2.2.1
    obtain ⟨g6, z1, z2, z3, z4, z5, z6, z7⟩ := PU 18 (I3 (wd nd (I6 xm) g4))
    have R3 : F_446 g2 = some (1, sm_wI g6 122 (k + 1) (I3 (wd nd (I6 xm) g4))) := by
      rw [R2']
      unfold F_446_67 F_446_89 F_446_114 F_446_143
      rw [if_pos rfl, if_neg (I3_m1 (by omega)), e83, R41]; simp only [obs]
      rw [t1]; simp only [obs]
      rw [if_pos trivial, z1]; simp only [obs]
      rw [z2]
      rw [if_pos trivial, z3]; simp only [obs]
      rw [if_neg (by decide), if_neg (by decide), if_neg (by decide), if_neg (by decide), if_neg (by decide), if_neg (by decide)]
    exact EO_BO (callX hr S z5 z4 ko hT m3 z7 dq (by omega)) (by omega) z6 (GL (g7 := g6) C1) (by rw [R0, R3, wp1])
  rw [if_pos kq] at C1 C2 R44
  generalize hkw : kw (I6 xm) = x at C1 C2 R44 kq
  rw [if_neg (I3_m1 (by omega))] at C2
  have Rp : ∀ ex' : Int32, ex' = -1 → F_446 g2 = F_446_114 (I3 f) (I3 (x + 2)) (-1) (-1) (I3 (x + 2)) g5 := fun ex' _ => by
    rw [R2]
    unfold F_446_42 F_446_67 F_446_89
    rw [e83, R44]; simp only [obs]
    rw [if_neg (I3_m1 (by omega)), if_neg (I3_m1 (by omega)), e83, R41]; simp only [obs]
    rw [t1]; simp only [obs]
    rw [if_neg (I3_m1 (by omega))]
  obtain ⟨g6, z1, z2, z3, z4, z5, z6, z7⟩ := PU (I3 (x + 2)) (-1)
  have R3 : F_446 g2 = if x = 5 ∨ x = 6 ∨ x = 7 ∨ x = 8 ∨ x = 12 ∨ x = 14 then F_446_182 (I3 (x + 2)) (I3 (k + 1)) (sm_wI g6 122 (k + 1) (-1)) else some (1, sm_wI g6 122 (k + 1) (-1)) := by
    rw [Rp (-1) rfl]
    unfold F_446_114 F_446_143
    rw [z1]; simp only [obs]
    rw [z2]
    rw [if_neg (I3_m1 (by omega)), z3]; simp only [obs]
    exact kch kq _ _
  by_cases kk : x = 5 ∨ x = 6 ∨ x = 7 ∨ x = 8 ∨ x = 12 ∨ x = 14
  · rw [if_pos kk] at R3
    have C4 : F_198 rec (I3 f) (I3 x) h4 = F_200_29 rec (I3 x) (I3 f) (I3 T) (b2 (decide (x = 14))) h4 := by
      rw [C2]
      have z := C_200 (rec := rec) (f := f) kq c3.t.1
      rw [if_pos kk] at z
      rw [if_neg (by rw [I3_lit, I3_inj (by omega) (by decide)]; omega), if_neg (by rw [I3_lit, I3_inj (by omega) (by decide)]; omega), if_neg (by rw [I3_lit, I3_inj (by omega) (by decide)]; omega), z]
      exact bind_id _
    have R4 : F_446 g2 = F_446_194 (I3 (k + 1)) (b2 (decide (x = 14))) (sm_wI g6 122 (k + 1) (-1)) := by
      rw [R3]; exact R_182 kq _ _
    rw [C4] at C1
    unfold F_200_29 at C1
    unfold F_446_194 at R4
    rcases kindB (decide (x = 14)) z5.t z5.c z5.r with ⟨i, h8, g8, y1, y2, y3, y4, y5, y6, y7, y8, y9, y10, y11, y12⟩ | ⟨e', h8, g8, y1, y2, y3, y4⟩
    · rw [y1] at C1; simp only [obs] at C1
      rw [y2] at R4; simp only [obs] at R4
      rw [if_neg (by decide), y3, stI_I (by omega) (by decide)] at R4; simp only [obs] at R4
      have a89 : agr (fun b q => b = 122 ∧ q = k + 1) g8 (sm_wI g8 122 (k + 1) (I3 i)) := agr_wI agr_rfl ⟨rfl, rfl⟩
      have s9 := TS_f y6 (agr_mono (fun b q z => by omega) a89)
      have X89 : XT T (k + 1) h8 g8 h8 (sm_wI g8 122 (k + 1) (I3 i)) := XT_x y6.K agr_rfl (agr_mono (fun b q z => Or.inr (Or.inr (Or.inl ⟨by omega, by omega, by omega⟩))) a89)
      have X69 := XT_trans (XT_mono (T' := T) (k' := k + 1) (by omega) (by omega) y10) X89
      have a68 : agr Srl (sm_wI g6 122 (k + 1) (-1)) g8 := agr_mono (fun b j z => by
        rcases z with z | z
        · exact Or.inl z
        · exact Or.inr ⟨z.1, by omega⟩) y12
      have F8 := FC_r z4 a68
      have F9 : FC (sm_wI g8 122 (k + 1) (I3 i)) (k + 1) f kd.length (I3 (x + 2)) 0 (I3 i) := ⟨F8.1, F8.2.1, F8.2.2.1, if_pos rfl, F8.2.2.2.2⟩
      have B9 : BS n bt nd (o + 1) T (k + 1) 0 0 (nx n bt (nx n bt (nx n bt f))) nm kd (fun _ => 0) h8 (sm_wI g8 122 (k + 1) (I3 i)) := ⟨s9, OP_x z5.op y11 (agr_trans (agr_mono (fun b q z => Or.inl z) y12) (agr_mono (fun b q z => Or.inr z) a89)) (by unfold S52; omega) (by unfold SLx; omega), DF_T z5.t.K z5.d X69, y7, y8, (a68.1 124 _ (by unfold Srl SLx; omega)).trans z5.mm, fun q hq => by omega, fun q hq => by omega⟩
      have X09 := XT_trans z6 X69
      have nc9 : nC (sm_wI g8 122 (k + 1) (I3 i)) = nC (sm_wI g6 122 (k + 1) (-1)) := nC_XR X69.a
      exact EO_BO (opK kk EXr B9 F9 ko hT m3 ((X09.a.1 124 k (by unfold XRc SRa SRq SRb SRp SRh SRt Ssr SLx; omega)).trans e) (by rw [nc9]; exact y4)) (by omega) X09 (GL (g7 := g6) C1) (by rw [R0, R4, wp1])
    · rw [y1] at C1; simp only [obs] at C1
      rw [y2] at R4; simp only [obs] at R4
      rw [if_pos trivial] at R4
      unfold F_200_34 F_200_52 at C1
      rw [if_pos rfl] at C1; simp only [obs] at C1
      exact EO_bad (C0.trans C1) (by rw [R0, R4, wp0]) y3 (XT_trans (XT_mono (Nat.zero_le _) (Nat.zero_le _) z6) (XT_mono (Nat.zero_le _) (Nat.zero_le _) y4))
  rw [if_neg kk] at R3
  have RR : F_448 g = some (1, sm_wI g6 122 (k + 1) (-1)) := by rw [R0, R3, wp1]
  by_cases k1 : x = 1
  · subst k1
    rw [if_pos (by decide), bind_id] at C2
    rw [C2] at C1
    exact EO_BO (letX EXr z5 z4 ko hT m3 z7) (by omega) z6 (GL (g7 := g6) C1) RR
  by_cases k3 : x = 3
  · subst k3
    rw [if_neg (by decide), if_pos (by decide), bind_id] at C2
    rw [C2] at C1
    exact EO_BO (loopX EXr z5 z4 ko hT m3 z7) (by omega) z6 (GL (g7 := g6) C1) RR
  by_cases k4 : x = 4
  · subst k4
    rw [if_neg (by decide), if_neg (by decide), if_pos (by decide), bind_id] at C2
    rw [C2] at C1
    exact EO_BO (catchX EXr z5 z4 ko hT m3 z7) (by omega) z6 (GL (g7 := g6) C1) RR
  have kn : x = 0 ∨ x = 2 ∨ x = 9 ∨ x = 10 ∨ x = 11 ∨ x = 13 ∨ x = 15 := by omega
  have C5 := C_200 (rec := rec) (f := f) kq c3.t.1
  rw [if_neg kk] at C5
  rw [if_neg (by rw [I3_lit, I3_inj (by omega) (by decide)]; omega), if_neg (by rw [I3_lit, I3_inj (by omega) (by decide)]; omega), if_neg (by rw [I3_lit, I3_inj (by omega) (by decide)]; omega), C5, bind_id] at C2
  rw [C2] at C1
  exact EO_BO (opN kn EXr z5 z4 ko hT m3 z7) (by omega) z6 (GL (g7 := g6) C1) RR
theorem exprS (n : Nat) (bt : Nat → Nat) (nd : Nat) : ∀ N o0, 21 ≤ N + o0 → ES n bt nd (K_194 N) o0 := by
  intro N
  induction N with
  | zero =>
    intro o0 h0 o T k m f nm kd h g ho s p
    have := p.2.2
    omega
  | succ N ih =>
    intro o0 h0 o T k m f nm kd h g ho s p D lc r w ko hT m3 e
    have o20 := p.2.2
    have w6 := wrd_6 n bt f
    show EO n bt o T k m f nm kd h g (F_194R (K_194 N) h) (F_448 g)
    rcases (show wrd n bt f = 1 ∨ wrd n bt f = 3 ∨ wrd n bt f = 4 ∨ (wrd n bt f = 0 ∨ wrd n bt f = 2 ∨ wrd n bt f = 5) by omega) with z | z | z | z
    · refine openX (rc2 := K_194 (N - 1)) (fun o19 => ⟨fun u => ?_, ih (o + 1) (by omega)⟩) s p D lc r z ko hT m3 e
      have : N = (N - 1) + 1 := by omega
      rw [this]; rfl
    · exact numLeaf s p lc r z (by omega) m3 e _
    · exact nameLeaf s p lc r z (by omega) m3 e _
    · exact badLeaf s lc r z _
end
theorem I3_surj (x : Int32) : ∃ k, x = I3 k := ⟨x.toBitVec.toNat, by
  unfold I3
  exact Int32.toBitVec_inj.mp (by rw [Int32.toBitVec_ofNat', BitVec.ofNat_toNat, BitVec.setWidth_eq])⟩
theorem tgAdd {h g : sm_H} (K : K1 h g) {a : Nat} (ha : a < nH g) (n8 : nG g < 80) : K1 (sm_wI (sm_wI h 32 (nG g) (I3 a)) 21 8 (I3 (nG g + 1))) (sm_wI (sm_wI g 92 (nG g) (I3 a)) 67 35 (I3 (nG g + 1))) ∧ ext g (sm_wI (sm_wI g 92 (nG g) (I3 a)) 67 35 (I3 (nG g + 1))) ∧ grow g (sm_wI (sm_wI g 92 (nG g) (I3 a)) 67 35 (I3 (nG g + 1))) := by
  have B0 := K1_base K
  obtain ⟨wK, cK, wT, cT, wH, cH, wM, cM, cG, cO, cV, wX, cX, cXh, wF⟩ := K
  obtain ⟨r1, ⟨r2, r3⟩, r4, r5⟩ := cG
  have w500 : nH g ≤ 500 := wH.1.2
  have r5 : ∀ k, k < tn (g.1 67 35) → ∃ a, a < nH g ∧ g.1 92 k = I3 a := r5
  have e92 : ∀ k, k < nG g → (sm_wI (sm_wI g 92 (nG g) (I3 a)) 67 35 (I3 (nG g + 1))).1 92 k = g.1 92 k := fun k hk => if_neg (by omega)
  have nn : nG g ≤ nG (sm_wI (sm_wI g 92 (nG g) (I3 a)) 67 35 (I3 (nG g + 1))) := by
    show nG g ≤ (I3 (nG g + 1)).toNatClampNeg
    rw [I3_clamp (by omega)]; omega
  have EE : ext g (sm_wI (sm_wI g 92 (nG g) (I3 a)) 67 35 (I3 (nG g + 1))) := ⟨Nat.le_refl _, fun _ _ => rfl, Nat.le_refl _, fun _ _ => rfl, ⟨Nat.le_refl _, fun _ _ => ⟨rfl, rfl, fun _ _ => rfl⟩⟩, Nat.le_refl _, fun _ _ => rfl, nn, fun k hk => by rw [e92 k hk]; rfl, Nat.le_refl _, ⟨Nat.le_refl _, fun _ _ => ⟨rfl, rfl, rfl, rfl, rfl, rfl⟩⟩⟩
  refine ⟨⟨wK, cK, wT, cT, wH, cH, wM, cM, ⟨rfl, cnt_up (by omega) (by decide), fun k hk => ?_, fun k hk => ?_⟩, cO, cV, wX, cX, cXh_fr (by repeat first | exact hi_rfl | refine hi_wI ?_ (by decide) | refine hi_wJ ?_ (by decide)) cXh, wfF_ext B0 (fun k hk => by rw [e92 k hk]; exact B0.g k hk) EE ⟨rfl, fun _ _ => ⟨rfl, rfl, rfl, rfl, rfl⟩, fun _ _ _ _ => rfl⟩ ⟨rfl, fun _ _ => rfl⟩ wF⟩, EE, ⟨Nat.le_refl _, Nat.le_refl _, Nat.le_refl _, fun _ _ => rfl, fun _ _ => rfl⟩⟩
  · exact upd_eq (p := h.1 32) (q := g.1 92) (y := 0) (r4 k hk)
  · have hk : k < tn (I3 (nG g + 1)) := hk
    unfold tn at hk
    rw [I3_clamp (by omega)] at hk
    show ∃ b, b < nH g ∧ (if k = nG g then I3 a else g.1 92 k) = I3 b
    by_cases q : k = nG g
    · exact ⟨a, ha, if_pos q⟩
    · rw [if_neg q]; exact r5 k (by show k < nG g; omega)
theorem tgSet {h g : sm_H} (K : K1 h g) {a k0 : Nat} (ha : a < nH g) (hk0 : k0 < nG g) (et : ty g a = ty g (tn (g.1 92 k0))) : K1 (sm_wI h 32 k0 (I3 a)) (sm_wI g 92 k0 (I3 a)) ∧ ext g (sm_wI g 92 k0 (I3 a)) ∧ grow g (sm_wI g 92 k0 (I3 a)) := by
  have B0 := K1_base K
  obtain ⟨wK, cK, wT, cT, wH, cH, wM, cM, cG, cO, cV, wX, cX, cXh, wF⟩ := K
  obtain ⟨r1, ⟨r2, r3⟩, r4, r5⟩ := cG
  have w500 : nH g ≤ 500 := wH.1.2
  have e92 : ∀ k, (sm_wI g 92 k0 (I3 a)).1 92 k = if k = k0 then I3 a else g.1 92 k := fun k => rfl
  have tb : tn (I3 a) = a := I3_clamp (by omega)
  have EE : ext g (sm_wI g 92 k0 (I3 a)) := ⟨Nat.le_refl _, fun _ _ => rfl, Nat.le_refl _, fun _ _ => rfl, ⟨Nat.le_refl _, fun _ _ => ⟨rfl, rfl, fun _ _ => rfl⟩⟩, Nat.le_refl _, fun _ _ => rfl, Nat.le_refl _, fun k hk => by
    rw [e92]
    by_cases z : k = k0
    · rw [if_pos z, tb, z]; exact et
    · rw [if_neg z]; rfl, Nat.le_refl _, ⟨Nat.le_refl _, fun _ _ => ⟨rfl, rfl, rfl, rfl, rfl, rfl⟩⟩⟩
  refine ⟨⟨wK, cK, wT, cT, wH, cH, wM, cM, ⟨r1, ⟨r2, r3⟩, fun k hk => ?_, fun k hk => ?_⟩, cO, cV, wX, cX, cXh_fr (by repeat first | exact hi_rfl | refine hi_wI ?_ (by decide) | refine hi_wJ ?_ (by decide)) cXh, wfF_ext B0 (fun k hk => ?_) EE ⟨rfl, fun _ _ => ⟨rfl, rfl, rfl, rfl, rfl⟩, fun _ _ _ _ => rfl⟩ ⟨rfl, fun _ _ => rfl⟩ wF⟩, EE, ⟨Nat.le_refl _, Nat.le_refl _, Nat.le_refl _, fun _ _ => rfl, fun _ _ => rfl⟩⟩
  · exact upd_eq (p := h.1 32) (q := g.1 92) (y := 0) (r4 k hk)
  · show ∃ c, c < nH g ∧ (if k = k0 then I3 a else g.1 92 k) = I3 c
    by_cases q : k = k0
    · exact ⟨a, ha, if_pos q⟩
    · rw [if_neg q]; exact r5 k hk
  · rw [e92]
    by_cases z : k = k0
    · rw [if_pos z, tb]; exact ha
    · rw [if_neg z]; exact B0.g k hk
theorem mkFormR {h g : sm_H} (K : K1 h g) (nf : NF h g) {pc f : Nat} (wh : g.1 67 106 = I3 pc) (a b : Int32) (c : Int64) {ps : List Int32} (R : hasL h 56 57 ps) (P : prR g ps) (uf : f = 29 ∨ f = 34) {r : Int32} {l : List Int32} (l64 : l.length ≤ 64) (ck : Ck (sm_wI g 67 19 0) f a b c r l) :
    (∃ y h1 g1, F_5 (I3 f) a b c 56 h = some (I3 y, h1) ∧ F_429 (I3 f) a b c g = some (I3 y, g1) ∧ y < nH g1 ∧ hrs g1 y = r ∧ hpl g1 y = l ∧ TK h g h1 g1 ∧ NF h1 g1 ∧ agr SCb h h1) ∨ ∃ w' h1 h2 g2, w' < 0 ∧ F_5 (I3 f) a b c 56 h = some (w', h1) ∧ F_169 8 (I3 pc) h1 = some (-1, h2) ∧ F_429 (I3 f) a b c g = some (-1, g2) ∧ TK h g h2 g2 ∧ FT 8 pc h2 g2 := by
  obtain ⟨v, w', h1, g1, b1, b2', b3, b4, b5, b6, b7, b8⟩ := build2 (f := f) K a b c rw56 (Or.inr (Or.inl ⟨rfl, rfl⟩)) (by decide) R P (by omega) l64 ck
  have T : TK h g h1 g1 := TK_mk b3 b4 b5 (agr_mono (fun _ _ z => Or.inl z) b6) (agr_mono (fun _ _ z => Or.inl z) b7)
  have n1 : NF h1 g1 := NF_agr nf b6 b7 (by unfold SCb Ssc SCd SCh SCt; omega) (by unfold SRb SRp SRh SRt; omega)
  have w500 : nH g1 ≤ 500 := b3.2.2.2.2.1.1.2
  have R0 : F_429 (I3 f) a b c g = F_429_0 (I3 f) a b c g := rfl
  unfold F_429_0 F_429_42 F_429_50 at R0
  rw [if_pos nf.2.1, b2'] at R0; simp only [obs] at R0
  rcases b8 with ⟨e, e1, e2, rfl, rfl, e4⟩ | ⟨y, y1, rfl, rfl, y3, y4⟩
  · right
    obtain ⟨h2, g2, f1, f2, f3, f4⟩ := TK_fail T n1 (e := 8) (pc := pc) (by decide) (by decide)
    refine ⟨-I3 e, h1, h2, g2, ?_, b1, f1, ?_, f3, f4⟩
    · rcases (show e = 4 ∨ e = 5 by omega) with rfl | rfl <;> decide
    · rw [if_pos rfl, e4, if_neg (by rw [I3_lit, I3_le (by omega) (by decide)]; omega), show g1.1 67 106 = I3 pc from (b7.1 67 106 (by unfold SRb SRp SRh SRt; omega)).trans wh, show F_413 8 (I3 pc) g1 = some (0, g2) from f2] at R0
      exact R0
  · left
    rw [if_neg (I3_m1 (by omega))] at R0
    exact ⟨y, h1, g1, b1, R0, y1, y3, y4, T, n1, b6⟩
abbrev RCx (b j : Nat) : Prop := XCc 0 b j ∨ (b = 55 ∧ j = 15) ∨ b = 62 ∨ b = 63 ∨ (b = 21 ∧ j = 8) ∨ b = 32
abbrev RRx (b j : Nat) : Prop := XRc 0 b j ∨ (b = 67 ∧ (j = 91 ∨ j = 35)) ∨ b = 92 ∨ (113 ≤ b ∧ b ≤ 116) ∨ b = 130
def RT (h g h1 g1 : sm_H) : Prop := K1 h1 g1 ∧ ext g g1 ∧ grow g g1 ∧ agr RCx h h1 ∧ agr RRx g g1
section
variable {n : Nat} {bt : Nat → Nat} {nd o T j k m p f f0 nv : Nat} {h g h1 g1 h2 g2 : sm_H}
theorem RT_trans (a : RT h g h1 g1) (b : RT h1 g1 h2 g2) : RT h g h2 g2 := ⟨b.1, ext_trans a.2.1 b.2.1, grow_trans a.2.2.1 b.2.2.1, agr_trans a.2.2.2.1 b.2.2.2.1, agr_trans a.2.2.2.2 b.2.2.2.2⟩
theorem RT_XT (x : XT T k h g h1 g1) : RT h g h1 g1 := ⟨x.k1, x.e, x.r, agr_mono (fun b j z => Or.inl (XCc_s (Nat.zero_le _) b j z)) x.c, agr_mono (fun b j z => Or.inl (XRc_s (Nat.zero_le _) b j z)) x.a⟩
theorem RT_rfl (K : K1 h g) : RT h g h g := ⟨K, ext_rfl, grow_rfl, agr_rfl, agr_rfl⟩
abbrev TU (n : Nat) (bt : Nat → Nat) (k : Nat) (h g : sm_H) : Prop := TG (fun _ _ => True) n bt 0 k h g
theorem FT_e {e pc : Nat} (f : FT e pc h g) : 1 ≤ e ∧ e ≤ 9 := ⟨f.2.2.2.2.1, f.2.2.2.2.2⟩
def dRest (v : Int32) (x : Int64) (g : sm_H) : Option (Int32 × sm_H) := (F_424 1 g).bind fun q42 => if q42.1 = 0 then (some (0, q42.2))
  else ((some ((q42.2.1 67 105) : Int32)).bind fun v43 =>
  (some ((q42.2.1 67 91) : Int32)).bind fun v44 =>
  (F_464 v44 q42.2).bind fun q45 =>
  if q45.1 = 0 then (some (0, q45.2))
  else (F_465_174 v x v43 v44 0 q45.2))
def hK2 (v : Int32) (u : sm_H) : Option (Int32 × sm_H) := (F_443 (u.2.1 67 83) u).bind fun q39 =>
  if q39.1 = (-1) then (if (q39.2.1 67 91) = 60 then (F_465_118 q39.2)
  else ((some ((q39.2.2.1 67 83) : Int64)).bind fun v40 =>
  (F_420 q39.2).bind fun q41 => dRest v v40 q41))
  else (F_465_118 q39.2)
def hK1 (v : Int32) (u : sm_H) : Option (Int32 × sm_H) := (F_439 100 101 102 0 0 u).bind fun q36 =>
  if (lg_cmp (u.2.1 67 83) q36.1) = 0 then ((F_420 q36.2).bind fun q37 => refE 1 (hK2 v) q37)
  else (F_465_66 q36.2)
theorem F465e (g : sm_H) : F_465 g = if (sm_wI g 67 86 0).1 67 80 = 3 then ((F_425 (sm_wI g 67 86 0)).bind fun q34 => if q34.1 = 0 then some (0, q34.2) else refE 1 (hK1 ((sm_wI g 67 86 0).1 67 81)) q34.2) else ((F_421 (sm_wI g 67 86 0)).bind fun q47 => if q47.1 = 0 ∨ q47.1 = 1 then some (q47.1, q47.2) else none) := rfl
theorem TU_62 (s : TU n bt k h g) (i : Nat) (x : Int64) : TU n bt k (sm_wJ h 62 i x) g := ⟨by
    obtain ⟨wK, cK, wT, cT, wH, cH, wM, cM, cG, cO, cV, wX, cX, cXh, wF⟩ := s.K
    exact ⟨wK, cK, wT, cT, wH, cH, wM, cM, cG, cO, cV, wX, cX, cXh_fr (by repeat first | exact hi_rfl | refine hi_wI ?_ (by decide) | refine hi_wJ ?_ (by decide)) cXh, wF⟩, s.nf, trivial, s.t, s.b, s.xc, s.xr⟩
theorem hdrX (s : TU n bt k h g) (e16 : h.1 55 16 = I3 0) (D : DF nd h g) (lc : LXC n bt f h) (lr : LXR n bt f g) (fn : f ≤ n) (w0 : wrd n bt f ≠ 0) (w6 : wrd n bt f ≠ 6) :
    (∃ h1 g1 x f1, f < f1 ∧ F_177 h = some (1, h1) ∧ F_465 g = dRest (I3 f) x g1 ∧ TU n bt k h1 g1 ∧ OP 1 h1 g1 ∧ DF nd h1 g1 ∧ nd < 60 ∧ h1.2.1 62 nd = x ∧ CB n bt f1 h1 ∧ RB n bt f1 g1 ∧ RT h g h1 g1) ∨ ∃ e pc h1 g1, F_177 h = some (0, h1) ∧ F_465 g = some (0, g1) ∧ FT e pc h1 g1 ∧ XT 0 0 h g h1 g1 := by
  have w6' := wrd_6 n bt f
  have a0 : agr Srl g (sm_wI g 67 86 0) := agr_wI agr_rfl (Or.inr ⟨rfl, Or.inl rfl⟩)
  have X0 : ∀ T' k', XT T' k' h g h (sm_wI g 67 86 0) := fun T' k' => XT_y s.K agr_rfl a0
  have s0 : TU n bt k h (sm_wI g 67 86 0) := ⟨(X0 0 0).k1, s.nf, trivial, s.t, s.b, s.xc, s.xr⟩
  have p0 : OP 0 h (sm_wI g 67 86 0) := ⟨e16, rfl, by decide⟩
  have lr0 : LXR n bt f (sm_wI g 67 86 0) := lr
  have C0 : F_177 h = F_177_0 h := rfl
  unfold F_177_0 F_177_34 F_177_92 at C0
  rw [show F_242 h = some (h.1 52 4, h) from rfl, lc.2.1] at C0; simp only [obs] at C0
  have R0 := F465e g
  rw [show (sm_wI g 67 86 0).1 67 81 = I3 f from lr.2.1, show (sm_wI g 67 86 0).1 67 80 = I3 (rwd (wrd n bt f)) from lr.2.2.1] at R0
  generalize hg0 : sm_wI g 67 86 0 = g0 at *
  by_cases w1 : wrd n bt f = 1
  rotate_left
  · right
    obtain ⟨h2, g2, f1, f2, f3, f4⟩ := XT_fail s0 (T' := 0) (k' := 0) (e := 4) (f := f) (by decide) (by decide)
    refine ⟨4, f, h2, g2, ?_, ?_, f3, XT_trans (X0 0 0) f4⟩
    · rw [C0, if_neg (show ¬ I3 (wrd n bt f) = (1 : Int32) by rw [I3_lit, I3_inj (by omega) (by decide)]; exact w1), C_170 lc, show F_169 4 (I3 f) h = some (-1, h2) from f1]; rfl
    · rw [R0, if_neg (show ¬ I3 (rwd (wrd n bt f)) = (3 : Int32) by
        rw [show (3 : Int32) = I3 (rwd 1) from rfl, I3_inj (by have := rwd_5 (x := wrd n bt f) (by omega); omega) (by decide)]
        exact fun y => w1 (rwd_inj (by omega) (by omega) y)), f421 g0 lr0.2.1]
      exact f2
  rw [w1, if_pos (by decide)] at C0 R0
  rcases openS s0 p0 fn lc lr0 w1 with ⟨h1, g1, -, a1, a2, a3, a4, a5, a6, a7, a8, a9, a10⟩ | ⟨e', h1, g1, a1, a2, a3, a4⟩
  rotate_left
  · right
    rw [a1] at C0; simp only [obs] at C0; rw [if_pos trivial] at C0
    rw [a2] at R0; simp only [obs] at R0; rw [if_pos trivial] at R0
    exact ⟨e', _, h1, g1, C0, R0, a3, XT_trans (X0 0 0) (XT_mono (Nat.zero_le _) (Nat.zero_le _) a4)⟩
  rw [a1] at C0; simp only [obs] at C0; rw [if_neg (by decide)] at C0
  rw [a2] at R0; simp only [obs] at R0; rw [if_neg (by decide)] at R0
  have X01 : XT 0 0 h g h1 g1 := XT_trans (X0 0 0) (XT_mono (Nat.zero_le _) (Nat.zero_le _) a8)
  have fn1 := RB_n a6
  rcases expect (x := 4) (by decide) a3 a5 a6 with ⟨q, h2, g2, b1, b2', b3, b4, b5, b6, b7, b8⟩ | ⟨q, h2, g2, b1, b2', b3, b4⟩
  rotate_left
  · right
    rw [show F_172 4 h1 = some (0, h2) from b1] at C0; simp only [obs] at C0; rw [if_pos trivial] at C0
    refine ⟨_, _, h2, g2, C0, ?_, b3, XT_trans X01 (XT_mono (Nat.zero_le _) (Nat.zero_le _) b4)⟩
    rw [R0]
    exact b2' (hK1 (I3 f))
  rw [show F_172 4 h1 = some (1, h2) from b1] at C0; simp only [obs] at C0; rw [if_neg (by decide), show F_248 h2 = some (h2.2.1 52 10, h2) from rfl, b3.2.2.2.2.2.1 q] at C0; simp only [obs] at C0
  have R1 := R0.trans (b2' (hK1 (I3 f)))
  unfold hK1 at R1
  rw [show F_439 100 101 102 0 0 g2 = some (6579558, g2) from rfl, b4.2.2.2.2.2.1 q] at R1; simp only [obs] at R1
  have X02 : XT 0 0 h g h2 g2 := XT_trans X01 (XT_y a3.K (S52_Scl b6) (SLx_Srl b7))
  have ff1 : f < nx n bt f := a7
  by_cases dq : foldN bt (nx n bt f) (men n bt (nx n bt f) - nx n bt f) = 6579558
  rotate_left
  · right
    obtain ⟨h3, g3, f1, f2, f3, f4⟩ := XT_fail b5 (T' := 0) (k' := 0) (e := 4) (f := nx n bt f) (by decide) (by decide)
    rw [if_neg (fun z => dq (cmp_eq.mp z)), C_170 b3, show F_169 4 (I3 (nx n bt f)) h2 = some (-1, h3) from f1] at C0; simp only [obs] at C0
    rw [if_neg (fun z => dq (cmp_eq.mp z))] at R1
    unfold F_465_66 at R1
    rw [f421 g2 b4.2.1, show F_413 4 (I3 (nx n bt f)) g2 = some (0, g3) from f2] at R1
    exact ⟨4, _, h3, g3, C0, R1, f3, XT_trans X02 f4⟩
  rw [if_pos (cmp_eq.mpr dq)] at C0 R1
  obtain ⟨g3, t1, t2, t3, t4⟩ := take_R b5 fn1 b4
  rw [t1] at R1; simp only [obs] at R1
  have X03 : XT 0 0 h g h2 g3 := XT_trans X02 (XT_y b5.K agr_rfl (agr_mono (fun b j z => Or.inl ⟨z.1, by omega, by omega⟩) t4))
  have c2 : CB n bt (nx n bt (nx n bt f)) h2 := CB_nx fn1 b3 (by omega)
  have fn2 := RB_n t2
  have ff2 : nx n bt f < nx n bt (nx n bt f) := nx_gt fn1 (by omega) (by omega)
  rcases expect (x := 4) (by decide) t3 c2 t2 with ⟨q', h4, g4, d1, d2, d3, d4, d5, d6, d7, d8⟩ | ⟨q', h4, g4, d1, d2, d3, d4⟩
  rotate_left
  · right
    rw [show F_172 4 h2 = some (0, h4) from d1] at C0; simp only [obs] at C0; rw [if_pos trivial] at C0
    refine ⟨_, _, h4, g4, C0, ?_, d3, XT_trans X03 (XT_mono (Nat.zero_le _) (Nat.zero_le _) d4)⟩
    rw [R1]
    exact d2 (hK2 (I3 f))
  rw [show F_172 4 h2 = some (1, h4) from d1] at C0; simp only [obs] at C0; rw [if_neg (by decide)] at C0
  have R2 := R1.trans (d2 (hK2 (I3 f)))
  unfold hK2 at R2
  have X04 : XT 0 0 h g h4 g4 := XT_trans X03 (XT_y t3.K (S52_Scl d6) (SLx_Srl d7))
  have D4 : DF nd h4 g4 := DF_T s.K D X04
  have nd6 := D4.2.2.1
  have exh := d3.2.2.2.2.2.1 q'
  have exg := d4.2.2.2.2.2.1 q'
  generalize hx : foldN bt (nx n bt (nx n bt f)) (men n bt (nx n bt (nx n bt f)) - nx n bt (nx n bt f)) = x at exh exg
  rw [exg, R_443 D4] at R2; simp only [obs] at R2
  rw [D4.1] at C0
  have bad : F_177 h = ((F_170 6 h4).bind fun q1 => some (0, q1.2)) → F_465 g = F_465_118 g4 → ∃ e pc h1 g1, F_177 h = some (0, h1) ∧ F_465 g = some (0, g1) ∧ FT e pc h1 g1 ∧ XT 0 0 h g h1 g1 := fun x1 x2 => by
    obtain ⟨h5, g5, f1, f2, f3, f4⟩ := XT_fail d5 (T' := 0) (k' := 0) (e := 6) (f := nx n bt (nx n bt f)) (by decide) (by decide)
    unfold F_465_118 at x2
    rw [C_170 d3, show F_169 6 (I3 (nx n bt (nx n bt f))) h4 = some (-1, h5) from f1] at x1
    rw [d4.2.1, show F_413 6 (I3 (nx n bt (nx n bt f))) g4 = some (0, g5) from f2] at x2
    exact ⟨6, _, h5, g5, x1, x2, f3, XT_trans X04 f4⟩
  by_cases nf : nd = 60
  · right
    rw [if_pos (by rw [nf]; decide)] at C0
    refine bad C0 ?_
    rw [R2]
    by_cases wq : wd nd x g4 < nd
    · rw [if_pos wq, if_neg (I3_m1 (by omega))]
    · rw [if_neg wq, if_pos rfl, D4.2.1, if_pos (by rw [nf]; rfl)]
  rw [if_neg (by rw [I3_lit, I3_le (by decide) (by omega)]; omega), show F_248 h4 = some (h4.2.1 52 10, h4) from rfl, exh] at C0; simp only [obs] at C0
  rw [C_166 D4] at C0; simp only [obs] at C0
  by_cases wq : wd nd x g4 < nd
  · right
    rw [if_pos wq] at C0 R2
    rw [if_neg (I3_m1 (by omega))] at C0 R2
    exact bad C0 R2
  left
  rw [if_neg wq, if_pos rfl] at C0 R2
  rw [show F_248 h4 = some (h4.2.1 52 10, h4) from rfl, exh] at C0; simp only [obs] at C0
  rw [D4.1, stJ_I (by omega) (by decide)] at C0; simp only [obs] at C0
  rw [D4.2.1, if_neg (by rw [I3_lit, I3_inj (by omega) (by decide)]; omega), exg] at R2
  obtain ⟨g5, u1, u2, u3, u4⟩ := take_R d5 fn2 d4
  rw [u1] at R2; simp only [obs] at R2
  have X05 : XT 0 0 h g h4 g5 := XT_trans X04 (XT_y d5.K agr_rfl (agr_mono (fun b j z => Or.inl ⟨z.1, by omega, by omega⟩) u4))
  have D5 : DF nd h4 g5 := DF_T s.K D X05
  have p5 : OP 1 h4 g5 := ⟨(d6.1 55 16 (by unfold S52; omega)).trans ((b6.1 55 16 (by unfold S52; omega)).trans a4.1), (u4.1 67 86 (by omega)).trans ((d7.1 67 86 (by unfold SLx; omega)).trans ((t4.1 67 86 (by omega)).trans ((b7.1 67 86 (by unfold SLx; omega)).trans a4.2.1))), by decide⟩
  refine ⟨sm_wJ h4 62 nd x, g5, x, nx n bt (nx n bt (nx n bt f)), ?_, C0, R2, TU_62 u3 nd x, p5, ⟨D5.1, D5.2.1, D5.2.2.1, fun d hd => ?_⟩, by omega, if_pos rfl, CB_nx (h := h4) fn2 d3 (by omega), u2, RT_trans (RT_XT X05) ⟨(TU_62 u3 nd x).K, ext_rfl, grow_rfl, agr_wJ agr_rfl (Or.inr (Or.inr (Or.inl rfl))), agr_rfl⟩⟩
  · have := nx_gt (n := n) (bt := bt) fn2 (by omega) (by omega)
    omega
  · obtain ⟨z1, z2⟩ := D5.2.2.2 d hd
    refine ⟨?_, z2⟩
    show (if d = nd then x else h4.2.1 62 d) = _
    rw [if_neg (by omega)]; exact z1
end
def dw (ps : Nat → Int64) (np : Nat) (x : Int64) : Nat := fst1 (fun i => decide (ps i = x)) np
abbrev XRq (nd b j : Nat) : Prop := XRc 0 b j ∨ (b = 115 ∧ j = nd) ∨ (b = 116 ∧ 6 * nd ≤ j)
def PQ (nd : Nat) (h g h1 g1 : sm_H) : Prop := K1 h1 g1 ∧ ext g g1 ∧ grow g g1 ∧ agr (XCc 0) h h1 ∧ agr (XRq nd) g g1
def PS (nd np : Nat) (ps : Nat → Int64) (ks : Nat → Int32) (h g : sm_H) : Prop := np ≤ 6 ∧ h.1 55 9 = I3 np ∧ g.1 115 nd = I3 np ∧ (∀ q, q < np → h.2.1 58 q = ps q ∧ h.1 59 q = ks q ∧ g.2.1 117 (390 + q) = ps q ∧ g.1 116 (6 * nd + q) = ks q ∧ ∃ i, ks q = I3 i ∧ 0 < i ∧ i < 20 + nC g)
section
variable {n : Nat} {bt : Nat → Nat} {nd o T j k m p f f0 np : Nat} {ps : Nat → Int64} {ks : Nat → Int32} {h g h1 g1 h2 g2 : sm_H}
theorem PQ_trans (a : PQ nd h g h1 g1) (b : PQ nd h1 g1 h2 g2) : PQ nd h g h2 g2 := ⟨b.1, ext_trans a.2.1 b.2.1, grow_trans a.2.2.1 b.2.2.1, agr_trans a.2.2.2.1 b.2.2.2.1, agr_trans a.2.2.2.2 b.2.2.2.2⟩
theorem PQ_XT (x : XT T k h g h1 g1) : PQ nd h g h1 g1 := ⟨x.k1, x.e, x.r, agr_mono (XCc_s (Nat.zero_le _)) x.c, agr_mono (fun b j z => Or.inl (XRc_s (Nat.zero_le _) b j z)) x.a⟩
theorem RT_PQ (x : PQ nd h g h1 g1) : RT h g h1 g1 := ⟨x.1, x.2.1, x.2.2.1, agr_mono (fun b j z => Or.inl z) x.2.2.2.1, agr_mono (fun b j z => by
  rcases z with z | z | z
  · exact Or.inl z
  · exact Or.inr (Or.inr (Or.inr (Or.inl (by omega))))
  · exact Or.inr (Or.inr (Or.inr (Or.inl (by omega))))) x.2.2.2.2⟩
theorem DF_p (K : K1 h g) (D : DF nd h g) (x : PQ nd h g h1 g1) : DF nd h1 g1 := by
  obtain ⟨s1, s2, s3, s4⟩ := D
  have qn : ∀ b j, XRq nd b j → ¬ (b = 67 ∧ j = 91 ∨ b = 113 ∨ b = 114 ∨ b = 115 ∧ j < nd ∨ b = 116 ∧ j < 6 * nd) := fun b j z => by unfold XRq XRc SRa SRq SRb SRp SRh SRt Ssr SLx at z; omega
  have a := x.2.2.2.1
  have b := x.2.2.2.2
  refine ⟨(a.1 55 15 (fun z => XCc_df _ _ z (by omega))).trans s1, (b.1 67 91 (fun z => qn _ _ z (by omega))).trans s2, s3, fun d hd => ?_⟩
  obtain ⟨t1, t2, y, x1, x2, x3, x4, x5⟩ := s4 d hd
  have hx := ext_hpl K.2.2.2.2.1 x.2.1 x1
  rw [a.2.1 62 d (fun z => XCc_df _ _ z (by omega)), a.1 63 d (fun z => XCc_df _ _ z (by omega)), b.2.1 113 d (fun z => qn _ _ z (by omega)), b.1 114 d (fun z => qn _ _ z (by omega)), b.1 115 d (fun z => qn _ _ z (by omega))]
  refine ⟨t1, t2, y, Nat.lt_of_lt_of_le x1 x.2.2.1.2.2.1, x2, by rw [hx]; exact x3, by rw [hx]; exact x4, fun i hi => ?_⟩
  rw [hx] at hi ⊢
  rw [b.1 116 _ (fun z => qn _ _ z (by omega))]; exact x5 i hi
theorem C_181s (e9 : h.1 55 9 = I3 np) (l : np ≤ 13) (h58 : ∀ q, q < np → h.2.1 58 q = ps q) (x : Int64) : F_181 x h = some (if dw ps np x < np then I3 (dw ps np x) else -1, h) := by
  have L := lp_fst (body := F_181_2B) (fun i => decide (ps i = x)) np (fun k => (x, I3 k, h)) (fun k => (I3 k, h)) (-1, h) (f := 1000000) (by omega) (fun i hi e => ?_) (fun i hi e => ?_) ?_
  · refine Eq.trans (show F_181 x h = lp F_181_2B 1000000 (x, I3 0, h) from rfl) (L.trans ?_)
    unfold dw
    split <;> rfl
  · show F_181_2B (x, I3 i, h) = _
    unfold F_181_2B
    simp only []
    rw [e9, if_neg (by rw [I3_le (by omega) (by omega)]; omega), if_neg (by rw [I3_lit, I3_le (by decide) (by omega)]; omega), ldJ_I (by omega) (by decide), h58 i hi]; simp only [obs]
    rw [if_neg (fun z => (of_decide_eq_false e) (cmp_eq.mp z)), show I3 i + 1 = I3 (i + 1) from I3_add i 1]
  · show F_181_2B (x, I3 i, h) = _
    unfold F_181_2B
    simp only []
    rw [e9, if_neg (by rw [I3_le (by omega) (by omega)]; omega), if_neg (by rw [I3_lit, I3_le (by decide) (by omega)]; omega), ldJ_I (by omega) (by decide), h58 i hi]; simp only [obs]
    rw [if_pos (cmp_eq.mpr (of_decide_eq_true e))]
  · show F_181_2B (x, I3 np, h) = _
    unfold F_181_2B F_181_35
    simp only []
    rw [e9, if_pos (by rw [I3_le (by omega) (by omega)]; omega)]; rfl
theorem dw_iff (x : Int64) : dw ps np x < np ↔ ∃ q, q < np ∧ ps q = x := by
  have sp := fst1_spec (fun i => decide (ps i = x)) np
  constructor
  · intro z
    exact ⟨dw ps np x, z, of_decide_eq_true (sp.2.2 z)⟩
  · rintro ⟨q, q1, q2⟩
    apply Classical.byContradiction
    intro z
    have := sp.2.1 q (by show q < dw ps np x; omega)
    exact absurd q2 (of_decide_eq_false this)
theorem C_172 {x : Nat} (hx : x ≤ 5) {h1 : sm_H} (c1 : F_249 h = some (I3 (wrd n bt f), h1)) (c2 : LXC n bt f h1) (nf : h1.1 55 17 = 0) : (wrd n bt f = x → F_172 (I3 x) h = some (1, h1)) ∧ (wrd n bt f ≠ x → ∃ h2, F_172 (I3 x) h = some (0, h2) ∧ F_169 (I3 (er n bt f)) (I3 f) h1 = some (-1, h2)) := by
  have w6 := wrd_6 n bt f
  have C1 : F_172 (I3 x) h = F_172_0 (I3 x) h := rfl
  unfold F_172_0 F_172_31 F_172_35 F_172_47 at C1
  rw [c1] at C1; simp only [obs] at C1
  constructor
  · intro w
    rw [if_pos (by rw [w]), if_pos nf, if_pos (by decide)] at C1
    exact C1
  · intro w
    obtain ⟨h2, f1, f2, f3, f4⟩ := fail_C (h := h1) (f := f) nf (I3 (er n bt f)) rfl
    refine ⟨h2, ?_, f1⟩
    have e9 := er_9 n bt f
    have z35 : (if h2.1 55 17 = 0 then (if (1 : Int32) = 0 ∨ (1 : Int32) = 1 then some ((1 : Int32), h2) else none) else (if (0 : Int32) = 0 ∨ (0 : Int32) = 1 then some (0, h2) else none)) = some (0, h2) := by
      rw [if_neg, if_pos (Or.inl rfl)]
      rw [f2, I3_lit, I3_inj (by omega) (by decide)]; omega
    rw [if_neg (by rw [I3_inj (by omega) (by omega)]; exact w)] at C1
    unfold er at f1
    by_cases v : wrd n bt f = 6
    · rw [if_pos v] at f1
      rw [if_pos (by rw [v]; rfl), show F_244 h1 = some (h1.1 52 6, h1) from rfl, c2.2.2.1 v] at C1; simp only [obs] at C1
      rw [C_170 c2, f1] at C1; simp only [obs] at C1
      rw [C1]; exact z35
    · rw [if_neg v] at f1
      rw [if_neg (by rw [I3_lit, I3_inj (by omega) (by decide)]; exact v), C_170 c2, show F_169 4 (I3 f) h1 = some (-1, h2) from f1] at C1; simp only [obs] at C1
      rw [C1]; exact z35
def endS (nd : Nat) (g : sm_H) : Option ((Int32 × sm_H) ⊕ (Int32 × sm_H)) := (ldI g 115 60 (I3 nd)).bind fun v3 =>
  (stJ g 117 400 (390 + v3) (g.2.1 67 83)).bind fun h4 =>
  (F_420 h4).bind fun q5 =>
  (F_424 0 q5).bind fun q6 =>
  if q6.1 = 0 then some (.inr (0, q6.2))
  else ((F_427 q6.2).bind fun q7 =>
  if q7.1 = 0 then some (.inr (0, q7.2))
  else ((ldI q7.2 115 60 (I3 nd)).bind fun v8 =>
  (stI q7.2 116 360 ((6 * (I3 nd)) + v8) (q7.2.1 67 105)).bind fun h9 =>
  (ldI h9 115 60 (I3 nd)).bind fun v10 =>
  (stI h9 115 60 (I3 nd) (v10 + 1)).bind fun h11 =>
  (F_418 h11).bind fun q12 =>
  if q12.1 = 0 then some (.inr (0, q12.2))
  else some (.inl (I3 nd, q12.2))))
def endB (g : sm_H) : Option ((Int32 × sm_H) ⊕ (Int32 × sm_H)) := (F_413 6 (g.1 67 81) g).bind fun q13 => if q13.1 = 0 ∨ q13.1 = 1 then some (.inr (q13.1, q13.2)) else none
theorem map_some {α β : Type} {x : Option α} {f : α → β} {y : α} (h : x = some y) : x.map f = some (f y) := by rw [h]; rfl
theorem bind_mapX {α β γ : Type} (x : Option α) (f : α → Option β) (u : β → γ) : (x.bind f).map u = x.bind fun a => (f a).map u := by cases x <;> rfl
theorem ite_mapX {β γ : Type} {c : Prop} [Decidable c] (a b : Option β) (u : β → γ) : (if c then a else b).map u = if c then a.map u else b.map u := by
  by_cases h : c
  · rw [if_pos h, if_pos h]
  · rw [if_neg h, if_neg h]
theorem R_94e (nd60 : nd < 60) (n6 : np ≤ 6) (e115 : g.1 115 nd = I3 np) {r : (Int32 × sm_H) ⊕ (Int32 × sm_H)} (b : Bool) (fu : Nat) (hf : 0 < fu) (hb : (if b = true then endB g else endS nd g) = some r) : lp F_464_94B fu (I3 nd, b2 b, I3 np, g) = some r := by
  have l115 : ldI g 115 60 (I3 nd) = some (I3 np) := by rw [ldI_I nd60 (by decide), e115]
  have B : F_464_94B (I3 nd, b2 b, I3 np, g) = (if b = true then endB g else endS nd g).map .inr := by
    unfold F_464_94B
    simp only []
    rw [l115]
    simp only [Option.bind_some]
    rw [if_pos (by rw [I3_le (by omega) (by omega)]; omega)]
    cases b with
    | true =>
      rw [if_neg (show ¬ b2 true = 0 by decide), if_pos rfl]
      unfold endB
      rw [bind_mapX]
      refine congrArg _ (funext fun q => ?_)
      rw [ite_mapX]
      rfl
    | false =>
      rw [if_pos (show b2 false = 0 by decide), if_neg (show ¬ false = true by decide)]
      unfold endS F_464_191
      simp only [bind_mapX, ite_mapX, Option.map_some]
      rw [l115]
      simp only [Option.bind_some]
  rw [hb] at B
  exact lp_e (by omega) B
theorem R_94 (nd60 : nd < 60) (n6 : np ≤ 6) (e115 : g.1 115 nd = I3 np) (h117 : ∀ q, q < np → g.2.1 117 (390 + q) = ps q) {x : Int64} (ex : g.2.1 67 83 = x) (fl : Bool) {r : (Int32 × sm_H) ⊕ (Int32 × sm_H)} (hr : (if fl = true ∨ dw ps np x < np then endB g else endS nd g) = some r) : F_464_94 (I3 nd) (b2 fl) 0 g = some r := by
  have l115 : ldI g 115 60 (I3 nd) = some (I3 np) := by rw [ldI_I nd60 (by decide), e115]
  have END : ∀ b fu, 0 < fu → (if b = true then endB g else endS nd g) = some r → lp F_464_94B fu (I3 nd, b2 b, I3 np, g) = some r := fun b fu hf hb => R_94e nd60 n6 e115 b fu hf hb
  have LP : ∀ c q b fu, q + c = np → c < fu → (b = true ↔ fl = true ∨ ∃ q', q' < q ∧ ps q' = x) → lp F_464_94B fu (I3 nd, b2 b, I3 q, g) = some r := by
    intro c
    induction c with
    | zero =>
      intro q b fu hq hf hb
      have e : q = np := by omega
      subst e
      refine END b fu (by omega) ?_
      rw [← hr]
      by_cases w : b = true
      · rw [if_pos w, if_pos]
        rcases hb.mp w with z | z
        · exact Or.inl z
        · exact Or.inr ((dw_iff x).mpr z)
      · rw [if_neg w, if_neg]
        rintro (z | z)
        · exact w (hb.mpr (Or.inl z))
        · exact w (hb.mpr (Or.inr ((dw_iff x).mp z)))
    | succ c ih =>
      intro q b fu hq hf hb
      have B : F_464_94B (I3 nd, b2 b, I3 q, g) = some (.inl (I3 nd, b2 (b || decide (ps q = x)), I3 (q + 1), g)) := by
        unfold F_464_94B F_464_126 F_464_131
        simp only []
        rw [l115]; simp only [obs]
        rw [if_neg (by rw [I3_le (by omega) (by omega)]; omega), show I3 q + 1 = I3 (q + 1) from I3_add q 1]
        cases b with
        | true =>
          rw [if_neg (by decide)]; rfl
        | false =>
          rw [if_pos (by decide), show (390 : Int32) + I3 q = I3 (390 + q) by rw [I3_lit, I3_add], ldJ_I (by omega) (by decide), h117 q (by omega)]; simp only [obs]
          rw [ex]
          by_cases z : ps q = x
          · rw [if_pos (cmp_eq.mpr z), decide_eq_true z]; rfl
          · rw [if_neg (fun y => z (cmp_eq.mp y)), decide_eq_false z]; rfl
      rw [lp_s (by omega) B]
      refine ih (q + 1) _ (fu - 1) (by omega) (by omega) ?_
      rw [Bool.or_eq_true, decide_eq_true_iff, hb]
      constructor
      · rintro ((z | ⟨q', z1, z2⟩) | z)
        · exact Or.inl z
        · exact Or.inr ⟨q', by omega, z2⟩
        · exact Or.inr ⟨q, by omega, z⟩
      · rintro (z | ⟨q', z1, z2⟩)
        · exact Or.inl (Or.inl z)
        · by_cases y : q' = q
          · subst y; exact Or.inr z2
          · exact Or.inl (Or.inr ⟨q', by omega, z2⟩)
  exact LP np 0 fl 1000000 (by omega) (by omega) ⟨fun z => Or.inl z, fun z => by
    rcases z with z | ⟨q', z1, -⟩
    · exact z
    · omega⟩
end
section
variable {n : Nat} {bt : Nat → Nat} {nd o T j k m p f f0 np : Nat} {ps : Nat → Int64} {ks : Nat → Int32} {h g h1 g1 h2 g2 : sm_H}
theorem K1_115 (K : K1 h g) (i : Nat) (x : Int32) : K1 h (sm_wI g 115 i x) ∧ ext g (sm_wI g 115 i x) ∧ grow g (sm_wI g 115 i x) := by
  obtain ⟨wK, cK, wT, cT, wH, cH, wM, cM, cG, cO, cV, wX, cX, cXh, wF⟩ := K
  obtain ⟨c1, c2, c3, c4, c5, c6, c7, c8, c9, c10, c11⟩ := ext_rfl (g := g)
  obtain ⟨d1, d2, d3, d4, d5⟩ := grow_rfl (g := g)
  exact ⟨⟨wK, cK, wT, cT, wH, cH, wM, cM, cG, cO, cV, wX, cX, cXh, wF⟩, ⟨c1, c2, c3, c4, c5, c6, c7, c8, c9, c10, c11⟩, ⟨d1, d2, d3, d4, d5⟩⟩
theorem K1_116 (K : K1 h g) (i : Nat) (x : Int32) : K1 h (sm_wI g 116 i x) ∧ ext g (sm_wI g 116 i x) ∧ grow g (sm_wI g 116 i x) := by
  obtain ⟨wK, cK, wT, cT, wH, cH, wM, cM, cG, cO, cV, wX, cX, cXh, wF⟩ := K
  obtain ⟨c1, c2, c3, c4, c5, c6, c7, c8, c9, c10, c11⟩ := ext_rfl (g := g)
  obtain ⟨d1, d2, d3, d4, d5⟩ := grow_rfl (g := g)
  exact ⟨⟨wK, cK, wT, cT, wH, cH, wM, cM, cG, cO, cV, wX, cX, cXh, wF⟩, ⟨c1, c2, c3, c4, c5, c6, c7, c8, c9, c10, c11⟩, ⟨d1, d2, d3, d4, d5⟩⟩
theorem PS_y {P Q : Nat → Nat → Prop} (s : PS nd np ps ks h g) (a : agr P h h1) (b : agr Q g g1) (p : ∀ b j, P b j → ¬ (b = 55 ∧ j = 9 ∨ b = 58 ∨ b = 59)) (q : ∀ b j, Q b j → ¬ (b = 115 ∧ j = nd ∨ b = 117 ∧ j < 390 + np ∨ b = 116 ∧ j < 6 * nd + np ∨ b = 67 ∧ j = 6)) : PS nd np ps ks h1 g1 := by
  obtain ⟨s1, s2, s3, s4⟩ := s
  have nc : nC g1 = nC g := by show tn _ = tn _; rw [b.1 67 6 (fun z => q _ _ z (by omega))]
  refine ⟨s1, (a.1 55 9 (fun z => p _ _ z (by omega))).trans s2, (b.1 115 nd (fun z => q _ _ z (by omega))).trans s3, fun i hi => ?_⟩
  obtain ⟨t1, t2, t3, t4, t5⟩ := s4 i hi
  exact ⟨(a.2.1 58 i (fun z => p _ _ z (by omega))).trans t1, (a.1 59 i (fun z => p _ _ z (by omega))).trans t2, (b.2.1 117 _ (fun z => q _ _ z (by omega))).trans t3, (b.1 116 _ (fun z => q _ _ z (by omega))).trans t4, by rw [nc]; exact t5⟩
theorem Scl_p (b j : Nat) (z : Scl b j) : ¬ (b = 55 ∧ j = 9 ∨ b = 58 ∨ b = 59) := by unfold Scl S52 at z; omega
theorem Srl_p (b j : Nat) (z : Srl b j) : ¬ (b = 115 ∧ j = nd ∨ b = 117 ∧ j < 390 + np ∨ b = 116 ∧ j < 6 * nd + np ∨ b = 67 ∧ j = 6) := by unfold Srl SLx at z; omega
def E464 (nd fu : Nat) (g : sm_H) : Option (Int32 × sm_H) := (F_418 g).bind fun q24 => if q24.1 = 0 then some (0, q24.2) else lp F_464_25B fu (I3 nd, q24.2)
theorem parN (nd60 : nd < 60) : ∀ r np, np + r = 6 → ∀ (fc fu f : Nat) (ps : Nat → Int64) (ks : Nat → Int32) (h g : sm_H), r + 1 < fc → r + 1 < fu → TU n bt k h g → OP 2 h g → CB n bt f h → RB n bt f g → PS nd np ps ks h g →
    (∃ h1 g1 f' np' ps' ks', lp F_178_16B fc (I3 np, h) = some (1, h1) ∧ E464 nd fu g = some (1, g1) ∧ f < f' ∧ TU n bt k h1 g1 ∧ OP 1 h1 g1 ∧ CB n bt f' h1 ∧ RB n bt f' g1 ∧ PS nd np' ps' ks' h1 g1 ∧ PQ nd h g h1 g1) ∨ ∃ e pc h1 g1, lp F_178_16B fc (I3 np, h) = some (0, h1) ∧ E464 nd fu g = some (0, g1) ∧ FT e pc h1 g1 ∧ PQ nd h g h1 g1 := by
  intro r
  induction r with
  | zero =>
    intro np hnp fc fu f ps ks h g hc hf s o c rb P
    have n6 := P.1
    have fn := RB_n rb
    have w6 := wrd_6 n bt f
    obtain ⟨h1, c1, c2, c3, c4⟩ := step_C s c
    obtain ⟨g1, d1, d2, d3, d4, d5⟩ := look_R c3 rb
    have X1 : ∀ T' k', XT T' k' h g h1 g1 := fun T' k' => XT_y s.K (S52_Scl c4) (SLx_Srl d2)
    have C0 : F_178_16B (I3 np, h) = (F_171 h).bind fun q4 => if q4.1 = 2 then ((some (sm_wI q4.2 55 16 ((q4.2.1 55 16) - 1))).bind fun h6 => some (.inr (1, h6))) else (if q4.1 = 1 then (F_178_55 (I3 np) q4.2) else ((F_170 4 q4.2).bind fun q5 => F_178_55 (I3 np) q5.2)) := by
      unfold F_178_16B
      show (if 6 < I3 np then _ else _) = _
      rw [if_neg (by rw [I3_lit, I3_lt (by decide) (by omega)]; omega)]
    have R0 : E464 nd fu g = E464 nd fu g := rfl
    conv at R0 => rhs; unfold E464
    by_cases w : wrd n bt f = 6
    · right
      obtain ⟨h2, g2, b1, b2', b3, b4, b5⟩ := badWord c3 c2 rb w
      rw [b2'] at R0; simp only [obs] at R0; rw [if_pos trivial] at R0
      rw [C_171b c1 w b1] at C0; simp only [obs] at C0
      rw [if_neg (by decide), if_neg (by decide), C_170f b3] at C0; simp only [obs] at C0
      unfold F_178_55 F_178_76 at C0
      rw [if_neg (FT_nz b3)] at C0
      exact ⟨_, _, h2, g2, lp_e (by omega) C0, R0, b3, PQ_XT (XT_trans (XT_y s.K (S52_Scl c4) agr_rfl) b4)⟩
    rw [if_neg w] at d5
    obtain ⟨d5, lr⟩ := d5
    rw [C_171 c1 w] at C0; simp only [obs] at C0
    rw [d5] at R0; simp only [obs] at R0; rw [if_neg (by decide)] at R0
    have R1 : F_464_25B (I3 nd, g1) = F_464_25B (I3 nd, g1) := rfl
    conv at R1 => rhs; unfold F_464_25B
    simp only [] at R1
    rw [lr.2.2.1] at R1
    have nr : ∀ x : Nat, x < 6 → wrd n bt f ≠ x → ¬ I3 (rwd (wrd n bt f)) = I3 (rwd x) := fun x hx z => by
      rw [I3_inj (by have := rwd_5 (x := wrd n bt f) (by omega); omega) (by have := rwd_5 (x := x) (by omega); omega)]
      exact fun y => z (rwd_inj (by omega) (by omega) y)
    have nw : ∀ x : Nat, x < 6 → wrd n bt f ≠ x → ¬ I3 (wrd n bt f) = I3 x := fun x hx z => by rw [I3_inj (by omega) (by omega)]; exact z
    have p1 : OP 2 h1 g1 := OP_x o c4 d2 (by unfold S52; omega) (by unfold SLx; omega)
    by_cases w2 : wrd n bt f = 2
    · left
      rw [if_pos (by rw [w2]; rfl), p1.1, show I3 2 - 1 = I3 1 from I3_s1 1] at C0
      obtain ⟨g2, t1, t2, t3, t4⟩ := take_R d1 fn lr
      rw [if_pos (by rw [w2]; rfl), t1] at R1; simp only [obs] at R1
      rw [show g2.1 67 86 = I3 2 from (t4.1 67 86 (by omega)).trans p1.2.1, show I3 2 - 1 = I3 1 from I3_s1 1] at R1
      have a2 : agr Scl h1 (sm_wI h1 55 16 (I3 1)) := agr_wI agr_rfl (Or.inr ⟨rfl, rfl⟩)
      have b2' : agr Srl g1 (sm_wI g2 67 86 (I3 1)) := agr_wI (agr_mono (fun b j z => Or.inl ⟨z.1, by omega, by omega⟩) t4) (Or.inr ⟨rfl, Or.inl rfl⟩)
      obtain ⟨s2, X2⟩ := TS_y (T' := 0) (k' := 0) d1 a2 b2'
      exact ⟨_, _, nx n bt f, np, ps, ks, lp_e (by omega) C0, by rw [R0]; exact lp_e (by omega) R1, nx_gt fn (by omega) w, s2, ⟨rfl, rfl, by decide⟩, CB_nx (h := h1) fn c2 w, t2, PS_y P (agr_trans (S52_Scl c4) a2) (agr_trans (SLx_Srl d2) b2') Scl_p Srl_p, PQ_XT (XT_trans (X1 0 0) X2)⟩
    rw [if_neg (show ¬ I3 (wrd n bt f) = (2 : Int32) from nw 2 (by decide) w2)] at C0
    rw [if_neg (show ¬ I3 (rwd (wrd n bt f)) = (4 : Int32) from nr 2 (by decide) w2)] at R1
    by_cases w1 : wrd n bt f = 1
    rotate_left
    · right
      obtain ⟨h2, g2, f1, f2, f3, f4⟩ := XT_fail d1 (T' := 0) (k' := 0) (e := 4) (f := f) (by decide) (by decide)
      rw [if_neg (show ¬ I3 (wrd n bt f) = (1 : Int32) from nw 1 (by decide) w1), C_170 c2, show F_169 4 (I3 f) h1 = some (-1, h2) from f1] at C0; simp only [obs] at C0
      unfold F_178_55 F_178_76 at C0
      rw [if_neg (FT_nz f3)] at C0
      have q1 := f421 g1 d4
      rw [show F_413 4 (I3 f) g1 = some (0, g2) from f2] at q1
      rw [if_neg (show ¬ I3 (rwd (wrd n bt f)) = (3 : Int32) from nr 1 (by decide) w1)] at R1
      have R2 : F_464_25B (I3 nd, g1) = some (.inr (0, g2)) := by
        rw [R1]
        cases hq : F_421 g1 with
        | none => rw [hq] at q1; cases q1
        | some q =>
          rw [hq] at q1
          simp only [Option.bind_some] at q1 ⊢
          by_cases z : q.1 = 0 ∨ q.1 = 1
          · rw [if_pos z] at q1 ⊢
            injection q1 with q1
            rw [q1]
          · rw [if_neg z] at q1; cases q1
      exact ⟨4, f, h2, g2, lp_e (by omega) C0, by rw [R0]; exact lp_e (by omega) R2, f3, PQ_XT (XT_trans (X1 0 0) f4)⟩
    rw [if_pos (by rw [w1]; rfl)] at C0
    rw [if_pos (by rw [w1]; rfl)] at R1
    unfold F_178_55 F_178_76 at C0
    unfold F_464_60 at R1
    rw [if_pos c3.nf.1] at C0
    rcases openS d1 p1 fn c2 lr w1 with ⟨h2, g2, -, a1, a2, a3, a4, a5, a6, a7, a8, a9, a10⟩ | ⟨e', h2, g2, a1, a2, a3, a4⟩
    rotate_left
    · right
      rw [a1] at C0; simp only [obs] at C0; rw [if_pos trivial] at C0
      rw [a2] at R1; simp only [obs] at R1; rw [if_pos trivial] at R1
      exact ⟨e', _, h2, g2, lp_e (by omega) C0, by rw [R0]; exact lp_e (by omega) R1, a3, PQ_XT (XT_trans (X1 0 0) (XT_mono (Nat.zero_le _) (Nat.zero_le _) a4))⟩
    rw [a1] at C0; simp only [obs] at C0; rw [if_neg (by decide)] at C0
    rw [a2] at R1; simp only [obs] at R1; rw [if_neg (by decide)] at R1
    have C1 : F_179 h2 = F_179_0 h2 := rfl
    unfold F_179_0 F_179_36 F_179_63 at C1
    have fn1 := RB_n a6
    have w6' := wrd_6 n bt (nx n bt f)
    obtain ⟨h3, k1, k2, k3, k4⟩ := step_C a3 a5
    obtain ⟨g3, l1, l2, l3, l4, l5⟩ := look_R k3 a6
    have CC := C_172 (x := 4) (by decide) k1 k2 k3.nf.1
    have X02 : XT 0 0 h g h2 g2 := XT_trans (X1 0 0) (XT_mono (Nat.zero_le _) (Nat.zero_le _) a8)
    have X03 : XT 0 0 h g h3 g3 := XT_trans X02 (XT_y a3.K (S52_Scl k4) (SLx_Srl l2))
    have FIN : ∀ {h4 g4 : sm_H} {e' pc : Nat}, F_179 h2 = some (0, h4) → F_464_25B (I3 nd, g1) = some (.inr (0, g4)) → FT e' pc h4 g4 → PQ nd h g h4 g4 → ∃ e pc h1 g1, lp F_178_16B fc (I3 np, h) = some (0, h1) ∧ E464 nd fu g = some (0, g1) ∧ FT e pc h1 g1 ∧ PQ nd h g h1 g1 := fun x1 x2 x3 x4 => by
      rw [x1] at C0; simp only [obs] at C0; rw [if_pos trivial] at C0
      exact ⟨_, _, _, _, lp_e (by omega) C0, by rw [R0]; exact lp_e (by omega) x2, x3, x4⟩
    by_cases w4 : wrd n bt (nx n bt f) = 4
    rotate_left
    · right
      obtain ⟨h4, m1, m2⟩ := CC.2 w4
      obtain ⟨h5, g5, f1, f2, f3, f4⟩ := XT_fail l1 (T' := 0) (k' := 0) (f := nx n bt f) (er_9 n bt (nx n bt f)).1 (er_9 n bt (nx n bt f)).2
      rw [m2] at f1
      injection f1 with f1
      have q1 : h4 = h5 := congrArg Prod.snd f1
      subst q1
      rw [show F_172 4 h2 = some (0, h4) from m1] at C1; simp only [obs] at C1; rw [if_pos trivial] at C1
      refine FIN C1 ?_ f3 (PQ_XT (XT_trans X03 f4))
      rw [R1]
      unfold er at f2
      by_cases v : wrd n bt (nx n bt f) = 6
      · rw [if_pos v] at f2 l5
        rw [l5, f2]; rfl
      · rw [if_neg v] at f2 l5
        rw [l5.1]; simp only [obs]
        rw [if_neg (by decide), if_neg (show ¬ g3.1 67 80 = 1 by
          rw [l5.2.2.2.1, show (1 : Int32) = I3 (rwd 4) from rfl, I3_inj (by have := rwd_5 (x := wrd n bt (nx n bt f)) (by omega); omega) (by decide)]
          exact fun y => w4 (rwd_inj (by omega) (by omega) y))]
        have q1 := f421 g3 l4
        rw [show F_413 4 (I3 (nx n bt f)) g3 = some (0, g5) from f2] at q1
        cases hq : F_421 g3 with
        | none => rw [hq] at q1; cases q1
        | some q =>
          rw [hq] at q1
          simp only [Option.bind_some] at q1 ⊢
          by_cases z : q.1 = 0 ∨ q.1 = 1
          · rw [if_pos z] at q1 ⊢
            injection q1 with q1
            rw [q1]
          · rw [if_neg z] at q1; cases q1
    rw [if_neg (by omega)] at l5
    obtain ⟨l5, lr3⟩ := l5
    rw [show F_172 4 h2 = some (1, h3) from CC.1 w4] at C1; simp only [obs] at C1
    rw [if_neg (by decide), show F_248 h3 = some (h3.2.1 52 10, h3) from rfl, k2.2.2.2.2.2.1 w4] at C1; simp only [obs] at C1
    have P3 : PS nd np ps ks h3 g3 := PS_y P (agr_trans (agr_trans (S52_Scl c4) (agr_mono (fun b j z => Or.inr z) a9)) (S52_Scl k4)) (agr_trans (agr_trans (SLx_Srl d2) (agr_mono (fun b j z => by
      rcases z with ⟨z1, z2 | z2⟩
      · exact Or.inr ⟨z1, Or.inl z2⟩
      · exact Or.inl ⟨z1, by omega, by omega⟩) a10)) (SLx_Srl l2)) Scl_p Srl_p
    have ex := lr3.2.2.2.2.2.1 w4
    generalize hx : foldN bt (nx n bt f) (men n bt (nx n bt f) - nx n bt f) = x at C1 ex
    rw [l5] at R1; simp only [obs] at R1
    rw [if_neg (by decide), if_pos (show g3.1 67 80 = 1 from lr3.2.2.1.trans (by rw [w4]; rfl)), ldI_I nd60 (by decide), P3.2.2.1] at R1; simp only [obs] at R1
    have R2 : F_464_25B (I3 nd, g1) = F_464_94 (I3 nd) (b2 (decide (np = 6))) 0 g3 := by
      rw [R1]
      unfold F_464_91
      by_cases z : np = 6
      · rw [if_pos (by rw [z]; rfl), decide_eq_true z]; rfl
      · rw [if_neg (by rw [I3_lit, I3_inj (by omega) (by decide)]; exact z), decide_eq_false z]; rfl
    have R3 : ∀ r, (if np = 6 ∨ dw ps np x < np then endB g3 else endS nd g3) = some r → F_464_25B (I3 nd, g1) = some r := fun r hr => by
      rw [R2]
      refine R_94 (ps := ps) nd60 n6 P3.2.2.1 (fun q hq => (P3.2.2.2 q hq).2.2.1) ex _ ?_
      by_cases z : np = 6 ∨ dw ps np x < np
      · rw [if_pos z] at hr
        rw [if_pos (by
          rcases z with z | z
          · exact Or.inl (decide_eq_true z)
          · exact Or.inr z)]
        exact hr
      · rw [if_neg z] at hr
        rw [if_neg (by
          rintro (y | y)
          · exact z (Or.inl (of_decide_eq_true y))
          · exact z (Or.inr y))]
        exact hr
    rw [P3.2.1] at C1
    by_cases bad : np = 6 ∨ dw ps np x < np
    · right
      obtain ⟨h4, g4, f1, f2, f3, f4⟩ := XT_fail l1 (T' := 0) (k' := 0) (e := 6) (f := nx n bt f) (by decide) (by decide)
      rw [if_pos bad] at R3
      refine FIN (h4 := h4) (g4 := g4) ?_ (R3 _ ?_) f3 (PQ_XT (XT_trans X03 f4))
      · rw [C1]
        by_cases z : np = 6
        · rw [if_pos (by rw [z]; decide), C_170 k2, show F_169 6 (I3 (nx n bt f)) h3 = some (-1, h4) from f1]; rfl
        · have dz : dw ps np x < np := by
            rcases bad with y | y
            · exact absurd y z
            · exact y
          rw [if_neg (by rw [I3_lit, I3_le (by decide) (by omega)]; omega), C_181s P3.2.1 (by omega) (fun q hq => (P3.2.2.2 q hq).1), if_pos dz]; simp only [obs]
          rw [if_neg (I3_m1 (by omega)), C_170 k2, show F_169 6 (I3 (nx n bt f)) h3 = some (-1, h4) from f1]; rfl
      · unfold endB
        rw [lr3.2.1, show F_413 6 (I3 (nx n bt f)) g3 = some (0, g4) from f2]; rfl
    rw [if_neg bad] at R3
    exact absurd (Or.inl (by omega)) bad
  | succ r ih =>
    intro np hnp fc fu f ps ks h g hc hf s o c rb P
    have n6 := P.1
    have fn := RB_n rb
    have w6 := wrd_6 n bt f
    obtain ⟨h1, c1, c2, c3, c4⟩ := step_C s c
    obtain ⟨g1, d1, d2, d3, d4, d5⟩ := look_R c3 rb
    have X1 : ∀ T' k', XT T' k' h g h1 g1 := fun T' k' => XT_y s.K (S52_Scl c4) (SLx_Srl d2)
    have C0 : F_178_16B (I3 np, h) = (F_171 h).bind fun q4 => if q4.1 = 2 then ((some (sm_wI q4.2 55 16 ((q4.2.1 55 16) - 1))).bind fun h6 => some (.inr (1, h6))) else (if q4.1 = 1 then (F_178_55 (I3 np) q4.2) else ((F_170 4 q4.2).bind fun q5 => F_178_55 (I3 np) q5.2)) := by
      unfold F_178_16B
      show (if 6 < I3 np then _ else _) = _
      rw [if_neg (by rw [I3_lit, I3_lt (by decide) (by omega)]; omega)]
    have R0 : E464 nd fu g = E464 nd fu g := rfl
    conv at R0 => rhs; unfold E464
    by_cases w : wrd n bt f = 6
    · right
      obtain ⟨h2, g2, b1, b2', b3, b4, b5⟩ := badWord c3 c2 rb w
      rw [b2'] at R0; simp only [obs] at R0; rw [if_pos trivial] at R0
      rw [C_171b c1 w b1] at C0; simp only [obs] at C0
      rw [if_neg (by decide), if_neg (by decide), C_170f b3] at C0; simp only [obs] at C0
      unfold F_178_55 F_178_76 at C0
      rw [if_neg (FT_nz b3)] at C0
      exact ⟨_, _, h2, g2, lp_e (by omega) C0, R0, b3, PQ_XT (XT_trans (XT_y s.K (S52_Scl c4) agr_rfl) b4)⟩
    rw [if_neg w] at d5
    obtain ⟨d5, lr⟩ := d5
    rw [C_171 c1 w] at C0; simp only [obs] at C0
    rw [d5] at R0; simp only [obs] at R0; rw [if_neg (by decide)] at R0
    have R1 : F_464_25B (I3 nd, g1) = F_464_25B (I3 nd, g1) := rfl
    conv at R1 => rhs; unfold F_464_25B
    simp only [] at R1
    rw [lr.2.2.1] at R1
    have nr : ∀ x : Nat, x < 6 → wrd n bt f ≠ x → ¬ I3 (rwd (wrd n bt f)) = I3 (rwd x) := fun x hx z => by
      rw [I3_inj (by have := rwd_5 (x := wrd n bt f) (by omega); omega) (by have := rwd_5 (x := x) (by omega); omega)]
      exact fun y => z (rwd_inj (by omega) (by omega) y)
    have nw : ∀ x : Nat, x < 6 → wrd n bt f ≠ x → ¬ I3 (wrd n bt f) = I3 x := fun x hx z => by rw [I3_inj (by omega) (by omega)]; exact z
    have p1 : OP 2 h1 g1 := OP_x o c4 d2 (by unfold S52; omega) (by unfold SLx; omega)
    by_cases w2 : wrd n bt f = 2
    · left
      rw [if_pos (by rw [w2]; rfl), p1.1, show I3 2 - 1 = I3 1 from I3_s1 1] at C0
      obtain ⟨g2, t1, t2, t3, t4⟩ := take_R d1 fn lr
      rw [if_pos (by rw [w2]; rfl), t1] at R1; simp only [obs] at R1
      rw [show g2.1 67 86 = I3 2 from (t4.1 67 86 (by omega)).trans p1.2.1, show I3 2 - 1 = I3 1 from I3_s1 1] at R1
      have a2 : agr Scl h1 (sm_wI h1 55 16 (I3 1)) := agr_wI agr_rfl (Or.inr ⟨rfl, rfl⟩)
      have b2' : agr Srl g1 (sm_wI g2 67 86 (I3 1)) := agr_wI (agr_mono (fun b j z => Or.inl ⟨z.1, by omega, by omega⟩) t4) (Or.inr ⟨rfl, Or.inl rfl⟩)
      obtain ⟨s2, X2⟩ := TS_y (T' := 0) (k' := 0) d1 a2 b2'
      exact ⟨_, _, nx n bt f, np, ps, ks, lp_e (by omega) C0, by rw [R0]; exact lp_e (by omega) R1, nx_gt fn (by omega) w, s2, ⟨rfl, rfl, by decide⟩, CB_nx (h := h1) fn c2 w, t2, PS_y P (agr_trans (S52_Scl c4) a2) (agr_trans (SLx_Srl d2) b2') Scl_p Srl_p, PQ_XT (XT_trans (X1 0 0) X2)⟩
    rw [if_neg (show ¬ I3 (wrd n bt f) = (2 : Int32) from nw 2 (by decide) w2)] at C0
    rw [if_neg (show ¬ I3 (rwd (wrd n bt f)) = (4 : Int32) from nr 2 (by decide) w2)] at R1
    by_cases w1 : wrd n bt f = 1
    rotate_left
    · right
      obtain ⟨h2, g2, f1, f2, f3, f4⟩ := XT_fail d1 (T' := 0) (k' := 0) (e := 4) (f := f) (by decide) (by decide)
      rw [if_neg (show ¬ I3 (wrd n bt f) = (1 : Int32) from nw 1 (by decide) w1), C_170 c2, show F_169 4 (I3 f) h1 = some (-1, h2) from f1] at C0; simp only [obs] at C0
      unfold F_178_55 F_178_76 at C0
      rw [if_neg (FT_nz f3)] at C0
      have q1 := f421 g1 d4
      rw [show F_413 4 (I3 f) g1 = some (0, g2) from f2] at q1
      rw [if_neg (show ¬ I3 (rwd (wrd n bt f)) = (3 : Int32) from nr 1 (by decide) w1)] at R1
      have R2 : F_464_25B (I3 nd, g1) = some (.inr (0, g2)) := by
        rw [R1]
        cases hq : F_421 g1 with
        | none => rw [hq] at q1; cases q1
        | some q =>
          rw [hq] at q1
          simp only [Option.bind_some] at q1 ⊢
          by_cases z : q.1 = 0 ∨ q.1 = 1
          · rw [if_pos z] at q1 ⊢
            injection q1 with q1
            rw [q1]
          · rw [if_neg z] at q1; cases q1
      exact ⟨4, f, h2, g2, lp_e (by omega) C0, by rw [R0]; exact lp_e (by omega) R2, f3, PQ_XT (XT_trans (X1 0 0) f4)⟩
    rw [if_pos (by rw [w1]; rfl)] at C0
    rw [if_pos (by rw [w1]; rfl)] at R1
    unfold F_178_55 F_178_76 at C0
    unfold F_464_60 at R1
    rw [if_pos c3.nf.1] at C0
    rcases openS d1 p1 fn c2 lr w1 with ⟨h2, g2, -, a1, a2, a3, a4, a5, a6, a7, a8, a9, a10⟩ | ⟨e', h2, g2, a1, a2, a3, a4⟩
    rotate_left
    · right
      rw [a1] at C0; simp only [obs] at C0; rw [if_pos trivial] at C0
      rw [a2] at R1; simp only [obs] at R1; rw [if_pos trivial] at R1
      exact ⟨e', _, h2, g2, lp_e (by omega) C0, by rw [R0]; exact lp_e (by omega) R1, a3, PQ_XT (XT_trans (X1 0 0) (XT_mono (Nat.zero_le _) (Nat.zero_le _) a4))⟩
    rw [a1] at C0; simp only [obs] at C0; rw [if_neg (by decide)] at C0
    rw [a2] at R1; simp only [obs] at R1; rw [if_neg (by decide)] at R1
    have C1 : F_179 h2 = F_179_0 h2 := rfl
    unfold F_179_0 F_179_36 F_179_63 at C1
    have fn1 := RB_n a6
    have w6' := wrd_6 n bt (nx n bt f)
    obtain ⟨h3, k1, k2, k3, k4⟩ := step_C a3 a5
    obtain ⟨g3, l1, l2, l3, l4, l5⟩ := look_R k3 a6
    have CC := C_172 (x := 4) (by decide) k1 k2 k3.nf.1
    have X02 : XT 0 0 h g h2 g2 := XT_trans (X1 0 0) (XT_mono (Nat.zero_le _) (Nat.zero_le _) a8)
    have X03 : XT 0 0 h g h3 g3 := XT_trans X02 (XT_y a3.K (S52_Scl k4) (SLx_Srl l2))
    have FIN : ∀ {h4 g4 : sm_H} {e' pc : Nat}, F_179 h2 = some (0, h4) → F_464_25B (I3 nd, g1) = some (.inr (0, g4)) → FT e' pc h4 g4 → PQ nd h g h4 g4 → ∃ e pc h1 g1, lp F_178_16B fc (I3 np, h) = some (0, h1) ∧ E464 nd fu g = some (0, g1) ∧ FT e pc h1 g1 ∧ PQ nd h g h1 g1 := fun x1 x2 x3 x4 => by
      rw [x1] at C0; simp only [obs] at C0; rw [if_pos trivial] at C0
      exact ⟨_, _, _, _, lp_e (by omega) C0, by rw [R0]; exact lp_e (by omega) x2, x3, x4⟩
    by_cases w4 : wrd n bt (nx n bt f) = 4
    rotate_left
    · right
      obtain ⟨h4, m1, m2⟩ := CC.2 w4
      obtain ⟨h5, g5, f1, f2, f3, f4⟩ := XT_fail l1 (T' := 0) (k' := 0) (f := nx n bt f) (er_9 n bt (nx n bt f)).1 (er_9 n bt (nx n bt f)).2
      rw [m2] at f1
      injection f1 with f1
      have q1 : h4 = h5 := congrArg Prod.snd f1
      subst q1
      rw [show F_172 4 h2 = some (0, h4) from m1] at C1; simp only [obs] at C1; rw [if_pos trivial] at C1
      refine FIN C1 ?_ f3 (PQ_XT (XT_trans X03 f4))
      rw [R1]
      unfold er at f2
      by_cases v : wrd n bt (nx n bt f) = 6
      · rw [if_pos v] at f2 l5
        rw [l5, f2]; rfl
      · rw [if_neg v] at f2 l5
        rw [l5.1]; simp only [obs]
        rw [if_neg (by decide), if_neg (show ¬ g3.1 67 80 = 1 by
          rw [l5.2.2.2.1, show (1 : Int32) = I3 (rwd 4) from rfl, I3_inj (by have := rwd_5 (x := wrd n bt (nx n bt f)) (by omega); omega) (by decide)]
          exact fun y => w4 (rwd_inj (by omega) (by omega) y))]
        have q1 := f421 g3 l4
        rw [show F_413 4 (I3 (nx n bt f)) g3 = some (0, g5) from f2] at q1
        cases hq : F_421 g3 with
        | none => rw [hq] at q1; cases q1
        | some q =>
          rw [hq] at q1
          simp only [Option.bind_some] at q1 ⊢
          by_cases z : q.1 = 0 ∨ q.1 = 1
          · rw [if_pos z] at q1 ⊢
            injection q1 with q1
            rw [q1]
          · rw [if_neg z] at q1; cases q1
    rw [if_neg (by omega)] at l5
    obtain ⟨l5, lr3⟩ := l5
    rw [show F_172 4 h2 = some (1, h3) from CC.1 w4] at C1; simp only [obs] at C1
    rw [if_neg (by decide), show F_248 h3 = some (h3.2.1 52 10, h3) from rfl, k2.2.2.2.2.2.1 w4] at C1; simp only [obs] at C1
    have P3 : PS nd np ps ks h3 g3 := PS_y P (agr_trans (agr_trans (S52_Scl c4) (agr_mono (fun b j z => Or.inr z) a9)) (S52_Scl k4)) (agr_trans (agr_trans (SLx_Srl d2) (agr_mono (fun b j z => by
      rcases z with ⟨z1, z2 | z2⟩
      · exact Or.inr ⟨z1, Or.inl z2⟩
      · exact Or.inl ⟨z1, by omega, by omega⟩) a10)) (SLx_Srl l2)) Scl_p Srl_p
    have ex := lr3.2.2.2.2.2.1 w4
    generalize hx : foldN bt (nx n bt f) (men n bt (nx n bt f) - nx n bt f) = x at C1 ex
    rw [l5] at R1; simp only [obs] at R1
    rw [if_neg (by decide), if_pos (show g3.1 67 80 = 1 from lr3.2.2.1.trans (by rw [w4]; rfl)), ldI_I nd60 (by decide), P3.2.2.1] at R1; simp only [obs] at R1
    have R2 : F_464_25B (I3 nd, g1) = F_464_94 (I3 nd) (b2 (decide (np = 6))) 0 g3 := by
      rw [R1]
      unfold F_464_91
      by_cases z : np = 6
      · rw [if_pos (by rw [z]; rfl), decide_eq_true z]; rfl
      · rw [if_neg (by rw [I3_lit, I3_inj (by omega) (by decide)]; exact z), decide_eq_false z]; rfl
    have R3 : ∀ r, (if np = 6 ∨ dw ps np x < np then endB g3 else endS nd g3) = some r → F_464_25B (I3 nd, g1) = some r := fun r hr => by
      rw [R2]
      refine R_94 (ps := ps) nd60 n6 P3.2.2.1 (fun q hq => (P3.2.2.2 q hq).2.2.1) ex _ ?_
      by_cases z : np = 6 ∨ dw ps np x < np
      · rw [if_pos z] at hr
        rw [if_pos (by
          rcases z with z | z
          · exact Or.inl (decide_eq_true z)
          · exact Or.inr z)]
        exact hr
      · rw [if_neg z] at hr
        rw [if_neg (by
          rintro (y | y)
          · exact z (Or.inl (of_decide_eq_true y))
          · exact z (Or.inr y))]
        exact hr
    rw [P3.2.1] at C1
    by_cases bad : np = 6 ∨ dw ps np x < np
    · right
      obtain ⟨h4, g4, f1, f2, f3, f4⟩ := XT_fail l1 (T' := 0) (k' := 0) (e := 6) (f := nx n bt f) (by decide) (by decide)
      rw [if_pos bad] at R3
      refine FIN (h4 := h4) (g4 := g4) ?_ (R3 _ ?_) f3 (PQ_XT (XT_trans X03 f4))
      · rw [C1]
        by_cases z : np = 6
        · rw [if_pos (by rw [z]; decide), C_170 k2, show F_169 6 (I3 (nx n bt f)) h3 = some (-1, h4) from f1]; rfl
        · have dz : dw ps np x < np := by
            rcases bad with y | y
            · exact absurd y z
            · exact y
          rw [if_neg (by rw [I3_lit, I3_le (by decide) (by omega)]; omega), C_181s P3.2.1 (by omega) (fun q hq => (P3.2.2.2 q hq).1), if_pos dz]; simp only [obs]
          rw [if_neg (I3_m1 (by omega)), C_170 k2, show F_169 6 (I3 (nx n bt f)) h3 = some (-1, h4) from f1]; rfl
      · unfold endB
        rw [lr3.2.1, show F_413 6 (I3 (nx n bt f)) g3 = some (0, g4) from f2]; rfl
    rw [if_neg bad] at R3
    have n5 : np < 6 := by omega
    have dz : ¬ dw ps np x < np := fun z => bad (Or.inr z)
    rw [if_neg (by rw [I3_lit, I3_le (by decide) (by omega)]; omega), C_181s P3.2.1 (by omega) (fun q hq => (P3.2.2.2 q hq).1), if_neg dz] at C1; simp only [obs] at C1
    rw [if_pos trivial] at C1
    unfold endS at R3
    rw [ldI_I nd60 (by decide), P3.2.2.1] at R3; simp only [obs] at R3
    rw [show (390 : Int32) + I3 np = I3 (390 + np) by rw [I3_lit, I3_add], stJ_I (by omega) (by decide), ex] at R3; simp only [obs] at R3
    have a34 : agr (fun b j => b = 117 ∧ j = 390 + np) g3 (sm_wJ g3 117 (390 + np) x) := agr_wJ agr_rfl ⟨rfl, rfl⟩
    have X34 : XT 0 0 h3 g3 h3 (sm_wJ g3 117 (390 + np) x) := XT_TW (TW_sc l1.K agr_rfl (agr_mono (fun b j z => Or.inr (Or.inl z.1)) a34)) (fun z => z)
    have s4 : TU n bt k h3 (sm_wJ g3 117 (390 + np) x) := ⟨X34.k1, l1.nf, trivial, l1.t, l1.b, l1.xc, l1.xr⟩
    have lr4 : LXR n bt (nx n bt f) (sm_wJ g3 117 (390 + np) x) := lr3
    have v117 : ∀ q, (sm_wJ g3 117 (390 + np) x).2.1 117 q = if q = 390 + np then x else g3.2.1 117 q := fun q => rfl
    have P4 : PS nd np ps ks h3 (sm_wJ g3 117 (390 + np) x) := PS_y (P := fun _ _ => False) P3 agr_rfl a34 (fun b j z => z.elim) (fun b j z => by omega)
    generalize hg4 : sm_wJ g3 117 (390 + np) x = g4 at *
    obtain ⟨g5, t1, t2, t3, t4⟩ := take_R s4 fn1 lr4
    rw [t1] at R3; simp only [obs] at R3
    have a45 : agr Srl g4 g5 := agr_mono (fun b j z => Or.inl ⟨z.1, by omega, by omega⟩) t4
    have X05 : XT 0 0 h g h3 g5 := XT_trans X03 (XT_trans X34 (XT_y s4.K agr_rfl a45))
    have c5 : CB n bt (nx n bt (nx n bt f)) h3 := CB_nx fn1 k2 (by omega)
    rcases kindB false t3 c5 t2 with ⟨i, h6, g6, y1, y2, y3, y4, y5, y6, y7, y8, y9, y10, y11, y12⟩ | ⟨e', h6, g6, y1, y2, y3, y4⟩
    rotate_left
    · right
      rw [show F_176 0 h3 = some (-1, h6) from y1] at C1; simp only [obs] at C1; rw [if_pos trivial] at C1
      rw [show F_424 0 g5 = some (0, g6) from y2] at R3; simp only [obs] at R3; rw [if_pos trivial] at R3
      exact FIN C1 (R3 _ rfl) y3 (PQ_XT (XT_trans X05 (XT_mono (Nat.zero_le _) (Nat.zero_le _) y4)))
    have i20 := y6.K.1.2.1
    have nc6 : nC g6 = nC g5 := nC_XR y10.a
    rw [show F_176 0 h3 = some (I3 i, h6) from y1] at C1; simp only [obs] at C1; rw [if_neg (I3_m1 (by omega))] at C1
    rw [show F_424 0 g5 = some (1, g6) from y2] at R3; simp only [obs] at R3; rw [if_neg (by decide)] at R3
    have p6 : OP 3 h6 g6 := ⟨(y11.1 55 16 (by unfold S52; omega)).trans ((k4.1 55 16 (by unfold S52; omega)).trans a4.1), (y12.1 67 86 (by unfold SLx; omega)).trans ((t4.1 67 86 (by omega)).trans ((a34.1 67 86 (by omega)).trans ((l2.1 67 86 (by unfold SLx; omega)).trans a4.2.1))), by decide⟩
    rcases closeE y6 p6 y7 y8 with ⟨h7, g7, q1, q2, q3, q4, q5, q6, q7, q8, q9⟩ | ⟨e', h7, g7, q1, q2, q3, q4⟩
    rotate_left
    · right
      rw [q1] at C1; simp only [obs] at C1; rw [if_pos trivial] at C1
      rw [q2] at R3; simp only [obs] at R3; rw [if_pos trivial] at R3
      exact FIN C1 (R3 _ rfl) q3 (PQ_XT (XT_trans X05 (XT_trans (XT_mono (Nat.zero_le _) (Nat.zero_le _) y10) (XT_mono (Nat.zero_le _) (Nat.zero_le _) q4))))
    have af := close_f y6.xr y6.nf.2.1 y8 p6.2.1 q2
    rw [q1] at C1; simp only [obs] at C1; rw [if_neg (by decide)] at C1
    rw [q2] at R3; simp only [obs] at R3; rw [if_neg (by decide)] at R3
    have X07 : XT 0 0 h g h7 g7 := XT_trans X05 (XT_trans (XT_mono (Nat.zero_le _) (Nat.zero_le _) y10) (XT_y y6.K q8 q9))
    have a47c : agr Scl h3 h7 := agr_trans (S52_Scl y11) q8
    have a47r : agr Srl g4 g7 := agr_trans (agr_trans a45 (agr_mono (fun b j z => by
      rcases z with z | z
      · exact Or.inl z
      · exact Or.inr ⟨z.1, by omega⟩) y12)) q9
    have P7 : PS nd np ps ks h7 g7 := PS_y P4 a47c a47r Scl_p Srl_p
    have v7 : g7.2.1 117 (390 + np) = x := (a47r.2.1 117 _ (by unfold Srl SLx; omega)).trans (by rw [v117, if_pos rfl])
    rw [P7.2.1, stJ_I (by omega) (by decide)] at C1; simp only [obs] at C1
    rw [show (sm_wJ h7 58 np x).1 55 9 = I3 np from P7.2.1, stI_I (by omega) (by decide)] at C1; simp only [obs] at C1
    rw [show (sm_wI (sm_wJ h7 58 np x) 59 np (I3 i)).1 55 9 = I3 np from P7.2.1, show I3 np + 1 = I3 (np + 1) from I3_add np 1] at C1
    rw [C1] at C0; simp only [obs] at C0; rw [if_neg (by decide), show I3 np + 1 = I3 (np + 1) from I3_add np 1] at C0
    rw [ldI_I nd60 (by decide), P7.2.2.1] at R3; simp only [obs] at R3
    rw [show (6 : Int32) * I3 nd + I3 np = I3 (6 * nd + np) by rw [I3_lit, I3_mul, I3_add], stI_I (by omega) (by decide), show g7.1 67 105 = I3 i from (af.1 67 105 (by unfold SLx; omega)).trans y3] at R3; simp only [obs] at R3
    rw [ldI_I nd60 (by decide), show (sm_wI g7 116 (6 * nd + np) (I3 i)).1 115 nd = I3 np from P7.2.2.1] at R3; simp only [obs] at R3
    rw [stI_I nd60 (by decide), show I3 np + 1 = I3 (np + 1) from I3_add np 1] at R3; simp only [obs] at R3
    have KA := K1_116 (h := h7) q3.K (6 * nd + np) (I3 i)
    have KB := K1_115 KA.1 nd (I3 (np + 1))
    have a8c : agr Ssp h7 (sm_wI (sm_wI (sm_wJ h7 58 np x) 59 np (I3 i)) 55 9 (I3 (np + 1))) := agr_wI (agr_wI (agr_wJ agr_rfl (Or.inr (Or.inl rfl))) (Or.inr (Or.inr rfl))) (Or.inl ⟨rfl, rfl⟩)
    have a8r : agr (fun b j => b = 115 ∧ j = nd ∨ b = 116 ∧ j = 6 * nd + np) g7 (sm_wI (sm_wI g7 116 (6 * nd + np) (I3 i)) 115 nd (I3 (np + 1))) := agr_wI (agr_wI agr_rfl (Or.inr ⟨rfl, rfl⟩)) (Or.inl ⟨rfl, rfl⟩)
    have K8 : K1 (sm_wI (sm_wI (sm_wJ h7 58 np x) 59 np (I3 i)) 55 9 (I3 (np + 1))) (sm_wI (sm_wI g7 116 (6 * nd + np) (I3 i)) 115 nd (I3 (np + 1))) := K1_h KB.1 (agr_mono Ssp_not a8c)
    have PQ8 : PQ nd h7 g7 (sm_wI (sm_wI (sm_wJ h7 58 np x) 59 np (I3 i)) 55 9 (I3 (np + 1))) (sm_wI (sm_wI g7 116 (6 * nd + np) (I3 i)) 115 nd (I3 (np + 1))) := ⟨K8, ext_trans KA.2.1 KB.2.1, grow_trans KA.2.2 KB.2.2, agr_mono (fun b j z => Or.inr (Or.inl z)) a8c, agr_mono (fun b j z => Or.inr (by omega)) a8r⟩
    have P8 : PS nd (np + 1) (fun q => if q = np then x else ps q) (fun q => if q = np then I3 i else ks q) (sm_wI (sm_wI (sm_wJ h7 58 np x) 59 np (I3 i)) 55 9 (I3 (np + 1))) (sm_wI (sm_wI g7 116 (6 * nd + np) (I3 i)) 115 nd (I3 (np + 1))) := by
      refine ⟨by omega, rfl, if_pos rfl, fun q hq => ?_⟩
      have nc : nC (sm_wI (sm_wI g7 116 (6 * nd + np) (I3 i)) 115 nd (I3 (np + 1))) = nC g7 := rfl
      have nc7 : nC g7 = nC g6 := by show tn _ = tn _; rw [q9.1 67 6 (by unfold Srl SLx; omega)]
      by_cases z : q = np
      · subst z
        exact ⟨(if_pos rfl).trans (if_pos rfl).symm, (if_pos rfl).trans (if_pos rfl).symm, v7.trans (if_pos rfl).symm, (if_pos rfl).trans (if_pos rfl).symm, i, if_pos rfl, y5 rfl, by omega⟩
      · obtain ⟨z1, z2, z3, z4, z5⟩ := P7.2.2.2 q (by omega)
        refine ⟨?_, ?_, ?_, ?_, ?_⟩
        · show (if q = np then x else h7.2.1 58 q) = _
          rw [if_neg z]
          show h7.2.1 58 q = if q = np then x else ps q
          rw [if_neg z]; exact z1
        · show (if q = np then I3 i else h7.1 59 q) = _
          rw [if_neg z]
          show h7.1 59 q = if q = np then I3 i else ks q
          rw [if_neg z]; exact z2
        · show g7.2.1 117 (390 + q) = if q = np then x else ps q
          rw [if_neg z]; exact z3
        · show (if 6 * nd + q = 6 * nd + np then I3 i else g7.1 116 (6 * nd + q)) = if q = np then I3 i else ks q
          rw [if_neg (by omega), if_neg z]; exact z4
        · show ∃ i', (if q = np then I3 i else ks q) = I3 i' ∧ _
          rw [if_neg z]; exact z5
    have s8 : TU n bt k (sm_wI (sm_wI (sm_wJ h7 58 np x) 59 np (I3 i)) 55 9 (I3 (np + 1))) (sm_wI (sm_wI g7 116 (6 * nd + np) (I3 i)) 115 nd (I3 (np + 1))) := ⟨K8, q3.nf, trivial, q3.t, q3.b, q3.xc, q3.xr⟩
    have p8 : OP 2 (sm_wI (sm_wI (sm_wJ h7 58 np x) 59 np (I3 i)) 55 9 (I3 (np + 1))) (sm_wI (sm_wI g7 116 (6 * nd + np) (I3 i)) 115 nd (I3 (np + 1))) := q4
    have c8 : CB n bt (nx n bt (nx n bt (nx n bt (nx n bt f)))) (sm_wI (sm_wI (sm_wJ h7 58 np x) 59 np (I3 i)) 55 9 (I3 (np + 1))) := q5
    have r8 : RB n bt (nx n bt (nx n bt (nx n bt (nx n bt f)))) (sm_wI (sm_wI g7 116 (6 * nd + np) (I3 i)) 115 nd (I3 (np + 1))) := q6
    generalize sm_wI (sm_wI (sm_wJ h7 58 np x) 59 np (I3 i)) 55 9 (I3 (np + 1)) = h8 at *
    generalize sm_wI (sm_wI g7 116 (6 * nd + np) (I3 i)) 115 nd (I3 (np + 1)) = g8 at *
    have PQ0 : PQ nd h g h8 g8 := PQ_trans (PQ_XT X07) PQ8
    have ff1 := nx_gt (n := n) (bt := bt) fn1 (by omega) (by omega)
    have L : lp F_178_16B fc (I3 np, h) = lp F_178_16B (fc - 1) (I3 (np + 1), h8) := lp_s (by omega) C0
    have EE : E464 nd fu g = E464 nd (fu - 1) g8 := by
      rw [R0]
      unfold E464
      obtain ⟨g9, e1, e2, e3, e4, e5⟩ := look_R s8 r8
      by_cases v : wrd n bt (nx n bt (nx n bt (nx n bt (nx n bt f)))) = 6
      · rw [if_pos v] at e5
        obtain ⟨g10, u1, -⟩ := fail_R (g := g9) (f := nx n bt (nx n bt (nx n bt (nx n bt f)))) e1.nf.2.1 (I3 (wtr n bt (nx n bt (nx n bt (nx n bt (nx n bt f)))))) rfl
        rw [e5, u1] at R3 ⊢
        simp only [obs] at R3 ⊢
        rw [if_pos trivial] at R3
        exact lp_e (by omega) (R3 _ rfl)
      · rw [if_neg v] at e5
        rw [e5.1] at R3 ⊢
        simp only [obs] at R3 ⊢
        rw [if_neg (by decide)] at R3 ⊢
        exact lp_s (by omega) (R3 _ rfl)
    rw [L, EE]
    rcases ih (np + 1) (by omega) (fc - 1) (fu - 1) _ _ _ h8 g8 (by omega) (by omega) s8 p8 c8 r8 P8 with ⟨h9, g9, f', np', ps', ks', z1, z2, z3, z4, z5, z6, z7, z8, z9⟩ | ⟨e', pc, h9, g9, z1, z2, z3, z4⟩
    · exact Or.inl ⟨h9, g9, f', np', ps', ks', z1, z2, by omega, z4, z5, z6, z7, z8, PQ_trans PQ0 z9⟩
    · exact Or.inr ⟨e', pc, h9, g9, z1, z2, z3, PQ_trans PQ0 z4⟩
end
section
variable {n : Nat} {bt : Nat → Nat} {nd o T j k m p f f0 np r0 : Nat} {ps : Nat → Int64} {ks : Nat → Int32} {h g h1 g1 h2 g2 : sm_H}
theorem parX (nd60 : nd < 60) (s : TU n bt k h g) (o : OP 1 h g) (c : CB n bt f h) (rb : RB n bt f g) :
    (∃ h1 g1 f' np ps ks, F_178 h = some (1, h1) ∧ F_464 (I3 nd) g = some (1, g1) ∧ f < f' ∧ TU n bt k h1 g1 ∧ OP 1 h1 g1 ∧ CB n bt f' h1 ∧ RB n bt f' g1 ∧ PS nd np ps ks h1 g1 ∧ PQ nd h g h1 g1) ∨ ∃ e pc h1 g1, F_178 h = some (0, h1) ∧ F_464 (I3 nd) g = some (0, g1) ∧ FT e pc h1 g1 ∧ PQ nd h g h1 g1 := by
  have a0 : agr Ssp h (sm_wI h 55 9 0) := agr_wI agr_rfl (Or.inl ⟨rfl, rfl⟩)
  have X0 : XT 0 0 h g (sm_wI h 55 9 0) g := XT_TW (TW_sc s.K a0 agr_rfl) (fun _ => ⟨0, by omega, rfl⟩)
  have s0 : TU n bt k (sm_wI h 55 9 0) g := ⟨X0.k1, s.nf, trivial, s.t, s.b, s.xc, s.xr⟩
  have e9 : (sm_wI h 55 9 0).1 55 9 = I3 0 := rfl
  have o0 : OP 1 (sm_wI h 55 9 0) g := o
  have c0 : CB n bt f (sm_wI h 55 9 0) := c
  have C0 : F_178 h = F_178_0 h := rfl
  unfold F_178_0 F_178_16 at C0
  simp only [Option.bind_some] at C0
  generalize sm_wI h 55 9 0 = h0 at *
  have R0 : F_464 (I3 nd) g = F_464_0 (I3 nd) g := rfl
  unfold F_464_0 F_464_25 at R0
  rcases openB s0 o0 c0 rb with ⟨h1, g1, -, a1, a2, a3, a4, a5, a6, a7, a8, a9, a10⟩ | ⟨e', h1, g1, a1, a2, a3, a4⟩
  rotate_left
  · right
    rw [a1] at C0; simp only [obs] at C0; rw [if_pos trivial] at C0
    rw [a2] at R0; simp only [obs] at R0; rw [if_pos trivial] at R0
    exact ⟨e', _, h1, g1, C0, R0, a3, PQ_XT (XT_trans X0 (XT_mono (Nat.zero_le _) (Nat.zero_le _) a4))⟩
  rw [a1] at C0; simp only [obs] at C0; rw [if_neg (by decide)] at C0
  rw [a2] at R0; simp only [obs] at R0; rw [if_neg (by decide), stI_I nd60 (by decide)] at R0; simp only [obs] at R0
  have KA := K1_115 (h := h1) a3.K nd 0
  have s2 : TU n bt k h1 (sm_wI g1 115 nd 0) := ⟨KA.1, a3.nf, trivial, a3.t, a3.b, a3.xc, a3.xr⟩
  have Q2 : PQ nd h1 g1 h1 (sm_wI g1 115 nd 0) := ⟨KA.1, KA.2.1, KA.2.2, agr_rfl, agr_wI agr_rfl (Or.inr (Or.inl ⟨rfl, rfl⟩))⟩
  have Q0 : PQ nd h g h1 (sm_wI g1 115 nd 0) := PQ_trans (PQ_XT (XT_trans X0 (XT_mono (Nat.zero_le _) (Nat.zero_le _) a8))) Q2
  have P2 : PS nd 0 (fun _ => 0) (fun _ => 0) h1 (sm_wI g1 115 nd 0) := ⟨by omega, (a9.1 55 9 (by unfold S52; omega)).trans e9, if_pos rfl, fun q hq => by omega⟩
  rcases parN nd60 6 0 (by omega) 1000000 1000000 (nx n bt f) _ _ h1 (sm_wI g1 115 nd 0) (by omega) (by omega) s2 a4 a5 a6 P2 with ⟨h9, g9, f', np', ps', ks', z1, z2, z3, z4, z5, z6, z7, z8, z9⟩ | ⟨e', pc, h9, g9, z1, z2, z3, z4⟩
  · exact Or.inl ⟨h9, g9, f', np', ps', ks', C0.trans z1, R0.trans z2, by omega, z4, z5, z6, z7, z8, PQ_trans Q0 z9⟩
  · exact Or.inr ⟨e', pc, h9, g9, C0.trans z1, R0.trans z2, z3, PQ_trans Q0 z4⟩
def Y465 (f : Nat) (x : Int64) (r0 nd : Int32) (u : sm_H) : Option (Int32 × sm_H) := (some (sm_wI u 67 106 (I3 f))).bind fun h16 =>
  (F_428 r0 h16).bind fun q17 =>
  if q17.1 = (-1) then (F_465_296 (I3 f) x r0 nd (-1) q17.2)
  else ((F_430 34 0 q17.1 0 q17.2).bind fun q18 =>
  F_465_296 (I3 f) x r0 nd q18.1 q18.2)
theorem Y465_b {c : Int32} (hc : c < 0) (x : Int64) (r0' nd' : Int32) (u : sm_H) : F_465_228B (I3 f, x, r0', nd', c, u) = (Y465 f x r0' nd' u).map .inr := by
  unfold F_465_228B Y465
  show (if c < 0 then _ else _) = _
  rw [if_pos hc, bind_mapX]
  refine congrArg _ (funext fun h16 => ?_)
  rw [bind_mapX]
  refine congrArg _ (funext fun q17 => ?_)
  rw [ite_mapX, bind_mapX]
theorem R_174 (nd60 : nd < 60) (P : PS nd np ps ks h g) (x : Int64) (r0' : Int32) : ∃ g1, SCR ps (lst ks np) g1 ∧ agr (fun b j => b = 130 ∨ Ssr b j) g g1 ∧ ∀ r, Y465 f x r0' (I3 nd) g1 = some r → F_465_174 (I3 f) x r0' (I3 nd) 0 g = some r := by
  obtain ⟨n6, -, e115, pp⟩ := P
  have LB : ∀ c u fu, c ≤ np → c < fu → agr (fun b j => b = 130 ∨ Ssr b j) g u → (∀ q, q < np → u.2.1 130 q = ps q) → SCR (fun i => ps (c + i)) (lst (fun i => ks (c + i)) (np - c)) u → ∃ g1, SCR ps (lst ks np) g1 ∧ agr (fun b j => b = 130 ∨ Ssr b j) g g1 ∧ ∀ r, Y465 f x r0' (I3 nd) g1 = some r → lp F_465_228B fu (I3 f, x, r0', I3 nd, I3 c - 1, u) = some r := by
    intro c
    induction c with
    | zero =>
      intro u fu hc hf au v130 Su
      refine ⟨u, ?_, au, fun r hr => lp_e (by omega) ?_⟩
      · have e1 : (fun i => ps (0 + i)) = ps := by funext i; rw [Nat.zero_add]
        have e2 : lst (fun i => ks (0 + i)) (np - 0) = lst ks np := by
          rw [Nat.sub_zero]; exact lst_congr (fun i _ => by rw [Nat.zero_add])
        rw [e1, e2] at Su; exact Su
      · rw [Y465_b (by decide), hr]; rfl
    | succ c ih =>
      intro u fu hc hf au v130 Su
      have ll : (lst (fun i => ks (c + 1 + i)) (np - (c + 1))).length < 400 := by rw [lst_len]; omega
      obtain ⟨u1, d1, d2, d3⟩ := R_bind Su ll (ps c) (ks c)
      have v116 : u.1 116 (6 * nd + c) = ks c := (au.1 116 _ (by unfold Ssr; omega)).trans (pp c (by omega)).2.2.2.1
      have B : F_465_228B (I3 f, x, r0', I3 nd, I3 (c + 1) - 1, u) = some (.inl (I3 f, x, r0', I3 nd, I3 c - 1, u1)) := by
        rw [I3_s1]
        unfold F_465_228B
        show (if I3 c < 0 then _ else _) = _
        rw [if_neg (I3_nn (by omega))]
        simp only []
        rw [ldJ_I (by omega) (by decide), v130 c (by omega)]; simp only [obs]
        rw [show (6 : Int32) * I3 nd + I3 c = I3 (6 * nd + c) by rw [I3_lit, I3_mul, I3_add], ldI_I (by omega) (by decide), v116]; simp only [obs]
        rw [d1]; simp only [obs]
        rw [show I3 c + (-1) = I3 c - 1 from (Int32.sub_eq_add_neg _ _).symm]
      have en : nm1 (ps c) (fun i => ps (c + 1 + i)) = fun i => ps (c + i) := by
        funext i
        unfold nm1
        by_cases q : i = 0
        · subst q; rw [if_pos rfl, Nat.add_zero]
        · rw [if_neg q]
          show ps (c + 1 + (i - 1)) = _
          rw [show c + 1 + (i - 1) = c + i by omega]
      have ek : ks c :: lst (fun i => ks (c + 1 + i)) (np - (c + 1)) = lst (fun i => ks (c + i)) (np - c) := by
        rw [show np - c = (np - (c + 1)) + 1 by omega, lst_cons, Nat.add_zero]
        rw [lst_congr (f := fun i => ks (c + (i + 1))) (f1 := fun i => ks (c + 1 + i)) (fun i _ => by rw [show c + (i + 1) = c + 1 + i by omega])]
        rfl
      rw [en, ek] at d2
      obtain ⟨g1, z1, z2, z3⟩ := ih u1 (fu - 1) (by omega) (by omega) (agr_trans au (agr_mono (fun b j z => Or.inr z) d3)) (fun q hq => (d3.2.1 130 q (by unfold Ssr; omega)).trans (v130 q hq)) d2
      exact ⟨g1, z1, z2, fun r hr => by rw [lp_s (by omega) B]; exact z3 r hr⟩
  have LA : ∀ c q u fu, q + c = np → c < fu → agr (fun b j => b = 130 ∨ Ssr b j) g u → (∀ i, i < q → u.2.1 130 i = ps i) → (∀ i, i < np → u.2.1 117 (390 + i) = ps i) → ∃ g1, SCR ps (lst ks np) g1 ∧ agr (fun b j => b = 130 ∨ Ssr b j) g g1 ∧ ∀ r, Y465 f x r0' (I3 nd) g1 = some r → lp F_465_174B fu (I3 f, x, r0', I3 nd, I3 q, u) = some r := by
    intro c
    induction c with
    | zero =>
      intro q u fu hq hf au v130 v117
      have e : q = np := by omega
      subst e
      have au' : agr (fun b j => b = 130 ∨ Ssr b j) g (sm_wI u 67 94 400) := agr_wI au (Or.inr (Or.inl ⟨rfl, rfl⟩))
      have e115' : u.1 115 nd = I3 q := (au.1 115 nd (by unfold Ssr; omega)).trans e115
      have S0 : SCR (fun i => ps (q + i)) (lst (fun i => ks (q + i)) (q - q)) (sm_wI u 67 94 400) := by
        rw [Nat.sub_self]
        exact ⟨rfl, fun i hi => by cases hi⟩
      obtain ⟨g1, z1, z2, z3⟩ := LB q (sm_wI u 67 94 400) 1000000 (Nat.le_refl _) (by omega) au' v130 S0
      refine ⟨g1, z1, z2, fun r hr => lp_e (by omega) ?_⟩
      unfold F_465_174B
      simp only []
      rw [ldI_I nd60 (by decide), e115']; simp only [obs]
      rw [if_pos (by rw [I3_le (by omega) (by omega)]; omega), ldI_I nd60 (by decide), show (sm_wI u 67 94 400).1 115 nd = I3 q from e115']; simp only [obs]
      rw [show F_465_228 (I3 f) x r0' (I3 nd) (I3 q - 1) (sm_wI u 67 94 400) = some r from z3 r hr]; rfl
    | succ c ih =>
      intro q u fu hq hf au v130 v117
      have e115' : u.1 115 nd = I3 np := (au.1 115 nd (by unfold Ssr; omega)).trans e115
      have B : F_465_174B (I3 f, x, r0', I3 nd, I3 q, u) = some (.inl (I3 f, x, r0', I3 nd, I3 (q + 1), sm_wJ u 130 q (ps q))) := by
        unfold F_465_174B
        simp only []
        rw [ldI_I nd60 (by decide), e115']; simp only [obs]
        rw [if_neg (by rw [I3_le (by omega) (by omega)]; omega), show (390 : Int32) + I3 q = I3 (390 + q) by rw [I3_lit, I3_add], ldJ_I (by omega) (by decide), v117 q (by omega)]; simp only [obs]
        rw [stJ_I (by omega) (by decide)]; simp only [obs]
        rw [show I3 q + 1 = I3 (q + 1) from I3_add q 1]
      obtain ⟨g1, z1, z2, z3⟩ := ih (q + 1) (sm_wJ u 130 q (ps q)) (fu - 1) (by omega) (by omega) (agr_wJ au (Or.inl rfl)) (fun i hi => by
        show (if i = q then ps q else u.2.1 130 i) = ps i
        by_cases z : i = q
        · rw [if_pos z, z]
        · rw [if_neg z]; exact v130 i (by omega)) v117
      exact ⟨g1, z1, z2, fun r hr => by rw [lp_s (by omega) B]; exact z3 r hr⟩
  exact LA np 0 g 1000000 (by omega) (by omega) agr_rfl (fun i hi => by omega) (fun i hi => (pp i hi).2.2.1)
theorem C_155 (K : K1 h g) (x : Int32) : F_155 x h = if nG g < 80 then some (I3 (nG g), sm_wI (sm_wI h 32 (nG g) x) 21 8 (I3 (nG g + 1))) else some (-1, h) := by
  obtain ⟨r1, ⟨r2, r3⟩, -⟩ := K.2.2.2.2.2.2.2.2.1
  have e : h.1 21 8 = I3 (nG g) := r1.trans r2
  have n8 : nG g ≤ 80 := r3
  show F_155_0 x h = _
  unfold F_155_0
  rw [e]
  by_cases q : nG g < 80
  · rw [if_pos q, if_pos (by rw [I3_lit, I3_lt (by omega) (by decide)]; exact q), stI_I q (by decide)]; simp only [obs]
    rw [show (sm_wI h 32 (nG g) x).1 21 8 = I3 (nG g) from e, show I3 (nG g) + 1 = I3 (nG g + 1) from I3_add _ 1, show (sm_wI (sm_wI h 32 (nG g) x) 21 8 (I3 (nG g + 1))).1 21 8 = I3 (nG g + 1) from rfl, I3_s1]
  · rw [if_neg q, if_neg (by rw [I3_lit, I3_lt (by omega) (by decide)]; exact q)]
theorem R_398 (K : K1 h g) {y : Nat} (hy : y < nH g) : F_398 (I3 y) g = if nG g < 80 then some (I3 (nG g), sm_wI (sm_wI g 92 (nG g) (I3 y)) 67 35 (I3 (nG g + 1))) else some (-1, g) := by
  obtain ⟨r1, ⟨r2, r3⟩, -⟩ := K.2.2.2.2.2.2.2.2.1
  have e : g.1 67 35 = I3 (nG g) := r2
  have n8 : nG g ≤ 80 := r3
  have w5 := lt500 K hy
  show F_398_0 (I3 y) g = _
  unfold F_398_0 F_398_17
  rw [e]
  by_cases q : nG g < 80
  · rw [if_pos q, if_neg (by rw [I3_lit, I3_inj (by omega) (by decide)]; omega), R_isHg K.2.2.2.2.1, inR_I (by have := w500 K; omega), decide_eq_true hy]; simp only [obs]
    rw [if_neg (by decide), e, stI_I q (by decide)]; simp only [obs]
    rw [show (sm_wI g 92 (nG g) (I3 y)).1 67 35 = I3 (nG g) from e, show I3 (nG g) + 1 = I3 (nG g + 1) from I3_add _ 1, show (sm_wI (sm_wI g 92 (nG g) (I3 y)) 67 35 (I3 (nG g + 1))).1 67 35 = I3 (nG g + 1) from rfl, I3_s1]
  · rw [if_neg q, if_pos (by rw [I3_lit, I3_inj (by omega) (by decide)]; omega)]
end
