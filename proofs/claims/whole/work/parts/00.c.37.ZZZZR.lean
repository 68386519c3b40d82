section
variable {n : Nat} {bt : Nat → Nat} {nd o T j k m p f f0 : Nat} {nm nm' : Nat → Int64} {kd kd' : List Int32} {pt : Nat → Nat} {h g : sm_H} {rec : sm_H → Option (Int32 × sm_H)}
theorem XT_y {T' k' : Nat} (K : K1 h g) {h1 g1 : sm_H} (a : agr Scl h h1) (b : agr Srl g g1) : XT T' k' h g h1 g1 := XT_x K (agr_mono (fun b j z => by
    rcases z with z | z
    · exact Or.inl z
    · exact Or.inr (Or.inr ⟨z.1, Or.inr z.2⟩)) a) (agr_mono (fun b j z => by
    rcases z with z | ⟨z1, z2⟩
    · exact Or.inl z
    · exact Or.inr (Or.inl ⟨z1, by omega⟩)) b)
theorem FC_r {f0 kl : Nat} {srt st ex : Int32} {g1 : sm_H} (F : FC g j f0 kl srt st ex) (a : agr Srl g g1) : FC g1 j f0 kl srt st ex := by
  have e : ∀ b, 119 ≤ b → b ≤ 123 → g1.1 b j = g.1 b j := fun b b1 b2 => a.1 b j (by unfold Srl SLx; omega)
  unfold FC
  rw [e 119 (by omega) (by omega), e 120 (by omega) (by omega), e 121 (by omega) (by omega), e 122 (by omega) (by omega), e 123 (by omega) (by omega)]
  exact F
theorem XRc_df (b i : Nat) (z : XRc k b i) : ¬ (b = 67 ∧ i = 91 ∨ 113 ≤ b ∧ b ≤ 116) := by unfold XRc SRa SRq SRb SRp SRh SRt Ssr SLx at z; omega
theorem DF_T {h1 g1 : sm_H} (K : K1 h g) (D : DF nd h g) (X : XT T k h g h1 g1) : DF nd h1 g1 := DF_x K D X.e X.r X.c X.a XCc_df XRc_df
theorem TS_sc {h1 g1 : sm_H} {T' k' : Nat} (s : TS n bt T k nm kd h g) (a : agr Ssp h h1) (b : agr Ssr g g1) (S : SCO nm' kd' h1 g1) : TS n bt T k nm' kd' h1 g1 ∧ XT T' k' h g h1 g1 := by
  have X : XT T' k' h g h1 g1 := XT_TW (TW_sc s.K a b) (fun _ => NL_S S)
  exact ⟨⟨X.k1, NF_sc s.nf a b, S, ⟨(a.1 55 12 (by unfold Ssp; omega)).trans s.t.1, s.t.2⟩, (b.1 67 102 (by unfold Ssr; omega)).trans s.b, TXC_agr s.xc a (fun b j z => by unfold Ssp at z; omega), TXR_agr s.xr b (fun b j z => by unfold Ssr at z; omega)⟩, X⟩
theorem R_449 {i : Nat} (b : g.1 67 102 = I3 (j + 1)) (hj : j < 24) (hi : i < 20) : F_449 (I3 i) g = some (g.1 125 (20 * j + i), g) := by
  show F_449_0 (I3 i) g = _
  unfold F_449_0
  rw [b, I3_s1, show (20 : Int32) * I3 j + I3 i = I3 (20 * j + i) by rw [I3_lit, I3_mul, I3_add], ldI_I (by omega) (by decide)]; rfl
theorem R_452n {y : Nat} (K : K1 h g) (hy : y < nH g) (nz : ¬ hrs g y = 0) (x : Int32) : F_452 x (I3 y) g = some (0, g) := by
  show F_452_0 x (I3 y) g = _
  unfold F_452_0
  rw [R_rs K hy]; simp only [obs]
  rw [if_neg nz]
theorem R_452z {y : Nat} {g2 : sm_H} (K : K1 h g) (hy : y < nH g) (z : hrs g y = 0) (hj : j < 24) (e : g.1 120 j = I3 f0) (f : F_413 7 (I3 f0) g = some (0, g2)) : F_452 (I3 j) (I3 y) g = some (1, g2) := by
  show F_452_0 (I3 j) (I3 y) g = _
  unfold F_452_0 F_452_30
  rw [R_rs K hy, z]; simp only [obs]
  rw [if_pos trivial, ldI_I hj (by decide), e]; simp only [obs]
  rw [f]; simp only [obs]
  rw [if_pos trivial, if_pos (by decide)]
theorem FT_sp {e pc : Nat} {h1 : sm_H} (F : FT e pc h g) (a : agr Ssp h h1) : FT e pc h1 g := ⟨(a.1 55 17 (by unfold Ssp; omega)).trans F.1, (a.1 55 18 (by unfold Ssp; omega)).trans F.2.1, F.2.2⟩
theorem SCO_94 {h1 g1 : sm_H} {w : Int32} {P : Nat → Nat → Prop} (S : SCO nm kd h (sm_wI g 67 94 (I3 (400 - kd.length)))) (a : agr P h h1) (b : agr Srl g g1) (p : ∀ b j, P b j → ¬ (b = 55 ∧ j = 9 ∨ b = 58 ∨ b = 59)) : SCO nm kd h1 (sm_wI (sm_wI g1 67 106 w) 67 94 (I3 (400 - kd.length))) := by
  obtain ⟨s1, s2, s3, s4, s5⟩ := S
  refine ⟨(a.1 55 9 (fun z => p _ _ z (by omega))).trans s1, s2, rfl, kL_grow (Nat.le_of_eq (by show tn _ = tn _; exact congrArg tn (b.1 67 6 (by unfold Srl SLx; omega)).symm)) s4, fun i hi => ?_⟩
  obtain ⟨t1, t2, t3, t4⟩ := s5 i hi
  exact ⟨(a.2.1 58 i (fun z => p _ _ z (by omega))).trans t1, (a.1 59 i (fun z => p _ _ z (by omega))).trans t2, (b.2.1 117 _ (by unfold Srl SLx; omega)).trans t3, (b.1 118 _ (by unfold Srl SLx; omega)).trans t4⟩
theorem letX {ex : Int32} (X : EX n bt nd rec (o + 1)) (B : BS n bt nd (o + 1) T (k + 1) 0 0 f nm kd pt h g) (F : FC g (k + 1) f0 kd.length 3 0 ex) (ko : k < o) (hT : T ≤ 8 * k) (m3 : m ≤ 4000) (e : g.1 124 k = I3 m) : BO n bt o T k m f nm kd h g (F_209 rec (I3 f0) h) := by
  have o20 := B.op.2.2
  have s0 := B.t
  have fn := RB_n B.r
  have C0 : F_209 rec (I3 f0) h = F_209_0 rec (I3 f0) h := rfl
  unfold F_209_0 F_209_30 F_209_54 at C0
  rw [show h.1 55 12 = I3 T from s0.t.1] at C0; simp only [obs] at C0
  have R0 : F_451 g = wp (F_453_0 (I3 (k + 1)) g) := by rw [F451s s0.b (by omega) F.1 (Or.inl rfl), if_pos rfl]
  unfold F_453_0 F_453_23 F_453_79 at R0
  rw [ldI_I (by omega) (by decide), F.2.2.1] at R0; simp only [obs] at R0
  rw [if_pos trivial] at R0
  rcases openB s0 B.op B.c B.r with ⟨h1, g1, -, a1, a2, a3, a4, a5, a6, a7, a8, a9, a10⟩ | ⟨e', h2, g2, a1, a2, a3, a4⟩
  rotate_left
  · rw [a1] at C0; simp only [obs] at C0; rw [if_pos trivial] at C0
    rw [a2] at R0; simp only [obs] at R0; rw [if_pos trivial] at R0
    exact BO_f s0.b (by omega) fn R0 C0 a3 (XT_mono (Nat.zero_le _) (Nat.zero_le _) a4)
  rw [a1] at C0; simp only [obs] at C0; rw [if_neg (by decide)] at C0
  rw [a2] at R0; simp only [obs] at R0; rw [if_neg (by decide)] at R0
  have C1 : F_207 rec (I3 f0) h1 = F_207_0 rec (I3 f0) h1 := rfl
  unfold F_207_0 F_207_75 F_207_76 at C1
  rcases nameB a3 a5 a6 with ⟨h2, g2, b1, b2', b3, b4, b5, b6, b7, b8, b9, b10, b11, b12⟩ | ⟨e', h3, g3, b1, b2', b3, b4⟩
  rotate_left
  · rw [b1] at C1; simp only [obs] at C1; rw [if_pos trivial] at C1
    rw [C1] at C0; simp only [obs] at C0; rw [if_pos trivial] at C0
    rw [b2'] at R0; simp only [obs] at R0; rw [if_pos trivial] at R0
    exact BO_f s0.b (by omega) fn R0 C0 b3 (XT_mono (Nat.zero_le _) (Nat.zero_le _) (XT_trans a8 b4))
  generalize hx : foldN bt (nx n bt f) (men n bt (nx n bt f) - nx n bt f) = x at b4 b5
  rw [b1] at C1; simp only [obs] at C1; rw [if_neg (by decide), show F_248 h2 = some (h2.2.1 52 10, h2) from rfl, b4] at C1; simp only [obs] at C1
  rw [b2'] at R0; simp only [obs] at R0; rw [if_neg (by decide), b5, show (3 : Int32) * I3 (k + 1) = I3 (3 * (k + 1)) from I3_mul 3 (k + 1), stJ_I (by omega) (by decide)] at R0; simp only [obs] at R0
  rw [stI_I (by omega) (by decide)] at R0; simp only [obs] at R0
  have v126 : (sm_wI (sm_wJ g2 126 (3 * (k + 1)) x) 121 (k + 1) 1).2.1 126 (3 * (k + 1)) = x := if_pos rfl
  have af : agr (fun b i => b = 126 ∧ i = 3 * (k + 1) ∨ b = 121 ∧ i = k + 1) g2 (sm_wI (sm_wJ g2 126 (3 * (k + 1)) x) 121 (k + 1) 1) := agr_wI (agr_wJ agr_rfl (Or.inl ⟨rfl, rfl⟩)) (Or.inr ⟨rfl, rfl⟩)
  have a02 : agr Srl g g2 := agr_trans (agr_mono (fun b j z => by
    rcases z with z | z
    · exact Or.inl z
    · exact Or.inr ⟨z.1, by omega⟩) a10) (agr_mono (fun b j z => by
    rcases z with z | z
    · exact Or.inl z
    · exact Or.inr ⟨z.1, by omega⟩) b12)
  have F2 := FC_r F a02
  have F3 : FC (sm_wI (sm_wJ g2 126 (3 * (k + 1)) x) 121 (k + 1) 1) (k + 1) f0 kd.length 3 1 ex := ⟨F2.1, F2.2.1, if_pos rfl, F2.2.2.2.1, F2.2.2.2.2⟩
  have r3 : RB n bt (nx n bt (nx n bt f)) (sm_wI (sm_wJ g2 126 (3 * (k + 1)) x) 121 (k + 1) 1) := b8
  have p3' : (sm_wI (sm_wJ g2 126 (3 * (k + 1)) x) 121 (k + 1) 1).1 124 (k + 1) = I3 0 := (a02.1 124 (k + 1) (by unfold Srl SLx; omega)).trans B.mm
  generalize hg3 : sm_wI (sm_wJ g2 126 (3 * (k + 1)) x) 121 (k + 1) 1 = g3 at *
  have R0' : F_451 g = wp (F_448 g3) := R0.trans (wp_wp _)
  have s3 : TS n bt (T + 0) (k + 1 + 1) nm kd h2 g3 := TS_f b3 (agr_mono (fun b i z => by omega) af)
  have X02 : XT T (k + 1) h g h2 g2 := XT_mono (by omega) (by omega) (XT_trans a8 b10)
  have X23 : XT T (k + 1) h2 g2 h2 g3 := XT_x b3.K agr_rfl (agr_mono (fun b i z => by
    rcases z with ⟨z1, z2⟩ | ⟨z1, z2⟩
    · exact Or.inr (Or.inr (Or.inr (Or.inr ⟨z1, by omega⟩)))
    · exact Or.inr (Or.inr (Or.inl ⟨by omega, by omega, by omega⟩))) af)
  have X03 := XT_trans X02 X23
  have Bp : BS n bt nd (o + 2) T (k + 1) 0 0 (nx n bt (nx n bt f)) nm kd pt h2 g3 := ⟨s3, OP_x a4 b11 (agr_trans (agr_mono (fun b i z => Or.inl z) b12) (agr_mono (fun b i z => Or.inr z) af)) (by unfold S52; omega) (by unfold SLx; omega), DF_T s0.K B.d X03, b7, r3, p3', fun i hi => by omega, fun i hi => by omega⟩
  have ff : f < nx n bt (nx n bt f) := Nat.lt_trans a7 b9
  rcases partE Bp (Nat.le_refl _) (X (o + 2) (T + 0) (k + 1) 0 _ nm kd h2 g3 (by omega) Bp.t Bp.op Bp.d Bp.c Bp.r (by omega) (by omega) (by omega) Bp.mm) with ⟨y, h4, g4, f3, c, e1, e2, e3, e4, e5, e6, e7⟩ | ⟨e', pc, h4, g4, c, e1, e2, e3, e4, e5⟩
  rotate_left
  · rw [e1] at C1; simp only [obs] at C1; rw [if_pos trivial] at C1
    rw [C1] at C0; simp only [obs] at C0; rw [if_pos trivial] at C0
    exact BO_d s0.b (by omega) (Nat.le_of_lt ff) R0' e5 e4 C0 e2 (XT_trans (XT_mono (Nat.zero_le _) (Nat.zero_le _) X03) e3)
  rw [e1] at C1; simp only [obs] at C1; rw [if_neg (h_m1 e4.t.K e5), C_rs e4.t.K e5] at C1; simp only [obs] at C1
  have Rn1 : Run g (c + 1) g4 := RunR_run s0.b (by omega) (by omega) R0' (RunR_wp e2)
  have X04 : XT T (k + 1) h g h4 g4 := XT_trans X03 (PT_XT e4.t.K e4.t.l (PT_s (by omega) e7))
  have F4 := FC_x F3 e7.2.2.2
  have y5 := lt500 e4.t.K e5
  have q125 : g4.1 125 (20 * (k + 1) + 0) = I3 y := e4.q 0 (by omega) (by omega)
  have R1 : F_451 g4 = wp (F_453_0 (I3 (k + 1)) g4) := by rw [F451s e4.t.b (by omega) F4.1 (Or.inl rfl), if_pos rfl]
  unfold F_453_0 F_453_23 F_453_79 at R1
  rw [ldI_I (by omega) (by decide), F4.2.2.1] at R1; simp only [obs] at R1
  rw [if_neg (by decide), if_pos trivial, show F_449 0 g4 = some (I3 y, g4) from (R_449 (i := 0) e4.t.b (by omega) (by omega)).trans (by rw [q125])] at R1; simp only [obs] at R1
  have fn3 := RB_n e4.r
  by_cases hz : hrs g4 y = 0
  · obtain ⟨h5, g5, d1, d2, d3, d4⟩ := XT_fail e4.t (T' := 0) (k' := 0) (e := 7) (f := f0) (by decide) (by decide)
    rw [if_pos hz, show F_169 7 (I3 f0) h4 = some (-1, h5) from d1] at C1; simp only [obs] at C1
    rw [C1] at C0; simp only [obs] at C0; rw [if_pos trivial] at C0
    rw [R_452z e4.t.K e5 hz (by omega) F4.2.1 d2] at R1; simp only [obs] at R1; rw [if_neg (by decide)] at R1
    exact BO_tr Rn1 (by omega) X04 (BO_f e4.t.b (by omega) fn3 R1 C0 d3 d4)
  rw [if_neg hz] at C1
  rw [R_452n e4.t.K e5 hz] at R1; simp only [obs] at R1; rw [if_pos trivial] at R1
  obtain ⟨h5, p1, p2, p3, p4, p5⟩ := pushP e4 (by omega) (by rw [up_s]; exact y5) x
  rw [up_s] at p1
  rw [p1] at C1; simp only [obs] at C1; rw [if_neg (by decide)] at C1
  have X45 : XT T (k + 1) h4 g4 h5 g4 := PT_XT p2.t.K p2.t.l (PT_s (by omega) p3)
  rcases closeE p2.t p2.op p2.c p2.r with ⟨h6, g6, q1, q2, q3, q4, q5, q6, q7, q8, q9⟩ | ⟨e', h6, g6, q1, q2, q3, q4⟩
  rotate_left
  · rw [q1] at C1; simp only [obs] at C1; rw [if_pos trivial, if_pos (by decide)] at C1
    rw [C1] at C0; simp only [obs] at C0; rw [if_pos trivial] at C0
    rw [q2] at R1; simp only [obs] at R1; rw [if_pos trivial] at R1
    exact BO_tr Rn1 (by omega) X04 (BO_f e4.t.b (by omega) fn3 R1 C0 q3 (XT_mono (Nat.zero_le _) (Nat.zero_le _) (XT_trans X45 (XT_mono (by omega) (by omega) q4))))
  rw [q1] at C1; simp only [obs] at C1; rw [if_neg (by decide), if_pos (by decide)] at C1
  rw [C1] at C0; simp only [obs] at C0; rw [if_neg (by decide)] at C0
  rw [q2] at R1; simp only [obs] at R1; rw [if_neg (by decide)] at R1
  have X56 : XT T (k + 1) h5 g4 h6 g6 := XT_y p2.t.K q8 q9
  have X46 := XT_trans X45 X56
  have y6 : y < nH g6 := X56.nH e5
  have hp6 : hpl g6 y = kd := (X56.hpl e4.t.K e5).trans e6
  have hr6 : hrs g6 y = hrs g4 y := X56.hrs e4.t.K e5
  have k10 : kd.length ≤ 10 := by rw [← hp6]; exact hpl10 q3.K y6
  have v6 : g6.2.1 126 (3 * (k + 1)) = x := (q9.2.1 126 _ (by unfold Srl SLx; omega)).trans ((e7.2.2.2.2.1 126 _ (by unfold XRp XRc SRa SRq SRb SRp SRh SRt Ssr SLx; omega)).trans v126)
  have q125' : g6.1 125 (20 * (k + 1) + 0) = I3 y := (q9.1 125 _ (by unfold Srl SLx; omega)).trans q125
  obtain ⟨h7, w1, w2, w3⟩ := C_208 (ns := fun _ => x) (nv := 1) (T := T) (pt := updN pt 0 y) q3.K (SCO_iff.mp q3.S).1 (by omega) (by omega) ⟨T + 1, q3.t.1, Nat.le_refl _, q3.t.2, fun i hi => (q8.1 60 _ (by unfold Scl S52; omega)).trans (p2.s i (by omega))⟩ (fun i hi => by
    rw [show i = 0 by omega, up_s]; exact y6) (fun i hi => (q8.2.1 61 _ (by unfold Scl S52; omega)).trans (by rw [show i = 0 by omega]; exact p4)) (I3 f0)
  rw [show F_208 (I3 T) 1 (I3 f0) h6 = some (1, h7) from w1] at C0; simp only [obs] at C0; rw [if_neg (by decide)] at C0
  rw [show (3 : Int32) * I3 (k + 1) = I3 (3 * (k + 1)) from I3_mul 3 (k + 1), ldJ_I (by omega) (by decide), v6] at R1; simp only [obs] at R1
  rw [show F_449 0 g6 = some (I3 y, g6) from (R_449 (i := 0) q3.b (by omega) (by omega)).trans (by rw [q125'])] at R1; simp only [obs] at R1
  rw [R_rs q3.K y6] at R1; simp only [obs] at R1
  obtain ⟨g7, d1, d2, d3⟩ := R_bind (SCO_iff.mp q3.S).2.1 (by omega) x (hrs g6 y)
  rw [d1] at R1; simp only [obs] at R1
  rw [stI_I (by omega) (by decide)] at R1; simp only [obs] at R1
  have R1' : F_451 g4 = wp (F_448 (sm_wI g7 121 (k + 1) 2)) := R1.trans (wp_wp _)
  have S7 : SCO (nm1 x nm) (hrs g6 y :: kd) h7 g7 := SCO_iff.mpr ⟨by rw [nm1_N]; exact w2, d2, by rw [List.length_cons]; omega, by
    have nc : nC g7 = nC g6 := by show tn _ = tn _; rw [d3.1 67 6 (by unfold Ssr; omega)]
    obtain ⟨q, u1, u2⟩ := rs_k q3.K y6
    exact kL_app2 (ks := [hrs g6 y]) (fun i hi => by
      have : i = 0 := by have : [hrs g6 y].length = 1 := rfl
                         omega
      subst this
      refine ⟨q, u1, Nat.pos_of_ne_zero (fun z => hz ?_), by omega⟩
      rw [← hr6, u1, z]; rfl) (kL_grow (Nat.le_of_eq nc.symm) q3.S.2.2.2.1)⟩
  have s7 := TS_sc (T' := T) (k' := k + 1) q3 w3 d3 S7
  have a78 : agr (fun b i => b = 121 ∧ i = k + 1) g7 (sm_wI g7 121 (k + 1) 2) := agr_wI agr_rfl ⟨rfl, rfl⟩
  have F7 : FC (sm_wI g7 121 (k + 1) 2) (k + 1) f0 kd.length 3 2 ex := by
    have F6 := FC_r F4 q9
    have e : ∀ b, 119 ≤ b → b ≤ 123 → g7.1 b (k + 1) = g6.1 b (k + 1) := fun b b1 b2 => d3.1 b (k + 1) (by unfold Ssr; omega)
    exact ⟨(e 119 (by omega) (by omega)).trans F6.1, (e 120 (by omega) (by omega)).trans F6.2.1, if_pos rfl, (e 122 (by omega) (by omega)).trans F6.2.2.2.1, (e 123 (by omega) (by omega)).trans F6.2.2.2.2⟩
  have m8 : (sm_wI g7 121 (k + 1) 2).1 124 (k + 1) = I3 1 := (d3.1 124 (k + 1) (by unfold Ssr; omega)).trans ((q9.1 124 (k + 1) (by unfold Srl SLx; omega)).trans p2.mm)
  have q8' : (sm_wI g7 121 (k + 1) 2).1 125 (20 * (k + 1) + 0) = I3 y := (d3.1 125 _ (by unfold Ssr; omega)).trans q125'
  have r8 : RB n bt (nx n bt f3) (sm_wI g7 121 (k + 1) 2) := by
    obtain ⟨q, u1, u2, u3⟩ := q6
    exact ⟨q, (d3.1 67 79 (by unfold Ssr; omega)).trans u1, u2, u3⟩
  generalize hg8 : sm_wI g7 121 (k + 1) 2 = g8 at *
  have s8 : TS n bt (T + 1) (k + 1 + 1) (nm1 x nm) (hrs g6 y :: kd) h7 g8 := TS_f s7.1 (agr_mono (fun b i z => by omega) a78)
  have X78 : XT T (k + 1) h7 g7 h7 g8 := XT_x s7.1.K agr_rfl (agr_mono (fun b i z => Or.inr (Or.inr (Or.inl ⟨by omega, by omega, by omega⟩))) a78)
  have X48 := XT_trans X46 (XT_trans s7.2 X78)
  have B8 : BS n bt nd (o + 1) T (k + 1) 1 1 (nx n bt f3) (nm1 x nm) (hrs g6 y :: kd) (updN pt 0 y) h7 g8 := ⟨s8, OP_x (OP_x q4 w3 d3 (by unfold Ssp; omega) (by unfold Ssr; omega)) (P := fun _ _ => False) agr_rfl a78 (fun z => z) (by omega), DF_T e4.t.K e4.d X48, by
      obtain ⟨q, u1, u2, u3⟩ := q5
      exact ⟨q, (w3.1 52 3 (by unfold Ssp; omega)).trans u1, u2, u3⟩, r8, m8, fun i hi _ => by
      rw [show i = 0 by omega, up_s]; exact q8', fun i hi => by
      rw [w3.1 60 _ (by unfold Ssp; omega), q8.1 60 _ (by unfold Scl S52; omega)]; exact p2.s i (by omega)⟩
  rcases partE B8 (Nat.le_refl _) (X (o + 1) (T + 1) (k + 1) 1 _ _ _ h7 g8 (by omega) B8.t B8.op B8.d B8.c B8.r (by omega) (by omega) (by omega) B8.mm) with ⟨y2, h9, g9, f5, c2, e1', e2', e3', e4', e5', e6', e7'⟩ | ⟨e', pc, h9, g9, c2, e1', e2', e3', e4', e5'⟩
  rotate_left
  · obtain ⟨h10, u1, u2, u3⟩ := C_184f (e3'.l s8.l)
    rw [e1'] at C0; simp only [obs] at C0; rw [u1] at C0; simp only [obs] at C0; rw [if_pos trivial] at C0
    exact BO_tr Rn1 (by omega) X04 (BO_d e4.t.b (by omega) (Nat.le_of_lt q7) R1' e5' e4' C0 (FT_sp e2' u2) (XT_trans (XT_mono (Nat.zero_le _) (Nat.zero_le _) X48) (XT_trans e3' (XT_TW (TW_sc e3'.k1 u2 agr_rfl) (fun _ => u3)))))
  have Rn2 : Run g4 (c2 + 1) g9 := RunR_run e4.t.b (by omega) (by omega) R1' (RunR_wp e2')
  have X49 : XT T (k + 1) h4 g4 h9 g9 := XT_trans X48 (PT_XT e4'.t.K e4'.t.l (PT_s (by omega) e7'))
  have X09 := XT_trans X04 X49
  have Rn := Run_trans Rn1 Rn2
  have F9 := FC_x F7 e7'.2.2.2
  obtain ⟨h10, u1, u2, u3, u4⟩ := SCO_drop (ks := [hrs g6 y]) (kd := kd) (nm := nm) e4'.t.S (nm1_s x nm)
  rw [e1'] at C0; simp only [obs] at C0; rw [show F_184 1 h9 = some h10 from u1] at C0; simp only [obs] at C0; rw [if_neg (h_m1 e4'.t.K e5')] at C0
  have R2 : F_451 g9 = wp (F_453_0 (I3 (k + 1)) g9) := by rw [F451s e4'.t.b (by omega) F9.1 (Or.inl rfl), if_pos rfl]
  unfold F_453_0 F_453_23 F_453_79 at R2
  rw [ldI_I (by omega) (by decide), F9.2.2.1] at R2; simp only [obs] at R2
  rw [if_neg (by decide), if_neg (by decide)] at R2
  have R2' : F_451 g9 = wp (F_457 g9) := R2.trans (wp_wp _)
  rw [F457e] at R2'
  have K10 : K1 h10 g9 := K1_h e4'.t.K (agr_mono Ssp_not u3)
  have xc10 : TXC n bt h10 := TXC_agr e4'.t.xc u3 (fun b j z => by unfold Ssp at z; omega)
  have c10 : CB n bt f5 h10 := by
    obtain ⟨q, u1, u2, u5⟩ := e4'.c
    exact ⟨q, (u3.1 52 3 (by unfold Ssp; omega)).trans u1, u2, u5⟩
  have nf10 : h10.1 55 17 = 0 := (u3.1 55 17 (by unfold Ssp; omega)).trans e4'.t.nf.1
  have o10 : h10.1 55 16 = I3 (o + 1) := (u3.1 55 16 (by unfold Ssp; omega)).trans e4'.op.1
  have fn5 := RB_n e4'.r
  have X910 : ∀ T' k', XT T' k' h9 g9 h10 g9 := fun T' k' => XT_TW (TW_sc e4'.t.K u3 agr_rfl) (fun _ => NL_S u2)
  rcases close_C xc10 nf10 c10 o10 fn5 with ⟨w, h11, v1, v2, v3, v4⟩ | ⟨w, h11, h12, v1, v2, v4⟩
  · rcases close_R e4'.t.xr e4'.t.nf.2 e4'.r e4'.op.2.1 with ⟨-, g11, z1, z2, z3, z4⟩ | ⟨w', -⟩
    rotate_left
    · exact absurd w w'
    rw [v1] at C0; simp only [obs] at C0; rw [if_neg (by decide)] at C0
    rw [z1] at R2'; simp only [obs] at R2'; rw [if_neg (by decide)] at R2'
    have X11 : ∀ T' k', XT T' k' h10 g9 h11 g11 := fun T' k' => XT_y K10 v4 z4
    have K11 := (X11 0 0).k1
    have F11 := FC_r F9 z4
    have t11 : h11.1 55 12 = I3 (T + 1) := (v4.1 55 12 (by unfold Scl S52; omega)).trans ((u3.1 55 12 (by unfold Ssp; omega)).trans e4'.t.t.1)
    have st11 : STK h11 T 1 (updN (updN pt 0 y) 1 y2) := ⟨T + 1, t11, Nat.le_refl _, e4'.t.t.2, fun i hi => (v4.1 60 _ (by unfold Scl S52; omega)).trans ((u3.1 60 _ (by unfold Ssp; omega)).trans (e4'.s i hi))⟩
    rw [show F_187 (I3 T) h11 = some (I3 y, h11) from STK_at st11 (i := 0) (by omega)] at C0; simp only [obs] at C0
    rw [bind_id] at C0
    rw [C0]
    refine BO_tr (f := f5) Rn (by omega) X09 ?_
    have S12 : SCO nm kd h11 (sm_wI (sm_wI g11 67 106 (I3 f0)) 67 94 (I3 (400 - kd.length))) := SCO_94 u2 v4 z4 (fun b j z => by unfold Scl S52 at z; omega)
    have a12 : agr (fun b j => b = 67 ∧ j = 106 ∨ b = 67 ∧ j = 94) g11 (sm_wI (sm_wI g11 67 106 (I3 f0)) 67 94 (I3 (400 - kd.length))) := agr_wI (agr_wI agr_rfl (Or.inl ⟨rfl, rfl⟩)) (Or.inr ⟨rfl, rfl⟩)
    have Xa : XT T (k + 1) h11 g11 h11 (sm_wI g11 67 106 (I3 f0)) := XT_x K11 agr_rfl (agr_wI agr_rfl (Or.inr (Or.inl ⟨rfl, by omega⟩)))
    have Wa : TW T h11 (sm_wI g11 67 106 (I3 f0)) h11 (sm_wI (sm_wI g11 67 106 (I3 f0)) 67 94 (I3 (400 - kd.length))) := TW_sc Xa.k1 agr_rfl (agr_wI agr_rfl (Or.inl ⟨rfl, rfl⟩))
    have nf12 : NF h11 (sm_wI (sm_wI g11 67 106 (I3 f0)) 67 94 (I3 (400 - kd.length))) := ⟨(v4.1 55 17 (by unfold Scl S52; omega)).trans nf10, (z4.1 67 77 (by unfold Srl SLx; omega)).trans e4'.t.nf.2⟩
    have ext12 : ext g9 (sm_wI (sm_wI g11 67 106 (I3 f0)) 67 94 (I3 (400 - kd.length))) := ext_trans (X11 0 0).e (ext_trans Xa.e Wa.e)
    have grow12 : grow g9 (sm_wI (sm_wI g11 67 106 (I3 f0)) 67 94 (I3 (400 - kd.length))) := grow_trans (X11 0 0).r (grow_trans Xa.r Wa.r)
    have fr : FRM (sm_wI g11 67 106 (I3 f0)) (k + 1) 3 ex 2 (updN (updN pt 0 y) 1 y2) := ⟨by omega, F11.1, F11.2.2.2.1, (z4.1 124 (k + 1) (by unfold Srl SLx; omega)).trans e4'.mm, by omega, fun i hi => (z4.1 125 _ (by unfold Srl SLx; omega)).trans (e4'.q i hi (by omega))⟩
    have P6 : F_460 (I3 (k + 1)) (sm_wI g11 67 106 (I3 f0)) = F_432 8 0 (I3 y2) (I3 y) (sm_wI (sm_wI g11 67 106 (I3 f0)) 67 94 (I3 (400 - kd.length))) := by
      rw [F460 fr]
      unfold F_460_74
      rw [ld122 fr, ld119 fr]; simp only [obs]
      rw [if_neg (by decide), if_neg (by decide), if_pos trivial, ldI_I (by omega) (by decide), show (sm_wI g11 67 106 (I3 f0)).1 123 (k + 1) = I3 (400 - kd.length) from F11.2.2.2.2]; simp only [obs]
      rw [bind_id]; rfl
    have y9 : y < nH g9 := X49.nH e5
    have M := folded1 Wa.k nf12 (pc := f0) rfl (x := y2) (y := y) (Nat.lt_of_lt_of_le e5' grow12.2.2.1) (Nat.lt_of_lt_of_le y9 grow12.2.2.1) (kd := kd) (by
      rw [ext_hpl e4'.t.K.2.2.2.2.1 ext12 e5', e6', ext_hrs e4'.t.K.2.2.2.2.1 ext12 y9, X49.hrs e4.t.K e5, hr6]) (by
      rw [ext_hpl e4'.t.K.2.2.2.2.1 ext12 y9, X49.hpl e4.t.K e5, e6]) (by
      rw [ext_hrs e4'.t.K.2.2.2.2.1 ext12 y9, X49.hrs e4.t.K e5]; exact hz)
    have P : PW T h11 (sm_wI g11 67 106 (I3 f0)) f0 (F_206 (I3 y2) (I3 y) (I3 f0) h11) (F_460 (I3 (k + 1)) (sm_wI g11 67 106 (I3 f0))) nm kd := by
      rw [P6]
      exact PW_tr Wa (PW_of S12 (PO_of M))
    have e9 : g9.1 124 k = I3 m := (X09.a.1 124 k (by unfold XRc SRa SRq SRb SRp SRh SRt Ssr SLx; omega)).trans e
    rcases finish (T := T) (k := k) (m := m) (n := n) (bt := bt) (o := o) (f' := nx n bt f5) (by have := e4'.t.t.2; omega) (by omega) m3 K11 ((z4.1 67 102 (by unfold Srl SLx; omega)).trans e4'.t.b) (TXC_agr xc10 v4 (fun b j z => by unfold Scl S52 at z; omega)) (TXR_agr e4'.t.xr z4 (fun b j z => by unfold Srl SLx at z; omega)) ⟨v2, z2, by omega⟩ v3 z3 F11.2.1 F11.2.2.2.2 ((z4.1 124 k (by unfold Srl SLx; omega)).trans e9) P with ⟨yy, h12, g12, i1, i2, i3, i4, i5, i6, i7, i8, i9, i10, i11, i12, i13, i14⟩ | ⟨e', h12, g12, i1, i2, i3, i4⟩
    · have Z := XT_trans (X910 T (k + 1)) (X11 T (k + 1))
      have nf5 := nx_gt (n := n) (bt := bt) fn5 (by omega) (by omega)
      exact Or.inl ⟨yy, h12, g12, nx n bt f5, 1, i1, RunR_run e4'.t.b (by omega) (by omega) R2' ⟨g12, by rw [i2, wp1], Run_rfl g12⟩, by omega, i3, i4, i5, i6, i7, i8, ext_trans Z.e i9, grow_trans Z.r i10, agr_trans Z.c i11, agr_trans (agr_mono (fun b i z => Or.inl z) Z.a) i12, i13, i14⟩
    · rw [i2] at R2'
      exact BO_f e4'.t.b (by omega) fn5 R2' i1 i3 (XT_trans (XT_trans (X910 0 0) (X11 0 0)) i4)
  · rcases close_R e4'.t.xr e4'.t.nf.2 e4'.r e4'.op.2.1 with ⟨w', -⟩ | ⟨-, g11, g12, z1, z2, z4⟩
    · exact absurd w' w
    rw [v1] at C0; simp only [obs] at C0; rw [if_pos trivial] at C0
    rw [z1] at R2'; simp only [obs] at R2'; rw [if_pos trivial] at R2'
    have e9 := er_9 n bt f5
    have X11 : XT 0 0 h10 g9 h11 g11 := XT_y K10 v4 z4
    obtain ⟨h13, g13, t1, t2, t3, t4⟩ := failB X11.k1 ⟨(v4.1 55 17 (by unfold Scl S52; omega)).trans nf10, (z4.1 67 77 (by unfold Srl SLx; omega)).trans e4'.t.nf.2⟩ (e := er n bt f5) (pc := f5) e9.1 e9.2
    rw [v2] at t1
    rw [z2] at t2
    injection t1 with t1
    injection t2 with t2
    have q1 : h12 = h13 := congrArg Prod.snd t1
    have q2 : g12 = g13 := congrArg Prod.snd t2
    subst q1 q2
    exact BO_tr Rn (by omega) X09 (BO_f e4'.t.b (by omega) fn5 R2' C0 t4 (XT_trans (X910 0 0) (XT_trans X11 (XT_TK t3))))
end
