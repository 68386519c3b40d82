section
variable {n : Nat} {bt : Nat → Nat} {nd o T j k m p f f0 : Nat} {nm nm' : Nat → Int64} {kd kd' : List Int32} {pt : Nat → Nat} {h g : sm_H} {rec : sm_H → Option (Int32 × sm_H)}
theorem partF {o0 N i : Nat} (X : EX n bt nd rec o0) (ho : o0 ≤ o) (jo : j < o) (hT : T + 8 ≤ 8 * j) (j4 : j < 24) (iN : i < N) (N8 : N ≤ 8) (m7 : m < 8) (B : BS n bt nd o T j m m f nm kd pt h g) :
    (∃ y h2 g2 f' c, (∀ fu, 0 < fu → lp (F_199_2B rec) fu (I3 N, I3 i, h) = lp (F_199_2B rec) (fu - 1) (I3 N, I3 (i + 1), h2)) ∧ RunR (F_448 g) c g2 ∧ c + f < f' ∧ BS n bt nd o T j (m + 1) (m + 1) f' nm kd (updN pt m y) h2 g2 ∧ y < nH g2 ∧ hpl g2 y = kd ∧ PT (T + m) j h g h2 g2) ∨ ∃ e pc h1 g1 c, (∀ fu, 0 < fu → lp (F_199_2B rec) fu (I3 N, I3 i, h) = some (0, h1)) ∧ FT e pc h1 g1 ∧ XT 0 0 h g h1 g1 ∧ c + f ≤ n ∧ DieR (F_448 g) c g1 := by
  have C0 : F_199_2B rec (I3 N, I3 i, h) = (F_193 rec h).bind fun q1 => (F_188 q1.1 0 q1.2).bind fun q2 => if q2.1 = 0 then (some (.inr (0, q2.2))) else ((some (I3 i + 1 : Int32)).bind fun v3 => some (.inl (I3 N, v3, q2.2))) := by
    unfold F_199_2B
    show (if I3 N ≤ I3 i then _ else _) = _
    rw [if_neg (by rw [I3_le (by omega) (by omega)]; omega)]
  rcases partE B (Nat.le_refl _) (X o (T + m) j m f nm kd h g ho B.t B.op B.d B.c B.r jo (by omega) (by omega) B.mm) with ⟨y, h1, g2, f', c, e1, e2, e3, e4, e5, e6, e7⟩ | ⟨e, pc, h1, g1, c, e1, e2, e3, e4, e5⟩
  · have y5 := lt500 e4.t.K e5
    obtain ⟨h2, p1, p2, p3, p4, p5⟩ := pushP e4 (by omega) (by rw [up_s]; exact y5) 0
    rw [up_s] at p1
    rw [e1] at C0; simp only [obs] at C0
    rw [p1] at C0; simp only [obs] at C0
    rw [if_neg (by decide), show I3 i + 1 = I3 (i + 1) from I3_add i 1] at C0
    exact Or.inl ⟨y, h2, g2, f', c, fun fu hf => lp_s (by omega) C0, e2, e3, p2, e5, e6, PT_trans e7 p3⟩
  · refine Or.inr ⟨e, pc, h1, g1, c, fun fu hf => lp_e (by omega) ?_, e2, e3, e4, e5⟩
    rw [C0, e1]; simp only [obs]
    rw [show F_188 (-1) 0 h1 = some (0, h1) from by
      show F_188_0 (-1) 0 h1 = _
      unfold F_188_0 F_188_15
      rw [if_pos rfl]]
    rfl
theorem F199_e {N fu : Nat} (N8 : N ≤ 8) (hf : 0 < fu) (rec : sm_H → Option (Int32 × sm_H)) (h : sm_H) : lp (F_199_2B rec) fu (I3 N, I3 N, h) = some (1, h) := by
  refine lp_e (by omega) ?_
  unfold F_199_2B
  show (if I3 N ≤ I3 N then _ else _) = _
  rw [if_pos (by rw [I3_le (by omega) (by omega)]; omega)]
def mkC (T f0 : Nat) (u : sm_H) : Option (Int32 × sm_H) := (F_189 (I3 T) u).bind fun q11 =>
  (F_190 (I3 T + 1) q11.1 (I3 f0) q11.2).bind fun q12 =>
  if q12.1 = 0 then some (-1, q12.2)
  else ((F_184 1 q12.2).bind fun q13 =>
  (F_187 (I3 T) q13).bind fun q14 =>
  (F_187 (I3 T + 1) q14.2).bind fun q15 =>
  (F_141 56 q14.1 q15.1 q15.2).bind fun q16 =>
  (F_5 15 19 0 0 q16.1 q16.2).bind fun q17 =>
  if 0 ≤ q17.1 then some (q17.1, q17.2)
  else ((F_169 8 (I3 f0) q17.2).bind fun q18 => some (q18.1, q18.2)))
theorem catchEnd {ex : Int32} {x : Int64} (K : K1 h g) (S : SCO (nm1 x nm) (19 :: kd) h g) (nf : NF h g) (wh : g.1 67 106 = I3 f0) (st : STK h T 2 pt) (p0 : pt 0 < nH g ∧ hpl g (pt 0) = kd) (p1 : pt 1 < nH g ∧ hpl g (pt 1) = 19 :: kd) (fr : FRM g j 6 ex 2 pt) (f123 : g.1 123 j = I3 (400 - kd.length)) : PW T h g f0 (mkC T f0 h) (F_460 (I3 j) g) nm kd := by
  obtain ⟨q, q1, q2⟩ := rs_k K p0.1
  have j4 := fr.1
  have R0 : F_460 (I3 j) g = (F_433 (I3 (pt 1)) (I3 q) g).bind fun q32 => (ldI q32.2 123 24 (I3 j)).bind fun v33 => (some (sm_wI q32.2 67 94 v33)).bind fun h34 => F_432 15 19 (I3 (pt 0)) q32.1 h34 := by
    rw [F460 fr]
    unfold F_460_74
    rw [ld122 fr, ld119 fr]; simp only [obs]
    rw [if_neg (by decide), if_neg (by decide), if_neg (by decide), if_neg (by decide), if_neg (by decide), if_pos trivial, show pO 2 pt 0 = I3 (pt 0) from rfl, show pO 2 pt 1 = I3 (pt 1) from rfl, R_rs K p0.1, q1]; simp only [obs]
    refine congrArg _ (funext fun a => congrArg _ (funext fun b => ?_))
    exact bind_id _
  have C0 : mkC T f0 h = mkC T f0 h := rfl
  conv at C0 => rhs; unfold mkC
  rw [show F_189 (I3 T) h = some (I3 q, h) from (C_189 K st (i := 0) (by omega) p0.1).trans (by rw [q1])] at C0; simp only [obs] at C0
  rw [show I3 T + 1 = I3 (T + 1) from I3_add T 1] at C0
  rcases pass1 K S nf (i := 1) wh st (by omega) p1.1 p1.2 (k := q) q2 with ⟨z, h1, g1, a1, a2, a3, a4, a5, a6, a7, a8⟩ | ⟨e, h1, g1, a1, a2, a3, a4⟩
  · rw [a1] at C0; simp only [obs] at C0; rw [if_neg (by decide)] at C0
    rw [a2] at R0; simp only [obs] at R0
    have w1 : g1.1 123 j = I3 (400 - kd.length) := (a7.a.1 123 j (by unfold SRa SRq SRb SRp SRh SRt; omega)).trans f123
    rw [ldI_I j4 (by decide), w1] at R0; simp only [obs] at R0
    obtain ⟨h2, b1, b2', b3, b4⟩ := SCO_drop (ks := [19]) (kd := kd) (nm := nm) (SCO_TB S a7) (nm1_s x nm)
    rw [show F_184 1 h1 = some h2 from b1] at C0; simp only [obs] at C0
    have s2 := STK_sc a6 b3
    have W : TW T h1 g1 h2 (sm_wI g1 67 94 (I3 (400 - kd.length))) := TW_sc a7.k b3 b4
    have W0 : TW T h g h2 (sm_wI g1 67 94 (I3 (400 - kd.length))) := TW_trans (TW_of (TB_mono (Nat.le_add_right T 1) a7)) W
    rw [show F_187 (I3 T) h2 = some (I3 (pt 0), h2) from STK_at s2 (i := 0) (by omega)] at C0; simp only [obs] at C0
    rw [show F_187 (I3 (T + 1)) h2 = some (I3 z, h2) from STK_at s2 (i := 1) (by omega)] at C0; simp only [obs] at C0
    have M := catchMk W.k (NF_sc a8 b3 b4) (pc := f0) (wh_TW wh W0) (x := pt 0) (y := z) (W0.nH p0.1) (W.nH a3) (kd := kd) ((W0.hpl K p0.1).trans p0.2) ((W.hpl a7.k a3).trans a5) (by rw [W.hrs a7.k a3, a4, W0.hrs K p0.1, q1])
    rw [R0, C0]
    exact PW_tr W0 (PW_of b2' (PO_of M))
  · rw [a1] at C0; simp only [obs] at C0; rw [if_pos trivial] at C0
    rw [a2] at R0; simp only [obs] at R0
    have w1 : g1.1 123 j = I3 (400 - kd.length) := (a3.a.1 123 j (by unfold SRq SRb SRp SRh SRt; omega)).trans f123
    rw [ldI_I j4 (by decide), w1] at R0; simp only [obs] at R0
    have h0 := h_m1 K p0.1
    have F4 : ∀ u, F_432 15 19 (I3 (pt 0)) (-1) u = some (-1, u) := fun u => by
      show F_432_0 15 19 (I3 (pt 0)) (-1) u = _
      unfold F_432_0 F_432_11
      rw [if_neg h0, if_pos rfl]
    rw [F4] at R0
    have W : TW T h1 g1 h1 (sm_wI g1 67 94 (I3 (400 - kd.length))) := TW_sc a3.k agr_rfl (agr_wI agr_rfl (Or.inl ⟨rfl, rfl⟩))
    rw [R0, C0]
    exact Or.inr ⟨e, h1, _, rfl, rfl, TW_trans (TW_of (TB_of a3)) W, ⟨a4.1, a4.2.1, a4.2.2.1, a4.2.2.2.1, a4.2.2.2.2.1, a4.2.2.2.2.2⟩, NL_S (SCO_TK S a3)⟩
theorem catchX {st ex : Int32} (X : EX n bt nd rec (o + 1)) (B : BS n bt nd (o + 1) T (k + 1) 0 0 f nm kd pt h g) (F : FC g (k + 1) f0 kd.length 6 st ex) (ko : k < o) (hT : T ≤ 8 * k) (m3 : m ≤ 4000) (e : g.1 124 k = I3 m) : BO n bt o T k m f nm kd h g (F_210 rec (I3 f0) h) := by
  have o20 := B.op.2.2
  have s0 := B.t
  have fn := RB_n B.r
  have C0 : F_210 rec (I3 f0) h = F_210_0 rec (I3 f0) h := rfl
  unfold F_210_0 F_210_28 F_210_54 F_210_95 F_210_153 at C0
  rw [show h.1 55 12 = I3 T from s0.t.1] at C0; simp only [obs] at C0
  have RR : ∀ g' i, agr (XRp (k + 1)) g g' → g'.1 67 102 = I3 (k + 1 + 1) → g'.1 124 (k + 1) = I3 i → i ≤ 2 → F_451 g' = if i = 0 then wp (F_448 g') else if i = 2 then wp (F_457 g') else wp ((F_426 g').bind fun q3 => if q3.1 = 0 then some (0, q3.2) else ((F_450 q3.2).bind fun q4 => if q4.1 = 0 then some (0, q4.2) else ((F_427 q4.2).bind fun q5 => if q5.1 = 0 then some (0, q5.2) else ((F_444 (q5.2.2.1 67 108) 19 q5.2).bind fun q6 => wp (F_448 q6))))) := fun g' i a b c i2 => by
    have F' := FC_x F a
    rw [F451s b (by omega) F'.1 (Or.inr (Or.inl rfl)), if_neg (by decide), if_pos rfl]
    have R1 : F_454 (I3 (k + 1)) g' = F_454_0 (I3 (k + 1)) g' := rfl
    unfold F_454_0 F_454_50 at R1
    rw [ldI_I (by omega) (by decide), c] at R1; simp only [obs] at R1
    rcases (show i = 0 ∨ i = 1 ∨ i = 2 by omega) with rfl | rfl | rfl
    · rw [if_pos (by decide)] at R1
      rw [R1, if_pos rfl]; exact wp_wp _
    · rw [if_neg (by decide), if_neg (by decide)] at R1
      rw [R1, if_neg (by decide), if_neg (by decide)]; rfl
    · rw [if_neg (by decide), if_pos (by decide)] at R1
      rw [R1, if_neg (by decide), if_pos rfl]; exact wp_wp _
  rcases parts (g0 := g) X (Nat.le_refl _) (show k + 1 < o + 1 by omega) (by omega) (by omega) (show T + 8 ≤ 8 * (k + 1) by omega) (show 1 ≤ 8 by omega) 1 0 1000000 0 f pt h g (by omega) (by omega) (by omega) B agr_rfl (fun i' g' h1 h2 a b c => by
      rw [RR g' i' a b c (by omega), if_pos (by omega)]) with ⟨h1, g1, f1, c1, pt1, a1, a2, a3, a4, a5, a6, a7⟩ | ⟨e, pc, h1, g1, c, a1, a2, a3, a4, a5⟩
  rotate_left
  · rw [show F_199 rec 1 h = some (0, h1) from a1] at C0; simp only [obs] at C0; rw [if_pos trivial] at C0
    exact Or.inr ⟨e, pc, h1, g1, c, C0, a2, a3, a4, a5⟩
  rw [Nat.zero_add] at a4 a6
  rw [show F_199 rec 1 h = some (1, h1) from a1] at C0; simp only [obs] at C0; rw [if_neg (by decide)] at C0
  have ok0 := a6 0 (by omega) (by omega)
  have k10 : kd.length ≤ 10 := by rw [← ok0.2]; exact hpl10 a4.t.K ok0.1
  have X01 : XT T (k + 1) h g h1 g1 := PT_XT a4.t.K a4.t.l (PT_s (by omega) a7)
  have R1 := RR g1 1 a7.2.2.2 a4.t.b a4.mm (by omega)
  rw [if_neg (by decide), if_neg (by decide)] at R1
  have fn1 := RB_n a4.r
  rcases openB a4.t a4.op a4.c a4.r with ⟨h2, g2, -, b1, b2', b3, b4, b5, b6, b7, b8, b9, b10⟩ | ⟨e', h2, g2, b1, b2', b3, b4⟩
  rotate_left
  · rw [b1] at C0; simp only [obs] at C0; rw [if_pos trivial] at C0
    rw [b2'] at R1; simp only [obs] at R1; rw [if_pos trivial] at R1
    exact BO_tr a2 a3 X01 (BO_f a4.t.b (by omega) fn1 R1 C0 b3 (XT_mono (Nat.zero_le _) (Nat.zero_le _) b4))
  rw [b1] at C0; simp only [obs] at C0; rw [if_neg (by decide)] at C0
  rw [b2'] at R1; simp only [obs] at R1; rw [if_neg (by decide)] at R1
  rcases nameB b3 b5 b6 with ⟨h3, g3, c1', c2, c3, c4, c5, c6, c7, c8, c9, c10, c11, c12⟩ | ⟨e', h3, g3, c1', c2, c3, c4⟩
  rotate_left
  · rw [c1'] at C0; simp only [obs] at C0; rw [if_pos trivial] at C0
    rw [c2] at R1; simp only [obs] at R1; rw [if_pos trivial] at R1
    exact BO_tr a2 a3 X01 (BO_f a4.t.b (by omega) fn1 R1 C0 c3 (XT_mono (Nat.zero_le _) (Nat.zero_le _) (XT_trans b8 c4)))
  generalize hx : foldN bt (nx n bt f1) (men n bt (nx n bt f1) - nx n bt f1) = x at c4 c5
  rw [c1'] at C0; simp only [obs] at C0; rw [if_neg (by decide), show F_248 h3 = some (h3.2.1 52 10, h3) from rfl, c4] at C0; simp only [obs] at C0
  rw [c2] at R1; simp only [obs] at R1; rw [if_neg (by decide)] at R1
  have p3 : OP (o + 1 + 1) h3 g3 := OP_x b4 c11 c12 (by unfold S52; omega) (by unfold SLx; omega)
  rcases closeE c3 p3 c7 c8 with ⟨h4, g4, d1, d2, d3, d4, d5, d6, d7, d8, d9⟩ | ⟨e', h4, g4, d1, d2, d3, d4⟩
  rotate_left
  · rw [d1] at C0; simp only [obs] at C0; rw [if_pos trivial] at C0
    rw [d2] at R1; simp only [obs] at R1; rw [if_pos trivial] at R1
    exact BO_tr a2 a3 X01 (BO_f a4.t.b (by omega) fn1 R1 C0 d3 (XT_mono (Nat.zero_le _) (Nat.zero_le _) (XT_trans b8 (XT_trans c10 d4))))
  rw [d1] at C0; simp only [obs] at C0; rw [if_neg (by decide)] at C0
  rw [d2] at R1; simp only [obs] at R1; rw [if_neg (by decide), show g4.2.1 67 108 = x from (close_108 c3.xr c3.nf.2 c8 p3.2.1 d2).trans c5] at R1
  have X14 : XT T (k + 1) h1 g1 h4 g4 := XT_mono (by omega) (by omega) (XT_trans b8 (XT_trans c10 (XT_y (T' := T + 1) (k' := k + 1 + 1) c3.K d8 d9)))
  have a14c : agr Scl h1 h4 := agr_trans (agr_trans b9 (agr_mono (fun b j z => Or.inl z) c11)) d8
  have a14r : agr Srl g1 g4 := agr_trans (agr_trans (agr_mono (fun b j z => by
    rcases z with z | z
    · exact Or.inl z
    · exact Or.inr ⟨z.1, by omega⟩) b10) (agr_mono (fun b j z => by
    rcases z with z | z
    · exact Or.inl z
    · exact Or.inr ⟨z.1, by omega⟩) c12)) d9
  obtain ⟨h5, h6, g6, e1, e2, e3, e4, e5, e6⟩ := SCO_bind d3.S k10 x (k := 19) (by decide) (by omega) (I3 f0)
  rw [e1] at C0; simp only [obs] at C0; rw [if_neg (by decide), show F_183 0 x 19 h5 = some h6 from e2] at C0; simp only [obs] at C0
  rw [show F_444 x 19 g4 = some g6 from e3] at R1; simp only [obs] at R1
  have R1' : F_451 g1 = wp (F_448 g6) := R1.trans (wp_wp _)
  obtain ⟨s6, X46⟩ := TS_sc (T' := T) (k' := k + 1) d3 e5 e6 e4
  have X16 := XT_trans X14 X46
  have B6 : BS n bt nd (o + 1) T (k + 1) 1 1 (nx n bt (nx n bt (nx n bt f1))) (nm1 x nm) (19 :: kd) pt1 h6 g6 := ⟨s6, OP_x d4 e5 e6 (by unfold Ssp; omega) (by unfold Ssr; omega), DF_T a4.t.K a4.d X16, by
      obtain ⟨q, u1, u2, u3⟩ := d5
      exact ⟨q, (e5.1 52 3 (by unfold Ssp; omega)).trans u1, u2, u3⟩, by
      obtain ⟨q, u1, u2, u3⟩ := d6
      exact ⟨q, (e6.1 67 79 (by unfold Ssr; omega)).trans u1, u2, u3⟩, (e6.1 124 _ (by unfold Ssr; omega)).trans ((a14r.1 124 _ (by unfold Srl SLx; omega)).trans a4.mm), fun i hi i2 => (e6.1 125 _ (by unfold Ssr; omega)).trans ((a14r.1 125 _ (by unfold Srl SLx; omega)).trans (a4.q i hi i2)), fun i hi => (e5.1 60 _ (by unfold Ssp; omega)).trans ((a14c.1 60 _ (by unfold Scl S52; omega)).trans (a4.s i hi))⟩
  rcases partF (N := 1) (i := 0) X (Nat.le_refl _) (show k + 1 < o + 1 by omega) (show T + 8 ≤ 8 * (k + 1) by omega) (by omega) (by omega) (by omega) (by omega) B6 with ⟨y, h8, g8, f8, c8', t1, t2, t3, t4, t5, t6, t7⟩ | ⟨e', pc, h8, g8, c8', t1, t2, t3, t4, t5⟩
  rotate_left
  · rw [show F_199 rec 1 h6 = some (0, h8) from t1 1000000 (by omega)] at C0; simp only [obs] at C0; rw [if_pos trivial] at C0
    exact BO_tr a2 a3 X01 (BO_d a4.t.b (by omega) (by omega) R1' t5 t4 C0 t2 (XT_trans (XT_mono (Nat.zero_le _) (Nat.zero_le _) X16) t3))
  rw [show F_199 rec 1 h6 = some (1, h8) from (t1 1000000 (by omega)).trans (F199_e (N := 1) (by omega) (by omega) rec h8)] at C0; simp only [obs] at C0; rw [if_neg (by decide)] at C0
  have Rn2 : Run g1 (c8' + 1) g8 := RunR_run a4.t.b (by omega) (by omega) R1' (RunR_wp t2)
  have X18 : XT T (k + 1) h1 g1 h8 g8 := XT_trans X16 (PT_XT t4.t.K t4.t.l (PT_s (by omega) t7))
  have X08 := XT_trans X01 X18
  have F6 : FC g6 (k + 1) f0 kd.length 6 st ex := by
    have F4 := FC_r (FC_x F a7.2.2.2) a14r
    have ee : ∀ b, 119 ≤ b → b ≤ 123 → g6.1 b (k + 1) = g4.1 b (k + 1) := fun b b1 b2 => e6.1 b (k + 1) (by unfold Ssr; omega)
    exact ⟨(ee 119 (by omega) (by omega)).trans F4.1, (ee 120 (by omega) (by omega)).trans F4.2.1, (ee 121 (by omega) (by omega)).trans F4.2.2.1, (ee 122 (by omega) (by omega)).trans F4.2.2.2.1, (ee 123 (by omega) (by omega)).trans F4.2.2.2.2⟩
  have F8 := FC_x F6 t7.2.2.2
  have R2 : F_451 g8 = wp (F_457 g8) := by
    rw [F451s t4.t.b (by omega) F8.1 (Or.inr (Or.inl rfl)), if_neg (by decide), if_pos rfl]
    have R1 : F_454 (I3 (k + 1)) g8 = F_454_0 (I3 (k + 1)) g8 := rfl
    unfold F_454_0 F_454_50 at R1
    rw [ldI_I (by omega) (by decide), t4.mm] at R1; simp only [obs] at R1
    rw [if_neg (by decide), if_pos (by decide)] at R1
    rw [R1]; exact wp_wp _
  rw [C0]
  refine BO_tr (f := f8) (Run_trans a2 Rn2) (by omega) X08 (closeFin (mk := mkC T f0) t4 (by omega) m3 F8.2.1 F8.2.2.2.2 ((X08.a.1 124 k (by unfold XRc SRa SRq SRb SRp SRh SRt Ssr SLx; omega)).trans e) R2 (fun h9 g9 s9 x9 => ?_))
  obtain ⟨s10, x10⟩ := TS_x (T' := T + 2) (k' := k + 2) s9 agr_rfl (agr_wI agr_rfl (Or.inr ⟨rfl, Or.inr (Or.inl rfl)⟩) : agr (fun b j => SLx b j ∨ (b = 67 ∧ (j = 105 ∨ j = 106 ∨ j = 108))) g9 (sm_wI g9 67 106 (I3 f0)))
  have x11 := XT_trans x9 x10
  have fe : ∀ b, 119 ≤ b → b ≤ 124 → (sm_wI g9 67 106 (I3 f0)).1 b (k + 1) = g8.1 b (k + 1) := fun b b1 b2 => x11.a.1 b (k + 1) (by unfold XRc SRa SRq SRb SRp SRh SRt Ssr SLx; omega)
  have y0 : pt1 0 < nH g8 ∧ hpl g8 (pt1 0) = kd := ⟨X18.nH ok0.1, (X18.hpl a4.t.K ok0.1).trans ok0.2⟩
  exact catchEnd (ex := ex) (x := x) (pt := updN pt1 1 y) s10.K s10.S s10.nf rfl ⟨T + 2, s9.t.1, Nat.le_refl _, s9.t.2, fun i hi => (x9.c.1 60 _ (by unfold XCc SCq SCb Ssc SCd SCh SCt Ssp S52; omega)).trans (t4.s i hi)⟩ ⟨x11.nH y0.1, (x11.hpl t4.t.K y0.1).trans y0.2⟩ ⟨x11.nH t5, (x11.hpl t4.t.K t5).trans t6⟩ ⟨by omega, (fe 119 (by omega) (by omega)).trans F8.1, (fe 122 (by omega) (by omega)).trans F8.2.2.2.1, (fe 124 (by omega) (by omega)).trans t4.mm, by omega, fun i hi => (x11.a.1 125 _ (by unfold XRc SRa SRq SRb SRp SRh SRt Ssr SLx; omega)).trans (t4.q i hi (by omega))⟩ ((fe 123 (by omega) (by omega)).trans F8.2.2.2.2)
end
