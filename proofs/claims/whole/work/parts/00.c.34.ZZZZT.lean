theorem lst_cons (f : Nat → Int32) (n : Nat) : lst f (n + 1) = f 0 :: lst (fun i => f (i + 1)) n := by
  unfold lst
  rw [List.range_succ_eq_map, List.map_cons, List.map_map]
  rfl
def Z455 (j : Nat) (u : sm_H) : Option (Int32 × sm_H) := (stI u 121 24 (I3 j) 2).bind fun h4 => (F_426 h4).bind fun q5 => if q5.1 = 0 then some (0, q5.2) else wp (F_448 q5.2)
theorem Z455_b {j : Nat} {x : Int32} (hx : x < 0) (u : sm_H) : F_455_123B (I3 j, x, u) = (Z455 j u).map .inr := by
  unfold F_455_123B Z455 wp
  show (if x < 0 then _ else _) = _
  rw [if_pos hx]
  simp only []
  cases stI u 121 24 (I3 j) 2 with
  | none => rfl
  | some h4 =>
    simp only [Option.bind_some]
    cases F_426 h4 with
    | none => rfl
    | some q5 =>
      simp only [Option.bind_some]
      by_cases z : q5.1 = 0
      · rw [if_pos z, if_pos z]; rfl
      · rw [if_neg z, if_neg z]
        cases F_448 q5.2 with
        | none => rfl
        | some q6 =>
          simp only [Option.bind_some]
          by_cases w : q6.1 = 0 ∨ q6.1 = 1
          · rw [if_pos w, if_pos w]; rfl
          · rw [if_neg w, if_neg w]; rfl
section
variable {n : Nat} {bt : Nat → Nat} {nd o T j k m p f f0 nv : Nat} {nm nm' ns : Nat → Int64} {kd kd' : List Int32} {pt : Nat → Nat} {h g : sm_H} {rec : sm_H → Option (Int32 × sm_H)}
theorem R_bindN (K : K1 h g) (S : SCR nm kd g) (hl : kd.length + nv < 400) (v3 : nv ≤ 3) (b : g.1 67 102 = I3 (j + 1)) (hj : j < 24) (hn : ∀ i, i < nv → g.2.1 126 (3 * j + i) = ns i) (hq : ∀ i, i < nv → g.1 125 (20 * j + i) = I3 (pt i) ∧ pt i < nH g) : ∃ g1, SCR (nmN ns nv nm) (lst (fun i => hrs g (pt i)) nv ++ kd) g1 ∧ agr Ssr g g1 ∧ ∀ r, Z455 j g1 = some r → F_455_123 (I3 j) (I3 nv - 1) g = some r := by
  have LP : ∀ c u fu, c ≤ nv → c < fu → agr Ssr g u → SCR (fun i => if i < nv - c then ns (c + i) else nm (i - (nv - c))) (lst (fun i => hrs g (pt (c + i))) (nv - c) ++ kd) u → ∃ g1, SCR (nmN ns nv nm) (lst (fun i => hrs g (pt i)) nv ++ kd) g1 ∧ agr Ssr g g1 ∧ ∀ r, Z455 j g1 = some r → lp F_455_123B fu (I3 j, I3 c - 1, u) = some r := by
    intro c
    induction c with
    | zero =>
      intro u fu hc hf au Su
      refine ⟨u, ?_, au, fun r hr => lp_e (by omega) ?_⟩
      · have e1 : (fun i => if i < nv - 0 then ns (0 + i) else nm (i - (nv - 0))) = nmN ns nv nm := by
          funext i
          unfold nmN
          rw [Nat.sub_zero, Nat.zero_add]
        have e2 : lst (fun i => hrs g (pt (0 + i))) (nv - 0) = lst (fun i => hrs g (pt i)) nv := by
          rw [Nat.sub_zero]; exact lst_congr (fun i _ => by rw [Nat.zero_add])
        rw [e1, e2] at Su
        exact Su
      · rw [Z455_b (by decide), hr]; rfl
    | succ c ih =>
      intro u fu hc hf au Su
      have W : TW 0 h g h u := TW_sc K agr_rfl au
      have eq1 : u.1 125 (20 * j + c) = I3 (pt c) := (au.1 125 _ (by unfold Ssr; omega)).trans (hq c (by omega)).1
      have lp1 := (hq c (by omega)).2
      have ll : (lst (fun i => hrs g (pt (c + 1 + i))) (nv - (c + 1)) ++ kd).length < 400 := by rw [List.length_append, lst_len]; omega
      obtain ⟨u1, d1, d2, d3⟩ := R_bind Su ll (ns c) (hrs g (pt c))
      have B : F_455_123B (I3 j, I3 (c + 1) - 1, u) = some (.inl (I3 j, I3 c - 1, u1)) := by
        rw [I3_s1]
        unfold F_455_123B
        show (if I3 c < 0 then _ else _) = _
        rw [if_neg (I3_nn (by omega))]
        simp only []
        rw [show (3 : Int32) * I3 j + I3 c = I3 (3 * j + c) by rw [I3_lit, I3_mul, I3_add], ldJ_I (by omega) (by decide), au.2.1 126 _ (by unfold Ssr; omega), hn c (by omega)]; simp only [obs]
        rw [R_449 (i := c) ((au.1 67 102 (by unfold Ssr; omega)).trans b) hj (by omega), eq1]; simp only [obs]
        rw [R_rs W.k (W.nH lp1), W.hrs K lp1]; simp only [obs]
        rw [d1]; simp only [obs]
        rw [show I3 c + (-1) = I3 c - 1 from (Int32.sub_eq_add_neg _ _).symm]
      have en : nm1 (ns c) (fun i => if i < nv - (c + 1) then ns (c + 1 + i) else nm (i - (nv - (c + 1)))) = fun i => if i < nv - c then ns (c + i) else nm (i - (nv - c)) := by
        funext i
        unfold nm1
        by_cases q : i = 0
        · subst q
          rw [if_pos rfl, if_pos (by omega), Nat.add_zero]
        · rw [if_neg q]
          by_cases w : i < nv - c
          · show (if i - 1 < nv - (c + 1) then ns (c + 1 + (i - 1)) else nm (i - 1 - (nv - (c + 1)))) = _
            rw [if_pos w, if_pos (by omega), show c + 1 + (i - 1) = c + i by omega]
          · show (if i - 1 < nv - (c + 1) then ns (c + 1 + (i - 1)) else nm (i - 1 - (nv - (c + 1)))) = _
            rw [if_neg w, if_neg (by omega), show i - 1 - (nv - (c + 1)) = i - (nv - c) by omega]
      have ek : hrs g (pt c) :: (lst (fun i => hrs g (pt (c + 1 + i))) (nv - (c + 1)) ++ kd) = lst (fun i => hrs g (pt (c + i))) (nv - c) ++ kd := by
        rw [show nv - c = (nv - (c + 1)) + 1 by omega, lst_cons, Nat.add_zero]
        rw [lst_congr (f := fun i => hrs g (pt (c + (i + 1)))) (f1 := fun i => hrs g (pt (c + 1 + i))) (fun i _ => by rw [show c + (i + 1) = c + 1 + i by omega])]
        rfl
      rw [en, ek] at d2
      obtain ⟨g1, z1, z2, z3⟩ := ih u1 (fu - 1) (by omega) (by omega) (agr_trans au d3) d2
      exact ⟨g1, z1, z2, fun r hr => by rw [lp_s (by omega) B]; exact z3 r hr⟩
  have S0 : SCR (fun i => if i < nv - nv then ns (nv + i) else nm (i - (nv - nv))) (lst (fun i => hrs g (pt (nv + i))) (nv - nv) ++ kd) g := by
    rw [Nat.sub_self]
    have e1 : (fun i => if i < 0 then ns (nv + i) else nm (i - 0)) = nm := by
      funext i
      rw [if_neg (by omega), Nat.sub_zero]
    rw [e1]; exact S
  exact LP nv g 1000000 (Nat.le_refl _) (by omega) agr_rfl S0
theorem F455w {i kl : Nat} {st : Int32} (F : FC g j f0 kl 5 st (I3 nv)) (b : g.1 67 102 = I3 (j + 1)) (j4 : j < 24) (c : g.1 124 j = I3 i) (v3 : nv ≤ 3) (i8 : i ≤ 8) (hs : st = 2 ∨ st = 3) (ne : i = 2 * nv → st = 3) : F_451 g = if 2 * nv + 2 ≤ i then wp (F_457 g) else wp (F_448 g) := by
  rw [F451s b j4 F.1 (Or.inr (Or.inr rfl)), if_neg (by decide), if_neg (by decide)]
  have R1 : F_455 (I3 j) g = F_455_0 (I3 j) g := rfl
  unfold F_455_0 at R1
  rw [ldI_I j4 (by decide), F.2.2.1] at R1; simp only [obs] at R1
  rw [if_neg (by rcases hs with rfl | rfl <;> decide), if_neg (by rcases hs with rfl | rfl <;> decide), ldI_I j4 (by decide), F.2.2.2.1] at R1; simp only [obs] at R1
  rw [ldI_I j4 (by decide), c] at R1; simp only [obs] at R1
  have R2 : F_455_222 (I3 j) (I3 nv) g = if 2 * nv + 2 ≤ i then wp (F_457 g) else wp (F_448 g) := by
    unfold F_455_222
    rw [ldI_I j4 (by decide), c]; simp only [obs]
    rw [show (2 : Int32) * I3 nv + 2 = I3 (2 * nv + 2) by rw [show (2 : Int32) * I3 nv = I3 (2 * nv) from I3_mul 2 nv]; exact I3_add _ 2]
    by_cases q : 2 * nv + 2 ≤ i
    · rw [if_pos q, if_pos (by rw [I3_le (by omega) (by omega)]; exact q)]; rfl
    · rw [if_neg q, if_neg (by rw [I3_le (by omega) (by omega)]; exact q)]; rfl
  rw [show (2 : Int32) * I3 nv = I3 (2 * nv) from I3_mul 2 nv] at R1
  have R3 : F_455 (I3 j) g = F_455_222 (I3 j) (I3 nv) g := by
    by_cases q : i = 2 * nv
    · rw [if_pos (by rw [q]), if_neg (by rw [ne q]; decide)] at R1; exact R1
    · rw [if_neg (by rw [I3_inj (by omega) (by omega)]; exact q)] at R1; exact R1
  rw [R3, R2]
  by_cases q : 2 * nv + 2 ≤ i
  · rw [if_pos q]; exact wp_wp _
  · rw [if_neg q]; exact wp_wp _
theorem F455x {kl : Nat} (F : FC g j f0 kl 5 2 (I3 nv)) (b : g.1 67 102 = I3 (j + 1)) (j4 : j < 24) (c : g.1 124 j = I3 (2 * nv)) (v3 : nv ≤ 3) : F_451 g = wp ((F_427 g).bind fun q17 => if q17.1 = 0 then some (0, q17.2) else ((stI q17.2 121 24 (I3 j) 3).bind fun h18 => F_455_222 (I3 j) (I3 nv) h18)) := by
  rw [F451s b j4 F.1 (Or.inr (Or.inr rfl)), if_neg (by decide), if_neg (by decide)]
  have R1 : F_455 (I3 j) g = F_455_0 (I3 j) g := rfl
  unfold F_455_0 at R1
  rw [ldI_I j4 (by decide), F.2.2.1] at R1; simp only [obs] at R1
  rw [if_neg (by decide), if_neg (by decide), ldI_I j4 (by decide), F.2.2.2.1] at R1; simp only [obs] at R1
  rw [ldI_I j4 (by decide), c] at R1; simp only [obs] at R1
  rw [show (2 : Int32) * I3 nv = I3 (2 * nv) from I3_mul 2 nv, if_pos rfl] at R1
  rw [R1]
  simp only [if_true]
def K211 (rec : sm_H → Option (Int32 × sm_H)) (f0 T : Nat) (q12 : Int32 × sm_H) : Option (Int32 × sm_H) :=
  if q12.1 = 0 then some (-1, q12.2)
  else ((F_208 (I3 T) q12.1 (I3 f0) q12.2).bind fun q13 =>
  if q13.1 = 0 then some (-1, q13.2)
  else ((F_174 q13.2).bind fun q14 =>
  if q14.1 = 0 then some (-1, q14.2)
  else ((F_199 rec q12.1 q14.2).bind fun q15 =>
  if q15.1 = 0 then some (-1, q15.2)
  else ((F_175 q15.2).bind fun q16 =>
  if q16.1 = 0 then some (-1, q16.2)
  else ((F_199 rec 2 q16.2).bind fun q17 =>
  if q17.1 = 0 then some (-1, q17.2)
  else ((F_175 q17.2).bind fun q18 =>
  if q18.1 = 0 then some (-1, q18.2)
  else F_211_69 rec (I3 f0) (I3 T) q12.1 0 q18.2))))))
theorem loopQ {fb : Nat} {hb gb : sm_H} (X : EX n bt nd rec (o + 1)) (ko : k < o) (hT : T ≤ 8 * k) (m3 : m ≤ 4000) (v1 : 1 ≤ nv) (v3 : nv ≤ 3) (B : BS n bt nd (o + 1) T (k + 1) nv nv f nm kd pt h g) (F : FC g (k + 1) f0 kd.length 5 1 (I3 nv)) (hn : ∀ i, i < nv → g.2.1 126 (3 * (k + 1) + i) = ns i ∧ h.2.1 61 (T + i) = ns i) (ok : ∀ i, i < nv → pt i < nH g ∧ hpl g (pt i) = kd ∧ ¬ hrs g (pt i) = 0) (eb : ∀ r, F_455_123 (I3 (k + 1)) (I3 nv - 1) g = some r → F_451 gb = wp (some r)) (Xb : XT T (k + 1) hb gb h g) (bb : gb.1 67 102 = I3 (k + 2)) (ff : fb < f) (e : gb.1 124 k = I3 m) : BO n bt o T k m fb nm kd hb gb (K211 rec f0 T (I3 nv, h)) := by
  have o20 := B.op.2.2
  have fn := RB_n B.r
  have ok0 := ok 0 (by omega)
  have k10 : kd.length ≤ 10 := by rw [← ok0.2.1]; exact hpl10 B.t.K ok0.1
  have C0 : K211 rec f0 T (I3 nv, h) = K211 rec f0 T (I3 nv, h) := rfl
  conv at C0 => rhs; unfold K211
  simp only [] at C0
  rw [if_neg (show ¬ I3 nv = (0 : Int32) by rw [I3_lit, I3_inj (by omega) (by decide)]; omega)] at C0
  obtain ⟨h1, w1, w2, w3⟩ := C_208 (ns := ns) (nv := nv) (T := T) (pt := pt) B.t.K (SCO_iff.mp B.t.S).1 (by omega) v3 ⟨T + nv, B.t.t.1, Nat.le_refl _, B.t.t.2, B.s⟩ (fun i hi => (ok i hi).1) (fun i hi => (hn i hi).2) (I3 f0)
  rw [w1] at C0; simp only [obs] at C0; rw [if_neg (by decide)] at C0
  obtain ⟨g1, z1, z2, z3⟩ := R_bindN (ns := ns) (nv := nv) (pt := pt) B.t.K (SCO_iff.mp B.t.S).2.1 (by omega) v3 B.t.b (by omega) (fun i hi => (hn i hi).1) (fun i hi => ⟨B.q i hi (by omega), (ok i hi).1⟩)
  generalize hks : lst (fun i => hrs g (pt i)) nv = ks at w2 z1
  have lks : ks.length = nv := by rw [← hks, lst_len]
  have aks : ∀ i, i < nv → at0 ks i = hrs g (pt i) := fun i hi => by rw [← hks, at0_lst hi]
  have nc1 : nC g1 = nC g := by show tn _ = tn _; rw [z2.1 67 6 (by unfold Ssr; omega)]
  have S1 : SCO (nmN ns nv nm) (ks ++ kd) h1 g1 := SCO_iff.mpr ⟨w2, z1, by rw [List.length_append]; omega, kL_app2 (fun i hi => by
    obtain ⟨q, u1, u2⟩ := rs_k B.t.K (ok i (by omega)).1
    refine ⟨q, (aks i (by omega)).trans u1, Nat.pos_of_ne_zero (fun z => (ok i (by omega)).2.2 ?_), by omega⟩
    rw [u1, z]; rfl) (kL_grow (Nat.le_of_eq nc1.symm) B.t.S.2.2.2.1)⟩
  obtain ⟨s1, X1⟩ := TS_sc (T' := T) (k' := k + 1) B.t w3 z2 S1
  have a12 : agr (fun b i => b = 121 ∧ i = k + 1) g1 (sm_wI g1 121 (k + 1) 2) := agr_wI agr_rfl ⟨rfl, rfl⟩
  have s2 : TS n bt (T + nv) (k + 1 + 1) (nmN ns nv nm) (ks ++ kd) h1 (sm_wI g1 121 (k + 1) 2) := TS_f s1 (agr_mono (fun b i z => by omega) a12)
  have X2 : XT T (k + 1) h1 g1 h1 (sm_wI g1 121 (k + 1) 2) := XT_x s1.K agr_rfl (agr_mono (fun b i z => Or.inr (Or.inr (Or.inl ⟨by omega, by omega, by omega⟩))) a12)
  have F2 : FC (sm_wI g1 121 (k + 1) 2) (k + 1) f0 kd.length 5 2 (I3 nv) := by
    have ee : ∀ b, 119 ≤ b → b ≤ 123 → g1.1 b (k + 1) = g.1 b (k + 1) := fun b b1 b2 => z2.1 b (k + 1) (by unfold Ssr; omega)
    exact ⟨(ee 119 (by omega) (by omega)).trans F.1, (ee 120 (by omega) (by omega)).trans F.2.1, if_pos rfl, (ee 122 (by omega) (by omega)).trans F.2.2.2.1, (ee 123 (by omega) (by omega)).trans F.2.2.2.2⟩
  have m2 : (sm_wI g1 121 (k + 1) 2).1 124 (k + 1) = I3 nv := (z2.1 124 _ (by unfold Ssr; omega)).trans B.mm
  have q2 : ∀ i, i < nv → (sm_wI g1 121 (k + 1) 2).1 125 (20 * (k + 1) + i) = I3 (pt i) := fun i hi => (z2.1 125 _ (by unfold Ssr; omega)).trans (B.q i hi (by omega))
  have r2 : RB n bt f (sm_wI g1 121 (k + 1) 2) := by
    obtain ⟨q, u1, u2, u3⟩ := B.r
    exact ⟨q, (z2.1 67 79 (by unfold Ssr; omega)).trans u1, u2, u3⟩
  have Z2 : Z455 (k + 1) g1 = (F_426 (sm_wI g1 121 (k + 1) 2)).bind fun q5 => if q5.1 = 0 then some (0, q5.2) else wp (F_448 q5.2) := by
    unfold Z455
    rw [stI_I (by omega) (by decide)]; rfl
  have p2 : OP (o + 1) h1 (sm_wI g1 121 (k + 1) 2) := OP_x B.op w3 (agr_trans (agr_mono (fun b i z => Or.inl z) z2) (agr_mono (fun b i z => Or.inr z) a12)) (by unfold Ssp; omega) (by unfold Ssr; omega)
  have c2 : CB n bt f h1 := by
    obtain ⟨q, u1, u2, u3⟩ := B.c
    exact ⟨q, (w3.1 52 3 (by unfold Ssp; omega)).trans u1, u2, u3⟩
  generalize hg2 : sm_wI g1 121 (k + 1) 2 = g2 at *
  have Xb2 : XT T (k + 1) hb gb h1 g2 := XT_trans Xb (XT_trans X1 X2)
  have X02 : XT T (k + 1) h g h1 g2 := XT_trans X1 X2
  rcases openB s2 p2 c2 r2 with ⟨h3, g3, -, b1, b2', b3, b4, b5, b6, b7, b8, b9, b10⟩ | ⟨e', h3, g3, b1, b2', b3, b4⟩
  rotate_left
  · rw [b1] at C0; simp only [obs] at C0; rw [if_pos trivial] at C0
    rw [b2'] at Z2; simp only [obs] at Z2; rw [if_pos trivial] at Z2
    exact BO_f bb (by omega) (by omega) (eb _ (z3 _ Z2)) C0 b3 (XT_trans (XT_mono (Nat.zero_le _) (Nat.zero_le _) Xb2) (XT_mono (Nat.zero_le _) (Nat.zero_le _) b4))
  rw [b1] at C0; simp only [obs] at C0; rw [if_neg (by decide)] at C0
  rw [b2'] at Z2; simp only [obs] at Z2; rw [if_neg (by decide)] at Z2
  have a23r : agr Srl g2 g3 := agr_mono (fun b j z => by
    rcases z with z | z
    · exact Or.inl z
    · exact Or.inr ⟨z.1, by omega⟩) b10
  have X03 : XT T (k + 1) h g h3 g3 := XT_trans X02 (XT_mono (by omega) (by omega) b8)
  have Xb3 : XT T (k + 1) hb gb h3 g3 := XT_trans Xb X03
  have B3 : BS n bt nd (o + 2) T (k + 1) nv nv (nx n bt f) (nmN ns nv nm) (ks ++ kd) pt h3 g3 := ⟨b3, b4, DF_T B.t.K B.d X03, b5, b6, (a23r.1 124 _ (by unfold Srl SLx; omega)).trans m2, fun i hi _ => (a23r.1 125 _ (by unfold Srl SLx; omega)).trans (q2 i hi), fun i hi => (b9.1 60 _ (by unfold S52; omega)).trans ((w3.1 60 _ (by unfold Ssp; omega)).trans (B.s i hi))⟩
  have F3 := FC_r F2 a23r
  have fE : ∀ rr c g', RunR rr c g' → F_448 g3 = rr → Run gb (c + 1) g' := fun rr c g' r er => by
    obtain ⟨g5, r1, r2⟩ := r
    rw [er, r1, wp1] at Z2
    exact RunR_run (j := k + 1) bb (by omega) (by omega) (eb _ (z3 _ Z2)) ⟨g5, rfl, r2⟩
  have fD : ∀ rr c g', DieR rr c g' → F_448 g3 = rr → Die gb (c + 1) g' := fun rr c g' r er => by
    rcases r with r | ⟨g5, r1, r2⟩
    · rw [er, r, wp0] at Z2
      exact DieR_die (j := k + 1) bb (by omega) (by omega) (eb _ (z3 _ Z2)) (Or.inl rfl)
    · rw [er, r1, wp1] at Z2
      exact DieR_die (j := k + 1) bb (by omega) (by omega) (eb _ (z3 _ Z2)) (Or.inr ⟨g5, rfl, r2⟩)
  rcases partF (N := nv) (i := 0) X (show o + 1 ≤ o + 2 by omega) (show k + 1 < o + 2 by omega) (show T + 8 ≤ 8 * (k + 1) by omega) (by omega) (by omega) (by omega) (by omega) B3 with ⟨y, h4, g4, f4, c4, t1, t2, t3, t4, t5, t6, t7⟩ | ⟨e', pc, h4, g4, c4, t1, t2, t3, t4, t5⟩
  rotate_left
  · rw [show F_199 rec (I3 nv) h3 = some (0, h4) from t1 1000000 (by omega)] at C0; simp only [obs] at C0; rw [if_pos trivial] at C0
    exact Or.inr ⟨e', pc, h4, g4, c4 + 1, C0, t2, XT_trans (XT_mono (Nat.zero_le _) (Nat.zero_le _) Xb3) t3, by omega, fD _ _ _ t5 rfl⟩
  have F4 := FC_x F3 t7.2.2.2
  have Rb4 := fE _ _ _ t2 rfl
  have X34 : XT T (k + 1) h3 g3 h4 g4 := PT_XT t4.t.K t4.t.l (PT_s (by omega) t7)
  rcases parts (g0 := g4) X (show o + 1 ≤ o + 2 by omega) (show k + 1 < o + 2 by omega) (by omega) (by omega) (show T + 8 ≤ 8 * (k + 1) by omega) (show nv ≤ 8 by omega) (nv - 1) 1 999999 (nv + 1) f4 (updN pt nv y) h4 g4 (by omega) (by omega) (by omega) t4 agr_rfl (fun i' g' i1 i2 a b c => by
      rw [F455w (FC_x F4 a) b (by omega) c v3 (by omega) (Or.inl rfl) (fun z => by omega), if_neg (by omega)]) with ⟨h5, g5, f5, c5, pt5, a1, a2, a3, a4, a5, a6, a7⟩ | ⟨e', pc, h5, g5, c5, a1, a2, a3, a4, a5⟩
  rotate_left
  · rw [show F_199 rec (I3 nv) h3 = some (0, h5) from (t1 1000000 (by omega)).trans a1] at C0; simp only [obs] at C0; rw [if_pos trivial] at C0
    exact Or.inr ⟨e', pc, h5, g5, (c4 + 1) + c5, C0, a2, XT_trans (XT_mono (Nat.zero_le _) (Nat.zero_le _) (XT_trans Xb3 X34)) a3, by omega, Run_die Rb4 a5⟩
  rw [show F_199 rec (I3 nv) h3 = some (1, h5) from (t1 1000000 (by omega)).trans a1] at C0; simp only [obs] at C0; rw [if_neg (by decide)] at C0
  rw [show nv + 1 + (nv - 1) = 2 * nv by omega] at a4 a6
  have F5 := FC_x F4 a7.2.2.2
  have X45 : XT T (k + 1) h4 g4 h5 g5 := PT_XT a4.t.K a4.t.l (PT_s (by omega) a7)
  have Rb5 := Run_trans Rb4 a2
  have Xb5 := XT_trans Xb3 (XT_trans X34 X45)
  have X05 := XT_trans X03 (XT_trans X34 X45)
  have R5 := F455x F5 a4.t.b (by omega) a4.mm v3
  have fn5 := RB_n a4.r
  rcases closeE a4.t a4.op a4.c a4.r with ⟨h6, g6, d1, d2, d3, d4, d5, d6, d7, d8, d9⟩ | ⟨e', h6, g6, d1, d2, d3, d4⟩
  rotate_left
  · rw [d1] at C0; simp only [obs] at C0; rw [if_pos trivial] at C0
    rw [d2] at R5; simp only [obs] at R5; rw [if_pos trivial] at R5
    exact BO_tr (f := f5) Rb5 (by omega) Xb5 (BO_f a4.t.b (by omega) fn5 R5 C0 d3 (XT_mono (Nat.zero_le _) (Nat.zero_le _) d4))
  rw [d1] at C0; simp only [obs] at C0; rw [if_neg (by decide)] at C0
  rw [d2] at R5; simp only [obs] at R5; rw [if_neg (by decide), stI_I (by omega) (by decide)] at R5; simp only [obs] at R5
  have a67 : agr (fun b i => b = 121 ∧ i = k + 1) g6 (sm_wI g6 121 (k + 1) 3) := agr_wI agr_rfl ⟨rfl, rfl⟩
  have F7 : FC (sm_wI g6 121 (k + 1) 3) (k + 1) f0 kd.length 5 3 (I3 nv) := by
    have F6 := FC_r F5 d9
    exact ⟨F6.1, F6.2.1, if_pos rfl, F6.2.2.2.1, F6.2.2.2.2⟩
  have m7 : (sm_wI g6 121 (k + 1) 3).1 124 (k + 1) = I3 (2 * nv) := (d9.1 124 _ (by unfold Srl SLx; omega)).trans a4.mm
  have q7 : ∀ i, i < 2 * nv → (sm_wI g6 121 (k + 1) 3).1 125 (20 * (k + 1) + i) = I3 (pt5 i) := fun i hi => (d9.1 125 _ (by unfold Srl SLx; omega)).trans (a4.q i hi (by omega))
  have r7 : RB n bt (nx n bt f5) (sm_wI g6 121 (k + 1) 3) := d6
  generalize hg7 : sm_wI g6 121 (k + 1) 3 = g7 at *
  have R7 : F_451 g5 = wp (F_448 g7) := by
    rw [R5]
    have R2 : F_455_222 (I3 (k + 1)) (I3 nv) g7 = wp (F_448 g7) := by
      unfold F_455_222
      rw [ldI_I (by omega) (by decide), m7]; simp only [obs]
      rw [show (2 : Int32) * I3 nv + 2 = I3 (2 * nv + 2) by rw [show (2 : Int32) * I3 nv = I3 (2 * nv) from I3_mul 2 nv]; exact I3_add _ 2, if_neg (by rw [I3_le (by omega) (by omega)]; omega)]; rfl
    rw [R2]; exact wp_wp _
  have s7 : TS n bt (T + 2 * nv) (k + 1 + 1) (nmN ns nv nm) (ks ++ kd) h6 g7 := TS_f d3 (agr_mono (fun b i z => by omega) a67)
  have X57 : XT T (k + 1) h5 g5 h6 g7 := XT_trans (XT_y a4.t.K d8 d9) (XT_x d3.K agr_rfl (agr_mono (fun b i z => Or.inr (Or.inr (Or.inl ⟨by omega, by omega, by omega⟩))) a67))
  have B7 : BS n bt nd (o + 1) T (k + 1) (2 * nv) (2 * nv) (nx n bt f5) (nmN ns nv nm) (ks ++ kd) pt5 h6 g7 := ⟨s7, OP_x d4 (P := fun _ _ => False) agr_rfl a67 (fun z => z) (by omega), DF_T a4.t.K a4.d X57, d5, r7, m7, fun i hi _ => q7 i hi, fun i hi => (d8.1 60 _ (by unfold Scl S52; omega)).trans (a4.s i hi)⟩
  rcases partF (N := 2) (i := 0) X (Nat.le_refl _) (show k + 1 < o + 1 by omega) (show T + 8 ≤ 8 * (k + 1) by omega) (by omega) (by omega) (by omega) (by omega) B7 with ⟨y8, h8, g8, f8, c8, t1', t2', t3', t4', t5', t6', t7'⟩ | ⟨e', pc, h8, g8, c8, t1', t2', t3', t4', t5'⟩
  rotate_left
  · rw [show F_199 rec 2 h6 = some (0, h8) from t1' 1000000 (by omega)] at C0; simp only [obs] at C0; rw [if_pos trivial] at C0
    exact BO_tr (f := f5) Rb5 (by omega) Xb5 (BO_d a4.t.b (by omega) (Nat.le_of_lt d7) R7 t5' t4' C0 t2' (XT_trans (XT_mono (Nat.zero_le _) (Nat.zero_le _) X57) t3'))
  have F8 := FC_x F7 t7'.2.2.2
  have Rb8 := Run_trans Rb5 (RunR_run (j := k + 1) a4.t.b (by omega) (by omega) R7 (RunR_wp t2'))
  have X78 : XT T (k + 1) h6 g7 h8 g8 := PT_XT t4'.t.K t4'.t.l (PT_s (by omega) t7')
  rcases parts (g0 := g8) X (Nat.le_refl _) (show k + 1 < o + 1 by omega) (by omega) (by omega) (show T + 8 ≤ 8 * (k + 1) by omega) (show 2 ≤ 8 by omega) 1 1 999999 (2 * nv + 1) f8 (updN pt5 (2 * nv) y8) h8 g8 (by omega) (by omega) (by omega) t4' agr_rfl (fun i' g' i1 i2 a b c => by
      rw [F455w (FC_x F8 a) b (by omega) c v3 (by omega) (Or.inr rfl) (fun _ => rfl), if_neg (by omega)]) with ⟨h9, g9, f9, c9, pt9, a1', a2', a3', a4', a5', a6', a7'⟩ | ⟨e', pc, h9, g9, c9, a1', a2', a3', a4', a5'⟩
  rotate_left
  · rw [show F_199 rec 2 h6 = some (0, h9) from (t1' 1000000 (by omega)).trans a1'] at C0; simp only [obs] at C0; rw [if_pos trivial] at C0
    exact Or.inr ⟨e', pc, h9, g9, _, C0, a2', XT_trans (XT_mono (Nat.zero_le _) (Nat.zero_le _) (XT_trans Xb5 (XT_trans X57 X78))) a3', by omega, Run_die Rb8 a5'⟩
  rw [show F_199 rec 2 h6 = some (1, h9) from (t1' 1000000 (by omega)).trans a1'] at C0; simp only [obs] at C0; rw [if_neg (by decide)] at C0
  rw [show 2 * nv + 1 + 1 = 2 * nv + 2 by omega] at a4' a6'
  have F9 := FC_x F8 a7'.2.2.2
  have X89 : XT T (k + 1) h8 g8 h9 g9 := PT_XT a4'.t.K a4'.t.l (PT_s (by omega) a7')
  have X79 := XT_trans X78 X89
  have Xb9 := XT_trans Xb5 (XT_trans X57 X79)
  rw [C0]
  refine BO_tr (f := f9) (Run_trans Rb8 a2') (by omega) Xb9 (closeFin (mk := F_211_69 rec (I3 f0) (I3 T) (I3 nv) 0) a4' (by omega) m3 F9.2.1 F9.2.2.2.2 ((Xb9.a.1 124 k (by unfold XRc SRa SRq SRb SRp SRh SRt Ssr SLx; omega)).trans e) (by
    rw [F455w F9 a4'.t.b (by omega) a4'.mm v3 (by omega) (Or.inr rfl) (fun _ => rfl), if_pos (by omega)]) (fun h10 g10 s10 x10 => ?_))
  obtain ⟨s11, x11'⟩ := TS_x (T' := T + (2 * nv + 2)) (k' := k + 2) s10 agr_rfl (agr_wI agr_rfl (Or.inr ⟨rfl, Or.inr (Or.inl rfl)⟩) : agr (fun b j => SLx b j ∨ (b = 67 ∧ (j = 105 ∨ j = 106 ∨ j = 108))) g10 (sm_wI g10 67 106 (I3 f0)))
  have x11 := XT_trans x10 x11'
  have fe : ∀ b, 119 ≤ b → b ≤ 124 → (sm_wI g10 67 106 (I3 f0)).1 b (k + 1) = g9.1 b (k + 1) := fun b b1 b2 => x11.a.1 b (k + 1) (by unfold XRc SRa SRq SRb SRp SRh SRt Ssr SLx; omega)
  have X09 := XT_trans X05 (XT_trans X57 X79)
  have pe : ∀ i, i < nv → pt9 i = pt i := fun i hi => by rw [a5' i (by omega), up_o _ _ (by omega), a5 i (by omega), up_o _ _ (by omega)]
  have XF := XT_trans (XT_mono (Nat.zero_le _) (Nat.zero_le _) X09) (XT_mono (Nat.zero_le _) (Nat.zero_le _) x11)
  have X5F := XT_trans (XT_mono (Nat.zero_le _) (Nat.zero_le _) (XT_trans X57 X79)) (XT_mono (Nat.zero_le _) (Nat.zero_le _) x11)
  have X8F := XT_trans (XT_mono (Nat.zero_le _) (Nat.zero_le _) X89) (XT_mono (Nat.zero_le _) (Nat.zero_le _) x11)
  have X4F := XT_trans (XT_mono (Nat.zero_le _) (Nat.zero_le _) X45) X5F
  have fr : FRM (sm_wI g10 67 106 (I3 f0)) (k + 1) 5 (I3 nv) (2 * nv + 2) pt9 := ⟨by omega, (fe 119 (by omega) (by omega)).trans F9.1, (fe 122 (by omega) (by omega)).trans F9.2.2.2.1, (fe 124 (by omega) (by omega)).trans a4'.mm, by omega, fun i hi => (x11.a.1 125 _ (by unfold XRc SRa SRq SRb SRp SRh SRt Ssr SLx; omega)).trans (a4'.q i hi (by omega))⟩
  rw [show F_460 (I3 (k + 1)) (sm_wI g10 67 106 (I3 f0)) = F_462 (I3 (k + 1)) (sm_wI g10 67 106 (I3 f0)) from by
    rw [F460 fr]
    unfold F_460_74
    rw [ld122 fr, ld119 fr]; simp only [obs]
    rw [if_neg (by decide), if_neg (by decide), if_neg (by decide), if_neg (by decide), if_pos trivial, bind_id]]
  refine loopEnd (nm' := nmN ns nv nm) (ks := ks) (kd := kd) (pt := pt9) s11.K s11.S (fun i => by unfold nmN; rw [lks, if_neg (by omega), Nat.add_sub_cancel_left]) s11.nf rfl v1 v3 lks ⟨T + (2 * nv + 2), s10.t.1, Nat.le_refl _, s10.t.2, fun i hi => (x10.c.1 60 _ (by unfold XCc SCq SCb Ssc SCd SCh SCt Ssp S52; omega)).trans (a4'.s i hi)⟩ (by omega) (fun i hi => by rw [aks i hi]; exact (ok i hi).2.2) (fun i hi => ?_) (fun i i1 i2 => ?_) (fun i hi => (x11.a.1 125 _ (by unfold XRc SRa SRq SRb SRp SRh SRt Ssr SLx; omega)).trans (a4'.q i hi (by omega))) ((fe 122 (by omega) (by omega)).trans F9.2.2.2.1) ((fe 123 (by omega) (by omega)).trans F9.2.2.2.2) rec
  · rw [pe i hi, aks i hi]
    exact ⟨XF.nH (ok i hi).1, (XF.hpl B.t.K (ok i hi).1).trans (ok i hi).2.1, XF.hrs B.t.K (ok i hi).1⟩
  · by_cases c1 : i < 2 * nv
    · rw [a5' i (by omega), up_o _ _ (by omega)]
      by_cases c2 : i = nv
      · subst c2
        rw [a5 i (by omega), up_s]
        exact ⟨X4F.nH t5, (X4F.hpl t4.t.K t5).trans t6⟩
      · have z := a6 i (by omega) (by omega)
        exact ⟨X5F.nH z.1, (X5F.hpl a4.t.K z.1).trans z.2⟩
    · by_cases c2 : i = 2 * nv
      · subst c2
        rw [a5' _ (by omega), up_s]
        exact ⟨X8F.nH t5', (X8F.hpl t4'.t.K t5').trans t6'⟩
      · have z := a6' i (by omega) (by omega)
        have XX := XT_mono (Nat.zero_le _) (Nat.zero_le _) x11 (T' := 0) (k' := 0)
        exact ⟨XX.nH z.1, (XX.hpl a4'.t.K z.1).trans z.2⟩
end
section
variable {n : Nat} {bt : Nat → Nat} {nd o T j k m p f f0 nv : Nat} {nm nm' ns : Nat → Int64} {kd kd' : List Int32} {pt : Nat → Nat} {h g : sm_H} {rec : sm_H → Option (Int32 × sm_H)}
theorem SLx_Srl {g1 : sm_H} (a : agr SLx g g1) : agr Srl g g1 := agr_mono (fun b j z => Or.inl z) a
theorem S52_Scl {h1 : sm_H} (a : agr S52 h h1) : agr Scl h h1 := agr_mono (fun b j z => Or.inl z) a
theorem CB_x {h1 : sm_H} (c : CB n bt f h) (e : h1.1 52 3 = h.1 52 3) : CB n bt f h1 := by
  obtain ⟨q, u1, u2, u3⟩ := c
  exact ⟨q, e.trans u1, u2, u3⟩
theorem RB_x {g1 : sm_H} (c : RB n bt f g) (e : g1.1 67 79 = g.1 67 79) : RB n bt f g1 := by
  obtain ⟨q, u1, u2, u3⟩ := c
  exact ⟨q, e.trans u1, u2, u3⟩
theorem C_171 {h1 : sm_H} (c1 : F_249 h = some (I3 (wrd n bt f), h1)) (w : wrd n bt f ≠ 6) : F_171 h = some (I3 (wrd n bt f), h1) := by
  have w6 := wrd_6 n bt f
  show F_171_0 h = _
  unfold F_171_0 F_171_26
  rw [c1]; simp only [obs]
  rw [if_neg (by rw [I3_lit, I3_inj (by omega) (by decide)]; exact w)]
theorem C_171b {h1 h2 : sm_H} (c1 : F_249 h = some (I3 (wrd n bt f), h1)) (w : wrd n bt f = 6) (b : F_170 (h1.1 52 6) h1 = some (-1, h2)) : F_171 h = some (6, h2) := by
  show F_171_0 h = _
  unfold F_171_0 F_171_26
  rw [c1, w]; simp only [obs]
  rw [if_pos (by decide), show F_244 h1 = some (h1.1 52 6, h1) from rfl]; simp only [obs]
  rw [b]; rfl
theorem C_170f {e pc : Nat} (ft : FT e pc h g) (x : Int32) : F_170 x h = some (-1, h) := by
  show F_170_0 x h = _
  unfold F_170_0
  rw [show F_243 h = some (h.1 52 5, h) from rfl]; simp only [obs]
  rw [C_169f ft]; rfl
theorem FT_nz {e pc : Nat} (ft : FT e pc h g) : ¬ h.1 55 17 = 0 := by
  obtain ⟨f1, -, -, -, f5, f6⟩ := ft
  rw [f1, I3_lit, I3_inj (by omega) (by decide)]; omega
theorem loopN (X : EX n bt nd rec (o + 1)) (ko : k < o) (hT : T ≤ 8 * k) (m3 : m ≤ 4000) : ∀ r i, i + r = 3 → ∀ (fu f fb : Nat) (ns : Nat → Int64) (pt : Nat → Nat) (h g hb gb : sm_H), r + 2 < fu → BS n bt nd (o + 2) T (k + 1) i i f nm kd pt h g → FC g (k + 1) f0 kd.length 5 1 (I3 i) → (∀ q, q < i → g.2.1 126 (3 * (k + 1) + q) = ns q ∧ h.2.1 61 (T + q) = ns q) → (∀ q, q < i → pt q < nH g ∧ hpl g (pt q) = kd ∧ ¬ hrs g (pt q) = 0) → (i = 0 ∨ wrd n bt f ≠ 2) → F_451 gb = wp (F_456 (I3 (k + 1)) g) → XT T (k + 1) hb gb h g → gb.1 67 102 = I3 (k + 2) → fb < f → gb.1 124 k = I3 m → BO n bt o T k m fb nm kd hb gb ((lp (F_212_11B rec) fu (I3 f0, I3 i, h)).bind (K211 rec f0 T)) := by
  intro r
  induction r with
  | zero =>
    intro i hi fu f fb ns pt h g hb gb hf B F hn ok cl eb Xb bb ff e
    have o20 := B.op.2.2
    have fn := RB_n B.r
    have w6 := wrd_6 n bt f
    obtain ⟨h1, c1, c2, c3, c4⟩ := step_C B.t B.c
    obtain ⟨g1, d1, d2, d3, d4, d5⟩ := look_R c3 B.r
    have X1 : ∀ T' k', XT T' k' h g h1 g1 := fun T' k' => XT_y B.t.K (S52_Scl c4) (SLx_Srl d2)
    have C0 : F_212_11B rec (I3 f0, I3 i, h) = (F_171 h).bind fun q5 => if q5.1 = 2 then (if I3 i ≤ 0 then (F_212_42 rec (I3 f0) (I3 i) q5.1 q5.2) else ((some (sm_wI q5.2 55 16 ((q5.2.1 55 16) - 1))).bind fun h6 => some (.inr (I3 i, h6)))) else (F_212_42 rec (I3 f0) (I3 i) q5.1 q5.2) := by
      unfold F_212_11B
      show (if 3 < I3 i then _ else _) = _
      rw [if_neg (by rw [I3_lit, I3_lt (by decide) (by omega)]; omega)]
    have R0 : F_456 (I3 (k + 1)) g = F_456_0 (I3 (k + 1)) g := rfl
    unfold F_456_0 F_456_46 F_456_27 at R0
    have K0 : ∀ u : sm_H, K211 rec f0 T (0, u) = some (-1, u) := fun u => by
      unfold K211
      rw [if_pos rfl]
    by_cases w : wrd n bt f = 6
    · obtain ⟨h2, g2, b1, b2', b3, b4, b5⟩ := badWord c3 c2 B.r w
      rw [b2'] at R0; simp only [obs] at R0; rw [if_pos trivial] at R0
      rw [C_171b c1 w b1] at C0; simp only [obs] at C0
      rw [if_neg (by decide)] at C0
      unfold F_212_42 F_212_52 F_212_58 F_212_80 at C0
      rw [if_neg (by decide), C_170f b3] at C0; simp only [obs] at C0
      rw [if_neg (FT_nz b3)] at C0
      rw [R0] at eb
      refine BO_f bb (by omega) (by omega) eb ?_ b3 (XT_trans (XT_mono (Nat.zero_le _) (Nat.zero_le _) Xb) (XT_trans (XT_y B.t.K (S52_Scl c4) agr_rfl) b4))
      rw [lp_e (by omega) C0]; exact K0 h2
    rw [if_neg w] at d5
    obtain ⟨d5, lr⟩ := d5
    rw [C_171 c1 w] at C0; simp only [obs] at C0
    rw [d5] at R0; simp only [obs] at R0; rw [if_neg (by decide)] at R0
    have bad : F_212_11B rec (I3 f0, I3 i, h) = F_212_52 rec (I3 f0) (I3 i) h1 → F_456 (I3 (k + 1)) g = ((F_421 g1).bind fun q1 => if q1.1 = 0 ∨ q1.1 = 1 then some (q1.1, q1.2) else none) → BO n bt o T k m fb nm kd hb gb ((lp (F_212_11B rec) fu (I3 f0, I3 i, h)).bind (K211 rec f0 T)) := fun x1 x2 => by
      obtain ⟨h2, g2, f1, f2, f3, f4⟩ := XT_fail d1 (T' := 0) (k' := 0) (e := 4) (f := f) (by decide) (by decide)
      rw [f421 g1 d4, show F_413 4 (I3 f) g1 = some (0, g2) from f2] at x2
      rw [x2] at eb
      unfold F_212_52 F_212_58 F_212_80 at x1
      rw [C_170 c2, show F_169 4 (I3 f) h1 = some (-1, h2) from f1] at x1; simp only [obs] at x1
      rw [if_neg (FT_nz f3)] at x1
      refine BO_f bb (by omega) (by omega) eb ?_ f3 (XT_trans (XT_mono (Nat.zero_le _) (Nat.zero_le _) Xb) (XT_trans (X1 0 0) f4))
      rw [lp_e (by omega) x1]; exact K0 h2
    have nr : wrd n bt f ≠ 1 → ¬ g1.1 67 80 = 3 := fun z => by
      rw [lr.2.2.1, show (3 : Int32) = I3 (rwd 1) from rfl, I3_inj (by have := rwd_5 (x := wrd n bt f) (by omega); omega) (by decide)]
      exact fun y => z (rwd_inj (by omega) (by omega) y)
    have nw : ∀ x : Nat, x < 6 → wrd n bt f ≠ x → ¬ I3 (wrd n bt f) = I3 x := fun x hx z => by rw [I3_inj (by omega) (by omega)]; exact z
    by_cases w1 : wrd n bt f = 1
    rotate_left
    · refine bad ?_ ?_
      · rw [C0]
        unfold F_212_42
        have e1 : ¬ I3 (wrd n bt f) = (1 : Int32) := nw 1 (by decide) w1
        rw [if_neg e1]
        by_cases w2 : wrd n bt f = 2
        · have i0 : i = 0 := by
            rcases cl with z | z
            · exact z
            · exact absurd w2 z
          rw [if_pos (by rw [w2]; rfl), if_pos (by rw [i0]; decide)]
        · rw [if_neg (show ¬ I3 (wrd n bt f) = (2 : Int32) from nw 2 (by decide) w2)]
      · rw [R0, if_neg (nr w1)]
    have e80 : g1.1 67 80 = 3 := by rw [lr.2.2.1, w1]; rfl
    have l122 : ldI g1 122 24 (I3 (k + 1)) = some (I3 i) := by rw [ldI_I (by omega) (by decide), d2.1 122 _ (by unfold SLx; omega), F.2.2.2.1]
    rw [w1, if_neg (by decide)] at C0
    rw [if_pos e80, l122] at R0; simp only [obs] at R0
    have e3 : i = 3 := by omega
    refine bad ?_ ?_
    · rw [C0]
      unfold F_212_42
      rw [if_pos (by decide), if_pos (by rw [e3]; rfl)]
    · rw [R0, if_pos (by rw [e3]; rfl)]
  | succ r ih =>
    intro i hi fu f fb ns pt h g hb gb hf B F hn ok cl eb Xb bb ff e
    have o20 := B.op.2.2
    have fn := RB_n B.r
    have w6 := wrd_6 n bt f
    obtain ⟨h1, c1, c2, c3, c4⟩ := step_C B.t B.c
    obtain ⟨g1, d1, d2, d3, d4, d5⟩ := look_R c3 B.r
    have X1 : ∀ T' k', XT T' k' h g h1 g1 := fun T' k' => XT_y B.t.K (S52_Scl c4) (SLx_Srl d2)
    have C0 : F_212_11B rec (I3 f0, I3 i, h) = (F_171 h).bind fun q5 => if q5.1 = 2 then (if I3 i ≤ 0 then (F_212_42 rec (I3 f0) (I3 i) q5.1 q5.2) else ((some (sm_wI q5.2 55 16 ((q5.2.1 55 16) - 1))).bind fun h6 => some (.inr (I3 i, h6)))) else (F_212_42 rec (I3 f0) (I3 i) q5.1 q5.2) := by
      unfold F_212_11B
      show (if 3 < I3 i then _ else _) = _
      rw [if_neg (by rw [I3_lit, I3_lt (by decide) (by omega)]; omega)]
    have R0 : F_456 (I3 (k + 1)) g = F_456_0 (I3 (k + 1)) g := rfl
    unfold F_456_0 F_456_46 F_456_27 at R0
    have K0 : ∀ u : sm_H, K211 rec f0 T (0, u) = some (-1, u) := fun u => by
      unfold K211
      rw [if_pos rfl]
    by_cases w : wrd n bt f = 6
    · obtain ⟨h2, g2, b1, b2', b3, b4, b5⟩ := badWord c3 c2 B.r w
      rw [b2'] at R0; simp only [obs] at R0; rw [if_pos trivial] at R0
      rw [C_171b c1 w b1] at C0; simp only [obs] at C0
      rw [if_neg (by decide)] at C0
      unfold F_212_42 F_212_52 F_212_58 F_212_80 at C0
      rw [if_neg (by decide), C_170f b3] at C0; simp only [obs] at C0
      rw [if_neg (FT_nz b3)] at C0
      rw [R0] at eb
      refine BO_f bb (by omega) (by omega) eb ?_ b3 (XT_trans (XT_mono (Nat.zero_le _) (Nat.zero_le _) Xb) (XT_trans (XT_y B.t.K (S52_Scl c4) agr_rfl) b4))
      rw [lp_e (by omega) C0]; exact K0 h2
    rw [if_neg w] at d5
    obtain ⟨d5, lr⟩ := d5
    rw [C_171 c1 w] at C0; simp only [obs] at C0
    rw [d5] at R0; simp only [obs] at R0; rw [if_neg (by decide)] at R0
    have bad : F_212_11B rec (I3 f0, I3 i, h) = F_212_52 rec (I3 f0) (I3 i) h1 → F_456 (I3 (k + 1)) g = ((F_421 g1).bind fun q1 => if q1.1 = 0 ∨ q1.1 = 1 then some (q1.1, q1.2) else none) → BO n bt o T k m fb nm kd hb gb ((lp (F_212_11B rec) fu (I3 f0, I3 i, h)).bind (K211 rec f0 T)) := fun x1 x2 => by
      obtain ⟨h2, g2, f1, f2, f3, f4⟩ := XT_fail d1 (T' := 0) (k' := 0) (e := 4) (f := f) (by decide) (by decide)
      rw [f421 g1 d4, show F_413 4 (I3 f) g1 = some (0, g2) from f2] at x2
      rw [x2] at eb
      unfold F_212_52 F_212_58 F_212_80 at x1
      rw [C_170 c2, show F_169 4 (I3 f) h1 = some (-1, h2) from f1] at x1; simp only [obs] at x1
      rw [if_neg (FT_nz f3)] at x1
      refine BO_f bb (by omega) (by omega) eb ?_ f3 (XT_trans (XT_mono (Nat.zero_le _) (Nat.zero_le _) Xb) (XT_trans (X1 0 0) f4))
      rw [lp_e (by omega) x1]; exact K0 h2
    have nr : wrd n bt f ≠ 1 → ¬ g1.1 67 80 = 3 := fun z => by
      rw [lr.2.2.1, show (3 : Int32) = I3 (rwd 1) from rfl, I3_inj (by have := rwd_5 (x := wrd n bt f) (by omega); omega) (by decide)]
      exact fun y => z (rwd_inj (by omega) (by omega) y)
    have nw : ∀ x : Nat, x < 6 → wrd n bt f ≠ x → ¬ I3 (wrd n bt f) = I3 x := fun x hx z => by rw [I3_inj (by omega) (by omega)]; exact z
    by_cases w1 : wrd n bt f = 1
    rotate_left
    · refine bad ?_ ?_
      · rw [C0]
        unfold F_212_42
        have e1 : ¬ I3 (wrd n bt f) = (1 : Int32) := nw 1 (by decide) w1
        rw [if_neg e1]
        by_cases w2 : wrd n bt f = 2
        · have i0 : i = 0 := by
            rcases cl with z | z
            · exact z
            · exact absurd w2 z
          rw [if_pos (by rw [w2]; rfl), if_pos (by rw [i0]; decide)]
        · rw [if_neg (show ¬ I3 (wrd n bt f) = (2 : Int32) from nw 2 (by decide) w2)]
      · rw [R0, if_neg (nr w1)]
    have e80 : g1.1 67 80 = 3 := by rw [lr.2.2.1, w1]; rfl
    have l122 : ldI g1 122 24 (I3 (k + 1)) = some (I3 i) := by rw [ldI_I (by omega) (by decide), d2.1 122 _ (by unfold SLx; omega), F.2.2.2.1]
    rw [w1, if_neg (by decide)] at C0
    rw [if_pos e80, l122] at R0; simp only [obs] at R0
    have i3 : i < 3 := by omega
    have ni3 : ¬ I3 i = (3 : Int32) := by rw [I3_lit, I3_inj (by omega) (by decide)]; omega
    unfold F_212_42 F_212_58 F_212_80 at C0
    rw [if_pos (by decide), if_neg ni3, if_pos c3.nf.1] at C0
    rw [if_neg ni3] at R0
    have p1 : OP (o + 2) h1 g1 := OP_x B.op c4 d2 (by unfold S52; omega) (by unfold SLx; omega)
    rcases openS d1 p1 fn c2 lr w1 with ⟨h2, g2, -, a1, a2, a3, a4, a5, a6, a7, a8, a9, a10⟩ | ⟨e', h2, g2, a1, a2, a3, a4⟩
    rotate_left
    · rw [a1] at C0; simp only [obs] at C0; rw [if_pos trivial] at C0
      rw [a2] at R0; simp only [obs] at R0; rw [if_pos trivial] at R0
      rw [R0] at eb
      refine BO_f bb (by omega) (by omega) eb ?_ a3 (XT_trans (XT_mono (Nat.zero_le _) (Nat.zero_le _) Xb) (XT_trans (X1 0 0) (XT_mono (Nat.zero_le _) (Nat.zero_le _) a4)))
      rw [lp_e (by omega) C0]; exact K0 h2
    rw [a1] at C0; simp only [obs] at C0; rw [if_neg (by decide)] at C0
    rw [a2] at R0; simp only [obs] at R0; rw [if_neg (by decide)] at R0
    have C1 : F_207 rec (I3 f0) h2 = F_207_0 rec (I3 f0) h2 := rfl
    unfold F_207_0 F_207_75 F_207_76 at C1
    rcases nameB a3 a5 a6 with ⟨h3, g3, b1, b2', b3, b4, b5, b6, b7, b8, b9, b10, b11, b12⟩ | ⟨e', h3, g3, b1, b2', b3, b4⟩
    rotate_left
    · rw [b1] at C1; simp only [obs] at C1; rw [if_pos trivial] at C1
      rw [C1] at C0; simp only [obs] at C0; rw [if_pos trivial] at C0
      rw [b2'] at R0; simp only [obs] at R0; rw [if_pos trivial] at R0
      rw [R0] at eb
      refine BO_f bb (by omega) (by omega) eb ?_ b3 (XT_trans (XT_mono (Nat.zero_le _) (Nat.zero_le _) Xb) (XT_trans (X1 0 0) (XT_mono (Nat.zero_le _) (Nat.zero_le _) (XT_trans a8 b4))))
      rw [lp_e (by omega) C0]; exact K0 h3
    generalize hx : foldN bt (nx n bt f) (men n bt (nx n bt f) - nx n bt f) = x at b4 b5
    rw [b1] at C1; simp only [obs] at C1; rw [if_neg (by decide), show F_248 h3 = some (h3.2.1 52 10, h3) from rfl, b4] at C1; simp only [obs] at C1
    rw [b2'] at R0; simp only [obs] at R0; rw [if_neg (by decide)] at R0
    have a03r : agr Srl g g3 := agr_trans (agr_trans (SLx_Srl d2) (agr_mono (fun b j z => by
      rcases z with ⟨z1, z2 | z2⟩
      · exact Or.inr ⟨z1, Or.inl z2⟩
      · exact Or.inl ⟨z1, by omega, by omega⟩) a10)) (agr_mono (fun b j z => by
      rcases z with z | z
      · exact Or.inl z
      · exact Or.inr ⟨z.1, by omega⟩) b12)
    have a03c : agr Scl h h3 := agr_trans (agr_trans (S52_Scl c4) (agr_mono (fun b j z => Or.inr z) a9)) (S52_Scl b11)
    have F3 := FC_r F a03r
    have l3 : ldI g3 122 24 (I3 (k + 1)) = some (I3 i) := by rw [ldI_I (by omega) (by decide), F3.2.2.2.1]
    rw [l3, b5] at R0; simp only [obs] at R0
    rw [show (3 : Int32) * I3 (k + 1) + I3 i = I3 (3 * (k + 1) + i) by rw [I3_lit, I3_mul, I3_add], stJ_I (by omega) (by decide)] at R0; simp only [obs] at R0
    rw [ldI_I (by omega) (by decide), show (sm_wJ g3 126 (3 * (k + 1) + i) x).1 122 (k + 1) = I3 i from F3.2.2.2.1] at R0; simp only [obs] at R0
    rw [show I3 i + 1 = I3 (i + 1) from I3_add i 1, stI_I (by omega) (by decide)] at R0; simp only [obs] at R0
    have v4 : ∀ q, (sm_wI (sm_wJ g3 126 (3 * (k + 1) + i) x) 122 (k + 1) (I3 (i + 1))).2.1 126 q = if q = 3 * (k + 1) + i then x else g3.2.1 126 q := fun q => rfl
    have a34 : agr (fun b q => b = 126 ∧ q = 3 * (k + 1) + i ∨ b = 122 ∧ q = k + 1) g3 (sm_wI (sm_wJ g3 126 (3 * (k + 1) + i) x) 122 (k + 1) (I3 (i + 1))) := agr_wI (agr_wJ agr_rfl (Or.inl ⟨rfl, rfl⟩)) (Or.inr ⟨rfl, rfl⟩)
    have F4 : FC (sm_wI (sm_wJ g3 126 (3 * (k + 1) + i) x) 122 (k + 1) (I3 (i + 1))) (k + 1) f0 kd.length 5 1 (I3 (i + 1)) := ⟨F3.1, F3.2.1, F3.2.2.1, if_pos rfl, F3.2.2.2.2⟩
    have r4 : RB n bt (nx n bt (nx n bt f)) (sm_wI (sm_wJ g3 126 (3 * (k + 1) + i) x) 122 (k + 1) (I3 (i + 1))) := b8
    have m4 : (sm_wI (sm_wJ g3 126 (3 * (k + 1) + i) x) 122 (k + 1) (I3 (i + 1))).1 124 (k + 1) = I3 i := (a03r.1 124 _ (by unfold Srl SLx; omega)).trans B.mm
    have q4 : ∀ q, q < i → (sm_wI (sm_wJ g3 126 (3 * (k + 1) + i) x) 122 (k + 1) (I3 (i + 1))).1 125 (20 * (k + 1) + q) = I3 (pt q) := fun q hq => (a03r.1 125 _ (by unfold Srl SLx; omega)).trans (B.q q hq (by omega))
    generalize hg4 : sm_wI (sm_wJ g3 126 (3 * (k + 1) + i) x) 122 (k + 1) (I3 (i + 1)) = g4 at *
    have eb' : F_451 gb = wp (F_448 g4) := by rw [eb, R0]; exact wp_wp _
    have s4 : TS n bt (T + i) (k + 1 + 1) nm kd h3 g4 := TS_f b3 (agr_mono (fun b q z => by omega) a34)
    have X03 : XT T (k + 1) h g h3 g3 := XT_trans (X1 T (k + 1)) (XT_mono (by omega) (by omega) (XT_trans a8 b10))
    have X34 : XT T (k + 1) h3 g3 h3 g4 := XT_x b3.K agr_rfl (agr_mono (fun b q z => by
      rcases z with ⟨z1, z2⟩ | ⟨z1, z2⟩
      · exact Or.inr (Or.inr (Or.inr (Or.inr ⟨z1, by omega⟩)))
      · exact Or.inr (Or.inr (Or.inl ⟨by omega, by omega, by omega⟩))) a34)
    have X04 := XT_trans X03 X34
    have Xb4 := XT_trans Xb X04
    have B4 : BS n bt nd (o + 3) T (k + 1) i i (nx n bt (nx n bt f)) nm kd pt h3 g4 := ⟨s4, OP_x a4 b11 (agr_trans (agr_mono (fun b i z => Or.inl z) b12) (agr_mono (fun b i z => Or.inr z) a34)) (by unfold S52; omega) (by unfold SLx; omega), DF_T B.t.K B.d X04, b7, r4, m4, fun q hq _ => q4 q hq, fun q hq => (a03c.1 60 _ (by unfold Scl S52; omega)).trans (B.s q hq)⟩
    have ff4 : f < nx n bt (nx n bt f) := Nat.lt_trans a7 b9
    rcases partE B4 (Nat.le_refl _) (X (o + 3) (T + i) (k + 1) i _ nm kd h3 g4 (by omega) B4.t B4.op B4.d B4.c B4.r (by omega) (by omega) (by omega) B4.mm) with ⟨y, h5, g5, f5, c, e1, e2, e3, e4, e5, e6, e7⟩ | ⟨e', pc, h5, g5, c, e1, e2, e3, e4, e5⟩
    rotate_left
    · rw [e1] at C1; simp only [obs] at C1; rw [if_pos trivial] at C1
      rw [C1] at C0; simp only [obs] at C0; rw [if_pos trivial] at C0
      refine BO_d bb (by omega) (f1 := nx n bt (nx n bt f)) (by omega) eb' e5 e4 ?_ e2 (XT_trans (XT_mono (Nat.zero_le _) (Nat.zero_le _) Xb4) e3)
      rw [lp_e (by omega) C0]; exact K0 h5
    rw [e1] at C1; simp only [obs] at C1; rw [if_neg (h_m1 e4.t.K e5), C_rs e4.t.K e5] at C1; simp only [obs] at C1
    have Rn1 : Run gb (c + 1) g5 := RunR_run (j := k + 1) bb (by omega) (by omega) eb' (RunR_wp e2)
    have X45 : XT T (k + 1) h3 g4 h5 g5 := PT_XT e4.t.K e4.t.l (PT_s (by omega) e7)
    have Xb5 := XT_trans Xb4 X45
    have X05 := XT_trans X04 X45
    have F5 := FC_x F4 e7.2.2.2
    have y5 := lt500 e4.t.K e5
    have q5 : ∀ q, q < i + 1 → g5.1 125 (20 * (k + 1) + q) = I3 (updN pt i y q) := fun q hq => e4.q q hq (by omega)
    have v5 : ∀ q, q < i + 1 → g5.2.1 126 (3 * (k + 1) + q) = if q = i then x else ns q := fun q hq => by
      rw [e7.2.2.2.2.1 126 _ (by unfold XRp XRc SRa SRq SRb SRp SRh SRt Ssr SLx; omega), v4]
      by_cases z : q = i
      · rw [if_pos z, if_pos (by omega)]
      · rw [if_neg z, if_neg (by omega), a03r.2.1 126 _ (by unfold Srl SLx; omega)]; exact (hn q (by omega)).1
    have R1 : F_451 g5 = wp (F_455_0 (I3 (k + 1)) g5) := by rw [F451s e4.t.b (by omega) F5.1 (Or.inr (Or.inr rfl)), if_neg (by decide), if_neg (by decide)]
    unfold F_455_0 F_455_75 at R1
    rw [ldI_I (by omega) (by decide), F5.2.2.1] at R1; simp only [obs] at R1
    rw [if_neg (by decide), if_pos trivial, ldI_I (by omega) (by decide), e4.mm] at R1; simp only [obs] at R1
    rw [I3_s1, R_449 (i := i) e4.t.b (by omega) (by omega), q5 i (by omega), up_s] at R1; simp only [obs] at R1
    have fn5 := RB_n e4.r
    have eb124 : g5.1 124 k = I3 m := (Xb5.a.1 124 k (by unfold XRc SRa SRq SRb SRp SRh SRt Ssr SLx; omega)).trans e
    refine BO_tr (f := f5) Rn1 (by omega) Xb5 ?_
    by_cases hz : hrs g5 y = 0
    · obtain ⟨h6, g6, t1, t2, t3, t4⟩ := XT_fail e4.t (T' := 0) (k' := 0) (e := 7) (f := f0) (by decide) (by decide)
      rw [if_pos hz, show F_169 7 (I3 f0) h5 = some (-1, h6) from t1] at C1; simp only [obs] at C1
      rw [C1] at C0; simp only [obs] at C0; rw [if_pos trivial] at C0
      rw [R_452z e4.t.K e5 hz (by omega) F5.2.1 t2] at R1; simp only [obs] at R1; rw [if_neg (by decide)] at R1
      refine BO_f e4.t.b (by omega) fn5 R1 ?_ t3 t4
      rw [lp_e (by omega) C0]; exact K0 h6
    rw [if_neg hz] at C1
    rw [R_452n e4.t.K e5 hz] at R1; simp only [obs] at R1; rw [if_pos trivial] at R1
    obtain ⟨h6, p1', p2, p3, p4, p5⟩ := pushP e4 (by omega) (by rw [up_s]; exact y5) x
    rw [up_s] at p1'
    rw [p1'] at C1; simp only [obs] at C1; rw [if_neg (by decide)] at C1
    have X56 : XT T (k + 1) h5 g5 h6 g5 := PT_XT p2.t.K p2.t.l (PT_s (by omega) p3)
    rcases closeE p2.t p2.op p2.c p2.r with ⟨h7, g7, q1', q2', q3', q4', q5', q6', q7', q8', q9'⟩ | ⟨e', h7, g7, q1', q2', q3', q4'⟩
    rotate_left
    · rw [q1'] at C1; simp only [obs] at C1; rw [if_pos trivial, if_pos (by decide)] at C1
      rw [C1] at C0; simp only [obs] at C0; rw [if_pos trivial] at C0
      rw [q2'] at R1; simp only [obs] at R1; rw [if_pos trivial] at R1
      refine BO_f e4.t.b (by omega) fn5 R1 ?_ q3' (XT_mono (Nat.zero_le _) (Nat.zero_le _) (XT_trans X56 (XT_mono (by omega) (by omega) q4')))
      rw [lp_e (by omega) C0]; exact K0 h7
    rw [q1'] at C1; simp only [obs] at C1; rw [if_neg (by decide), if_pos (by decide)] at C1
    rw [C1] at C0; simp only [obs] at C0; rw [if_neg (by decide), show I3 i + 1 = I3 (i + 1) from I3_add i 1] at C0
    rw [q2'] at R1; simp only [obs] at R1; rw [if_neg (by decide)] at R1
    rw [lp_s (by omega) C0]
    have X67 : XT T (k + 1) h6 g5 h7 g7 := XT_y p2.t.K q8' q9'
    have X57 := XT_trans X56 X67
    have F7 := FC_r F5 q9'
    have n7 : ∀ q, q < i + 1 → h7.2.1 61 (T + q) = if q = i then x else ns q := fun q hq => by
      rw [q8'.2.1 61 _ (by unfold Scl S52; omega)]
      by_cases z : q = i
      · rw [if_pos z, z]; exact p4
      · rw [if_neg z, p5.2.1 61 _ (by omega), e7.2.2.1.2.1 61 _ (by unfold XCc SCq SCb Ssc SCd SCh SCt Ssp S52; omega), a03c.2.1 61 _ (by unfold Scl S52; omega)]
        exact (hn q (by omega)).2
    have ok7 : ∀ q, q < i + 1 → updN pt i y q < nH g7 ∧ hpl g7 (updN pt i y q) = kd ∧ ¬ hrs g7 (updN pt i y q) = 0 := fun q hq => by
      by_cases z : q = i
      · subst z
        rw [up_s, X57.hrs e4.t.K e5]
        exact ⟨X57.nH e5, (X57.hpl e4.t.K e5).trans e6, hz⟩
      · have XX := XT_trans X05 X57
        have zz := ok q (by omega)
        rw [up_o _ _ z, XX.hrs B.t.K zz.1]
        exact ⟨XX.nH zz.1, (XX.hpl B.t.K zz.1).trans zz.2.1, zz.2.2⟩
    have B7 : BS n bt nd (o + 2) T (k + 1) (i + 1) (i + 1) (nx n bt f5) nm kd (updN pt i y) h7 g7 := ⟨q3', q4', DF_T e4.t.K e4.d X57, q5', q6', (q9'.1 124 _ (by unfold Srl SLx; omega)).trans e4.mm, fun q hq _ => (q9'.1 125 _ (by unfold Srl SLx; omega)).trans (q5 q hq), fun q hq => (q8'.1 60 _ (by unfold Scl S52; omega)).trans (p2.s q hq)⟩
    have w6' := wrd_6 n bt (nx n bt f5)
    obtain ⟨g8, l1, l2, l3', l4, l5⟩ := look_R q3' q6'
    have a78 := SLx_Srl l2
    have X78 : ∀ T' k', XT T' k' h7 g7 h7 g8 := fun T' k' => XT_y q3'.K agr_rfl a78
    have F8 := FC_r F7 a78
    have B8 : BS n bt nd (o + 2) T (k + 1) (i + 1) (i + 1) (nx n bt f5) nm kd (updN pt i y) h7 g8 := ⟨l1, OP_x (P := fun _ _ => False) q4' agr_rfl l2 (fun z => z) (by unfold SLx; omega), DF_T q3'.K B7.d (X78 T (k + 1)), q5', l3', (l2.1 124 _ (by unfold SLx; omega)).trans B7.mm, fun q hq i2 => (l2.1 125 _ (by unfold SLx; omega)).trans (B7.q q hq i2), B7.s⟩
    have n8 : ∀ u, agr Srl g5 u → ∀ q, q < i + 1 → u.2.1 126 (3 * (k + 1) + q) = (fun q => if q = i then x else ns q) q ∧ h7.2.1 61 (T + q) = (fun q => if q = i then x else ns q) q := fun u au q hq => ⟨(au.2.1 126 _ (by unfold Srl SLx; omega)).trans (v5 q hq), n7 q hq⟩
    by_cases w7 : wrd n bt (nx n bt f5) = 6
    · rw [if_pos w7] at l5
      have nfl := fail_R (g := g8) (f := nx n bt f5) l1.nf.2.1 (I3 (wtr n bt (nx n bt f5))) rfl
      obtain ⟨g9, u1, -⟩ := nfl
      rw [l5, u1] at R1; simp only [obs] at R1; rw [if_pos trivial] at R1
      refine ih (i + 1) (by omega) (fu - 1) (nx n bt f5) f5 (fun q => if q = i then x else ns q) (updN pt i y) h7 g7 h5 g5 (by omega) B7 F7 (n8 g7 q9') ok7 (Or.inr (by omega)) ?_ X57 e4.t.b q7' eb124
      rw [R1]
      have R2 : F_456 (I3 (k + 1)) g7 = F_456_0 (I3 (k + 1)) g7 := rfl
      unfold F_456_0 at R2
      rw [l5, u1] at R2; simp only [obs] at R2; rw [if_pos trivial] at R2
      rw [R2]
    rw [if_neg w7] at l5
    obtain ⟨l5, lr8⟩ := l5
    rw [l5] at R1; simp only [obs] at R1; rw [if_neg (by decide)] at R1
    by_cases w2 : wrd n bt (nx n bt f5) = 2
    · rw [if_pos (by rw [lr8.2.2.1, w2]; rfl)] at R1
      obtain ⟨g9, t1, t2, t3, t4⟩ := take_R l1 (RB_n q6') lr8
      rw [t1] at R1; simp only [obs] at R1
      have o9 : g9.1 67 86 = I3 (o + 1 + 1) := (t4.1 67 86 (by omega)).trans B8.op.2.1
      have F9 : FC g9 (k + 1) f0 kd.length 5 1 (I3 (i + 1)) := FC_r F8 (agr_mono (fun b j z => Or.inl ⟨z.1, by omega, by omega⟩) t4)
      rw [o9, I3_s1, ldI_I (by omega) (by decide), show (sm_wI g9 67 86 (I3 (o + 1))).1 122 (k + 1) = I3 (i + 1) from F9.2.2.2.1] at R1; simp only [obs] at R1
      obtain ⟨h8, k1, k2, k3, k4⟩ := step_C q3' q5'
      have C7 : F_212_11B rec (I3 f0, I3 (i + 1), h7) = some (.inr (I3 (i + 1), sm_wI h8 55 16 (I3 (o + 1)))) := by
        unfold F_212_11B
        show (if 3 < I3 (i + 1) then _ else _) = _
        rw [if_neg (by rw [I3_lit, I3_lt (by decide) (by omega)]; omega)]
        simp only []
        rw [C_171 k1 w7, w2]; simp only [obs]
        rw [if_pos (by decide), if_neg (by rw [I3_lit, I3_le (by omega) (by decide)]; omega), show h8.1 55 16 = I3 (o + 1 + 1) from (k4.1 55 16 (by unfold S52; omega)).trans q4'.1, I3_s1]
      rw [lp_e (by omega) C7]
      have a7c : agr Scl h7 (sm_wI h8 55 16 (I3 (o + 1))) := agr_wI (S52_Scl k4) (Or.inr ⟨rfl, rfl⟩)
      have a7r : agr Srl g7 (sm_wI g9 67 86 (I3 (o + 1))) := agr_wI (agr_trans a78 (agr_mono (fun b j z => Or.inl ⟨z.1, by omega, by omega⟩) t4)) (Or.inr ⟨rfl, by omega⟩)
      obtain ⟨s9, X9⟩ := TS_y (T' := T) (k' := k + 1) q3' a7c a7r
      have F10 := FC_r F7 a7r
      have B9 : BS n bt nd (o + 1) T (k + 1) (i + 1) (i + 1) (nx n bt (nx n bt f5)) nm kd (updN pt i y) (sm_wI h8 55 16 (I3 (o + 1))) (sm_wI g9 67 86 (I3 (o + 1))) := ⟨s9, ⟨rfl, rfl, by omega⟩, DF_T q3'.K B7.d X9, CB_nx (RB_n q6') k2 w7, t2, (a7r.1 124 _ (by unfold Srl SLx; omega)).trans B7.mm, fun q hq i2 => (a7r.1 125 _ (by unfold Srl SLx; omega)).trans (B7.q q hq i2), fun q hq => (a7c.1 60 _ (by unfold Scl S52; omega)).trans (B7.s q hq)⟩
      have nx7 := nx_gt (n := n) (bt := bt) (RB_n q6') (by omega) w7
      refine loopQ (ns := fun q => if q = i then x else ns q) X ko hT m3 (by omega) (by omega) B9 F10 (fun q hq => ?_) (fun q hq => ?_) (fun r hr => by rw [R1, hr]) (XT_trans X57 X9) e4.t.b (by omega) eb124
      · exact ⟨(n8 _ (agr_trans q9' a7r) q hq).1, (a7c.2.1 61 _ (by unfold Scl S52; omega)).trans (n7 q hq)⟩
      · have zz := ok7 q hq
        rw [X9.hrs q3'.K zz.1]
        exact ⟨X9.nH zz.1, (X9.hpl q3'.K zz.1).trans zz.2.1, zz.2.2⟩
    · rw [if_neg (by
        rw [lr8.2.2.1, show (4 : Int32) = I3 (rwd 2) from rfl, I3_inj (by have := rwd_5 (x := wrd n bt (nx n bt f5)) (by omega); omega) (by decide)]
        exact fun y => w2 (rwd_inj (by omega) (by omega) y))] at R1
      exact ih (i + 1) (by omega) (fu - 1) (nx n bt f5) f5 (fun q => if q = i then x else ns q) (updN pt i y) h7 g8 h5 g5 (by omega) B8 F8 (n8 g8 (agr_trans q9' a78)) (fun q hq => by
        have zz := ok7 q hq
        have XX := X78 T (k + 1)
        rw [XX.hrs q3'.K zz.1]
        exact ⟨XX.nH zz.1, (XX.hpl q3'.K zz.1).trans zz.2.1, zz.2.2⟩) (Or.inr w2) (R1.trans (wp_wp _)) (XT_trans X57 (X78 T (k + 1))) e4.t.b q7' eb124
theorem loopX {ex : Int32} (X : EX n bt nd rec (o + 1)) (B : BS n bt nd (o + 1) T (k + 1) 0 0 f nm kd pt h g) (F : FC g (k + 1) f0 kd.length 5 0 ex) (ko : k < o) (hT : T ≤ 8 * k) (m3 : m ≤ 4000) (e : g.1 124 k = I3 m) : BO n bt o T k m f nm kd h g (F_211 rec (I3 f0) h) := by
  have o20 := B.op.2.2
  have s0 := B.t
  have fn := RB_n B.r
  have C0 : F_211 rec (I3 f0) h = (F_212 rec (I3 f0) h).bind (K211 rec f0 T) := by
    show F_211_0 rec (I3 f0) h = _
    unfold F_211_0
    rw [show h.1 55 12 = I3 T from s0.t.1]
    rfl
  have C1 : F_212 rec (I3 f0) h = F_212_0 rec (I3 f0) h := rfl
  unfold F_212_0 at C1
  have R0 : F_451 g = wp (F_455_0 (I3 (k + 1)) g) := by rw [F451s s0.b (by omega) F.1 (Or.inr (Or.inr rfl)), if_neg (by decide), if_neg (by decide)]
  unfold F_455_0 at R0
  rw [ldI_I (by omega) (by decide), F.2.2.1] at R0; simp only [obs] at R0
  rw [if_pos trivial] at R0
  rcases openB s0 B.op B.c B.r with ⟨h1, g1, -, a1, a2, a3, a4, a5, a6, a7, a8, a9, a10⟩ | ⟨e', h2, g2, a1, a2, a3, a4⟩
  rotate_left
  · rw [a1] at C1; simp only [obs] at C1; rw [if_pos trivial] at C1
    rw [a2] at R0; simp only [obs] at R0; rw [if_pos trivial] at R0
    refine BO_f s0.b (by omega) fn R0 ?_ a3 (XT_mono (Nat.zero_le _) (Nat.zero_le _) a4)
    rw [C0, C1]
    show K211 rec f0 T (0, h2) = _
    unfold K211
    rw [if_pos rfl]
  rw [a1] at C1; simp only [obs] at C1; rw [if_neg (by decide)] at C1
  rw [a2] at R0; simp only [obs] at R0; rw [if_neg (by decide), stI_I (by omega) (by decide)] at R0; simp only [obs] at R0
  rw [stI_I (by omega) (by decide)] at R0; simp only [obs] at R0
  have R1 := R0.trans (wp_wp _)
  have a01r : agr Srl g g1 := agr_mono (fun b j z => by
    rcases z with z | z
    · exact Or.inl z
    · exact Or.inr ⟨z.1, by omega⟩) a10
  have F1 := FC_r F a01r
  have F2 : FC (sm_wI (sm_wI g1 122 (k + 1) 0) 121 (k + 1) 1) (k + 1) f0 kd.length 5 1 (I3 0) := ⟨F1.1, F1.2.1, if_pos rfl, if_pos rfl, F1.2.2.2.2⟩
  have a12 : agr (fun b q => (b = 122 ∨ b = 121) ∧ q = k + 1) g1 (sm_wI (sm_wI g1 122 (k + 1) 0) 121 (k + 1) 1) := agr_wI (agr_wI agr_rfl ⟨Or.inl rfl, rfl⟩) ⟨Or.inr rfl, rfl⟩
  have s2 := TS_f a3 (agr_mono (fun b q z => by omega) a12)
  have X2 : XT T (k + 1) h1 g1 h1 (sm_wI (sm_wI g1 122 (k + 1) 0) 121 (k + 1) 1) := XT_x a3.K agr_rfl (agr_mono (fun b i z => Or.inr (Or.inr (Or.inl ⟨by omega, by omega, by omega⟩))) a12)
  have X02 := XT_trans (XT_mono (T' := T) (k' := k + 1) (by omega) (by omega) a8) X2
  rw [C0, C1]
  exact loopN X ko hT m3 3 0 (by omega) 1000000 (nx n bt f) f (fun _ => 0) pt h1 _ h g (by omega) ⟨s2, OP_x (P := fun _ _ => False) a4 agr_rfl a12 (fun z => z) (by omega), DF_T s0.K B.d X02, a5, a6, (a01r.1 124 _ (by unfold Srl SLx; omega)).trans B.mm, fun q hq => by omega, fun q hq => by omega⟩ F2 (fun q hq => by omega) (fun q hq => by omega) (Or.inl rfl) R1 X02 s0.b a7 e
end
