theorem lst_cons (f : Nat → Int32) (n : Nat) : lst f (n + 1) = f 0 :: lst (fun i => f (i + 1)) n := by
  unfold lst
  rw [List.range_succ_eq_map, List.map_cons, List.map_map]
  rfl
def Z455 (j : Nat) (u : sm_H) : Option (Int32 × sm_H) := (stI u 121 24 (I3 j) 2).bind fun h4 => (F_426 h4).bind fun q5 => if q5.1 = 0 then some (0, q5.2) else wp (F_448 q5.2)
theorem Z455_b {j : Nat} {x : Int32} (hx : x < 0) (u : sm_H) : F_455_123B (I3 j, x, u) = (Z455 j u).map .inr := by
  unfold F_455_123B Z455 wp
  show (if x < 0 then _ else _) = _
  rw [if_pos hx]
  simp only []
  cases stI u 121 24 (I3 j) 2 with
  | none => rfl
  | some h4 =>
    simp only [Option.bind_some]
    cases F_426 h4 with
    | none => rfl
    | some q5 =>
      simp only [Option.bind_some]
      by_cases z : q5.1 = 0
      · rw [if_pos z, if_pos z]; rfl
      · rw [if_neg z, if_neg z]
        cases F_448 q5.2 with
        | none => rfl
        | some q6 =>
          simp only [Option.bind_some]
          by_cases w : q6.1 = 0 ∨ q6.1 = 1
          · rw [if_pos w, if_pos w]; rfl
          · rw [if_neg w, if_neg w]; rfl
section
variable {n : Nat} {bt : Nat → Nat} {nd o T j k m p f f0 nv : Nat} {nm nm' ns : Nat → Int64} {kd kd' : List Int32} {pt : Nat → Nat} {h g : sm_H} {rec : sm_H → Option (Int32 × sm_H)}
theorem R_bindN (K : K1 h g) (S : SCR nm kd g) (hl : kd.length + nv < 400) (v3 : nv ≤ 3) (b : g.1 67 102 = I3 (j + 1)) (hj : j < 24) (hn : ∀ i, i < nv → g.2.1 126 (3 * j + i) = ns i) (hq : ∀ i, i < nv → g.1 125 (20 * j + i) = I3 (pt i) ∧ pt i < nH g) : ∃ g1, SCR (nmN ns nv nm) (lst (fun i => hrs g (pt i)) nv ++ kd) g1 ∧ agr Ssr g g1 ∧ ∀ r, Z455 j g1 = some r → F_455_123 (I3 j) (I3 nv - 1) g = some r := by
  have LP : ∀ c u fu, c ≤ nv → c < fu → agr Ssr g u → SCR (fun i => if i < nv - c then ns (c + i) else nm (i - (nv - c))) (lst (fun i => hrs g (pt (c + i))) (nv - c) ++ kd) u → ∃ g1, SCR (nmN ns nv nm) (lst (fun i => hrs g (pt i)) nv ++ kd) g1 ∧ agr Ssr g g1 ∧ ∀ r, Z455 j g1 = some r → lp F_455_123B fu (I3 j, I3 c - 1, u) = some r := by
    intro c
    induction c with
    | zero =>
      intro u fu hc hf au Su
      refine ⟨u, ?_, au, fun r hr => lp_e (by omega) ?_⟩
      · have e1 : (fun i => if i < nv - 0 then ns (0 + i) else nm (i - (nv - 0))) = nmN ns nv nm := by
          funext i
          unfold nmN
          rw [Nat.sub_zero, Nat.zero_add]
        have e2 : lst (fun i => hrs g (pt (0 + i))) (nv - 0) = lst (fun i => hrs g (pt i)) nv := by
          rw [Nat.sub_zero]; exact lst_congr (fun i _ => by rw [Nat.zero_add])
        rw [e1, e2] at Su
        exact Su
      · rw [Z455_b (by decide), hr]; rfl
    | succ c ih =>
      intro u fu hc hf au Su
      have W : TW 0 h g h u := TW_sc K agr_rfl au
      have eq1 : u.1 125 (20 * j + c) = I3 (pt c) := (au.1 125 _ (by unfold Ssr; omega)).trans (hq c (by omega)).1
      have lp1 := (hq c (by omega)).2
      have ll : (lst (fun i => hrs g (pt (c + 1 + i))) (nv - (c + 1)) ++ kd).length < 400 := by rw [List.length_append, lst_len]; omega
      obtain ⟨u1, d1, d2, d3⟩ := R_bind Su ll (ns c) (hrs g (pt c))
      have B : F_455_123B (I3 j, I3 (c + 1) - 1, u) = some (.inl (I3 j, I3 c - 1, u1)) := by
        rw [I3_s1]
        unfold F_455_123B
        show (if I3 c < 0 then _ else _) = _
        rw [if_neg (I3_nn (by omega))]
        simp only []
        rw [show (3 : Int32) * I3 j + I3 c = I3 (3 * j + c) by rw [I3_lit, I3_mul, I3_add], ldJ_I (by omega) (by decide), au.2.1 126 _ (by unfold Ssr; omega), hn c (by omega)]; simp only [obs]
        rw [R_449 (i := c) ((au.1 67 102 (by unfold Ssr; omega)).trans b) hj (by omega), eq1]; simp only [obs]
        rw [R_rs W.k (W.nH lp1), W.hrs K lp1]; simp only [obs]
        rw [d1]; simp only [obs]
        rw [show I3 c + (-1) = I3 c - 1 from (Int32.sub_eq_add_neg _ _).symm]
      have en : nm1 (ns c) (fun i => if i < nv - (c + 1) then ns (c + 1 + i) else nm (i - (nv - (c + 1)))) = fun i => if i < nv - c then ns (c + i) else nm (i - (nv - c)) := by
        funext i
        unfold nm1
        by_cases q : i = 0
        · subst q
          rw [if_pos rfl, if_pos (by omega), Nat.add_zero]
        · rw [if_neg q]
          by_cases w : i < nv - c
          · show (if i - 1 < nv - (c + 1) then ns (c + 1 + (i - 1)) else nm (i - 1 - (nv - (c + 1)))) = _
            rw [if_pos w, if_pos (by omega), show c + 1 + (i - 1) = c + i by omega]
          · show (if i - 1 < nv - (c + 1) then ns (c + 1 + (i - 1)) else nm (i - 1 - (nv - (c + 1)))) = _
            rw [if_neg w, if_neg (by omega), show i - 1 - (nv - (c + 1)) = i - (nv - c) by omega]
      have ek : hrs g (pt c) :: (lst (fun i => hrs g (pt (c + 1 + i))) (nv - (c + 1)) ++ kd) = lst (fun i => hrs g (pt (c + i))) (nv - c) ++ kd := by
        rw [show nv - c = (nv - (c + 1)) + 1 by omega, lst_cons, Nat.add_zero]
        rw [lst_congr (f := fun i => hrs g (pt (c + (i + 1)))) (f1 := fun i => hrs g (pt (c + 1 + i))) (fun i _ => by rw [show c + (i + 1) = c + 1 + i by omega])]
        rfl
      rw [en, ek] at d2
      obtain ⟨g1, z1, z2, z3⟩ := ih u1 (fu - 1) (by omega) (by omega) (agr_trans au d3) d2
      exact ⟨g1, z1, z2, fun r hr => by rw [lp_s (by omega) B]; exact z3 r hr⟩
  have S0 : SCR (fun i => if i < nv - nv then ns (nv + i) else nm (i - (nv - nv))) (lst (fun i => hrs g (pt (nv + i))) (nv - nv) ++ kd) g := by
    rw [Nat.sub_self]
    have e1 : (fun i => if i < 0 then ns (nv + i) else nm (i - 0)) = nm := by
      funext i
      rw [if_neg (by omega), Nat.sub_zero]
    rw [e1]; exact S
  exact LP nv g 1000000 (Nat.le_refl _) (by omega) agr_rfl S0
theorem F455w {i kl : Nat} {st : Int32} (F : FC g j f0 kl 5 st (I3 nv)) (b : g.1 67 102 = I3 (j + 1)) (j4 : j < 24) (c : g.1 124 j = I3 i) (v3 : nv ≤ 3) (i8 : i ≤ 8) (hs : st = 2 ∨ st = 3) (ne : i = 2 * nv → st = 3) : F_451 g = if 2 * nv + 2 ≤ i then wp (F_457 g) else wp (F_448 g) := by
  rw [F451s b j4 F.1 (Or.inr (Or.inr rfl)), if_neg (by decide), if_neg (by decide)]
  have R1 : F_455 (I3 j) g = F_455_0 (I3 j) g := rfl
  unfold F_455_0 at R1
  rw [ldI_I j4 (by decide), F.2.2.1] at R1; simp only [obs] at R1
  rw [if_neg (by rcases hs with rfl | rfl <;> decide), if_neg (by rcases hs with rfl | rfl <;> decide), ldI_I j4 (by decide), F.2.2.2.1] at R1; simp only [obs] at R1
  rw [ldI_I j4 (by decide), c] at R1; simp only [obs] at R1
  have R2 : F_455_222 (I3 j) (I3 nv) g = if 2 * nv + 2 ≤ i then wp (F_457 g) else wp (F_448 g) := by
    unfold F_455_222
    rw [ldI_I j4 (by decide), c]; simp only [obs]
    rw [show (2 : Int32) * I3 nv + 2 = I3 (2 * nv + 2) by rw [show (2 : Int32) * I3 nv = I3 (2 * nv) from I3_mul 2 nv]; exact I3_add _ 2]
    by_cases q : 2 * nv + 2 ≤ i
    · rw [if_pos q, if_pos (by rw [I3_le (by omega) (by omega)]; exact q)]; rfl
    · rw [if_neg q, if_neg (by rw [I3_le (by omega) (by omega)]; exact q)]; rfl
  rw [show (2 : Int32) * I3 nv = I3 (2 * nv) from I3_mul 2 nv] at R1
  have R3 : F_455 (I3 j) g = F_455_222 (I3 j) (I3 nv) g := by
    by_cases q : i = 2 * nv
    · rw [if_pos (by rw [q]), if_neg (by rw [ne q]; decide)] at R1; exact R1
    · rw [if_neg (by rw [I3_inj (by omega) (by omega)]; exact q)] at R1; exact R1
  rw [R3, R2]
  by_cases q : 2 * nv + 2 ≤ i
  · rw [if_pos q]; exact wp_wp _
  · rw [if_neg q]; exact wp_wp _
theorem F455x {kl : Nat} (F : FC g j f0 kl 5 2 (I3 nv)) (b : g.1 67 102 = I3 (j + 1)) (j4 : j < 24) (c : g.1 124 j = I3 (2 * nv)) (v3 : nv ≤ 3) : F_451 g = wp ((F_427 g).bind fun q17 => if q17.1 = 0 then some (0, q17.2) else ((stI q17.2 121 24 (I3 j) 3).bind fun h18 => F_455_222 (I3 j) (I3 nv) h18)) := by
  rw [F451s b j4 F.1 (Or.inr (Or.inr rfl)), if_neg (by decide), if_neg (by decide)]
  have R1 : F_455 (I3 j) g = F_455_0 (I3 j) g := rfl
  unfold F_455_0 at R1
  rw [ldI_I j4 (by decide), F.2.2.1] at R1; simp only [obs] at R1
  rw [if_neg (by decide), if_neg (by decide), ldI_I j4 (by decide), F.2.2.2.1] at R1; simp only [obs] at R1
  rw [ldI_I j4 (by decide), c] at R1; simp only [obs] at R1
  rw [show (2 : Int32) * I3 nv = I3 (2 * nv) from I3_mul 2 nv, if_pos rfl] at R1
  rw [R1]
  simp only [if_true]
def K211 (rec : sm_H → Option (Int32 × sm_H)) (f0 T : Nat) (q12 : Int32 × sm_H) : Option (Int32 × sm_H) :=
  if q12.1 = 0 then some (-1, q12.2)
  else ((F_208 (I3 T) q12.1 (I3 f0) q12.2).bind fun q13 =>
  if q13.1 = 0 then some (-1, q13.2)
  else ((F_174 q13.2).bind fun q14 =>
  if q14.1 = 0 then some (-1, q14.2)
  else ((F_199 rec q12.1 q14.2).bind fun q15 =>
  if q15.1 = 0 then some (-1, q15.2)
  else ((F_175 q15.2).bind fun q16 =>
  if q16.1 = 0 then some (-1, q16.2)
  else ((F_199 rec 2 q16.2).bind fun q17 =>
  if q17.1 = 0 then some (-1, q17.2)
  else ((F_175 q17.2).bind fun q18 =>
  if q18.1 = 0 then some (-1, q18.2)
  else F_211_69 rec (I3 f0) (I3 T) q12.1 0 q18.2))))))
theorem loopQ {fb : Nat} {hb gb : sm_H} (X : EX n bt nd rec (o + 1)) (ko : k < o) (hT : T ≤ 8 * k) (m3 : m ≤ 4000) (v1 : 1 ≤ nv) (v3 : nv ≤ 3) (B : BS n bt nd (o + 1) T (k + 1) nv nv f nm kd pt h g) (F : FC g (k + 1) f0 kd.length 5 1 (I3 nv)) (hn : ∀ i, i < nv → g.2.1 126 (3 * (k + 1) + i) = ns i ∧ h.2.1 61 (T + i) = ns i) (ok : ∀ i, i < nv → pt i < nH g ∧ hpl g (pt i) = kd ∧ ¬ hrs g (pt i) = 0) (eb : ∀ r, F_455_123 (I3 (k + 1)) (I3 nv - 1) g = some r → F_451 gb = wp (some r)) (Xb : XT T (k + 1) hb gb h g) (bb : gb.1 67 102 = I3 (k + 2)) (ff : fb < f) (e : gb.1 124 k = I3 m) : BO n bt o T k m fb nm kd hb gb (K211 rec f0 T (I3 nv, h)) := by
  have o20 := B.op.2.2
  have fn := RB_n B.r
  have ok0 := ok 0 (by omega)
  have k10 : kd.length ≤ 10 := by rw [← ok0.2.1]; exact hpl10 B.t.K ok0.1
  have C0 : K211 rec f0 T (I3 nv, h) = K211 rec f0 T (I3 nv, h) := rfl
  conv at C0 => rhs; unfold K211
  simp only [] at C0
  rw [if_neg (show ¬ I3 nv = (0 : Int32) by rw [I3_lit, I3_inj (by omega) (by decide)]; omega)] at C0
  obtain ⟨h1, w1, w2, w3⟩ := C_208 (ns := ns) (nv := nv) (T := T) (pt := pt) B.t.K (SCO_iff.mp B.t.S).1 (by omega) v3 ⟨T + nv, B.t.t.1, Nat.le_refl _, B.t.t.2, B.s⟩ (fun i hi => (ok i hi).1) (fun i hi => (hn i hi).2) (I3 f0)
  rw [w1] at C0; simp only [obs] at C0; rw [if_neg (by decide)] at C0
  obtain ⟨g1, z1, z2, z3⟩ := R_bindN (ns := ns) (nv := nv) (pt := pt) B.t.K (SCO_iff.mp B.t.S).2.1 (by omega) v3 B.t.b (by omega) (fun i hi => (hn i hi).1) (fun i hi => ⟨B.q i hi (by omega), (ok i hi).1⟩)
  generalize hks : lst (fun i => hrs g (pt i)) nv = ks at w2 z1
  have lks : ks.length = nv := by rw [← hks, lst_len]
  have aks : ∀ i, i < nv → at0 ks i = hrs g (pt i) := fun i hi => by rw [← hks, at0_lst hi]
  have nc1 : nC g1 = nC g := by show tn _ = tn _; rw [z2.1 67 6 (by unfold Ssr; omega)]
  have S1 : SCO (nmN ns nv nm) (ks ++ kd) h1 g1 := SCO_iff.mpr ⟨w2, z1, by rw [List.length_append]; omega, kL_app2 (fun i hi => by
    obtain ⟨q, u1, u2⟩ := rs_k B.t.K (ok i (by omega)).1
    refine ⟨q, (aks i (by omega)).trans u1, Nat.pos_of_ne_zero (fun z => (ok i (by omega)).2.2 ?_), by omega⟩
    rw [u1, z]; rfl) (kL_grow (Nat.le_of_eq nc1.symm) B.t.S.2.2.2.1)⟩
  obtain ⟨s1, X1⟩ := TS_sc (T' := T) (k' := k + 1) B.t w3 z2 S1
  have a12 : agr (fun b i => b = 121 ∧ i = k + 1) g1 (sm_wI g1 121 (k + 1) 2) := agr_wI agr_rfl ⟨rfl, rfl⟩
  have s2 : TS n bt (T + nv) (k + 1 + 1) (nmN ns nv nm) (ks ++ kd) h1 (sm_wI g1 121 (k + 1) 2) := TS_f s1 (agr_mono (fun b i z => by omega) a12)
  have X2 : XT T (k + 1) h1 g1 h1 (sm_wI g1 121 (k + 1) 2) := XT_x s1.K agr_rfl (agr_mono (fun b i z => Or.inr (Or.inr (Or.inl ⟨by omega, by omega, by omega⟩))) a12)
  have F2 : FC (sm_wI g1 121 (k + 1) 2) (k + 1) f0 kd.length 5 2 (I3 nv) := by
    have ee : ∀ b, 119 ≤ b → b ≤ 123 → g1.1 b (k + 1) = g.1 b (k + 1) := fun b b1 b2 => z2.1 b (k + 1) (by unfold Ssr; omega)
    exact ⟨(ee 119 (by omega) (by omega)).trans F.1, (ee 120 (by omega) (by omega)).trans F.2.1, if_pos rfl, (ee 122 (by omega) (by omega)).trans F.2.2.2.1, (ee 123 (by omega) (by omega)).trans F.2.2.2.2⟩
  have m2 : (sm_wI g1 121 (k + 1) 2).1 124 (k + 1) = I3 nv := (z2.1 124 _ (by unfold Ssr; omega)).trans B.mm
  have q2 : ∀ i, i < nv → (sm_wI g1 121 (k + 1) 2).1 125 (20 * (k + 1) + i) = I3 (pt i) := fun i hi => (z2.1 125 _ (by unfold Ssr; omega)).trans (B.q i hi (by omega))
  have r2 : RB n bt f (sm_wI g1 121 (k + 1) 2) := by
    obtain ⟨q, u1, u2, u3⟩ := B.r
    exact ⟨q, (z2.1 67 79 (by unfold Ssr; omega)).trans u1, u2, u3⟩
  have Z2 : Z455 (k + 1) g1 = (F_426 (sm_wI g1 121 (k + 1) 2)).bind fun q5 => if q5.1 = 0 then some (0, q5.2) else wp (F_448 q5.2) := by
    unfold Z455
    rw [stI_I (by omega) (by decide)]; rfl
  have p2 : OP (o + 1) h1 (sm_wI g1 121 (k + 1) 2) := OP_x B.op w3 (agr_trans (agr_mono (fun b i z => Or.inl z) z2) (agr_mono (fun b i z => Or.inr z) a12)) (by unfold Ssp; omega) (by unfold Ssr; omega)
  have c2 : CB n bt f h1 := by
    obtain ⟨q, u1, u2, u3⟩ := B.c
    exact ⟨q, (w3.1 52 3 (by unfold Ssp; omega)).trans u1, u2, u3⟩
  generalize hg2 : sm_wI g1 121 (k + 1) 2 = g2 at *
  have Xb2 : XT T (k + 1) hb gb h1 g2 := XT_trans Xb (XT_trans X1 X2)
  have X02 : XT T (k + 1) h g h1 g2 := XT_trans X1 X2
  rcases openB s2 p2 c2 r2 with ⟨h3, g3, -, b1, b2', b3, b4, b5, b6, b7, b8, b9, b10⟩ | ⟨e', h3, g3, b1, b2', b3, b4⟩
  rotate_left
  · rw [b1] at C0; simp only [obs] at C0; rw [if_pos trivial] at C0
    rw [b2'] at Z2; simp only [obs] at Z2; rw [if_pos trivial] at Z2
    exact BO_f bb (by omega) (by omega) (eb _ (z3 _ Z2)) C0 b3 (XT_trans (XT_mono (Nat.zero_le _) (Nat.zero_le _) Xb2) (XT_mono (Nat.zero_le _) (Nat.zero_le _) b4))
  rw [b1] at C0; simp only [obs] at C0; rw [if_neg (by decide)] at C0
  rw [b2'] at Z2; simp only [obs] at Z2; rw [if_neg (by decide)] at Z2
  have a23r : agr Srl g2 g3 := agr_mono (fun b j z => by
    rcases z with z | z
    · exact Or.inl z
    · exact Or.inr ⟨z.1, by omega⟩) b10
  have X03 : XT T (k + 1) h g h3 g3 := XT_trans X02 (XT_mono (by omega) (by omega) b8)
  have Xb3 : XT T (k + 1) hb gb h3 g3 := XT_trans Xb X03
  have B3 : BS n bt nd (o + 2) T (k + 1) nv nv (nx n bt f) (nmN ns nv nm) (ks ++ kd) pt h3 g3 := ⟨b3, b4, DF_T B.t.K B.d X03, b5, b6, (a23r.1 124 _ (by unfold Srl SLx; omega)).trans m2, fun i hi _ => (a23r.1 125 _ (by unfold Srl SLx; omega)).trans (q2 i hi), fun i hi => (b9.1 60 _ (by unfold S52; omega)).trans ((w3.1 60 _ (by unfold Ssp; omega)).trans (B.s i hi))⟩
  have F3 := FC_r F2 a23r
  have fE : ∀ rr c g', RunR rr c g' → F_448 g3 = rr → Run gb (c + 1) g' := fun rr c g' r er => by
    obtain ⟨g5, r1, r2⟩ := r
    rw [er, r1, wp1] at Z2
    exact RunR_run (j := k + 1) bb (by omega) (by omega) (eb _ (z3 _ Z2)) ⟨g5, rfl, r2⟩
  have fD : ∀ rr c g', DieR rr c g' → F_448 g3 = rr → Die gb (c + 1) g' := fun rr c g' r er => by
    rcases r with r | ⟨g5, r1, r2⟩
    · rw [er, r, wp0] at Z2
      exact DieR_die (j := k + 1) bb (by omega) (by omega) (eb _ (z3 _ Z2)) (Or.inl rfl)
    · rw [er, r1, wp1] at Z2
      exact DieR_die (j := k + 1) bb (by omega) (by omega) (eb _ (z3 _ Z2)) (Or.inr ⟨g5, rfl, r2⟩)
  rcases partF (N := nv) (i := 0) X (show o + 1 ≤ o + 2 by omega) (show k + 1 < o + 2 by omega) (show T + 8 ≤ 8 * (k + 1) by omega) (by omega) (by omega) (by omega) (by omega) B3 with ⟨y, h4, g4, f4, c4, t1, t2, t3, t4, t5, t6, t7⟩ | ⟨e', pc, h4, g4, c4, t1, t2, t3, t4, t5⟩
  rotate_left
  · rw [show F_199 rec (I3 nv) h3 = some (0, h4) from t1 1000000 (by omega)] at C0; simp only [obs] at C0; rw [if_pos trivial] at C0
    exact Or.inr ⟨e', pc, h4, g4, c4 + 1, C0, t2, XT_trans (XT_mono (Nat.zero_le _) (Nat.zero_le _) Xb3) t3, by omega, fD _ _ _ t5 rfl⟩
  have F4 := FC_x F3 t7.2.2.2
  have Rb4 := fE _ _ _ t2 rfl
  have X34 : XT T (k + 1) h3 g3 h4 g4 := PT_XT t4.t.K t4.t.l (PT_s (by omega) t7)
  rcases parts (g0 := g4) X (show o + 1 ≤ o + 2 by omega) (show k + 1 < o + 2 by omega) (by omega) (by omega) (show T + 8 ≤ 8 * (k + 1) by omega) (show nv ≤ 8 by omega) (nv - 1) 1 999999 (nv + 1) f4 (updN pt nv y) h4 g4 (by omega) (by omega) (by omega) t4 agr_rfl (fun i' g' i1 i2 a b c => by
      rw [F455w (FC_x F4 a) b (by omega) c v3 (by omega) (Or.inl rfl) (fun z => by omega), if_neg (by omega)]) with ⟨h5, g5, f5, c5, pt5, a1, a2, a3, a4, a5, a6, a7⟩ | ⟨e', pc, h5, g5, c5, a1, a2, a3, a4, a5⟩
  rotate_left
  · rw [show F_199 rec (I3 nv) h3 = some (0, h5) from (t1 1000000 (by omega)).trans a1] at C0; simp only [obs] at C0; rw [if_pos trivial] at C0
    exact Or.inr ⟨e', pc, h5, g5, (c4 + 1) + c5, C0, a2, XT_trans (XT_mono (Nat.zero_le _) (Nat.zero_le _) (XT_trans Xb3 X34)) a3, by omega, Run_die Rb4 a5⟩
  rw [show F_199 rec (I3 nv) h3 = some (1, h5) from (t1 1000000 (by omega)).trans a1] at C0; simp only [obs] at C0; rw [if_neg (by decide)] at C0
  rw [show nv + 1 + (nv - 1) = 2 * nv by omega] at a4 a6
  have F5 := FC_x F4 a7.2.2.2
  have X45 : XT T (k + 1) h4 g4 h5 g5 := PT_XT a4.t.K a4.t.l (PT_s (by omega) a7)
  have Rb5 := Run_trans Rb4 a2
  have Xb5 := XT_trans Xb3 (XT_trans X34 X45)
  have X05 := XT_trans X03 (XT_trans X34 X45)
  have R5 := F455x F5 a4.t.b (by omega) a4.mm v3
  have fn5 := RB_n a4.r
  rcases closeE a4.t a4.op a4.c a4.r with ⟨h6, g6, d1, d2, d3, d4, d5, d6, d7, d8, d9⟩ | ⟨e', h6, g6, d1, d2, d3, d4⟩
  rotate_left
  · rw [d1] at C0; simp only [obs] at C0; rw [if_pos trivial] at C0
    rw [d2] at R5; simp only [obs] at R5; rw [if_pos trivial] at R5
    exact BO_tr (f := f5) Rb5 (by omega) Xb5 (BO_f a4.t.b (by omega) fn5 R5 C0 d3 (XT_mono (Nat.zero_le _) (Nat.zero_le _) d4))
  rw [d1] at C0; simp only [obs] at C0; rw [if_neg (by decide)] at C0
  rw [d2] at R5; simp only [obs] at R5; rw [if_neg (by decide), stI_I (by omega) (by decide)] at R5; simp only [obs] at R5
  have a67 : agr (fun b i => b = 121 ∧ i = k + 1) g6 (sm_wI g6 121 (k + 1) 3) := agr_wI agr_rfl ⟨rfl, rfl⟩
  have F7 : FC (sm_wI g6 121 (k + 1) 3) (k + 1) f0 kd.length 5 3 (I3 nv) := by
    have F6 := FC_r F5 d9
    exact ⟨F6.1, F6.2.1, if_pos rfl, F6.2.2.2.1, F6.2.2.2.2⟩
  have m7 : (sm_wI g6 121 (k + 1) 3).1 124 (k + 1) = I3 (2 * nv) := (d9.1 124 _ (by unfold Srl SLx; omega)).trans a4.mm
  have q7 : ∀ i, i < 2 * nv → (sm_wI g6 121 (k + 1) 3).1 125 (20 * (k + 1) + i) = I3 (pt5 i) := fun i hi => (d9.1 125 _ (by unfold Srl SLx; omega)).trans (a4.q i hi (by omega))
  have r7 : RB n bt (nx n bt f5) (sm_wI g6 121 (k + 1) 3) := d6
  generalize hg7 : sm_wI g6 121 (k + 1) 3 = g7 at *
  have R7 : F_451 g5 = wp (F_448 g7) := by
    rw [R5]
    have R2 : F_455_222 (I3 (k + 1)) (I3 nv) g7 = wp (F_448 g7) := by
      unfold F_455_222
      rw [ldI_I (by omega) (by decide), m7]; simp only [obs]
      rw [show (2 : Int32) * I3 nv + 2 = I3 (2 * nv + 2) by rw [show (2 : Int32) * I3 nv = I3 (2 * nv) from I3_mul 2 nv]; exact I3_add _ 2, if_neg (by rw [I3_le (by omega) (by omega)]; omega)]; rfl
    rw [R2]; exact wp_wp _
  have s7 : TS n bt (T + 2 * nv) (k + 1 + 1) (nmN ns nv nm) (ks ++ kd) h6 g7 := TS_f d3 (agr_mono (fun b i z => by omega) a67)
  have X57 : XT T (k + 1) h5 g5 h6 g7 := XT_trans (XT_y a4.t.K d8 d9) (XT_x d3.K agr_rfl (agr_mono (fun b i z => Or.inr (Or.inr (Or.inl ⟨by omega, by omega, by omega⟩))) a67))
  have B7 : BS n bt nd (o + 1) T (k + 1) (2 * nv) (2 * nv) (nx n bt f5) (nmN ns nv nm) (ks ++ kd) pt5 h6 g7 := ⟨s7, OP_x d4 (P := fun _ _ => False) agr_rfl a67 (fun z => z) (by omega), DF_T a4.t.K a4.d X57, d5, r7, m7, fun i hi _ => q7 i hi, fun i hi => (d8.1 60 _ (by unfold Scl S52; omega)).trans (a4.s i hi)⟩
  rcases partF (N := 2) (i := 0) X (Nat.le_refl _) (show k + 1 < o + 1 by omega) (show T + 8 ≤ 8 * (k + 1) by omega) (by omega) (by omega) (by omega) (by omega) B7 with ⟨y8, h8, g8, f8, c8, t1', t2', t3', t4', t5', t6', t7'⟩ | ⟨e', pc, h8, g8, c8, t1', t2', t3', t4', t5'⟩
  rotate_left
  · rw [show F_199 rec 2 h6 = some (0, h8) from t1' 1000000 (by omega)] at C0; simp only [obs] at C0; rw [if_pos trivial] at C0
    exact BO_tr (f := f5) Rb5 (by omega) Xb5 (BO_d a4.t.b (by omega) (Nat.le_of_lt d7) R7 t5' t4' C0 t2' (XT_trans (XT_mono (Nat.zero_le _) (Nat.zero_le _) X57) t3'))
  have F8 := FC_x F7 t7'.2.2.2
  have Rb8 := Run_trans Rb5 (RunR_run (j := k + 1) a4.t.b (by omega) (by omega) R7 (RunR_wp t2'))
  have X78 : XT T (k + 1) h6 g7 h8 g8 := PT_XT t4'.t.K t4'.t.l (PT_s (by omega) t7')
  rcases parts (g0 := g8) X (Nat.le_refl _) (show k + 1 < o + 1 by omega) (by omega) (by omega) (show T + 8 ≤ 8 * (k + 1) by omega) (show 2 ≤ 8 by omega) 1 1 999999 (2 * nv + 1) f8 (updN pt5 (2 * nv) y8) h8 g8 (by omega) (by omega) (by omega) t4' agr_rfl (fun i' g' i1 i2 a b c => by
      rw [F455w (FC_x F8 a) b (by omega) c v3 (by omega) (Or.inr rfl) (fun _ => rfl), if_neg (by omega)]) with ⟨h9, g9, f9, c9, pt9, a1', a2', a3', a4', a5', a6', a7'⟩ | ⟨e', pc, h9, g9, c9, a1', a2', a3', a4', a5'⟩
  rotate_left
  · rw [show F_199 rec 2 h6 = some (0, h9) from (t1' 1000000 (by omega)).trans a1'] at C0; simp only [obs] at C0; rw [if_pos trivial] at C0
    exact Or.inr ⟨e', pc, h9, g9, _, C0, a2', XT_trans (XT_mono (Nat.zero_le _) (Nat.zero_le _) (XT_trans Xb5 (XT_trans X57 X78))) a3', by omega, Run_die Rb8 a5'⟩
  rw [show F_199 rec 2 h6 = some (1, h9) from (t1' 1000000 (by omega)).trans a1'] at C0; simp only [obs] at C0; rw [if_neg (by decide)] at C0
  rw [show 2 * nv + 1 + 1 = 2 * nv + 2 by omega] at a4' a6'
  have F9 := FC_x F8 a7'.2.2.2
  have X89 : XT T (k + 1) h8 g8 h9 g9 := PT_XT a4'.t.K a4'.t.l (PT_s (by omega) a7')
  have X79 := XT_trans X78 X89
  have Xb9 := XT_trans Xb5 (XT_trans X57 X79)
  rw [C0]
  refine BO_tr (f := f9) (Run_trans Rb8 a2') (by omega) Xb9 (closeFin (mk := F_211_69 rec (I3 f0) (I3 T) (I3 nv) 0) a4' (by omega) m3 F9.2.1 F9.2.2.2.2 ((Xb9.a.1 124 k (by unfold XRc SRa SRq SRb SRp SRh SRt Ssr SLx; omega)).trans e) (by
    rw [F455w F9 a4'.t.b (by omega) a4'.mm v3 (by omega) (Or.inr rfl) (fun _ => rfl), if_pos (by omega)]) (fun h10 g10 s10 x10 => ?_))
  obtain ⟨s11, x11'⟩ := TS_x (T' := T + (2 * nv + 2)) (k' := k + 2) s10 agr_rfl (agr_wI agr_rfl (Or.inr ⟨rfl, Or.inr (Or.inl rfl)⟩) : agr (fun b j => SLx b j ∨ (b = 67 ∧ (j = 105 ∨ j = 106 ∨ j = 108))) g10 (sm_wI g10 67 106 (I3 f0)))
  have x11 := XT_trans x10 x11'
  have fe : ∀ b, 119 ≤ b → b ≤ 124 → (sm_wI g10 67 106 (I3 f0)).1 b (k + 1) = g9.1 b (k + 1) := fun b b1 b2 => x11.a.1 b (k + 1) (by unfold XRc SRa SRq SRb SRp SRh SRt Ssr SLx; omega)
  have X09 := XT_trans X05 (XT_trans X57 X79)
  have pe : ∀ i, i < nv → pt9 i = pt i := fun i hi => by rw [a5' i (by omega), up_o _ _ (by omega), a5 i (by omega), up_o _ _ (by omega)]
  have XF := XT_trans (XT_mono (Nat.zero_le _) (Nat.zero_le _) X09) (XT_mono (Nat.zero_le _) (Nat.zero_le _) x11)
  have X5F := XT_trans (XT_mono (Nat.zero_le _) (Nat.zero_le _) (XT_trans X57 X79)) (XT_mono (Nat.zero_le _) (Nat.zero_le _) x11)
  have X8F := XT_trans (XT_mono (Nat.zero_le _) (Nat.zero_le _) X89) (XT_mono (Nat.zero_le _) (Nat.zero_le _) x11)
  have X4F := XT_trans (XT_mono (Nat.zero_le _) (Nat.zero_le _) X45) X5F
  have fr : FRM (sm_wI g10 67 106 (I3 f0)) (k + 1) 5 (I3 nv) (2 * nv + 2) pt9 := ⟨by omega, (fe 119 (by omega) (by omega)).trans F9.1, (fe 122 (by omega) (by omega)).trans F9.2.2.2.1, (fe 124 (by omega) (by omega)).trans a4'.mm, by omega, fun i hi => (x11.a.1 125 _ (by unfold XRc SRa SRq SRb SRp SRh SRt Ssr SLx; omega)).trans (a4'.q i hi (by omega))⟩
  rw [show F_460 (I3 (k + 1)) (sm_wI g10 67 106 (I3 f0)) = F_462 (I3 (k + 1)) (sm_wI g10 67 106 (I3 f0)) from by
    rw [F460 fr]
    unfold F_460_74
    rw [ld122 fr, ld119 fr]; simp only [obs]
    rw [if_neg (by decide), if_neg (by decide), if_neg (by decide), if_neg (by decide), if_pos trivial, bind_id]]
  refine loopEnd (nm' := nmN ns nv nm) (ks := ks) (kd := kd) (pt := pt9) s11.K s11.S (fun i => by unfold nmN; rw [lks, if_neg (by omega), Nat.add_sub_cancel_left]) s11.nf rfl v1 v3 lks ⟨T + (2 * nv + 2), s10.t.1, Nat.le_refl _, s10.t.2, fun i hi => (x10.c.1 60 _ (by unfold XCc SCq SCb Ssc SCd SCh SCt Ssp S52; omega)).trans (a4'.s i hi)⟩ (by omega) (fun i hi => by rw [aks i hi]; exact (ok i hi).2.2) (fun i hi => ?_) (fun i i1 i2 => ?_) (fun i hi => (x11.a.1 125 _ (by unfold XRc SRa SRq SRb SRp SRh SRt Ssr SLx; omega)).trans (a4'.q i hi (by omega))) ((fe 122 (by omega) (by omega)).trans F9.2.2.2.1) ((fe 123 (by omega) (by omega)).trans F9.2.2.2.2) rec
  · rw [pe i hi, aks i hi]
    exact ⟨XF.nH (ok i hi).1, (XF.hpl B.t.K (ok i hi).1).trans (ok i hi).2.1, XF.hrs B.t.K (ok i hi).1⟩
  · by_cases c1 : i < 2 * nv
    · rw [a5' i (by omega), up_o _ _ (by omega)]
      by_cases c2 : i = nv
      · subst c2
        rw [a5 i (by omega), up_s]
        exact ⟨X4F.nH t5, (X4F.hpl t4.t.K t5).trans t6⟩
      · have z := a6 i (by omega) (by omega)
        exact ⟨X5F.nH z.1, (X5F.hpl a4.t.K z.1).trans z.2⟩
    · by_cases c2 : i = 2 * nv
      · subst c2
        rw [a5' _ (by omega), up_s]
        exact ⟨X8F.nH t5', (X8F.hpl t4'.t.K t5').trans t6'⟩
      · have z := a6' i (by omega) (by omega)
        have XX := XT_mono (Nat.zero_le _) (Nat.zero_le _) x11 (T' := 0) (k' := 0)
        exact ⟨XX.nH z.1, (XX.hpl a4'.t.K z.1).trans z.2⟩
end
