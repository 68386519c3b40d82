section
variable {n : Nat} {bt : Nat → Nat} {nd o T j k m p f f0 np r0 : Nat} {ps : Nat → Int64} {ks : Nat → Int32} {h g h1 g1 h2 g2 : sm_H}
theorem parX (nd60 : nd < 60) (s : TU n bt k h g) (o : OP 1 h g) (c : CB n bt f h) (rb : RB n bt f g) :
    (∃ h1 g1 f' np ps ks, F_178 h = some (1, h1) ∧ F_464 (I3 nd) g = some (1, g1) ∧ f < f' ∧ TU n bt k h1 g1 ∧ OP 1 h1 g1 ∧ CB n bt f' h1 ∧ RB n bt f' g1 ∧ PS nd np ps ks h1 g1 ∧ PQ nd h g h1 g1) ∨ ∃ e pc h1 g1, F_178 h = some (0, h1) ∧ F_464 (I3 nd) g = some (0, g1) ∧ FT e pc h1 g1 ∧ PQ nd h g h1 g1 := by
  have a0 : agr Ssp h (sm_wI h 55 9 0) := agr_wI agr_rfl (Or.inl ⟨rfl, rfl⟩)
  have X0 : XT 0 0 h g (sm_wI h 55 9 0) g := XT_TW (TW_sc s.K a0 agr_rfl) (fun _ => ⟨0, by omega, rfl⟩)
  have s0 : TU n bt k (sm_wI h 55 9 0) g := ⟨X0.k1, s.nf, trivial, s.t, s.b, s.xc, s.xr⟩
  have e9 : (sm_wI h 55 9 0).1 55 9 = I3 0 := rfl
  have o0 : OP 1 (sm_wI h 55 9 0) g := o
  have c0 : CB n bt f (sm_wI h 55 9 0) := c
  have C0 : F_178 h = F_178_0 h := rfl
  unfold F_178_0 F_178_16 at C0
  simp only [Option.bind_some] at C0
  generalize sm_wI h 55 9 0 = h0 at *
  have R0 : F_464 (I3 nd) g = F_464_0 (I3 nd) g := rfl
  unfold F_464_0 F_464_25 at R0
  rcases openB s0 o0 c0 rb with ⟨h1, g1, -, a1, a2, a3, a4, a5, a6, a7, a8, a9, a10⟩ | ⟨e', h1, g1, a1, a2, a3, a4⟩
  rotate_left
  · right
    rw [a1] at C0; simp only [obs] at C0; rw [if_pos trivial] at C0
    rw [a2] at R0; simp only [obs] at R0; rw [if_pos trivial] at R0
    exact ⟨e', _, h1, g1, C0, R0, a3, PQ_XT (XT_trans X0 (XT_mono (Nat.zero_le _) (Nat.zero_le _) a4))⟩
  rw [a1] at C0; simp only [obs] at C0; rw [if_neg (by decide)] at C0
  rw [a2] at R0; simp only [obs] at R0; rw [if_neg (by decide), stI_I nd60 (by decide)] at R0; simp only [obs] at R0
  have KA := K1_115 (h := h1) a3.K nd 0
  have s2 : TU n bt k h1 (sm_wI g1 115 nd 0) := ⟨KA.1, a3.nf, trivial, a3.t, a3.b, a3.xc, a3.xr⟩
  have Q2 : PQ nd h1 g1 h1 (sm_wI g1 115 nd 0) := ⟨KA.1, KA.2.1, KA.2.2, agr_rfl, agr_wI agr_rfl (Or.inr (Or.inl ⟨rfl, rfl⟩))⟩
  have Q0 : PQ nd h g h1 (sm_wI g1 115 nd 0) := PQ_trans (PQ_XT (XT_trans X0 (XT_mono (Nat.zero_le _) (Nat.zero_le _) a8))) Q2
  have P2 : PS nd 0 (fun _ => 0) (fun _ => 0) h1 (sm_wI g1 115 nd 0) := ⟨by omega, (a9.1 55 9 (by unfold S52; omega)).trans e9, if_pos rfl, fun q hq => by omega⟩
  rcases parN nd60 6 0 (by omega) 1000000 1000000 (nx n bt f) _ _ h1 (sm_wI g1 115 nd 0) (by omega) (by omega) s2 a4 a5 a6 P2 with ⟨h9, g9, f', np', ps', ks', z1, z2, z3, z4, z5, z6, z7, z8, z9⟩ | ⟨e', pc, h9, g9, z1, z2, z3, z4⟩
  · exact Or.inl ⟨h9, g9, f', np', ps', ks', C0.trans z1, R0.trans z2, by omega, z4, z5, z6, z7, z8, PQ_trans Q0 z9⟩
  · exact Or.inr ⟨e', pc, h9, g9, C0.trans z1, R0.trans z2, z3, PQ_trans Q0 z4⟩
def Y465 (f : Nat) (x : Int64) (r0 nd : Int32) (u : sm_H) : Option (Int32 × sm_H) := (some (sm_wI u 67 106 (I3 f))).bind fun h16 =>
  (F_428 r0 h16).bind fun q17 =>
  if q17.1 = (-1) then (F_465_296 (I3 f) x r0 nd (-1) q17.2)
  else ((F_430 34 0 q17.1 0 q17.2).bind fun q18 =>
  F_465_296 (I3 f) x r0 nd q18.1 q18.2)
theorem Y465_b {c : Int32} (hc : c < 0) (x : Int64) (r0' nd' : Int32) (u : sm_H) : F_465_228B (I3 f, x, r0', nd', c, u) = (Y465 f x r0' nd' u).map .inr := by
  unfold F_465_228B Y465
  show (if c < 0 then _ else _) = _
  rw [if_pos hc, bind_mapX]
  refine congrArg _ (funext fun h16 => ?_)
  rw [bind_mapX]
  refine congrArg _ (funext fun q17 => ?_)
  rw [ite_mapX, bind_mapX]
theorem R_174 (nd60 : nd < 60) (P : PS nd np ps ks h g) (x : Int64) (r0' : Int32) : ∃ g1, SCR ps (lst ks np) g1 ∧ agr (fun b j => b = 130 ∨ Ssr b j) g g1 ∧ ∀ r, Y465 f x r0' (I3 nd) g1 = some r → F_465_174 (I3 f) x r0' (I3 nd) 0 g = some r := by
  obtain ⟨n6, -, e115, pp⟩ := P
  have LB : ∀ c u fu, c ≤ np → c < fu → agr (fun b j => b = 130 ∨ Ssr b j) g u → (∀ q, q < np → u.2.1 130 q = ps q) → SCR (fun i => ps (c + i)) (lst (fun i => ks (c + i)) (np - c)) u → ∃ g1, SCR ps (lst ks np) g1 ∧ agr (fun b j => b = 130 ∨ Ssr b j) g g1 ∧ ∀ r, Y465 f x r0' (I3 nd) g1 = some r → lp F_465_228B fu (I3 f, x, r0', I3 nd, I3 c - 1, u) = some r := by
    intro c
    induction c with
    | zero =>
      intro u fu hc hf au v130 Su
      refine ⟨u, ?_, au, fun r hr => lp_e (by omega) ?_⟩
      · have e1 : (fun i => ps (0 + i)) = ps := by funext i; rw [Nat.zero_add]
        have e2 : lst (fun i => ks (0 + i)) (np - 0) = lst ks np := by
          rw [Nat.sub_zero]; exact lst_congr (fun i _ => by rw [Nat.zero_add])
        rw [e1, e2] at Su; exact Su
      · rw [Y465_b (by decide), hr]; rfl
    | succ c ih =>
      intro u fu hc hf au v130 Su
      have ll : (lst (fun i => ks (c + 1 + i)) (np - (c + 1))).length < 400 := by rw [lst_len]; omega
      obtain ⟨u1, d1, d2, d3⟩ := R_bind Su ll (ps c) (ks c)
      have v116 : u.1 116 (6 * nd + c) = ks c := (au.1 116 _ (by unfold Ssr; omega)).trans (pp c (by omega)).2.2.2.1
      have B : F_465_228B (I3 f, x, r0', I3 nd, I3 (c + 1) - 1, u) = some (.inl (I3 f, x, r0', I3 nd, I3 c - 1, u1)) := by
        rw [I3_s1]
        unfold F_465_228B
        show (if I3 c < 0 then _ else _) = _
        rw [if_neg (I3_nn (by omega))]
        simp only []
        rw [ldJ_I (by omega) (by decide), v130 c (by omega)]; simp only [obs]
        rw [show (6 : Int32) * I3 nd + I3 c = I3 (6 * nd + c) by rw [I3_lit, I3_mul, I3_add], ldI_I (by omega) (by decide), v116]; simp only [obs]
        rw [d1]; simp only [obs]
        rw [show I3 c + (-1) = I3 c - 1 from (Int32.sub_eq_add_neg _ _).symm]
      have en : nm1 (ps c) (fun i => ps (c + 1 + i)) = fun i => ps (c + i) := by
        funext i
        unfold nm1
        by_cases q : i = 0
        · subst q; rw [if_pos rfl, Nat.add_zero]
        · rw [if_neg q]
          show ps (c + 1 + (i - 1)) = _
          rw [show c + 1 + (i - 1) = c + i by omega]
      have ek : ks c :: lst (fun i => ks (c + 1 + i)) (np - (c + 1)) = lst (fun i => ks (c + i)) (np - c) := by
        rw [show np - c = (np - (c + 1)) + 1 by omega, lst_cons, Nat.add_zero]
        rw [lst_congr (f := fun i => ks (c + (i + 1))) (f1 := fun i => ks (c + 1 + i)) (fun i _ => by rw [show c + (i + 1) = c + 1 + i by omega])]
        rfl
      rw [en, ek] at d2
      obtain ⟨g1, z1, z2, z3⟩ := ih u1 (fu - 1) (by omega) (by omega) (agr_trans au (agr_mono (fun b j z => Or.inr z) d3)) (fun q hq => (d3.2.1 130 q (by unfold Ssr; omega)).trans (v130 q hq)) d2
      exact ⟨g1, z1, z2, fun r hr => by rw [lp_s (by omega) B]; exact z3 r hr⟩
  have LA : ∀ c q u fu, q + c = np → c < fu → agr (fun b j => b = 130 ∨ Ssr b j) g u → (∀ i, i < q → u.2.1 130 i = ps i) → (∀ i, i < np → u.2.1 117 (390 + i) = ps i) → ∃ g1, SCR ps (lst ks np) g1 ∧ agr (fun b j => b = 130 ∨ Ssr b j) g g1 ∧ ∀ r, Y465 f x r0' (I3 nd) g1 = some r → lp F_465_174B fu (I3 f, x, r0', I3 nd, I3 q, u) = some r := by
    intro c
    induction c with
    | zero =>
      intro q u fu hq hf au v130 v117
      have e : q = np := by omega
      subst e
      have au' : agr (fun b j => b = 130 ∨ Ssr b j) g (sm_wI u 67 94 400) := agr_wI au (Or.inr (Or.inl ⟨rfl, rfl⟩))
      have e115' : u.1 115 nd = I3 q := (au.1 115 nd (by unfold Ssr; omega)).trans e115
      have S0 : SCR (fun i => ps (q + i)) (lst (fun i => ks (q + i)) (q - q)) (sm_wI u 67 94 400) := by
        rw [Nat.sub_self]
        exact ⟨rfl, fun i hi => by cases hi⟩
      obtain ⟨g1, z1, z2, z3⟩ := LB q (sm_wI u 67 94 400) 1000000 (Nat.le_refl _) (by omega) au' v130 S0
      refine ⟨g1, z1, z2, fun r hr => lp_e (by omega) ?_⟩
      unfold F_465_174B
      simp only []
      rw [ldI_I nd60 (by decide), e115']; simp only [obs]
      rw [if_pos (by rw [I3_le (by omega) (by omega)]; omega), ldI_I nd60 (by decide), show (sm_wI u 67 94 400).1 115 nd = I3 q from e115']; simp only [obs]
      rw [show F_465_228 (I3 f) x r0' (I3 nd) (I3 q - 1) (sm_wI u 67 94 400) = some r from z3 r hr]; rfl
    | succ c ih =>
      intro q u fu hq hf au v130 v117
      have e115' : u.1 115 nd = I3 np := (au.1 115 nd (by unfold Ssr; omega)).trans e115
      have B : F_465_174B (I3 f, x, r0', I3 nd, I3 q, u) = some (.inl (I3 f, x, r0', I3 nd, I3 (q + 1), sm_wJ u 130 q (ps q))) := by
        unfold F_465_174B
        simp only []
        rw [ldI_I nd60 (by decide), e115']; simp only [obs]
        rw [if_neg (by rw [I3_le (by omega) (by omega)]; omega), show (390 : Int32) + I3 q = I3 (390 + q) by rw [I3_lit, I3_add], ldJ_I (by omega) (by decide), v117 q (by omega)]; simp only [obs]
        rw [stJ_I (by omega) (by decide)]; simp only [obs]
        rw [show I3 q + 1 = I3 (q + 1) from I3_add q 1]
      obtain ⟨g1, z1, z2, z3⟩ := ih (q + 1) (sm_wJ u 130 q (ps q)) (fu - 1) (by omega) (by omega) (agr_wJ au (Or.inl rfl)) (fun i hi => by
        show (if i = q then ps q else u.2.1 130 i) = ps i
        by_cases z : i = q
        · rw [if_pos z, z]
        · rw [if_neg z]; exact v130 i (by omega)) v117
      exact ⟨g1, z1, z2, fun r hr => by rw [lp_s (by omega) B]; exact z3 r hr⟩
  exact LA np 0 g 1000000 (by omega) (by omega) agr_rfl (fun i hi => by omega) (fun i hi => (pp i hi).2.2.1)
theorem C_155 (K : K1 h g) (x : Int32) : F_155 x h = if nG g < 80 then some (I3 (nG g), sm_wI (sm_wI h 32 (nG g) x) 21 8 (I3 (nG g + 1))) else some (-1, h) := by
  obtain ⟨r1, ⟨r2, r3⟩, -⟩ := K.2.2.2.2.2.2.2.2.1
  have e : h.1 21 8 = I3 (nG g) := r1.trans r2
  have n8 : nG g ≤ 80 := r3
  show F_155_0 x h = _
  unfold F_155_0
  rw [e]
  by_cases q : nG g < 80
  · rw [if_pos q, if_pos (by rw [I3_lit, I3_lt (by omega) (by decide)]; exact q), stI_I q (by decide)]; simp only [obs]
    rw [show (sm_wI h 32 (nG g) x).1 21 8 = I3 (nG g) from e, show I3 (nG g) + 1 = I3 (nG g + 1) from I3_add _ 1, show (sm_wI (sm_wI h 32 (nG g) x) 21 8 (I3 (nG g + 1))).1 21 8 = I3 (nG g + 1) from rfl, I3_s1]
  · rw [if_neg q, if_neg (by rw [I3_lit, I3_lt (by omega) (by decide)]; exact q)]
theorem R_398 (K : K1 h g) {y : Nat} (hy : y < nH g) : F_398 (I3 y) g = if nG g < 80 then some (I3 (nG g), sm_wI (sm_wI g 92 (nG g) (I3 y)) 67 35 (I3 (nG g + 1))) else some (-1, g) := by
  obtain ⟨r1, ⟨r2, r3⟩, -⟩ := K.2.2.2.2.2.2.2.2.1
  have e : g.1 67 35 = I3 (nG g) := r2
  have n8 : nG g ≤ 80 := r3
  have w5 := lt500 K hy
  show F_398_0 (I3 y) g = _
  unfold F_398_0 F_398_17
  rw [e]
  by_cases q : nG g < 80
  · rw [if_pos q, if_neg (by rw [I3_lit, I3_inj (by omega) (by decide)]; omega), R_isHg K.2.2.2.2.1, inR_I (by have := w500 K; omega), decide_eq_true hy]; simp only [obs]
    rw [if_neg (by decide), e, stI_I q (by decide)]; simp only [obs]
    rw [show (sm_wI g 92 (nG g) (I3 y)).1 67 35 = I3 (nG g) from e, show I3 (nG g) + 1 = I3 (nG g + 1) from I3_add _ 1, show (sm_wI (sm_wI g 92 (nG g) (I3 y)) 67 35 (I3 (nG g + 1))).1 67 35 = I3 (nG g + 1) from rfl, I3_s1]
  · rw [if_neg q, if_pos (by rw [I3_lit, I3_inj (by omega) (by decide)]; omega)]
end
