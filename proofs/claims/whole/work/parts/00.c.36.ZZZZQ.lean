def nmN (ns : Nat → Int64) (nv : Nat) (nm : Nat → Int64) (i : Nat) : Int64 := if i < nv then ns i else nm (i - nv)
theorem nm1_N (x : Int64) (nm : Nat → Int64) : nm1 x nm = nmN (fun _ => x) 1 nm := by
  funext i
  unfold nm1 nmN
  by_cases q : i = 0
  · rw [if_pos q, if_pos (by omega)]
  · rw [if_neg q, if_neg (by omega)]
theorem kL_app2 {g : sm_H} {ks kd : List Int32} (a : kL g ks) (b : kL g kd) : kL g (ks ++ kd) := fun i hi => by
  rw [List.length_append] at hi
  by_cases q : i < ks.length
  · rw [at0_app1 q]; exact a i q
  · rw [at0_app2 (by omega)]; exact b _ (by omega)
theorem C_183 {i : Nat} (hi : i < 16) (x : Int64) (v : Int32) (u : sm_H) : F_183 (I3 i) x v u = some (sm_wI (sm_wJ u 58 i x) 59 i v) := by
  show F_183_0 (I3 i) x v u = _
  unfold F_183_0 F_183_25
  rw [if_neg (I3_nn (by omega)), if_neg (by rw [I3_lit, I3_le (by decide) (by omega)]; omega), stJ_I hi (by decide)]; simp only [obs]
  rw [stI_I hi (by decide)]; simp only [obs]
theorem C_208 {ns nm : Nat → Int64} {kd : List Int32} {pt : Nat → Nat} {nv T : Nat} {h g : sm_H} (K : K1 h g) (S : SCC nm kd h) (hn : kd.length + nv ≤ 16) (v3 : nv ≤ 3) (st : STK h T nv pt) (hp : ∀ i, i < nv → pt i < nH g) (h61 : ∀ i, i < nv → h.2.1 61 (T + i) = ns i) (pc : Int32) : ∃ h1, F_208 (I3 T) (I3 nv) pc h = some (1, h1) ∧ SCC (nmN ns nv nm) (lst (fun i => hrs g (pt i)) nv ++ kd) h1 ∧ agr Ssp h h1 := by
  obtain ⟨top, t1, t2, t3, t4⟩ := id st
  obtain ⟨h0, c1, c2, c3, c4⟩ := C_shift S (n := nv) hn pc
  have LP : ∀ r i fu u, i + r = nv → r < fu → agr Ssp h u → u.1 55 9 = I3 (kd.length + nv) → (∀ q, q < kd.length → u.2.1 58 (nv + q) = nm q ∧ u.1 59 (nv + q) = at0 kd q) → (∀ q, q < i → u.2.1 58 q = ns q ∧ u.1 59 q = hrs g (pt q)) → ∃ h1, lp F_208_32B fu (I3 T, I3 nv, I3 i, u) = some (1, h1) ∧ SCC (nmN ns nv nm) (lst (fun i => hrs g (pt i)) nv ++ kd) h1 ∧ agr Ssp h h1 := by
    intro r
    induction r with
    | zero =>
      intro i fu u hi hf au u9 ua ub
      have e : i = nv := by omega
      subst e
      refine ⟨u, lp_e (by omega) ?_, ⟨by rw [u9, List.length_append, lst_len, Nat.add_comm], fun q hq => ?_⟩, au⟩
      · unfold F_208_32B
        show (if I3 i ≤ I3 i then _ else _) = _
        rw [if_pos (by rw [I3_le (by omega) (by omega)]; omega)]; rfl
      · rw [List.length_append, lst_len] at hq
        unfold nmN
        by_cases w : q < i
        · rw [if_pos w, at0_app1 (by rw [lst_len]; exact w), at0_lst w]; exact ub q w
        · have z := ua (q - i) (by omega)
          rw [show i + (q - i) = q by omega] at z
          rw [if_neg w, at0_app2 (by rw [lst_len]; omega), lst_len]; exact z
    | succ r ih =>
      intro i fu u hi hf au u9 ua ub
      have K' : K1 u g := K1_h K (agr_mono Ssp_not au)
      have s' := STK_sc st au
      have C : F_208_32B (I3 T, I3 nv, I3 i, u) = some (.inl (I3 T, I3 nv, I3 (i + 1), sm_wI (sm_wJ u 58 i (ns i)) 59 i (hrs g (pt i)))) := by
        unfold F_208_32B
        show (if I3 nv ≤ I3 i then _ else if 200 ≤ I3 T + I3 i then _ else _) = _
        rw [if_neg (by rw [I3_le (by omega) (by omega)]; omega), show I3 T + I3 i = I3 (T + i) from I3_add T i, if_neg (by rw [I3_lit, I3_le (by decide) (by omega)]; omega)]
        simp only []
        rw [ldJ_I (by omega) (by decide), au.2.1 61 _ (by unfold Ssp; omega), h61 i (by omega)]; simp only [obs]
        rw [C_189 K' s' (i := i) (by omega) (hp i (by omega))]; simp only [obs]
        rw [C_183 (by omega)]; simp only [obs]
        rw [show I3 i + 1 = I3 (i + 1) from I3_add i 1]
      rw [lp_s (by omega) C]
      refine ih (i + 1) (fu - 1) _ (by omega) (by omega) (agr_trans au (agr_wI (agr_wJ agr_rfl (Or.inr (Or.inl rfl))) (Or.inr (Or.inr rfl)))) u9 (fun q hq => ?_) (fun q hq => ?_)
      · have z := ua q hq
        constructor
        · show (if nv + q = i then ns i else u.2.1 58 (nv + q)) = _
          rw [if_neg (by omega)]; exact z.1
        · show (if nv + q = i then hrs g (pt i) else u.1 59 (nv + q)) = _
          rw [if_neg (by omega)]; exact z.2
      · constructor
        · show (if q = i then ns i else u.2.1 58 q) = _
          by_cases w : q = i
          · rw [if_pos w, w]
          · rw [if_neg w]; exact (ub q (by omega)).1
        · show (if q = i then hrs g (pt i) else u.1 59 q) = _
          by_cases w : q = i
          · rw [if_pos w, w]
          · rw [if_neg w]; exact (ub q (by omega)).2
  have L := LP nv 0 1000000 h0 (by omega) (by omega) c4 c2 c3 (fun q hq => by omega)
  obtain ⟨h1, l1, l2, l3⟩ := L
  refine ⟨h1, ?_, l2, l3⟩
  show F_208_0 (I3 T) (I3 nv) pc h = _
  unfold F_208_0
  rw [if_neg (I3_nn (by omega)), if_neg (I3_nn (by omega)), t1, show I3 T + I3 nv = I3 (T + nv) from I3_add T nv, if_neg (by rw [I3_lt (by omega) (by omega)]; omega), c1]; simp only [obs]
  rw [if_neg (by decide)]
  exact l1
section
variable {n : Nat} {bt : Nat → Nat} {nd o T j k m p f f0 : Nat} {nm nm' : Nat → Int64} {kd kd' : List Int32} {pt : Nat → Nat} {h g : sm_H} {rec : sm_H → Option (Int32 × sm_H)}
theorem F451s {srt : Int32} (b : g.1 67 102 = I3 (j + 1)) (j4 : j < 24) (s : g.1 119 j = srt) (hs : srt = 3 ∨ srt = 6 ∨ srt = 5) : F_451 g = wp (if srt = 3 then F_453 (I3 j) g else if srt = 6 then F_454 (I3 j) g else F_455 (I3 j) g) := by
  show F_451_0 g = _
  unfold F_451_0
  rw [b, I3_s1]; simp only [obs]
  rw [ldI_I j4 (by decide), s]; simp only [obs]
  rcases hs with rfl | rfl | rfl
  · rw [show F_442 3 g = some (-1, g) from rfl]; simp only [obs]
    rw [if_pos trivial, ldI_I j4 (by decide), s]; simp only [obs]
    rw [if_neg (by decide)]
    simp only [if_true]; rfl
  · rw [show F_442 6 g = some (-1, g) from rfl]; simp only [obs]
    rw [if_pos trivial, ldI_I j4 (by decide), s]; simp only [obs]
    rw [if_neg (by decide), if_neg (by decide), if_pos trivial]
    simp only [if_true]
    rw [if_neg (by decide)]; rfl
  · rw [show F_442 5 g = some (-1, g) from rfl]; simp only [obs]
    rw [if_pos trivial, ldI_I j4 (by decide), s]; simp only [obs]
    rw [if_neg (by decide), if_neg (by decide), if_neg (by decide), if_neg (by decide), if_neg (by decide)]; rfl
theorem BO_f {e' pc : Nat} {h2 g2 : sm_H} {rc : Option (Int32 × sm_H)} (b : g.1 67 102 = I3 (k + 2)) (kk : k < 23) (fn : f ≤ n) (r : F_451 g = some (0, g2)) (c : rc = some (-1, h2)) (ft : FT e' pc h2 g2) (x : XT 0 0 h g h2 g2) : BO n bt o T k m f nm kd h g rc :=
  Or.inr ⟨e', pc, h2, g2, 1, c, ft, x, by omega, DieR_die (c := 0) (j := k + 1) b (by omega) (by omega) r (Or.inl rfl)⟩
theorem BO_d {e' pc c f1 : Nat} {h2 g2 : sm_H} {rc rr : Option (Int32 × sm_H)} (b : g.1 67 102 = I3 (k + 2)) (kk : k < 23) (ff : f ≤ f1) (r : F_451 g = wp rr) (d : DieR rr c g2) (cf : c + f1 ≤ n) (c0 : rc = some (-1, h2)) (ft : FT e' pc h2 g2) (x : XT 0 0 h g h2 g2) : BO n bt o T k m f nm kd h g rc :=
  Or.inr ⟨e', pc, h2, g2, c + 1, c0, ft, x, by omega, DieR_die (j := k + 1) b (by omega) (by omega) r (DieR_wp d)⟩
theorem TS_f {g1 : sm_H} (s : TS n bt T k nm kd h g) (a : agr (fun b _ => 119 ≤ b ∧ b ≤ 126) g g1) : TS n bt T k nm kd h g1 := by
  have X : XT 0 0 h g h g1 := XT_x s.K agr_rfl (agr_mono (fun b i z => by
    rcases (show b ≤ 124 ∨ b = 125 ∨ b = 126 by omega) with w | w | w
    · exact Or.inr (Or.inr (Or.inl ⟨z.1, w, Nat.zero_le _⟩))
    · exact Or.inr (Or.inr (Or.inr (Or.inl ⟨w, by omega⟩)))
    · exact Or.inr (Or.inr (Or.inr (Or.inr ⟨w, by omega⟩)))) a)
  exact ⟨X.k1, NF_agr (S := fun _ _ => False) s.nf agr_rfl a (fun z => z) (by omega), SCO_agr (P := fun _ _ => False) s.S agr_rfl a (Nat.le_of_eq (by show tn _ = tn _; rw [a.1 67 6 (by omega)])) (fun b j z => z.elim) (fun b j z => by omega), s.t, (a.1 67 102 (by omega)).trans s.b, s.xc, TXR_agr s.xr a (fun b j z => by omega)⟩
theorem PW_tr {b0 pc : Nat} {h1 g1 : sm_H} {rc rr : Option (Int32 × sm_H)} (t : TW b0 h g h1 g1) (p : PW b0 h1 g1 pc rc rr nm kd) : PW b0 h g pc rc rr nm kd := by
  rcases p with ⟨y, h2, g2, a1, a2, a3, a4, a5, a6, a7⟩ | ⟨e, h2, g2, a1, a2, a3, a4, a5⟩
  · exact Or.inl ⟨y, h2, g2, a1, a2, a3, a4, TW_trans t a5, a6, a7⟩
  · exact Or.inr ⟨e, h2, g2, a1, a2, TW_trans t a3, a4, a5⟩
theorem C_184f (l : NL h) : ∃ h1, F_184 1 h = some h1 ∧ agr Ssp h h1 ∧ NL h1 := by
  obtain ⟨q, q1, q2⟩ := l
  show ∃ h1, F_184_0 1 h = some h1 ∧ agr Ssp h h1 ∧ NL h1
  unfold F_184_0 F_184_12
  rw [if_neg (by decide), q2]
  by_cases w : 1 ≤ q
  · rw [if_pos (by rw [I3_lit, I3_le (by decide) (by omega)]; exact w), show I3 q - 1 = I3 (q - 1) from I3_sub (a := q) (b := 1) w]; simp only [obs]
    have e1 : ∀ u : sm_H, sm_cpJ G0 u 58 1 58 0 (I3 (q - 1)) = some (u.1, va_up u.2.1 58 (va_cpy (u.2.1 58) (u.2.1 58) 1 0 (q - 1)), u.2.2) := fun u => cp58 u (s := 1) (d := 0) (by omega) (by omega)
    have e2 : ∀ u : sm_H, sm_cpI G0 u 59 1 59 0 (I3 (q - 1)) = some (va_up u.1 59 (va_cpy (u.1 59) (u.1 59) 1 0 (q - 1)), u.2) := fun u => cp59 u (s := 1) (d := 0) (by omega) (by omega)
    rw [show (sm_wI h 55 9 (I3 (q - 1))).1 55 9 = I3 (q - 1) from rfl, e1]; simp only [obs]
    rw [show (sm_wI h 55 9 (I3 (q - 1))).1 55 9 = I3 (q - 1) from rfl, e2]; simp only [obs]
    refine ⟨_, rfl, agr_trans (agr_trans (agr_wI agr_rfl (Or.inl ⟨rfl, rfl⟩)) agr58) agr59, q - 1, by omega, ?_⟩
    rfl
  · rw [if_neg (by rw [I3_lit, I3_le (by decide) (by omega)]; exact w)]
    exact ⟨h, rfl, agr_rfl, q, q1, q2⟩
theorem hpl10 {x : Nat} (K : K1 h g) (hx : x < nH g) : (hpl g x).length ≤ 10 := by
  have := (K.2.2.1.2.1 (ty g x) (ty_lt K hx)).2.1.2
  show (lst _ (tM g (ty g x))).length ≤ 10
  rw [lst_len]; exact this
end
