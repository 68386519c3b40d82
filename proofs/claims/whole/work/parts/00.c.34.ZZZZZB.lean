section
variable {n : Nat} {bt : Nat → Nat} {nd o T j k m p f f0 np r0 i : Nat} {ps : Nat → Int64} {ks : Nat → Int32} {h g h1 g1 h2 g2 : sm_H}
theorem D96 (y1 y2 y3 z : Int32) (h : sm_H) : F_167_97 y1 y2 y3 (-1) h = some (.inl (y1 + 1, h)) ∧ F_167_113 y1 y2 y3 z (-1) h = some (.inl (y1 + 1, h)) := by
  have a : ∀ z, F_167_113 y1 y2 y3 z (-1) h = some (.inl (y1 + 1, h)) := fun z => by
    unfold F_167_113 F_167_144
    rw [if_pos rfl]; rfl
  refine ⟨?_, a z⟩
  unfold F_167_97
  rw [if_pos rfl]; exact a _
def DE (n : Nat) (bt : Nat → Nat) (i f : Nat) (h g : sm_H) (rc : Option ((Int32 × sm_H) ⊕ (Int32 × sm_H))) (rr : Option (Int32 × sm_H)) : Prop :=
  (∃ h1 g1 f' k' nd', rc = some (.inl (I3 (i + 1), h1)) ∧ rr = some (1, g1) ∧ f < f' ∧ TU n bt k' h1 g1 ∧ h1.1 55 16 = I3 0 ∧ DF nd' h1 g1 ∧ CB n bt f' h1 ∧ RB n bt f' g1 ∧ RT h g h1 g1) ∨ ∃ e pc nd' h1 g1, rc = some (.inl (I3 (i + 1), h1)) ∧ rr = some (0, g1) ∧ FT e pc h1 g1 ∧ DF nd' h1 g1 ∧ RT h g h1 g1
theorem DE_tr {h0 g0 : sm_H} {f0 : Nat} {rc : Option ((Int32 × sm_H) ⊕ (Int32 × sm_H))} {rr : Option (Int32 × sm_H)} (R : RT h0 g0 h g) (ff : f0 ≤ f) (d : DE n bt i f h g rc rr) : DE n bt i f0 h0 g0 rc rr := by
  rcases d with ⟨h1, g1, f', k', nd', a1, a2, a3, a4, a5, a6, a7, a8, a9⟩ | ⟨e, pc, nd', h1, g1, a1, a2, a3, a4, a5⟩
  · exact Or.inl ⟨h1, g1, f', k', nd', a1, a2, by omega, a4, a5, a6, a7, a8, RT_trans R a9⟩
  · exact Or.inr ⟨e, pc, nd', h1, g1, a1, a2, a3, a4, RT_trans R a5⟩
theorem bodyX {y0 t0 : Nat} {kd : List Int32} (s : TS n bt 0 1 ps kd h g) (o1 : OP 1 h g) (D : DF nd h g) (c : CB n bt f h) (r : RB n bt f g) (F : FC g 0 f0 kd.length 0 0 0) (e124 : g.1 124 0 = I3 0) (hr0 : r0 < 20 + nC g) (ht : t0 < nG g) (e92 : g.1 92 t0 = I3 y0) (hy0 : y0 < nH g) (p0 : hpl g y0 = kd) (q0 : hrs g y0 = I3 r0) :
    DE n bt i f h g (F_167_97 (I3 i) (I3 f0) (I3 r0) (I3 t0) h) (F_465_386 (I3 f0) (I3 r0) (I3 t0) g) := by
  have h12 := s.K.1.2.1
  have n3 := s.xr.2.1
  have g80 : nG g ≤ 80 := s.K.2.2.2.2.2.2.2.2.1.2.1.2
  have C0 : F_167_97 (I3 i) (I3 f0) (I3 r0) (I3 t0) h = (F_193 (K_194 25) h).bind fun q6 => F_167_113 (I3 i) (I3 f0) (I3 r0) (I3 t0) q6.1 q6.2 := by
    unfold F_167_97
    rw [if_neg (I3_m1 (by omega))]
  have X : EX n bt nd (K_194 25) 1 := EX_of (rec2 := K_194 24) (fun u => rfl) (exprS n bt nd 25 1 (by omega))
  have E := X 1 0 0 0 f ps kd h g (Nat.le_refl _) s o1 D c r (by omega) (by omega) (by omega) e124
  have R1 : F_451 g = wp (F_448 g) := by
    rw [F451a (j := 0) (srt := 0) (N := 1) s.b (by omega) F.1 rfl (by omega) e124 (by omega), if_neg (by omega)]
  have B0 : ∀ (v : Int32) (u : sm_H), wp (F_448 g) = some (v, u) → F_465_386B (I3 f0, I3 r0, I3 t0, g) = if v = 0 then some (.inr (0, u)) else some (.inl (I3 f0, I3 r0, I3 t0, u)) := fun v u hv => by
    unfold F_465_386B F_465_403
    show (if 1 < g.1 67 102 then _ else _) = _
    rw [s.b, if_neg (by decide)]
    simp only []
    rw [show ldI g 124 24 0 = some (g.1 124 0) from ldI_I (k := 0) (by decide) (by decide), e124]; simp only [obs]
    rw [if_pos (by decide), R1, hv]; simp only [obs]
  have fn := RB_n r
  rcases EO_v fn E with ⟨y, h1, g2, f', cc, e1, e2, e3, e4, e5, e6, e7, e8, e9, e10, e11, e12, e13, e14, e15⟩ | ⟨e, pc, h1, g1, cc, e1, e2, e3, e4, e5⟩
  rotate_left
  · right
    rw [e1] at C0; simp only [obs] at C0; rw [(D96 _ _ _ _ h1).2, show I3 i + 1 = I3 (i + 1) from I3_add i 1] at C0
    refine ⟨e, pc, nd, h1, g1, C0, ?_, e2, DF_T s.K D e3, RT_XT e3⟩
    show lp F_465_386B 1000000 (I3 f0, I3 r0, I3 t0, g) = _
    rcases e5 with e5 | ⟨g3, e5, e6⟩
    · have B := B0 0 g1 (by rw [e5, wp0])
      rw [if_pos rfl] at B
      exact lp_e (by omega) B
    · have B := B0 1 g3 (by rw [e5, wp1])
      rw [if_neg (by decide)] at B
      rw [lp_s (by omega) B]
      exact e6 _ _ _ _ (by omega)
  obtain ⟨g3, r1, r2⟩ := e2
  have B := B0 1 g3 (by rw [r1, wp1])
  rw [if_neg (by decide)] at B
  have fn' := RB_n e7
  have L1 : F_465_386 (I3 f0) (I3 r0) (I3 t0) g = lp F_465_386B (999999 - cc) (I3 f0, I3 r0, I3 t0, g2) := by
    show lp F_465_386B 1000000 (I3 f0, I3 r0, I3 t0, g) = _
    rw [lp_s (by omega) B]
    exact r2 _ _ _ _ (by omega)
  rw [e1] at C0; simp only [obs] at C0
  unfold F_167_113 F_167_144 at C0
  rw [if_neg (h_m1 e4.K e8)] at C0
  have X2 : XT 0 0 h g h1 g2 := ⟨e4.K, e10, e11, e12, agr_mono (fun b j z => by
    rcases z with z | z
    · exact XRc_s (Nat.zero_le _) b j z
    · exact XRp_c (j := 0) b j (by
        rcases z with ⟨z1, z2⟩ | ⟨z1, z2, z3⟩
        · exact Or.inr (Or.inl ⟨z1, z2⟩)
        · exact Or.inr (Or.inr ⟨z1, by omega⟩))) e13, fun _ => e4.l⟩
  have D2 := DF_T s.K D X2
  have B2 : ∀ {v : Int32} {u : sm_H}, F_427 g2 = some (v, u) → F_465_386B (I3 f0, I3 r0, I3 t0, g2) = if v = 0 then some (.inr (0, u)) else ((some (sm_wI u 67 106 (I3 f0))).bind fun h4 => (ldI h4 125 480 0).bind fun v5 => (F_433 v5 (I3 r0) h4).bind fun q6 => if q6.1 = (-1) then (some (.inr (0, q6.2))) else ((stI q6.2 92 80 (I3 t0) q6.1).bind fun h7 => some (.inr (1, h7)))) := fun {v u} hv => by
    unfold F_465_386B
    show (if 1 < g2.1 67 102 then _ else _) = _
    rw [e4.b, if_neg (by decide)]
    simp only []
    rw [show ldI g2 124 24 0 = some (g2.1 124 0) from ldI_I (k := 0) (by decide) (by decide), e14]; simp only [obs]
    rw [if_neg (by decide), hv]; simp only [obs]
  rcases closeE e4 e5 e6 e7 with ⟨h3, g4, q1, q2, q3, q4, q5, q6, q7, q8, q9⟩ | ⟨e', h3, g4, q1, q2, q3, q4⟩
  rotate_left
  · right
    rw [q1] at C0; simp only [obs] at C0; rw [if_pos trivial, show I3 i + 1 = I3 (i + 1) from I3_add i 1] at C0
    have Z := B2 q2
    rw [if_pos rfl] at Z
    have X3 := XT_trans X2 (XT_mono (Nat.zero_le _) (Nat.zero_le _) q4)
    exact ⟨e', _, nd, h3, g4, C0, by rw [L1]; exact lp_e (by omega) Z, q3, DF_T s.K D X3, RT_XT X3⟩
  rw [q1] at C0; simp only [obs] at C0; rw [if_neg (by decide)] at C0
  have Z := B2 q2
  rw [if_neg (by decide)] at Z
  have X3 : XT 0 0 h g h3 g4 := XT_trans X2 (XT_y e4.K q8 q9)
  have a45 : agr (fun b j => SLx b j ∨ (b = 67 ∧ (j = 105 ∨ j = 106 ∨ j = 108))) g4 (sm_wI g4 67 106 (I3 f0)) := agr_wI agr_rfl (Or.inr ⟨rfl, Or.inr (Or.inl rfl)⟩)
  obtain ⟨s5, X5'⟩ := TS_x (T' := 0) (k' := 0) q3 agr_rfl a45
  have X5 := XT_trans X3 X5'
  have v125 : (sm_wI g4 67 106 (I3 f0)).1 125 0 = I3 y := (q9.1 125 0 (by unfold Srl SLx; omega)).trans (e15 (by omega))
  have wh5 : (sm_wI g4 67 106 (I3 f0)).1 67 106 = I3 f0 := rfl
  have r5 : RB n bt (nx n bt f') (sm_wI g4 67 106 (I3 f0)) := q6
  have o5 : OP 0 h3 (sm_wI g4 67 106 (I3 f0)) := q4
  simp only [Option.bind_some] at Z
  generalize sm_wI g4 67 106 (I3 f0) = g5 at *
  rw [show ldI g5 125 480 0 = some (g5.1 125 0) from ldI_I (k := 0) (by decide) (by decide), v125] at Z; simp only [obs] at Z
  have X25 := XT_trans (XT_y (T' := 0) (k' := 0) e4.K q8 q9) X5'
  have nc5 : nC g5 = nC g := nC_XR X5.a
  have M := passedAs s5.K s5.S s5.nf (pc := f0) wh5 (X25.nH e8) ((X25.hpl e4.K e8).trans e9) (k := r0) (by omega)
  rcases M with ⟨z, h6, g6, m1, m2, m3, m4, m5, m6, m7⟩ | ⟨e', h6, g6, m1, m2, m3, m4⟩
  rotate_left
  · right
    rw [m1] at C0; simp only [obs] at C0
    rw [show F_168 (I3 t0) (-1) h6 = some h6 from by
      show F_168_0 (I3 t0) (-1) h6 = _
      unfold F_168_0 F_168_14
      rw [if_pos rfl], show I3 i + 1 = I3 (i + 1) from I3_add i 1] at C0; simp only [obs] at C0
    rw [m2] at Z; simp only [obs] at Z; rw [if_pos trivial] at Z
    have X6 : XT 0 0 h g h6 g6 := XT_trans X5 (XT_TK m3)
    exact ⟨e', _, nd, h6, g6, C0, by rw [L1]; exact lp_e (by omega) Z, m4, DF_T s.K D X6, RT_XT X6⟩
  left
  have X6 : XT 0 0 h g h6 g6 := XT_trans X5 (XT_TK m6)
  have eG : nG g6 = nG g := by show tn _ = tn _; rw [X6.a.1 67 35 (by unfold XRc SRa SRq SRb SRp SRh SRt Ssr SLx; omega)]
  have e92' : g6.1 92 t0 = I3 y0 := (X6.a.1 92 t0 (by unfold XRc SRa SRq SRb SRp SRh SRt Ssr SLx; omega)).trans e92
  have y0' := X6.nH hy0
  have w5 := lt500 m6.k y0'
  have et : ty g6 z = ty g6 (tn (g6.1 92 t0)) := by
    rw [e92', show tn (I3 y0) = y0 from I3_clamp (by omega)]
    exact ty_un m6.k m3 y0' (by rw [m4, X6.hrs s.K hy0, q0]) (by rw [m5, X6.hpl s.K hy0, p0])
  obtain ⟨K7, E7, G7⟩ := tgSet m6.k m3 (show t0 < nG g6 by omega) et
  rw [m1] at C0; simp only [obs] at C0
  have cG6 := m6.k.2.2.2.2.2.2.2.2.1
  have C1 : F_168 (I3 t0) (I3 z) h6 = some (sm_wI h6 32 t0 (I3 z)) := by
    show F_168_0 (I3 t0) (I3 z) h6 = _
    unfold F_168_0 F_168_14
    rw [if_neg (h_m1 m6.k m3)]
    have C2 : F_158 (I3 t0) (I3 z) h6 = some (sm_wI h6 32 t0 (I3 z)) := by
      show F_158_0 (I3 t0) (I3 z) h6 = _
      unfold F_158_0 F_158_15
      rw [C_hasTg (cG6.1.trans cG6.2.1.1) (by have := cG6.2.1.2; omega), inR_I (by have := cG6.2.1.2; omega), decide_eq_true (show t0 < tn (g6.1 67 35) by show t0 < nG g6; omega)]; simp only [obs]
      rw [if_neg (by decide), stI_I (by omega) (by decide)]; simp only [obs]
    rw [C2]; rfl
  rw [C1] at C0; simp only [obs] at C0; rw [show I3 i + 1 = I3 (i + 1) from I3_add i 1] at C0
  rw [m2] at Z; simp only [obs] at Z
  rw [if_neg (h_m1 m6.k m3), stI_I (by omega) (by decide)] at Z; simp only [obs] at Z
  have X56 := XT_TK (T := 0) (k := 0) m6
  have D6 := DF_T s.K D X6
  have b6 : g6.1 67 102 = I3 1 := (m6.a.1 67 102 (by unfold SRq SRb SRp SRh SRt; omega)).trans s5.b
  have ff' := q7
  refine ⟨sm_wI h6 32 t0 (I3 z), sm_wI g6 92 t0 (I3 z), nx n bt f', 1, nd, C0, by rw [L1]; exact lp_e (by omega) Z, by omega, ⟨K7, m7, trivial, ⟨(m6.c.1 55 12 (by unfold SCq SCb Ssc SCd SCh SCt; omega)).trans s5.t.1, by decide⟩, b6, TXC_agr (h1 := h6) s5.xc m6.c (fun b j z => by unfold SCq SCb Ssc SCd SCh SCt at z; omega), TXR_agr (h1 := g6) s5.xr m6.a (fun b j z => by unfold SRq SRb SRp SRh SRt at z; omega)⟩, (m6.c.1 55 16 (by unfold SCq SCb Ssc SCd SCh SCt; omega)).trans o5.1, DF_x (P := fun b j => b = 32 ∧ j = t0) (Q := fun b j => b = 92 ∧ j = t0) m6.k D6 E7 G7 (agr_wI agr_rfl ⟨rfl, rfl⟩) (agr_wI agr_rfl ⟨rfl, rfl⟩) (fun b j z => by omega) (fun b j z => by omega), CB_x q5 (m6.c.1 52 3 (by unfold SCq SCb Ssc SCd SCh SCt; omega)), RB_x r5 (m6.a.1 67 79 (by unfold SRq SRb SRp SRh SRt; omega)), RT_trans (RT_XT X6) ⟨K7, E7, G7, agr_wI agr_rfl (Or.inr (Or.inr (Or.inr (Or.inr (Or.inr rfl))))), agr_wI agr_rfl (Or.inr (Or.inr (Or.inl rfl)))⟩⟩
end
section
variable {n : Nat} {bt : Nat → Nat} {nd o T j k m p f f0 np r0 i : Nat} {ps : Nat → Int64} {ks : Nat → Int32} {h g h1 g1 h2 g2 : sm_H}
theorem TS_TK {Q : sm_H → sm_H → Prop} (s : TG Q n bt T k h g) (t : TK h g h1 g1) (n1 : NF h1 g1) (q : Q h1 g1) : TG Q n bt T k h1 g1 := ⟨t.k, n1, q, ⟨(t.c.1 55 12 (by unfold SCq SCb Ssc SCd SCh SCt; omega)).trans s.t.1, s.t.2⟩, (t.a.1 67 102 (by unfold SRq SRb SRp SRh SRt; omega)).trans s.b, TXC_agr s.xc t.c (fun b j z => by unfold SCq SCb Ssc SCd SCh SCt at z; omega), TXR_agr s.xr t.a (fun b j z => by unfold SRq SRb SRp SRh SRt at z; omega)⟩
theorem makeX {x : Int64} {kd : List Int32} (hkd : kd = lst ks np) (s : TS n bt 0 k ps kd h g) (o1 : OP 1 h g) (D : DF nd h g) (nd60 : nd < 60) (e62 : h.2.1 62 nd = x) (c : CB n bt f h) (r : RB n bt f g) (wh : g.1 67 106 = I3 f0) (n6 : np ≤ 6) (e115 : g.1 115 nd = I3 np) (e116 : ∀ q, q < np → g.1 116 (6 * nd + q) = ks q) (hr0 : r0 < 20 + nC g) :
    DE n bt i f h g ((F_180 (I3 r0) (I3 f0) h).bind fun q8 => F_167_97 (I3 i) (I3 f0) (I3 r0) q8.1 q8.2) ((F_428 (I3 r0) g).bind fun q17 => if q17.1 = (-1) then (F_465_296 (I3 f0) x (I3 r0) (I3 nd) (-1) q17.2) else ((F_430 34 0 q17.1 0 q17.2).bind fun q18 => F_465_296 (I3 f0) x (I3 r0) (I3 nd) q18.1 q18.2)) := by
  have lkd : kd.length = np := by rw [hkd, lst_len]
  have C0 : F_180 (I3 r0) (I3 f0) h = F_180_0 (I3 r0) (I3 f0) h := rfl
  unfold F_180_0 at C0
  have E0 : ∀ u, F_465_296 (I3 f0) x (I3 r0) (I3 nd) (-1) u = some (0, u) := fun u => by
    unfold F_465_296
    rw [if_pos rfl]
  have BAD : ∀ {e' pc : Nat} {h' g' : sm_H} {rc : Option ((Int32 × sm_H) ⊕ (Int32 × sm_H))} {rr : Option (Int32 × sm_H)}, F_180 (I3 r0) (I3 f0) h = some (-1, h') → rr = some (0, g') → FT e' pc h' g' → DF nd h' g' → RT h g h' g' → DE n bt i f h g ((F_180 (I3 r0) (I3 f0) h).bind fun q8 => F_167_97 (I3 i) (I3 f0) (I3 r0) q8.1 q8.2) rr := fun x1 x2 x3 x4 x5 => by
    refine Or.inr ⟨_, _, nd, _, _, ?_, x2, x3, x4, x5⟩
    rw [x1]
    exact (D96 _ _ _ (-1) _).1.trans (by rw [show I3 i + 1 = I3 (i + 1) from I3_add i 1])
  rcases scopeTy s.K s.S s.nf wh (r := I3 r0) ⟨r0, rfl, hr0⟩ with ⟨t, h2, g2, t1, t2, t3, t4, t5, t6, t7, t8⟩ | ⟨e', h2, g2, t1, t2, t3, t4⟩
  rotate_left
  · rw [t1] at C0; simp only [obs] at C0; rw [if_pos trivial] at C0
    rw [t2]; simp only [obs]
    rw [if_pos trivial, E0]
    exact BAD (rc := none) C0 rfl t4 (DF_T s.K D (XT_TK (T := 0) (k := 0) t3)) (RT_XT (XT_TK (T := 0) (k := 0) t3))
  have w3 := w300 t7.k
  rw [t1] at C0; simp only [obs] at C0; rw [if_neg (I3_m1 (by omega)), show F_138 56 h2 = some (sm_wI h2 56 1 0) from rfl] at C0; simp only [obs] at C0
  rw [t2]; simp only [obs]
  rw [if_neg (I3_m1 (by omega))]
  have R : hasL (sm_wI h2 56 1 0) 56 57 [] := ⟨rfl, by decide, fun k hk => by cases hk⟩
  have a1 : agr S56 h2 (sm_wI h2 56 1 0) := agr_wI agr_rfl (Or.inl ⟨rfl, rfl⟩)
  have P : prR (sm_wI g2 67 3 0) [] := ⟨rfl, by decide, fun k hk => by cases hk⟩
  have a2 : agr SRp g2 (sm_wI g2 67 3 0) := agr_wI agr_rfl (by unfold SRp; omega)
  have T3 : TK h g (sm_wI h2 56 1 0) (sm_wI g2 67 3 0) := TK_par (TK_row t7 a1) a2
  have n3 : NF (sm_wI h2 56 1 0) (sm_wI g2 67 3 0) := NF_par (NF_row t8 a1) a2
  have wh3 := wh_TK wh T3
  have ck := ck_34 (h := sm_wI h2 56 1 0) (g := sm_wI (sm_wI g2 67 3 0) 67 19 0) (K1_c19 T3.k) rfl (t := t) t3 0 0
  rw [show F_430 34 0 (I3 t) 0 g2 = F_429 (I3 34) 0 (I3 t) 0 (sm_wI g2 67 3 0) from bind_id _]
  have ckr : rs (sm_wI (sm_wI g2 67 3 0) 67 19 0) t = I3 r0 := t4
  have ckl : pl (sm_wI (sm_wI g2 67 3 0) 67 19 0) t = kd := t5
  rw [ckr, ckl] at ck
  generalize sm_wI h2 56 1 0 = h3 at *
  generalize sm_wI g2 67 3 0 = g3 at *
  rcases mkFormR T3.k n3 wh3 0 (I3 t) 0 R P (Or.inr rfl) (by omega) ck with ⟨y, h4, g4, m1, m2, m3, m4, m5, m6, m7, m8⟩ | ⟨w', h4, h5, g5, w0, m1, m2, m3, m4, m5⟩
  rotate_left
  · rw [show F_5 34 0 (I3 t) 0 56 h3 = some (w', h4) from m1] at C0; simp only [obs] at C0
    unfold F_180_57 F_180_86 F_180_102 at C0
    rw [if_neg (Int32.not_le.mpr w0), if_pos rfl, if_pos (by decide), m2] at C0; simp only [obs] at C0
    rw [m3]; simp only [obs]
    rw [E0]
    have T5 := TK_trans T3 m4
    exact BAD (rc := none) C0 rfl m5 (DF_T s.K D (XT_TK (T := 0) (k := 0) T5)) (RT_XT (XT_TK (T := 0) (k := 0) T5))
  rw [show F_5 34 0 (I3 t) 0 56 h3 = some (I3 y, h4) from m1] at C0; simp only [obs] at C0
  rw [if_pos (h_ge m6.k m3), C_155 m6.k] at C0
  rw [m2]; simp only [obs]
  have T4 := TK_trans T3 m6
  have wh4 := wh_TK wh T4
  have X4 : XT 0 0 h g h4 g4 := XT_TK T4
  have R4 : F_465_296 (I3 f0) x (I3 r0) (I3 nd) (I3 y) g4 = F_465_296 (I3 f0) x (I3 r0) (I3 nd) (I3 y) g4 := rfl
  conv at R4 => rhs; unfold F_465_296
  rw [if_neg (h_m1 m6.k m3), R_398 m6.k m3] at R4
  have n8 : nG g4 ≤ 80 := m6.k.2.2.2.2.2.2.2.2.1.2.1.2
  by_cases q8 : nG g4 < 80
  rotate_left
  · rw [if_neg q8] at C0 R4; simp only [obs] at C0 R4
    obtain ⟨h5, g5, f1, f2, f3, f4⟩ := failB m6.k m7 (e := 8) (pc := f0) (by decide) (by decide)
    unfold F_180_57 F_180_86 F_180_102 at C0
    rw [if_pos rfl, if_pos (by decide), show F_169 8 (I3 f0) h4 = some (-1, h5) from f1] at C0; simp only [obs] at C0
    rw [if_pos trivial, show F_413 8 (I3 f0) g4 = some (0, g5) from f2] at R4; simp only [obs] at R4
    rw [if_pos (Or.inl trivial)] at R4
    have T5 := TK_trans T4 f3
    exact BAD (rc := none) C0 R4 f4 (DF_T s.K D (XT_TK (T := 0) (k := 0) T5)) (RT_XT (XT_TK (T := 0) (k := 0) T5))
  rw [if_pos q8] at C0 R4; simp only [obs] at C0 R4
  rw [if_neg (I3_m1 (by omega))] at R4
  obtain ⟨K5, E5, G5⟩ := tgAdd m6.k m3 q8
  have c5 : agr (fun b j => b = 32 ∨ b = 21 ∧ j = 8) h4 (sm_wI (sm_wI h4 32 (nG g4) (I3 y)) 21 8 (I3 (nG g4 + 1))) := agr_wI (agr_wI agr_rfl (Or.inl rfl)) (Or.inr ⟨rfl, rfl⟩)
  have r5 : agr (fun b j => b = 92 ∨ b = 67 ∧ j = 35) g4 (sm_wI (sm_wI g4 92 (nG g4) (I3 y)) 67 35 (I3 (nG g4 + 1))) := agr_wI (agr_wI agr_rfl (Or.inl rfl)) (Or.inr ⟨rfl, rfl⟩)
  have v92 : (sm_wI (sm_wI g4 92 (nG g4) (I3 y)) 67 35 (I3 (nG g4 + 1))).1 92 (nG g4) = I3 y := if_pos rfl
  have nG5 : nG (sm_wI (sm_wI g4 92 (nG g4) (I3 y)) 67 35 (I3 (nG g4 + 1))) = nG g4 + 1 := by
    show (I3 (nG g4 + 1)).toNatClampNeg = _
    exact I3_clamp (by omega)
  generalize hG : nG g4 = t0 at *
  generalize sm_wI (sm_wI h4 32 t0 (I3 y)) 21 8 (I3 (t0 + 1)) = h5 at *
  generalize sm_wI (sm_wI g4 92 t0 (I3 y)) 67 35 (I3 (t0 + 1)) = g5 at *
  have RT5 : RT h g h5 g5 := RT_trans (RT_XT X4) ⟨K5, E5, G5, agr_mono (fun b j z => by
    rcases z with z | z
    · exact Or.inr (Or.inr (Or.inr (Or.inr (Or.inr z))))
    · exact Or.inr (Or.inr (Or.inr (Or.inr (Or.inl z))))) c5, agr_mono (fun b j z => by
    rcases z with z | z
    · exact Or.inr (Or.inr (Or.inl z))
    · exact Or.inr (Or.inl ⟨z.1, Or.inr z.2⟩)) r5⟩
  have n5 : NF h5 g5 := NF_agr m7 c5 r5 (by omega) (by omega)
  have wh5 : g5.1 67 106 = I3 f0 := (r5.1 67 106 (by omega)).trans wh4
  have D5 : DF nd h5 g5 := DF_x m6.k (DF_T s.K D X4) E5 G5 c5 r5 (fun b j z => by omega) (fun b j z => by omega)
  have S5 : SCO ps kd h5 g5 := SCO_agr (SCO_TK s.S T4) c5 r5 G5.1 (fun b j z => by omega) (fun b j z => by omega)
  have y5 := Nat.lt_of_lt_of_le m3 G5.2.2.1
  have yp : hpl g5 y = kd := (ext_hpl m6.k.2.2.2.2.1 E5 m3).trans m5
  have yr : hrs g5 y = I3 r0 := (ext_hrs m6.k.2.2.2.2.1 E5 m3).trans m4
  have R5 : hasL h5 56 57 [] := ⟨(c5.1 56 1 (by omega)).trans ((m8.1 56 1 (by unfold SCb Ssc SCd SCh SCt; omega)).trans R.1), by decide, fun k hk => by cases hk⟩
  have P5 : prR (sm_wI g5 67 3 0) [] := ⟨rfl, by decide, fun k hk => by cases hk⟩
  have a6 : agr SRp g5 (sm_wI g5 67 3 0) := agr_wI agr_rfl (by unfold SRp; omega)
  have T6 : TK h5 g5 h5 (sm_wI g5 67 3 0) := TK_par (TK_rfl K5) a6
  have n6' : NF h5 (sm_wI g5 67 3 0) := NF_par n5 a6
  have ck9 := ck_29 (h := h5) (g := sm_wI (sm_wI g5 67 3 0) 67 19 0) (K1_c19 T6.k) rfl (n := t0) (by show t0 < nG g5; omega) 0 0
  have lty := lt500 K5 y5
  have e9 : tn ((sm_wI (sm_wI g5 67 3 0) 67 19 0).1 92 t0) = y := by
    show tn (g5.1 92 t0) = y
    rw [v92]; exact I3_clamp (by omega)
  rw [e9] at ck9
  have ck9' : Ck (sm_wI (sm_wI g5 67 3 0) 67 19 0) 29 (I3 t0) 0 0 (I3 r0) kd := by
    rw [← yp, ← yr]; exact ck9
  unfold F_180_57 at C0
  rw [if_neg (I3_m1 (by omega))] at C0
  rw [show F_430 29 (I3 t0) 0 0 g5 = F_429 (I3 29) (I3 t0) 0 0 (sm_wI g5 67 3 0) from bind_id _] at R4
  rcases mkFormR T6.k n6' (wh_TK wh5 T6) (I3 t0) 0 0 R5 P5 (Or.inl rfl) (by omega) ck9' with ⟨a, h7, g7, k1, k2, k3, k4, k5, k6, k7, k8⟩ | ⟨w', h7, h8, g8, w0, k1, k2, k3, k4, k5⟩
  rotate_left
  · rw [show F_5 29 (I3 t0) 0 0 56 h5 = some (w', h7) from k1] at C0; simp only [obs] at C0
    unfold F_180_86 F_180_102 at C0
    rw [if_pos w0, k2] at C0; simp only [obs] at C0
    rw [k3] at R4; simp only [obs] at R4; rw [if_pos trivial] at R4
    have T8 := TK_trans T6 k4
    exact BAD (rc := none) C0 R4 k5 (DF_T K5 D5 (XT_TK (T := 0) (k := 0) T8)) (RT_trans RT5 (RT_XT (XT_TK (T := 0) (k := 0) T8)))
  rw [show F_5 29 (I3 t0) 0 0 56 h5 = some (I3 a, h7) from k1] at C0; simp only [obs] at C0
  have T7 : TK h5 g5 h7 g7 := TK_trans T6 k6
  have D7 : DF nd h7 g7 := DF_T K5 D5 (XT_TK (T := 0) (k := 0) T7)
  unfold F_180_86 at C0
  rw [if_neg (h_nn k6.k k3), D7.1, if_pos (by rw [I3_lit, I3_lt (by omega) (by decide)]; exact nd60), stI_I nd60 (by decide)] at C0; simp only [obs] at C0
  rw [show (sm_wI h7 63 nd (I3 a)).1 55 15 = I3 nd from D7.1, show I3 nd + 1 = I3 (nd + 1) from I3_add nd 1] at C0
  rw [k2] at R4; simp only [obs] at R4
  rw [if_neg (h_m1 k6.k k3), stJ_I nd60 (by decide)] at R4; simp only [obs] at R4
  rw [stI_I nd60 (by decide)] at R4; simp only [obs] at R4
  rw [show (sm_wI (sm_wJ g7 113 nd x) 114 nd (I3 a)).1 67 91 = I3 nd from D7.2.1, show I3 nd + 1 = I3 (nd + 1) from I3_add nd 1] at R4
  rw [R4, C0]
  simp only [Option.bind_some]
  have e62' : h7.2.1 62 nd = x := (T7.c.2.1 62 nd (by unfold SCq SCb Ssc SCd SCh SCt; omega)).trans ((c5.2.1 62 nd (by omega)).trans ((T4.c.2.1 62 nd (by unfold SCq SCb Ssc SCd SCh SCt; omega)).trans e62))
  have e115' : g7.1 115 nd = I3 np := (T7.a.1 115 nd (by unfold SRq SRb SRp SRh SRt; omega)).trans ((r5.1 115 nd (by omega)).trans ((T4.a.1 115 nd (by unfold SRq SRb SRp SRh SRt; omega)).trans e115))
  have e116' : ∀ q, q < np → g7.1 116 (6 * nd + q) = ks q := fun q hq => (T7.a.1 116 _ (by unfold SRq SRb SRp SRh SRt; omega)).trans ((r5.1 116 _ (by omega)).trans ((T4.a.1 116 _ (by unfold SRq SRb SRp SRh SRt; omega)).trans (e116 q hq)))
  have S7 : SCO ps kd h7 g7 := SCO_TK S5 T7
  have c8 : agr (fun b j => b = 63 ∧ j = nd ∨ b = 55 ∧ j = 15) h7 (sm_wI (sm_wI h7 63 nd (I3 a)) 55 15 (I3 (nd + 1))) := agr_wI (agr_wI agr_rfl (Or.inl ⟨rfl, rfl⟩)) (Or.inr ⟨rfl, rfl⟩)
  have r8 : agr (fun b j => (b = 113 ∨ b = 114) ∧ j = nd ∨ b = 67 ∧ (j = 91 ∨ j = 102)) g7 (sm_wI (sm_wI (sm_wI (sm_wJ g7 113 nd x) 114 nd (I3 a)) 67 91 (I3 (nd + 1))) 67 102 0) := agr_wI (agr_wI (agr_wI (agr_wJ agr_rfl (Or.inl ⟨Or.inl rfl, rfl⟩)) (Or.inl ⟨Or.inr rfl, rfl⟩)) (Or.inr ⟨rfl, Or.inl rfl⟩)) (Or.inr ⟨rfl, Or.inr rfl⟩)
  have KE8 : K1 (sm_wI (sm_wI h7 63 nd (I3 a)) 55 15 (I3 (nd + 1))) (sm_wI (sm_wI (sm_wI (sm_wJ g7 113 nd x) 114 nd (I3 a)) 67 91 (I3 (nd + 1))) 67 102 0) ∧ ext g7 (sm_wI (sm_wI (sm_wI (sm_wJ g7 113 nd x) 114 nd (I3 a)) 67 91 (I3 (nd + 1))) 67 102 0) ∧ grow g7 (sm_wI (sm_wI (sm_wI (sm_wJ g7 113 nd x) 114 nd (I3 a)) 67 91 (I3 (nd + 1))) 67 102 0) := by
    obtain ⟨wK, cK, wT, cT, wH, cH, wM, cM, cG, cO, cV, wX, cX, cXh, wF⟩ := k6.k
    obtain ⟨c1, c2, c3, c4, c5, c6, c7, c8, c9, c10, c11⟩ := ext_rfl (g := g7)
    obtain ⟨d1, d2, d3, d4, d5⟩ := grow_rfl (g := g7)
    exact ⟨⟨wK, cK, wT, cT, wH, cH, wM, cM, cG, cO, cV, wX, cX, cXh_fr (by repeat first | exact hi_rfl | refine hi_wI ?_ (by decide) | refine hi_wJ ?_ (by decide)) cXh, wF⟩, ⟨c1, c2, c3, c4, c5, c6, c7, c8, c9, c10, c11⟩, ⟨d1, d2, d3, d4, d5⟩⟩
  obtain ⟨K8, E8, G8⟩ := KE8
  have D8 : DF (nd + 1) (sm_wI (sm_wI h7 63 nd (I3 a)) 55 15 (I3 (nd + 1))) (sm_wI (sm_wI (sm_wI (sm_wJ g7 113 nd x) 114 nd (I3 a)) 67 91 (I3 (nd + 1))) 67 102 0) := by
    refine ⟨rfl, rfl, by omega, fun d hd => ?_⟩
    by_cases z : d = nd
    · subst z
      refine ⟨?_, ?_, a, k3, ?_, ?_, ?_, fun q hq => ?_⟩
      · exact e62'.trans (if_pos rfl).symm
      · exact (if_pos rfl).trans (if_pos rfl).symm
      · exact if_pos rfl
      · show (hpl g7 a).length ≤ 6
        rw [k5, lkd]; exact n6
      · show g7.1 115 d = I3 (hpl g7 a).length
        rw [k5, lkd]; exact e115'
      · show g7.1 116 (6 * d + q) = at0 (hpl g7 a) q
        have hq : q < (hpl g7 a).length := hq
        rw [k5] at hq ⊢
        rw [lkd] at hq
        rw [e116' q hq, hkd, at0_lst hq]
    · obtain ⟨z1, z2, b, z3, z4, z5, z6, z7⟩ := D7.2.2.2 d (by omega)
      refine ⟨?_, ?_, b, z3, ?_, z5, z6, z7⟩
      · show h7.2.1 62 d = if d = nd then x else g7.2.1 113 d
        rw [if_neg z]; exact z1
      · show (if d = nd then I3 a else h7.1 63 d) = if d = nd then I3 a else g7.1 114 d
        rw [if_neg z, if_neg z]; exact z2
      · show (if d = nd then I3 a else g7.1 114 d) = I3 b
        rw [if_neg z]; exact z4
  have v92' : (sm_wI (sm_wI (sm_wI (sm_wJ g7 113 nd x) 114 nd (I3 a)) 67 91 (I3 (nd + 1))) 67 102 0).1 92 t0 = I3 y := (T7.a.1 92 t0 (by unfold SRq SRb SRp SRh SRt; omega)).trans v92
  have nG8 : nG (sm_wI (sm_wI (sm_wI (sm_wJ g7 113 nd x) 114 nd (I3 a)) 67 91 (I3 (nd + 1))) 67 102 0) = t0 + 1 := by
    show tn (g7.1 67 35) = _
    rw [T7.a.1 67 35 (by unfold SRq SRb SRp SRh SRt; omega)]; exact nG5
  have s8 : TS n bt 0 0 ps kd (sm_wI (sm_wI h7 63 nd (I3 a)) 55 15 (I3 (nd + 1))) (sm_wI (sm_wI (sm_wI (sm_wJ g7 113 nd x) 114 nd (I3 a)) 67 91 (I3 (nd + 1))) 67 102 0) := by
    have tx : TXC n bt h7 := TXC_agr (TXC_agr (TXC_agr s.xc T4.c (fun b j z => by unfold SCq SCb Ssc SCd SCh SCt at z; omega)) c5 (fun b j z => by omega)) T7.c (fun b j z => by unfold SCq SCb Ssc SCd SCh SCt at z; omega)
    have tr : TXR n bt g7 := TXR_agr (TXR_agr (TXR_agr s.xr T4.a (fun b j z => by unfold SRq SRb SRp SRh SRt at z; omega)) r5 (fun b j z => by omega)) T7.a (fun b j z => by unfold SRq SRb SRp SRh SRt at z; omega)
    exact ⟨K8, k7, SCO_agr S7 c8 r8 G8.1 (fun b j z => by omega) (fun b j z => by omega), ⟨(T7.c.1 55 12 (by unfold SCq SCb Ssc SCd SCh SCt; omega)).trans ((c5.1 55 12 (by omega)).trans ((T4.c.1 55 12 (by unfold SCq SCb Ssc SCd SCh SCt; omega)).trans s.t.1)), by decide⟩, rfl, tx, tr⟩
  have o8 : OP 1 (sm_wI (sm_wI h7 63 nd (I3 a)) 55 15 (I3 (nd + 1))) (sm_wI (sm_wI (sm_wI (sm_wJ g7 113 nd x) 114 nd (I3 a)) 67 91 (I3 (nd + 1))) 67 102 0) := ⟨(T7.c.1 55 16 (by unfold SCq SCb Ssc SCd SCh SCt; omega)).trans ((c5.1 55 16 (by omega)).trans ((T4.c.1 55 16 (by unfold SCq SCb Ssc SCd SCh SCt; omega)).trans o1.1)), (T7.a.1 67 86 (by unfold SRq SRb SRp SRh SRt; omega)).trans ((r5.1 67 86 (by omega)).trans ((T4.a.1 67 86 (by unfold SRq SRb SRp SRh SRt; omega)).trans o1.2.1)), by decide⟩
  have cb8 : CB n bt f (sm_wI (sm_wI h7 63 nd (I3 a)) 55 15 (I3 (nd + 1))) := CB_x c ((T7.c.1 52 3 (by unfold SCq SCb Ssc SCd SCh SCt; omega)).trans ((c5.1 52 3 (by omega)).trans (T4.c.1 52 3 (by unfold SCq SCb Ssc SCd SCh SCt; omega))))
  have rb8 : RB n bt f (sm_wI (sm_wI (sm_wI (sm_wJ g7 113 nd x) 114 nd (I3 a)) 67 91 (I3 (nd + 1))) 67 102 0) := RB_x r ((T7.a.1 67 79 (by unfold SRq SRb SRp SRh SRt; omega)).trans ((r5.1 67 79 (by omega)).trans (T4.a.1 67 79 (by unfold SRq SRb SRp SRh SRt; omega))))
  have RT8 : RT h g (sm_wI (sm_wI h7 63 nd (I3 a)) 55 15 (I3 (nd + 1))) (sm_wI (sm_wI (sm_wI (sm_wJ g7 113 nd x) 114 nd (I3 a)) 67 91 (I3 (nd + 1))) 67 102 0) := RT_trans RT5 (RT_trans (RT_XT (XT_TK (T := 0) (k := 0) T7)) ⟨K8, E8, G8, agr_mono (fun b j z => by
    rcases z with z | z
    · exact Or.inr (Or.inr (Or.inr (Or.inl z.1)))
    · exact Or.inr (Or.inl z)) c8, agr_mono (fun b j z => by
    rcases z with ⟨z1, z2⟩ | ⟨z1, z2⟩
    · exact Or.inr (Or.inr (Or.inr (Or.inl (by omega))))
    · rcases z2 with z2 | z2
      · exact Or.inr (Or.inl ⟨z1, Or.inl z2⟩)
      · exact Or.inl (Or.inr (Or.inr (Or.inr (Or.inl ⟨z1, Or.inr (Or.inl z2)⟩))))) r8⟩)
  have E58 : ext g5 (sm_wI (sm_wI (sm_wI (sm_wJ g7 113 nd x) 114 nd (I3 a)) 67 91 (I3 (nd + 1))) 67 102 0) := ext_trans T7.e E8
  have yn : y < nH (sm_wI (sm_wI (sm_wI (sm_wJ g7 113 nd x) 114 nd (I3 a)) 67 91 (I3 (nd + 1))) 67 102 0) := T7.nH y5
  have yp8 : hpl (sm_wI (sm_wI (sm_wI (sm_wJ g7 113 nd x) 114 nd (I3 a)) 67 91 (I3 (nd + 1))) 67 102 0) y = kd := (ext_hpl K5.2.2.2.2.1 E58 y5).trans yp
  have yr8 : hrs (sm_wI (sm_wI (sm_wI (sm_wJ g7 113 nd x) 114 nd (I3 a)) 67 91 (I3 (nd + 1))) 67 102 0) y = I3 r0 := (ext_hrs K5.2.2.2.2.1 E58 y5).trans yr
  generalize sm_wI (sm_wI h7 63 nd (I3 a)) 55 15 (I3 (nd + 1)) = h8 at *
  generalize sm_wI (sm_wI (sm_wI (sm_wJ g7 113 nd x) 114 nd (I3 a)) 67 91 (I3 (nd + 1))) 67 102 0 = g8 at *
  obtain ⟨g9, u1, u2, u3, u4, u5, u6, u7, u8, u9⟩ := pushR (j := 0) (by omega) s8.b 0 (I3 f0)
  rw [u1]
  simp only [Option.bind_some]
  have X9 : XT 0 0 h8 g8 h8 g9 := XT_x s8.K agr_rfl (agr_mono (fun b q z => by
    rcases z with ⟨z1, z2, z3⟩ | z
    · exact Or.inr (Or.inr (Or.inl ⟨z1, z2, by omega⟩))
    · exact Or.inr (Or.inl ⟨z.1, by omega⟩)) u9)
  have s9 : TS n bt 0 1 ps kd h8 g9 := ⟨X9.k1, NF_agr (S := fun _ _ => False) s8.nf agr_rfl u9 ⟨fun z => z, fun z => z⟩ (by omega), SCO_agr (P := fun _ _ => False) s8.S agr_rfl u9 (Nat.le_of_eq (by show tn _ = tn _; rw [u9.1 67 6 (by omega)])) (fun b j z => z.elim) (fun b j z => by omega), s8.t, u8, s8.xc, TXR_agr s8.xr u9 (fun b j z => by omega)⟩
  have nc9 : nC g9 = nC g8 := nC_XR X9.a
  have rt9 := RT_trans RT8 (RT_XT X9)
  have nc : nC g ≤ nC g9 := rt9.2.2.1.1
  refine DE_tr rt9 (Nat.le_refl f) (bodyX (y0 := y) (t0 := t0) s9 (OP_x (P := fun _ _ => False) o8 agr_rfl u9 (fun z => z) (by omega)) (DF_T s8.K D8 X9) cb8 (RB_x rb8 (u9.1 67 79 (by omega))) ⟨u2, u3, u4, u5, u6.trans s8.S.2.2.1⟩ u7 (by omega) ?_ ((u9.1 92 t0 (by omega)).trans v92') (X9.nH yn) ((X9.hpl s8.K yn).trans yp8) ((X9.hrs s8.K yn).trans yr8))
  show t0 < tn (g9.1 67 35)
  rw [u9.1 67 35 (by omega)]
  show t0 < nG g8
  omega
end
section
variable {n : Nat} {bt : Nat → Nat} {nd o T j k m p f f0 np r0 i : Nat} {h g h1 g1 h2 g2 : sm_H}
theorem D74 (y1 y2 : Int32) (h : sm_H) : F_167_74 y1 y2 (-1) h = some (.inl (y1 + 1, h)) := by
  unfold F_167_74 F_167_96
  rw [if_pos rfl]; exact (D96 _ _ _ (-1) h).1
theorem K1_130 (K : K1 h g) (a : agr (fun b j => (b = 130 ∨ Ssr b j) ∨ b = 67 ∧ j = 106) g g1) : K1 h g1 ∧ ext g g1 ∧ grow g g1 := by
  have no : ∀ b j, ((b = 130 ∨ Ssr b j) ∨ b = 67 ∧ j = 106) → notR b j := fun b j z => by
    rcases z with (rfl | z) | ⟨rfl, rfl⟩
    · rfl
    · exact Ssr_not b j z
    · rfl
  have E := ext_eq (ok_of_not no a)
  exact ⟨K1_g K (agr_mono no a), E.1, E.2.1⟩
theorem defX (s : TU n bt k h g) (e16 : h.1 55 16 = I3 0) (D : DF nd h g) (lc : LXC n bt f h) (lr : LXR n bt f g) (fn : f ≤ n) (w0 : wrd n bt f ≠ 0) (w6 : wrd n bt f ≠ 6) : DE n bt i f h g ((F_177 h).bind fun q11 => if q11.1 = 0 then (F_167_74 (I3 i) (I3 f) (-1) q11.2) else ((F_176 1 q11.2).bind fun q12 => F_167_74 (I3 i) (I3 f) q12.1 q12.2)) (F_465 g) := by
  have ii : I3 i + 1 = I3 (i + 1) := I3_add i 1
  rcases hdrX s e16 D lc lr fn w0 w6 with ⟨h1, g1, x, f1, b1, b2', b3, b4, b5, b6, b7, b8, b9, b10, b11⟩ | ⟨e', pc, h1, g1, b1, b2', b3, b4⟩
  rotate_left
  · refine Or.inr ⟨e', pc, nd, h1, g1, ?_, b2', b3, DF_T s.K D b4, RT_XT b4⟩
    rw [b1]; simp only [obs]
    rw [if_pos trivial, D74, ii]
  rw [b2']; simp only [obs]
  rw [if_neg (by decide), b3]
  refine DE_tr b11 (f := f1) (by omega) ?_
  unfold dRest
  rcases kindB true b4 b9 b10 with ⟨r0, h2, g2, y1, y2, y3, y4, y5, y6, y7, y8, y9, y10, y11, y12⟩ | ⟨e', h2, g2, y1, y2, y3, y4⟩
  rotate_left
  · rw [show F_176 1 h1 = some (-1, h2) from y1, show F_424 1 g1 = some (0, g2) from y2]; simp only [obs]
    rw [if_pos trivial, D74, ii]
    have Z := XT_mono (T' := 0) (k' := 0) (Nat.zero_le _) (Nat.zero_le _) y4
    exact Or.inr ⟨e', _, nd, h2, g2, rfl, rfl, y3, DF_T b4.K b6 Z, RT_XT Z⟩
  have i20 := y6.K.1.2.1
  have Z2 := XT_mono (T' := 0) (k' := 0) (Nat.zero_le _) (Nat.zero_le _) y10
  have nc2 : nC g2 = nC g1 := nC_XR y10.a
  have D2 := DF_T b4.K b6 Z2
  rw [show F_176 1 h1 = some (I3 r0, h2) from y1, show F_424 1 g1 = some (1, g2) from y2]; simp only [obs]
  rw [if_neg (by decide), y3, D2.2.1]
  have C0 : F_167_74 (I3 i) (I3 f) (I3 r0) h2 = (F_178 h2).bind fun q7 => if q7.1 = 0 then (F_167_96 (I3 i) (I3 f) (I3 r0) q7.2) else ((F_180 (I3 r0) (I3 f) q7.2).bind fun q8 => F_167_97 (I3 i) (I3 f) (I3 r0) q8.1 q8.2) := by
    unfold F_167_74
    rw [if_neg (I3_m1 (by omega))]
  rw [C0]
  have o2 : OP 1 h2 g2 := OP_x b5 y11 y12 (by unfold S52; omega) (by unfold SLx; omega)
  refine DE_tr (RT_XT Z2) (f := nx n bt f1) (by omega) ?_
  rcases parX b7 y6 o2 y7 y8 with ⟨h3, g3, f', np, ps, ks, p1, p2, p3, p4, p5, p6, p7, p8, p9⟩ | ⟨e', pc, h3, g3, p1, p2, p3, p4⟩
  rotate_left
  · rw [p1, p2]; simp only [obs]
    rw [if_pos trivial]
    unfold F_167_96
    rw [(D96 _ _ _ (-1) h3).1, ii]
    exact Or.inr ⟨e', pc, nd, h3, g3, rfl, rfl, p3, DF_p y6.K D2 p4, RT_PQ p4⟩
  rw [p1, p2]; simp only [obs]
  rw [if_neg (by decide)]
  obtain ⟨g4, q1, q2, q3⟩ := R_174 (f := f) b7 p8 x (I3 r0)
  have a35 : agr (fun b j => (b = 130 ∨ Ssr b j) ∨ b = 67 ∧ j = 106) g3 (sm_wI g4 67 106 (I3 f)) := agr_wI (agr_mono (fun b j z => Or.inl z) q2) (Or.inr ⟨rfl, rfl⟩)
  obtain ⟨K5, E5, G5⟩ := K1_130 (h := h3) p4.K a35
  have P8 := p8
  obtain ⟨n6, u1, u2, u3⟩ := p8
  have nc5 : nC (sm_wI g4 67 106 (I3 f)) = nC g3 := by show tn _ = tn _; rw [a35.1 67 6 (by unfold Ssr; omega)]
  have S5 : SCO ps (lst ks np) h3 (sm_wI g4 67 106 (I3 f)) := SCO_iff.mpr ⟨⟨by rw [lst_len]; exact u1, fun q hq => by
    rw [lst_len] at hq
    rw [at0_lst hq]; exact ⟨(u3 q hq).1, (u3 q hq).2.1⟩⟩, q1, by rw [lst_len]; omega, fun q hq => by
    rw [lst_len] at hq
    rw [at0_lst hq, nc5]; exact (u3 q hq).2.2.2.2⟩
  have s5 : TS n bt 0 k ps (lst ks np) h3 (sm_wI g4 67 106 (I3 f)) := ⟨K5, NF_agr (S := fun _ _ => False) p4.nf agr_rfl a35 ⟨fun z => z, fun z => z⟩ (by unfold Ssr; omega), S5, p4.t, (a35.1 67 102 (by unfold Ssr; omega)).trans p4.b, p4.xc, TXR_agr p4.xr a35 (fun b j z => by unfold Ssr at z; omega)⟩
  have R35 : RT h3 g3 h3 (sm_wI g4 67 106 (I3 f)) := ⟨K5, E5, G5, agr_rfl, agr_mono (fun b j z => by
    rcases z with (z | z) | z
    · exact Or.inr (Or.inr (Or.inr (Or.inr z)))
    · exact Or.inl (Or.inr (Or.inl z))
    · exact Or.inl (Or.inr (Or.inr (Or.inr (Or.inl ⟨z.1, by omega⟩))))) a35⟩
  have D3 := DF_p y6.K D2 p9
  have D5 : DF nd h3 (sm_wI g4 67 106 (I3 f)) := DF_x (P := fun _ _ => False) p4.K D3 E5 G5 agr_rfl a35 (fun b j z => z.elim) (fun b j z => by unfold Ssr at z; omega)
  have e62 : h3.2.1 62 nd = x := (p9.2.2.2.1.2.1 62 nd (fun z => XCc_df _ _ z (by omega))).trans ((y11.2.1 62 nd (by unfold S52; omega)).trans b8)
  have ncg : nC g2 ≤ nC (sm_wI g4 67 106 (I3 f)) := Nat.le_trans p9.2.2.1.1 G5.1
  have M := makeX (i := i) (x := x) rfl s5 (OP_x (P := fun _ _ => False) p5 agr_rfl a35 (fun z => z) (by unfold Ssr; omega)) D5 b7 e62 p6 (RB_x p7 (a35.1 67 79 (by unfold Ssr; omega))) (f0 := f) rfl n6 ((a35.1 115 nd (by unfold Ssr; omega)).trans u2) (fun q hq => (a35.1 116 _ (by unfold Ssr; omega)).trans (u3 q hq).2.2.2.1) (r0 := r0) (by omega)
  refine DE_tr (RT_trans (RT_PQ p9) R35) (f := f') (by omega) ?_
  rcases M with ⟨h6, g6, f6, k6, nd6, m1, m2, m3, m4⟩ | ⟨e', pc, nd6, h6, g6, m1, m2, m3⟩
  · exact Or.inl ⟨h6, g6, f6, k6, nd6, m1, q3 _ m2, m3, m4⟩
  · exact Or.inr ⟨e', pc, nd6, h6, g6, m1, q3 _ m2, m3⟩
def E466 (fr : Nat) (y1 : Int32) (g : sm_H) : Option (Int32 × sm_H) := (F_418 g).bind fun q => lp F_466_25B fr (y1, q.1, q.2)
abbrev RCy (b j : Nat) : Prop := RCx b j ∨ b = 52
abbrev RRy (b j : Nat) : Prop := RRx b j ∨ b = 67 ∧ (j = 19 ∨ j = 76)
def FIN (y1 : Int32) (h g : sm_H) (rc rr : Option (Int32 × sm_H)) : Prop := ∃ v h1 g1, rc = some (v, h1) ∧ rr = some (v, g1) ∧ K1 h1 g1 ∧ (ext g g1 ∧ grow g g1) ∧ (∃ nd, DF nd h1 g1) ∧ h1.1 55 17 = g1.1 67 77 ∧ h1.1 55 18 = g1.1 67 78 ∧ h1.1 52 1 = 0 ∧ g1.1 67 76 = 0 ∧ g1.1 67 19 = y1 ∧ agr RCy h h1 ∧ agr RRy g g1
theorem FIN_e {y1 : Int32} {h0 g0 : sm_H} {rc rr : Option (Int32 × sm_H)} (R : RT h0 g0 h g) (D : DF nd h g) (e7 : h.1 55 17 = g.1 67 77) (e8 : h.1 55 18 = g.1 67 78) (hc : rc = F_167_150 h) (hr : rr = F_466_59 y1 g) : FIN y1 h0 g0 rc rr := by
  have K : K1 (sm_wI h 52 1 0) (sm_wI (sm_wI g 67 19 y1) 67 76 0) := by
    obtain ⟨wK, cK, wT, cT, wH, cH, wM, cM, cG, cO, cV, wX, cX, cXh, wF⟩ := K1_19 R.1 y1
    exact ⟨wK, cK, wT, cT, wH, cH, wM, cM, cG, cO, cV, wX, cX, cXh_fr (by repeat first | exact hi_rfl | refine hi_wI ?_ (by decide) | refine hi_wJ ?_ (by decide)) cXh, wF⟩
  refine ⟨h.1 55 17, sm_wI h 52 1 0, sm_wI (sm_wI g 67 19 y1) 67 76 0, hc.trans rfl, ?_, K, ⟨ext_trans R.2.1 (ext_trans (ext_19 g y1) (by
    obtain ⟨c1, c2, c3, c4, c5, c6, c7, c8, c9, c10, c11⟩ := ext_rfl (g := sm_wI g 67 19 y1)
    exact ⟨c1, c2, c3, c4, c5, c6, c7, c8, c9, c10, c11⟩)), grow_trans R.2.2.1 (grow_trans (grow_19 g y1) (by
    obtain ⟨d1, d2, d3, d4, d5⟩ := grow_rfl (g := sm_wI g 67 19 y1)
    exact ⟨d1, d2, d3, d4, d5⟩))⟩, ⟨nd, D⟩, e7, e8, rfl, rfl, rfl, agr_wI (agr_mono (fun b j z => Or.inl z) R.2.2.2.1) (Or.inr rfl), agr_wI (agr_wI (agr_mono (fun b j z => Or.inl z) R.2.2.2.2) (Or.inr ⟨rfl, Or.inl rfl⟩)) (Or.inr ⟨rfl, Or.inr rfl⟩)⟩
  rw [hr, e7]; rfl
theorem readN (y1 : Int32) : ∀ (r fu fr f i k nd : Nat) (h g h0 g0 : sm_H), n - f < r → r + 1 < fu → r + 1 < fr → TU n bt k h g → h.1 55 16 = I3 0 → DF nd h g → CB n bt f h → RB n bt f g → i ≤ f → RT h0 g0 h g → FIN y1 h0 g0 (lp F_167_29B fu (I3 i, h)) (E466 fr y1 g) := by
  intro r
  induction r with
  | zero =>
    intro fu fr f i k nd h g h0 g0 hn
    omega
  | succ r ih =>
    intro fu fr f i k nd h g h0 g0 hn hf hr s e16 D c rb ifn R
    have fn := RB_n rb
    have n3 := s.xr.2.1
    have w6 := wrd_6 n bt f
    obtain ⟨h1, c1, c2, c3, c4⟩ := step_C s c
    obtain ⟨g1, d1, d2, d3, d4, d5⟩ := look_R c3 rb
    have Xg : XT 0 0 h g h g1 := XT_y s.K agr_rfl (SLx_Srl d2)
    have X1 : XT 0 0 h g h1 g1 := XT_y s.K (S52_Scl c4) (SLx_Srl d2)
    have FF : ∀ {fu' : Nat} {u : sm_H} {a : Nat}, 0 < fu' → ¬ u.1 55 17 = 0 → lp F_167_29B fu' (I3 a, u) = F_167_150 u := fun {fu' u a} h1 h2 => by
      refine lp_e (by omega) ?_
      unfold F_167_29B
      show (if 3000 ≤ I3 a then _ else if u.1 55 17 = 0 then _ else _) = _
      by_cases q : 3000 ≤ I3 a
      · rw [if_pos q]; rfl
      · rw [if_neg q, if_neg h2]; rfl
    have G0 : ∀ {fr' : Nat} {u : sm_H}, 0 < fr' → lp F_466_25B fr' (y1, 0, u) = F_466_59 y1 u := fun {fr' u} h1 => by
      refine lp_e (by omega) ?_
      unfold F_466_25B
      show (if (0 : Int32) = 0 then _ else _) = _
      rw [if_pos rfl]; rfl
    have R0 : E466 fr y1 g = E466 fr y1 g := rfl
    conv at R0 => rhs; unfold E466
    have GE : wrd n bt f = 0 → E466 fr y1 g = F_466_59 y1 g1 := fun z => by
      rw [if_neg (by omega)] at d5
      rw [R0, d5.1]
      refine lp_e (by omega) ?_
      unfold F_466_25B
      show (if (1 : Int32) = 0 then _ else if g1.1 67 80 = 0 then _ else _) = _
      rw [if_neg (by decide), if_pos (show g1.1 67 80 = 0 from d5.2.2.2.1.trans (by rw [z]; rfl))]; rfl
    by_cases i3 : i = 3000
    · have z : wrd n bt f = 0 := by
        unfold wrd
        rw [if_pos (by omega)]
      refine FIN_e (RT_trans R (RT_XT Xg)) (DF_T s.K D Xg) (d1.nf.2.1.symm ▸ s.nf.1) (d1.nf.2.2.2.symm ▸ s.nf.2.2.1) (lp_e (by omega) ?_) (GE z)
      unfold F_167_29B
      show (if 3000 ≤ I3 i then _ else _) = _
      rw [if_pos (by rw [i3]; decide)]; rfl
    have C0 : F_167_29B (I3 i, h) = (F_171 h).bind fun q9 => if q9.1 = 0 then ((F_167_150 q9.2).map fun r => (.inr r)) else ((F_243 q9.2).bind fun q10 => (F_177 q10.2).bind fun q11 => if q11.1 = 0 then (F_167_74 (I3 i) q10.1 (-1) q11.2) else ((F_176 1 q11.2).bind fun q12 => F_167_74 (I3 i) q10.1 q12.1 q12.2)) := by
      unfold F_167_29B
      show (if 3000 ≤ I3 i then _ else if h.1 55 17 = 0 then _ else _) = _
      rw [if_neg (by rw [I3_lit, I3_le (by decide) (by omega)]; omega), if_pos s.nf.1]
    by_cases w : wrd n bt f = 6
    · obtain ⟨h2, g2, b1, b2', b3, b4, b5⟩ := badWord c3 c2 rb w
      rw [C_171b c1 w b1] at C0; simp only [obs] at C0
      rw [if_neg (by decide), show F_243 h2 = some (h2.1 52 5, h2) from rfl] at C0; simp only [obs] at C0
      have C1 : F_177 h2 = some (0, h2) := by
        show F_177_0 h2 = _
        unfold F_177_0
        rw [show F_242 h2 = some (h2.1 52 4, h2) from rfl, b5.1 52 4 (by omega), c2.2.1, w]; simp only [obs]
        rw [if_neg (by decide), C_170f b3]; rfl
      rw [C1] at C0; simp only [obs] at C0
      rw [if_pos trivial, D74, show I3 i + 1 = I3 (i + 1) from I3_add i 1] at C0
      have X2 : XT 0 0 h g h2 g2 := XT_trans (XT_y s.K (S52_Scl c4) agr_rfl) b4
      refine FIN_e (RT_trans R (RT_XT X2)) (DF_T s.K D X2) (b3.1.trans b3.2.2.1.symm) (b3.2.1.trans b3.2.2.2.1.symm) ?_ ?_
      · rw [lp_s (by omega) C0]; exact FF (by omega) (FT_nz b3)
      · rw [R0, b2']; exact G0 (by omega)
    rw [C_171 c1 w] at C0; simp only [obs] at C0
    by_cases w0 : wrd n bt f = 0
    · rw [if_pos (by rw [w0]; rfl)] at C0
      exact FIN_e (RT_trans R (RT_XT X1)) (DF_T s.K D X1) (c3.nf.1.trans d1.nf.2.1.symm) (c3.nf.2.2.1.trans d1.nf.2.2.2.symm) (lp_e (by omega) C0) (GE w0)
    rw [if_neg w] at d5
    obtain ⟨d5, lr⟩ := d5
    rw [if_neg (show ¬ I3 (wrd n bt f) = (0 : Int32) by rw [I3_lit, I3_inj (by omega) (by decide)]; exact w0), show F_243 h1 = some (h1.1 52 5, h1) from rfl, c2.1] at C0; simp only [obs] at C0
    rw [d5] at R0; simp only [obs] at R0
    have D1 := DF_T s.K D X1
    have dd := defX (i := i) d1 ((c4.1 55 16 (by unfold S52; omega)).trans e16) D1 c2 lr fn w0 w
    have B1 : ∀ v u, F_465 g1 = some (v, u) → F_466_25B (y1, 1, g1) = if v = 0 then F_466_54 y1 u else ((F_418 u).bind fun q4 => if q4.1 = 0 then (F_466_54 y1 q4.2) else (F_466_55 y1 1 q4.2)) := fun v u hv => by
      unfold F_466_25B
      show (if (1 : Int32) = 0 then _ else if g1.1 67 80 = 0 then _ else _) = _
      rw [if_neg (by decide), if_neg (show ¬ g1.1 67 80 = 0 by
        rw [lr.2.2.1, show (0 : Int32) = I3 (rwd 0) from rfl, I3_inj (by have := rwd_5 (x := wrd n bt f) (by omega); omega) (by decide)]
        exact fun y => w0 (rwd_inj (by omega) (by omega) y))]
      simp only []
      rw [hv]; simp only [obs]
    rcases dd with ⟨h2, g2, f', k', nd', m1, m2, m3, m4, m5, m6, m7, m8, m9⟩ | ⟨e', pc, nd', h2, g2, m1, m2, m3, m4, m5⟩
    · rw [C0.trans m1 |> lp_s (by omega)]
      have Z := B1 _ _ m2
      rw [if_neg (by decide)] at Z
      have EE : E466 fr y1 g = E466 (fr - 1) y1 g2 := by
        rw [R0]
        unfold E466
        obtain ⟨g3, e1, e2, e3, e4, e5⟩ := look_R m4 m8
        by_cases v : wrd n bt f' = 6
        · rw [if_pos v] at e5
          obtain ⟨g4, u1, -⟩ := fail_R (g := g3) (f := f') e1.nf.2.1 (I3 (wtr n bt f')) rfl
          rw [e5, u1] at Z ⊢
          simp only [obs] at Z ⊢
          rw [if_pos trivial] at Z
          exact lp_s (by omega) Z
        · rw [if_neg v] at e5
          rw [e5.1] at Z ⊢
          simp only [obs] at Z ⊢
          rw [if_neg (by decide)] at Z
          exact lp_s (by omega) Z
      rw [EE]
      have fn' := RB_n m8
      exact ih (fu - 1) (fr - 1) f' (i + 1) k' nd' h2 g2 h0 g0 (by omega) (by omega) (by omega) m4 m5 m6 m7 m8 (by omega) (RT_trans R (RT_trans (RT_XT X1) m9))
    · have Z := B1 _ _ m2
      rw [if_pos rfl] at Z
      refine FIN_e (RT_trans R (RT_trans (RT_XT X1) m5)) m4 (m3.1.trans m3.2.2.1.symm) (m3.2.1.trans m3.2.2.2.1.symm) ?_ ?_
      · rw [C0.trans m1 |> lp_s (by omega)]; exact FF (by omega) (FT_nz m3)
      · rw [R0, lp_s (by omega) Z]; exact G0 (by omega)
end
theorem hpl_at {g : sm_H} {a i : Nat} (hi : i < (hpl g a).length) : at0 (hpl g a) i = g.1 74 (10 * ty g a + i) := by
  have e : (hpl g a).length = tM g (ty g a) := hpl_len g a
  rw [e] at hi
  exact at0_lst hi
theorem DF_cF {h g : sm_H} (wT : wfT g) (wH : wfH0 g) (F : cF h g) : DF (nD g) h g := by
  obtain ⟨-, -, f3, ⟨f4, f5⟩, f6⟩ := F
  refine ⟨f3.trans f4, f4, f5, fun d hd => ?_⟩
  obtain ⟨t1, t2, a, a1, a2, a3, a4, a5⟩ := f6 d hd
  have e : (hpl g a).length = tM g (ty g a) := hpl_len g a
  have lt : ty g a < nT g := (wH.2 a a1).2.2.1
  refine ⟨t1, t2, a, a1, a2, by rw [e]; exact a3, by rw [a4, e]; exact (wT.2.1 _ lt).2.1.1, fun i hi => ?_⟩
  rw [hpl_at hi]
  rw [e] at hi
  exact a5 i hi
theorem cF_DF {h g : sm_H} {nd : Nat} (wT : wfT g) (wH : wfH0 g) (D : DF nd h g) (e7 : h.1 55 17 = g.1 67 77) (e8 : h.1 55 18 = g.1 67 78) : cF h g := by
  obtain ⟨d1, d2, d3, d4⟩ := D
  have nn : nD g = nd := by show tn (g.1 67 91) = nd; rw [d2]; exact I3_clamp (by omega)
  refine ⟨e7, e8, d1.trans d2.symm, ⟨?_, ?_⟩, fun d hd => ?_⟩
  · show g.1 67 91 = I3 (nD g)
    rw [nn]; exact d2
  · show nD g ≤ 60
    omega
  · obtain ⟨t1, t2, a, a1, a2, a3, a4, a5⟩ := d4 d (by omega)
    have e : (hpl g a).length = tM g (ty g a) := hpl_len g a
    have lt : ty g a < nT g := (wH.2 a a1).2.2.1
    refine ⟨t1, t2, a, a1, a2, by rw [← e]; exact a3, by rw [a4, e]; exact (wT.2.1 _ lt).2.1.1.symm, fun i hi => ?_⟩
    rw [← e] at hi
    rw [a5 i hi, hpl_at hi]
theorem read2 {h g : sm_H} (I : I1 h g) : ∃ v h1 g1, F_284 h = some (v, h1) ∧ F_466 g = some (v, g1) ∧ I1 h1 g1 ∧ kR h h1 ∧ kC g g1 := by
  obtain ⟨K, cR, cP, cU, cY, cF, cZ⟩ := I1_K.mp I
  obtain ⟨y1, ⟨y2, y3⟩, y4, y5⟩ := id cY
  obtain ⟨kk, hk⟩ := I3_surj (g.1 67 102)
  generalize hn : tn (g.1 67 76) = n at y2 y3
  have K0 : K1 (sm_wI (sm_wI (sm_wI (sm_wI (sm_wI h 55 17 0) 55 18 (-1)) 55 16 0) 55 12 0) 52 3 0) (sm_wI (sm_wI (sm_wI g 67 77 0) 67 78 (-1)) 67 79 0) := by
    obtain ⟨wK, cK, wT, cT, wH, cH, wM, cM, cG, cO, cV, wX, cX, cXh, wF⟩ := K1_77 K 0 (-1)
    exact ⟨wK, cK, wT, cT, wH, cH, wM, cM, cG, cO, cV, wX, cX, cXh_fr (by repeat first | exact hi_rfl | refine hi_wI ?_ (by decide) | refine hi_wJ ?_ (by decide)) cXh, wF⟩
  have EX0 : ext g (sm_wI (sm_wI (sm_wI g 67 77 0) 67 78 (-1)) 67 79 0) := by
    obtain ⟨c1, c2, c3, c4, c5, c6, c7, c8, c9, c10, c11⟩ := ext_rfl (g := g)
    exact ⟨c1, c2, c3, c4, c5, c6, c7, c8, c9, c10, c11⟩
  have GR0 : grow g (sm_wI (sm_wI (sm_wI g 67 77 0) 67 78 (-1)) 67 79 0) := by
    obtain ⟨d1, d2, d3, d4, d5⟩ := grow_rfl (g := g)
    exact ⟨d1, d2, d3, d4, d5⟩
  have C0 : F_284 h = lp F_167_29B 1000000 (I3 0, sm_wI (sm_wI (sm_wI (sm_wI (sm_wI h 55 17 0) 55 18 (-1)) 55 16 0) 55 12 0) 52 3 0) := bind_id _
  have R0 : F_466 g = E466 1000000 (g.1 67 19) (sm_wI (sm_wI (sm_wI g 67 77 0) 67 78 (-1)) 67 79 0) := rfl
  have D00 : DF (nD g) h g := DF_cF K.2.2.1 K.2.2.2.2.1 cF
  have D0 : DF (nD g) (sm_wI (sm_wI (sm_wI (sm_wI (sm_wI h 55 17 0) 55 18 (-1)) 55 16 0) 55 12 0) 52 3 0) (sm_wI (sm_wI (sm_wI g 67 77 0) 67 78 (-1)) 67 79 0) := ⟨D00.1, D00.2.1, D00.2.2.1, D00.2.2.2⟩
  have a0 : agr RCy h (sm_wI (sm_wI (sm_wI (sm_wI (sm_wI h 55 17 0) 55 18 (-1)) 55 16 0) 55 12 0) 52 3 0) := agr_wI (agr_wI (agr_wI (agr_wI (agr_wI agr_rfl (by unfold RCy RCx XCc SCq; omega)) (by unfold RCy RCx XCc SCq; omega)) (by unfold RCy RCx XCc; omega)) (by unfold RCy RCx XCc; omega)) (Or.inr rfl)
  have b0 : agr RRy g (sm_wI (sm_wI (sm_wI g 67 77 0) 67 78 (-1)) 67 79 0) := agr_wI (agr_wI (agr_wI agr_rfl (by unfold RRy RRx XRc SRa SRq; omega)) (by unfold RRy RRx XRc SRa SRq; omega)) (by unfold RRy RRx XRc SLx; omega)
  have s0 : TU n (fun i => tn (g.1 112 i)) kk (sm_wI (sm_wI (sm_wI (sm_wI (sm_wI h 55 17 0) 55 18 (-1)) 55 16 0) 55 12 0) 52 3 0) (sm_wI (sm_wI (sm_wI g 67 77 0) 67 78 (-1)) 67 79 0) := ⟨K0, ⟨rfl, rfl, rfl, rfl⟩, trivial, ⟨rfl, by decide⟩, hk, ⟨y1.trans y2, y3, fun i hi => ⟨(y4 i (by omega)).1.trans (y4 i (by omega)).2.1, (y4 i (by omega)).2.2⟩⟩, ⟨y2, y3, fun i hi => ⟨(y4 i (by omega)).2.1, (y4 i (by omega)).2.2⟩⟩⟩
  have e16 : (sm_wI (sm_wI (sm_wI (sm_wI (sm_wI h 55 17 0) 55 18 (-1)) 55 16 0) 55 12 0) 52 3 0).1 55 16 = I3 0 := rfl
  have cb : CB n (fun i => tn (g.1 112 i)) (sk n (fun i => tn (g.1 112 i)) 0) (sm_wI (sm_wI (sm_wI (sm_wI (sm_wI h 55 17 0) 55 18 (-1)) 55 16 0) 55 12 0) 52 3 0) := ⟨0, rfl, Nat.zero_le _, rfl⟩
  have rb : RB n (fun i => tn (g.1 112 i)) (sk n (fun i => tn (g.1 112 i)) 0) (sm_wI (sm_wI (sm_wI g 67 77 0) 67 78 (-1)) 67 79 0) := ⟨0, rfl, Nat.zero_le _, rfl⟩
  have Fi := readN (n := n) (bt := fun i => tn (g.1 112 i)) (g.1 67 19) (n + 1) 1000000 1000000 _ 0 kk (nD g) _ _ _ _ (by omega) (by omega) (by omega) s0 e16 D0 cb rb (Nat.zero_le _) (RT_rfl K0)
  rw [← C0, ← R0] at Fi
  generalize sm_wI (sm_wI (sm_wI (sm_wI (sm_wI h 55 17 0) 55 18 (-1)) 55 16 0) 55 12 0) 52 3 0 = h0 at *
  generalize sm_wI (sm_wI (sm_wI g 67 77 0) 67 78 (-1)) 67 79 0 = g0 at *
  obtain ⟨v, h1, g1, f1, f2, f3, ⟨f4, f5⟩, ⟨nd, f6⟩, f7, f8, f9, f10, f11, f12, f13⟩ := Fi
  have a1 : agr RCy h h1 := agr_trans a0 f12
  have b1 : agr RRy g g1 := agr_trans b0 f13
  have E1 := ext_trans EX0 f4
  have G1 := grow_trans GR0 f5
  have nC1 : ∀ b j, RCy b j → ¬ (b = 64 ∨ b = 65 ∨ b = 0 ∨ b = 66 ∨ b = 49 ∨ b = 53 ∨ b = 54 ∨ b = 47 ∨ 67 ≤ b) := fun b j z => by unfold RCy RCx XCc SCq SCb Ssc SCd SCh SCt Ssp S52 at z; omega
  have nR1 : ∀ b j, RRy b j → ¬ (b = 67 ∧ (j = 1 ∨ 68 ≤ j ∧ j ≤ 73) ∨ b = 68 ∨ b = 110 ∨ b = 111 ∨ b = 112 ∨ b < 67 ∨ 131 ≤ b) := fun b j z => by unfold RRy RRx XRc SRa SRq SRb SRp SRh SRt Ssr SLx at z; omega
  have hc : ∀ b j, (b = 64 ∨ b = 65 ∨ b = 0 ∨ b = 66 ∨ b = 49 ∨ b = 53 ∨ b = 54 ∨ b = 47 ∨ 67 ≤ b) → h1.1 b j = h.1 b j ∧ h1.2.1 b j = h.2.1 b j := fun b j z => ⟨a1.1 b j (fun y => nC1 b j y z), a1.2.1 b j (fun y => nC1 b j y z)⟩
  have hg : ∀ b j, (b = 67 ∧ (j = 1 ∨ 68 ≤ j ∧ j ≤ 73) ∨ b = 68 ∨ b = 110 ∨ b = 111 ∨ b = 112 ∨ b < 67 ∨ 131 ≤ b) → g1.1 b j = g.1 b j ∧ g1.2.1 b j = g.2.1 b j := fun b j z => ⟨b1.1 b j (fun y => nR1 b j y z), b1.2.1 b j (fun y => nR1 b j y z)⟩
  refine ⟨v, h1, g1, f1, f2, I1_K.mpr ⟨f3, ?_, ?_, ?_, ?_, cF_DF f3.2.2.1 f3.2.2.2.2.1 f6 f7 f8, ?_⟩, fun b j z1 z2 => hc b j (by omega), agr_mono (fun b j z => by
    have := nR1 b j z
    omega) b1⟩
  · obtain ⟨r1, r2, r3⟩ := cR
    refine ⟨?_, ?_, fun k hk => ?_⟩
    · rw [(hc 64 1 (by omega)).1, (hg 67 1 (by omega)).1]; exact r1
    · rw [(hg 67 1 (by omega)).1]; exact r2
    · rw [(hc 65 k (by omega)).1, (hg 68 k (by omega)).1]; exact r3 k hk
  · obtain ⟨r1, r2, r3⟩ := cP
    refine ⟨?_, ?_, fun k hk => ?_⟩
    · rw [(hc 0 11 (by omega)).1, (hg 67 68 (by omega)).1]; exact r1
    · rw [(hg 67 68 (by omega)).1]; exact r2
    · rw [(hc 66 k (by omega)).2, (hg 110 k (by omega)).2]; exact r3 k hk
  · obtain ⟨u1, u2, u3, u4, u5, u6, u7⟩ := cU
    refine ⟨?_, ?_, ?_, ?_, ?_, ?_, ?_⟩
    · rw [(hc 49 11 (by omega)).1, (hg 67 69 (by omega)).1]; exact u1
    · rw [(hc 49 8 (by omega)).1, (hg 67 73 (by omega)).1]; exact u2
    · rw [(hc 49 12 (by omega)).1, (hg 67 70 (by omega)).1]; exact u3
    · rw [(hc 49 10 (by omega)).1, (hg 67 71 (by omega)).1]; exact u4
    · rw [(hc 49 9 (by omega)).2, (hg 67 72 (by omega)).2]; exact u5
    · rw [(hg 67 71 (by omega)).1, (hg 67 70 (by omega)).1, (hg 67 69 (by omega)).1, (hg 67 72 (by omega)).2]
      rcases u6 with z | z | ⟨⟨q, q1, q2, q3⟩, z2⟩
      · exact Or.inl z
      · exact Or.inr (Or.inl z)
      · exact Or.inr (Or.inr ⟨⟨q, q1, Nat.lt_of_lt_of_le q2 (Nat.add_le_add_left G1.1 20), okO_grow G1 q3⟩, z2⟩)
    · rw [(hg 67 70 (by omega)).1]; exact u7
  · refine ⟨f9.trans f10.symm, ?_, fun k hk => ?_, fun k hk => ?_⟩
    · rw [f10]; exact ⟨rfl, Nat.zero_le _⟩
    · rw [(hc 53 k (by omega)).1, (hg 112 k (by omega)).1]; exact y4 k hk
    · rw [(hc 54 k (by omega)).1, (hg 111 k (by omega)).1]; exact y5 k hk
  · exact ⟨(hc 0 12 (by omega)).1.trans (cZ.1.trans f11.symm), (hc 47 1 (by omega)).1.trans cZ.2⟩
theorem op_read {h : sm_H} (I : I0 h) : ∃ v h1 h2, F_284 h = some (v, h1) ∧ F_466 h1 = some (v, h2) ∧ I0 h2 := op_of2 (fun _ _ I => read2 I) I
theorem lw_ld {L i : Nat} {xs : Nat → Int32} (hL : L ≤ 3072) (hi : i < L) (u : sm_H) : sm_ldI (P_G L xs) u 1000004 (I3 i) = some (xs i) := by
  have c : (I3 i).toNatClampNeg = i := I3_clamp (by omega)
  unfold sm_ldI
  show (if 1000004 < 1000008 ∧ sm_in (I3 i) ((P_G L xs).2.2.2.2.1 (1000004 - 1000000)).1 then _ else _) = _
  refine (if_pos ⟨by decide, ?_⟩).trans ?_
  · show some (xs (I3 i).toNatClampNeg) = _
    rw [c]
  · show ¬ (I3 i < 0 ∨ L ≤ (I3 i).toNatClampNeg)
    rw [c]
    rintro (z | z)
    · exact absurd z (I3_nn (by omega))
    · omega
section
variable {L y : Nat} {xs : Nat → Int32} {h : sm_H}
theorem lw_in (hL : L ≤ 3072) (hy : y + 6 ≤ L) (I : I0 h) : ∃ h1, F_470_18B L xs (I3 y, h) = some (.inl (I3 (y + 6), h1)) ∧ I0 h1 := by
  have e1 : I3 y + 1 = I3 (y + 1) := I3_add y 1
  have e2 : I3 y + 2 = I3 (y + 2) := I3_add y 2
  have e3 : I3 y + 3 = I3 (y + 3) := I3_add y 3
  have e4 : I3 y + 4 = I3 (y + 4) := I3_add y 4
  have e5 : I3 y + 5 = I3 (y + 5) := I3_add y 5
  have e6 : I3 y + 6 = I3 (y + 6) := I3_add y 6
  have l0 := lw_ld (xs := xs) hL (show y < L by omega)
  have l1 := lw_ld (xs := xs) hL (show y + 1 < L by omega)
  have l2 := lw_ld (xs := xs) hL (show y + 2 < L by omega)
  have l3 := lw_ld (xs := xs) hL (show y + 3 < L by omega)
  have l4 := lw_ld (xs := xs) hL (show y + 4 < L by omega)
  have l5 := lw_ld (xs := xs) hL (show y + 5 < L by omega)
  have f4 : ∀ u, F_470_1184 L xs (I3 y) u = some (.inl (I3 (y + 6), u)) := fun u => by
    unfold F_470_1184
    rw [e6]; rfl
  have B : F_470_18B L xs (I3 y, h) = F_470_18B L xs (I3 y, h) := rfl
  conv at B => rhs; unfold F_470_18B
  simp only [] at B
  rw [show sm_al (P_G L xs) h 1000004 = some (I3 L) from rfl] at B
  simp only [Option.bind_some] at B
  rw [show I3 L - 6 = I3 (L - 6) from I3_sub (a := L) (b := 6) (by omega), if_neg (show ¬ I3 (L - 6) < I3 y by rw [I3_lt (by omega) (by omega)]; omega), l0] at B
  simp only [Option.bind_some] at B
  generalize xs y &&& 31 = c at B
  by_cases c0 : c = 0
  · rw [if_pos c0] at B
    obtain ⟨v, h1, h2, a, b, I2⟩ := op_put (xs (y + 1)) I
    simp only [e1, e2, e3, e4, e5, l1, l2, l3, l4, l5, Option.bind_some] at B
    rw [a] at B
    simp only [Option.bind_some] at B
    try simp only [l1, l2, l3, l4, l5, Option.bind_some] at B
    rw [b] at B
    simp only [Option.bind_some] at B
    rw [if_pos trivial, f4] at B
    exact ⟨h2, B, I2⟩
  rw [if_neg c0] at B
  by_cases c1 : c = 1
  · rw [if_pos c1] at B
    obtain ⟨v, h1, h2, a, b, I2⟩ := op_newClass (xs (y + 1)) (xs (y + 2)) I
    simp only [e1, e2, e3, e4, e5, l1, l2, l3, l4, l5, Option.bind_some] at B
    rw [a] at B
    simp only [Option.bind_some] at B
    try simp only [l1, l2, l3, l4, l5, Option.bind_some] at B
    rw [b] at B
    simp only [Option.bind_some] at B
    rw [if_pos trivial, f4] at B
    exact ⟨h2, B, I2⟩
  rw [if_neg c1] at B
  by_cases c2 : c = 2
  · rw [if_pos c2] at B
    obtain ⟨v, h1, h2, a, b, I2⟩ := op_type (xs (y + 1)) I
    simp only [e1, e2, e3, e4, e5, l1, l2, l3, l4, l5, Option.bind_some] at B
    rw [a] at B
    simp only [Option.bind_some] at B
    try simp only [l1, l2, l3, l4, l5, Option.bind_some] at B
    rw [b] at B
    simp only [Option.bind_some] at B
    rw [if_pos trivial, f4] at B
    exact ⟨h2, B, I2⟩
  rw [if_neg c2] at B
  by_cases c3 : c = 3
  · rw [if_pos c3] at B
    obtain ⟨v, h1, h2, a, b, I2⟩ := op_typeAbout (xs (y + 1)) (xs (y + 2)) I
    simp only [e1, e2, e3, e4, e5, l1, l2, l3, l4, l5, Option.bind_some] at B
    rw [a] at B
    simp only [Option.bind_some] at B
    try simp only [l1, l2, l3, l4, l5, Option.bind_some] at B
    rw [b] at B
    simp only [Option.bind_some] at B
    rw [if_pos trivial, f4] at B
    exact ⟨h2, B, I2⟩
  rw [if_neg c3] at B
  by_cases c4 : c = 4
  · rw [if_pos c4] at B
    obtain ⟨v, h1, h2, a, b, I2⟩ := op_make (xs (y + 1)) (xs (y + 2)) (xs (y + 3)) (((Int32.toInt64 (xs (y + 4))) <<< (Int32.toInt64 32 &&& 63)) ||| ((Int32.toInt64 (xs (y + 5))) &&& 4294967295)) I
    simp only [e1, e2, e3, e4, e5, l1, l2, l3, l4, l5, Option.bind_some] at B
    rw [a] at B
    simp only [Option.bind_some] at B
    try simp only [l1, l2, l3, l4, l5, Option.bind_some] at B
    rw [b] at B
    simp only [Option.bind_some] at B
    rw [if_pos trivial, f4] at B
    exact ⟨h2, B, I2⟩
  rw [if_neg c4] at B
  by_cases c5 : c = 5
  · rw [if_pos c5] at B
    obtain ⟨v, h1, h2, a, b, I2⟩ := op_handle (xs (y + 1)) (xs (y + 2)) I
    simp only [e1, e2, e3, e4, e5, l1, l2, l3, l4, l5, Option.bind_some] at B
    rw [a] at B
    simp only [Option.bind_some] at B
    try simp only [l1, l2, l3, l4, l5, Option.bind_some] at B
    rw [b] at B
    simp only [Option.bind_some] at B
    rw [if_pos trivial, f4] at B
    exact ⟨h2, B, I2⟩
  rw [if_neg c5] at B
  by_cases c6 : c = 6
  · rw [if_pos c6] at B
    obtain ⟨v, h1, h2, a, b, I2⟩ := op_constant (xs (y + 1)) I
    simp only [e1, e2, e3, e4, e5, l1, l2, l3, l4, l5, Option.bind_some] at B
    rw [a] at B
    simp only [Option.bind_some] at B
    try simp only [l1, l2, l3, l4, l5, Option.bind_some] at B
    rw [b] at B
    simp only [Option.bind_some] at B
    rw [if_pos (cmp_eq.mpr rfl), f4] at B
    exact ⟨h2, B, I2⟩
  rw [if_neg c6] at B
  by_cases c7 : c = 7
  · rw [if_pos c7] at B
    simp only [e1, e2, e3, e4, e5, l1, l2, l3, l4, l5, Option.bind_some] at B
    by_cases z : xs (y + 4) = 0
    · obtain ⟨v, h1, h2, a, b, I2⟩ := op_field (xs (y + 1)) (xs (y + 2)) (xs (y + 3)) false (xs (y + 5)) I
      rw [if_pos z] at B
      unfold F_470_441 F_470_478 at B
      simp only [e1, e2, e3, e4, e5, l1, l2, l3, l4, l5, Option.bind_some] at B
      rw [show F_267 (xs (y + 1)) (xs (y + 2)) (xs (y + 3)) 0 (xs (y + 5)) h = some (v, h1) from a] at B
      simp only [Option.bind_some] at B
      try simp only [l1, l2, l3, l4, l5, Option.bind_some] at B
      rw [if_pos z] at B
      try simp only [l1, l2, l3, l4, l5, Option.bind_some] at B
      rw [show F_390 (xs (y + 1)) (xs (y + 2)) (xs (y + 3)) 0 (xs (y + 5)) h1 = some (v, h2) from b] at B
      simp only [Option.bind_some] at B
      rw [if_pos trivial, f4] at B
      exact ⟨h2, B, I2⟩
    · obtain ⟨v, h1, h2, a, b, I2⟩ := op_field (xs (y + 1)) (xs (y + 2)) (xs (y + 3)) true (xs (y + 5)) I
      rw [if_neg z] at B
      unfold F_470_441 F_470_478 at B
      simp only [e1, e2, e3, e4, e5, l1, l2, l3, l4, l5, Option.bind_some] at B
      rw [show F_267 (xs (y + 1)) (xs (y + 2)) (xs (y + 3)) 1 (xs (y + 5)) h = some (v, h1) from a] at B
      simp only [Option.bind_some] at B
      try simp only [l1, l2, l3, l4, l5, Option.bind_some] at B
      rw [if_neg z] at B
      try simp only [l1, l2, l3, l4, l5, Option.bind_some] at B
      rw [show F_390 (xs (y + 1)) (xs (y + 2)) (xs (y + 3)) 1 (xs (y + 5)) h1 = some (v, h2) from b] at B
      simp only [Option.bind_some] at B
      rw [if_pos trivial, f4] at B
      exact ⟨h2, B, I2⟩
  rw [if_neg c7] at B
  by_cases c8 : c = 8
  · rw [if_pos c8] at B
    simp only [e1, e2, e3, e4, e5, l1, l2, l3, l4, l5, Option.bind_some] at B
    by_cases z : xs (y + 4) = 0
    · obtain ⟨v, h1, h2, a, b, I2⟩ := op_method (xs (y + 1)) (xs (y + 2)) (xs (y + 3)) false (xs (y + 5)) I
      rw [if_pos z] at B
      unfold F_470_520 F_470_557 at B
      simp only [e1, e2, e3, e4, e5, l1, l2, l3, l4, l5, Option.bind_some] at B
      rw [show F_268 (xs (y + 1)) (xs (y + 2)) (xs (y + 3)) 0 (xs (y + 5)) h = some (v, h1) from a] at B
      simp only [Option.bind_some] at B
      try simp only [l1, l2, l3, l4, l5, Option.bind_some] at B
      rw [if_pos z] at B
      try simp only [l1, l2, l3, l4, l5, Option.bind_some] at B
      rw [show F_391 (xs (y + 1)) (xs (y + 2)) (xs (y + 3)) 0 (xs (y + 5)) h1 = some (v, h2) from b] at B
      simp only [Option.bind_some] at B
      rw [if_pos trivial, f4] at B
      exact ⟨h2, B, I2⟩
    · obtain ⟨v, h1, h2, a, b, I2⟩ := op_method (xs (y + 1)) (xs (y + 2)) (xs (y + 3)) true (xs (y + 5)) I
      rw [if_neg z] at B
      unfold F_470_520 F_470_557 at B
      simp only [e1, e2, e3, e4, e5, l1, l2, l3, l4, l5, Option.bind_some] at B
      rw [show F_268 (xs (y + 1)) (xs (y + 2)) (xs (y + 3)) 1 (xs (y + 5)) h = some (v, h1) from a] at B
      simp only [Option.bind_some] at B
      try simp only [l1, l2, l3, l4, l5, Option.bind_some] at B
      rw [if_neg z] at B
      try simp only [l1, l2, l3, l4, l5, Option.bind_some] at B
      rw [show F_391 (xs (y + 1)) (xs (y + 2)) (xs (y + 3)) 1 (xs (y + 5)) h1 = some (v, h2) from b] at B
      simp only [Option.bind_some] at B
      rw [if_pos trivial, f4] at B
      exact ⟨h2, B, I2⟩
  rw [if_neg c8] at B
  by_cases c9 : c = 9
  · rw [if_pos c9] at B
    obtain ⟨v, h1, h2, a, b, I2⟩ := op_find (xs (y + 1)) (xs (y + 2)) (xs (y + 3)) (xs (y + 4)) (xs (y + 5)) I
    simp only [e1, e2, e3, e4, e5, l1, l2, l3, l4, l5, Option.bind_some] at B
    rw [a] at B
    simp only [Option.bind_some] at B
    try simp only [l1, l2, l3, l4, l5, Option.bind_some] at B
    rw [b] at B
    simp only [Option.bind_some] at B
    rw [if_pos trivial, f4] at B
    exact ⟨h2, B, I2⟩
  rw [if_neg c9] at B
  by_cases c10 : c = 10
  · rw [if_pos c10] at B
    obtain ⟨v, h1, h2, a, b, I2⟩ := op_refused  I
    rw [a] at B
    simp only [Option.bind_some] at B
    rw [b] at B
    simp only [Option.bind_some] at B
    rw [if_pos trivial, f4] at B
    exact ⟨h2, B, I2⟩
  rw [if_neg c10] at B
  by_cases c11 : c = 11
  · rw [if_pos c11] at B
    obtain ⟨v, h1, h2, a, b, I2⟩ := op_target (xs (y + 1)) I
    simp only [e1, e2, e3, e4, e5, l1, l2, l3, l4, l5, Option.bind_some] at B
    rw [a] at B
    simp only [Option.bind_some] at B
    try simp only [l1, l2, l3, l4, l5, Option.bind_some] at B
    rw [b] at B
    simp only [Option.bind_some] at B
    rw [if_pos trivial, f4] at B
    exact ⟨h2, B, I2⟩
  rw [if_neg c11] at B
  by_cases c12 : c = 12
  · rw [if_pos c12] at B
    obtain ⟨v, h1, h2, a, b, I2⟩ := op_aim (xs (y + 1)) (xs (y + 2)) I
    simp only [e1, e2, e3, e4, e5, l1, l2, l3, l4, l5, Option.bind_some] at B
    rw [a] at B
    simp only [Option.bind_some] at B
    try simp only [l1, l2, l3, l4, l5, Option.bind_some] at B
    rw [b] at B
    simp only [Option.bind_some] at B
    rw [if_pos trivial, f4] at B
    exact ⟨h2, B, I2⟩
  rw [if_neg c12] at B
  by_cases c13 : c = 13
  · rw [if_pos c13] at B
    obtain ⟨v, h1, h2, a, b, I2⟩ := op_point  I
    rw [a] at B
    simp only [Option.bind_some] at B
    rw [b] at B
    simp only [Option.bind_some] at B
    rw [if_pos trivial, f4] at B
    exact ⟨h2, B, I2⟩
  rw [if_neg c13] at B
  by_cases c14 : c = 14
  · rw [if_pos c14] at B
    obtain ⟨v, h1, h2, a, b, I2⟩ := op_off (xs (y + 1)) I
    simp only [e1, e2, e3, e4, e5, l1, l2, l3, l4, l5, Option.bind_some] at B
    rw [a] at B
    simp only [Option.bind_some] at B
    try simp only [l1, l2, l3, l4, l5, Option.bind_some] at B
    rw [b] at B
    simp only [Option.bind_some] at B
    rw [if_pos trivial, f4] at B
    exact ⟨h2, B, I2⟩
  rw [if_neg c14] at B
  by_cases c15 : c = 15
  · rw [if_pos c15] at B
    obtain ⟨v, h1, h2, a, b, I2⟩ := op_pass (((Int32.toInt64 (xs (y + 1))) <<< (Int32.toInt64 32 &&& 63)) ||| ((Int32.toInt64 (xs (y + 2))) &&& 4294967295)) I
    simp only [e1, e2, e3, e4, e5, l1, l2, l3, l4, l5, Option.bind_some] at B
    rw [a] at B
    simp only [Option.bind_some] at B
    try simp only [l1, l2, l3, l4, l5, Option.bind_some] at B
    rw [b] at B
    simp only [Option.bind_some] at B
    rw [if_pos trivial, f4] at B
    exact ⟨h2, B, I2⟩
  rw [if_neg c15] at B
  by_cases c16 : c = 16
  · rw [if_pos c16] at B
    obtain ⟨v, h1, h2, a, b, I2⟩ := op_run (xs (y + 1)) (xs (y + 2)) I
    simp only [e1, e2, e3, e4, e5, l1, l2, l3, l4, l5, Option.bind_some] at B
    rw [a] at B
    simp only [Option.bind_some] at B
    try simp only [l1, l2, l3, l4, l5, Option.bind_some] at B
    rw [b] at B
    simp only [Option.bind_some] at B
    rw [if_pos trivial, f4] at B
    exact ⟨h2, B, I2⟩
  rw [if_neg c16] at B
  by_cases c17 : c = 17
  · rw [if_pos c17] at B
    obtain ⟨v, h1, h2, a, b, I2⟩ := op_told (xs (y + 1)) I
    simp only [e1, e2, e3, e4, e5, l1, l2, l3, l4, l5, Option.bind_some] at B
    rw [a] at B
    simp only [Option.bind_some] at B
    try simp only [l1, l2, l3, l4, l5, Option.bind_some] at B
    rw [b] at B
    simp only [Option.bind_some] at B
    rw [if_pos trivial, f4] at B
    exact ⟨h2, B, I2⟩
  rw [if_neg c17] at B
  by_cases c18 : c = 18
  · rw [if_pos c18] at B
    obtain ⟨v, h1, h2, a, b, I2⟩ := op_result  I
    rw [a] at B
    simp only [Option.bind_some] at B
    rw [b] at B
    simp only [Option.bind_some] at B
    rw [if_pos (cmp_eq.mpr rfl), f4] at B
    exact ⟨h2, B, I2⟩
  rw [if_neg c18] at B
  by_cases c19 : c = 19
  · rw [if_pos c19] at B
    obtain ⟨v, h1, h2, a, b, I2⟩ := op_keep  I
    rw [a] at B
    simp only [Option.bind_some] at B
    rw [b] at B
    simp only [Option.bind_some] at B
    rw [if_pos trivial, f4] at B
    exact ⟨h2, B, I2⟩
  rw [if_neg c19] at B
  by_cases c20 : c = 20
  · rw [if_pos c20] at B
    obtain ⟨v, h1, h2, a, b, I2⟩ := op_value (xs (y + 1)) (xs (y + 2)) I
    simp only [e1, e2, e3, e4, e5, l1, l2, l3, l4, l5, Option.bind_some] at B
    rw [a] at B
    simp only [Option.bind_some] at B
    try simp only [l1, l2, l3, l4, l5, Option.bind_some] at B
    rw [b] at B
    simp only [Option.bind_some] at B
    rw [if_pos (cmp_eq.mpr rfl), f4] at B
    exact ⟨h2, B, I2⟩
  rw [if_neg c20] at B
  by_cases c21 : c = 21
  · rw [if_pos c21] at B
    obtain ⟨v, h1, h2, a, b, I2⟩ := op_element (xs (y + 1)) (xs (y + 2)) (xs (y + 3)) I
    simp only [e1, e2, e3, e4, e5, l1, l2, l3, l4, l5, Option.bind_some] at B
    rw [a] at B
    simp only [Option.bind_some] at B
    try simp only [l1, l2, l3, l4, l5, Option.bind_some] at B
    rw [b] at B
    simp only [Option.bind_some] at B
    rw [if_pos (cmp_eq.mpr rfl), f4] at B
    exact ⟨h2, B, I2⟩
  rw [if_neg c21] at B
  by_cases c22 : c = 22
  · rw [if_pos c22] at B
    obtain ⟨h1, h2, a, b, I2⟩ := op_feed (xs (y + 1)) (xs (y + 2)) (xs (y + 3)) (xs (y + 4)) (xs (y + 5)) I
    simp only [e1, e2, e3, e4, e5, l1, l2, l3, l4, l5, Option.bind_some] at B
    rw [a] at B
    simp only [Option.bind_some] at B
    try simp only [l1, l2, l3, l4, l5, Option.bind_some] at B
    rw [b] at B
    simp only [Option.bind_some] at B
    rw [f4] at B
    exact ⟨h2, B, I2⟩
  rw [if_neg c22] at B
  by_cases c23 : c = 23
  · rw [if_pos c23] at B
    obtain ⟨v, h1, h2, a, b, I2⟩ := op_end (xs (y + 1)) I
    simp only [e1, e2, e3, e4, e5, l1, l2, l3, l4, l5, Option.bind_some] at B
    rw [a] at B
    simp only [Option.bind_some] at B
    try simp only [l1, l2, l3, l4, l5, Option.bind_some] at B
    rw [b] at B
    simp only [Option.bind_some] at B
    rw [if_pos trivial, f4] at B
    exact ⟨h2, B, I2⟩
  rw [if_neg c23] at B
  by_cases c24 : c = 24
  · rw [if_pos c24] at B
    obtain ⟨v, h1, h2, a, b, I2⟩ := op_read  I
    rw [a] at B
    simp only [Option.bind_some] at B
    rw [b] at B
    simp only [Option.bind_some] at B
    rw [if_pos trivial, f4] at B
    exact ⟨h2, B, I2⟩
  rw [if_neg c24] at B
  by_cases c25 : c = 25
  · rw [if_pos c25] at B
    obtain ⟨v, h1, h2, a, b, I2⟩ := op_fault (xs (y + 1)) I
    simp only [e1, e2, e3, e4, e5, l1, l2, l3, l4, l5, Option.bind_some] at B
    rw [a] at B
    simp only [Option.bind_some] at B
    try simp only [l1, l2, l3, l4, l5, Option.bind_some] at B
    rw [b] at B
    simp only [Option.bind_some] at B
    rw [if_pos trivial, f4] at B
    exact ⟨h2, B, I2⟩
  rw [if_neg c25] at B
  by_cases c26 : c = 26
  · rw [if_pos c26] at B
    obtain ⟨v, h1, h2, a, b, I2⟩ := op_named (((Int32.toInt64 (xs (y + 1))) <<< (Int32.toInt64 32 &&& 63)) ||| ((Int32.toInt64 (xs (y + 2))) &&& 4294967295)) I
    simp only [e1, e2, e3, e4, e5, l1, l2, l3, l4, l5, Option.bind_some] at B
    rw [a] at B
    simp only [Option.bind_some] at B
    try simp only [l1, l2, l3, l4, l5, Option.bind_some] at B
    rw [b] at B
    simp only [Option.bind_some] at B
    rw [if_pos trivial, f4] at B
    exact ⟨h2, B, I2⟩
  rw [if_neg c26] at B
  by_cases c27 : c = 27
  · rw [if_pos c27] at B
    simp only [e1, e2, e3, e4, e5, l1, l2, l3, l4, l5, Option.bind_some] at B
    by_cases z : xs (y + 3) = 0
    · obtain ⟨v, h1, h2, a, b, I2⟩ := op_may (xs (y + 1)) (xs (y + 2)) false I
      rw [if_pos z] at B
      unfold F_470_1149 F_470_1176 at B
      simp only [e1, e2, e3, e4, e5, l1, l2, l3, l4, l5, Option.bind_some] at B
      rw [show F_287 (xs (y + 1)) (xs (y + 2)) 0 h = some (v, h1) from a] at B
      simp only [Option.bind_some] at B
      try simp only [l1, l2, l3, l4, l5, Option.bind_some] at B
      rw [if_pos z] at B
      rw [show F_469 (xs (y + 1)) (xs (y + 2)) 0 h1 = some (v, h2) from b] at B
      simp only [Option.bind_some] at B
      rw [if_pos trivial, f4] at B
      exact ⟨h2, B, I2⟩
    · obtain ⟨v, h1, h2, a, b, I2⟩ := op_may (xs (y + 1)) (xs (y + 2)) true I
      rw [if_neg z] at B
      unfold F_470_1149 F_470_1176 at B
      simp only [e1, e2, e3, e4, e5, l1, l2, l3, l4, l5, Option.bind_some] at B
      rw [show F_287 (xs (y + 1)) (xs (y + 2)) 1 h = some (v, h1) from a] at B
      simp only [Option.bind_some] at B
      try simp only [l1, l2, l3, l4, l5, Option.bind_some] at B
      rw [if_neg z] at B
      rw [show F_469 (xs (y + 1)) (xs (y + 2)) 1 h1 = some (v, h2) from b] at B
      simp only [Option.bind_some] at B
      rw [if_pos trivial, f4] at B
      exact ⟨h2, B, I2⟩
  rw [if_neg c27] at B
  rw [f4] at B
  exact ⟨h, B, I⟩
theorem lw_out (hL : L ≤ 3072) (y1 : y ≤ 3072) (hy : ¬ y + 6 ≤ L) : F_470_18B L xs (I3 y, h) = some (.inr (1, h)) := by
  unfold F_470_18B
  simp only []
  rw [show sm_al (P_G L xs) h 1000004 = some (I3 L) from rfl]
  simp only [Option.bind_some]
  refine if_pos ?_
  by_cases q : 6 ≤ L
  · rw [show I3 L - 6 = I3 (L - 6) from I3_sub (a := L) (b := 6) q, I3_lt (by omega) (by omega)]; omega
  · have n : I3 L - 6 < 0 := by
      rcases (show L = 0 ∨ L = 1 ∨ L = 2 ∨ L = 3 ∨ L = 4 ∨ L = 5 by omega) with rfl | rfl | rfl | rfl | rfl | rfl <;> decide
    have p : (0 : Int32) ≤ I3 y := by rw [I3_lit, I3_le (by decide) (by omega)]; omega
    exact Int32.lt_of_lt_of_le n p
theorem lw_all (hL : L ≤ 3072) (I : I0 h) : ∃ r, F_470_18 L xs 0 h = some (1, r) ∧ I0 r := by
  have LP : ∀ c y fu (u : sm_H), L - y < c → c ≤ fu → y ≤ 3072 → I0 u → ∃ r, lp (F_470_18B L xs) fu (I3 y, u) = some (1, r) ∧ I0 r := by
    intro c
    induction c with
    | zero => intro y fu u hc; omega
    | succ c ih =>
      intro y fu u hc hf y1 I
      by_cases q : y + 6 ≤ L
      · obtain ⟨h1, b1, b2'⟩ := lw_in (xs := xs) hL q I
        obtain ⟨r, r1, r2⟩ := ih (y + 6) (fu - 1) h1 (by omega) (by omega) (by omega) b2'
        exact ⟨r, by rw [lp_s (by omega) b1]; exact r1, r2⟩
      · exact ⟨u, lp_e (by omega) (lw_out hL y1 q), I⟩
  exact LP (L + 1) 0 1000000 h (by omega) (by omega) (by omega) I
theorem lw_room (I : I0 h) : h.n ≤ 400000 ∧ h.sl ≤ 6000000 := by
  obtain ⟨wK, cK, wT, cT, wH, cH, wM, cM, cR, cP, cG, cO, cV, wX, cX, cXh, cU, cY, cF, cZ, wF⟩ := I
  have x1 : nX h ≤ 1000 := wX.1.2
  have a : h.n = 3 * nX h := cXh.1
  have b : h.sl ≤ 202 * nX h := cXh.2.1
  omega
end
