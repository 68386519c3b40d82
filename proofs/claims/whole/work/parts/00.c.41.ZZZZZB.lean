section
variable {n : Nat} {bt : Nat → Nat} {nd o T j k m p f f0 np r0 i : Nat} {ps : Nat → Int64} {ks : Nat → Int32} {h g h1 g1 h2 g2 : sm_H}
theorem D96 (y1 y2 y3 z : Int32) (h : sm_H) : F_167_97 y1 y2 y3 (-1) h = some (.inl (y1 + 1, h)) ∧ F_167_113 y1 y2 y3 z (-1) h = some (.inl (y1 + 1, h)) := by
  have a : ∀ z, F_167_113 y1 y2 y3 z (-1) h = some (.inl (y1 + 1, h)) := fun z => by
    unfold F_167_113 F_167_144
    rw [if_pos rfl]; rfl
  refine ⟨?_, a z⟩
  unfold F_167_97
  rw [if_pos rfl]; exact a _
def DE (n : Nat) (bt : Nat → Nat) (i f : Nat) (h g : sm_H) (rc : Option ((Int32 × sm_H) ⊕ (Int32 × sm_H))) (rr : Option (Int32 × sm_H)) : Prop :=
  (∃ h1 g1 f' k' nd', rc = some (.inl (I3 (i + 1), h1)) ∧ rr = some (1, g1) ∧ f < f' ∧ TU n bt k' h1 g1 ∧ h1.1 55 16 = I3 0 ∧ DF nd' h1 g1 ∧ CB n bt f' h1 ∧ RB n bt f' g1 ∧ RT h g h1 g1) ∨ ∃ e pc nd' h1 g1, rc = some (.inl (I3 (i + 1), h1)) ∧ rr = some (0, g1) ∧ FT e pc h1 g1 ∧ DF nd' h1 g1 ∧ RT h g h1 g1
theorem DE_tr {h0 g0 : sm_H} {f0 : Nat} {rc : Option ((Int32 × sm_H) ⊕ (Int32 × sm_H))} {rr : Option (Int32 × sm_H)} (R : RT h0 g0 h g) (ff : f0 ≤ f) (d : DE n bt i f h g rc rr) : DE n bt i f0 h0 g0 rc rr := by
  rcases d with ⟨h1, g1, f', k', nd', a1, a2, a3, a4, a5, a6, a7, a8, a9⟩ | ⟨e, pc, nd', h1, g1, a1, a2, a3, a4, a5⟩
  · exact Or.inl ⟨h1, g1, f', k', nd', a1, a2, by omega, a4, a5, a6, a7, a8, RT_trans R a9⟩
  · exact Or.inr ⟨e, pc, nd', h1, g1, a1, a2, a3, a4, RT_trans R a5⟩
theorem bodyX {y0 t0 : Nat} {kd : List Int32} (s : TS n bt 0 1 ps kd h g) (o1 : OP 1 h g) (D : DF nd h g) (c : CB n bt f h) (r : RB n bt f g) (F : FC g 0 f0 kd.length 0 0 0) (e124 : g.1 124 0 = I3 0) (hr0 : r0 < 20 + nC g) (ht : t0 < nG g) (e92 : g.1 92 t0 = I3 y0) (hy0 : y0 < nH g) (p0 : hpl g y0 = kd) (q0 : hrs g y0 = I3 r0) :
    DE n bt i f h g (F_167_97 (I3 i) (I3 f0) (I3 r0) (I3 t0) h) (F_465_386 (I3 f0) (I3 r0) (I3 t0) g) := by
  have h12 := s.K.1.2.1
  have n3 := s.xr.2.1
  have g80 : nG g ≤ 80 := s.K.2.2.2.2.2.2.2.2.1.2.1.2
  have C0 : F_167_97 (I3 i) (I3 f0) (I3 r0) (I3 t0) h = (F_193 (K_194 25) h).bind fun q6 => F_167_113 (I3 i) (I3 f0) (I3 r0) (I3 t0) q6.1 q6.2 := by
    unfold F_167_97
    rw [if_neg (I3_m1 (by omega))]
  have X : EX n bt nd (K_194 25) 1 := EX_of (rec2 := K_194 24) (fun u => rfl) (exprS n bt nd 25 1 (by omega))
  have E := X 1 0 0 0 f ps kd h g (Nat.le_refl _) s o1 D c r (by omega) (by omega) (by omega) e124
  have R1 : F_451 g = wp (F_448 g) := by
    rw [F451a (j := 0) (srt := 0) (N := 1) s.b (by omega) F.1 rfl (by omega) e124 (by omega), if_neg (by omega)]
  have B0 : ∀ (v : Int32) (u : sm_H), wp (F_448 g) = some (v, u) → F_465_386B (I3 f0, I3 r0, I3 t0, g) = if v = 0 then some (.inr (0, u)) else some (.inl (I3 f0, I3 r0, I3 t0, u)) := fun v u hv => by
    unfold F_465_386B F_465_403
    show (if 1 < g.1 67 102 then _ else _) = _
    rw [s.b, if_neg (by decide)]
    simp only []
    rw [show ldI g 124 24 0 = some (g.1 124 0) from ldI_I (k := 0) (by decide) (by decide), e124]; simp only [obs]
    rw [if_pos (by decide), R1, hv]; simp only [obs]
  have fn := RB_n r
  rcases EO_v fn E with ⟨y, h1, g2, f', cc, e1, e2, e3, e4, e5, e6, e7, e8, e9, e10, e11, e12, e13, e14, e15⟩ | ⟨e, pc, h1, g1, cc, e1, e2, e3, e4, e5⟩
  rotate_left
  · right
    rw [e1] at C0; simp only [obs] at C0; rw [(D96 _ _ _ _ h1).2, show I3 i + 1 = I3 (i + 1) from I3_add i 1] at C0
    refine ⟨e, pc, nd, h1, g1, C0, ?_, e2, DF_T s.K D e3, RT_XT e3⟩
    show lp F_465_386B 1000000 (I3 f0, I3 r0, I3 t0, g) = _
    rcases e5 with e5 | ⟨g3, e5, e6⟩
    · have B := B0 0 g1 (by rw [e5, wp0])
      rw [if_pos rfl] at B
      exact lp_e (by omega) B
    · have B := B0 1 g3 (by rw [e5, wp1])
      rw [if_neg (by decide)] at B
      rw [lp_s (by omega) B]
      exact e6 _ _ _ _ (by omega)
  obtain ⟨g3, r1, r2⟩ := e2
  have B := B0 1 g3 (by rw [r1, wp1])
  rw [if_neg (by decide)] at B
  have fn' := RB_n e7
  have L1 : F_465_386 (I3 f0) (I3 r0) (I3 t0) g = lp F_465_386B (999999 - cc) (I3 f0, I3 r0, I3 t0, g2) := by
    show lp F_465_386B 1000000 (I3 f0, I3 r0, I3 t0, g) = _
    rw [lp_s (by omega) B]
    exact r2 _ _ _ _ (by omega)
  rw [e1] at C0; simp only [obs] at C0
  unfold F_167_113 F_167_144 at C0
  rw [if_neg (h_m1 e4.K e8)] at C0
  have X2 : XT 0 0 h g h1 g2 := ⟨e4.K, e10, e11, e12, agr_mono (fun b j z => by
    rcases z with z | z
    · exact XRc_s (Nat.zero_le _) b j z
    · exact XRp_c (j := 0) b j (by
        rcases z with ⟨z1, z2⟩ | ⟨z1, z2, z3⟩
        · exact Or.inr (Or.inl ⟨z1, z2⟩)
        · exact Or.inr (Or.inr ⟨z1, by omega⟩))) e13, fun _ => e4.l⟩
  have D2 := DF_T s.K D X2
  have B2 : ∀ {v : Int32} {u : sm_H}, F_427 g2 = some (v, u) → F_465_386B (I3 f0, I3 r0, I3 t0, g2) = if v = 0 then some (.inr (0, u)) else ((some (sm_wI u 67 106 (I3 f0))).bind fun h4 => (ldI h4 125 480 0).bind fun v5 => (F_433 v5 (I3 r0) h4).bind fun q6 => if q6.1 = (-1) then (some (.inr (0, q6.2))) else ((stI q6.2 92 80 (I3 t0) q6.1).bind fun h7 => some (.inr (1, h7)))) := fun {v u} hv => by
    unfold F_465_386B
    show (if 1 < g2.1 67 102 then _ else _) = _
    rw [e4.b, if_neg (by decide)]
    simp only []
    rw [show ldI g2 124 24 0 = some (g2.1 124 0) from ldI_I (k := 0) (by decide) (by decide), e14]; simp only [obs]
    rw [if_neg (by decide), hv]; simp only [obs]
  rcases closeE e4 e5 e6 e7 with ⟨h3, g4, q1, q2, q3, q4, q5, q6, q7, q8, q9⟩ | ⟨e', h3, g4, q1, q2, q3, q4⟩
  rotate_left
  · right
    rw [q1] at C0; simp only [obs] at C0; rw [if_pos trivial, show I3 i + 1 = I3 (i + 1) from I3_add i 1] at C0
    have Z := B2 q2
    rw [if_pos rfl] at Z
    have X3 := XT_trans X2 (XT_mono (Nat.zero_le _) (Nat.zero_le _) q4)
    exact ⟨e', _, nd, h3, g4, C0, by rw [L1]; exact lp_e (by omega) Z, q3, DF_T s.K D X3, RT_XT X3⟩
  rw [q1] at C0; simp only [obs] at C0; rw [if_neg (by decide)] at C0
  have Z := B2 q2
  rw [if_neg (by decide)] at Z
  have X3 : XT 0 0 h g h3 g4 := XT_trans X2 (XT_y e4.K q8 q9)
  have a45 : agr (fun b j => SLx b j ∨ (b = 67 ∧ (j = 105 ∨ j = 106 ∨ j = 108))) g4 (sm_wI g4 67 106 (I3 f0)) := agr_wI agr_rfl (Or.inr ⟨rfl, Or.inr (Or.inl rfl)⟩)
  obtain ⟨s5, X5'⟩ := TS_x (T' := 0) (k' := 0) q3 agr_rfl a45
  have X5 := XT_trans X3 X5'
  have v125 : (sm_wI g4 67 106 (I3 f0)).1 125 0 = I3 y := (q9.1 125 0 (by unfold Srl SLx; omega)).trans (e15 (by omega))
  have wh5 : (sm_wI g4 67 106 (I3 f0)).1 67 106 = I3 f0 := rfl
  have r5 : RB n bt (nx n bt f') (sm_wI g4 67 106 (I3 f0)) := q6
  have o5 : OP 0 h3 (sm_wI g4 67 106 (I3 f0)) := q4
  simp only [Option.bind_some] at Z
  generalize sm_wI g4 67 106 (I3 f0) = g5 at *
  rw [show ldI g5 125 480 0 = some (g5.1 125 0) from ldI_I (k := 0) (by decide) (by decide), v125] at Z; simp only [obs] at Z
  have X25 := XT_trans (XT_y (T' := 0) (k' := 0) e4.K q8 q9) X5'
  have nc5 : nC g5 = nC g := nC_XR X5.a
  have M := passedAs s5.K s5.S s5.nf (pc := f0) wh5 (X25.nH e8) ((X25.hpl e4.K e8).trans e9) (k := r0) (by omega)
  rcases M with ⟨z, h6, g6, m1, m2, m3, m4, m5, m6, m7⟩ | ⟨e', h6, g6, m1, m2, m3, m4⟩
  rotate_left
  · right
    rw [m1] at C0; simp only [obs] at C0
    rw [show F_168 (I3 t0) (-1) h6 = some h6 from by
      show F_168_0 (I3 t0) (-1) h6 = _
      unfold F_168_0 F_168_14
      rw [if_pos rfl], show I3 i + 1 = I3 (i + 1) from I3_add i 1] at C0; simp only [obs] at C0
    rw [m2] at Z; simp only [obs] at Z; rw [if_pos trivial] at Z
    have X6 : XT 0 0 h g h6 g6 := XT_trans X5 (XT_TK m3)
    exact ⟨e', _, nd, h6, g6, C0, by rw [L1]; exact lp_e (by omega) Z, m4, DF_T s.K D X6, RT_XT X6⟩
  left
  have X6 : XT 0 0 h g h6 g6 := XT_trans X5 (XT_TK m6)
  have eG : nG g6 = nG g := by show tn _ = tn _; rw [X6.a.1 67 35 (by unfold XRc SRa SRq SRb SRp SRh SRt Ssr SLx; omega)]
  have e92' : g6.1 92 t0 = I3 y0 := (X6.a.1 92 t0 (by unfold XRc SRa SRq SRb SRp SRh SRt Ssr SLx; omega)).trans e92
  have y0' := X6.nH hy0
  have w5 := lt500 m6.k y0'
  have et : ty g6 z = ty g6 (tn (g6.1 92 t0)) := by
    rw [e92', show tn (I3 y0) = y0 from I3_clamp (by omega)]
    exact ty_un m6.k m3 y0' (by rw [m4, X6.hrs s.K hy0, q0]) (by rw [m5, X6.hpl s.K hy0, p0])
  obtain ⟨K7, E7, G7⟩ := tgSet m6.k m3 (show t0 < nG g6 by omega) et
  rw [m1] at C0; simp only [obs] at C0
  have cG6 := m6.k.2.2.2.2.2.2.2.2.1
  have C1 : F_168 (I3 t0) (I3 z) h6 = some (sm_wI h6 32 t0 (I3 z)) := by
    show F_168_0 (I3 t0) (I3 z) h6 = _
    unfold F_168_0 F_168_14
    rw [if_neg (h_m1 m6.k m3)]
    have C2 : F_158 (I3 t0) (I3 z) h6 = some (sm_wI h6 32 t0 (I3 z)) := by
      show F_158_0 (I3 t0) (I3 z) h6 = _
      unfold F_158_0 F_158_15
      rw [C_hasTg (cG6.1.trans cG6.2.1.1) (by have := cG6.2.1.2; omega), inR_I (by have := cG6.2.1.2; omega), decide_eq_true (show t0 < tn (g6.1 67 35) by show t0 < nG g6; omega)]; simp only [obs]
      rw [if_neg (by decide), stI_I (by omega) (by decide)]; simp only [obs]
    rw [C2]; rfl
  rw [C1] at C0; simp only [obs] at C0; rw [show I3 i + 1 = I3 (i + 1) from I3_add i 1] at C0
  rw [m2] at Z; simp only [obs] at Z
  rw [if_neg (h_m1 m6.k m3), stI_I (by omega) (by decide)] at Z; simp only [obs] at Z
  have X56 := XT_TK (T := 0) (k := 0) m6
  have D6 := DF_T s.K D X6
  have b6 : g6.1 67 102 = I3 1 := (m6.a.1 67 102 (by unfold SRq SRb SRp SRh SRt; omega)).trans s5.b
  have ff' := q7
  refine ⟨sm_wI h6 32 t0 (I3 z), sm_wI g6 92 t0 (I3 z), nx n bt f', 1, nd, C0, by rw [L1]; exact lp_e (by omega) Z, by omega, ⟨K7, m7, trivial, ⟨(m6.c.1 55 12 (by unfold SCq SCb Ssc SCd SCh SCt; omega)).trans s5.t.1, by decide⟩, b6, TXC_agr (h1 := h6) s5.xc m6.c (fun b j z => by unfold SCq SCb Ssc SCd SCh SCt at z; omega), TXR_agr (h1 := g6) s5.xr m6.a (fun b j z => by unfold SRq SRb SRp SRh SRt at z; omega)⟩, (m6.c.1 55 16 (by unfold SCq SCb Ssc SCd SCh SCt; omega)).trans o5.1, DF_x (P := fun b j => b = 32 ∧ j = t0) (Q := fun b j => b = 92 ∧ j = t0) m6.k D6 E7 G7 (agr_wI agr_rfl ⟨rfl, rfl⟩) (agr_wI agr_rfl ⟨rfl, rfl⟩) (fun b j z => by omega) (fun b j z => by omega), CB_x q5 (m6.c.1 52 3 (by unfold SCq SCb Ssc SCd SCh SCt; omega)), RB_x r5 (m6.a.1 67 79 (by unfold SRq SRb SRp SRh SRt; omega)), RT_trans (RT_XT X6) ⟨K7, E7, G7, agr_wI agr_rfl (Or.inr (Or.inr (Or.inr (Or.inr (Or.inr rfl))))), agr_wI agr_rfl (Or.inr (Or.inr (Or.inl rfl)))⟩⟩
end
