section
variable {n : Nat} {bt : Nat → Nat} {nd o T j k m p f f0 np r0 i : Nat} {h g h1 g1 h2 g2 : sm_H}
theorem D74 (y1 y2 : Int32) (h : sm_H) : F_167_74 y1 y2 (-1) h = some (.inl (y1 + 1, h)) := by
  unfold F_167_74 F_167_96
  rw [if_pos rfl]; exact (D96 _ _ _ (-1) h).1
theorem K1_130 (K : K1 h g) (a : agr (fun b j => (b = 130 ∨ Ssr b j) ∨ b = 67 ∧ j = 106) g g1) : K1 h g1 ∧ ext g g1 ∧ grow g g1 := by
  have no : ∀ b j, ((b = 130 ∨ Ssr b j) ∨ b = 67 ∧ j = 106) → notR b j := fun b j z => by
    rcases z with (rfl | z) | ⟨rfl, rfl⟩
    · rfl
    · exact Ssr_not b j z
    · rfl
  have E := ext_eq (ok_of_not no a)
  exact ⟨K1_g K (agr_mono no a), E.1, E.2.1⟩
theorem defX (s : TU n bt k h g) (e16 : h.1 55 16 = I3 0) (D : DF nd h g) (lc : LXC n bt f h) (lr : LXR n bt f g) (fn : f ≤ n) (w0 : wrd n bt f ≠ 0) (w6 : wrd n bt f ≠ 6) : DE n bt i f h g ((F_177 h).bind fun q11 => if q11.1 = 0 then (F_167_74 (I3 i) (I3 f) (-1) q11.2) else ((F_176 1 q11.2).bind fun q12 => F_167_74 (I3 i) (I3 f) q12.1 q12.2)) (F_465 g) := by
  have ii : I3 i + 1 = I3 (i + 1) := I3_add i 1
  rcases hdrX s e16 D lc lr fn w0 w6 with ⟨h1, g1, x, f1, b1, b2', b3, b4, b5, b6, b7, b8, b9, b10, b11⟩ | ⟨e', pc, h1, g1, b1, b2', b3, b4⟩
  rotate_left
  · refine Or.inr ⟨e', pc, nd, h1, g1, ?_, b2', b3, DF_T s.K D b4, RT_XT b4⟩
    rw [b1]; simp only [obs]
    rw [if_pos trivial, D74, ii]
  rw [b2']; simp only [obs]
  rw [if_neg (by decide), b3]
  refine DE_tr b11 (f := f1) (by omega) ?_
  unfold dRest
  rcases kindB true b4 b9 b10 with ⟨r0, h2, g2, y1, y2, y3, y4, y5, y6, y7, y8, y9, y10, y11, y12⟩ | ⟨e', h2, g2, y1, y2, y3, y4⟩
  rotate_left
  · rw [show F_176 1 h1 = some (-1, h2) from y1, show F_424 1 g1 = some (0, g2) from y2]; simp only [obs]
    rw [if_pos trivial, D74, ii]
    have Z := XT_mono (T' := 0) (k' := 0) (Nat.zero_le _) (Nat.zero_le _) y4
    exact Or.inr ⟨e', _, nd, h2, g2, rfl, rfl, y3, DF_T b4.K b6 Z, RT_XT Z⟩
  have i20 := y6.K.1.2.1
  have Z2 := XT_mono (T' := 0) (k' := 0) (Nat.zero_le _) (Nat.zero_le _) y10
  have nc2 : nC g2 = nC g1 := nC_XR y10.a
  have D2 := DF_T b4.K b6 Z2
  rw [show F_176 1 h1 = some (I3 r0, h2) from y1, show F_424 1 g1 = some (1, g2) from y2]; simp only [obs]
  rw [if_neg (by decide), y3, D2.2.1]
  have C0 : F_167_74 (I3 i) (I3 f) (I3 r0) h2 = (F_178 h2).bind fun q7 => if q7.1 = 0 then (F_167_96 (I3 i) (I3 f) (I3 r0) q7.2) else ((F_180 (I3 r0) (I3 f) q7.2).bind fun q8 => F_167_97 (I3 i) (I3 f) (I3 r0) q8.1 q8.2) := by
    unfold F_167_74
    rw [if_neg (I3_m1 (by omega))]
  rw [C0]
  have o2 : OP 1 h2 g2 := OP_x b5 y11 y12 (by unfold S52; omega) (by unfold SLx; omega)
  refine DE_tr (RT_XT Z2) (f := nx n bt f1) (by omega) ?_
  rcases parX b7 y6 o2 y7 y8 with ⟨h3, g3, f', np, ps, ks, p1, p2, p3, p4, p5, p6, p7, p8, p9⟩ | ⟨e', pc, h3, g3, p1, p2, p3, p4⟩
  rotate_left
  · rw [p1, p2]; simp only [obs]
    rw [if_pos trivial]
    unfold F_167_96
    rw [(D96 _ _ _ (-1) h3).1, ii]
    exact Or.inr ⟨e', pc, nd, h3, g3, rfl, rfl, p3, DF_p y6.K D2 p4, RT_PQ p4⟩
  rw [p1, p2]; simp only [obs]
  rw [if_neg (by decide)]
  obtain ⟨g4, q1, q2, q3⟩ := R_174 (f := f) b7 p8 x (I3 r0)
  have a35 : agr (fun b j => (b = 130 ∨ Ssr b j) ∨ b = 67 ∧ j = 106) g3 (sm_wI g4 67 106 (I3 f)) := agr_wI (agr_mono (fun b j z => Or.inl z) q2) (Or.inr ⟨rfl, rfl⟩)
  obtain ⟨K5, E5, G5⟩ := K1_130 (h := h3) p4.K a35
  have P8 := p8
  obtain ⟨n6, u1, u2, u3⟩ := p8
  have nc5 : nC (sm_wI g4 67 106 (I3 f)) = nC g3 := by show tn _ = tn _; rw [a35.1 67 6 (by unfold Ssr; omega)]
  have S5 : SCO ps (lst ks np) h3 (sm_wI g4 67 106 (I3 f)) := SCO_iff.mpr ⟨⟨by rw [lst_len]; exact u1, fun q hq => by
    rw [lst_len] at hq
    rw [at0_lst hq]; exact ⟨(u3 q hq).1, (u3 q hq).2.1⟩⟩, q1, by rw [lst_len]; omega, fun q hq => by
    rw [lst_len] at hq
    rw [at0_lst hq, nc5]; exact (u3 q hq).2.2.2.2⟩
  have s5 : TS n bt 0 k ps (lst ks np) h3 (sm_wI g4 67 106 (I3 f)) := ⟨K5, NF_agr (S := fun _ _ => False) p4.nf agr_rfl a35 ⟨fun z => z, fun z => z⟩ (by unfold Ssr; omega), S5, p4.t, (a35.1 67 102 (by unfold Ssr; omega)).trans p4.b, p4.xc, TXR_agr p4.xr a35 (fun b j z => by unfold Ssr at z; omega)⟩
  have R35 : RT h3 g3 h3 (sm_wI g4 67 106 (I3 f)) := ⟨K5, E5, G5, agr_rfl, agr_mono (fun b j z => by
    rcases z with (z | z) | z
    · exact Or.inr (Or.inr (Or.inr (Or.inr z)))
    · exact Or.inl (Or.inr (Or.inl z))
    · exact Or.inl (Or.inr (Or.inr (Or.inr (Or.inl ⟨z.1, by omega⟩))))) a35⟩
  have D3 := DF_p y6.K D2 p9
  have D5 : DF nd h3 (sm_wI g4 67 106 (I3 f)) := DF_x (P := fun _ _ => False) p4.K D3 E5 G5 agr_rfl a35 (fun b j z => z.elim) (fun b j z => by unfold Ssr at z; omega)
  have e62 : h3.2.1 62 nd = x := (p9.2.2.2.1.2.1 62 nd (fun z => XCc_df _ _ z (by omega))).trans ((y11.2.1 62 nd (by unfold S52; omega)).trans b8)
  have ncg : nC g2 ≤ nC (sm_wI g4 67 106 (I3 f)) := Nat.le_trans p9.2.2.1.1 G5.1
  have M := makeX (i := i) (x := x) rfl s5 (OP_x (P := fun _ _ => False) p5 agr_rfl a35 (fun z => z) (by unfold Ssr; omega)) D5 b7 e62 p6 (RB_x p7 (a35.1 67 79 (by unfold Ssr; omega))) (f0 := f) rfl n6 ((a35.1 115 nd (by unfold Ssr; omega)).trans u2) (fun q hq => (a35.1 116 _ (by unfold Ssr; omega)).trans (u3 q hq).2.2.2.1) (r0 := r0) (by omega)
  refine DE_tr (RT_trans (RT_PQ p9) R35) (f := f') (by omega) ?_
  rcases M with ⟨h6, g6, f6, k6, nd6, m1, m2, m3, m4⟩ | ⟨e', pc, nd6, h6, g6, m1, m2, m3⟩
  · exact Or.inl ⟨h6, g6, f6, k6, nd6, m1, q3 _ m2, m3, m4⟩
  · exact Or.inr ⟨e', pc, nd6, h6, g6, m1, q3 _ m2, m3⟩
def E466 (fr : Nat) (y1 : Int32) (g : sm_H) : Option (Int32 × sm_H) := (F_418 g).bind fun q => lp F_466_25B fr (y1, q.1, q.2)
abbrev RCy (b j : Nat) : Prop := RCx b j ∨ b = 52
abbrev RRy (b j : Nat) : Prop := RRx b j ∨ b = 67 ∧ (j = 19 ∨ j = 76)
def FIN (y1 : Int32) (h g : sm_H) (rc rr : Option (Int32 × sm_H)) : Prop := ∃ v h1 g1, rc = some (v, h1) ∧ rr = some (v, g1) ∧ K1 h1 g1 ∧ (ext g g1 ∧ grow g g1) ∧ (∃ nd, DF nd h1 g1) ∧ h1.1 55 17 = g1.1 67 77 ∧ h1.1 55 18 = g1.1 67 78 ∧ h1.1 52 1 = 0 ∧ g1.1 67 76 = 0 ∧ g1.1 67 19 = y1 ∧ agr RCy h h1 ∧ agr RRy g g1
theorem FIN_e {y1 : Int32} {h0 g0 : sm_H} {rc rr : Option (Int32 × sm_H)} (R : RT h0 g0 h g) (D : DF nd h g) (e7 : h.1 55 17 = g.1 67 77) (e8 : h.1 55 18 = g.1 67 78) (hc : rc = F_167_150 h) (hr : rr = F_466_59 y1 g) : FIN y1 h0 g0 rc rr := by
  have K : K1 (sm_wI h 52 1 0) (sm_wI (sm_wI g 67 19 y1) 67 76 0) := by
    obtain ⟨wK, cK, wT, cT, wH, cH, wM, cM, cG, cO, cV, wX, cX, cXh, wF⟩ := K1_19 R.1 y1
    exact ⟨wK, cK, wT, cT, wH, cH, wM, cM, cG, cO, cV, wX, cX, cXh_fr (by repeat first | exact hi_rfl | refine hi_wI ?_ (by decide) | refine hi_wJ ?_ (by decide)) cXh, wF⟩
  refine ⟨h.1 55 17, sm_wI h 52 1 0, sm_wI (sm_wI g 67 19 y1) 67 76 0, hc.trans rfl, ?_, K, ⟨ext_trans R.2.1 (ext_trans (ext_19 g y1) (by
    obtain ⟨c1, c2, c3, c4, c5, c6, c7, c8, c9, c10, c11⟩ := ext_rfl (g := sm_wI g 67 19 y1)
    exact ⟨c1, c2, c3, c4, c5, c6, c7, c8, c9, c10, c11⟩)), grow_trans R.2.2.1 (grow_trans (grow_19 g y1) (by
    obtain ⟨d1, d2, d3, d4, d5⟩ := grow_rfl (g := sm_wI g 67 19 y1)
    exact ⟨d1, d2, d3, d4, d5⟩))⟩, ⟨nd, D⟩, e7, e8, rfl, rfl, rfl, agr_wI (agr_mono (fun b j z => Or.inl z) R.2.2.2.1) (Or.inr rfl), agr_wI (agr_wI (agr_mono (fun b j z => Or.inl z) R.2.2.2.2) (Or.inr ⟨rfl, Or.inl rfl⟩)) (Or.inr ⟨rfl, Or.inr rfl⟩)⟩
  rw [hr, e7]; rfl
theorem readN (y1 : Int32) : ∀ (r fu fr f i k nd : Nat) (h g h0 g0 : sm_H), n - f < r → r + 1 < fu → r + 1 < fr → TU n bt k h g → h.1 55 16 = I3 0 → DF nd h g → CB n bt f h → RB n bt f g → i ≤ f → RT h0 g0 h g → FIN y1 h0 g0 (lp F_167_29B fu (I3 i, h)) (E466 fr y1 g) := by
  intro r
  induction r with
  | zero =>
    intro fu fr f i k nd h g h0 g0 hn
    omega
  | succ r ih =>
    intro fu fr f i k nd h g h0 g0 hn hf hr s e16 D c rb ifn R
    have fn := RB_n rb
    have n3 := s.xr.2.1
    have w6 := wrd_6 n bt f
    obtain ⟨h1, c1, c2, c3, c4⟩ := step_C s c
    obtain ⟨g1, d1, d2, d3, d4, d5⟩ := look_R c3 rb
    have Xg : XT 0 0 h g h g1 := XT_y s.K agr_rfl (SLx_Srl d2)
    have X1 : XT 0 0 h g h1 g1 := XT_y s.K (S52_Scl c4) (SLx_Srl d2)
    have FF : ∀ {fu' : Nat} {u : sm_H} {a : Nat}, 0 < fu' → ¬ u.1 55 17 = 0 → lp F_167_29B fu' (I3 a, u) = F_167_150 u := fun {fu' u a} h1 h2 => by
      refine lp_e (by omega) ?_
      unfold F_167_29B
      show (if 3000 ≤ I3 a then _ else if u.1 55 17 = 0 then _ else _) = _
      by_cases q : 3000 ≤ I3 a
      · rw [if_pos q]; rfl
      · rw [if_neg q, if_neg h2]; rfl
    have G0 : ∀ {fr' : Nat} {u : sm_H}, 0 < fr' → lp F_466_25B fr' (y1, 0, u) = F_466_59 y1 u := fun {fr' u} h1 => by
      refine lp_e (by omega) ?_
      unfold F_466_25B
      show (if (0 : Int32) = 0 then _ else _) = _
      rw [if_pos rfl]; rfl
    have R0 : E466 fr y1 g = E466 fr y1 g := rfl
    conv at R0 => rhs; unfold E466
    have GE : wrd n bt f = 0 → E466 fr y1 g = F_466_59 y1 g1 := fun z => by
      rw [if_neg (by omega)] at d5
      rw [R0, d5.1]
      refine lp_e (by omega) ?_
      unfold F_466_25B
      show (if (1 : Int32) = 0 then _ else if g1.1 67 80 = 0 then _ else _) = _
      rw [if_neg (by decide), if_pos (show g1.1 67 80 = 0 from d5.2.2.2.1.trans (by rw [z]; rfl))]; rfl
    by_cases i3 : i = 3000
    · have z : wrd n bt f = 0 := by
        unfold wrd
        rw [if_pos (by omega)]
      refine FIN_e (RT_trans R (RT_XT Xg)) (DF_T s.K D Xg) (d1.nf.2.1.symm ▸ s.nf.1) (d1.nf.2.2.2.symm ▸ s.nf.2.2.1) (lp_e (by omega) ?_) (GE z)
      unfold F_167_29B
      show (if 3000 ≤ I3 i then _ else _) = _
      rw [if_pos (by rw [i3]; decide)]; rfl
    have C0 : F_167_29B (I3 i, h) = (F_171 h).bind fun q9 => if q9.1 = 0 then ((F_167_150 q9.2).map fun r => (.inr r)) else ((F_243 q9.2).bind fun q10 => (F_177 q10.2).bind fun q11 => if q11.1 = 0 then (F_167_74 (I3 i) q10.1 (-1) q11.2) else ((F_176 1 q11.2).bind fun q12 => F_167_74 (I3 i) q10.1 q12.1 q12.2)) := by
      unfold F_167_29B
      show (if 3000 ≤ I3 i then _ else if h.1 55 17 = 0 then _ else _) = _
      rw [if_neg (by rw [I3_lit, I3_le (by decide) (by omega)]; omega), if_pos s.nf.1]
    by_cases w : wrd n bt f = 6
    · obtain ⟨h2, g2, b1, b2', b3, b4, b5⟩ := badWord c3 c2 rb w
      rw [C_171b c1 w b1] at C0; simp only [obs] at C0
      rw [if_neg (by decide), show F_243 h2 = some (h2.1 52 5, h2) from rfl] at C0; simp only [obs] at C0
      have C1 : F_177 h2 = some (0, h2) := by
        show F_177_0 h2 = _
        unfold F_177_0
        rw [show F_242 h2 = some (h2.1 52 4, h2) from rfl, b5.1 52 4 (by omega), c2.2.1, w]; simp only [obs]
        rw [if_neg (by decide), C_170f b3]; rfl
      rw [C1] at C0; simp only [obs] at C0
      rw [if_pos trivial, D74, show I3 i + 1 = I3 (i + 1) from I3_add i 1] at C0
      have X2 : XT 0 0 h g h2 g2 := XT_trans (XT_y s.K (S52_Scl c4) agr_rfl) b4
      refine FIN_e (RT_trans R (RT_XT X2)) (DF_T s.K D X2) (b3.1.trans b3.2.2.1.symm) (b3.2.1.trans b3.2.2.2.1.symm) ?_ ?_
      · rw [lp_s (by omega) C0]; exact FF (by omega) (FT_nz b3)
      · rw [R0, b2']; exact G0 (by omega)
    rw [C_171 c1 w] at C0; simp only [obs] at C0
    by_cases w0 : wrd n bt f = 0
    · rw [if_pos (by rw [w0]; rfl)] at C0
      exact FIN_e (RT_trans R (RT_XT X1)) (DF_T s.K D X1) (c3.nf.1.trans d1.nf.2.1.symm) (c3.nf.2.2.1.trans d1.nf.2.2.2.symm) (lp_e (by omega) C0) (GE w0)
    rw [if_neg w] at d5
    obtain ⟨d5, lr⟩ := d5
    rw [if_neg (show ¬ I3 (wrd n bt f) = (0 : Int32) by rw [I3_lit, I3_inj (by omega) (by decide)]; exact w0), show F_243 h1 = some (h1.1 52 5, h1) from rfl, c2.1] at C0; simp only [obs] at C0
    rw [d5] at R0; simp only [obs] at R0
    have D1 := DF_T s.K D X1
    have dd := defX (i := i) d1 ((c4.1 55 16 (by unfold S52; omega)).trans e16) D1 c2 lr fn w0 w
    have B1 : ∀ v u, F_465 g1 = some (v, u) → F_466_25B (y1, 1, g1) = if v = 0 then F_466_54 y1 u else ((F_418 u).bind fun q4 => if q4.1 = 0 then (F_466_54 y1 q4.2) else (F_466_55 y1 1 q4.2)) := fun v u hv => by
      unfold F_466_25B
      show (if (1 : Int32) = 0 then _ else if g1.1 67 80 = 0 then _ else _) = _
      rw [if_neg (by decide), if_neg (show ¬ g1.1 67 80 = 0 by
        rw [lr.2.2.1, show (0 : Int32) = I3 (rwd 0) from rfl, I3_inj (by have := rwd_5 (x := wrd n bt f) (by omega); omega) (by decide)]
        exact fun y => w0 (rwd_inj (by omega) (by omega) y))]
      simp only []
      rw [hv]; simp only [obs]
    rcases dd with ⟨h2, g2, f', k', nd', m1, m2, m3, m4, m5, m6, m7, m8, m9⟩ | ⟨e', pc, nd', h2, g2, m1, m2, m3, m4, m5⟩
    · rw [C0.trans m1 |> lp_s (by omega)]
      have Z := B1 _ _ m2
      rw [if_neg (by decide)] at Z
      have EE : E466 fr y1 g = E466 (fr - 1) y1 g2 := by
        rw [R0]
        unfold E466
        obtain ⟨g3, e1, e2, e3, e4, e5⟩ := look_R m4 m8
        by_cases v : wrd n bt f' = 6
        · rw [if_pos v] at e5
          obtain ⟨g4, u1, -⟩ := fail_R (g := g3) (f := f') e1.nf.2.1 (I3 (wtr n bt f')) rfl
          rw [e5, u1] at Z ⊢
          simp only [obs] at Z ⊢
          rw [if_pos trivial] at Z
          exact lp_s (by omega) Z
        · rw [if_neg v] at e5
          rw [e5.1] at Z ⊢
          simp only [obs] at Z ⊢
          rw [if_neg (by decide)] at Z
          exact lp_s (by omega) Z
      rw [EE]
      have fn' := RB_n m8
      exact ih (fu - 1) (fr - 1) f' (i + 1) k' nd' h2 g2 h0 g0 (by omega) (by omega) (by omega) m4 m5 m6 m7 m8 (by omega) (RT_trans R (RT_trans (RT_XT X1) m9))
    · have Z := B1 _ _ m2
      rw [if_pos rfl] at Z
      refine FIN_e (RT_trans R (RT_trans (RT_XT X1) m5)) m4 (m3.1.trans m3.2.2.1.symm) (m3.2.1.trans m3.2.2.2.1.symm) ?_ ?_
      · rw [C0.trans m1 |> lp_s (by omega)]; exact FF (by omega) (FT_nz m3)
      · rw [R0, lp_s (by omega) Z]; exact G0 (by omega)
end
