def dw (ps : Nat → Int64) (np : Nat) (x : Int64) : Nat := fst1 (fun i => decide (ps i = x)) np
abbrev XRq (nd b j : Nat) : Prop := XRc 0 b j ∨ (b = 115 ∧ j = nd) ∨ (b = 116 ∧ 6 * nd ≤ j)
def PQ (nd : Nat) (h g h1 g1 : sm_H) : Prop := K1 h1 g1 ∧ ext g g1 ∧ grow g g1 ∧ agr (XCc 0) h h1 ∧ agr (XRq nd) g g1
def PS (nd np : Nat) (ps : Nat → Int64) (ks : Nat → Int32) (h g : sm_H) : Prop := np ≤ 6 ∧ h.1 55 9 = I3 np ∧ g.1 115 nd = I3 np ∧ (∀ q, q < np → h.2.1 58 q = ps q ∧ h.1 59 q = ks q ∧ g.2.1 117 (390 + q) = ps q ∧ g.1 116 (6 * nd + q) = ks q ∧ ∃ i, ks q = I3 i ∧ 0 < i ∧ i < 20 + nC g)
section
variable {n : Nat} {bt : Nat → Nat} {nd o T j k m p f f0 np : Nat} {ps : Nat → Int64} {ks : Nat → Int32} {h g h1 g1 h2 g2 : sm_H}
theorem PQ_trans (a : PQ nd h g h1 g1) (b : PQ nd h1 g1 h2 g2) : PQ nd h g h2 g2 := ⟨b.1, ext_trans a.2.1 b.2.1, grow_trans a.2.2.1 b.2.2.1, agr_trans a.2.2.2.1 b.2.2.2.1, agr_trans a.2.2.2.2 b.2.2.2.2⟩
theorem PQ_XT (x : XT T k h g h1 g1) : PQ nd h g h1 g1 := ⟨x.k1, x.e, x.r, agr_mono (XCc_s (Nat.zero_le _)) x.c, agr_mono (fun b j z => Or.inl (XRc_s (Nat.zero_le _) b j z)) x.a⟩
theorem RT_PQ (x : PQ nd h g h1 g1) : RT h g h1 g1 := ⟨x.1, x.2.1, x.2.2.1, agr_mono (fun b j z => Or.inl z) x.2.2.2.1, agr_mono (fun b j z => by
  rcases z with z | z | z
  · exact Or.inl z
  · exact Or.inr (Or.inr (Or.inr (Or.inl (by omega))))
  · exact Or.inr (Or.inr (Or.inr (Or.inl (by omega))))) x.2.2.2.2⟩
theorem DF_p (K : K1 h g) (D : DF nd h g) (x : PQ nd h g h1 g1) : DF nd h1 g1 := by
  obtain ⟨s1, s2, s3, s4⟩ := D
  have qn : ∀ b j, XRq nd b j → ¬ (b = 67 ∧ j = 91 ∨ b = 113 ∨ b = 114 ∨ b = 115 ∧ j < nd ∨ b = 116 ∧ j < 6 * nd) := fun b j z => by unfold XRq XRc SRa SRq SRb SRp SRh SRt Ssr SLx at z; omega
  have a := x.2.2.2.1
  have b := x.2.2.2.2
  refine ⟨(a.1 55 15 (fun z => XCc_df _ _ z (by omega))).trans s1, (b.1 67 91 (fun z => qn _ _ z (by omega))).trans s2, s3, fun d hd => ?_⟩
  obtain ⟨t1, t2, y, x1, x2, x3, x4, x5⟩ := s4 d hd
  have hx := ext_hpl K.2.2.2.2.1 x.2.1 x1
  rw [a.2.1 62 d (fun z => XCc_df _ _ z (by omega)), a.1 63 d (fun z => XCc_df _ _ z (by omega)), b.2.1 113 d (fun z => qn _ _ z (by omega)), b.1 114 d (fun z => qn _ _ z (by omega)), b.1 115 d (fun z => qn _ _ z (by omega))]
  refine ⟨t1, t2, y, Nat.lt_of_lt_of_le x1 x.2.2.1.2.2.1, x2, by rw [hx]; exact x3, by rw [hx]; exact x4, fun i hi => ?_⟩
  rw [hx] at hi ⊢
  rw [b.1 116 _ (fun z => qn _ _ z (by omega))]; exact x5 i hi
theorem C_181s (e9 : h.1 55 9 = I3 np) (l : np ≤ 13) (h58 : ∀ q, q < np → h.2.1 58 q = ps q) (x : Int64) : F_181 x h = some (if dw ps np x < np then I3 (dw ps np x) else -1, h) := by
  have L := lp_fst (body := F_181_2B) (fun i => decide (ps i = x)) np (fun k => (x, I3 k, h)) (fun k => (I3 k, h)) (-1, h) (f := 1000000) (by omega) (fun i hi e => ?_) (fun i hi e => ?_) ?_
  · refine Eq.trans (show F_181 x h = lp F_181_2B 1000000 (x, I3 0, h) from rfl) (L.trans ?_)
    unfold dw
    split <;> rfl
  · show F_181_2B (x, I3 i, h) = _
    unfold F_181_2B
    simp only []
    rw [e9, if_neg (by rw [I3_le (by omega) (by omega)]; omega), if_neg (by rw [I3_lit, I3_le (by decide) (by omega)]; omega), ldJ_I (by omega) (by decide), h58 i hi]; simp only [obs]
    rw [if_neg (fun z => (of_decide_eq_false e) (cmp_eq.mp z)), show I3 i + 1 = I3 (i + 1) from I3_add i 1]
  · show F_181_2B (x, I3 i, h) = _
    unfold F_181_2B
    simp only []
    rw [e9, if_neg (by rw [I3_le (by omega) (by omega)]; omega), if_neg (by rw [I3_lit, I3_le (by decide) (by omega)]; omega), ldJ_I (by omega) (by decide), h58 i hi]; simp only [obs]
    rw [if_pos (cmp_eq.mpr (of_decide_eq_true e))]
  · show F_181_2B (x, I3 np, h) = _
    unfold F_181_2B F_181_35
    simp only []
    rw [e9, if_pos (by rw [I3_le (by omega) (by omega)]; omega)]; rfl
theorem dw_iff (x : Int64) : dw ps np x < np ↔ ∃ q, q < np ∧ ps q = x := by
  have sp := fst1_spec (fun i => decide (ps i = x)) np
  constructor
  · intro z
    exact ⟨dw ps np x, z, of_decide_eq_true (sp.2.2 z)⟩
  · rintro ⟨q, q1, q2⟩
    apply Classical.byContradiction
    intro z
    have := sp.2.1 q (by show q < dw ps np x; omega)
    exact absurd q2 (of_decide_eq_false this)
theorem C_172 {x : Nat} (hx : x ≤ 5) {h1 : sm_H} (c1 : F_249 h = some (I3 (wrd n bt f), h1)) (c2 : LXC n bt f h1) (nf : h1.1 55 17 = 0) : (wrd n bt f = x → F_172 (I3 x) h = some (1, h1)) ∧ (wrd n bt f ≠ x → ∃ h2, F_172 (I3 x) h = some (0, h2) ∧ F_169 (I3 (er n bt f)) (I3 f) h1 = some (-1, h2)) := by
  have w6 := wrd_6 n bt f
  have C1 : F_172 (I3 x) h = F_172_0 (I3 x) h := rfl
  unfold F_172_0 F_172_31 F_172_35 F_172_47 at C1
  rw [c1] at C1; simp only [obs] at C1
  constructor
  · intro w
    rw [if_pos (by rw [w]), if_pos nf, if_pos (by decide)] at C1
    exact C1
  · intro w
    obtain ⟨h2, f1, f2, f3, f4⟩ := fail_C (h := h1) (f := f) nf (I3 (er n bt f)) rfl
    refine ⟨h2, ?_, f1⟩
    have e9 := er_9 n bt f
    have z35 : (if h2.1 55 17 = 0 then (if (1 : Int32) = 0 ∨ (1 : Int32) = 1 then some ((1 : Int32), h2) else none) else (if (0 : Int32) = 0 ∨ (0 : Int32) = 1 then some (0, h2) else none)) = some (0, h2) := by
      rw [if_neg, if_pos (Or.inl rfl)]
      rw [f2, I3_lit, I3_inj (by omega) (by decide)]; omega
    rw [if_neg (by rw [I3_inj (by omega) (by omega)]; exact w)] at C1
    unfold er at f1
    by_cases v : wrd n bt f = 6
    · rw [if_pos v] at f1
      rw [if_pos (by rw [v]; rfl), show F_244 h1 = some (h1.1 52 6, h1) from rfl, c2.2.2.1 v] at C1; simp only [obs] at C1
      rw [C_170 c2, f1] at C1; simp only [obs] at C1
      rw [C1]; exact z35
    · rw [if_neg v] at f1
      rw [if_neg (by rw [I3_lit, I3_inj (by omega) (by decide)]; exact v), C_170 c2, show F_169 4 (I3 f) h1 = some (-1, h2) from f1] at C1; simp only [obs] at C1
      rw [C1]; exact z35
def endS (nd : Nat) (g : sm_H) : Option ((Int32 × sm_H) ⊕ (Int32 × sm_H)) := (ldI g 115 60 (I3 nd)).bind fun v3 =>
  (stJ g 117 400 (390 + v3) (g.2.1 67 83)).bind fun h4 =>
  (F_420 h4).bind fun q5 =>
  (F_424 0 q5).bind fun q6 =>
  if q6.1 = 0 then some (.inr (0, q6.2))
  else ((F_427 q6.2).bind fun q7 =>
  if q7.1 = 0 then some (.inr (0, q7.2))
  else ((ldI q7.2 115 60 (I3 nd)).bind fun v8 =>
  (stI q7.2 116 360 ((6 * (I3 nd)) + v8) (q7.2.1 67 105)).bind fun h9 =>
  (ldI h9 115 60 (I3 nd)).bind fun v10 =>
  (stI h9 115 60 (I3 nd) (v10 + 1)).bind fun h11 =>
  (F_418 h11).bind fun q12 =>
  if q12.1 = 0 then some (.inr (0, q12.2))
  else some (.inl (I3 nd, q12.2))))
def endB (g : sm_H) : Option ((Int32 × sm_H) ⊕ (Int32 × sm_H)) := (F_413 6 (g.1 67 81) g).bind fun q13 => if q13.1 = 0 ∨ q13.1 = 1 then some (.inr (q13.1, q13.2)) else none
theorem map_some {α β : Type} {x : Option α} {f : α → β} {y : α} (h : x = some y) : x.map f = some (f y) := by rw [h]; rfl
theorem bind_mapX {α β γ : Type} (x : Option α) (f : α → Option β) (u : β → γ) : (x.bind f).map u = x.bind fun a => (f a).map u := by cases x <;> rfl
theorem ite_mapX {β γ : Type} {c : Prop} [Decidable c] (a b : Option β) (u : β → γ) : (if c then a else b).map u = if c then a.map u else b.map u := by
  by_cases h : c
  · rw [if_pos h, if_pos h]
  · rw [if_neg h, if_neg h]
theorem R_94e (nd60 : nd < 60) (n6 : np ≤ 6) (e115 : g.1 115 nd = I3 np) {r : (Int32 × sm_H) ⊕ (Int32 × sm_H)} (b : Bool) (fu : Nat) (hf : 0 < fu) (hb : (if b = true then endB g else endS nd g) = some r) : lp F_464_94B fu (I3 nd, b2 b, I3 np, g) = some r := by
  have l115 : ldI g 115 60 (I3 nd) = some (I3 np) := by rw [ldI_I nd60 (by decide), e115]
  have B : F_464_94B (I3 nd, b2 b, I3 np, g) = (if b = true then endB g else endS nd g).map .inr := by
    unfold F_464_94B
    simp only []
    rw [l115]
    simp only [Option.bind_some]
    rw [if_pos (by rw [I3_le (by omega) (by omega)]; omega)]
    cases b with
    | true =>
      rw [if_neg (show ¬ b2 true = 0 by decide), if_pos rfl]
      unfold endB
      rw [bind_mapX]
      refine congrArg _ (funext fun q => ?_)
      rw [ite_mapX]
      rfl
    | false =>
      rw [if_pos (show b2 false = 0 by decide), if_neg (show ¬ false = true by decide)]
      unfold endS F_464_191
      simp only [bind_mapX, ite_mapX, Option.map_some]
      rw [l115]
      simp only [Option.bind_some]
  rw [hb] at B
  exact lp_e (by omega) B
theorem R_94 (nd60 : nd < 60) (n6 : np ≤ 6) (e115 : g.1 115 nd = I3 np) (h117 : ∀ q, q < np → g.2.1 117 (390 + q) = ps q) {x : Int64} (ex : g.2.1 67 83 = x) (fl : Bool) {r : (Int32 × sm_H) ⊕ (Int32 × sm_H)} (hr : (if fl = true ∨ dw ps np x < np then endB g else endS nd g) = some r) : F_464_94 (I3 nd) (b2 fl) 0 g = some r := by
  have l115 : ldI g 115 60 (I3 nd) = some (I3 np) := by rw [ldI_I nd60 (by decide), e115]
  have END : ∀ b fu, 0 < fu → (if b = true then endB g else endS nd g) = some r → lp F_464_94B fu (I3 nd, b2 b, I3 np, g) = some r := fun b fu hf hb => R_94e nd60 n6 e115 b fu hf hb
  have LP : ∀ c q b fu, q + c = np → c < fu → (b = true ↔ fl = true ∨ ∃ q', q' < q ∧ ps q' = x) → lp F_464_94B fu (I3 nd, b2 b, I3 q, g) = some r := by
    intro c
    induction c with
    | zero =>
      intro q b fu hq hf hb
      have e : q = np := by omega
      subst e
      refine END b fu (by omega) ?_
      rw [← hr]
      by_cases w : b = true
      · rw [if_pos w, if_pos]
        rcases hb.mp w with z | z
        · exact Or.inl z
        · exact Or.inr ((dw_iff x).mpr z)
      · rw [if_neg w, if_neg]
        rintro (z | z)
        · exact w (hb.mpr (Or.inl z))
        · exact w (hb.mpr (Or.inr ((dw_iff x).mp z)))
    | succ c ih =>
      intro q b fu hq hf hb
      have B : F_464_94B (I3 nd, b2 b, I3 q, g) = some (.inl (I3 nd, b2 (b || decide (ps q = x)), I3 (q + 1), g)) := by
        unfold F_464_94B F_464_126 F_464_131
        simp only []
        rw [l115]; simp only [obs]
        rw [if_neg (by rw [I3_le (by omega) (by omega)]; omega), show I3 q + 1 = I3 (q + 1) from I3_add q 1]
        cases b with
        | true =>
          rw [if_neg (by decide)]; rfl
        | false =>
          rw [if_pos (by decide), show (390 : Int32) + I3 q = I3 (390 + q) by rw [I3_lit, I3_add], ldJ_I (by omega) (by decide), h117 q (by omega)]; simp only [obs]
          rw [ex]
          by_cases z : ps q = x
          · rw [if_pos (cmp_eq.mpr z), decide_eq_true z]; rfl
          · rw [if_neg (fun y => z (cmp_eq.mp y)), decide_eq_false z]; rfl
      rw [lp_s (by omega) B]
      refine ih (q + 1) _ (fu - 1) (by omega) (by omega) ?_
      rw [Bool.or_eq_true, decide_eq_true_iff, hb]
      constructor
      · rintro ((z | ⟨q', z1, z2⟩) | z)
        · exact Or.inl z
        · exact Or.inr ⟨q', by omega, z2⟩
        · exact Or.inr ⟨q, by omega, z⟩
      · rintro (z | ⟨q', z1, z2⟩)
        · exact Or.inl (Or.inl z)
        · by_cases y : q' = q
          · subst y; exact Or.inr z2
          · exact Or.inl (Or.inr ⟨q', by omega, z2⟩)
  exact LP np 0 fl 1000000 (by omega) (by omega) ⟨fun z => Or.inl z, fun z => by
    rcases z with z | ⟨q', z1, -⟩
    · exact z
    · omega⟩
end
section
variable {n : Nat} {bt : Nat → Nat} {nd o T j k m p f f0 np : Nat} {ps : Nat → Int64} {ks : Nat → Int32} {h g h1 g1 h2 g2 : sm_H}
theorem K1_115 (K : K1 h g) (i : Nat) (x : Int32) : K1 h (sm_wI g 115 i x) ∧ ext g (sm_wI g 115 i x) ∧ grow g (sm_wI g 115 i x) := by
  obtain ⟨wK, cK, wT, cT, wH, cH, wM, cM, cG, cO, cV, wX, cX, cXh, wF⟩ := K
  obtain ⟨c1, c2, c3, c4, c5, c6, c7, c8, c9, c10, c11⟩ := ext_rfl (g := g)
  obtain ⟨d1, d2, d3, d4, d5⟩ := grow_rfl (g := g)
  exact ⟨⟨wK, cK, wT, cT, wH, cH, wM, cM, cG, cO, cV, wX, cX, cXh, wF⟩, ⟨c1, c2, c3, c4, c5, c6, c7, c8, c9, c10, c11⟩, ⟨d1, d2, d3, d4, d5⟩⟩
theorem K1_116 (K : K1 h g) (i : Nat) (x : Int32) : K1 h (sm_wI g 116 i x) ∧ ext g (sm_wI g 116 i x) ∧ grow g (sm_wI g 116 i x) := by
  obtain ⟨wK, cK, wT, cT, wH, cH, wM, cM, cG, cO, cV, wX, cX, cXh, wF⟩ := K
  obtain ⟨c1, c2, c3, c4, c5, c6, c7, c8, c9, c10, c11⟩ := ext_rfl (g := g)
  obtain ⟨d1, d2, d3, d4, d5⟩ := grow_rfl (g := g)
  exact ⟨⟨wK, cK, wT, cT, wH, cH, wM, cM, cG, cO, cV, wX, cX, cXh, wF⟩, ⟨c1, c2, c3, c4, c5, c6, c7, c8, c9, c10, c11⟩, ⟨d1, d2, d3, d4, d5⟩⟩
theorem PS_y {P Q : Nat → Nat → Prop} (s : PS nd np ps ks h g) (a : agr P h h1) (b : agr Q g g1) (p : ∀ b j, P b j → ¬ (b = 55 ∧ j = 9 ∨ b = 58 ∨ b = 59)) (q : ∀ b j, Q b j → ¬ (b = 115 ∧ j = nd ∨ b = 117 ∧ j < 390 + np ∨ b = 116 ∧ j < 6 * nd + np ∨ b = 67 ∧ j = 6)) : PS nd np ps ks h1 g1 := by
  obtain ⟨s1, s2, s3, s4⟩ := s
  have nc : nC g1 = nC g := by show tn _ = tn _; rw [b.1 67 6 (fun z => q _ _ z (by omega))]
  refine ⟨s1, (a.1 55 9 (fun z => p _ _ z (by omega))).trans s2, (b.1 115 nd (fun z => q _ _ z (by omega))).trans s3, fun i hi => ?_⟩
  obtain ⟨t1, t2, t3, t4, t5⟩ := s4 i hi
  exact ⟨(a.2.1 58 i (fun z => p _ _ z (by omega))).trans t1, (a.1 59 i (fun z => p _ _ z (by omega))).trans t2, (b.2.1 117 _ (fun z => q _ _ z (by omega))).trans t3, (b.1 116 _ (fun z => q _ _ z (by omega))).trans t4, by rw [nc]; exact t5⟩
theorem Scl_p (b j : Nat) (z : Scl b j) : ¬ (b = 55 ∧ j = 9 ∨ b = 58 ∨ b = 59) := by unfold Scl S52 at z; omega
theorem Srl_p (b j : Nat) (z : Srl b j) : ¬ (b = 115 ∧ j = nd ∨ b = 117 ∧ j < 390 + np ∨ b = 116 ∧ j < 6 * nd + np ∨ b = 67 ∧ j = 6) := by unfold Srl SLx at z; omega
def E464 (nd fu : Nat) (g : sm_H) : Option (Int32 × sm_H) := (F_418 g).bind fun q24 => if q24.1 = 0 then some (0, q24.2) else lp F_464_25B fu (I3 nd, q24.2)
theorem parN (nd60 : nd < 60) : ∀ r np, np + r = 6 → ∀ (fc fu f : Nat) (ps : Nat → Int64) (ks : Nat → Int32) (h g : sm_H), r + 1 < fc → r + 1 < fu → TU n bt k h g → OP 2 h g → CB n bt f h → RB n bt f g → PS nd np ps ks h g →
    (∃ h1 g1 f' np' ps' ks', lp F_178_16B fc (I3 np, h) = some (1, h1) ∧ E464 nd fu g = some (1, g1) ∧ f < f' ∧ TU n bt k h1 g1 ∧ OP 1 h1 g1 ∧ CB n bt f' h1 ∧ RB n bt f' g1 ∧ PS nd np' ps' ks' h1 g1 ∧ PQ nd h g h1 g1) ∨ ∃ e pc h1 g1, lp F_178_16B fc (I3 np, h) = some (0, h1) ∧ E464 nd fu g = some (0, g1) ∧ FT e pc h1 g1 ∧ PQ nd h g h1 g1 := by
  intro r
  induction r with
  | zero =>
    intro np hnp fc fu f ps ks h g hc hf s o c rb P
    have n6 := P.1
    have fn := RB_n rb
    have w6 := wrd_6 n bt f
    obtain ⟨h1, c1, c2, c3, c4⟩ := step_C s c
    obtain ⟨g1, d1, d2, d3, d4, d5⟩ := look_R c3 rb
    have X1 : ∀ T' k', XT T' k' h g h1 g1 := fun T' k' => XT_y s.K (S52_Scl c4) (SLx_Srl d2)
    have C0 : F_178_16B (I3 np, h) = (F_171 h).bind fun q4 => if q4.1 = 2 then ((some (sm_wI q4.2 55 16 ((q4.2.1 55 16) - 1))).bind fun h6 => some (.inr (1, h6))) else (if q4.1 = 1 then (F_178_55 (I3 np) q4.2) else ((F_170 4 q4.2).bind fun q5 => F_178_55 (I3 np) q5.2)) := by
      unfold F_178_16B
      show (if 6 < I3 np then _ else _) = _
      rw [if_neg (by rw [I3_lit, I3_lt (by decide) (by omega)]; omega)]
    have R0 : E464 nd fu g = E464 nd fu g := rfl
    conv at R0 => rhs; unfold E464
    by_cases w : wrd n bt f = 6
    · right
      obtain ⟨h2, g2, b1, b2', b3, b4, b5⟩ := badWord c3 c2 rb w
      rw [b2'] at R0; simp only [obs] at R0; rw [if_pos trivial] at R0
      rw [C_171b c1 w b1] at C0; simp only [obs] at C0
      rw [if_neg (by decide), if_neg (by decide), C_170f b3] at C0; simp only [obs] at C0
      unfold F_178_55 F_178_76 at C0
      rw [if_neg (FT_nz b3)] at C0
      exact ⟨_, _, h2, g2, lp_e (by omega) C0, R0, b3, PQ_XT (XT_trans (XT_y s.K (S52_Scl c4) agr_rfl) b4)⟩
    rw [if_neg w] at d5
    obtain ⟨d5, lr⟩ := d5
    rw [C_171 c1 w] at C0; simp only [obs] at C0
    rw [d5] at R0; simp only [obs] at R0; rw [if_neg (by decide)] at R0
    have R1 : F_464_25B (I3 nd, g1) = F_464_25B (I3 nd, g1) := rfl
    conv at R1 => rhs; unfold F_464_25B
    simp only [] at R1
    rw [lr.2.2.1] at R1
    have nr : ∀ x : Nat, x < 6 → wrd n bt f ≠ x → ¬ I3 (rwd (wrd n bt f)) = I3 (rwd x) := fun x hx z => by
      rw [I3_inj (by have := rwd_5 (x := wrd n bt f) (by omega); omega) (by have := rwd_5 (x := x) (by omega); omega)]
      exact fun y => z (rwd_inj (by omega) (by omega) y)
    have nw : ∀ x : Nat, x < 6 → wrd n bt f ≠ x → ¬ I3 (wrd n bt f) = I3 x := fun x hx z => by rw [I3_inj (by omega) (by omega)]; exact z
    have p1 : OP 2 h1 g1 := OP_x o c4 d2 (by unfold S52; omega) (by unfold SLx; omega)
    by_cases w2 : wrd n bt f = 2
    · left
      rw [if_pos (by rw [w2]; rfl), p1.1, show I3 2 - 1 = I3 1 from I3_s1 1] at C0
      obtain ⟨g2, t1, t2, t3, t4⟩ := take_R d1 fn lr
      rw [if_pos (by rw [w2]; rfl), t1] at R1; simp only [obs] at R1
      rw [show g2.1 67 86 = I3 2 from (t4.1 67 86 (by omega)).trans p1.2.1, show I3 2 - 1 = I3 1 from I3_s1 1] at R1
      have a2 : agr Scl h1 (sm_wI h1 55 16 (I3 1)) := agr_wI agr_rfl (Or.inr ⟨rfl, rfl⟩)
      have b2' : agr Srl g1 (sm_wI g2 67 86 (I3 1)) := agr_wI (agr_mono (fun b j z => Or.inl ⟨z.1, by omega, by omega⟩) t4) (Or.inr ⟨rfl, Or.inl rfl⟩)
      obtain ⟨s2, X2⟩ := TS_y (T' := 0) (k' := 0) d1 a2 b2'
      exact ⟨_, _, nx n bt f, np, ps, ks, lp_e (by omega) C0, by rw [R0]; exact lp_e (by omega) R1, nx_gt fn (by omega) w, s2, ⟨rfl, rfl, by decide⟩, CB_nx (h := h1) fn c2 w, t2, PS_y P (agr_trans (S52_Scl c4) a2) (agr_trans (SLx_Srl d2) b2') Scl_p Srl_p, PQ_XT (XT_trans (X1 0 0) X2)⟩
    rw [if_neg (show ¬ I3 (wrd n bt f) = (2 : Int32) from nw 2 (by decide) w2)] at C0
    rw [if_neg (show ¬ I3 (rwd (wrd n bt f)) = (4 : Int32) from nr 2 (by decide) w2)] at R1
    by_cases w1 : wrd n bt f = 1
    rotate_left
    · right
      obtain ⟨h2, g2, f1, f2, f3, f4⟩ := XT_fail d1 (T' := 0) (k' := 0) (e := 4) (f := f) (by decide) (by decide)
      rw [if_neg (show ¬ I3 (wrd n bt f) = (1 : Int32) from nw 1 (by decide) w1), C_170 c2, show F_169 4 (I3 f) h1 = some (-1, h2) from f1] at C0; simp only [obs] at C0
      unfold F_178_55 F_178_76 at C0
      rw [if_neg (FT_nz f3)] at C0
      have q1 := f421 g1 d4
      rw [show F_413 4 (I3 f) g1 = some (0, g2) from f2] at q1
      rw [if_neg (show ¬ I3 (rwd (wrd n bt f)) = (3 : Int32) from nr 1 (by decide) w1)] at R1
      have R2 : F_464_25B (I3 nd, g1) = some (.inr (0, g2)) := by
        rw [R1]
        cases hq : F_421 g1 with
        | none => rw [hq] at q1; cases q1
        | some q =>
          rw [hq] at q1
          simp only [Option.bind_some] at q1 ⊢
          by_cases z : q.1 = 0 ∨ q.1 = 1
          · rw [if_pos z] at q1 ⊢
            injection q1 with q1
            rw [q1]
          · rw [if_neg z] at q1; cases q1
      exact ⟨4, f, h2, g2, lp_e (by omega) C0, by rw [R0]; exact lp_e (by omega) R2, f3, PQ_XT (XT_trans (X1 0 0) f4)⟩
    rw [if_pos (by rw [w1]; rfl)] at C0
    rw [if_pos (by rw [w1]; rfl)] at R1
    unfold F_178_55 F_178_76 at C0
    unfold F_464_60 at R1
    rw [if_pos c3.nf.1] at C0
    rcases openS d1 p1 fn c2 lr w1 with ⟨h2, g2, -, a1, a2, a3, a4, a5, a6, a7, a8, a9, a10⟩ | ⟨e', h2, g2, a1, a2, a3, a4⟩
    rotate_left
    · right
      rw [a1] at C0; simp only [obs] at C0; rw [if_pos trivial] at C0
      rw [a2] at R1; simp only [obs] at R1; rw [if_pos trivial] at R1
      exact ⟨e', _, h2, g2, lp_e (by omega) C0, by rw [R0]; exact lp_e (by omega) R1, a3, PQ_XT (XT_trans (X1 0 0) (XT_mono (Nat.zero_le _) (Nat.zero_le _) a4))⟩
    rw [a1] at C0; simp only [obs] at C0; rw [if_neg (by decide)] at C0
    rw [a2] at R1; simp only [obs] at R1; rw [if_neg (by decide)] at R1
    have C1 : F_179 h2 = F_179_0 h2 := rfl
    unfold F_179_0 F_179_36 F_179_63 at C1
    have fn1 := RB_n a6
    have w6' := wrd_6 n bt (nx n bt f)
    obtain ⟨h3, k1, k2, k3, k4⟩ := step_C a3 a5
    obtain ⟨g3, l1, l2, l3, l4, l5⟩ := look_R k3 a6
    have CC := C_172 (x := 4) (by decide) k1 k2 k3.nf.1
    have X02 : XT 0 0 h g h2 g2 := XT_trans (X1 0 0) (XT_mono (Nat.zero_le _) (Nat.zero_le _) a8)
    have X03 : XT 0 0 h g h3 g3 := XT_trans X02 (XT_y a3.K (S52_Scl k4) (SLx_Srl l2))
    have FIN : ∀ {h4 g4 : sm_H} {e' pc : Nat}, F_179 h2 = some (0, h4) → F_464_25B (I3 nd, g1) = some (.inr (0, g4)) → FT e' pc h4 g4 → PQ nd h g h4 g4 → ∃ e pc h1 g1, lp F_178_16B fc (I3 np, h) = some (0, h1) ∧ E464 nd fu g = some (0, g1) ∧ FT e pc h1 g1 ∧ PQ nd h g h1 g1 := fun x1 x2 x3 x4 => by
      rw [x1] at C0; simp only [obs] at C0; rw [if_pos trivial] at C0
      exact ⟨_, _, _, _, lp_e (by omega) C0, by rw [R0]; exact lp_e (by omega) x2, x3, x4⟩
    by_cases w4 : wrd n bt (nx n bt f) = 4
    rotate_left
    · right
      obtain ⟨h4, m1, m2⟩ := CC.2 w4
      obtain ⟨h5, g5, f1, f2, f3, f4⟩ := XT_fail l1 (T' := 0) (k' := 0) (f := nx n bt f) (er_9 n bt (nx n bt f)).1 (er_9 n bt (nx n bt f)).2
      rw [m2] at f1
      injection f1 with f1
      have q1 : h4 = h5 := congrArg Prod.snd f1
      subst q1
      rw [show F_172 4 h2 = some (0, h4) from m1] at C1; simp only [obs] at C1; rw [if_pos trivial] at C1
      refine FIN C1 ?_ f3 (PQ_XT (XT_trans X03 f4))
      rw [R1]
      unfold er at f2
      by_cases v : wrd n bt (nx n bt f) = 6
      · rw [if_pos v] at f2 l5
        rw [l5, f2]; rfl
      · rw [if_neg v] at f2 l5
        rw [l5.1]; simp only [obs]
        rw [if_neg (by decide), if_neg (show ¬ g3.1 67 80 = 1 by
          rw [l5.2.2.2.1, show (1 : Int32) = I3 (rwd 4) from rfl, I3_inj (by have := rwd_5 (x := wrd n bt (nx n bt f)) (by omega); omega) (by decide)]
          exact fun y => w4 (rwd_inj (by omega) (by omega) y))]
        have q1 := f421 g3 l4
        rw [show F_413 4 (I3 (nx n bt f)) g3 = some (0, g5) from f2] at q1
        cases hq : F_421 g3 with
        | none => rw [hq] at q1; cases q1
        | some q =>
          rw [hq] at q1
          simp only [Option.bind_some] at q1 ⊢
          by_cases z : q.1 = 0 ∨ q.1 = 1
          · rw [if_pos z] at q1 ⊢
            injection q1 with q1
            rw [q1]
          · rw [if_neg z] at q1; cases q1
    rw [if_neg (by omega)] at l5
    obtain ⟨l5, lr3⟩ := l5
    rw [show F_172 4 h2 = some (1, h3) from CC.1 w4] at C1; simp only [obs] at C1
    rw [if_neg (by decide), show F_248 h3 = some (h3.2.1 52 10, h3) from rfl, k2.2.2.2.2.2.1 w4] at C1; simp only [obs] at C1
    have P3 : PS nd np ps ks h3 g3 := PS_y P (agr_trans (agr_trans (S52_Scl c4) (agr_mono (fun b j z => Or.inr z) a9)) (S52_Scl k4)) (agr_trans (agr_trans (SLx_Srl d2) (agr_mono (fun b j z => by
      rcases z with ⟨z1, z2 | z2⟩
      · exact Or.inr ⟨z1, Or.inl z2⟩
      · exact Or.inl ⟨z1, by omega, by omega⟩) a10)) (SLx_Srl l2)) Scl_p Srl_p
    have ex := lr3.2.2.2.2.2.1 w4
    generalize hx : foldN bt (nx n bt f) (men n bt (nx n bt f) - nx n bt f) = x at C1 ex
    rw [l5] at R1; simp only [obs] at R1
    rw [if_neg (by decide), if_pos (show g3.1 67 80 = 1 from lr3.2.2.1.trans (by rw [w4]; rfl)), ldI_I nd60 (by decide), P3.2.2.1] at R1; simp only [obs] at R1
    have R2 : F_464_25B (I3 nd, g1) = F_464_94 (I3 nd) (b2 (decide (np = 6))) 0 g3 := by
      rw [R1]
      unfold F_464_91
      by_cases z : np = 6
      · rw [if_pos (by rw [z]; rfl), decide_eq_true z]; rfl
      · rw [if_neg (by rw [I3_lit, I3_inj (by omega) (by decide)]; exact z), decide_eq_false z]; rfl
    have R3 : ∀ r, (if np = 6 ∨ dw ps np x < np then endB g3 else endS nd g3) = some r → F_464_25B (I3 nd, g1) = some r := fun r hr => by
      rw [R2]
      refine R_94 (ps := ps) nd60 n6 P3.2.2.1 (fun q hq => (P3.2.2.2 q hq).2.2.1) ex _ ?_
      by_cases z : np = 6 ∨ dw ps np x < np
      · rw [if_pos z] at hr
        rw [if_pos (by
          rcases z with z | z
          · exact Or.inl (decide_eq_true z)
          · exact Or.inr z)]
        exact hr
      · rw [if_neg z] at hr
        rw [if_neg (by
          rintro (y | y)
          · exact z (Or.inl (of_decide_eq_true y))
          · exact z (Or.inr y))]
        exact hr
    rw [P3.2.1] at C1
    by_cases bad : np = 6 ∨ dw ps np x < np
    · right
      obtain ⟨h4, g4, f1, f2, f3, f4⟩ := XT_fail l1 (T' := 0) (k' := 0) (e := 6) (f := nx n bt f) (by decide) (by decide)
      rw [if_pos bad] at R3
      refine FIN (h4 := h4) (g4 := g4) ?_ (R3 _ ?_) f3 (PQ_XT (XT_trans X03 f4))
      · rw [C1]
        by_cases z : np = 6
        · rw [if_pos (by rw [z]; decide), C_170 k2, show F_169 6 (I3 (nx n bt f)) h3 = some (-1, h4) from f1]; rfl
        · have dz : dw ps np x < np := by
            rcases bad with y | y
            · exact absurd y z
            · exact y
          rw [if_neg (by rw [I3_lit, I3_le (by decide) (by omega)]; omega), C_181s P3.2.1 (by omega) (fun q hq => (P3.2.2.2 q hq).1), if_pos dz]; simp only [obs]
          rw [if_neg (I3_m1 (by omega)), C_170 k2, show F_169 6 (I3 (nx n bt f)) h3 = some (-1, h4) from f1]; rfl
      · unfold endB
        rw [lr3.2.1, show F_413 6 (I3 (nx n bt f)) g3 = some (0, g4) from f2]; rfl
    rw [if_neg bad] at R3
    exact absurd (Or.inl (by omega)) bad
  | succ r ih =>
    intro np hnp fc fu f ps ks h g hc hf s o c rb P
    have n6 := P.1
    have fn := RB_n rb
    have w6 := wrd_6 n bt f
    obtain ⟨h1, c1, c2, c3, c4⟩ := step_C s c
    obtain ⟨g1, d1, d2, d3, d4, d5⟩ := look_R c3 rb
    have X1 : ∀ T' k', XT T' k' h g h1 g1 := fun T' k' => XT_y s.K (S52_Scl c4) (SLx_Srl d2)
    have C0 : F_178_16B (I3 np, h) = (F_171 h).bind fun q4 => if q4.1 = 2 then ((some (sm_wI q4.2 55 16 ((q4.2.1 55 16) - 1))).bind fun h6 => some (.inr (1, h6))) else (if q4.1 = 1 then (F_178_55 (I3 np) q4.2) else ((F_170 4 q4.2).bind fun q5 => F_178_55 (I3 np) q5.2)) := by
      unfold F_178_16B
      show (if 6 < I3 np then _ else _) = _
      rw [if_neg (by rw [I3_lit, I3_lt (by decide) (by omega)]; omega)]
    have R0 : E464 nd fu g = E464 nd fu g := rfl
    conv at R0 => rhs; unfold E464
    by_cases w : wrd n bt f = 6
    · right
      obtain ⟨h2, g2, b1, b2', b3, b4, b5⟩ := badWord c3 c2 rb w
      rw [b2'] at R0; simp only [obs] at R0; rw [if_pos trivial] at R0
      rw [C_171b c1 w b1] at C0; simp only [obs] at C0
      rw [if_neg (by decide), if_neg (by decide), C_170f b3] at C0; simp only [obs] at C0
      unfold F_178_55 F_178_76 at C0
      rw [if_neg (FT_nz b3)] at C0
      exact ⟨_, _, h2, g2, lp_e (by omega) C0, R0, b3, PQ_XT (XT_trans (XT_y s.K (S52_Scl c4) agr_rfl) b4)⟩
    rw [if_neg w] at d5
    obtain ⟨d5, lr⟩ := d5
    rw [C_171 c1 w] at C0; simp only [obs] at C0
    rw [d5] at R0; simp only [obs] at R0; rw [if_neg (by decide)] at R0
    have R1 : F_464_25B (I3 nd, g1) = F_464_25B (I3 nd, g1) := rfl
    conv at R1 => rhs; unfold F_464_25B
    simp only [] at R1
    rw [lr.2.2.1] at R1
    have nr : ∀ x : Nat, x < 6 → wrd n bt f ≠ x → ¬ I3 (rwd (wrd n bt f)) = I3 (rwd x) := fun x hx z => by
      rw [I3_inj (by have := rwd_5 (x := wrd n bt f) (by omega); omega) (by have := rwd_5 (x := x) (by omega); omega)]
      exact fun y => z (rwd_inj (by omega) (by omega) y)
    have nw : ∀ x : Nat, x < 6 → wrd n bt f ≠ x → ¬ I3 (wrd n bt f) = I3 x := fun x hx z => by rw [I3_inj (by omega) (by omega)]; exact z
    have p1 : OP 2 h1 g1 := OP_x o c4 d2 (by unfold S52; omega) (by unfold SLx; omega)
    by_cases w2 : wrd n bt f = 2
    · left
      rw [if_pos (by rw [w2]; rfl), p1.1, show I3 2 - 1 = I3 1 from I3_s1 1] at C0
      obtain ⟨g2, t1, t2, t3, t4⟩ := take_R d1 fn lr
      rw [if_pos (by rw [w2]; rfl), t1] at R1; simp only [obs] at R1
      rw [show g2.1 67 86 = I3 2 from (t4.1 67 86 (by omega)).trans p1.2.1, show I3 2 - 1 = I3 1 from I3_s1 1] at R1
      have a2 : agr Scl h1 (sm_wI h1 55 16 (I3 1)) := agr_wI agr_rfl (Or.inr ⟨rfl, rfl⟩)
      have b2' : agr Srl g1 (sm_wI g2 67 86 (I3 1)) := agr_wI (agr_mono (fun b j z => Or.inl ⟨z.1, by omega, by omega⟩) t4) (Or.inr ⟨rfl, Or.inl rfl⟩)
      obtain ⟨s2, X2⟩ := TS_y (T' := 0) (k' := 0) d1 a2 b2'
      exact ⟨_, _, nx n bt f, np, ps, ks, lp_e (by omega) C0, by rw [R0]; exact lp_e (by omega) R1, nx_gt fn (by omega) w, s2, ⟨rfl, rfl, by decide⟩, CB_nx (h := h1) fn c2 w, t2, PS_y P (agr_trans (S52_Scl c4) a2) (agr_trans (SLx_Srl d2) b2') Scl_p Srl_p, PQ_XT (XT_trans (X1 0 0) X2)⟩
    rw [if_neg (show ¬ I3 (wrd n bt f) = (2 : Int32) from nw 2 (by decide) w2)] at C0
    rw [if_neg (show ¬ I3 (rwd (wrd n bt f)) = (4 : Int32) from nr 2 (by decide) w2)] at R1
    by_cases w1 : wrd n bt f = 1
    rotate_left
    · right
      obtain ⟨h2, g2, f1, f2, f3, f4⟩ := XT_fail d1 (T' := 0) (k' := 0) (e := 4) (f := f) (by decide) (by decide)
      rw [if_neg (show ¬ I3 (wrd n bt f) = (1 : Int32) from nw 1 (by decide) w1), C_170 c2, show F_169 4 (I3 f) h1 = some (-1, h2) from f1] at C0; simp only [obs] at C0
      unfold F_178_55 F_178_76 at C0
      rw [if_neg (FT_nz f3)] at C0
      have q1 := f421 g1 d4
      rw [show F_413 4 (I3 f) g1 = some (0, g2) from f2] at q1
      rw [if_neg (show ¬ I3 (rwd (wrd n bt f)) = (3 : Int32) from nr 1 (by decide) w1)] at R1
      have R2 : F_464_25B (I3 nd, g1) = some (.inr (0, g2)) := by
        rw [R1]
        cases hq : F_421 g1 with
        | none => rw [hq] at q1; cases q1
        | some q =>
          rw [hq] at q1
          simp only [Option.bind_some] at q1 ⊢
          by_cases z : q.1 = 0 ∨ q.1 = 1
          · rw [if_pos z] at q1 ⊢
            injection q1 with q1
            rw [q1]
          · rw [if_neg z] at q1; cases q1
      exact ⟨4, f, h2, g2, lp_e (by omega) C0, by rw [R0]; exact lp_e (by omega) R2, f3, PQ_XT (XT_trans (X1 0 0) f4)⟩
    rw [if_pos (by rw [w1]; rfl)] at C0
    rw [if_pos (by rw [w1]; rfl)] at R1
    unfold F_178_55 F_178_76 at C0
    unfold F_464_60 at R1
    rw [if_pos c3.nf.1] at C0
    rcases openS d1 p1 fn c2 lr w1 with ⟨h2, g2, -, a1, a2, a3, a4, a5, a6, a7, a8, a9, a10⟩ | ⟨e', h2, g2, a1, a2, a3, a4⟩
    rotate_left
    · right
      rw [a1] at C0; simp only [obs] at C0; rw [if_pos trivial] at C0
      rw [a2] at R1; simp only [obs] at R1; rw [if_pos trivial] at R1
      exact ⟨e', _, h2, g2, lp_e (by omega) C0, by rw [R0]; exact lp_e (by omega) R1, a3, PQ_XT (XT_trans (X1 0 0) (XT_mono (Nat.zero_le _) (Nat.zero_le _) a4))⟩
    rw [a1] at C0; simp only [obs] at C0; rw [if_neg (by decide)] at C0
    rw [a2] at R1; simp only [obs] at R1; rw [if_neg (by decide)] at R1
    have C1 : F_179 h2 = F_179_0 h2 := rfl
    unfold F_179_0 F_179_36 F_179_63 at C1
    have fn1 := RB_n a6
    have w6' := wrd_6 n bt (nx n bt f)
    obtain ⟨h3, k1, k2, k3, k4⟩ := step_C a3 a5
    obtain ⟨g3, l1, l2, l3, l4, l5⟩ := look_R k3 a6
    have CC := C_172 (x := 4) (by decide) k1 k2 k3.nf.1
    have X02 : XT 0 0 h g h2 g2 := XT_trans (X1 0 0) (XT_mono (Nat.zero_le _) (Nat.zero_le _) a8)
    have X03 : XT 0 0 h g h3 g3 := XT_trans X02 (XT_y a3.K (S52_Scl k4) (SLx_Srl l2))
    have FIN : ∀ {h4 g4 : sm_H} {e' pc : Nat}, F_179 h2 = some (0, h4) → F_464_25B (I3 nd, g1) = some (.inr (0, g4)) → FT e' pc h4 g4 → PQ nd h g h4 g4 → ∃ e pc h1 g1, lp F_178_16B fc (I3 np, h) = some (0, h1) ∧ E464 nd fu g = some (0, g1) ∧ FT e pc h1 g1 ∧ PQ nd h g h1 g1 := fun x1 x2 x3 x4 => by
      rw [x1] at C0; simp only [obs] at C0; rw [if_pos trivial] at C0
      exact ⟨_, _, _, _, lp_e (by omega) C0, by rw [R0]; exact lp_e (by omega) x2, x3, x4⟩
    by_cases w4 : wrd n bt (nx n bt f) = 4
    rotate_left
    · right
      obtain ⟨h4, m1, m2⟩ := CC.2 w4
      obtain ⟨h5, g5, f1, f2, f3, f4⟩ := XT_fail l1 (T' := 0) (k' := 0) (f := nx n bt f) (er_9 n bt (nx n bt f)).1 (er_9 n bt (nx n bt f)).2
      rw [m2] at f1
      injection f1 with f1
      have q1 : h4 = h5 := congrArg Prod.snd f1
      subst q1
      rw [show F_172 4 h2 = some (0, h4) from m1] at C1; simp only [obs] at C1; rw [if_pos trivial] at C1
      refine FIN C1 ?_ f3 (PQ_XT (XT_trans X03 f4))
      rw [R1]
      unfold er at f2
      by_cases v : wrd n bt (nx n bt f) = 6
      · rw [if_pos v] at f2 l5
        rw [l5, f2]; rfl
      · rw [if_neg v] at f2 l5
        rw [l5.1]; simp only [obs]
        rw [if_neg (by decide), if_neg (show ¬ g3.1 67 80 = 1 by
          rw [l5.2.2.2.1, show (1 : Int32) = I3 (rwd 4) from rfl, I3_inj (by have := rwd_5 (x := wrd n bt (nx n bt f)) (by omega); omega) (by decide)]
          exact fun y => w4 (rwd_inj (by omega) (by omega) y))]
        have q1 := f421 g3 l4
        rw [show F_413 4 (I3 (nx n bt f)) g3 = some (0, g5) from f2] at q1
        cases hq : F_421 g3 with
        | none => rw [hq] at q1; cases q1
        | some q =>
          rw [hq] at q1
          simp only [Option.bind_some] at q1 ⊢
          by_cases z : q.1 = 0 ∨ q.1 = 1
          · rw [if_pos z] at q1 ⊢
            injection q1 with q1
            rw [q1]
          · rw [if_neg z] at q1; cases q1
    rw [if_neg (by omega)] at l5
    obtain ⟨l5, lr3⟩ := l5
    rw [show F_172 4 h2 = some (1, h3) from CC.1 w4] at C1; simp only [obs] at C1
    rw [if_neg (by decide), show F_248 h3 = some (h3.2.1 52 10, h3) from rfl, k2.2.2.2.2.2.1 w4] at C1; simp only [obs] at C1
    have P3 : PS nd np ps ks h3 g3 := PS_y P (agr_trans (agr_trans (S52_Scl c4) (agr_mono (fun b j z => Or.inr z) a9)) (S52_Scl k4)) (agr_trans (agr_trans (SLx_Srl d2) (agr_mono (fun b j z => by
      rcases z with ⟨z1, z2 | z2⟩
      · exact Or.inr ⟨z1, Or.inl z2⟩
      · exact Or.inl ⟨z1, by omega, by omega⟩) a10)) (SLx_Srl l2)) Scl_p Srl_p
    have ex := lr3.2.2.2.2.2.1 w4
    generalize hx : foldN bt (nx n bt f) (men n bt (nx n bt f) - nx n bt f) = x at C1 ex
    rw [l5] at R1; simp only [obs] at R1
    rw [if_neg (by decide), if_pos (show g3.1 67 80 = 1 from lr3.2.2.1.trans (by rw [w4]; rfl)), ldI_I nd60 (by decide), P3.2.2.1] at R1; simp only [obs] at R1
    have R2 : F_464_25B (I3 nd, g1) = F_464_94 (I3 nd) (b2 (decide (np = 6))) 0 g3 := by
      rw [R1]
      unfold F_464_91
      by_cases z : np = 6
      · rw [if_pos (by rw [z]; rfl), decide_eq_true z]; rfl
      · rw [if_neg (by rw [I3_lit, I3_inj (by omega) (by decide)]; exact z), decide_eq_false z]; rfl
    have R3 : ∀ r, (if np = 6 ∨ dw ps np x < np then endB g3 else endS nd g3) = some r → F_464_25B (I3 nd, g1) = some r := fun r hr => by
      rw [R2]
      refine R_94 (ps := ps) nd60 n6 P3.2.2.1 (fun q hq => (P3.2.2.2 q hq).2.2.1) ex _ ?_
      by_cases z : np = 6 ∨ dw ps np x < np
      · rw [if_pos z] at hr
        rw [if_pos (by
          rcases z with z | z
          · exact Or.inl (decide_eq_true z)
          · exact Or.inr z)]
        exact hr
      · rw [if_neg z] at hr
        rw [if_neg (by
          rintro (y | y)
          · exact z (Or.inl (of_decide_eq_true y))
          · exact z (Or.inr y))]
        exact hr
    rw [P3.2.1] at C1
    by_cases bad : np = 6 ∨ dw ps np x < np
    · right
      obtain ⟨h4, g4, f1, f2, f3, f4⟩ := XT_fail l1 (T' := 0) (k' := 0) (e := 6) (f := nx n bt f) (by decide) (by decide)
      rw [if_pos bad] at R3
      refine FIN (h4 := h4) (g4 := g4) ?_ (R3 _ ?_) f3 (PQ_XT (XT_trans X03 f4))
      · rw [C1]
        by_cases z : np = 6
        · rw [if_pos (by rw [z]; decide), C_170 k2, show F_169 6 (I3 (nx n bt f)) h3 = some (-1, h4) from f1]; rfl
        · have dz : dw ps np x < np := by
            rcases bad with y | y
            · exact absurd y z
            · exact y
          rw [if_neg (by rw [I3_lit, I3_le (by decide) (by omega)]; omega), C_181s P3.2.1 (by omega) (fun q hq => (P3.2.2.2 q hq).1), if_pos dz]; simp only [obs]
          rw [if_neg (I3_m1 (by omega)), C_170 k2, show F_169 6 (I3 (nx n bt f)) h3 = some (-1, h4) from f1]; rfl
      · unfold endB
        rw [lr3.2.1, show F_413 6 (I3 (nx n bt f)) g3 = some (0, g4) from f2]; rfl
    rw [if_neg bad] at R3
    have n5 : np < 6 := by omega
    have dz : ¬ dw ps np x < np := fun z => bad (Or.inr z)
    rw [if_neg (by rw [I3_lit, I3_le (by decide) (by omega)]; omega), C_181s P3.2.1 (by omega) (fun q hq => (P3.2.2.2 q hq).1), if_neg dz] at C1; simp only [obs] at C1
    rw [if_pos trivial] at C1
    unfold endS at R3
    rw [ldI_I nd60 (by decide), P3.2.2.1] at R3; simp only [obs] at R3
    rw [show (390 : Int32) + I3 np = I3 (390 + np) by rw [I3_lit, I3_add], stJ_I (by omega) (by decide), ex] at R3; simp only [obs] at R3
    have a34 : agr (fun b j => b = 117 ∧ j = 390 + np) g3 (sm_wJ g3 117 (390 + np) x) := agr_wJ agr_rfl ⟨rfl, rfl⟩
    have X34 : XT 0 0 h3 g3 h3 (sm_wJ g3 117 (390 + np) x) := XT_TW (TW_sc l1.K agr_rfl (agr_mono (fun b j z => Or.inr (Or.inl z.1)) a34)) (fun z => z)
    have s4 : TU n bt k h3 (sm_wJ g3 117 (390 + np) x) := ⟨X34.k1, l1.nf, trivial, l1.t, l1.b, l1.xc, l1.xr⟩
    have lr4 : LXR n bt (nx n bt f) (sm_wJ g3 117 (390 + np) x) := lr3
    have v117 : ∀ q, (sm_wJ g3 117 (390 + np) x).2.1 117 q = if q = 390 + np then x else g3.2.1 117 q := fun q => rfl
    have P4 : PS nd np ps ks h3 (sm_wJ g3 117 (390 + np) x) := PS_y (P := fun _ _ => False) P3 agr_rfl a34 (fun b j z => z.elim) (fun b j z => by omega)
    generalize hg4 : sm_wJ g3 117 (390 + np) x = g4 at *
    obtain ⟨g5, t1, t2, t3, t4⟩ := take_R s4 fn1 lr4
    rw [t1] at R3; simp only [obs] at R3
    have a45 : agr Srl g4 g5 := agr_mono (fun b j z => Or.inl ⟨z.1, by omega, by omega⟩) t4
    have X05 : XT 0 0 h g h3 g5 := XT_trans X03 (XT_trans X34 (XT_y s4.K agr_rfl a45))
    have c5 : CB n bt (nx n bt (nx n bt f)) h3 := CB_nx fn1 k2 (by omega)
    rcases kindB false t3 c5 t2 with ⟨i, h6, g6, y1, y2, y3, y4, y5, y6, y7, y8, y9, y10, y11, y12⟩ | ⟨e', h6, g6, y1, y2, y3, y4⟩
    rotate_left
    · right
      rw [show F_176 0 h3 = some (-1, h6) from y1] at C1; simp only [obs] at C1; rw [if_pos trivial] at C1
      rw [show F_424 0 g5 = some (0, g6) from y2] at R3; simp only [obs] at R3; rw [if_pos trivial] at R3
      exact FIN C1 (R3 _ rfl) y3 (PQ_XT (XT_trans X05 (XT_mono (Nat.zero_le _) (Nat.zero_le _) y4)))
    have i20 := y6.K.1.2.1
    have nc6 : nC g6 = nC g5 := nC_XR y10.a
    rw [show F_176 0 h3 = some (I3 i, h6) from y1] at C1; simp only [obs] at C1; rw [if_neg (I3_m1 (by omega))] at C1
    rw [show F_424 0 g5 = some (1, g6) from y2] at R3; simp only [obs] at R3; rw [if_neg (by decide)] at R3
    have p6 : OP 3 h6 g6 := ⟨(y11.1 55 16 (by unfold S52; omega)).trans ((k4.1 55 16 (by unfold S52; omega)).trans a4.1), (y12.1 67 86 (by unfold SLx; omega)).trans ((t4.1 67 86 (by omega)).trans ((a34.1 67 86 (by omega)).trans ((l2.1 67 86 (by unfold SLx; omega)).trans a4.2.1))), by decide⟩
    rcases closeE y6 p6 y7 y8 with ⟨h7, g7, q1, q2, q3, q4, q5, q6, q7, q8, q9⟩ | ⟨e', h7, g7, q1, q2, q3, q4⟩
    rotate_left
    · right
      rw [q1] at C1; simp only [obs] at C1; rw [if_pos trivial] at C1
      rw [q2] at R3; simp only [obs] at R3; rw [if_pos trivial] at R3
      exact FIN C1 (R3 _ rfl) q3 (PQ_XT (XT_trans X05 (XT_trans (XT_mono (Nat.zero_le _) (Nat.zero_le _) y10) (XT_mono (Nat.zero_le _) (Nat.zero_le _) q4))))
    have af := close_f y6.xr y6.nf.2.1 y8 p6.2.1 q2
    rw [q1] at C1; simp only [obs] at C1; rw [if_neg (by decide)] at C1
    rw [q2] at R3; simp only [obs] at R3; rw [if_neg (by decide)] at R3
    have X07 : XT 0 0 h g h7 g7 := XT_trans X05 (XT_trans (XT_mono (Nat.zero_le _) (Nat.zero_le _) y10) (XT_y y6.K q8 q9))
    have a47c : agr Scl h3 h7 := agr_trans (S52_Scl y11) q8
    have a47r : agr Srl g4 g7 := agr_trans (agr_trans a45 (agr_mono (fun b j z => by
      rcases z with z | z
      · exact Or.inl z
      · exact Or.inr ⟨z.1, by omega⟩) y12)) q9
    have P7 : PS nd np ps ks h7 g7 := PS_y P4 a47c a47r Scl_p Srl_p
    have v7 : g7.2.1 117 (390 + np) = x := (a47r.2.1 117 _ (by unfold Srl SLx; omega)).trans (by rw [v117, if_pos rfl])
    rw [P7.2.1, stJ_I (by omega) (by decide)] at C1; simp only [obs] at C1
    rw [show (sm_wJ h7 58 np x).1 55 9 = I3 np from P7.2.1, stI_I (by omega) (by decide)] at C1; simp only [obs] at C1
    rw [show (sm_wI (sm_wJ h7 58 np x) 59 np (I3 i)).1 55 9 = I3 np from P7.2.1, show I3 np + 1 = I3 (np + 1) from I3_add np 1] at C1
    rw [C1] at C0; simp only [obs] at C0; rw [if_neg (by decide), show I3 np + 1 = I3 (np + 1) from I3_add np 1] at C0
    rw [ldI_I nd60 (by decide), P7.2.2.1] at R3; simp only [obs] at R3
    rw [show (6 : Int32) * I3 nd + I3 np = I3 (6 * nd + np) by rw [I3_lit, I3_mul, I3_add], stI_I (by omega) (by decide), show g7.1 67 105 = I3 i from (af.1 67 105 (by unfold SLx; omega)).trans y3] at R3; simp only [obs] at R3
    rw [ldI_I nd60 (by decide), show (sm_wI g7 116 (6 * nd + np) (I3 i)).1 115 nd = I3 np from P7.2.2.1] at R3; simp only [obs] at R3
    rw [stI_I nd60 (by decide), show I3 np + 1 = I3 (np + 1) from I3_add np 1] at R3; simp only [obs] at R3
    have KA := K1_116 (h := h7) q3.K (6 * nd + np) (I3 i)
    have KB := K1_115 KA.1 nd (I3 (np + 1))
    have a8c : agr Ssp h7 (sm_wI (sm_wI (sm_wJ h7 58 np x) 59 np (I3 i)) 55 9 (I3 (np + 1))) := agr_wI (agr_wI (agr_wJ agr_rfl (Or.inr (Or.inl rfl))) (Or.inr (Or.inr rfl))) (Or.inl ⟨rfl, rfl⟩)
    have a8r : agr (fun b j => b = 115 ∧ j = nd ∨ b = 116 ∧ j = 6 * nd + np) g7 (sm_wI (sm_wI g7 116 (6 * nd + np) (I3 i)) 115 nd (I3 (np + 1))) := agr_wI (agr_wI agr_rfl (Or.inr ⟨rfl, rfl⟩)) (Or.inl ⟨rfl, rfl⟩)
    have K8 : K1 (sm_wI (sm_wI (sm_wJ h7 58 np x) 59 np (I3 i)) 55 9 (I3 (np + 1))) (sm_wI (sm_wI g7 116 (6 * nd + np) (I3 i)) 115 nd (I3 (np + 1))) := K1_h KB.1 (agr_mono Ssp_not a8c)
    have PQ8 : PQ nd h7 g7 (sm_wI (sm_wI (sm_wJ h7 58 np x) 59 np (I3 i)) 55 9 (I3 (np + 1))) (sm_wI (sm_wI g7 116 (6 * nd + np) (I3 i)) 115 nd (I3 (np + 1))) := ⟨K8, ext_trans KA.2.1 KB.2.1, grow_trans KA.2.2 KB.2.2, agr_mono (fun b j z => Or.inr (Or.inl z)) a8c, agr_mono (fun b j z => Or.inr (by omega)) a8r⟩
    have P8 : PS nd (np + 1) (fun q => if q = np then x else ps q) (fun q => if q = np then I3 i else ks q) (sm_wI (sm_wI (sm_wJ h7 58 np x) 59 np (I3 i)) 55 9 (I3 (np + 1))) (sm_wI (sm_wI g7 116 (6 * nd + np) (I3 i)) 115 nd (I3 (np + 1))) := by
      refine ⟨by omega, rfl, if_pos rfl, fun q hq => ?_⟩
      have nc : nC (sm_wI (sm_wI g7 116 (6 * nd + np) (I3 i)) 115 nd (I3 (np + 1))) = nC g7 := rfl
      have nc7 : nC g7 = nC g6 := by show tn _ = tn _; rw [q9.1 67 6 (by unfold Srl SLx; omega)]
      by_cases z : q = np
      · subst z
        exact ⟨(if_pos rfl).trans (if_pos rfl).symm, (if_pos rfl).trans (if_pos rfl).symm, v7.trans (if_pos rfl).symm, (if_pos rfl).trans (if_pos rfl).symm, i, if_pos rfl, y5 rfl, by omega⟩
      · obtain ⟨z1, z2, z3, z4, z5⟩ := P7.2.2.2 q (by omega)
        refine ⟨?_, ?_, ?_, ?_, ?_⟩
        · show (if q = np then x else h7.2.1 58 q) = _
          rw [if_neg z]
          show h7.2.1 58 q = if q = np then x else ps q
          rw [if_neg z]; exact z1
        · show (if q = np then I3 i else h7.1 59 q) = _
          rw [if_neg z]
          show h7.1 59 q = if q = np then I3 i else ks q
          rw [if_neg z]; exact z2
        · show g7.2.1 117 (390 + q) = if q = np then x else ps q
          rw [if_neg z]; exact z3
        · show (if 6 * nd + q = 6 * nd + np then I3 i else g7.1 116 (6 * nd + q)) = if q = np then I3 i else ks q
          rw [if_neg (by omega), if_neg z]; exact z4
        · show ∃ i', (if q = np then I3 i else ks q) = I3 i' ∧ _
          rw [if_neg z]; exact z5
    have s8 : TU n bt k (sm_wI (sm_wI (sm_wJ h7 58 np x) 59 np (I3 i)) 55 9 (I3 (np + 1))) (sm_wI (sm_wI g7 116 (6 * nd + np) (I3 i)) 115 nd (I3 (np + 1))) := ⟨K8, q3.nf, trivial, q3.t, q3.b, q3.xc, q3.xr⟩
    have p8 : OP 2 (sm_wI (sm_wI (sm_wJ h7 58 np x) 59 np (I3 i)) 55 9 (I3 (np + 1))) (sm_wI (sm_wI g7 116 (6 * nd + np) (I3 i)) 115 nd (I3 (np + 1))) := q4
    have c8 : CB n bt (nx n bt (nx n bt (nx n bt (nx n bt f)))) (sm_wI (sm_wI (sm_wJ h7 58 np x) 59 np (I3 i)) 55 9 (I3 (np + 1))) := q5
    have r8 : RB n bt (nx n bt (nx n bt (nx n bt (nx n bt f)))) (sm_wI (sm_wI g7 116 (6 * nd + np) (I3 i)) 115 nd (I3 (np + 1))) := q6
    generalize sm_wI (sm_wI (sm_wJ h7 58 np x) 59 np (I3 i)) 55 9 (I3 (np + 1)) = h8 at *
    generalize sm_wI (sm_wI g7 116 (6 * nd + np) (I3 i)) 115 nd (I3 (np + 1)) = g8 at *
    have PQ0 : PQ nd h g h8 g8 := PQ_trans (PQ_XT X07) PQ8
    have ff1 := nx_gt (n := n) (bt := bt) fn1 (by omega) (by omega)
    have L : lp F_178_16B fc (I3 np, h) = lp F_178_16B (fc - 1) (I3 (np + 1), h8) := lp_s (by omega) C0
    have EE : E464 nd fu g = E464 nd (fu - 1) g8 := by
      rw [R0]
      unfold E464
      obtain ⟨g9, e1, e2, e3, e4, e5⟩ := look_R s8 r8
      by_cases v : wrd n bt (nx n bt (nx n bt (nx n bt (nx n bt f)))) = 6
      · rw [if_pos v] at e5
        obtain ⟨g10, u1, -⟩ := fail_R (g := g9) (f := nx n bt (nx n bt (nx n bt (nx n bt f)))) e1.nf.2.1 (I3 (wtr n bt (nx n bt (nx n bt (nx n bt (nx n bt f)))))) rfl
        rw [e5, u1] at R3 ⊢
        simp only [obs] at R3 ⊢
        rw [if_pos trivial] at R3
        exact lp_e (by omega) (R3 _ rfl)
      · rw [if_neg v] at e5
        rw [e5.1] at R3 ⊢
        simp only [obs] at R3 ⊢
        rw [if_neg (by decide)] at R3 ⊢
        exact lp_s (by omega) (R3 _ rfl)
    rw [L, EE]
    rcases ih (np + 1) (by omega) (fc - 1) (fu - 1) _ _ _ h8 g8 (by omega) (by omega) s8 p8 c8 r8 P8 with ⟨h9, g9, f', np', ps', ks', z1, z2, z3, z4, z5, z6, z7, z8, z9⟩ | ⟨e', pc, h9, g9, z1, z2, z3, z4⟩
    · exact Or.inl ⟨h9, g9, f', np', ps', ks', z1, z2, by omega, z4, z5, z6, z7, z8, PQ_trans PQ0 z9⟩
    · exact Or.inr ⟨e', pc, h9, g9, z1, z2, z3, PQ_trans PQ0 z4⟩
end
section
variable {n : Nat} {bt : Nat → Nat} {nd o T j k m p f f0 np r0 : Nat} {ps : Nat → Int64} {ks : Nat → Int32} {h g h1 g1 h2 g2 : sm_H}
theorem parX (nd60 : nd < 60) (s : TU n bt k h g) (o : OP 1 h g) (c : CB n bt f h) (rb : RB n bt f g) :
    (∃ h1 g1 f' np ps ks, F_178 h = some (1, h1) ∧ F_464 (I3 nd) g = some (1, g1) ∧ f < f' ∧ TU n bt k h1 g1 ∧ OP 1 h1 g1 ∧ CB n bt f' h1 ∧ RB n bt f' g1 ∧ PS nd np ps ks h1 g1 ∧ PQ nd h g h1 g1) ∨ ∃ e pc h1 g1, F_178 h = some (0, h1) ∧ F_464 (I3 nd) g = some (0, g1) ∧ FT e pc h1 g1 ∧ PQ nd h g h1 g1 := by
  have a0 : agr Ssp h (sm_wI h 55 9 0) := agr_wI agr_rfl (Or.inl ⟨rfl, rfl⟩)
  have X0 : XT 0 0 h g (sm_wI h 55 9 0) g := XT_TW (TW_sc s.K a0 agr_rfl) (fun _ => ⟨0, by omega, rfl⟩)
  have s0 : TU n bt k (sm_wI h 55 9 0) g := ⟨X0.k1, s.nf, trivial, s.t, s.b, s.xc, s.xr⟩
  have e9 : (sm_wI h 55 9 0).1 55 9 = I3 0 := rfl
  have o0 : OP 1 (sm_wI h 55 9 0) g := o
  have c0 : CB n bt f (sm_wI h 55 9 0) := c
  have C0 : F_178 h = F_178_0 h := rfl
  unfold F_178_0 F_178_16 at C0
  simp only [Option.bind_some] at C0
  generalize sm_wI h 55 9 0 = h0 at *
  have R0 : F_464 (I3 nd) g = F_464_0 (I3 nd) g := rfl
  unfold F_464_0 F_464_25 at R0
  rcases openB s0 o0 c0 rb with ⟨h1, g1, -, a1, a2, a3, a4, a5, a6, a7, a8, a9, a10⟩ | ⟨e', h1, g1, a1, a2, a3, a4⟩
  rotate_left
  · right
    rw [a1] at C0; simp only [obs] at C0; rw [if_pos trivial] at C0
    rw [a2] at R0; simp only [obs] at R0; rw [if_pos trivial] at R0
    exact ⟨e', _, h1, g1, C0, R0, a3, PQ_XT (XT_trans X0 (XT_mono (Nat.zero_le _) (Nat.zero_le _) a4))⟩
  rw [a1] at C0; simp only [obs] at C0; rw [if_neg (by decide)] at C0
  rw [a2] at R0; simp only [obs] at R0; rw [if_neg (by decide), stI_I nd60 (by decide)] at R0; simp only [obs] at R0
  have KA := K1_115 (h := h1) a3.K nd 0
  have s2 : TU n bt k h1 (sm_wI g1 115 nd 0) := ⟨KA.1, a3.nf, trivial, a3.t, a3.b, a3.xc, a3.xr⟩
  have Q2 : PQ nd h1 g1 h1 (sm_wI g1 115 nd 0) := ⟨KA.1, KA.2.1, KA.2.2, agr_rfl, agr_wI agr_rfl (Or.inr (Or.inl ⟨rfl, rfl⟩))⟩
  have Q0 : PQ nd h g h1 (sm_wI g1 115 nd 0) := PQ_trans (PQ_XT (XT_trans X0 (XT_mono (Nat.zero_le _) (Nat.zero_le _) a8))) Q2
  have P2 : PS nd 0 (fun _ => 0) (fun _ => 0) h1 (sm_wI g1 115 nd 0) := ⟨by omega, (a9.1 55 9 (by unfold S52; omega)).trans e9, if_pos rfl, fun q hq => by omega⟩
  rcases parN nd60 6 0 (by omega) 1000000 1000000 (nx n bt f) _ _ h1 (sm_wI g1 115 nd 0) (by omega) (by omega) s2 a4 a5 a6 P2 with ⟨h9, g9, f', np', ps', ks', z1, z2, z3, z4, z5, z6, z7, z8, z9⟩ | ⟨e', pc, h9, g9, z1, z2, z3, z4⟩
  · exact Or.inl ⟨h9, g9, f', np', ps', ks', C0.trans z1, R0.trans z2, by omega, z4, z5, z6, z7, z8, PQ_trans Q0 z9⟩
  · exact Or.inr ⟨e', pc, h9, g9, C0.trans z1, R0.trans z2, z3, PQ_trans Q0 z4⟩
def Y465 (f : Nat) (x : Int64) (r0 nd : Int32) (u : sm_H) : Option (Int32 × sm_H) := (some (sm_wI u 67 106 (I3 f))).bind fun h16 =>
  (F_428 r0 h16).bind fun q17 =>
  if q17.1 = (-1) then (F_465_296 (I3 f) x r0 nd (-1) q17.2)
  else ((F_430 34 0 q17.1 0 q17.2).bind fun q18 =>
  F_465_296 (I3 f) x r0 nd q18.1 q18.2)
theorem Y465_b {c : Int32} (hc : c < 0) (x : Int64) (r0' nd' : Int32) (u : sm_H) : F_465_228B (I3 f, x, r0', nd', c, u) = (Y465 f x r0' nd' u).map .inr := by
  unfold F_465_228B Y465
  show (if c < 0 then _ else _) = _
  rw [if_pos hc, bind_mapX]
  refine congrArg _ (funext fun h16 => ?_)
  rw [bind_mapX]
  refine congrArg _ (funext fun q17 => ?_)
  rw [ite_mapX, bind_mapX]
theorem R_174 (nd60 : nd < 60) (P : PS nd np ps ks h g) (x : Int64) (r0' : Int32) : ∃ g1, SCR ps (lst ks np) g1 ∧ agr (fun b j => b = 130 ∨ Ssr b j) g g1 ∧ ∀ r, Y465 f x r0' (I3 nd) g1 = some r → F_465_174 (I3 f) x r0' (I3 nd) 0 g = some r := by
  obtain ⟨n6, -, e115, pp⟩ := P
  have LB : ∀ c u fu, c ≤ np → c < fu → agr (fun b j => b = 130 ∨ Ssr b j) g u → (∀ q, q < np → u.2.1 130 q = ps q) → SCR (fun i => ps (c + i)) (lst (fun i => ks (c + i)) (np - c)) u → ∃ g1, SCR ps (lst ks np) g1 ∧ agr (fun b j => b = 130 ∨ Ssr b j) g g1 ∧ ∀ r, Y465 f x r0' (I3 nd) g1 = some r → lp F_465_228B fu (I3 f, x, r0', I3 nd, I3 c - 1, u) = some r := by
    intro c
    induction c with
    | zero =>
      intro u fu hc hf au v130 Su
      refine ⟨u, ?_, au, fun r hr => lp_e (by omega) ?_⟩
      · have e1 : (fun i => ps (0 + i)) = ps := by funext i; rw [Nat.zero_add]
        have e2 : lst (fun i => ks (0 + i)) (np - 0) = lst ks np := by
          rw [Nat.sub_zero]; exact lst_congr (fun i _ => by rw [Nat.zero_add])
        rw [e1, e2] at Su; exact Su
      · rw [Y465_b (by decide), hr]; rfl
    | succ c ih =>
      intro u fu hc hf au v130 Su
      have ll : (lst (fun i => ks (c + 1 + i)) (np - (c + 1))).length < 400 := by rw [lst_len]; omega
      obtain ⟨u1, d1, d2, d3⟩ := R_bind Su ll (ps c) (ks c)
      have v116 : u.1 116 (6 * nd + c) = ks c := (au.1 116 _ (by unfold Ssr; omega)).trans (pp c (by omega)).2.2.2.1
      have B : F_465_228B (I3 f, x, r0', I3 nd, I3 (c + 1) - 1, u) = some (.inl (I3 f, x, r0', I3 nd, I3 c - 1, u1)) := by
        rw [I3_s1]
        unfold F_465_228B
        show (if I3 c < 0 then _ else _) = _
        rw [if_neg (I3_nn (by omega))]
        simp only []
        rw [ldJ_I (by omega) (by decide), v130 c (by omega)]; simp only [obs]
        rw [show (6 : Int32) * I3 nd + I3 c = I3 (6 * nd + c) by rw [I3_lit, I3_mul, I3_add], ldI_I (by omega) (by decide), v116]; simp only [obs]
        rw [d1]; simp only [obs]
        rw [show I3 c + (-1) = I3 c - 1 from (Int32.sub_eq_add_neg _ _).symm]
      have en : nm1 (ps c) (fun i => ps (c + 1 + i)) = fun i => ps (c + i) := by
        funext i
        unfold nm1
        by_cases q : i = 0
        · subst q; rw [if_pos rfl, Nat.add_zero]
        · rw [if_neg q]
          show ps (c + 1 + (i - 1)) = _
          rw [show c + 1 + (i - 1) = c + i by omega]
      have ek : ks c :: lst (fun i => ks (c + 1 + i)) (np - (c + 1)) = lst (fun i => ks (c + i)) (np - c) := by
        rw [show np - c = (np - (c + 1)) + 1 by omega, lst_cons, Nat.add_zero]
        rw [lst_congr (f := fun i => ks (c + (i + 1))) (f1 := fun i => ks (c + 1 + i)) (fun i _ => by rw [show c + (i + 1) = c + 1 + i by omega])]
        rfl
      rw [en, ek] at d2
      obtain ⟨g1, z1, z2, z3⟩ := ih u1 (fu - 1) (by omega) (by omega) (agr_trans au (agr_mono (fun b j z => Or.inr z) d3)) (fun q hq => (d3.2.1 130 q (by unfold Ssr; omega)).trans (v130 q hq)) d2
      exact ⟨g1, z1, z2, fun r hr => by rw [lp_s (by omega) B]; exact z3 r hr⟩
  have LA : ∀ c q u fu, q + c = np → c < fu → agr (fun b j => b = 130 ∨ Ssr b j) g u → (∀ i, i < q → u.2.1 130 i = ps i) → (∀ i, i < np → u.2.1 117 (390 + i) = ps i) → ∃ g1, SCR ps (lst ks np) g1 ∧ agr (fun b j => b = 130 ∨ Ssr b j) g g1 ∧ ∀ r, Y465 f x r0' (I3 nd) g1 = some r → lp F_465_174B fu (I3 f, x, r0', I3 nd, I3 q, u) = some r := by
    intro c
    induction c with
    | zero =>
      intro q u fu hq hf au v130 v117
      have e : q = np := by omega
      subst e
      have au' : agr (fun b j => b = 130 ∨ Ssr b j) g (sm_wI u 67 94 400) := agr_wI au (Or.inr (Or.inl ⟨rfl, rfl⟩))
      have e115' : u.1 115 nd = I3 q := (au.1 115 nd (by unfold Ssr; omega)).trans e115
      have S0 : SCR (fun i => ps (q + i)) (lst (fun i => ks (q + i)) (q - q)) (sm_wI u 67 94 400) := by
        rw [Nat.sub_self]
        exact ⟨rfl, fun i hi => by cases hi⟩
      obtain ⟨g1, z1, z2, z3⟩ := LB q (sm_wI u 67 94 400) 1000000 (Nat.le_refl _) (by omega) au' v130 S0
      refine ⟨g1, z1, z2, fun r hr => lp_e (by omega) ?_⟩
      unfold F_465_174B
      simp only []
      rw [ldI_I nd60 (by decide), e115']; simp only [obs]
      rw [if_pos (by rw [I3_le (by omega) (by omega)]; omega), ldI_I nd60 (by decide), show (sm_wI u 67 94 400).1 115 nd = I3 q from e115']; simp only [obs]
      rw [show F_465_228 (I3 f) x r0' (I3 nd) (I3 q - 1) (sm_wI u 67 94 400) = some r from z3 r hr]; rfl
    | succ c ih =>
      intro q u fu hq hf au v130 v117
      have e115' : u.1 115 nd = I3 np := (au.1 115 nd (by unfold Ssr; omega)).trans e115
      have B : F_465_174B (I3 f, x, r0', I3 nd, I3 q, u) = some (.inl (I3 f, x, r0', I3 nd, I3 (q + 1), sm_wJ u 130 q (ps q))) := by
        unfold F_465_174B
        simp only []
        rw [ldI_I nd60 (by decide), e115']; simp only [obs]
        rw [if_neg (by rw [I3_le (by omega) (by omega)]; omega), show (390 : Int32) + I3 q = I3 (390 + q) by rw [I3_lit, I3_add], ldJ_I (by omega) (by decide), v117 q (by omega)]; simp only [obs]
        rw [stJ_I (by omega) (by decide)]; simp only [obs]
        rw [show I3 q + 1 = I3 (q + 1) from I3_add q 1]
      obtain ⟨g1, z1, z2, z3⟩ := ih (q + 1) (sm_wJ u 130 q (ps q)) (fu - 1) (by omega) (by omega) (agr_wJ au (Or.inl rfl)) (fun i hi => by
        show (if i = q then ps q else u.2.1 130 i) = ps i
        by_cases z : i = q
        · rw [if_pos z, z]
        · rw [if_neg z]; exact v130 i (by omega)) v117
      exact ⟨g1, z1, z2, fun r hr => by rw [lp_s (by omega) B]; exact z3 r hr⟩
  exact LA np 0 g 1000000 (by omega) (by omega) agr_rfl (fun i hi => by omega) (fun i hi => (pp i hi).2.2.1)
theorem C_155 (K : K1 h g) (x : Int32) : F_155 x h = if nG g < 80 then some (I3 (nG g), sm_wI (sm_wI h 32 (nG g) x) 21 8 (I3 (nG g + 1))) else some (-1, h) := by
  obtain ⟨r1, ⟨r2, r3⟩, -⟩ := K.2.2.2.2.2.2.2.2.1
  have e : h.1 21 8 = I3 (nG g) := r1.trans r2
  have n8 : nG g ≤ 80 := r3
  show F_155_0 x h = _
  unfold F_155_0
  rw [e]
  by_cases q : nG g < 80
  · rw [if_pos q, if_pos (by rw [I3_lit, I3_lt (by omega) (by decide)]; exact q), stI_I q (by decide)]; simp only [obs]
    rw [show (sm_wI h 32 (nG g) x).1 21 8 = I3 (nG g) from e, show I3 (nG g) + 1 = I3 (nG g + 1) from I3_add _ 1, show (sm_wI (sm_wI h 32 (nG g) x) 21 8 (I3 (nG g + 1))).1 21 8 = I3 (nG g + 1) from rfl, I3_s1]
  · rw [if_neg q, if_neg (by rw [I3_lit, I3_lt (by omega) (by decide)]; exact q)]
theorem R_398 (K : K1 h g) {y : Nat} (hy : y < nH g) : F_398 (I3 y) g = if nG g < 80 then some (I3 (nG g), sm_wI (sm_wI g 92 (nG g) (I3 y)) 67 35 (I3 (nG g + 1))) else some (-1, g) := by
  obtain ⟨r1, ⟨r2, r3⟩, -⟩ := K.2.2.2.2.2.2.2.2.1
  have e : g.1 67 35 = I3 (nG g) := r2
  have n8 : nG g ≤ 80 := r3
  have w5 := lt500 K hy
  show F_398_0 (I3 y) g = _
  unfold F_398_0 F_398_17
  rw [e]
  by_cases q : nG g < 80
  · rw [if_pos q, if_neg (by rw [I3_lit, I3_inj (by omega) (by decide)]; omega), R_isHg K.2.2.2.2.1, inR_I (by have := w500 K; omega), decide_eq_true hy]; simp only [obs]
    rw [if_neg (by decide), e, stI_I q (by decide)]; simp only [obs]
    rw [show (sm_wI g 92 (nG g) (I3 y)).1 67 35 = I3 (nG g) from e, show I3 (nG g) + 1 = I3 (nG g + 1) from I3_add _ 1, show (sm_wI (sm_wI g 92 (nG g) (I3 y)) 67 35 (I3 (nG g + 1))).1 67 35 = I3 (nG g + 1) from rfl, I3_s1]
  · rw [if_neg q, if_pos (by rw [I3_lit, I3_inj (by omega) (by decide)]; omega)]
end
