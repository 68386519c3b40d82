def dw (ps : Nat → Int64) (np : Nat) (x : Int64) : Nat := fst1 (fun i => decide (ps i = x)) np
abbrev XRq (nd b j : Nat) : Prop := XRc 0 b j ∨ (b = 115 ∧ j = nd) ∨ (b = 116 ∧ 6 * nd ≤ j)
def PQ (nd : Nat) (h g h1 g1 : sm_H) : Prop := K1 h1 g1 ∧ ext g g1 ∧ grow g g1 ∧ agr (XCc 0) h h1 ∧ agr (XRq nd) g g1
def PS (nd np : Nat) (ps : Nat → Int64) (ks : Nat → Int32) (h g : sm_H) : Prop := np ≤ 6 ∧ h.1 55 9 = I3 np ∧ g.1 115 nd = I3 np ∧ (∀ q, q < np → h.2.1 58 q = ps q ∧ h.1 59 q = ks q ∧ g.2.1 117 (390 + q) = ps q ∧ g.1 116 (6 * nd + q) = ks q ∧ ∃ i, ks q = I3 i ∧ 0 < i ∧ i < 20 + nC g)
section
variable {n : Nat} {bt : Nat → Nat} {nd o T j k m p f f0 np : Nat} {ps : Nat → Int64} {ks : Nat → Int32} {h g h1 g1 h2 g2 : sm_H}
theorem PQ_trans (a : PQ nd h g h1 g1) (b : PQ nd h1 g1 h2 g2) : PQ nd h g h2 g2 := ⟨b.1, ext_trans a.2.1 b.2.1, grow_trans a.2.2.1 b.2.2.1, agr_trans a.2.2.2.1 b.2.2.2.1, agr_trans a.2.2.2.2 b.2.2.2.2⟩
theorem PQ_XT (x : XT T k h g h1 g1) : PQ nd h g h1 g1 := ⟨x.k1, x.e, x.r, agr_mono (XCc_s (Nat.zero_le _)) x.c, agr_mono (fun b j z => Or.inl (XRc_s (Nat.zero_le _) b j z)) x.a⟩
theorem RT_PQ (x : PQ nd h g h1 g1) : RT h g h1 g1 := ⟨x.1, x.2.1, x.2.2.1, agr_mono (fun b j z => Or.inl z) x.2.2.2.1, agr_mono (fun b j z => by
  rcases z with z | z | z
  · exact Or.inl z
  · exact Or.inr (Or.inr (Or.inr (Or.inl (by omega))))
  · exact Or.inr (Or.inr (Or.inr (Or.inl (by omega))))) x.2.2.2.2⟩
theorem DF_p (K : K1 h g) (D : DF nd h g) (x : PQ nd h g h1 g1) : DF nd h1 g1 := by
  obtain ⟨s1, s2, s3, s4⟩ := D
  have qn : ∀ b j, XRq nd b j → ¬ (b = 67 ∧ j = 91 ∨ b = 113 ∨ b = 114 ∨ b = 115 ∧ j < nd ∨ b = 116 ∧ j < 6 * nd) := fun b j z => by unfold XRq XRc SRa SRq SRb SRp SRh SRt Ssr SLx at z; omega
  have a := x.2.2.2.1
  have b := x.2.2.2.2
  refine ⟨(a.1 55 15 (fun z => XCc_df _ _ z (by omega))).trans s1, (b.1 67 91 (fun z => qn _ _ z (by omega))).trans s2, s3, fun d hd => ?_⟩
  obtain ⟨t1, t2, y, x1, x2, x3, x4, x5⟩ := s4 d hd
  have hx := ext_hpl K.2.2.2.2.1 x.2.1 x1
  rw [a.2.1 62 d (fun z => XCc_df _ _ z (by omega)), a.1 63 d (fun z => XCc_df _ _ z (by omega)), b.2.1 113 d (fun z => qn _ _ z (by omega)), b.1 114 d (fun z => qn _ _ z (by omega)), b.1 115 d (fun z => qn _ _ z (by omega))]
  refine ⟨t1, t2, y, Nat.lt_of_lt_of_le x1 x.2.2.1.2.2.1, x2, by rw [hx]; exact x3, by rw [hx]; exact x4, fun i hi => ?_⟩
  rw [hx] at hi ⊢
  rw [b.1 116 _ (fun z => qn _ _ z (by omega))]; exact x5 i hi
theorem C_181s (e9 : h.1 55 9 = I3 np) (l : np ≤ 13) (h58 : ∀ q, q < np → h.2.1 58 q = ps q) (x : Int64) : F_181 x h = some (if dw ps np x < np then I3 (dw ps np x) else -1, h) := by
  have L := lp_fst (body := F_181_2B) (fun i => decide (ps i = x)) np (fun k => (x, I3 k, h)) (fun k => (I3 k, h)) (-1, h) (f := 1000000) (by omega) (fun i hi e => ?_) (fun i hi e => ?_) ?_
  · refine Eq.trans (show F_181 x h = lp F_181_2B 1000000 (x, I3 0, h) from rfl) (L.trans ?_)
    unfold dw
    split <;> rfl
  · show F_181_2B (x, I3 i, h) = _
    unfold F_181_2B
    simp only []
    rw [e9, if_neg (by rw [I3_le (by omega) (by omega)]; omega), if_neg (by rw [I3_lit, I3_le (by decide) (by omega)]; omega), ldJ_I (by omega) (by decide), h58 i hi]; simp only [obs]
    rw [if_neg (fun z => (of_decide_eq_false e) (cmp_eq.mp z)), show I3 i + 1 = I3 (i + 1) from I3_add i 1]
  · show F_181_2B (x, I3 i, h) = _
    unfold F_181_2B
    simp only []
    rw [e9, if_neg (by rw [I3_le (by omega) (by omega)]; omega), if_neg (by rw [I3_lit, I3_le (by decide) (by omega)]; omega), ldJ_I (by omega) (by decide), h58 i hi]; simp only [obs]
    rw [if_pos (cmp_eq.mpr (of_decide_eq_true e))]
  · show F_181_2B (x, I3 np, h) = _
    unfold F_181_2B F_181_35
    simp only []
    rw [e9, if_pos (by rw [I3_le (by omega) (by omega)]; omega)]; rfl
theorem dw_iff (x : Int64) : dw ps np x < np ↔ ∃ q, q < np ∧ ps q = x := by
  have sp := fst1_spec (fun i => decide (ps i = x)) np
  constructor
  · intro z
    exact ⟨dw ps np x, z, of_decide_eq_true (sp.2.2 z)⟩
  · rintro ⟨q, q1, q2⟩
    apply Classical.byContradiction
    intro z
    have := sp.2.1 q (by show q < dw ps np x; omega)
    exact absurd q2 (of_decide_eq_false this)
theorem C_172 {x : Nat} (hx : x ≤ 5) {h1 : sm_H} (c1 : F_249 h = some (I3 (wrd n bt f), h1)) (c2 : LXC n bt f h1) (nf : h1.1 55 17 = 0) : (wrd n bt f = x → F_172 (I3 x) h = some (1, h1)) ∧ (wrd n bt f ≠ x → ∃ h2, F_172 (I3 x) h = some (0, h2) ∧ F_169 (I3 (er n bt f)) (I3 f) h1 = some (-1, h2)) := by
  have w6 := wrd_6 n bt f
  have C1 : F_172 (I3 x) h = F_172_0 (I3 x) h := rfl
  unfold F_172_0 F_172_31 F_172_35 F_172_47 at C1
  rw [c1] at C1; simp only [obs] at C1
  constructor
  · intro w
    rw [if_pos (by rw [w]), if_pos nf, if_pos (by decide)] at C1
    exact C1
  · intro w
    obtain ⟨h2, f1, f2, f3, f4⟩ := fail_C (h := h1) (f := f) nf (I3 (er n bt f)) rfl
    refine ⟨h2, ?_, f1⟩
    have e9 := er_9 n bt f
    have z35 : (if h2.1 55 17 = 0 then (if (1 : Int32) = 0 ∨ (1 : Int32) = 1 then some ((1 : Int32), h2) else none) else (if (0 : Int32) = 0 ∨ (0 : Int32) = 1 then some (0, h2) else none)) = some (0, h2) := by
      rw [if_neg, if_pos (Or.inl rfl)]
      rw [f2, I3_lit, I3_inj (by omega) (by decide)]; omega
    rw [if_neg (by rw [I3_inj (by omega) (by omega)]; exact w)] at C1
    unfold er at f1
    by_cases v : wrd n bt f = 6
    · rw [if_pos v] at f1
      rw [if_pos (by rw [v]; rfl), show F_244 h1 = some (h1.1 52 6, h1) from rfl, c2.2.2.1 v] at C1; simp only [obs] at C1
      rw [C_170 c2, f1] at C1; simp only [obs] at C1
      rw [C1]; exact z35
    · rw [if_neg v] at f1
      rw [if_neg (by rw [I3_lit, I3_inj (by omega) (by decide)]; exact v), C_170 c2, show F_169 4 (I3 f) h1 = some (-1, h2) from f1] at C1; simp only [obs] at C1
      rw [C1]; exact z35
def endS (nd : Nat) (g : sm_H) : Option ((Int32 × sm_H) ⊕ (Int32 × sm_H)) := (ldI g 115 60 (I3 nd)).bind fun v3 =>
  (stJ g 117 400 (390 + v3) (g.2.1 67 83)).bind fun h4 =>
  (F_420 h4).bind fun q5 =>
  (F_424 0 q5).bind fun q6 =>
  if q6.1 = 0 then some (.inr (0, q6.2))
  else ((F_427 q6.2).bind fun q7 =>
  if q7.1 = 0 then some (.inr (0, q7.2))
  else ((ldI q7.2 115 60 (I3 nd)).bind fun v8 =>
  (stI q7.2 116 360 ((6 * (I3 nd)) + v8) (q7.2.1 67 105)).bind fun h9 =>
  (ldI h9 115 60 (I3 nd)).bind fun v10 =>
  (stI h9 115 60 (I3 nd) (v10 + 1)).bind fun h11 =>
  (F_418 h11).bind fun q12 =>
  if q12.1 = 0 then some (.inr (0, q12.2))
  else some (.inl (I3 nd, q12.2))))
def endB (g : sm_H) : Option ((Int32 × sm_H) ⊕ (Int32 × sm_H)) := (F_413 6 (g.1 67 81) g).bind fun q13 => if q13.1 = 0 ∨ q13.1 = 1 then some (.inr (q13.1, q13.2)) else none
theorem map_some {α β : Type} {x : Option α} {f : α → β} {y : α} (h : x = some y) : x.map f = some (f y) := by rw [h]; rfl
theorem bind_mapX {α β γ : Type} (x : Option α) (f : α → Option β) (u : β → γ) : (x.bind f).map u = x.bind fun a => (f a).map u := by cases x <;> rfl
theorem ite_mapX {β γ : Type} {c : Prop} [Decidable c] (a b : Option β) (u : β → γ) : (if c then a else b).map u = if c then a.map u else b.map u := by
  by_cases h : c
  · rw [if_pos h, if_pos h]
  · rw [if_neg h, if_neg h]
theorem R_94e (nd60 : nd < 60) (n6 : np ≤ 6) (e115 : g.1 115 nd = I3 np) {r : (Int32 × sm_H) ⊕ (Int32 × sm_H)} (b : Bool) (fu : Nat) (hf : 0 < fu) (hb : (if b = true then endB g else endS nd g) = some r) : lp F_464_94B fu (I3 nd, b2 b, I3 np, g) = some r := by
  have l115 : ldI g 115 60 (I3 nd) = some (I3 np) := by rw [ldI_I nd60 (by decide), e115]
  have B : F_464_94B (I3 nd, b2 b, I3 np, g) = (if b = true then endB g else endS nd g).map .inr := by
    unfold F_464_94B
    simp only []
    rw [l115]
    simp only [Option.bind_some]
    rw [if_pos (by rw [I3_le (by omega) (by omega)]; omega)]
    cases b with
    | true =>
      rw [if_neg (show ¬ b2 true = 0 by decide), if_pos rfl]
      unfold endB
      rw [bind_mapX]
      refine congrArg _ (funext fun q => ?_)
      rw [ite_mapX]
      rfl
    | false =>
      rw [if_pos (show b2 false = 0 by decide), if_neg (show ¬ false = true by decide)]
      unfold endS F_464_191
      simp only [bind_mapX, ite_mapX, Option.map_some]
      rw [l115]
      simp only [Option.bind_some]
  rw [hb] at B
  exact lp_e (by omega) B
theorem R_94 (nd60 : nd < 60) (n6 : np ≤ 6) (e115 : g.1 115 nd = I3 np) (h117 : ∀ q, q < np → g.2.1 117 (390 + q) = ps q) {x : Int64} (ex : g.2.1 67 83 = x) (fl : Bool) {r : (Int32 × sm_H) ⊕ (Int32 × sm_H)} (hr : (if fl = true ∨ dw ps np x < np then endB g else endS nd g) = some r) : F_464_94 (I3 nd) (b2 fl) 0 g = some r := by
  have l115 : ldI g 115 60 (I3 nd) = some (I3 np) := by rw [ldI_I nd60 (by decide), e115]
  have END : ∀ b fu, 0 < fu → (if b = true then endB g else endS nd g) = some r → lp F_464_94B fu (I3 nd, b2 b, I3 np, g) = some r := fun b fu hf hb => R_94e nd60 n6 e115 b fu hf hb
  have LP : ∀ c q b fu, q + c = np → c < fu → (b = true ↔ fl = true ∨ ∃ q', q' < q ∧ ps q' = x) → lp F_464_94B fu (I3 nd, b2 b, I3 q, g) = some r := by
    intro c
    induction c with
    | zero =>
      intro q b fu hq hf hb
      have e : q = np := by omega
      subst e
      refine END b fu (by omega) ?_
      rw [← hr]
      by_cases w : b = true
      · rw [if_pos w, if_pos]
        rcases hb.mp w with z | z
        · exact Or.inl z
        · exact Or.inr ((dw_iff x).mpr z)
      · rw [if_neg w, if_neg]
        rintro (z | z)
        · exact w (hb.mpr (Or.inl z))
        · exact w (hb.mpr (Or.inr ((dw_iff x).mp z)))
    | succ c ih =>
      intro q b fu hq hf hb
      have B : F_464_94B (I3 nd, b2 b, I3 q, g) = some (.inl (I3 nd, b2 (b || decide (ps q = x)), I3 (q + 1), g)) := by
        unfold F_464_94B F_464_126 F_464_131
        simp only []
        rw [l115]; simp only [obs]
        rw [if_neg (by rw [I3_le (by omega) (by omega)]; omega), show I3 q + 1 = I3 (q + 1) from I3_add q 1]
        cases b with
        | true =>
          rw [if_neg (by decide)]; rfl
        | false =>
          rw [if_pos (by decide), show (390 : Int32) + I3 q = I3 (390 + q) by rw [I3_lit, I3_add], ldJ_I (by omega) (by decide), h117 q (by omega)]; simp only [obs]
          rw [ex]
          by_cases z : ps q = x
          · rw [if_pos (cmp_eq.mpr z), decide_eq_true z]; rfl
          · rw [if_neg (fun y => z (cmp_eq.mp y)), decide_eq_false z]; rfl
      rw [lp_s (by omega) B]
      refine ih (q + 1) _ (fu - 1) (by omega) (by omega) ?_
      rw [Bool.or_eq_true, decide_eq_true_iff, hb]
      constructor
      · rintro ((z | ⟨q', z1, z2⟩) | z)
        · exact Or.inl z
        · exact Or.inr ⟨q', by omega, z2⟩
        · exact Or.inr ⟨q, by omega, z⟩
      · rintro (z | ⟨q', z1, z2⟩)
        · exact Or.inl (Or.inl z)
        · by_cases y : q' = q
          · subst y; exact Or.inr z2
          · exact Or.inl (Or.inr ⟨q', by omega, z2⟩)
  exact LP np 0 fl 1000000 (by omega) (by omega) ⟨fun z => Or.inl z, fun z => by
    rcases z with z | ⟨q', z1, -⟩
    · exact z
    · omega⟩
end
