theorem stI57 {h : sm_H} {k : Nat} {x : Int32} (hk : k < 20) : sm_stI G0 h 57 (I3 k) x = some (sm_wI h 57 k x) := by
  show (if sm_in (I3 k) 20 then some (sm_wI h 57 (I3 k).toNatClampNeg x) else none) = _
  rw [if_pos (sm_in_I3 hk (by decide)), I3_clamp (by omega)]
abbrev S56 (b j : Nat) : Prop := b = 56 ∧ j = 1 ∨ b = 57
theorem C_app56 {h : sm_H} {ps : List Int32} (r : hasL h 56 57 ps) (hl : ps.length < 20) (x : Int32) : ∃ h1, F_139 56 x h = some (1, h1) ∧ hasL h1 56 57 (ps ++ [x]) ∧ agr S56 h h1 := by
  refine ⟨sm_wI (sm_wI h 57 ps.length x) 56 1 (I3 (ps.length + 1)), ?_, ⟨?_, ?_, fun k hk => ?_⟩, agr_wI (agr_wI agr_rfl (Or.inr rfl)) (Or.inl ⟨rfl, rfl⟩)⟩
  · show F_139_0 56 x h = _
    unfold F_139_0
    rw [if_pos (show sm_is G0 h 56 5 = true from rfl), r.1, if_pos (by rw [I3_lit, I3_lt (by omega) (by decide)]; exact hl), if_pos (show sm_is G0 h 56 5 = true from rfl), show sm_rr G0 h 56 0 = some 57 from rfl]; simp only [obs]
    rw [if_pos (show sm_is G0 h 56 5 = true from rfl), stI57 hl]; simp only [obs]
    rw [if_pos (show sm_is G0 (sm_wI h 57 ps.length x) 56 5 = true from rfl), if_pos (show sm_is G0 (sm_wI h 57 ps.length x) 56 5 = true from rfl), show (sm_wI h 57 ps.length x).1 56 1 = h.1 56 1 from rfl, r.1, show I3 ps.length + 1 = I3 (ps.length + 1) from I3_add _ 1]
  · rw [List.length_append]; rfl
  · rw [List.length_append]; show ps.length + 1 ≤ 20; omega
  · rw [List.length_append] at hk
    have hk : k < ps.length + 1 := hk
    show (if k = ps.length then x else h.1 57 k) = _
    by_cases q : k = ps.length
    · rw [if_pos q, q]
      unfold at0; rw [List.getD_eq_getElem?_getD, List.getElem?_append_right (Nat.le_refl _), Nat.sub_self]; rfl
    · rw [if_neg q, r.2.2 k (by omega)]
      unfold at0; rw [List.getD_eq_getElem?_getD, List.getD_eq_getElem?_getD, List.getElem?_append_left (by omega)]
theorem C_one56 (h : sm_H) (x : Int32) : ∃ h1, F_140 56 x h = some (56, h1) ∧ hasL h1 56 57 [x] ∧ agr S56 h h1 := by
  have r : hasL (sm_wI h 56 1 0) 56 57 [] := ⟨rfl, by decide, fun k hk => by cases hk⟩
  obtain ⟨h1, c1, c2, c3⟩ := C_app56 r (by decide) x
  refine ⟨h1, ?_, c2, agr_trans (agr_wI agr_rfl (Or.inl ⟨rfl, rfl⟩)) c3⟩
  show F_140_0 56 x h = _
  unfold F_140_0
  rw [if_neg (not_not_intro (show sm_is G0 h 56 5 = true from rfl)), show F_138 56 h = some (sm_wI h 56 1 0) from rfl]; simp only [obs]
  rw [if_neg (not_not_intro (show sm_is G0 (sm_wI h 56 1 0) 56 5 = true from rfl)), c1]; rfl
theorem C_two56 (h : sm_H) (x y : Int32) : ∃ h1, F_141 56 x y h = some (56, h1) ∧ hasL h1 56 57 [x, y] ∧ agr S56 h h1 := by
  have r : hasL (sm_wI h 56 1 0) 56 57 [] := ⟨rfl, by decide, fun k hk => by cases hk⟩
  obtain ⟨h1, c1, c2, c3⟩ := C_app56 r (by decide) x
  obtain ⟨h2, d1, d2, d3⟩ := C_app56 c2 (by simp) y
  refine ⟨h2, ?_, d2, agr_trans (agr_trans (agr_wI agr_rfl (Or.inl ⟨rfl, rfl⟩)) c3) d3⟩
  show F_141_0 56 x y h = _
  unfold F_141_0
  rw [if_neg (not_not_intro (show sm_is G0 h 56 5 = true from rfl)), show F_138 56 h = some (sm_wI h 56 1 0) from rfl]; simp only [obs]
  rw [if_neg (not_not_intro (show sm_is G0 (sm_wI h 56 1 0) 56 5 = true from rfl)), c1]; simp only [obs]
  rw [if_neg (not_not_intro (show sm_is G0 h1 56 5 = true from rfl)), d1]; rfl
abbrev SCq (b j : Nat) : Prop := SCb b j ∨ b = 56 ∨ b = 57 ∨ (b = 55 ∧ (j = 17 ∨ j = 18))
abbrev SRq (b j : Nat) : Prop := SRb b j ∨ (b = 67 ∧ (j = 77 ∨ j = 78))
def TK (h g h1 g1 : sm_H) : Prop := K1 h1 g1 ∧ ext g g1 ∧ grow g g1 ∧ agr SCq h h1 ∧ agr SRq g g1
theorem TK_mk {h g h1 g1 : sm_H} (k : K1 h1 g1) (e : ext g g1) (r : grow g g1) (c : agr SCq h h1) (a : agr SRq g g1) : TK h g h1 g1 := ⟨k, e, r, c, a⟩
theorem TK.k {h g h1 g1 : sm_H} (t : TK h g h1 g1) : K1 h1 g1 := t.1
theorem TK.e {h g h1 g1 : sm_H} (t : TK h g h1 g1) : ext g g1 := t.2.1
theorem TK.r {h g h1 g1 : sm_H} (t : TK h g h1 g1) : grow g g1 := t.2.2.1
theorem TK.c {h g h1 g1 : sm_H} (t : TK h g h1 g1) : agr SCq h h1 := t.2.2.2.1
theorem TK.a {h g h1 g1 : sm_H} (t : TK h g h1 g1) : agr SRq g g1 := t.2.2.2.2
theorem TK_rfl {h g : sm_H} (K : K1 h g) : TK h g h g := ⟨K, ext_rfl, grow_rfl, agr_rfl, agr_rfl⟩
theorem TK_trans {h g h1 g1 h2 g2 : sm_H} (a : TK h g h1 g1) (b : TK h1 g1 h2 g2) : TK h g h2 g2 := ⟨b.1, ext_trans a.2.1 b.2.1, grow_trans a.2.2.1 b.2.2.1, agr_trans a.2.2.2.1 b.2.2.2.1, agr_trans a.2.2.2.2 b.2.2.2.2⟩
theorem TK.hrs {h g h1 g1 : sm_H} (t : TK h g h1 g1) {h' : sm_H} (K : K1 h' g) {x : Nat} (hx : x < nH g) : hrs g1 x = hrs g x := ext_hrs K.2.2.2.2.1 t.e hx
theorem TK.hpl {h g h1 g1 : sm_H} (t : TK h g h1 g1) {h' : sm_H} (K : K1 h' g) {x : Nat} (hx : x < nH g) : hpl g1 x = hpl g x := ext_hpl K.2.2.2.2.1 t.e hx
theorem TK.nH {h g h1 g1 : sm_H} (t : TK h g h1 g1) {x : Nat} (hx : x < nH g) : x < nH g1 := Nat.lt_of_lt_of_le hx t.r.2.2.1
theorem TK.nC {h g h1 g1 : sm_H} (t : TK h g h1 g1) : CHandleHouseLaw_law_r9294_ac1f8b.nC g1 = CHandleHouseLaw_law_r9294_ac1f8b.nC g := by show tn _ = tn _; rw [t.a.1 67 6 (by unfold SRq SRb SRp SRh SRt; omega)]
def NF (h g : sm_H) : Prop := h.1 55 17 = 0 ∧ g.1 67 77 = 0
def FT (e pc : Nat) (h g : sm_H) : Prop := h.1 55 17 = I3 e ∧ h.1 55 18 = I3 pc ∧ g.1 67 77 = I3 e ∧ g.1 67 78 = I3 pc ∧ 1 ≤ e ∧ e ≤ 9
theorem K1_55 {h g : sm_H} (K : K1 h g) (j : Nat) (x : Int32) : K1 (sm_wI h 55 j x) g := by
  obtain ⟨wK, cK, wT, cT, wH, cH, wM, cM, cG, cO, cV, wX, cX, cXh, wF⟩ := K
  exact ⟨wK, cK, wT, cT, wH, cH, wM, cM, cG, cO, cV, wX, cX, cXh_fr (by repeat first | exact hi_rfl | refine hi_wI ?_ (by decide) | refine hi_wJ ?_ (by decide)) cXh, wF⟩
theorem K1_77 {h g : sm_H} (K : K1 h g) (x y : Int32) : K1 h (sm_wI (sm_wI g 67 77 x) 67 78 y) := by
  obtain ⟨wK, cK, wT, cT, wH, cH, wM, cM, cG, cO, cV, wX, cX, cXh, wF⟩ := K
  exact ⟨wK, cK, wT, cT, wH, cH, wM, cM, cG, cO, cV, wX, cX, cXh, wF⟩
theorem ext_77 (g : sm_H) (x y : Int32) : ext g (sm_wI (sm_wI g 67 77 x) 67 78 y) := by
  obtain ⟨c1, c2, c3, c4, c5, c6, c7, c8, c9, c10, c11⟩ := ext_rfl (g := g)
  exact ⟨c1, c2, c3, c4, c5, c6, c7, c8, c9, c10, c11⟩
theorem grow_77 (g : sm_H) (x y : Int32) : grow g (sm_wI (sm_wI g 67 77 x) 67 78 y) := by
  obtain ⟨c1, c2, c3, c4, c5⟩ := grow_rfl (g := g)
  exact ⟨c1, c2, c3, c4, c5⟩
theorem failB {h g : sm_H} (K : K1 h g) (nf : NF h g) {e pc : Nat} (e1 : 1 ≤ e) (e9 : e ≤ 9) : ∃ h2 g2, F_169 (I3 e) (I3 pc) h = some (-1, h2) ∧ F_413 (I3 e) (I3 pc) g = some (0, g2) ∧ TK h g h2 g2 ∧ FT e pc h2 g2 := by
  refine ⟨sm_wI (sm_wI h 55 17 (I3 e)) 55 18 (I3 pc), sm_wI (sm_wI g 67 77 (I3 e)) 67 78 (I3 pc), ?_, ?_, TK_mk (K1_77 (K1_55 (K1_55 K _ _) _ _) _ _) (ext_77 _ _ _) (grow_77 _ _ _) (agr_wI (agr_wI agr_rfl (by unfold SCq; omega)) (by unfold SCq; omega)) (agr_wI (agr_wI agr_rfl (by unfold SRq; omega)) (by unfold SRq; omega)), rfl, rfl, rfl, rfl, e1, e9⟩
  · show F_169_0 (I3 e) (I3 pc) h = _
    unfold F_169_0
    rw [if_pos nf.1]; rfl
  · show F_413_0 (I3 e) (I3 pc) g = _
    unfold F_413_0
    rw [if_pos nf.2]; rfl
theorem TK_fail {h g h1 g1 : sm_H} (t : TK h g h1 g1) (nf : NF h1 g1) {e pc : Nat} (e1 : 1 ≤ e) (e9 : e ≤ 9) : ∃ h2 g2, F_169 (I3 e) (I3 pc) h1 = some (-1, h2) ∧ F_413 (I3 e) (I3 pc) g1 = some (0, g2) ∧ TK h g h2 g2 ∧ FT e pc h2 g2 := by
  obtain ⟨h2, g2, a, b, c, d⟩ := failB t.k nf (pc := pc) e1 e9
  exact ⟨h2, g2, a, b, TK_trans t c, d⟩
theorem NF_agr {h g h1 g1 : sm_H} {S S' : Nat → Nat → Prop} (n : NF h g) (a : agr S h h1) (b : agr S' g g1) (z1 : ¬ S 55 17) (z2 : ¬ S' 67 77) : NF h1 g1 := ⟨(a.1 55 17 z1).trans n.1, (b.1 67 77 z2).trans n.2⟩
def MkO (h g : sm_H) (pc : Nat) (rc rr : Option (Int32 × sm_H)) (r : Int32) (l : List Int32) : Prop :=
  (∃ y h1 g1, rc = some (I3 y, h1) ∧ rr = some (I3 y, g1) ∧ y < nH g1 ∧ hrs g1 y = r ∧ hpl g1 y = l ∧ TK h g h1 g1 ∧ NF h1 g1) ∨ ∃ e h1 g1, rc = some (-1, h1) ∧ rr = some (-1, g1) ∧ TK h g h1 g1 ∧ FT e pc h1 g1
def TyO (h g : sm_H) (pc : Nat) (rc rr : Option (Int32 × sm_H)) (r : Int32) (l : List Int32) : Prop :=
  (∃ t h1 g1, rc = some (I3 t, h1) ∧ rr = some (I3 t, g1) ∧ t < nT g1 ∧ rs g1 t = r ∧ pl g1 t = l ∧ l.length ≤ 10 ∧ TK h g h1 g1 ∧ NF h1 g1) ∨ ∃ e h1 g1, rc = some (-1, h1) ∧ rr = some (-1, g1) ∧ TK h g h1 g1 ∧ FT e pc h1 g1
def SCO (nm : Nat → Int64) (kd : List Int32) (h g : sm_H) : Prop := h.1 55 9 = I3 kd.length ∧ kd.length ≤ 13 ∧ g.1 67 94 = I3 (400 - kd.length) ∧ kL g kd ∧ ∀ i, i < kd.length → h.2.1 58 i = nm i ∧ h.1 59 i = at0 kd i ∧ g.2.1 117 (400 - kd.length + i) = nm i ∧ g.1 118 (400 - kd.length + i) = at0 kd i
theorem kL_grow {g g1 : sm_H} {l : List Int32} (h : nC g ≤ nC g1) (k : kL g l) : kL g1 l := fun i hi => by
  obtain ⟨q, q1, q2, q3⟩ := k i hi
  exact ⟨q, q1, q2, by omega⟩
theorem SCO_agr {nm : Nat → Int64} {kd : List Int32} {h g h1 g1 : sm_H} (S : SCO nm kd h g) {P Q : Nat → Nat → Prop} (a : agr P h h1) (b : agr Q g g1) (nc : nC g ≤ nC g1) (p : ∀ b j, P b j → ¬ (b = 55 ∧ j = 9 ∨ b = 58 ∨ b = 59)) (q : ∀ b j, Q b j → ¬ (b = 67 ∧ j = 94 ∨ b = 117 ∨ b = 118)) : SCO nm kd h1 g1 := by
  obtain ⟨s1, s2, s3, s4, s5⟩ := S
  refine ⟨(a.1 55 9 (fun z => p _ _ z (by omega))).trans s1, s2, (b.1 67 94 (fun z => q _ _ z (by omega))).trans s3, kL_grow nc s4, fun i hi => ?_⟩
  rw [a.2.1 58 i (fun z => p _ _ z (by omega)), a.1 59 i (fun z => p _ _ z (by omega)), b.2.1 117 _ (fun z => q _ _ z (by omega)), b.1 118 _ (fun z => q _ _ z (by omega))]
  exact s5 i hi
theorem SCO_TK {nm : Nat → Int64} {kd : List Int32} {h g h1 g1 : sm_H} (S : SCO nm kd h g) (t : TK h g h1 g1) : SCO nm kd h1 g1 := SCO_agr S t.c t.a (Nat.le_of_eq t.nC.symm) (fun b j z => by unfold SCq SCb Ssc SCd SCh SCt at z; omega) (fun b j z => by unfold SRq SRb SRp SRh SRt at z; omega)
theorem TK_d {h g u v : sm_H} (K : K1 h g) (a : agr SCd h u) (b : agr SRd g v) : TK h g u v := by
  have E := ext_eq (okR_SRp (agr_mono SRd_p b))
  exact TK_mk (K1_g (K1_h K (agr_mono SCd_not a)) (agr_mono SRd_not b)) E.1 E.2.1 (agr_mono (fun _ _ z => Or.inl (Or.inl (Or.inl z))) a) (agr_mono (fun _ _ z => Or.inl (Or.inl (SRd_p _ _ z))) b)
theorem scopeTy {h g : sm_H} {nm : Nat → Int64} {kd : List Int32} (K : K1 h g) (S : SCO nm kd h g) (nf : NF h g) {pc : Nat} (wh : g.1 67 106 = I3 pc) {r : Int32} (kr : kR1 g r) : TyO h g pc (F_185 r (I3 pc) h) (F_428 r g) r kd := by
  obtain ⟨s1, s2, s3, s4, s5⟩ := S
  have CL : ∀ k, k ≤ kd.length → ∃ u, F_185 r (I3 pc) h = lp F_185_9B (1000000 - k) (r, I3 pc, I3 k, u) ∧ dC u (kd.take k) ∧ agr SCd h u := by
    intro k
    induction k with
    | zero =>
      intro _
      obtain ⟨u, b1, b2', b3⟩ := C_begin h
      refine ⟨u, ?_, b2', b3⟩
      show F_185_0 r (I3 pc) h = _
      unfold F_185_0
      rw [b1]; rfl
    | succ k ih =>
      intro hk
      obtain ⟨u, e1, d1, a1⟩ := ih (by omega)
      obtain ⟨u2, c1, c2, c3⟩ := C_with d1 (by rw [List.length_take]; omega) (at0 kd k)
      refine ⟨u2, ?_, ?_, agr_trans a1 c3⟩
      · rw [e1, lp_s (s' := (r, I3 pc, I3 (k + 1), u2)) (by omega) ?_]
        · rw [show 1000000 - k - 1 = 1000000 - (k + 1) by omega]
        · unfold F_185_9B
          rw [if_neg (by rw [a1.1 55 9 (by unfold SCd; omega), s1, I3_le (by omega) (by omega)]; omega), if_neg (by rw [I3_lit, I3_le (by decide) (by omega)]; omega), ldI_I (by omega) (by decide), a1.1 59 k (by unfold SCd; omega), (s5 k (by omega)).2.1]; simp only [obs]
          rw [c1]; simp only [obs]
          rw [show I3 k + 1 = I3 (k + 1) from I3_add k 1]
      · rw [List.take_succ_eq_append_getElem (by omega), ← at0_get (by omega)]; exact c2
  obtain ⟨u, e1, d1, a1⟩ := CL kd.length (Nat.le_refl _)
  rw [List.take_length] at d1
  have C0 : F_185 r (I3 pc) h = F_185_42 r (I3 pc) u := by
    rw [e1, lp_oK (by omega)]
    unfold F_185_9B
    rw [if_pos (by rw [a1.1 55 9 (by unfold SCd; omega), s1, I3_le (by omega) (by omega)]; omega)]
    cases F_185_42 r (I3 pc) u <;> rfl
  have RL : ∀ k, k ≤ kd.length → k ≤ 11 → ∃ v, F_428 r g = lp F_428_15B (1000000 - k) (I3 (400 - kd.length + k), v) ∧ dR v (kd.take k) ∧ agr SRd g v ∧ v.1 67 20 = r := by
    intro k
    induction k with
    | zero =>
      intro _ _
      refine ⟨sm_wI (sm_wI g 67 20 r) 67 21 0, ?_, ⟨rfl, fun i hi => by cases hi⟩, agr_wI (agr_wI agr_rfl (by unfold SRd; omega)) (by unfold SRd; omega), rfl⟩
      show F_428_0 r g = _
      unfold F_428_0
      simp only [obs]
      rw [show (sm_wI (sm_wI g 67 20 r) 67 21 0).1 67 94 = g.1 67 94 from rfl, s3]; rfl
    | succ k ih =>
      intro hk hk11
      obtain ⟨v, e1, d1, a1, r1⟩ := ih (by omega) (by omega)
      have tl : (kd.take k).length = k := by rw [List.length_take]; omega
      obtain ⟨v2, c1, c2, c3, c4⟩ := R_addNew d1 (by omega) (at0 kd k)
      refine ⟨v2, ?_, ?_, agr_trans a1 c3, c4.trans r1⟩
      · rw [e1, lp_s (s' := (I3 (400 - kd.length + (k + 1)), v2)) (by omega) ?_]
        · rw [show 1000000 - k - 1 = 1000000 - (k + 1) by omega]
        · unfold F_428_15B
          rw [if_neg (by rw [I3_lit, I3_le (by decide) (by omega)]; omega), d1.1, tl, if_neg (by rw [I3_lit, I3_le (by decide) (by omega)]; omega), ldI_I (by omega) (by decide), a1.1 118 _ (by unfold SRd; omega), (s5 k (by omega)).2.2.2]; simp only [obs]
          rw [c1]; simp only [obs]
          rw [show I3 (400 - kd.length + k) + 1 = I3 (400 - kd.length + (k + 1)) from I3_add _ 1]
      · rw [List.take_succ_eq_append_getElem (by omega), ← at0_get (by omega)]; exact c2
  have fin : ∀ (v : sm_H) (l : List Int32), l = kd.take 11 → dR v l → agr SRd g v → v.1 67 20 = r → F_428 r g = F_428_47 v → TyO h g pc (F_185 r (I3 pc) h) (F_428 r g) r kd := fun v l hl d2 a2 r2 R0 => by
    have T0 := TK_d K a1 a2
    have n0 : NF u v := NF_agr nf a1 a2 (by unfold SCd; omega) (by unfold SRd; omega)
    have nCe : nC v = nC g := T0.nC
    have wh' : v.1 67 106 = I3 pc := (a2.1 67 106 (by unfold SRd; omega)).trans wh
    have no : ¬ (kd.length ≤ 10 ∧ (nT v < 300 ∨ fT v r kd < nT v)) → TyO h g pc (F_185 r (I3 pc) h) (F_428 r g) r kd := fun z => by
      have z1 := C_settle0 T0.k.2.2.1 T0.k.2.2.2.1 d1 (by omega) r z
      have z2 : F_302 v = some (-1, v) := by
        by_cases q : kd.length ≤ 10
        · have : l = kd := by rw [hl, List.take_of_length_le (by omega)]
          rw [this] at d2
          exact R_made0 T0.k.2.2.1 d2 (by omega) r2 z
        · exact R_made0 T0.k.2.2.1 d2 (by rw [hl, List.length_take]; omega) r2 (by rw [hl, List.length_take]; omega)
      obtain ⟨h2, g2, f1, f2, f3, f4⟩ := TK_fail T0 n0 (e := 8) (pc := pc) (by decide) (by decide)
      refine Or.inr ⟨8, h2, g2, ?_, ?_, f3, f4⟩
      · rw [C0]
        unfold F_185_42 F_185_67
        rw [z1]; simp only [obs]
        rw [if_pos trivial, show F_169 8 (I3 pc) u = some (-1, h2) from f1]; rfl
      · rw [R0]
        unfold F_428_47 F_428_68
        rw [z2]; simp only [obs]
        rw [if_pos trivial, wh', show F_413 8 (I3 pc) v = some (0, g2) from f2]; rfl
    by_cases c : kd.length ≤ 10 ∧ (nT v < 300 ∨ fT v r kd < nT v)
    · have : l = kd := by rw [hl, List.take_of_length_le (by omega)]
      rw [this] at d2
      have w300 : nT v ≤ 300 := T0.k.2.2.1.1.2
      have kr' : kR1 v r := by
        obtain ⟨q, q1, q2⟩ := kr
        exact ⟨q, q1, by rw [nCe]; exact q2⟩
      obtain ⟨h3, g3, t1, t2, t3, t4, t5, t6, t7, t8, t9⟩ := settled T0.k d1 d2 r2 c.1 c.2 kr' (kL_grow (Nat.le_of_eq nCe.symm) s4)
      have tl : fT v r kd < 2147483648 := by
        have w3 : nT g3 ≤ 300 := t3.2.2.1.1.2
        have := t7.1
        omega
      obtain ⟨y1, y2⟩ := isTy_pl t7 (by omega)
      refine Or.inl ⟨fT v r kd, h3, g3, ?_, ?_, t7.1, y1, y2, c.1, TK_trans T0 (TK_mk t3 t4 t5 (agr_mono (fun _ _ z => Or.inl (Or.inr (Or.inl z))) t8) (agr_mono (fun _ _ z => Or.inl (Or.inr (Or.inl z))) t9)), NF_agr n0 t8 t9 (by unfold SCt; omega) (by unfold SRt; omega)⟩
      · rw [C0]
        unfold F_185_42 F_185_67
        rw [t1]; simp only [obs]
        rw [if_neg (I3_m1 tl)]
      · rw [R0]
        unfold F_428_47 F_428_68
        rw [t2]; simp only [obs]
        rw [if_neg (I3_m1 tl)]
    · exact no c
  by_cases q : kd.length ≤ 11
  · obtain ⟨v, e2, d2, a2, r2⟩ := RL kd.length (Nat.le_refl _) q
    refine fin v _ ?_ d2 a2 r2 ?_
    · rw [List.take_length, List.take_of_length_le q]
    · rw [e2, lp_oK (by omega)]
      unfold F_428_15B
      rw [if_pos (by rw [I3_lit, I3_le (by decide) (by omega)]; omega)]
      cases F_428_47 v <;> rfl
  · obtain ⟨v, e2, d2, a2, r2⟩ := RL 11 (by omega) (Nat.le_refl _)
    refine fin v _ rfl d2 a2 r2 ?_
    have tl : (kd.take 11).length = 11 := by rw [List.length_take]; omega
    rw [e2, lp_oK (by omega)]
    unfold F_428_15B
    rw [if_neg (by rw [I3_lit, I3_le (by decide) (by omega)]; omega), if_pos (by rw [d2.1, tl]; decide)]
    cases F_428_47 v <;> rfl
theorem mkForm {h g : sm_H} (K : K1 h g) (nf : NF h g) {pc f : Nat} (wh : g.1 67 106 = I3 pc) (a b : Int32) (c : Int64) {ps : List Int32} (R : hasL h 56 57 ps) (P : prR g ps) (uf : f = 0 ∨ f = 2 ∨ f = 3 ∨ f = 4 ∨ f = 5 ∨ f = 8 ∨ f = 12 ∨ f = 13 ∨ f = 14 ∨ f = 15 ∨ f = 18 ∨ f = 19 ∨ f = 20 ∨ f = 21 ∨ f = 22 ∨ f = 23 ∨ f = 29 ∨ f = 31 ∨ f = 32 ∨ f = 33 ∨ f = 34) {r : Int32} {l : List Int32} (l64 : l.length ≤ 64) (ck : Ck (sm_wI g 67 19 0) f a b c r l) :
    (∃ y h1 g1, F_5 (I3 f) a b c 56 h = some (I3 y, h1) ∧ F_429 (I3 f) a b c g = some (I3 y, g1) ∧ y < nH g1 ∧ hrs g1 y = r ∧ hpl g1 y = l ∧ TK h g h1 g1 ∧ NF h1 g1) ∨ ∃ w' h1 h2 g2, w' < 0 ∧ F_5 (I3 f) a b c 56 h = some (w', h1) ∧ F_169 8 (I3 pc) h1 = some (-1, h2) ∧ F_429 (I3 f) a b c g = some (-1, g2) ∧ TK h g h2 g2 ∧ FT 8 pc h2 g2 := by
  obtain ⟨v, w', h1, g1, b1, b2', b3, b4, b5, b6, b7, b8⟩ := build2 K a b c rw56 (Or.inr (Or.inl ⟨rfl, rfl⟩)) (by decide) R P uf l64 ck
  have T : TK h g h1 g1 := TK_mk b3 b4 b5 (agr_mono (fun _ _ z => Or.inl z) b6) (agr_mono (fun _ _ z => Or.inl z) b7)
  have n1 : NF h1 g1 := NF_agr nf b6 b7 (by unfold SCb Ssc SCd SCh SCt; omega) (by unfold SRb SRp SRh SRt; omega)
  have w500 : nH g1 ≤ 500 := b3.2.2.2.2.1.1.2
  have R0 : F_429 (I3 f) a b c g = F_429_0 (I3 f) a b c g := rfl
  unfold F_429_0 F_429_42 F_429_50 at R0
  rw [if_pos nf.2, b2'] at R0; simp only [obs] at R0
  rcases b8 with ⟨e, e1, e2, rfl, rfl, e4⟩ | ⟨y, y1, rfl, rfl, y3, y4⟩
  · right
    obtain ⟨h2, g2, f1, f2, f3, f4⟩ := TK_fail T n1 (e := 8) (pc := pc) (by decide) (by decide)
    refine ⟨-I3 e, h1, h2, g2, ?_, b1, f1, ?_, f3, f4⟩
    · rcases (show e = 4 ∨ e = 5 by omega) with rfl | rfl <;> decide
    · rw [if_pos rfl, e4, if_neg (by rw [I3_lit, I3_le (by omega) (by decide)]; omega), show g1.1 67 106 = I3 pc from (b7.1 67 106 (by unfold SRb SRp SRh SRt; omega)).trans wh, show F_413 8 (I3 pc) g1 = some (0, g2) from f2] at R0
      exact R0
  · left
    rw [if_neg (I3_m1 (by omega))] at R0
    exact ⟨y, h1, g1, b1, R0, y1, y3, y4, T, n1⟩
