abbrev XCc (T b j : Nat) : Prop := SCq b j ∨ Ssp b j ∨ S52 b j ∨ ((b = 60 ∨ b = 61) ∧ T ≤ j) ∨ (b = 55 ∧ (j = 12 ∨ j = 16))
abbrev XRc (k b j : Nat) : Prop := SRa b j ∨ Ssr b j ∨ SLx b j ∨ (b = 67 ∧ (j = 86 ∨ j = 102 ∨ j = 105 ∨ j = 106 ∨ j = 108)) ∨ (119 ≤ b ∧ b ≤ 124 ∧ k ≤ j) ∨ (b = 125 ∧ 20 * k ≤ j) ∨ (b = 126 ∧ 3 * k ≤ j)
def XT (T k : Nat) (h g h1 g1 : sm_H) : Prop := K1 h1 g1 ∧ ext g g1 ∧ grow g g1 ∧ agr (XCc T) h h1 ∧ agr (XRc k) g g1 ∧ (NL h → NL h1)
section
variable {T k : Nat} {h g h1 g1 h2 g2 : sm_H}
theorem XT.k1 (t : XT T k h g h1 g1) : K1 h1 g1 := t.1
theorem XT.e (t : XT T k h g h1 g1) : ext g g1 := t.2.1
theorem XT.r (t : XT T k h g h1 g1) : grow g g1 := t.2.2.1
theorem XT.c (t : XT T k h g h1 g1) : agr (XCc T) h h1 := t.2.2.2.1
theorem XT.a (t : XT T k h g h1 g1) : agr (XRc k) g g1 := t.2.2.2.2.1
theorem XT.l (t : XT T k h g h1 g1) : NL h → NL h1 := t.2.2.2.2.2
theorem XT_rfl (K : K1 h g) : XT T k h g h g := ⟨K, ext_rfl, grow_rfl, agr_rfl, agr_rfl, fun z => z⟩
theorem XT_trans (a : XT T k h g h1 g1) (b : XT T k h1 g1 h2 g2) : XT T k h g h2 g2 := ⟨b.1, ext_trans a.2.1 b.2.1, grow_trans a.2.2.1 b.2.2.1, agr_trans a.2.2.2.1 b.2.2.2.1, agr_trans a.2.2.2.2.1 b.2.2.2.2.1, fun z => b.2.2.2.2.2 (a.2.2.2.2.2 z)⟩
theorem XT_mono {T' k' : Nat} (hT : T' ≤ T) (hk : k' ≤ k) (t : XT T k h g h1 g1) : XT T' k' h g h1 g1 := ⟨t.1, t.2.1, t.2.2.1, agr_mono (fun b j z => by
  rcases z with z | z | z | z | z
  · exact Or.inl z
  · exact Or.inr (Or.inl z)
  · exact Or.inr (Or.inr (Or.inl z))
  · exact Or.inr (Or.inr (Or.inr (Or.inl ⟨z.1, Nat.le_trans hT z.2⟩)))
  · exact Or.inr (Or.inr (Or.inr (Or.inr z)))) t.2.2.2.1, agr_mono (fun b j z => by
  rcases z with z | z | z | z | z | z | z
  · exact Or.inl z
  · exact Or.inr (Or.inl z)
  · exact Or.inr (Or.inr (Or.inl z))
  · exact Or.inr (Or.inr (Or.inr (Or.inl z)))
  · exact Or.inr (Or.inr (Or.inr (Or.inr (Or.inl ⟨z.1, z.2.1, Nat.le_trans hk z.2.2⟩))))
  · exact Or.inr (Or.inr (Or.inr (Or.inr (Or.inr (Or.inl ⟨z.1, by omega⟩)))))
  · exact Or.inr (Or.inr (Or.inr (Or.inr (Or.inr (Or.inr ⟨z.1, by omega⟩)))))) t.2.2.2.2.1, t.2.2.2.2.2⟩
theorem XT.hrs (t : XT T k h g h1 g1) {h' : sm_H} (K : K1 h' g) {x : Nat} (hx : x < nH g) : hrs g1 x = hrs g x := ext_hrs K.2.2.2.2.1 t.e hx
theorem XT.hpl (t : XT T k h g h1 g1) {h' : sm_H} (K : K1 h' g) {x : Nat} (hx : x < nH g) : hpl g1 x = hpl g x := ext_hpl K.2.2.2.2.1 t.e hx
theorem XT.nH (t : XT T k h g h1 g1) {x : Nat} (hx : x < nH g) : x < nH g1 := Nat.lt_of_lt_of_le hx t.r.2.2.1
theorem XT_TW (t : TW T h g h1 g1) (l : NL h → NL h1) : XT T k h g h1 g1 := ⟨t.1, t.2.1, t.2.2.1, agr_mono (fun b j z => by
  rcases z with (z | z) | z
  · exact Or.inl z
  · exact Or.inr (Or.inr (Or.inr (Or.inl ⟨Or.inl z.1, z.2⟩)))
  · exact Or.inr (Or.inl z)) t.2.2.2.1, agr_mono (fun b j z => by
  rcases z with z | z
  · exact Or.inl z
  · exact Or.inr (Or.inl z)) t.2.2.2.2, l⟩
theorem XT_TB (t : TB T h g h1 g1) : XT T k h g h1 g1 := XT_TW (TW_of t) (fun ⟨l, l1, l2⟩ => ⟨l, l1, (t.c.1 55 9 (by unfold SCq SCb Ssc SCd SCh SCt; omega)).trans l2⟩)
theorem XT_TK (t : TK h g h1 g1) : XT T k h g h1 g1 := XT_TB (TB_of t)
abbrev Sxc (T b j : Nat) : Prop := S52 b j ∨ ((b = 60 ∨ b = 61) ∧ T ≤ j) ∨ (b = 55 ∧ (j = 12 ∨ j = 16))
abbrev Sxr (k b j : Nat) : Prop := SLx b j ∨ (b = 67 ∧ (j = 86 ∨ j = 102 ∨ j = 105 ∨ j = 106 ∨ j = 108)) ∨ (119 ≤ b ∧ b ≤ 124 ∧ k ≤ j) ∨ (b = 125 ∧ 20 * k ≤ j) ∨ (b = 126 ∧ 3 * k ≤ j)
theorem okC52 (j : Nat) (h : 3 ≤ j) : okC 52 j = false := by
  have e : Nat.ble 3 j = true := Nat.ble_eq.mpr h
  unfold okC
  rw [e]; rfl
theorem Sxc_not (b j : Nat) (z : Sxc T b j) : notC b j := by
  rcases z with ⟨rfl, z⟩ | ⟨rfl | rfl, -⟩ | ⟨rfl, rfl | rfl⟩
  · exact okC52 j z
  all_goals rfl
theorem Sxr_not (b j : Nat) (z : Sxr k b j) : notR b j := by
  rcases z with ⟨rfl, z1, z2⟩ | ⟨rfl, rfl | rfl | rfl | rfl | rfl⟩ | ⟨z1, z2, -⟩ | ⟨rfl, -⟩ | ⟨rfl, -⟩
  · rcases (show j = 79 ∨ j = 80 ∨ j = 81 ∨ j = 82 ∨ j = 83 ∨ j = 84 ∨ j = 85 by omega) with rfl | rfl | rfl | rfl | rfl | rfl | rfl <;> rfl
  all_goals first
    | rfl
    | (rcases (show b = 119 ∨ b = 120 ∨ b = 121 ∨ b = 122 ∨ b = 123 ∨ b = 124 by omega) with rfl | rfl | rfl | rfl | rfl | rfl <;> rfl)
theorem XT_x (K : K1 h g) (a : agr (Sxc T) h h1) (b : agr (Sxr k) g g1) : XT T k h g h1 g1 := by
  have E := ext_eq (ok_of_not Sxr_not b)
  exact ⟨K1_g (K1_h K (agr_mono Sxc_not a)) (agr_mono Sxr_not b), E.1, E.2.1, agr_mono (fun b j z => by
    rcases z with z | z | z
    · exact Or.inr (Or.inr (Or.inl z))
    · exact Or.inr (Or.inr (Or.inr (Or.inl z)))
    · exact Or.inr (Or.inr (Or.inr (Or.inr z)))) a, agr_mono (fun b j z => Or.inr (Or.inr z)) b, fun ⟨l, l1, l2⟩ => ⟨l, l1, (a.1 55 9 (by unfold Sxc S52; omega)).trans l2⟩⟩
end
abbrev Scl (b j : Nat) : Prop := S52 b j ∨ b = 55 ∧ j = 16
abbrev Srl (b j : Nat) : Prop := SLx b j ∨ b = 67 ∧ (j = 86 ∨ j = 105 ∨ j = 106 ∨ j = 108)
def CQ (Q : sm_H → sm_H → Prop) : Prop := ∀ h g h1 g1, Q h g → agr Scl h h1 → agr Srl g g1 → Q h1 g1
theorem CQ_T : CQ (fun _ _ => True) := fun _ _ _ _ _ _ _ => trivial
theorem CQ_S (nm : Nat → Int64) (kd : List Int32) : CQ (SCO nm kd) := fun h g h1 g1 s a b => SCO_agr s a b (Nat.le_of_eq (by show tn _ = tn _; rw [b.1 67 6 (by unfold Srl SLx; omega)])) (fun b j z => by unfold Scl S52 at z; omega) (fun b j z => by unfold Srl SLx at z; omega)
def TG (Q : sm_H → sm_H → Prop) (n : Nat) (bt : Nat → Nat) (T k : Nat) (h g : sm_H) : Prop := K1 h g ∧ NF h g ∧ Q h g ∧ (h.1 55 12 = I3 T ∧ T ≤ 200) ∧ g.1 67 102 = I3 k ∧ TXC n bt h ∧ TXR n bt g
abbrev TS (n : Nat) (bt : Nat → Nat) (T k : Nat) (nm : Nat → Int64) (kd : List Int32) (h g : sm_H) : Prop := TG (SCO nm kd) n bt T k h g
def RB (n : Nat) (bt : Nat → Nat) (f : Nat) (g : sm_H) : Prop := ∃ p, g.1 67 79 = I3 p ∧ p ≤ n ∧ sk n bt p = f
def CB (n : Nat) (bt : Nat → Nat) (f : Nat) (h : sm_H) : Prop := ∃ p, h.1 52 3 = I3 p ∧ p ≤ n ∧ sk n bt p = f
section
variable {n : Nat} {bt : Nat → Nat} {T k : Nat} {Q : sm_H → sm_H → Prop} {h g : sm_H}
theorem TG.K (s : TG Q n bt T k h g) : K1 h g := s.1
theorem TG.nf (s : TG Q n bt T k h g) : NF h g := s.2.1
theorem TG.S (s : TG Q n bt T k h g) : Q h g := s.2.2.1
theorem TG.t (s : TG Q n bt T k h g) : h.1 55 12 = I3 T ∧ T ≤ 200 := s.2.2.2.1
theorem TG.b (s : TG Q n bt T k h g) : g.1 67 102 = I3 k := s.2.2.2.2.1
theorem TG.xc (s : TG Q n bt T k h g) : TXC n bt h := s.2.2.2.2.2.1
theorem TG.xr (s : TG Q n bt T k h g) : TXR n bt g := s.2.2.2.2.2.2
theorem RB_n {f : Nat} (r : RB n bt f g) : f ≤ n := by
  obtain ⟨p, -, p2, p3⟩ := r
  rw [← p3]; exact far_le _ _ _ _ p2
theorem RB_sk {f : Nat} (r : RB n bt f g) : sk n bt f = f := by
  obtain ⟨p, -, -, p3⟩ := r
  rw [← p3]; exact sk_sk _ _ _
theorem TS_x {T' k' : Nat} (s : TG Q n bt T k h g) {h1 g1 : sm_H} (a : agr S52 h h1) (b : agr (fun b j => SLx b j ∨ (b = 67 ∧ (j = 105 ∨ j = 106 ∨ j = 108))) g g1) (cq : CQ Q := by first | assumption | exact CQ_S _ _ | exact CQ_T) : TG Q n bt T k h1 g1 ∧ XT T' k' h g h1 g1 := by
  have X : XT T' k' h g h1 g1 := XT_x s.K (agr_mono (fun b j z => Or.inl z) a) (agr_mono (fun b j z => by
    rcases z with z | ⟨z1, z2⟩
    · exact Or.inl z
    · exact Or.inr (Or.inl ⟨z1, by omega⟩)) b)
  refine ⟨⟨X.k1, NF_agr s.nf a b (by unfold S52; omega) (by unfold SLx; omega), cq _ _ _ _ s.S (agr_mono (fun b j z => Or.inl z) a) (agr_mono (fun b j z => by
    rcases z with z | z
    · exact Or.inl z
    · exact Or.inr ⟨z.1, by omega⟩) b), ⟨(a.1 55 12 (by unfold S52; omega)).trans s.t.1, s.t.2⟩, (b.1 67 102 (by unfold SLx; omega)).trans s.b, TXC_52 s.xc a, TXR_agr s.xr b (fun b j z => by unfold SLx at z; omega)⟩, X⟩
theorem step_C (s : TG Q n bt T k h g) {f : Nat} (c : CB n bt f h) (cq : CQ Q := by first | assumption | exact CQ_S _ _ | exact CQ_T) : ∃ h1, F_249 h = some (I3 (wrd n bt f), h1) ∧ LXC n bt f h1 ∧ TG Q n bt T k h1 g ∧ agr S52 h h1 := by
  obtain ⟨p, p1, p2, p3⟩ := c
  obtain ⟨h1, a, b, d⟩ := C_step s.xc p1 p2
  rw [p3] at a b
  exact ⟨h1, a, b, (TS_x (T' := 0) (k' := 0) s d agr_rfl).1, d⟩
theorem look_R (s : TG Q n bt T k h g) {f : Nat} (r : RB n bt f g) (cq : CQ Q := by first | assumption | exact CQ_S _ _ | exact CQ_T) : ∃ g1, TG Q n bt T k h g1 ∧ agr SLx g g1 ∧ RB n bt f g1 ∧ g1.1 67 81 = I3 f ∧ (if wrd n bt f = 6 then F_418 g = F_413 (I3 (wtr n bt f)) (I3 f) g1 else F_418 g = some (1, g1) ∧ LXR n bt f g1) := by
  have fn := RB_n r
  have fs := RB_sk r
  obtain ⟨p, p1, p2, p3⟩ := r
  obtain ⟨g1, a, b, c, d⟩ := R_look s.xr p1 p2
  rw [p3] at b c d
  exact ⟨g1, (TS_x (T' := 0) (k' := 0) s agr_rfl (agr_mono (fun b j z => Or.inl z) a)).1, a, ⟨f, b, fn, fs⟩, c, d⟩
theorem wen_n {f : Nat} (fn : f ≤ n) : wen n bt f ≤ n ∧ f ≤ wen n bt f ∧ (wrd n bt f ≠ 0 → wrd n bt f ≠ 6 → f < wen n bt f) := by
  have far1 : ∀ (p : Nat → Bool) (i : Nat), i < n → p i = true → i < far p n n i := fun p i hi hp => by
    cases hn : n with
    | zero => omega
    | succ m =>
      unfold far
      rw [if_pos ⟨by omega, hp⟩]
      exact far_ge p (m + 1) m (i + 1)
  unfold wen
  by_cases q : n ≤ f
  · rw [if_pos q]
    exact ⟨fn, Nat.le_refl _, fun z => absurd (by unfold wrd; rw [if_pos q]) z⟩
  rw [if_neg q]
  by_cases hN : isN n bt f = true
  · rw [if_pos hN]
    have hc : bt f = 45 ∧ (f + 1 < n ∧ isD (bt (f + 1)) = true) ∨ isD (bt f) = true := by
      have hN' := hN
      unfold isN at hN'
      rw [Bool.or_eq_true, Bool.and_eq_true, Bool.and_eq_true, decide_eq_true_iff, decide_eq_true_iff] at hN'
      rcases hN' with z | z
      · exact Or.inr z
      · exact Or.inl ⟨z.1, z.2⟩
    have sn : nst bt f ≤ n ∧ f ≤ nst bt f := by
      unfold nst
      by_cases w : bt f = 45
      · rw [if_pos w]; omega
      · rw [if_neg w]; omega
    have e1 : nst bt f ≤ nen n bt f := far_ge _ _ _ _
    have e2 : nen n bt f ≤ n := far_le _ _ _ _ sn.1
    have e3 : f < nen n bt f := by
      rcases hc with ⟨c1, c2, c3⟩ | c1
      · have : nst bt f = f + 1 := by unfold nst; rw [if_pos c1]
        omega
      · have n45 : ¬ bt f = 45 := fun z => by rw [z] at c1; exact absurd c1 (by decide)
        have : nst bt f = f := by unfold nst; rw [if_neg n45]
        have := far1 (fun j => isD (bt j)) f (by omega) c1
        unfold nen; rw [‹nst bt f = f›]; exact this
    by_cases il : isl n bt f = true
    · rw [if_pos il]
      have := (isl_c.mp il).1
      exact ⟨by omega, by omega, fun _ _ => by omega⟩
    · rw [if_neg il]
      exact ⟨e2, by omega, fun _ _ => e3⟩
  · rw [if_neg hN]
    by_cases hL : isL (bt f) = true
    · rw [if_pos hL]
      have := far1 (fun j => isL (bt j) || isD (bt j)) f (by omega) (by show (isL (bt f) || isD (bt f)) = true; rw [hL]; rfl)
      exact ⟨far_le _ _ _ _ fn, far_ge _ _ _ _, fun _ _ => this⟩
    · rw [if_neg hL]
      exact ⟨by omega, by omega, fun _ _ => by omega⟩
def nx (n : Nat) (bt : Nat → Nat) (f : Nat) : Nat := sk n bt (wen n bt f)
theorem CB_nx {f : Nat} (fn : f ≤ n) (l : LXC n bt f h) (w : wrd n bt f ≠ 6) : CB n bt (nx n bt f) h := ⟨wen n bt f, l.2.2.2.1 w, (wen_n fn).1, rfl⟩
theorem take_R (s : TG Q n bt T k h g) {f : Nat} (fn : f ≤ n) (l : LXR n bt f g) (cq : CQ Q := by first | assumption | exact CQ_S _ _ | exact CQ_T) : ∃ g1, F_420 g = some g1 ∧ RB n bt (nx n bt f) g1 ∧ TG Q n bt T k h g1 ∧ agr (fun b j => b = 67 ∧ j = 79) g g1 := by
  refine ⟨sm_wI g 67 79 (I3 (wen n bt f)), ?_, ⟨wen n bt f, rfl, (wen_n fn).1, rfl⟩, (TS_x (T' := 0) (k' := 0) s agr_rfl (agr_wI agr_rfl (Or.inl ⟨rfl, by omega, by omega⟩))).1, agr_wI agr_rfl ⟨rfl, rfl⟩⟩
  show F_420_0 g = _
  unfold F_420_0
  rw [l.2.2.2.1]; rfl
def er (n : Nat) (bt : Nat → Nat) (f : Nat) : Nat := if wrd n bt f = 6 then wtr n bt f else 4
theorem er_9 (n : Nat) (bt : Nat → Nat) (f : Nat) : 1 ≤ er n bt f ∧ er n bt f ≤ 9 := by
  unfold er wtr
  repeat' split
  all_goals omega
theorem wrd_6 (n : Nat) (bt : Nat → Nat) (f : Nat) : wrd n bt f ≤ 6 := by
  unfold wrd
  repeat' split
  all_goals omega
theorem wtr_3 (n : Nat) (bt : Nat → Nat) (f : Nat) : wtr n bt f ≤ 3 := by
  unfold wtr
  repeat' split
  all_goals omega
theorem C_170 {f : Nat} (l : LXC n bt f h) (e : Int32) : F_170 e h = F_169 e (I3 f) h := by
  show F_170_0 e h = _
  unfold F_170_0
  rw [show F_243 h = some (h.1 52 5, h) from rfl, l.1]; simp only [obs]
  exact bind_id _
def refE (rx : Int32) (K : sm_H → Option (Int32 × sm_H)) (g : sm_H) : Option (Int32 × sm_H) := (F_418 g).bind fun q1 => if q1.1 = 0 then some (0, q1.2) else (if (q1.2.1 67 80) = rx then K q1.2 else ((F_421 q1.2).bind fun q3 => if q3.1 = 0 ∨ q3.1 = 1 then some (q3.1, q3.2) else none))
theorem f421 (g : sm_H) {f : Nat} (e : g.1 67 81 = I3 f) : ((F_421 g).bind fun q3 => if q3.1 = 0 ∨ q3.1 = 1 then some (q3.1, q3.2) else none) = F_413 4 (I3 f) g := by
  have : F_421 g = F_413 4 (I3 f) g := by
    show F_421_0 g = _
    unfold F_421_0
    rw [e]; exact f413 4 (I3 f) g
  rw [this]; exact f413 4 (I3 f) g
theorem XT_fail (s : TG Q n bt T k h g) {e f T' k' : Nat} (e1 : 1 ≤ e) (e9 : e ≤ 9) : ∃ h2 g2, F_169 (I3 e) (I3 f) h = some (-1, h2) ∧ F_413 (I3 e) (I3 f) g = some (0, g2) ∧ FT e f h2 g2 ∧ XT T' k' h g h2 g2 := by
  obtain ⟨h2, g2, a, b, c, d⟩ := failB s.K s.nf (e := e) (pc := f) e1 e9
  exact ⟨h2, g2, a, b, d, XT_TK c⟩
theorem rwd_inj {x y : Nat} (hx : x ≤ 5) (hy : y ≤ 5) (h : rwd x = rwd y) : x = y := by
  rcases (show x = 0 ∨ x = 1 ∨ x = 2 ∨ x = 3 ∨ x = 4 ∨ x = 5 by omega) with rfl | rfl | rfl | rfl | rfl | rfl <;> rcases (show y = 0 ∨ y = 1 ∨ y = 2 ∨ y = 3 ∨ y = 4 ∨ y = 5 by omega) with rfl | rfl | rfl | rfl | rfl | rfl <;> first | rfl | (exact absurd h (by decide))
theorem rwd_5 {x : Nat} (hx : x ≤ 5) : rwd x ≤ 5 := by
  unfold rwd
  repeat' split
  all_goals omega
theorem expect {x : Nat} (hx : x = 1 ∨ x = 2 ∨ x = 4) (s : TG Q n bt T k h g) {f : Nat} (c : CB n bt f h) (r : RB n bt f g) (cq : CQ Q := by first | assumption | exact CQ_S _ _ | exact CQ_T) : (wrd n bt f = x ∧ ∃ h1 g1, F_172 (I3 x) h = some (1, h1) ∧ (∀ K, refE (I3 (rwd x)) K g = K g1) ∧ LXC n bt f h1 ∧ LXR n bt f g1 ∧ TG Q n bt T k h1 g1 ∧ agr S52 h h1 ∧ agr SLx g g1 ∧ RB n bt f g1) ∨ (wrd n bt f ≠ x ∧ ∃ h2 g2, F_172 (I3 x) h = some (0, h2) ∧ (∀ K, refE (I3 (rwd x)) K g = some (0, g2)) ∧ FT (er n bt f) f h2 g2 ∧ XT T k h g h2 g2) := by
  obtain ⟨h1, c1, c2, c3, c4⟩ := step_C s c
  obtain ⟨g1, d1, d2, d3, d4, d5⟩ := look_R c3 r
  have w6 := wrd_6 n bt f
  have C0 : F_172 (I3 x) h = F_172_0 (I3 x) h := rfl
  unfold F_172_0 F_172_31 F_172_35 F_172_47 at C0
  rw [c1] at C0; simp only [obs] at C0
  have X1 : XT T k h g h1 g1 := (TS_x s c4 (agr_mono (fun b j z => Or.inl z) d2)).2
  by_cases q : wrd n bt f = x
  · left
    rw [if_neg (by omega)] at d5
    refine ⟨q, h1, g1, ?_, fun K => ?_, c2, d5.2, d1, c4, d2, d3⟩
    · rw [C0, if_pos (by rw [q]), if_pos d1.nf.1, if_pos (by decide)]
    · unfold refE
      rw [d5.1]; simp only [obs]
      rw [if_neg (by decide), if_pos (by rw [d5.2.2.2.1, q])]
  · right
    refine ⟨q, ?_⟩
    obtain ⟨h2, g2, f1, f2, f3, f4⟩ := XT_fail d1 (T' := T) (k' := k) (f := f) (er_9 n bt f).1 (er_9 n bt f).2
    refine ⟨h2, g2, ?_, fun K => ?_, f3, XT_trans X1 f4⟩
    · have z35 : (if h2.1 55 17 = 0 then (if (1 : Int32) = 0 ∨ (1 : Int32) = 1 then some ((1 : Int32), h2) else none) else (if (0 : Int32) = 0 ∨ (0 : Int32) = 1 then some (0, h2) else none)) = some (0, h2) := by
        rw [if_neg, if_pos (Or.inl rfl)]
        obtain ⟨a1, -, -, -, a5, a6⟩ := f3
        rw [a1, I3_lit, I3_inj (by omega) (by decide)]; omega
      rw [C0, if_neg (by rw [I3_inj (by omega) (by omega)]; exact q)]
      unfold er at f1
      by_cases w : wrd n bt f = 6
      · rw [if_pos w] at f1
        rw [if_pos (by rw [w]; rfl), show F_244 h1 = some (h1.1 52 6, h1) from rfl, c2.2.2.1 w]; simp only [obs]
        rw [C_170 c2, f1]; simp only [obs]
        exact z35
      · rw [if_neg w] at f1
        rw [if_neg (by rw [I3_lit, I3_inj (by omega) (by decide)]; exact w), C_170 c2, show F_169 4 (I3 f) h1 = some (-1, h2) from f1]; simp only [obs]
        exact z35
    · unfold refE
      unfold er at f2
      by_cases w : wrd n bt f = 6
      · rw [if_pos w] at f2 d5
        rw [d5, f2]; simp only [obs]
        rw [if_pos trivial]
      · rw [if_neg w] at f2 d5
        rw [d5.1]; simp only [obs]
        rw [if_neg (by decide), if_neg (by
          rw [d5.2.2.2.1, I3_inj (by have := rwd_5 (x := wrd n bt f) (by omega); omega) (by have := rwd_5 (x := x) (by omega); omega)]
          exact fun z => q (rwd_inj (by omega) (by omega) z)), f421 g1 d4]
        exact f2
end
def OP (o : Nat) (h g : sm_H) : Prop := h.1 55 16 = I3 o ∧ g.1 67 86 = I3 o ∧ o ≤ 20
section
variable {n : Nat} {bt : Nat → Nat} {o T k : Nat} {Q : sm_H → sm_H → Prop} {h g : sm_H}
theorem OP_x (p : OP o h g) {h1 g1 : sm_H} {P Q : Nat → Nat → Prop} (a : agr P h h1) (b : agr Q g g1) (z1 : ¬ P 55 16) (z2 : ¬ Q 67 86) : OP o h1 g1 := ⟨(a.1 55 16 z1).trans p.1, (b.1 67 86 z2).trans p.2.1, p.2.2⟩
theorem TS_o (s : TG Q n bt T k h g) (x y : Int32) (cq : CQ Q := by first | assumption | exact CQ_S _ _ | exact CQ_T) : TG Q n bt T k (sm_wI h 55 16 x) (sm_wI g 67 86 y) ∧ XT T k h g (sm_wI h 55 16 x) (sm_wI g 67 86 y) := by
  have a : agr (fun b j => b = 55 ∧ j = 16) h (sm_wI h 55 16 x) := agr_wI agr_rfl ⟨rfl, rfl⟩
  have b : agr (fun b j => b = 67 ∧ j = 86) g (sm_wI g 67 86 y) := agr_wI agr_rfl ⟨rfl, rfl⟩
  have X : XT T k h g (sm_wI h 55 16 x) (sm_wI g 67 86 y) := XT_x s.K (agr_mono (fun b j z => Or.inr (Or.inr ⟨z.1, Or.inr z.2⟩)) a) (agr_mono (fun b j z => Or.inr (Or.inl ⟨z.1, Or.inl z.2⟩)) b)
  exact ⟨⟨X.k1, s.nf, cq _ _ _ _ s.S (agr_mono (fun b j z => Or.inr z) a) (agr_mono (fun b j z => Or.inr ⟨z.1, Or.inl z.2⟩) b), s.t, s.b, s.xc, s.xr⟩, X⟩
theorem agr_c16 (h : sm_H) (x : Int32) : agr (fun b j => b = 55 ∧ j = 16) h (sm_wI h 55 16 x) := agr_wI agr_rfl ⟨rfl, rfl⟩
theorem closeB (s : TG Q n bt T k h g) (p : OP (o + 1) h g) {f : Nat} (c : CB n bt f h) (r : RB n bt f g) (cq : CQ Q := by first | assumption | exact CQ_S _ _ | exact CQ_T) : (∃ h1 g1, F_175 h = some (1, h1) ∧ F_427 g = some (1, g1) ∧ TG Q n bt T k h1 g1 ∧ OP o h1 g1 ∧ CB n bt (nx n bt f) h1 ∧ RB n bt (nx n bt f) g1 ∧ f < nx n bt f ∧ XT T k h g h1 g1) ∨ ∃ e h2 g2, F_175 h = some (0, h2) ∧ F_427 g = some (0, g2) ∧ FT e f h2 g2 ∧ XT T k h g h2 g2 := by
  have fn := RB_n r
  have S0 := TS_o s (I3 o) (g.1 67 86)
  have e86 : sm_wI g 67 86 (g.1 67 86) = g := by
    unfold sm_wI
    refine Prod.ext ?_ rfl
    funext b j
    show (if b = 67 then fun j => if j = 86 then g.1 67 86 else g.1 67 j else g.1 b) j = g.1 b j
    by_cases q : b = 67
    · subst q
      rw [if_pos rfl]
      show (if j = 86 then g.1 67 86 else g.1 67 j) = _
      by_cases w : j = 86
      · rw [if_pos w, w]
      · rw [if_neg w]
    · rw [if_neg q]
  rw [e86] at S0
  have C0 : F_175 h = (F_172 2 (sm_wI h 55 16 (I3 o))).bind fun q2 => if q2.1 = 0 ∨ q2.1 = 1 then some (q2.1, q2.2) else none := by
    show F_175_0 h = _
    unfold F_175_0
    rw [p.1, I3_s1]; rfl
  have R0 : F_427 g = (refE 4 (fun u => (F_420 u).bind fun q2 => some (1, q2)) g).bind fun q1 => if q1.1 = 0 then some (0, q1.2) else ((some (sm_wI q1.2 67 86 ((q1.2.1 67 86) - 1))).bind fun h2 => some (1, h2)) := rfl
  rw [C0, R0]
  rcases expect (x := 2) (by decide) S0.1 (f := f) c r with ⟨q, h1, g1, a1, a2, a3, a4, a5, a6, a7, a8⟩ | ⟨q, h2, g2, a1, a2, a3, a4⟩
  · left
    obtain ⟨g2, t1, t2, t3, t4⟩ := take_R a5 fn a4
    have eo : g2.1 67 86 = I3 (o + 1) := (t4.1 67 86 (by omega)).trans ((a7.1 67 86 (by unfold SLx; omega)).trans p.2.1)
    have e16 : h1.1 55 16 = I3 o := a6.1 55 16 (by unfold S52; omega)
    have S2 := TS_o t3 (I3 o) (I3 o)
    have hw : sm_wI h1 55 16 (I3 o) = h1 := by
      unfold sm_wI
      refine Prod.ext ?_ rfl
      funext b j
      show (if b = 55 then fun j => if j = 16 then I3 o else h1.1 55 j else h1.1 b) j = h1.1 b j
      by_cases q : b = 55
      · subst q
        rw [if_pos rfl]
        show (if j = 16 then I3 o else h1.1 55 j) = _
        by_cases w : j = 16
        · rw [if_pos w, w, e16]
        · rw [if_neg w]
      · rw [if_neg q]
    rw [hw] at S2
    refine ⟨h1, sm_wI g2 67 86 (I3 o), ?_, ?_, S2.1, ⟨e16, rfl, by have := p.2.2; omega⟩, CB_nx fn a3 (by omega), t2, ?_, ?_⟩
    · rw [show F_172 2 (sm_wI h 55 16 (I3 o)) = some (1, h1) from a1]; simp only [obs]
      rw [if_pos (Or.inr trivial)]
    · rw [show refE 4 (fun u => (F_420 u).bind fun q2 => some (1, q2)) g = _ from a2 _, t1]; simp only [obs]
      rw [if_neg (by decide), eo, I3_s1]
    · have := (wen_n (n := n) (bt := bt) fn).2.2 (by omega) (by omega)
      exact Nat.lt_of_lt_of_le this (far_ge _ _ _ _)
    · have x1 : XT T k (sm_wI h 55 16 (I3 o)) g h1 g2 := (TS_x S0.1 a6 (agr_trans (agr_mono (fun b j z => Or.inl z) a7) (agr_mono (fun b j z => Or.inl ⟨z.1, by omega, by omega⟩) t4))).2
      exact XT_trans (XT_trans S0.2 x1) S2.2
  · right
    refine ⟨_, h2, g2, ?_, ?_, a3, XT_trans S0.2 a4⟩
    · rw [show F_172 2 (sm_wI h 55 16 (I3 o)) = some (0, h2) from a1]; simp only [obs]
      rw [if_pos (Or.inl trivial)]
    · rw [show refE 4 (fun u => (F_420 u).bind fun q2 => some (1, q2)) g = _ from a2 _]; simp only [obs]
      rw [if_pos trivial]
theorem openS (s : TG Q n bt T k h g) (p : OP o h g) {f : Nat} (fn : f ≤ n) (lc : LXC n bt f h) (lr : LXR n bt f g) (w : wrd n bt f = 1) (cq : CQ Q := by first | assumption | exact CQ_S _ _ | exact CQ_T) : (∃ h1 g1, o < 20 ∧ F_173 h = some (1, h1) ∧ F_425 g = some (1, g1) ∧ TG Q n bt T k h1 g1 ∧ OP (o + 1) h1 g1 ∧ CB n bt (nx n bt f) h1 ∧ RB n bt (nx n bt f) g1 ∧ f < nx n bt f ∧ XT T k h g h1 g1 ∧ agr (fun b j => b = 55 ∧ j = 16) h h1 ∧ agr (fun b j => b = 67 ∧ (j = 86 ∨ j = 79)) g g1) ∨ ∃ e h2 g2, F_173 h = some (0, h2) ∧ F_425 g = some (0, g2) ∧ FT e f h2 g2 ∧ XT T k h g h2 g2 := by
  have C0 : F_173 h = F_173_0 h := rfl
  have R0 : F_425 g = F_425_0 g := rfl
  unfold F_173_0 F_173_15 F_173_37 at C0
  unfold F_425_0 at R0
  rw [p.1] at C0
  rw [p.2.1] at R0
  have p3 := p.2.2
  by_cases q : o < 20
  · left
    obtain ⟨S1, X1⟩ := TS_o s (I3 (o + 1)) (I3 (o + 1))
    have lr' : LXR n bt f (sm_wI g 67 86 (I3 (o + 1))) := lr
    obtain ⟨g2, t1, t2, t3, t4⟩ := take_R S1 fn lr'
    refine ⟨sm_wI h 55 16 (I3 (o + 1)), g2, q, ?_, ?_, t3, ⟨rfl, t4.1 67 86 (by omega), by omega⟩, CB_nx fn (show LXC n bt f (sm_wI h 55 16 (I3 (o + 1))) from lc) (by omega), t2, ?_, XT_trans X1 (TS_x S1 agr_rfl (agr_mono (fun b j z => Or.inl ⟨z.1, by omega, by omega⟩) t4)).2, agr_c16 _ _, agr_trans (agr_wI agr_rfl ⟨rfl, Or.inl rfl⟩) (agr_mono (fun b j z => ⟨z.1, Or.inr z.2⟩) t4)⟩
    · rw [C0, if_pos (by rw [I3_lit, I3_lt (by omega) (by decide)]; exact q), show I3 o + 1 = I3 (o + 1) from I3_add o 1]; simp only [obs]
      rw [show (sm_wI h 55 16 (I3 (o + 1))).1 55 17 = 0 from s.nf.1, if_pos rfl, if_pos (by decide)]
    · rw [R0, if_neg (by rw [I3_lit, I3_inj (by omega) (by decide)]; omega), show I3 o + 1 = I3 (o + 1) from I3_add o 1]; simp only [obs]
      rw [t1]; rfl
    · have := (wen_n (n := n) (bt := bt) fn).2.2 (by omega) (by omega)
      exact Nat.lt_of_lt_of_le this (far_ge _ _ _ _)
  · right
    have e20 : o = 20 := by omega
    obtain ⟨h2, g2, f1, f2, f3, f4⟩ := XT_fail s (T' := T) (k' := k) (e := 5) (f := f) (by decide) (by decide)
    have X2 : XT T k h2 g2 (sm_wI h2 55 16 (h2.1 55 16 + 1)) g2 := XT_x f4.k1 (agr_wI agr_rfl (Or.inr (Or.inr ⟨rfl, Or.inr rfl⟩))) agr_rfl
    refine ⟨5, sm_wI h2 55 16 (h2.1 55 16 + 1), g2, ?_, ?_, ⟨f3.1, f3.2.1, f3.2.2⟩, XT_trans f4 X2⟩
    · rw [C0, if_neg (by rw [I3_lit, I3_lt (by omega) (by decide)]; exact q), C_170 lc, show F_169 5 (I3 f) h = some (-1, h2) from f1]; simp only [obs]
      rw [if_neg (by show ¬ h2.1 55 17 = 0; rw [f3.1]; decide), if_pos (by decide)]
    · rw [R0, if_pos (by rw [e20]; rfl), lr.2.1, show F_413 5 (I3 f) g = some (0, g2) from f2]; simp only [obs]
      rw [if_pos (Or.inl trivial)]
theorem openB (s : TG Q n bt T k h g) (p : OP o h g) {f : Nat} (c : CB n bt f h) (r : RB n bt f g) (cq : CQ Q := by first | assumption | exact CQ_S _ _ | exact CQ_T) : (∃ h1 g1, o < 20 ∧ F_174 h = some (1, h1) ∧ F_426 g = some (1, g1) ∧ TG Q n bt T k h1 g1 ∧ OP (o + 1) h1 g1 ∧ CB n bt (nx n bt f) h1 ∧ RB n bt (nx n bt f) g1 ∧ f < nx n bt f ∧ XT T k h g h1 g1 ∧ agr (fun b j => S52 b j ∨ b = 55 ∧ j = 16) h h1 ∧ agr (fun b j => SLx b j ∨ b = 67 ∧ j = 86) g g1) ∨ ∃ e h2 g2, F_174 h = some (0, h2) ∧ F_426 g = some (0, g2) ∧ FT e f h2 g2 ∧ XT T k h g h2 g2 := by
  have fn := RB_n r
  have C0 : F_174 h = F_174_0 h := rfl
  unfold F_174_0 F_174_19 F_174_20 at C0
  have R0 : F_426 g = refE 3 (fun u => (F_425 u).bind fun q2 => if q2.1 = 0 ∨ q2.1 = 1 then some (q2.1, q2.2) else none) g := rfl
  rw [C0, R0]
  rcases expect (x := 1) (by decide) s (f := f) c r with ⟨q, h1, g1, a1, a2, a3, a4, a5, a6, a7, a8⟩ | ⟨q, h2, g2, a1, a2, a3, a4⟩
  · have x1 : XT T k h g h1 g1 := (TS_x s a6 (agr_mono (fun b j z => Or.inl z) a7)).2
    have p1 := OP_x p a6 a7 (by unfold S52; omega) (by unfold SLx; omega)
    rw [show F_172 1 h = some (1, h1) from a1, show refE 3 (fun u => (F_425 u).bind fun q2 => if q2.1 = 0 ∨ q2.1 = 1 then some (q2.1, q2.2) else none) g = _ from a2 _]; simp only [obs]
    rw [if_neg (by decide)]
    rcases openS a5 p1 fn a3 a4 q with ⟨h2, g2, b1, b2', b3, b4, b5, b6, b7, b8, b9, b10, b11⟩ | ⟨e, h2, g2, b1, b2', b3, b4⟩
    · left
      refine ⟨h2, g2, b1, ?_, ?_, b4, b5, b6, b7, b8, XT_trans x1 b9, agr_trans (agr_mono (fun b j z => Or.inl z) a6) (agr_mono (fun b j z => Or.inr z) b10), agr_trans (agr_mono (fun b j z => Or.inl z) a7) (agr_mono (fun b j z => by
        rcases z with ⟨z1, z2 | z2⟩
        · exact Or.inr ⟨z1, z2⟩
        · exact Or.inl ⟨z1, by omega, by omega⟩) b11)⟩
      · rw [b2']; simp only [obs]
        rw [if_neg (by decide), if_pos (Or.inr trivial)]
      · rw [b3]; simp only [obs]
        rw [if_pos (Or.inr trivial)]
    · right
      refine ⟨e, h2, g2, ?_, ?_, b3, XT_trans x1 b4⟩
      · rw [b1]; simp only [obs]
        rw [if_pos trivial, if_pos (Or.inl trivial)]
      · rw [b2']; simp only [obs]
        rw [if_pos (Or.inl trivial)]
  · right
    rw [show F_172 1 h = some (0, h2) from a1, show refE 3 (fun u => (F_425 u).bind fun q2 => if q2.1 = 0 ∨ q2.1 = 1 then some (q2.1, q2.2) else none) g = _ from a2 _]; simp only [obs]
    exact ⟨_, h2, g2, by rw [if_pos trivial, if_pos (Or.inl trivial)], rfl, a3, a4⟩
theorem nameB (s : TG Q n bt T k h g) {f : Nat} (c : CB n bt f h) (r : RB n bt f g) (cq : CQ Q := by first | assumption | exact CQ_S _ _ | exact CQ_T) : (∃ h1 g1, F_172 4 h = some (1, h1) ∧ F_450 g = some (1, g1) ∧ TG Q n bt T k h1 g1 ∧ h1.2.1 52 10 = foldN bt f (men n bt f - f) ∧ g1.2.1 67 108 = foldN bt f (men n bt f - f) ∧ LXC n bt f h1 ∧ CB n bt (nx n bt f) h1 ∧ RB n bt (nx n bt f) g1 ∧ f < nx n bt f ∧ XT T k h g h1 g1 ∧ agr S52 h h1 ∧ agr (fun b j => SLx b j ∨ b = 67 ∧ j = 108) g g1) ∨ ∃ e h2 g2, F_172 4 h = some (0, h2) ∧ F_450 g = some (0, g2) ∧ FT e f h2 g2 ∧ XT T k h g h2 g2 := by
  have fn := RB_n r
  have R0 : F_450 g = refE 1 (fun u => (some (sm_wJ u 67 108 (u.2.1 67 83))).bind fun h2 => (F_420 h2).bind fun q3 => some (1, q3)) g := rfl
  rw [R0]
  rcases expect (x := 4) (by decide) s (f := f) c r with ⟨q, h1, g1, a1, a2, a3, a4, a5, a6, a7, a8⟩ | ⟨q, h2, g2, a1, a2, a3, a4⟩
  · left
    have b8 : agr (fun b j => b = 67 ∧ j = 108) g1 (sm_wJ g1 67 108 (g1.2.1 67 83)) := agr_wJ agr_rfl ⟨rfl, rfl⟩
    have S2 := (TS_x (T' := T) (k' := k) a5 agr_rfl (agr_mono (fun b j z => Or.inr ⟨z.1, by omega⟩) b8)).1
    obtain ⟨g2, t1, t2, t3, t4⟩ := take_R S2 fn (show LXR n bt f (sm_wJ g1 67 108 (g1.2.1 67 83)) from ⟨a4.1, a4.2.1, a4.2.2.1, a4.2.2.2.1, a4.2.2.2.2.1, a4.2.2.2.2.2.1, a4.2.2.2.2.2.2⟩)
    have ag : agr (fun b j => SLx b j ∨ b = 67 ∧ j = 108) g g2 := agr_trans (agr_trans (agr_mono (fun b j z => Or.inl z) a7) (agr_mono (fun b j z => Or.inr z) b8)) (agr_mono (fun b j z => Or.inl ⟨z.1, by omega, by omega⟩) t4)
    refine ⟨h1, g2, a1, ?_, t3, a3.2.2.2.2.2.1 q, ?_, a3, CB_nx fn a3 (by omega), t2, ?_, (TS_x s a6 (agr_mono (fun b j z => by
      rcases z with z | z
      · exact Or.inl z
      · exact Or.inr ⟨z.1, by omega⟩) ag)).2, a6, ag⟩
    · rw [show refE 1 (fun u => (some (sm_wJ u 67 108 (u.2.1 67 83))).bind fun h2 => (F_420 h2).bind fun q3 => some (1, q3)) g = _ from a2 _]; simp only [obs]
      rw [t1]; rfl
    · rw [t4.2.1 67 108 (by omega), show (sm_wJ g1 67 108 (g1.2.1 67 83)).2.1 67 108 = g1.2.1 67 83 from rfl]; exact a4.2.2.2.2.2.1 q
    · have := (wen_n (n := n) (bt := bt) fn).2.2 (by omega) (by omega)
      exact Nat.lt_of_lt_of_le this (far_ge _ _ _ _)
  · right
    exact ⟨_, h2, g2, a1, a2 _, a3, a4⟩
end
def foldM (bt : Nat → Nat) (f : Nat) : Nat → Nat
  | 0 => 0
  | k + 1 => foldM bt f k * 256 + bt (f + k)
theorem i6_bv (m : Nat) : (I6 m).toBitVec = BitVec.ofNat 64 m := rfl
theorem i3_6 {b : Nat} (hb : b ≤ 255) : Int32.toInt64 (I3 b) = I6 b := by
  have : ∀ b : Fin 256, Int32.toInt64 (I3 b) = I6 b := by decide +kernel
  exact this ⟨b, by omega⟩
theorem sh8 : (Int32.toInt64 8 &&& 63 : Int64) = 8 := by decide
theorem fold_s {m b : Nat} (hb : b ≤ 255) (hm : m * 256 + b < 2 ^ 63) : (I6 m <<< (Int32.toInt64 8 &&& 63)) ||| Int32.toInt64 (I3 b) = I6 (m * 256 + b) := by
  rw [i3_6 hb, sh8]
  apply Int64.toBitVec.inj
  show BitVec.ofNat 64 m <<< 8 ||| BitVec.ofNat 64 b = BitVec.ofNat 64 (m * 256 + b)
  apply BitVec.eq_of_toNat_eq
  have l0 : m * 256 + b < 9223372036854775808 := hm
  have l1 : m < 18446744073709551616 := by omega
  have l3 : b < 18446744073709551616 := by omega
  have l4 : m * 256 + b < 18446744073709551616 := Nat.lt_trans l0 (by decide)
  have l2 : m * 256 < 18446744073709551616 := Nat.lt_of_le_of_lt (Nat.le_add_right _ _) l4
  have e1 : m % 2 ^ 64 = m := Nat.mod_eq_of_lt l1
  have e2 : m * 2 ^ 8 % 2 ^ 64 = m * 2 ^ 8 := Nat.mod_eq_of_lt l2
  have e3 : b % 2 ^ 64 = b := Nat.mod_eq_of_lt l3
  have e4 : (m * 256 + b) % 2 ^ 64 = m * 256 + b := Nat.mod_eq_of_lt l4
  have e5 : 2 ^ 8 * m + b = 2 ^ 8 * m ||| b := Nat.two_pow_add_eq_or_of_lt (show b < 2 ^ 8 by omega) m
  have e6 : m * 256 + b = m * 2 ^ 8 ||| b := by
    rw [Nat.mul_comm m (2 ^ 8), ← e5]; omega
  rw [BitVec.toNat_or, BitVec.toNat_shiftLeft, BitVec.toNat_ofNat, BitVec.toNat_ofNat, BitVec.toNat_ofNat, Nat.shiftLeft_eq, e1, e2, e3, e4, e6]
theorem foldM_lt (bt : Nat → Nat) (f : Nat) : ∀ k, (∀ j, j < k + 1 → bt (f + j) ≤ 127) → foldM bt f (k + 1) < 128 * 256 ^ k := by
  intro k
  induction k with
  | zero => intro h; have := h 0 (by omega); show 0 * 256 + bt (f + 0) < _; omega
  | succ k ih =>
    intro h
    have a := ih (fun j hj => h j (by omega))
    have b := h (k + 1) (by omega)
    show foldM bt f (k + 1) * 256 + bt (f + (k + 1)) < 128 * 256 ^ (k + 1)
    rw [Nat.pow_succ]; omega
theorem foldN_M (bt : Nat → Nat) (f : Nat) : ∀ k, k ≤ 8 → (∀ j, j < k → bt (f + j) ≤ 127) → foldN bt f k = I6 (foldM bt f k) ∧ foldM bt f k < 2 ^ 63 := by
  intro k
  induction k with
  | zero => intro _ _; exact ⟨rfl, show 0 < 2 ^ 63 by decide⟩
  | succ k ih =>
    intro hk h
    have a := ih (by omega) (fun j hj => h j (by omega))
    have l := foldM_lt bt f k h
    have l2 : foldM bt f (k + 1) < 2 ^ 63 := Nat.lt_of_lt_of_le l (by
      have : 256 ^ k ≤ 256 ^ 7 := Nat.pow_le_pow_right (by decide) (by omega)
      omega)
    refine ⟨?_, l2⟩
    rw [foldN_s, a.1]
    exact fold_s (by have := h k (by omega); omega) l2
theorem shr8 {m : Nat} (hm : m < 2 ^ 31) : Int64.toInt32 (I6 m >>> (Int32.toInt64 8 &&& 63)) = I3 (m / 256) := by
  have : I6 m >>> (Int32.toInt64 8 &&& 63) = I6 (m / 256) := by
    rw [sh8]
    apply Int64.toBitVec.inj
    show (BitVec.ofNat 64 m).sshiftRight 8 = BitVec.ofNat 64 (m / 256)
    apply BitVec.eq_of_toNat_eq
    rw [BitVec.toNat_sshiftRight_of_msb_false (by rw [BitVec.msb_eq_false_iff_two_mul_lt, BitVec.toNat_ofNat, Nat.mod_eq_of_lt (by omega)]; omega), BitVec.toNat_ofNat, BitVec.toNat_ofNat, Nat.shiftRight_eq_div_pow, Nat.mod_eq_of_lt (show m < 2 ^ 64 by omega), Nat.mod_eq_of_lt (show m / 256 < 2 ^ 64 by omega)]
  rw [this]
  apply Int32.toBitVec.inj
  show (BitVec.ofNat 64 (m / 256)).signExtend 32 = BitVec.ofNat 32 (m / 256)
  apply BitVec.eq_of_toNat_eq
  rw [BitVec.signExtend_eq_setWidth_of_le _ (by decide), BitVec.toNat_setWidth, BitVec.toNat_ofNat, BitVec.toNat_ofNat, Nat.mod_eq_of_lt (show m / 256 < 2 ^ 64 by omega)]
theorem and8 {m : Nat} (hm : m < 2 ^ 63) : Int64.toInt32 (I6 m &&& 255) = I3 (m % 256) := by
  have : I6 m &&& 255 = I6 (m % 256) := by
    apply Int64.toBitVec.inj
    show BitVec.ofNat 64 m &&& BitVec.ofNat 64 255 = BitVec.ofNat 64 (m % 256)
    apply BitVec.eq_of_toNat_eq
    rw [BitVec.toNat_and, BitVec.toNat_ofNat, BitVec.toNat_ofNat, BitVec.toNat_ofNat, Nat.mod_eq_of_lt (show m < 2 ^ 64 by omega), Nat.mod_eq_of_lt (show m % 256 < 2 ^ 64 by omega), Nat.mod_eq_of_lt (show 255 < 2 ^ 64 by decide)]
    exact Nat.and_two_pow_sub_one_eq_mod m 8
  rw [this]
  apply Int32.toBitVec.inj
  show (BitVec.ofNat 64 (m % 256)).signExtend 32 = BitVec.ofNat 32 (m % 256)
  apply BitVec.eq_of_toNat_eq
  rw [BitVec.signExtend_eq_setWidth_of_le _ (by decide), BitVec.toNat_setWidth, BitVec.toNat_ofNat, BitVec.toNat_ofNat, Nat.mod_eq_of_lt (show m % 256 < 2 ^ 64 by omega)]
def kf (x : Int64) : Nat := fst1 (fun i => decide (P_KN.getD i 0 = x)) 32
section
variable {h g : sm_H}
theorem k422a {i : Nat} (hi : i < 20) : F_422 (P_KN.getD i 0) g = some (I3 i, g) := by
  rcases (show i = 0 ∨ i = 1 ∨ i = 2 ∨ i = 3 ∨ i = 4 ∨ i = 5 ∨ i = 6 ∨ i = 7 ∨ i = 8 ∨ i = 9 ∨ i = 10 ∨ i = 11 ∨ i = 12 ∨ i = 13 ∨ i = 14 ∨ i = 15 ∨ i = 16 ∨ i = 17 ∨ i = 18 ∨ i = 19 by omega) with rfl | rfl | rfl | rfl | rfl | rfl | rfl | rfl | rfl | rfl | rfl | rfl | rfl | rfl | rfl | rfl | rfl | rfl | rfl | rfl <;> rfl
theorem k422b {i : Nat} (h1 : 20 ≤ i) (h2 : i < 32) : F_422 (P_KN.getD i 0) g = if g.1 67 6 ≤ I3 (i - 20) then some (-1, g) else some (I3 i, g) := by
  rcases (show i = 20 ∨ i = 21 ∨ i = 22 ∨ i = 23 ∨ i = 24 ∨ i = 25 ∨ i = 26 ∨ i = 27 ∨ i = 28 ∨ i = 29 ∨ i = 30 ∨ i = 31 by omega) with rfl | rfl | rfl | rfl | rfl | rfl | rfl | rfl | rfl | rfl | rfl | rfl <;> rfl
theorem i6n {m x : Nat} (hm : m < 2 ^ 63) (hx : x < 2 ^ 63) : I6 m = I6 x ↔ m = x := by
  constructor
  · intro e
    have := congrArg Int64.toInt e
    rw [show (I6 m).toInt = (m : Int) from Int64.toInt_ofNat_of_lt (by omega), show (I6 x).toInt = (x : Int) from Int64.toInt_ofNat_of_lt (by omega)] at this
    omega
  · intro e; rw [e]
theorem i6t {m : Nat} (hm : m < 2 ^ 63) : (I6 m).toInt = (m : Int) := Int64.toInt_ofNat_of_lt (by omega)
theorem ceq {m x : Nat} (hm : m < 2 ^ 63) (hx : x < 2 ^ 63) (n : m ≠ x) : ¬ lg_cmp (I6 m) (I6 x) = 0 := fun z => n ((i6n hm hx).mp (cmp_eq.mp z))
theorem cge {m x : Nat} (hm : m < 2 ^ 63) (hx : x < 2 ^ 63) : (0 ≤ lg_cmp (I6 m) (I6 x)) ↔ x ≤ m := by
  rw [cmp_ge, i6t hm, i6t hx]; omega
theorem k422n {m : Nat} (hm : m < 2 ^ 63) (no : ∀ i, i < 32 → P_KN.getD i 0 ≠ I6 m) : F_422 (I6 m) g = some (-1, g) := by
  have ne : ∀ i x, i < 32 → x < 2 ^ 63 → P_KN.getD i 0 = I6 x → m ≠ x := fun i x hi hx e z => no i hi (by rw [e, z])
  have c : ∀ i x, i < 32 → x < 2 ^ 63 → P_KN.getD i 0 = I6 x → ¬ lg_cmp (I6 m) (I6 x) = 0 := fun i x hi hx e => ceq hm hx (ne i x hi hx e)
  show F_422_0 (I6 m) g = _
  unfold F_422_0
  rw [if_neg (show ¬ lg_cmp (I6 m) 118 = 0 from c 0 118 (by decide) (by decide) rfl), if_neg (show ¬ lg_cmp (I6 m) 122 = 0 from c 1 122 (by decide) (by decide) rfl), if_neg (show ¬ lg_cmp (I6 m) 98 = 0 from c 2 98 (by decide) (by decide) rfl), if_neg (show ¬ lg_cmp (I6 m) 115 = 0 from c 3 115 (by decide) (by decide) rfl), if_neg (show ¬ lg_cmp (I6 m) 99 = 0 from c 4 99 (by decide) (by decide) rfl), if_neg (show ¬ lg_cmp (I6 m) 105 = 0 from c 5 105 (by decide) (by decide) rfl), if_neg (show ¬ lg_cmp (I6 m) 106 = 0 from c 6 106 (by decide) (by decide) rfl), if_neg (show ¬ lg_cmp (I6 m) 111 = 0 from c 7 111 (by decide) (by decide) rfl), if_neg (show ¬ lg_cmp (I6 m) 110 = 0 from c 8 110 (by decide) (by decide) rfl), if_neg (show ¬ lg_cmp (I6 m) 104 = 0 from c 18 104 (by decide) (by decide) rfl), if_neg (show ¬ lg_cmp (I6 m) 101 = 0 from c 19 101 (by decide) (by decide) rfl)]
  simp only [obs]
  rw [and8 hm]
  have a5 : (0 ≤ lg_cmp (I6 m) 65536) ↔ 65536 ≤ m := cge hm (x := 65536) (by decide)
  have a6 : (0 ≤ lg_cmp (I6 m) 16777216) ↔ 16777216 ≤ m := cge hm (x := 16777216) (by decide)
  have m2 : m % 256 < 256 := Nat.mod_lt _ (by decide)
  have b3 : ∀ x, x < 256 → m % 256 ≠ x → ¬ I3 (m % 256) = I3 x := fun x hx n => by rw [I3_inj (by omega) (by omega)]; exact n
  unfold F_422_217 F_422_269 F_422_316 F_422_373 F_422_268 F_422_216 F_422_315
  by_cases q : 16777216 ≤ m
  · rw [if_pos (a5.mpr (by omega)), if_pos (a5.mpr (by omega)), if_pos (a5.mpr (by omega)), if_pos (a6.mpr q)]
  · have sh := shr8 (m := m) (by omega)
    rw [sh]
    have m1 : m / 256 < 65536 := by omega
    have b2' : ∀ x, x < 65536 → m / 256 ≠ x → ¬ I3 (m / 256) = I3 x := fun x hx n => by rw [I3_inj (by omega) (by omega)]; exact n
    by_cases w : 65536 ≤ m
    · rw [if_pos (a5.mpr w), if_pos (a5.mpr w), if_pos (a5.mpr w), if_neg (fun z => q (a6.mp z))]
      by_cases y : m / 256 = 27441
      · have n0 := ne 30 7024944 (by decide) (by decide) rfl
        have n1 := ne 31 7024945 (by decide) (by decide) rfl
        rw [if_pos (show I3 (m / 256) = (27441 : Int32) by rw [y]; rfl), if_neg (show ¬ I3 (m % 256) = (48 : Int32) from b3 48 (by decide) (by omega)), if_neg (show ¬ I3 (m % 256) = (49 : Int32) from b3 49 (by decide) (by omega))]
      · rw [if_neg (show ¬ I3 (m / 256) = (27441 : Int32) from b2' 27441 (by decide) y)]
    · have e5 := fun z => w (a5.mp z)
      rw [if_neg e5]
      by_cases y0 : m / 256 = 111
      · have n9 := ne 9 28538 (by decide) (by decide) rfl
        have n10 := ne 10 28514 (by decide) (by decide) rfl
        have n11 := ne 11 28531 (by decide) (by decide) rfl
        have n12 := ne 12 28515 (by decide) (by decide) rfl
        have n13 := ne 13 28521 (by decide) (by decide) rfl
        have n14 := ne 14 28522 (by decide) (by decide) rfl
        rw [if_pos (show I3 (m / 256) = (111 : Int32) by rw [y0]; rfl), if_neg (show ¬ I3 (m % 256) = (122 : Int32) from b3 122 (by decide) (by omega)), if_neg (show ¬ I3 (m % 256) = (98 : Int32) from b3 98 (by decide) (by omega)), if_neg (show ¬ I3 (m % 256) = (115 : Int32) from b3 115 (by decide) (by omega)), if_neg (show ¬ I3 (m % 256) = (99 : Int32) from b3 99 (by decide) (by omega)), if_neg (show ¬ I3 (m % 256) = (105 : Int32) from b3 105 (by decide) (by omega)), if_neg (show ¬ I3 (m % 256) = (106 : Int32) from b3 106 (by decide) (by omega))]
      rw [if_neg (show ¬ I3 (m / 256) = (111 : Int32) from b2' 111 (by decide) y0), if_neg e5]
      by_cases y1 : m / 256 = 120
      · have n15 := ne 15 30825 (by decide) (by decide) rfl
        have n16 := ne 16 30826 (by decide) (by decide) rfl
        have n17 := ne 17 30831 (by decide) (by decide) rfl
        rw [if_pos (show I3 (m / 256) = (120 : Int32) by rw [y1]; rfl), if_neg (show ¬ I3 (m % 256) = (105 : Int32) from b3 105 (by decide) (by omega)), if_neg (show ¬ I3 (m % 256) = (106 : Int32) from b3 106 (by decide) (by omega)), if_neg (show ¬ I3 (m % 256) = (111 : Int32) from b3 111 (by decide) (by omega))]
      rw [if_neg (show ¬ I3 (m / 256) = (120 : Int32) from b2' 120 (by decide) y1), if_neg e5]
      have end316 : (if 0 ≤ lg_cmp (I6 m) 16777216 then some ((-1 : Int32), g) else if I3 (m / 256) = 27441 then if I3 (m % 256) = 48 then F_422_345 (I3 (m % 256)) g else if I3 (m % 256) = 49 then F_422_345 (I3 (m % 256)) g else some (-1, g) else some (-1, g)) = some (-1, g) := by
        rw [if_neg (fun z => q (a6.mp z)), if_neg (show ¬ I3 (m / 256) = (27441 : Int32) from b2' 27441 (by decide) (by omega))]
      by_cases y2 : m / 256 = 107
      · have nd : isD (m % 256) = false := by
          cases d : isD (m % 256) with
          | false => rfl
          | true =>
            unfold isD at d
            have d := of_decide_eq_true d
            exfalso
            have k : ∀ j, j < 10 → P_KN.getD (20 + j) 0 = I6 (27440 + j) := fun j hj => by
              rcases (show j = 0 ∨ j = 1 ∨ j = 2 ∨ j = 3 ∨ j = 4 ∨ j = 5 ∨ j = 6 ∨ j = 7 ∨ j = 8 ∨ j = 9 by omega) with rfl | rfl | rfl | rfl | rfl | rfl | rfl | rfl | rfl | rfl <;> rfl
            exact ne (20 + (m % 256 - 48)) (27440 + (m % 256 - 48)) (by omega) (by omega) (k _ (by omega)) (by omega)
        rw [if_pos (show I3 (m / 256) = (107 : Int32) by rw [y2]; rfl), R_416b (by omega), nd]; simp only [obs]
        rw [if_pos (by decide)]; exact end316
      · rw [if_neg (show ¬ I3 (m / 256) = (107 : Int32) from b2' 107 (by decide) y2)]; exact end316
end
theorem kn_inj : ∀ i j : Fin 32, P_KN.getD i 0 = P_KN.getD j 0 → i = j := by decide +kernel
theorem fsp (f : Nat → Int64) (N : Nat) (inj : ∀ i j, i < N → j < N → f i = f j → i = j) (x : Int64) : fst1 (fun i => decide (f i = x)) N ≤ N ∧ (fst1 (fun i => decide (f i = x)) N < N → f (fst1 (fun i => decide (f i = x)) N) = x) ∧ ∀ j, j < N → f j = x → j = fst1 (fun i => decide (f i = x)) N := by
  have s := fst1_spec (fun i => decide (f i = x)) N
  generalize fst1 (fun i => decide (f i = x)) N = c at s
  refine ⟨s.1, fun h => of_decide_eq_true (s.2.2 h), fun j hj e => ?_⟩
  have k1 : c ≤ j := by
    rcases Nat.lt_or_ge j c with z | z
    · have := s.2.1 j z
      rw [decide_eq_true e] at this; cases this
    · exact z
  have e2 : f c = x := of_decide_eq_true (s.2.2 (Nat.lt_of_le_of_lt k1 hj))
  exact inj j c hj (Nat.lt_of_le_of_lt k1 hj) (e.trans e2.symm)
theorem kf_spec (x : Int64) : kf x ≤ 32 ∧ (kf x < 32 → P_KN.getD (kf x) 0 = x) ∧ ∀ j, j < 32 → P_KN.getD j 0 = x → j = kf x := fsp (fun i => P_KN.getD i 0) 32 (fun i j hi hj e => congrArg Fin.val (kn_inj ⟨i, hi⟩ ⟨j, hj⟩ e)) x
section
variable {n : Nat} {bt : Nat → Nat} {o T k : Nat} {nm : Nat → Int64} {kd : List Int32} {h g : sm_H}
theorem C_kind (K : K1 h g) {x : Int64} (ex : h.2.1 52 10 = x) : ∀ r i fu, i + r = 32 → r < fu → lp F_176_20B fu (I3 i, h) = if i ≤ kf x ∧ kf x < 20 + nC g then some (I3 (kf x), h) else F_170 6 h := by
  have h12 := K.1.2.1
  have ks := kf_spec x
  intro r
  induction r with
  | zero =>
    intro i fu hi hf
    have e : i = 32 := by omega
    subst e
    rw [lp_oK (by omega)]
    unfold F_176_20B
    simp only []
    rw [show sm_al G0 h 2000001 = some 32 from rfl]; simp only [obs]
    rw [if_pos (by decide), if_neg (by omega)]
    cases F_170 6 h <;> rfl
  | succ r ih =>
    intro i fu hi hf
    have ld : sm_ldJ G0 h 2000001 (I3 i) = some (P_KN.getD i 0) := by
      rcases (show i = 0 ∨ i = 1 ∨ i = 2 ∨ i = 3 ∨ i = 4 ∨ i = 5 ∨ i = 6 ∨ i = 7 ∨ i = 8 ∨ i = 9 ∨ i = 10 ∨ i = 11 ∨ i = 12 ∨ i = 13 ∨ i = 14 ∨ i = 15 ∨ i = 16 ∨ i = 17 ∨ i = 18 ∨ i = 19 ∨ i = 20 ∨ i = 21 ∨ i = 22 ∨ i = 23 ∨ i = 24 ∨ i = 25 ∨ i = 26 ∨ i = 27 ∨ i = 28 ∨ i = 29 ∨ i = 30 ∨ i = 31 by omega) with rfl | rfl | rfl | rfl | rfl | rfl | rfl | rfl | rfl | rfl | rfl | rfl | rfl | rfl | rfl | rfl | rfl | rfl | rfl | rfl | rfl | rfl | rfl | rfl | rfl | rfl | rfl | rfl | rfl | rfl | rfl | rfl <;> rfl
    have B : F_176_20B (I3 i, h) = if P_KN.getD i 0 = x ∧ i < 20 + nC g then some (.inr (I3 i, h)) else some (.inl (I3 (i + 1), h)) := by
      unfold F_176_20B F_176_57
      simp only []
      rw [show sm_al G0 h 2000001 = some 32 from rfl]; simp only [obs]
      rw [if_neg (by rw [I3_lit, I3_le (by decide) (by omega)]; omega), ld]; simp only [obs]
      rw [show F_248 h = some (h.2.1 52 10, h) from rfl, ex]; simp only [obs]
      rw [show I3 i + 1 = I3 (i + 1) from I3_add i 1]
      by_cases q : P_KN.getD i 0 = x
      · rw [if_pos (cmp_eq.mpr q), C_has K.1 K.2.1, inR_I (by omega)]; simp only [obs]
        by_cases w : i < 20 + nC g
        · rw [decide_eq_true w, if_neg (by decide), if_pos ⟨q, w⟩]
        · rw [decide_eq_false w, if_pos (by decide), if_neg (fun z => w z.2)]
      · rw [if_neg (fun z => q (cmp_eq.mp z)), if_neg (fun z => q z.1)]
    by_cases q : P_KN.getD i 0 = x ∧ i < 20 + nC g
    · rw [if_pos q] at B
      have e := ks.2.2 i (by omega) q.1
      rw [lp_e (by omega) B, if_pos (by omega), e]
    · rw [if_neg q] at B
      rw [lp_s (by omega) B, ih (i + 1) (fu - 1) (by omega) (by omega)]
      by_cases w : i ≤ kf x ∧ kf x < 20 + nC g
      · have : i ≠ kf x := fun z => q ⟨by rw [z]; exact ks.2.1 (by omega), by omega⟩
        rw [if_pos w, if_pos (by omega)]
      · rw [if_neg w, if_neg (by omega)]
theorem R_kindN (K : K1 h g) {m : Nat} (hm : m < 2 ^ 63) : F_422 (I6 m) g = some (if kf (I6 m) < 20 + nC g then I3 (kf (I6 m)) else -1, g) := by
  have h12 := K.1.2.1
  have nc : g.1 67 6 = I3 (nC g) := K.1.1
  have ks := kf_spec (I6 m)
  by_cases q : kf (I6 m) < 32
  · have e := ks.2.1 q
    by_cases w : kf (I6 m) < 20
    · have := k422a (g := g) w
      rw [e] at this
      rw [this, if_pos (by omega)]
    · have := k422b (g := g) (i := kf (I6 m)) (by omega) q
      rw [e] at this
      rw [this, nc]
      by_cases z : kf (I6 m) < 20 + nC g
      · rw [if_neg (by rw [I3_le (by omega) (by omega)]; omega), if_pos z]
      · rw [if_pos (by rw [I3_le (by omega) (by omega)]; omega), if_neg z]
  · rw [if_neg (by omega)]
    exact k422n hm (fun i hi z => by have := ks.2.2 i hi z; omega)
theorem men_127 {f : Nat} : ∀ j, f + j < men n bt f → bt (f + j) ≤ 127 := fun j hj => by
  have := (far_all (fun j => isL (bt j) || isD (bt j)) n n f (f + j) (by omega) hj).2
  have z : isL (bt (f + j)) = true ∨ isD (bt (f + j)) = true := Bool.or_eq_true_iff.mp this
  rcases z with z | z
  · unfold isL at z; have := of_decide_eq_true z; omega
  · unfold isD at z; have := of_decide_eq_true z; omega
theorem name_6 {f : Nat} (w : wrd n bt f = 4) : ∃ m, m < 2 ^ 63 ∧ foldN bt f (men n bt f - f) = I6 m := by
  have l8 : men n bt f - f ≤ 8 := by
    unfold wrd at w
    repeat' split at w
    all_goals first | assumption | (cases w)
  have := foldN_M bt f (men n bt f - f) l8 (fun j hj => men_127 (n := n) j (by omega))
  exact ⟨_, this.2, this.1⟩
theorem kindB {Q : sm_H → sm_H → Prop} (z : Bool) (s : TG Q n bt T k h g) {f : Nat} (c : CB n bt f h) (r : RB n bt f g) (cq : CQ Q := by first | assumption | exact CQ_S _ _ | exact CQ_T) : (∃ i h1 g1, F_176 (b2 z) h = some (I3 i, h1) ∧ F_424 (b2 z) g = some (1, g1) ∧ g1.1 67 105 = I3 i ∧ i < 20 + nC g ∧ (z = false → 0 < i) ∧ TG Q n bt T k h1 g1 ∧ CB n bt (nx n bt f) h1 ∧ RB n bt (nx n bt f) g1 ∧ f < nx n bt f ∧ XT T k h g h1 g1 ∧ agr S52 h h1 ∧ agr (fun b j => SLx b j ∨ b = 67 ∧ j = 105) g g1) ∨ ∃ e h2 g2, F_176 (b2 z) h = some (-1, h2) ∧ F_424 (b2 z) g = some (0, g2) ∧ FT e f h2 g2 ∧ XT T k h g h2 g2 := by
  have fn := RB_n r
  have C0 : F_176 (b2 z) h = F_176_0 (b2 z) h := rfl
  unfold F_176_0 F_176_19 at C0
  have R0 : F_424 (b2 z) g = refE 1 (fun u => (F_422 (u.2.1 67 83) u).bind fun q4 => (some (sm_wI q4.2 67 105 q4.1)).bind fun h5 => if (h5.1 67 105) = (-1) then (F_424_53 h5) else (if (h5.1 67 105) = 0 then (if b2 z = 0 then (F_424_53 h5) else (F_424_64 h5)) else (F_424_64 h5))) g := rfl
  rw [C0, R0]
  rcases expect (x := 4) (by decide) s (f := f) c r with ⟨q, h1, g1, a1, a2, a3, a4, a5, a6, a7, a8⟩ | ⟨q, h2, g2, a1, a2, a3, a4⟩
  · obtain ⟨m, m1, m2⟩ := name_6 q
    have ec : h1.2.1 52 10 = I6 m := (a3.2.2.2.2.2.1 q).trans m2
    have er : g1.2.1 67 83 = I6 m := (a4.2.2.2.2.2.1 q).trans m2
    have h12 := a5.K.1.2.1
    have nce : nC g1 = nC g := by show tn _ = tn _; rw [a7.1 67 6 (by unfold SLx; omega)]
    have ks := kf_spec (I6 m)
    rw [show F_172 4 h = some (1, h1) from a1, show refE 1 _ g = _ from a2 _, er, R_kindN a5.K m1]; simp only [obs]
    rw [if_neg (show ¬ (1 : Int32) = 0 by decide)]
    have CC : (if b2 z = 0 then F_176_20 1 h1 else F_176_20 0 h1) = if (if z = false then 1 else 0) ≤ kf (I6 m) ∧ kf (I6 m) < 20 + nC g1 then some (I3 (kf (I6 m)), h1) else F_170 6 h1 := by
      cases z with
      | false => rw [if_pos (by decide)]; exact C_kind a5.K ec 31 1 1000000 (by decide) (by decide)
      | true => rw [if_neg (by decide)]; exact C_kind a5.K ec 32 0 1000000 (by decide) (by decide)
    rw [CC]
    have x1 : ∀ y, agr (fun b j => SLx b j ∨ b = 67 ∧ j = 105) g (sm_wI g1 67 105 y) := fun y => agr_wI (agr_mono (fun b j z => Or.inl z) a7) (Or.inr ⟨rfl, rfl⟩)
    have x2 : ∀ (b j : Nat), (SLx b j ∨ b = 67 ∧ j = 105) → (SLx b j ∨ (b = 67 ∧ (j = 105 ∨ j = 106 ∨ j = 108))) := fun b j z => by
      rcases z with z | z
      · exact Or.inl z
      · exact Or.inr ⟨z.1, Or.inl z.2⟩
    have bad : ∀ y, ∃ h2 g2, F_170 6 h1 = some (-1, h2) ∧ F_424_53 (sm_wI g1 67 105 y) = some (0, g2) ∧ FT 6 f h2 g2 ∧ XT T k h g h2 g2 := fun y => by
      obtain ⟨S2, X2⟩ := TS_x (T' := T) (k' := k) s a6 (agr_mono x2 (x1 y))
      obtain ⟨h2, g2, f1, f2, f3, f4⟩ := XT_fail S2 (T' := T) (k' := k) (e := 6) (f := f) (by decide) (by decide)
      refine ⟨h2, g2, by rw [C_170 a3]; exact f1, ?_, f3, XT_trans X2 f4⟩
      unfold F_424_53
      rw [show (sm_wI g1 67 105 y).1 67 81 = I3 f from a4.2.1, show F_413 6 (I3 f) (sm_wI g1 67 105 y) = some (0, g2) from f2]; simp only [obs]
      rw [if_pos (Or.inl trivial)]
    by_cases w : (if z = false then 1 else 0) ≤ kf (I6 m) ∧ kf (I6 m) < 20 + nC g1
    · left
      rw [if_pos w, if_pos w.2]
      obtain ⟨S2, X2⟩ := TS_x (T' := T) (k' := k) s a6 (agr_mono x2 (x1 (I3 (kf (I6 m)))))
      obtain ⟨g2, t1, t2, t3, t4⟩ := take_R S2 fn (show LXR n bt f (sm_wI g1 67 105 (I3 (kf (I6 m)))) from a4)
      have ag := agr_trans (x1 (I3 (kf (I6 m)))) (agr_mono (fun b j z => Or.inl ⟨z.1, by omega, by omega⟩) t4)
      refine ⟨kf (I6 m), h1, g2, rfl, ?_, t4.1 67 105 (by omega), by omega, fun e => ?_, t3, CB_nx fn a3 (by omega), t2, ?_, (TS_x s a6 (agr_mono x2 ag)).2, a6, ag⟩
      · rw [show (sm_wI g1 67 105 (I3 (kf (I6 m)))).1 67 105 = I3 (kf (I6 m)) from rfl, if_neg (I3_m1 (by omega))]
        have fin : F_424_64 (sm_wI g1 67 105 (I3 (kf (I6 m)))) = some (1, g2) := by
          unfold F_424_64
          rw [t1]; rfl
        rw [fin]
        by_cases y : I3 (kf (I6 m)) = 0
        · rw [if_pos y]
          have k0 : kf (I6 m) = 0 := by rw [I3_lit, I3_inj (by omega) (by decide)] at y; exact y
          cases z with
          | false => rw [k0] at w; exact absurd w.1 (by decide)
          | true => rw [if_neg (by decide)]
        · rw [if_neg y]
      · rw [if_pos e] at w; omega
      · have := (wen_n (n := n) (bt := bt) fn).2.2 (by omega) (by omega)
        exact Nat.lt_of_lt_of_le this (far_ge _ _ _ _)
    · right
      rw [if_neg w]
      by_cases y : kf (I6 m) < 20 + nC g1
      · rw [if_pos y]
        obtain ⟨h2, g2, b1, b2', b3, b4⟩ := bad (I3 (kf (I6 m)))
        refine ⟨6, h2, g2, b1, ?_, b3, b4⟩
        cases z with
        | true => exact absurd ⟨Nat.zero_le _, y⟩ w
        | false =>
          have k0 : kf (I6 m) = 0 := by
            rw [if_pos rfl] at w; omega
          rw [show (sm_wI g1 67 105 (I3 (kf (I6 m)))).1 67 105 = I3 (kf (I6 m)) from rfl, if_neg (I3_m1 (by omega)), if_pos (by rw [k0]; rfl), if_pos (by decide)]
          exact b2'
      · rw [if_neg y]
        obtain ⟨h2, g2, b1, b2', b3, b4⟩ := bad (-1)
        refine ⟨6, h2, g2, b1, ?_, b3, b4⟩
        rw [show (sm_wI g1 67 105 (-1)).1 67 105 = -1 from rfl, if_pos rfl]
        exact b2'
  · right
    rw [show F_172 4 h = some (0, h2) from a1, show refE 1 _ g = _ from a2 _]; simp only [obs]
    exact ⟨_, h2, g2, by rw [if_pos trivial], rfl, a3, a4⟩
end
