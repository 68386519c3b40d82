abbrev XCc (T b j : Nat) : Prop := SCq b j ∨ Ssp b j ∨ S52 b j ∨ ((b = 60 ∨ b = 61) ∧ T ≤ j) ∨ (b = 55 ∧ (j = 12 ∨ j = 16))
abbrev XRc (k b j : Nat) : Prop := SRa b j ∨ Ssr b j ∨ SLx b j ∨ (b = 67 ∧ (j = 86 ∨ j = 102 ∨ j = 105 ∨ j = 106 ∨ j = 108)) ∨ (119 ≤ b ∧ b ≤ 124 ∧ k ≤ j) ∨ (b = 125 ∧ 20 * k ≤ j) ∨ (b = 126 ∧ 3 * k ≤ j)
def XT (T k : Nat) (h g h1 g1 : sm_H) : Prop := K1 h1 g1 ∧ ext g g1 ∧ grow g g1 ∧ agr (XCc T) h h1 ∧ agr (XRc k) g g1
section
variable {T k : Nat} {h g h1 g1 h2 g2 : sm_H}
theorem XT.k1 (t : XT T k h g h1 g1) : K1 h1 g1 := t.1
theorem XT.e (t : XT T k h g h1 g1) : ext g g1 := t.2.1
theorem XT.r (t : XT T k h g h1 g1) : grow g g1 := t.2.2.1
theorem XT.c (t : XT T k h g h1 g1) : agr (XCc T) h h1 := t.2.2.2.1
theorem XT.a (t : XT T k h g h1 g1) : agr (XRc k) g g1 := t.2.2.2.2
theorem XT_rfl (K : K1 h g) : XT T k h g h g := ⟨K, ext_rfl, grow_rfl, agr_rfl, agr_rfl⟩
theorem XT_trans (a : XT T k h g h1 g1) (b : XT T k h1 g1 h2 g2) : XT T k h g h2 g2 := ⟨b.1, ext_trans a.2.1 b.2.1, grow_trans a.2.2.1 b.2.2.1, agr_trans a.2.2.2.1 b.2.2.2.1, agr_trans a.2.2.2.2 b.2.2.2.2⟩
theorem XT_mono {T' k' : Nat} (hT : T' ≤ T) (hk : k' ≤ k) (t : XT T k h g h1 g1) : XT T' k' h g h1 g1 := ⟨t.1, t.2.1, t.2.2.1, agr_mono (fun b j z => by
  rcases z with z | z | z | z | z
  · exact Or.inl z
  · exact Or.inr (Or.inl z)
  · exact Or.inr (Or.inr (Or.inl z))
  · exact Or.inr (Or.inr (Or.inr (Or.inl ⟨z.1, Nat.le_trans hT z.2⟩)))
  · exact Or.inr (Or.inr (Or.inr (Or.inr z)))) t.2.2.2.1, agr_mono (fun b j z => by
  rcases z with z | z | z | z | z | z | z
  · exact Or.inl z
  · exact Or.inr (Or.inl z)
  · exact Or.inr (Or.inr (Or.inl z))
  · exact Or.inr (Or.inr (Or.inr (Or.inl z)))
  · exact Or.inr (Or.inr (Or.inr (Or.inr (Or.inl ⟨z.1, z.2.1, Nat.le_trans hk z.2.2⟩))))
  · exact Or.inr (Or.inr (Or.inr (Or.inr (Or.inr (Or.inl ⟨z.1, by omega⟩)))))
  · exact Or.inr (Or.inr (Or.inr (Or.inr (Or.inr (Or.inr ⟨z.1, by omega⟩)))))) t.2.2.2.2⟩
theorem XT.hrs (t : XT T k h g h1 g1) {h' : sm_H} (K : K1 h' g) {x : Nat} (hx : x < nH g) : hrs g1 x = hrs g x := ext_hrs K.2.2.2.2.1 t.e hx
theorem XT.hpl (t : XT T k h g h1 g1) {h' : sm_H} (K : K1 h' g) {x : Nat} (hx : x < nH g) : hpl g1 x = hpl g x := ext_hpl K.2.2.2.2.1 t.e hx
theorem XT.nH (t : XT T k h g h1 g1) {x : Nat} (hx : x < nH g) : x < nH g1 := Nat.lt_of_lt_of_le hx t.r.2.2.1
theorem XT_TW (t : TW T h g h1 g1) : XT T k h g h1 g1 := ⟨t.1, t.2.1, t.2.2.1, agr_mono (fun b j z => by
  rcases z with (z | z) | z
  · exact Or.inl z
  · exact Or.inr (Or.inr (Or.inr (Or.inl ⟨Or.inl z.1, z.2⟩)))
  · exact Or.inr (Or.inl z)) t.2.2.2.1, agr_mono (fun b j z => by
  rcases z with z | z
  · exact Or.inl z
  · exact Or.inr (Or.inl z)) t.2.2.2.2⟩
theorem XT_TB (t : TB T h g h1 g1) : XT T k h g h1 g1 := XT_TW (TW_of t)
theorem XT_TK (t : TK h g h1 g1) : XT T k h g h1 g1 := XT_TB (TB_of t)
abbrev Sxc (T b j : Nat) : Prop := S52 b j ∨ ((b = 60 ∨ b = 61) ∧ T ≤ j) ∨ (b = 55 ∧ (j = 12 ∨ j = 16))
abbrev Sxr (k b j : Nat) : Prop := SLx b j ∨ (b = 67 ∧ (j = 86 ∨ j = 102 ∨ j = 105 ∨ j = 106 ∨ j = 108)) ∨ (119 ≤ b ∧ b ≤ 124 ∧ k ≤ j) ∨ (b = 125 ∧ 20 * k ≤ j) ∨ (b = 126 ∧ 3 * k ≤ j)
theorem okC52 (j : Nat) (h : 3 ≤ j) : okC 52 j = false := by
  have e : Nat.ble 3 j = true := Nat.ble_eq.mpr h
  unfold okC
  rw [e]; rfl
theorem Sxc_not (b j : Nat) (z : Sxc T b j) : notC b j := by
  rcases z with ⟨rfl, z⟩ | ⟨rfl | rfl, -⟩ | ⟨rfl, rfl | rfl⟩
  · exact okC52 j z
  all_goals rfl
theorem Sxr_not (b j : Nat) (z : Sxr k b j) : notR b j := by
  rcases z with ⟨rfl, z1, z2⟩ | ⟨rfl, rfl | rfl | rfl | rfl | rfl⟩ | ⟨z1, z2, -⟩ | ⟨rfl, -⟩ | ⟨rfl, -⟩
  · rcases (show j = 79 ∨ j = 80 ∨ j = 81 ∨ j = 82 ∨ j = 83 ∨ j = 84 ∨ j = 85 by omega) with rfl | rfl | rfl | rfl | rfl | rfl | rfl <;> rfl
  all_goals first
    | rfl
    | (rcases (show b = 119 ∨ b = 120 ∨ b = 121 ∨ b = 122 ∨ b = 123 ∨ b = 124 by omega) with rfl | rfl | rfl | rfl | rfl | rfl <;> rfl)
theorem XT_x (K : K1 h g) (a : agr (Sxc T) h h1) (b : agr (Sxr k) g g1) : XT T k h g h1 g1 := by
  have E := ext_eq (ok_of_not Sxr_not b)
  exact ⟨K1_g (K1_h K (agr_mono Sxc_not a)) (agr_mono Sxr_not b), E.1, E.2.1, agr_mono (fun b j z => by
    rcases z with z | z | z
    · exact Or.inr (Or.inr (Or.inl z))
    · exact Or.inr (Or.inr (Or.inr (Or.inl z)))
    · exact Or.inr (Or.inr (Or.inr (Or.inr z)))) a, agr_mono (fun b j z => Or.inr (Or.inr z)) b⟩
end
def TS (n : Nat) (bt : Nat → Nat) (T k : Nat) (nm : Nat → Int64) (kd : List Int32) (h g : sm_H) : Prop := K1 h g ∧ NF h g ∧ SCO nm kd h g ∧ (h.1 55 12 = I3 T ∧ T ≤ 200) ∧ g.1 67 102 = I3 k ∧ TXC n bt h ∧ TXR n bt g
def RB (n : Nat) (bt : Nat → Nat) (f : Nat) (g : sm_H) : Prop := ∃ p, g.1 67 79 = I3 p ∧ p ≤ n ∧ sk n bt p = f
def CB (n : Nat) (bt : Nat → Nat) (f : Nat) (h : sm_H) : Prop := ∃ p, h.1 52 3 = I3 p ∧ p ≤ n ∧ sk n bt p = f
section
variable {n : Nat} {bt : Nat → Nat} {T k : Nat} {nm : Nat → Int64} {kd : List Int32} {h g : sm_H}
theorem TS.K (s : TS n bt T k nm kd h g) : K1 h g := s.1
theorem TS.nf (s : TS n bt T k nm kd h g) : NF h g := s.2.1
theorem TS.S (s : TS n bt T k nm kd h g) : SCO nm kd h g := s.2.2.1
theorem TS.t (s : TS n bt T k nm kd h g) : h.1 55 12 = I3 T ∧ T ≤ 200 := s.2.2.2.1
theorem TS.b (s : TS n bt T k nm kd h g) : g.1 67 102 = I3 k := s.2.2.2.2.1
theorem TS.xc (s : TS n bt T k nm kd h g) : TXC n bt h := s.2.2.2.2.2.1
theorem TS.xr (s : TS n bt T k nm kd h g) : TXR n bt g := s.2.2.2.2.2.2
theorem RB_n {f : Nat} (r : RB n bt f g) : f ≤ n := by
  obtain ⟨p, -, p2, p3⟩ := r
  rw [← p3]; exact far_le _ _ _ _ p2
theorem RB_sk {f : Nat} (r : RB n bt f g) : sk n bt f = f := by
  obtain ⟨p, -, -, p3⟩ := r
  rw [← p3]; exact sk_sk _ _ _
theorem TS_x {T' k' : Nat} (s : TS n bt T k nm kd h g) {h1 g1 : sm_H} (a : agr S52 h h1) (b : agr (fun b j => SLx b j ∨ (b = 67 ∧ (j = 105 ∨ j = 106 ∨ j = 108))) g g1) : TS n bt T k nm kd h1 g1 ∧ XT T' k' h g h1 g1 := by
  have X : XT T' k' h g h1 g1 := XT_x s.K (agr_mono (fun b j z => Or.inl z) a) (agr_mono (fun b j z => by
    rcases z with z | ⟨z1, z2⟩
    · exact Or.inl z
    · exact Or.inr (Or.inl ⟨z1, by omega⟩)) b)
  refine ⟨⟨X.k1, NF_agr s.nf a b (by unfold S52; omega) (by unfold SLx; omega), SCO_agr s.S a b (Nat.le_of_eq (by show tn _ = tn _; rw [b.1 67 6 (by unfold SLx; omega)])) (fun b j z => by unfold S52 at z; omega) (fun b j z => by unfold SLx at z; omega), ⟨(a.1 55 12 (by unfold S52; omega)).trans s.t.1, s.t.2⟩, (b.1 67 102 (by unfold SLx; omega)).trans s.b, TXC_52 s.xc a, TXR_agr s.xr b (fun b j z => by unfold SLx at z; omega)⟩, X⟩
theorem step_C (s : TS n bt T k nm kd h g) {f : Nat} (c : CB n bt f h) : ∃ h1, F_249 h = some (I3 (wrd n bt f), h1) ∧ LXC n bt f h1 ∧ TS n bt T k nm kd h1 g ∧ agr S52 h h1 := by
  obtain ⟨p, p1, p2, p3⟩ := c
  obtain ⟨h1, a, b, d⟩ := C_step s.xc p1 p2
  rw [p3] at a b
  exact ⟨h1, a, b, (TS_x (T' := 0) (k' := 0) s d agr_rfl).1, d⟩
theorem look_R (s : TS n bt T k nm kd h g) {f : Nat} (r : RB n bt f g) : ∃ g1, TS n bt T k nm kd h g1 ∧ agr SLx g g1 ∧ RB n bt f g1 ∧ g1.1 67 81 = I3 f ∧ (if wrd n bt f = 6 then F_418 g = F_413 (I3 (wtr n bt f)) (I3 f) g1 else F_418 g = some (1, g1) ∧ LXR n bt f g1) := by
  have fn := RB_n r
  have fs := RB_sk r
  obtain ⟨p, p1, p2, p3⟩ := r
  obtain ⟨g1, a, b, c, d⟩ := R_look s.xr p1 p2
  rw [p3] at b c d
  exact ⟨g1, (TS_x (T' := 0) (k' := 0) s agr_rfl (agr_mono (fun b j z => Or.inl z) a)).1, a, ⟨f, b, fn, fs⟩, c, d⟩
theorem wen_n {f : Nat} (fn : f ≤ n) : wen n bt f ≤ n ∧ f ≤ wen n bt f ∧ (wrd n bt f ≠ 0 → wrd n bt f ≠ 6 → f < wen n bt f) := by
  have far1 : ∀ (p : Nat → Bool) (i : Nat), i < n → p i = true → i < far p n n i := fun p i hi hp => by
    cases hn : n with
    | zero => omega
    | succ m =>
      unfold far
      rw [if_pos ⟨by omega, hp⟩]
      exact far_ge p (m + 1) m (i + 1)
  unfold wen
  by_cases q : n ≤ f
  · rw [if_pos q]
    exact ⟨fn, Nat.le_refl _, fun z => absurd (by unfold wrd; rw [if_pos q]) z⟩
  rw [if_neg q]
  by_cases hN : isN n bt f = true
  · rw [if_pos hN]
    have hc : bt f = 45 ∧ (f + 1 < n ∧ isD (bt (f + 1)) = true) ∨ isD (bt f) = true := by
      have hN' := hN
      unfold isN at hN'
      rw [Bool.or_eq_true, Bool.and_eq_true, Bool.and_eq_true, decide_eq_true_iff, decide_eq_true_iff] at hN'
      rcases hN' with z | z
      · exact Or.inr z
      · exact Or.inl ⟨z.1, z.2⟩
    have sn : nst bt f ≤ n ∧ f ≤ nst bt f := by
      unfold nst
      by_cases w : bt f = 45
      · rw [if_pos w]; omega
      · rw [if_neg w]; omega
    have e1 : nst bt f ≤ nen n bt f := far_ge _ _ _ _
    have e2 : nen n bt f ≤ n := far_le _ _ _ _ sn.1
    have e3 : f < nen n bt f := by
      rcases hc with ⟨c1, c2, c3⟩ | c1
      · have : nst bt f = f + 1 := by unfold nst; rw [if_pos c1]
        omega
      · have n45 : ¬ bt f = 45 := fun z => by rw [z] at c1; exact absurd c1 (by decide)
        have : nst bt f = f := by unfold nst; rw [if_neg n45]
        have := far1 (fun j => isD (bt j)) f (by omega) c1
        unfold nen; rw [‹nst bt f = f›]; exact this
    by_cases il : isl n bt f = true
    · rw [if_pos il]
      have := (isl_c.mp il).1
      exact ⟨by omega, by omega, fun _ _ => by omega⟩
    · rw [if_neg il]
      exact ⟨e2, by omega, fun _ _ => e3⟩
  · rw [if_neg hN]
    by_cases hL : isL (bt f) = true
    · rw [if_pos hL]
      have := far1 (fun j => isL (bt j) || isD (bt j)) f (by omega) (by show (isL (bt f) || isD (bt f)) = true; rw [hL]; rfl)
      exact ⟨far_le _ _ _ _ fn, far_ge _ _ _ _, fun _ _ => this⟩
    · rw [if_neg hL]
      exact ⟨by omega, by omega, fun _ _ => by omega⟩
def nx (n : Nat) (bt : Nat → Nat) (f : Nat) : Nat := sk n bt (wen n bt f)
theorem CB_nx {f : Nat} (fn : f ≤ n) (l : LXC n bt f h) (w : wrd n bt f ≠ 6) : CB n bt (nx n bt f) h := ⟨wen n bt f, l.2.2.2.1 w, (wen_n fn).1, rfl⟩
theorem take_R (s : TS n bt T k nm kd h g) {f : Nat} (fn : f ≤ n) (l : LXR n bt f g) : ∃ g1, F_420 g = some g1 ∧ RB n bt (nx n bt f) g1 ∧ TS n bt T k nm kd h g1 ∧ agr (fun b j => b = 67 ∧ j = 79) g g1 := by
  refine ⟨sm_wI g 67 79 (I3 (wen n bt f)), ?_, ⟨wen n bt f, rfl, (wen_n fn).1, rfl⟩, (TS_x (T' := 0) (k' := 0) s agr_rfl (agr_wI agr_rfl (Or.inl ⟨rfl, by omega, by omega⟩))).1, agr_wI agr_rfl ⟨rfl, rfl⟩⟩
  show F_420_0 g = _
  unfold F_420_0
  rw [l.2.2.2.1]; rfl
def er (n : Nat) (bt : Nat → Nat) (f : Nat) : Nat := if wrd n bt f = 6 then wtr n bt f else 4
theorem er_9 (n : Nat) (bt : Nat → Nat) (f : Nat) : 1 ≤ er n bt f ∧ er n bt f ≤ 9 := by
  unfold er wtr
  repeat' split
  all_goals omega
theorem wrd_6 (n : Nat) (bt : Nat → Nat) (f : Nat) : wrd n bt f ≤ 6 := by
  unfold wrd
  repeat' split
  all_goals omega
theorem wtr_3 (n : Nat) (bt : Nat → Nat) (f : Nat) : wtr n bt f ≤ 3 := by
  unfold wtr
  repeat' split
  all_goals omega
theorem C_170 {f : Nat} (l : LXC n bt f h) (e : Int32) : F_170 e h = F_169 e (I3 f) h := by
  show F_170_0 e h = _
  unfold F_170_0
  rw [show F_243 h = some (h.1 52 5, h) from rfl, l.1]; simp only [obs]
  exact bind_id _
def refE (rx : Int32) (K : sm_H → Option (Int32 × sm_H)) (g : sm_H) : Option (Int32 × sm_H) := (F_418 g).bind fun q1 => if q1.1 = 0 then some (0, q1.2) else (if (q1.2.1 67 80) = rx then K q1.2 else ((F_421 q1.2).bind fun q3 => if q3.1 = 0 ∨ q3.1 = 1 then some (q3.1, q3.2) else none))
theorem f421 (g : sm_H) {f : Nat} (e : g.1 67 81 = I3 f) : ((F_421 g).bind fun q3 => if q3.1 = 0 ∨ q3.1 = 1 then some (q3.1, q3.2) else none) = F_413 4 (I3 f) g := by
  have : F_421 g = F_413 4 (I3 f) g := by
    show F_421_0 g = _
    unfold F_421_0
    rw [e]; exact f413 4 (I3 f) g
  rw [this]; exact f413 4 (I3 f) g
theorem XT_fail (s : TS n bt T k nm kd h g) {e f T' k' : Nat} (e1 : 1 ≤ e) (e9 : e ≤ 9) : ∃ h2 g2, F_169 (I3 e) (I3 f) h = some (-1, h2) ∧ F_413 (I3 e) (I3 f) g = some (0, g2) ∧ FT e f h2 g2 ∧ XT T' k' h g h2 g2 := by
  obtain ⟨h2, g2, a, b, c, d⟩ := failB s.K s.nf (e := e) (pc := f) e1 e9
  exact ⟨h2, g2, a, b, d, XT_TK c⟩
theorem rwd_inj {x y : Nat} (hx : x ≤ 5) (hy : y ≤ 5) (h : rwd x = rwd y) : x = y := by
  rcases (show x = 0 ∨ x = 1 ∨ x = 2 ∨ x = 3 ∨ x = 4 ∨ x = 5 by omega) with rfl | rfl | rfl | rfl | rfl | rfl <;> rcases (show y = 0 ∨ y = 1 ∨ y = 2 ∨ y = 3 ∨ y = 4 ∨ y = 5 by omega) with rfl | rfl | rfl | rfl | rfl | rfl <;> first | rfl | (exact absurd h (by decide))
theorem rwd_5 {x : Nat} (hx : x ≤ 5) : rwd x ≤ 5 := by
  unfold rwd
  repeat' split
  all_goals omega
theorem expect {x : Nat} (hx : x = 1 ∨ x = 2 ∨ x = 4) (s : TS n bt T k nm kd h g) {f : Nat} (c : CB n bt f h) (r : RB n bt f g) : (wrd n bt f = x ∧ ∃ h1 g1, F_172 (I3 x) h = some (1, h1) ∧ (∀ K, refE (I3 (rwd x)) K g = K g1) ∧ LXC n bt f h1 ∧ LXR n bt f g1 ∧ TS n bt T k nm kd h1 g1 ∧ agr S52 h h1 ∧ agr SLx g g1 ∧ RB n bt f g1) ∨ (wrd n bt f ≠ x ∧ ∃ h2 g2, F_172 (I3 x) h = some (0, h2) ∧ (∀ K, refE (I3 (rwd x)) K g = some (0, g2)) ∧ FT (er n bt f) f h2 g2 ∧ XT T k h g h2 g2) := by
  obtain ⟨h1, c1, c2, c3, c4⟩ := step_C s c
  obtain ⟨g1, d1, d2, d3, d4, d5⟩ := look_R c3 r
  have w6 := wrd_6 n bt f
  have C0 : F_172 (I3 x) h = F_172_0 (I3 x) h := rfl
  unfold F_172_0 F_172_31 F_172_35 F_172_47 at C0
  rw [c1] at C0; simp only [obs] at C0
  have X1 : XT T k h g h1 g1 := (TS_x s c4 (agr_mono (fun b j z => Or.inl z) d2)).2
  by_cases q : wrd n bt f = x
  · left
    rw [if_neg (by omega)] at d5
    refine ⟨q, h1, g1, ?_, fun K => ?_, c2, d5.2, d1, c4, d2, d3⟩
    · rw [C0, if_pos (by rw [q]), if_pos d1.nf.1, if_pos (by decide)]
    · unfold refE
      rw [d5.1]; simp only [obs]
      rw [if_neg (by decide), if_pos (by rw [d5.2.2.2.1, q])]
  · right
    refine ⟨q, ?_⟩
    obtain ⟨h2, g2, f1, f2, f3, f4⟩ := XT_fail d1 (T' := T) (k' := k) (f := f) (er_9 n bt f).1 (er_9 n bt f).2
    refine ⟨h2, g2, ?_, fun K => ?_, f3, XT_trans X1 f4⟩
    · have z35 : (if h2.1 55 17 = 0 then (if (1 : Int32) = 0 ∨ (1 : Int32) = 1 then some ((1 : Int32), h2) else none) else (if (0 : Int32) = 0 ∨ (0 : Int32) = 1 then some (0, h2) else none)) = some (0, h2) := by
        rw [if_neg, if_pos (Or.inl rfl)]
        obtain ⟨a1, -, -, -, a5, a6⟩ := f3
        rw [a1, I3_lit, I3_inj (by omega) (by decide)]; omega
      rw [C0, if_neg (by rw [I3_inj (by omega) (by omega)]; exact q)]
      unfold er at f1
      by_cases w : wrd n bt f = 6
      · rw [if_pos w] at f1
        rw [if_pos (by rw [w]; rfl), show F_244 h1 = some (h1.1 52 6, h1) from rfl, c2.2.2.1 w]; simp only [obs]
        rw [C_170 c2, f1]; simp only [obs]
        exact z35
      · rw [if_neg w] at f1
        rw [if_neg (by rw [I3_lit, I3_inj (by omega) (by decide)]; exact w), C_170 c2, show F_169 4 (I3 f) h1 = some (-1, h2) from f1]; simp only [obs]
        exact z35
    · unfold refE
      unfold er at f2
      by_cases w : wrd n bt f = 6
      · rw [if_pos w] at f2 d5
        rw [d5, f2]; simp only [obs]
        rw [if_pos trivial]
      · rw [if_neg w] at f2 d5
        rw [d5.1]; simp only [obs]
        rw [if_neg (by decide), if_neg (by
          rw [d5.2.2.2.1, I3_inj (by have := rwd_5 (x := wrd n bt f) (by omega); omega) (by have := rwd_5 (x := x) (by omega); omega)]
          exact fun z => q (rwd_inj (by omega) (by omega) z)), f421 g1 d4]
        exact f2
end
