theorem body {d : Nat} {rec : Int32 → Int32 → sm_H → Option (Int32 × sm_H)} (IH : CallOK (d + 1) rec) : BodyOK d rec := by
  intro h0 g0 h g fuel s x vp vs F c63 c59 c104 eh lf
  have f38 : fm g0 x ≤ 38 := by have := (F.m.k.2.2.2.2.1.2 x F.hx).1.2; rw [show tn (g.1 75 x) = fm g x from rfl, m_fm F.ar] at this; exact this
  rcases (show fm g0 x = 0 ∨ fm g0 x = 1 ∨ fm g0 x = 2 ∨ fm g0 x = 3 ∨ fm g0 x = 4 ∨ fm g0 x = 5 ∨ fm g0 x = 6 ∨ fm g0 x = 7 ∨ fm g0 x = 8 ∨ fm g0 x = 9 ∨ fm g0 x = 10 ∨ fm g0 x = 11 ∨ fm g0 x = 12 ∨ fm g0 x = 13 ∨ fm g0 x = 14 ∨ fm g0 x = 15 ∨ fm g0 x = 16 ∨ fm g0 x = 17 ∨ fm g0 x = 18 ∨ fm g0 x = 19 ∨ fm g0 x = 20 ∨ fm g0 x = 21 ∨ fm g0 x = 22 ∨ fm g0 x = 23 ∨ fm g0 x = 24 ∨ fm g0 x = 25 ∨ fm g0 x = 26 ∨ fm g0 x = 27 ∨ fm g0 x = 28 ∨ fm g0 x = 29 ∨ fm g0 x = 30 ∨ fm g0 x = 31 ∨ fm g0 x = 32 ∨ fm g0 x = 33 ∨ fm g0 x = 34 ∨ fm g0 x = 35 ∨ fm g0 x = 36 ∨ fm g0 x = 37 ∨ fm g0 x = 38 by omega) with f | f | f | f | f | f | f | f | f | f | f | f | f | f | f | f | f | f | f | f | f | f | f | f | f | f | f | f | f | f | f | f | f | f | f | f | f | f | f
  · exact run_0 IH F c63 c59 eh lf f
  · exact run_1 IH F c63 c59 eh lf f
  · exact run_2 IH F c63 c59 eh lf f
  · exact run_3 IH F c63 c59 eh lf f
  · exact run_4 IH F c63 c59 eh lf f
  · exact run_5 IH F c63 c59 eh lf f
  · exact run_6 IH F c63 c59 eh lf f
  · exact run_7 IH F c63 c59 eh lf f
  · exact run_8 IH F c63 c59 eh lf f
  · exact run_9 IH F c63 c59 eh lf f
  · exact run_10 IH F c63 c59 eh lf f
  · exact run_11 IH F c63 c59 eh lf f
  · exact run_12 IH F c63 c59 eh lf f
  · exact run_13 IH F c63 c59 eh lf f
  · exact run_14 IH F c63 c59 eh lf f
  · exact run_15 IH F c63 c59 eh lf f
  · exact run_16 IH F c63 c59 eh lf f
  · exact run_17 IH F c63 c59 eh lf f
  · exact run_18 IH F c63 c59 eh lf f
  · exact run_19 IH F c63 c59 eh lf f
  · exact run_20 IH F c63 c59 eh lf f
  · exact run_21 IH F c63 c59 eh lf f
  · exact run_22 IH F c63 c59 eh lf f
  · exact run_23 IH F c63 c59 eh lf f
  · exact run_24 IH F c63 c59 eh lf f
  · exact run_25 IH F c63 c59 eh lf f
  · exact run_26 IH F c63 c59 eh lf f
  · exact run_27 IH F c63 c59 eh lf f
  · exact run_28 IH F c63 c59 eh lf f
  · exact run_29 IH F c63 c59 eh lf f
  · exact run_30 IH F c63 c59 eh lf f
  · exact run_31 IH F c63 c59 eh lf f
  · exact run_32 IH F c63 c59 eh lf f
  · exact run_33 IH F c63 c59 eh lf f
  · exact run_34 IH F c63 c59 eh lf f
  · exact run_35 IH F c63 c59 eh lf f
  · exact run_36 IH F c63 c59 eh lf f
  · exact run_37 IH F c63 c59 eh lf f
  · exact run_38 IH F c63 c59 eh lf f
theorem call_ok : ∀ (k d : Nat), d ≤ 100 → 100 ≤ d + k → CallOK d (K_82 (k + 1)) := by
  intro k
  induction k with
  | zero =>
    intro d h1 h2
    have e : K_82 (0 + 1) = F_82R (K_82 0) := by funext x1 x2 h; rfl
    rw [e]
    exact enter h1 (fun lt => by omega)
  | succ k ih =>
    intro d h1 h2
    have e : K_82 (k + 1 + 1) = F_82R (K_82 (k + 1)) := by funext x1 x2 h; rfl
    rw [e]
    exact enter h1 (fun lt => body (ih (d + 1) (by omega) (by omega)))
def oC2 (b : Nat) : Prop := b = 47 ∨ b = 0 ∨ (52 ≤ b ∧ b ≤ 55) ∨ (62 ≤ b ∧ b ≤ 66)
def oR2 (b j : Nat) : Prop := b = 68 ∨ (110 ≤ b ∧ b ≤ 116) ∨ (b = 67 ∧ (j = 1 ∨ j = 19 ∨ j = 68 ∨ (76 ≤ j ∧ j ≤ 78) ∨ j = 91))
theorem I1_run {h g h1 g1 : sm_H} (I : I1 h g) (K : K1 h1 g1) (E : ext g g1) (G : grow g g1) (eh : ∀ b j, oC2 b → h1.1 b j = h.1 b j ∧ h1.2.1 b j = h.2.1 b j) (eg : ∀ b j, oR2 b j → g1.1 b j = g.1 b j) (eg2 : ∀ b j, oR2 b j → (j ≠ 19 ∨ b ≠ 67) → g1.2.1 b j = g.2.1 b j) (U : cU h1 g1) : I1 h1 g1 := by
  have B0 := I1_base I
  obtain ⟨-, cR, cP, -, cY, cF, cZ⟩ := I1_K.mp I
  have a : ∀ b j, oC2 b → h1.1 b j = h.1 b j := fun b j o => (eh b j o).1
  have a' : ∀ b j, oC2 b → h1.2.1 b j = h.2.1 b j := fun b j o => (eh b j o).2
  have b : ∀ b j, oR2 b j → g1.1 b j = g.1 b j := eg
  have b' : ∀ b j, oR2 b j → (j ≠ 19 ∨ b ≠ 67) → g1.2.1 b j = g.2.1 b j := eg2
  refine I1_K.mpr ⟨K, ?_, ?_, ?_, ?_, ?_, ?_⟩
  · obtain ⟨r1, r2, r3⟩ := cR
    refine ⟨?_, ?_, fun k hk => ?_⟩
    · rw [a 64 1 (by unfold oC2; omega), b 67 1 (by unfold oR2; omega)]; exact r1
    · rw [b 67 1 (by unfold oR2; omega)]; exact r2
    · rw [a 65 k (by unfold oC2; omega), b 68 k (by unfold oR2; omega)]; exact r3 k hk
  · obtain ⟨r1, r2, r3⟩ := cP
    refine ⟨?_, ?_, fun k hk => ?_⟩
    · rw [a 0 11 (by unfold oC2; omega), b 67 68 (by unfold oR2; omega)]; exact r1
    · rw [b 67 68 (by unfold oR2; omega)]; exact r2
    · rw [a' 66 k (by unfold oC2; omega), b' 110 k (by unfold oR2; omega) (Or.inr (by decide))]; exact r3 k hk
  · exact U
  · obtain ⟨y1, y2, y3, y4⟩ := cY
    refine ⟨?_, ?_, fun k hk => ?_, fun k hk => ?_⟩
    · rw [a 52 1 (by unfold oC2; omega), b 67 76 (by unfold oR2; omega)]; exact y1
    · rw [b 67 76 (by unfold oR2; omega)]; exact y2
    · rw [a 53 k (by unfold oC2; omega), b 112 k (by unfold oR2; omega)]; exact y3 k hk
    · rw [a 54 k (by unfold oC2; omega), b 111 k (by unfold oR2; omega)]; exact y4 k hk
  · obtain ⟨f1, f2, f3, f4, f5⟩ := cF
    have e91 : g1.1 67 91 = g.1 67 91 := b 67 91 (by unfold oR2; omega)
    have eD : nD g1 = nD g := by show tn _ = tn _; rw [e91]
    refine ⟨?_, ?_, ?_, ?_, fun d hd => ?_⟩
    · rw [a 55 17 (by unfold oC2; omega), b 67 77 (by unfold oR2; omega)]; exact f1
    · rw [a 55 18 (by unfold oC2; omega), b 67 78 (by unfold oR2; omega)]; exact f2
    · rw [a 55 15 (by unfold oC2; omega), e91]; exact f3
    · rw [e91]; exact f4
    · rw [eD] at hd
      obtain ⟨d1, d2, x, d3, d4, d5, d6, d7⟩ := f5 d hd
      have lt := (B0.h.2 x d3).2.2.1
      have eM : tM g1 (ty g x) = tM g (ty g x) := by show tn _ = tn _; rw [(E.t.2 _ lt).2.1]
      rw [a' 62 d (by unfold oC2; omega), b' 113 d (by unfold oR2; omega) (Or.inr (by decide)), a 63 d (by unfold oC2; omega), b 114 d (by unfold oR2; omega)]
      refine ⟨d1, d2, x, by have := E.h1; omega, d4, ?_⟩
      rw [ext_ty E d3, eM, b 115 d (by unfold oR2; omega), (E.t.2 _ lt).2.1]
      refine ⟨d5, d6, fun i hi => ?_⟩
      rw [b 116 _ (by unfold oR2; omega), (E.t.2 _ lt).2.2 i hi]
      exact d7 i hi
  · show h1.1 0 12 = g1.1 67 19 ∧ h1.1 47 1 = 0
    rw [a 0 12 (by unfold oC2; omega), b 67 19 (by unfold oR2; omega), a 47 1 (by unfold oC2; omega)]; exact cZ
theorem ext_m {g g1 : sm_H} (a : agr SRm g g1) : ext g g1 := by
  have e : ∀ b j, 70 ≤ b → b ≤ 95 → g1.1 b j = g.1 b j := fun b j h1 h2 => (m_c a h1 h2).1
  have r : ∀ j, ¬ SRm 67 j → tn (g1.1 67 j) = tn (g.1 67 j) := fun j n => by rw [a.1 67 j n]
  refine ⟨?_, fun c _ => e _ _ (by decide) (by decide), ?_, fun v _ => e _ _ (by decide) (by decide), ⟨?_, fun t _ => ⟨e _ _ (by decide) (by decide), e _ _ (by decide) (by decide), fun k _ => e _ _ (by decide) (by decide)⟩⟩, ?_, fun x _ => e _ _ (by decide) (by decide), ?_, fun k _ => ?_, ?_, ⟨?_, fun m _ => ⟨e _ _ (by decide) (by decide), e _ _ (by decide) (by decide), e _ _ (by decide) (by decide), e _ _ (by decide) (by decide), e _ _ (by decide) (by decide), e _ _ (by decide) (by decide)⟩⟩⟩
  · exact Nat.le_of_eq (r 6 (by unfold SRm SN; omega)).symm
  · exact Nat.le_of_eq (r 40 (by unfold SRm SN; omega)).symm
  · exact Nat.le_of_eq (r 10 (by unfold SRm SN; omega)).symm
  · exact Nat.le_of_eq (r 18 (by unfold SRm SN; omega)).symm
  · exact Nat.le_of_eq (r 35 (by unfold SRm SN; omega)).symm
  · rw [e 92 k (by decide) (by decide), m_ty a]
  · exact Nat.le_of_eq (r 37 (by unfold SRm SN; omega)).symm
  · exact Nat.le_of_eq (r 32 (by unfold SRm SN; omega)).symm
theorem K1_u {h g : sm_H} (K : K1 h g) (a b c d : Int32) (e : Int64) : K1 h (sm_wJ (sm_wI (sm_wI (sm_wI (sm_wI g 67 73 a) 67 69 b) 67 70 c) 67 71 d) 67 72 e) := by
  obtain ⟨wK, cK, wT, cT, wH, cH, wM, cM, cG, cO, cV, wX, cX, cXh, wF⟩ := K
  exact ⟨wK, cK, wT, cT, wH, cH, wM, cM, cG, cO, cV, wX, cX, cXh, wF⟩
theorem K1_p {h g : sm_H} (K : K1 h g) : K1 (sm_wI h 0 11 0) (sm_wI g 67 68 0) := by
  obtain ⟨wK, cK, wT, cT, wH, cH, wM, cM, cG, cO, cV, wX, cX, cXh, wF⟩ := K
  exact ⟨wK, cK, wT, cT, wH, cH, wM, cM, cG, cO, cV, wX, cX, cXh_fr (by repeat first | exact hi_rfl | refine hi_wI ?_ (by decide) | refine hi_wJ ?_ (by decide)) cXh, wF⟩
theorem R_isNum {g : sm_H} {k : Nat} (k6 : k ≤ 6) (c : Int64) : F_316 (I3 k) c g = some (b2 (decide (nar k c = c)), g) := by
  show F_316_0 (I3 k) c g = _
  unfold F_316_0 F_316_17 F_316_40
  simp only [true_or, or_true, if_true]
  by_cases q1 : k = 1
  · subst q1
    rw [if_pos (by decide)]
    simp only [cmp_eq]
    have e1 : (nar 1 c = c) = (c = 0 ∨ c = 1) := propext (and1_iff c)
    by_cases z0 : c = 0
    · rw [if_pos z0, decide_eq_true (by rw [e1]; exact Or.inl z0)]; rfl
    · rw [if_neg z0]
      by_cases z1 : c = 1
      · rw [if_pos z1, decide_eq_true (by rw [e1]; exact Or.inr z1)]; rfl
      · rw [if_neg z1, decide_eq_false (by rw [e1]; rintro (z | z); exact z0 z; exact z1 z)]; rfl
  · rw [if_neg (by rw [I3_lit, I3_inj (by omega) (by decide)]; exact q1), R_nar g (by omega)]; simp only [obs]
    simp only [cmp_eq]
    by_cases z : nar k c = c
    · rw [if_pos z, decide_eq_true z]; rfl
    · rw [if_neg z, decide_eq_false z]; rfl
theorem R_isValue {h g : sm_H} (K : K1 h g) {k : Nat} (k1 : 0 < k) (k2 : k < 20 + nC g) (c : Int64) : F_403 (I3 k) c g = some (b2 (decide (trK g k c = 0)), g) := by
  have wK := K.1
  have h12 := wK.2.1
  have cVq := K.2.2.2.2.2.2.2.2.2.2.1
  have w100 : nV g ≤ 100 := cVq.2.1.2
  have e40 : g.1 67 40 = I3 (nV g) := cVq.2.1.1
  show F_403_0 (I3 k) c g = _
  unfold F_403_0 F_403_57 F_403_58
  rw [R_plain (by omega)]; simp only [obs]
  unfold trK
  by_cases q : k ≤ 6
  · rw [if_pos q, decide_eq_true (show 1 ≤ k ∧ k ≤ 6 by omega), if_neg (by decide), R_isNum q]; simp only [obs]
    rw [zbb]
    by_cases q1 : nar k c = c
    · rw [if_pos q1, decide_eq_true q1]; rfl
    · rw [if_neg q1, decide_eq_false q1]; rfl
  · rw [if_neg q, decide_eq_false (show ¬ (1 ≤ k ∧ k ≤ 6) by omega), if_pos (by decide)]
    simp only [cmp_eq, cmp_lt]
    by_cases q1 : c = -1
    · rw [if_pos q1, if_pos q1]; rfl
    · rw [if_neg q1, if_neg q1, e40, R_out, toI64, I3_lit, I3m1 (by omega), show (0 : Int64).toInt = 0 from rfl]; simp only [obs]
      by_cases q2 : c.toInt < 0 ∨ (nV g : Int) ≤ c.toInt
      · rw [decide_eq_true (show c.toInt < 0 ∨ (nV g : Int) - 1 < c.toInt by omega), if_neg (by decide), if_pos q2]; rfl
      · have v1 : c.toInt.toNat < nV g := by omega
        rw [decide_eq_false (show ¬ (c.toInt < 0 ∨ (nV g : Int) - 1 < c.toInt) by omega), if_pos (by decide), if_neg q2]
        have ec : c = I6 c.toInt.toNat := by rw [← Int64.toInt_inj, I6_toInt (by omega)]; omega
        obtain ⟨qk, z1, z2, -⟩ := cVq.2.2.2 _ v1
        have e32 : Int64.toInt32 c = I3 c.toInt.toNat := by rw [ec, I6_32, ← ec]
        rw [e32, ldI_I (by omega) (by omega), z1]; simp only [obs]
        rw [R_below wK z2 (by omega), show tn (I3 qk) = qk from I3_clamp (by omega)]; simp only [obs]
        cases B g qk k <;> rfl
