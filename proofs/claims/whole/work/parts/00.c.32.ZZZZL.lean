def DF (nd : Nat) (h g : sm_H) : Prop := h.1 55 15 = I3 nd ∧ g.1 67 91 = I3 nd ∧ nd ≤ 60 ∧ ∀ d, d < nd → h.2.1 62 d = g.2.1 113 d ∧ h.1 63 d = g.1 114 d ∧ ∃ a, a < nH g ∧ g.1 114 d = I3 a ∧ (hpl g a).length ≤ 6 ∧ g.1 115 d = I3 (hpl g a).length ∧ ∀ i, i < (hpl g a).length → g.1 116 (6 * d + i) = at0 (hpl g a) i
def wd (nd : Nat) (x : Int64) (g : sm_H) : Nat := fst1 (fun d => decide (g.2.1 113 d = x)) nd
section
variable {nd : Nat} {h g : sm_H}
theorem C_166 (D : DF nd h g) (x : Int64) : F_166 x h = some (if wd nd x g < nd then I3 (wd nd x g) else -1, h) := by
  obtain ⟨s1, s2, s3, s4⟩ := D
  have L := lp_fst (body := F_166_2B) (fun d => decide (g.2.1 113 d = x)) nd (fun k => (x, I3 k, h)) (fun k => (I3 k, h)) (-1, h) (f := 1000000) (by omega) (fun i hi e => ?_) (fun i hi e => ?_) ?_
  · refine Eq.trans (show F_166 x h = lp F_166_2B 1000000 (x, I3 0, h) from rfl) (L.trans ?_)
    unfold wd
    split <;> rfl
  · show F_166_2B (x, I3 i, h) = _
    unfold F_166_2B
    simp only []
    rw [s1, if_neg (by rw [I3_le (by omega) (by omega)]; omega), ldJ_I (by omega) (by decide), (s4 i hi).1]; simp only [obs]
    rw [if_neg (fun z => (of_decide_eq_false e) (cmp_eq.mp z)), show I3 i + 1 = I3 (i + 1) from I3_add i 1]
  · show F_166_2B (x, I3 i, h) = _
    unfold F_166_2B
    simp only []
    rw [s1, if_neg (by rw [I3_le (by omega) (by omega)]; omega), ldJ_I (by omega) (by decide), (s4 i hi).1]; simp only [obs]
    rw [if_pos (cmp_eq.mpr (of_decide_eq_true e))]
  · show F_166_2B (x, I3 nd, h) = _
    unfold F_166_2B
    simp only []
    rw [s1, if_pos (by rw [I3_le (by omega) (by omega)]; omega)]
theorem R_443 (D : DF nd h g) (x : Int64) : F_443 x g = some (if wd nd x g < nd then I3 (wd nd x g) else -1, g) := by
  obtain ⟨s1, s2, s3, s4⟩ := D
  have L := lp_fst (body := F_443_2B) (fun d => decide (g.2.1 113 d = x)) nd (fun k => (x, I3 k, g)) (fun k => (I3 k, g)) (-1, g) (f := 1000000) (by omega) (fun i hi e => ?_) (fun i hi e => ?_) ?_
  · refine Eq.trans (show F_443 x g = lp F_443_2B 1000000 (x, I3 0, g) from rfl) (L.trans ?_)
    unfold wd
    split <;> rfl
  · show F_443_2B (x, I3 i, g) = _
    unfold F_443_2B
    simp only []
    rw [s2, if_neg (by rw [I3_le (by omega) (by omega)]; omega), ldJ_I (by omega) (by decide)]; simp only [obs]
    rw [if_neg (fun z => (of_decide_eq_false e) (cmp_eq.mp z)), show I3 i + 1 = I3 (i + 1) from I3_add i 1]
  · show F_443_2B (x, I3 i, g) = _
    unfold F_443_2B
    simp only []
    rw [s2, if_neg (by rw [I3_le (by omega) (by omega)]; omega), ldJ_I (by omega) (by decide)]; simp only [obs]
    rw [if_pos (cmp_eq.mpr (of_decide_eq_true e))]
  · show F_443_2B (x, I3 nd, g) = _
    unfold F_443_2B
    simp only []
    rw [s2, if_pos (by rw [I3_le (by omega) (by omega)]; omega)]
theorem DF_x {h1 g1 : sm_H} {P Q : Nat → Nat → Prop} (K : K1 h g) (D : DF nd h g) (e : ext g g1) (r : grow g g1) (a : agr P h h1) (b : agr Q g g1) (p : ∀ b j, P b j → ¬ (b = 55 ∧ j = 15 ∨ b = 62 ∨ b = 63)) (q : ∀ b j, Q b j → ¬ (b = 67 ∧ j = 91 ∨ 113 ≤ b ∧ b ≤ 116)) : DF nd h1 g1 := by
  obtain ⟨s1, s2, s3, s4⟩ := D
  refine ⟨(a.1 55 15 (fun z => p _ _ z (by omega))).trans s1, (b.1 67 91 (fun z => q _ _ z (by omega))).trans s2, s3, fun d hd => ?_⟩
  obtain ⟨t1, t2, x, x1, x2, x3, x4, x5⟩ := s4 d hd
  have hx := ext_hpl K.2.2.2.2.1 e x1
  rw [a.2.1 62 d (fun z => p _ _ z (by omega)), a.1 63 d (fun z => p _ _ z (by omega)), b.2.1 113 d (fun z => q _ _ z (by omega)), b.1 114 d (fun z => q _ _ z (by omega)), b.1 115 d (fun z => q _ _ z (by omega))]
  refine ⟨t1, t2, x, Nat.lt_of_lt_of_le x1 r.2.2.1, x2, by rw [hx]; exact x3, by rw [hx]; exact x4, fun i hi => ?_⟩
  rw [hx] at hi ⊢
  rw [b.1 116 _ (fun z => q _ _ z (by omega))]; exact x5 i hi
end
