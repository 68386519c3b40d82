def DF (nd : Nat) (h g : sm_H) : Prop := h.1 55 15 = I3 nd ∧ g.1 67 91 = I3 nd ∧ nd ≤ 60 ∧ ∀ d, d < nd → h.2.1 62 d = g.2.1 113 d ∧ h.1 63 d = g.1 114 d ∧ ∃ a, a < nH g ∧ g.1 114 d = I3 a ∧ (hpl g a).length ≤ 6 ∧ g.1 115 d = I3 (hpl g a).length ∧ ∀ i, i < (hpl g a).length → g.1 116 (6 * d + i) = at0 (hpl g a) i
def wd (nd : Nat) (x : Int64) (g : sm_H) : Nat := fst1 (fun d => decide (g.2.1 113 d = x)) nd
section
variable {nd : Nat} {h g : sm_H}
theorem C_166 (D : DF nd h g) (x : Int64) : F_166 x h = some (if wd nd x g < nd then I3 (wd nd x g) else -1, h) := by
  obtain ⟨s1, s2, s3, s4⟩ := D
  have L := lp_fst (body := F_166_2B) (fun d => decide (g.2.1 113 d = x)) nd (fun k => (x, I3 k, h)) (fun k => (I3 k, h)) (-1, h) (f := 1000000) (by omega) (fun i hi e => ?_) (fun i hi e => ?_) ?_
  · refine Eq.trans (show F_166 x h = lp F_166_2B 1000000 (x, I3 0, h) from rfl) (L.trans ?_)
    unfold wd
    split <;> rfl
  · show F_166_2B (x, I3 i, h) = _
    unfold F_166_2B
    simp only []
    rw [s1, if_neg (by rw [I3_le (by omega) (by omega)]; omega), ldJ_I (by omega) (by decide), (s4 i hi).1]; simp only [obs]
    rw [if_neg (fun z => (of_decide_eq_false e) (cmp_eq.mp z)), show I3 i + 1 = I3 (i + 1) from I3_add i 1]
  · show F_166_2B (x, I3 i, h) = _
    unfold F_166_2B
    simp only []
    rw [s1, if_neg (by rw [I3_le (by omega) (by omega)]; omega), ldJ_I (by omega) (by decide), (s4 i hi).1]; simp only [obs]
    rw [if_pos (cmp_eq.mpr (of_decide_eq_true e))]
  · show F_166_2B (x, I3 nd, h) = _
    unfold F_166_2B
    simp only []
    rw [s1, if_pos (by rw [I3_le (by omega) (by omega)]; omega)]
theorem R_443 (D : DF nd h g) (x : Int64) : F_443 x g = some (if wd nd x g < nd then I3 (wd nd x g) else -1, g) := by
  obtain ⟨s1, s2, s3, s4⟩ := D
  have L := lp_fst (body := F_443_2B) (fun d => decide (g.2.1 113 d = x)) nd (fun k => (x, I3 k, g)) (fun k => (I3 k, g)) (-1, g) (f := 1000000) (by omega) (fun i hi e => ?_) (fun i hi e => ?_) ?_
  · refine Eq.trans (show F_443 x g = lp F_443_2B 1000000 (x, I3 0, g) from rfl) (L.trans ?_)
    unfold wd
    split <;> rfl
  · show F_443_2B (x, I3 i, g) = _
    unfold F_443_2B
    simp only []
    rw [s2, if_neg (by rw [I3_le (by omega) (by omega)]; omega), ldJ_I (by omega) (by decide)]; simp only [obs]
    rw [if_neg (fun z => (of_decide_eq_false e) (cmp_eq.mp z)), show I3 i + 1 = I3 (i + 1) from I3_add i 1]
  · show F_443_2B (x, I3 i, g) = _
    unfold F_443_2B
    simp only []
    rw [s2, if_neg (by rw [I3_le (by omega) (by omega)]; omega), ldJ_I (by omega) (by decide)]; simp only [obs]
    rw [if_pos (cmp_eq.mpr (of_decide_eq_true e))]
  · show F_443_2B (x, I3 nd, g) = _
    unfold F_443_2B
    simp only []
    rw [s2, if_pos (by rw [I3_le (by omega) (by omega)]; omega)]
theorem DF_x {h1 g1 : sm_H} {P Q : Nat → Nat → Prop} (K : K1 h g) (D : DF nd h g) (e : ext g g1) (r : grow g g1) (a : agr P h h1) (b : agr Q g g1) (p : ∀ b j, P b j → ¬ (b = 55 ∧ j = 15 ∨ b = 62 ∨ b = 63)) (q : ∀ b j, Q b j → ¬ (b = 67 ∧ j = 91 ∨ 113 ≤ b ∧ b ≤ 116)) : DF nd h1 g1 := by
  obtain ⟨s1, s2, s3, s4⟩ := D
  refine ⟨(a.1 55 15 (fun z => p _ _ z (by omega))).trans s1, (b.1 67 91 (fun z => q _ _ z (by omega))).trans s2, s3, fun d hd => ?_⟩
  obtain ⟨t1, t2, x, x1, x2, x3, x4, x5⟩ := s4 d hd
  have hx := ext_hpl K.2.2.2.2.1 e x1
  rw [a.2.1 62 d (fun z => p _ _ z (by omega)), a.1 63 d (fun z => p _ _ z (by omega)), b.2.1 113 d (fun z => q _ _ z (by omega)), b.1 114 d (fun z => q _ _ z (by omega)), b.1 115 d (fun z => q _ _ z (by omega))]
  refine ⟨t1, t2, x, Nat.lt_of_lt_of_le x1 r.2.2.1, x2, by rw [hx]; exact x3, by rw [hx]; exact x4, fun i hi => ?_⟩
  rw [hx] at hi ⊢
  rw [b.1 116 _ (fun z => q _ _ z (by omega))]; exact x5 i hi
end
theorem pushR {g : sm_H} {j : Nat} (hj : j < 24) (b : g.1 67 102 = I3 j) (x y : Int32) : ∃ g1, F_445 x y g = some g1 ∧ g1.1 119 j = x ∧ g1.1 120 j = y ∧ g1.1 121 j = 0 ∧ g1.1 122 j = 0 ∧ g1.1 123 j = g.1 67 94 ∧ g1.1 124 j = 0 ∧ g1.1 67 102 = I3 (j + 1) ∧ agr (fun b i => (119 ≤ b ∧ b ≤ 124 ∧ i = j) ∨ b = 67 ∧ i = 102) g g1 := by
  refine ⟨sm_wI (sm_wI (sm_wI (sm_wI (sm_wI (sm_wI (sm_wI g 119 j x) 120 j y) 121 j 0) 123 j (g.1 67 94)) 124 j 0) 122 j 0) 67 102 (I3 (j + 1)), ?_, if_pos rfl, if_pos rfl, if_pos rfl, if_pos rfl, if_pos rfl, if_pos rfl, rfl, agr_wI (agr_wI (agr_wI (agr_wI (agr_wI (agr_wI (agr_wI agr_rfl (Or.inl ⟨by decide, by decide, rfl⟩)) (Or.inl ⟨by decide, by decide, rfl⟩)) (Or.inl ⟨by decide, by decide, rfl⟩)) (Or.inl ⟨by decide, by decide, rfl⟩)) (Or.inl ⟨by decide, by decide, rfl⟩)) (Or.inl ⟨by decide, by decide, rfl⟩)) (Or.inr ⟨rfl, rfl⟩)⟩
  show F_445_0 x y g = _
  unfold F_445_0
  rw [b, stI_I hj (by decide)]; simp only [obs]
  rw [show (sm_wI g 119 j x).1 67 102 = I3 j from b, stI_I hj (by decide)]; simp only [obs]
  rw [show (sm_wI (sm_wI g 119 j x) 120 j y).1 67 102 = I3 j from b, stI_I hj (by decide)]; simp only [obs]
  rw [show (sm_wI (sm_wI (sm_wI g 119 j x) 120 j y) 121 j 0).1 67 102 = I3 j from b, show (sm_wI (sm_wI (sm_wI g 119 j x) 120 j y) 121 j 0).1 67 94 = g.1 67 94 from rfl, stI_I hj (by decide)]; simp only [obs]
  rw [show (sm_wI (sm_wI (sm_wI (sm_wI g 119 j x) 120 j y) 121 j 0) 123 j (g.1 67 94)).1 67 102 = I3 j from b, stI_I hj (by decide)]; simp only [obs]
  rw [show (sm_wI (sm_wI (sm_wI (sm_wI (sm_wI g 119 j x) 120 j y) 121 j 0) 123 j (g.1 67 94)) 124 j 0).1 67 102 = I3 j from b, stI_I hj (by decide)]; simp only [obs]
  rw [show (sm_wI (sm_wI (sm_wI (sm_wI (sm_wI (sm_wI g 119 j x) 120 j y) 121 j 0) 123 j (g.1 67 94)) 124 j 0) 122 j 0).1 67 102 = I3 j from b, show I3 j + 1 = I3 (j + 1) from I3_add j 1]
theorem C_188 {h : sm_H} {T y : Nat} (e : h.1 55 12 = I3 T) (hT : T < 200) (hy : y < 500) (x : Int64) : ∃ h1, F_188 (I3 y) x h = some (1, h1) ∧ h1.1 55 12 = I3 (T + 1) ∧ h1.1 60 T = I3 y ∧ h1.2.1 61 T = x ∧ agr (fun b j => (b = 60 ∨ b = 61) ∧ j = T ∨ b = 55 ∧ j = 12) h h1 := by
  refine ⟨sm_wI (sm_wJ (sm_wI h 60 T (I3 y)) 61 T x) 55 12 (I3 (T + 1)), ?_, rfl, if_pos rfl, if_pos rfl, agr_wI (agr_wJ (agr_wI agr_rfl (Or.inl ⟨Or.inl rfl, rfl⟩)) (Or.inl ⟨Or.inr rfl, rfl⟩)) (Or.inr ⟨rfl, rfl⟩)⟩
  show F_188_0 (I3 y) x h = _
  unfold F_188_0
  rw [if_neg (m1_l hy (Nat.le_refl _)), e, if_pos (by rw [I3_lit, I3_lt (by omega) (by decide)]; exact hT), stI_I hT (by decide)]; simp only [obs]
  rw [show (sm_wI h 60 T (I3 y)).1 55 12 = I3 T from e, stJ_I hT (by decide)]; simp only [obs]
  rw [show (sm_wJ (sm_wI h 60 T (I3 y)) 61 T x).1 55 12 = I3 T from e, show I3 T + 1 = I3 (T + 1) from I3_add T 1]
theorem name_ns {n : Nat} {bt : Nat → Nat} {f : Nat} (w : wrd n bt f = 4) : ∃ m, m < 2 ^ 63 ∧ foldN bt f (men n bt f - f) = I6 m ∧ (m ≠ 43 ∧ m ≠ 45 ∧ m ≠ 42 ∧ m ≠ 47 ∧ m ≠ 37 ∧ m ≠ 38 ∧ m ≠ 124 ∧ m ≠ 94 ∧ m ≠ 60 ∧ m ≠ 61) := by
  have hh : ¬ n ≤ f ∧ isL (bt f) = true ∧ men n bt f - f ≤ 8 := by
    unfold wrd at w
    repeat' split at w
    all_goals first
      | exact ⟨by assumption, by assumption, by assumption⟩
      | (cases w)
  obtain ⟨h1, h2, h3⟩ := hh
  have z := foldN_M bt f (men n bt f - f) h3 (fun j hj => men_127 (n := n) j (by omega))
  have hf : 97 ≤ bt f ∧ bt f ≤ 122 := by unfold isL at h2; exact of_decide_eq_true h2
  have g1 : ∀ k, 97 ≤ foldM bt f (k + 1) ∧ (k = 0 → foldM bt f (k + 1) ≤ 122) ∧ (0 < k → 256 ≤ foldM bt f (k + 1)) := fun k => by
    induction k with
    | zero =>
      have e : foldM bt f (0 + 1) = bt f := by show 0 * 256 + bt (f + 0) = _; rw [Nat.add_zero]; omega
      rw [e]; exact ⟨hf.1, fun _ => hf.2, fun z => by omega⟩
    | succ k ih =>
      have e : foldM bt f (k + 1 + 1) = foldM bt f (k + 1) * 256 + bt (f + (k + 1)) := rfl
      rw [e]
      exact ⟨by omega, fun z => by omega, fun _ => by omega⟩
  have k1 : f < men n bt f := by
    have := (wen_n (n := n) (bt := bt) (f := f) (by omega)).2.2 (by omega) (by omega)
    have e : wen n bt f = men n bt f := by
      unfold wen
      have nN : ¬ isN n bt f = true := by
        unfold isN isD
        rw [Bool.or_eq_true, Bool.and_eq_true, decide_eq_true_iff, decide_eq_true_iff]
        omega
      rw [if_neg h1, if_neg nN, if_pos h2]
    omega
  have g2 := g1 (men n bt f - f - 1)
  rw [show men n bt f - f - 1 + 1 = men n bt f - f by omega] at g2
  refine ⟨_, z.2, z.1, ?_⟩
  generalize foldM bt f (men n bt f - f) = m at g2
  by_cases q : men n bt f - f - 1 = 0
  · have := g2.2.1 q; omega
  · have := g2.2.2 (by omega); omega
