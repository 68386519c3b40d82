def fitB (m L : List Int32) (i j : Nat) : Bool := all1 (fun k => decide (j + k < L.length) && decide (at0 L (j + k) = at0 m (i + k))) (m.length - i)
theorem fitB_pre {m L : List Int32} {i j : Nat} (h : fitB m L i j = true) : pre (m.drop i) (L.drop j) := by
  unfold fitB at h
  have h := all1_iff.mp h
  refine ⟨?_, fun k hk => ?_⟩
  · rw [List.length_drop, List.length_drop]
    rcases Nat.eq_zero_or_pos (m.length - i) with z | z
    · omega
    · have := h (m.length - i - 1) (by omega)
      rw [Bool.and_eq_true, decide_eq_true_eq] at this
      omega
  · rw [List.length_drop] at hk
    have := h k hk
    rw [Bool.and_eq_true, decide_eq_true_eq, decide_eq_true_eq] at this
    rw [at0_drop, at0_drop]; exact this.2
theorem fitB_shift {m L L' : List Int32} {i j j' : Nat} (e : L.drop j = L'.drop j') : fitB m L i j = fitB m L' i j' := by
  unfold fitB
  refine all1_congr (fun k hk => ?_)
  have e1 : L.length - j = L'.length - j' := by rw [← List.length_drop, e, List.length_drop]
  have e2 : at0 L (j + k) = at0 L' (j' + k) := by rw [← at0_drop, e, at0_drop]
  have e3 : (j + k < L.length) = (j' + k < L'.length) := propext ⟨fun z => by omega, fun z => by omega⟩
  rw [e2]; simp only [e3]
theorem C_agree {h g : sm_H} (K : K1 h g) {t u i j : Nat} (ht : t < nT g) (hu : u < nT g) (hi : i ≤ (pl g t).length) (hj : j ≤ (pl g u).length) : F_235 (I3 t) (I3 i) (I3 u) (I3 j) (I3 ((pl g t).length - i)) h = some (b2 (fitB (pl g t) (pl g u) i j), h) := by
  have wT := K.2.2.1
  have cTh := K.2.2.2.1
  have w300 : nT g ≤ 300 := wT.1.2
  have lt := pl_len g t
  have lu := pl_len g u
  have t10 : tM g t ≤ 10 := (wT.2.1 t ht).2.1.2
  have u10 : tM g u ≤ 10 := (wT.2.1 u hu).2.1.2
  have e4 : h.1 5 4 = I3 (nT g) := cTh.1.trans wT.1.1
  have l1 : ldI h 7 300 (I3 t) = some (I3 (tM g t)) := by rw [ldI_I (by omega) (by omega), (cTh.2.1 t (by omega)).2, (wT.2.1 t ht).2.1.1]
  have l2 : ldI h 7 300 (I3 u) = some (I3 (tM g u)) := by rw [ldI_I (by omega) (by omega), (cTh.2.1 u (by omega)).2, (wT.2.1 u hu).2.1.1]
  show F_235_0 (I3 t) (I3 i) (I3 u) (I3 j) (I3 ((pl g t).length - i)) h = _
  unfold F_235_0
  rw [if_neg (I3_nn (by omega)), e4, if_neg (by rw [I3_le (by omega) (by omega)]; omega), if_neg (I3_nn (by omega)), if_pos (by rw [I3_lt (by omega) (by omega)]; omega), if_neg (I3_nn (by omega)), if_neg (I3_nn (by omega)), if_pos (by rw [I3_lit, I3_le (by decide) (by omega)]; omega), l1]; simp only [Option.bind_some]
  rw [I3_add, if_neg (by rw [I3_lt (by omega) (by omega)]; omega), l2]; simp only [Option.bind_some]
  rw [I3_add]
  by_cases q : j + ((pl g t).length - i) ≤ tM g u
  · rw [if_pos (by rw [I3_le (by omega) (by omega)]; exact q)]
    have L := lp_all (body := F_235_74B) (fun k => decide (j + k < (pl g u).length) && decide (at0 (pl g u) (j + k) = at0 (pl g t) (i + k))) ((pl g t).length - i) (fun k => (I3 t, I3 i, I3 u, I3 j, I3 ((pl g t).length - i), I3 k, h)) (0, h) (1, h) (f := 1000000) (by omega) (fun k hk e => ?_) (fun k hk e => ?_) ?_
    · refine Eq.trans (show F_235_74 (I3 t) (I3 i) (I3 u) (I3 j) (I3 ((pl g t).length - i)) 0 h = lp F_235_74B 1000000 (I3 t, I3 i, I3 u, I3 j, I3 ((pl g t).length - i), I3 0, h) from rfl) (L.trans ?_)
      unfold fitB
      cases all1 (fun k => decide (j + k < (pl g u).length) && decide (at0 (pl g u) (j + k) = at0 (pl g t) (i + k))) ((pl g t).length - i) <;> rfl
    · rw [Bool.and_eq_true, decide_eq_true_eq, decide_eq_true_eq] at e
      show F_235_74B (I3 t, I3 i, I3 u, I3 j, I3 ((pl g t).length - i), I3 k, h) = _
      unfold F_235_74B
      rw [if_neg (by rw [I3_le (by omega) (by omega)]; omega), I3_lit, I3_mul, I3_mul, I3_add, I3_add, I3_add, I3_add, ldI_I (by omega) (by omega), ldI_I (by omega) (by omega), cTh.2.2 _ (by omega), cTh.2.2 _ (by omega)]; simp only [Option.bind_some]
      have e1 := e.2
      rw [at0_lst (by omega), at0_lst (by omega)] at e1
      rw [if_pos (by rw [show t * 10 + i + k = 10 * t + (i + k) by omega, show u * 10 + j + k = 10 * u + (j + k) by omega]; exact e1.symm), I3_lit, I3_add]
    · have e1 : ¬ at0 (pl g u) (j + k) = at0 (pl g t) (i + k) := by
        rw [decide_eq_true (show j + k < (pl g u).length by omega), Bool.true_and] at e
        exact of_decide_eq_false e
      show F_235_74B (I3 t, I3 i, I3 u, I3 j, I3 ((pl g t).length - i), I3 k, h) = _
      unfold F_235_74B
      rw [if_neg (by rw [I3_le (by omega) (by omega)]; omega), I3_lit, I3_mul, I3_mul, I3_add, I3_add, I3_add, I3_add, ldI_I (by omega) (by omega), ldI_I (by omega) (by omega), cTh.2.2 _ (by omega), cTh.2.2 _ (by omega)]; simp only [Option.bind_some]
      rw [at0_lst (by omega), at0_lst (by omega)] at e1
      rw [if_neg (by rw [show t * 10 + i + k = 10 * t + (i + k) by omega, show u * 10 + j + k = 10 * u + (j + k) by omega]; exact fun z => e1 z.symm)]
    · show F_235_74B (I3 t, I3 i, I3 u, I3 j, I3 ((pl g t).length - i), I3 ((pl g t).length - i), h) = _
      unfold F_235_74B
      rw [if_pos (by rw [I3_le (by omega) (by omega)]; omega)]
  · rw [if_neg (by rw [I3_le (by omega) (by omega)]; exact q)]
    have : fitB (pl g t) (pl g u) i j = false := by
      cases f : fitB (pl g t) (pl g u) i j with
      | false => rfl
      | true =>
        have := (fitB_pre f).1
        rw [List.length_drop, List.length_drop] at this
        omega
    rw [this]; rfl
theorem R_areFirst {h g u : sm_H} {r : Int32} {l : List Int32} (e : E h g u r l) {x i j : Nat} (hx : x < nH g) (hi : i ≤ (hpl g x).length) (hj : j ≤ 1000) (hl : l.length ≤ 64) : F_312 (I3 x) (I3 i) (I3 j) u = some (b2 (fitB (hpl g x) l i j), u) := by
  have hx' : x < nH u := by rw [e.nH]; exact hx
  have m10 := mn_10 e.k hx'
  rw [e.hpl] at m10
  have ml := hpl_len g x
  have M := E_many e hx
  have L := lp_all (body := F_312_3B) (fun k => decide (j + k < l.length) && decide (at0 l (j + k) = at0 (hpl g x) (i + k))) ((hpl g x).length - i) (fun k => (I3 x, I3 i, I3 j, I3 (i + k), u)) (0, u) (1, u) (f := 1000000) (by omega) (fun k hk z => ?_) (fun k hk z => ?_) ?_
  · refine Eq.trans (show F_312 (I3 x) (I3 i) (I3 j) u = lp F_312_3B 1000000 (I3 x, I3 i, I3 j, I3 (i + 0), u) from rfl) (L.trans ?_)
    unfold fitB
    cases all1 (fun k => decide (j + k < l.length) && decide (at0 l (j + k) = at0 (hpl g x) (i + k))) ((hpl g x).length - i) <;> rfl
  · rw [Bool.and_eq_true, decide_eq_true_eq, decide_eq_true_eq] at z
    show F_312_3B (I3 x, I3 i, I3 j, I3 (i + k), u) = _
    unfold F_312_3B
    rw [M]; simp only [Option.bind_some]
    rw [if_neg (by rw [I3_le (by omega) (by omega)]; omega), e.d.1, I3_add, I3_sub (by omega), if_neg (by rw [I3_le (by omega) (by omega)]; omega), ldI_I (by omega) (by omega), e.d.2 _ (by omega), E_place e hx (k := i + k) (by omega)]; simp only [Option.bind_some]
    rw [if_pos (by rw [show j + (i + k) - i = j + k by omega]; exact z.2), I3_lit, I3_add, Nat.add_assoc]
  · show F_312_3B (I3 x, I3 i, I3 j, I3 (i + k), u) = _
    unfold F_312_3B F_312_47
    rw [M]; simp only [Option.bind_some]
    rw [if_neg (by rw [I3_le (by omega) (by omega)]; omega), e.d.1, I3_add, I3_sub (by omega)]
    by_cases q : j + k < l.length
    · rw [decide_eq_true q, Bool.true_and] at z
      rw [if_neg (by rw [I3_le (by omega) (by omega)]; omega), ldI_I (by omega) (by omega), e.d.2 _ (by omega), E_place e hx (k := i + k) (by omega)]; simp only [Option.bind_some]
      rw [if_neg (by rw [show j + (i + k) - i = j + k by omega]; exact of_decide_eq_false z)]; rfl
    · rw [if_pos (by rw [I3_le (by omega) (by omega)]; omega)]; rfl
  · show F_312_3B (I3 x, I3 i, I3 j, I3 (i + ((hpl g x).length - i)), u) = _
    unfold F_312_3B
    rw [M]; simp only [Option.bind_some]
    rw [if_pos (by rw [I3_le (by omega) (by omega)]; omega)]
theorem cons_drop {l : List Int32} {x : Int32} (h : 0 < l.length) (e : at0 l 0 = x) : l = x :: l.drop 1 := by
  cases l with
  | nil => cases h
  | cons a m => rw [show at0 (a :: m) 0 = a from rfl] at e; rw [e]; rfl
