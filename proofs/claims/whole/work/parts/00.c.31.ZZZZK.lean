def kw (x : Int64) : Nat := fst1 (fun i => decide (P_KW.getD i 0 = x)) 16
theorem kw_inj : ∀ i j : Fin 16, P_KW.getD i 0 = P_KW.getD j 0 → i = j := by decide +kernel
theorem kw_spec (x : Int64) : kw x ≤ 16 ∧ (kw x < 16 → P_KW.getD (kw x) 0 = x) ∧ ∀ j, j < 16 → P_KW.getD j 0 = x → j = kw x := fsp (fun i => P_KW.getD i 0) 16 (fun i j hi hj e => congrArg Fin.val (kw_inj ⟨i, hi⟩ ⟨j, hj⟩ e)) x
section
variable {h g : sm_H}
theorem C_197 (x : Int64) (h : sm_H) : F_197 x h = some (if kw x < 16 then I3 (kw x) else -1, h) := by
  have ks := kw_spec x
  have LP : ∀ r i fu, i + r = 16 → r < fu → i ≤ kw x → lp F_197_2B fu (x, I3 i, h) = some (if kw x < 16 then I3 (kw x) else -1, h) := by
    intro r
    induction r with
    | zero =>
      intro i fu hi hf hw
      have e : i = 16 := by omega
      subst e
      rw [if_neg (by omega)]
      refine lp_e (by omega) ?_
      unfold F_197_2B
      simp only []
      rw [show sm_al G0 h 2000000 = some 16 from rfl]; simp only [obs]
      rw [if_pos (by decide)]
    | succ r ih =>
      intro i fu hi hf hw
      have ld : sm_ldJ G0 h 2000000 (I3 i) = some (P_KW.getD i 0) := by
        rcases (show i = 0 ∨ i = 1 ∨ i = 2 ∨ i = 3 ∨ i = 4 ∨ i = 5 ∨ i = 6 ∨ i = 7 ∨ i = 8 ∨ i = 9 ∨ i = 10 ∨ i = 11 ∨ i = 12 ∨ i = 13 ∨ i = 14 ∨ i = 15 by omega) with rfl | rfl | rfl | rfl | rfl | rfl | rfl | rfl | rfl | rfl | rfl | rfl | rfl | rfl | rfl | rfl <;> rfl
      have B : F_197_2B (x, I3 i, h) = if P_KW.getD i 0 = x then some (.inr (I3 i, h)) else some (.inl (x, I3 (i + 1), h)) := by
        unfold F_197_2B
        simp only []
        rw [show sm_al G0 h 2000000 = some 16 from rfl]; simp only [obs]
        rw [if_neg (by rw [I3_lit, I3_le (by decide) (by omega)]; omega), ld]; simp only [obs]
        rw [show I3 i + 1 = I3 (i + 1) from I3_add i 1]
        by_cases q : P_KW.getD i 0 = x
        · rw [if_pos (cmp_eq.mpr q), if_pos q]
        · rw [if_neg (fun z => q (cmp_eq.mp z)), if_neg q]
      by_cases q : P_KW.getD i 0 = x
      · rw [if_pos q] at B
        have e := ks.2.2 i (by omega) q
        rw [lp_e (by omega) B, if_pos (by omega), e]
      · rw [if_neg q] at B
        have hw' : i + 1 ≤ kw x := by
          rcases Nat.lt_or_ge i (kw x) with y | y
          · exact y
          · have e : kw x = i := by omega
            exact absurd (by have := ks.2.1 (by omega); rw [e] at this; exact this) q
        rw [lp_s (by omega) B]
        exact ih (i + 1) (fu - 1) (by omega) (by omega) hw'
  exact LP 16 0 1000000 (by omega) (by omega) (Nat.zero_le _)
theorem R_441n {m : Nat} (hm : m < 2 ^ 63) (no : m ≠ 43 ∧ m ≠ 45 ∧ m ≠ 42 ∧ m ≠ 47 ∧ m ≠ 37 ∧ m ≠ 38 ∧ m ≠ 124 ∧ m ≠ 94 ∧ m ≠ 60 ∧ m ≠ 61) : F_441 (I6 m) g = some (-1, g) := by
  obtain ⟨n0, n1, n2, n3, n4, n5, n6, n7, n8, n9⟩ := no
  show F_441_0 (I6 m) g = _
  unfold F_441_0 F_441_109
  rw [if_neg (show ¬ lg_cmp (I6 m) 43 = 0 from ceq hm (x := 43) (by decide) n0), if_neg (show ¬ lg_cmp (I6 m) 45 = 0 from ceq hm (x := 45) (by decide) n1), if_neg (show ¬ lg_cmp (I6 m) 42 = 0 from ceq hm (x := 42) (by decide) n2), if_neg (show ¬ lg_cmp (I6 m) 47 = 0 from ceq hm (x := 47) (by decide) n3), if_neg (show ¬ lg_cmp (I6 m) 37 = 0 from ceq hm (x := 37) (by decide) n4), if_neg (show ¬ lg_cmp (I6 m) 38 = 0 from ceq hm (x := 38) (by decide) n5), if_neg (show ¬ lg_cmp (I6 m) 124 = 0 from ceq hm (x := 124) (by decide) n6), if_neg (show ¬ lg_cmp (I6 m) 94 = 0 from ceq hm (x := 94) (by decide) n7), if_neg (show ¬ lg_cmp (I6 m) 60 = 0 from ceq hm (x := 60) (by decide) n8), if_neg (show ¬ lg_cmp (I6 m) 61 = 0 from ceq hm (x := 61) (by decide) n9)]
theorem R_440_0 : F_440 26982 g = some (2, g) := by
  show F_440_0 26982 g = _
  unfold F_440_0 F_440_318
  rw [show F_441 26982 g = some (-1, g) from rfl]; simp only [obs]
  rw [if_pos trivial]
  rw [show F_439 105 102 0 0 0 g = some (26982, g) from rfl]; simp only [obs]
  rw [if_pos (by decide)]
theorem R_440_1 : F_440 7103860 g = some (3, g) := by
  show F_440_0 7103860 g = _
  unfold F_440_0 F_440_318
  rw [show F_441 7103860 g = some (-1, g) from rfl]; simp only [obs]
  rw [if_pos trivial]
  rw [show F_439 105 102 0 0 0 g = some (26982, g) from rfl]; simp only [obs]
  rw [if_neg (by decide)]
  rw [show F_439 108 101 116 0 0 g = some (7103860, g) from rfl]; simp only [obs]
  rw [if_pos (by decide)]
theorem R_440_2 : F_440 25711 g = some (4, g) := by
  show F_440_0 25711 g = _
  unfold F_440_0 F_440_318
  rw [show F_441 25711 g = some (-1, g) from rfl]; simp only [obs]
  rw [if_pos trivial]
  rw [show F_439 105 102 0 0 0 g = some (26982, g) from rfl]; simp only [obs]
  rw [if_neg (by decide)]
  rw [show F_439 108 101 116 0 0 g = some (7103860, g) from rfl]; simp only [obs]
  rw [if_neg (by decide)]
  rw [show F_439 100 111 0 0 0 g = some (25711, g) from rfl]; simp only [obs]
  rw [if_pos (by decide)]
theorem R_440_3 : F_440 1819242352 g = some (5, g) := by
  show F_440_0 1819242352 g = _
  unfold F_440_0 F_440_318
  rw [show F_441 1819242352 g = some (-1, g) from rfl]; simp only [obs]
  rw [if_pos trivial]
  rw [show F_439 105 102 0 0 0 g = some (26982, g) from rfl]; simp only [obs]
  rw [if_neg (by decide)]
  rw [show F_439 108 101 116 0 0 g = some (7103860, g) from rfl]; simp only [obs]
  rw [if_neg (by decide)]
  rw [show F_439 100 111 0 0 0 g = some (25711, g) from rfl]; simp only [obs]
  rw [if_neg (by decide)]
  rw [show F_439 108 111 111 112 0 g = some (1819242352, g) from rfl]; simp only [obs]
  rw [if_pos (by decide)]
theorem R_440_4 : F_440 7631481 g = some (6, g) := by
  show F_440_0 7631481 g = _
  unfold F_440_0 F_440_318
  rw [show F_441 7631481 g = some (-1, g) from rfl]; simp only [obs]
  rw [if_pos trivial]
  rw [show F_439 105 102 0 0 0 g = some (26982, g) from rfl]; simp only [obs]
  rw [if_neg (by decide)]
  rw [show F_439 108 101 116 0 0 g = some (7103860, g) from rfl]; simp only [obs]
  rw [if_neg (by decide)]
  rw [show F_439 100 111 0 0 0 g = some (25711, g) from rfl]; simp only [obs]
  rw [if_neg (by decide)]
  rw [show F_439 108 111 111 112 0 g = some (1819242352, g) from rfl]; simp only [obs]
  rw [if_neg (by decide)]
  rw [show F_439 116 114 121 0 0 g = some (7631481, g) from rfl]; simp only [obs]
  rw [if_pos (by decide)]
theorem R_440_5 : F_440 24947 g = some (7, g) := by
  show F_440_0 24947 g = _
  unfold F_440_0 F_440_318
  rw [show F_441 24947 g = some (-1, g) from rfl]; simp only [obs]
  rw [if_pos trivial]
  rw [show F_439 105 102 0 0 0 g = some (26982, g) from rfl]; simp only [obs]
  rw [if_neg (by decide)]
  rw [show F_439 108 101 116 0 0 g = some (7103860, g) from rfl]; simp only [obs]
  rw [if_neg (by decide)]
  rw [show F_439 100 111 0 0 0 g = some (25711, g) from rfl]; simp only [obs]
  rw [if_neg (by decide)]
  rw [show F_439 108 111 111 112 0 g = some (1819242352, g) from rfl]; simp only [obs]
  rw [if_neg (by decide)]
  rw [show F_439 116 114 121 0 0 g = some (7631481, g) from rfl]; simp only [obs]
  rw [if_neg (by decide)]
  rw [show F_439 97 115 0 0 0 g = some (24947, g) from rfl]; simp only [obs]
  rw [if_pos (by decide)]
theorem R_440_6 : F_440 439956431717 g = some (8, g) := by
  show F_440_0 439956431717 g = _
  unfold F_440_0 F_440_318
  rw [show F_441 439956431717 g = some (-1, g) from rfl]; simp only [obs]
  rw [if_pos trivial]
  rw [show F_439 105 102 0 0 0 g = some (26982, g) from rfl]; simp only [obs]
  rw [if_neg (by decide)]
  rw [show F_439 108 101 116 0 0 g = some (7103860, g) from rfl]; simp only [obs]
  rw [if_neg (by decide)]
  rw [show F_439 100 111 0 0 0 g = some (25711, g) from rfl]; simp only [obs]
  rw [if_neg (by decide)]
  rw [show F_439 108 111 111 112 0 g = some (1819242352, g) from rfl]; simp only [obs]
  rw [if_neg (by decide)]
  rw [show F_439 116 114 121 0 0 g = some (7631481, g) from rfl]; simp only [obs]
  rw [if_neg (by decide)]
  rw [show F_439 97 115 0 0 0 g = some (24947, g) from rfl]; simp only [obs]
  rw [if_neg (by decide)]
  rw [show F_439 102 111 114 99 101 g = some (439956431717, g) from rfl]; simp only [obs]
  rw [if_pos (by decide)]
theorem R_440_7 : F_440 1853189228 g = some (9, g) := by
  show F_440_0 1853189228 g = _
  unfold F_440_0 F_440_318
  rw [show F_441 1853189228 g = some (-1, g) from rfl]; simp only [obs]
  rw [if_pos trivial]
  rw [show F_439 105 102 0 0 0 g = some (26982, g) from rfl]; simp only [obs]
  rw [if_neg (by decide)]
  rw [show F_439 108 101 116 0 0 g = some (7103860, g) from rfl]; simp only [obs]
  rw [if_neg (by decide)]
  rw [show F_439 100 111 0 0 0 g = some (25711, g) from rfl]; simp only [obs]
  rw [if_neg (by decide)]
  rw [show F_439 108 111 111 112 0 g = some (1819242352, g) from rfl]; simp only [obs]
  rw [if_neg (by decide)]
  rw [show F_439 116 114 121 0 0 g = some (7631481, g) from rfl]; simp only [obs]
  rw [if_neg (by decide)]
  rw [show F_439 97 115 0 0 0 g = some (24947, g) from rfl]; simp only [obs]
  rw [if_neg (by decide)]
  rw [show F_439 102 111 114 99 101 g = some (439956431717, g) from rfl]; simp only [obs]
  rw [if_neg (by decide)]
  rw [show F_439 110 117 108 108 0 g = some (1853189228, g) from rfl]; simp only [obs]
  rw [if_pos (by decide)]
theorem R_440_8 : F_440 7499639 g = some (10, g) := by
  show F_440_0 7499639 g = _
  unfold F_440_0 F_440_318
  rw [show F_441 7499639 g = some (-1, g) from rfl]; simp only [obs]
  rw [if_pos trivial]
  rw [show F_439 105 102 0 0 0 g = some (26982, g) from rfl]; simp only [obs]
  rw [if_neg (by decide)]
  rw [show F_439 108 101 116 0 0 g = some (7103860, g) from rfl]; simp only [obs]
  rw [if_neg (by decide)]
  rw [show F_439 100 111 0 0 0 g = some (25711, g) from rfl]; simp only [obs]
  rw [if_neg (by decide)]
  rw [show F_439 108 111 111 112 0 g = some (1819242352, g) from rfl]; simp only [obs]
  rw [if_neg (by decide)]
  rw [show F_439 116 114 121 0 0 g = some (7631481, g) from rfl]; simp only [obs]
  rw [if_neg (by decide)]
  rw [show F_439 97 115 0 0 0 g = some (24947, g) from rfl]; simp only [obs]
  rw [if_neg (by decide)]
  rw [show F_439 102 111 114 99 101 g = some (439956431717, g) from rfl]; simp only [obs]
  rw [if_neg (by decide)]
  rw [show F_439 110 117 108 108 0 g = some (1853189228, g) from rfl]; simp only [obs]
  rw [if_neg (by decide)]
  rw [show F_439 114 111 119 0 0 g = some (7499639, g) from rfl]; simp only [obs]
  rw [if_pos (by decide)]
theorem R_440_9 : F_440 1936292453 g = some (11, g) := by
  show F_440_0 1936292453 g = _
  unfold F_440_0 F_440_318
  rw [show F_441 1936292453 g = some (-1, g) from rfl]; simp only [obs]
  rw [if_pos trivial]
  rw [show F_439 105 102 0 0 0 g = some (26982, g) from rfl]; simp only [obs]
  rw [if_neg (by decide)]
  rw [show F_439 108 101 116 0 0 g = some (7103860, g) from rfl]; simp only [obs]
  rw [if_neg (by decide)]
  rw [show F_439 100 111 0 0 0 g = some (25711, g) from rfl]; simp only [obs]
  rw [if_neg (by decide)]
  rw [show F_439 108 111 111 112 0 g = some (1819242352, g) from rfl]; simp only [obs]
  rw [if_neg (by decide)]
  rw [show F_439 116 114 121 0 0 g = some (7631481, g) from rfl]; simp only [obs]
  rw [if_neg (by decide)]
  rw [show F_439 97 115 0 0 0 g = some (24947, g) from rfl]; simp only [obs]
  rw [if_neg (by decide)]
  rw [show F_439 102 111 114 99 101 g = some (439956431717, g) from rfl]; simp only [obs]
  rw [if_neg (by decide)]
  rw [show F_439 110 117 108 108 0 g = some (1853189228, g) from rfl]; simp only [obs]
  rw [if_neg (by decide)]
  rw [show F_439 114 111 119 0 0 g = some (7499639, g) from rfl]; simp only [obs]
  rw [if_neg (by decide)]
  rw [show F_439 115 105 122 101 0 g = some (1936292453, g) from rfl]; simp only [obs]
  rw [if_pos (by decide)]
theorem R_440_10 : F_440 6776180 g = some (12, g) := by
  show F_440_0 6776180 g = _
  unfold F_440_0 F_440_318
  rw [show F_441 6776180 g = some (-1, g) from rfl]; simp only [obs]
  rw [if_pos trivial]
  rw [show F_439 105 102 0 0 0 g = some (26982, g) from rfl]; simp only [obs]
  rw [if_neg (by decide)]
  rw [show F_439 108 101 116 0 0 g = some (7103860, g) from rfl]; simp only [obs]
  rw [if_neg (by decide)]
  rw [show F_439 100 111 0 0 0 g = some (25711, g) from rfl]; simp only [obs]
  rw [if_neg (by decide)]
  rw [show F_439 108 111 111 112 0 g = some (1819242352, g) from rfl]; simp only [obs]
  rw [if_neg (by decide)]
  rw [show F_439 116 114 121 0 0 g = some (7631481, g) from rfl]; simp only [obs]
  rw [if_neg (by decide)]
  rw [show F_439 97 115 0 0 0 g = some (24947, g) from rfl]; simp only [obs]
  rw [if_neg (by decide)]
  rw [show F_439 102 111 114 99 101 g = some (439956431717, g) from rfl]; simp only [obs]
  rw [if_neg (by decide)]
  rw [show F_439 110 117 108 108 0 g = some (1853189228, g) from rfl]; simp only [obs]
  rw [if_neg (by decide)]
  rw [show F_439 114 111 119 0 0 g = some (7499639, g) from rfl]; simp only [obs]
  rw [if_neg (by decide)]
  rw [show F_439 115 105 122 101 0 g = some (1936292453, g) from rfl]; simp only [obs]
  rw [if_neg (by decide)]
  rw [show F_439 103 101 116 0 0 g = some (6776180, g) from rfl]; simp only [obs]
  rw [if_pos (by decide)]
theorem R_440_11 : F_440 7562612 g = some (13, g) := by
  show F_440_0 7562612 g = _
  unfold F_440_0 F_440_318
  rw [show F_441 7562612 g = some (-1, g) from rfl]; simp only [obs]
  rw [if_pos trivial]
  rw [show F_439 105 102 0 0 0 g = some (26982, g) from rfl]; simp only [obs]
  rw [if_neg (by decide)]
  rw [show F_439 108 101 116 0 0 g = some (7103860, g) from rfl]; simp only [obs]
  rw [if_neg (by decide)]
  rw [show F_439 100 111 0 0 0 g = some (25711, g) from rfl]; simp only [obs]
  rw [if_neg (by decide)]
  rw [show F_439 108 111 111 112 0 g = some (1819242352, g) from rfl]; simp only [obs]
  rw [if_neg (by decide)]
  rw [show F_439 116 114 121 0 0 g = some (7631481, g) from rfl]; simp only [obs]
  rw [if_neg (by decide)]
  rw [show F_439 97 115 0 0 0 g = some (24947, g) from rfl]; simp only [obs]
  rw [if_neg (by decide)]
  rw [show F_439 102 111 114 99 101 g = some (439956431717, g) from rfl]; simp only [obs]
  rw [if_neg (by decide)]
  rw [show F_439 110 117 108 108 0 g = some (1853189228, g) from rfl]; simp only [obs]
  rw [if_neg (by decide)]
  rw [show F_439 114 111 119 0 0 g = some (7499639, g) from rfl]; simp only [obs]
  rw [if_neg (by decide)]
  rw [show F_439 115 105 122 101 0 g = some (1936292453, g) from rfl]; simp only [obs]
  rw [if_neg (by decide)]
  rw [show F_439 103 101 116 0 0 g = some (6776180, g) from rfl]; simp only [obs]
  rw [if_neg (by decide)]
  rw [show F_439 115 101 116 0 0 g = some (7562612, g) from rfl]; simp only [obs]
  rw [if_pos (by decide)]
theorem R_440_12 : F_440 26995 g = some (14, g) := by
  show F_440_0 26995 g = _
  unfold F_440_0 F_440_318
  rw [show F_441 26995 g = some (-1, g) from rfl]; simp only [obs]
  rw [if_pos trivial]
  rw [show F_439 105 102 0 0 0 g = some (26982, g) from rfl]; simp only [obs]
  rw [if_neg (by decide)]
  rw [show F_439 108 101 116 0 0 g = some (7103860, g) from rfl]; simp only [obs]
  rw [if_neg (by decide)]
  rw [show F_439 100 111 0 0 0 g = some (25711, g) from rfl]; simp only [obs]
  rw [if_neg (by decide)]
  rw [show F_439 108 111 111 112 0 g = some (1819242352, g) from rfl]; simp only [obs]
  rw [if_neg (by decide)]
  rw [show F_439 116 114 121 0 0 g = some (7631481, g) from rfl]; simp only [obs]
  rw [if_neg (by decide)]
  rw [show F_439 97 115 0 0 0 g = some (24947, g) from rfl]; simp only [obs]
  rw [if_neg (by decide)]
  rw [show F_439 102 111 114 99 101 g = some (439956431717, g) from rfl]; simp only [obs]
  rw [if_neg (by decide)]
  rw [show F_439 110 117 108 108 0 g = some (1853189228, g) from rfl]; simp only [obs]
  rw [if_neg (by decide)]
  rw [show F_439 114 111 119 0 0 g = some (7499639, g) from rfl]; simp only [obs]
  rw [if_neg (by decide)]
  rw [show F_439 115 105 122 101 0 g = some (1936292453, g) from rfl]; simp only [obs]
  rw [if_neg (by decide)]
  rw [show F_439 103 101 116 0 0 g = some (6776180, g) from rfl]; simp only [obs]
  rw [if_neg (by decide)]
  rw [show F_439 115 101 116 0 0 g = some (7562612, g) from rfl]; simp only [obs]
  rw [if_neg (by decide)]
  rw [show F_439 105 115 0 0 0 g = some (26995, g) from rfl]; simp only [obs]
  rw [if_pos (by decide)]
theorem R_440_13 : F_440 1935764837 g = some (15, g) := by
  show F_440_0 1935764837 g = _
  unfold F_440_0 F_440_318
  rw [show F_441 1935764837 g = some (-1, g) from rfl]; simp only [obs]
  rw [if_pos trivial]
  rw [show F_439 105 102 0 0 0 g = some (26982, g) from rfl]; simp only [obs]
  rw [if_neg (by decide)]
  rw [show F_439 108 101 116 0 0 g = some (7103860, g) from rfl]; simp only [obs]
  rw [if_neg (by decide)]
  rw [show F_439 100 111 0 0 0 g = some (25711, g) from rfl]; simp only [obs]
  rw [if_neg (by decide)]
  rw [show F_439 108 111 111 112 0 g = some (1819242352, g) from rfl]; simp only [obs]
  rw [if_neg (by decide)]
  rw [show F_439 116 114 121 0 0 g = some (7631481, g) from rfl]; simp only [obs]
  rw [if_neg (by decide)]
  rw [show F_439 97 115 0 0 0 g = some (24947, g) from rfl]; simp only [obs]
  rw [if_neg (by decide)]
  rw [show F_439 102 111 114 99 101 g = some (439956431717, g) from rfl]; simp only [obs]
  rw [if_neg (by decide)]
  rw [show F_439 110 117 108 108 0 g = some (1853189228, g) from rfl]; simp only [obs]
  rw [if_neg (by decide)]
  rw [show F_439 114 111 119 0 0 g = some (7499639, g) from rfl]; simp only [obs]
  rw [if_neg (by decide)]
  rw [show F_439 115 105 122 101 0 g = some (1936292453, g) from rfl]; simp only [obs]
  rw [if_neg (by decide)]
  rw [show F_439 103 101 116 0 0 g = some (6776180, g) from rfl]; simp only [obs]
  rw [if_neg (by decide)]
  rw [show F_439 115 101 116 0 0 g = some (7562612, g) from rfl]; simp only [obs]
  rw [if_neg (by decide)]
  rw [show F_439 105 115 0 0 0 g = some (26995, g) from rfl]; simp only [obs]
  rw [if_neg (by decide)]
  rw [show F_439 115 97 109 101 0 g = some (1935764837, g) from rfl]; simp only [obs]
  rw [if_pos (by decide)]
theorem R_440_14 : F_440 499968536439 g = some (16, g) := by
  show F_440_0 499968536439 g = _
  unfold F_440_0 F_440_318
  rw [show F_441 499968536439 g = some (-1, g) from rfl]; simp only [obs]
  rw [if_pos trivial]
  rw [show F_439 105 102 0 0 0 g = some (26982, g) from rfl]; simp only [obs]
  rw [if_neg (by decide)]
  rw [show F_439 108 101 116 0 0 g = some (7103860, g) from rfl]; simp only [obs]
  rw [if_neg (by decide)]
  rw [show F_439 100 111 0 0 0 g = some (25711, g) from rfl]; simp only [obs]
  rw [if_neg (by decide)]
  rw [show F_439 108 111 111 112 0 g = some (1819242352, g) from rfl]; simp only [obs]
  rw [if_neg (by decide)]
  rw [show F_439 116 114 121 0 0 g = some (7631481, g) from rfl]; simp only [obs]
  rw [if_neg (by decide)]
  rw [show F_439 97 115 0 0 0 g = some (24947, g) from rfl]; simp only [obs]
  rw [if_neg (by decide)]
  rw [show F_439 102 111 114 99 101 g = some (439956431717, g) from rfl]; simp only [obs]
  rw [if_neg (by decide)]
  rw [show F_439 110 117 108 108 0 g = some (1853189228, g) from rfl]; simp only [obs]
  rw [if_neg (by decide)]
  rw [show F_439 114 111 119 0 0 g = some (7499639, g) from rfl]; simp only [obs]
  rw [if_neg (by decide)]
  rw [show F_439 115 105 122 101 0 g = some (1936292453, g) from rfl]; simp only [obs]
  rw [if_neg (by decide)]
  rw [show F_439 103 101 116 0 0 g = some (6776180, g) from rfl]; simp only [obs]
  rw [if_neg (by decide)]
  rw [show F_439 115 101 116 0 0 g = some (7562612, g) from rfl]; simp only [obs]
  rw [if_neg (by decide)]
  rw [show F_439 105 115 0 0 0 g = some (26995, g) from rfl]; simp only [obs]
  rw [if_neg (by decide)]
  rw [show F_439 115 97 109 101 0 g = some (1935764837, g) from rfl]; simp only [obs]
  rw [if_neg (by decide)]
  rw [show F_439 116 104 114 111 119 g = some (499968536439, g) from rfl]; simp only [obs]
  rw [if_pos (by decide)]
theorem R_440_15 : F_440 1668244581 g = some (17, g) := by
  show F_440_0 1668244581 g = _
  unfold F_440_0 F_440_318
  rw [show F_441 1668244581 g = some (-1, g) from rfl]; simp only [obs]
  rw [if_pos trivial]
  rw [show F_439 105 102 0 0 0 g = some (26982, g) from rfl]; simp only [obs]
  rw [if_neg (by decide)]
  rw [show F_439 108 101 116 0 0 g = some (7103860, g) from rfl]; simp only [obs]
  rw [if_neg (by decide)]
  rw [show F_439 100 111 0 0 0 g = some (25711, g) from rfl]; simp only [obs]
  rw [if_neg (by decide)]
  rw [show F_439 108 111 111 112 0 g = some (1819242352, g) from rfl]; simp only [obs]
  rw [if_neg (by decide)]
  rw [show F_439 116 114 121 0 0 g = some (7631481, g) from rfl]; simp only [obs]
  rw [if_neg (by decide)]
  rw [show F_439 97 115 0 0 0 g = some (24947, g) from rfl]; simp only [obs]
  rw [if_neg (by decide)]
  rw [show F_439 102 111 114 99 101 g = some (439956431717, g) from rfl]; simp only [obs]
  rw [if_neg (by decide)]
  rw [show F_439 110 117 108 108 0 g = some (1853189228, g) from rfl]; simp only [obs]
  rw [if_neg (by decide)]
  rw [show F_439 114 111 119 0 0 g = some (7499639, g) from rfl]; simp only [obs]
  rw [if_neg (by decide)]
  rw [show F_439 115 105 122 101 0 g = some (1936292453, g) from rfl]; simp only [obs]
  rw [if_neg (by decide)]
  rw [show F_439 103 101 116 0 0 g = some (6776180, g) from rfl]; simp only [obs]
  rw [if_neg (by decide)]
  rw [show F_439 115 101 116 0 0 g = some (7562612, g) from rfl]; simp only [obs]
  rw [if_neg (by decide)]
  rw [show F_439 105 115 0 0 0 g = some (26995, g) from rfl]; simp only [obs]
  rw [if_neg (by decide)]
  rw [show F_439 115 97 109 101 0 g = some (1935764837, g) from rfl]; simp only [obs]
  rw [if_neg (by decide)]
  rw [show F_439 116 104 114 111 119 g = some (499968536439, g) from rfl]; simp only [obs]
  rw [if_neg (by decide)]
  rw [show F_439 99 111 100 101 0 g = some (1668244581, g) from rfl]; simp only [obs]
  rw [if_pos (by decide)]
theorem R_440a {i : Nat} (hi : i < 16) : F_440 (P_KW.getD i 0) g = some (I3 (i + 2), g) := by
  rcases (show i = 0 ∨ i = 1 ∨ i = 2 ∨ i = 3 ∨ i = 4 ∨ i = 5 ∨ i = 6 ∨ i = 7 ∨ i = 8 ∨ i = 9 ∨ i = 10 ∨ i = 11 ∨ i = 12 ∨ i = 13 ∨ i = 14 ∨ i = 15 by omega) with rfl | rfl | rfl | rfl | rfl | rfl | rfl | rfl | rfl | rfl | rfl | rfl | rfl | rfl | rfl | rfl
  · exact R_440_0
  · exact R_440_1
  · exact R_440_2
  · exact R_440_3
  · exact R_440_4
  · exact R_440_5
  · exact R_440_6
  · exact R_440_7
  · exact R_440_8
  · exact R_440_9
  · exact R_440_10
  · exact R_440_11
  · exact R_440_12
  · exact R_440_13
  · exact R_440_14
  · exact R_440_15
theorem R_440n {m : Nat} (hm : m < 2 ^ 63) (no : m ≠ 43 ∧ m ≠ 45 ∧ m ≠ 42 ∧ m ≠ 47 ∧ m ≠ 37 ∧ m ≠ 38 ∧ m ≠ 124 ∧ m ≠ 94 ∧ m ≠ 60 ∧ m ≠ 61) (nk : ∀ i, i < 16 → P_KW.getD i 0 ≠ I6 m) : F_440 (I6 m) g = some (-1, g) := by
  have c : ∀ i (x : Int64), i < 16 → P_KW.getD i 0 = x → ¬ lg_cmp (I6 m) x = 0 := fun i x hi e z => nk i hi (e.trans (cmp_eq.mp z).symm)
  show F_440_0 (I6 m) g = _
  unfold F_440_0 F_440_318
  rw [R_441n hm no]; simp only [obs]
  rw [if_pos trivial]
  rw [show F_439 105 102 0 0 0 g = some (26982, g) from rfl]; simp only [obs]
  rw [if_neg (c 0 26982 (by decide) rfl), show F_439 108 101 116 0 0 g = some (7103860, g) from rfl]; simp only [obs]
  rw [if_neg (c 1 7103860 (by decide) rfl), show F_439 100 111 0 0 0 g = some (25711, g) from rfl]; simp only [obs]
  rw [if_neg (c 2 25711 (by decide) rfl), show F_439 108 111 111 112 0 g = some (1819242352, g) from rfl]; simp only [obs]
  rw [if_neg (c 3 1819242352 (by decide) rfl), show F_439 116 114 121 0 0 g = some (7631481, g) from rfl]; simp only [obs]
  rw [if_neg (c 4 7631481 (by decide) rfl), show F_439 97 115 0 0 0 g = some (24947, g) from rfl]; simp only [obs]
  rw [if_neg (c 5 24947 (by decide) rfl), show F_439 102 111 114 99 101 g = some (439956431717, g) from rfl]; simp only [obs]
  rw [if_neg (c 6 439956431717 (by decide) rfl), show F_439 110 117 108 108 0 g = some (1853189228, g) from rfl]; simp only [obs]
  rw [if_neg (c 7 1853189228 (by decide) rfl), show F_439 114 111 119 0 0 g = some (7499639, g) from rfl]; simp only [obs]
  rw [if_neg (c 8 7499639 (by decide) rfl), show F_439 115 105 122 101 0 g = some (1936292453, g) from rfl]; simp only [obs]
  rw [if_neg (c 9 1936292453 (by decide) rfl), show F_439 103 101 116 0 0 g = some (6776180, g) from rfl]; simp only [obs]
  rw [if_neg (c 10 6776180 (by decide) rfl), show F_439 115 101 116 0 0 g = some (7562612, g) from rfl]; simp only [obs]
  rw [if_neg (c 11 7562612 (by decide) rfl), show F_439 105 115 0 0 0 g = some (26995, g) from rfl]; simp only [obs]
  rw [if_neg (c 12 26995 (by decide) rfl), show F_439 115 97 109 101 0 g = some (1935764837, g) from rfl]; simp only [obs]
  rw [if_neg (c 13 1935764837 (by decide) rfl), show F_439 116 104 114 111 119 g = some (499968536439, g) from rfl]; simp only [obs]
  rw [if_neg (c 14 499968536439 (by decide) rfl), show F_439 99 111 100 101 0 g = some (1668244581, g) from rfl]; simp only [obs]
  rw [if_neg (c 15 1668244581 (by decide) rfl)]
theorem R_440 {m : Nat} (hm : m < 2 ^ 63) (no : m ≠ 43 ∧ m ≠ 45 ∧ m ≠ 42 ∧ m ≠ 47 ∧ m ≠ 37 ∧ m ≠ 38 ∧ m ≠ 124 ∧ m ≠ 94 ∧ m ≠ 60 ∧ m ≠ 61) : F_440 (I6 m) g = some (if kw (I6 m) < 16 then I3 (kw (I6 m) + 2) else -1, g) := by
  have ks := kw_spec (I6 m)
  by_cases q : kw (I6 m) < 16
  · have := R_440a (g := g) q
    rw [ks.2.1 q] at this
    rw [this, if_pos q]
  · rw [if_neg q]
    exact R_440n hm no (fun i hi z => by have := ks.2.2 i hi z; omega)
theorem R_441s {b o : Nat} (s : sgn b = some o) : F_441 (Int32.toInt64 (I3 b)) g = some (I3 o, g) ∧ F_440 (Int32.toInt64 (I3 b)) g = some (1, g) := by
  unfold sgn at s
  repeat' split at s
  all_goals first
    | (cases s; subst_vars; exact ⟨rfl, rfl⟩)
    | cases s
end
def DF (nd : Nat) (h g : sm_H) : Prop := h.1 55 15 = I3 nd ∧ g.1 67 91 = I3 nd ∧ nd ≤ 60 ∧ ∀ d, d < nd → h.2.1 62 d = g.2.1 113 d ∧ h.1 63 d = g.1 114 d ∧ ∃ a, a < nH g ∧ g.1 114 d = I3 a ∧ (hpl g a).length ≤ 6 ∧ g.1 115 d = I3 (hpl g a).length ∧ ∀ i, i < (hpl g a).length → g.1 116 (6 * d + i) = at0 (hpl g a) i
def wd (nd : Nat) (x : Int64) (g : sm_H) : Nat := fst1 (fun d => decide (g.2.1 113 d = x)) nd
section
variable {nd : Nat} {h g : sm_H}
theorem C_166 (D : DF nd h g) (x : Int64) : F_166 x h = some (if wd nd x g < nd then I3 (wd nd x g) else -1, h) := by
  obtain ⟨s1, s2, s3, s4⟩ := D
  have L := lp_fst (body := F_166_2B) (fun d => decide (g.2.1 113 d = x)) nd (fun k => (x, I3 k, h)) (fun k => (I3 k, h)) (-1, h) (f := 1000000) (by omega) (fun i hi e => ?_) (fun i hi e => ?_) ?_
  · refine Eq.trans (show F_166 x h = lp F_166_2B 1000000 (x, I3 0, h) from rfl) (L.trans ?_)
    unfold wd
    split <;> rfl
  · show F_166_2B (x, I3 i, h) = _
    unfold F_166_2B
    simp only []
    rw [s1, if_neg (by rw [I3_le (by omega) (by omega)]; omega), ldJ_I (by omega) (by decide), (s4 i hi).1]; simp only [obs]
    rw [if_neg (fun z => (of_decide_eq_false e) (cmp_eq.mp z)), show I3 i + 1 = I3 (i + 1) from I3_add i 1]
  · show F_166_2B (x, I3 i, h) = _
    unfold F_166_2B
    simp only []
    rw [s1, if_neg (by rw [I3_le (by omega) (by omega)]; omega), ldJ_I (by omega) (by decide), (s4 i hi).1]; simp only [obs]
    rw [if_pos (cmp_eq.mpr (of_decide_eq_true e))]
  · show F_166_2B (x, I3 nd, h) = _
    unfold F_166_2B
    simp only []
    rw [s1, if_pos (by rw [I3_le (by omega) (by omega)]; omega)]
theorem R_443 (D : DF nd h g) (x : Int64) : F_443 x g = some (if wd nd x g < nd then I3 (wd nd x g) else -1, g) := by
  obtain ⟨s1, s2, s3, s4⟩ := D
  have L := lp_fst (body := F_443_2B) (fun d => decide (g.2.1 113 d = x)) nd (fun k => (x, I3 k, g)) (fun k => (I3 k, g)) (-1, g) (f := 1000000) (by omega) (fun i hi e => ?_) (fun i hi e => ?_) ?_
  · refine Eq.trans (show F_443 x g = lp F_443_2B 1000000 (x, I3 0, g) from rfl) (L.trans ?_)
    unfold wd
    split <;> rfl
  · show F_443_2B (x, I3 i, g) = _
    unfold F_443_2B
    simp only []
    rw [s2, if_neg (by rw [I3_le (by omega) (by omega)]; omega), ldJ_I (by omega) (by decide)]; simp only [obs]
    rw [if_neg (fun z => (of_decide_eq_false e) (cmp_eq.mp z)), show I3 i + 1 = I3 (i + 1) from I3_add i 1]
  · show F_443_2B (x, I3 i, g) = _
    unfold F_443_2B
    simp only []
    rw [s2, if_neg (by rw [I3_le (by omega) (by omega)]; omega), ldJ_I (by omega) (by decide)]; simp only [obs]
    rw [if_pos (cmp_eq.mpr (of_decide_eq_true e))]
  · show F_443_2B (x, I3 nd, g) = _
    unfold F_443_2B
    simp only []
    rw [s2, if_pos (by rw [I3_le (by omega) (by omega)]; omega)]
theorem DF_x {h1 g1 : sm_H} {P Q : Nat → Nat → Prop} (K : K1 h g) (D : DF nd h g) (e : ext g g1) (r : grow g g1) (a : agr P h h1) (b : agr Q g g1) (p : ∀ b j, P b j → ¬ (b = 55 ∧ j = 15 ∨ b = 62 ∨ b = 63)) (q : ∀ b j, Q b j → ¬ (b = 67 ∧ j = 91 ∨ 113 ≤ b ∧ b ≤ 116)) : DF nd h1 g1 := by
  obtain ⟨s1, s2, s3, s4⟩ := D
  refine ⟨(a.1 55 15 (fun z => p _ _ z (by omega))).trans s1, (b.1 67 91 (fun z => q _ _ z (by omega))).trans s2, s3, fun d hd => ?_⟩
  obtain ⟨t1, t2, x, x1, x2, x3, x4, x5⟩ := s4 d hd
  have hx := ext_hpl K.2.2.2.2.1 e x1
  rw [a.2.1 62 d (fun z => p _ _ z (by omega)), a.1 63 d (fun z => p _ _ z (by omega)), b.2.1 113 d (fun z => q _ _ z (by omega)), b.1 114 d (fun z => q _ _ z (by omega)), b.1 115 d (fun z => q _ _ z (by omega))]
  refine ⟨t1, t2, x, Nat.lt_of_lt_of_le x1 r.2.2.1, x2, by rw [hx]; exact x3, by rw [hx]; exact x4, fun i hi => ?_⟩
  rw [hx] at hi ⊢
  rw [b.1 116 _ (fun z => q _ _ z (by omega))]; exact x5 i hi
end
theorem pushR {g : sm_H} {j : Nat} (hj : j < 24) (b : g.1 67 102 = I3 j) (x y : Int32) : ∃ g1, F_445 x y g = some g1 ∧ g1.1 119 j = x ∧ g1.1 120 j = y ∧ g1.1 121 j = 0 ∧ g1.1 122 j = 0 ∧ g1.1 123 j = g.1 67 94 ∧ g1.1 124 j = 0 ∧ g1.1 67 102 = I3 (j + 1) ∧ agr (fun b i => (119 ≤ b ∧ b ≤ 124 ∧ i = j) ∨ b = 67 ∧ i = 102) g g1 := by
  refine ⟨sm_wI (sm_wI (sm_wI (sm_wI (sm_wI (sm_wI (sm_wI g 119 j x) 120 j y) 121 j 0) 123 j (g.1 67 94)) 124 j 0) 122 j 0) 67 102 (I3 (j + 1)), ?_, if_pos rfl, if_pos rfl, if_pos rfl, if_pos rfl, if_pos rfl, if_pos rfl, rfl, agr_wI (agr_wI (agr_wI (agr_wI (agr_wI (agr_wI (agr_wI agr_rfl (Or.inl ⟨by decide, by decide, rfl⟩)) (Or.inl ⟨by decide, by decide, rfl⟩)) (Or.inl ⟨by decide, by decide, rfl⟩)) (Or.inl ⟨by decide, by decide, rfl⟩)) (Or.inl ⟨by decide, by decide, rfl⟩)) (Or.inl ⟨by decide, by decide, rfl⟩)) (Or.inr ⟨rfl, rfl⟩)⟩
  show F_445_0 x y g = _
  unfold F_445_0
  rw [b, stI_I hj (by decide)]; simp only [obs]
  rw [show (sm_wI g 119 j x).1 67 102 = I3 j from b, stI_I hj (by decide)]; simp only [obs]
  rw [show (sm_wI (sm_wI g 119 j x) 120 j y).1 67 102 = I3 j from b, stI_I hj (by decide)]; simp only [obs]
  rw [show (sm_wI (sm_wI (sm_wI g 119 j x) 120 j y) 121 j 0).1 67 102 = I3 j from b, show (sm_wI (sm_wI (sm_wI g 119 j x) 120 j y) 121 j 0).1 67 94 = g.1 67 94 from rfl, stI_I hj (by decide)]; simp only [obs]
  rw [show (sm_wI (sm_wI (sm_wI (sm_wI g 119 j x) 120 j y) 121 j 0) 123 j (g.1 67 94)).1 67 102 = I3 j from b, stI_I hj (by decide)]; simp only [obs]
  rw [show (sm_wI (sm_wI (sm_wI (sm_wI (sm_wI g 119 j x) 120 j y) 121 j 0) 123 j (g.1 67 94)) 124 j 0).1 67 102 = I3 j from b, stI_I hj (by decide)]; simp only [obs]
  rw [show (sm_wI (sm_wI (sm_wI (sm_wI (sm_wI (sm_wI g 119 j x) 120 j y) 121 j 0) 123 j (g.1 67 94)) 124 j 0) 122 j 0).1 67 102 = I3 j from b, show I3 j + 1 = I3 (j + 1) from I3_add j 1]
theorem C_188 {h : sm_H} {T y : Nat} (e : h.1 55 12 = I3 T) (hT : T < 200) (hy : y < 500) (x : Int64) : ∃ h1, F_188 (I3 y) x h = some (1, h1) ∧ h1.1 55 12 = I3 (T + 1) ∧ h1.1 60 T = I3 y ∧ h1.2.1 61 T = x ∧ agr (fun b j => (b = 60 ∨ b = 61) ∧ j = T ∨ b = 55 ∧ j = 12) h h1 := by
  refine ⟨sm_wI (sm_wJ (sm_wI h 60 T (I3 y)) 61 T x) 55 12 (I3 (T + 1)), ?_, rfl, if_pos rfl, if_pos rfl, agr_wI (agr_wJ (agr_wI agr_rfl (Or.inl ⟨Or.inl rfl, rfl⟩)) (Or.inl ⟨Or.inr rfl, rfl⟩)) (Or.inr ⟨rfl, rfl⟩)⟩
  show F_188_0 (I3 y) x h = _
  unfold F_188_0
  rw [if_neg (m1_l hy (Nat.le_refl _)), e, if_pos (by rw [I3_lit, I3_lt (by omega) (by decide)]; exact hT), stI_I hT (by decide)]; simp only [obs]
  rw [show (sm_wI h 60 T (I3 y)).1 55 12 = I3 T from e, stJ_I hT (by decide)]; simp only [obs]
  rw [show (sm_wJ (sm_wI h 60 T (I3 y)) 61 T x).1 55 12 = I3 T from e, show I3 T + 1 = I3 (T + 1) from I3_add T 1]
theorem name_ns {n : Nat} {bt : Nat → Nat} {f : Nat} (w : wrd n bt f = 4) : ∃ m, m < 2 ^ 63 ∧ foldN bt f (men n bt f - f) = I6 m ∧ (m ≠ 43 ∧ m ≠ 45 ∧ m ≠ 42 ∧ m ≠ 47 ∧ m ≠ 37 ∧ m ≠ 38 ∧ m ≠ 124 ∧ m ≠ 94 ∧ m ≠ 60 ∧ m ≠ 61) := by
  have hh : ¬ n ≤ f ∧ isL (bt f) = true ∧ men n bt f - f ≤ 8 := by
    unfold wrd at w
    repeat' split at w
    all_goals first
      | exact ⟨by assumption, by assumption, by assumption⟩
      | (cases w)
  obtain ⟨h1, h2, h3⟩ := hh
  have z := foldN_M bt f (men n bt f - f) h3 (fun j hj => men_127 (n := n) j (by omega))
  have hf : 97 ≤ bt f ∧ bt f ≤ 122 := by unfold isL at h2; exact of_decide_eq_true h2
  have g1 : ∀ k, 97 ≤ foldM bt f (k + 1) ∧ (k = 0 → foldM bt f (k + 1) ≤ 122) ∧ (0 < k → 256 ≤ foldM bt f (k + 1)) := fun k => by
    induction k with
    | zero =>
      have e : foldM bt f (0 + 1) = bt f := by show 0 * 256 + bt (f + 0) = _; rw [Nat.add_zero]; omega
      rw [e]; exact ⟨hf.1, fun _ => hf.2, fun z => by omega⟩
    | succ k ih =>
      have e : foldM bt f (k + 1 + 1) = foldM bt f (k + 1) * 256 + bt (f + (k + 1)) := rfl
      rw [e]
      exact ⟨by omega, fun z => by omega, fun _ => by omega⟩
  have k1 : f < men n bt f := by
    have := (wen_n (n := n) (bt := bt) (f := f) (by omega)).2.2 (by omega) (by omega)
    have e : wen n bt f = men n bt f := by
      unfold wen
      have nN : ¬ isN n bt f = true := by
        unfold isN isD
        rw [Bool.or_eq_true, Bool.and_eq_true, decide_eq_true_iff, decide_eq_true_iff]
        omega
      rw [if_neg h1, if_neg nN, if_pos h2]
    omega
  have g2 := g1 (men n bt f - f - 1)
  rw [show men n bt f - f - 1 + 1 = men n bt f - f by omega] at g2
  refine ⟨_, z.2, z.1, ?_⟩
  generalize foldM bt f (men n bt f - f) = m at g2
  by_cases q : men n bt f - f - 1 = 0
  · have := g2.2.1 q; omega
  · have := g2.2.2 (by omega); omega
def Run (g : sm_H) (c : Nat) (g2 : sm_H) : Prop := ∀ (a b d : Int32) (fu : Nat), c < fu → lp F_465_386B fu (a, b, d, g) = lp F_465_386B (fu - c) (a, b, d, g2)
def Die (g : sm_H) (c : Nat) (g2 : sm_H) : Prop := ∀ (a b d : Int32) (fu : Nat), c < fu → lp F_465_386B fu (a, b, d, g) = some (0, g2)
def RunR (rr : Option (Int32 × sm_H)) (c : Nat) (g2 : sm_H) : Prop := ∃ g1, rr = some (1, g1) ∧ Run g1 c g2
def DieR (rr : Option (Int32 × sm_H)) (c : Nat) (g2 : sm_H) : Prop := rr = some (0, g2) ∨ ∃ g0, rr = some (1, g0) ∧ Die g0 c g2
theorem Run_rfl (g : sm_H) : Run g 0 g := fun a b d fu _ => rfl
theorem Run_trans {g g1 g2 : sm_H} {c c' : Nat} (x : Run g c g1) (y : Run g1 c' g2) : Run g (c + c') g2 := fun a b d fu hf => by
  rw [x a b d fu (by omega), y a b d (fu - c) (by omega), Nat.sub_sub]
theorem Run_die {g g1 g2 : sm_H} {c c' : Nat} (x : Run g c g1) (y : Die g1 c' g2) : Die g (c + c') g2 := fun a b d fu hf => by
  rw [x a b d fu (by omega), y a b d (fu - c) (by omega)]
theorem rd_B {g : sm_H} {j : Nat} (hb : g.1 67 102 = I3 (j + 1)) (j1 : 1 ≤ j) (j4 : j < 24) {v : Int32} {g1 : sm_H} (e : F_451 g = some (v, g1)) (a b d : Int32) : F_465_386B (a, b, d, g) = if v = 0 then some (.inr (0, g1)) else some (.inl (a, b, d, g1)) := by
  unfold F_465_386B F_465_403
  show (if 1 < g.1 67 102 then _ else _) = _
  rw [if_pos (by rw [hb, I3_lit, I3_lt (by decide) (by omega)]; omega)]
  show ((F_451 g).bind _) = _
  rw [e]; simp only [obs]
theorem RunR_run {g g2 : sm_H} {j c : Nat} {rr : Option (Int32 × sm_H)} (hb : g.1 67 102 = I3 (j + 1)) (j1 : 1 ≤ j) (j4 : j < 24) (e : F_451 g = rr) (r : RunR rr c g2) : Run g (c + 1) g2 := fun a b d fu hf => by
  obtain ⟨g1, r1, r2⟩ := r
  have B := rd_B hb j1 j4 (e.trans r1) a b d
  rw [if_neg (by decide)] at B
  rw [lp_s (by omega) B, r2 a b d (fu - 1) (by omega), Nat.sub_sub, Nat.add_comm 1 c]
theorem DieR_die {g g2 : sm_H} {j c : Nat} {rr : Option (Int32 × sm_H)} (hb : g.1 67 102 = I3 (j + 1)) (j1 : 1 ≤ j) (j4 : j < 24) (e : F_451 g = rr) (r : DieR rr c g2) : Die g (c + 1) g2 := fun a b d fu hf => by
  rcases r with r | ⟨g1, r1, r2⟩
  · have B := rd_B hb j1 j4 (e.trans r) a b d
    rw [if_pos rfl] at B
    exact lp_e (by omega) B
  · have B := rd_B hb j1 j4 (e.trans r1) a b d
    rw [if_neg (by decide)] at B
    rw [lp_s (by omega) B, r2 a b d (fu - 1) (by omega)]
def wp (rr : Option (Int32 × sm_H)) : Option (Int32 × sm_H) := rr.bind fun q => if q.1 = 0 ∨ q.1 = 1 then some (q.1, q.2) else none
theorem wp0 (g : sm_H) : wp (some (0, g)) = some (0, g) := rfl
theorem wp1 (g : sm_H) : wp (some (1, g)) = some (1, g) := rfl
theorem RunR_wp {rr : Option (Int32 × sm_H)} {c : Nat} {g2 : sm_H} (r : RunR rr c g2) : RunR (wp rr) c g2 := by
  obtain ⟨g1, r1, r2⟩ := r
  exact ⟨g1, by rw [r1, wp1], r2⟩
theorem DieR_wp {rr : Option (Int32 × sm_H)} {c : Nat} {g2 : sm_H} (r : DieR rr c g2) : DieR (wp rr) c g2 := by
  rcases r with r | ⟨g1, r1, r2⟩
  · exact Or.inl (by rw [r, wp0])
  · exact Or.inr ⟨g1, by rw [r1, wp1], r2⟩
section
variable {n : Nat} {bt : Nat → Nat} {nd o T j k m p f : Nat} {nm : Nat → Int64} {kd : List Int32} {pt : Nat → Nat} {h g : sm_H}
theorem EO_v {rc rr : Option (Int32 × sm_H)} (fn : f ≤ n) (E : EO n bt o T k m f nm kd h g rc rr) : (∃ y h1 g2 f' c, rc = some (I3 y, h1) ∧ RunR rr c g2 ∧ c + f < f' ∧ TS n bt T (k + 1) nm kd h1 g2 ∧ OP o h1 g2 ∧ CB n bt f' h1 ∧ RB n bt f' g2 ∧ y < nH g2 ∧ hpl g2 y = kd ∧ ext g g2 ∧ grow g g2 ∧ agr (XCc T) h h1 ∧ agr (fun b j => XRc (k + 1) b j ∨ SDv k m b j) g g2 ∧ g2.1 124 k = I3 (m + 1) ∧ (m < 20 → g2.1 125 (20 * k + m) = I3 y)) ∨ ∃ e pc h1 g1 c, rc = some (-1, h1) ∧ FT e pc h1 g1 ∧ XT 0 0 h g h1 g1 ∧ c + f ≤ n ∧ DieR rr c g1 := by
  rcases E with ⟨y, h1, g1, g2, f', c, e1, e2, e3, e4, e5⟩ | ⟨e, pc, h1, g1, e1, e2, e3, e4 | ⟨g0, c, e4, e5, e6⟩⟩
  · exact Or.inl ⟨y, h1, g2, f', c, e1, ⟨g1, e2, e3⟩, e4, e5⟩
  · exact Or.inr ⟨e, pc, h1, g1, 0, e1, e2, e3, by omega, Or.inl e4⟩
  · exact Or.inr ⟨e, pc, h1, g1, c, e1, e2, e3, e5, Or.inr ⟨g0, e4, e6⟩⟩
def BS (n : Nat) (bt : Nat → Nat) (nd o T j m p f : Nat) (nm : Nat → Int64) (kd : List Int32) (pt : Nat → Nat) (h g : sm_H) : Prop := TS n bt (T + p) (j + 1) nm kd h g ∧ OP o h g ∧ DF nd h g ∧ CB n bt f h ∧ RB n bt f g ∧ g.1 124 j = I3 m ∧ (∀ i, i < m → i < 20 → g.1 125 (20 * j + i) = I3 (pt i)) ∧ ∀ i, i < p → h.1 60 (T + i) = I3 (pt i)
abbrev XRp (j b i : Nat) : Prop := XRc (j + 1) b i ∨ (b = 124 ∧ i = j) ∨ (b = 125 ∧ 20 * j ≤ i)
def PT (T j : Nat) (h g h1 g1 : sm_H) : Prop := ext g g1 ∧ grow g g1 ∧ agr (XCc T) h h1 ∧ agr (XRp j) g g1
theorem XRc_s {k' : Nat} (hk : k' ≤ k) (b i : Nat) (z : XRc k b i) : XRc k' b i := by
  rcases z with z | z | z | z | z | z | z
  · exact Or.inl z
  · exact Or.inr (Or.inl z)
  · exact Or.inr (Or.inr (Or.inl z))
  · exact Or.inr (Or.inr (Or.inr (Or.inl z)))
  · exact Or.inr (Or.inr (Or.inr (Or.inr (Or.inl ⟨z.1, z.2.1, Nat.le_trans hk z.2.2⟩))))
  · exact Or.inr (Or.inr (Or.inr (Or.inr (Or.inr (Or.inl ⟨z.1, by omega⟩)))))
  · exact Or.inr (Or.inr (Or.inr (Or.inr (Or.inr (Or.inr ⟨z.1, by omega⟩)))))
theorem XCc_s {T' : Nat} (hT : T' ≤ T) (b i : Nat) (z : XCc T b i) : XCc T' b i := by
  rcases z with z | z | z | z | z
  · exact Or.inl z
  · exact Or.inr (Or.inl z)
  · exact Or.inr (Or.inr (Or.inl z))
  · exact Or.inr (Or.inr (Or.inr (Or.inl ⟨z.1, Nat.le_trans hT z.2⟩)))
  · exact Or.inr (Or.inr (Or.inr (Or.inr z)))
theorem XRp_c (b i : Nat) (z : XRp j b i) : XRc j b i := by
  rcases z with z | z | z
  · exact XRc_s (Nat.le_succ j) b i z
  · exact Or.inr (Or.inr (Or.inr (Or.inr (Or.inl (by omega)))))
  · exact Or.inr (Or.inr (Or.inr (Or.inr (Or.inr (Or.inl z)))))
theorem PT_rfl : PT T j h g h g := ⟨ext_rfl, grow_rfl, agr_rfl, agr_rfl⟩
theorem PT_trans {h1 g1 h2 g2 : sm_H} (a : PT T j h g h1 g1) (b : PT T j h1 g1 h2 g2) : PT T j h g h2 g2 := ⟨ext_trans a.1 b.1, grow_trans a.2.1 b.2.1, agr_trans a.2.2.1 b.2.2.1, agr_trans a.2.2.2 b.2.2.2⟩
theorem PT_s {T' : Nat} {h1 g1 : sm_H} (hT : T' ≤ T) (a : PT T j h g h1 g1) : PT T' j h g h1 g1 := ⟨a.1, a.2.1, agr_mono (XCc_s hT) a.2.2.1, a.2.2.2⟩
theorem PT_XT {h1 g1 : sm_H} (K : K1 h1 g1) (l : NL h1) (a : PT T j h g h1 g1) : XT T j h g h1 g1 := ⟨K, a.1, a.2.1, a.2.2.1, agr_mono XRp_c a.2.2.2, fun _ => l⟩
theorem BS.t (B : BS n bt nd o T j m p f nm kd pt h g) : TS n bt (T + p) (j + 1) nm kd h g := B.1
theorem BS.op (B : BS n bt nd o T j m p f nm kd pt h g) : OP o h g := B.2.1
theorem BS.d (B : BS n bt nd o T j m p f nm kd pt h g) : DF nd h g := B.2.2.1
theorem BS.c (B : BS n bt nd o T j m p f nm kd pt h g) : CB n bt f h := B.2.2.2.1
theorem BS.r (B : BS n bt nd o T j m p f nm kd pt h g) : RB n bt f g := B.2.2.2.2.1
theorem BS.mm (B : BS n bt nd o T j m p f nm kd pt h g) : g.1 124 j = I3 m := B.2.2.2.2.2.1
theorem BS.q (B : BS n bt nd o T j m p f nm kd pt h g) : ∀ i, i < m → i < 20 → g.1 125 (20 * j + i) = I3 (pt i) := B.2.2.2.2.2.2.1
theorem BS.s (B : BS n bt nd o T j m p f nm kd pt h g) : ∀ i, i < p → h.1 60 (T + i) = I3 (pt i) := B.2.2.2.2.2.2.2
theorem TG.l (s : TG (SCO nm kd) n bt T k h g) : NL h := NL_S s.S
theorem XCc_df (b i : Nat) (z : XCc T b i) : ¬ (b = 55 ∧ i = 15 ∨ b = 62 ∨ b = 63) := by unfold XCc SCq SCb Ssc SCd SCh SCt Ssp S52 at z; omega
theorem XRp_df (b i : Nat) (z : XRp j b i) : ¬ (b = 67 ∧ i = 91 ∨ 113 ≤ b ∧ b ≤ 116) := by unfold XRp XRc SRa SRq SRb SRp SRh SRt Ssr SLx at z; omega
theorem partE {rc rr : Option (Int32 × sm_H)} (B : BS n bt nd o T j m p f nm kd pt h g) (pm : p ≤ m) (E : EO n bt o (T + p) j m f nm kd h g rc rr) : (∃ y h1 g2 f' c, rc = some (I3 y, h1) ∧ RunR rr c g2 ∧ c + f < f' ∧ BS n bt nd o T j (m + 1) p f' nm kd (updN pt m y) h1 g2 ∧ y < nH g2 ∧ hpl g2 y = kd ∧ PT (T + p) j h g h1 g2) ∨ ∃ e pc h1 g1 c, rc = some (-1, h1) ∧ FT e pc h1 g1 ∧ XT 0 0 h g h1 g1 ∧ c + f ≤ n ∧ DieR rr c g1 := by
  rcases EO_v (RB_n B.r) E with ⟨y, h1, g2, f', c, e1, e2, e3, e4, e5, e6, e7, e8, e9, e10, e11, e12, e13, e14, e15⟩ | z
  · have a2 : agr (XRp j) g g2 := agr_mono (fun b i z => by
      rcases z with z | ⟨z1, z2⟩ | ⟨z1, z2, z3⟩
      · exact Or.inl z
      · exact Or.inr (Or.inl ⟨z1, z2⟩)
      · exact Or.inr (Or.inr ⟨z1, by omega⟩)) e13
    refine Or.inl ⟨y, h1, g2, f', c, e1, e2, e3, ⟨e4, e5, DF_x B.t.K B.d e10 e11 e12 a2 XCc_df XRp_df, e6, e7, e14, fun i hi i2 => ?_, fun i hi => ?_⟩, e8, e9, e10, e11, e12, a2⟩
    · by_cases w : i = m
      · subst w
        rw [up_s]; exact e15 i2
      · rw [up_o _ _ w, e13.1 125 _ (by unfold XRc SRa SRq SRb SRp SRh SRt Ssr SLx SDv; omega)]
        exact B.q i (by omega) i2
    · rw [up_o _ _ (by omega), e12.1 60 _ (by unfold XCc SCq SCb Ssc SCd SCh SCt Ssp S52; omega)]
      exact B.s i hi
  · exact Or.inr z
theorem pushP (B : BS n bt nd o T j (m + 1) m f nm kd pt h g) (hT : T + m < 200) (y5 : pt m < 500) (x : Int64) : ∃ h2, F_188 (I3 (pt m)) x h = some (1, h2) ∧ BS n bt nd o T j (m + 1) (m + 1) f nm kd pt h2 g ∧ PT (T + m) j h g h2 g ∧ h2.2.1 61 (T + m) = x ∧ agr (fun b j => (b = 60 ∨ b = 61) ∧ j = T + m ∨ b = 55 ∧ j = 12) h h2 := by
  obtain ⟨h2, a1, a2, a3, a4, a5⟩ := C_188 B.t.t.1 hT y5 x
  have X : XT (T + m) (j + 1) h g h2 g := XT_x B.t.K (agr_mono (fun b i z => by
    rcases z with ⟨z1, z2⟩ | z
    · exact Or.inr (Or.inl ⟨z1, by omega⟩)
    · exact Or.inr (Or.inr ⟨z.1, Or.inl z.2⟩)) a5) agr_rfl
  have s := B.t
  refine ⟨h2, a1, ⟨⟨X.k1, NF_agr (S' := fun _ _ => False) s.nf a5 agr_rfl (by omega) ⟨fun z => z, fun z => z⟩, SCO_agr (Q := fun _ _ => False) s.S a5 agr_rfl (Nat.le_refl _) (fun b j z => by omega) (fun b j z => z.elim), ⟨a2, by omega⟩, s.b, TXC_agr s.xc a5 (fun b j z => by omega), s.xr⟩, OP_x (Q := fun _ _ => False) B.op a5 agr_rfl (by omega) (fun z => z), DF_x (Q := fun _ _ => False) s.K B.d ext_rfl grow_rfl a5 agr_rfl (fun b j z => by omega) (fun b j z => z.elim), ?_, B.r, B.mm, B.q, fun i hi => ?_⟩, ⟨ext_rfl, grow_rfl, X.c, agr_rfl⟩, a4, a5⟩
  · obtain ⟨q, q1, q2, q3⟩ := B.c
    exact ⟨q, (a5.1 52 3 (by omega)).trans q1, q2, q3⟩
  · by_cases w : i = m
    · subst w; exact a3
    · rw [a5.1 60 _ (by omega)]; exact B.s i (by omega)
def EX (n : Nat) (bt : Nat → Nat) (nd : Nat) (rec : sm_H → Option (Int32 × sm_H)) (o0 : Nat) : Prop := ∀ (o T k m f : Nat) (nm : Nat → Int64) (kd : List Int32) (h g : sm_H), o0 ≤ o → TS n bt T (k + 1) nm kd h g → OP o h g → DF nd h g → CB n bt f h → RB n bt f g → k < o → T ≤ 8 * k → m ≤ 4000 → g.1 124 k = I3 m → EO n bt o T k m f nm kd h g (F_193 rec h) (F_448 g)
theorem parts {rec : sm_H → Option (Int32 × sm_H)} {o0 N : Nat} {g0 : sm_H} (X : EX n bt nd rec o0) (ho : o0 ≤ o) (jo : j < o) (j1 : 1 ≤ j) (j4 : j < 24) (hT : T + 8 ≤ 8 * j) (N8 : N ≤ 8) : ∀ (r i fu m f : Nat) (pt : Nat → Nat) (h g : sm_H), i + r = N → r < fu → m + r ≤ 8 → BS n bt nd o T j m m f nm kd pt h g → agr (XRp j) g0 g → (∀ i' g', m ≤ i' → i' < m + r → agr (XRp j) g0 g' → g'.1 67 102 = I3 (j + 1) → g'.1 124 j = I3 i' → F_451 g' = wp (F_448 g')) →
    (∃ h1 g1 f' c pt', lp (F_199_2B rec) fu (I3 N, I3 i, h) = some (1, h1) ∧ Run g c g1 ∧ c + f ≤ f' ∧ BS n bt nd o T j (m + r) (m + r) f' nm kd pt' h1 g1 ∧ (∀ i, i < m → pt' i = pt i) ∧ (∀ i, m ≤ i → i < m + r → pt' i < nH g1 ∧ hpl g1 (pt' i) = kd) ∧ PT (T + m) j h g h1 g1) ∨ ∃ e pc h1 g1 c, lp (F_199_2B rec) fu (I3 N, I3 i, h) = some (0, h1) ∧ FT e pc h1 g1 ∧ XT 0 0 h g h1 g1 ∧ c + f ≤ n + 1 ∧ Die g c g1 := by
  intro r
  induction r with
  | zero =>
    intro i fu m f pt h g hi hf hm B ag hF
    refine Or.inl ⟨h, g, f, 0, pt, lp_e (by omega) ?_, Run_rfl g, by omega, B, fun _ _ => rfl, fun i h1 h2 => by omega, PT_rfl⟩
    unfold F_199_2B
    show (if I3 N ≤ I3 i then _ else _) = _
    rw [if_pos (by rw [I3_le (by omega) (by omega)]; omega)]
  | succ r ih =>
    intro i fu m f pt h g hi hf hm B ag hF
    have C0 : F_199_2B rec (I3 N, I3 i, h) = (F_193 rec h).bind fun q1 => (F_188 q1.1 0 q1.2).bind fun q2 => if q2.1 = 0 then (some (.inr (0, q2.2))) else ((some (I3 i + 1 : Int32)).bind fun v3 => some (.inl (I3 N, v3, q2.2))) := by
      unfold F_199_2B
      show (if I3 N ≤ I3 i then _ else _) = _
      rw [if_neg (by rw [I3_le (by omega) (by omega)]; omega)]
    have E := X o (T + m) j m f nm kd h g ho B.t B.op B.d B.c B.r jo (by omega) (by omega) B.mm
    have eF := hF m g (Nat.le_refl _) (by omega) ag B.t.b B.mm
    rcases partE B (Nat.le_refl _) E with ⟨y, h1, g2, f', c, e1, e2, e3, e4, e5, e6, e7⟩ | ⟨e, pc, h1, g1, c, e1, e2, e3, e4, e5⟩
    · have y5 := lt500 e4.t.K e5
      obtain ⟨h2, p1, p2, p3, p4, p5⟩ := pushP e4 (by omega) (by rw [up_s]; exact y5) 0
      rw [up_s] at p1
      rw [e1] at C0; simp only [obs] at C0
      rw [p1] at C0; simp only [obs] at C0
      rw [if_neg (by decide), show I3 i + 1 = I3 (i + 1) from I3_add i 1] at C0
      have P1 : PT (T + m) j h g h2 g2 := PT_trans e7 p3
      have R1 := RunR_run B.t.b j1 j4 eF (RunR_wp e2)
      rw [lp_s (by omega) C0]
      rcases ih (i + 1) (fu - 1) (m + 1) f' (updN pt m y) h2 g2 (by omega) (by omega) (by omega) p2 (agr_trans ag e7.2.2.2) (fun i' g' h1 h2 => hF i' g' (by omega) (by omega)) with ⟨h3, g3, f3, c3, pt3, a1, a2, a3, a4, a5, a6, a7⟩ | ⟨e, pc, h3, g3, c3, a1, a2, a3, a4, a5⟩
      · refine Or.inl ⟨h3, g3, f3, (c + 1) + c3, pt3, a1, Run_trans R1 a2, by omega, by rw [show m + (r + 1) = m + 1 + r by omega]; exact a4, fun i hi => ?_, fun i h1 h2 => ?_, PT_trans P1 (PT_s (by omega) a7)⟩
        · rw [a5 i (by omega), up_o _ _ (by omega)]
        · by_cases w : i = m
          · subst w
            rw [a5 i (by omega), up_s]
            exact ⟨Nat.lt_of_lt_of_le e5 a7.2.1.2.2.1, (ext_hpl e4.t.K.2.2.2.2.1 a7.1 e5).trans e6⟩
          · exact a6 i (by omega) (by omega)
      · exact Or.inr ⟨e, pc, h3, g3, (c + 1) + c3, a1, a2, XT_trans (XT_mono (Nat.zero_le _) (Nat.zero_le _) (PT_XT p2.t.K p2.t.l P1)) a3, by omega, Run_die R1 a5⟩
    · refine Or.inr ⟨e, pc, h1, g1, c + 1, lp_e (by omega) ?_, e2, e3, by omega, DieR_die B.t.b j1 j4 eF (DieR_wp e5)⟩
      rw [C0, e1]; simp only [obs]
      rw [show F_188 (-1) 0 h1 = some (0, h1) from by
        show F_188_0 (-1) 0 h1 = _
        unfold F_188_0 F_188_15
        rw [if_pos rfl]]
      rfl
end
def F457t (g : sm_H) : Option (Int32 × sm_H) :=
  (some (((g.1 67 102) - 1) : Int32)).bind fun v2 =>
  (ldI g 120 24 v2).bind fun v3 =>
  (some (sm_wI g 67 106 v3)).bind fun h4 =>
  (F_460 v2 h4).bind fun q5 =>
  if q5.1 = (-1) then (F_457_44 q5.2)
  else (if (q5.2.1 67 77) = 0 then ((some (sm_wI q5.2 67 102 ((q5.2.1 67 102) - 1))).bind fun h6 =>
  (ldI h6 123 24 v2).bind fun v7 =>
  (some (sm_wI h6 67 94 v7)).bind fun h8 =>
  (F_447 q5.1 h8).bind fun q9 =>
  if q9.1 = 0 ∨ q9.1 = 1 then some (q9.1, q9.2) else none)
  else (F_457_44 q5.2))
theorem F457e (g : sm_H) : F_457 g = (F_427 g).bind fun q1 => if q1.1 = 0 then some (0, q1.2) else F457t q1.2 := rfl
section
variable {n : Nat} {bt : Nat → Nat} {nd o T j k m p f : Nat} {nm nm' : Nat → Int64} {kd kd' : List Int32} {pt : Nat → Nat} {h g : sm_H}
theorem PW_of {b0 pc : Nat} {rc rr : Option (Int32 × sm_H)} (S : SCO nm kd h g) (po : PO b0 h g pc rc rr kd) : PW b0 h g pc rc rr nm kd := by
  rcases po with ⟨y, h1, g1, a1, a2, a3, a4, a5, a6⟩ | ⟨e', h1, g1, a1, a2, a3, a4⟩
  · exact Or.inl ⟨y, h1, g1, a1, a2, a3, a4, TW_of a5, a6, SCO_TB S a5⟩
  · exact Or.inr ⟨e', h1, g1, a1, a2, TW_of a3, a4, NL_S (SCO_TB S a3)⟩
abbrev Sfi (k m b j : Nat) : Prop := (b = 67 ∧ (j = 102 ∨ j = 94)) ∨ SDv k m b j
theorem Sfi_not (b j : Nat) (z : Sfi k m b j) : notR b j := by
  rcases z with ⟨rfl, rfl | rfl⟩ | z
  · rfl
  · rfl
  · exact SDv_not m b j z
theorem finish {f' f0 : Nat} {rc : Option (Int32 × sm_H)} (hT : T ≤ 200) (k1 : k < 23) (m3 : m ≤ 4000) (K : K1 h g) (b : g.1 67 102 = I3 (k + 2)) (xc : TXC n bt h) (xr : TXR n bt g) (p : OP o h g) (c : CB n bt f' h) (r : RB n bt f' g) (f120 : g.1 120 (k + 1) = I3 f0) (f123 : g.1 123 (k + 1) = I3 (400 - kd.length)) (e : g.1 124 k = I3 m) (po : PW T h (sm_wI g 67 106 (I3 f0)) f0 rc (F_460 (I3 (k + 1)) (sm_wI g 67 106 (I3 f0))) nm kd) :
    (∃ y h1 g2, rc = some (I3 y, h1) ∧ F457t g = some (1, g2) ∧ TS n bt T (k + 1) nm kd (sm_wI h1 55 12 (I3 T)) g2 ∧ OP o (sm_wI h1 55 12 (I3 T)) g2 ∧ CB n bt f' (sm_wI h1 55 12 (I3 T)) ∧ RB n bt f' g2 ∧ y < nH g2 ∧ hpl g2 y = kd ∧ ext g g2 ∧ grow g g2 ∧ agr (XCc T) h (sm_wI h1 55 12 (I3 T)) ∧ agr (fun b j => XRc (k + 1) b j ∨ SDv k m b j) g g2 ∧ g2.1 124 k = I3 (m + 1) ∧ (m < 20 → g2.1 125 (20 * k + m) = I3 y)) ∨ ∃ e h1 g2, rc = some (-1, h1) ∧ F457t g = some (0, g2) ∧ FT e f0 h1 g2 ∧ XT 0 0 h g h1 g2 := by
  have a6 : agr (fun b j => b = 67 ∧ j = 106) g (sm_wI g 67 106 (I3 f0)) := agr_wI agr_rfl ⟨rfl, rfl⟩
  have X0 : XT T (k + 1) h g h (sm_wI g 67 106 (I3 f0)) := XT_x K agr_rfl (agr_mono (fun b j z => Or.inr (Or.inl ⟨z.1, by omega⟩)) a6)
  have R0 : F457t g = (F_460 (I3 (k + 1)) (sm_wI g 67 106 (I3 f0))).bind fun q5 =>
      if q5.1 = (-1) then (F_457_44 q5.2)
      else (if (q5.2.1 67 77) = 0 then ((some (sm_wI q5.2 67 102 ((q5.2.1 67 102) - 1))).bind fun h6 =>
      (ldI h6 123 24 (I3 (k + 1))).bind fun v7 =>
      (some (sm_wI h6 67 94 v7)).bind fun h8 =>
      (F_447 q5.1 h8).bind fun q9 =>
      if q9.1 = 0 ∨ q9.1 = 1 then some (q9.1, q9.2) else none)
      else (F_457_44 q5.2)) := by
    unfold F457t
    rw [b, show I3 (k + 2) - 1 = I3 (k + 1) from I3_s1 (k + 1)]; simp only [obs]
    rw [ldI_I (by omega) (by decide), f120]; simp only [obs]
  rcases po with ⟨y, h1, g1, a1, a2, a3, a4, a5, a7, a8⟩ | ⟨e', h1, g1, a1, a2, a3, a4, a5⟩
  · left
    have b1 : g1.1 67 102 = I3 (k + 2) := (a5.a.1 67 102 (by unfold SRa SRq SRb SRp SRh SRt Ssr; omega)).trans b
    have w1 : g1.1 123 (k + 1) = I3 (400 - kd.length) := (a5.a.1 123 (k + 1) (by unfold SRa SRq SRb SRp SRh SRt Ssr; omega)).trans f123
    have e1 : g1.1 124 k = I3 m := (a5.a.1 124 k (by unfold SRa SRq SRb SRp SRh SRt Ssr; omega)).trans e
    have y5 := lt500 a5.k a3
    obtain ⟨g2, d1, d2, d3, d4⟩ := deliver (g := sm_wI (sm_wI g1 67 102 (I3 (k + 1))) 67 94 (I3 (400 - kd.length))) y5 (show k < 24 by omega) rfl e1 m3
    have af : agr (Sfi k m) g1 g2 := agr_trans (agr_wI (agr_wI agr_rfl (Or.inl ⟨rfl, Or.inl rfl⟩)) (Or.inl ⟨rfl, Or.inr rfl⟩)) (agr_mono (fun b j z => Or.inr z) d2)
    have a12 : agr (fun b j => b = 55 ∧ j = 12) h1 (sm_wI h1 55 12 (I3 T)) := agr_wI agr_rfl ⟨rfl, rfl⟩
    have E := ext_eq (ok_of_not Sfi_not af)
    have K2 : K1 (sm_wI h1 55 12 (I3 T)) g2 := K1_g (K1_55 a5.k 12 (I3 T)) (agr_mono Sfi_not af)
    have nc : nC g2 = nC g1 := by show tn _ = tn _; rw [af.1 67 6 (by unfold Sfi SDv; omega)]
    have S2 : SCO nm kd (sm_wI h1 55 12 (I3 T)) g2 := SCO_agr (h := h1) (g := sm_wI (sm_wI g1 67 102 (I3 (k + 1))) 67 94 (I3 (400 - kd.length))) ⟨a8.1, a8.2.1, rfl, a8.2.2.2.1, a8.2.2.2.2⟩ a12 d2 (Nat.le_of_eq nc.symm) (fun b j z => by omega) (fun b j z => by unfold SDv at z; omega)
    have ac : agr (XCc T) h (sm_wI h1 55 12 (I3 T)) := agr_trans (XT_TW (k := k) a5 (fun _ => NL_S a8)).c (agr_mono (fun b j z => Or.inr (Or.inr (Or.inr (Or.inr ⟨z.1, Or.inl z.2⟩)))) a12)
    have ar : agr (fun b j => XRc (k + 1) b j ∨ SDv k m b j) g g2 := agr_trans (agr_mono (fun b j z => Or.inl z) (agr_trans X0.a (XT_TW (T := T) (k := k + 1) a5 (fun _ => NL_S a8)).a)) (agr_mono (fun b j z => by
      rcases z with ⟨rfl, rfl | rfl⟩ | z
      · exact Or.inl (Or.inr (Or.inr (Or.inr (Or.inl ⟨rfl, Or.inr (Or.inl rfl)⟩))))
      · exact Or.inl (Or.inr (Or.inl (Or.inl ⟨rfl, rfl⟩)))
      · exact Or.inr z) af)
    refine ⟨y, h1, g2, a1, ?_, ⟨K2, NF_agr a7 a12 af (by omega) (by unfold Sfi SDv; omega), S2, ⟨rfl, hT⟩, (d2.1 67 102 (by unfold SDv; omega)).trans rfl, TXC_agr (TXC_agr xc a5.c (fun b j z => by unfold SCq SCb Ssc SCd SCh SCt Ssp at z; omega)) a12 (fun b j z => by omega), TXR_agr (TXR_agr xr (agr_trans (agr_mono (fun b j z => Or.inl z) a6) (agr_mono (fun b j z => Or.inr z) a5.a)) (fun b j z => by unfold SRa SRq SRb SRp SRh SRt Ssr at z; omega)) af (fun b j z => by unfold Sfi SDv at z; omega)⟩, ⟨(a5.c.1 55 16 (by unfold SCq SCb Ssc SCd SCh SCt Ssp; omega)).trans p.1, ((af.1 67 86 (by unfold Sfi SDv; omega)).trans (a5.a.1 67 86 (by unfold SRa SRq SRb SRp SRh SRt Ssr; omega))).trans p.2.1, p.2.2⟩, ?_, ?_, Nat.lt_of_lt_of_le a3 E.2.1.2.2.1, (ext_hpl a5.k.2.2.2.2.1 E.1 a3).trans a4, ext_trans X0.e (ext_trans a5.e E.1), grow_trans X0.r (grow_trans a5.r E.2.1), ac, ar, d3, d4⟩
    · rw [R0, a2]; simp only [obs]
      rw [if_neg (h_m1 a5.k a3), if_pos a7.2.1, b1, show I3 (k + 2) - 1 = I3 (k + 1) from I3_s1 (k + 1)]
      rw [ldI_I (by omega) (by decide), show (sm_wI g1 67 102 (I3 (k + 1))).1 123 (k + 1) = I3 (400 - kd.length) from w1]; simp only [obs]
      rw [d1]; simp only [obs]
      rw [if_pos (Or.inr trivial)]
    · obtain ⟨q, q1, q2, q3⟩ := c
      exact ⟨q, (a5.c.1 52 3 (by unfold SCq SCb Ssc SCd SCh SCt Ssp; omega)).trans q1, q2, q3⟩
    · obtain ⟨q, q1, q2, q3⟩ := r
      exact ⟨q, ((af.1 67 79 (by unfold Sfi SDv; omega)).trans (a5.a.1 67 79 (by unfold SRa SRq SRb SRp SRh SRt Ssr; omega))).trans q1, q2, q3⟩
  · right
    refine ⟨e', h1, g1, a1, ?_, a4, XT_mono (Nat.zero_le _) (Nat.zero_le _) (XT_trans X0 (XT_TW a3 (fun _ => a5)))⟩
    rw [R0, a2]; simp only [obs]
    rw [if_pos trivial]; rfl
def BO (n : Nat) (bt : Nat → Nat) (o T k m f : Nat) (nm : Nat → Int64) (kd : List Int32) (h g : sm_H) (rc : Option (Int32 × sm_H)) : Prop :=
  (∃ y h1 g2 f' c, rc = some (I3 y, h1) ∧ Run g c g2 ∧ c + f ≤ f' ∧ TS n bt T (k + 1) nm kd (sm_wI h1 55 12 (I3 T)) g2 ∧ OP o (sm_wI h1 55 12 (I3 T)) g2 ∧ CB n bt f' (sm_wI h1 55 12 (I3 T)) ∧ RB n bt f' g2 ∧ y < nH g2 ∧ hpl g2 y = kd ∧ ext g g2 ∧ grow g g2 ∧ agr (XCc T) h (sm_wI h1 55 12 (I3 T)) ∧ agr (fun b j => XRc (k + 1) b j ∨ SDv k m b j) g g2 ∧ g2.1 124 k = I3 (m + 1) ∧ (m < 20 → g2.1 125 (20 * k + m) = I3 y)) ∨ ∃ e pc h1 g1 c, rc = some (-1, h1) ∧ FT e pc h1 g1 ∧ XT 0 0 h g h1 g1 ∧ c + f ≤ n + 1 ∧ Die g c g1
theorem BO_tr {f0 c0 : Nat} {h0 g0 : sm_H} {rc : Option (Int32 × sm_H)} (R : Run g0 c0 g) (cf : c0 + f0 ≤ f) (P : XT T (k + 1) h0 g0 h g) (b : BO n bt o T k m f nm kd h g rc) : BO n bt o T k m f0 nm kd h0 g0 rc := by
  rcases b with ⟨y, h1, g2, f', c, e1, e2, e3, e4, e5, e6, e7, e8, e9, e10, e11, e12, e13, e14⟩ | ⟨e, pc, h1, g1, c, e1, e2, e3, e4, e5⟩
  · exact Or.inl ⟨y, h1, g2, f', c0 + c, e1, Run_trans R e2, by omega, e4, e5, e6, e7, e8, e9, ext_trans P.e e10, grow_trans P.r e11, agr_trans P.c e12, agr_trans (agr_mono (fun b j z => Or.inl z) P.a) e13, e14⟩
  · exact Or.inr ⟨e, pc, h1, g1, c0 + c, e1, e2, XT_trans (XT_mono (Nat.zero_le _) (Nat.zero_le _) P) e3, by omega, Run_die R e5⟩
theorem PT_of {T' k' : Nat} {h1 g1 : sm_H} (hT : T ≤ T') (hk : j + 1 ≤ k') (X : XT T' k' h g h1 g1) : PT T j h g h1 g1 := ⟨X.e, X.r, agr_mono (XCc_s hT) X.c, agr_mono (fun b i z => Or.inl (XRc_s hk b i z)) X.a⟩
theorem closeFin {M f0 : Nat} (B : BS n bt nd (o + 1) T (k + 1) M p f nm' kd' pt h g) (k1 : k < 23) (m3 : m ≤ 4000) (f120 : g.1 120 (k + 1) = I3 f0) (f123 : g.1 123 (k + 1) = I3 (400 - kd.length)) (e : g.1 124 k = I3 m) (eF : F_451 g = wp (F_457 g)) {mk : sm_H → Option (Int32 × sm_H)}
    (hmk : ∀ h1 g1, TS n bt (T + p) (k + 2) nm' kd' h1 g1 → XT (T + p) (k + 2) h g h1 g1 → PW T h1 (sm_wI g1 67 106 (I3 f0)) f0 (mk h1) (F_460 (I3 (k + 1)) (sm_wI g1 67 106 (I3 f0))) nm kd) :
    BO n bt o T k m f nm kd h g ((F_175 h).bind fun q => if q.1 = 0 then some (-1, q.2) else mk q.2) := by
  have hT := B.t.t.2
  have fn := RB_n B.r
  rcases closeB B.t B.op B.c B.r with ⟨h1, g1, a1, a2, a3, a4, a5, a6, a7, a8⟩ | ⟨e', h2, g2, a1, a2, a3, a4⟩
  · have P := hmk h1 g1 a3 a8
    have ne : g1.1 124 k = I3 m := (a8.a.1 124 k (by unfold XRc SRa SRq SRb SRp SRh SRt Ssr SLx; omega)).trans e
    have n0 : g1.1 120 (k + 1) = I3 f0 := (a8.a.1 120 (k + 1) (by unfold XRc SRa SRq SRb SRp SRh SRt Ssr SLx; omega)).trans f120
    have n3 : g1.1 123 (k + 1) = I3 (400 - kd.length) := (a8.a.1 123 (k + 1) (by unfold XRc SRa SRq SRb SRp SRh SRt Ssr SLx; omega)).trans f123
    rw [a1]; simp only [obs]
    rw [if_neg (by decide)]
    have R0 : F_457 g = F457t g1 := by rw [F457e, a2]; simp only [obs]; rw [if_neg (by decide)]
    rcases finish (by omega) k1 m3 a3.K a3.b a3.xc a3.xr a4 a5 a6 n0 n3 ne P with ⟨y, h2, g2, c1, c2, c3, c4, c5, c6, c7, c8, c9, c10, c11, c12, c13, c14⟩ | ⟨e', h2, g2, c1, c2, c3, c4⟩
    · refine Or.inl ⟨y, h2, g2, _, 1, c1, RunR_run B.t.b (by omega) (by omega) (eF.trans (by rw [R0, c2])) (RunR_wp ⟨g2, rfl, Run_rfl g2⟩), by omega, c3, c4, c5, c6, c7, c8, ext_trans a8.e c9, grow_trans a8.r c10, agr_trans (agr_mono (XCc_s (by omega)) a8.c) c11, agr_trans (agr_mono (fun b i z => Or.inl (XRc_s (by omega) b i z)) a8.a) c12, c13, c14⟩
    · exact Or.inr ⟨e', _, h2, g2, 1, c1, c3, XT_trans (XT_mono (Nat.zero_le _) (Nat.zero_le _) a8) c4, by omega, DieR_die (c := 0) B.t.b (by omega) (by omega) (eF.trans (by rw [R0, c2])) (DieR_wp (Or.inl rfl))⟩
  · rw [a1]; simp only [obs]
    rw [if_pos trivial]
    exact Or.inr ⟨e', _, h2, g2, 1, rfl, a3, XT_mono (Nat.zero_le _) (Nat.zero_le _) a4, by omega, DieR_die (c := 0) B.t.b (by omega) (by omega) (eF.trans (by rw [F457e, a2]; simp only [obs]; rw [if_pos trivial])) (DieR_wp (Or.inl rfl))⟩
theorem F200e {x f0 : Nat} (hx : x < 17) {y5 : Int32} (h5 : ¬ y5 = -1) (rec : sm_H → Option (Int32 × sm_H)) {N : Nat} (hN : P_KP.getD x 0 = I3 N) (h : sm_H) : F_200_34 rec (I3 x) (I3 f0) (I3 T) y5 h = (F_199 rec (I3 N) h).bind fun q3 => if q3.1 = 0 then some (-1, q3.2) else ((F_175 q3.2).bind fun q4 => if q4.1 = 0 then some (-1, q4.2) else CP (I3 x) y5 (I3 T) (I3 f0) q4.2) := by
  have ld : sm_ldI G0 h 1000003 (I3 x) = some (P_KP.getD x 0) := by
    rcases (show x = 0 ∨ x = 1 ∨ x = 2 ∨ x = 3 ∨ x = 4 ∨ x = 5 ∨ x = 6 ∨ x = 7 ∨ x = 8 ∨ x = 9 ∨ x = 10 ∨ x = 11 ∨ x = 12 ∨ x = 13 ∨ x = 14 ∨ x = 15 ∨ x = 16 by omega) with rfl | rfl | rfl | rfl | rfl | rfl | rfl | rfl | rfl | rfl | rfl | rfl | rfl | rfl | rfl | rfl | rfl <;> rfl
  unfold F_200_34 F_200_52 F_200_73
  rw [if_neg h5, if_neg (I3_nn (by omega)), show sm_al G0 h 1000003 = some 17 from rfl]; simp only [obs]
  rw [if_pos (by rw [I3_lit, I3_lt (by omega) (by decide)]; exact hx), ld, hN]; simp only [obs]
  rfl
end
section
variable {n : Nat} {bt : Nat → Nat} {nd o T j k m p f f0 : Nat} {nm nm' : Nat → Int64} {kd kd' : List Int32} {pt : Nat → Nat} {h g : sm_H} {rec : sm_H → Option (Int32 × sm_H)}
theorem nC_XR {g1 : sm_H} (a : agr (XRc k) g g1) : nC g1 = nC g := by
  show tn _ = tn _
  rw [a.1 67 6 (by unfold XRc SRa SRq SRb SRp SRh SRt Ssr SLx; omega)]
theorem F451a {srt N i : Nat} (b : g.1 67 102 = I3 (j + 1)) (j4 : j < 24) (s : g.1 119 j = I3 srt) (hS : F_442 (I3 srt) g = some (I3 N, g)) (N9 : N ≤ 3) (e : g.1 124 j = I3 i) (i4 : i ≤ 4000) : F_451 g = if N ≤ i then wp (F_457 g) else wp (F_448 g) := by
  show F_451_0 g = _
  unfold F_451_0
  rw [b, I3_s1]; simp only [obs]
  rw [ldI_I j4 (by decide), s]; simp only [obs]
  rw [hS]; simp only [obs]
  rw [if_neg (I3_m1 (by omega)), ldI_I j4 (by decide), e]; simp only [obs]
  by_cases q : N ≤ i
  · rw [if_pos q, if_pos (by rw [I3_le (by omega) (by omega)]; exact q)]; rfl
  · rw [if_neg q, if_neg (by rw [I3_le (by omega) (by omega)]; exact q)]; rfl
def FC (g : sm_H) (j f0 kl : Nat) (srt st ex : Int32) : Prop := g.1 119 j = srt ∧ g.1 120 j = I3 f0 ∧ g.1 121 j = st ∧ g.1 122 j = ex ∧ g.1 123 j = I3 (400 - kl)
theorem FC_x {f0 kl : Nat} {srt st ex : Int32} {g1 : sm_H} (F : FC g j f0 kl srt st ex) (a : agr (XRp j) g g1) : FC g1 j f0 kl srt st ex := by
  have e : ∀ b, 119 ≤ b → b ≤ 123 → g1.1 b j = g.1 b j := fun b b1 b2 => a.1 b j (by unfold XRp XRc SRa SRq SRb SRp SRh SRt Ssr SLx; omega)
  unfold FC
  rw [e 119 (by omega) (by omega), e 120 (by omega) (by omega), e 121 (by omega) (by omega), e 122 (by omega) (by omega), e 123 (by omega) (by omega)]
  exact F
theorem k_124 {g1 : sm_H} (a : agr (XRp (k + 1)) g g1) : g1.1 124 k = g.1 124 k := a.1 124 k (by unfold XRp XRc SRa SRq SRb SRp SRh SRt Ssr SLx; omega)
theorem fixedX {x srt N : Nat} {y5 st ex : Int32} (X : EX n bt nd rec (o + 1)) (B : BS n bt nd (o + 1) T (k + 1) 0 0 f nm kd pt h g) (F : FC g (k + 1) f0 kd.length (I3 srt) st ex) (ko : k < o) (hT : T ≤ 8 * k) (m3 : m ≤ 4000) (e : g.1 124 k = I3 m) (hx : x < 17) (h5 : ¬ y5 = -1) (hN : P_KP.getD x 0 = I3 N) (N3 : N ≤ 3) (hS : ∀ g', F_442 (I3 srt) g' = some (I3 N, g'))
    (hdo : ∀ h1 g1 pt', K1 h1 g1 → SCO nm kd h1 g1 → NF h1 g1 → g1.1 67 106 = I3 f0 → STK h1 T N pt' → (∀ i, i < N → pt' i < nH g1 ∧ hpl g1 (pt' i) = kd) → FRM g1 (k + 1) (I3 srt) ex N pt' → nC g1 = nC g → PO T h1 g1 f0 (CP (I3 x) y5 (I3 T) (I3 f0) h1) (F_460 (I3 (k + 1)) g1) kd) :
    BO n bt o T k m f nm kd h g (F_200_34 rec (I3 x) (I3 f0) (I3 T) y5 h) := by
  have o20 := B.op.2.2
  rw [F200e hx h5 rec hN]
  rcases parts (g0 := g) X (Nat.le_refl _) (show k + 1 < o + 1 by omega) (by omega) (by omega) (show T + 8 ≤ 8 * (k + 1) by omega) (show N ≤ 8 by omega) N 0 1000000 0 f pt h g (by omega) (by omega) (by omega) B agr_rfl (fun i' g' h1 h2 a b e => by
      rw [F451a b (by omega) (FC_x F a).1 (hS g') N3 e (by omega), if_neg (by omega)]) with ⟨h1, g1, f', c, pt', a1, a2, a3, a4, a5, a6, a7⟩ | ⟨e, pc, h1, g1, c, a1, a2, a3, a4, a5⟩
  · rw [show F_199 rec (I3 N) h = some (1, h1) from a1]; simp only [obs]
    rw [if_neg (by decide)]
    rw [Nat.zero_add] at a4 a6
    have F1 := FC_x F a7.2.2.2
    have P7 : PT T (k + 1) h g h1 g1 := PT_s (by omega) a7
    refine BO_tr a2 a3 (PT_XT a4.t.K a4.t.l P7) (closeFin a4 (by omega) m3 F1.2.1 F1.2.2.2.2 ((k_124 a7.2.2.2).trans e) (by rw [F451a a4.t.b (by omega) F1.1 (hS g1) N3 a4.mm (by omega), if_pos (Nat.le_refl _)]) (fun h2 g2 s2 x2 => ?_))
    have s3 := TS_x (T' := T + N) (k' := k + 2) s2 agr_rfl (agr_wI agr_rfl (Or.inr ⟨rfl, Or.inr (Or.inl rfl)⟩) : agr (fun b j => SLx b j ∨ (b = 67 ∧ (j = 105 ∨ j = 106 ∨ j = 108))) g2 (sm_wI g2 67 106 (I3 f0)))
    have x3 := XT_trans x2 s3.2
    have fe : ∀ b, 119 ≤ b → b ≤ 124 → (sm_wI g2 67 106 (I3 f0)).1 b (k + 1) = g1.1 b (k + 1) := fun b b1 b2 => x3.a.1 b (k + 1) (by unfold XRc SRa SRq SRb SRp SRh SRt Ssr SLx; omega)
    refine PW_of s3.1.S (hdo h2 _ pt' s3.1.K s3.1.S s3.1.nf rfl ⟨T + N, s2.t.1, Nat.le_refl _, s2.t.2, fun i hi => ?_⟩ (fun i hi => ⟨x3.nH (a6 i (by omega) hi).1, (x3.hpl a4.t.K (a6 i (by omega) hi).1).trans (a6 i (by omega) hi).2⟩) ⟨by omega, ?_, ?_, ?_, by omega, fun i hi => ?_⟩ ((nC_XR x3.a).trans (nC_XR (agr_mono XRp_c a7.2.2.2))))
    · rw [x2.c.1 60 _ (by unfold XCc SCq SCb Ssc SCd SCh SCt Ssp S52; omega)]; exact a4.s i hi
    · rw [fe 119 (by omega) (by omega)]; exact F1.1
    · rw [fe 122 (by omega) (by omega)]; exact F1.2.2.2.1
    · rw [fe 124 (by omega) (by omega)]; exact a4.mm
    · rw [x3.a.1 125 _ (by unfold XRc SRa SRq SRb SRp SRh SRt Ssr SLx; omega)]; exact a4.q i hi (by omega)
  · rw [show F_199 rec (I3 N) h = some (0, h1) from a1]; simp only [obs]
    rw [if_pos trivial]
    exact Or.inr ⟨e, pc, h1, g1, c, rfl, a2, a3, a4, a5⟩
theorem CP_ex {x1 : Int32} (hx : x1 = 0 ∨ x1 = 2 ∨ x1 = 9 ∨ x1 = 10 ∨ x1 = 11 ∨ x1 = 13 ∨ x1 = 15) (a b x3 x4 : Int32) (h : sm_H) : CP x1 a x3 x4 h = CP x1 b x3 x4 h := by
  unfold CP
  rcases hx with rfl | rfl | rfl | rfl | rfl | rfl | rfl
  · unfold F_203 F_203_0
    simp only [eq_false (show ¬ ((0 : Int32) = 2) by decide), eq_false (show ¬ ((0 : Int32) = 5) by decide), eq_false (show ¬ ((0 : Int32) = 6) by decide), eq_false (show ¬ ((0 : Int32) = 7) by decide), eq_false (show ¬ ((0 : Int32) = 8) by decide), eq_false (show ¬ ((0 : Int32) = 9) by decide), eq_false (show ¬ ((0 : Int32) = 10) by decide), eq_false (show ¬ ((0 : Int32) = 11) by decide), eq_false (show ¬ ((0 : Int32) = 12) by decide), eq_false (show ¬ ((0 : Int32) = 13) by decide), eq_false (show ¬ ((0 : Int32) = 14) by decide), eq_false (show ¬ ((0 : Int32) = 15) by decide), if_false, if_true]
  · unfold F_203 F_203_0 F_202 F_202_0
    simp only [eq_false (show ¬ ((2 : Int32) = 0) by decide), eq_false (show ¬ ((2 : Int32) = 5) by decide), eq_false (show ¬ ((2 : Int32) = 6) by decide), eq_false (show ¬ ((2 : Int32) = 7) by decide), eq_false (show ¬ ((2 : Int32) = 8) by decide), eq_false (show ¬ ((2 : Int32) = 9) by decide), eq_false (show ¬ ((2 : Int32) = 10) by decide), eq_false (show ¬ ((2 : Int32) = 11) by decide), eq_false (show ¬ ((2 : Int32) = 12) by decide), eq_false (show ¬ ((2 : Int32) = 13) by decide), eq_false (show ¬ ((2 : Int32) = 14) by decide), eq_false (show ¬ ((2 : Int32) = 15) by decide), if_false, if_true]
  · unfold F_203 F_203_0 F_202 F_202_0
    simp only [eq_false (show ¬ ((9 : Int32) = 0) by decide), eq_false (show ¬ ((9 : Int32) = 2) by decide), eq_false (show ¬ ((9 : Int32) = 5) by decide), eq_false (show ¬ ((9 : Int32) = 6) by decide), eq_false (show ¬ ((9 : Int32) = 7) by decide), eq_false (show ¬ ((9 : Int32) = 8) by decide), eq_false (show ¬ ((9 : Int32) = 10) by decide), eq_false (show ¬ ((9 : Int32) = 11) by decide), eq_false (show ¬ ((9 : Int32) = 12) by decide), eq_false (show ¬ ((9 : Int32) = 13) by decide), eq_false (show ¬ ((9 : Int32) = 14) by decide), eq_false (show ¬ ((9 : Int32) = 15) by decide), if_false, if_true]
  · unfold F_203 F_203_0 F_202 F_202_0
    simp only [eq_false (show ¬ ((10 : Int32) = 0) by decide), eq_false (show ¬ ((10 : Int32) = 2) by decide), eq_false (show ¬ ((10 : Int32) = 5) by decide), eq_false (show ¬ ((10 : Int32) = 6) by decide), eq_false (show ¬ ((10 : Int32) = 7) by decide), eq_false (show ¬ ((10 : Int32) = 8) by decide), eq_false (show ¬ ((10 : Int32) = 9) by decide), eq_false (show ¬ ((10 : Int32) = 11) by decide), eq_false (show ¬ ((10 : Int32) = 12) by decide), eq_false (show ¬ ((10 : Int32) = 13) by decide), eq_false (show ¬ ((10 : Int32) = 14) by decide), eq_false (show ¬ ((10 : Int32) = 15) by decide), if_false, if_true]
  · unfold F_203 F_203_0 F_202 F_202_0
    simp only [eq_false (show ¬ ((11 : Int32) = 0) by decide), eq_false (show ¬ ((11 : Int32) = 2) by decide), eq_false (show ¬ ((11 : Int32) = 5) by decide), eq_false (show ¬ ((11 : Int32) = 6) by decide), eq_false (show ¬ ((11 : Int32) = 7) by decide), eq_false (show ¬ ((11 : Int32) = 8) by decide), eq_false (show ¬ ((11 : Int32) = 9) by decide), eq_false (show ¬ ((11 : Int32) = 10) by decide), eq_false (show ¬ ((11 : Int32) = 12) by decide), eq_false (show ¬ ((11 : Int32) = 13) by decide), eq_false (show ¬ ((11 : Int32) = 14) by decide), eq_false (show ¬ ((11 : Int32) = 15) by decide), if_false, if_true]
  · unfold F_203 F_203_0 F_202 F_202_0
    simp only [eq_false (show ¬ ((13 : Int32) = 0) by decide), eq_false (show ¬ ((13 : Int32) = 2) by decide), eq_false (show ¬ ((13 : Int32) = 5) by decide), eq_false (show ¬ ((13 : Int32) = 6) by decide), eq_false (show ¬ ((13 : Int32) = 7) by decide), eq_false (show ¬ ((13 : Int32) = 8) by decide), eq_false (show ¬ ((13 : Int32) = 9) by decide), eq_false (show ¬ ((13 : Int32) = 10) by decide), eq_false (show ¬ ((13 : Int32) = 11) by decide), eq_false (show ¬ ((13 : Int32) = 12) by decide), eq_false (show ¬ ((13 : Int32) = 14) by decide), eq_false (show ¬ ((13 : Int32) = 15) by decide), if_false, if_true]
  · unfold F_203 F_203_0 F_202 F_202_0
    simp only [eq_false (show ¬ ((15 : Int32) = 0) by decide), eq_false (show ¬ ((15 : Int32) = 2) by decide), eq_false (show ¬ ((15 : Int32) = 5) by decide), eq_false (show ¬ ((15 : Int32) = 6) by decide), eq_false (show ¬ ((15 : Int32) = 7) by decide), eq_false (show ¬ ((15 : Int32) = 8) by decide), eq_false (show ¬ ((15 : Int32) = 9) by decide), eq_false (show ¬ ((15 : Int32) = 10) by decide), eq_false (show ¬ ((15 : Int32) = 11) by decide), eq_false (show ¬ ((15 : Int32) = 12) by decide), eq_false (show ¬ ((15 : Int32) = 13) by decide), eq_false (show ¬ ((15 : Int32) = 14) by decide), if_false, if_true]
theorem opN {x : Nat} {st : Int32} (hx : x = 0 ∨ x = 2 ∨ x = 9 ∨ x = 10 ∨ x = 11 ∨ x = 13 ∨ x = 15) (X : EX n bt nd rec (o + 1)) (B : BS n bt nd (o + 1) T (k + 1) 0 0 f nm kd pt h g) (F : FC g (k + 1) f0 kd.length (I3 (x + 2)) st (-1)) (ko : k < o) (hT : T ≤ 8 * k) (m3 : m ≤ 4000) (e : g.1 124 k = I3 m) : BO n bt o T k m f nm kd h g (F_200_34 rec (I3 x) (I3 f0) (I3 T) 0 h) := by
  rcases hx with rfl | rfl | rfl | rfl | rfl | rfl | rfl
  · exact fixedX (N := 3) X B F ko hT m3 e (by decide) (by decide) rfl (by decide) (fun _ => rfl) (fun h1 g1 pt' K S nf wh st ok fr _ => by rw [CP_ex (by decide) 0 (-1)]; exact do_0 K S nf wh st ok fr)
  · exact fixedX (N := 2) X B F ko hT m3 e (by decide) (by decide) rfl (by decide) (fun _ => rfl) (fun h1 g1 pt' K S nf wh st ok fr _ => by rw [CP_ex (by decide) 0 (-1)]; exact do_2 K S nf wh st ok fr)
  · exact fixedX (N := 1) X B F ko hT m3 e (by decide) (by decide) rfl (by decide) (fun _ => rfl) (fun h1 g1 pt' K S nf wh st ok fr _ => by rw [CP_ex (by decide) 0 (-1)]; exact do_9 K S nf wh st ok fr)
  · exact fixedX (N := 2) X B F ko hT m3 e (by decide) (by decide) rfl (by decide) (fun _ => rfl) (fun h1 g1 pt' K S nf wh st ok fr _ => by rw [CP_ex (by decide) 0 (-1)]; exact do_10 K S nf wh st ok fr)
  · exact fixedX (N := 3) X B F ko hT m3 e (by decide) (by decide) rfl (by decide) (fun _ => rfl) (fun h1 g1 pt' K S nf wh st ok fr _ => by rw [CP_ex (by decide) 0 (-1)]; exact do_11 K S nf wh st ok fr)
  · exact fixedX (N := 2) X B F ko hT m3 e (by decide) (by decide) rfl (by decide) (fun _ => rfl) (fun h1 g1 pt' K S nf wh st ok fr _ => by rw [CP_ex (by decide) 0 (-1)]; exact do_13 K S nf wh st ok fr)
  · exact fixedX (N := 1) X B F ko hT m3 e (by decide) (by decide) rfl (by decide) (fun _ => rfl) (fun h1 g1 pt' K S nf wh st ok fr _ => by rw [CP_ex (by decide) 0 (-1)]; exact do_15 K S nf wh st ok fr)
theorem opK {x i : Nat} {st : Int32} (hx : x = 5 ∨ x = 6 ∨ x = 7 ∨ x = 8 ∨ x = 12 ∨ x = 14) (X : EX n bt nd rec (o + 1)) (B : BS n bt nd (o + 1) T (k + 1) 0 0 f nm kd pt h g) (F : FC g (k + 1) f0 kd.length (I3 (x + 2)) st (I3 i)) (ko : k < o) (hT : T ≤ 8 * k) (m3 : m ≤ 4000) (e : g.1 124 k = I3 m) (hi : i < 20 + nC g) : BO n bt o T k m f nm kd h g (F_200_34 rec (I3 x) (I3 f0) (I3 T) (I3 i) h) := by
  have h5 : ¬ I3 i = (-1 : Int32) := I3_m1 (by have := B.t.K.1.2.1; omega)
  rcases hx with rfl | rfl | rfl | rfl | rfl | rfl
  · exact fixedX (N := 1) X B F ko hT m3 e (by decide) h5 rfl (by decide) (fun _ => rfl) (fun h1 g1 pt' K S nf wh st ok fr nc => do_5 K S nf wh st ok (by omega) fr)
  · exact fixedX (N := 1) X B F ko hT m3 e (by decide) h5 rfl (by decide) (fun _ => rfl) (fun h1 g1 pt' K S nf wh st ok fr nc => do_6 K S nf wh st ok (by omega) fr)
  · exact fixedX (N := 0) X B F ko hT m3 e (by decide) h5 rfl (by decide) (fun _ => rfl) (fun h1 g1 pt' K S nf wh st ok fr nc => do_7 K S nf wh st (by omega) fr)
  · exact fixedX (N := 1) X B F ko hT m3 e (by decide) h5 rfl (by decide) (fun _ => rfl) (fun h1 g1 pt' K S nf wh st ok fr nc => do_8 K S nf wh st ok (by omega) fr)
  · exact fixedX (N := 1) X B F ko hT m3 e (by decide) h5 rfl (by decide) (fun _ => rfl) (fun h1 g1 pt' K S nf wh st ok fr nc => do_12 K S nf wh st ok (by omega) fr)
  · exact fixedX (N := 1) X B F ko hT m3 e (by decide) h5 rfl (by decide) (fun _ => rfl) (fun h1 g1 pt' K S nf wh st ok fr nc => do_14 K S nf wh st ok (by omega) fr)
theorem opS {s : Nat} {st : Int32} (hs : s ≤ 12) (X : EX n bt nd rec (o + 1)) (B : BS n bt nd (o + 1) T (k + 1) 0 0 f nm kd pt h g) (F : FC g (k + 1) f0 kd.length 1 st (I3 s)) (ko : k < o) (hT : T ≤ 8 * k) (m3 : m ≤ 4000) (e : g.1 124 k = I3 m) : BO n bt o T k m f nm kd h g (F_200_34 rec 16 (I3 f0) (I3 T) (I3 s) h) :=
  fixedX (N := 2) (x := 16) (srt := 1) X B F ko hT m3 e (by decide) (I3_m1 (by omega)) rfl (by decide) (fun _ => rfl) (fun h1 g1 pt' K S nf wh st ok fr nc => do_16 K S nf wh st ok hs fr)
end
