def kw (x : Int64) : Nat := fst1 (fun i => decide (P_KW.getD i 0 = x)) 16
theorem kw_inj : ∀ i j : Fin 16, P_KW.getD i 0 = P_KW.getD j 0 → i = j := by decide +kernel
theorem kw_spec (x : Int64) : kw x ≤ 16 ∧ (kw x < 16 → P_KW.getD (kw x) 0 = x) ∧ ∀ j, j < 16 → P_KW.getD j 0 = x → j = kw x := fsp (fun i => P_KW.getD i 0) 16 (fun i j hi hj e => congrArg Fin.val (kw_inj ⟨i, hi⟩ ⟨j, hj⟩ e)) x
section
variable {h g : sm_H}
theorem C_197 (x : Int64) (h : sm_H) : F_197 x h = some (if kw x < 16 then I3 (kw x) else -1, h) := by
  have ks := kw_spec x
  have LP : ∀ r i fu, i + r = 16 → r < fu → i ≤ kw x → lp F_197_2B fu (x, I3 i, h) = some (if kw x < 16 then I3 (kw x) else -1, h) := by
    intro r
    induction r with
    | zero =>
      intro i fu hi hf hw
      have e : i = 16 := by omega
      subst e
      rw [if_neg (by omega)]
      refine lp_e (by omega) ?_
      unfold F_197_2B
      simp only []
      rw [show sm_al G0 h 2000000 = some 16 from rfl]; simp only [obs]
      rw [if_pos (by decide)]
    | succ r ih =>
      intro i fu hi hf hw
      have ld : sm_ldJ G0 h 2000000 (I3 i) = some (P_KW.getD i 0) := by
        rcases (show i = 0 ∨ i = 1 ∨ i = 2 ∨ i = 3 ∨ i = 4 ∨ i = 5 ∨ i = 6 ∨ i = 7 ∨ i = 8 ∨ i = 9 ∨ i = 10 ∨ i = 11 ∨ i = 12 ∨ i = 13 ∨ i = 14 ∨ i = 15 by omega) with rfl | rfl | rfl | rfl | rfl | rfl | rfl | rfl | rfl | rfl | rfl | rfl | rfl | rfl | rfl | rfl <;> rfl
      have B : F_197_2B (x, I3 i, h) = if P_KW.getD i 0 = x then some (.inr (I3 i, h)) else some (.inl (x, I3 (i + 1), h)) := by
        unfold F_197_2B
        simp only []
        rw [show sm_al G0 h 2000000 = some 16 from rfl]; simp only [obs]
        rw [if_neg (by rw [I3_lit, I3_le (by decide) (by omega)]; omega), ld]; simp only [obs]
        rw [show I3 i + 1 = I3 (i + 1) from I3_add i 1]
        by_cases q : P_KW.getD i 0 = x
        · rw [if_pos (cmp_eq.mpr q), if_pos q]
        · rw [if_neg (fun z => q (cmp_eq.mp z)), if_neg q]
      by_cases q : P_KW.getD i 0 = x
      · rw [if_pos q] at B
        have e := ks.2.2 i (by omega) q
        rw [lp_e (by omega) B, if_pos (by omega), e]
      · rw [if_neg q] at B
        have hw' : i + 1 ≤ kw x := by
          rcases Nat.lt_or_ge i (kw x) with y | y
          · exact y
          · have e : kw x = i := by omega
            exact absurd (by have := ks.2.1 (by omega); rw [e] at this; exact this) q
        rw [lp_s (by omega) B]
        exact ih (i + 1) (fu - 1) (by omega) (by omega) hw'
  exact LP 16 0 1000000 (by omega) (by omega) (Nat.zero_le _)
theorem R_441n {m : Nat} (hm : m < 2 ^ 63) (no : m ≠ 43 ∧ m ≠ 45 ∧ m ≠ 42 ∧ m ≠ 47 ∧ m ≠ 37 ∧ m ≠ 38 ∧ m ≠ 124 ∧ m ≠ 94 ∧ m ≠ 60 ∧ m ≠ 61) : F_441 (I6 m) g = some (-1, g) := by
  obtain ⟨n0, n1, n2, n3, n4, n5, n6, n7, n8, n9⟩ := no
  show F_441_0 (I6 m) g = _
  unfold F_441_0 F_441_109
  rw [if_neg (show ¬ lg_cmp (I6 m) 43 = 0 from ceq hm (x := 43) (by decide) n0), if_neg (show ¬ lg_cmp (I6 m) 45 = 0 from ceq hm (x := 45) (by decide) n1), if_neg (show ¬ lg_cmp (I6 m) 42 = 0 from ceq hm (x := 42) (by decide) n2), if_neg (show ¬ lg_cmp (I6 m) 47 = 0 from ceq hm (x := 47) (by decide) n3), if_neg (show ¬ lg_cmp (I6 m) 37 = 0 from ceq hm (x := 37) (by decide) n4), if_neg (show ¬ lg_cmp (I6 m) 38 = 0 from ceq hm (x := 38) (by decide) n5), if_neg (show ¬ lg_cmp (I6 m) 124 = 0 from ceq hm (x := 124) (by decide) n6), if_neg (show ¬ lg_cmp (I6 m) 94 = 0 from ceq hm (x := 94) (by decide) n7), if_neg (show ¬ lg_cmp (I6 m) 60 = 0 from ceq hm (x := 60) (by decide) n8), if_neg (show ¬ lg_cmp (I6 m) 61 = 0 from ceq hm (x := 61) (by decide) n9)]
theorem R_440_0 : F_440 26982 g = some (2, g) := by
  show F_440_0 26982 g = _
  unfold F_440_0 F_440_318
  rw [show F_441 26982 g = some (-1, g) from rfl]; simp only [obs]
  rw [if_pos trivial]
  rw [show F_439 105 102 0 0 0 g = some (26982, g) from rfl]; simp only [obs]
  rw [if_pos (by decide)]
theorem R_440_1 : F_440 7103860 g = some (3, g) := by
  show F_440_0 7103860 g = _
  unfold F_440_0 F_440_318
  rw [show F_441 7103860 g = some (-1, g) from rfl]; simp only [obs]
  rw [if_pos trivial]
  rw [show F_439 105 102 0 0 0 g = some (26982, g) from rfl]; simp only [obs]
  rw [if_neg (by decide)]
  rw [show F_439 108 101 116 0 0 g = some (7103860, g) from rfl]; simp only [obs]
  rw [if_pos (by decide)]
theorem R_440_2 : F_440 25711 g = some (4, g) := by
  show F_440_0 25711 g = _
  unfold F_440_0 F_440_318
  rw [show F_441 25711 g = some (-1, g) from rfl]; simp only [obs]
  rw [if_pos trivial]
  rw [show F_439 105 102 0 0 0 g = some (26982, g) from rfl]; simp only [obs]
  rw [if_neg (by decide)]
  rw [show F_439 108 101 116 0 0 g = some (7103860, g) from rfl]; simp only [obs]
  rw [if_neg (by decide)]
  rw [show F_439 100 111 0 0 0 g = some (25711, g) from rfl]; simp only [obs]
  rw [if_pos (by decide)]
theorem R_440_3 : F_440 1819242352 g = some (5, g) := by
  show F_440_0 1819242352 g = _
  unfold F_440_0 F_440_318
  rw [show F_441 1819242352 g = some (-1, g) from rfl]; simp only [obs]
  rw [if_pos trivial]
  rw [show F_439 105 102 0 0 0 g = some (26982, g) from rfl]; simp only [obs]
  rw [if_neg (by decide)]
  rw [show F_439 108 101 116 0 0 g = some (7103860, g) from rfl]; simp only [obs]
  rw [if_neg (by decide)]
  rw [show F_439 100 111 0 0 0 g = some (25711, g) from rfl]; simp only [obs]
  rw [if_neg (by decide)]
  rw [show F_439 108 111 111 112 0 g = some (1819242352, g) from rfl]; simp only [obs]
  rw [if_pos (by decide)]
theorem R_440_4 : F_440 7631481 g = some (6, g) := by
  show F_440_0 7631481 g = _
  unfold F_440_0 F_440_318
  rw [show F_441 7631481 g = some (-1, g) from rfl]; simp only [obs]
  rw [if_pos trivial]
  rw [show F_439 105 102 0 0 0 g = some (26982, g) from rfl]; simp only [obs]
  rw [if_neg (by decide)]
  rw [show F_439 108 101 116 0 0 g = some (7103860, g) from rfl]; simp only [obs]
  rw [if_neg (by decide)]
  rw [show F_439 100 111 0 0 0 g = some (25711, g) from rfl]; simp only [obs]
  rw [if_neg (by decide)]
  rw [show F_439 108 111 111 112 0 g = some (1819242352, g) from rfl]; simp only [obs]
  rw [if_neg (by decide)]
  rw [show F_439 116 114 121 0 0 g = some (7631481, g) from rfl]; simp only [obs]
  rw [if_pos (by decide)]
theorem R_440_5 : F_440 24947 g = some (7, g) := by
  show F_440_0 24947 g = _
  unfold F_440_0 F_440_318
  rw [show F_441 24947 g = some (-1, g) from rfl]; simp only [obs]
  rw [if_pos trivial]
  rw [show F_439 105 102 0 0 0 g = some (26982, g) from rfl]; simp only [obs]
  rw [if_neg (by decide)]
  rw [show F_439 108 101 116 0 0 g = some (7103860, g) from rfl]; simp only [obs]
  rw [if_neg (by decide)]
  rw [show F_439 100 111 0 0 0 g = some (25711, g) from rfl]; simp only [obs]
  rw [if_neg (by decide)]
  rw [show F_439 108 111 111 112 0 g = some (1819242352, g) from rfl]; simp only [obs]
  rw [if_neg (by decide)]
  rw [show F_439 116 114 121 0 0 g = some (7631481, g) from rfl]; simp only [obs]
  rw [if_neg (by decide)]
  rw [show F_439 97 115 0 0 0 g = some (24947, g) from rfl]; simp only [obs]
  rw [if_pos (by decide)]
theorem R_440_6 : F_440 439956431717 g = some (8, g) := by
  show F_440_0 439956431717 g = _
  unfold F_440_0 F_440_318
  rw [show F_441 439956431717 g = some (-1, g) from rfl]; simp only [obs]
  rw [if_pos trivial]
  rw [show F_439 105 102 0 0 0 g = some (26982, g) from rfl]; simp only [obs]
  rw [if_neg (by decide)]
  rw [show F_439 108 101 116 0 0 g = some (7103860, g) from rfl]; simp only [obs]
  rw [if_neg (by decide)]
  rw [show F_439 100 111 0 0 0 g = some (25711, g) from rfl]; simp only [obs]
  rw [if_neg (by decide)]
  rw [show F_439 108 111 111 112 0 g = some (1819242352, g) from rfl]; simp only [obs]
  rw [if_neg (by decide)]
  rw [show F_439 116 114 121 0 0 g = some (7631481, g) from rfl]; simp only [obs]
  rw [if_neg (by decide)]
  rw [show F_439 97 115 0 0 0 g = some (24947, g) from rfl]; simp only [obs]
  rw [if_neg (by decide)]
  rw [show F_439 102 111 114 99 101 g = some (439956431717, g) from rfl]; simp only [obs]
  rw [if_pos (by decide)]
theorem R_440_7 : F_440 1853189228 g = some (9, g) := by
  show F_440_0 1853189228 g = _
  unfold F_440_0 F_440_318
  rw [show F_441 1853189228 g = some (-1, g) from rfl]; simp only [obs]
  rw [if_pos trivial]
  rw [show F_439 105 102 0 0 0 g = some (26982, g) from rfl]; simp only [obs]
  rw [if_neg (by decide)]
  rw [show F_439 108 101 116 0 0 g = some (7103860, g) from rfl]; simp only [obs]
  rw [if_neg (by decide)]
  rw [show F_439 100 111 0 0 0 g = some (25711, g) from rfl]; simp only [obs]
  rw [if_neg (by decide)]
  rw [show F_439 108 111 111 112 0 g = some (1819242352, g) from rfl]; simp only [obs]
  rw [if_neg (by decide)]
  rw [show F_439 116 114 121 0 0 g = some (7631481, g) from rfl]; simp only [obs]
  rw [if_neg (by decide)]
  rw [show F_439 97 115 0 0 0 g = some (24947, g) from rfl]; simp only [obs]
  rw [if_neg (by decide)]
  rw [show F_439 102 111 114 99 101 g = some (439956431717, g) from rfl]; simp only [obs]
  rw [if_neg (by decide)]
  rw [show F_439 110 117 108 108 0 g = some (1853189228, g) from rfl]; simp only [obs]
  rw [if_pos (by decide)]
theorem R_440_8 : F_440 7499639 g = some (10, g) := by
  show F_440_0 7499639 g = _
  unfold F_440_0 F_440_318
  rw [show F_441 7499639 g = some (-1, g) from rfl]; simp only [obs]
  rw [if_pos trivial]
  rw [show F_439 105 102 0 0 0 g = some (26982, g) from rfl]; simp only [obs]
  rw [if_neg (by decide)]
  rw [show F_439 108 101 116 0 0 g = some (7103860, g) from rfl]; simp only [obs]
  rw [if_neg (by decide)]
  rw [show F_439 100 111 0 0 0 g = some (25711, g) from rfl]; simp only [obs]
  rw [if_neg (by decide)]
  rw [show F_439 108 111 111 112 0 g = some (1819242352, g) from rfl]; simp only [obs]
  rw [if_neg (by decide)]
  rw [show F_439 116 114 121 0 0 g = some (7631481, g) from rfl]; simp only [obs]
  rw [if_neg (by decide)]
  rw [show F_439 97 115 0 0 0 g = some (24947, g) from rfl]; simp only [obs]
  rw [if_neg (by decide)]
  rw [show F_439 102 111 114 99 101 g = some (439956431717, g) from rfl]; simp only [obs]
  rw [if_neg (by decide)]
  rw [show F_439 110 117 108 108 0 g = some (1853189228, g) from rfl]; simp only [obs]
  rw [if_neg (by decide)]
  rw [show F_439 114 111 119 0 0 g = some (7499639, g) from rfl]; simp only [obs]
  rw [if_pos (by decide)]
theorem R_440_9 : F_440 1936292453 g = some (11, g) := by
  show F_440_0 1936292453 g = _
  unfold F_440_0 F_440_318
  rw [show F_441 1936292453 g = some (-1, g) from rfl]; simp only [obs]
  rw [if_pos trivial]
  rw [show F_439 105 102 0 0 0 g = some (26982, g) from rfl]; simp only [obs]
  rw [if_neg (by decide)]
  rw [show F_439 108 101 116 0 0 g = some (7103860, g) from rfl]; simp only [obs]
  rw [if_neg (by decide)]
  rw [show F_439 100 111 0 0 0 g = some (25711, g) from rfl]; simp only [obs]
  rw [if_neg (by decide)]
  rw [show F_439 108 111 111 112 0 g = some (1819242352, g) from rfl]; simp only [obs]
  rw [if_neg (by decide)]
  rw [show F_439 116 114 121 0 0 g = some (7631481, g) from rfl]; simp only [obs]
  rw [if_neg (by decide)]
  rw [show F_439 97 115 0 0 0 g = some (24947, g) from rfl]; simp only [obs]
  rw [if_neg (by decide)]
  rw [show F_439 102 111 114 99 101 g = some (439956431717, g) from rfl]; simp only [obs]
  rw [if_neg (by decide)]
  rw [show F_439 110 117 108 108 0 g = some (1853189228, g) from rfl]; simp only [obs]
  rw [if_neg (by decide)]
  rw [show F_439 114 111 119 0 0 g = some (7499639, g) from rfl]; simp only [obs]
  rw [if_neg (by decide)]
  rw [show F_439 115 105 122 101 0 g = some (1936292453, g) from rfl]; simp only [obs]
  rw [if_pos (by decide)]
theorem R_440_10 : F_440 6776180 g = some (12, g) := by
  show F_440_0 6776180 g = _
  unfold F_440_0 F_440_318
  rw [show F_441 6776180 g = some (-1, g) from rfl]; simp only [obs]
  rw [if_pos trivial]
  rw [show F_439 105 102 0 0 0 g = some (26982, g) from rfl]; simp only [obs]
  rw [if_neg (by decide)]
  rw [show F_439 108 101 116 0 0 g = some (7103860, g) from rfl]; simp only [obs]
  rw [if_neg (by decide)]
  rw [show F_439 100 111 0 0 0 g = some (25711, g) from rfl]; simp only [obs]
  rw [if_neg (by decide)]
  rw [show F_439 108 111 111 112 0 g = some (1819242352, g) from rfl]; simp only [obs]
  rw [if_neg (by decide)]
  rw [show F_439 116 114 121 0 0 g = some (7631481, g) from rfl]; simp only [obs]
  rw [if_neg (by decide)]
  rw [show F_439 97 115 0 0 0 g = some (24947, g) from rfl]; simp only [obs]
  rw [if_neg (by decide)]
  rw [show F_439 102 111 114 99 101 g = some (439956431717, g) from rfl]; simp only [obs]
  rw [if_neg (by decide)]
  rw [show F_439 110 117 108 108 0 g = some (1853189228, g) from rfl]; simp only [obs]
  rw [if_neg (by decide)]
  rw [show F_439 114 111 119 0 0 g = some (7499639, g) from rfl]; simp only [obs]
  rw [if_neg (by decide)]
  rw [show F_439 115 105 122 101 0 g = some (1936292453, g) from rfl]; simp only [obs]
  rw [if_neg (by decide)]
  rw [show F_439 103 101 116 0 0 g = some (6776180, g) from rfl]; simp only [obs]
  rw [if_pos (by decide)]
theorem R_440_11 : F_440 7562612 g = some (13, g) := by
  show F_440_0 7562612 g = _
  unfold F_440_0 F_440_318
  rw [show F_441 7562612 g = some (-1, g) from rfl]; simp only [obs]
  rw [if_pos trivial]
  rw [show F_439 105 102 0 0 0 g = some (26982, g) from rfl]; simp only [obs]
  rw [if_neg (by decide)]
  rw [show F_439 108 101 116 0 0 g = some (7103860, g) from rfl]; simp only [obs]
  rw [if_neg (by decide)]
  rw [show F_439 100 111 0 0 0 g = some (25711, g) from rfl]; simp only [obs]
  rw [if_neg (by decide)]
  rw [show F_439 108 111 111 112 0 g = some (1819242352, g) from rfl]; simp only [obs]
  rw [if_neg (by decide)]
  rw [show F_439 116 114 121 0 0 g = some (7631481, g) from rfl]; simp only [obs]
  rw [if_neg (by decide)]
  rw [show F_439 97 115 0 0 0 g = some (24947, g) from rfl]; simp only [obs]
  rw [if_neg (by decide)]
  rw [show F_439 102 111 114 99 101 g = some (439956431717, g) from rfl]; simp only [obs]
  rw [if_neg (by decide)]
  rw [show F_439 110 117 108 108 0 g = some (1853189228, g) from rfl]; simp only [obs]
  rw [if_neg (by decide)]
  rw [show F_439 114 111 119 0 0 g = some (7499639, g) from rfl]; simp only [obs]
  rw [if_neg (by decide)]
  rw [show F_439 115 105 122 101 0 g = some (1936292453, g) from rfl]; simp only [obs]
  rw [if_neg (by decide)]
  rw [show F_439 103 101 116 0 0 g = some (6776180, g) from rfl]; simp only [obs]
  rw [if_neg (by decide)]
  rw [show F_439 115 101 116 0 0 g = some (7562612, g) from rfl]; simp only [obs]
  rw [if_pos (by decide)]
theorem R_440_12 : F_440 26995 g = some (14, g) := by
  show F_440_0 26995 g = _
  unfold F_440_0 F_440_318
  rw [show F_441 26995 g = some (-1, g) from rfl]; simp only [obs]
  rw [if_pos trivial]
  rw [show F_439 105 102 0 0 0 g = some (26982, g) from rfl]; simp only [obs]
  rw [if_neg (by decide)]
  rw [show F_439 108 101 116 0 0 g = some (7103860, g) from rfl]; simp only [obs]
  rw [if_neg (by decide)]
  rw [show F_439 100 111 0 0 0 g = some (25711, g) from rfl]; simp only [obs]
  rw [if_neg (by decide)]
  rw [show F_439 108 111 111 112 0 g = some (1819242352, g) from rfl]; simp only [obs]
  rw [if_neg (by decide)]
  rw [show F_439 116 114 121 0 0 g = some (7631481, g) from rfl]; simp only [obs]
  rw [if_neg (by decide)]
  rw [show F_439 97 115 0 0 0 g = some (24947, g) from rfl]; simp only [obs]
  rw [if_neg (by decide)]
  rw [show F_439 102 111 114 99 101 g = some (439956431717, g) from rfl]; simp only [obs]
  rw [if_neg (by decide)]
  rw [show F_439 110 117 108 108 0 g = some (1853189228, g) from rfl]; simp only [obs]
  rw [if_neg (by decide)]
  rw [show F_439 114 111 119 0 0 g = some (7499639, g) from rfl]; simp only [obs]
  rw [if_neg (by decide)]
  rw [show F_439 115 105 122 101 0 g = some (1936292453, g) from rfl]; simp only [obs]
  rw [if_neg (by decide)]
  rw [show F_439 103 101 116 0 0 g = some (6776180, g) from rfl]; simp only [obs]
  rw [if_neg (by decide)]
  rw [show F_439 115 101 116 0 0 g = some (7562612, g) from rfl]; simp only [obs]
  rw [if_neg (by decide)]
  rw [show F_439 105 115 0 0 0 g = some (26995, g) from rfl]; simp only [obs]
  rw [if_pos (by decide)]
theorem R_440_13 : F_440 1935764837 g = some (15, g) := by
  show F_440_0 1935764837 g = _
  unfold F_440_0 F_440_318
  rw [show F_441 1935764837 g = some (-1, g) from rfl]; simp only [obs]
  rw [if_pos trivial]
  rw [show F_439 105 102 0 0 0 g = some (26982, g) from rfl]; simp only [obs]
  rw [if_neg (by decide)]
  rw [show F_439 108 101 116 0 0 g = some (7103860, g) from rfl]; simp only [obs]
  rw [if_neg (by decide)]
  rw [show F_439 100 111 0 0 0 g = some (25711, g) from rfl]; simp only [obs]
  rw [if_neg (by decide)]
  rw [show F_439 108 111 111 112 0 g = some (1819242352, g) from rfl]; simp only [obs]
  rw [if_neg (by decide)]
  rw [show F_439 116 114 121 0 0 g = some (7631481, g) from rfl]; simp only [obs]
  rw [if_neg (by decide)]
  rw [show F_439 97 115 0 0 0 g = some (24947, g) from rfl]; simp only [obs]
  rw [if_neg (by decide)]
  rw [show F_439 102 111 114 99 101 g = some (439956431717, g) from rfl]; simp only [obs]
  rw [if_neg (by decide)]
  rw [show F_439 110 117 108 108 0 g = some (1853189228, g) from rfl]; simp only [obs]
  rw [if_neg (by decide)]
  rw [show F_439 114 111 119 0 0 g = some (7499639, g) from rfl]; simp only [obs]
  rw [if_neg (by decide)]
  rw [show F_439 115 105 122 101 0 g = some (1936292453, g) from rfl]; simp only [obs]
  rw [if_neg (by decide)]
  rw [show F_439 103 101 116 0 0 g = some (6776180, g) from rfl]; simp only [obs]
  rw [if_neg (by decide)]
  rw [show F_439 115 101 116 0 0 g = some (7562612, g) from rfl]; simp only [obs]
  rw [if_neg (by decide)]
  rw [show F_439 105 115 0 0 0 g = some (26995, g) from rfl]; simp only [obs]
  rw [if_neg (by decide)]
  rw [show F_439 115 97 109 101 0 g = some (1935764837, g) from rfl]; simp only [obs]
  rw [if_pos (by decide)]
theorem R_440_14 : F_440 499968536439 g = some (16, g) := by
  show F_440_0 499968536439 g = _
  unfold F_440_0 F_440_318
  rw [show F_441 499968536439 g = some (-1, g) from rfl]; simp only [obs]
  rw [if_pos trivial]
  rw [show F_439 105 102 0 0 0 g = some (26982, g) from rfl]; simp only [obs]
  rw [if_neg (by decide)]
  rw [show F_439 108 101 116 0 0 g = some (7103860, g) from rfl]; simp only [obs]
  rw [if_neg (by decide)]
  rw [show F_439 100 111 0 0 0 g = some (25711, g) from rfl]; simp only [obs]
  rw [if_neg (by decide)]
  rw [show F_439 108 111 111 112 0 g = some (1819242352, g) from rfl]; simp only [obs]
  rw [if_neg (by decide)]
  rw [show F_439 116 114 121 0 0 g = some (7631481, g) from rfl]; simp only [obs]
  rw [if_neg (by decide)]
  rw [show F_439 97 115 0 0 0 g = some (24947, g) from rfl]; simp only [obs]
  rw [if_neg (by decide)]
  rw [show F_439 102 111 114 99 101 g = some (439956431717, g) from rfl]; simp only [obs]
  rw [if_neg (by decide)]
  rw [show F_439 110 117 108 108 0 g = some (1853189228, g) from rfl]; simp only [obs]
  rw [if_neg (by decide)]
  rw [show F_439 114 111 119 0 0 g = some (7499639, g) from rfl]; simp only [obs]
  rw [if_neg (by decide)]
  rw [show F_439 115 105 122 101 0 g = some (1936292453, g) from rfl]; simp only [obs]
  rw [if_neg (by decide)]
  rw [show F_439 103 101 116 0 0 g = some (6776180, g) from rfl]; simp only [obs]
  rw [if_neg (by decide)]
  rw [show F_439 115 101 116 0 0 g = some (7562612, g) from rfl]; simp only [obs]
  rw [if_neg (by decide)]
  rw [show F_439 105 115 0 0 0 g = some (26995, g) from rfl]; simp only [obs]
  rw [if_neg (by decide)]
  rw [show F_439 115 97 109 101 0 g = some (1935764837, g) from rfl]; simp only [obs]
  rw [if_neg (by decide)]
  rw [show F_439 116 104 114 111 119 g = some (499968536439, g) from rfl]; simp only [obs]
  rw [if_pos (by decide)]
theorem R_440_15 : F_440 1668244581 g = some (17, g) := by
  show F_440_0 1668244581 g = _
  unfold F_440_0 F_440_318
  rw [show F_441 1668244581 g = some (-1, g) from rfl]; simp only [obs]
  rw [if_pos trivial]
  rw [show F_439 105 102 0 0 0 g = some (26982, g) from rfl]; simp only [obs]
  rw [if_neg (by decide)]
  rw [show F_439 108 101 116 0 0 g = some (7103860, g) from rfl]; simp only [obs]
  rw [if_neg (by decide)]
  rw [show F_439 100 111 0 0 0 g = some (25711, g) from rfl]; simp only [obs]
  rw [if_neg (by decide)]
  rw [show F_439 108 111 111 112 0 g = some (1819242352, g) from rfl]; simp only [obs]
  rw [if_neg (by decide)]
  rw [show F_439 116 114 121 0 0 g = some (7631481, g) from rfl]; simp only [obs]
  rw [if_neg (by decide)]
  rw [show F_439 97 115 0 0 0 g = some (24947, g) from rfl]; simp only [obs]
  rw [if_neg (by decide)]
  rw [show F_439 102 111 114 99 101 g = some (439956431717, g) from rfl]; simp only [obs]
  rw [if_neg (by decide)]
  rw [show F_439 110 117 108 108 0 g = some (1853189228, g) from rfl]; simp only [obs]
  rw [if_neg (by decide)]
  rw [show F_439 114 111 119 0 0 g = some (7499639, g) from rfl]; simp only [obs]
  rw [if_neg (by decide)]
  rw [show F_439 115 105 122 101 0 g = some (1936292453, g) from rfl]; simp only [obs]
  rw [if_neg (by decide)]
  rw [show F_439 103 101 116 0 0 g = some (6776180, g) from rfl]; simp only [obs]
  rw [if_neg (by decide)]
  rw [show F_439 115 101 116 0 0 g = some (7562612, g) from rfl]; simp only [obs]
  rw [if_neg (by decide)]
  rw [show F_439 105 115 0 0 0 g = some (26995, g) from rfl]; simp only [obs]
  rw [if_neg (by decide)]
  rw [show F_439 115 97 109 101 0 g = some (1935764837, g) from rfl]; simp only [obs]
  rw [if_neg (by decide)]
  rw [show F_439 116 104 114 111 119 g = some (499968536439, g) from rfl]; simp only [obs]
  rw [if_neg (by decide)]
  rw [show F_439 99 111 100 101 0 g = some (1668244581, g) from rfl]; simp only [obs]
  rw [if_pos (by decide)]
theorem R_440a {i : Nat} (hi : i < 16) : F_440 (P_KW.getD i 0) g = some (I3 (i + 2), g) := by
  rcases (show i = 0 ∨ i = 1 ∨ i = 2 ∨ i = 3 ∨ i = 4 ∨ i = 5 ∨ i = 6 ∨ i = 7 ∨ i = 8 ∨ i = 9 ∨ i = 10 ∨ i = 11 ∨ i = 12 ∨ i = 13 ∨ i = 14 ∨ i = 15 by omega) with rfl | rfl | rfl | rfl | rfl | rfl | rfl | rfl | rfl | rfl | rfl | rfl | rfl | rfl | rfl | rfl
  · exact R_440_0
  · exact R_440_1
  · exact R_440_2
  · exact R_440_3
  · exact R_440_4
  · exact R_440_5
  · exact R_440_6
  · exact R_440_7
  · exact R_440_8
  · exact R_440_9
  · exact R_440_10
  · exact R_440_11
  · exact R_440_12
  · exact R_440_13
  · exact R_440_14
  · exact R_440_15
theorem R_440n {m : Nat} (hm : m < 2 ^ 63) (no : m ≠ 43 ∧ m ≠ 45 ∧ m ≠ 42 ∧ m ≠ 47 ∧ m ≠ 37 ∧ m ≠ 38 ∧ m ≠ 124 ∧ m ≠ 94 ∧ m ≠ 60 ∧ m ≠ 61) (nk : ∀ i, i < 16 → P_KW.getD i 0 ≠ I6 m) : F_440 (I6 m) g = some (-1, g) := by
  have c : ∀ i (x : Int64), i < 16 → P_KW.getD i 0 = x → ¬ lg_cmp (I6 m) x = 0 := fun i x hi e z => nk i hi (e.trans (cmp_eq.mp z).symm)
  show F_440_0 (I6 m) g = _
  unfold F_440_0 F_440_318
  rw [R_441n hm no]; simp only [obs]
  rw [if_pos trivial]
  rw [show F_439 105 102 0 0 0 g = some (26982, g) from rfl]; simp only [obs]
  rw [if_neg (c 0 26982 (by decide) rfl), show F_439 108 101 116 0 0 g = some (7103860, g) from rfl]; simp only [obs]
  rw [if_neg (c 1 7103860 (by decide) rfl), show F_439 100 111 0 0 0 g = some (25711, g) from rfl]; simp only [obs]
  rw [if_neg (c 2 25711 (by decide) rfl), show F_439 108 111 111 112 0 g = some (1819242352, g) from rfl]; simp only [obs]
  rw [if_neg (c 3 1819242352 (by decide) rfl), show F_439 116 114 121 0 0 g = some (7631481, g) from rfl]; simp only [obs]
  rw [if_neg (c 4 7631481 (by decide) rfl), show F_439 97 115 0 0 0 g = some (24947, g) from rfl]; simp only [obs]
  rw [if_neg (c 5 24947 (by decide) rfl), show F_439 102 111 114 99 101 g = some (439956431717, g) from rfl]; simp only [obs]
  rw [if_neg (c 6 439956431717 (by decide) rfl), show F_439 110 117 108 108 0 g = some (1853189228, g) from rfl]; simp only [obs]
  rw [if_neg (c 7 1853189228 (by decide) rfl), show F_439 114 111 119 0 0 g = some (7499639, g) from rfl]; simp only [obs]
  rw [if_neg (c 8 7499639 (by decide) rfl), show F_439 115 105 122 101 0 g = some (1936292453, g) from rfl]; simp only [obs]
  rw [if_neg (c 9 1936292453 (by decide) rfl), show F_439 103 101 116 0 0 g = some (6776180, g) from rfl]; simp only [obs]
  rw [if_neg (c 10 6776180 (by decide) rfl), show F_439 115 101 116 0 0 g = some (7562612, g) from rfl]; simp only [obs]
  rw [if_neg (c 11 7562612 (by decide) rfl), show F_439 105 115 0 0 0 g = some (26995, g) from rfl]; simp only [obs]
  rw [if_neg (c 12 26995 (by decide) rfl), show F_439 115 97 109 101 0 g = some (1935764837, g) from rfl]; simp only [obs]
  rw [if_neg (c 13 1935764837 (by decide) rfl), show F_439 116 104 114 111 119 g = some (499968536439, g) from rfl]; simp only [obs]
  rw [if_neg (c 14 499968536439 (by decide) rfl), show F_439 99 111 100 101 0 g = some (1668244581, g) from rfl]; simp only [obs]
  rw [if_neg (c 15 1668244581 (by decide) rfl)]
theorem R_440 {m : Nat} (hm : m < 2 ^ 63) (no : m ≠ 43 ∧ m ≠ 45 ∧ m ≠ 42 ∧ m ≠ 47 ∧ m ≠ 37 ∧ m ≠ 38 ∧ m ≠ 124 ∧ m ≠ 94 ∧ m ≠ 60 ∧ m ≠ 61) : F_440 (I6 m) g = some (if kw (I6 m) < 16 then I3 (kw (I6 m) + 2) else -1, g) := by
  have ks := kw_spec (I6 m)
  by_cases q : kw (I6 m) < 16
  · have := R_440a (g := g) q
    rw [ks.2.1 q] at this
    rw [this, if_pos q]
  · rw [if_neg q]
    exact R_440n hm no (fun i hi z => by have := ks.2.2 i hi z; omega)
theorem R_441s {b o : Nat} (s : sgn b = some o) : F_441 (Int32.toInt64 (I3 b)) g = some (I3 o, g) ∧ F_440 (Int32.toInt64 (I3 b)) g = some (1, g) := by
  unfold sgn at s
  repeat' split at s
  all_goals first
    | (cases s; subst_vars; exact ⟨rfl, rfl⟩)
    | cases s
end
def DF (nd : Nat) (h g : sm_H) : Prop := h.1 55 15 = I3 nd ∧ g.1 67 91 = I3 nd ∧ nd ≤ 60 ∧ ∀ d, d < nd → h.2.1 62 d = g.2.1 113 d ∧ h.1 63 d = g.1 114 d ∧ ∃ a, a < nH g ∧ g.1 114 d = I3 a ∧ (hpl g a).length ≤ 6 ∧ g.1 115 d = I3 (hpl g a).length ∧ ∀ i, i < (hpl g a).length → g.1 116 (6 * d + i) = at0 (hpl g a) i
def wd (nd : Nat) (x : Int64) (g : sm_H) : Nat := fst1 (fun d => decide (g.2.1 113 d = x)) nd
section
variable {nd : Nat} {h g : sm_H}
theorem C_166 (D : DF nd h g) (x : Int64) : F_166 x h = some (if wd nd x g < nd then I3 (wd nd x g) else -1, h) := by
  obtain ⟨s1, s2, s3, s4⟩ := D
  have L := lp_fst (body := F_166_2B) (fun d => decide (g.2.1 113 d = x)) nd (fun k => (x, I3 k, h)) (fun k => (I3 k, h)) (-1, h) (f := 1000000) (by omega) (fun i hi e => ?_) (fun i hi e => ?_) ?_
  · refine Eq.trans (show F_166 x h = lp F_166_2B 1000000 (x, I3 0, h) from rfl) (L.trans ?_)
    unfold wd
    split <;> rfl
  · show F_166_2B (x, I3 i, h) = _
    unfold F_166_2B
    simp only []
    rw [s1, if_neg (by rw [I3_le (by omega) (by omega)]; omega), ldJ_I (by omega) (by decide), (s4 i hi).1]; simp only [obs]
    rw [if_neg (fun z => (of_decide_eq_false e) (cmp_eq.mp z)), show I3 i + 1 = I3 (i + 1) from I3_add i 1]
  · show F_166_2B (x, I3 i, h) = _
    unfold F_166_2B
    simp only []
    rw [s1, if_neg (by rw [I3_le (by omega) (by omega)]; omega), ldJ_I (by omega) (by decide), (s4 i hi).1]; simp only [obs]
    rw [if_pos (cmp_eq.mpr (of_decide_eq_true e))]
  · show F_166_2B (x, I3 nd, h) = _
    unfold F_166_2B
    simp only []
    rw [s1, if_pos (by rw [I3_le (by omega) (by omega)]; omega)]
theorem R_443 (D : DF nd h g) (x : Int64) : F_443 x g = some (if wd nd x g < nd then I3 (wd nd x g) else -1, g) := by
  obtain ⟨s1, s2, s3, s4⟩ := D
  have L := lp_fst (body := F_443_2B) (fun d => decide (g.2.1 113 d = x)) nd (fun k => (x, I3 k, g)) (fun k => (I3 k, g)) (-1, g) (f := 1000000) (by omega) (fun i hi e => ?_) (fun i hi e => ?_) ?_
  · refine Eq.trans (show F_443 x g = lp F_443_2B 1000000 (x, I3 0, g) from rfl) (L.trans ?_)
    unfold wd
    split <;> rfl
  · show F_443_2B (x, I3 i, g) = _
    unfold F_443_2B
    simp only []
    rw [s2, if_neg (by rw [I3_le (by omega) (by omega)]; omega), ldJ_I (by omega) (by decide)]; simp only [obs]
    rw [if_neg (fun z => (of_decide_eq_false e) (cmp_eq.mp z)), show I3 i + 1 = I3 (i + 1) from I3_add i 1]
  · show F_443_2B (x, I3 i, g) = _
    unfold F_443_2B
    simp only []
    rw [s2, if_neg (by rw [I3_le (by omega) (by omega)]; omega), ldJ_I (by omega) (by decide)]; simp only [obs]
    rw [if_pos (cmp_eq.mpr (of_decide_eq_true e))]
  · show F_443_2B (x, I3 nd, g) = _
    unfold F_443_2B
    simp only []
    rw [s2, if_pos (by rw [I3_le (by omega) (by omega)]; omega)]
theorem DF_x {h1 g1 : sm_H} {P Q : Nat → Nat → Prop} (K : K1 h g) (D : DF nd h g) (e : ext g g1) (r : grow g g1) (a : agr P h h1) (b : agr Q g g1) (p : ∀ b j, P b j → ¬ (b = 55 ∧ j = 15 ∨ b = 62 ∨ b = 63)) (q : ∀ b j, Q b j → ¬ (b = 67 ∧ j = 91 ∨ 113 ≤ b ∧ b ≤ 116)) : DF nd h1 g1 := by
  obtain ⟨s1, s2, s3, s4⟩ := D
  refine ⟨(a.1 55 15 (fun z => p _ _ z (by omega))).trans s1, (b.1 67 91 (fun z => q _ _ z (by omega))).trans s2, s3, fun d hd => ?_⟩
  obtain ⟨t1, t2, x, x1, x2, x3, x4, x5⟩ := s4 d hd
  have hx := ext_hpl K.2.2.2.2.1 e x1
  rw [a.2.1 62 d (fun z => p _ _ z (by omega)), a.1 63 d (fun z => p _ _ z (by omega)), b.2.1 113 d (fun z => q _ _ z (by omega)), b.1 114 d (fun z => q _ _ z (by omega)), b.1 115 d (fun z => q _ _ z (by omega))]
  refine ⟨t1, t2, x, Nat.lt_of_lt_of_le x1 r.2.2.1, x2, by rw [hx]; exact x3, by rw [hx]; exact x4, fun i hi => ?_⟩
  rw [hx] at hi ⊢
  rw [b.1 116 _ (fun z => q _ _ z (by omega))]; exact x5 i hi
end
theorem pushR {g : sm_H} {j : Nat} (hj : j < 24) (b : g.1 67 102 = I3 j) (x y : Int32) : ∃ g1, F_445 x y g = some g1 ∧ g1.1 119 j = x ∧ g1.1 120 j = y ∧ g1.1 121 j = 0 ∧ g1.1 122 j = 0 ∧ g1.1 123 j = g.1 67 94 ∧ g1.1 124 j = 0 ∧ g1.1 67 102 = I3 (j + 1) ∧ agr (fun b i => (119 ≤ b ∧ b ≤ 124 ∧ i = j) ∨ b = 67 ∧ i = 102) g g1 := by
  refine ⟨sm_wI (sm_wI (sm_wI (sm_wI (sm_wI (sm_wI (sm_wI g 119 j x) 120 j y) 121 j 0) 123 j (g.1 67 94)) 124 j 0) 122 j 0) 67 102 (I3 (j + 1)), ?_, if_pos rfl, if_pos rfl, if_pos rfl, if_pos rfl, if_pos rfl, if_pos rfl, rfl, agr_wI (agr_wI (agr_wI (agr_wI (agr_wI (agr_wI (agr_wI agr_rfl (Or.inl ⟨by decide, by decide, rfl⟩)) (Or.inl ⟨by decide, by decide, rfl⟩)) (Or.inl ⟨by decide, by decide, rfl⟩)) (Or.inl ⟨by decide, by decide, rfl⟩)) (Or.inl ⟨by decide, by decide, rfl⟩)) (Or.inl ⟨by decide, by decide, rfl⟩)) (Or.inr ⟨rfl, rfl⟩)⟩
  show F_445_0 x y g = _
  unfold F_445_0
  rw [b, stI_I hj (by decide)]; simp only [obs]
  rw [show (sm_wI g 119 j x).1 67 102 = I3 j from b, stI_I hj (by decide)]; simp only [obs]
  rw [show (sm_wI (sm_wI g 119 j x) 120 j y).1 67 102 = I3 j from b, stI_I hj (by decide)]; simp only [obs]
  rw [show (sm_wI (sm_wI (sm_wI g 119 j x) 120 j y) 121 j 0).1 67 102 = I3 j from b, show (sm_wI (sm_wI (sm_wI g 119 j x) 120 j y) 121 j 0).1 67 94 = g.1 67 94 from rfl, stI_I hj (by decide)]; simp only [obs]
  rw [show (sm_wI (sm_wI (sm_wI (sm_wI g 119 j x) 120 j y) 121 j 0) 123 j (g.1 67 94)).1 67 102 = I3 j from b, stI_I hj (by decide)]; simp only [obs]
  rw [show (sm_wI (sm_wI (sm_wI (sm_wI (sm_wI g 119 j x) 120 j y) 121 j 0) 123 j (g.1 67 94)) 124 j 0).1 67 102 = I3 j from b, stI_I hj (by decide)]; simp only [obs]
  rw [show (sm_wI (sm_wI (sm_wI (sm_wI (sm_wI (sm_wI g 119 j x) 120 j y) 121 j 0) 123 j (g.1 67 94)) 124 j 0) 122 j 0).1 67 102 = I3 j from b, show I3 j + 1 = I3 (j + 1) from I3_add j 1]
theorem C_188 {h : sm_H} {T y : Nat} (e : h.1 55 12 = I3 T) (hT : T < 200) (hy : y < 500) (x : Int64) : ∃ h1, F_188 (I3 y) x h = some (1, h1) ∧ h1.1 55 12 = I3 (T + 1) ∧ h1.1 60 T = I3 y ∧ h1.2.1 61 T = x ∧ agr (fun b j => (b = 60 ∨ b = 61) ∧ j = T ∨ b = 55 ∧ j = 12) h h1 := by
  refine ⟨sm_wI (sm_wJ (sm_wI h 60 T (I3 y)) 61 T x) 55 12 (I3 (T + 1)), ?_, rfl, if_pos rfl, if_pos rfl, agr_wI (agr_wJ (agr_wI agr_rfl (Or.inl ⟨Or.inl rfl, rfl⟩)) (Or.inl ⟨Or.inr rfl, rfl⟩)) (Or.inr ⟨rfl, rfl⟩)⟩
  show F_188_0 (I3 y) x h = _
  unfold F_188_0
  rw [if_neg (m1_l hy (Nat.le_refl _)), e, if_pos (by rw [I3_lit, I3_lt (by omega) (by decide)]; exact hT), stI_I hT (by decide)]; simp only [obs]
  rw [show (sm_wI h 60 T (I3 y)).1 55 12 = I3 T from e, stJ_I hT (by decide)]; simp only [obs]
  rw [show (sm_wJ (sm_wI h 60 T (I3 y)) 61 T x).1 55 12 = I3 T from e, show I3 T + 1 = I3 (T + 1) from I3_add T 1]
theorem name_ns {n : Nat} {bt : Nat → Nat} {f : Nat} (w : wrd n bt f = 4) : ∃ m, m < 2 ^ 63 ∧ foldN bt f (men n bt f - f) = I6 m ∧ (m ≠ 43 ∧ m ≠ 45 ∧ m ≠ 42 ∧ m ≠ 47 ∧ m ≠ 37 ∧ m ≠ 38 ∧ m ≠ 124 ∧ m ≠ 94 ∧ m ≠ 60 ∧ m ≠ 61) := by
  have hh : ¬ n ≤ f ∧ isL (bt f) = true ∧ men n bt f - f ≤ 8 := by
    unfold wrd at w
    repeat' split at w
    all_goals first
      | exact ⟨by assumption, by assumption, by assumption⟩
      | (cases w)
  obtain ⟨h1, h2, h3⟩ := hh
  have z := foldN_M bt f (men n bt f - f) h3 (fun j hj => men_127 (n := n) j (by omega))
  have hf : 97 ≤ bt f ∧ bt f ≤ 122 := by unfold isL at h2; exact of_decide_eq_true h2
  have g1 : ∀ k, 97 ≤ foldM bt f (k + 1) ∧ (k = 0 → foldM bt f (k + 1) ≤ 122) ∧ (0 < k → 256 ≤ foldM bt f (k + 1)) := fun k => by
    induction k with
    | zero =>
      have e : foldM bt f (0 + 1) = bt f := by show 0 * 256 + bt (f + 0) = _; rw [Nat.add_zero]; omega
      rw [e]; exact ⟨hf.1, fun _ => hf.2, fun z => by omega⟩
    | succ k ih =>
      have e : foldM bt f (k + 1 + 1) = foldM bt f (k + 1) * 256 + bt (f + (k + 1)) := rfl
      rw [e]
      exact ⟨by omega, fun z => by omega, fun _ => by omega⟩
  have k1 : f < men n bt f := by
    have := (wen_n (n := n) (bt := bt) (f := f) (by omega)).2.2 (by omega) (by omega)
    have e : wen n bt f = men n bt f := by
      unfold wen
      have nN : ¬ isN n bt f = true := by
        unfold isN isD
        rw [Bool.or_eq_true, Bool.and_eq_true, decide_eq_true_iff, decide_eq_true_iff]
        omega
      rw [if_neg h1, if_neg nN, if_pos h2]
    omega
  have g2 := g1 (men n bt f - f - 1)
  rw [show men n bt f - f - 1 + 1 = men n bt f - f by omega] at g2
  refine ⟨_, z.2, z.1, ?_⟩
  generalize foldM bt f (men n bt f - f) = m at g2
  by_cases q : men n bt f - f - 1 = 0
  · have := g2.2.1 q; omega
  · have := g2.2.2 (by omega); omega
