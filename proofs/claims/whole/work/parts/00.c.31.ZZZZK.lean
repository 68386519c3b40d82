def kw (x : Int64) : Nat := fst1 (fun i => decide (P_KW.getD i 0 = x)) 16
theorem kw_inj : ∀ i j : Fin 16, P_KW.getD i 0 = P_KW.getD j 0 → i = j := by decide +kernel
theorem kw_spec (x : Int64) : kw x ≤ 16 ∧ (kw x < 16 → P_KW.getD (kw x) 0 = x) ∧ ∀ j, j < 16 → P_KW.getD j 0 = x → j = kw x := fsp (fun i => P_KW.getD i 0) 16 (fun i j hi hj e => congrArg Fin.val (kw_inj ⟨i, hi⟩ ⟨j, hj⟩ e)) x
section
variable {h g : sm_H}
theorem C_197 (x : Int64) (h : sm_H) : F_197 x h = some (if kw x < 16 then I3 (kw x) else -1, h) := by
  have ks := kw_spec x
  have LP : ∀ r i fu, i + r = 16 → r < fu → i ≤ kw x → lp F_197_2B fu (x, I3 i, h) = some (if kw x < 16 then I3 (kw x) else -1, h) := by
    intro r
    induction r with
    | zero =>
      intro i fu hi hf hw
      have e : i = 16 := by omega
      subst e
      rw [if_neg (by omega)]
      refine lp_e (by omega) ?_
      unfold F_197_2B
      simp only []
      rw [show sm_al G0 h 2000000 = some 16 from rfl]; simp only [obs]
      rw [if_pos (by decide)]
    | succ r ih =>
      intro i fu hi hf hw
      have ld : sm_ldJ G0 h 2000000 (I3 i) = some (P_KW.getD i 0) := by
        rcases (show i = 0 ∨ i = 1 ∨ i = 2 ∨ i = 3 ∨ i = 4 ∨ i = 5 ∨ i = 6 ∨ i = 7 ∨ i = 8 ∨ i = 9 ∨ i = 10 ∨ i = 11 ∨ i = 12 ∨ i = 13 ∨ i = 14 ∨ i = 15 by omega) with rfl | rfl | rfl | rfl | rfl | rfl | rfl | rfl | rfl | rfl | rfl | rfl | rfl | rfl | rfl | rfl <;> rfl
      have B : F_197_2B (x, I3 i, h) = if P_KW.getD i 0 = x then some (.inr (I3 i, h)) else some (.inl (x, I3 (i + 1), h)) := by
        unfold F_197_2B
        simp only []
        rw [show sm_al G0 h 2000000 = some 16 from rfl]; simp only [obs]
        rw [if_neg (by rw [I3_lit, I3_le (by decide) (by omega)]; omega), ld]; simp only [obs]
        rw [show I3 i + 1 = I3 (i + 1) from I3_add i 1]
        by_cases q : P_KW.getD i 0 = x
        · rw [if_pos (cmp_eq.mpr q), if_pos q]
        · rw [if_neg (fun z => q (cmp_eq.mp z)), if_neg q]
      by_cases q : P_KW.getD i 0 = x
      · rw [if_pos q] at B
        have e := ks.2.2 i (by omega) q
        rw [lp_e (by omega) B, if_pos (by omega), e]
      · rw [if_neg q] at B
        have hw' : i + 1 ≤ kw x := by
          rcases Nat.lt_or_ge i (kw x) with y | y
          · exact y
          · have e : kw x = i := by omega
            exact absurd (by have := ks.2.1 (by omega); rw [e] at this; exact this) q
        rw [lp_s (by omega) B]
        exact ih (i + 1) (fu - 1) (by omega) (by omega) hw'
  exact LP 16 0 1000000 (by omega) (by omega) (Nat.zero_le _)
theorem R_441n {m : Nat} (hm : m < 2 ^ 63) (no : m ≠ 43 ∧ m ≠ 45 ∧ m ≠ 42 ∧ m ≠ 47 ∧ m ≠ 37 ∧ m ≠ 38 ∧ m ≠ 124 ∧ m ≠ 94 ∧ m ≠ 60 ∧ m ≠ 61) : F_441 (I6 m) g = some (-1, g) := by
  obtain ⟨n0, n1, n2, n3, n4, n5, n6, n7, n8, n9⟩ := no
  show F_441_0 (I6 m) g = _
  unfold F_441_0 F_441_109
  rw [if_neg (show ¬ lg_cmp (I6 m) 43 = 0 from ceq hm (x := 43) (by decide) n0), if_neg (show ¬ lg_cmp (I6 m) 45 = 0 from ceq hm (x := 45) (by decide) n1), if_neg (show ¬ lg_cmp (I6 m) 42 = 0 from ceq hm (x := 42) (by decide) n2), if_neg (show ¬ lg_cmp (I6 m) 47 = 0 from ceq hm (x := 47) (by decide) n3), if_neg (show ¬ lg_cmp (I6 m) 37 = 0 from ceq hm (x := 37) (by decide) n4), if_neg (show ¬ lg_cmp (I6 m) 38 = 0 from ceq hm (x := 38) (by decide) n5), if_neg (show ¬ lg_cmp (I6 m) 124 = 0 from ceq hm (x := 124) (by decide) n6), if_neg (show ¬ lg_cmp (I6 m) 94 = 0 from ceq hm (x := 94) (by decide) n7), if_neg (show ¬ lg_cmp (I6 m) 60 = 0 from ceq hm (x := 60) (by decide) n8), if_neg (show ¬ lg_cmp (I6 m) 61 = 0 from ceq hm (x := 61) (by decide) n9)]
theorem R_440_0 : F_440 26982 g = some (2, g) := by
  show F_440_0 26982 g = _
  unfold F_440_0 F_440_318
  rw [show F_441 26982 g = some (-1, g) from rfl]; simp only [obs]
  rw [if_pos trivial]
  rw [show F_439 105 102 0 0 0 g = some (26982, g) from rfl]; simp only [obs]
  rw [if_pos (by decide)]
theorem R_440_1 : F_440 7103860 g = some (3, g) := by
  show F_440_0 7103860 g = _
  unfold F_440_0 F_440_318
  rw [show F_441 7103860 g = some (-1, g) from rfl]; simp only [obs]
  rw [if_pos trivial]
  rw [show F_439 105 102 0 0 0 g = some (26982, g) from rfl]; simp only [obs]
  rw [if_neg (by decide)]
  rw [show F_439 108 101 116 0 0 g = some (7103860, g) from rfl]; simp only [obs]
  rw [if_pos (by decide)]
theorem R_440_2 : F_440 25711 g = some (4, g) := by
  show F_440_0 25711 g = _
  unfold F_440_0 F_440_318
  rw [show F_441 25711 g = some (-1, g) from rfl]; simp only [obs]
  rw [if_pos trivial]
  rw [show F_439 105 102 0 0 0 g = some (26982, g) from rfl]; simp only [obs]
  rw [if_neg (by decide)]
  rw [show F_439 108 101 116 0 0 g = some (7103860, g) from rfl]; simp only [obs]
  rw [if_neg (by decide)]
  rw [show F_439 100 111 0 0 0 g = some (25711, g) from rfl]; simp only [obs]
  rw [if_pos (by decide)]
theorem R_440_3 : F_440 1819242352 g = some (5, g) := by
  show F_440_0 1819242352 g = _
  unfold F_440_0 F_440_318
  rw [show F_441 1819242352 g = some (-1, g) from rfl]; simp only [obs]
  rw [if_pos trivial]
  rw [show F_439 105 102 0 0 0 g = some (26982, g) from rfl]; simp only [obs]
  rw [if_neg (by decide)]
  rw [show F_439 108 101 116 0 0 g = some (7103860, g) from rfl]; simp only [obs]
  rw [if_neg (by decide)]
  rw [show F_439 100 111 0 0 0 g = some (25711, g) from rfl]; simp only [obs]
  rw [if_neg (by decide)]
  rw [show F_439 108 111 111 112 0 g = some (1819242352, g) from rfl]; simp only [obs]
  rw [if_pos (by decide)]
theorem R_440_4 : F_440 7631481 g = some (6, g) := by
  show F_440_0 7631481 g = _
  unfold F_440_0 F_440_318
  rw [show F_441 7631481 g = some (-1, g) from rfl]; simp only [obs]
  rw [if_pos trivial]
  rw [show F_439 105 102 0 0 0 g = some (26982, g) from rfl]; simp only [obs]
  rw [if_neg (by decide)]
  rw [show F_439 108 101 116 0 0 g = some (7103860, g) from rfl]; simp only [obs]
  rw [if_neg (by decide)]
  rw [show F_439 100 111 0 0 0 g = some (25711, g) from rfl]; simp only [obs]
  rw [if_neg (by decide)]
  rw [show F_439 108 111 111 112 0 g = some (1819242352, g) from rfl]; simp only [obs]
  rw [if_neg (by decide)]
  rw [show F_439 116 114 121 0 0 g = some (7631481, g) from rfl]; simp only [obs]
  rw [if_pos (by decide)]
theorem R_440_5 : F_440 24947 g = some (7, g) := by
  show F_440_0 24947 g = _
  unfold F_440_0 F_440_318
  rw [show F_441 24947 g = some (-1, g) from rfl]; simp only [obs]
  rw [if_pos trivial]
  rw [show F_439 105 102 0 0 0 g = some (26982, g) from rfl]; simp only [obs]
  rw [if_neg (by decide)]
  rw [show F_439 108 101 116 0 0 g = some (7103860, g) from rfl]; simp only [obs]
  rw [if_neg (by decide)]
  rw [show F_439 100 111 0 0 0 g = some (25711, g) from rfl]; simp only [obs]
  rw [if_neg (by decide)]
  rw [show F_439 108 111 111 112 0 g = some (1819242352, g) from rfl]; simp only [obs]
  rw [if_neg (by decide)]
  rw [show F_439 116 114 121 0 0 g = some (7631481, g) from rfl]; simp only [obs]
  rw [if_neg (by decide)]
  rw [show F_439 97 115 0 0 0 g = some (24947, g) from rfl]; simp only [obs]
  rw [if_pos (by decide)]
theorem R_440_6 : F_440 439956431717 g = some (8, g) := by
  show F_440_0 439956431717 g = _
  unfold F_440_0 F_440_318
  rw [show F_441 439956431717 g = some (-1, g) from rfl]; simp only [obs]
  rw [if_pos trivial]
  rw [show F_439 105 102 0 0 0 g = some (26982, g) from rfl]; simp only [obs]
  rw [if_neg (by decide)]
  rw [show F_439 108 101 116 0 0 g = some (7103860, g) from rfl]; simp only [obs]
  rw [if_neg (by decide)]
  rw [show F_439 100 111 0 0 0 g = some (25711, g) from rfl]; simp only [obs]
  rw [if_neg (by decide)]
  rw [show F_439 108 111 111 112 0 g = some (1819242352, g) from rfl]; simp only [obs]
  rw [if_neg (by decide)]
  rw [show F_439 116 114 121 0 0 g = some (7631481, g) from rfl]; simp only [obs]
  rw [if_neg (by decide)]
  rw [show F_439 97 115 0 0 0 g = some (24947, g) from rfl]; simp only [obs]
  rw [if_neg (by decide)]
  rw [show F_439 102 111 114 99 101 g = some (439956431717, g) from rfl]; simp only [obs]
  rw [if_pos (by decide)]
theorem R_440_7 : F_440 1853189228 g = some (9, g) := by
  show F_440_0 1853189228 g = _
  unfold F_440_0 F_440_318
  rw [show F_441 1853189228 g = some (-1, g) from rfl]; simp only [obs]
  rw [if_pos trivial]
  rw [show F_439 105 102 0 0 0 g = some (26982, g) from rfl]; simp only [obs]
  rw [if_neg (by decide)]
  rw [show F_439 108 101 116 0 0 g = some (7103860, g) from rfl]; simp only [obs]
  rw [if_neg (by decide)]
  rw [show F_439 100 111 0 0 0 g = some (25711, g) from rfl]; simp only [obs]
  rw [if_neg (by decide)]
  rw [show F_439 108 111 111 112 0 g = some (1819242352, g) from rfl]; simp only [obs]
  rw [if_neg (by decide)]
  rw [show F_439 116 114 121 0 0 g = some (7631481, g) from rfl]; simp only [obs]
  rw [if_neg (by decide)]
  rw [show F_439 97 115 0 0 0 g = some (24947, g) from rfl]; simp only [obs]
  rw [if_neg (by decide)]
  rw [show F_439 102 111 114 99 101 g = some (439956431717, g) from rfl]; simp only [obs]
  rw [if_neg (by decide)]
  rw [show F_439 110 117 108 108 0 g = some (1853189228, g) from rfl]; simp only [obs]
  rw [if_pos (by decide)]
theorem R_440_8 : F_440 7499639 g = some (10, g) := by
  show F_440_0 7499639 g = _
  unfold F_440_0 F_440_318
  rw [show F_441 7499639 g = some (-1, g) from rfl]; simp only [obs]
  rw [if_pos trivial]
  rw [show F_439 105 102 0 0 0 g = some (26982, g) from rfl]; simp only [obs]
  rw [if_neg (by decide)]
  rw [show F_439 108 101 116 0 0 g = some (7103860, g) from rfl]; simp only [obs]
  rw [if_neg (by decide)]
  rw [show F_439 100 111 0 0 0 g = some (25711, g) from rfl]; simp only [obs]
  rw [if_neg (by decide)]
  rw [show F_439 108 111 111 112 0 g = some (1819242352, g) from rfl]; simp only [obs]
  rw [if_neg (by decide)]
  rw [show F_439 116 114 121 0 0 g = some (7631481, g) from rfl]; simp only [obs]
  rw [if_neg (by decide)]
  rw [show F_439 97 115 0 0 0 g = some (24947, g) from rfl]; simp only [obs]
  rw [if_neg (by decide)]
  rw [show F_439 102 111 114 99 101 g = some (439956431717, g) from rfl]; simp only [obs]
  rw [if_neg (by decide)]
  rw [show F_439 110 117 108 108 0 g = some (1853189228, g) from rfl]; simp only [obs]
  rw [if_neg (by decide)]
  rw [show F_439 114 111 119 0 0 g = some (7499639, g) from rfl]; simp only [obs]
  rw [if_pos (by decide)]
theorem R_440_9 : F_440 1936292453 g = some (11, g) := by
  show F_440_0 1936292453 g = _
  unfold F_440_0 F_440_318
  rw [show F_441 1936292453 g = some (-1, g) from rfl]; simp only [obs]
  rw [if_pos trivial]
  rw [show F_439 105 102 0 0 0 g = some (26982, g) from rfl]; simp only [obs]
  rw [if_neg (by decide)]
  rw [show F_439 108 101 116 0 0 g = some (7103860, g) from rfl]; simp only [obs]
  rw [if_neg (by decide)]
  rw [show F_439 100 111 0 0 0 g = some (25711, g) from rfl]; simp only [obs]
  rw [if_neg (by decide)]
  rw [show F_439 108 111 111 112 0 g = some (1819242352, g) from rfl]; simp only [obs]
  rw [if_neg (by decide)]
  rw [show F_439 116 114 121 0 0 g = some (7631481, g) from rfl]; simp only [obs]
  rw [if_neg (by decide)]
  rw [show F_439 97 115 0 0 0 g = some (24947, g) from rfl]; simp only [obs]
  rw [if_neg (by decide)]
  rw [show F_439 102 111 114 99 101 g = some (439956431717, g) from rfl]; simp only [obs]
  rw [if_neg (by decide)]
  rw [show F_439 110 117 108 108 0 g = some (1853189228, g) from rfl]; simp only [obs]
  rw [if_neg (by decide)]
  rw [show F_439 114 111 119 0 0 g = some (7499639, g) from rfl]; simp only [obs]
  rw [if_neg (by decide)]
  rw [show F_439 115 105 122 101 0 g = some (1936292453, g) from rfl]; simp only [obs]
  rw [if_pos (by decide)]
theorem R_440_10 : F_440 6776180 g = some (12, g) := by
  show F_440_0 6776180 g = _
  unfold F_440_0 F_440_318
  rw [show F_441 6776180 g = some (-1, g) from rfl]; simp only [obs]
  rw [if_pos trivial]
  rw [show F_439 105 102 0 0 0 g = some (26982, g) from rfl]; simp only [obs]
  rw [if_neg (by decide)]
  rw [show F_439 108 101 116 0 0 g = some (7103860, g) from rfl]; simp only [obs]
  rw [if_neg (by decide)]
  rw [show F_439 100 111 0 0 0 g = some (25711, g) from rfl]; simp only [obs]
  rw [if_neg (by decide)]
  rw [show F_439 108 111 111 112 0 g = some (1819242352, g) from rfl]; simp only [obs]
  rw [if_neg (by decide)]
  rw [show F_439 116 114 121 0 0 g = some (7631481, g) from rfl]; simp only [obs]
  rw [if_neg (by decide)]
  rw [show F_439 97 115 0 0 0 g = some (24947, g) from rfl]; simp only [obs]
  rw [if_neg (by decide)]
  rw [show F_439 102 111 114 99 101 g = some (439956431717, g) from rfl]; simp only [obs]
  rw [if_neg (by decide)]
  rw [show F_439 110 117 108 108 0 g = some (1853189228, g) from rfl]; simp only [obs]
  rw [if_neg (by decide)]
  rw [show F_439 114 111 119 0 0 g = some (7499639, g) from rfl]; simp only [obs]
  rw [if_neg (by decide)]
  rw [show F_439 115 105 122 101 0 g = some (1936292453, g) from rfl]; simp only [obs]
  rw [if_neg (by decide)]
  rw [show F_439 103 101 116 0 0 g = some (6776180, g) from rfl]; simp only [obs]
  rw [if_pos (by decide)]
theorem R_440_11 : F_440 7562612 g = some (13, g) := by
  show F_440_0 7562612 g = _
  unfold F_440_0 F_440_318
  rw [show F_441 7562612 g = some (-1, g) from rfl]; simp only [obs]
  rw [if_pos trivial]
  rw [show F_439 105 102 0 0 0 g = some (26982, g) from rfl]; simp only [obs]
  rw [if_neg (by decide)]
  rw [show F_439 108 101 116 0 0 g = some (7103860, g) from rfl]; simp only [obs]
  rw [if_neg (by decide)]
  rw [show F_439 100 111 0 0 0 g = some (25711, g) from rfl]; simp only [obs]
  rw [if_neg (by decide)]
  rw [show F_439 108 111 111 112 0 g = some (1819242352, g) from rfl]; simp only [obs]
  rw [if_neg (by decide)]
  rw [show F_439 116 114 121 0 0 g = some (7631481, g) from rfl]; simp only [obs]
  rw [if_neg (by decide)]
  rw [show F_439 97 115 0 0 0 g = some (24947, g) from rfl]; simp only [obs]
  rw [if_neg (by decide)]
  rw [show F_439 102 111 114 99 101 g = some (439956431717, g) from rfl]; simp only [obs]
  rw [if_neg (by decide)]
  rw [show F_439 110 117 108 108 0 g = some (1853189228, g) from rfl]; simp only [obs]
  rw [if_neg (by decide)]
  rw [show F_439 114 111 119 0 0 g = some (7499639, g) from rfl]; simp only [obs]
  rw [if_neg (by decide)]
  rw [show F_439 115 105 122 101 0 g = some (1936292453, g) from rfl]; simp only [obs]
  rw [if_neg (by decide)]
  rw [show F_439 103 101 116 0 0 g = some (6776180, g) from rfl]; simp only [obs]
  rw [if_neg (by decide)]
  rw [show F_439 115 101 116 0 0 g = some (7562612, g) from rfl]; simp only [obs]
  rw [if_pos (by decide)]
theorem R_440_12 : F_440 26995 g = some (14, g) := by
  show F_440_0 26995 g = _
  unfold F_440_0 F_440_318
  rw [show F_441 26995 g = some (-1, g) from rfl]; simp only [obs]
  rw [if_pos trivial]
  rw [show F_439 105 102 0 0 0 g = some (26982, g) from rfl]; simp only [obs]
  rw [if_neg (by decide)]
  rw [show F_439 108 101 116 0 0 g = some (7103860, g) from rfl]; simp only [obs]
  rw [if_neg (by decide)]
  rw [show F_439 100 111 0 0 0 g = some (25711, g) from rfl]; simp only [obs]
  rw [if_neg (by decide)]
  rw [show F_439 108 111 111 112 0 g = some (1819242352, g) from rfl]; simp only [obs]
  rw [if_neg (by decide)]
  rw [show F_439 116 114 121 0 0 g = some (7631481, g) from rfl]; simp only [obs]
  rw [if_neg (by decide)]
  rw [show F_439 97 115 0 0 0 g = some (24947, g) from rfl]; simp only [obs]
  rw [if_neg (by decide)]
  rw [show F_439 102 111 114 99 101 g = some (439956431717, g) from rfl]; simp only [obs]
  rw [if_neg (by decide)]
  rw [show F_439 110 117 108 108 0 g = some (1853189228, g) from rfl]; simp only [obs]
  rw [if_neg (by decide)]
  rw [show F_439 114 111 119 0 0 g = some (7499639, g) from rfl]; simp only [obs]
  rw [if_neg (by decide)]
  rw [show F_439 115 105 122 101 0 g = some (1936292453, g) from rfl]; simp only [obs]
  rw [if_neg (by decide)]
  rw [show F_439 103 101 116 0 0 g = some (6776180, g) from rfl]; simp only [obs]
  rw [if_neg (by decide)]
  rw [show F_439 115 101 116 0 0 g = some (7562612, g) from rfl]; simp only [obs]
  rw [if_neg (by decide)]
  rw [show F_439 105 115 0 0 0 g = some (26995, g) from rfl]; simp only [obs]
  rw [if_pos (by decide)]
theorem R_440_13 : F_440 1935764837 g = some (15, g) := by
  show F_440_0 1935764837 g = _
  unfold F_440_0 F_440_318
  rw [show F_441 1935764837 g = some (-1, g) from rfl]; simp only [obs]
  rw [if_pos trivial]
  rw [show F_439 105 102 0 0 0 g = some (26982, g) from rfl]; simp only [obs]
  rw [if_neg (by decide)]
  rw [show F_439 108 101 116 0 0 g = some (7103860, g) from rfl]; simp only [obs]
  rw [if_neg (by decide)]
  rw [show F_439 100 111 0 0 0 g = some (25711, g) from rfl]; simp only [obs]
  rw [if_neg (by decide)]
  rw [show F_439 108 111 111 112 0 g = some (1819242352, g) from rfl]; simp only [obs]
  rw [if_neg (by decide)]
  rw [show F_439 116 114 121 0 0 g = some (7631481, g) from rfl]; simp only [obs]
  rw [if_neg (by decide)]
  rw [show F_439 97 115 0 0 0 g = some (24947, g) from rfl]; simp only [obs]
  rw [if_neg (by decide)]
  rw [show F_439 102 111 114 99 101 g = some (439956431717, g) from rfl]; simp only [obs]
  rw [if_neg (by decide)]
  rw [show F_439 110 117 108 108 0 g = some (1853189228, g) from rfl]; simp only [obs]
  rw [if_neg (by decide)]
  rw [show F_439 114 111 119 0 0 g = some (7499639, g) from rfl]; simp only [obs]
  rw [if_neg (by decide)]
  rw [show F_439 115 105 122 101 0 g = some (1936292453, g) from rfl]; simp only [obs]
  rw [if_neg (by decide)]
  rw [show F_439 103 101 116 0 0 g = some (6776180, g) from rfl]; simp only [obs]
  rw [if_neg (by decide)]
  rw [show F_439 115 101 116 0 0 g = some (7562612, g) from rfl]; simp only [obs]
  rw [if_neg (by decide)]
  rw [show F_439 105 115 0 0 0 g = some (26995, g) from rfl]; simp only [obs]
  rw [if_neg (by decide)]
  rw [show F_439 115 97 109 101 0 g = some (1935764837, g) from rfl]; simp only [obs]
  rw [if_pos (by decide)]
theorem R_440_14 : F_440 499968536439 g = some (16, g) := by
  show F_440_0 499968536439 g = _
  unfold F_440_0 F_440_318
  rw [show F_441 499968536439 g = some (-1, g) from rfl]; simp only [obs]
  rw [if_pos trivial]
  rw [show F_439 105 102 0 0 0 g = some (26982, g) from rfl]; simp only [obs]
  rw [if_neg (by decide)]
  rw [show F_439 108 101 116 0 0 g = some (7103860, g) from rfl]; simp only [obs]
  rw [if_neg (by decide)]
  rw [show F_439 100 111 0 0 0 g = some (25711, g) from rfl]; simp only [obs]
  rw [if_neg (by decide)]
  rw [show F_439 108 111 111 112 0 g = some (1819242352, g) from rfl]; simp only [obs]
  rw [if_neg (by decide)]
  rw [show F_439 116 114 121 0 0 g = some (7631481, g) from rfl]; simp only [obs]
  rw [if_neg (by decide)]
  rw [show F_439 97 115 0 0 0 g = some (24947, g) from rfl]; simp only [obs]
  rw [if_neg (by decide)]
  rw [show F_439 102 111 114 99 101 g = some (439956431717, g) from rfl]; simp only [obs]
  rw [if_neg (by decide)]
  rw [show F_439 110 117 108 108 0 g = some (1853189228, g) from rfl]; simp only [obs]
  rw [if_neg (by decide)]
  rw [show F_439 114 111 119 0 0 g = some (7499639, g) from rfl]; simp only [obs]
  rw [if_neg (by decide)]
  rw [show F_439 115 105 122 101 0 g = some (1936292453, g) from rfl]; simp only [obs]
  rw [if_neg (by decide)]
  rw [show F_439 103 101 116 0 0 g = some (6776180, g) from rfl]; simp only [obs]
  rw [if_neg (by decide)]
  rw [show F_439 115 101 116 0 0 g = some (7562612, g) from rfl]; simp only [obs]
  rw [if_neg (by decide)]
  rw [show F_439 105 115 0 0 0 g = some (26995, g) from rfl]; simp only [obs]
  rw [if_neg (by decide)]
  rw [show F_439 115 97 109 101 0 g = some (1935764837, g) from rfl]; simp only [obs]
  rw [if_neg (by decide)]
  rw [show F_439 116 104 114 111 119 g = some (499968536439, g) from rfl]; simp only [obs]
  rw [if_pos (by decide)]
theorem R_440_15 : F_440 1668244581 g = some (17, g) := by
  show F_440_0 1668244581 g = _
  unfold F_440_0 F_440_318
  rw [show F_441 1668244581 g = some (-1, g) from rfl]; simp only [obs]
  rw [if_pos trivial]
  rw [show F_439 105 102 0 0 0 g = some (26982, g) from rfl]; simp only [obs]
  rw [if_neg (by decide)]
  rw [show F_439 108 101 116 0 0 g = some (7103860, g) from rfl]; simp only [obs]
  rw [if_neg (by decide)]
  rw [show F_439 100 111 0 0 0 g = some (25711, g) from rfl]; simp only [obs]
  rw [if_neg (by decide)]
  rw [show F_439 108 111 111 112 0 g = some (1819242352, g) from rfl]; simp only [obs]
  rw [if_neg (by decide)]
  rw [show F_439 116 114 121 0 0 g = some (7631481, g) from rfl]; simp only [obs]
  rw [if_neg (by decide)]
  rw [show F_439 97 115 0 0 0 g = some (24947, g) from rfl]; simp only [obs]
  rw [if_neg (by decide)]
  rw [show F_439 102 111 114 99 101 g = some (439956431717, g) from rfl]; simp only [obs]
  rw [if_neg (by decide)]
  rw [show F_439 110 117 108 108 0 g = some (1853189228, g) from rfl]; simp only [obs]
  rw [if_neg (by decide)]
  rw [show F_439 114 111 119 0 0 g = some (7499639, g) from rfl]; simp only [obs]
  rw [if_neg (by decide)]
  rw [show F_439 115 105 122 101 0 g = some (1936292453, g) from rfl]; simp only [obs]
  rw [if_neg (by decide)]
  rw [show F_439 103 101 116 0 0 g = some (6776180, g) from rfl]; simp only [obs]
  rw [if_neg (by decide)]
  rw [show F_439 115 101 116 0 0 g = some (7562612, g) from rfl]; simp only [obs]
  rw [if_neg (by decide)]
  rw [show F_439 105 115 0 0 0 g = some (26995, g) from rfl]; simp only [obs]
  rw [if_neg (by decide)]
  rw [show F_439 115 97 109 101 0 g = some (1935764837, g) from rfl]; simp only [obs]
  rw [if_neg (by decide)]
  rw [show F_439 116 104 114 111 119 g = some (499968536439, g) from rfl]; simp only [obs]
  rw [if_neg (by decide)]
  rw [show F_439 99 111 100 101 0 g = some (1668244581, g) from rfl]; simp only [obs]
  rw [if_pos (by decide)]
theorem R_440a {i : Nat} (hi : i < 16) : F_440 (P_KW.getD i 0) g = some (I3 (i + 2), g) := by
  rcases (show i = 0 ∨ i = 1 ∨ i = 2 ∨ i = 3 ∨ i = 4 ∨ i = 5 ∨ i = 6 ∨ i = 7 ∨ i = 8 ∨ i = 9 ∨ i = 10 ∨ i = 11 ∨ i = 12 ∨ i = 13 ∨ i = 14 ∨ i = 15 by omega) with rfl | rfl | rfl | rfl | rfl | rfl | rfl | rfl | rfl | rfl | rfl | rfl | rfl | rfl | rfl | rfl
  · exact R_440_0
  · exact R_440_1
  · exact R_440_2
  · exact R_440_3
  · exact R_440_4
  · exact R_440_5
  · exact R_440_6
  · exact R_440_7
  · exact R_440_8
  · exact R_440_9
  · exact R_440_10
  · exact R_440_11
  · exact R_440_12
  · exact R_440_13
  · exact R_440_14
  · exact R_440_15
theorem R_440n {m : Nat} (hm : m < 2 ^ 63) (no : m ≠ 43 ∧ m ≠ 45 ∧ m ≠ 42 ∧ m ≠ 47 ∧ m ≠ 37 ∧ m ≠ 38 ∧ m ≠ 124 ∧ m ≠ 94 ∧ m ≠ 60 ∧ m ≠ 61) (nk : ∀ i, i < 16 → P_KW.getD i 0 ≠ I6 m) : F_440 (I6 m) g = some (-1, g) := by
  have c : ∀ i (x : Int64), i < 16 → P_KW.getD i 0 = x → ¬ lg_cmp (I6 m) x = 0 := fun i x hi e z => nk i hi (e.trans (cmp_eq.mp z).symm)
  show F_440_0 (I6 m) g = _
  unfold F_440_0 F_440_318
  rw [R_441n hm no]; simp only [obs]
  rw [if_pos trivial]
  rw [show F_439 105 102 0 0 0 g = some (26982, g) from rfl]; simp only [obs]
  rw [if_neg (c 0 26982 (by decide) rfl), show F_439 108 101 116 0 0 g = some (7103860, g) from rfl]; simp only [obs]
  rw [if_neg (c 1 7103860 (by decide) rfl), show F_439 100 111 0 0 0 g = some (25711, g) from rfl]; simp only [obs]
  rw [if_neg (c 2 25711 (by decide) rfl), show F_439 108 111 111 112 0 g = some (1819242352, g) from rfl]; simp only [obs]
  rw [if_neg (c 3 1819242352 (by decide) rfl), show F_439 116 114 121 0 0 g = some (7631481, g) from rfl]; simp only [obs]
  rw [if_neg (c 4 7631481 (by decide) rfl), show F_439 97 115 0 0 0 g = some (24947, g) from rfl]; simp only [obs]
  rw [if_neg (c 5 24947 (by decide) rfl), show F_439 102 111 114 99 101 g = some (439956431717, g) from rfl]; simp only [obs]
  rw [if_neg (c 6 439956431717 (by decide) rfl), show F_439 110 117 108 108 0 g = some (1853189228, g) from rfl]; simp only [obs]
  rw [if_neg (c 7 1853189228 (by decide) rfl), show F_439 114 111 119 0 0 g = some (7499639, g) from rfl]; simp only [obs]
  rw [if_neg (c 8 7499639 (by decide) rfl), show F_439 115 105 122 101 0 g = some (1936292453, g) from rfl]; simp only [obs]
  rw [if_neg (c 9 1936292453 (by decide) rfl), show F_439 103 101 116 0 0 g = some (6776180, g) from rfl]; simp only [obs]
  rw [if_neg (c 10 6776180 (by decide) rfl), show F_439 115 101 116 0 0 g = some (7562612, g) from rfl]; simp only [obs]
  rw [if_neg (c 11 7562612 (by decide) rfl), show F_439 105 115 0 0 0 g = some (26995, g) from rfl]; simp only [obs]
  rw [if_neg (c 12 26995 (by decide) rfl), show F_439 115 97 109 101 0 g = some (1935764837, g) from rfl]; simp only [obs]
  rw [if_neg (c 13 1935764837 (by decide) rfl), show F_439 116 104 114 111 119 g = some (499968536439, g) from rfl]; simp only [obs]
  rw [if_neg (c 14 499968536439 (by decide) rfl), show F_439 99 111 100 101 0 g = some (1668244581, g) from rfl]; simp only [obs]
  rw [if_neg (c 15 1668244581 (by decide) rfl)]
theorem R_440 {m : Nat} (hm : m < 2 ^ 63) (no : m ≠ 43 ∧ m ≠ 45 ∧ m ≠ 42 ∧ m ≠ 47 ∧ m ≠ 37 ∧ m ≠ 38 ∧ m ≠ 124 ∧ m ≠ 94 ∧ m ≠ 60 ∧ m ≠ 61) : F_440 (I6 m) g = some (if kw (I6 m) < 16 then I3 (kw (I6 m) + 2) else -1, g) := by
  have ks := kw_spec (I6 m)
  by_cases q : kw (I6 m) < 16
  · have := R_440a (g := g) q
    rw [ks.2.1 q] at this
    rw [this, if_pos q]
  · rw [if_neg q]
    exact R_440n hm no (fun i hi z => by have := ks.2.2 i hi z; omega)
theorem R_441s {b o : Nat} (s : sgn b = some o) : F_441 (Int32.toInt64 (I3 b)) g = some (I3 o, g) ∧ F_440 (Int32.toInt64 (I3 b)) g = some (1, g) := by
  unfold sgn at s
  repeat' split at s
  all_goals first
    | (cases s; subst_vars; exact ⟨rfl, rfl⟩)
    | cases s
end
