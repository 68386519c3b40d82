theorem lw_ld {L i : Nat} {xs : Nat → Int32} (hL : L ≤ 3072) (hi : i < L) (u : sm_H) : sm_ldI (P_G L xs) u 1000004 (I3 i) = some (xs i) := by
  have c : (I3 i).toNatClampNeg = i := I3_clamp (by omega)
  unfold sm_ldI
  show (if 1000004 < 1000008 ∧ sm_in (I3 i) ((P_G L xs).2.2.2.2.1 (1000004 - 1000000)).1 then _ else _) = _
  refine (if_pos ⟨by decide, ?_⟩).trans ?_
  · show some (xs (I3 i).toNatClampNeg) = _
    rw [c]
  · show ¬ (I3 i < 0 ∨ L ≤ (I3 i).toNatClampNeg)
    rw [c]
    rintro (z | z)
    · exact absurd z (I3_nn (by omega))
    · omega
section
variable {L y : Nat} {xs : Nat → Int32} {h : sm_H}
theorem lw_in (hL : L ≤ 3072) (hy : y + 6 ≤ L) (I : I0 h) : ∃ h1, F_470_18B L xs (I3 y, h) = some (.inl (I3 (y + 6), h1)) ∧ I0 h1 := by
  have e1 : I3 y + 1 = I3 (y + 1) := I3_add y 1
  have e2 : I3 y + 2 = I3 (y + 2) := I3_add y 2
  have e3 : I3 y + 3 = I3 (y + 3) := I3_add y 3
  have e4 : I3 y + 4 = I3 (y + 4) := I3_add y 4
  have e5 : I3 y + 5 = I3 (y + 5) := I3_add y 5
  have e6 : I3 y + 6 = I3 (y + 6) := I3_add y 6
  have l0 := lw_ld (xs := xs) hL (show y < L by omega)
  have l1 := lw_ld (xs := xs) hL (show y + 1 < L by omega)
  have l2 := lw_ld (xs := xs) hL (show y + 2 < L by omega)
  have l3 := lw_ld (xs := xs) hL (show y + 3 < L by omega)
  have l4 := lw_ld (xs := xs) hL (show y + 4 < L by omega)
  have l5 := lw_ld (xs := xs) hL (show y + 5 < L by omega)
  have f4 : ∀ u, F_470_1184 L xs (I3 y) u = some (.inl (I3 (y + 6), u)) := fun u => by
    unfold F_470_1184
    rw [e6]; rfl
  have B : F_470_18B L xs (I3 y, h) = F_470_18B L xs (I3 y, h) := rfl
  conv at B => rhs; unfold F_470_18B
  simp only [] at B
  rw [show sm_al (P_G L xs) h 1000004 = some (I3 L) from rfl] at B
  simp only [Option.bind_some] at B
  rw [show I3 L - 6 = I3 (L - 6) from I3_sub (a := L) (b := 6) (by omega), if_neg (show ¬ I3 (L - 6) < I3 y by rw [I3_lt (by omega) (by omega)]; omega), l0] at B
  simp only [Option.bind_some] at B
  generalize xs y &&& 31 = c at B
  by_cases c0 : c = 0
  · rw [if_pos c0] at B
    obtain ⟨v, h1, h2, a, b, I2⟩ := op_put (xs (y + 1)) I
    simp only [e1, e2, e3, e4, e5, l1, l2, l3, l4, l5, Option.bind_some] at B
    rw [a] at B
    simp only [Option.bind_some] at B
    try simp only [l1, l2, l3, l4, l5, Option.bind_some] at B
    rw [b] at B
    simp only [Option.bind_some] at B
    rw [if_pos trivial, f4] at B
    exact ⟨h2, B, I2⟩
  rw [if_neg c0] at B
  by_cases c1 : c = 1
  · rw [if_pos c1] at B
    obtain ⟨v, h1, h2, a, b, I2⟩ := op_newClass (xs (y + 1)) (xs (y + 2)) I
    simp only [e1, e2, e3, e4, e5, l1, l2, l3, l4, l5, Option.bind_some] at B
    rw [a] at B
    simp only [Option.bind_some] at B
    try simp only [l1, l2, l3, l4, l5, Option.bind_some] at B
    rw [b] at B
    simp only [Option.bind_some] at B
    rw [if_pos trivial, f4] at B
    exact ⟨h2, B, I2⟩
  rw [if_neg c1] at B
  by_cases c2 : c = 2
  · rw [if_pos c2] at B
    obtain ⟨v, h1, h2, a, b, I2⟩ := op_type (xs (y + 1)) I
    simp only [e1, e2, e3, e4, e5, l1, l2, l3, l4, l5, Option.bind_some] at B
    rw [a] at B
    simp only [Option.bind_some] at B
    try simp only [l1, l2, l3, l4, l5, Option.bind_some] at B
    rw [b] at B
    simp only [Option.bind_some] at B
    rw [if_pos trivial, f4] at B
    exact ⟨h2, B, I2⟩
  rw [if_neg c2] at B
  by_cases c3 : c = 3
  · rw [if_pos c3] at B
    obtain ⟨v, h1, h2, a, b, I2⟩ := op_typeAbout (xs (y + 1)) (xs (y + 2)) I
    simp only [e1, e2, e3, e4, e5, l1, l2, l3, l4, l5, Option.bind_some] at B
    rw [a] at B
    simp only [Option.bind_some] at B
    try simp only [l1, l2, l3, l4, l5, Option.bind_some] at B
    rw [b] at B
    simp only [Option.bind_some] at B
    rw [if_pos trivial, f4] at B
    exact ⟨h2, B, I2⟩
  rw [if_neg c3] at B
  by_cases c4 : c = 4
  · rw [if_pos c4] at B
    obtain ⟨v, h1, h2, a, b, I2⟩ := op_make (xs (y + 1)) (xs (y + 2)) (xs (y + 3)) (((Int32.toInt64 (xs (y + 4))) <<< (Int32.toInt64 32 &&& 63)) ||| ((Int32.toInt64 (xs (y + 5))) &&& 4294967295)) I
    simp only [e1, e2, e3, e4, e5, l1, l2, l3, l4, l5, Option.bind_some] at B
    rw [a] at B
    simp only [Option.bind_some] at B
    try simp only [l1, l2, l3, l4, l5, Option.bind_some] at B
    rw [b] at B
    simp only [Option.bind_some] at B
    rw [if_pos trivial, f4] at B
    exact ⟨h2, B, I2⟩
  rw [if_neg c4] at B
  by_cases c5 : c = 5
  · rw [if_pos c5] at B
    obtain ⟨v, h1, h2, a, b, I2⟩ := op_handle (xs (y + 1)) (xs (y + 2)) I
    simp only [e1, e2, e3, e4, e5, l1, l2, l3, l4, l5, Option.bind_some] at B
    rw [a] at B
    simp only [Option.bind_some] at B
    try simp only [l1, l2, l3, l4, l5, Option.bind_some] at B
    rw [b] at B
    simp only [Option.bind_some] at B
    rw [if_pos trivial, f4] at B
    exact ⟨h2, B, I2⟩
  rw [if_neg c5] at B
  by_cases c6 : c = 6
  · rw [if_pos c6] at B
    obtain ⟨v, h1, h2, a, b, I2⟩ := op_constant (xs (y + 1)) I
    simp only [e1, e2, e3, e4, e5, l1, l2, l3, l4, l5, Option.bind_some] at B
    rw [a] at B
    simp only [Option.bind_some] at B
    try simp only [l1, l2, l3, l4, l5, Option.bind_some] at B
    rw [b] at B
    simp only [Option.bind_some] at B
    rw [if_pos (cmp_eq.mpr rfl), f4] at B
    exact ⟨h2, B, I2⟩
  rw [if_neg c6] at B
  by_cases c7 : c = 7
  · rw [if_pos c7] at B
    simp only [e1, e2, e3, e4, e5, l1, l2, l3, l4, l5, Option.bind_some] at B
    by_cases z : xs (y + 4) = 0
    · obtain ⟨v, h1, h2, a, b, I2⟩ := op_field (xs (y + 1)) (xs (y + 2)) (xs (y + 3)) false (xs (y + 5)) I
      rw [if_pos z] at B
      unfold F_470_441 F_470_478 at B
      simp only [e1, e2, e3, e4, e5, l1, l2, l3, l4, l5, Option.bind_some] at B
      rw [show F_267 (xs (y + 1)) (xs (y + 2)) (xs (y + 3)) 0 (xs (y + 5)) h = some (v, h1) from a] at B
      simp only [Option.bind_some] at B
      try simp only [l1, l2, l3, l4, l5, Option.bind_some] at B
      rw [if_pos z] at B
      try simp only [l1, l2, l3, l4, l5, Option.bind_some] at B
      rw [show F_390 (xs (y + 1)) (xs (y + 2)) (xs (y + 3)) 0 (xs (y + 5)) h1 = some (v, h2) from b] at B
      simp only [Option.bind_some] at B
      rw [if_pos trivial, f4] at B
      exact ⟨h2, B, I2⟩
    · obtain ⟨v, h1, h2, a, b, I2⟩ := op_field (xs (y + 1)) (xs (y + 2)) (xs (y + 3)) true (xs (y + 5)) I
      rw [if_neg z] at B
      unfold F_470_441 F_470_478 at B
      simp only [e1, e2, e3, e4, e5, l1, l2, l3, l4, l5, Option.bind_some] at B
      rw [show F_267 (xs (y + 1)) (xs (y + 2)) (xs (y + 3)) 1 (xs (y + 5)) h = some (v, h1) from a] at B
      simp only [Option.bind_some] at B
      try simp only [l1, l2, l3, l4, l5, Option.bind_some] at B
      rw [if_neg z] at B
      try simp only [l1, l2, l3, l4, l5, Option.bind_some] at B
      rw [show F_390 (xs (y + 1)) (xs (y + 2)) (xs (y + 3)) 1 (xs (y + 5)) h1 = some (v, h2) from b] at B
      simp only [Option.bind_some] at B
      rw [if_pos trivial, f4] at B
      exact ⟨h2, B, I2⟩
  rw [if_neg c7] at B
  by_cases c8 : c = 8
  · rw [if_pos c8] at B
    simp only [e1, e2, e3, e4, e5, l1, l2, l3, l4, l5, Option.bind_some] at B
    by_cases z : xs (y + 4) = 0
    · obtain ⟨v, h1, h2, a, b, I2⟩ := op_method (xs (y + 1)) (xs (y + 2)) (xs (y + 3)) false (xs (y + 5)) I
      rw [if_pos z] at B
      unfold F_470_520 F_470_557 at B
      simp only [e1, e2, e3, e4, e5, l1, l2, l3, l4, l5, Option.bind_some] at B
      rw [show F_268 (xs (y + 1)) (xs (y + 2)) (xs (y + 3)) 0 (xs (y + 5)) h = some (v, h1) from a] at B
      simp only [Option.bind_some] at B
      try simp only [l1, l2, l3, l4, l5, Option.bind_some] at B
      rw [if_pos z] at B
      try simp only [l1, l2, l3, l4, l5, Option.bind_some] at B
      rw [show F_391 (xs (y + 1)) (xs (y + 2)) (xs (y + 3)) 0 (xs (y + 5)) h1 = some (v, h2) from b] at B
      simp only [Option.bind_some] at B
      rw [if_pos trivial, f4] at B
      exact ⟨h2, B, I2⟩
    · obtain ⟨v, h1, h2, a, b, I2⟩ := op_method (xs (y + 1)) (xs (y + 2)) (xs (y + 3)) true (xs (y + 5)) I
      rw [if_neg z] at B
      unfold F_470_520 F_470_557 at B
      simp only [e1, e2, e3, e4, e5, l1, l2, l3, l4, l5, Option.bind_some] at B
      rw [show F_268 (xs (y + 1)) (xs (y + 2)) (xs (y + 3)) 1 (xs (y + 5)) h = some (v, h1) from a] at B
      simp only [Option.bind_some] at B
      try simp only [l1, l2, l3, l4, l5, Option.bind_some] at B
      rw [if_neg z] at B
      try simp only [l1, l2, l3, l4, l5, Option.bind_some] at B
      rw [show F_391 (xs (y + 1)) (xs (y + 2)) (xs (y + 3)) 1 (xs (y + 5)) h1 = some (v, h2) from b] at B
      simp only [Option.bind_some] at B
      rw [if_pos trivial, f4] at B
      exact ⟨h2, B, I2⟩
  rw [if_neg c8] at B
  by_cases c9 : c = 9
  · rw [if_pos c9] at B
    obtain ⟨v, h1, h2, a, b, I2⟩ := op_find (xs (y + 1)) (xs (y + 2)) (xs (y + 3)) (xs (y + 4)) (xs (y + 5)) I
    simp only [e1, e2, e3, e4, e5, l1, l2, l3, l4, l5, Option.bind_some] at B
    rw [a] at B
    simp only [Option.bind_some] at B
    try simp only [l1, l2, l3, l4, l5, Option.bind_some] at B
    rw [b] at B
    simp only [Option.bind_some] at B
    rw [if_pos trivial, f4] at B
    exact ⟨h2, B, I2⟩
  rw [if_neg c9] at B
  by_cases c10 : c = 10
  · rw [if_pos c10] at B
    obtain ⟨v, h1, h2, a, b, I2⟩ := op_refused  I
    rw [a] at B
    simp only [Option.bind_some] at B
    rw [b] at B
    simp only [Option.bind_some] at B
    rw [if_pos trivial, f4] at B
    exact ⟨h2, B, I2⟩
  rw [if_neg c10] at B
  by_cases c11 : c = 11
  · rw [if_pos c11] at B
    obtain ⟨v, h1, h2, a, b, I2⟩ := op_target (xs (y + 1)) I
    simp only [e1, e2, e3, e4, e5, l1, l2, l3, l4, l5, Option.bind_some] at B
    rw [a] at B
    simp only [Option.bind_some] at B
    try simp only [l1, l2, l3, l4, l5, Option.bind_some] at B
    rw [b] at B
    simp only [Option.bind_some] at B
    rw [if_pos trivial, f4] at B
    exact ⟨h2, B, I2⟩
  rw [if_neg c11] at B
  by_cases c12 : c = 12
  · rw [if_pos c12] at B
    obtain ⟨v, h1, h2, a, b, I2⟩ := op_aim (xs (y + 1)) (xs (y + 2)) I
    simp only [e1, e2, e3, e4, e5, l1, l2, l3, l4, l5, Option.bind_some] at B
    rw [a] at B
    simp only [Option.bind_some] at B
    try simp only [l1, l2, l3, l4, l5, Option.bind_some] at B
    rw [b] at B
    simp only [Option.bind_some] at B
    rw [if_pos trivial, f4] at B
    exact ⟨h2, B, I2⟩
  rw [if_neg c12] at B
  by_cases c13 : c = 13
  · rw [if_pos c13] at B
    obtain ⟨v, h1, h2, a, b, I2⟩ := op_point  I
    rw [a] at B
    simp only [Option.bind_some] at B
    rw [b] at B
    simp only [Option.bind_some] at B
    rw [if_pos trivial, f4] at B
    exact ⟨h2, B, I2⟩
  rw [if_neg c13] at B
  by_cases c14 : c = 14
  · rw [if_pos c14] at B
    obtain ⟨v, h1, h2, a, b, I2⟩ := op_off (xs (y + 1)) I
    simp only [e1, e2, e3, e4, e5, l1, l2, l3, l4, l5, Option.bind_some] at B
    rw [a] at B
    simp only [Option.bind_some] at B
    try simp only [l1, l2, l3, l4, l5, Option.bind_some] at B
    rw [b] at B
    simp only [Option.bind_some] at B
    rw [if_pos trivial, f4] at B
    exact ⟨h2, B, I2⟩
  rw [if_neg c14] at B
  by_cases c15 : c = 15
  · rw [if_pos c15] at B
    obtain ⟨v, h1, h2, a, b, I2⟩ := op_pass (((Int32.toInt64 (xs (y + 1))) <<< (Int32.toInt64 32 &&& 63)) ||| ((Int32.toInt64 (xs (y + 2))) &&& 4294967295)) I
    simp only [e1, e2, e3, e4, e5, l1, l2, l3, l4, l5, Option.bind_some] at B
    rw [a] at B
    simp only [Option.bind_some] at B
    try simp only [l1, l2, l3, l4, l5, Option.bind_some] at B
    rw [b] at B
    simp only [Option.bind_some] at B
    rw [if_pos trivial, f4] at B
    exact ⟨h2, B, I2⟩
  rw [if_neg c15] at B
  by_cases c16 : c = 16
  · rw [if_pos c16] at B
    obtain ⟨v, h1, h2, a, b, I2⟩ := op_run (xs (y + 1)) (xs (y + 2)) I
    simp only [e1, e2, e3, e4, e5, l1, l2, l3, l4, l5, Option.bind_some] at B
    rw [a] at B
    simp only [Option.bind_some] at B
    try simp only [l1, l2, l3, l4, l5, Option.bind_some] at B
    rw [b] at B
    simp only [Option.bind_some] at B
    rw [if_pos trivial, f4] at B
    exact ⟨h2, B, I2⟩
  rw [if_neg c16] at B
  by_cases c17 : c = 17
  · rw [if_pos c17] at B
    obtain ⟨v, h1, h2, a, b, I2⟩ := op_told (xs (y + 1)) I
    simp only [e1, e2, e3, e4, e5, l1, l2, l3, l4, l5, Option.bind_some] at B
    rw [a] at B
    simp only [Option.bind_some] at B
    try simp only [l1, l2, l3, l4, l5, Option.bind_some] at B
    rw [b] at B
    simp only [Option.bind_some] at B
    rw [if_pos trivial, f4] at B
    exact ⟨h2, B, I2⟩
  rw [if_neg c17] at B
  by_cases c18 : c = 18
  · rw [if_pos c18] at B
    obtain ⟨v, h1, h2, a, b, I2⟩ := op_result  I
    rw [a] at B
    simp only [Option.bind_some] at B
    rw [b] at B
    simp only [Option.bind_some] at B
    rw [if_pos (cmp_eq.mpr rfl), f4] at B
    exact ⟨h2, B, I2⟩
  rw [if_neg c18] at B
  by_cases c19 : c = 19
  · rw [if_pos c19] at B
    obtain ⟨v, h1, h2, a, b, I2⟩ := op_keep  I
    rw [a] at B
    simp only [Option.bind_some] at B
    rw [b] at B
    simp only [Option.bind_some] at B
    rw [if_pos trivial, f4] at B
    exact ⟨h2, B, I2⟩
  rw [if_neg c19] at B
  by_cases c20 : c = 20
  · rw [if_pos c20] at B
    obtain ⟨v, h1, h2, a, b, I2⟩ := op_value (xs (y + 1)) (xs (y + 2)) I
    simp only [e1, e2, e3, e4, e5, l1, l2, l3, l4, l5, Option.bind_some] at B
    rw [a] at B
    simp only [Option.bind_some] at B
    try simp only [l1, l2, l3, l4, l5, Option.bind_some] at B
    rw [b] at B
    simp only [Option.bind_some] at B
    rw [if_pos (cmp_eq.mpr rfl), f4] at B
    exact ⟨h2, B, I2⟩
  rw [if_neg c20] at B
  by_cases c21 : c = 21
  · rw [if_pos c21] at B
    obtain ⟨v, h1, h2, a, b, I2⟩ := op_element (xs (y + 1)) (xs (y + 2)) (xs (y + 3)) I
    simp only [e1, e2, e3, e4, e5, l1, l2, l3, l4, l5, Option.bind_some] at B
    rw [a] at B
    simp only [Option.bind_some] at B
    try simp only [l1, l2, l3, l4, l5, Option.bind_some] at B
    rw [b] at B
    simp only [Option.bind_some] at B
    rw [if_pos (cmp_eq.mpr rfl), f4] at B
    exact ⟨h2, B, I2⟩
  rw [if_neg c21] at B
  by_cases c22 : c = 22
  · rw [if_pos c22] at B
    obtain ⟨h1, h2, a, b, I2⟩ := op_feed (xs (y + 1)) (xs (y + 2)) (xs (y + 3)) (xs (y + 4)) (xs (y + 5)) I
    simp only [e1, e2, e3, e4, e5, l1, l2, l3, l4, l5, Option.bind_some] at B
    rw [a] at B
    simp only [Option.bind_some] at B
    try simp only [l1, l2, l3, l4, l5, Option.bind_some] at B
    rw [b] at B
    simp only [Option.bind_some] at B
    rw [f4] at B
    exact ⟨h2, B, I2⟩
  rw [if_neg c22] at B
  by_cases c23 : c = 23
  · rw [if_pos c23] at B
    obtain ⟨v, h1, h2, a, b, I2⟩ := op_end (xs (y + 1)) I
    simp only [e1, e2, e3, e4, e5, l1, l2, l3, l4, l5, Option.bind_some] at B
    rw [a] at B
    simp only [Option.bind_some] at B
    try simp only [l1, l2, l3, l4, l5, Option.bind_some] at B
    rw [b] at B
    simp only [Option.bind_some] at B
    rw [if_pos trivial, f4] at B
    exact ⟨h2, B, I2⟩
  rw [if_neg c23] at B
  by_cases c24 : c = 24
  · rw [if_pos c24] at B
    obtain ⟨v, h1, h2, a, b, I2⟩ := op_read  I
    rw [a] at B
    simp only [Option.bind_some] at B
    rw [b] at B
    simp only [Option.bind_some] at B
    rw [if_pos trivial, f4] at B
    exact ⟨h2, B, I2⟩
  rw [if_neg c24] at B
  by_cases c25 : c = 25
  · rw [if_pos c25] at B
    obtain ⟨v, h1, h2, a, b, I2⟩ := op_fault (xs (y + 1)) I
    simp only [e1, e2, e3, e4, e5, l1, l2, l3, l4, l5, Option.bind_some] at B
    rw [a] at B
    simp only [Option.bind_some] at B
    try simp only [l1, l2, l3, l4, l5, Option.bind_some] at B
    rw [b] at B
    simp only [Option.bind_some] at B
    rw [if_pos trivial, f4] at B
    exact ⟨h2, B, I2⟩
  rw [if_neg c25] at B
  by_cases c26 : c = 26
  · rw [if_pos c26] at B
    obtain ⟨v, h1, h2, a, b, I2⟩ := op_named (((Int32.toInt64 (xs (y + 1))) <<< (Int32.toInt64 32 &&& 63)) ||| ((Int32.toInt64 (xs (y + 2))) &&& 4294967295)) I
    simp only [e1, e2, e3, e4, e5, l1, l2, l3, l4, l5, Option.bind_some] at B
    rw [a] at B
    simp only [Option.bind_some] at B
    try simp only [l1, l2, l3, l4, l5, Option.bind_some] at B
    rw [b] at B
    simp only [Option.bind_some] at B
    rw [if_pos trivial, f4] at B
    exact ⟨h2, B, I2⟩
  rw [if_neg c26] at B
  by_cases c27 : c = 27
  · rw [if_pos c27] at B
    simp only [e1, e2, e3, e4, e5, l1, l2, l3, l4, l5, Option.bind_some] at B
    by_cases z : xs (y + 3) = 0
    · obtain ⟨v, h1, h2, a, b, I2⟩ := op_may (xs (y + 1)) (xs (y + 2)) false I
      rw [if_pos z] at B
      unfold F_470_1149 F_470_1176 at B
      simp only [e1, e2, e3, e4, e5, l1, l2, l3, l4, l5, Option.bind_some] at B
      rw [show F_287 (xs (y + 1)) (xs (y + 2)) 0 h = some (v, h1) from a] at B
      simp only [Option.bind_some] at B
      try simp only [l1, l2, l3, l4, l5, Option.bind_some] at B
      rw [if_pos z] at B
      rw [show F_469 (xs (y + 1)) (xs (y + 2)) 0 h1 = some (v, h2) from b] at B
      simp only [Option.bind_some] at B
      rw [if_pos trivial, f4] at B
      exact ⟨h2, B, I2⟩
    · obtain ⟨v, h1, h2, a, b, I2⟩ := op_may (xs (y + 1)) (xs (y + 2)) true I
      rw [if_neg z] at B
      unfold F_470_1149 F_470_1176 at B
      simp only [e1, e2, e3, e4, e5, l1, l2, l3, l4, l5, Option.bind_some] at B
      rw [show F_287 (xs (y + 1)) (xs (y + 2)) 1 h = some (v, h1) from a] at B
      simp only [Option.bind_some] at B
      try simp only [l1, l2, l3, l4, l5, Option.bind_some] at B
      rw [if_neg z] at B
      rw [show F_469 (xs (y + 1)) (xs (y + 2)) 1 h1 = some (v, h2) from b] at B
      simp only [Option.bind_some] at B
      rw [if_pos trivial, f4] at B
      exact ⟨h2, B, I2⟩
  rw [if_neg c27] at B
  rw [f4] at B
  exact ⟨h, B, I⟩
theorem lw_out (hL : L ≤ 3072) (y1 : y ≤ 3072) (hy : ¬ y + 6 ≤ L) : F_470_18B L xs (I3 y, h) = some (.inr (1, h)) := by
  unfold F_470_18B
  simp only []
  rw [show sm_al (P_G L xs) h 1000004 = some (I3 L) from rfl]
  simp only [Option.bind_some]
  refine if_pos ?_
  by_cases q : 6 ≤ L
  · rw [show I3 L - 6 = I3 (L - 6) from I3_sub (a := L) (b := 6) q, I3_lt (by omega) (by omega)]; omega
  · have n : I3 L - 6 < 0 := by
      rcases (show L = 0 ∨ L = 1 ∨ L = 2 ∨ L = 3 ∨ L = 4 ∨ L = 5 by omega) with rfl | rfl | rfl | rfl | rfl | rfl <;> decide
    have p : (0 : Int32) ≤ I3 y := by rw [I3_lit, I3_le (by decide) (by omega)]; omega
    exact Int32.lt_of_lt_of_le n p
theorem lw_all (hL : L ≤ 3072) (I : I0 h) : ∃ r, F_470_18 L xs 0 h = some (1, r) ∧ I0 r := by
  have LP : ∀ c y fu (u : sm_H), L - y < c → c ≤ fu → y ≤ 3072 → I0 u → ∃ r, lp (F_470_18B L xs) fu (I3 y, u) = some (1, r) ∧ I0 r := by
    intro c
    induction c with
    | zero => intro y fu u hc; omega
    | succ c ih =>
      intro y fu u hc hf y1 I
      by_cases q : y + 6 ≤ L
      · obtain ⟨h1, b1, b2'⟩ := lw_in (xs := xs) hL q I
        obtain ⟨r, r1, r2⟩ := ih (y + 6) (fu - 1) h1 (by omega) (by omega) (by omega) b2'
        exact ⟨r, by rw [lp_s (by omega) b1]; exact r1, r2⟩
      · exact ⟨u, lp_e (by omega) (lw_out hL y1 q), I⟩
  exact LP (L + 1) 0 1000000 h (by omega) (by omega) (by omega) I
theorem lw_room (I : I0 h) : h.n ≤ 400000 ∧ h.sl ≤ 6000000 := by
  obtain ⟨wK, cK, wT, cT, wH, cH, wM, cM, cR, cP, cG, cO, cV, wX, cX, cXh, cU, cY, cF, cZ, wF⟩ := I
  have x1 : nX h ≤ 1000 := wX.1.2
  have a : h.n = 3 * nX h := cXh.1
  have b : h.sl ≤ 202 * nX h := cXh.2.1
  omega
end
