section
variable {n : Nat} {bt : Nat → Nat} {o T k : Nat} {nm : Nat → Int64} {kd : List Int32} {h g : sm_H}
def ws (nm : Nat → Int64) (kd : List Int32) (x : Int64) : Nat := fst1 (fun i => decide (nm i = x)) kd.length
theorem ws_le (x : Int64) : ws nm kd x ≤ kd.length := (fst1_spec _ _).1
theorem C_181 (S : SCO nm kd h g) (x : Int64) : F_181 x h = some (if ws nm kd x < kd.length then I3 (ws nm kd x) else -1, h) := by
  obtain ⟨s1, s2, s3, s4, s5⟩ := S
  have L := lp_fst (body := F_181_2B) (fun i => decide (nm i = x)) kd.length (fun k => (x, I3 k, h)) (fun k => (I3 k, h)) (-1, h) (f := 1000000) (by omega) (fun i hi e => ?_) (fun i hi e => ?_) ?_
  · refine Eq.trans (show F_181 x h = lp F_181_2B 1000000 (x, I3 0, h) from rfl) (L.trans ?_)
    unfold ws
    split <;> rfl
  · show F_181_2B (x, I3 i, h) = _
    unfold F_181_2B
    simp only []
    rw [s1, if_neg (by rw [I3_le (by omega) (by omega)]; omega), if_neg (by rw [I3_lit, I3_le (by decide) (by omega)]; omega), ldJ_I (by omega) (by decide), (s5 i hi).1]; simp only [obs]
    first
    | rw [if_neg (fun z => (of_decide_eq_false e) (cmp_eq.mp z)), show I3 i + 1 = I3 (i + 1) from I3_add i 1]
    | rw [if_pos (cmp_eq.mpr (of_decide_eq_true e))]
  · show F_181_2B (x, I3 i, h) = _
    unfold F_181_2B
    simp only []
    rw [s1, if_neg (by rw [I3_le (by omega) (by omega)]; omega), if_neg (by rw [I3_lit, I3_le (by decide) (by omega)]; omega), ldJ_I (by omega) (by decide), (s5 i hi).1]; simp only [obs]
    first
    | rw [if_neg (fun z => (of_decide_eq_false e) (cmp_eq.mp z)), show I3 i + 1 = I3 (i + 1) from I3_add i 1]
    | rw [if_pos (cmp_eq.mpr (of_decide_eq_true e))]
  · show F_181_2B (x, I3 kd.length, h) = _
    unfold F_181_2B F_181_35
    simp only []
    rw [s1, if_pos (by rw [I3_le (by omega) (by omega)]; omega)]; rfl
theorem R_83 (S : SCO nm kd h g) {x : Int64} (e83 : g.2.1 67 83 = x) : F_448_83 (I3 (400 - kd.length)) g = F_448_110 (I3 (400 - kd.length + ws nm kd x)) g := by
  obtain ⟨s1, s2, s3, s4, s5⟩ := S
  have sp := fst1_spec (fun i => decide (nm i = x)) kd.length
  have LP : ∀ r i fu, i + r = kd.length → r < fu → i ≤ ws nm kd x → lp F_448_83B fu (I3 (400 - kd.length + i), g) = F_448_110 (I3 (400 - kd.length + ws nm kd x)) g := by
    intro r
    induction r with
    | zero =>
      intro i fu hi hf hw
      have e : ws nm kd x = kd.length := by have := ws_le (nm := nm) (kd := kd) x; omega
      rw [lp_oK (by omega), e]
      unfold F_448_83B
      simp only []
      rw [if_pos (by rw [I3_lit, I3_le (by decide) (by omega)]; omega), show i = kd.length by omega, oKm]
    | succ r ih =>
      intro i fu hi hf hw
      have z := (s5 i (by omega)).2.2.1
      by_cases q : nm i = x
      · have e : ws nm kd x = i := by
          rcases Nat.lt_or_ge i (ws nm kd x) with y | y
          · have := sp.2.1 i y
            rw [decide_eq_true q] at this; cases this
          · omega
        rw [lp_oK (by omega), e]
        unfold F_448_83B
        simp only []
        rw [if_neg (by rw [I3_lit, I3_le (by decide) (by omega)]; omega), ldJ_I (by omega) (by decide), z, e83]; simp only [obs]
        rw [if_pos (cmp_eq.mpr q), oKm]
      · have hw' : i + 1 ≤ ws nm kd x := by
          rcases Nat.lt_or_ge i (ws nm kd x) with y | y
          · exact y
          · have e : ws nm kd x = i := by omega
            have : nm (ws nm kd x) = x := of_decide_eq_true (sp.2.2 (show ws nm kd x < kd.length by omega))
            rw [e] at this; exact absurd this q
        rw [lp_s (s' := (I3 (400 - kd.length + (i + 1)), g)) (by omega) (by
          unfold F_448_83B
          simp only []
          rw [if_neg (by rw [I3_lit, I3_le (by decide) (by omega)]; omega), ldJ_I (by omega) (by decide), z, e83]; simp only [obs]
          rw [if_neg (fun w => q (cmp_eq.mp w)), show I3 (400 - kd.length + i) + 1 = I3 (400 - kd.length + (i + 1)) from I3_add _ 1])]
        exact ih (i + 1) (fu - 1) (by omega) (by omega) hw'
  exact LP kd.length 0 1000000 (by omega) (by omega) (Nat.zero_le _)
end
