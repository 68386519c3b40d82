theorem kn_inj : ∀ i j : Fin 32, P_KN.getD i 0 = P_KN.getD j 0 → i = j := by decide +kernel
theorem fsp (f : Nat → Int64) (N : Nat) (inj : ∀ i j, i < N → j < N → f i = f j → i = j) (x : Int64) : fst1 (fun i => decide (f i = x)) N ≤ N ∧ (fst1 (fun i => decide (f i = x)) N < N → f (fst1 (fun i => decide (f i = x)) N) = x) ∧ ∀ j, j < N → f j = x → j = fst1 (fun i => decide (f i = x)) N := by
  have s := fst1_spec (fun i => decide (f i = x)) N
  generalize fst1 (fun i => decide (f i = x)) N = c at s
  refine ⟨s.1, fun h => of_decide_eq_true (s.2.2 h), fun j hj e => ?_⟩
  have k1 : c ≤ j := by
    rcases Nat.lt_or_ge j c with z | z
    · have := s.2.1 j z
      rw [decide_eq_true e] at this; cases this
    · exact z
  have e2 : f c = x := of_decide_eq_true (s.2.2 (Nat.lt_of_le_of_lt k1 hj))
  exact inj j c hj (Nat.lt_of_le_of_lt k1 hj) (e.trans e2.symm)
theorem kf_spec (x : Int64) : kf x ≤ 32 ∧ (kf x < 32 → P_KN.getD (kf x) 0 = x) ∧ ∀ j, j < 32 → P_KN.getD j 0 = x → j = kf x := fsp (fun i => P_KN.getD i 0) 32 (fun i j hi hj e => congrArg Fin.val (kn_inj ⟨i, hi⟩ ⟨j, hj⟩ e)) x
section
variable {n : Nat} {bt : Nat → Nat} {o T k : Nat} {nm : Nat → Int64} {kd : List Int32} {h g : sm_H}
theorem C_kind (K : K1 h g) {x : Int64} (ex : h.2.1 52 10 = x) : ∀ r i fu, i + r = 32 → r < fu → lp F_176_20B fu (I3 i, h) = if i ≤ kf x ∧ kf x < 20 + nC g then some (I3 (kf x), h) else F_170 6 h := by
  have h12 := K.1.2.1
  have ks := kf_spec x
  intro r
  induction r with
  | zero =>
    intro i fu hi hf
    have e : i = 32 := by omega
    subst e
    rw [lp_oK (by omega)]
    unfold F_176_20B
    simp only []
    rw [show sm_al G0 h 2000001 = some 32 from rfl]; simp only [obs]
    rw [if_pos (by decide), if_neg (by omega)]
    cases F_170 6 h <;> rfl
  | succ r ih =>
    intro i fu hi hf
    have ld : sm_ldJ G0 h 2000001 (I3 i) = some (P_KN.getD i 0) := by
      rcases (show i = 0 ∨ i = 1 ∨ i = 2 ∨ i = 3 ∨ i = 4 ∨ i = 5 ∨ i = 6 ∨ i = 7 ∨ i = 8 ∨ i = 9 ∨ i = 10 ∨ i = 11 ∨ i = 12 ∨ i = 13 ∨ i = 14 ∨ i = 15 ∨ i = 16 ∨ i = 17 ∨ i = 18 ∨ i = 19 ∨ i = 20 ∨ i = 21 ∨ i = 22 ∨ i = 23 ∨ i = 24 ∨ i = 25 ∨ i = 26 ∨ i = 27 ∨ i = 28 ∨ i = 29 ∨ i = 30 ∨ i = 31 by omega) with rfl | rfl | rfl | rfl | rfl | rfl | rfl | rfl | rfl | rfl | rfl | rfl | rfl | rfl | rfl | rfl | rfl | rfl | rfl | rfl | rfl | rfl | rfl | rfl | rfl | rfl | rfl | rfl | rfl | rfl | rfl | rfl <;> rfl
    have B : F_176_20B (I3 i, h) = if P_KN.getD i 0 = x ∧ i < 20 + nC g then some (.inr (I3 i, h)) else some (.inl (I3 (i + 1), h)) := by
      unfold F_176_20B F_176_57
      simp only []
      rw [show sm_al G0 h 2000001 = some 32 from rfl]; simp only [obs]
      rw [if_neg (by rw [I3_lit, I3_le (by decide) (by omega)]; omega), ld]; simp only [obs]
      rw [show F_248 h = some (h.2.1 52 10, h) from rfl, ex]; simp only [obs]
      rw [show I3 i + 1 = I3 (i + 1) from I3_add i 1]
      by_cases q : P_KN.getD i 0 = x
      · rw [if_pos (cmp_eq.mpr q), C_has K.1 K.2.1, inR_I (by omega)]; simp only [obs]
        by_cases w : i < 20 + nC g
        · rw [decide_eq_true w, if_neg (by decide), if_pos ⟨q, w⟩]
        · rw [decide_eq_false w, if_pos (by decide), if_neg (fun z => w z.2)]
      · rw [if_neg (fun z => q (cmp_eq.mp z)), if_neg (fun z => q z.1)]
    by_cases q : P_KN.getD i 0 = x ∧ i < 20 + nC g
    · rw [if_pos q] at B
      have e := ks.2.2 i (by omega) q.1
      rw [lp_e (by omega) B, if_pos (by omega), e]
    · rw [if_neg q] at B
      rw [lp_s (by omega) B, ih (i + 1) (fu - 1) (by omega) (by omega)]
      by_cases w : i ≤ kf x ∧ kf x < 20 + nC g
      · have : i ≠ kf x := fun z => q ⟨by rw [z]; exact ks.2.1 (by omega), by omega⟩
        rw [if_pos w, if_pos (by omega)]
      · rw [if_neg w, if_neg (by omega)]
theorem R_kindN (K : K1 h g) {m : Nat} (hm : m < 2 ^ 63) : F_422 (I6 m) g = some (if kf (I6 m) < 20 + nC g then I3 (kf (I6 m)) else -1, g) := by
  have h12 := K.1.2.1
  have nc : g.1 67 6 = I3 (nC g) := K.1.1
  have ks := kf_spec (I6 m)
  by_cases q : kf (I6 m) < 32
  · have e := ks.2.1 q
    by_cases w : kf (I6 m) < 20
    · have := k422a (g := g) w
      rw [e] at this
      rw [this, if_pos (by omega)]
    · have := k422b (g := g) (i := kf (I6 m)) (by omega) q
      rw [e] at this
      rw [this, nc]
      by_cases z : kf (I6 m) < 20 + nC g
      · rw [if_neg (by rw [I3_le (by omega) (by omega)]; omega), if_pos z]
      · rw [if_pos (by rw [I3_le (by omega) (by omega)]; omega), if_neg z]
  · rw [if_neg (by omega)]
    exact k422n hm (fun i hi z => by have := ks.2.2 i hi z; omega)
theorem men_127 {f : Nat} : ∀ j, f + j < men n bt f → bt (f + j) ≤ 127 := fun j hj => by
  have := (far_all (fun j => isL (bt j) || isD (bt j)) n n f (f + j) (by omega) hj).2
  have z : isL (bt (f + j)) = true ∨ isD (bt (f + j)) = true := Bool.or_eq_true_iff.mp this
  rcases z with z | z
  · unfold isL at z; have := of_decide_eq_true z; omega
  · unfold isD at z; have := of_decide_eq_true z; omega
theorem name_6 {f : Nat} (w : wrd n bt f = 4) : ∃ m, m < 2 ^ 63 ∧ foldN bt f (men n bt f - f) = I6 m := by
  have l8 : men n bt f - f ≤ 8 := by
    unfold wrd at w
    repeat' split at w
    all_goals first | assumption | (cases w)
  have := foldN_M bt f (men n bt f - f) l8 (fun j hj => men_127 (n := n) j (by omega))
  exact ⟨_, this.2, this.1⟩
theorem kindB (z : Bool) (s : TS n bt T k nm kd h g) {f : Nat} (c : CB n bt f h) (r : RB n bt f g) : (∃ i h1 g1, F_176 (b2 z) h = some (I3 i, h1) ∧ F_424 (b2 z) g = some (1, g1) ∧ g1.1 67 105 = I3 i ∧ i < 20 + nC g ∧ (z = false → 0 < i) ∧ TS n bt T k nm kd h1 g1 ∧ CB n bt (nx n bt f) h1 ∧ RB n bt (nx n bt f) g1 ∧ f < nx n bt f ∧ XT T k h g h1 g1 ∧ agr S52 h h1 ∧ agr (fun b j => SLx b j ∨ b = 67 ∧ j = 105) g g1) ∨ ∃ e h2 g2, F_176 (b2 z) h = some (-1, h2) ∧ F_424 (b2 z) g = some (0, g2) ∧ FT e f h2 g2 ∧ XT T k h g h2 g2 := by
  have fn := RB_n r
  have C0 : F_176 (b2 z) h = F_176_0 (b2 z) h := rfl
  unfold F_176_0 F_176_19 at C0
  have R0 : F_424 (b2 z) g = refE 1 (fun u => (F_422 (u.2.1 67 83) u).bind fun q4 => (some (sm_wI q4.2 67 105 q4.1)).bind fun h5 => if (h5.1 67 105) = (-1) then (F_424_53 h5) else (if (h5.1 67 105) = 0 then (if b2 z = 0 then (F_424_53 h5) else (F_424_64 h5)) else (F_424_64 h5))) g := rfl
  rw [C0, R0]
  rcases expect (x := 4) (by decide) s (f := f) c r with ⟨q, h1, g1, a1, a2, a3, a4, a5, a6, a7, a8⟩ | ⟨q, h2, g2, a1, a2, a3, a4⟩
  · obtain ⟨m, m1, m2⟩ := name_6 q
    have ec : h1.2.1 52 10 = I6 m := (a3.2.2.2.2.2.1 q).trans m2
    have er : g1.2.1 67 83 = I6 m := (a4.2.2.2.2.2.1 q).trans m2
    have h12 := a5.K.1.2.1
    have nce : nC g1 = nC g := by show tn _ = tn _; rw [a7.1 67 6 (by unfold SLx; omega)]
    have ks := kf_spec (I6 m)
    rw [show F_172 4 h = some (1, h1) from a1, show refE 1 _ g = _ from a2 _, er, R_kindN a5.K m1]; simp only [obs]
    rw [if_neg (show ¬ (1 : Int32) = 0 by decide)]
    have CC : (if b2 z = 0 then F_176_20 1 h1 else F_176_20 0 h1) = if (if z = false then 1 else 0) ≤ kf (I6 m) ∧ kf (I6 m) < 20 + nC g1 then some (I3 (kf (I6 m)), h1) else F_170 6 h1 := by
      cases z with
      | false => rw [if_pos (by decide)]; exact C_kind a5.K ec 31 1 1000000 (by decide) (by decide)
      | true => rw [if_neg (by decide)]; exact C_kind a5.K ec 32 0 1000000 (by decide) (by decide)
    rw [CC]
    have x1 : ∀ y, agr (fun b j => SLx b j ∨ b = 67 ∧ j = 105) g (sm_wI g1 67 105 y) := fun y => agr_wI (agr_mono (fun b j z => Or.inl z) a7) (Or.inr ⟨rfl, rfl⟩)
    have x2 : ∀ (b j : Nat), (SLx b j ∨ b = 67 ∧ j = 105) → (SLx b j ∨ (b = 67 ∧ (j = 105 ∨ j = 106 ∨ j = 108))) := fun b j z => by
      rcases z with z | z
      · exact Or.inl z
      · exact Or.inr ⟨z.1, Or.inl z.2⟩
    have bad : ∀ y, ∃ h2 g2, F_170 6 h1 = some (-1, h2) ∧ F_424_53 (sm_wI g1 67 105 y) = some (0, g2) ∧ FT 6 f h2 g2 ∧ XT T k h g h2 g2 := fun y => by
      obtain ⟨S2, X2⟩ := TS_x (T' := T) (k' := k) s a6 (agr_mono x2 (x1 y))
      obtain ⟨h2, g2, f1, f2, f3, f4⟩ := XT_fail S2 (T' := T) (k' := k) (e := 6) (f := f) (by decide) (by decide)
      refine ⟨h2, g2, by rw [C_170 a3]; exact f1, ?_, f3, XT_trans X2 f4⟩
      unfold F_424_53
      rw [show (sm_wI g1 67 105 y).1 67 81 = I3 f from a4.2.1, show F_413 6 (I3 f) (sm_wI g1 67 105 y) = some (0, g2) from f2]; simp only [obs]
      rw [if_pos (Or.inl trivial)]
    by_cases w : (if z = false then 1 else 0) ≤ kf (I6 m) ∧ kf (I6 m) < 20 + nC g1
    · left
      rw [if_pos w, if_pos w.2]
      obtain ⟨S2, X2⟩ := TS_x (T' := T) (k' := k) s a6 (agr_mono x2 (x1 (I3 (kf (I6 m)))))
      obtain ⟨g2, t1, t2, t3, t4⟩ := take_R S2 fn (show LXR n bt f (sm_wI g1 67 105 (I3 (kf (I6 m)))) from a4)
      have ag := agr_trans (x1 (I3 (kf (I6 m)))) (agr_mono (fun b j z => Or.inl ⟨z.1, by omega, by omega⟩) t4)
      refine ⟨kf (I6 m), h1, g2, rfl, ?_, t4.1 67 105 (by omega), by omega, fun e => ?_, t3, CB_nx fn a3 (by omega), t2, ?_, (TS_x s a6 (agr_mono x2 ag)).2, a6, ag⟩
      · rw [show (sm_wI g1 67 105 (I3 (kf (I6 m)))).1 67 105 = I3 (kf (I6 m)) from rfl, if_neg (I3_m1 (by omega))]
        have fin : F_424_64 (sm_wI g1 67 105 (I3 (kf (I6 m)))) = some (1, g2) := by
          unfold F_424_64
          rw [t1]; rfl
        rw [fin]
        by_cases y : I3 (kf (I6 m)) = 0
        · rw [if_pos y]
          have k0 : kf (I6 m) = 0 := by rw [I3_lit, I3_inj (by omega) (by decide)] at y; exact y
          cases z with
          | false => rw [k0] at w; exact absurd w.1 (by decide)
          | true => rw [if_neg (by decide)]
        · rw [if_neg y]
      · rw [if_pos e] at w; omega
      · have := (wen_n (n := n) (bt := bt) fn).2.2 (by omega) (by omega)
        exact Nat.lt_of_lt_of_le this (far_ge _ _ _ _)
    · right
      rw [if_neg w]
      by_cases y : kf (I6 m) < 20 + nC g1
      · rw [if_pos y]
        obtain ⟨h2, g2, b1, b2', b3, b4⟩ := bad (I3 (kf (I6 m)))
        refine ⟨6, h2, g2, b1, ?_, b3, b4⟩
        cases z with
        | true => exact absurd ⟨Nat.zero_le _, y⟩ w
        | false =>
          have k0 : kf (I6 m) = 0 := by
            rw [if_pos rfl] at w; omega
          rw [show (sm_wI g1 67 105 (I3 (kf (I6 m)))).1 67 105 = I3 (kf (I6 m)) from rfl, if_neg (I3_m1 (by omega)), if_pos (by rw [k0]; rfl), if_pos (by decide)]
          exact b2'
      · rw [if_neg y]
        obtain ⟨h2, g2, b1, b2', b3, b4⟩ := bad (-1)
        refine ⟨6, h2, g2, b1, ?_, b3, b4⟩
        rw [show (sm_wI g1 67 105 (-1)).1 67 105 = -1 from rfl, if_pos rfl]
        exact b2'
  · right
    rw [show F_172 4 h = some (0, h2) from a1, show refE 1 _ g = _ from a2 _]; simp only [obs]
    exact ⟨_, h2, g2, by rw [if_pos trivial], rfl, a3, a4⟩
end
