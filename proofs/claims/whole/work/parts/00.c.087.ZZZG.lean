theorem B_le {g : sm_H} (wK : wfK g) {o : Nat} (ho : 20 ≤ o) : ∀ x, x < 20 + nC g → B g x o = true → o ≤ x := by
  intro x
  induction x using Nat.strongRecOn with
  | ind x ih =>
  intro hx h
  have x20 := B_up h ho
  rw [B_ge20 wK hx x20, Bool.or_eq_true] at h
  have pp := (wK.2.2 (x - 20) (by omega)).2
  rcases h with q | q
  · have := Nat.eq_of_beq_eq_true q; omega
  · have p20 := B_up q ho
    have := ih (par g (x - 20)) (by omega) (by omega) q; omega
theorem B_anti {g : sm_H} (wK : wfK g) {a b : Nat} (ha : 20 ≤ a) (hb : 20 ≤ b) (ha' : a < 20 + nC g) (hb' : b < 20 + nC g) (h1 : B g a b = true) (h2 : B g b a = true) : a = b := by
  have := B_le wK hb a ha' h1
  have := B_le wK ha b hb' h2
  omega
theorem B_total {g : sm_H} (wK : wfK g) {a b : Nat} (ha : 20 ≤ a) (hb : 20 ≤ b) : ∀ x, x < 20 + nC g → B g x a = true → B g x b = true → B g a b = true ∨ B g b a = true := by
  intro x
  induction x using Nat.strongRecOn with
  | ind x ih =>
  intro hx h1 h2
  have x20 := B_up h1 ha
  have pp := (wK.2.2 (x - 20) (by omega)).2
  by_cases q1 : x = a
  · subst q1; exact Or.inl h2
  · by_cases q2 : x = b
    · subst q2; exact Or.inr h1
    · rw [B_ge20 wK hx x20, Bool.or_eq_true] at h1 h2
      have h1 := h1.resolve_left (fun z => q1 (Nat.eq_of_beq_eq_true z))
      have h2 := h2.resolve_left (fun z => q2 (Nat.eq_of_beq_eq_true z))
      have p20 := B_up h1 ha
      exact ih (par g (x - 20)) (by omega) (by omega) h1 h2
theorem B_par1 {g : sm_H} (wK : wfK g) {x o : Nat} (hx : x < 20 + nC g) (ho : 20 ≤ o) (h : B g x o = true) (ne : x ≠ o) : 20 ≤ x ∧ B g (par g (x - 20)) o = true ∧ 20 ≤ par g (x - 20) ∧ par g (x - 20) < x ∧ g.1 70 (x - 20) = I3 (par g (x - 20)) := by
  have x20 := B_up h ho
  have pp := wK.2.2 (x - 20) (by omega)
  rw [B_ge20 wK hx x20, Bool.or_eq_true] at h
  have h := h.resolve_left (fun z => ne (Nat.eq_of_beq_eq_true z))
  have p20 := B_up h ho
  exact ⟨x20, h, p20, by omega, pp.1⟩
abbrev ow (g : sm_H) (n : Nat) : Nat := tn (g.1 83 n)
abbrev cand (g : sm_H) (m n : Nat) : Prop := g.1 87 n = 0 ∧ g.1 86 n = 0 ∧ g.1 85 n ≠ 0 ∧ g.1 84 n = g.1 84 m ∧ g.1 89 n = g.1 89 m ∧ mkB g n = false
theorem ow_ok {g : sm_H} (wK : wfK g) (wM : wfM g) {n : Nat} (hn : n < nM g) : 20 ≤ ow g n ∧ ow g n < 20 + nC g ∧ g.1 83 n = I3 (ow g n) := by
  obtain ⟨c, c1, c2⟩ := (wM.2.2 n hn).1
  have h12 := wK.2.1
  have e : ow g n = 20 + c := by show tn _ = _; rw [c2, tnI (by omega)]
  rw [e]; exact ⟨by omega, by omega, c2⟩
theorem C_cand {h g : sm_H} (K : K1 h g) {m n : Nat} (hm : m < nM g) (hn : n < nM g) (m87 : g.1 87 m = 0) : F_134 (I3 n) (I3 m) h = some (b2 (decide (cand g m n)), h) := by
  have wK := K.1
  have wT := K.2.2.1
  have cTq := K.2.2.2.1
  have wM := K.2.2.2.2.2.2.1
  have cMq := K.2.2.2.2.2.2.2.1
  have m100 : nM g ≤ 100 := wM.1.2
  obtain ⟨y1, y2, y3, y4, y5, y6⟩ := cMq.2.2 n hn
  obtain ⟨x1, x2, x3, x4, x5, x6⟩ := cMq.2.2 m hm
  show F_134_0 (I3 n) (I3 m) h = _
  unfold F_134_0 F_134_68 F_134_69
  rw [ldI_I (by omega) (by omega), ldI_I (by omega) (by omega), ldI_I (by omega) (by omega), ldI_I (by omega) (by omega), y2, x2, (x6 m87).2.2.1]; simp only [obs]
  simp only [true_or, or_true, if_true]
  rw [C_kindOf wM cMq hn]; simp only [obs]
  rw [ldZ_I (by omega) (by omega), y4]; simp only [obs]
  rw [C_isMaker wK wT cTq wM cMq hn]; simp only [obs]
  rw [ldI_I (by omega) (by omega), y3]; simp only [obs]
  have no : ¬ cand g m n → some ((0 : Int32), h) = some (b2 (decide (cand g m n)), h) := fun c => by rw [decide_eq_false c]; rfl
  by_cases c1 : g.1 84 n = g.1 84 m
  · rw [if_pos c1]
    rcases (wM.2.2 n hn).2.2.2.2 with ⟨w1, w2, w3, -⟩ | ⟨w1, -⟩
    · have e45 : h.1 45 n = -1 := (y5 w1).2.2.1
      obtain ⟨t, t1, t2⟩ : ∃ t, t < nT g ∧ g.1 89 m = I3 t := by
        rcases (wM.2.2 m hm).2.2.2.2 with z | z
        · rw [z.1] at m87; exact absurd m87 (by decide)
        · exact z.2.2
      have w300 : nT g ≤ 300 := wT.1.2
      rw [e45, if_neg (fun (z : (-1 : Int32) = g.1 89 m) => I3_m1 (a := t) (by omega) (t2.symm.trans z.symm))]
      exact no (fun z => absurd (w1.symm.trans z.1) (by decide))
    · rw [(y6 w1).2.2.1]
      by_cases c2 : g.1 89 n = g.1 89 m
      · rw [if_pos c2, if_pos (show (if g.1 87 n = 1 then g.1 88 n else 0) = 0 from if_neg (by rw [w1]; decide))]
        by_cases c3 : g.1 86 n = 0
        · rw [if_pos c3]
          by_cases c4 : mkB g n = false
          · rw [if_pos (show b2 (mkB g n) = 0 by rw [c4]; rfl)]
            by_cases c5 : g.1 85 n = 0
            · rw [if_pos c5]; exact no (fun z => z.2.2.1 c5)
            · rw [if_neg c5, decide_eq_true (show cand g m n from ⟨w1, c3, c5, c1, c2, c4⟩)]; rfl
          · rw [if_neg (show ¬ b2 (mkB g n) = 0 by rw [Bool.not_eq_false] at c4; rw [c4]; decide)]; exact no (fun z => c4 z.2.2.2.2.2)
        · rw [if_neg c3]; exact no (fun z => c3 z.2.1)
      · rw [if_neg c2]; exact no (fun z => c2 z.2.2.2.2.1)
  · rw [if_neg c1]; exact no (fun z => c1 z.2.2.2.1)
section
variable {h g : sm_H} {m y n : Nat}
theorem s164 (K : K1 h g) (hm : m < nM g) (hn : n < nM g) : F_363_164B (I3 m, I3 y, I3 n, g) = if g.1 83 n = I3 y ∧ cand g m n then some (.inr (g.1 90 n, g)) else some (.inl (I3 m, I3 y, I3 (n + 1), g)) := by
  have wM := K.2.2.2.2.2.2.1
  have m100 : nM g ≤ 100 := wM.1.2
  have no : ¬ (g.1 83 n = I3 y ∧ cand g m n) → F_363_259 (I3 m) (I3 y) (I3 n) g = if g.1 83 n = I3 y ∧ cand g m n then some (.inr (g.1 90 n, g)) else some (.inl (I3 m, I3 y, I3 (n + 1), g)) := fun c => by
    rw [if_neg c]
    unfold F_363_259 F_363_260
    rw [if_pos rfl]; simp only [obs]
    rw [show I3 n + 1 = I3 (n + 1) from I3_add n 1]
  unfold F_363_164B
  rw [show g.1 67 32 = I3 (nM g) from wM.1.1, if_neg (by rw [I3_le (by omega) (by omega)]; omega), ldI_I (by omega) (by decide)]; simp only [obs]
  by_cases c0 : g.1 83 n = I3 y
  · rw [if_pos c0, ldZ_I (by omega) (by decide)]; simp only [obs]
    by_cases c1 : g.1 87 n = 0
    · rw [if_pos c1, ldZ_I (by omega) (by decide)]; simp only [obs]
      by_cases c2 : g.1 86 n = 0
      · rw [if_pos c2, ldI_I (by omega) (by decide)]; simp only [obs]
        by_cases c3 : g.1 85 n = 0
        · rw [if_pos c3]; exact no (fun z => z.2.2.2.1 c3)
        · rw [if_neg c3, ldI_I (by omega) (by decide), ldI_I (by omega) (by decide)]; simp only [obs]
          by_cases c4 : g.1 84 n = g.1 84 m
          · rw [if_pos c4, ldI_I (by omega) (by decide), ldI_I (by omega) (by decide)]; simp only [obs]
            by_cases c5 : g.1 89 n = g.1 89 m
            · rw [if_pos c5, R_isMaker K.2.2.1 wM hn]; simp only [obs]
              by_cases c6 : mkB g n = false
              · rw [if_pos (show b2 (mkB g n) = 0 by rw [c6]; rfl), if_pos ⟨c0, c1, c2, c3, c4, c5, c6⟩]
                unfold F_363_260
                rw [if_neg (by decide), ldI_I (by omega) (by decide)]; simp only [obs]
              · rw [if_neg (show ¬ b2 (mkB g n) = 0 by rw [Bool.not_eq_false] at c6; rw [c6]; decide)]; exact no (fun z => c6 z.2.2.2.2.2.2)
            · rw [if_neg c5]; exact no (fun z => c5 z.2.2.2.2.2.1)
          · rw [if_neg c4]; exact no (fun z => c4 z.2.2.2.2.1)
      · rw [if_neg c2]; exact no (fun z => c2 z.2.2.1)
    · rw [if_neg c1]; exact no (fun z => c1 z.2.1)
  · rw [if_neg c0]; exact no (fun z => c0 z.1)
theorem s31 (K : K1 h g) (hm : m < nM g) (hn : n < nM g) : F_363_31B (I3 m, I3 y, I3 n, g) = if g.1 83 n = I3 y ∧ cand g m n then some (.inr (.inr (g.1 90 n, g))) else some (.inl (I3 m, I3 y, I3 (n + 1), g)) := by
  have wM := K.2.2.2.2.2.2.1
  have m100 : nM g ≤ 100 := wM.1.2
  have no : ¬ (g.1 83 n = I3 y ∧ cand g m n) → F_363_126 (I3 m) (I3 y) (I3 n) g = if g.1 83 n = I3 y ∧ cand g m n then some (.inr (.inr (g.1 90 n, g))) else some (.inl (I3 m, I3 y, I3 (n + 1), g)) := fun c => by
    rw [if_neg c]
    unfold F_363_126 F_363_127
    rw [if_pos rfl]; simp only [obs]
    rw [show I3 n + 1 = I3 (n + 1) from I3_add n 1]
  unfold F_363_31B
  rw [show g.1 67 32 = I3 (nM g) from wM.1.1, if_neg (by rw [I3_le (by omega) (by omega)]; omega), ldI_I (by omega) (by decide)]; simp only [obs]
  by_cases c0 : g.1 83 n = I3 y
  · rw [if_pos c0, ldZ_I (by omega) (by decide)]; simp only [obs]
    by_cases c1 : g.1 87 n = 0
    · rw [if_pos c1, ldZ_I (by omega) (by decide)]; simp only [obs]
      by_cases c2 : g.1 86 n = 0
      · rw [if_pos c2, ldI_I (by omega) (by decide)]; simp only [obs]
        by_cases c3 : g.1 85 n = 0
        · rw [if_pos c3]; exact no (fun z => z.2.2.2.1 c3)
        · rw [if_neg c3, ldI_I (by omega) (by decide), ldI_I (by omega) (by decide)]; simp only [obs]
          by_cases c4 : g.1 84 n = g.1 84 m
          · rw [if_pos c4, ldI_I (by omega) (by decide), ldI_I (by omega) (by decide)]; simp only [obs]
            by_cases c5 : g.1 89 n = g.1 89 m
            · rw [if_pos c5, R_isMaker K.2.2.1 wM hn]; simp only [obs]
              by_cases c6 : mkB g n = false
              · rw [if_pos (show b2 (mkB g n) = 0 by rw [c6]; rfl), if_pos ⟨c0, c1, c2, c3, c4, c5, c6⟩]
                unfold F_363_127
                rw [if_neg (by decide), ldI_I (by omega) (by decide)]; simp only [obs]
              · rw [if_neg (show ¬ b2 (mkB g n) = 0 by rw [Bool.not_eq_false] at c6; rw [c6]; decide)]; exact no (fun z => c6 z.2.2.2.2.2.2)
            · rw [if_neg c5]; exact no (fun z => c5 z.2.2.2.2.2.1)
          · rw [if_neg c4]; exact no (fun z => c4 z.2.2.2.2.1)
      · rw [if_neg c2]; exact no (fun z => c2 z.2.2.1)
    · rw [if_neg c1]; exact no (fun z => c1 z.2.1)
  · rw [if_neg c0]; exact no (fun z => c0 z.1)
end
theorem virt {h g : sm_H} (K : K1 h g) {m q : Nat} (hm : m < nM g) (m87 : g.1 87 m = 0) (m86 : g.1 86 m = 0) (nmk : ¬ mkr g m) (first : ∀ n, n < m → g.1 83 n = g.1 83 m → g.1 84 n = g.1 84 m → g.1 87 n = 0 → g.1 86 n = 0 → g.1 89 n = g.1 89 m → mkr g n) (hq : q < 20 + nC g) (bq : B g q (ow g m) = true) :
    ∃ b, b < nM g ∧ g.1 87 b = 0 ∧ g.1 86 b = 0 ∧ g.1 89 b = g.1 89 m ∧ B g q (ow g b) = true ∧ F_133 (I3 m) (I3 q) h = some (g.1 90 b, h) ∧ F_363 (I3 m) (I3 q) g = some (g.1 90 b, g) := by
  have wK := K.1
  have h12 := wK.2.1
  have wM := K.2.2.2.2.2.2.1
  have cKq := K.2.1
  have cMq := K.2.2.2.2.2.2.2.1
  have m100 : nM g ≤ 100 := wM.1.2
  have om := ow_ok wK wM hm
  have q20 := B_up bq om.1
  have x3 := (cMq.2.2 m hm).2.2.1
  have C0 : F_133 (I3 m) (I3 q) h = F_133_0 (I3 m) (I3 q) h := rfl
  unfold F_133_0 F_133_17 at C0
  rw [C_mhas wM cMq hm] at C0; simp only [obs] at C0
  rw [if_neg (by decide), ldI_I (by omega) (by decide), x3] at C0; simp only [obs] at C0
  have R0 : F_363 (I3 m) (I3 q) g = F_363_0 (I3 m) (I3 q) g := rfl
  unfold F_363_0 at R0
  rw [ldI_I (by omega) (by decide)] at R0; simp only [obs] at R0
  by_cases m85 : g.1 85 m = 0
  · rw [if_pos m85, C_hand wM cMq hm m87] at C0; simp only [obs] at C0
    rw [if_pos m85, ldI_I (by omega) (by decide)] at R0; simp only [obs] at R0
    exact ⟨m, hm, m87, m86, rfl, bq, C0, R0⟩
  rw [if_neg m85] at C0 R0
  have mmk : mkB g m = false := by
    cases e : mkB g m with
    | false => rfl
    | true => exact absurd (mkB_iff.mp e) nmk
  have cm : cand g m m := ⟨m87, m86, m85, rfl, rfl, mmk⟩
  have CL : ∀ j, j ≤ nM g → ∃ b, F_133_28 (I3 m) (I3 q) (I3 m) 0 h = lp F_133_28B (1000000 - j) (I3 m, I3 q, I3 b, I3 j, h) ∧ b < nM g ∧ cand g m b ∧ B g q (ow g b) = true ∧ B g (ow g b) (ow g m) = true ∧ (∀ n, n < j → cand g m n → B g q (ow g n) = true → B g (ow g n) (ow g m) = true → B g (ow g b) (ow g n) = true) ∧ (ow g b = ow g m → b = m) ∧ (ow g b ≠ ow g m → ∀ n, n < b → cand g m n → ow g n ≠ ow g b) := by
    intro j
    induction j with
    | zero => intro _; exact ⟨m, rfl, hm, cm, bq, B_self g 12 _, fun n hn => by omega, fun _ => rfl, fun z => absurd rfl z⟩
    | succ j ih =>
      intro hj
      obtain ⟨b, e, b1, b2', b3, b4, b5, b6, b7⟩ := ih (by omega)
      have ob := ow_ok wK wM b1
      have oj := ow_ok wK wM (n := j) (by omega)
      have c39b : h.1 39 b = I3 (ow g b) := (cMq.2.2 b b1).1.trans ob.2.2
      have c39j : h.1 39 j = I3 (ow g j) := (cMq.2.2 j (by omega)).1.trans oj.2.2
      have c38 : h.1 38 13 = I3 (nM g) := cMq.1.trans wM.1.1
      have st : ∀ b', F_133_28B (I3 m, I3 q, I3 b, I3 j, h) = F_133_119 (I3 m) (I3 q) (I3 b') (I3 j) h → F_133_28 (I3 m) (I3 q) (I3 m) 0 h = lp F_133_28B (1000000 - (j + 1)) (I3 m, I3 q, I3 b', I3 (j + 1), h) := fun b' z => by
        rw [e, lp_s (n := 1000000 - j) (s' := (I3 m, I3 q, I3 b', I3 (j + 1), h)) (by omega) ?_]
        · rw [show 1000000 - j - 1 = 1000000 - (j + 1) by omega]
        · rw [z]
          unfold F_133_119
          simp only [obs]
          rw [show I3 j + 1 = I3 (j + 1) from I3_add j 1]
      have stay : F_133_28B (I3 m, I3 q, I3 b, I3 j, h) = F_133_119 (I3 m) (I3 q) (I3 b) (I3 j) h → (cand g m j → B g q (ow g j) = true → B g (ow g j) (ow g m) = true → B g (ow g b) (ow g j) = true) → _ := fun z w => (⟨b, st b z, b1, b2', b3, b4, fun n hn w1 w2 w3 => by
          by_cases c : n = j
          · subst c; exact w w1 w2 w3
          · exact b5 n (by omega) w1 w2 w3, b6, b7⟩ : ∃ b, F_133_28 (I3 m) (I3 q) (I3 m) 0 h = lp F_133_28B (1000000 - (j + 1)) (I3 m, I3 q, I3 b, I3 (j + 1), h) ∧ b < nM g ∧ cand g m b ∧ B g q (ow g b) = true ∧ B g (ow g b) (ow g m) = true ∧ (∀ n, n < j + 1 → cand g m n → B g q (ow g n) = true → B g (ow g n) (ow g m) = true → B g (ow g b) (ow g n) = true) ∧ (ow g b = ow g m → b = m) ∧ (ow g b ≠ ow g m → ∀ n, n < b → cand g m n → ow g n ≠ ow g b))
      have B0 : F_133_28B (I3 m, I3 q, I3 b, I3 j, h) = (if I3 (ow g j) = I3 (ow g b) then F_133_119 (I3 m) (I3 q) (I3 b) (I3 j) h else if CHandleHouseLaw_law_r9294_ac1f8b.b2 (B g (ow g j) (ow g b)) = 0 then F_133_119 (I3 m) (I3 q) (I3 b) (I3 j) h else if CHandleHouseLaw_law_r9294_ac1f8b.b2 (B g q (ow g j)) = 0 then F_133_119 (I3 m) (I3 q) (I3 b) (I3 j) h else if CHandleHouseLaw_law_r9294_ac1f8b.b2 (decide (cand g m j)) = 0 then F_133_119 (I3 m) (I3 q) (I3 b) (I3 j) h else F_133_119 (I3 m) (I3 q) (I3 j) (I3 j) h) := by
        unfold F_133_28B F_133_80 F_133_81
        rw [c38, if_neg (by rw [I3_le (by omega) (by omega)]; omega), ldI_I (by omega) (by decide), ldI_I (by omega) (by decide), c39j, c39b]; simp only [obs]
        rw [C_belowN wK cKq oj.2.1 ob.2.1]; simp only [obs]
        rw [ldI_I (by omega) (by decide), c39j]; simp only [obs]
        rw [if_pos trivial, C_belowN wK cKq hq oj.2.1]; simp only [obs]
        rw [C_cand K hm (by omega) m87]; simp only [obs]
        rw [if_neg (show ¬ (1 : Int32) = 0 by decide)]
      by_cases c1 : ow g j = ow g b
      · rw [if_pos (by rw [c1])] at B0
        exact stay B0 (fun _ _ _ => by rw [c1]; exact B_self g 12 _)
      · rw [if_neg (by rw [I3_inj (by omega) (by omega)]; exact c1)] at B0
        cases c2 : B g (ow g j) (ow g b) with
        | false =>
          rw [c2, if_pos (by decide)] at B0
          refine stay B0 (fun _ w2 _ => ?_)
          rcases B_total wK oj.1 ob.1 q hq w2 b3 with z | z
          · rw [c2] at z; cases z
          · exact z
        | true =>
          rw [c2, if_neg (by decide)] at B0
          cases c3 : B g q (ow g j) with
          | false =>
            rw [c3, if_pos (by decide)] at B0
            exact stay B0 (fun _ w2 _ => by rw [c3] at w2; cases w2)
          | true =>
            rw [c3, if_neg (by decide)] at B0
            by_cases c4 : cand g m j
            · rw [decide_eq_true c4, if_neg (by decide)] at B0
              have jm : B g (ow g j) (ow g m) = true := B_trans wK ob.1 b4 _ oj.2.1 c2
              have ne : ow g j ≠ ow g m := fun z => c1 (by
                rw [z] at c2
                rw [z]; exact B_anti wK om.1 ob.1 om.2.1 ob.2.1 c2 b4)
              refine ⟨j, st j B0, by omega, c4, c3, jm, fun n hn w1 w2 w3 => ?_, fun z => absurd z ne, fun _ n hn w1 w => ?_⟩
              · by_cases c : n = j
                · subst c; exact B_self g 12 _
                · exact B_trans wK ob.1 (b5 n (by omega) w1 w2 w3) _ oj.2.1 c2
              · have z := b5 n hn w1 (by rw [w]; exact c3) (by rw [w]; exact jm)
                rw [w] at z
                exact c1 (B_anti wK oj.1 ob.1 oj.2.1 ob.2.1 c2 z)
            · rw [decide_eq_false c4, if_pos (by decide)] at B0
              exact stay B0 (fun w _ _ => absurd w c4)
  obtain ⟨b, e, b1, b2', b3, b4, b5, b6, b7⟩ := CL (nM g) (Nat.le_refl _)
  have ob := ow_ok wK wM b1
  refine ⟨b, b1, b2'.1, b2'.2.1, b2'.2.2.2.2.1, b3, ?_, ?_⟩
  · rw [C0, e]
    refine lp_e (by omega) ?_
    unfold F_133_28B
    rw [show h.1 38 13 = I3 (nM g) from cMq.1.trans wM.1.1, if_pos (by rw [I3_le (by omega) (by omega)]; omega), C_hand wM cMq b1 b2'.1]; simp only [obs]
  · rw [R0]
    have up : ∀ y, y < 20 + nC g → B g q y = true → B g y (ow g b) = true → ∀ f, y < f → lp F_363_18B f (I3 m, I3 y, g) = some (g.1 90 b, g) := by
      intro y
      induction y using Nat.strongRecOn with
      | ind y ih =>
      intro hy qy yb f hf
      have y20 := B_up yb ob.1
      have st18 : F_363_18B (I3 m, I3 y, g) = if y = ow g m then (F_363_164 (I3 m) (I3 y) 0 g).map (fun r => .inr r) else F_363_31 (I3 m) (I3 y) 0 g := by
        unfold F_363_18B
        rw [ldI_I (by omega) (by decide), om.2.2]; simp only [obs]
        by_cases c : y = ow g m
        · rw [if_pos (by rw [c]), if_pos c]
        · rw [if_neg (by rw [I3_inj (by omega) (by omega)]; exact c), if_neg c]
      by_cases c : y = ow g m
      · have bm : b = m := b6 (by rw [c] at yb; exact B_anti wK ob.1 om.1 ob.2.1 om.2.1 b4 yb)
        rw [if_pos c] at st18
        have s : F_363_164 (I3 m) (I3 y) 0 g = some (g.1 90 m, g) := by
          show lp F_363_164B 1000000 (I3 m, I3 y, I3 0, g) = _
          refine lp_it m (fun k => (I3 m, I3 y, I3 k, g)) 1000000 (fun k hk => ?_) ?_ (by omega)
          · rw [s164 K hm (by omega), if_neg]
            rintro ⟨z1, z2⟩
            have := first k hk (z1.trans (by rw [c]; exact om.2.2.symm)) z2.2.2.2.1 z2.1 z2.2.1 z2.2.2.2.2.1
            have mk := mkB_iff.mpr this
            rw [z2.2.2.2.2.2] at mk; cases mk
          · rw [s164 K hm hm, if_pos ⟨by rw [c]; exact om.2.2, cm⟩]
        rw [s] at st18
        rw [bm]
        exact lp_e (by omega) st18
      · rw [if_neg c] at st18
        by_cases c2 : y = ow g b
        · have nb : ow g b ≠ ow g m := fun z => c (c2.trans z)
          have s : F_363_31 (I3 m) (I3 y) 0 g = some (.inr (g.1 90 b, g)) := by
            show lp F_363_31B 1000000 (I3 m, I3 y, I3 0, g) = _
            refine lp_it b (fun k => (I3 m, I3 y, I3 k, g)) 1000000 (fun k hk => ?_) ?_ (by omega)
            · rw [s31 K hm (by omega), if_neg]
              rintro ⟨z1, z2⟩
              have ok := ow_ok wK wM (n := k) (by omega)
              refine b7 nb k hk z2 ?_
              rw [ok.2.2, I3_inj (by omega) (by omega)] at z1
              omega
            · rw [s31 K hm b1, if_pos ⟨by rw [c2]; exact ob.2.2, b2'⟩]
          rw [s] at st18
          exact lp_e (by omega) st18
        · obtain ⟨-, p1, p2, p3, p4⟩ := B_par1 wK hy ob.1 yb c2
          have s : F_363_31 (I3 m) (I3 y) 0 g = some (.inl (I3 m, I3 (par g (y - 20)), g)) := by
            show lp F_363_31B 1000000 (I3 m, I3 y, I3 0, g) = _
            refine lp_it (nM g) (fun k => (I3 m, I3 y, I3 k, g)) 1000000 (fun k hk => ?_) ?_ (by omega)
            · rw [s31 K hm (by omega), if_neg]
              rintro ⟨z1, z2⟩
              have ok := ow_ok wK wM hk
              rw [ok.2.2, I3_inj (by omega) (by omega)] at z1
              have ym : B g y (ow g m) = true := B_trans wK ob.1 b4 y hy yb
              have z := b5 k hk z2 (by rw [z1]; exact qy) (by rw [z1]; exact ym)
              rw [z1] at z
              exact c2 (B_anti wK y20 ob.1 hy ob.2.1 yb z)
            · unfold F_363_31B
              rw [show g.1 67 32 = I3 (nM g) from wM.1.1, if_pos (by rw [I3_le (by omega) (by omega)]; omega), show I3 y - 20 = I3 (y - 20) from I3_sub (a := y) (b := 20) y20, ldI_I (by omega) (by decide), p4]; simp only [obs]
          rw [s] at st18
          rw [lp_s (by omega) st18]
          have qp : B g q (par g (y - 20)) = true := B_trans wK y20 (by
            rw [B_ge20 wK hy y20, show B g (par g (y - 20)) (par g (y - 20)) = true from B_self g 12 (par g (y - 20)), Bool.or_true]) q hq qy
          exact ih (par g (y - 20)) p3 (by omega) qp p1 (f - 1) (by omega)
    exact up q hq (B_self g 12 q) b3 1000000 (by omega)
section
variable {d fuel s0 x vp p s : Nat} {vs : List Val} {h0 g0 h g : sm_H}
theorem meth {rec : Int32 → Int32 → sm_H → Option (Int32 × sm_H)} (IH : CallOK (d + 1) rec) (F : Fr d fuel s0 x vp vs h0 g0 h g p s) (c59 : g.1 67 59 = I3 (vp + vs.length)) {b : Nat} {l : List Int32} (hb : b < nM g) (b87 : g.1 87 b = 0) (b86 : g.1 86 b = 0) (ty0 : tyV g (g.1 83 b :: l) vs) (el : pl g (tn (g.1 89 b)) = l) : ∃ y h' g' u, y < nH g0 ∧ g.1 90 b = I3 y ∧ hrs g0 y = CHandleHouseLaw_law_r9294_ac1f8b.rs g0 (tn (g.1 89 b)) ∧ F_81 (I3 d) (I3 y) h = some h' ∧ F_343 (I3 vp) (I3 (vp + vs.length)) g = some g' ∧ F_349 (I3 y) g' = some u ∧ Ends d fuel s0 vp (tn (hrs g0 y)) h0 g0 (p + 1) (rec (I3 y) (I3 (d + 1)) h') u := by
  have wM := F.m.k.2.2.2.2.2.2.1
  have cc := fun b j h1 h2 => (m_c F.ar (b := b) (j := j) h1 h2).1
  obtain ⟨y, y1, y90⟩ : ∃ y, y < nH g0 ∧ g.1 90 b = I3 y := by
    rcases (wM.2.2 b hb).2.2.2.2 with z | z
    · rw [z.1] at b87; exact absurd b87 (by decide)
    · obtain ⟨a, a1, a2⟩ := z.2.1; rw [m_nH F.ar] at a1; exact ⟨a, a1, a2⟩
  have w500 : nH g ≤ 500 := F.m.k.2.2.2.2.1.1.2
  obtain ⟨wr, wp⟩ := F.wf2 (m := b) (by rw [← m_nM F.ar]; exact hb) (by rw [← cc 87 b (by decide) (by decide)]; exact b87)
  rw [← cc 86 b (by decide) (by decide), if_pos b86, ← cc 90 b (by decide) (by decide), y90, tnI (by rw [m_nH F.ar] at w500; omega), ← cc 83 b (by decide) (by decide), ← cc 89 b (by decide) (by decide)] at wp
  rw [← cc 90 b (by decide) (by decide), y90, tnI (by rw [m_nH F.ar] at w500; omega), ← cc 89 b (by decide) (by decide)] at wr
  rw [← m_pl F.ar, el] at wp
  have ly : (hpl g0 y).length = vs.length := by rw [wp, ty0.1]
  obtain ⟨⟨h', a1, L⟩, g', b1, P⟩ := Fr_all F c59 y1 (by omega)
  rw [ly, sub_all] at L P
  obtain ⟨u, e1, e2⟩ := tail2 IH F y1 (Nat.le_refl _) (by omega) L P (by rw [wp]; exact ty0)
  exact ⟨y, h', g', u, y1, y90, wr.symm, a1, by rw [← ly]; exact b1, e1, e2⟩
end
theorem run_36 {rec : Int32 → Int32 → sm_H → Option (Int32 × sm_H)} {d fuel s x vp : Nat} {vs : List Val} {h0 g0 h g : sm_H} (IH : CallOK (d + 1) rec) (F : Fr d fuel s x vp vs h0 g0 h g 0 (s + 1)) (c63 : g.1 67 63 = 0) (c59 : g.1 67 59 = I3 (vp + vs.length)) (eh : sm_wI h0 49 8 (h0.1 49 8 + 1) = h) (lf : h0.1 49 8 < h0.1 49 7) (f : fm g0 x = 36) : Ends d fuel s vp (tn (hrs g0 x)) h0 g0 0 (F_82R rec (I3 x) (I3 d) h0) g := by
  have d1 := F.d1
  have v10 := F.v10
  have x500 := F.x500
  have vl := F.vl
  have vx := F.vx
  have fs := F.fs0
  rw [f] at fs
  have C := B82_36 (rec := rec) (x1 := I3 x) (x2 := I3 d) (by rw [I3_lit, I3_lt (by omega) (by decide)]; omega) lf eh (f ▸ F.f37)
  rw [C]
  have R := B370_36 F.c56 F.l103 F.l105 F.l305 F.l77 F.l78 F.l81 F.l81' (f ▸ F.l75)
  obtain ⟨ep, m, k, m1, ea, m87, m86, k1, k2, kb, eb, nmk, first, er, el⟩ := FS_36 fs
  have K := F.m.k
  have h12 := K.1.2.1
  have wM := K.2.2.2.2.2.2.1
  have cMq := K.2.2.2.2.2.2.2.1
  have m100 : nM g ≤ 100 := wM.1.2
  have m1' : m < nM g := by rw [m_nM F.ar]; exact m1
  have cc := fun b j h1 h2 => (m_c F.ar (b := b) (j := j) h1 h2).1
  have e87 : g.1 87 m = 0 := by rw [cc 87 m (by decide) (by decide)]; exact m87
  have e86 : g.1 86 m = 0 := by rw [cc 86 m (by decide) (by decide)]; exact m86
  have mk : ∀ n, mkr g n ↔ mkr g0 n := fun n => by unfold mkr; rw [cc 87 n (by decide) (by decide), cc 86 n (by decide) (by decide), cc 84 n (by decide) (by decide), cc 89 n (by decide) (by decide), m_rs F.ar]
  have k2' : k < 20 + nC g := by rw [m_nC F.ar]; exact k2
  have vs0 : 0 < vs.length := by rw [vx, el]; exact Nat.zero_lt_succ _
  have ok0 := F.ty.2 0 vs0
  rw [el, show at0 (g0.1 78 x :: pl g0 (tn (g0.1 89 m))) 0 = g0.1 78 x from rfl, eb, tnI (by omega)] at ok0
  have C0 : F_82_353 rec (I3 x) (I3 d) h = F_100_0 rec (I3 x) (I3 d) h := by unfold F_82_353; rw [bind_id]
  unfold F_100_0 F_100_42 F_100_74 at C0
  rw [F.f38, ea] at C0; simp only [obs] at C0
  rw [show F_78 (I3 d) 0 h = _ from F.c78 (i := 0) vs0] at C0; simp only [obs] at C0
  rw [show F_351 0 g = _ from F.k351 (i := 0) vs0] at R; simp only [obs] at R
  unfold F_370_977 at R
  rw [ea] at R
  rcases instV K k1 ok0 with ⟨z1, z2⟩ | ⟨q, t, q1, q2, qb, t1, tv, t96, tsz, z6, z7⟩
  · rw [if_pos z2] at C0
    obtain ⟨u, h', f1, f2, f3⟩ := Fr_fail (rk := tn (hrs g0 x)) F 1
    rw [f2] at C0; simp only [obs] at C0
    rw [C0]
    refine Ends_step (step_enter (by omega) F.c64 F.c56 c63 ?_) f3
    rw [R, z1, if_pos (show ((0 : Int32), (0 : Int64)).1 = 0 from rfl), bind_id1, show F_368 0 g = F_368_0 0 g from rfl]
    unfold F_368_0
    rw [show F_351 0 g = _ from F.k351 (i := 0) vs0, z1]; simp only [obs]
    rw [if_pos trivial, f1]; rfl
  · have tv1 : (atv vs 0).1 = I3 q := by rw [tv]
    have bqm : B g q (ow g m) = true := by
      refine B_trans K.1 k1 ?_ q q2 qb
      rw [m_B F.ar, show ow g m = tn (g0.1 83 m) by show tn _ = _; rw [cc 83 m (by decide) (by decide)]]; exact kb
    obtain ⟨b, b1, b87, b86, b89, bb, V1, V2⟩ := virt K m1' e87 e86 (fun z => nmk ((mk m).mp z)) (fun n hn w1 w2 w3 w4 w5 => by
      rw [cc 83 n (by decide) (by decide), cc 83 m (by decide) (by decide)] at w1
      rw [cc 84 n (by decide) (by decide), cc 84 m (by decide) (by decide)] at w2
      rw [cc 87 n (by decide) (by decide)] at w3
      rw [cc 86 n (by decide) (by decide)] at w4
      rw [cc 89 n (by decide) (by decide), cc 89 m (by decide) (by decide)] at w5
      exact (mk n).mpr (first n hn w1 w2 w3 w4 w5)) q2 bqm
    have ob := ow_ok K.1 wM b1
    have e89 : tn (g.1 89 b) = tn (g0.1 89 m) := by rw [b89, cc 89 m (by decide) (by decide)]
    have tyb : tyV g (g.1 83 b :: pl g0 (tn (g0.1 89 m))) vs := by
      have z := F.ty
      rw [el] at z
      refine ⟨z.1, fun i hi => ?_⟩
      cases i with
      | zero =>
        show okV g (ow g b) _ _
        rw [tv]
        exact Or.inr (Or.inr ⟨by omega, q, rfl, q2, bb, Or.inr (Or.inl ⟨by omega, t, t1, rfl, t96⟩)⟩)
      | succ i => exact z.2 (i + 1) hi
    obtain ⟨y, h', g', u, y1, y90, yr, a1, p1, u1, u2⟩ := meth IH F c59 b1 b87 b86 tyb (by rw [e89, m_pl F.ar])
    rw [if_neg (by rw [z6]; exact z7), F.f37, f] at C0; simp only [obs] at C0
    rw [if_pos (by decide), if_neg (by decide), show F_78 (I3 d) 0 h = _ from F.c78 (i := 0) vs0, z6, tv1] at C0; simp only [obs] at C0
    rw [V1, y90] at C0; simp only [obs] at C0
    rw [a1] at C0; simp only [obs] at C0
    rw [bind_id, show I3 d + 1 = I3 (d + 1) from I3_add d 1] at C0
    rw [C0, er, ← e89, ← yr]
    refine Ends_step (step_enter (by omega) F.c64 F.c56 c63 ?_) u2
    rw [R, if_neg z7, show F_351 0 g = _ from F.k351 (i := 0) vs0, tv1]; simp only [obs]
    rw [V2, y90]; simp only [obs]
    rw [bind_id1, show F_368 (I3 y) g = F_368_0 (I3 y) g from rfl]
    unfold F_368_0
    rw [show F_351 0 g = _ from F.k351 (i := 0) vs0]; simp only [obs]
    rw [if_neg z7, F.c56, show I3 (d + 1) - 1 = I3 d from I3_sub (a := d + 1) (b := 1) (by omega), F.l105]; simp only [obs]
    rw [F.l103]; simp only [obs]
    rw [F.l305]; simp only [obs]
    rw [I3_add, p1]; simp only [obs]
    rw [u1]; simp only [obs]
theorem run_37 {rec : Int32 → Int32 → sm_H → Option (Int32 × sm_H)} {d fuel s x vp : Nat} {vs : List Val} {h0 g0 h g : sm_H} (IH : CallOK (d + 1) rec) (F : Fr d fuel s x vp vs h0 g0 h g 0 (s + 1)) (c63 : g.1 67 63 = 0) (c59 : g.1 67 59 = I3 (vp + vs.length)) (eh : sm_wI h0 49 8 (h0.1 49 8 + 1) = h) (lf : h0.1 49 8 < h0.1 49 7) (f : fm g0 x = 37) : Ends d fuel s vp (tn (hrs g0 x)) h0 g0 0 (F_82R rec (I3 x) (I3 d) h0) g := by
  have d1 := F.d1
  have v10 := F.v10
  have x500 := F.x500
  have vl := F.vl
  have vx := F.vx
  have fs := F.fs0
  rw [f] at fs
  have C := B82_37 (rec := rec) (x1 := I3 x) (x2 := I3 d) (by rw [I3_lit, I3_lt (by omega) (by decide)]; omega) lf eh (f ▸ F.f37)
  rw [C]
  have R := B370_37 F.c56 F.l103 F.l105 F.l305 F.l77 F.l78 F.l81 F.l81' (f ▸ F.l75)
  obtain ⟨ep, m, k, m1, ea, m87, m86, k1, k2, kb, eb, nmk, first, er, el⟩ := FS_37 fs
  have K := F.m.k
  have h12 := K.1.2.1
  have wM := K.2.2.2.2.2.2.1
  have cMq := K.2.2.2.2.2.2.2.1
  have m100 : nM g ≤ 100 := wM.1.2
  have m1' : m < nM g := by rw [m_nM F.ar]; exact m1
  have cc := fun b j h1 h2 => (m_c F.ar (b := b) (j := j) h1 h2).1
  have e87 : g.1 87 m = 0 := by rw [cc 87 m (by decide) (by decide)]; exact m87
  have e86 : g.1 86 m = 0 := by rw [cc 86 m (by decide) (by decide)]; exact m86
  have k2' : k < 20 + nC g := by rw [m_nC F.ar]; exact k2
  have vs0 : 0 < vs.length := by rw [vx, el]; exact Nat.zero_lt_succ _
  have ok0 := F.ty.2 0 vs0
  rw [el, show at0 (g0.1 78 x :: pl g0 (tn (g0.1 89 m))) 0 = g0.1 78 x from rfl, eb, tnI (by omega)] at ok0
  have C0 : F_82_353 rec (I3 x) (I3 d) h = F_100_0 rec (I3 x) (I3 d) h := by unfold F_82_353; rw [bind_id]
  unfold F_100_0 F_100_42 F_100_74 at C0
  rw [F.f38, ea] at C0; simp only [obs] at C0
  rw [show F_78 (I3 d) 0 h = _ from F.c78 (i := 0) vs0] at C0; simp only [obs] at C0
  rw [ea, ldI_I (by omega) (by decide)] at R; simp only [obs] at R
  rw [bind_id1, show F_368 (g.1 90 m) g = F_368_0 (g.1 90 m) g from rfl] at R
  unfold F_368_0 at R
  rw [show F_351 0 g = _ from F.k351 (i := 0) vs0] at R; simp only [obs] at R
  rcases instV K k1 ok0 with ⟨z1, z2⟩ | ⟨q, t, q1, q2, qb, t1, tv, t96, tsz, z6, z7⟩
  · rw [if_pos z2] at C0
    obtain ⟨u, h', f1, f2, f3⟩ := Fr_fail (rk := tn (hrs g0 x)) F 1
    rw [f2] at C0; simp only [obs] at C0
    rw [C0]
    refine Ends_step (step_enter (by omega) F.c64 F.c56 c63 ?_) f3
    rw [R, z1, if_pos (show ((0 : Int32), (0 : Int64)).1 = 0 from rfl), f1]; rfl
  · have bqm : B g q (ow g m) = true := by
      refine B_trans K.1 k1 ?_ q q2 qb
      rw [m_B F.ar, show ow g m = tn (g0.1 83 m) by show tn _ = _; rw [cc 83 m (by decide) (by decide)]]; exact kb
    have om := ow_ok K.1 wM m1'
    have e89 : tn (g.1 89 m) = tn (g0.1 89 m) := by rw [cc 89 m (by decide) (by decide)]
    have tyb : tyV g (g.1 83 m :: pl g0 (tn (g0.1 89 m))) vs := by
      have z := F.ty
      rw [el] at z
      refine ⟨z.1, fun i hi => ?_⟩
      cases i with
      | zero =>
        show okV g (ow g m) _ _
        rw [tv]
        exact Or.inr (Or.inr ⟨by omega, q, rfl, q2, bqm, Or.inr (Or.inl ⟨by omega, t, t1, rfl, t96⟩)⟩)
      | succ i => exact z.2 (i + 1) hi
    obtain ⟨y, h', g', u, y1, y90, yr, a1, p1, u1, u2⟩ := meth IH F c59 m1' e87 e86 tyb (by rw [e89, m_pl F.ar])
    rw [if_neg (by rw [z6]; exact z7), F.f37, f] at C0; simp only [obs] at C0
    rw [if_neg (by decide), if_pos trivial, C_hand wM cMq m1' e87, y90] at C0; simp only [obs] at C0
    rw [a1] at C0; simp only [obs] at C0
    rw [bind_id, show I3 d + 1 = I3 (d + 1) from I3_add d 1] at C0
    rw [C0, er, ← e89, ← yr]
    refine Ends_step (step_enter (by omega) F.c64 F.c56 c63 ?_) u2
    rw [R, if_neg z7, F.c56, show I3 (d + 1) - 1 = I3 d from I3_sub (a := d + 1) (b := 1) (by omega), F.l105]; simp only [obs]
    rw [F.l103]; simp only [obs]
    rw [F.l305]; simp only [obs]
    rw [I3_add, p1]; simp only [obs]
    rw [y90, u1]; simp only [obs]
