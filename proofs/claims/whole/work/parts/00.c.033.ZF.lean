theorem noL {h g : sm_H} (I : I1 h g) : hasL h 47 48 [] := by
  have := (I1_K.mp I).2.2.2.2.2.2.2
  exact ⟨this, by decide, fun k hk => by cases hk⟩
abbrev SRp (b j : Nat) : Prop := b = 67 ∧ (j = 3 ∨ j = 20 ∨ j = 21) ∨ b = 69 ∨ b = 82 ∨ b = 102
theorem SRp_not (b j : Nat) (s : SRp b j) : notR b j := by
  rcases s with ⟨rfl, rfl | rfl | rfl⟩ | rfl | rfl | rfl <;> rfl
theorem SRd_p (b j : Nat) (s : SRd b j) : SRp b j := by unfold SRd at s; unfold SRp; omega
theorem okR_SRp {g g1 : sm_H} (a : agr SRp g g1) : ∀ b j, okR b j = true → g1.1 b j = g.1 b j ∧ g1.2.1 b j = g.2.1 b j := fun b j ok => by
  have n : ¬ SRp b j := fun z => by have := SRp_not b j z; rw [show okR b j = false from this] at ok; cases ok
  exact ⟨a.1 b j n, a.2.1 b j n⟩
theorem K1_0 {h g : sm_H} (K : K1 h g) (x : Int32) : K1 (sm_wI h 0 12 x) g := by
  obtain ⟨wK, cK, wT, cT, wH, cH, wM, cM, cG, cO, cV, wX, cX, cXh, wF⟩ := K
  exact ⟨wK, cK, wT, cT, wH, cH, wM, cM, cG, cO, cV, wX, cX, cXh_fr (by repeat first | exact hi_rfl | refine hi_wI ?_ (by decide) | refine hi_wJ ?_ (by decide)) cXh, wF⟩
theorem K1_19 {h g : sm_H} (K : K1 h g) (x : Int32) : K1 h (sm_wI g 67 19 x) := by
  obtain ⟨wK, cK, wT, cT, wH, cH, wM, cM, cG, cO, cV, wX, cX, cXh, wF⟩ := K
  exact ⟨wK, cK, wT, cT, wH, cH, wM, cM, cG, cO, cV, wX, cX, cXh, wF⟩
theorem finMH {h g h0 g0 h1 g1 : sm_H} {v w' : Int32} (I : I1 h g) (ag : agr SCd h h0) (bg : agr SRp (sm_wI g 67 19 0) g0) (K : K1 h1 g1) (E : ext g0 g1) (G : grow g0 g1) (a : agr SCh h0 h1) (b : agr SRh g0 g1) (out : (∃ e, (e = 4 ∨ e = 5) ∧ w' = -I3 e ∧ v = -1 ∧ g1.1 67 19 = I3 e) ∨ ∃ y, y < nH g1 ∧ w' = I3 y ∧ v = I3 y ∧ g1.1 67 19 = g0.1 67 19) : ∃ h2, F_264 w' h1 = some (v, h2) ∧ I1 h2 g1 ∧ kR h h2 ∧ kC g g1 := by
  have w500 : nH g1 ≤ 500 := K.2.2.2.2.1.1.2
  have E0 := ext_eq (okR_SRp bg)
  have as : ∀ z : Nat, g1.1 67 19 = I3 z → I1 (sm_wI h1 0 12 (I3 z)) g1 ∧ kR h (sm_wI h1 0 12 (I3 z)) ∧ kC g g1 := fun z hz => by
    refine ⟨?_, ?_, ?_⟩
    · have B1 := (refuse2 I z).1
      refine I1_re' B1 (h1 := sm_wI h1 0 12 (I3 z)) (K1_0 K _) ?_ ?_ ?_ ?_ ?_
      · exact ext_trans (g := sm_wI (sm_wI g 67 19 0) 67 19 (I3 z)) (g1 := g0) (by
          obtain ⟨c1, c2, c3, c4, c5, c6, c7, c8, c9, c10, c11⟩ := E0.1
          exact ⟨c1, c2, c3, c4, c5, c6, c7, c8, c9, c10, c11⟩) E
      · exact grow_trans (g := sm_wI (sm_wI g 67 19 0) 67 19 (I3 z)) (g1 := g0) (by
          obtain ⟨c1, c2, c3, c4, c5⟩ := E0.2.1
          exact ⟨c1, c2, c3, c4, c5⟩) G
      · exact oC_agr (S := fun b j => SCd b j ∨ SCh b j) (agr_wI2 (agr_trans (agr_mono (fun _ _ z => Or.inl z) ag) (agr_mono (fun _ _ z => Or.inr z) a)) 0 12 (I3 z)) (fun b j z => by unfold SCd SCh SCt at z; unfold oC; omega)
      · intro b' j o
        by_cases q : b' = 67 ∧ j = 19
        · obtain ⟨rfl, rfl⟩ := q
          exact hz
        · have n1 : ¬ SRh b' j := by unfold oR at o; unfold SRh SRt; omega
          have n2 : ¬ SRp b' j := by unfold oR at o; unfold SRp; omega
          rw [b.1 b' j n1, bg.1 b' j n2, wI_rd, wI_rd, wI_rd, if_neg q, if_neg q]
      · intro b' j o q
        have n1 : ¬ SRh b' j := by unfold oR at o; unfold SRh SRt; omega
        have n2 : ¬ SRp b' j := by unfold oR at o; unfold SRp; omega
        rw [b.2.1 b' j n1, bg.2.1 b' j n2]; rfl
    · exact kR_agr (S := fun b j => SCd b j ∨ SCh b j ∨ b = 0) (agr_wI (agr_trans (agr_mono (fun _ _ z => Or.inl z) ag) (agr_mono (fun _ _ z => Or.inr (Or.inl z)) a)) (Or.inr (Or.inr rfl))) (fun b j z => by unfold SCd SCh SCt at z; omega)
    · refine kC_agr (S := fun b _ => 67 ≤ b ∧ b < 131) ?_ (fun b j z => z)
      refine agr_trans (h1 := sm_wI g 67 19 0) (agr_wI agr_rfl (by omega)) ?_
      refine agr_trans (agr_mono (fun b j z => by unfold SRp at z; omega) bg) (agr_mono (fun b j z => by unfold SRh SRt at z; omega) b)
  rcases out with ⟨e, e1, rfl, rfl, e4⟩ | ⟨y, y1, rfl, rfl, y4⟩
  · exact ⟨_, C_judgeN (by omega) (by omega), as e e4⟩
  · exact ⟨_, C_judge (by omega), as 0 (by rw [y4, bg.1 67 19 (by unfold SRp; omega)]; rfl)⟩
