theorem K1_row {h g : sm_H} (K : K1 h g) : K1 (sm_wI h 64 1 0) g := by
  obtain ⟨wK, cK, wT, cT, wH, cH, wM, cM, cG, cO, cV, wX, cX, cXh, wF⟩ := K
  exact ⟨wK, cK, wT, cT, wH, cH, wM, cM, cG, cO, cV, wX, cX, cXh_fr (by repeat first | exact hi_rfl | refine hi_wI ?_ (by decide) | refine hi_wJ ?_ (by decide)) cXh, wF⟩
theorem K1_rowR {h g : sm_H} (K : K1 h g) : K1 h (sm_wI g 67 1 0) := by
  obtain ⟨wK, cK, wT, cT, wH, cH, wM, cM, cG, cO, cV, wX, cX, cXh, wF⟩ := K
  exact ⟨wK, cK, wT, cT, wH, cH, wM, cM, cG, cO, cV, wX, cX, cXh, wF⟩
theorem make2 (x a b : Int32) (c : Int64) (h g : sm_H) (I : I1 h g) : ∃ v h1 g1, F_263 x a b c h = some (v, h1) ∧ F_384 x a b c g = some (v, g1) ∧ I1 h1 g1 ∧ kR h h1 ∧ kC g g1 := by
  have K := (I1_K.mp I).1
  have cRr := (I1_K.mp I).2.1
  have RC := cR_L cRr
  have n20 : tn (g.1 67 1) ≤ 20 := cRr.2.1.2
  have e1 : g.1 67 1 = I3 (tn (g.1 67 1)) := cRr.2.1.1
  generalize hps : lst (g.1 68) (tn (g.1 67 1)) = ps at RC
  have len : ps.length = tn (g.1 67 1) := by rw [← hps, lst_len]
  have v68 : ∀ k, k < ps.length → g.1 68 k = at0 ps k := fun k hk => by rw [← hps, at0_lst (by omega)]
  have RL : ∃ g0, F_384 x a b c g = (F_341 x a b c (sm_wI g0 67 1 0)).bind (fun q => some (q.1, q.2)) ∧ agr SRp g g0 ∧ prR g0 ps := by
    have LL : ∀ k, k ≤ ps.length → ∃ u, F_384 x a b c g = lp F_384_11B (1000000 - k) (x, a, b, c, I3 k, u) ∧ agr SRp g u ∧ u.1 67 3 = I3 ps.length ∧ ∀ i, i < k → u.1 69 i = at0 ps i := by
      intro k
      induction k with
      | zero =>
        intro _
        refine ⟨sm_wI g 67 3 (g.1 67 1), rfl, agr_wI agr_rfl (by unfold SRp; omega), ?_, fun i hi => by omega⟩
        rw [len]; exact e1
      | succ k ih =>
        intro hk
        obtain ⟨u, u1, u2, u3, u4⟩ := ih (by omega)
        refine ⟨sm_wI u 69 k (at0 ps k), ?_, agr_wI u2 (by unfold SRp; omega), u3, fun i hi => ?_⟩
        · rw [u1, lp_s (n := 1000000 - k) (s' := (x, a, b, c, I3 (k + 1), sm_wI u 69 k (at0 ps k))) (by omega) ?_]
          · rw [show 1000000 - k - 1 = 1000000 - (k + 1) by omega]
          · unfold F_384_11B
            rw [if_neg (by rw [u3, I3_le (by omega) (by omega)]; omega), ldI_I (by omega) (by omega), u2.1 68 k (by unfold SRp; omega), v68 k (by omega)]; simp only [obs]
            rw [stI_I (by omega) (by omega)]; simp only [obs]
            rw [show I3 k + 1 = I3 (k + 1) from I3_add k 1]
        · show (if i = k then at0 ps k else u.1 69 i) = _
          by_cases q : i = k
          · rw [if_pos q, q]
          · rw [if_neg q]; exact u4 i (by omega)
    obtain ⟨u, u1, u2, u3, u4⟩ := LL ps.length (Nat.le_refl _)
    refine ⟨u, ?_, u2, ⟨u3, by omega, u4⟩⟩
    rw [u1]
    have fin : ∀ (r : Option (Int32 × sm_H)), F_384_11B (x, a, b, c, I3 ps.length, u) = r.map (fun q => .inr q) → lp F_384_11B (1000000 - ps.length) (x, a, b, c, I3 ps.length, u) = r := fun r z => by
      cases r with
      | none =>
        have := lp_n (n := 1000000 - ps.length - 1) z
        rw [show 1000000 - ps.length - 1 + 1 = 1000000 - ps.length by omega] at this; exact this
      | some r => exact lp_e (by omega) z
    refine fin _ ?_
    unfold F_384_11B
    rw [if_pos (by rw [u3, I3_le (by omega) (by omega)]; omega)]; simp only [obs]
    cases F_341 x a b c (sm_wI u 67 1 0) with
    | none => rfl
    | some q => rfl
  obtain ⟨g0, r1, r2, r3⟩ := RL
  have K0 : K1 h (sm_wI g0 67 1 0) := K1_rowR (K1_g K (agr_mono SRp_not r2))
  have P0 : prR (sm_wI g0 67 1 0) ps := r3
  obtain ⟨v, w', h1, g1, b1, b2', b3, b4, b5, b6, b7, b8⟩ := build K0 x a b c rw64 (Or.inr (Or.inr ⟨rfl, rfl⟩)) (by decide) RC P0
  have bg : agr SRp (sm_wI g 67 1 0) (sm_wI g0 67 1 0) := agr_wI2 r2 67 1 0
  have w500 : nH g1 ≤ 500 := b3.2.2.2.2.1.1.2
  have as : ∀ z : Nat, g1.1 67 19 = I3 z → I1 (sm_wI (sm_wI h1 0 12 (I3 z)) 64 1 0) g1 ∧ kR h (sm_wI (sm_wI h1 0 12 (I3 z)) 64 1 0) ∧ kC g g1 := fun z hz => by
    have I' := I1_row0 I
    have E0 := ext_eq (okR_SRp bg)
    refine ⟨?_, ?_, ?_⟩
    · have B1 := (refuse2 I' z).1
      refine I1_re' B1 (h1 := sm_wI (sm_wI h1 0 12 (I3 z)) 64 1 0) (K1_row (K1_0 b3 _)) ?_ ?_ ?_ ?_ ?_
      · exact ext_trans (g := sm_wI (sm_wI (sm_wI g 67 1 0) 67 19 0) 67 19 (I3 z)) (g1 := sm_wI g0 67 1 0) (by
          obtain ⟨c1, c2, c3, c4, c5, c6, c7, c8, c9, c10, c11⟩ := E0.1
          exact ⟨c1, c2, c3, c4, c5, c6, c7, c8, c9, c10, c11⟩) b4
      · exact grow_trans (g := sm_wI (sm_wI (sm_wI g 67 1 0) 67 19 0) 67 19 (I3 z)) (g1 := sm_wI g0 67 1 0) (by
          obtain ⟨c1, c2, c3, c4, c5⟩ := E0.2.1
          exact ⟨c1, c2, c3, c4, c5⟩) b5
      · intro b' j o
        have n1 : ¬ SCb b' j := by unfold oC at o; unfold SCb Ssc SCd SCh SCt; omega
        refine ⟨?_, ?_⟩
        · rw [wI_rd, wI_rd, wI_rd, wI_rd, b6.1 b' j n1]
          by_cases q : b' = 64 ∧ j = 1
          · rw [if_pos q, if_neg (by omega), if_pos q]
          · rw [if_neg q, if_neg q]
        · exact b6.2.1 b' j n1
      · intro b' j o
        by_cases q : b' = 67 ∧ j = 19
        · obtain ⟨rfl, rfl⟩ := q
          exact hz
        · have n1 : ¬ SRb b' j := by unfold oR at o; unfold SRb SRp SRh SRt; omega
          have n2 : ¬ SRp b' j := by unfold oR at o; unfold SRp; omega
          rw [b7.1 b' j n1, bg.1 b' j n2, wI_rd (sm_wI (sm_wI g 67 1 0) 67 19 0), if_neg q, wI_rd (sm_wI g 67 1 0), if_neg q]
      · intro b' j o q
        have n1 : ¬ SRb b' j := by unfold oR at o; unfold SRb SRp SRh SRt; omega
        have n2 : ¬ SRp b' j := by unfold oR at o; unfold SRp; omega
        rw [b7.2.1 b' j n1, bg.2.1 b' j n2]; rfl
    · exact kR_agr (S := fun b j => SCb b j ∨ b = 0 ∨ b = 64) (agr_wI (agr_wI (agr_mono (fun _ _ z => Or.inl z) b6) (Or.inr (Or.inl rfl))) (Or.inr (Or.inr rfl))) (fun b j z => by unfold SCb Ssc SCd SCh SCt at z; omega)
    · refine kC_agr (S := fun b _ => 67 ≤ b ∧ b < 131) ?_ (fun b j z => z)
      refine agr_trans (agr_wI (agr_mono (fun b j z => by unfold SRp at z; omega) r2) (by omega)) (agr_mono (fun b j z => by unfold SRb SRp SRh SRt at z; omega) b7)
  have CC : ∀ z : Nat, F_264 w' h1 = some (v, sm_wI h1 0 12 (I3 z)) → F_263 x a b c h = some (v, sm_wI (sm_wI h1 0 12 (I3 z)) 64 1 0) := fun z hz => by
    show F_263_0 x a b c h = _
    unfold F_263_0
    rw [b1]; simp only [obs]
    rw [hz]; simp only [obs]
    rw [show F_138 64 (sm_wI h1 0 12 (I3 z)) = some (sm_wI (sm_wI h1 0 12 (I3 z)) 64 1 0) from rfl]; rfl
  have RR : F_384 x a b c g = some (v, g1) := by rw [r1, b2']; rfl
  rcases b8 with ⟨e, e1, e2, rfl, rfl, e4⟩ | ⟨y, y1, rfl, rfl, y4⟩
  · exact ⟨-1, _, g1, CC e (C_judgeN (by omega) (by omega)), RR, as e e4⟩
  · exact ⟨I3 y, _, g1, CC 0 (C_judge (by omega)), RR, as 0 y4⟩
theorem op_make {h : sm_H} (x a b : Int32) (c : Int64) (I : I0 h) : ∃ v h1 h2, F_263 x a b c h = some (v, h1) ∧ F_384 x a b c h1 = some (v, h2) ∧ I0 h2 := op_of2 (make2 x a b c) I
