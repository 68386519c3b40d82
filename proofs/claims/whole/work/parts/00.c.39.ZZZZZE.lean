theorem hpl_at {g : sm_H} {a i : Nat} (hi : i < (hpl g a).length) : at0 (hpl g a) i = g.1 74 (10 * ty g a + i) := by
  have e : (hpl g a).length = tM g (ty g a) := hpl_len g a
  rw [e] at hi
  exact at0_lst hi
theorem DF_cF {h g : sm_H} (wT : wfT g) (wH : wfH0 g) (F : cF h g) : DF (nD g) h g := by
  obtain ⟨-, -, f3, ⟨f4, f5⟩, f6⟩ := F
  refine ⟨f3.trans f4, f4, f5, fun d hd => ?_⟩
  obtain ⟨t1, t2, a, a1, a2, a3, a4, a5⟩ := f6 d hd
  have e : (hpl g a).length = tM g (ty g a) := hpl_len g a
  have lt : ty g a < nT g := (wH.2 a a1).2.2.1
  refine ⟨t1, t2, a, a1, a2, by rw [e]; exact a3, by rw [a4, e]; exact (wT.2.1 _ lt).2.1.1, fun i hi => ?_⟩
  rw [hpl_at hi]
  rw [e] at hi
  exact a5 i hi
theorem cF_DF {h g : sm_H} {nd : Nat} (wT : wfT g) (wH : wfH0 g) (D : DF nd h g) (e7 : h.1 55 17 = g.1 67 77) (e8 : h.1 55 18 = g.1 67 78) : cF h g := by
  obtain ⟨d1, d2, d3, d4⟩ := D
  have nn : nD g = nd := by show tn (g.1 67 91) = nd; rw [d2]; exact I3_clamp (by omega)
  refine ⟨e7, e8, d1.trans d2.symm, ⟨?_, ?_⟩, fun d hd => ?_⟩
  · show g.1 67 91 = I3 (nD g)
    rw [nn]; exact d2
  · show nD g ≤ 60
    omega
  · obtain ⟨t1, t2, a, a1, a2, a3, a4, a5⟩ := d4 d (by omega)
    have e : (hpl g a).length = tM g (ty g a) := hpl_len g a
    have lt : ty g a < nT g := (wH.2 a a1).2.2.1
    refine ⟨t1, t2, a, a1, a2, by rw [← e]; exact a3, by rw [a4, e]; exact (wT.2.1 _ lt).2.1.1.symm, fun i hi => ?_⟩
    rw [← e] at hi
    rw [a5 i hi, hpl_at hi]
theorem read2 {h g : sm_H} (I : I1 h g) : ∃ v h1 g1, F_284 h = some (v, h1) ∧ F_466 g = some (v, g1) ∧ I1 h1 g1 ∧ kR h h1 ∧ kC g g1 := by
  obtain ⟨K, cR, cP, cU, cY, cF, cZ⟩ := I1_K.mp I
  obtain ⟨y1, ⟨y2, y3⟩, y4, y5⟩ := id cY
  obtain ⟨kk, hk⟩ := I3_surj (g.1 67 102)
  generalize hn : tn (g.1 67 76) = n at y2 y3
  have K0 : K1 (sm_wI (sm_wI (sm_wI (sm_wI (sm_wI h 55 17 0) 55 18 (-1)) 55 16 0) 55 12 0) 52 3 0) (sm_wI (sm_wI (sm_wI g 67 77 0) 67 78 (-1)) 67 79 0) := by
    obtain ⟨wK, cK, wT, cT, wH, cH, wM, cM, cG, cO, cV, wX, cX, cXh, wF⟩ := K1_77 K 0 (-1)
    exact ⟨wK, cK, wT, cT, wH, cH, wM, cM, cG, cO, cV, wX, cX, cXh_fr (by repeat first | exact hi_rfl | refine hi_wI ?_ (by decide) | refine hi_wJ ?_ (by decide)) cXh, wF⟩
  have EX0 : ext g (sm_wI (sm_wI (sm_wI g 67 77 0) 67 78 (-1)) 67 79 0) := by
    obtain ⟨c1, c2, c3, c4, c5, c6, c7, c8, c9, c10, c11⟩ := ext_rfl (g := g)
    exact ⟨c1, c2, c3, c4, c5, c6, c7, c8, c9, c10, c11⟩
  have GR0 : grow g (sm_wI (sm_wI (sm_wI g 67 77 0) 67 78 (-1)) 67 79 0) := by
    obtain ⟨d1, d2, d3, d4, d5⟩ := grow_rfl (g := g)
    exact ⟨d1, d2, d3, d4, d5⟩
  have C0 : F_284 h = lp F_167_29B 1000000 (I3 0, sm_wI (sm_wI (sm_wI (sm_wI (sm_wI h 55 17 0) 55 18 (-1)) 55 16 0) 55 12 0) 52 3 0) := bind_id _
  have R0 : F_466 g = E466 1000000 (g.1 67 19) (sm_wI (sm_wI (sm_wI g 67 77 0) 67 78 (-1)) 67 79 0) := rfl
  have D00 : DF (nD g) h g := DF_cF K.2.2.1 K.2.2.2.2.1 cF
  have D0 : DF (nD g) (sm_wI (sm_wI (sm_wI (sm_wI (sm_wI h 55 17 0) 55 18 (-1)) 55 16 0) 55 12 0) 52 3 0) (sm_wI (sm_wI (sm_wI g 67 77 0) 67 78 (-1)) 67 79 0) := ⟨D00.1, D00.2.1, D00.2.2.1, D00.2.2.2⟩
  have a0 : agr RCy h (sm_wI (sm_wI (sm_wI (sm_wI (sm_wI h 55 17 0) 55 18 (-1)) 55 16 0) 55 12 0) 52 3 0) := agr_wI (agr_wI (agr_wI (agr_wI (agr_wI agr_rfl (by unfold RCy RCx XCc SCq; omega)) (by unfold RCy RCx XCc SCq; omega)) (by unfold RCy RCx XCc; omega)) (by unfold RCy RCx XCc; omega)) (Or.inr rfl)
  have b0 : agr RRy g (sm_wI (sm_wI (sm_wI g 67 77 0) 67 78 (-1)) 67 79 0) := agr_wI (agr_wI (agr_wI agr_rfl (by unfold RRy RRx XRc SRa SRq; omega)) (by unfold RRy RRx XRc SRa SRq; omega)) (by unfold RRy RRx XRc SLx; omega)
  have s0 : TU n (fun i => tn (g.1 112 i)) kk (sm_wI (sm_wI (sm_wI (sm_wI (sm_wI h 55 17 0) 55 18 (-1)) 55 16 0) 55 12 0) 52 3 0) (sm_wI (sm_wI (sm_wI g 67 77 0) 67 78 (-1)) 67 79 0) := ⟨K0, ⟨rfl, rfl, rfl, rfl⟩, trivial, ⟨rfl, by decide⟩, hk, ⟨y1.trans y2, y3, fun i hi => ⟨(y4 i (by omega)).1.trans (y4 i (by omega)).2.1, (y4 i (by omega)).2.2⟩⟩, ⟨y2, y3, fun i hi => ⟨(y4 i (by omega)).2.1, (y4 i (by omega)).2.2⟩⟩⟩
  have e16 : (sm_wI (sm_wI (sm_wI (sm_wI (sm_wI h 55 17 0) 55 18 (-1)) 55 16 0) 55 12 0) 52 3 0).1 55 16 = I3 0 := rfl
  have cb : CB n (fun i => tn (g.1 112 i)) (sk n (fun i => tn (g.1 112 i)) 0) (sm_wI (sm_wI (sm_wI (sm_wI (sm_wI h 55 17 0) 55 18 (-1)) 55 16 0) 55 12 0) 52 3 0) := ⟨0, rfl, Nat.zero_le _, rfl⟩
  have rb : RB n (fun i => tn (g.1 112 i)) (sk n (fun i => tn (g.1 112 i)) 0) (sm_wI (sm_wI (sm_wI g 67 77 0) 67 78 (-1)) 67 79 0) := ⟨0, rfl, Nat.zero_le _, rfl⟩
  have Fi := readN (n := n) (bt := fun i => tn (g.1 112 i)) (g.1 67 19) (n + 1) 1000000 1000000 _ 0 kk (nD g) _ _ _ _ (by omega) (by omega) (by omega) s0 e16 D0 cb rb (Nat.zero_le _) (RT_rfl K0)
  rw [← C0, ← R0] at Fi
  generalize sm_wI (sm_wI (sm_wI (sm_wI (sm_wI h 55 17 0) 55 18 (-1)) 55 16 0) 55 12 0) 52 3 0 = h0 at *
  generalize sm_wI (sm_wI (sm_wI g 67 77 0) 67 78 (-1)) 67 79 0 = g0 at *
  obtain ⟨v, h1, g1, f1, f2, f3, ⟨f4, f5⟩, ⟨nd, f6⟩, f7, f8, f9, f10, f11, f12, f13⟩ := Fi
  have a1 : agr RCy h h1 := agr_trans a0 f12
  have b1 : agr RRy g g1 := agr_trans b0 f13
  have E1 := ext_trans EX0 f4
  have G1 := grow_trans GR0 f5
  have nC1 : ∀ b j, RCy b j → ¬ (b = 64 ∨ b = 65 ∨ b = 0 ∨ b = 66 ∨ b = 49 ∨ b = 53 ∨ b = 54 ∨ b = 47 ∨ 67 ≤ b) := fun b j z => by unfold RCy RCx XCc SCq SCb Ssc SCd SCh SCt Ssp S52 at z; omega
  have nR1 : ∀ b j, RRy b j → ¬ (b = 67 ∧ (j = 1 ∨ 68 ≤ j ∧ j ≤ 73) ∨ b = 68 ∨ b = 110 ∨ b = 111 ∨ b = 112 ∨ b < 67 ∨ 131 ≤ b) := fun b j z => by unfold RRy RRx XRc SRa SRq SRb SRp SRh SRt Ssr SLx at z; omega
  have hc : ∀ b j, (b = 64 ∨ b = 65 ∨ b = 0 ∨ b = 66 ∨ b = 49 ∨ b = 53 ∨ b = 54 ∨ b = 47 ∨ 67 ≤ b) → h1.1 b j = h.1 b j ∧ h1.2.1 b j = h.2.1 b j := fun b j z => ⟨a1.1 b j (fun y => nC1 b j y z), a1.2.1 b j (fun y => nC1 b j y z)⟩
  have hg : ∀ b j, (b = 67 ∧ (j = 1 ∨ 68 ≤ j ∧ j ≤ 73) ∨ b = 68 ∨ b = 110 ∨ b = 111 ∨ b = 112 ∨ b < 67 ∨ 131 ≤ b) → g1.1 b j = g.1 b j ∧ g1.2.1 b j = g.2.1 b j := fun b j z => ⟨b1.1 b j (fun y => nR1 b j y z), b1.2.1 b j (fun y => nR1 b j y z)⟩
  refine ⟨v, h1, g1, f1, f2, I1_K.mpr ⟨f3, ?_, ?_, ?_, ?_, cF_DF f3.2.2.1 f3.2.2.2.2.1 f6 f7 f8, ?_⟩, fun b j z1 z2 => hc b j (by omega), agr_mono (fun b j z => by
    have := nR1 b j z
    omega) b1⟩
  · obtain ⟨r1, r2, r3⟩ := cR
    refine ⟨?_, ?_, fun k hk => ?_⟩
    · rw [(hc 64 1 (by omega)).1, (hg 67 1 (by omega)).1]; exact r1
    · rw [(hg 67 1 (by omega)).1]; exact r2
    · rw [(hc 65 k (by omega)).1, (hg 68 k (by omega)).1]; exact r3 k hk
  · obtain ⟨r1, r2, r3⟩ := cP
    refine ⟨?_, ?_, fun k hk => ?_⟩
    · rw [(hc 0 11 (by omega)).1, (hg 67 68 (by omega)).1]; exact r1
    · rw [(hg 67 68 (by omega)).1]; exact r2
    · rw [(hc 66 k (by omega)).2, (hg 110 k (by omega)).2]; exact r3 k hk
  · obtain ⟨u1, u2, u3, u4, u5, u6, u7⟩ := cU
    refine ⟨?_, ?_, ?_, ?_, ?_, ?_, ?_⟩
    · rw [(hc 49 11 (by omega)).1, (hg 67 69 (by omega)).1]; exact u1
    · rw [(hc 49 8 (by omega)).1, (hg 67 73 (by omega)).1]; exact u2
    · rw [(hc 49 12 (by omega)).1, (hg 67 70 (by omega)).1]; exact u3
    · rw [(hc 49 10 (by omega)).1, (hg 67 71 (by omega)).1]; exact u4
    · rw [(hc 49 9 (by omega)).2, (hg 67 72 (by omega)).2]; exact u5
    · rw [(hg 67 71 (by omega)).1, (hg 67 70 (by omega)).1, (hg 67 69 (by omega)).1, (hg 67 72 (by omega)).2]
      rcases u6 with z | z | ⟨⟨q, q1, q2, q3⟩, z2⟩
      · exact Or.inl z
      · exact Or.inr (Or.inl z)
      · exact Or.inr (Or.inr ⟨⟨q, q1, Nat.lt_of_lt_of_le q2 (Nat.add_le_add_left G1.1 20), okO_grow G1 q3⟩, z2⟩)
    · rw [(hg 67 70 (by omega)).1]; exact u7
  · refine ⟨f9.trans f10.symm, ?_, fun k hk => ?_, fun k hk => ?_⟩
    · rw [f10]; exact ⟨rfl, Nat.zero_le _⟩
    · rw [(hc 53 k (by omega)).1, (hg 112 k (by omega)).1]; exact y4 k hk
    · rw [(hc 54 k (by omega)).1, (hg 111 k (by omega)).1]; exact y5 k hk
  · exact ⟨(hc 0 12 (by omega)).1.trans (cZ.1.trans f11.symm), (hc 47 1 (by omega)).1.trans cZ.2⟩
theorem op_read {h : sm_H} (I : I0 h) : ∃ v h1 h2, F_284 h = some (v, h1) ∧ F_466 h1 = some (v, h2) ∧ I0 h2 := op_of2 (fun _ _ I => read2 I) I
