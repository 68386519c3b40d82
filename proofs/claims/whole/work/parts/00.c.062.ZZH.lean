section
variable {d fuel s0 x vp p s : Nat} {vs : List Val} {h0 g0 h g : sm_H}
abbrev SE (b j : Nat) : Prop := b = 67 ∧ (j = 56 ∨ j = 59 ∨ (60 ≤ j ∧ j ≤ 64))
theorem SE_N (b j : Nat) (z : SE b j) : SN b j := by unfold SE at z; unfold SN; omega
theorem R_endF {g : sm_H} {d vp : Nat} (hd : d < 100) (c56 : g.1 67 56 = I3 (d + 1)) (c105 : g.1 105 d = I3 vp) (k : Int32) (n : Int64) : ∃ u, F_345 k n g = some u ∧ agr SE g u ∧ u.1 67 56 = I3 d ∧ u.1 67 59 = I3 vp ∧ u.1 67 60 = k ∧ u.2.1 67 61 = n ∧ u.1 67 62 = 0 ∧ u.1 67 63 = 1 ∧ u.1 67 64 = g.1 67 64 := by
  refine ⟨sm_wI (sm_wI (sm_wJ (sm_wI (sm_wI (sm_wI g 67 56 (I3 d)) 67 59 (I3 vp)) 67 60 k) 67 61 n) 67 62 0) 67 63 1, ?_, ?_, rfl, rfl, rfl, rfl, rfl, rfl, rfl⟩
  · show F_345_0 k n g = _
    unfold F_345_0
    simp only [obs]
    rw [c56, show I3 (d + 1) - 1 = I3 d from I3_sub (a := d + 1) (b := 1) (by omega), show (sm_wI g 67 56 (I3 d)).1 67 56 = I3 d from rfl, ldI_I (by omega) (by omega), show (sm_wI g 67 56 (I3 d)).1 105 d = g.1 105 d from rfl, c105]; simp only [obs]
  · exact agr_wI (agr_wI (agr_wJ (agr_wI (agr_wI (agr_wI agr_rfl (by unfold SE; omega)) (by unfold SE; omega)) (by unfold SE; omega)) (by unfold SE; omega)) (by unfold SE; omega)) (by unfold SE; omega)
theorem keepR_E {g u : sm_H} {d vp : Nat} (a : agr SE g u) : keepR d vp g u := ⟨fun c i h1 h2 hi => a.1 c i (by unfold SE; omega), fun k hk => ⟨a.1 108 k (by unfold SE; omega), a.2.1 109 k (by unfold SE; omega)⟩⟩
theorem Fr_fin (F : Fr d fuel s0 x vp vs h0 g0 h g p s) {u : sm_H} (a : agr SE g u) (c56 : u.1 67 56 = I3 d) (c59 : u.1 67 59 = I3 vp) (c64 : u.1 67 64 = 0) (c63 : u.1 67 63 = 1) {out rk : Nat} (o1 : out ≤ 1) (c62 : u.1 67 62 = I3 out) (r : res h u out rk) : Ends d fuel s0 vp rk h0 g0 (p + 1) (some (I3 out, h)) u := by
  have aN : agr SN g u := agr_mono SE_N a
  have b := F.b
  refine ⟨out, h, u, 0, s, rfl, Lp_0 u, ⟨K1_N F.m.k aN, F.m.hf, (a.1 67 65 (by unfold SE; omega)).trans F.m.gf, F.m.hs, (a.1 67 66 (by unfold SE; omega)).trans F.m.gs, F.m.le, F.m.fm⟩, by have := F.lt; omega, F.ac, agr_trans F.ar (agr_mono (fun _ _ z => Or.inl z) aN), grow_trans F.gr (grow_N aN), F.kc, Or.inl ⟨o1, by omega, c56, c59, c64, c63, c62, keepR_trans F.kr (keepR_E a), r⟩⟩
theorem Fr_give (F : Fr d fuel s0 x vp vs h0 g0 h g p s) {rk : Nat} (k : Int32) (n : Int64) (ok : okV g rk k n) : ∃ u h', F_345 k n g = some u ∧ F_75 n (tag k) h = some (0, h') ∧ Ends d fuel s0 vp rk h0 g0 (p + 1) (some (0, h')) u := by
  obtain ⟨u, e1, e2, e3, e4, e5, e6, e7, e8, e9⟩ := R_endF F.d1 F.c56 F.c105 k n
  have a : agr (SC1 d) h (sm_wI (sm_wJ h 49 9 n) 49 10 (tag k)) := agr_wI (agr_wJ agr_rfl (by unfold SC1; omega)) (by unfold SC1; omega)
  refine ⟨u, _, e1, rfl, ?_⟩
  refine Fr_fin (out := 0) (Fr_h F a rfl) e2 e3 e4 (e9.trans F.c64) e8 (by decide) e7 ⟨?_, ?_, fun _ => ?_, fun z => by cases z⟩
  · rw [e6]; rfl
  · rw [e5]; rfl
  · rw [e5, e6]; exact okV_grow F.m.k.1 (grow_N (agr_mono SE_N e2)) ok
theorem Fr_pass (F : Fr d fuel s0 x vp vs h0 g0 h g p s) {rk : Nat} (k : Int32) (n : Int64) (h9 : h.2.1 49 9 = n) (h10 : h.1 49 10 = tag k) (ok : okV g rk k n) : ∃ u, F_345 k n g = some u ∧ Ends d fuel s0 vp rk h0 g0 (p + 1) (some (0, h)) u := by
  obtain ⟨u, e1, e2, e3, e4, e5, e6, e7, e8, e9⟩ := R_endF F.d1 F.c56 F.c105 k n
  refine ⟨u, e1, Fr_fin (out := 0) F e2 e3 e4 (e9.trans F.c64) e8 (by decide) e7 ⟨?_, ?_, fun _ => ?_, fun z => by cases z⟩⟩
  · rw [e6]; exact h9
  · rw [e5]; exact h10
  · rw [e5, e6]; exact okV_grow F.m.k.1 (grow_N (agr_mono SE_N e2)) ok
theorem okE_grow {g g1 : sm_H} (wK : wfK g) (G : grow g g1) {k : Int32} {n : Int64} (h : okE g k n) : okE g1 k n := by
  obtain ⟨q, q1, q2, q3, q4⟩ := h
  exact ⟨q, q1, by have := G.1; omega, by rw [← q3]; exact bel_grow wK G.2.2.2.2 12 q 19 q2, okO_grow G q4⟩
theorem R_throw {g : sm_H} {d vp : Nat} (hd : d < 100) (c56 : g.1 67 56 = I3 (d + 1)) (c105 : g.1 105 d = I3 vp) (k : Int32) (n : Int64) : ∃ u, F_347 k n g = some u ∧ agr SE g u ∧ u.1 67 56 = I3 d ∧ u.1 67 59 = I3 vp ∧ u.1 67 60 = k ∧ u.2.1 67 61 = n ∧ u.1 67 62 = I3 1 ∧ u.1 67 63 = 1 ∧ u.1 67 64 = g.1 67 64 := by
  obtain ⟨u, e1, e2, e3, e4, e5, e6, e7, e8, e9⟩ := R_endF hd c56 c105 k n
  refine ⟨sm_wI u 67 62 1, ?_, agr_wI e2 (by unfold SE; omega), e3, e4, e5, e6, rfl, e8, e9⟩
  show F_347_0 k n g = _
  unfold F_347_0
  rw [e1]; simp only [obs]
theorem Fr_threw (F : Fr d fuel s0 x vp vs h0 g0 h g p s) {rk : Nat} (k : Int32) (n : Int64) (h9 : h.2.1 49 9 = n) (h10 : h.1 49 10 = tag k) (ok : okE g k n) : ∃ u, F_347 k n g = some u ∧ Ends d fuel s0 vp rk h0 g0 (p + 1) (some (1, h)) u := by
  obtain ⟨u, e1, e2, e3, e4, e5, e6, e7, e8, e9⟩ := R_throw F.d1 F.c56 F.c105 k n
  refine ⟨u, e1, Fr_fin (out := 1) F e2 e3 e4 (e9.trans F.c64) e8 (by decide) e7 ⟨?_, ?_, fun z => by (cases z), fun _ => ?_⟩⟩
  · rw [e6]; exact h9
  · rw [e5]; exact h10
  · rw [e5, e6]; exact okE_grow F.m.k.1 (grow_N (agr_mono SE_N e2)) ok
theorem tag19 : tag 19 = 19 := by decide
theorem okE_19 (g : sm_H) {n : Int64} (h1 : 0 ≤ n.toInt) (h2 : n.toInt ≤ 100) : okE g 19 n := ⟨19, rfl, by omega, by rw [show B g 19 19 = bel g 12 19 19 from rfl]; exact B_self g 12 19, Or.inr (Or.inr (Or.inr ⟨rfl, h1, h2⟩))⟩
theorem Fr_fail (F : Fr d fuel s0 x vp vs h0 g0 h g p s) {rk : Nat} (c : Int32) (hc : 0 ≤ c.toInt ∧ c.toInt ≤ 100 := by decide) : ∃ u h', F_348 c g = some u ∧ F_76 c h = some (1, h') ∧ Ends d fuel s0 vp rk h0 g0 (p + 1) (some (1, h')) u := by
  have a : agr (SC1 d) h (sm_wI (sm_wJ h 49 9 (Int32.toInt64 c)) 49 10 19) := agr_wI (agr_wJ agr_rfl (by unfold SC1; omega)) (by unfold SC1; omega)
  obtain ⟨u, e1, e2⟩ := Fr_threw (rk := rk) (Fr_h F a rfl) 19 (Int32.toInt64 c) rfl (by rw [tag19]; rfl) (okE_19 g (by rw [toI64]; exact hc.1) (by rw [toI64]; exact hc.2))
  refine ⟨u, _, ?_, rfl, e2⟩
  show F_348_0 c g = _
  unfold F_348_0
  rw [e1]; simp only [obs]
theorem Fr_full (F : Fr d fuel s0 x vp vs h0 g0 h g p s) {rk : Nat} : Ends d fuel s0 vp rk h0 g0 (p + 1) (some (4, h)) (sm_wI g 67 64 4) := by
  have a : agr SE g (sm_wI g 67 64 4) := agr_wI agr_rfl (by unfold SE; omega)
  have aN : agr SN g (sm_wI g 67 64 4) := agr_mono SE_N a
  have b := F.b
  exact ⟨4, h, sm_wI g 67 64 4, 0, s, rfl, Lp_0 _, ⟨K1_N F.m.k aN, F.m.hf, F.m.gf, F.m.hs, F.m.gs, F.m.le, F.m.fm⟩, by have := F.lt; omega, F.ac, agr_trans F.ar (agr_mono (fun _ _ z => Or.inl z) aN), grow_trans F.gr (grow_N aN), F.kc, Or.inr ⟨by decide, by decide, by omega, rfl⟩⟩
end
def BodyOK (d : Nat) (rec : Int32 → Int32 → sm_H → Option (Int32 × sm_H)) : Prop :=
  ∀ (h0 g0 h g : sm_H) (fuel s x vp : Nat) (vs : List Val), Fr d fuel s x vp vs h0 g0 h g 0 (s + 1) → g.1 67 63 = 0 → g.1 67 59 = I3 (vp + vs.length) → g.1 104 d = 0 → sm_wI h0 49 8 (h0.1 49 8 + 1) = h → h0.1 49 8 < h0.1 49 7 → Ends d fuel s vp (tn (hrs g0 x)) h0 g0 0 (F_82R rec (I3 x) (I3 d) h0) g
theorem enter {d : Nat} (hd : d ≤ 100) {rec : Int32 → Int32 → sm_H → Option (Int32 × sm_H)} (body : d < 100 → BodyOK d rec) : CallOK d (F_82R rec) := by
  intro h g fuel s x vp vs m x1 c56 c59 c64 vl tv fr st
  have w500 : nH g ≤ 500 := m.k.2.2.2.2.1.1.2
  have v10 : vs.length ≤ 10 := by rw [tv.1]; exact mn_10 m.k x1
  have fm' := m.fm
  have le := m.le
  by_cases q : d = 100
  · refine ⟨sm_wI (sm_wI g 67 63 0) 67 64 3, ?_, ?_⟩
    · show F_344_0 (I3 x) g = _
      unfold F_344_0
      simp only [obs]
      rw [if_pos (by rw [show (sm_wI g 67 63 0).1 67 56 = g.1 67 56 from rfl, c56, q]; rfl)]
    · have aN : agr SN g (sm_wI (sm_wI g 67 63 0) 67 64 3) := agr_wI (agr_wI agr_rfl (by unfold SN; omega)) (by unfold SN; omega)
      refine ⟨3, h, _, 0, s, ?_, Lp_0 _, ⟨K1_N m.k aN, m.hf, m.gf, m.hs, m.gs, m.le, m.fm⟩, Nat.le_refl _, agr3_rfl, agr_mono (fun _ _ z => Or.inl z) aN, grow_N aN, keepC_rfl, Or.inr ⟨by decide, by decide, by omega, rfl⟩⟩
      show F_82_0 rec (I3 x) (I3 d) h = _
      unfold F_82_0
      rw [if_neg (by rw [q]; decide)]; rfl
  · have ld : I3 d < 100 := by rw [I3_lit, I3_lt (by omega) (by decide)]; omega
    by_cases q2 : s = fuel
    · refine ⟨sm_wI (sm_wI g 67 63 0) 67 64 2, ?_, ?_⟩
      · show F_344_0 (I3 x) g = _
        unfold F_344_0
        simp only [obs]
        rw [if_neg (by rw [show (sm_wI g 67 63 0).1 67 56 = g.1 67 56 from rfl, c56, I3_lit, I3_inj (by omega) (by decide)]; omega), if_pos (by show g.1 67 66 = g.1 67 65; rw [m.gs, m.gf, q2])]
      · have aN : agr SN g (sm_wI (sm_wI g 67 63 0) 67 64 2) := agr_wI (agr_wI agr_rfl (by unfold SN; omega)) (by unfold SN; omega)
        refine ⟨2, h, _, 0, s, ?_, Lp_0 _, ⟨K1_N m.k aN, m.hf, m.gf, m.hs, m.gs, m.le, m.fm⟩, Nat.le_refl _, agr3_rfl, agr_mono (fun _ _ z => Or.inl z) aN, grow_N aN, keepC_rfl, Or.inr ⟨by decide, by decide, by omega, rfl⟩⟩
        show F_82_0 rec (I3 x) (I3 d) h = _
        unfold F_82_0
        rw [if_pos ld, if_neg (by rw [m.hs, m.hf, I3_lt (by omega) (by omega)]; omega)]; rfl
    · have lf : h.1 49 8 < h.1 49 7 := by rw [m.hs, m.hf, I3_lt (by omega) (by omega)]; omega
      have ml := hpl_len g x
      have aN : agr SN g (sm_wI (sm_wI (sm_wI (sm_wI (sm_wI (sm_wI g 67 63 0) 67 66 (I3 (s + 1))) 103 d (I3 x)) 104 d 0) 105 d (I3 vp)) 67 56 (I3 (d + 1))) := agr_wI (agr_wI (agr_wI (agr_wI (agr_wI (agr_wI agr_rfl (by unfold SN; omega)) (by unfold SN; omega)) (by unfold SN; omega)) (by unfold SN; omega)) (by unfold SN; omega)) (by unfold SN; omega)
      refine ⟨sm_wI (sm_wI (sm_wI (sm_wI (sm_wI (sm_wI g 67 63 0) 67 66 (I3 (s + 1))) 103 d (I3 x)) 104 d 0) 105 d (I3 vp)) 67 56 (I3 (d + 1)), ?_, ?_⟩
      · show F_344_0 (I3 x) g = _
        unfold F_344_0
        simp only [obs]
        have K3 : K1 h (sm_wI (sm_wI (sm_wI (sm_wI g 67 63 0) 67 66 (I3 (s + 1))) 103 d (I3 x)) 104 d 0) := K1_N m.k (agr_wI (agr_wI (agr_wI (agr_wI agr_rfl (by unfold SN; omega)) (by unfold SN; omega)) (by unfold SN; omega)) (by unfold SN; omega))
        have mn := R_mn K3 (p := x) x1
        rw [if_neg (by rw [show (sm_wI g 67 63 0).1 67 56 = g.1 67 56 from rfl, c56, I3_lit, I3_inj (by omega) (by decide)]; omega), if_neg (by show ¬ g.1 67 66 = g.1 67 65; rw [m.gs, m.gf, I3_inj (by omega) (by omega)]; exact q2), show (sm_wI g 67 63 0).1 67 66 = g.1 67 66 from rfl, m.gs, show I3 s + 1 = I3 (s + 1) from I3_add s 1, show (sm_wI (sm_wI g 67 63 0) 67 66 (I3 (s + 1))).1 67 56 = g.1 67 56 from rfl, c56, stI_I (by omega) (by omega)]; simp only [obs]
        rw [show (sm_wI (sm_wI (sm_wI g 67 63 0) 67 66 (I3 (s + 1))) 103 d (I3 x)).1 67 56 = g.1 67 56 from rfl, c56, stI_I (by omega) (by omega)]; simp only [obs]
        rw [mn]; simp only [obs]
        rw [show (sm_wI (sm_wI (sm_wI (sm_wI g 67 63 0) 67 66 (I3 (s + 1))) 103 d (I3 x)) 104 d 0).1 67 56 = g.1 67 56 from rfl, show (sm_wI (sm_wI (sm_wI (sm_wI g 67 63 0) 67 66 (I3 (s + 1))) 103 d (I3 x)) 104 d 0).1 67 59 = g.1 67 59 from rfl, c56, c59, show tM (sm_wI (sm_wI (sm_wI (sm_wI g 67 63 0) 67 66 (I3 (s + 1))) 103 d (I3 x)) 104 d 0) (ty (sm_wI (sm_wI (sm_wI (sm_wI g 67 63 0) 67 66 (I3 (s + 1))) 103 d (I3 x)) 104 d 0) x) = tM g (ty g x) from rfl, I3_sub (by have := tv.1; omega), show vp + vs.length - tM g (ty g x) = vp by have := tv.1; omega, stI_I (by omega) (by omega)]; simp only [obs]
        rw [show (sm_wI (sm_wI (sm_wI (sm_wI (sm_wI g 67 63 0) 67 66 (I3 (s + 1))) 103 d (I3 x)) 104 d 0) 105 d (I3 vp)).1 67 56 = g.1 67 56 from rfl, c56, show I3 d + 1 = I3 (d + 1) from I3_add d 1]
      · have eh : sm_wI h 49 8 (h.1 49 8 + 1) = sm_wI h 49 8 (I3 (s + 1)) := by rw [m.hs, show I3 s + 1 = I3 (s + 1) from I3_add s 1]
        refine body (by omega) h g (sm_wI h 49 8 (I3 (s + 1))) _ fuel s x vp vs ⟨⟨K1_mach (K1_N m.k aN) (agr_wI agr_rfl (by unfold SM; omega)) rfl, m.hf, m.gf, rfl, rfl, by omega, m.fm⟩, by omega, by omega, by omega, x1, rfl, ?_, ?_, c64, vl, tyV_grow m.k.1 (grow_N aN) tv, fr, st, agr3_of (agr_wI agr_rfl (by unfold SCm; omega)), agr_mono (fun _ _ z => Or.inl z) aN, grow_N aN, keepC_rfl, ⟨fun c i h1 h2 hi => ?_, fun _ _ => ⟨rfl, rfl⟩⟩⟩ rfl c59 ?_ eh lf
        · show (if d = d then I3 x else g.1 103 d) = _; rw [if_pos rfl]
        · show (if d = d then I3 vp else g.1 105 d) = _; rw [if_pos rfl]
        · rw [wI_rd, if_neg (by omega), wI_rd, if_neg (by omega), wI_rd, if_neg (by omega), wI_rd, if_neg (by omega), wI_rd, if_neg (by omega), wI_rd, if_neg (by omega)]
        · show (if d = d then 0 else g.1 104 d) = _; rw [if_pos rfl]
