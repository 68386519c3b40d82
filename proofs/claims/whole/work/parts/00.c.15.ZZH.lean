section
variable {d fuel s0 x vp p s : Nat} {vs : List Val} {h0 g0 h g : sm_H}
abbrev SE (b j : Nat) : Prop := b = 67 ∧ (j = 56 ∨ j = 59 ∨ (60 ≤ j ∧ j ≤ 64))
theorem SE_N (b j : Nat) (z : SE b j) : SN b j := by unfold SE at z; unfold SN; omega
theorem R_endF {g : sm_H} {d vp : Nat} (hd : d < 100) (c56 : g.1 67 56 = I3 (d + 1)) (c105 : g.1 105 d = I3 vp) (k : Int32) (n : Int64) : ∃ u, F_345 k n g = some u ∧ agr SE g u ∧ u.1 67 56 = I3 d ∧ u.1 67 59 = I3 vp ∧ u.1 67 60 = k ∧ u.2.1 67 61 = n ∧ u.1 67 62 = 0 ∧ u.1 67 63 = 1 ∧ u.1 67 64 = g.1 67 64 := by
  refine ⟨sm_wI (sm_wI (sm_wJ (sm_wI (sm_wI (sm_wI g 67 56 (I3 d)) 67 59 (I3 vp)) 67 60 k) 67 61 n) 67 62 0) 67 63 1, ?_, ?_, rfl, rfl, rfl, rfl, rfl, rfl, rfl⟩
  · show F_345_0 k n g = _
    unfold F_345_0
    simp only [obs]
    rw [c56, show I3 (d + 1) - 1 = I3 d from I3_sub (a := d + 1) (b := 1) (by omega), show (sm_wI g 67 56 (I3 d)).1 67 56 = I3 d from rfl, ldI_I (by omega) (by omega), show (sm_wI g 67 56 (I3 d)).1 105 d = g.1 105 d from rfl, c105]; simp only [obs]
  · exact agr_wI (agr_wI (agr_wJ (agr_wI (agr_wI (agr_wI agr_rfl (by unfold SE; omega)) (by unfold SE; omega)) (by unfold SE; omega)) (by unfold SE; omega)) (by unfold SE; omega)) (by unfold SE; omega)
theorem keepR_E {g u : sm_H} {d vp : Nat} (a : agr SE g u) : keepR d vp g u := ⟨fun c i h1 h2 hi => a.1 c i (by unfold SE; omega), fun k hk => ⟨a.1 108 k (by unfold SE; omega), a.2.1 109 k (by unfold SE; omega)⟩⟩
theorem Fr_fin (F : Fr d fuel s0 x vp vs h0 g0 h g p s) {u : sm_H} (a : agr SE g u) (c56 : u.1 67 56 = I3 d) (c59 : u.1 67 59 = I3 vp) (c64 : u.1 67 64 = 0) (c63 : u.1 67 63 = 1) {out rk : Nat} (o1 : out ≤ 1) (c62 : u.1 67 62 = I3 out) (r : res h u out rk) : Ends d fuel s0 vp rk h0 g0 (p + 1) (some (I3 out, h)) u := by
  have aN : agr SN g u := agr_mono SE_N a
  have b := F.b
  refine ⟨out, h, u, 0, s, rfl, Lp_0 u, ⟨K1_N F.m.k aN, F.m.hf, (a.1 67 65 (by unfold SE; omega)).trans F.m.gf, F.m.hs, (a.1 67 66 (by unfold SE; omega)).trans F.m.gs, F.m.le, F.m.fm⟩, by have := F.lt; omega, F.ac, agr_trans F.ar (agr_mono (fun _ _ z => Or.inl z) aN), grow_trans F.gr (grow_N aN), F.kc, Or.inl ⟨o1, by omega, c56, c59, c64, c63, c62, keepR_trans F.kr (keepR_E a), r⟩⟩
theorem Fr_give (F : Fr d fuel s0 x vp vs h0 g0 h g p s) {rk : Nat} (k : Int32) (n : Int64) (ok : okV g rk k n) : ∃ u h', F_345 k n g = some u ∧ F_75 n (tag k) h = some (0, h') ∧ Ends d fuel s0 vp rk h0 g0 (p + 1) (some (0, h')) u := by
  obtain ⟨u, e1, e2, e3, e4, e5, e6, e7, e8, e9⟩ := R_endF F.d1 F.c56 F.c105 k n
  have a : agr (SC1 d) h (sm_wI (sm_wJ h 49 9 n) 49 10 (tag k)) := agr_wI (agr_wJ agr_rfl (by unfold SC1; omega)) (by unfold SC1; omega)
  refine ⟨u, _, e1, rfl, ?_⟩
  refine Fr_fin (out := 0) (Fr_h F a rfl) e2 e3 e4 (e9.trans F.c64) e8 (by decide) e7 ⟨?_, ?_, fun _ => ?_, fun z => by cases z⟩
  · rw [e6]; rfl
  · rw [e5]; rfl
  · rw [e5, e6]; exact okV_grow F.m.k.1 (grow_N (agr_mono SE_N e2)) ok
theorem Fr_pass (F : Fr d fuel s0 x vp vs h0 g0 h g p s) {rk : Nat} (k : Int32) (n : Int64) (h9 : h.2.1 49 9 = n) (h10 : h.1 49 10 = tag k) (ok : okV g rk k n) : ∃ u, F_345 k n g = some u ∧ Ends d fuel s0 vp rk h0 g0 (p + 1) (some (0, h)) u := by
  obtain ⟨u, e1, e2, e3, e4, e5, e6, e7, e8, e9⟩ := R_endF F.d1 F.c56 F.c105 k n
  refine ⟨u, e1, Fr_fin (out := 0) F e2 e3 e4 (e9.trans F.c64) e8 (by decide) e7 ⟨?_, ?_, fun _ => ?_, fun z => by cases z⟩⟩
  · rw [e6]; exact h9
  · rw [e5]; exact h10
  · rw [e5, e6]; exact okV_grow F.m.k.1 (grow_N (agr_mono SE_N e2)) ok
theorem okE_grow {g g1 : sm_H} (wK : wfK g) (G : grow g g1) {k : Int32} {n : Int64} (h : okE g k n) : okE g1 k n := by
  obtain ⟨q, q1, q2, q3, q4⟩ := h
  exact ⟨q, q1, by have := G.1; omega, by rw [← q3]; exact bel_grow wK G.2.2.2.2 12 q 19 q2, okO_grow G q4⟩
theorem R_throw {g : sm_H} {d vp : Nat} (hd : d < 100) (c56 : g.1 67 56 = I3 (d + 1)) (c105 : g.1 105 d = I3 vp) (k : Int32) (n : Int64) : ∃ u, F_347 k n g = some u ∧ agr SE g u ∧ u.1 67 56 = I3 d ∧ u.1 67 59 = I3 vp ∧ u.1 67 60 = k ∧ u.2.1 67 61 = n ∧ u.1 67 62 = I3 1 ∧ u.1 67 63 = 1 ∧ u.1 67 64 = g.1 67 64 := by
  obtain ⟨u, e1, e2, e3, e4, e5, e6, e7, e8, e9⟩ := R_endF hd c56 c105 k n
  refine ⟨sm_wI u 67 62 1, ?_, agr_wI e2 (by unfold SE; omega), e3, e4, e5, e6, rfl, e8, e9⟩
  show F_347_0 k n g = _
  unfold F_347_0
  rw [e1]; simp only [obs]
theorem Fr_threw (F : Fr d fuel s0 x vp vs h0 g0 h g p s) {rk : Nat} (k : Int32) (n : Int64) (h9 : h.2.1 49 9 = n) (h10 : h.1 49 10 = tag k) (ok : okE g k n) : ∃ u, F_347 k n g = some u ∧ Ends d fuel s0 vp rk h0 g0 (p + 1) (some (1, h)) u := by
  obtain ⟨u, e1, e2, e3, e4, e5, e6, e7, e8, e9⟩ := R_throw F.d1 F.c56 F.c105 k n
  refine ⟨u, e1, Fr_fin (out := 1) F e2 e3 e4 (e9.trans F.c64) e8 (by decide) e7 ⟨?_, ?_, fun z => by (cases z), fun _ => ?_⟩⟩
  · rw [e6]; exact h9
  · rw [e5]; exact h10
  · rw [e5, e6]; exact okE_grow F.m.k.1 (grow_N (agr_mono SE_N e2)) ok
theorem tag19 : tag 19 = 19 := by decide
theorem okE_19 (g : sm_H) {n : Int64} (h1 : 0 ≤ n.toInt) (h2 : n.toInt ≤ 100) : okE g 19 n := ⟨19, rfl, by omega, by rw [show B g 19 19 = bel g 12 19 19 from rfl]; exact B_self g 12 19, Or.inr (Or.inr (Or.inr ⟨rfl, h1, h2⟩))⟩
theorem Fr_fail (F : Fr d fuel s0 x vp vs h0 g0 h g p s) {rk : Nat} (c : Int32) (hc : 0 ≤ c.toInt ∧ c.toInt ≤ 100 := by decide) : ∃ u h', F_348 c g = some u ∧ F_76 c h = some (1, h') ∧ Ends d fuel s0 vp rk h0 g0 (p + 1) (some (1, h')) u := by
  have a : agr (SC1 d) h (sm_wI (sm_wJ h 49 9 (Int32.toInt64 c)) 49 10 19) := agr_wI (agr_wJ agr_rfl (by unfold SC1; omega)) (by unfold SC1; omega)
  obtain ⟨u, e1, e2⟩ := Fr_threw (rk := rk) (Fr_h F a rfl) 19 (Int32.toInt64 c) rfl (by rw [tag19]; rfl) (okE_19 g (by rw [toI64]; exact hc.1) (by rw [toI64]; exact hc.2))
  refine ⟨u, _, ?_, rfl, e2⟩
  show F_348_0 c g = _
  unfold F_348_0
  rw [e1]; simp only [obs]
theorem Fr_full (F : Fr d fuel s0 x vp vs h0 g0 h g p s) {rk : Nat} : Ends d fuel s0 vp rk h0 g0 (p + 1) (some (4, h)) (sm_wI g 67 64 4) := by
  have a : agr SE g (sm_wI g 67 64 4) := agr_wI agr_rfl (by unfold SE; omega)
  have aN : agr SN g (sm_wI g 67 64 4) := agr_mono SE_N a
  have b := F.b
  exact ⟨4, h, sm_wI g 67 64 4, 0, s, rfl, Lp_0 _, ⟨K1_N F.m.k aN, F.m.hf, F.m.gf, F.m.hs, F.m.gs, F.m.le, F.m.fm⟩, by have := F.lt; omega, F.ac, agr_trans F.ar (agr_mono (fun _ _ z => Or.inl z) aN), grow_trans F.gr (grow_N aN), F.kc, Or.inr ⟨by decide, by decide, by omega, rfl⟩⟩
end
def BodyOK (d : Nat) (rec : Int32 → Int32 → sm_H → Option (Int32 × sm_H)) : Prop :=
  ∀ (h0 g0 h g : sm_H) (fuel s x vp : Nat) (vs : List Val), Fr d fuel s x vp vs h0 g0 h g 0 (s + 1) → g.1 67 63 = 0 → g.1 67 59 = I3 (vp + vs.length) → g.1 104 d = 0 → sm_wI h0 49 8 (h0.1 49 8 + 1) = h → h0.1 49 8 < h0.1 49 7 → Ends d fuel s vp (tn (hrs g0 x)) h0 g0 0 (F_82R rec (I3 x) (I3 d) h0) g
theorem enter {d : Nat} (hd : d ≤ 100) {rec : Int32 → Int32 → sm_H → Option (Int32 × sm_H)} (body : d < 100 → BodyOK d rec) : CallOK d (F_82R rec) := by
  intro h g fuel s x vp vs m x1 c56 c59 c64 vl tv fr st
  have w500 : nH g ≤ 500 := m.k.2.2.2.2.1.1.2
  have v10 : vs.length ≤ 10 := by rw [tv.1]; exact mn_10 m.k x1
  have fm' := m.fm
  have le := m.le
  by_cases q : d = 100
  · refine ⟨sm_wI (sm_wI g 67 63 0) 67 64 3, ?_, ?_⟩
    · show F_344_0 (I3 x) g = _
      unfold F_344_0
      simp only [obs]
      rw [if_pos (by rw [show (sm_wI g 67 63 0).1 67 56 = g.1 67 56 from rfl, c56, q]; rfl)]
    · have aN : agr SN g (sm_wI (sm_wI g 67 63 0) 67 64 3) := agr_wI (agr_wI agr_rfl (by unfold SN; omega)) (by unfold SN; omega)
      refine ⟨3, h, _, 0, s, ?_, Lp_0 _, ⟨K1_N m.k aN, m.hf, m.gf, m.hs, m.gs, m.le, m.fm⟩, Nat.le_refl _, agr3_rfl, agr_mono (fun _ _ z => Or.inl z) aN, grow_N aN, keepC_rfl, Or.inr ⟨by decide, by decide, by omega, rfl⟩⟩
      show F_82_0 rec (I3 x) (I3 d) h = _
      unfold F_82_0
      rw [if_neg (by rw [q]; decide)]; rfl
  · have ld : I3 d < 100 := by rw [I3_lit, I3_lt (by omega) (by decide)]; omega
    by_cases q2 : s = fuel
    · refine ⟨sm_wI (sm_wI g 67 63 0) 67 64 2, ?_, ?_⟩
      · show F_344_0 (I3 x) g = _
        unfold F_344_0
        simp only [obs]
        rw [if_neg (by rw [show (sm_wI g 67 63 0).1 67 56 = g.1 67 56 from rfl, c56, I3_lit, I3_inj (by omega) (by decide)]; omega), if_pos (by show g.1 67 66 = g.1 67 65; rw [m.gs, m.gf, q2])]
      · have aN : agr SN g (sm_wI (sm_wI g 67 63 0) 67 64 2) := agr_wI (agr_wI agr_rfl (by unfold SN; omega)) (by unfold SN; omega)
        refine ⟨2, h, _, 0, s, ?_, Lp_0 _, ⟨K1_N m.k aN, m.hf, m.gf, m.hs, m.gs, m.le, m.fm⟩, Nat.le_refl _, agr3_rfl, agr_mono (fun _ _ z => Or.inl z) aN, grow_N aN, keepC_rfl, Or.inr ⟨by decide, by decide, by omega, rfl⟩⟩
        show F_82_0 rec (I3 x) (I3 d) h = _
        unfold F_82_0
        rw [if_pos ld, if_neg (by rw [m.hs, m.hf, I3_lt (by omega) (by omega)]; omega)]; rfl
    · have lf : h.1 49 8 < h.1 49 7 := by rw [m.hs, m.hf, I3_lt (by omega) (by omega)]; omega
      have ml := hpl_len g x
      have aN : agr SN g (sm_wI (sm_wI (sm_wI (sm_wI (sm_wI (sm_wI g 67 63 0) 67 66 (I3 (s + 1))) 103 d (I3 x)) 104 d 0) 105 d (I3 vp)) 67 56 (I3 (d + 1))) := agr_wI (agr_wI (agr_wI (agr_wI (agr_wI (agr_wI agr_rfl (by unfold SN; omega)) (by unfold SN; omega)) (by unfold SN; omega)) (by unfold SN; omega)) (by unfold SN; omega)) (by unfold SN; omega)
      refine ⟨sm_wI (sm_wI (sm_wI (sm_wI (sm_wI (sm_wI g 67 63 0) 67 66 (I3 (s + 1))) 103 d (I3 x)) 104 d 0) 105 d (I3 vp)) 67 56 (I3 (d + 1)), ?_, ?_⟩
      · show F_344_0 (I3 x) g = _
        unfold F_344_0
        simp only [obs]
        have K3 : K1 h (sm_wI (sm_wI (sm_wI (sm_wI g 67 63 0) 67 66 (I3 (s + 1))) 103 d (I3 x)) 104 d 0) := K1_N m.k (agr_wI (agr_wI (agr_wI (agr_wI agr_rfl (by unfold SN; omega)) (by unfold SN; omega)) (by unfold SN; omega)) (by unfold SN; omega))
        have mn := R_mn K3 (p := x) x1
        rw [if_neg (by rw [show (sm_wI g 67 63 0).1 67 56 = g.1 67 56 from rfl, c56, I3_lit, I3_inj (by omega) (by decide)]; omega), if_neg (by show ¬ g.1 67 66 = g.1 67 65; rw [m.gs, m.gf, I3_inj (by omega) (by omega)]; exact q2), show (sm_wI g 67 63 0).1 67 66 = g.1 67 66 from rfl, m.gs, show I3 s + 1 = I3 (s + 1) from I3_add s 1, show (sm_wI (sm_wI g 67 63 0) 67 66 (I3 (s + 1))).1 67 56 = g.1 67 56 from rfl, c56, stI_I (by omega) (by omega)]; simp only [obs]
        rw [show (sm_wI (sm_wI (sm_wI g 67 63 0) 67 66 (I3 (s + 1))) 103 d (I3 x)).1 67 56 = g.1 67 56 from rfl, c56, stI_I (by omega) (by omega)]; simp only [obs]
        rw [mn]; simp only [obs]
        rw [show (sm_wI (sm_wI (sm_wI (sm_wI g 67 63 0) 67 66 (I3 (s + 1))) 103 d (I3 x)) 104 d 0).1 67 56 = g.1 67 56 from rfl, show (sm_wI (sm_wI (sm_wI (sm_wI g 67 63 0) 67 66 (I3 (s + 1))) 103 d (I3 x)) 104 d 0).1 67 59 = g.1 67 59 from rfl, c56, c59, show tM (sm_wI (sm_wI (sm_wI (sm_wI g 67 63 0) 67 66 (I3 (s + 1))) 103 d (I3 x)) 104 d 0) (ty (sm_wI (sm_wI (sm_wI (sm_wI g 67 63 0) 67 66 (I3 (s + 1))) 103 d (I3 x)) 104 d 0) x) = tM g (ty g x) from rfl, I3_sub (by have := tv.1; omega), show vp + vs.length - tM g (ty g x) = vp by have := tv.1; omega, stI_I (by omega) (by omega)]; simp only [obs]
        rw [show (sm_wI (sm_wI (sm_wI (sm_wI (sm_wI g 67 63 0) 67 66 (I3 (s + 1))) 103 d (I3 x)) 104 d 0) 105 d (I3 vp)).1 67 56 = g.1 67 56 from rfl, c56, show I3 d + 1 = I3 (d + 1) from I3_add d 1]
      · have eh : sm_wI h 49 8 (h.1 49 8 + 1) = sm_wI h 49 8 (I3 (s + 1)) := by rw [m.hs, show I3 s + 1 = I3 (s + 1) from I3_add s 1]
        refine body (by omega) h g (sm_wI h 49 8 (I3 (s + 1))) _ fuel s x vp vs ⟨⟨K1_mach (K1_N m.k aN) (agr_wI agr_rfl (by unfold SM; omega)) rfl, m.hf, m.gf, rfl, rfl, by omega, m.fm⟩, by omega, by omega, by omega, x1, rfl, ?_, ?_, c64, vl, tyV_grow m.k.1 (grow_N aN) tv, fr, st, agr3_of (agr_wI agr_rfl (by unfold SCm; omega)), agr_mono (fun _ _ z => Or.inl z) aN, grow_N aN, keepC_rfl, ⟨fun c i h1 h2 hi => ?_, fun _ _ => ⟨rfl, rfl⟩⟩⟩ rfl c59 ?_ eh lf
        · show (if d = d then I3 x else g.1 103 d) = _; rw [if_pos rfl]
        · show (if d = d then I3 vp else g.1 105 d) = _; rw [if_pos rfl]
        · rw [wI_rd, if_neg (by omega), wI_rd, if_neg (by omega), wI_rd, if_neg (by omega), wI_rd, if_neg (by omega), wI_rd, if_neg (by omega), wI_rd, if_neg (by omega)]
        · show (if d = d then 0 else g.1 104 d) = _; rw [if_pos rfl]
theorem Ends_lp {d fuel s0 vp rk p c : Nat} {h0 g0 u u' : sm_H} {r : Option (Int32 × sm_H)} (L : Lp c u u') (E : Ends d fuel s0 vp rk h0 g0 (p + c) r u') : Ends d fuel s0 vp rk h0 g0 p r u := by
  obtain ⟨out, h1, g1, c', s1, o1, o2, o3, o4, o5, o6, o7, o8, o9⟩ := E
  refine ⟨out, h1, g1, c + c', s1, o1, Lp_trans L o2, o3, o4, o5, o6, o7, o8, ?_⟩
  rcases o9 with ⟨q1, q2, q3⟩ | ⟨q1, q2, q3, q4⟩
  · exact Or.inl ⟨q1, by omega, q3⟩
  · exact Or.inr ⟨q1, q2, by omega, q4⟩
section
variable {d fuel s0 x vp p s : Nat} {vs : List Val} {h0 g0 h g : sm_H}
theorem Fr.x500 (F : Fr d fuel s0 x vp vs h0 g0 h g p s) : x < 500 := by
  have := F.hx
  have w500 : nH g ≤ 500 := F.m.k.2.2.2.2.1.1.2
  omega
theorem Fr.l103 (F : Fr d fuel s0 x vp vs h0 g0 h g p s) : ldI g 103 100 (I3 d) = some (I3 x) := by rw [ldI_I F.d1 (by decide), F.c103]
theorem Fr.l105 (F : Fr d fuel s0 x vp vs h0 g0 h g p s) : ldI g 105 100 (I3 d) = some (I3 vp) := by rw [ldI_I F.d1 (by decide), F.c105]
theorem fr_vl' (F : Fr d fuel s0 x vp vs h0 g0 h g p s) : vs.length = tM g (ty g x) := by rw [F.ty.1, ← m_hpl F.ar, hpl_len]
theorem Fr.l305 (F : Fr d fuel s0 x vp vs h0 g0 h g p s) : F_305 (I3 x) g = some (I3 vs.length, g) := by rw [R_mn F.m.k F.hx, fr_vl' F]
theorem Fr.l77 (F : Fr d fuel s0 x vp vs h0 g0 h g p s) : ldI g 77 500 (I3 x) = some (g0.1 77 x) := by rw [ldI_I F.x500 (by decide), (m_c F.ar (by decide) (by decide)).1]
theorem Fr.l78 (F : Fr d fuel s0 x vp vs h0 g0 h g p s) : ldI g 78 500 (I3 x) = some (g0.1 78 x) := by rw [ldI_I F.x500 (by decide), (m_c F.ar (by decide) (by decide)).1]
theorem Fr.l79 (F : Fr d fuel s0 x vp vs h0 g0 h g p s) : ldJ g 79 500 (I3 x) = some (g0.2.1 79 x) := by rw [ldJ_I F.x500 (by decide), (m_c F.ar (by decide) (by decide)).2]
theorem Fr.l75 (F : Fr d fuel s0 x vp vs h0 g0 h g p s) : ldI g 75 500 (I3 x) = some (I3 (fm g0 x)) := by rw [R_fm F.m.k F.hx, m_fm F.ar]
theorem Fr.l81k (F : Fr d fuel s0 x vp vs h0 g0 h g p s) {k : Nat} (hk : k < 24) : ldI g 81 12000 (I3 (24 * x + k)) = some (g0.1 81 (24 * x + k)) := by
  have := F.x500
  rw [ldI_I (by omega) (by decide), (m_c F.ar (by decide) (by decide)).1]
theorem Fr.l81 (F : Fr d fuel s0 x vp vs h0 g0 h g p s) : ldI g 81 12000 (24 * I3 x) = some (g0.1 81 (24 * x)) := by
  rw [show (24 : Int32) * I3 x = I3 (24 * x + 0) by rw [I3_lit, I3_mul]; rfl]; exact F.l81k (by decide)
theorem Fr.l81' (F : Fr d fuel s0 x vp vs h0 g0 h g p s) : ldI g 81 12000 (24 * I3 x + 1) = some (g0.1 81 (24 * x + 1)) := by
  rw [show (24 : Int32) * I3 x + 1 = I3 (24 * x + 1) by rw [I3_lit, I3_lit, I3_mul, I3_add]]; exact F.l81k (by decide)
theorem Fr.f37 (F : Fr d fuel s0 x vp vs h0 g0 h g p s) : F_37 (I3 x) h = some (I3 (fm g0 x), h) := by rw [C_fm F.m.k F.hx, m_fm F.ar]
theorem Fr.f38 (F : Fr d fuel s0 x vp vs h0 g0 h g p s) : F_38 (I3 x) h = some (g0.1 77 x, h) := by rw [C_ha F.m.k.2.2.2.2.1 F.m.k.2.2.2.2.2.1 F.hx, (m_c F.ar (by decide) (by decide)).1]
theorem Fr.f39 (F : Fr d fuel s0 x vp vs h0 g0 h g p s) : F_39 (I3 x) h = some (g0.1 78 x, h) := by rw [C_hb F.m.k.2.2.2.2.1 F.m.k.2.2.2.2.2.1 F.hx, (m_c F.ar (by decide) (by decide)).1]
theorem Fr.f40 (F : Fr d fuel s0 x vp vs h0 g0 h g p s) : F_40 (I3 x) h = some (g0.2.1 79 x, h) := by rw [C_hc F.m.k.2.2.2.2.1 F.m.k.2.2.2.2.2.1 F.hx, (m_c F.ar (by decide) (by decide)).2]
theorem Fr.f43 (F : Fr d fuel s0 x vp vs h0 g0 h g p s) {k : Nat} (hk : k < (prt g0 x).length) : F_43 (I3 x) (I3 k) h = some (at0 (prt g0 x) k, h) := by
  rw [prt_len] at hk
  rw [C_part F.m.k.2.2.2.2.1 F.m.k.2.2.2.2.2.1 F.hx (by rw [m_pm F.ar]; exact hk), (m_c F.ar (by decide) (by decide)).1, at0_lst hk]
theorem Fr.at81 (F : Fr d fuel s0 x vp vs h0 g0 h g p s) {k : Nat} (hk : k < (prt g0 x).length) : g0.1 81 (24 * x + k) = at0 (prt g0 x) k := by
  rw [prt_len] at hk
  rw [at0_lst hk]
theorem Fr.mn (F : Fr d fuel s0 x vp vs h0 g0 h g p s) {y : Nat} (hy : y < nH g0) : F_305 (I3 y) g = some (I3 (hpl g0 y).length, g) := by rw [R_mn F.m.k (by rw [m_nH F.ar]; exact hy), ← hpl_len, m_hpl F.ar]
theorem Fr.cmn (F : Fr d fuel s0 x vp vs h0 g0 h g p s) {y : Nat} (hy : y < nH g0) : F_45 (I3 y) h = some (I3 (hpl g0 y).length, h) := by rw [C_mn F.m.k (by rw [m_nH F.ar]; exact hy), ← hpl_len, m_hpl F.ar]
theorem Fr.rs (F : Fr d fuel s0 x vp vs h0 g0 h g p s) {y : Nat} (hy : y < nH g0) : F_307 (I3 y) g = some (hrs g0 y, g) := by rw [R_rs F.m.k (by rw [m_nH F.ar]; exact hy), m_hrs F.ar]
theorem Fr.crs (F : Fr d fuel s0 x vp vs h0 g0 h g p s) {y : Nat} (hy : y < nH g0) : F_44 (I3 y) h = some (hrs g0 y, h) := by rw [C_rs F.m.k (by rw [m_nH F.ar]; exact hy), m_hrs F.ar]
theorem Fr.n10 (F : Fr d fuel s0 x vp vs h0 g0 h g p s) {y : Nat} (hy : y < nH g0) : (hpl g0 y).length ≤ 10 := by
  have := mn_10 F.m.k (p := y) (by rw [m_nH F.ar]; exact hy)
  rw [m_hpl F.ar] at this; exact this
theorem Fr.vx (F : Fr d fuel s0 x vp vs h0 g0 h g p s) : vs.length = (hpl g0 x).length := F.ty.1
theorem Fr.d16 (F : Fr d fuel s0 x vp vs h0 g0 h g p s) : d < 2147483648 := by have := F.d1; omega
theorem Fr.fs (F : Fr d fuel s0 x vp vs h0 g0 h g p s) : FS g (fm g0 x) (g0.1 77 x) (g0.1 78 x) (g0.2.1 79 x) (prt g0 x) (hrs g0 x) (hpl g0 x) := by
  have wF := F.m.k.2.2.2.2.2.2.2.2.2.2.2.2.2.2
  rw [wfF_0] at wF
  have := wF.1 x F.hx
  rw [m_fm F.ar, m_prt F.ar, m_hrs F.ar, m_hpl F.ar, (m_c F.ar (show 70 ≤ 77 by decide) (by decide)).1, (m_c F.ar (show 70 ≤ 78 by decide) (by decide)).1, (m_c F.ar (show 70 ≤ 79 by decide) (by decide)).2] at this
  exact this
end
theorem go_thr {d fuel s0 x vp p s : Nat} {vs : List Val} {h0 g0 h g : sm_H} (F : Fr d fuel s0 x vp vs h0 g0 h g p s) (c62 : g.1 67 62 = I3 1) (ne : g.1 104 d ≠ 1 ∨ (fm g0 x ≠ 15 ∧ fm g0 x ≠ 16)) : F_377 g = F_347 (g.1 67 60) (g.2.1 67 61) (sm_wI g 67 63 0) := by
  have f38 : fm g0 x ≤ 38 := by have := (F.m.k.2.2.2.2.1.2 x F.hx).1.2; rw [show tn (g.1 75 x) = fm g x from rfl, m_fm F.ar] at this; exact this
  have x500 := F.x500
  have F' := Fr_g F (g' := sm_wI g 67 63 0) (agr_wI agr_rfl (by unfold SG; omega))
  have key : F_378_93 (I3 d) (I3 x) (I3 vp) (g.1 67 60) (g.2.1 67 61) (g0.1 81 (24 * x + 1)) (sm_wI g 67 63 0) = (F_347 (g.1 67 60) (g.2.1 67 61) (sm_wI g 67 63 0)).bind some := by
    unfold F_378_93 F_378_191 F_378_199
    rw [F'.l75]; simp only [obs]
    by_cases q : fm g0 x = 16
    · rw [if_pos (show I3 (fm g0 x) = (16 : Int32) from congrArg I3 q), ldI_I F.d1 (by decide)]; simp only [obs]
      rw [if_neg (show ¬ (sm_wI g 67 63 0).1 104 d = 1 from fun z => by rcases ne with n | n; exact n z; exact n.2 q)]
    · rw [if_neg (show ¬ I3 (fm g0 x) = (16 : Int32) by rw [I3_lit, I3_inj (by omega) (by decide)]; exact q)]
  show F_377_0 g = _
  unfold F_377_0
  simp only [obs]
  rw [F.c56, show I3 (d + 1) - 1 = I3 d from I3_sub (a := d + 1) (b := 1) (by omega), F.l103]; simp only [obs]
  rw [F.l105]; simp only [obs]
  rw [F.l305]; simp only [obs]
  rw [F.l77]; simp only [obs]
  rw [F.l81]; simp only [obs]
  rw [F.l81']; simp only [obs]
  rw [if_neg (show ¬ (sm_wI g 67 63 0).1 67 62 = 0 by show ¬ g.1 67 62 = 0; rw [c62]; decide), show F_378 (I3 d) (I3 x) (I3 vp) (I3 vs.length) (sm_wI g 67 63 0) = F_378_0 (I3 d) (I3 x) (I3 vp) (I3 vs.length) (sm_wI g 67 63 0) from rfl]
  unfold F_378_0
  simp only [obs]
  rw [show (sm_wI g 67 63 0).1 67 60 = g.1 67 60 from rfl, show (sm_wI g 67 63 0).2.1 67 61 = g.2.1 67 61 from rfl, F'.l81']; simp only [obs]
  rw [F'.l75]; simp only [obs]
  have fin : ((F_347 (g.1 67 60) (g.2.1 67 61) (sm_wI g 67 63 0)).bind some).bind some = F_347 (g.1 67 60) (g.2.1 67 61) (sm_wI g 67 63 0) := by
    cases F_347 (g.1 67 60) (g.2.1 67 61) (sm_wI g 67 63 0) <;> rfl
  by_cases q : fm g0 x = 15
  · rw [if_pos (show I3 (fm g0 x) = (15 : Int32) from congrArg I3 q), ldI_I F.d1 (by decide)]; simp only [obs]
    rw [if_neg (show ¬ (sm_wI g 67 63 0).1 104 d = 1 from fun z => by rcases ne with n | n; exact n z; exact n.1 q), key]; exact fin
  · rw [if_neg (show ¬ I3 (fm g0 x) = (15 : Int32) by rw [I3_lit, I3_inj (by omega) (by decide)]; exact q), key]; exact fin
theorem go_90 {d fuel s0 x vp p s : Nat} {vs : List Val} {h0 g0 h g : sm_H} (F : Fr d fuel s0 x vp vs h0 g0 h g p s) (c62 : g.1 67 62 = I3 0) (c104 : g.1 104 d = 90) : F_377 g = F_345 (g.1 67 60) (g.2.1 67 61) (sm_wI g 67 63 0) := by
  show F_377_0 g = _
  unfold F_377_0
  simp only [obs]
  rw [F.c56, show I3 (d + 1) - 1 = I3 d from I3_sub (a := d + 1) (b := 1) (by omega), F.l103]; simp only [obs]
  rw [F.l105]; simp only [obs]
  rw [F.l305]; simp only [obs]
  rw [F.l77]; simp only [obs]
  rw [F.l81]; simp only [obs]
  rw [F.l81']; simp only [obs]
  rw [if_pos (show (sm_wI g 67 63 0).1 67 62 = 0 from c62), ldI_I F.d1 (by decide), show (sm_wI g 67 63 0).1 104 d = g.1 104 d from rfl, c104]; simp only [obs]
  rw [if_neg (by decide), if_neg (by decide), if_neg (by decide), if_neg (by decide), if_neg (by decide), if_neg (by decide), if_pos (by decide)]
  show (F_345 (g.1 67 60) (g.2.1 67 61) (sm_wI g 67 63 0)).bind some = _
  cases F_345 (g.1 67 60) (g.2.1 67 61) (sm_wI g 67 63 0) <;> rfl
section
variable {d fuel s0 x vp p s : Nat} {vs : List Val} {h0 g0 h g : sm_H}
theorem thru (F : Fr d fuel s0 x vp vs h0 g0 h g p s) {out rk : Nat} (o1 : out ≤ 1) (c63 : g.1 67 63 = 1) (c62 : g.1 67 62 = I3 out) (r : res h g out rk) (h104 : out = 0 → g.1 104 d = 90) (ne : out = 1 → g.1 104 d ≠ 1 ∨ (fm g0 x ≠ 15 ∧ fm g0 x ≠ 16)) : Ends d fuel s0 vp rk h0 g0 p (some (I3 out, h)) g := by
  have d1 := F.d1
  have F' := Fr_g F (g' := sm_wI g 67 63 0) (agr_wI agr_rfl (by unfold SG; omega))
  rcases (show out = 0 ∨ out = 1 by omega) with rfl | rfl
  · obtain ⟨u, e1, e2⟩ := Fr_pass (rk := rk) F' (g.1 67 60) (g.2.1 67 61) r.1 r.2.1 (r.2.2.1 rfl)
    exact Ends_step (step_goOn (by omega) F.c64 F.c56 c63 ((go_90 F c62 (h104 rfl)).trans e1)) e2
  · obtain ⟨u, e1, e2⟩ := Fr_threw (rk := rk) F' (g.1 67 60) (g.2.1 67 61) r.1 r.2.1 (r.2.2.2 rfl)
    exact Ends_step (step_goOn (by omega) F.c64 F.c56 c63 ((go_thr F c62 (ne rfl)).trans e1)) e2
theorem tail {rec : Int32 → Int32 → sm_H → Option (Int32 × sm_H)} (IH : CallOK (d + 1) rec) (F : Fr d fuel s0 x vp vs h0 g0 h g p s) {y T : Nat} {ws : List Val} (y1 : y < nH g0) (t1 : vp + vs.length ≤ T) (t2 : T ≤ vp + vs.length + 10) (c59 : g.1 67 59 = I3 (T + ws.length)) (ft : frm h (d + 1) ws) (sw : stk g T ws) (tw : tyV g (hpl g0 y) ws) : ∃ u, F_349 (I3 y) g = some u ∧ Ends d fuel s0 vp (tn (hrs g0 y)) h0 g0 (p + 1) (rec (I3 y) (I3 (d + 1)) h) u := by
  have a : agr (SG d (vp + vs.length)) g (sm_wI g 104 d 90) := agr_wI agr_rfl (by unfold SG; omega)
  have F' := Fr_g F a
  obtain ⟨u, e1, e2⟩ := Fr_sub IH F' y1 t1 t2 c59 ft sw (tyV_grow F.m.k.1 (grow_N (agr_mono (SG_N _ _) a)) tw)
  refine ⟨u, ?_, ?_⟩
  · show F_349_0 (I3 y) g = _
    unfold F_349_0
    rw [F.c56, show I3 (d + 1) - 1 = I3 d from I3_sub (a := d + 1) (b := 1) (by omega), stI_I F.d1 (by decide)]; simp only [obs]
    rw [e1]; simp only [obs]
  · rcases e2 with ⟨out, h1, g1, c, s1, o1, o2, o3, o4, o5, o6, o7, o8, o9, o10, -⟩ | ⟨out, h1, o1, -, o2, o3⟩
    · rw [o2]
      have k104 : g1.1 104 d = 90 := by
        rw [o9.1 104 d (by decide) (by decide) (by omega)]
        show (if d = d then (90 : Int32) else g.1 104 d) = _; rw [if_pos rfl]
      exact Ends_lp o3 (thru o4 o1 o6 o7 o8 (fun _ => k104) (fun _ => Or.inl (by rw [k104]; decide)))
    · rw [o2]; exact o3 _
end
