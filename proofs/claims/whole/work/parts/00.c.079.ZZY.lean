abbrev SCx (b j : Nat) : Prop := (b = 21 ∧ j = 2) ∨ b = 22 ∨ b = 24 ∨ b = 25 ∨ 131 ≤ b
abbrev SRx (b j : Nat) : Prop := (b = 67 ∧ j = 45) ∨ (96 ≤ b ∧ b ≤ 101)
def nxC (b j : Nat) : Bool := (Nat.beq b 21 && Nat.beq j 2) || Nat.beq b 22 || Nat.beq b 24 || Nat.beq b 25 || Nat.ble 131 b
def nxR (b j : Nat) : Bool := (Nat.beq b 67 && Nat.beq j 45) || (Nat.ble 96 b && Nat.ble b 101)
theorem nxC_S {b j : Nat} (e : nxC b j = false) : ¬ SCx b j := fun z => by
  have t : nxC b j = true := by
    unfold nxC
    unfold SCx at z
    simp only [Bool.or_eq_true, Bool.and_eq_true, Nat.beq_eq, Nat.ble_eq]
    omega
  rw [t] at e; cases e
theorem nxR_S {b j : Nat} (e : nxR b j = false) : ¬ SRx b j := fun z => by
  have t : nxR b j = true := by
    unfold nxR
    unfold SRx at z
    simp only [Bool.or_eq_true, Bool.and_eq_true, Nat.beq_eq, Nat.ble_eq]
    omega
  rw [t] at e; cases e
def zC (h : sm_H) : sm_H := (fun b j => cond (nxC b j) 0 (h.1 b j), fun b j => cond (nxC b j) 0 (h.2.1 b j), fun _ _ => none, fun _ => 0, fun _ => 0, 0, 0)
def zR (h : sm_H) : sm_H := (fun b j => cond (nxR b j) 0 (h.1 b j), fun b j => cond (nxR b j) 0 (h.2.1 b j), fun _ _ => none, fun _ => 0, fun _ => 0, 0, 0)
theorem zC_eq {h h1 : sm_H} (a : agr3 SCx h h1) : zC h1 = zC h := by
  refine Prod.ext (funext fun b => funext fun j => ?_) (Prod.ext (funext fun b => funext fun j => ?_) rfl)
  · show cond (nxC b j) 0 (h1.1 b j) = cond (nxC b j) 0 (h.1 b j)
    cases q : nxC b j with
    | true => rfl
    | false => exact a.1 b j (nxC_S q)
  · show cond (nxC b j) 0 (h1.2.1 b j) = cond (nxC b j) 0 (h.2.1 b j)
    cases q : nxC b j with
    | true => rfl
    | false => exact a.2.1 b j (nxC_S q)
theorem zR_eq {h h1 : sm_H} (a : agr SRx h h1) : zR h1 = zR h := by
  refine Prod.ext (funext fun b => funext fun j => ?_) (Prod.ext (funext fun b => funext fun j => ?_) rfl)
  · show cond (nxR b j) 0 (h1.1 b j) = cond (nxR b j) 0 (h.1 b j)
    cases q : nxR b j with
    | true => rfl
    | false => exact a.1 b j (nxR_S q)
  · show cond (nxR b j) 0 (h1.2.1 b j) = cond (nxR b j) 0 (h.2.1 b j)
    cases q : nxR b j with
    | true => rfl
    | false => exact a.2.1 b j (nxR_S q)
theorem B_z (g : sm_H) (a b : Nat) : B (zR g) a b = B g a b := B_par (fun _ => rfl) a b
theorem cK_z {h g : sm_H} : cK (zC h) (zR g) ↔ cK h g := by
  unfold cK
  constructor
  · rintro ⟨a, b, c⟩
    exact ⟨a, b, fun x y hx hy => (c x y hx hy).trans (by rw [B_z])⟩
  · rintro ⟨a, b, c⟩
    refine ⟨a, b, fun x y hx hy => (c x y hx hy).trans (by rw [B_z])⟩
theorem K1_th {h g h1 g1 : sm_H} (K : K1 h g) (ac : agr3 SCx h h1) (ar : agr SRx g g1) (G : grow g g1) (wX : wfX g1) (cX1 : cX h1 g1) (cXh1 : cXh h1 g1) : K1 h1 g1 := by
  obtain ⟨wK, cK, wT, cT, wH, cH, wM, cM, cG, cO, cV, -, -, -, wF⟩ := K
  have eC := zC_eq ac
  have eR := zR_eq ar
  refine ⟨?_, ?_, ?_, ?_, ?_, ?_, ?_, ?_, ?_, ?_, ?_, wX, cX1, cXh1, ?_⟩
  · have : wfK (zR g) := wK
    rw [← eR] at this; exact this
  · have := cK_z.mpr cK
    rw [← eR, ← eC] at this; exact cK_z.mp this
  · have : wfT (zR g) := wT
    rw [← eR] at this; exact this
  · have : CHandleHouseLaw_law_r9294_ac1f8b.cT (zC h) (zR g) := cT
    rw [← eR, ← eC] at this; exact this
  · have : wfH0 (zR g) := wH
    rw [← eR] at this; exact this
  · have : CHandleHouseLaw_law_r9294_ac1f8b.cH (zC h) (zR g) := cH
    rw [← eR, ← eC] at this; exact this
  · have : wfM (zR g) := wM
    rw [← eR] at this; exact this
  · have : CHandleHouseLaw_law_r9294_ac1f8b.cM (zC h) (zR g) := cM
    rw [← eR, ← eC] at this; exact this
  · have : CHandleHouseLaw_law_r9294_ac1f8b.cG (zC h) (zR g) := cG
    rw [← eR, ← eC] at this; exact this
  · have : CHandleHouseLaw_law_r9294_ac1f8b.cO (zC h) (zR g) := cO
    rw [← eR, ← eC] at this; exact this
  · obtain ⟨v1, v2, v3, v4⟩ := cV
    have e40 : g1.1 67 40 = g.1 67 40 := ar.1 67 40 (by unfold SRx; omega)
    refine ⟨?_, ?_, fun v hv => ?_, fun v hv => ?_⟩
    · rw [ac.1 21 6 (by unfold SCx; omega), e40]; exact v1
    · rw [e40]; exact v2
    · rw [ac.1 31 v (by unfold SCx; omega), ac.2.1 30 v (by unfold SCx; omega), ar.1 94 v (by unfold SRx; omega), ar.2.1 95 v (by unfold SRx; omega)]; exact v3 v hv
    · have hv : v < tn (g1.1 67 40) := hv
      rw [e40] at hv
      obtain ⟨q, q1, q2, q3⟩ := v4 v hv
      refine ⟨q, (ar.1 94 v (by unfold SRx; omega)).trans q1, by have := G.1; omega, ?_⟩
      rw [ar.2.1 95 v (by unfold SRx; omega)]
      exact okO_grow G q3
  · have : wfF (zR g) := wF
    rw [← eR] at this; exact this
section
variable {d fuel s0 x vp p s : Nat} {vs : List Val} {h0 g0 h g : sm_H}
theorem Fr_th (F : Fr d fuel s0 x vp vs h0 g0 h g p s) {h' g' : sm_H} (K : K1 h' g') (ac : agr3 SCx h h') (ar : agr SRx g g') (G : grow g g') : Fr d fuel s0 x vp vs h0 g0 h' g' p s := by
  obtain ⟨m, b, lt, d1, x1, c56, c103, c105, c64, vl, ty, fr, st, aC, aR, gr, kc, kr⟩ := F
  refine ⟨⟨K, (ac.1 49 7 (by unfold SCx; omega)).trans m.hf, (ar.1 67 65 (by unfold SRx; omega)).trans m.gf, (ac.1 49 8 (by unfold SCx; omega)).trans m.hs, (ar.1 67 66 (by unfold SRx; omega)).trans m.gs, m.le, m.fm⟩, b, lt, d1, x1, (ar.1 67 56 (by unfold SRx; omega)).trans c56, (ar.1 103 d (by unfold SRx; omega)).trans c103, (ar.1 105 d (by unfold SRx; omega)).trans c105, (ar.1 67 64 (by unfold SRx; omega)).trans c64, vl, tyV_grow m.k.1 G ty, fun i hi => ?_, fun i hi => ?_, agr3_trans aC (agr3_mono (fun b j z => by unfold SCx at z; unfold SCm; omega) ac), agr_trans aR (agr_mono (fun b j z => by unfold SRx at z; unfold SRm; omega) ar), grow_trans gr G, keepC_trans kc (fun k hk => ⟨ac.2.1 50 k (by unfold SCx; omega), ac.1 51 k (by unfold SCx; omega)⟩), keepR_trans kr ⟨fun c i h1 h2 hi => ar.1 c i (by unfold SRx; omega), fun k hk => ⟨ar.1 108 k (by unfold SRx; omega), ar.2.1 109 k (by unfold SRx; omega)⟩⟩⟩
  · rw [ac.2.1 50 _ (by unfold SCx; omega), ac.1 51 _ (by unfold SCx; omega)]
    exact fr i hi
  · rw [ar.1 108 _ (by unfold SRx; omega), ar.2.1 109 _ (by unfold SRx; omega)]
    exact st i hi
end
theorem same_g {g g1 : sm_H} (a : agr SRx g g1) (e : g1.1 67 45 = g.1 67 45) (e96 : ∀ t, g1.1 96 t = g.1 96 t) : grow g g1 := by
  refine ⟨?_, ?_, ?_, fun t _ => e96 t, fun c _ => a.1 70 c (by unfold SRx; omega)⟩
  · show tn _ ≤ tn _; rw [a.1 67 6 (by unfold SRx; omega)]; exact Nat.le_refl _
  · show tn _ ≤ tn _; rw [e]; exact Nat.le_refl _
  · show tn _ ≤ tn _; rw [a.1 67 18 (by unfold SRx; omega)]; exact Nat.le_refl _
theorem T_chg {h g : sm_H} (K : K1 h g) {t i : Nat} (ht : t < nX g) (hi : i < szX g t) (v : Val) (ok : (∃ k, 15 ≤ k ∧ k ≤ 17 ∧ g.1 96 t = I3 k ∧ okV g (k - 10) v.1 v.2) ∨ (i < nS g ∧ (∃ k, 20 ≤ k ∧ k < 20 + nC g ∧ g.1 96 t = I3 k) ∧ ∀ m, m < nM g → g.1 87 m = 1 → g.1 86 m = 0 → tn (g.1 91 m) = i → okV g (tn (g.1 88 m)) v.1 v.2)) :
    K1 (sm_wI (sm_wJ h (132 + 3 * t) i v.2) (133 + 3 * t) i (tag v.1)) (sm_wJ (sm_wI g 98 (100 * t + i) v.1) 99 (100 * t + i) v.2) ∧ agr3 SCx h (sm_wI (sm_wJ h (132 + 3 * t) i v.2) (133 + 3 * t) i (tag v.1)) ∧ agr SRx g (sm_wJ (sm_wI g 98 (100 * t + i) v.1) 99 (100 * t + i) v.2) ∧ grow g (sm_wJ (sm_wI g 98 (100 * t + i) v.1) 99 (100 * t + i) v.2) := by
  have wX := K.2.2.2.2.2.2.2.2.2.2.2.1
  have cX0 := K.2.2.2.2.2.2.2.2.2.2.2.2.1
  have cXh0 := K.2.2.2.2.2.2.2.2.2.2.2.2.2.1
  have wM := K.2.2.2.2.2.2.1
  have h12 := K.1.2.1
  have nS24 : nS g ≤ 24 := wM.2.1.2
  have sz := szX_le wX ht
  have x1000 := nX_1000 K
  have ac : agr3 SCx h (sm_wI (sm_wJ h (132 + 3 * t) i v.2) (133 + 3 * t) i (tag v.1)) := agr3_of (agr_wI (agr_wJ agr_rfl (by unfold SCx; omega)) (by unfold SCx; omega))
  have ar : agr SRx g (sm_wJ (sm_wI g 98 (100 * t + i) v.1) 99 (100 * t + i) v.2) := agr_wJ (agr_wI agr_rfl (by unfold SRx; omega)) (by unfold SRx; omega)
  have G : grow g (sm_wJ (sm_wI g 98 (100 * t + i) v.1) 99 (100 * t + i) v.2) := same_g ar rfl (fun _ => rfl)
  refine ⟨K1_th K ac ar G ?_ ?_ ?_, ac, ar, G⟩
  · obtain ⟨w1, w2, w3⟩ := wX
    refine ⟨w1, fun t' ht' => ?_, fun m hm e1 e2 => okV_grow K.1 G (w3 m hm e1 e2)⟩
    obtain ⟨a1, a2⟩ := w2 t' ht'
    refine ⟨a1, ?_⟩
    rcases a2 with ⟨k, k1, k2, k3, k4⟩ | ⟨k, k1, k2, k3, k4⟩
    · refine Or.inl ⟨k, k1, k2, k3, fun j hj => ?_⟩
      have hj : j < tn (g.1 97 t') := hj
      have a12 := a1.2
      refine okV_grow (g := g) K.1 G ?_
      show okV g (k - 10) (if _ = _ then v.1 else g.1 98 (100 * t' + j)) (if _ = _ then v.2 else g.2.1 99 (100 * t' + j))
      by_cases q : 100 * t' + j = 100 * t + i
      · have : t' = t := by omega
        subst this
        rw [if_pos q, if_pos q]
        rcases ok with ⟨k', z1, z2, z3, z4⟩ | ⟨z0, ⟨k', z1, z2, z3⟩, z4⟩
        · rw [k3, I3_inj (by omega) (by omega)] at z3
          subst z3; exact z4
        · rw [k3, I3_inj (by omega) (by omega)] at z3; omega
      · rw [if_neg q, if_neg q]; exact k4 j hj
    · refine Or.inr ⟨k, k1, k2, k3, fun m hm e1 e2 => ?_⟩
      have e1 : g.1 87 m = 1 := e1
      have e2 : g.1 86 m = 0 := e2
      obtain ⟨s, s1, s2⟩ : ∃ s, s < nS g ∧ g.1 91 m = I3 s := by
        rcases (wM.2.2 m hm).2.2.2.2 with z | z
        · exact z.2.2.2 e2
        · rw [z.1] at e1; exact absurd e1 (by decide)
      have es : tn (g.1 91 m) = s := by rw [s2, tnI (by omega)]
      refine okV_grow (g := g) K.1 G ?_
      show okV g (tn (g.1 88 m)) (if 100 * t' + tn (g.1 91 m) = 100 * t + i then v.1 else g.1 98 (100 * t' + tn (g.1 91 m))) (if 100 * t' + tn (g.1 91 m) = 100 * t + i then v.2 else g.2.1 99 (100 * t' + tn (g.1 91 m)))
      by_cases q : 100 * t' + tn (g.1 91 m) = 100 * t + i
      · have : t' = t := by omega
        subst this
        rw [if_pos q, if_pos q]
        rcases ok with ⟨k', z1, z2, z3, z4⟩ | ⟨z0, ⟨k', z1, z2, z3⟩, z4⟩
        · rw [k3, I3_inj (by omega) (by omega)] at z3; omega
        · exact z4 m hm e1 e2 (by omega)
      · rw [if_neg q, if_neg q]; exact k4 m hm e1 e2
  · obtain ⟨x1, x2, x3, x4, x5⟩ := cX0
    refine ⟨?_, fun m hm => ?_, fun t' j n1 n2 n3 => ?_, fun t' j n1 n2 n3 n4 => ?_, x5⟩
    · rw [wI_rd, if_neg (by omega)]; exact x1
    · rw [wI_1, wJ_rd, if_neg (by omega), wI_rd, if_neg (by omega)]; exact x2 m hm
    · have n1 : nX g ≤ t' := n1
      show (if 100 * t' + j = 100 * t + i then v.1 else g.1 98 (100 * t' + j)) = 0 ∧ (if 100 * t' + j = 100 * t + i then v.2 else g.2.1 99 (100 * t' + j)) = 0
      rw [if_neg (by omega), if_neg (by omega)]; exact x3 t' j n1 n2 n3
    · have n1 : t' < nX g := n1
      have n2 : 20 ≤ tn (g.1 96 t') := n2
      have n3 : nS g ≤ j := n3
      show (if 100 * t' + j = 100 * t + i then v.1 else g.1 98 (100 * t' + j)) = 0 ∧ (if 100 * t' + j = 100 * t + i then v.2 else g.2.1 99 (100 * t' + j)) = 0
      have q : ¬ 100 * t' + j = 100 * t + i := fun q => by
        have : t' = t := by omega
        subst this
        rcases ok with ⟨k', z1, z2, z3, z4⟩ | ⟨z0, -⟩
        · have n2 : 20 ≤ tn (g.1 96 t') := n2
          rw [z3, tnI (by omega)] at n2; omega
        · omega
      rw [if_neg q, if_neg q]; exact x4 t' j n1 n2 n3 n4
  · obtain ⟨y1, y2, y3⟩ := cXh0
    refine ⟨y1, y2, fun t' ht' => ?_⟩
    have ht' : t' < nX g := ht'
    obtain ⟨c1, c2, c3, c4, c5, c6, c7, c8, c9⟩ := y3 t' ht'
    refine ⟨c1, c2, c3, c4, c5, c6, c7, c8, fun j hj => ?_⟩
    have hj : j < szX g t' := hj
    have sz' := szX_le wX ht'
    rw [wI_1, wJ_rd, wI_rd, show (sm_wJ h (132 + 3 * t) i v.2).1 = h.1 from rfl]
    show (if _ then v.2 else h.2.1 (132 + 3 * t') j) = (if 100 * t' + j = 100 * t + i then v.2 else g.2.1 99 (100 * t' + j)) ∧ (if _ then tag v.1 else h.1 (133 + 3 * t') j) = tag (if 100 * t' + j = 100 * t + i then v.1 else g.1 98 (100 * t' + j))
    by_cases q : 100 * t' + j = 100 * t + i
    · rw [if_pos (by omega), if_pos q, if_pos (by omega), if_pos q]; exact ⟨rfl, rfl⟩
    · rw [if_neg (by omega), if_neg q, if_neg (by omega), if_neg q]; exact c9 j hj
theorem T_sta {h g : sm_H} (K : K1 h g) {m : Nat} (hm : m < nM g) (m87 : g.1 87 m = 1) (v : Val) (ok : okV g (tn (g.1 88 m)) v.1 v.2) :
    K1 (sm_wI (sm_wJ h 24 m v.2) 25 m (tag v.1)) (sm_wJ (sm_wI g 100 m v.1) 101 m v.2) ∧ agr3 SCx h (sm_wI (sm_wJ h 24 m v.2) 25 m (tag v.1)) ∧ agr SRx g (sm_wJ (sm_wI g 100 m v.1) 101 m v.2) ∧ grow g (sm_wJ (sm_wI g 100 m v.1) 101 m v.2) := by
  have wX := K.2.2.2.2.2.2.2.2.2.2.2.1
  have cX0 := K.2.2.2.2.2.2.2.2.2.2.2.2.1
  have cXh0 := K.2.2.2.2.2.2.2.2.2.2.2.2.2.1
  have ac : agr3 SCx h (sm_wI (sm_wJ h 24 m v.2) 25 m (tag v.1)) := agr3_of (agr_wI (agr_wJ agr_rfl (by unfold SCx; omega)) (by unfold SCx; omega))
  have ar : agr SRx g (sm_wJ (sm_wI g 100 m v.1) 101 m v.2) := agr_wJ (agr_wI agr_rfl (by unfold SRx; omega)) (by unfold SRx; omega)
  have G : grow g (sm_wJ (sm_wI g 100 m v.1) 101 m v.2) := same_g ar rfl (fun _ => rfl)
  refine ⟨K1_th K ac ar G ?_ ?_ ?_, ac, ar, G⟩
  · obtain ⟨w1, w2, w3⟩ := wX
    refine ⟨w1, fun t ht => ?_, fun m' hm' e1 e2 => ?_⟩
    · obtain ⟨a1, a2⟩ := w2 t ht
      refine ⟨a1, ?_⟩
      rcases a2 with ⟨k, k1, k2, k3, k4⟩ | ⟨k, k1, k2, k3, k4⟩
      · exact Or.inl ⟨k, k1, k2, k3, fun j hj => okV_grow K.1 G (k4 j hj)⟩
      · exact Or.inr ⟨k, k1, k2, k3, fun m' hm' e1 e2 => okV_grow K.1 G (k4 m' hm' e1 e2)⟩
    · refine okV_grow (g := g) K.1 G ?_
      show okV g (tn (g.1 88 m')) (if m' = m then v.1 else g.1 100 m') (if m' = m then v.2 else g.2.1 101 m')
      by_cases q : m' = m
      · rw [if_pos q, if_pos q, q]; exact ok
      · rw [if_neg q, if_neg q]; exact w3 m' hm' e1 e2
  · obtain ⟨x1, x2, x3, x4, x5⟩ := cX0
    refine ⟨x1, fun m' hm' => ?_, x3, x4, fun m' n1 n2 => ?_, x5.2⟩
    · show (if m' = m then v.2 else h.2.1 24 m') = (if m' = m then v.2 else g.2.1 101 m') ∧ (if m' = m then tag v.1 else h.1 25 m') = tag (if m' = m then v.1 else g.1 100 m')
      by_cases q : m' = m
      · rw [if_pos q, if_pos q, if_pos q, if_pos q]; exact ⟨rfl, rfl⟩
      · rw [if_neg q, if_neg q, if_neg q, if_neg q]; exact x2 m' hm'
    · have n1 : nM g ≤ m' := n1
      show (if m' = m then v.1 else g.1 100 m') = 0 ∧ (if m' = m then v.2 else g.2.1 101 m') = 0
      rw [if_neg (by omega), if_neg (by omega)]; exact x5.1 m' n1 n2
  · exact cXh_fr (hi_wI (hi_wJ hi_rfl (by decide)) (by decide)) cXh0
abbrev NwC (h h1 : sm_H) (t sz : Nat) : Prop := (agr3 (fun b j => (b = 21 ∧ j = 2) ∨ (b = 22 ∧ j = t) ∨ 131 + 3 * t ≤ b) h h1) ∧ (∀ b, b < 131 + 3 * t → h1.2.2.2.1 b = h.2.2.2.1 b ∧ h1.2.2.2.2.1 b = h.2.2.2.2.1 b) ∧ (h1.2.2.2.2.2.1 = h.2.2.2.2.2.1 + 3) ∧ (h1.2.2.2.2.2.2 = h.2.2.2.2.2.2 + (2 + sz + sz)) ∧ (h1.1 21 2 = I3 (t + 1)) ∧ (h1.2.2.1 22 t = some (131 + 3 * t)) ∧ (h1.2.2.1 (131 + 3 * t) 0 = some (132 + 3 * t)) ∧ (h1.2.2.1 (131 + 3 * t) 1 = some (133 + 3 * t)) ∧ (h1.2.2.2.1 (131 + 3 * t) = 8 ∧ h1.2.2.2.1 (132 + 3 * t) = 101 ∧ h1.2.2.2.1 (133 + 3 * t) = 100) ∧ (h1.2.2.2.2.1 (132 + 3 * t) = sz ∧ h1.2.2.2.2.1 (133 + 3 * t) = sz)
theorem NwC.a {h h1 : sm_H} {t sz : Nat} (F_ : NwC h h1 t sz) : agr3 (fun b j => (b = 21 ∧ j = 2) ∨ (b = 22 ∧ j = t) ∨ 131 + 3 * t ≤ b) h h1 := F_.1
theorem NwC.c {h h1 : sm_H} {t sz : Nat} (F_ : NwC h h1 t sz) : ∀ b, b < 131 + 3 * t → h1.2.2.2.1 b = h.2.2.2.1 b ∧ h1.2.2.2.2.1 b = h.2.2.2.2.1 b := F_.2.1
theorem NwC.n {h h1 : sm_H} {t sz : Nat} (F_ : NwC h h1 t sz) : h1.2.2.2.2.2.1 = h.2.2.2.2.2.1 + 3 := F_.2.2.1
theorem NwC.sl {h h1 : sm_H} {t sz : Nat} (F_ : NwC h h1 t sz) : h1.2.2.2.2.2.2 = h.2.2.2.2.2.2 + (2 + sz + sz) := F_.2.2.2.1
theorem NwC.e21 {h h1 : sm_H} {t sz : Nat} (F_ : NwC h h1 t sz) : h1.1 21 2 = I3 (t + 1) := F_.2.2.2.2.1
theorem NwC.e22 {h h1 : sm_H} {t sz : Nat} (F_ : NwC h h1 t sz) : h1.2.2.1 22 t = some (131 + 3 * t) := F_.2.2.2.2.2.1
theorem NwC.r0 {h h1 : sm_H} {t sz : Nat} (F_ : NwC h h1 t sz) : h1.2.2.1 (131 + 3 * t) 0 = some (132 + 3 * t) := F_.2.2.2.2.2.2.1
theorem NwC.r1 {h h1 : sm_H} {t sz : Nat} (F_ : NwC h h1 t sz) : h1.2.2.1 (131 + 3 * t) 1 = some (133 + 3 * t) := F_.2.2.2.2.2.2.2.1
theorem NwC.k {h h1 : sm_H} {t sz : Nat} (F_ : NwC h h1 t sz) : h1.2.2.2.1 (131 + 3 * t) = 8 ∧ h1.2.2.2.1 (132 + 3 * t) = 101 ∧ h1.2.2.2.1 (133 + 3 * t) = 100 := F_.2.2.2.2.2.2.2.2.1
theorem NwC.l {h h1 : sm_H} {t sz : Nat} (F_ : NwC h h1 t sz) : h1.2.2.2.2.1 (132 + 3 * t) = sz ∧ h1.2.2.2.2.1 (133 + 3 * t) = sz := F_.2.2.2.2.2.2.2.2.2
abbrev NwR (g g1 : sm_H) (t k sz : Nat) : Prop := (agr (fun b j => (b = 67 ∧ j = 45) ∨ (b = 96 ∧ j = t) ∨ (b = 97 ∧ j = t) ∨ ((b = 98 ∨ b = 99) ∧ 100 * t ≤ j ∧ j < 100 * t + 100)) g g1) ∧ (g1.1 67 45 = I3 (t + 1)) ∧ (g1.1 96 t = I3 k) ∧ (g1.1 97 t = I3 sz)
theorem NwR.a {g g1 : sm_H} {t k sz : Nat} (F_ : NwR g g1 t k sz) : agr (fun b j => (b = 67 ∧ j = 45) ∨ (b = 96 ∧ j = t) ∨ (b = 97 ∧ j = t) ∨ ((b = 98 ∨ b = 99) ∧ 100 * t ≤ j ∧ j < 100 * t + 100)) g g1 := F_.1
theorem NwR.e45 {g g1 : sm_H} {t k sz : Nat} (F_ : NwR g g1 t k sz) : g1.1 67 45 = I3 (t + 1) := F_.2.1
theorem NwR.e96 {g g1 : sm_H} {t k sz : Nat} (F_ : NwR g g1 t k sz) : g1.1 96 t = I3 k := F_.2.2.1
theorem NwR.e97 {g g1 : sm_H} {t k sz : Nat} (F_ : NwR g g1 t k sz) : g1.1 97 t = I3 sz := F_.2.2.2
theorem T_new {h g h1 g1 : sm_H} (K : K1 h g) (x1 : nX g < 1000) {k sz sz' : Nat} (k1 : 15 ≤ k) (hk : k < 20 + nC g) (hs : sz ≤ 100) (hs' : sz' ≤ 100) (C : NwC h h1 (nX g) sz) (R : NwR g g1 (nX g) k sz') (es : sz = if k < 20 then sz' else 24)
    (el : ∀ i, i < sz → h1.2.1 (132 + 3 * nX g) i = g1.2.1 99 (100 * nX g + i) ∧ h1.1 (133 + 3 * nX g) i = tag (g1.1 98 (100 * nX g + i)))
    (ok : (k ≤ 17 ∧ ∀ i, i < sz → okV g (k - 10) (g1.1 98 (100 * nX g + i)) (g1.2.1 99 (100 * nX g + i))) ∨ (20 ≤ k ∧ (∀ m, m < nM g → g.1 87 m = 1 → g.1 86 m = 0 → okV g (tn (g.1 88 m)) (g1.1 98 (100 * nX g + tn (g.1 91 m))) (g1.2.1 99 (100 * nX g + tn (g.1 91 m)))) ∧ ∀ i, nS g ≤ i → i < 24 → g1.1 98 (100 * nX g + i) = 0 ∧ g1.2.1 99 (100 * nX g + i) = 0)) :
    K1 h1 g1 ∧ agr3 SCx h h1 ∧ agr SRx g g1 ∧ grow g g1 ∧ nX g1 = nX g + 1 := by
  have wX := K.2.2.2.2.2.2.2.2.2.2.2.1
  have cX0 := K.2.2.2.2.2.2.2.2.2.2.2.2.1
  have cXh0 := K.2.2.2.2.2.2.2.2.2.2.2.2.2.1
  have wM := K.2.2.2.2.2.2.1
  have h12 := K.1.2.1
  have nS24 : nS g ≤ 24 := wM.2.1.2
  have nX1 : nX g1 = nX g + 1 := by show tn _ = _; rw [R.e45, tnI (by omega)]
  generalize ht : nX g = t at *
  have ac : agr3 SCx h h1 := agr3_mono (fun b j z => by unfold SCx; omega) C.a
  have ar : agr SRx g g1 := agr_mono (fun b j z => by unfold SRx; omega) R.a
  have c67 : ∀ j, j ≠ 45 → g1.1 67 j = g.1 67 j := fun j hj => R.a.1 67 j (by omega)
  have enC : nC g1 = nC g := by show tn _ = tn _; rw [c67 6 (by decide)]
  have enM : nM g1 = nM g := by show tn _ = tn _; rw [c67 32 (by decide)]
  have enS : nS g1 = nS g := by show tn _ = tn _; rw [c67 33 (by decide)]
  have G : grow g g1 := ⟨by omega, by omega, by show tn _ ≤ tn _; rw [c67 18 (by decide)]; exact Nat.le_refl _, fun t' ht' => R.a.1 96 t' (by omega), fun c _ => R.a.1 70 c (by omega)⟩
  have st : ∀ b j, 70 ≤ b → b ≤ 95 → g1.1 b j = g.1 b j := fun b j b1 b2 => R.a.1 b j (by omega)
  have old98 : ∀ t' j, t' < t → j < 100 → g1.1 98 (100 * t' + j) = g.1 98 (100 * t' + j) ∧ g1.2.1 99 (100 * t' + j) = g.2.1 99 (100 * t' + j) := fun t' j a b => ⟨R.a.1 98 _ (by omega), R.a.2.1 99 _ (by omega)⟩
  have ek : tn (g1.1 96 t) = k := by rw [R.e96, tnI (by omega)]
  have e97 : tn (g1.1 97 t) = sz' := by rw [R.e97, tnI (by omega)]
  have esz : szX g1 t = sz := by unfold szX; rw [ek, e97, es]
  have eszo : ∀ t', t' < t → szX g1 t' = szX g t' := fun t' ht' => by unfold szX; rw [R.a.1 96 t' (by omega), R.a.1 97 t' (by omega)]
  refine ⟨K1_th K ac ar G ?_ ?_ ?_, ac, ar, G, nX1⟩
  · obtain ⟨w1, w2, w3⟩ := wX
    refine ⟨by rw [R.e45]; exact cnt_up (by omega) (by decide), fun t' ht' => ?_, fun m hm e1 e2 => ?_⟩
    · rcases (show t' < t ∨ t' = t by omega) with lt | rfl
      · obtain ⟨a1, a2⟩ := w2 t' (by omega)
        refine ⟨by rw [R.a.1 97 t' (by omega)]; exact a1, ?_⟩
        rcases a2 with ⟨k', q1, q2, q3, q4⟩ | ⟨k', q1, q2, q3, q4⟩
        · refine Or.inl ⟨k', q1, q2, (R.a.1 96 t' (by omega)).trans q3, fun j hj => ?_⟩
          rw [R.a.1 97 t' (by omega)] at hj
          rw [(old98 t' j lt (by have := a1.2; omega)).1, (old98 t' j lt (by have := a1.2; omega)).2]
          exact okV_grow K.1 G (q4 j hj)
        · refine Or.inr ⟨k', q1, by omega, (R.a.1 96 t' (by omega)).trans q3, fun m hm e1 e2 => ?_⟩
          rw [enM] at hm
          rw [st 87 m (by decide) (by decide)] at e1
          rw [st 86 m (by decide) (by decide)] at e2
          obtain ⟨s, s1, s2⟩ : ∃ s, s < nS g ∧ g.1 91 m = I3 s := by
            rcases (wM.2.2 m hm).2.2.2.2 with z | z
            · exact z.2.2.2 e2
            · rw [z.1] at e1; exact absurd e1 (by decide)
          have es : tn (g.1 91 m) = s := by rw [s2, tnI (by omega)]
          rw [st 88 m (by decide) (by decide), st 91 m (by decide) (by decide), (old98 t' (tn (g.1 91 m)) lt (by omega)).1, (old98 t' (tn (g.1 91 m)) lt (by omega)).2]
          exact okV_grow K.1 G (q4 m hm e1 e2)
      · refine ⟨by rw [R.e97]; exact cnt_up hs' (by decide), ?_⟩
        rcases ok with ⟨z1, z2⟩ | ⟨z1, z2, z3⟩
        · refine Or.inl ⟨k, k1, z1, R.e96, fun j hj => ?_⟩
          rw [e97] at hj
          exact okV_grow K.1 G (z2 j (by rw [es, if_pos (by omega)]; exact hj))
        · refine Or.inr ⟨k, z1, by omega, R.e96, fun m hm e1 e2 => ?_⟩
          rw [enM] at hm
          rw [st 87 m (by decide) (by decide)] at e1
          rw [st 86 m (by decide) (by decide)] at e2
          rw [st 88 m (by decide) (by decide), st 91 m (by decide) (by decide)]
          exact okV_grow K.1 G (z2 m hm e1 e2)
    · rw [enM] at hm
      rw [st 87 m (by decide) (by decide)] at e1
      rw [st 86 m (by decide) (by decide)] at e2
      rw [st 88 m (by decide) (by decide), R.a.1 100 m (by omega), R.a.2.1 101 m (by omega)]
      exact okV_grow K.1 G (w3 m hm e1 e2)
  · obtain ⟨y1, y2, y3, y4, y5⟩ := cX0
    refine ⟨C.e21.trans R.e45.symm, fun m hm => ?_, fun t' j n1 n2 n3 => ?_, fun t' j n1 n2 n3 n4 => ?_, fun m n1 n2 => ?_, fun a b ab hb a1 a2 b1 b2 e => ?_⟩
    · rw [C.a.2.1 24 m (by omega), C.a.1 25 m (by omega), R.a.1 100 m (by omega), R.a.2.1 101 m (by omega)]; exact y2 m hm
    · rw [R.a.1 98 _ (by omega), R.a.2.1 99 _ (by omega)]; exact y3 t' j (by omega) n2 n3
    · rcases (show t' < t ∨ t' = t by omega) with lt | rfl
      · rw [(old98 t' j lt (by omega)).1, (old98 t' j lt (by omega)).2]
        rw [R.a.1 96 t' (by omega)] at n2
        exact y4 t' j (by omega) n2 (by omega) n4
      · rcases ok with ⟨z1, z2⟩ | ⟨z1, z2, z3⟩
        · omega
        · exact z3 j (by omega) n4
    · rw [R.a.1 100 m (by omega), R.a.2.1 101 m (by omega)]; exact y5.1 m (by omega) n2
    · rw [enM] at hb
      rw [st 87 _ (by decide) (by decide)] at a1 b1
      rw [st 86 _ (by decide) (by decide)] at a2 b2
      rw [st 91 _ (by decide) (by decide), st 91 _ (by decide) (by decide)] at e
      exact y5.2 a b ab (by omega) a1 a2 b1 b2 e
  · obtain ⟨y1, y2, y3⟩ := cXh0
    refine ⟨by rw [C.n, nX1]; omega, by rw [C.sl, nX1]; omega, fun t' ht' => ?_⟩
    rcases (show t' < t ∨ t' = t by omega) with lt | rfl
    · obtain ⟨c1, c2, c3, c4, c5, c6, c7, c8, c9⟩ := y3 t' (by omega)
      rw [(C.c (131 + 3 * t') (by omega)).1, (C.c (132 + 3 * t') (by omega)).1, (C.c (133 + 3 * t') (by omega)).1, (C.c (132 + 3 * t') (by omega)).2, (C.c (133 + 3 * t') (by omega)).2, C.a.2.2 22 t' (by omega), C.a.2.2 (131 + 3 * t') 0 (by omega), C.a.2.2 (131 + 3 * t') 1 (by omega), eszo t' lt]
      refine ⟨c1, c2, c3, c4, c5, c6, c7, c8, fun j hj => ?_⟩
      have sz1 := szX_le wX (t := t') (by omega)
      rw [C.a.2.1 (132 + 3 * t') j (by omega), C.a.1 (133 + 3 * t') j (by omega), (old98 t' j lt (by omega)).1, (old98 t' j lt (by omega)).2]
      exact c9 j hj
    · rw [esz]
      exact ⟨C.e22, C.k.1, C.r0, C.r1, C.k.2.1, C.k.2.2, C.l.1, C.l.2, el⟩
