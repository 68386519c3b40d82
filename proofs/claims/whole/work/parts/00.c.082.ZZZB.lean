theorem B_up {g : sm_H} {q o : Nat} (h : B g q o = true) (ho : 20 ≤ o) : 20 ≤ q := by
  by_cases c : q < 20
  · rw [B_lt20 c] at h
    unfold kBase at h
    simp only [Bool.or_eq_true, Bool.and_eq_true, Nat.beq_eq, Nat.ble_eq] at h
    omega
  · omega
theorem instV {h g : sm_H} (K : K1 h g) {k : Nat} (k1 : 20 ≤ k) {v : Val} (ok : okV g k v.1 v.2) : (v = (0, 0) ∧ tag v.1 = 0) ∨ ∃ q t, 20 ≤ q ∧ q < 20 + nC g ∧ B g q k = true ∧ t < nX g ∧ v = (I3 q, I6 t) ∧ g.1 96 t = I3 q ∧ szX g t = 24 ∧ tag v.1 = v.1 ∧ v.1 ≠ 0 := by
  have h12 := K.1.2.1
  rcases okV_7 K.1 (by omega) ok with ⟨z1, z2⟩ | ⟨q, z1, z2, z3, z4, z5, z6, z7⟩
  · exact Or.inl ⟨z1, z2⟩
  · right
    have q20 := B_up z4 k1
    obtain ⟨t, t1, tn', t96⟩ : ∃ t, t < nX g ∧ v.2 = I6 t ∧ g.1 96 t = I3 q := by
      rcases z5 with w | w | w | w
      · omega
      · exact w.2
      · omega
      · omega
    refine ⟨q, t, q20, z3, z4, t1, Prod.ext z1 tn', t96, ?_, z6, z7⟩
    unfold szX; rw [t96, tnI (by omega), if_neg (by omega)]
theorem fslot {h g : sm_H} (K : K1 h g) {m : Nat} (hm : m < nM g) (m87 : g.1 87 m = 1) (m86 : g.1 86 m = 0) : ∃ s, s < nS g ∧ nS g ≤ 24 ∧ g.1 91 m = I3 s := by
  have wM := K.2.2.2.2.2.2.1
  rcases (wM.2.2 m hm).2.2.2.2 with z | z
  · obtain ⟨s, s1, s2⟩ := z.2.2.2 m86
    exact ⟨s, s1, wM.2.1.2, s2⟩
  · rw [z.1] at m87; exact absurd m87 (by decide)
theorem cell_fi {h g : sm_H} (K : K1 h g) {t q m sl : Nat} (t1 : t < nX g) (q1 : 20 ≤ q) (q2 : q < 20 + nC g) (t96 : g.1 96 t = I3 q) (hm : m < nM g) (m87 : g.1 87 m = 1) (m86 : g.1 86 m = 0) (s1 : sl < nS g) (s2 : g.1 91 m = I3 sl) : Cell h g (131 + 3 * t) (132 + 3 * t) (133 + 3 * t) sl (szX g t) (100 * t + sl) 0 (tn (g.1 88 m)) (g.1 98 (100 * t + sl), g.2.1 99 (100 * t + sl)) := by
  have wX := K.2.2.2.2.2.2.2.2.2.2.2.1
  have cX0 := K.2.2.2.2.2.2.2.2.2.2.2.2.1
  have cXhq := K.2.2.2.2.2.2.2.2.2.2.2.2.2.1
  have wM := K.2.2.2.2.2.2.1
  have s24 : nS g ≤ 24 := wM.2.1.2
  have h12 := K.1.2.1
  have x1000 := nX_1000 K
  have esz : szX g t = 24 := by unfold szX; rw [t96, tnI (by omega), if_neg (by omega)]
  have es : tn (g.1 91 m) = sl := by rw [s2, tnI (by omega)]
  have ok : okV g (tn (g.1 88 m)) (g.1 98 (100 * t + sl)) (g.2.1 99 (100 * t + sl)) := by
    rcases (wX.2.1 t t1).2 with ⟨k', a1, a2, a3, a4⟩ | ⟨k', a1, a2, a3, a4⟩
    · rw [t96, I3_inj (by omega) (by omega)] at a3; omega
    · have := a4 m hm m87 m86; rw [es] at this; exact this
  refine ⟨thX wX cXhq t1, by omega, (cXhq.2.2 t t1).2.2.2.2.2.2.2.2 sl (by omega), Or.inl ⟨rfl, by omega, rfl, rfl⟩, ok, fun v okv => ?_⟩
  unfold putR
  rw [if_pos rfl]
  refine T_chg K t1 (by omega) v (Or.inr ⟨s1, ⟨q, q1, q2, t96⟩, fun m' hm' e1 e2 e3 => ?_⟩)
  obtain ⟨s', z1, z2, z3⟩ := fslot K hm' e1 e2
  have : m' = m := by
    rw [z3, tnI (by omega)] at e3
    subst e3
    rcases (show m' = m ∨ m' < m ∨ m < m' by omega) with c | c | c
    · exact c
    · exact absurd (z3.trans s2.symm) (cX0.2.2.2.2.2 m' m c hm e1 e2 m87 m86)
    · exact absurd (s2.trans z3.symm) (cX0.2.2.2.2.2 m m' c hm' m87 m86 e1 e2)
  rw [this]; exact okv
theorem cell_st {h g : sm_H} (K : K1 h g) {m : Nat} (hm : m < nM g) (m87 : g.1 87 m = 1) (m86 : g.1 86 m = 1) : Cell h g 23 24 25 m 100 m 1 (tn (g.1 88 m)) (g.1 100 m, g.2.1 101 m) := by
  have wX := K.2.2.2.2.2.2.2.2.2.2.2.1
  have cX0 := K.2.2.2.2.2.2.2.2.2.2.2.2.1
  have m100 : nM g ≤ 100 := K.2.2.2.2.2.2.1.1.2
  refine ⟨th23 h, by omega, cX0.2.1 m (by omega), Or.inr ⟨rfl, by omega, rfl, rfl⟩, wX.2.2 m hm m87 m86, fun v okv => ?_⟩
  unfold putR
  rw [if_neg (by decide)]
  exact T_sta K hm m87 v okv
theorem C_slot {h g : sm_H} (wM : wfM g) (cM : cM h g) {m : Nat} (hm : m < nM g) (m87 : g.1 87 m = 1) : F_129 (I3 m) h = some (if g.1 86 m = 0 then g.1 91 m else I3 m, h) := by
  have m100 : nM g ≤ 100 := wM.1.2
  show F_129_0 (I3 m) h = _
  unfold F_129_0 F_129_18
  rw [C_mhas wM cM hm]; simp only [obs]
  rw [if_neg (by decide), ldI_I (by omega) (by omega), ((cM.2.2 m hm).2.2.2.2.1 m87).2.2.2]; simp only [obs]
theorem C_stat {h g : sm_H} (wM : wfM g) (cM : cM h g) {m : Nat} (hm : m < nM g) : F_130 (I3 m) h = some (g.1 86 m, h) := by
  have m100 : nM g ≤ 100 := wM.1.2
  obtain ⟨b, e⟩ := (wM.2.2 m hm).2.2.2.1
  show F_130_0 (I3 m) h = _
  unfold F_130_0 F_130_22 F_130_21 F_130_22
  rw [C_mhas wM cM hm]; simp only [obs]
  rw [if_neg (by decide), ldZ_I (by omega) (by omega), (cM.2.2 m hm).2.2.2.1, e]; simp only [obs]
  cases b <;> rfl
theorem C_hand {h g : sm_H} (wM : wfM g) (cM : cM h g) {m : Nat} (hm : m < nM g) (m87 : g.1 87 m = 0) : F_131 (I3 m) h = some (g.1 90 m, h) := by
  have m100 : nM g ≤ 100 := wM.1.2
  show F_131_0 (I3 m) h = _
  unfold F_131_0 F_131_18
  rw [C_mhas wM cM hm]; simp only [obs]
  rw [if_neg (by decide), ldI_I (by omega) (by omega), ((cM.2.2 m hm).2.2.2.2.2 m87).2.1]; simp only [obs]
theorem C_owner {h g : sm_H} (wM : wfM g) (cM : cM h g) {m : Nat} (hm : m < nM g) : F_132 (I3 m) h = some (g.1 83 m, h) := by
  have m100 : nM g ≤ 100 := wM.1.2
  show F_132_0 (I3 m) h = _
  unfold F_132_0 F_132_18
  rw [C_mhas wM cM hm]; simp only [obs]
  rw [if_neg (by decide), ldI_I (by omega) (by omega), (cM.2.2 m hm).1]; simp only [obs]
theorem run_35 {rec : Int32 → Int32 → sm_H → Option (Int32 × sm_H)} {d fuel s x vp : Nat} {vs : List Val} {h0 g0 h g : sm_H} (IH : CallOK (d + 1) rec) (F : Fr d fuel s x vp vs h0 g0 h g 0 (s + 1)) (c63 : g.1 67 63 = 0) (c59 : g.1 67 59 = I3 (vp + vs.length)) (eh : sm_wI h0 49 8 (h0.1 49 8 + 1) = h) (lf : h0.1 49 8 < h0.1 49 7) (f : fm g0 x = 35) : Ends d fuel s vp (tn (hrs g0 x)) h0 g0 0 (F_82R rec (I3 x) (I3 d) h0) g := by
  have d1 := F.d1
  have v10 := F.v10
  have x500 := F.x500
  have vl := F.vl
  have vx := F.vx
  have fs := F.fs0
  rw [f] at fs
  have C := B82_35 (rec := rec) (x1 := I3 x) (x2 := I3 d) (by rw [I3_lit, I3_lt (by omega) (by decide)]; omega) lf eh (f ▸ F.f37)
  rw [C]
  have R := B370_35 F.c56 F.l103 F.l105 F.l305 F.l77 F.l78 F.l81 F.l81' (f ▸ F.l75)
  obtain ⟨ep, m, w, m1, ea, m87, w1, w2, eb, w8, er, el⟩ := FS_35 fs
  have h12 := F.m.k.1.2.1
  have x1000 := nX_1000 F.m.k
  have wX := F.m.k.2.2.2.2.2.2.2.2.2.2.2.1
  have cXq := F.m.k.2.2.2.2.2.2.2.2.2.2.2.2.1
  have cXhq := F.m.k.2.2.2.2.2.2.2.2.2.2.2.2.2.1
  have wM := F.m.k.2.2.2.2.2.2.1
  have cMq := F.m.k.2.2.2.2.2.2.2.1
  have m100 : nM g ≤ 100 := wM.1.2
  have s24 : nS g ≤ 24 := wM.2.1.2
  have m1' : m < nM g := by rw [m_nM F.ar]; exact m1
  have e87 : g.1 87 m = 1 := by rw [(m_c F.ar (by decide) (by decide)).1]; exact m87
  have e86 : g.1 86 m = g0.1 86 m := (m_c F.ar (by decide) (by decide)).1
  have e88 : g.1 88 m = g0.1 88 m := (m_c F.ar (by decide) (by decide)).1
  have ek : cnt (g.1 88 m) (19 + nC g) ∧ 0 < tn (g.1 88 m) := by
    rcases (wM.2.2 m m1').2.2.2.2 with z | z
    · exact ⟨z.2.1, z.2.2.1⟩
    · rw [z.1] at e87; exact absurd e87 (by decide)
  have k88 : g.1 88 m = I3 (tn (g.1 88 m)) := ek.1.1
  have k88l : tn (g.1 88 m) ≤ 19 + nC g := ek.1.2
  rw [← e88] at w8 er el
  have CK := C_kindOf wM cMq m1'
  rw [if_pos e87] at CK
  have C0 := B102_35 (x2 := I3 d) (F.f38) (f ▸ F.f37)
  rw [bind_id, show F_109 (I3 x) (I3 d) h = F_109_0 (I3 x) (I3 d) h from rfl] at C0
  unfold F_109_0 at C0
  rw [F.f38, ea] at C0; simp only [obs] at C0
  rw [F.f39, eb] at C0; simp only [obs] at C0
  rw [C_slot wM cMq m1' e87] at C0; simp only [obs] at C0
  rw [C_stat wM cMq m1'] at C0; simp only [obs] at C0
  rw [ea, eb, ldZ_I (by omega) (by decide)] at R; simp only [obs] at R
  rw [bind_id1, show F_362 (I3 m) (I3 w) (g.1 86 m) g = F_362_0 (I3 m) (I3 w) (g.1 86 m) g from rfl] at R
  unfold F_362_0 F_362_9 F_362_29 F_362_53 at R
  have CC : ∀ r, F_102 (I3 x) (I3 d) h = r → F_82_367 rec (I3 x) (I3 d) h = r := fun r e => by unfold F_82_367; rw [bind_id, e]
  have arg : ∀ b, (∀ j, j < (chgL (g.1 88 m) w).length → b + j < vs.length ∧ okV g (tn (at0 (chgL (g.1 88 m) w) j)) (atv vs (b + j)).1 (atv vs (b + j)).2) → (5 ≤ w → b < vs.length ∧ okV g (tn (g.1 88 m)) (atv vs b).1 (atv vs b).2) ∧ (w = 7 → b + 1 < vs.length ∧ okV g (tn (g.1 88 m)) (atv vs (b + 1)).1 (atv vs (b + 1)).2) := fun b ok2 => by
    refine ⟨fun h5 => ?_, fun h7 => ?_⟩
    · have c0 := chgL_0 (g.1 88 m) h5 w2
      have z := ok2 0 c0.1; rw [c0.2] at z; exact z
    · subst h7
      have c0 := chgL_1 (g.1 88 m)
      have z := ok2 1 c0.1; rw [c0.2] at z; exact z
  have e22 : (22 : Int32) + I3 w - 4 = I3 (18 + w) := by rw [show (22 : Int32) = I3 22 from rfl, show (4 : Int32) = I3 4 from rfl, I3_add, I3_sub (by omega)]; congr 1; omega
  rcases el with ⟨z86, el⟩ | ⟨z86, k, k1, k2, kb, el⟩
  · rw [← e86] at z86
    rw [z86, if_neg (by decide), if_neg (by decide)] at C0
    rw [z86, if_neg (by decide), if_neg (by decide), if_neg (by decide), ldI_I (by omega) (by decide)] at R; simp only [obs] at R
    rw [show F_145 h = some (23, h) from rfl] at C0; simp only [obs] at C0
    rw [CK] at C0; simp only [obs] at C0
    obtain ⟨a1, a2⟩ := arg 0 (fun j hj => by
      rw [Nat.zero_add]
      have hj' : j < vs.length := by rw [vx, el]; exact hj
      have z := F.ty.2 j hj'
      rw [el] at z
      exact ⟨hj', z⟩)
    obtain ⟨u, h', e1, e2, e3⟩ := chg F (fun h K => cell_st K m1' e87 z86) ek.2 (by omega) w1 w2 w8 (Nat.zero_le 2) a1 a2
    rw [← k88] at e1 e2 e3
    rw [show F_110 23 (I3 m) (I3 w) (g.1 88 m) (I3 d) 0 h = some (0, h') from e1] at C0; simp only [obs] at C0
    rw [CC _ C0, er]
    refine Ends_step (step_enter (by omega) F.c64 F.c56 c63 ?_) e3
    rw [R, e22, show F_360 (I3 (18 + w)) (I3 m) 1 (g.1 88 m) 0 g = some u from e2]; rfl
  · rw [← e86] at z86
    have vs0 : vs.length = 1 + (chgL (g.1 88 m) w).length := by rw [vx, el, List.length_cons]; omega
    rw [z86, if_pos rfl, if_pos rfl, show F_78 (I3 d) 0 h = _ from F.c78 (i := 0) (by omega)] at C0; simp only [obs] at C0
    rw [z86, if_pos rfl, if_pos rfl, show F_351 0 g = _ from F.k351 (i := 0) (by omega)] at R; simp only [obs] at R
    have ok0 := F.ty.2 0 (by omega)
    rw [el, show at0 (I3 k :: chgL (g.1 88 m) w) 0 = I3 k from rfl, tnI (by rw [← m_nC F.ar] at k2; omega)] at ok0
    rcases instV F.m.k k1 ok0 with ⟨z1, z2⟩ | ⟨q, t, q1, q2, qb, t1, tv, t96, tsz, z6, z7⟩
    · rw [if_pos z2] at C0
      obtain ⟨u, h', f1, f2, f3⟩ := Fr_fail (rk := tn (hrs g0 x)) F 1
      rw [f2] at C0; simp only [obs] at C0
      rw [CC _ C0]
      refine Ends_step (step_enter (by omega) F.c64 F.c56 c63 ?_) f3
      rw [R, z1, if_pos (show ((0 : Int32), (0 : Int64)).1 = 0 from rfl), f1]; rfl
    · have tn2 : (atv vs 0).2 = I6 t := by rw [tv]
      obtain ⟨sl, s1, -, s2⟩ := fslot F.m.k m1' e87 z86
      rw [if_neg (by rw [z6]; exact z7), show F_77 (I3 d) 0 h = _ from F.c77 (i := 0) (by omega), tn2] at C0; simp only [obs] at C0
      rw [C_thing wX cXq cXhq t1] at C0; simp only [obs] at C0
      rw [CK] at C0; simp only [obs] at C0
      rw [if_neg z7, if_pos (by decide), show F_352 0 g = _ from F.k352 (i := 0) (by omega), tn2] at R; simp only [obs] at R
      rw [ldI_I (by omega) (by decide), s2, I6_32] at R; simp only [obs] at R
      rw [ldI_I (by omega) (by decide)] at R; simp only [obs] at R
      obtain ⟨a1, a2⟩ := arg 1 (fun j hj => by
        have hj' : 1 + j < vs.length := by omega
        have z := F.ty.2 (1 + j) hj'
        rw [el, show at0 (I3 k :: chgL (g.1 88 m) w) (1 + j) = at0 (chgL (g.1 88 m) w) j by rw [Nat.add_comm]; rfl] at z
        exact ⟨hj', z⟩)
      obtain ⟨u, h', e1, e2, e3⟩ := chg F (fun h K => cell_fi K t1 q1 q2 t96 m1' e87 z86 s1 s2) ek.2 (by omega) w1 w2 w8 (show 1 ≤ 2 by decide) a1 a2
      rw [← k88] at e1 e2 e3
      rw [s2, show F_110 (131 + 3 * t) (I3 sl) (I3 w) (g.1 88 m) (I3 d) 1 h = some (0, h') from e1] at C0; simp only [obs] at C0
      rw [CC _ C0, er]
      refine Ends_step (step_enter (by omega) F.c64 F.c56 c63 ?_) e3
      rw [R, e22, show (100 : Int32) * I3 t + I3 sl = I3 (100 * t + sl) by rw [I3_lit, I3_mul, I3_add], show F_360 (I3 (18 + w)) (I3 (100 * t + sl)) 0 (g.1 88 m) 1 g = some u from e2]; rfl
