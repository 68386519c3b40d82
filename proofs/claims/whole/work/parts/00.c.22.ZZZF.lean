abbrev SNf (t b j : Nat) : Prop := (b = 67 ∧ (j = 45 ∨ j = 48 ∨ j = 49)) ∨ (b = 96 ∧ j = t) ∨ (b = 97 ∧ j = t) ∨ ((b = 98 ∨ b = 99) ∧ 100 * t ≤ j ∧ j < 100 * t + 100)
abbrev SNr (t b j : Nat) : Prop := (b = 67 ∧ j = 45) ∨ (b = 96 ∧ j = t) ∨ (b = 97 ∧ j = t) ∨ ((b = 98 ∨ b = 99) ∧ 100 * t ≤ j ∧ j < 100 * t + 100)
theorem agr_48 {S : Nat → Nat → Prop} {g g2 : sm_H} {u : Int32} {v : Int64} (A : agr S (sm_wJ (sm_wI g 67 48 u) 67 49 v) g2) (u' : Int32) (v' : Int64) : agr S (sm_wJ (sm_wI g 67 48 u') 67 49 v') (sm_wJ (sm_wI g2 67 48 u') 67 49 v') := by
  refine ⟨fun c j n => ?_, fun c j n => ?_, fun c j n => A.2.2.1 c j n, A.2.2.2⟩
  · have z := A.1 c j n
    rw [show (sm_wJ (sm_wI g 67 48 u) 67 49 v).1 = (sm_wI g 67 48 u).1 from rfl, wI_rd] at z
    show (sm_wI g2 67 48 u').1 c j = (sm_wI g 67 48 u').1 c j
    rw [wI_rd, wI_rd]
    by_cases q : c = 67 ∧ j = 48
    · rw [if_pos q, if_pos q]
    · rw [if_neg q] at z; rw [if_neg q, if_neg q]; exact z
  · have z := A.2.1 c j n
    rw [wJ_rd] at z
    rw [wJ_rd, wJ_rd]
    by_cases q : c = 67 ∧ j = 49
    · rw [if_pos q, if_pos q]
    · rw [if_neg q] at z; rw [if_neg q, if_neg q]; exact z
theorem agr_48' {S : Nat → Nat → Prop} {g g2 : sm_H} (A : agr S g g2) : agr S (sm_wJ (sm_wI g 67 48 (g.1 67 48)) 67 49 (g.2.1 67 49)) g2 := by
  refine ⟨fun c j n => ?_, fun c j n => ?_, fun c j n => A.2.2.1 c j n, A.2.2.2⟩
  · show _ = (sm_wI g 67 48 (g.1 67 48)).1 c j
    rw [wI_rd]
    by_cases q : c = 67 ∧ j = 48
    · obtain ⟨rfl, rfl⟩ := q; rw [if_pos ⟨rfl, rfl⟩]; exact A.1 67 48 n
    · rw [if_neg q]; exact A.1 c j n
  · rw [wJ_rd]
    by_cases q : c = 67 ∧ j = 49
    · obtain ⟨rfl, rfl⟩ := q; rw [if_pos ⟨rfl, rfl⟩]; exact A.2.1 67 49 n
    · rw [if_neg q]; exact A.2.1 c j n
abbrev Fdl (g g2 : sm_H) (t k sz j : Nat) : Prop := (agr (SNf t) g g2) ∧ (∃ u v, agr (SNr t) (sm_wJ (sm_wI g 67 48 u) 67 49 v) g2) ∧ (g2.1 67 45 = I3 (t + 1)) ∧ (g2.1 96 t = I3 k) ∧ (g2.1 97 t = I3 sz) ∧ (∀ i, i < 100 → tag (g2.1 98 (100 * t + i)) = 0 ∧ g2.2.1 99 (100 * t + i) = 0) ∧ (∀ n, n < j → g.1 87 n = 1 → g.1 86 n = 0 → g2.1 98 (100 * t + tn (g.1 91 n)) = zk (g.1 88 n)) ∧ (∀ i, nS g ≤ i → i < 100 → g2.1 98 (100 * t + i) = 0)
theorem Fdl.a {g g2 : sm_H} {t k sz j : Nat} (F_ : Fdl g g2 t k sz j) : agr (SNf t) g g2 := F_.1
theorem Fdl.b {g g2 : sm_H} {t k sz j : Nat} (F_ : Fdl g g2 t k sz j) : ∃ u v, agr (SNr t) (sm_wJ (sm_wI g 67 48 u) 67 49 v) g2 := F_.2.1
theorem Fdl.e45 {g g2 : sm_H} {t k sz j : Nat} (F_ : Fdl g g2 t k sz j) : g2.1 67 45 = I3 (t + 1) := F_.2.2.1
theorem Fdl.e96 {g g2 : sm_H} {t k sz j : Nat} (F_ : Fdl g g2 t k sz j) : g2.1 96 t = I3 k := F_.2.2.2.1
theorem Fdl.e97 {g g2 : sm_H} {t k sz j : Nat} (F_ : Fdl g g2 t k sz j) : g2.1 97 t = I3 sz := F_.2.2.2.2.1
theorem Fdl.z {g g2 : sm_H} {t k sz j : Nat} (F_ : Fdl g g2 t k sz j) : ∀ i, i < 100 → tag (g2.1 98 (100 * t + i)) = 0 ∧ g2.2.1 99 (100 * t + i) = 0 := F_.2.2.2.2.2.1
theorem Fdl.f {g g2 : sm_H} {t k sz j : Nat} (F_ : Fdl g g2 t k sz j) : ∀ n, n < j → g.1 87 n = 1 → g.1 86 n = 0 → g2.1 98 (100 * t + tn (g.1 91 n)) = zk (g.1 88 n) := F_.2.2.2.2.2.2.1
theorem Fdl.o {g g2 : sm_H} {t k sz j : Nat} (F_ : Fdl g g2 t k sz j) : ∀ i, nS g ≤ i → i < 100 → g2.1 98 (100 * t + i) = 0 := F_.2.2.2.2.2.2.2
theorem tag_0 : tag 0 = 0 := by decide
theorem R_fields {h g g1 : sm_H} (K : K1 h g) {k sz : Nat} (x1 : nX g < 1000) (N : NwR g g1 (nX g) k sz) (same : ∀ j, g1.1 98 j = g.1 98 j ∧ g1.2.1 99 j = g.2.1 99 j) (a b : Int32) : ∃ g2, F_369_34 a b (I3 (nX g)) 0 g1 = lp F_369_34B (1000000 - nM g) (a, b, I3 (nX g), I3 (nM g), g2) ∧ Fdl g g2 (nX g) k sz (nM g) := by
  have wM := K.2.2.2.2.2.2.1
  have m100 : nM g ≤ 100 := wM.1.2
  have s24 : nS g ≤ 24 := wM.2.1.2
  have cXq := K.2.2.2.2.2.2.2.2.2.2.2.2.1
  have h12 := K.1.2.1
  have z0 : ∀ i, i < 100 → g.1 98 (100 * nX g + i) = 0 ∧ g.2.1 99 (100 * nX g + i) = 0 := fun i hi => cXq.2.2.1 (nX g) i (Nat.le_refl _) x1 hi
  have sl := cXq.2.2.2.2.2
  have fs := fun m hm => fslot K (m := m) hm
  generalize ht : nX g = t at *
  have key : ∀ j, j ≤ nM g → ∃ g2, F_369_34 a b (I3 t) 0 g1 = lp F_369_34B (1000000 - j) (a, b, I3 t, I3 j, g2) ∧ Fdl g g2 t k sz j := by
    intro j
    induction j with
    | zero =>
      intro _
      refine ⟨g1, rfl, agr_mono (fun b j z => by unfold SNf; omega) N.a, ⟨_, _, agr_48' N.a⟩, N.e45, N.e96, N.e97, fun i hi => ?_, fun n hn => by omega, fun i _ hi => ?_⟩
      · rw [(same _).1, (same _).2, (z0 i hi).1, (z0 i hi).2]; exact ⟨tag_0, rfl⟩
      · rw [(same _).1, (z0 i hi).1]
    | succ j ih =>
      intro hj
      obtain ⟨g2, e, D⟩ := ih (by omega)
      have r32 : g2.1 67 32 = I3 (nM g) := (D.a.1 67 32 (by unfold SNf; omega)).trans wM.1.1
      have r87 : g2.1 87 j = g.1 87 j := D.a.1 87 j (by unfold SNf; omega)
      have r86 : g2.1 86 j = g.1 86 j := D.a.1 86 j (by unfold SNf; omega)
      have skip : (g.1 87 j = 1 → g.1 86 j = 0 → False) → F_369_34B (a, b, I3 t, I3 j, g2) = F_369_119 a b (I3 t) (I3 j) g2 → ∃ g2, F_369_34 a b (I3 t) 0 g1 = lp F_369_34B (1000000 - (j + 1)) (a, b, I3 t, I3 (j + 1), g2) ∧ Fdl g g2 t k sz (j + 1) := fun no eb => by
        refine ⟨g2, ?_, D.a, D.b, D.e45, D.e96, D.e97, D.z, fun n hn n1 n2 => ?_, D.o⟩
        · rw [e, lp_s (n := 1000000 - j) (s' := (a, b, I3 t, I3 (j + 1), g2)) (by omega) ?_]
          · rw [show 1000000 - j - 1 = 1000000 - (j + 1) by omega]
          · rw [eb]
            unfold F_369_119
            simp only [obs]
            rw [show I3 j + 1 = I3 (j + 1) from I3_add j 1]
        · by_cases q : n = j
          · subst q; exact absurd n2 (fun z => no n1 z)
          · exact D.f n (by omega) n1 n2
      rcases (wM.2.2 j (by omega)).2.2.2.2 with ⟨w1, w2, w3, w4⟩ | ⟨w1, -⟩
      · obtain ⟨bb, wb⟩ := (wM.2.2 j (by omega)).2.2.2.1
        cases bb with
        | true =>
          refine skip (fun _ z => by rw [wb] at z; exact absurd z (by decide)) ?_
          unfold F_369_34B
          rw [r32, if_neg (by rw [I3_le (by omega) (by omega)]; omega), ldZ_I (by omega) (by decide), r87, w1]; simp only [obs]
          rw [if_neg (by decide), ldZ_I (by omega) (by decide), r86, wb]; simp only [obs]
          rw [if_neg (by decide)]
        | false =>
          obtain ⟨s, s1, -, s2⟩ := fs j (by omega) w1 wb
          have es : tn (g.1 91 j) = s := by rw [s2, tnI (by omega)]
          have e88 : g.1 88 j = I3 (tn (g.1 88 j)) := w2.1
          have l88 : tn (g.1 88 j) ≤ 19 + nC g := w2.2
          generalize hq : tn (g.1 88 j) = q at *
          refine ⟨sm_wJ (sm_wI (sm_wJ (sm_wI g2 67 48 (zk (I3 q))) 67 49 0) 98 (100 * t + s) (zk (I3 q))) 99 (100 * t + s) 0, ?_, ?_, ?_, D.e45, D.e96, D.e97, fun i hi => ?_, fun n hn n1 n2 => ?_, fun i i1 i2 => ?_⟩
          · rw [e, lp_s (n := 1000000 - j) (s' := (a, b, I3 t, I3 (j + 1), sm_wJ (sm_wI (sm_wJ (sm_wI g2 67 48 (zk (I3 q))) 67 49 0) 98 (100 * t + s) (zk (I3 q))) 99 (100 * t + s) 0)) (by omega) ?_]
            · rw [show 1000000 - j - 1 = 1000000 - (j + 1) by omega]
            · unfold F_369_34B F_369_119
              rw [r32, if_neg (by rw [I3_le (by omega) (by omega)]; omega), ldZ_I (by omega) (by decide), r87, w1]; simp only [obs]
              rw [if_neg (by decide), ldZ_I (by omega) (by decide), r86, wb]; simp only [obs]
              rw [if_pos (by decide), ldI_I (by omega) (by decide), D.a.1 88 j (by unfold SNf; omega), e88]; simp only [obs]
              rw [R_zero (by omega)]; simp only [obs]
              rw [ldI_I (by omega) (by decide), show (sm_wJ (sm_wI g2 67 48 (zk (I3 q))) 67 49 0).1 91 j = g2.1 91 j from rfl, D.a.1 91 j (by unfold SNf; omega), s2]; simp only [obs]
              rw [show (100 : Int32) * I3 t + I3 s = I3 (100 * t + s) by rw [I3_lit, I3_mul, I3_add], show (sm_wJ (sm_wI g2 67 48 (zk (I3 q))) 67 49 0).1 67 48 = zk (I3 q) from rfl, stI_I (by omega) (by decide)]; simp only [obs]
              rw [ldI_I (by omega) (by decide), show (sm_wI (sm_wJ (sm_wI g2 67 48 (zk (I3 q))) 67 49 0) 98 (100 * t + s) (zk (I3 q))).1 91 j = g2.1 91 j from rfl, D.a.1 91 j (by unfold SNf; omega), s2]; simp only [obs]
              rw [show (100 : Int32) * I3 t + I3 s = I3 (100 * t + s) by rw [I3_lit, I3_mul, I3_add], show (sm_wI (sm_wJ (sm_wI g2 67 48 (zk (I3 q))) 67 49 0) 98 (100 * t + s) (zk (I3 q))).2.1 67 49 = 0 from rfl, stJ_I (by omega) (by decide)]; simp only [obs]
              rw [show I3 j + 1 = I3 (j + 1) from I3_add j 1]
          · exact agr_wJ (agr_wI (agr_wJ (agr_wI D.a (by unfold SNf; omega)) (by unfold SNf; omega)) (by unfold SNf; omega)) (by unfold SNf; omega)
          · obtain ⟨u, v, A⟩ := D.b
            exact ⟨_, _, agr_wJ (agr_wI (agr_48 A (zk (I3 q)) 0) (by unfold SNr; omega)) (by unfold SNr; omega)⟩
          · show tag (if 100 * t + i = 100 * t + s then zk (I3 q) else g2.1 98 (100 * t + i)) = 0 ∧ (if 100 * t + i = 100 * t + s then 0 else g2.2.1 99 (100 * t + i)) = 0
            by_cases c : 100 * t + i = 100 * t + s
            · rw [if_pos c, if_pos c]; exact ⟨tag_zk _, rfl⟩
            · rw [if_neg c, if_neg c]; exact D.z i hi
          · show (if 100 * t + tn (g.1 91 n) = 100 * t + s then zk (I3 q) else g2.1 98 (100 * t + tn (g.1 91 n))) = zk (g.1 88 n)
            by_cases c : n = j
            · rw [c, es, if_pos rfl, e88]
            · obtain ⟨s', s1', -, s2'⟩ := fs n (by omega) n1 n2
              have es' : tn (g.1 91 n) = s' := by rw [s2', tnI (by omega)]
              rw [if_neg (fun z => by
                have : s' = s := by omega
                exact sl n j (by omega) (by omega) n1 n2 w1 wb (by rw [s2', s2, this]))]
              exact D.f n (by omega) n1 n2
          · show (if 100 * t + i = 100 * t + s then zk (I3 q) else g2.1 98 (100 * t + i)) = 0
            rw [if_neg (by omega)]; exact D.o i i1 i2
      · refine skip (fun z _ => by rw [w1] at z; exact absurd z (by decide)) ?_
        unfold F_369_34B
        rw [r32, if_neg (by rw [I3_le (by omega) (by omega)]; omega), ldZ_I (by omega) (by decide), r87, w1]; simp only [obs]
        rw [if_pos trivial]
  exact key (nM g) (Nat.le_refl _)
theorem Fdl.nw {g g2 : sm_H} {t k sz j : Nat} (D : Fdl g g2 t k sz j) : ∃ u v, NwR (sm_wJ (sm_wI g 67 48 u) 67 49 v) g2 t k sz := by
  obtain ⟨u, v, A⟩ := D.b
  exact ⟨u, v, A, D.e45, D.e96, D.e97⟩
theorem go_14 {d fuel s0 x vp p s t : Nat} {vs : List Val} {h0 g0 h g : sm_H} (F : Fr d fuel s0 x vp vs h0 g0 h g p s) (c62 : g.1 67 62 = I3 0) (c104 : g.1 104 d = 14) (c106 : g.1 106 d = I3 t) (t1 : t < 1000) : F_377 g = F_345 (g.1 96 t) (I6 t) (sm_wI g 67 63 0) := by
  have d1 := F.d1
  show F_377_0 g = _
  unfold F_377_0
  simp only [obs]
  rw [F.c56, show I3 (d + 1) - 1 = I3 d from I3_sub (a := d + 1) (b := 1) (by omega), F.l103]; simp only [obs]
  rw [F.l105]; simp only [obs]
  rw [F.l305]; simp only [obs]
  rw [F.l77]; simp only [obs]
  rw [F.l81]; simp only [obs]
  rw [F.l81']; simp only [obs]
  rw [if_pos (show (sm_wI g 67 63 0).1 67 62 = 0 from c62), ldI_I F.d1 (by decide), show (sm_wI g 67 63 0).1 104 d = g.1 104 d from rfl, c104]; simp only [obs]
  rw [if_neg (by decide), if_neg (by decide), if_pos trivial, ldI_I F.d1 (by decide), show (sm_wI g 67 63 0).1 106 d = g.1 106 d from rfl, c106]; simp only [obs]
  rw [ldI_I t1 (by decide), I3_64 (by omega)]; simp only [obs]
  rw [bind_id1]; rfl
theorem fr_wf2 {d fuel s0 x vp p s : Nat} {vs : List Val} {h0 g0 h g : sm_H} (F : Fr d fuel s0 x vp vs h0 g0 h g p s) {m : Nat} (hm : m < nM g0) (m87 : g0.1 87 m = 0) : rs g0 (tn (g0.1 89 m)) = hrs g0 (tn (g0.1 90 m)) ∧ (hpl g0 (tn (g0.1 90 m)) = if g0.1 86 m = 0 then g0.1 83 m :: pl g0 (tn (g0.1 89 m)) else pl g0 (tn (g0.1 89 m))) := by
  have wF := F.m.k.2.2.2.2.2.2.2.2.2.2.2.2.2.2
  rw [wfF_0] at wF
  have c := fun b j h1 h2 => (m_c F.ar (b := b) (j := j) h1 h2).1
  have z := wF.2 m (by rw [m_nM F.ar]; exact hm) (by rw [c 87 m (by decide) (by decide)]; exact m87)
  rw [c 89 m (by decide) (by decide), c 90 m (by decide) (by decide), c 86 m (by decide) (by decide), c 83 m (by decide) (by decide), m_rs F.ar, m_hrs F.ar, m_hpl F.ar, m_pl F.ar] at z
  exact z
theorem run_38 {rec : Int32 → Int32 → sm_H → Option (Int32 × sm_H)} {d fuel s x vp : Nat} {vs : List Val} {h0 g0 h g : sm_H} (IH : CallOK (d + 1) rec) (F : Fr d fuel s x vp vs h0 g0 h g 0 (s + 1)) (c63 : g.1 67 63 = 0) (c59 : g.1 67 59 = I3 (vp + vs.length)) (eh : sm_wI h0 49 8 (h0.1 49 8 + 1) = h) (lf : h0.1 49 8 < h0.1 49 7) (f : fm g0 x = 38) : Ends d fuel s vp (tn (hrs g0 x)) h0 g0 0 (F_82R rec (I3 x) (I3 d) h0) g := by
  have d1 := F.d1
  have v10 := F.v10
  have x500 := F.x500
  have vl := F.vl
  have vx := F.vx
  have fs := F.fs0
  rw [f] at fs
  have C := B82_38 (rec := rec) (x1 := I3 x) (x2 := I3 d) (by rw [I3_lit, I3_lt (by omega) (by decide)]; omega) lf eh (f ▸ F.f37)
  rw [C]
  have R := B370_38 F.c56 F.l103 F.l105 F.l305 F.l77 F.l78 F.l81 F.l81' (f ▸ F.l75)
  obtain ⟨ep, m, m1, ea, ⟨m87, m86, m84, mr⟩, er, el⟩ := FS_38 fs
  have K := F.m.k
  have h12 := K.1.2.1
  have x1000 := nX_1000 K
  have wX := K.2.2.2.2.2.2.2.2.2.2.2.1
  have cXq := K.2.2.2.2.2.2.2.2.2.2.2.2.1
  have cXhq := K.2.2.2.2.2.2.2.2.2.2.2.2.2.1
  have wM := K.2.2.2.2.2.2.1
  have cMq := K.2.2.2.2.2.2.2.1
  have m100 : nM g ≤ 100 := wM.1.2
  have s24 : nS g ≤ 24 := wM.2.1.2
  have m1' : m < nM g := by rw [m_nM F.ar]; exact m1
  have cc := fun b j h1 h2 => (m_c F.ar (b := b) (j := j) h1 h2).1
  have e87 : g.1 87 m = 0 := by rw [cc 87 m (by decide) (by decide)]; exact m87
  obtain ⟨wr, wp⟩ := fr_wf2 F m1 m87
  rw [if_pos m86] at wp
  obtain ⟨y, y1, y90⟩ : ∃ y, y < nH g0 ∧ g.1 90 m = I3 y := by
    rcases (wM.2.2 m m1').2.2.2.2 with z | z
    · rw [z.1] at e87; exact absurd e87 (by decide)
    · obtain ⟨a, a1, a2⟩ := z.2.1; rw [m_nH F.ar] at a1; exact ⟨a, a1, a2⟩
  have w500 : nH g ≤ 500 := K.2.2.2.2.1.1.2
  rw [show g0.1 90 m = I3 y by rw [← cc 90 m (by decide) (by decide)]; exact y90, tnI (by rw [m_nH F.ar] at w500; omega)] at wr wp
  obtain ⟨c, c1, c83⟩ := (wM.2.2 m m1').1
  have e83 : g0.1 83 m = I3 (20 + c) := by rw [← cc 83 m (by decide) (by decide)]; exact c83
  have v10 := F.v10
  have ny := F.n10 y1
  have ly : (hpl g0 y).length = vs.length + 1 := by rw [wp, vx, el]; rfl
  have C0 : F_101 rec (I3 x) (I3 d) h = F_101_0 rec (I3 x) (I3 d) h := rfl
  unfold F_101_0 F_101_111 at C0
  rw [F.f38, ea] at C0; simp only [obs] at C0
  rw [C_hand wM cMq m1' e87, y90] at C0; simp only [obs] at C0
  rw [bind_id1, ea, show F_369 (I3 m) g = F_369_0 (I3 m) g from rfl] at R
  unfold F_369_0 at R
  by_cases q2 : nX g < 1000
  · obtain ⟨h1, a1, N1, z1⟩ := C_new1 (h := h) (t := nX g) (sz := 24) q2 (by decide) (cXq.1.trans wX.1.1) cXhq.1
    obtain ⟨b0, -⟩ := R_new (k := 20 + c) (sz := 0) wX.1 q2 (by decide)
    obtain ⟨-, g1, b1, N2, z2⟩ := R_new (k := 20 + c) (sz := nS g) wX.1 q2 (by omega)
    rw [show F_146 24 h = _ from a1] at C0; simp only [obs] at C0
    rw [if_neg (I3_m1 (by omega))] at C0
    rw [show F_357 0 g = _ from b0] at R; simp only [obs] at R
    rw [if_pos trivial, F.c56, show I3 (d + 1) - 1 = I3 d from I3_sub (a := d + 1) (b := 1) (by omega), ldI_I (by omega) (by decide), c83] at R; simp only [obs] at R
    rw [show g.1 67 33 = I3 (nS g) from wM.2.1.1, b1] at R; simp only [obs] at R
    obtain ⟨g2, f1, D⟩ := R_fields K q2 N2 z2 (I3 m) (I3 d)
    obtain ⟨ua, vb, N3⟩ := D.nw
    have F1 := Fr_48' F ua vb
    have es : 24 = if 20 + c < 20 then nS g else 24 := by rw [if_neg (by omega)]
    obtain ⟨K', w1, w2, w3, w4⟩ := T_new F1.m.k q2 (show 15 ≤ 20 + c by omega) (by show 20 + c < 20 + nC g; omega) (show 24 ≤ 100 by decide) (show nS g ≤ 100 by omega) N1 N3 es (fun i hi => by
      show h1.2.1 (132 + 3 * nX g) i = g2.2.1 99 (100 * nX g + i) ∧ h1.1 (133 + 3 * nX g) i = tag (g2.1 98 (100 * nX g + i))
      rw [(z1 i).1, (z1 i).2, (D.z i (by omega)).1, (D.z i (by omega)).2]; exact ⟨rfl, rfl⟩) (Or.inr ⟨by omega, fun m' hm' e1 e2 => by
        show okV (sm_wJ (sm_wI g 67 48 ua) 67 49 vb) (tn (g.1 88 m')) (g2.1 98 (100 * nX g + tn (g.1 91 m'))) (g2.2.1 99 (100 * nX g + tn (g.1 91 m')))
        have e1 : g.1 87 m' = 1 := e1
        obtain ⟨s, s1, -, s2⟩ := fslot K hm' e1 e2
        have z := D.f m' hm' e1 e2
        have e88 : cnt (g.1 88 m') (19 + nC g) := by
          rcases (wM.2.2 m' hm').2.2.2.2 with z | z
          · exact z.2.1
          · rw [show g.1 87 m' = 0 from z.1] at e1; exact absurd e1 (by decide)
        have l88 := e88.2
        rw [z, (D.z (tn (g.1 91 m')) (by rw [s2, tnI (by omega)]; omega)).2, e88.1, tnI (by omega)]
        exact okV_zk (by omega), fun i i1 i2 => ⟨D.o i i1 (by omega), (D.z i (by omega)).2⟩⟩)
    have w4 : nX g2 = nX g + 1 := w4
    have F2 := Fr_th F1 K' w1 w2 w3
    have nC2 : nC g2 = nC g := by show tn _ = tn _; rw [w2.1 67 6 (by unfold SRx; omega)]; rfl
    generalize ht : nX g = t at *
    have okt : okV g2 (20 + c) (I3 (20 + c)) (I6 t) := okV_new K' (by omega) (by omega) (Or.inr (by omega)) (by omega) D.e96
    have a106 : agr (SG d (vp + vs.length)) g2 (sm_wI g2 106 d (I3 t)) := agr_wI agr_rfl (by unfold SG; omega)
    have F3 := Fr_g F2 a106
    have c59' : (sm_wI g2 106 d (I3 t)).1 67 59 = I3 (vp + vs.length) := (w2.1 67 59 (by unfold SRx; omega)).trans c59
    obtain ⟨h2, l1, L1⟩ := C_lay1 (Ly_0 h1 (d + 1)) (by omega) (by simp only [List.length_nil]; omega) (I3 (20 + c), I6 t)
    obtain ⟨h3, l2, L2⟩ := C_lend (i := 0) (n := vs.length) L1 F3.fr d1 (by omega) (by omega) (by simp only [List.nil_append, List.length_cons, List.length_nil]; omega)
    obtain ⟨g3, p1, P1⟩ := R_push (Ph_0 c59') (by simp only [List.length_nil]; omega) (I3 (20 + c), I6 t)
    obtain ⟨g4, p2, P2⟩ := R_copy (i := 0) (n := vs.length) P1 F3.st (Nat.le_refl _) (by omega) (by simp only [List.nil_append, List.length_cons, List.length_nil]; omega)
    rw [sub_all] at L2 P2
    rw [tag_I (by omega) (by omega)] at l1
    have tw : tyV (sm_wI g2 106 d (I3 t)) (hpl g0 y) ([] ++ [(I3 (20 + c), I6 t)] ++ vs) := by
      have z := tyV_app (tyV_1 (g := g2) (k := I3 (20 + c)) (v := (I3 (20 + c), I6 t)) (by rw [tnI (by omega)]; exact okt)) F2.ty
      rw [wp, e83, ← el]; exact z
    have M : ∃ u, F_350 (I3 y) 14 g4 = some u ∧ Ends d fuel s vp (20 + c) h0 g0 (0 + 1) ((rec (I3 y) (I3 (d + 1)) h3).bind fun q8 => if q8.1 = 0 then ((F_132 (I3 m) q8.2).bind fun q9 => (F_75 (Int32.toInt64 (I3 t)) q9.1 q9.2).bind fun q10 => some (q10.1, q10.2)) else some (q8.1, q8.2)) u := by
      refine midG IH F3 14 y1 (Nat.le_refl _) (by omega) L2 P2 tw (rk := 20 + c) (k := fun q8 => if q8.1 = 0 then ((F_132 (I3 m) q8.2).bind fun q9 => (F_75 (Int32.toInt64 (I3 t)) q9.1 q9.2).bind fun q10 => some (q10.1, q10.2)) else some (q8.1, q8.2)) (fun o h1 o1 o2 => if_neg (I3_ne0 (by omega) o2)) (fun out h5 g5 p5 s5 o1 G t59 t63 t62 t104 r kp gw => ?_)
      rcases (show out = 0 ∨ out = 1 by omega) with rfl | rfl
      · have G' := Fr_63 G
        have r106 : g5.1 106 d = I3 t := by
          rw [kp.1 106 d (by decide) (by decide) (by omega)]
          show (sm_wI g4 104 d 14).1 106 d = _
          rw [wI_rd, if_neg (by omega), P2.a.1 106 d (by unfold SP; omega), wI_rd, if_pos ⟨rfl, rfl⟩]
        have g3x : grow g2 g5 := grow_trans (grow_N (agr_mono (SG_N _ _) a106)) (grow_trans (grow_N (agr_mono (fun b j z => by unfold SP at z; unfold SN; omega) P2.a)) (grow_trans (grow_N (agr_wI agr_rfl (by unfold SN; omega))) gw))
        have ok5 : okV g5 (20 + c) (I3 (20 + c)) (I6 t) := okV_grow K'.1 g3x okt
        have e96 : g5.1 96 t = I3 (20 + c) := by rw [g3x.2.2.2.1 t (by omega)]; exact D.e96
        have m5 : m < nM g5 := by rw [m_nM G.ar]; exact m1
        have e83' : g5.1 83 m = I3 (20 + c) := by rw [(m_c G.ar (show 70 ≤ 83 by decide) (by decide)).1]; exact e83
        obtain ⟨u, h', v1, v2, v3⟩ := Fr_give (rk := 20 + c) G' (I3 (20 + c)) (I6 t) ok5
        rw [tag_I (by omega) (by omega)] at v2
        have CC : (if (I3 0 : Int32) = 0 then ((F_132 (I3 m) h5).bind fun q9 => (F_75 (Int32.toInt64 (I3 t)) q9.1 q9.2).bind fun q10 => some (q10.1, q10.2)) else some (I3 0, h5)) = some (0, h') := by
          rw [if_pos (by decide), C_owner G.m.k.2.2.2.2.2.2.1 G.m.k.2.2.2.2.2.2.2.1 m5, e83']; simp only [obs]
          rw [I3_64 (by omega), v2]; simp only [obs]
        show Ends d fuel s vp (20 + c) h0 g0 p5 (if (I3 0 : Int32) = 0 then _ else _) g5
        rw [CC]
        refine Ends_step (step_goOn (by omega) G.c64 G.c56 t63 ?_) v3
        rw [go_14 G t62 t104 r106 (by omega), e96]; exact v1
      · show Ends d fuel s vp (20 + c) h0 g0 p5 (if (I3 1 : Int32) = 0 then _ else _) g5
        rw [if_neg (by decide)]
        exact thru G (Nat.le_refl 1) t63 t62 ⟨r.1, r.2.1, fun z => by (cases z), r.2.2.2⟩ (fun z => by cases z) (fun _ => Or.inl (by rw [t104]; decide))
    obtain ⟨u, u1, u2⟩ := M
    have Cfin : F_101 rec (I3 x) (I3 d) h = (rec (I3 y) (I3 (d + 1)) h3).bind fun q8 => if q8.1 = 0 then ((F_132 (I3 m) q8.2).bind fun q9 => (F_75 (Int32.toInt64 (I3 t)) q9.1 q9.2).bind fun q10 => some (q10.1, q10.2)) else some (q8.1, q8.2) := by
      rw [C0, C_owner K'.2.2.2.2.2.2.1 K'.2.2.2.2.2.2.2.1 (show m < nM g2 by rw [m_nM F2.ar]; exact m1), show g2.1 83 m = I3 (20 + c) by rw [(m_c F2.ar (show 70 ≤ 83 by decide) (by decide)).1]; exact e83]; simp only [obs]
      rw [show I3 d + 1 = I3 (d + 1) from I3_add d 1, I3_64 (by omega), show F_79 (I3 (d + 1)) 0 (I6 t) (I3 (20 + c)) h1 = some h2 from l1]; simp only [obs]
      rw [(Fr_Ly F3 L1).cmn y1, ly]; simp only [obs]
      rw [show I3 (vs.length + 1) - 1 = I3 vs.length from I3_sub (a := vs.length + 1) (b := 1) (by omega), show F_80 (I3 d) 0 1 (I3 vs.length) h2 = some h3 from l2]; simp only [obs]
    rw [bind_id, Cfin, er, e83, tnI (by omega)]
    refine Ends_step (step_enter (by omega) F.c64 F.c56 c63 ?_) u2
    rw [R, f1]
    refine lp_e (by omega) ?_
    unfold F_369_34B
    rw [show g2.1 67 32 = I3 (nM g) from (D.a.1 67 32 (by unfold SNf; omega)).trans wM.1.1, if_pos (by rw [I3_le (by omega) (by omega)]; omega), stI_I d1 (by decide)]; simp only [obs]
    rw [ldI_I (by omega) (by decide), show (sm_wI g2 106 d (I3 t)).1 83 m = g2.1 83 m from rfl, (m_c F2.ar (show 70 ≤ 83 by decide) (by decide)).1, e83]; simp only [obs]
    rw [I3_64 (by omega), show F_342 (I3 (20 + c)) (I6 t) (sm_wI g2 106 d (I3 t)) = some g3 from p1]; simp only [obs]
    have F4 := Fr_Ph F3 (Nat.le_refl _) P1
    rw [F4.l105]; simp only [obs]
    rw [F4.l103]; simp only [obs]
    rw [F4.l305]; simp only [obs]
    rw [I3_add, show F_343 (I3 vp) (I3 (vp + vs.length)) g3 = some g4 from p2]; simp only [obs]
    rw [ldI_I (by omega) (by decide), (m_c (Fr_Ph F3 (Nat.le_refl _) P2).ar (show 70 ≤ 90 by decide) (by decide)).1, ← (m_c F.ar (show 70 ≤ 90 by decide) (by decide)).1, y90]; simp only [obs]
    rw [u1]; simp only [obs]
  · have q3 : nX g = 1000 := by omega
    rw [show F_146 24 h = some (-1, h) from C_new0 (sz := 24) (by decide) (by rw [cXq.1, wX.1.1]; show I3 (nX g) = _; rw [q3])] at C0; simp only [obs] at C0
    rw [show F_357 0 g = _ from R_new0 (sz := 0) wX.1 q3] at R; simp only [obs] at R
    rw [if_pos trivial] at C0
    rw [if_neg (by decide)] at R
    rw [bind_id, C0]
    exact Ends_step (step_enter (by omega) F.c64 F.c56 c63 R) (Fr_full F)
theorem B_le {g : sm_H} (wK : wfK g) {o : Nat} (ho : 20 ≤ o) : ∀ x, x < 20 + nC g → B g x o = true → o ≤ x := by
  intro x
  induction x using Nat.strongRecOn with
  | ind x ih =>
  intro hx h
  have x20 := B_up h ho
  rw [B_ge20 wK hx x20, Bool.or_eq_true] at h
  have pp := (wK.2.2 (x - 20) (by omega)).2
  rcases h with q | q
  · have := Nat.eq_of_beq_eq_true q; omega
  · have p20 := B_up q ho
    have := ih (par g (x - 20)) (by omega) (by omega) q; omega
theorem B_anti {g : sm_H} (wK : wfK g) {a b : Nat} (ha : 20 ≤ a) (hb : 20 ≤ b) (ha' : a < 20 + nC g) (hb' : b < 20 + nC g) (h1 : B g a b = true) (h2 : B g b a = true) : a = b := by
  have := B_le wK hb a ha' h1
  have := B_le wK ha b hb' h2
  omega
theorem B_total {g : sm_H} (wK : wfK g) {a b : Nat} (ha : 20 ≤ a) (hb : 20 ≤ b) : ∀ x, x < 20 + nC g → B g x a = true → B g x b = true → B g a b = true ∨ B g b a = true := by
  intro x
  induction x using Nat.strongRecOn with
  | ind x ih =>
  intro hx h1 h2
  have x20 := B_up h1 ha
  have pp := (wK.2.2 (x - 20) (by omega)).2
  by_cases q1 : x = a
  · subst q1; exact Or.inl h2
  · by_cases q2 : x = b
    · subst q2; exact Or.inr h1
    · rw [B_ge20 wK hx x20, Bool.or_eq_true] at h1 h2
      have h1 := h1.resolve_left (fun z => q1 (Nat.eq_of_beq_eq_true z))
      have h2 := h2.resolve_left (fun z => q2 (Nat.eq_of_beq_eq_true z))
      have p20 := B_up h1 ha
      exact ih (par g (x - 20)) (by omega) (by omega) h1 h2
theorem B_par1 {g : sm_H} (wK : wfK g) {x o : Nat} (hx : x < 20 + nC g) (ho : 20 ≤ o) (h : B g x o = true) (ne : x ≠ o) : 20 ≤ x ∧ B g (par g (x - 20)) o = true ∧ 20 ≤ par g (x - 20) ∧ par g (x - 20) < x ∧ g.1 70 (x - 20) = I3 (par g (x - 20)) := by
  have x20 := B_up h ho
  have pp := wK.2.2 (x - 20) (by omega)
  rw [B_ge20 wK hx x20, Bool.or_eq_true] at h
  have h := h.resolve_left (fun z => ne (Nat.eq_of_beq_eq_true z))
  have p20 := B_up h ho
  exact ⟨x20, h, p20, by omega, pp.1⟩
abbrev ow (g : sm_H) (n : Nat) : Nat := tn (g.1 83 n)
abbrev cand (g : sm_H) (m n : Nat) : Prop := g.1 87 n = 0 ∧ g.1 86 n = 0 ∧ g.1 85 n ≠ 0 ∧ g.1 84 n = g.1 84 m ∧ g.1 89 n = g.1 89 m ∧ mkB g n = false
theorem ow_ok {g : sm_H} (wK : wfK g) (wM : wfM g) {n : Nat} (hn : n < nM g) : 20 ≤ ow g n ∧ ow g n < 20 + nC g ∧ g.1 83 n = I3 (ow g n) := by
  obtain ⟨c, c1, c2⟩ := (wM.2.2 n hn).1
  have h12 := wK.2.1
  have e : ow g n = 20 + c := by show tn _ = _; rw [c2, tnI (by omega)]
  rw [e]; exact ⟨by omega, by omega, c2⟩
theorem C_cand {h g : sm_H} (K : K1 h g) {m n : Nat} (hm : m < nM g) (hn : n < nM g) (m87 : g.1 87 m = 0) : F_134 (I3 n) (I3 m) h = some (b2 (decide (cand g m n)), h) := by
  have wK := K.1
  have wT := K.2.2.1
  have cTq := K.2.2.2.1
  have wM := K.2.2.2.2.2.2.1
  have cMq := K.2.2.2.2.2.2.2.1
  have m100 : nM g ≤ 100 := wM.1.2
  obtain ⟨y1, y2, y3, y4, y5, y6⟩ := cMq.2.2 n hn
  obtain ⟨x1, x2, x3, x4, x5, x6⟩ := cMq.2.2 m hm
  show F_134_0 (I3 n) (I3 m) h = _
  unfold F_134_0 F_134_68 F_134_69
  rw [ldI_I (by omega) (by omega), ldI_I (by omega) (by omega), ldI_I (by omega) (by omega), ldI_I (by omega) (by omega), y2, x2, (x6 m87).2.2.1]; simp only [obs]
  simp only [true_or, or_true, if_true]
  rw [C_kindOf wM cMq hn]; simp only [obs]
  rw [ldZ_I (by omega) (by omega), y4]; simp only [obs]
  rw [C_isMaker wK wT cTq wM cMq hn]; simp only [obs]
  rw [ldI_I (by omega) (by omega), y3]; simp only [obs]
  have no : ¬ cand g m n → some ((0 : Int32), h) = some (b2 (decide (cand g m n)), h) := fun c => by rw [decide_eq_false c]; rfl
  by_cases c1 : g.1 84 n = g.1 84 m
  · rw [if_pos c1]
    rcases (wM.2.2 n hn).2.2.2.2 with ⟨w1, w2, w3, -⟩ | ⟨w1, -⟩
    · have e45 : h.1 45 n = -1 := (y5 w1).2.2.1
      obtain ⟨t, t1, t2⟩ : ∃ t, t < nT g ∧ g.1 89 m = I3 t := by
        rcases (wM.2.2 m hm).2.2.2.2 with z | z
        · rw [z.1] at m87; exact absurd m87 (by decide)
        · exact z.2.2
      have w300 : nT g ≤ 300 := wT.1.2
      rw [e45, if_neg (fun (z : (-1 : Int32) = g.1 89 m) => I3_m1 (a := t) (by omega) (t2.symm.trans z.symm))]
      exact no (fun z => absurd (w1.symm.trans z.1) (by decide))
    · rw [(y6 w1).2.2.1]
      by_cases c2 : g.1 89 n = g.1 89 m
      · rw [if_pos c2, if_pos (show (if g.1 87 n = 1 then g.1 88 n else 0) = 0 from if_neg (by rw [w1]; decide))]
        by_cases c3 : g.1 86 n = 0
        · rw [if_pos c3]
          by_cases c4 : mkB g n = false
          · rw [if_pos (show b2 (mkB g n) = 0 by rw [c4]; rfl)]
            by_cases c5 : g.1 85 n = 0
            · rw [if_pos c5]; exact no (fun z => z.2.2.1 c5)
            · rw [if_neg c5, decide_eq_true (show cand g m n from ⟨w1, c3, c5, c1, c2, c4⟩)]; rfl
          · rw [if_neg (show ¬ b2 (mkB g n) = 0 by rw [Bool.not_eq_false] at c4; rw [c4]; decide)]; exact no (fun z => c4 z.2.2.2.2.2)
        · rw [if_neg c3]; exact no (fun z => c3 z.2.1)
      · rw [if_neg c2]; exact no (fun z => c2 z.2.2.2.2.1)
  · rw [if_neg c1]; exact no (fun z => c1 z.2.2.2.1)
section
variable {h g : sm_H} {m y n : Nat}
theorem s164 (K : K1 h g) (hm : m < nM g) (hn : n < nM g) : F_363_164B (I3 m, I3 y, I3 n, g) = if g.1 83 n = I3 y ∧ cand g m n then some (.inr (g.1 90 n, g)) else some (.inl (I3 m, I3 y, I3 (n + 1), g)) := by
  have wM := K.2.2.2.2.2.2.1
  have m100 : nM g ≤ 100 := wM.1.2
  have no : ¬ (g.1 83 n = I3 y ∧ cand g m n) → F_363_259 (I3 m) (I3 y) (I3 n) g = if g.1 83 n = I3 y ∧ cand g m n then some (.inr (g.1 90 n, g)) else some (.inl (I3 m, I3 y, I3 (n + 1), g)) := fun c => by
    rw [if_neg c]
    unfold F_363_259 F_363_260
    rw [if_pos rfl]; simp only [obs]
    rw [show I3 n + 1 = I3 (n + 1) from I3_add n 1]
  unfold F_363_164B
  rw [show g.1 67 32 = I3 (nM g) from wM.1.1, if_neg (by rw [I3_le (by omega) (by omega)]; omega), ldI_I (by omega) (by decide)]; simp only [obs]
  by_cases c0 : g.1 83 n = I3 y
  · rw [if_pos c0, ldZ_I (by omega) (by decide)]; simp only [obs]
    by_cases c1 : g.1 87 n = 0
    · rw [if_pos c1, ldZ_I (by omega) (by decide)]; simp only [obs]
      by_cases c2 : g.1 86 n = 0
      · rw [if_pos c2, ldI_I (by omega) (by decide)]; simp only [obs]
        by_cases c3 : g.1 85 n = 0
        · rw [if_pos c3]; exact no (fun z => z.2.2.2.1 c3)
        · rw [if_neg c3, ldI_I (by omega) (by decide), ldI_I (by omega) (by decide)]; simp only [obs]
          by_cases c4 : g.1 84 n = g.1 84 m
          · rw [if_pos c4, ldI_I (by omega) (by decide), ldI_I (by omega) (by decide)]; simp only [obs]
            by_cases c5 : g.1 89 n = g.1 89 m
            · rw [if_pos c5, R_isMaker K.2.2.1 wM hn]; simp only [obs]
              by_cases c6 : mkB g n = false
              · rw [if_pos (show b2 (mkB g n) = 0 by rw [c6]; rfl), if_pos ⟨c0, c1, c2, c3, c4, c5, c6⟩]
                unfold F_363_260
                rw [if_neg (by decide), ldI_I (by omega) (by decide)]; simp only [obs]
              · rw [if_neg (show ¬ b2 (mkB g n) = 0 by rw [Bool.not_eq_false] at c6; rw [c6]; decide)]; exact no (fun z => c6 z.2.2.2.2.2.2)
            · rw [if_neg c5]; exact no (fun z => c5 z.2.2.2.2.2.1)
          · rw [if_neg c4]; exact no (fun z => c4 z.2.2.2.2.1)
      · rw [if_neg c2]; exact no (fun z => c2 z.2.2.1)
    · rw [if_neg c1]; exact no (fun z => c1 z.2.1)
  · rw [if_neg c0]; exact no (fun z => c0 z.1)
theorem s31 (K : K1 h g) (hm : m < nM g) (hn : n < nM g) : F_363_31B (I3 m, I3 y, I3 n, g) = if g.1 83 n = I3 y ∧ cand g m n then some (.inr (.inr (g.1 90 n, g))) else some (.inl (I3 m, I3 y, I3 (n + 1), g)) := by
  have wM := K.2.2.2.2.2.2.1
  have m100 : nM g ≤ 100 := wM.1.2
  have no : ¬ (g.1 83 n = I3 y ∧ cand g m n) → F_363_126 (I3 m) (I3 y) (I3 n) g = if g.1 83 n = I3 y ∧ cand g m n then some (.inr (.inr (g.1 90 n, g))) else some (.inl (I3 m, I3 y, I3 (n + 1), g)) := fun c => by
    rw [if_neg c]
    unfold F_363_126 F_363_127
    rw [if_pos rfl]; simp only [obs]
    rw [show I3 n + 1 = I3 (n + 1) from I3_add n 1]
  unfold F_363_31B
  rw [show g.1 67 32 = I3 (nM g) from wM.1.1, if_neg (by rw [I3_le (by omega) (by omega)]; omega), ldI_I (by omega) (by decide)]; simp only [obs]
  by_cases c0 : g.1 83 n = I3 y
  · rw [if_pos c0, ldZ_I (by omega) (by decide)]; simp only [obs]
    by_cases c1 : g.1 87 n = 0
    · rw [if_pos c1, ldZ_I (by omega) (by decide)]; simp only [obs]
      by_cases c2 : g.1 86 n = 0
      · rw [if_pos c2, ldI_I (by omega) (by decide)]; simp only [obs]
        by_cases c3 : g.1 85 n = 0
        · rw [if_pos c3]; exact no (fun z => z.2.2.2.1 c3)
        · rw [if_neg c3, ldI_I (by omega) (by decide), ldI_I (by omega) (by decide)]; simp only [obs]
          by_cases c4 : g.1 84 n = g.1 84 m
          · rw [if_pos c4, ldI_I (by omega) (by decide), ldI_I (by omega) (by decide)]; simp only [obs]
            by_cases c5 : g.1 89 n = g.1 89 m
            · rw [if_pos c5, R_isMaker K.2.2.1 wM hn]; simp only [obs]
              by_cases c6 : mkB g n = false
              · rw [if_pos (show b2 (mkB g n) = 0 by rw [c6]; rfl), if_pos ⟨c0, c1, c2, c3, c4, c5, c6⟩]
                unfold F_363_127
                rw [if_neg (by decide), ldI_I (by omega) (by decide)]; simp only [obs]
              · rw [if_neg (show ¬ b2 (mkB g n) = 0 by rw [Bool.not_eq_false] at c6; rw [c6]; decide)]; exact no (fun z => c6 z.2.2.2.2.2.2)
            · rw [if_neg c5]; exact no (fun z => c5 z.2.2.2.2.2.1)
          · rw [if_neg c4]; exact no (fun z => c4 z.2.2.2.2.1)
      · rw [if_neg c2]; exact no (fun z => c2 z.2.2.1)
    · rw [if_neg c1]; exact no (fun z => c1 z.2.1)
  · rw [if_neg c0]; exact no (fun z => c0 z.1)
end
theorem virt {h g : sm_H} (K : K1 h g) {m q : Nat} (hm : m < nM g) (m87 : g.1 87 m = 0) (m86 : g.1 86 m = 0) (nmk : ¬ mkr g m) (first : ∀ n, n < m → g.1 83 n = g.1 83 m → g.1 84 n = g.1 84 m → g.1 87 n = 0 → g.1 86 n = 0 → g.1 89 n = g.1 89 m → mkr g n) (hq : q < 20 + nC g) (bq : B g q (ow g m) = true) :
    ∃ b, b < nM g ∧ g.1 87 b = 0 ∧ g.1 86 b = 0 ∧ g.1 89 b = g.1 89 m ∧ B g q (ow g b) = true ∧ F_133 (I3 m) (I3 q) h = some (g.1 90 b, h) ∧ F_363 (I3 m) (I3 q) g = some (g.1 90 b, g) := by
  have wK := K.1
  have h12 := wK.2.1
  have wM := K.2.2.2.2.2.2.1
  have cKq := K.2.1
  have cMq := K.2.2.2.2.2.2.2.1
  have m100 : nM g ≤ 100 := wM.1.2
  have om := ow_ok wK wM hm
  have q20 := B_up bq om.1
  have x3 := (cMq.2.2 m hm).2.2.1
  have C0 : F_133 (I3 m) (I3 q) h = F_133_0 (I3 m) (I3 q) h := rfl
  unfold F_133_0 F_133_17 at C0
  rw [C_mhas wM cMq hm] at C0; simp only [obs] at C0
  rw [if_neg (by decide), ldI_I (by omega) (by decide), x3] at C0; simp only [obs] at C0
  have R0 : F_363 (I3 m) (I3 q) g = F_363_0 (I3 m) (I3 q) g := rfl
  unfold F_363_0 at R0
  rw [ldI_I (by omega) (by decide)] at R0; simp only [obs] at R0
  by_cases m85 : g.1 85 m = 0
  · rw [if_pos m85, C_hand wM cMq hm m87] at C0; simp only [obs] at C0
    rw [if_pos m85, ldI_I (by omega) (by decide)] at R0; simp only [obs] at R0
    exact ⟨m, hm, m87, m86, rfl, bq, C0, R0⟩
  rw [if_neg m85] at C0 R0
  have mmk : mkB g m = false := by
    cases e : mkB g m with
    | false => rfl
    | true => exact absurd (mkB_iff.mp e) nmk
  have cm : cand g m m := ⟨m87, m86, m85, rfl, rfl, mmk⟩
  have CL : ∀ j, j ≤ nM g → ∃ b, F_133_28 (I3 m) (I3 q) (I3 m) 0 h = lp F_133_28B (1000000 - j) (I3 m, I3 q, I3 b, I3 j, h) ∧ b < nM g ∧ cand g m b ∧ B g q (ow g b) = true ∧ B g (ow g b) (ow g m) = true ∧ (∀ n, n < j → cand g m n → B g q (ow g n) = true → B g (ow g n) (ow g m) = true → B g (ow g b) (ow g n) = true) ∧ (ow g b = ow g m → b = m) ∧ (ow g b ≠ ow g m → ∀ n, n < b → cand g m n → ow g n ≠ ow g b) := by
    intro j
    induction j with
    | zero => intro _; exact ⟨m, rfl, hm, cm, bq, B_self g 12 _, fun n hn => by omega, fun _ => rfl, fun z => absurd rfl z⟩
    | succ j ih =>
      intro hj
      obtain ⟨b, e, b1, b2', b3, b4, b5, b6, b7⟩ := ih (by omega)
      have ob := ow_ok wK wM b1
      have oj := ow_ok wK wM (n := j) (by omega)
      have c39b : h.1 39 b = I3 (ow g b) := (cMq.2.2 b b1).1.trans ob.2.2
      have c39j : h.1 39 j = I3 (ow g j) := (cMq.2.2 j (by omega)).1.trans oj.2.2
      have c38 : h.1 38 13 = I3 (nM g) := cMq.1.trans wM.1.1
      have st : ∀ b', F_133_28B (I3 m, I3 q, I3 b, I3 j, h) = F_133_119 (I3 m) (I3 q) (I3 b') (I3 j) h → F_133_28 (I3 m) (I3 q) (I3 m) 0 h = lp F_133_28B (1000000 - (j + 1)) (I3 m, I3 q, I3 b', I3 (j + 1), h) := fun b' z => by
        rw [e, lp_s (n := 1000000 - j) (s' := (I3 m, I3 q, I3 b', I3 (j + 1), h)) (by omega) ?_]
        · rw [show 1000000 - j - 1 = 1000000 - (j + 1) by omega]
        · rw [z]
          unfold F_133_119
          simp only [obs]
          rw [show I3 j + 1 = I3 (j + 1) from I3_add j 1]
      have stay : F_133_28B (I3 m, I3 q, I3 b, I3 j, h) = F_133_119 (I3 m) (I3 q) (I3 b) (I3 j) h → (cand g m j → B g q (ow g j) = true → B g (ow g j) (ow g m) = true → B g (ow g b) (ow g j) = true) → _ := fun z w => (⟨b, st b z, b1, b2', b3, b4, fun n hn w1 w2 w3 => by
          by_cases c : n = j
          · subst c; exact w w1 w2 w3
          · exact b5 n (by omega) w1 w2 w3, b6, b7⟩ : ∃ b, F_133_28 (I3 m) (I3 q) (I3 m) 0 h = lp F_133_28B (1000000 - (j + 1)) (I3 m, I3 q, I3 b, I3 (j + 1), h) ∧ b < nM g ∧ cand g m b ∧ B g q (ow g b) = true ∧ B g (ow g b) (ow g m) = true ∧ (∀ n, n < j + 1 → cand g m n → B g q (ow g n) = true → B g (ow g n) (ow g m) = true → B g (ow g b) (ow g n) = true) ∧ (ow g b = ow g m → b = m) ∧ (ow g b ≠ ow g m → ∀ n, n < b → cand g m n → ow g n ≠ ow g b))
      have B0 : F_133_28B (I3 m, I3 q, I3 b, I3 j, h) = (if I3 (ow g j) = I3 (ow g b) then F_133_119 (I3 m) (I3 q) (I3 b) (I3 j) h else if b2 (B g (ow g j) (ow g b)) = 0 then F_133_119 (I3 m) (I3 q) (I3 b) (I3 j) h else if b2 (B g q (ow g j)) = 0 then F_133_119 (I3 m) (I3 q) (I3 b) (I3 j) h else if b2 (decide (cand g m j)) = 0 then F_133_119 (I3 m) (I3 q) (I3 b) (I3 j) h else F_133_119 (I3 m) (I3 q) (I3 j) (I3 j) h) := by
        unfold F_133_28B F_133_80 F_133_81
        rw [c38, if_neg (by rw [I3_le (by omega) (by omega)]; omega), ldI_I (by omega) (by decide), ldI_I (by omega) (by decide), c39j, c39b]; simp only [obs]
        rw [C_belowN wK cKq oj.2.1 ob.2.1]; simp only [obs]
        rw [ldI_I (by omega) (by decide), c39j]; simp only [obs]
        rw [if_pos trivial, C_belowN wK cKq hq oj.2.1]; simp only [obs]
        rw [C_cand K hm (by omega) m87]; simp only [obs]
        rw [if_neg (show ¬ (1 : Int32) = 0 by decide)]
      by_cases c1 : ow g j = ow g b
      · rw [if_pos (by rw [c1])] at B0
        exact stay B0 (fun _ _ _ => by rw [c1]; exact B_self g 12 _)
      · rw [if_neg (by rw [I3_inj (by omega) (by omega)]; exact c1)] at B0
        cases c2 : B g (ow g j) (ow g b) with
        | false =>
          rw [c2, if_pos (by decide)] at B0
          refine stay B0 (fun _ w2 _ => ?_)
          rcases B_total wK oj.1 ob.1 q hq w2 b3 with z | z
          · rw [c2] at z; cases z
          · exact z
        | true =>
          rw [c2, if_neg (by decide)] at B0
          cases c3 : B g q (ow g j) with
          | false =>
            rw [c3, if_pos (by decide)] at B0
            exact stay B0 (fun _ w2 _ => by rw [c3] at w2; cases w2)
          | true =>
            rw [c3, if_neg (by decide)] at B0
            by_cases c4 : cand g m j
            · rw [decide_eq_true c4, if_neg (by decide)] at B0
              have jm : B g (ow g j) (ow g m) = true := B_trans wK ob.1 b4 _ oj.2.1 c2
              have ne : ow g j ≠ ow g m := fun z => c1 (by
                rw [z] at c2
                rw [z]; exact B_anti wK om.1 ob.1 om.2.1 ob.2.1 c2 b4)
              refine ⟨j, st j B0, by omega, c4, c3, jm, fun n hn w1 w2 w3 => ?_, fun z => absurd z ne, fun _ n hn w1 w => ?_⟩
              · by_cases c : n = j
                · subst c; exact B_self g 12 _
                · exact B_trans wK ob.1 (b5 n (by omega) w1 w2 w3) _ oj.2.1 c2
              · have z := b5 n hn w1 (by rw [w]; exact c3) (by rw [w]; exact jm)
                rw [w] at z
                exact c1 (B_anti wK oj.1 ob.1 oj.2.1 ob.2.1 c2 z)
            · rw [decide_eq_false c4, if_pos (by decide)] at B0
              exact stay B0 (fun w _ _ => absurd w c4)
  obtain ⟨b, e, b1, b2', b3, b4, b5, b6, b7⟩ := CL (nM g) (Nat.le_refl _)
  have ob := ow_ok wK wM b1
  refine ⟨b, b1, b2'.1, b2'.2.1, b2'.2.2.2.2.1, b3, ?_, ?_⟩
  · rw [C0, e]
    refine lp_e (by omega) ?_
    unfold F_133_28B
    rw [show h.1 38 13 = I3 (nM g) from cMq.1.trans wM.1.1, if_pos (by rw [I3_le (by omega) (by omega)]; omega), C_hand wM cMq b1 b2'.1]; simp only [obs]
  · rw [R0]
    have up : ∀ y, y < 20 + nC g → B g q y = true → B g y (ow g b) = true → ∀ f, y < f → lp F_363_18B f (I3 m, I3 y, g) = some (g.1 90 b, g) := by
      intro y
      induction y using Nat.strongRecOn with
      | ind y ih =>
      intro hy qy yb f hf
      have y20 := B_up yb ob.1
      have st18 : F_363_18B (I3 m, I3 y, g) = if y = ow g m then (F_363_164 (I3 m) (I3 y) 0 g).map (fun r => .inr r) else F_363_31 (I3 m) (I3 y) 0 g := by
        unfold F_363_18B
        rw [ldI_I (by omega) (by decide), om.2.2]; simp only [obs]
        by_cases c : y = ow g m
        · rw [if_pos (by rw [c]), if_pos c]
        · rw [if_neg (by rw [I3_inj (by omega) (by omega)]; exact c), if_neg c]
      by_cases c : y = ow g m
      · have bm : b = m := b6 (by rw [c] at yb; exact B_anti wK ob.1 om.1 ob.2.1 om.2.1 b4 yb)
        rw [if_pos c] at st18
        have s : F_363_164 (I3 m) (I3 y) 0 g = some (g.1 90 m, g) := by
          show lp F_363_164B 1000000 (I3 m, I3 y, I3 0, g) = _
          refine lp_it m (fun k => (I3 m, I3 y, I3 k, g)) 1000000 (fun k hk => ?_) ?_ (by omega)
          · rw [s164 K hm (by omega), if_neg]
            rintro ⟨z1, z2⟩
            have := first k hk (z1.trans (by rw [c]; exact om.2.2.symm)) z2.2.2.2.1 z2.1 z2.2.1 z2.2.2.2.2.1
            have mk := mkB_iff.mpr this
            rw [z2.2.2.2.2.2] at mk; cases mk
          · rw [s164 K hm hm, if_pos ⟨by rw [c]; exact om.2.2, cm⟩]
        rw [s] at st18
        rw [bm]
        exact lp_e (by omega) st18
      · rw [if_neg c] at st18
        by_cases c2 : y = ow g b
        · have nb : ow g b ≠ ow g m := fun z => c (c2.trans z)
          have s : F_363_31 (I3 m) (I3 y) 0 g = some (.inr (g.1 90 b, g)) := by
            show lp F_363_31B 1000000 (I3 m, I3 y, I3 0, g) = _
            refine lp_it b (fun k => (I3 m, I3 y, I3 k, g)) 1000000 (fun k hk => ?_) ?_ (by omega)
            · rw [s31 K hm (by omega), if_neg]
              rintro ⟨z1, z2⟩
              have ok := ow_ok wK wM (n := k) (by omega)
              refine b7 nb k hk z2 ?_
              rw [ok.2.2, I3_inj (by omega) (by omega)] at z1
              omega
            · rw [s31 K hm b1, if_pos ⟨by rw [c2]; exact ob.2.2, b2'⟩]
          rw [s] at st18
          exact lp_e (by omega) st18
        · obtain ⟨-, p1, p2, p3, p4⟩ := B_par1 wK hy ob.1 yb c2
          have s : F_363_31 (I3 m) (I3 y) 0 g = some (.inl (I3 m, I3 (par g (y - 20)), g)) := by
            show lp F_363_31B 1000000 (I3 m, I3 y, I3 0, g) = _
            refine lp_it (nM g) (fun k => (I3 m, I3 y, I3 k, g)) 1000000 (fun k hk => ?_) ?_ (by omega)
            · rw [s31 K hm (by omega), if_neg]
              rintro ⟨z1, z2⟩
              have ok := ow_ok wK wM hk
              rw [ok.2.2, I3_inj (by omega) (by omega)] at z1
              have ym : B g y (ow g m) = true := B_trans wK ob.1 b4 y hy yb
              have z := b5 k hk z2 (by rw [z1]; exact qy) (by rw [z1]; exact ym)
              rw [z1] at z
              exact c2 (B_anti wK y20 ob.1 hy ob.2.1 yb z)
            · unfold F_363_31B
              rw [show g.1 67 32 = I3 (nM g) from wM.1.1, if_pos (by rw [I3_le (by omega) (by omega)]; omega), show I3 y - 20 = I3 (y - 20) from I3_sub (a := y) (b := 20) y20, ldI_I (by omega) (by decide), p4]; simp only [obs]
          rw [s] at st18
          rw [lp_s (by omega) st18]
          have qp : B g q (par g (y - 20)) = true := B_trans wK y20 (by
            rw [B_ge20 wK hy y20, show B g (par g (y - 20)) (par g (y - 20)) = true from B_self g 12 (par g (y - 20)), Bool.or_true]) q hq qy
          exact ih (par g (y - 20)) p3 (by omega) qp p1 (f - 1) (by omega)
    exact up q hq (B_self g 12 q) b3 1000000 (by omega)
section
variable {d fuel s0 x vp p s : Nat} {vs : List Val} {h0 g0 h g : sm_H}
theorem meth {rec : Int32 → Int32 → sm_H → Option (Int32 × sm_H)} (IH : CallOK (d + 1) rec) (F : Fr d fuel s0 x vp vs h0 g0 h g p s) (c59 : g.1 67 59 = I3 (vp + vs.length)) {b : Nat} {l : List Int32} (hb : b < nM g) (b87 : g.1 87 b = 0) (b86 : g.1 86 b = 0) (ty0 : tyV g (g.1 83 b :: l) vs) (el : pl g (tn (g.1 89 b)) = l) : ∃ y h' g' u, y < nH g0 ∧ g.1 90 b = I3 y ∧ hrs g0 y = rs g0 (tn (g.1 89 b)) ∧ F_81 (I3 d) (I3 y) h = some h' ∧ F_343 (I3 vp) (I3 (vp + vs.length)) g = some g' ∧ F_349 (I3 y) g' = some u ∧ Ends d fuel s0 vp (tn (hrs g0 y)) h0 g0 (p + 1) (rec (I3 y) (I3 (d + 1)) h') u := by
  have wM := F.m.k.2.2.2.2.2.2.1
  have cc := fun b j h1 h2 => (m_c F.ar (b := b) (j := j) h1 h2).1
  obtain ⟨y, y1, y90⟩ : ∃ y, y < nH g0 ∧ g.1 90 b = I3 y := by
    rcases (wM.2.2 b hb).2.2.2.2 with z | z
    · rw [z.1] at b87; exact absurd b87 (by decide)
    · obtain ⟨a, a1, a2⟩ := z.2.1; rw [m_nH F.ar] at a1; exact ⟨a, a1, a2⟩
  have w500 : nH g ≤ 500 := F.m.k.2.2.2.2.1.1.2
  obtain ⟨wr, wp⟩ := fr_wf2 F (m := b) (by rw [← m_nM F.ar]; exact hb) (by rw [← cc 87 b (by decide) (by decide)]; exact b87)
  rw [← cc 86 b (by decide) (by decide), if_pos b86, ← cc 90 b (by decide) (by decide), y90, tnI (by rw [m_nH F.ar] at w500; omega), ← cc 83 b (by decide) (by decide), ← cc 89 b (by decide) (by decide)] at wp
  rw [← cc 90 b (by decide) (by decide), y90, tnI (by rw [m_nH F.ar] at w500; omega), ← cc 89 b (by decide) (by decide)] at wr
  rw [← m_pl F.ar, el] at wp
  have ly : (hpl g0 y).length = vs.length := by rw [wp, ty0.1]
  obtain ⟨⟨h', a1, L⟩, g', b1, P⟩ := Fr_all F c59 y1 (by omega)
  rw [ly, sub_all] at L P
  obtain ⟨u, e1, e2⟩ := tail2 IH F y1 (Nat.le_refl _) (by omega) L P (by rw [wp]; exact ty0)
  exact ⟨y, h', g', u, y1, y90, wr.symm, a1, by rw [← ly]; exact b1, e1, e2⟩
end
theorem run_36 {rec : Int32 → Int32 → sm_H → Option (Int32 × sm_H)} {d fuel s x vp : Nat} {vs : List Val} {h0 g0 h g : sm_H} (IH : CallOK (d + 1) rec) (F : Fr d fuel s x vp vs h0 g0 h g 0 (s + 1)) (c63 : g.1 67 63 = 0) (c59 : g.1 67 59 = I3 (vp + vs.length)) (eh : sm_wI h0 49 8 (h0.1 49 8 + 1) = h) (lf : h0.1 49 8 < h0.1 49 7) (f : fm g0 x = 36) : Ends d fuel s vp (tn (hrs g0 x)) h0 g0 0 (F_82R rec (I3 x) (I3 d) h0) g := by
  have d1 := F.d1
  have v10 := F.v10
  have x500 := F.x500
  have vl := F.vl
  have vx := F.vx
  have fs := F.fs0
  rw [f] at fs
  have C := B82_36 (rec := rec) (x1 := I3 x) (x2 := I3 d) (by rw [I3_lit, I3_lt (by omega) (by decide)]; omega) lf eh (f ▸ F.f37)
  rw [C]
  have R := B370_36 F.c56 F.l103 F.l105 F.l305 F.l77 F.l78 F.l81 F.l81' (f ▸ F.l75)
  obtain ⟨ep, m, k, m1, ea, m87, m86, k1, k2, kb, eb, nmk, first, er, el⟩ := FS_36 fs
  have K := F.m.k
  have h12 := K.1.2.1
  have wM := K.2.2.2.2.2.2.1
  have cMq := K.2.2.2.2.2.2.2.1
  have m100 : nM g ≤ 100 := wM.1.2
  have m1' : m < nM g := by rw [m_nM F.ar]; exact m1
  have cc := fun b j h1 h2 => (m_c F.ar (b := b) (j := j) h1 h2).1
  have e87 : g.1 87 m = 0 := by rw [cc 87 m (by decide) (by decide)]; exact m87
  have e86 : g.1 86 m = 0 := by rw [cc 86 m (by decide) (by decide)]; exact m86
  have mk : ∀ n, mkr g n ↔ mkr g0 n := fun n => by unfold mkr; rw [cc 87 n (by decide) (by decide), cc 86 n (by decide) (by decide), cc 84 n (by decide) (by decide), cc 89 n (by decide) (by decide), m_rs F.ar]
  have k2' : k < 20 + nC g := by rw [m_nC F.ar]; exact k2
  have vs0 : 0 < vs.length := by rw [vx, el]; exact Nat.zero_lt_succ _
  have ok0 := F.ty.2 0 vs0
  rw [el, show at0 (g0.1 78 x :: pl g0 (tn (g0.1 89 m))) 0 = g0.1 78 x from rfl, eb, tnI (by omega)] at ok0
  have C0 : F_82_353 rec (I3 x) (I3 d) h = F_100_0 rec (I3 x) (I3 d) h := by unfold F_82_353; rw [bind_id]
  unfold F_100_0 F_100_42 F_100_74 at C0
  rw [F.f38, ea] at C0; simp only [obs] at C0
  rw [show F_78 (I3 d) 0 h = _ from F.c78 (i := 0) vs0] at C0; simp only [obs] at C0
  rw [show F_351 0 g = _ from F.k351 (i := 0) vs0] at R; simp only [obs] at R
  unfold F_370_977 at R
  rw [ea] at R
  rcases instV K k1 ok0 with ⟨z1, z2⟩ | ⟨q, t, q1, q2, qb, t1, tv, t96, tsz, z6, z7⟩
  · rw [if_pos z2] at C0
    obtain ⟨u, h', f1, f2, f3⟩ := Fr_fail (rk := tn (hrs g0 x)) F 1
    rw [f2] at C0; simp only [obs] at C0
    rw [C0]
    refine Ends_step (step_enter (by omega) F.c64 F.c56 c63 ?_) f3
    rw [R, z1, if_pos (show ((0 : Int32), (0 : Int64)).1 = 0 from rfl), bind_id1, show F_368 0 g = F_368_0 0 g from rfl]
    unfold F_368_0
    rw [show F_351 0 g = _ from F.k351 (i := 0) vs0, z1]; simp only [obs]
    rw [if_pos trivial, f1]; rfl
  · have tv1 : (atv vs 0).1 = I3 q := by rw [tv]
    have bqm : B g q (ow g m) = true := by
      refine B_trans K.1 k1 ?_ q q2 qb
      rw [m_B F.ar, show ow g m = tn (g0.1 83 m) by show tn _ = _; rw [cc 83 m (by decide) (by decide)]]; exact kb
    obtain ⟨b, b1, b87, b86, b89, bb, V1, V2⟩ := virt K m1' e87 e86 (fun z => nmk ((mk m).mp z)) (fun n hn w1 w2 w3 w4 w5 => by
      rw [cc 83 n (by decide) (by decide), cc 83 m (by decide) (by decide)] at w1
      rw [cc 84 n (by decide) (by decide), cc 84 m (by decide) (by decide)] at w2
      rw [cc 87 n (by decide) (by decide)] at w3
      rw [cc 86 n (by decide) (by decide)] at w4
      rw [cc 89 n (by decide) (by decide), cc 89 m (by decide) (by decide)] at w5
      exact (mk n).mpr (first n hn w1 w2 w3 w4 w5)) q2 bqm
    have ob := ow_ok K.1 wM b1
    have e89 : tn (g.1 89 b) = tn (g0.1 89 m) := by rw [b89, cc 89 m (by decide) (by decide)]
    have tyb : tyV g (g.1 83 b :: pl g0 (tn (g0.1 89 m))) vs := by
      have z := F.ty
      rw [el] at z
      refine ⟨z.1, fun i hi => ?_⟩
      cases i with
      | zero =>
        show okV g (ow g b) _ _
        rw [tv]
        exact Or.inr (Or.inr ⟨by omega, q, rfl, q2, bb, Or.inr (Or.inl ⟨by omega, t, t1, rfl, t96⟩)⟩)
      | succ i => exact z.2 (i + 1) hi
    obtain ⟨y, h', g', u, y1, y90, yr, a1, p1, u1, u2⟩ := meth IH F c59 b1 b87 b86 tyb (by rw [e89, m_pl F.ar])
    rw [if_neg (by rw [z6]; exact z7), F.f37, f] at C0; simp only [obs] at C0
    rw [if_pos (by decide), if_neg (by decide), show F_78 (I3 d) 0 h = _ from F.c78 (i := 0) vs0, z6, tv1] at C0; simp only [obs] at C0
    rw [V1, y90] at C0; simp only [obs] at C0
    rw [a1] at C0; simp only [obs] at C0
    rw [bind_id, show I3 d + 1 = I3 (d + 1) from I3_add d 1] at C0
    rw [C0, er, ← e89, ← yr]
    refine Ends_step (step_enter (by omega) F.c64 F.c56 c63 ?_) u2
    rw [R, if_neg z7, show F_351 0 g = _ from F.k351 (i := 0) vs0, tv1]; simp only [obs]
    rw [V2, y90]; simp only [obs]
    rw [bind_id1, show F_368 (I3 y) g = F_368_0 (I3 y) g from rfl]
    unfold F_368_0
    rw [show F_351 0 g = _ from F.k351 (i := 0) vs0]; simp only [obs]
    rw [if_neg z7, F.c56, show I3 (d + 1) - 1 = I3 d from I3_sub (a := d + 1) (b := 1) (by omega), F.l105]; simp only [obs]
    rw [F.l103]; simp only [obs]
    rw [F.l305]; simp only [obs]
    rw [I3_add, p1]; simp only [obs]
    rw [u1]; simp only [obs]
theorem run_37 {rec : Int32 → Int32 → sm_H → Option (Int32 × sm_H)} {d fuel s x vp : Nat} {vs : List Val} {h0 g0 h g : sm_H} (IH : CallOK (d + 1) rec) (F : Fr d fuel s x vp vs h0 g0 h g 0 (s + 1)) (c63 : g.1 67 63 = 0) (c59 : g.1 67 59 = I3 (vp + vs.length)) (eh : sm_wI h0 49 8 (h0.1 49 8 + 1) = h) (lf : h0.1 49 8 < h0.1 49 7) (f : fm g0 x = 37) : Ends d fuel s vp (tn (hrs g0 x)) h0 g0 0 (F_82R rec (I3 x) (I3 d) h0) g := by
  have d1 := F.d1
  have v10 := F.v10
  have x500 := F.x500
  have vl := F.vl
  have vx := F.vx
  have fs := F.fs0
  rw [f] at fs
  have C := B82_37 (rec := rec) (x1 := I3 x) (x2 := I3 d) (by rw [I3_lit, I3_lt (by omega) (by decide)]; omega) lf eh (f ▸ F.f37)
  rw [C]
  have R := B370_37 F.c56 F.l103 F.l105 F.l305 F.l77 F.l78 F.l81 F.l81' (f ▸ F.l75)
  obtain ⟨ep, m, k, m1, ea, m87, m86, k1, k2, kb, eb, nmk, first, er, el⟩ := FS_37 fs
  have K := F.m.k
  have h12 := K.1.2.1
  have wM := K.2.2.2.2.2.2.1
  have cMq := K.2.2.2.2.2.2.2.1
  have m100 : nM g ≤ 100 := wM.1.2
  have m1' : m < nM g := by rw [m_nM F.ar]; exact m1
  have cc := fun b j h1 h2 => (m_c F.ar (b := b) (j := j) h1 h2).1
  have e87 : g.1 87 m = 0 := by rw [cc 87 m (by decide) (by decide)]; exact m87
  have e86 : g.1 86 m = 0 := by rw [cc 86 m (by decide) (by decide)]; exact m86
  have k2' : k < 20 + nC g := by rw [m_nC F.ar]; exact k2
  have vs0 : 0 < vs.length := by rw [vx, el]; exact Nat.zero_lt_succ _
  have ok0 := F.ty.2 0 vs0
  rw [el, show at0 (g0.1 78 x :: pl g0 (tn (g0.1 89 m))) 0 = g0.1 78 x from rfl, eb, tnI (by omega)] at ok0
  have C0 : F_82_353 rec (I3 x) (I3 d) h = F_100_0 rec (I3 x) (I3 d) h := by unfold F_82_353; rw [bind_id]
  unfold F_100_0 F_100_42 F_100_74 at C0
  rw [F.f38, ea] at C0; simp only [obs] at C0
  rw [show F_78 (I3 d) 0 h = _ from F.c78 (i := 0) vs0] at C0; simp only [obs] at C0
  rw [ea, ldI_I (by omega) (by decide)] at R; simp only [obs] at R
  rw [bind_id1, show F_368 (g.1 90 m) g = F_368_0 (g.1 90 m) g from rfl] at R
  unfold F_368_0 at R
  rw [show F_351 0 g = _ from F.k351 (i := 0) vs0] at R; simp only [obs] at R
  rcases instV K k1 ok0 with ⟨z1, z2⟩ | ⟨q, t, q1, q2, qb, t1, tv, t96, tsz, z6, z7⟩
  · rw [if_pos z2] at C0
    obtain ⟨u, h', f1, f2, f3⟩ := Fr_fail (rk := tn (hrs g0 x)) F 1
    rw [f2] at C0; simp only [obs] at C0
    rw [C0]
    refine Ends_step (step_enter (by omega) F.c64 F.c56 c63 ?_) f3
    rw [R, z1, if_pos (show ((0 : Int32), (0 : Int64)).1 = 0 from rfl), f1]; rfl
  · have bqm : B g q (ow g m) = true := by
      refine B_trans K.1 k1 ?_ q q2 qb
      rw [m_B F.ar, show ow g m = tn (g0.1 83 m) by show tn _ = _; rw [cc 83 m (by decide) (by decide)]]; exact kb
    have om := ow_ok K.1 wM m1'
    have e89 : tn (g.1 89 m) = tn (g0.1 89 m) := by rw [cc 89 m (by decide) (by decide)]
    have tyb : tyV g (g.1 83 m :: pl g0 (tn (g0.1 89 m))) vs := by
      have z := F.ty
      rw [el] at z
      refine ⟨z.1, fun i hi => ?_⟩
      cases i with
      | zero =>
        show okV g (ow g m) _ _
        rw [tv]
        exact Or.inr (Or.inr ⟨by omega, q, rfl, q2, bqm, Or.inr (Or.inl ⟨by omega, t, t1, rfl, t96⟩)⟩)
      | succ i => exact z.2 (i + 1) hi
    obtain ⟨y, h', g', u, y1, y90, yr, a1, p1, u1, u2⟩ := meth IH F c59 m1' e87 e86 tyb (by rw [e89, m_pl F.ar])
    rw [if_neg (by rw [z6]; exact z7), F.f37, f] at C0; simp only [obs] at C0
    rw [if_neg (by decide), if_pos trivial, C_hand wM cMq m1' e87, y90] at C0; simp only [obs] at C0
    rw [a1] at C0; simp only [obs] at C0
    rw [bind_id, show I3 d + 1 = I3 (d + 1) from I3_add d 1] at C0
    rw [C0, er, ← e89, ← yr]
    refine Ends_step (step_enter (by omega) F.c64 F.c56 c63 ?_) u2
    rw [R, if_neg z7, F.c56, show I3 (d + 1) - 1 = I3 d from I3_sub (a := d + 1) (b := 1) (by omega), F.l105]; simp only [obs]
    rw [F.l103]; simp only [obs]
    rw [F.l305]; simp only [obs]
    rw [I3_add, p1]; simp only [obs]
    rw [y90, u1]; simp only [obs]
def frmO (h : sm_H) (d o : Nat) (us : List Val) : Prop := ∀ i, i < us.length → h.2.1 50 (16 * d + (o + i)) = (atv us i).2 ∧ h.1 51 (16 * d + (o + i)) = tag (atv us i).1
theorem frmO_agr {h h' : sm_H} {d d' o : Nat} {us : List Val} (F : frmO h d o us) (a : agr (SL d') h h') (l : o + us.length ≤ 16) (ne : d ≠ d') : frmO h' d o us := fun i hi => by
  rw [a.2.1 50 _ (by unfold SL; omega), a.1 51 _ (by unfold SL; omega)]
  exact F i hi
theorem C_lendO {h h' : sm_H} {d o i n : Nat} {us ws : List Val} (L : Ly h h' (d + 1) ws) (F : frmO h d o us) (hd : d < 100) (u16 : o + us.length ≤ 16) (hi : i + n ≤ us.length) (hw : ws.length + n ≤ 16) : ∃ h2, F_80 (I3 d) (I3 (o + i)) (I3 ws.length) (I3 n) h' = some h2 ∧ Ly h h2 (d + 1) (ws ++ sub us i n) := by
  have LL := lp_ex (body := F_80_3B) (P := fun k s => s.1 = I3 d ∧ s.2.1 = I3 (o + i) ∧ s.2.2.1 = I3 ws.length ∧ s.2.2.2.1 = I3 n ∧ s.2.2.2.2.1 = I3 k ∧ Ly h s.2.2.2.2.2 (d + 1) (ws ++ sub us i k)) (Q := fun h2 => Ly h h2 (d + 1) (ws ++ sub us i n)) n (fun k s hk p1 => ?_) (fun s p1 => ?_) (I3 d, I3 (o + i), I3 ws.length, I3 n, 0, h') 1000000 ⟨rfl, rfl, rfl, rfl, rfl, by rw [sub_0, List.append_nil]; exact L⟩ (by omega)
  · obtain ⟨h2, e1, e2⟩ := LL
    exact ⟨h2, e1, e2⟩
  · obtain ⟨s1, s2, s3, s4, s5, s6⟩ := s
    obtain ⟨p1, p2, p3, p4, p5, p6⟩ := p1
    have p1 : s1 = I3 d := p1
    have p2 : s2 = I3 (o + i) := p2
    have p3 : s3 = I3 ws.length := p3
    have p4 : s4 = I3 n := p4
    have p5 : s5 = I3 k := p5
    have p6 : Ly h s6 (d + 1) (ws ++ sub us i k) := p6
    subst p1 p2 p3 p4 p5
    have sl : (sub us i k).length = k := sub_len (by omega)
    have wl : (ws ++ sub us i k).length = ws.length + k := by rw [List.length_append, sl]
    have F6 : s6.2.1 50 (16 * d + (o + i + k)) = (atv us (i + k)).2 ∧ s6.1 51 (16 * d + (o + i + k)) = tag (atv us (i + k)).1 := by
      have z := frmO_agr F p6.a u16 (by omega) (i + k) (by omega)
      rw [← Nat.add_assoc o i k] at z; exact z
    obtain ⟨h2, c1, c2⟩ := C_lay1 p6 (by omega) (by omega) (atv us (i + k))
    refine Or.inl ⟨(I3 d, I3 (o + i), I3 ws.length, I3 n, I3 (k + 1), h2), ?_, rfl, rfl, rfl, rfl, rfl, ?_⟩
    · show F_80_3B (I3 d, I3 (o + i), I3 ws.length, I3 n, I3 k, s6) = _
      unfold F_80_3B
      rw [if_neg (by rw [I3_le (by omega) (by omega)]; omega), if_neg (by rw [I3_lit, I3_le (by decide) (by omega)]; omega), I3_add, C_num (by omega) (by omega)]; simp only [obs]
      rw [C_tg (by omega) (by omega)]; simp only [obs]
      rw [F6.1, F6.2, show I3 d + 1 = I3 (d + 1) from I3_add d 1, I3_add, ← wl, c1]; simp only [obs]
      rw [show I3 k + 1 = I3 (k + 1) from I3_add k 1]
    · show Ly h h2 (d + 1) _
      rw [sub_succ (by omega), ← List.append_assoc]; exact c2
  · obtain ⟨s1, s2, s3, s4, s5, s6⟩ := s
    obtain ⟨p1, p2, p3, p4, p5, p6⟩ := p1
    have p4 : s4 = I3 n := p4
    have p5 : s5 = I3 n := p5
    subst p4 p5
    refine ⟨s6, ?_, p6⟩
    show F_80_3B (s1, s2, s3, I3 n, I3 n, s6) = _
    unfold F_80_3B
    rw [if_pos (by rw [I3_le (by omega) (by omega)]; omega)]; rfl
theorem C_lend0 {h : sm_H} (a b c : Int32) {n : Int32} (hn : n ≤ 0) : F_80 a b c n h = some h := by
  show lp F_80_3B 1000000 (a, b, c, n, 0, h) = _
  refine lp_e (by decide) ?_
  unfold F_80_3B
  rw [if_pos hn]; rfl
theorem sub_cat1 {us vs : List Val} {m : Nat} (h : m ≤ us.length) : sub (us ++ vs) 0 m = sub us 0 m := by
  unfold sub; rw [List.drop_zero, List.drop_zero, List.take_append_of_le_length h]
theorem sub_cat2 {us vs : List Val} {m : Nat} (h : us.length ≤ m) : sub (us ++ vs) 0 m = us ++ sub vs 0 (m - us.length) := by
  unfold sub; rw [List.drop_zero, List.drop_zero, List.take_append, List.take_of_length_le h]
abbrev LV (d vp : Nat) (ks : List Int32) (vs us : List Val) (h g : sm_H) : Prop := stk g (vp + vs.length) us ∧ frmO h d 10 us ∧ tyV g ks us ∧ g.1 106 d = I3 us.length
theorem sub_neg {a b : Nat} (h : a ≤ b) (hb : b < 2147483648) : I3 a - I3 b ≤ 0 := by
  have z0 : (0 : Int32).toInt = 0 := rfl
  rw [Int32.le_iff_toInt_le, Int32.toInt_sub, I3_toInt (by omega), I3_toInt (by omega), Int.bmod_eq_of_le (by omega) (by omega), z0]; omega
section
variable {d fuel s0 x vp p s : Nat} {vs : List Val} {h0 g0 h g : sm_H}
theorem C_lendR (F : Fr d fuel s0 x vp vs h0 g0 h g p s) {us : List Val} (V : frmO h d 10 us) (u4 : us.length ≤ 6) {y : Nat} (y1 : y < nH g0) (l : (hpl g0 y).length ≤ us.length + vs.length) : ∃ h2, F_98 (I3 y) (I3 us.length) (I3 d) h = some h2 ∧ Ly h h2 (d + 1) (sub (us ++ vs) 0 (hpl g0 y).length) := by
  have d1 := F.d1
  have v10 := F.v10
  have n10 := F.n10 y1
  have C0 : F_98 (I3 y) (I3 us.length) (I3 d) h = F_98_0 (I3 y) (I3 us.length) (I3 d) h := rfl
  unfold F_98_0 at C0
  rw [F.cmn y1] at C0; simp only [obs] at C0
  by_cases q : (hpl g0 y).length < us.length
  · obtain ⟨h1, a1, L1⟩ := C_lendO (o := 10) (i := 0) (n := (hpl g0 y).length) (Ly_0 h (d + 1)) V d1 (by omega) (by omega) (by simp only [List.length_nil]; omega)
    rw [if_pos (by rw [I3_lt (by omega) (by omega)]; exact q), show F_80 (I3 d) 10 0 (I3 (hpl g0 y).length) h = some h1 from a1] at C0; simp only [obs] at C0
    rw [C_lend0 _ _ _ (sub_neg (by omega) (by omega))] at C0; simp only [obs] at C0
    refine ⟨h1, C0, ?_⟩
    rw [sub_cat1 (by omega)]; exact L1
  · obtain ⟨h1, a1, L1⟩ := C_lendO (o := 10) (i := 0) (n := us.length) (Ly_0 h (d + 1)) V d1 (by omega) (by omega) (by simp only [List.length_nil]; omega)
    rw [List.nil_append, sub_all] at L1
    obtain ⟨h2, a2, L2⟩ := C_lend (i := 0) (n := (hpl g0 y).length - us.length) L1 F.fr d1 (by omega) (by omega) (by omega)
    rw [if_neg (by rw [I3_lt (by omega) (by omega)]; exact q), show F_80 (I3 d) 10 0 (I3 us.length) h = some h1 from a1] at C0; simp only [obs] at C0
    rw [I3_sub (by omega), show F_80 (I3 d) 0 (I3 us.length) (I3 ((hpl g0 y).length - us.length)) h1 = some h2 from a2] at C0; simp only [obs] at C0
    refine ⟨h2, C0, ?_⟩
    rw [sub_cat2 (by omega)]; exact L2
theorem R_lendR (F : Fr d fuel s0 x vp vs h0 g0 h g p s) {us : List Val} (c59 : g.1 67 59 = I3 (vp + vs.length + us.length)) (V : stk g (vp + vs.length) us) (c106 : g.1 106 d = I3 us.length) (u4 : us.length ≤ 6) {y : Nat} (y1 : y < nH g0) (l : (hpl g0 y).length ≤ us.length + vs.length) : ∃ g2, F_373 (I3 y) g = some g2 ∧ Ph g g2 (vp + vs.length + us.length) (sub (us ++ vs) 0 (hpl g0 y).length) := by
  have d1 := F.d1
  have v10 := F.v10
  have vl := F.vl
  have n10 := F.n10 y1
  have l106 : ldI g 106 100 (I3 d) = some (I3 us.length) := by rw [ldI_I d1 (by decide), c106]
  have C0 : F_373 (I3 y) g = F_373_0 (I3 y) g := rfl
  unfold F_373_0 at C0
  simp only [obs] at C0
  rw [F.c56, show I3 (d + 1) - 1 = I3 d from I3_sub (a := d + 1) (b := 1) (by omega), F.l105] at C0; simp only [obs] at C0
  rw [F.l103] at C0; simp only [obs] at C0
  rw [F.l305] at C0; simp only [obs] at C0
  rw [F.mn y1] at C0; simp only [obs] at C0
  rw [l106] at C0; simp only [obs] at C0
  have fin : ∀ k, k ≤ us.length → k ≤ (hpl g0 y).length → (hpl g0 y).length - k ≤ vs.length → ∃ g2, F_373_54 (I3 d) (I3 vp + I3 vs.length) (I3 (hpl g0 y).length) (I3 k) g = some g2 ∧ Ph g g2 (vp + vs.length + us.length) (sub us 0 k ++ sub vs 0 ((hpl g0 y).length - k)) := fun k k1 k2 k3 => by
    obtain ⟨g1, b1, P1⟩ := R_copy (i := 0) (n := k) (Ph_0 c59) V (Nat.le_refl _) (by omega) (by simp only [List.length_nil]; omega)
    rw [List.nil_append] at P1
    have sl : (sub us 0 k).length = k := sub_len (by omega)
    obtain ⟨g2, b2, P2⟩ := R_copy (i := 0) (n := (hpl g0 y).length - k) P1 F.st (by omega) (by omega) (by omega)
    have F1 := Fr_Ph F (by omega) P1
    refine ⟨g2, ?_, P2⟩
    unfold F_373_54
    rw [I3_add, I3_add, show F_343 (I3 (vp + vs.length)) (I3 (vp + vs.length + k)) g = some g1 from b1]; simp only [obs]
    rw [F1.l105]; simp only [obs]
    rw [I3_add, I3_sub (by omega), show vp + (hpl g0 y).length - k = vp + 0 + ((hpl g0 y).length - k) by omega, show F_343 (I3 vp) (I3 (vp + 0 + ((hpl g0 y).length - k))) g1 = some g2 from b2]; simp only [obs]
  by_cases q : us.length ≤ (hpl g0 y).length
  · obtain ⟨g2, e1, e2⟩ := fin us.length (Nat.le_refl _) q (by omega)
    rw [if_pos (by rw [I3_le (by omega) (by omega)]; exact q)] at C0
    refine ⟨g2, C0.trans e1, ?_⟩
    rw [sub_cat2 q]; rw [sub_all] at e2; exact e2
  · obtain ⟨g2, e1, e2⟩ := fin (hpl g0 y).length (by omega) (Nat.le_refl _) (by omega)
    rw [if_neg (by rw [I3_le (by omega) (by omega)]; exact q)] at C0
    refine ⟨g2, C0.trans e1, ?_⟩
    rw [sub_cat1 (by omega)]; rw [Nat.sub_self, sub_0, List.append_nil] at e2; exact e2
theorem midL {rec : Int32 → Int32 → sm_H → Option (Int32 × sm_H)} (IH : CallOK (d + 1) rec) (F : Fr d fuel s0 x vp vs h0 g0 h g p s) {h' g' : sm_H} {y T : Nat} {ws : List Val} (st : Int32) (y1 : y < nH g0) (t1 : vp + vs.length ≤ T) (t2 : T ≤ vp + vs.length + 10) (L : Ly h h' (d + 1) ws) (P : Ph g g' T ws) (tw : tyV g (hpl g0 y) ws) {rk : Nat} {k : Int32 × sm_H → Option (Int32 × sm_H)}
    (ne : st ≠ 1) (stop : ∀ o h1, 1 ≤ o → o ≤ 4 → k (I3 o, h1) = some (I3 o, h1))
    (go : ∀ h1 g1 p1 s1, s < s1 → Fr d fuel s0 x vp vs h0 g0 h1 g1 p1 s1 → g1.1 67 59 = I3 T → g1.1 67 63 = 1 → g1.1 67 62 = I3 0 → g1.1 104 d = st → g1.1 107 d = g.1 107 d → res h1 g1 0 (tn (hrs g0 y)) → (∀ ks us, vp + vs.length + us.length ≤ T → us.length ≤ 6 → LV d vp ks vs us h g → LV d vp ks vs us h1 g1) → Ends d fuel s0 vp rk h0 g0 p1 (k (0, h1)) g1) :
    ∃ u, F_350 (I3 y) st g' = some u ∧ Ends d fuel s0 vp rk h0 g0 (p + 1) ((rec (I3 y) (I3 (d + 1)) h').bind k) u := by
  have F1 := Fr_Ph (Fr_Ly F L) t1 P
  have a : agr (SG d (vp + vs.length)) g' (sm_wI g' 104 d st) := agr_wI agr_rfl (by unfold SG; omega)
  have F' := Fr_g F1 a
  have y1' : y < nH (sm_wI g' 104 d st) := by rw [m_nH F'.ar]; exact y1
  have v10 := F.v10
  have vl := F.vl
  have d1 := F.d1
  have tg : ∀ ks us, tyV g ks us → tyV (sm_wI g' 104 d st) ks us := fun ks us t => tyV_grow F1.m.k.1 (grow_N (agr_mono (SG_N _ _) a)) (tyV_Ph F P t)
  obtain ⟨u, e1, e2⟩ := IH h' (sm_wI g' 104 d st) fuel s y T ws F'.m y1' F'.c56 P.n F'.c64 (by omega) (by rw [m_hpl F'.ar]; exact tg _ _ tw) L.f P.s
  obtain ⟨out, h1, g1, c, s1, o1, o2, o3, o4, o5, o6, o7, o8, o9⟩ := e2
  have b := F.b
  have lt := F.lt
  refine ⟨u, ?_, ?_⟩
  · show F_350_0 (I3 y) st g' = _
    unfold F_350_0
    rw [F1.c56, show I3 (d + 1) - 1 = I3 d from I3_sub (a := d + 1) (b := 1) (by omega), stI_I F.d1 (by decide)]; simp only [obs]
    rw [e1]; simp only [obs]
  rw [o1]; simp only [obs]
  rcases o9 with ⟨q1, q2, q3, q4, q5, q6, q7, q8, q9⟩ | ⟨q1, q2, q3, q4⟩
  · have FN : Fr d fuel s0 x vp vs h0 g0 h1 g1 (p + 1 + c) s1 := by
      refine ⟨o3, by omega, by omega, F.d1, F.x1, q3, (q8.1 103 d (by decide) (by decide) (by omega)).trans F'.c103, (q8.1 105 d (by decide) (by decide) (by omega)).trans F'.c105, q5, vl, tyV_grow F'.m.k.1 o7 F'.ty, fun i hi => ?_, fun i hi => ?_, agr3_trans F'.ac o5, agr_trans F'.ar o6, grow_trans F'.gr o7, keepC_trans F'.kc (keepC_mono o8 (by omega)), keepR_trans F'.kr (keepR_mono q8 (by omega) (by omega))⟩
      · have := o8 (16 * d + i) (by omega)
        rw [this.1, this.2]; exact F'.fr i hi
      · have := q8.2 (vp + i) (by omega)
        rw [this.1, this.2]; exact F'.st i hi
    have k104 : g1.1 104 d = st := by
      rw [q8.1 104 d (by decide) (by decide) (by omega)]
      show (if d = d then st else g'.1 104 d) = _; rw [if_pos rfl]
    refine Ends_lp o2 ?_
    rcases (show out = 0 ∨ out = 1 by omega) with rfl | rfl
    · refine go h1 g1 _ s1 (by omega) FN q4 q6 q7 k104 ?_ (by rw [← m_hrs F'.ar]; exact q9) (fun ks us t3 t4 V => ⟨fun i hi => ?_, fun i hi => ?_, tyV_grow F'.m.k.1 o7 (tg _ _ V.2.2.1), ?_⟩)
      · rw [q8.1 107 d (by decide) (by decide) (by omega)]
        show g'.1 107 d = _
        exact P.a.1 107 d (by unfold SP; omega)
      · have z := q8.2 (vp + vs.length + i) (by omega)
        rw [z.1, z.2]
        exact stk_agr V.1 P.a t3 i hi
      · have z := o8 (16 * d + (10 + i)) (by omega)
        rw [z.1, z.2]
        exact frmO_agr V.2.1 L.a (by omega) (by omega) i hi
      · rw [q8.1 106 d (by decide) (by decide) (by omega)]
        show g'.1 106 d = _
        rw [P.a.1 106 d (by unfold SP; omega)]; exact V.2.2.2
    · rw [stop 1 _ (by decide) (by decide)]
      exact thru FN (Nat.le_refl 1) q6 q7 ⟨q9.1, q9.2.1, fun z => by (cases z), q9.2.2.2⟩ (fun z => by cases z) (fun _ => Or.inl (by rw [k104]; exact ne))
  · rw [stop out _ (by omega) q2]
    exact ⟨out, h1, g1, c, s1, rfl, o2, o3, by omega, agr3_trans F'.ac o5, agr_trans F'.ar o6, grow_trans F'.gr o7, keepC_trans F'.kc (keepC_mono o8 (by omega)), Or.inr ⟨q1, q2, by omega, q4⟩⟩
theorem Fr.f42 (F : Fr d fuel s0 x vp vs h0 g0 h g p s) : F_42 (I3 x) h = some (I3 (prt g0 x).length, h) := by
  rw [prt_len, ← m_pm F.ar]
  have z := C_partsOf F.m.k.2.2.2.2.1 F.m.k.2.2.2.2.2.1 F.hx
  rw [(F.m.k.2.2.2.2.1.2 x F.hx).2.2.2.1] at z; exact z
theorem Fr.l80 (F : Fr d fuel s0 x vp vs h0 g0 h g p s) : ldI g 80 500 (I3 x) = some (I3 (prt g0 x).length) := by
  rw [prt_len, ← m_pm F.ar, ldI_I F.x500 (by decide), (F.m.k.2.2.2.2.1.2 x F.hx).2.2.2.1]
theorem Fr.q0 (F : Fr d fuel s0 x vp vs h0 g0 h g p s) {i : Nat} (hk : 4 * i < (prt g0 x).length) : ldI g 81 12000 (24 * I3 x + 4 * I3 i) = some (pt (prt g0 x) i 0) := by
  have := F.x500
  have p24 : (prt g0 x).length ≤ 20 := by rw [prt_len, ← m_pm F.ar]; exact (F.m.k.2.2.2.2.1.2 x F.hx).2.2.2.2
  rw [show (24 : Int32) * I3 x + 4 * I3 i = I3 (24 * x + (4 * i + 0)) by rw [I3_lit, I3_lit, I3_mul, I3_mul, I3_add]; rfl, F.l81k (by omega), F.at81 (by omega)]
theorem Fr.q1 (F : Fr d fuel s0 x vp vs h0 g0 h g p s) {i : Nat} (hk : 4 * i + 1 < (prt g0 x).length) : ldI g 81 12000 (24 * I3 x + 4 * I3 i + 1) = some (pt (prt g0 x) i 1) := by
  have := F.x500
  have p24 : (prt g0 x).length ≤ 20 := by rw [prt_len, ← m_pm F.ar]; exact (F.m.k.2.2.2.2.1.2 x F.hx).2.2.2.2
  rw [show (24 : Int32) * I3 x + 4 * I3 i + 1 = I3 (24 * x + (4 * i + 1)) by rw [I3_lit, I3_lit, I3_lit, I3_mul, I3_mul, I3_add, I3_add]; rfl, F.l81k (by omega), F.at81 (by omega)]
theorem Fr.q2 (F : Fr d fuel s0 x vp vs h0 g0 h g p s) {i : Nat} (hk : 4 * i + 2 < (prt g0 x).length) : ldI g 81 12000 (24 * I3 x + 4 * I3 i + 2) = some (pt (prt g0 x) i 2) := by
  have := F.x500
  have p24 : (prt g0 x).length ≤ 20 := by rw [prt_len, ← m_pm F.ar]; exact (F.m.k.2.2.2.2.1.2 x F.hx).2.2.2.2
  rw [show (24 : Int32) * I3 x + 4 * I3 i + 2 = I3 (24 * x + (4 * i + 2)) by rw [I3_lit, I3_lit, I3_lit, I3_mul, I3_mul, I3_add, I3_add]; rfl, F.l81k (by omega), F.at81 (by omega)]
theorem Fr.q3 (F : Fr d fuel s0 x vp vs h0 g0 h g p s) {i : Nat} (hk : 4 * i + 3 < (prt g0 x).length) : ldI g 81 12000 (24 * I3 x + 4 * I3 i + 3) = some (pt (prt g0 x) i 3) := by
  have := F.x500
  have p24 : (prt g0 x).length ≤ 20 := by rw [prt_len, ← m_pm F.ar]; exact (F.m.k.2.2.2.2.1.2 x F.hx).2.2.2.2
  rw [show (24 : Int32) * I3 x + 4 * I3 i + 3 = I3 (24 * x + (4 * i + 3)) by rw [I3_lit, I3_lit, I3_lit, I3_mul, I3_mul, I3_add, I3_add]; rfl, F.l81k (by omega), F.at81 (by omega)]
theorem Fr.cvk (F : Fr d fuel s0 x vp vs h0 g0 h g p s) {ps : List Int32} {n i : Nat} (L : LPt g0 ps n) (hi : i < n) : F_47 (pt ps i 0) (pt ps i 1) h = some (vk g0 ps i, h) := by
  have L' : LPt g ps n := ⟨L.l, L.n0, L.n4, fun i z hi hz => by rw [m_nH F.ar]; exact L.h i z hi hz⟩
  rw [C_vk F.m.k L' hi]
  unfold vk
  rw [m_hrs F.ar, m_hrs F.ar]
theorem Fr.rvk (F : Fr d fuel s0 x vp vs h0 g0 h g p s) {ps : List Int32} {n i : Nat} (L : LPt g0 ps n) (hi : i < n) : F_332 (pt ps i 0) (pt ps i 1) g = some (vk g0 ps i, g) := by
  show F_332_0 (pt ps i 0) (pt ps i 1) g = _
  unfold F_332_0 vk F_332_27
  refine L.c hi (show 1 < 4 by omega) (fun z => ?_) (fun y y1 y2 y3 y4 => ?_)
  · rw [if_pos z, if_neg (not_not_intro (show at0 ps (4 * i + 1) = -1 from z))]
    refine L.c hi (show 0 < 4 by omega) (fun e0 => ?_) (fun y y1 y2 y3 y4 => ?_)
    · rw [if_neg (not_not_intro (show at0 ps (4 * i) = -1 from e0)), if_pos e0]
    · rw [if_pos (show at0 ps (4 * i) ≠ -1 from y4), show tn (at0 ps (4 * i)) = y from y3, if_neg y4, y2, F.rs y1]; rfl
  · rw [if_neg y4, if_pos (show at0 ps (4 * i + 1) ≠ -1 from y4), show tn (at0 ps (4 * i + 1)) = y from y3, y2, F.rs y1]; rfl
theorem go_20 (F : Fr d fuel s0 x vp vs h0 g0 h g p s) (c62 : g.1 67 62 = I3 0) {st : Int32} (c104 : g.1 104 d = st) (e : st = 20 ∨ st = 21 ∨ st = 22) : F_377 g = F_376 (I3 d) (I3 x) (sm_wI g 67 63 0) := by
  show F_377_0 g = _
  unfold F_377_0
  simp only [obs]
  rw [F.c56, show I3 (d + 1) - 1 = I3 d from I3_sub (a := d + 1) (b := 1) (by omega), F.l103]; simp only [obs]
  rw [F.l105]; simp only [obs]
  rw [F.l305]; simp only [obs]
  rw [F.l77]; simp only [obs]
  rw [F.l81]; simp only [obs]
  rw [F.l81']; simp only [obs]
  rw [if_pos (show (sm_wI g 67 63 0).1 67 62 = 0 from c62), ldI_I F.d1 (by decide), show (sm_wI g 67 63 0).1 104 d = g.1 104 d from rfl, c104]; simp only [obs]
  rcases e with rfl | rfl | rfl
  · simp (decide := true) only [if_true, if_false]
    show (F_376 (I3 d) (I3 x) (sm_wI g 67 63 0)).bind some = _
    cases F_376 (I3 d) (I3 x) (sm_wI g 67 63 0) <;> rfl
  · simp (decide := true) only [if_true, if_false]
    show (F_376 (I3 d) (I3 x) (sm_wI g 67 63 0)).bind some = _
    cases F_376 (I3 d) (I3 x) (sm_wI g 67 63 0) <;> rfl
  · simp (decide := true) only [if_true, if_false]
    show (F_376 (I3 d) (I3 x) (sm_wI g 67 63 0)).bind some = _
    cases F_376 (I3 d) (I3 x) (sm_wI g 67 63 0) <;> rfl
end
