abbrev SNf (t b j : Nat) : Prop := (b = 67 ∧ (j = 45 ∨ j = 48 ∨ j = 49)) ∨ (b = 96 ∧ j = t) ∨ (b = 97 ∧ j = t) ∨ ((b = 98 ∨ b = 99) ∧ 100 * t ≤ j ∧ j < 100 * t + 100)
abbrev SNr (t b j : Nat) : Prop := (b = 67 ∧ j = 45) ∨ (b = 96 ∧ j = t) ∨ (b = 97 ∧ j = t) ∨ ((b = 98 ∨ b = 99) ∧ 100 * t ≤ j ∧ j < 100 * t + 100)
theorem agr_48 {S : Nat → Nat → Prop} {g g2 : sm_H} {u : Int32} {v : Int64} (A : agr S (sm_wJ (sm_wI g 67 48 u) 67 49 v) g2) (u' : Int32) (v' : Int64) : agr S (sm_wJ (sm_wI g 67 48 u') 67 49 v') (sm_wJ (sm_wI g2 67 48 u') 67 49 v') := by
  refine ⟨fun c j n => ?_, fun c j n => ?_, fun c j n => A.2.2.1 c j n, A.2.2.2⟩
  · have z := A.1 c j n
    rw [show (sm_wJ (sm_wI g 67 48 u) 67 49 v).1 = (sm_wI g 67 48 u).1 from rfl, wI_rd] at z
    show (sm_wI g2 67 48 u').1 c j = (sm_wI g 67 48 u').1 c j
    rw [wI_rd, wI_rd]
    by_cases q : c = 67 ∧ j = 48
    · rw [if_pos q, if_pos q]
    · rw [if_neg q] at z; rw [if_neg q, if_neg q]; exact z
  · have z := A.2.1 c j n
    rw [wJ_rd] at z
    rw [wJ_rd, wJ_rd]
    by_cases q : c = 67 ∧ j = 49
    · rw [if_pos q, if_pos q]
    · rw [if_neg q] at z; rw [if_neg q, if_neg q]; exact z
theorem agr_48' {S : Nat → Nat → Prop} {g g2 : sm_H} (A : agr S g g2) : agr S (sm_wJ (sm_wI g 67 48 (g.1 67 48)) 67 49 (g.2.1 67 49)) g2 := by
  refine ⟨fun c j n => ?_, fun c j n => ?_, fun c j n => A.2.2.1 c j n, A.2.2.2⟩
  · show _ = (sm_wI g 67 48 (g.1 67 48)).1 c j
    rw [wI_rd]
    by_cases q : c = 67 ∧ j = 48
    · obtain ⟨rfl, rfl⟩ := q; rw [if_pos ⟨rfl, rfl⟩]; exact A.1 67 48 n
    · rw [if_neg q]; exact A.1 c j n
  · rw [wJ_rd]
    by_cases q : c = 67 ∧ j = 49
    · obtain ⟨rfl, rfl⟩ := q; rw [if_pos ⟨rfl, rfl⟩]; exact A.2.1 67 49 n
    · rw [if_neg q]; exact A.2.1 c j n
abbrev Fdl (g g2 : sm_H) (t k sz j : Nat) : Prop := (agr (SNf t) g g2) ∧ (∃ u v, agr (SNr t) (sm_wJ (sm_wI g 67 48 u) 67 49 v) g2) ∧ (g2.1 67 45 = I3 (t + 1)) ∧ (g2.1 96 t = I3 k) ∧ (g2.1 97 t = I3 sz) ∧ (∀ i, i < 100 → tag (g2.1 98 (100 * t + i)) = 0 ∧ g2.2.1 99 (100 * t + i) = 0) ∧ (∀ n, n < j → g.1 87 n = 1 → g.1 86 n = 0 → g2.1 98 (100 * t + tn (g.1 91 n)) = zk (g.1 88 n)) ∧ (∀ i, nS g ≤ i → i < 100 → g2.1 98 (100 * t + i) = 0)
theorem Fdl.a {g g2 : sm_H} {t k sz j : Nat} (F_ : Fdl g g2 t k sz j) : agr (SNf t) g g2 := F_.1
theorem Fdl.b {g g2 : sm_H} {t k sz j : Nat} (F_ : Fdl g g2 t k sz j) : ∃ u v, agr (SNr t) (sm_wJ (sm_wI g 67 48 u) 67 49 v) g2 := F_.2.1
theorem Fdl.e45 {g g2 : sm_H} {t k sz j : Nat} (F_ : Fdl g g2 t k sz j) : g2.1 67 45 = I3 (t + 1) := F_.2.2.1
theorem Fdl.e96 {g g2 : sm_H} {t k sz j : Nat} (F_ : Fdl g g2 t k sz j) : g2.1 96 t = I3 k := F_.2.2.2.1
theorem Fdl.e97 {g g2 : sm_H} {t k sz j : Nat} (F_ : Fdl g g2 t k sz j) : g2.1 97 t = I3 sz := F_.2.2.2.2.1
theorem Fdl.z {g g2 : sm_H} {t k sz j : Nat} (F_ : Fdl g g2 t k sz j) : ∀ i, i < 100 → tag (g2.1 98 (100 * t + i)) = 0 ∧ g2.2.1 99 (100 * t + i) = 0 := F_.2.2.2.2.2.1
theorem Fdl.f {g g2 : sm_H} {t k sz j : Nat} (F_ : Fdl g g2 t k sz j) : ∀ n, n < j → g.1 87 n = 1 → g.1 86 n = 0 → g2.1 98 (100 * t + tn (g.1 91 n)) = zk (g.1 88 n) := F_.2.2.2.2.2.2.1
theorem Fdl.o {g g2 : sm_H} {t k sz j : Nat} (F_ : Fdl g g2 t k sz j) : ∀ i, nS g ≤ i → i < 100 → g2.1 98 (100 * t + i) = 0 := F_.2.2.2.2.2.2.2
theorem tag_0 : tag 0 = 0 := by decide
theorem R_fields {h g g1 : sm_H} (K : K1 h g) {k sz : Nat} (x1 : nX g < 1000) (N : NwR g g1 (nX g) k sz) (same : ∀ j, g1.1 98 j = g.1 98 j ∧ g1.2.1 99 j = g.2.1 99 j) (a b : Int32) : ∃ g2, F_369_34 a b (I3 (nX g)) 0 g1 = lp F_369_34B (1000000 - nM g) (a, b, I3 (nX g), I3 (nM g), g2) ∧ Fdl g g2 (nX g) k sz (nM g) := by
  have wM := K.2.2.2.2.2.2.1
  have m100 : nM g ≤ 100 := wM.1.2
  have s24 : nS g ≤ 24 := wM.2.1.2
  have cXq := K.2.2.2.2.2.2.2.2.2.2.2.2.1
  have h12 := K.1.2.1
  have z0 : ∀ i, i < 100 → g.1 98 (100 * nX g + i) = 0 ∧ g.2.1 99 (100 * nX g + i) = 0 := fun i hi => cXq.2.2.1 (nX g) i (Nat.le_refl _) x1 hi
  have sl := cXq.2.2.2.2.2
  have fs := fun m hm => fslot K (m := m) hm
  generalize ht : nX g = t at *
  have key : ∀ j, j ≤ nM g → ∃ g2, F_369_34 a b (I3 t) 0 g1 = lp F_369_34B (1000000 - j) (a, b, I3 t, I3 j, g2) ∧ Fdl g g2 t k sz j := by
    intro j
    induction j with
    | zero =>
      intro _
      refine ⟨g1, rfl, agr_mono (fun b j z => by unfold SNf; omega) N.a, ⟨_, _, agr_48' N.a⟩, N.e45, N.e96, N.e97, fun i hi => ?_, fun n hn => by omega, fun i _ hi => ?_⟩
      · rw [(same _).1, (same _).2, (z0 i hi).1, (z0 i hi).2]; exact ⟨tag_0, rfl⟩
      · rw [(same _).1, (z0 i hi).1]
    | succ j ih =>
      intro hj
      obtain ⟨g2, e, D⟩ := ih (by omega)
      have r32 : g2.1 67 32 = I3 (nM g) := (D.a.1 67 32 (by unfold SNf; omega)).trans wM.1.1
      have r87 : g2.1 87 j = g.1 87 j := D.a.1 87 j (by unfold SNf; omega)
      have r86 : g2.1 86 j = g.1 86 j := D.a.1 86 j (by unfold SNf; omega)
      have skip : (g.1 87 j = 1 → g.1 86 j = 0 → False) → F_369_34B (a, b, I3 t, I3 j, g2) = F_369_119 a b (I3 t) (I3 j) g2 → ∃ g2, F_369_34 a b (I3 t) 0 g1 = lp F_369_34B (1000000 - (j + 1)) (a, b, I3 t, I3 (j + 1), g2) ∧ Fdl g g2 t k sz (j + 1) := fun no eb => by
        refine ⟨g2, ?_, D.a, D.b, D.e45, D.e96, D.e97, D.z, fun n hn n1 n2 => ?_, D.o⟩
        · rw [e, lp_s (n := 1000000 - j) (s' := (a, b, I3 t, I3 (j + 1), g2)) (by omega) ?_]
          · rw [show 1000000 - j - 1 = 1000000 - (j + 1) by omega]
          · rw [eb]
            unfold F_369_119
            simp only [obs]
            rw [show I3 j + 1 = I3 (j + 1) from I3_add j 1]
        · by_cases q : n = j
          · subst q; exact absurd n2 (fun z => no n1 z)
          · exact D.f n (by omega) n1 n2
      rcases (wM.2.2 j (by omega)).2.2.2.2 with ⟨w1, w2, w3, w4⟩ | ⟨w1, -⟩
      · obtain ⟨bb, wb⟩ := (wM.2.2 j (by omega)).2.2.2.1
        cases bb with
        | true =>
          refine skip (fun _ z => by rw [wb] at z; exact absurd z (by decide)) ?_
          unfold F_369_34B
          rw [r32, if_neg (by rw [I3_le (by omega) (by omega)]; omega), ldZ_I (by omega) (by decide), r87, w1]; simp only [obs]
          rw [if_neg (by decide), ldZ_I (by omega) (by decide), r86, wb]; simp only [obs]
          rw [if_neg (by decide)]
        | false =>
          obtain ⟨s, s1, -, s2⟩ := fs j (by omega) w1 wb
          have es : tn (g.1 91 j) = s := by rw [s2, tnI (by omega)]
          have e88 : g.1 88 j = I3 (tn (g.1 88 j)) := w2.1
          have l88 : tn (g.1 88 j) ≤ 19 + nC g := w2.2
          generalize hq : tn (g.1 88 j) = q at *
          refine ⟨sm_wJ (sm_wI (sm_wJ (sm_wI g2 67 48 (zk (I3 q))) 67 49 0) 98 (100 * t + s) (zk (I3 q))) 99 (100 * t + s) 0, ?_, ?_, ?_, D.e45, D.e96, D.e97, fun i hi => ?_, fun n hn n1 n2 => ?_, fun i i1 i2 => ?_⟩
          · rw [e, lp_s (n := 1000000 - j) (s' := (a, b, I3 t, I3 (j + 1), sm_wJ (sm_wI (sm_wJ (sm_wI g2 67 48 (zk (I3 q))) 67 49 0) 98 (100 * t + s) (zk (I3 q))) 99 (100 * t + s) 0)) (by omega) ?_]
            · rw [show 1000000 - j - 1 = 1000000 - (j + 1) by omega]
            · unfold F_369_34B F_369_119
              rw [r32, if_neg (by rw [I3_le (by omega) (by omega)]; omega), ldZ_I (by omega) (by decide), r87, w1]; simp only [obs]
              rw [if_neg (by decide), ldZ_I (by omega) (by decide), r86, wb]; simp only [obs]
              rw [if_pos (by decide), ldI_I (by omega) (by decide), D.a.1 88 j (by unfold SNf; omega), e88]; simp only [obs]
              rw [R_zero (by omega)]; simp only [obs]
              rw [ldI_I (by omega) (by decide), show (sm_wJ (sm_wI g2 67 48 (zk (I3 q))) 67 49 0).1 91 j = g2.1 91 j from rfl, D.a.1 91 j (by unfold SNf; omega), s2]; simp only [obs]
              rw [show (100 : Int32) * I3 t + I3 s = I3 (100 * t + s) by rw [I3_lit, I3_mul, I3_add], show (sm_wJ (sm_wI g2 67 48 (zk (I3 q))) 67 49 0).1 67 48 = zk (I3 q) from rfl, stI_I (by omega) (by decide)]; simp only [obs]
              rw [ldI_I (by omega) (by decide), show (sm_wI (sm_wJ (sm_wI g2 67 48 (zk (I3 q))) 67 49 0) 98 (100 * t + s) (zk (I3 q))).1 91 j = g2.1 91 j from rfl, D.a.1 91 j (by unfold SNf; omega), s2]; simp only [obs]
              rw [show (100 : Int32) * I3 t + I3 s = I3 (100 * t + s) by rw [I3_lit, I3_mul, I3_add], show (sm_wI (sm_wJ (sm_wI g2 67 48 (zk (I3 q))) 67 49 0) 98 (100 * t + s) (zk (I3 q))).2.1 67 49 = 0 from rfl, stJ_I (by omega) (by decide)]; simp only [obs]
              rw [show I3 j + 1 = I3 (j + 1) from I3_add j 1]
          · exact agr_wJ (agr_wI (agr_wJ (agr_wI D.a (by unfold SNf; omega)) (by unfold SNf; omega)) (by unfold SNf; omega)) (by unfold SNf; omega)
          · obtain ⟨u, v, A⟩ := D.b
            exact ⟨_, _, agr_wJ (agr_wI (agr_48 A (zk (I3 q)) 0) (by unfold SNr; omega)) (by unfold SNr; omega)⟩
          · show tag (if 100 * t + i = 100 * t + s then zk (I3 q) else g2.1 98 (100 * t + i)) = 0 ∧ (if 100 * t + i = 100 * t + s then 0 else g2.2.1 99 (100 * t + i)) = 0
            by_cases c : 100 * t + i = 100 * t + s
            · rw [if_pos c, if_pos c]; exact ⟨tag_zk _, rfl⟩
            · rw [if_neg c, if_neg c]; exact D.z i hi
          · show (if 100 * t + tn (g.1 91 n) = 100 * t + s then zk (I3 q) else g2.1 98 (100 * t + tn (g.1 91 n))) = zk (g.1 88 n)
            by_cases c : n = j
            · rw [c, es, if_pos rfl, e88]
            · obtain ⟨s', s1', -, s2'⟩ := fs n (by omega) n1 n2
              have es' : tn (g.1 91 n) = s' := by rw [s2', tnI (by omega)]
              rw [if_neg (fun z => by
                have : s' = s := by omega
                exact sl n j (by omega) (by omega) n1 n2 w1 wb (by rw [s2', s2, this]))]
              exact D.f n (by omega) n1 n2
          · show (if 100 * t + i = 100 * t + s then zk (I3 q) else g2.1 98 (100 * t + i)) = 0
            rw [if_neg (by omega)]; exact D.o i i1 i2
      · refine skip (fun z _ => by rw [w1] at z; exact absurd z (by decide)) ?_
        unfold F_369_34B
        rw [r32, if_neg (by rw [I3_le (by omega) (by omega)]; omega), ldZ_I (by omega) (by decide), r87, w1]; simp only [obs]
        rw [if_pos trivial]
  exact key (nM g) (Nat.le_refl _)
theorem Fdl.nw {g g2 : sm_H} {t k sz j : Nat} (D : Fdl g g2 t k sz j) : ∃ u v, NwR (sm_wJ (sm_wI g 67 48 u) 67 49 v) g2 t k sz := by
  obtain ⟨u, v, A⟩ := D.b
  exact ⟨u, v, A, D.e45, D.e96, D.e97⟩
theorem go_14 {d fuel s0 x vp p s t : Nat} {vs : List Val} {h0 g0 h g : sm_H} (F : Fr d fuel s0 x vp vs h0 g0 h g p s) (c62 : g.1 67 62 = I3 0) (c104 : g.1 104 d = 14) (c106 : g.1 106 d = I3 t) (t1 : t < 1000) : F_377 g = F_345 (g.1 96 t) (I6 t) (sm_wI g 67 63 0) := by
  have d1 := F.d1
  show F_377_0 g = _
  unfold F_377_0
  simp only [obs]
  rw [F.c56, show I3 (d + 1) - 1 = I3 d from I3_sub (a := d + 1) (b := 1) (by omega), F.l103]; simp only [obs]
  rw [F.l105]; simp only [obs]
  rw [F.l305]; simp only [obs]
  rw [F.l77]; simp only [obs]
  rw [F.l81]; simp only [obs]
  rw [F.l81']; simp only [obs]
  rw [if_pos (show (sm_wI g 67 63 0).1 67 62 = 0 from c62), ldI_I F.d1 (by decide), show (sm_wI g 67 63 0).1 104 d = g.1 104 d from rfl, c104]; simp only [obs]
  rw [if_neg (by decide), if_neg (by decide), if_pos trivial, ldI_I F.d1 (by decide), show (sm_wI g 67 63 0).1 106 d = g.1 106 d from rfl, c106]; simp only [obs]
  rw [ldI_I t1 (by decide), I3_64 (by omega)]; simp only [obs]
  rw [bind_id1]; rfl
theorem Fr.wf2 {d fuel s0 x vp p s : Nat} {vs : List Val} {h0 g0 h g : sm_H} (F : Fr d fuel s0 x vp vs h0 g0 h g p s) {m : Nat} (hm : m < nM g0) (m87 : g0.1 87 m = 0) : CHandleHouseLaw_law_r9294_ac1f8b.rs g0 (tn (g0.1 89 m)) = hrs g0 (tn (g0.1 90 m)) ∧ (hpl g0 (tn (g0.1 90 m)) = if g0.1 86 m = 0 then g0.1 83 m :: pl g0 (tn (g0.1 89 m)) else pl g0 (tn (g0.1 89 m))) := by
  have wF := F.m.k.2.2.2.2.2.2.2.2.2.2.2.2.2.2
  rw [wfF_0] at wF
  have c := fun b j h1 h2 => (m_c F.ar (b := b) (j := j) h1 h2).1
  have z := wF.2 m (by rw [m_nM F.ar]; exact hm) (by rw [c 87 m (by decide) (by decide)]; exact m87)
  rw [c 89 m (by decide) (by decide), c 90 m (by decide) (by decide), c 86 m (by decide) (by decide), c 83 m (by decide) (by decide), m_rs F.ar, m_hrs F.ar, m_hpl F.ar, m_pl F.ar] at z
  exact z
theorem run_38 {rec : Int32 → Int32 → sm_H → Option (Int32 × sm_H)} {d fuel s x vp : Nat} {vs : List Val} {h0 g0 h g : sm_H} (IH : CallOK (d + 1) rec) (F : Fr d fuel s x vp vs h0 g0 h g 0 (s + 1)) (c63 : g.1 67 63 = 0) (c59 : g.1 67 59 = I3 (vp + vs.length)) (eh : sm_wI h0 49 8 (h0.1 49 8 + 1) = h) (lf : h0.1 49 8 < h0.1 49 7) (f : fm g0 x = 38) : Ends d fuel s vp (tn (hrs g0 x)) h0 g0 0 (F_82R rec (I3 x) (I3 d) h0) g := by
  have d1 := F.d1
  have v10 := F.v10
  have x500 := F.x500
  have vl := F.vl
  have vx := F.vx
  have fs := F.fs0
  rw [f] at fs
  have C := B82_38 (rec := rec) (x1 := I3 x) (x2 := I3 d) (by rw [I3_lit, I3_lt (by omega) (by decide)]; omega) lf eh (f ▸ F.f37)
  rw [C]
  have R := B370_38 F.c56 F.l103 F.l105 F.l305 F.l77 F.l78 F.l81 F.l81' (f ▸ F.l75)
  obtain ⟨ep, m, m1, ea, ⟨m87, m86, m84, mr⟩, er, el⟩ := FS_38 fs
  have K := F.m.k
  have h12 := K.1.2.1
  have x1000 := nX_1000 K
  have wX := K.2.2.2.2.2.2.2.2.2.2.2.1
  have cXq := K.2.2.2.2.2.2.2.2.2.2.2.2.1
  have cXhq := K.2.2.2.2.2.2.2.2.2.2.2.2.2.1
  have wM := K.2.2.2.2.2.2.1
  have cMq := K.2.2.2.2.2.2.2.1
  have m100 : nM g ≤ 100 := wM.1.2
  have s24 : nS g ≤ 24 := wM.2.1.2
  have m1' : m < nM g := by rw [m_nM F.ar]; exact m1
  have cc := fun b j h1 h2 => (m_c F.ar (b := b) (j := j) h1 h2).1
  have e87 : g.1 87 m = 0 := by rw [cc 87 m (by decide) (by decide)]; exact m87
  obtain ⟨wr, wp⟩ := F.wf2 m1 m87
  rw [if_pos m86] at wp
  obtain ⟨y, y1, y90⟩ : ∃ y, y < nH g0 ∧ g.1 90 m = I3 y := by
    rcases (wM.2.2 m m1').2.2.2.2 with z | z
    · rw [z.1] at e87; exact absurd e87 (by decide)
    · obtain ⟨a, a1, a2⟩ := z.2.1; rw [m_nH F.ar] at a1; exact ⟨a, a1, a2⟩
  have w500 : nH g ≤ 500 := K.2.2.2.2.1.1.2
  rw [show g0.1 90 m = I3 y by rw [← cc 90 m (by decide) (by decide)]; exact y90, tnI (by rw [m_nH F.ar] at w500; omega)] at wr wp
  obtain ⟨c, c1, c83⟩ := (wM.2.2 m m1').1
  have e83 : g0.1 83 m = I3 (20 + c) := by rw [← cc 83 m (by decide) (by decide)]; exact c83
  have v10 := F.v10
  have ny := F.n10 y1
  have ly : (hpl g0 y).length = vs.length + 1 := by rw [wp, vx, el]; rfl
  have C0 : F_101 rec (I3 x) (I3 d) h = F_101_0 rec (I3 x) (I3 d) h := rfl
  unfold F_101_0 F_101_111 at C0
  rw [F.f38, ea] at C0; simp only [obs] at C0
  rw [C_hand wM cMq m1' e87, y90] at C0; simp only [obs] at C0
  rw [bind_id1, ea, show F_369 (I3 m) g = F_369_0 (I3 m) g from rfl] at R
  unfold F_369_0 at R
  by_cases q2 : nX g < 1000
  · obtain ⟨h1, a1, N1, z1⟩ := C_new1 (h := h) (t := nX g) (sz := 24) q2 (by decide) (cXq.1.trans wX.1.1) cXhq.1
    obtain ⟨b0, -⟩ := R_new (k := 20 + c) (sz := 0) wX.1 q2 (by decide)
    obtain ⟨-, g1, b1, N2, z2⟩ := R_new (k := 20 + c) (sz := nS g) wX.1 q2 (by omega)
    rw [show F_146 24 h = _ from a1] at C0; simp only [obs] at C0
    rw [if_neg (I3_m1 (by omega))] at C0
    rw [show F_357 0 g = _ from b0] at R; simp only [obs] at R
    rw [if_pos trivial, F.c56, show I3 (d + 1) - 1 = I3 d from I3_sub (a := d + 1) (b := 1) (by omega), ldI_I (by omega) (by decide), c83] at R; simp only [obs] at R
    rw [show g.1 67 33 = I3 (nS g) from wM.2.1.1, b1] at R; simp only [obs] at R
    obtain ⟨g2, f1, D⟩ := R_fields K q2 N2 z2 (I3 m) (I3 d)
    obtain ⟨ua, vb, N3⟩ := D.nw
    have F1 := Fr_48' F ua vb
    have es : 24 = if 20 + c < 20 then nS g else 24 := by rw [if_neg (by omega)]
    obtain ⟨K', w1, w2, w3, w4⟩ := T_new F1.m.k q2 (show 15 ≤ 20 + c by omega) (by show 20 + c < 20 + nC g; omega) (show 24 ≤ 100 by decide) (show nS g ≤ 100 by omega) N1 N3 es (fun i hi => by
      show h1.2.1 (132 + 3 * nX g) i = g2.2.1 99 (100 * nX g + i) ∧ h1.1 (133 + 3 * nX g) i = tag (g2.1 98 (100 * nX g + i))
      rw [(z1 i).1, (z1 i).2, (D.z i (by omega)).1, (D.z i (by omega)).2]; exact ⟨rfl, rfl⟩) (Or.inr ⟨by omega, fun m' hm' e1 e2 => by
        show okV (sm_wJ (sm_wI g 67 48 ua) 67 49 vb) (tn (g.1 88 m')) (g2.1 98 (100 * nX g + tn (g.1 91 m'))) (g2.2.1 99 (100 * nX g + tn (g.1 91 m')))
        have e1 : g.1 87 m' = 1 := e1
        obtain ⟨s, s1, -, s2⟩ := fslot K hm' e1 e2
        have z := D.f m' hm' e1 e2
        have e88 : cnt (g.1 88 m') (19 + nC g) := by
          rcases (wM.2.2 m' hm').2.2.2.2 with z | z
          · exact z.2.1
          · rw [show g.1 87 m' = 0 from z.1] at e1; exact absurd e1 (by decide)
        have l88 := e88.2
        rw [z, (D.z (tn (g.1 91 m')) (by rw [s2, tnI (by omega)]; omega)).2, e88.1, tnI (by omega)]
        exact okV_zk (by omega), fun i i1 i2 => ⟨D.o i i1 (by omega), (D.z i (by omega)).2⟩⟩)
    have w4 : nX g2 = nX g + 1 := w4
    have F2 := Fr_th F1 K' w1 w2 w3
    have nC2 : nC g2 = nC g := by show tn _ = tn _; rw [w2.1 67 6 (by unfold SRx; omega)]; rfl
    generalize ht : nX g = t at *
    have okt : okV g2 (20 + c) (I3 (20 + c)) (I6 t) := okV_new K' (by omega) (by omega) (Or.inr (by omega)) (by omega) D.e96
    have a106 : agr (SG d (vp + vs.length)) g2 (sm_wI g2 106 d (I3 t)) := agr_wI agr_rfl (by unfold SG; omega)
    have F3 := Fr_g F2 a106
    have c59' : (sm_wI g2 106 d (I3 t)).1 67 59 = I3 (vp + vs.length) := (w2.1 67 59 (by unfold SRx; omega)).trans c59
    obtain ⟨h2, l1, L1⟩ := C_lay1 (Ly_0 h1 (d + 1)) (by omega) (by simp only [List.length_nil]; omega) (I3 (20 + c), I6 t)
    obtain ⟨h3, l2, L2⟩ := C_lend (i := 0) (n := vs.length) L1 F3.fr d1 (by omega) (by omega) (by simp only [List.nil_append, List.length_cons, List.length_nil]; omega)
    obtain ⟨g3, p1, P1⟩ := R_push (Ph_0 c59') (by simp only [List.length_nil]; omega) (I3 (20 + c), I6 t)
    obtain ⟨g4, p2, P2⟩ := R_copy (i := 0) (n := vs.length) P1 F3.st (Nat.le_refl _) (by omega) (by simp only [List.nil_append, List.length_cons, List.length_nil]; omega)
    rw [sub_all] at L2 P2
    rw [tag_I (by omega) (by omega)] at l1
    have tw : tyV (sm_wI g2 106 d (I3 t)) (hpl g0 y) ([] ++ [(I3 (20 + c), I6 t)] ++ vs) := by
      have z := tyV_app (tyV_1 (g := g2) (k := I3 (20 + c)) (v := (I3 (20 + c), I6 t)) (by rw [tnI (by omega)]; exact okt)) F2.ty
      rw [wp, e83, ← el]; exact z
    have M : ∃ u, F_350 (I3 y) 14 g4 = some u ∧ Ends d fuel s vp (20 + c) h0 g0 (0 + 1) ((rec (I3 y) (I3 (d + 1)) h3).bind fun q8 => if q8.1 = 0 then ((F_132 (I3 m) q8.2).bind fun q9 => (F_75 (Int32.toInt64 (I3 t)) q9.1 q9.2).bind fun q10 => some (q10.1, q10.2)) else some (q8.1, q8.2)) u := by
      refine midG IH F3 14 y1 (Nat.le_refl _) (by omega) L2 P2 tw (rk := 20 + c) (k := fun q8 => if q8.1 = 0 then ((F_132 (I3 m) q8.2).bind fun q9 => (F_75 (Int32.toInt64 (I3 t)) q9.1 q9.2).bind fun q10 => some (q10.1, q10.2)) else some (q8.1, q8.2)) (fun o h1 o1 o2 => if_neg (I3_ne0 (by omega) o2)) (fun out h5 g5 p5 s5 o1 G t59 t63 t62 t104 r kp gw => ?_)
      rcases (show out = 0 ∨ out = 1 by omega) with rfl | rfl
      · have G' := Fr_63 G
        have r106 : g5.1 106 d = I3 t := by
          rw [kp.1 106 d (by decide) (by decide) (by omega)]
          show (sm_wI g4 104 d 14).1 106 d = _
          rw [wI_rd, if_neg (by omega), P2.a.1 106 d (by unfold SP; omega), wI_rd, if_pos ⟨rfl, rfl⟩]
        have g3x : grow g2 g5 := grow_trans (grow_N (agr_mono (SG_N _ _) a106)) (grow_trans (grow_N (agr_mono (fun b j z => by unfold SP at z; unfold SN; omega) P2.a)) (grow_trans (grow_N (agr_wI agr_rfl (by unfold SN; omega))) gw))
        have ok5 : okV g5 (20 + c) (I3 (20 + c)) (I6 t) := okV_grow K'.1 g3x okt
        have e96 : g5.1 96 t = I3 (20 + c) := by rw [g3x.2.2.2.1 t (by omega)]; exact D.e96
        have m5 : m < nM g5 := by rw [m_nM G.ar]; exact m1
        have e83' : g5.1 83 m = I3 (20 + c) := by rw [(m_c G.ar (show 70 ≤ 83 by decide) (by decide)).1]; exact e83
        obtain ⟨u, h', v1, v2, v3⟩ := Fr_give (rk := 20 + c) G' (I3 (20 + c)) (I6 t) ok5
        rw [tag_I (by omega) (by omega)] at v2
        have CC : (if (I3 0 : Int32) = 0 then ((F_132 (I3 m) h5).bind fun q9 => (F_75 (Int32.toInt64 (I3 t)) q9.1 q9.2).bind fun q10 => some (q10.1, q10.2)) else some (I3 0, h5)) = some (0, h') := by
          rw [if_pos (by decide), C_owner G.m.k.2.2.2.2.2.2.1 G.m.k.2.2.2.2.2.2.2.1 m5, e83']; simp only [obs]
          rw [I3_64 (by omega), v2]; simp only [obs]
        show Ends d fuel s vp (20 + c) h0 g0 p5 (if (I3 0 : Int32) = 0 then _ else _) g5
        rw [CC]
        refine Ends_step (step_goOn (by omega) G.c64 G.c56 t63 ?_) v3
        rw [go_14 G t62 t104 r106 (by omega), e96]; exact v1
      · show Ends d fuel s vp (20 + c) h0 g0 p5 (if (I3 1 : Int32) = 0 then _ else _) g5
        rw [if_neg (by decide)]
        exact thru G (Nat.le_refl 1) t63 t62 ⟨r.1, r.2.1, fun z => by (cases z), r.2.2.2⟩ (fun z => by cases z) (fun _ => Or.inl (by rw [t104]; decide))
    obtain ⟨u, u1, u2⟩ := M
    have Cfin : F_101 rec (I3 x) (I3 d) h = (rec (I3 y) (I3 (d + 1)) h3).bind fun q8 => if q8.1 = 0 then ((F_132 (I3 m) q8.2).bind fun q9 => (F_75 (Int32.toInt64 (I3 t)) q9.1 q9.2).bind fun q10 => some (q10.1, q10.2)) else some (q8.1, q8.2) := by
      rw [C0, C_owner K'.2.2.2.2.2.2.1 K'.2.2.2.2.2.2.2.1 (show m < nM g2 by rw [m_nM F2.ar]; exact m1), show g2.1 83 m = I3 (20 + c) by rw [(m_c F2.ar (show 70 ≤ 83 by decide) (by decide)).1]; exact e83]; simp only [obs]
      rw [show I3 d + 1 = I3 (d + 1) from I3_add d 1, I3_64 (by omega), show F_79 (I3 (d + 1)) 0 (I6 t) (I3 (20 + c)) h1 = some h2 from l1]; simp only [obs]
      rw [(Fr_Ly F3 L1).cmn y1, ly]; simp only [obs]
      rw [show I3 (vs.length + 1) - 1 = I3 vs.length from I3_sub (a := vs.length + 1) (b := 1) (by omega), show F_80 (I3 d) 0 1 (I3 vs.length) h2 = some h3 from l2]; simp only [obs]
    rw [bind_id, Cfin, er, e83, tnI (by omega)]
    refine Ends_step (step_enter (by omega) F.c64 F.c56 c63 ?_) u2
    rw [R, f1]
    refine lp_e (by omega) ?_
    unfold F_369_34B
    rw [show g2.1 67 32 = I3 (nM g) from (D.a.1 67 32 (by unfold SNf; omega)).trans wM.1.1, if_pos (by rw [I3_le (by omega) (by omega)]; omega), stI_I d1 (by decide)]; simp only [obs]
    rw [ldI_I (by omega) (by decide), show (sm_wI g2 106 d (I3 t)).1 83 m = g2.1 83 m from rfl, (m_c F2.ar (show 70 ≤ 83 by decide) (by decide)).1, e83]; simp only [obs]
    rw [I3_64 (by omega), show F_342 (I3 (20 + c)) (I6 t) (sm_wI g2 106 d (I3 t)) = some g3 from p1]; simp only [obs]
    have F4 := Fr_Ph F3 (Nat.le_refl _) P1
    rw [F4.l105]; simp only [obs]
    rw [F4.l103]; simp only [obs]
    rw [F4.l305]; simp only [obs]
    rw [I3_add, show F_343 (I3 vp) (I3 (vp + vs.length)) g3 = some g4 from p2]; simp only [obs]
    rw [ldI_I (by omega) (by decide), (m_c (Fr_Ph F3 (Nat.le_refl _) P2).ar (show 70 ≤ 90 by decide) (by decide)).1, ← (m_c F.ar (show 70 ≤ 90 by decide) (by decide)).1, y90]; simp only [obs]
    rw [u1]; simp only [obs]
  · have q3 : nX g = 1000 := by omega
    rw [show F_146 24 h = some (-1, h) from C_new0 (sz := 24) (by decide) (by rw [cXq.1, wX.1.1]; show I3 (nX g) = _; rw [q3])] at C0; simp only [obs] at C0
    rw [show F_357 0 g = _ from R_new0 (sz := 0) wX.1 q3] at R; simp only [obs] at R
    rw [if_pos trivial] at C0
    rw [if_neg (by decide)] at R
    rw [bind_id, C0]
    exact Ends_step (step_enter (by omega) F.c64 F.c56 c63 R) (Fr_full F)
