theorem FS_5 {g : sm_H} {a b : Int32} {c : Int64} {ps l : List Int32} {r : Int32} (h : FS g 5 a b c ps r l) : ∃ p t, p < nH g ∧ t < nT g ∧ b = I3 t ∧ r = hrs g p ∧ r = rs g t ∧ l = pl g t ∧ ps.length = 1 + (hpl g p).length ∧ at0 ps 0 = I3 p ∧ ∀ k, k < (hpl g p).length → ∃ j, j < l.length ∧ at0 ps (1 + k) = I3 j ∧ at0 l j = at0 (hpl g p) k := by
  unfold FS at h
  simp only [Nat.reduceEqDiff, Nat.reduceLeDiff, reduceCtorEq, false_and, false_or, or_false, true_and] at h
  exact h
theorem stI36 {h : sm_H} {k : Nat} {x : Int32} (hk : k < 20) : sm_stI G0 h 36 (I3 k) x = some (sm_wI h 36 k x) := by
  show (if sm_in (I3 k) 20 then some (sm_wI h 36 (I3 k).toNatClampNeg x) else none) = _
  rw [if_pos (sm_in_I3 hk (by decide)), I3_clamp (by omega)]
abbrev S35 (b j : Nat) : Prop := b = 35 ∧ j = 1 ∨ b = 36
theorem C_app35 {h : sm_H} {ps : List Int32} (r : hasL h 35 36 ps) (hl : ps.length < 20) (x : Int32) : ∃ h1, F_139 35 x h = some (1, h1) ∧ hasL h1 35 36 (ps ++ [x]) ∧ agr S35 h h1 := by
  refine ⟨sm_wI (sm_wI h 36 ps.length x) 35 1 (I3 (ps.length + 1)), ?_, ⟨?_, ?_, fun k hk => ?_⟩, agr_wI (agr_wI agr_rfl (Or.inr rfl)) (Or.inl ⟨rfl, rfl⟩)⟩
  · show F_139_0 35 x h = _
    unfold F_139_0
    rw [if_pos (show sm_is G0 h 35 5 = true from rfl), r.1, if_pos (by rw [I3_lit, I3_lt (by omega) (by decide)]; exact hl), if_pos (show sm_is G0 h 35 5 = true from rfl), show sm_rr G0 h 35 0 = some 36 from rfl]; simp only [obs]
    rw [if_pos (show sm_is G0 h 35 5 = true from rfl), stI36 hl]; simp only [obs]
    rw [if_pos (show sm_is G0 (sm_wI h 36 ps.length x) 35 5 = true from rfl), if_pos (show sm_is G0 (sm_wI h 36 ps.length x) 35 5 = true from rfl), show (sm_wI h 36 ps.length x).1 35 1 = h.1 35 1 from rfl, r.1, show I3 ps.length + 1 = I3 (ps.length + 1) from I3_add _ 1]
  · rw [List.length_append]; rfl
  · rw [List.length_append]; show ps.length + 1 ≤ 20; omega
  · rw [List.length_append] at hk
    have hk : k < ps.length + 1 := hk
    show (if k = ps.length then x else h.1 36 k) = _
    by_cases q : k = ps.length
    · rw [if_pos q, q]
      unfold at0; rw [List.getD_eq_getElem?_getD, List.getElem?_append_right (Nat.le_refl _), Nat.sub_self]; rfl
    · rw [if_neg q, r.2.2 k (by omega)]
      unfold at0; rw [List.getD_eq_getElem?_getD, List.getD_eq_getElem?_getD, List.getElem?_append_left (by omega)]
theorem C_one35 (h : sm_H) (x : Int32) : ∃ h1, F_140 35 x h = some (35, h1) ∧ hasL h1 35 36 [x] ∧ agr S35 h h1 := by
  have r : hasL (sm_wI h 35 1 0) 35 36 [] := ⟨rfl, by decide, fun k hk => by cases hk⟩
  obtain ⟨h1, c1, c2, c3⟩ := C_app35 r (by decide) x
  refine ⟨h1, ?_, c2, agr_trans (agr_wI agr_rfl (Or.inl ⟨rfl, rfl⟩)) c3⟩
  show F_140_0 35 x h = _
  unfold F_140_0
  rw [if_neg (not_not_intro (show sm_is G0 h 35 5 = true from rfl)), show F_138 35 h = some (sm_wI h 35 1 0) from rfl]; simp only [obs]
  rw [if_neg (not_not_intro (show sm_is G0 (sm_wI h 35 1 0) 35 5 = true from rfl)), c1]; rfl
def joinL (ps L : List Int32) : List Int32 := at0 L 0 :: lst (fun i => at0 ps (tn (at0 L (1 + i)) + 1)) (L.length - 1)
theorem prt_len (g : sm_H) (x : Nat) : (prt g x).length = pm g x := lst_len _ _
theorem agr_wR {S : Nat → Nat → Prop} {h h1 : sm_H} {a k : Nat} {x : Option Nat} (e : agr S h h1) (s : S a k) : agr S h (sm_wR h1 a k x) := by
  refine ⟨e.1, e.2.1, fun b j n => ?_, e.2.2.2⟩
  have : (sm_wR h1 a k x).2.2.1 b j = h1.2.2.1 b j := by
    show (if b = a then (fun j => if j = k then x else h1.2.2.1 a j) else h1.2.2.1 b) j = _
    by_cases q : b = a
    · subst q; rw [if_pos rfl]
      show (if j = k then x else h1.2.2.1 b j) = _
      by_cases q1 : j = k
      · subst q1; exact absurd s n
      · rw [if_neg q1]
    · rw [if_neg q]
  rw [this]; exact e.2.2.1 b j n
theorem C_join {h g : sm_H} (K : K1 h g) {a b : Int32} {c : Int64} {o p x : Nat} {ps : List Int32} (S : fS h (I3 5) a b c o p ps) (op : oP o p) (ne : o ≠ 35) (hx : x < nH g) (e12 : h.1 34 12 = I3 x) (L1 : 0 < (prt g x).length) (ix : ∀ i, i < (prt g x).length - 1 → ∃ j, at0 (prt g x) (1 + i) = I3 j ∧ j + 1 < ps.length) (f5 : fm g x = 5) :
    ∃ h2, F_27 h = some h2 ∧ agr Ssc h h2 ∧ h2.1 34 7 = I3 5 ∧ h2.1 34 8 = a ∧ h2.1 34 9 = b ∧ h2.2.1 34 10 = c ∧ sm_rr G0 h2 34 11 = some 35 ∧ h2.1 34 12 = at0 (prt g x) 0 ∧ hasL h2 35 36 (joinL ps (prt g x)) := by
  have wH := K.2.2.2.2.1
  have pm20 : pm g x ≤ 20 := (wH.2 x hx).2.2.2.2
  have pl := prt_len g x
  have l20 := S.r.2.1
  obtain ⟨h1, v1, v2, v3⟩ := C_one35 h (at0 (prt g x) 0)
  have s35 : ∀ b j, S35 b j → Ssc b j := fun b j z => Or.inr (by unfold S35 at z; omega)
  have cp : ∀ u, K1 u g → ∀ i, i < pm g x → F_43 (I3 x) (I3 i) u = some (at0 (prt g x) i, u) := fun u Ku i hi => by
    rw [C_part wH Ku.2.2.2.2.2.1 hx hi, at0_lst hi]
  have LL := lp_ex (body := F_27_45B) (P := fun k s => s.1 = o ∧ s.2.1 = at0 (prt g x) 0 ∧ s.2.2.1 = I3 (1 + k) ∧ agr S35 h s.2.2.2 ∧ hasL s.2.2.2 35 36 (at0 (prt g x) 0 :: lst (fun i => at0 ps (tn (at0 (prt g x) (1 + i)) + 1)) k)) (Q := fun h2 => agr Ssc h h2 ∧ h2.1 34 7 = I3 5 ∧ h2.1 34 8 = a ∧ h2.1 34 9 = b ∧ h2.2.1 34 10 = c ∧ sm_rr G0 h2 34 11 = some 35 ∧ h2.1 34 12 = at0 (prt g x) 0 ∧ hasL h2 35 36 (joinL ps (prt g x))) ((prt g x).length - 1) (fun k s hk p1 => ?_) (fun s p1 => ?_) (o, at0 (prt g x) 0, 1, h1) 1000000 ⟨rfl, rfl, rfl, v3, v2⟩ (by omega)
  · obtain ⟨h2, e1, e2⟩ := LL
    refine ⟨h2, ?_, e2⟩
    show F_27_0 h = _
    unfold F_27_0
    rw [e12, C_fm K hx, f5]; simp only [obs]
    rw [if_pos (by decide), S.f11]; simp only [obs]
    rw [e12, show F_43 (I3 x) 0 h = _ from cp h K 0 (by omega)]; simp only [obs]
    rw [v1]; simp only [obs]
    exact e1
  · obtain ⟨s1, s2, s3, s4⟩ := s
    obtain ⟨p1, p2, p3, p4, p5⟩ := p1
    have p1 : s1 = o := p1
    have p2 : s2 = at0 (prt g x) 0 := p2
    have p3 : s3 = I3 (1 + k) := p3
    have p4 : agr S35 h s4 := p4
    have p5 : hasL s4 35 36 (at0 (prt g x) 0 :: lst (fun i => at0 ps (tn (at0 (prt g x) (1 + i)) + 1)) k) := p5
    subst p1 p2 p3
    have K4 : K1 s4 g := K1_h K (agr_mono Ssc_not (agr_mono s35 p4))
    have r4 : hasL s4 s1 p ps := hasL_agr S.r p4 (fun j => by unfold S35; unfold oP at op; omega)
    have e12' : s4.1 34 12 = I3 x := (p4.1 34 12 (by unfold S35; omega)).trans e12
    obtain ⟨j, j1, j2⟩ := ix k hk
    obtain ⟨u, c1, c2, c3⟩ := C_app35 p5 (by rw [List.length_cons, lst_len]; omega) (at0 ps (tn (at0 (prt g x) (1 + k)) + 1))
    refine Or.inl ⟨(s1, at0 (prt g x) 0, I3 (1 + (k + 1)), u), ?_, rfl, rfl, rfl, agr_trans p4 c3, ?_⟩
    · show F_27_45B (s1, at0 (prt g x) 0, I3 (1 + k), s4) = _
      unfold F_27_45B
      have pq : F_42 (I3 x) s4 = some (I3 (pm g x), s4) := by have z := C_partsOf wH K4.2.2.2.2.2.1 hx; rw [(wH.2 x hx).2.2.2.1] at z; exact z
      rw [e12', pq]; simp only [obs]
      rw [if_neg (by rw [I3_le (by omega) (by omega)]; omega), e12', cp s4 K4 (1 + k) (by omega)]; simp only [obs]
      rw [if_neg (not_not_intro (S.w.i s4)), j1, show I3 j + 1 = I3 (j + 1) from I3_add j 1, C_rat S.w r4 j2]; simp only [obs]
      rw [j1, tnI (by omega)] at c1
      rw [c1]; simp only [obs]
      rw [show I3 (1 + k) + 1 = I3 (1 + (k + 1)) from I3_add (1 + k) 1]
    · show hasL u 35 36 _
      rw [lst_succ, ← List.cons_append]; exact c2
  · obtain ⟨s1, s2, s3, s4⟩ := s
    obtain ⟨p1, p2, p3, p4, p5⟩ := p1
    have p1 : s1 = o := p1
    have p2 : s2 = at0 (prt g x) 0 := p2
    have p3 : s3 = I3 (1 + ((prt g x).length - 1)) := p3
    have p4 : agr S35 h s4 := p4
    have p5 : hasL s4 35 36 (joinL ps (prt g x)) := p5
    subst p1 p2 p3
    have K4 : K1 s4 g := K1_h K (agr_mono Ssc_not (agr_mono s35 p4))
    have e12' : s4.1 34 12 = I3 x := (p4.1 34 12 (by unfold S35; omega)).trans e12
    have e34 : ∀ j, s4.1 34 j = h.1 34 j := fun j => p4.1 34 j (by unfold S35; omega)
    refine ⟨sm_wR (sm_wI s4 34 12 (at0 (prt g x) 0)) 34 11 (some 35), ?_, agr_wR (agr_wI (agr_mono s35 p4) (Or.inr (by omega))) (Or.inr (by omega)), (e34 7).trans S.f7, (e34 8).trans S.f8, (e34 9).trans S.f9, (p4.2.1 34 10 (by unfold S35; omega)).trans S.f10, rfl, rfl, p5⟩
    show F_27_45B (s1, at0 (prt g x) 0, I3 (1 + ((prt g x).length - 1)), s4) = _
    unfold F_27_45B
    have pq : F_42 (I3 x) s4 = some (I3 (pm g x), s4) := by have z := C_partsOf wH K4.2.2.2.2.2.1 hx; rw [(wH.2 x hx).2.2.2.1] at z; exact z
    rw [e12', pq]; simp only [obs]
    rw [if_pos (by rw [I3_le (by omega) (by omega)]; omega)]
theorem R_join {h g : sm_H} (K : K1 h g) {t x x' n : Nat} {ps : List Int32} (P : prR g ps) (hx : x < nH g) (L1 : (prt g x).length = 1 + n) (e0 : at0 (prt g x) 0 = I3 x') (ix : ∀ i, i < n → ∃ j, at0 (prt g x) (1 + i) = I3 j ∧ j + 1 < ps.length) :
    ∃ g2, F_319_185 (I3 t) (I3 x) (I3 x') (I3 n) 0 g = F_319_275 (I3 t) (I3 x') g2 ∧ agr SRp g g2 ∧ prR g2 (joinL ps (prt g x)) := by
  have wH := K.2.2.2.2.1
  have w500 : nH g ≤ 500 := wH.1.2
  have pm20 : pm g x ≤ 20 := (wH.2 x hx).2.2.2.2
  have pl := prt_len g x
  have l20 := P.2.1
  have n20 : n < 20 := by omega
  have L2 : ∀ u, agr (fun b _ => b = 102) g u → (∀ i, i < n → u.1 102 i = at0 ps (tn (at0 (prt g x) (1 + i)) + 1)) → ∃ g2, F_319_229 (I3 t) (I3 x') (I3 n) 0 u = F_319_275 (I3 t) (I3 x') g2 ∧ agr SRp g g2 ∧ prR g2 (joinL ps (prt g x)) := fun u au hu => by
    have LL : ∀ k, k ≤ n → ∃ v, lp F_319_229B 1000000 (I3 t, I3 x', I3 n, I3 0, u) = lp F_319_229B (1000000 - k) (I3 t, I3 x', I3 n, I3 k, v) ∧ agr (fun b _ => b = 102 ∨ b = 69) g v ∧ (∀ i, i < n → v.1 102 i = at0 ps (tn (at0 (prt g x) (1 + i)) + 1)) ∧ ∀ i, i < k → v.1 69 (1 + i) = at0 ps (tn (at0 (prt g x) (1 + i)) + 1) := by
      intro k
      induction k with
      | zero => intro _; exact ⟨u, rfl, agr_mono (fun _ _ z => Or.inl z) au, hu, fun i hi => by omega⟩
      | succ k ih =>
        intro hk
        obtain ⟨v, e1, e2, e3, e4⟩ := ih (by omega)
        refine ⟨sm_wI v 69 (1 + k) (at0 ps (tn (at0 (prt g x) (1 + k)) + 1)), ?_, agr_wI e2 (Or.inr rfl), fun i hi => e3 i hi, fun i hi => ?_⟩
        · rw [e1, lp_s (n := 1000000 - k) (s' := (I3 t, I3 x', I3 n, I3 (k + 1), sm_wI v 69 (1 + k) (at0 ps (tn (at0 (prt g x) (1 + k)) + 1)))) (by omega) ?_]
          · rw [show 1000000 - k - 1 = 1000000 - (k + 1) by omega]
          · unfold F_319_229B
            rw [if_neg (by rw [I3_le (by omega) (by omega)]; omega), ldI_I (by omega) (by omega), e3 k (by omega)]; simp only [obs]
            rw [show (1 : Int32) + I3 k = I3 (1 + k) from I3_add 1 k, stI_I (by omega) (by omega)]; simp only [obs]
            rw [show I3 k + 1 = I3 (k + 1) from I3_add k 1]
        · show (if 1 + i = 1 + k then _ else v.1 69 (1 + i)) = _
          by_cases q : i = k
          · rw [if_pos (by omega), q]
          · rw [if_neg (by omega)]; exact e4 i (by omega)
    obtain ⟨v, e1, e2, e3, e4⟩ := LL n (Nat.le_refl _)
    refine ⟨sm_wI (sm_wI v 69 0 (I3 x')) 67 3 (I3 (1 + n)), ?_, agr_wI (agr_wI (agr_mono (fun b j z => by unfold SRp; omega) e2) (by unfold SRp; omega)) (by unfold SRp; omega), ⟨?_, ?_, fun k hk => ?_⟩⟩
    · show lp F_319_229B 1000000 (I3 t, I3 x', I3 n, I3 0, u) = _
      rw [e1]
      have : ∀ (r : Option (Int32 × sm_H)), F_319_229B (I3 t, I3 x', I3 n, I3 n, v) = r.map (fun q => .inr q) → lp F_319_229B (1000000 - n) (I3 t, I3 x', I3 n, I3 n, v) = r := fun r z => by
        cases r with
        | none =>
          have := lp_n (n := 1000000 - n - 1) z
          rw [show 1000000 - n - 1 + 1 = 1000000 - n by omega] at this; exact this
        | some r => exact lp_e (by omega) z
      refine this _ ?_
      unfold F_319_229B
      rw [if_pos (by rw [I3_le (by omega) (by omega)]; omega), show stI v 69 24 0 (I3 x') = _ from stI_I (k := 0) (by omega) (by omega)]; simp only [obs]
      rw [show (1 : Int32) + I3 n = I3 (1 + n) from I3_add 1 n]
    · unfold joinL; rw [List.length_cons, lst_len, L1]; show I3 (1 + n) = _; congr 1; omega
    · unfold joinL; rw [List.length_cons, lst_len, L1]; omega
    · have hk : k < n + 1 := by unfold joinL at hk; rw [List.length_cons, lst_len, L1] at hk; omega
      cases k with
      | zero => show I3 x' = _; exact e0.symm
      | succ k =>
        have a1 : at0 (joinL ps (prt g x)) (k + 1) = at0 ps (tn (at0 (prt g x) (1 + k)) + 1) := by
          show at0 (lst (fun i => at0 ps (tn (at0 (prt g x) (1 + i)) + 1)) ((prt g x).length - 1)) k = _
          rw [at0_lst (by omega)]
        rw [a1]
        show (if k + 1 = 0 then (I3 x' : Int32) else v.1 69 (k + 1)) = _
        rw [if_neg (by omega), Nat.add_comm k 1]; exact e4 k (by omega)
  have L1' : ∀ k, k ≤ n → ∃ v, lp F_319_185B 1000000 (I3 t, I3 x, I3 x', I3 n, I3 0, g) = lp F_319_185B (1000000 - k) (I3 t, I3 x, I3 x', I3 n, I3 k, v) ∧ agr (fun b _ => b = 102) g v ∧ ∀ i, i < k → v.1 102 i = at0 ps (tn (at0 (prt g x) (1 + i)) + 1) := by
    intro k
    induction k with
    | zero => intro _; exact ⟨g, rfl, agr_rfl, fun i hi => by omega⟩
    | succ k ih =>
      intro hk
      obtain ⟨v, e1, e2, e3⟩ := ih (by omega)
      obtain ⟨j, j1, j2⟩ := ix k (by omega)
      have v81 : v.1 81 (24 * x + (1 + k)) = I3 j := by
        rw [e2.1 81 _ (by omega), ← j1]; exact (at0_lst (f := fun k => g.1 81 (24 * x + k)) (by omega)).symm
      refine ⟨sm_wI v 102 k (at0 ps (tn (at0 (prt g x) (1 + k)) + 1)), ?_, agr_wI e2 rfl, fun i hi => ?_⟩
      · rw [e1, lp_s (n := 1000000 - k) (s' := (I3 t, I3 x, I3 x', I3 n, I3 (k + 1), sm_wI v 102 k (at0 ps (tn (at0 (prt g x) (1 + k)) + 1)))) (by omega) ?_]
        · rw [show 1000000 - k - 1 = 1000000 - (k + 1) by omega]
        · unfold F_319_185B
          rw [if_neg (by rw [I3_le (by omega) (by omega)]; omega), show (24 : Int32) * I3 x + 1 + I3 k = I3 (24 * x + (1 + k)) by rw [I3_lit, I3_lit, I3_mul, I3_add, I3_add, Nat.add_assoc], ldI_I (by omega) (by omega), v81]; simp only [obs]
          rw [show (1 : Int32) + I3 j = I3 (1 + j) from I3_add 1 j, ldI_I (by omega) (by omega), e2.1 69 _ (by omega), P.2.2 (1 + j) (by omega)]; simp only [obs]
          rw [stI_I (by omega) (by omega), j1, tnI (by omega), Nat.add_comm 1 j]; simp only [obs]
          rw [show I3 k + 1 = I3 (k + 1) from I3_add k 1]
      · show (if i = k then _ else v.1 102 i) = _
        by_cases q : i = k
        · rw [if_pos q, q]
        · rw [if_neg q]; exact e3 i (by omega)
  obtain ⟨v, e1, e2, e3⟩ := L1' n (Nat.le_refl _)
  obtain ⟨g2, y1, y2, y3⟩ := L2 v e2 e3
  refine ⟨g2, ?_, y2, y3⟩
  rw [← y1]
  show lp F_319_185B 1000000 (I3 t, I3 x, I3 x', I3 n, I3 0, g) = _
  rw [e1]
  have : ∀ (r : Option (Int32 × sm_H)), F_319_185B (I3 t, I3 x, I3 x', I3 n, I3 n, v) = r.map (fun q => .inr q) → lp F_319_185B (1000000 - n) (I3 t, I3 x, I3 x', I3 n, I3 n, v) = r := fun r z => by
    cases r with
    | none =>
      have := lp_n (n := 1000000 - n - 1) z
      rw [show 1000000 - n - 1 + 1 = 1000000 - n by omega] at this; exact this
    | some r => exact lp_e (by omega) z
  refine this _ ?_
  unfold F_319_185B
  rw [if_pos (by rw [I3_le (by omega) (by omega)]; omega)]
