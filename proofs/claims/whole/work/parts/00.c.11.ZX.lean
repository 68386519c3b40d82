theorem FS_5 {g : sm_H} {a b : Int32} {c : Int64} {ps l : List Int32} {r : Int32} (h : FS g 5 a b c ps r l) : ∃ p t, p < nH g ∧ t < nT g ∧ b = I3 t ∧ r = hrs g p ∧ r = rs g t ∧ l = pl g t ∧ ps.length = 1 + (hpl g p).length ∧ at0 ps 0 = I3 p ∧ ∀ k, k < (hpl g p).length → ∃ j, j < l.length ∧ at0 ps (1 + k) = I3 j ∧ at0 l j = at0 (hpl g p) k := by
  unfold FS at h
  simp only [Nat.reduceEqDiff, Nat.reduceLeDiff, reduceCtorEq, false_and, false_or, or_false, true_and] at h
  exact h
theorem stI36 {h : sm_H} {k : Nat} {x : Int32} (hk : k < 20) : sm_stI G0 h 36 (I3 k) x = some (sm_wI h 36 k x) := by
  show (if sm_in (I3 k) 20 then some (sm_wI h 36 (I3 k).toNatClampNeg x) else none) = _
  rw [if_pos (sm_in_I3 hk (by decide)), I3_clamp (by omega)]
abbrev S35 (b j : Nat) : Prop := b = 35 ∧ j = 1 ∨ b = 36
theorem C_app35 {h : sm_H} {ps : List Int32} (r : hasL h 35 36 ps) (hl : ps.length < 20) (x : Int32) : ∃ h1, F_139 35 x h = some (1, h1) ∧ hasL h1 35 36 (ps ++ [x]) ∧ agr S35 h h1 := by
  refine ⟨sm_wI (sm_wI h 36 ps.length x) 35 1 (I3 (ps.length + 1)), ?_, ⟨?_, ?_, fun k hk => ?_⟩, agr_wI (agr_wI agr_rfl (Or.inr rfl)) (Or.inl ⟨rfl, rfl⟩)⟩
  · show F_139_0 35 x h = _
    unfold F_139_0
    rw [if_pos (show sm_is G0 h 35 5 = true from rfl), r.1, if_pos (by rw [I3_lit, I3_lt (by omega) (by decide)]; exact hl), if_pos (show sm_is G0 h 35 5 = true from rfl), show sm_rr G0 h 35 0 = some 36 from rfl]; simp only [obs]
    rw [if_pos (show sm_is G0 h 35 5 = true from rfl), stI36 hl]; simp only [obs]
    rw [if_pos (show sm_is G0 (sm_wI h 36 ps.length x) 35 5 = true from rfl), if_pos (show sm_is G0 (sm_wI h 36 ps.length x) 35 5 = true from rfl), show (sm_wI h 36 ps.length x).1 35 1 = h.1 35 1 from rfl, r.1, show I3 ps.length + 1 = I3 (ps.length + 1) from I3_add _ 1]
  · rw [List.length_append]; rfl
  · rw [List.length_append]; show ps.length + 1 ≤ 20; omega
  · rw [List.length_append] at hk
    have hk : k < ps.length + 1 := hk
    show (if k = ps.length then x else h.1 36 k) = _
    by_cases q : k = ps.length
    · rw [if_pos q, q]
      unfold at0; rw [List.getD_eq_getElem?_getD, List.getElem?_append_right (Nat.le_refl _), Nat.sub_self]; rfl
    · rw [if_neg q, r.2.2 k (by omega)]
      unfold at0; rw [List.getD_eq_getElem?_getD, List.getD_eq_getElem?_getD, List.getElem?_append_left (by omega)]
theorem C_one35 (h : sm_H) (x : Int32) : ∃ h1, F_140 35 x h = some (35, h1) ∧ hasL h1 35 36 [x] ∧ agr S35 h h1 := by
  have r : hasL (sm_wI h 35 1 0) 35 36 [] := ⟨rfl, by decide, fun k hk => by cases hk⟩
  obtain ⟨h1, c1, c2, c3⟩ := C_app35 r (by decide) x
  refine ⟨h1, ?_, c2, agr_trans (agr_wI agr_rfl (Or.inl ⟨rfl, rfl⟩)) c3⟩
  show F_140_0 35 x h = _
  unfold F_140_0
  rw [if_neg (not_not_intro (show sm_is G0 h 35 5 = true from rfl)), show F_138 35 h = some (sm_wI h 35 1 0) from rfl]; simp only [obs]
  rw [if_neg (not_not_intro (show sm_is G0 (sm_wI h 35 1 0) 35 5 = true from rfl)), c1]; rfl
def joinL (ps L : List Int32) : List Int32 := at0 L 0 :: lst (fun i => at0 ps (tn (at0 L (1 + i)) + 1)) (L.length - 1)
theorem prt_len (g : sm_H) (x : Nat) : (prt g x).length = pm g x := lst_len _ _
theorem agr_wR {S : Nat → Nat → Prop} {h h1 : sm_H} {a k : Nat} {x : Option Nat} (e : agr S h h1) (s : S a k) : agr S h (sm_wR h1 a k x) := by
  refine ⟨e.1, e.2.1, fun b j n => ?_, e.2.2.2⟩
  have : (sm_wR h1 a k x).2.2.1 b j = h1.2.2.1 b j := by
    show (if b = a then (fun j => if j = k then x else h1.2.2.1 a j) else h1.2.2.1 b) j = _
    by_cases q : b = a
    · subst q; rw [if_pos rfl]
      show (if j = k then x else h1.2.2.1 b j) = _
      by_cases q1 : j = k
      · subst q1; exact absurd s n
      · rw [if_neg q1]
    · rw [if_neg q]
  rw [this]; exact e.2.2.1 b j n
theorem C_join {h g : sm_H} (K : K1 h g) {a b : Int32} {c : Int64} {o p x : Nat} {ps : List Int32} (S : fS h (I3 5) a b c o p ps) (op : oP o p) (ne : o ≠ 35) (hx : x < nH g) (e12 : h.1 34 12 = I3 x) (L1 : 0 < (prt g x).length) (ix : ∀ i, i < (prt g x).length - 1 → ∃ j, at0 (prt g x) (1 + i) = I3 j ∧ j + 1 < ps.length) (f5 : fm g x = 5) :
    ∃ h2, F_27 h = some h2 ∧ agr Ssc h h2 ∧ h2.1 34 7 = I3 5 ∧ h2.1 34 8 = a ∧ h2.1 34 9 = b ∧ h2.2.1 34 10 = c ∧ sm_rr G0 h2 34 11 = some 35 ∧ h2.1 34 12 = at0 (prt g x) 0 ∧ hasL h2 35 36 (joinL ps (prt g x)) := by
  have wH := K.2.2.2.2.1
  have pm20 : pm g x ≤ 20 := (wH.2 x hx).2.2.2.2
  have pl := prt_len g x
  have l20 := S.r.2.1
  obtain ⟨h1, v1, v2, v3⟩ := C_one35 h (at0 (prt g x) 0)
  have s35 : ∀ b j, S35 b j → Ssc b j := fun b j z => Or.inr (by unfold S35 at z; omega)
  have cp : ∀ u, K1 u g → ∀ i, i < pm g x → F_43 (I3 x) (I3 i) u = some (at0 (prt g x) i, u) := fun u Ku i hi => by
    rw [C_part wH Ku.2.2.2.2.2.1 hx hi, at0_lst hi]
  have LL := lp_ex (body := F_27_45B) (P := fun k s => s.1 = o ∧ s.2.1 = at0 (prt g x) 0 ∧ s.2.2.1 = I3 (1 + k) ∧ agr S35 h s.2.2.2 ∧ hasL s.2.2.2 35 36 (at0 (prt g x) 0 :: lst (fun i => at0 ps (tn (at0 (prt g x) (1 + i)) + 1)) k)) (Q := fun h2 => agr Ssc h h2 ∧ h2.1 34 7 = I3 5 ∧ h2.1 34 8 = a ∧ h2.1 34 9 = b ∧ h2.2.1 34 10 = c ∧ sm_rr G0 h2 34 11 = some 35 ∧ h2.1 34 12 = at0 (prt g x) 0 ∧ hasL h2 35 36 (joinL ps (prt g x))) ((prt g x).length - 1) (fun k s hk p1 => ?_) (fun s p1 => ?_) (o, at0 (prt g x) 0, 1, h1) 1000000 ⟨rfl, rfl, rfl, v3, v2⟩ (by omega)
  · obtain ⟨h2, e1, e2⟩ := LL
    refine ⟨h2, ?_, e2⟩
    show F_27_0 h = _
    unfold F_27_0
    rw [e12, C_fm K hx, f5]; simp only [obs]
    rw [if_pos (by decide), S.f11]; simp only [obs]
    rw [e12, show F_43 (I3 x) 0 h = _ from cp h K 0 (by omega)]; simp only [obs]
    rw [v1]; simp only [obs]
    exact e1
  · obtain ⟨s1, s2, s3, s4⟩ := s
    obtain ⟨p1, p2, p3, p4, p5⟩ := p1
    have p1 : s1 = o := p1
    have p2 : s2 = at0 (prt g x) 0 := p2
    have p3 : s3 = I3 (1 + k) := p3
    have p4 : agr S35 h s4 := p4
    have p5 : hasL s4 35 36 (at0 (prt g x) 0 :: lst (fun i => at0 ps (tn (at0 (prt g x) (1 + i)) + 1)) k) := p5
    subst p1 p2 p3
    have K4 : K1 s4 g := K1_h K (agr_mono Ssc_not (agr_mono s35 p4))
    have r4 : hasL s4 s1 p ps := hasL_agr S.r p4 (fun j => by unfold S35; unfold oP at op; omega)
    have e12' : s4.1 34 12 = I3 x := (p4.1 34 12 (by unfold S35; omega)).trans e12
    obtain ⟨j, j1, j2⟩ := ix k hk
    obtain ⟨u, c1, c2, c3⟩ := C_app35 p5 (by rw [List.length_cons, lst_len]; omega) (at0 ps (tn (at0 (prt g x) (1 + k)) + 1))
    refine Or.inl ⟨(s1, at0 (prt g x) 0, I3 (1 + (k + 1)), u), ?_, rfl, rfl, rfl, agr_trans p4 c3, ?_⟩
    · show F_27_45B (s1, at0 (prt g x) 0, I3 (1 + k), s4) = _
      unfold F_27_45B
      have pq : F_42 (I3 x) s4 = some (I3 (pm g x), s4) := by have z := C_partsOf wH K4.2.2.2.2.2.1 hx; rw [(wH.2 x hx).2.2.2.1] at z; exact z
      rw [e12', pq]; simp only [obs]
      rw [if_neg (by rw [I3_le (by omega) (by omega)]; omega), e12', cp s4 K4 (1 + k) (by omega)]; simp only [obs]
      rw [if_neg (not_not_intro (S.w.i s4)), j1, show I3 j + 1 = I3 (j + 1) from I3_add j 1, C_rat S.w r4 j2]; simp only [obs]
      rw [j1, tnI (by omega)] at c1
      rw [c1]; simp only [obs]
      rw [show I3 (1 + k) + 1 = I3 (1 + (k + 1)) from I3_add (1 + k) 1]
    · show hasL u 35 36 _
      rw [lst_succ, ← List.cons_append]; exact c2
  · obtain ⟨s1, s2, s3, s4⟩ := s
    obtain ⟨p1, p2, p3, p4, p5⟩ := p1
    have p1 : s1 = o := p1
    have p2 : s2 = at0 (prt g x) 0 := p2
    have p3 : s3 = I3 (1 + ((prt g x).length - 1)) := p3
    have p4 : agr S35 h s4 := p4
    have p5 : hasL s4 35 36 (joinL ps (prt g x)) := p5
    subst p1 p2 p3
    have K4 : K1 s4 g := K1_h K (agr_mono Ssc_not (agr_mono s35 p4))
    have e12' : s4.1 34 12 = I3 x := (p4.1 34 12 (by unfold S35; omega)).trans e12
    have e34 : ∀ j, s4.1 34 j = h.1 34 j := fun j => p4.1 34 j (by unfold S35; omega)
    refine ⟨sm_wR (sm_wI s4 34 12 (at0 (prt g x) 0)) 34 11 (some 35), ?_, agr_wR (agr_wI (agr_mono s35 p4) (Or.inr (by omega))) (Or.inr (by omega)), (e34 7).trans S.f7, (e34 8).trans S.f8, (e34 9).trans S.f9, (p4.2.1 34 10 (by unfold S35; omega)).trans S.f10, rfl, rfl, p5⟩
    show F_27_45B (s1, at0 (prt g x) 0, I3 (1 + ((prt g x).length - 1)), s4) = _
    unfold F_27_45B
    have pq : F_42 (I3 x) s4 = some (I3 (pm g x), s4) := by have z := C_partsOf wH K4.2.2.2.2.2.1 hx; rw [(wH.2 x hx).2.2.2.1] at z; exact z
    rw [e12', pq]; simp only [obs]
    rw [if_pos (by rw [I3_le (by omega) (by omega)]; omega)]
theorem R_join {h g : sm_H} (K : K1 h g) {t x x' n : Nat} {ps : List Int32} (P : prR g ps) (hx : x < nH g) (L1 : (prt g x).length = 1 + n) (e0 : at0 (prt g x) 0 = I3 x') (ix : ∀ i, i < n → ∃ j, at0 (prt g x) (1 + i) = I3 j ∧ j + 1 < ps.length) :
    ∃ g2, F_319_185 (I3 t) (I3 x) (I3 x') (I3 n) 0 g = F_319_275 (I3 t) (I3 x') g2 ∧ agr SRp g g2 ∧ prR g2 (joinL ps (prt g x)) := by
  have wH := K.2.2.2.2.1
  have w500 : nH g ≤ 500 := wH.1.2
  have pm20 : pm g x ≤ 20 := (wH.2 x hx).2.2.2.2
  have pl := prt_len g x
  have l20 := P.2.1
  have n20 : n < 20 := by omega
  have L2 : ∀ u, agr (fun b _ => b = 102) g u → (∀ i, i < n → u.1 102 i = at0 ps (tn (at0 (prt g x) (1 + i)) + 1)) → ∃ g2, F_319_229 (I3 t) (I3 x') (I3 n) 0 u = F_319_275 (I3 t) (I3 x') g2 ∧ agr SRp g g2 ∧ prR g2 (joinL ps (prt g x)) := fun u au hu => by
    have LL : ∀ k, k ≤ n → ∃ v, lp F_319_229B 1000000 (I3 t, I3 x', I3 n, I3 0, u) = lp F_319_229B (1000000 - k) (I3 t, I3 x', I3 n, I3 k, v) ∧ agr (fun b _ => b = 102 ∨ b = 69) g v ∧ (∀ i, i < n → v.1 102 i = at0 ps (tn (at0 (prt g x) (1 + i)) + 1)) ∧ ∀ i, i < k → v.1 69 (1 + i) = at0 ps (tn (at0 (prt g x) (1 + i)) + 1) := by
      intro k
      induction k with
      | zero => intro _; exact ⟨u, rfl, agr_mono (fun _ _ z => Or.inl z) au, hu, fun i hi => by omega⟩
      | succ k ih =>
        intro hk
        obtain ⟨v, e1, e2, e3, e4⟩ := ih (by omega)
        refine ⟨sm_wI v 69 (1 + k) (at0 ps (tn (at0 (prt g x) (1 + k)) + 1)), ?_, agr_wI e2 (Or.inr rfl), fun i hi => e3 i hi, fun i hi => ?_⟩
        · rw [e1, lp_s (n := 1000000 - k) (s' := (I3 t, I3 x', I3 n, I3 (k + 1), sm_wI v 69 (1 + k) (at0 ps (tn (at0 (prt g x) (1 + k)) + 1)))) (by omega) ?_]
          · rw [show 1000000 - k - 1 = 1000000 - (k + 1) by omega]
          · unfold F_319_229B
            rw [if_neg (by rw [I3_le (by omega) (by omega)]; omega), ldI_I (by omega) (by omega), e3 k (by omega)]; simp only [obs]
            rw [show (1 : Int32) + I3 k = I3 (1 + k) from I3_add 1 k, stI_I (by omega) (by omega)]; simp only [obs]
            rw [show I3 k + 1 = I3 (k + 1) from I3_add k 1]
        · show (if 1 + i = 1 + k then _ else v.1 69 (1 + i)) = _
          by_cases q : i = k
          · rw [if_pos (by omega), q]
          · rw [if_neg (by omega)]; exact e4 i (by omega)
    obtain ⟨v, e1, e2, e3, e4⟩ := LL n (Nat.le_refl _)
    refine ⟨sm_wI (sm_wI v 69 0 (I3 x')) 67 3 (I3 (1 + n)), ?_, agr_wI (agr_wI (agr_mono (fun b j z => by unfold SRp; omega) e2) (by unfold SRp; omega)) (by unfold SRp; omega), ⟨?_, ?_, fun k hk => ?_⟩⟩
    · show lp F_319_229B 1000000 (I3 t, I3 x', I3 n, I3 0, u) = _
      rw [e1]
      have : ∀ (r : Option (Int32 × sm_H)), F_319_229B (I3 t, I3 x', I3 n, I3 n, v) = r.map (fun q => .inr q) → lp F_319_229B (1000000 - n) (I3 t, I3 x', I3 n, I3 n, v) = r := fun r z => by
        cases r with
        | none =>
          have := lp_n (n := 1000000 - n - 1) z
          rw [show 1000000 - n - 1 + 1 = 1000000 - n by omega] at this; exact this
        | some r => exact lp_e (by omega) z
      refine this _ ?_
      unfold F_319_229B
      rw [if_pos (by rw [I3_le (by omega) (by omega)]; omega), show stI v 69 24 0 (I3 x') = _ from stI_I (k := 0) (by omega) (by omega)]; simp only [obs]
      rw [show (1 : Int32) + I3 n = I3 (1 + n) from I3_add 1 n]
    · unfold joinL; rw [List.length_cons, lst_len, L1]; show I3 (1 + n) = _; congr 1; omega
    · unfold joinL; rw [List.length_cons, lst_len, L1]; omega
    · have hk : k < n + 1 := by unfold joinL at hk; rw [List.length_cons, lst_len, L1] at hk; omega
      cases k with
      | zero => show I3 x' = _; exact e0.symm
      | succ k =>
        have a1 : at0 (joinL ps (prt g x)) (k + 1) = at0 ps (tn (at0 (prt g x) (1 + k)) + 1) := by
          show at0 (lst (fun i => at0 ps (tn (at0 (prt g x) (1 + i)) + 1)) ((prt g x).length - 1)) k = _
          rw [at0_lst (by omega)]
        rw [a1]
        show (if k + 1 = 0 then (I3 x' : Int32) else v.1 69 (k + 1)) = _
        rw [if_neg (by omega), Nat.add_comm k 1]; exact e4 k (by omega)
  have L1' : ∀ k, k ≤ n → ∃ v, lp F_319_185B 1000000 (I3 t, I3 x, I3 x', I3 n, I3 0, g) = lp F_319_185B (1000000 - k) (I3 t, I3 x, I3 x', I3 n, I3 k, v) ∧ agr (fun b _ => b = 102) g v ∧ ∀ i, i < k → v.1 102 i = at0 ps (tn (at0 (prt g x) (1 + i)) + 1) := by
    intro k
    induction k with
    | zero => intro _; exact ⟨g, rfl, agr_rfl, fun i hi => by omega⟩
    | succ k ih =>
      intro hk
      obtain ⟨v, e1, e2, e3⟩ := ih (by omega)
      obtain ⟨j, j1, j2⟩ := ix k (by omega)
      have v81 : v.1 81 (24 * x + (1 + k)) = I3 j := by
        rw [e2.1 81 _ (by omega), ← j1]; exact (at0_lst (f := fun k => g.1 81 (24 * x + k)) (by omega)).symm
      refine ⟨sm_wI v 102 k (at0 ps (tn (at0 (prt g x) (1 + k)) + 1)), ?_, agr_wI e2 rfl, fun i hi => ?_⟩
      · rw [e1, lp_s (n := 1000000 - k) (s' := (I3 t, I3 x, I3 x', I3 n, I3 (k + 1), sm_wI v 102 k (at0 ps (tn (at0 (prt g x) (1 + k)) + 1)))) (by omega) ?_]
        · rw [show 1000000 - k - 1 = 1000000 - (k + 1) by omega]
        · unfold F_319_185B
          rw [if_neg (by rw [I3_le (by omega) (by omega)]; omega), show (24 : Int32) * I3 x + 1 + I3 k = I3 (24 * x + (1 + k)) by rw [I3_lit, I3_lit, I3_mul, I3_add, I3_add, Nat.add_assoc], ldI_I (by omega) (by omega), v81]; simp only [obs]
          rw [show (1 : Int32) + I3 j = I3 (1 + j) from I3_add 1 j, ldI_I (by omega) (by omega), e2.1 69 _ (by omega), P.2.2 (1 + j) (by omega)]; simp only [obs]
          rw [stI_I (by omega) (by omega), j1, tnI (by omega), Nat.add_comm 1 j]; simp only [obs]
          rw [show I3 k + 1 = I3 (k + 1) from I3_add k 1]
      · show (if i = k then _ else v.1 102 i) = _
        by_cases q : i = k
        · rw [if_pos q, q]
        · rw [if_neg q]; exact e3 i (by omega)
  obtain ⟨v, e1, e2, e3⟩ := L1' n (Nat.le_refl _)
  obtain ⟨g2, y1, y2, y3⟩ := L2 v e2 e3
  refine ⟨g2, ?_, y2, y3⟩
  rw [← y1]
  show lp F_319_185B 1000000 (I3 t, I3 x, I3 x', I3 n, I3 0, g) = _
  rw [e1]
  have : ∀ (r : Option (Int32 × sm_H)), F_319_185B (I3 t, I3 x, I3 x', I3 n, I3 n, v) = r.map (fun q => .inr q) → lp F_319_185B (1000000 - n) (I3 t, I3 x, I3 x', I3 n, I3 n, v) = r := fun r z => by
    cases r with
    | none =>
      have := lp_n (n := 1000000 - n - 1) z
      rw [show 1000000 - n - 1 + 1 = 1000000 - n by omega] at this; exact this
    | some r => exact lp_e (by omega) z
  refine this _ ?_
  unfold F_319_185B
  rw [if_pos (by rw [I3_le (by omega) (by omega)]; omega)]
def mvB1 (g : sm_H) (ps : List Int32) (t : Nat) : Bool := all1 (fun k => inR (at0 ps (k + 1)) (tM g t)) (ps.length - 1)
def mvB3 (g : sm_H) (ps : List Int32) (t x : Nat) : Bool := all1 (fun k => decide (at0 (pl g t) (tn (at0 ps (k + 1))) = at0 (hpl g x) k)) (ps.length - 1)
theorem lp_allO {σ ρ : Type} {body : σ → Option (σ ⊕ ρ)} (p : Nat → Bool) (n : Nat) (s : Nat → σ) (r0 : ρ) (r : Option ρ) {f : Nat} (hf : n < f) (h0 : ∀ k, k < n → p k = true → body (s k) = some (.inl (s (k + 1)))) (h1 : ∀ k, k < n → p k = false → body (s k) = some (.inr r0)) (h2 : body (s n) = r.map .inr) : lp body f (s 0) = bif all1 p n then r else some r0 := by
  cases r with
  | some r =>
    rw [lp_all p n s r0 r hf h0 h1 h2]
    cases all1 p n <;> rfl
  | none =>
    cases l : all1 p n with
    | true =>
      have step : ∀ k, k ≤ n → lp body f (s 0) = lp body (f - k) (s k) := by
        intro k
        induction k with
        | zero => intro _; rfl
        | succ k ih =>
          intro hk
          rw [ih (by omega), lp_s (by omega) (h0 k (by omega) (all1_iff.mp l k (by omega)))]
          congr 1
      rw [step n (Nat.le_refl _)]
      have := lp_n (n := f - n - 1) h2
      rw [show f - n - 1 + 1 = f - n by omega] at this; exact this
    | false =>
      have ⟨s1, s2, s3⟩ := fst1_spec (fun k => !p k) n
      have lt : fst1 (fun k => !p k) n < n := by
        rcases (show fst1 (fun k => !p k) n < n ∨ fst1 (fun k => !p k) n = n by omega) with z | z
        · exact z
        · have : all1 p n = true := all1_iff.mpr (fun k hk => by have := s2 k (by omega); simpa using this)
          rw [this] at l; cases l
      have step : ∀ k, k ≤ fst1 (fun k => !p k) n → lp body f (s 0) = lp body (f - k) (s k) := by
        intro k
        induction k with
        | zero => intro _; rfl
        | succ k ih =>
          intro hk
          rw [ih (by omega), lp_s (by omega) (h0 k (by omega) (by have := s2 k (by omega); simpa using this))]
          congr 1
      rw [step _ (Nat.le_refl _)]
      exact lp_e (by omega) (h1 _ lt (by have := s3 lt; simpa using this))
theorem aH1 (g : sm_H) (ps : List Int32) : aH g ps 1 = inR (at0 ps 0) (nH g) := by
  show all1 _ (0 + 1) = _
  rw [all1_succ, all1_0, Bool.true_and]
theorem mk_5 {h g : sm_H} (K : K1 h g) (a b : Int32) (c : Int64) {o p : Nat} {ps : List Int32} (S : fS h (I3 5) 0 b 0 o p ps) (op : oP o p) (ne : o ≠ 35) (P : prR g ps) : ∃ out, OC h (I3 5) 0 b 0 out ∧ OR g (I3 5) a b c out ∧ OK g 5 0 b 0 out := by
  have e7 := S.f7
  have wK := K.1
  have h12 := wK.2.1
  have wT := K.2.2.1
  have wH := K.2.2.2.2.1
  have l20 := S.r.2.1
  have w500 : nH g ≤ 500 := wH.1.2
  have w300 : nT g ≤ 300 := wT.1.2
  have R : F_336 (I3 5) a b c g = ((F_319_0 b g).bind fun q => some (q.1, q.2)) := B336_5 _ _ _
  unfold F_319_0 at R
  have c7 : F_7_0 h = F_7_0 h := rfl
  have bad1 : F_7_0 h = some (1, h) → F_336 (I3 5) a b c g = some (1, g) → ∃ out, OC h (I3 5) 0 b 0 out ∧ OR g (I3 5) a b c out ∧ OK g 5 0 b 0 out := fun z r => ⟨.ref 1, tl_1 z, ⟨g, r, agr_rfl⟩, ⟨by decide, by decide⟩⟩
  conv at c7 => rhs; unfold F_7_0
  rw [e7, if_pos (show (I3 5 : Int32) = 5 by decide), S.f12, C_hasHg wH K.2.2.2.2.2.1] at c7; simp only [obs] at c7
  by_cases q0 : 0 < ps.length
  · rw [if_neg (by rw [P.1, I3_lit, I3_lt (by omega) (by decide)]; omega), show F_314 0 1 g = _ from R_areH wH P (n := 1) (by omega), aH1] at R; simp only [obs] at R
    rw [at1_in q0] at c7
    rcases inR_c (at0 ps 0) (nH g) (by omega) with ⟨x, x1, x2, i⟩ | i
    · have m10 := mn_10 K x1
      have hl := hpl_len g x
      have e12 : h.1 34 12 = I3 x := by rw [S.f12, at1_in q0, x2]
      rw [i, if_neg (by decide), S.f11] at c7; simp only [obs] at c7
      rw [if_neg (not_not_intro (S.w.i h)), C_rsize S.w S.r] at c7; simp only [obs] at c7
      rw [e12, C_mn K x1] at c7; simp only [obs] at c7
      rw [show (1 : Int32) + I3 (tM g (ty g x)) = I3 (1 + tM g (ty g x)) from I3_add 1 _] at c7
      have ld := prR_ld P q0
      rw [x2] at ld
      rw [i, if_neg (by decide), R_isT wT b] at R; simp only [obs] at R
      have n9 := (B9_5 e7).trans (n9_272 K S.f9)
      by_cases q1 : ps.length = 1 + tM g (ty g x)
      · rw [if_pos (by rw [q1])] at c7
        have c7 : F_7 h = some (0, h) := c7
        rcases inR_c b (nT g) (by omega) with ⟨t, t1, rfl, j⟩ | j
        · rw [j] at n9 R
          rw [if_neg (by decide), show ldI g 69 24 0 = _ from ld] at R; simp only [obs] at R
          rw [R_mn K x1] at R; simp only [obs] at R
          rw [P.1, show (1 : Int32) + I3 (tM g (ty g x)) = I3 (1 + tM g (ty g x)) from I3_add 1 _, if_pos (by rw [q1]), show ldI g 69 24 0 = _ from ld] at R; simp only [obs] at R
          have t10 : tM g t ≤ 10 := (wT.2.1 t t1).2.1.2
          have lt := pl_len g t
          have mt : F_226 (I3 t) h = some (I3 (tM g t), h) := by have z := C_tmany wT K.2.2.2.1 t1; rw [(wT.2.1 t t1).2.1.1] at z; exact z
          have n11 : F_11 h = some (b2 (!mvB1 g ps t), h) := by
            have main : F_13 h = some (b2 (!mvB1 g ps t), h) := by
              have L := lp_all (body := F_13_2B) (fun k => inR (at0 ps (k + 1)) (tM g t)) (ps.length - 1) (fun k => (I3 (k + 1), h)) (1, h) (0, h) (f := 1000000) (by omega) (fun k hk e => ?_) (fun k hk e => ?_) ?_
              · refine Eq.trans (show F_13 h = lp F_13_2B 1000000 (I3 (0 + 1), h) from rfl) (L.trans ?_)
                unfold mvB1
                cases all1 (fun k => inR (at0 ps (k + 1)) (tM g t)) (ps.length - 1) <;> rfl
              · obtain ⟨y, y1, y2⟩ := inR_x (by omega) e
                show F_13_2B (I3 (k + 1), h) = _
                unfold F_13_2B
                rw [S.f11]; simp only [obs]
                rw [if_neg (not_not_intro (S.w.i h)), C_rsize S.w S.r]; simp only [obs]
                rw [if_neg (by rw [I3_le (by omega) (by omega)]; omega), S.f11]; simp only [obs]
                rw [if_neg (not_not_intro (S.w.i h)), C_rat S.w S.r (by omega), y2]; simp only [obs]
                rw [if_neg (I3_nn (by omega)), S.f11]; simp only [obs]
                rw [if_neg (not_not_intro (S.w.i h)), C_rat S.w S.r (by omega), y2]; simp only [obs]
                rw [S.f9, mt]; simp only [obs]
                rw [if_pos (by rw [I3_lt (by omega) (by omega)]; exact y1), I3_lit, I3_add]
              · show F_13_2B (I3 (k + 1), h) = _
                unfold F_13_2B F_13_46
                rw [S.f11]; simp only [obs]
                rw [if_neg (not_not_intro (S.w.i h)), C_rsize S.w S.r]; simp only [obs]
                rw [if_neg (by rw [I3_le (by omega) (by omega)]; omega), S.f11]; simp only [obs]
                rw [if_neg (not_not_intro (S.w.i h)), C_rat S.w S.r (by omega)]; simp only [obs]
                rcases I3_cases (at0 ps (k + 1)) with ⟨y, y1, y2⟩ | z
                · rw [y2, inR_I y1] at e
                  rw [y2, if_neg (I3_nn (by omega)), S.f11]; simp only [obs]
                  rw [if_neg (not_not_intro (S.w.i h)), C_rat S.w S.r (by omega), y2]; simp only [obs]
                  rw [S.f9, mt]; simp only [obs]
                  rw [if_neg (by rw [I3_lt (by omega) (by omega)]; exact of_decide_eq_false e)]; rfl
                · rw [if_pos z]; rfl
              · show F_13_2B (I3 (ps.length - 1 + 1), h) = _
                unfold F_13_2B
                rw [S.f11]; simp only [obs]
                rw [if_neg (not_not_intro (S.w.i h)), C_rsize S.w S.r]; simp only [obs]
                rw [if_pos (by rw [I3_le (by omega) (by omega)]; omega)]
            rw [B11_5 e7 (e12 ▸ C_mn K x1), main]; simp only [obs]
            exact z01 h _
          have R1 : F_319_55 (I3 t) (I3 x) 1 g = if mvB1 g ps t = true then (if rs g t = hrs g x then F_319_112 (I3 t) (I3 x) 1 g else some (3, g)) else some (2, g) := by
            have L := lp_allO (body := F_319_55B) (fun k => inR (at0 ps (k + 1)) (tM g t)) (ps.length - 1) (fun k => (I3 t, I3 x, I3 (k + 1), g)) (2, g) (if rs g t = hrs g x then F_319_112 (I3 t) (I3 x) 1 g else some (3, g)) (f := 1000000) (by omega) (fun k hk e => ?_) (fun k hk e => ?_) ?_
            · refine Eq.trans (show F_319_55 (I3 t) (I3 x) 1 g = lp F_319_55B 1000000 (I3 t, I3 x, I3 (0 + 1), g) from rfl) (L.trans ?_)
              unfold mvB1
              cases all1 (fun k => inR (at0 ps (k + 1)) (tM g t)) (ps.length - 1) <;> rfl
            · show F_319_55B (I3 t, I3 x, I3 (k + 1), g) = _
              unfold F_319_55B
              rw [if_neg (by rw [P.1, I3_le (by omega) (by omega)]; omega), prR_ld P (by omega)]; simp only [obs]
              rw [ldI_I (by omega) (by omega), (wT.2.1 t t1).2.1.1]; simp only [obs]
              rw [show F_315 (Int32.toInt64 (at0 ps (k + 1))) 0 (Int32.toInt64 (I3 (tM g t) - 1)) g = some (b2 (!inR (at0 ps (k + 1)) (tM g t)), g) from R_outI (n := tM g t) (by omega) _, e]; simp only [obs]
              rw [if_pos (by decide), I3_lit, I3_add]
            · show F_319_55B (I3 t, I3 x, I3 (k + 1), g) = _
              unfold F_319_55B
              rw [if_neg (by rw [P.1, I3_le (by omega) (by omega)]; omega), prR_ld P (by omega)]; simp only [obs]
              rw [ldI_I (by omega) (by omega), (wT.2.1 t t1).2.1.1]; simp only [obs]
              rw [show F_315 (Int32.toInt64 (at0 ps (k + 1))) 0 (Int32.toInt64 (I3 (tM g t) - 1)) g = some (b2 (!inR (at0 ps (k + 1)) (tM g t)), g) from R_outI (n := tM g t) (by omega) _, e]; simp only [obs]
              rw [if_neg (by decide)]
            · show F_319_55B (I3 t, I3 x, I3 (ps.length - 1 + 1), g) = _
              unfold F_319_55B
              rw [if_pos (by rw [P.1, I3_le (by omega) (by omega)]; omega), ldI_I (by omega) (by omega)]; simp only [obs]
              rw [R_rs K x1]; simp only [obs]
              by_cases q2 : rs g t = hrs g x
              · rw [if_pos (show g.1 72 t = hrs g x from q2), if_pos q2]
              · rw [if_neg (show ¬ g.1 72 t = hrs g x from q2), if_neg q2]; rfl
          rw [R1] at R
          cases l1 : mvB1 g ps t with
          | false =>
            rw [l1] at n11 R
            rw [if_neg (by decide)] at R
            exact ⟨.ref 2, tl_3 c7 n9 n11, ⟨g, R, agr_rfl⟩, ⟨by decide, by decide⟩⟩
          | true =>
            rw [l1] at n11 R
            rw [if_pos rfl] at R
            have hp : ∀ k, k < ps.length - 1 → ∃ y, y < tM g t ∧ at0 ps (k + 1) = I3 y ∧ tn (at0 ps (k + 1)) = y := fun k hk => by
              obtain ⟨y, y1, y2⟩ := inR_x (by omega) (all1_iff.mp l1 k hk)
              exact ⟨y, y1, y2, by rw [y2, tnI (by omega)]⟩
            have n14 : F_14 h = some (b2 (!(decide (rs g t = hrs g x) && mvB3 g ps t x)), h) := by
              have main : F_16 h = some (b2 (!(decide (rs g t = hrs g x) && mvB3 g ps t x)), h) := by
                show F_16_0 h = _
                unfold F_16_0
                rw [S.f9, C_tres wT K.2.2.2.1 t1]; simp only [obs]
                rw [e12, C_rs K x1]; simp only [obs]
                by_cases q2 : rs g t = hrs g x
                · rw [if_pos (show g.1 72 t = hrs g x from q2), decide_eq_true q2, Bool.true_and]
                  have L := lp_all (body := F_16_29B) (fun k => decide (at0 (pl g t) (tn (at0 ps (k + 1))) = at0 (hpl g x) k)) (ps.length - 1) (fun k => (I3 (k + 1), h)) (1, h) (0, h) (f := 1000000) (by omega) (fun k hk e => ?_) (fun k hk e => ?_) ?_
                  · refine Eq.trans (show F_16_29 1 h = lp F_16_29B 1000000 (I3 (0 + 1), h) from rfl) (L.trans ?_)
                    unfold mvB3
                    cases all1 (fun k => decide (at0 (pl g t) (tn (at0 ps (k + 1))) = at0 (hpl g x) k)) (ps.length - 1) <;> rfl
                  · obtain ⟨y, y1, y2, y3⟩ := hp k hk
                    show F_16_29B (I3 (k + 1), h) = _
                    unfold F_16_29B
                    rw [S.f11]; simp only [obs]
                    rw [if_neg (not_not_intro (S.w.i h)), C_rsize S.w S.r]; simp only [obs]
                    rw [if_neg (by rw [I3_le (by omega) (by omega)]; omega), S.f11]; simp only [obs]
                    rw [if_neg (not_not_intro (S.w.i h)), C_rat S.w S.r (by omega), y2, S.f9]; simp only [obs]
                    rw [C_tplace wT K.2.2.2.1 t1 y1]; simp only [obs]
                    rw [e12, show I3 (k + 1) - 1 = I3 k from I3_sub (a := k + 1) (b := 1) (by omega), C_pc K x1 (by omega)]; simp only [obs]
                    have e := of_decide_eq_true e
                    rw [y3, at0_lst y1] at e
                    rw [if_pos e, I3_lit, I3_add]
                  · obtain ⟨y, y1, y2, y3⟩ := hp k hk
                    show F_16_29B (I3 (k + 1), h) = _
                    unfold F_16_29B
                    rw [S.f11]; simp only [obs]
                    rw [if_neg (not_not_intro (S.w.i h)), C_rsize S.w S.r]; simp only [obs]
                    rw [if_neg (by rw [I3_le (by omega) (by omega)]; omega), S.f11]; simp only [obs]
                    rw [if_neg (not_not_intro (S.w.i h)), C_rat S.w S.r (by omega), y2, S.f9]; simp only [obs]
                    rw [C_tplace wT K.2.2.2.1 t1 y1]; simp only [obs]
                    rw [e12, show I3 (k + 1) - 1 = I3 k from I3_sub (a := k + 1) (b := 1) (by omega), C_pc K x1 (by omega)]; simp only [obs]
                    have e := of_decide_eq_false e
                    rw [y3, at0_lst y1] at e
                    rw [if_neg e]
                  · show F_16_29B (I3 (ps.length - 1 + 1), h) = _
                    unfold F_16_29B
                    rw [S.f11]; simp only [obs]
                    rw [if_neg (not_not_intro (S.w.i h)), C_rsize S.w S.r]; simp only [obs]
                    rw [if_pos (by rw [I3_le (by omega) (by omega)]; omega)]
                · rw [if_neg (show ¬ g.1 72 t = hrs g x from q2), decide_eq_false q2]; rfl
              rw [B14_5 e7, main]; simp only [obs]
              exact z01 h _
            by_cases q2 : rs g t = hrs g x
            · rw [if_pos q2] at R
              rw [decide_eq_true q2, Bool.true_and] at n14
              have R3 : F_319_112 (I3 t) (I3 x) 1 g = bif mvB3 g ps t x then (if fm g x = 5 then ((ldI g 81 12000 (24 * I3 x)).bind fun v18 => (F_305 v18 g).bind fun q19 => F_319_185 (I3 t) (I3 x) v18 q19.1 0 q19.2) else F_319_275 (I3 t) (I3 x) g) else some (3, g) := by
                have f38 : fm g x ≤ 38 := (wH.2 x x1).1.2
                have L := lp_allO (body := F_319_112B) (fun k => decide (at0 (pl g t) (tn (at0 ps (k + 1))) = at0 (hpl g x) k)) (ps.length - 1) (fun k => (I3 t, I3 x, I3 (k + 1), g)) (3, g) (if fm g x = 5 then ((ldI g 81 12000 (24 * I3 x)).bind fun v18 => (F_305 v18 g).bind fun q19 => F_319_185 (I3 t) (I3 x) v18 q19.1 0 q19.2) else F_319_275 (I3 t) (I3 x) g) (f := 1000000) (by omega) (fun k hk e => ?_) (fun k hk e => ?_) ?_
                · exact L
                · obtain ⟨y, y1, y2, y3⟩ := hp k hk
                  show F_319_112B (I3 t, I3 x, I3 (k + 1), g) = _
                  unfold F_319_112B
                  rw [if_neg (by rw [P.1, I3_le (by omega) (by omega)]; omega), prR_ld P (by omega), y2]; simp only [obs]
                  rw [show (10 : Int32) * I3 t + I3 y = I3 (10 * t + y) by rw [I3_lit, I3_mul, I3_add], ldI_I (by omega) (by omega)]; simp only [obs]
                  rw [show I3 (k + 1) - 1 = I3 k from I3_sub (a := k + 1) (b := 1) (by omega), R_pc K x1 (by omega)]; simp only [obs]
                  have e := of_decide_eq_true e
                  rw [y3, at0_lst y1] at e
                  rw [if_pos e, I3_lit, I3_add]
                · obtain ⟨y, y1, y2, y3⟩ := hp k hk
                  show F_319_112B (I3 t, I3 x, I3 (k + 1), g) = _
                  unfold F_319_112B
                  rw [if_neg (by rw [P.1, I3_le (by omega) (by omega)]; omega), prR_ld P (by omega), y2]; simp only [obs]
                  rw [show (10 : Int32) * I3 t + I3 y = I3 (10 * t + y) by rw [I3_lit, I3_mul, I3_add], ldI_I (by omega) (by omega)]; simp only [obs]
                  rw [show I3 (k + 1) - 1 = I3 k from I3_sub (a := k + 1) (b := 1) (by omega), R_pc K x1 (by omega)]; simp only [obs]
                  have e := of_decide_eq_false e
                  rw [y3, at0_lst y1] at e
                  rw [if_neg e]
                · show F_319_112B (I3 t, I3 x, I3 (ps.length - 1 + 1), g) = _
                  unfold F_319_112B
                  rw [if_pos (by rw [P.1, I3_le (by omega) (by omega)]; omega), R_fm K x1]; simp only [obs]
                  by_cases q : fm g x = 5
                  · rw [if_pos (show I3 (fm g x) = (5 : Int32) from congrArg I3 q), if_pos q]
                    cases ldI g 81 12000 (24 * I3 x) with
                    | none => rfl
                    | some v =>
                      simp only [obs]
                      cases F_305 v g with
                      | none => rfl
                      | some q => rfl
                  · rw [if_neg (show ¬ I3 (fm g x) = (5 : Int32) by rw [I3_lit, I3_inj (by omega) (by decide)]; exact q), if_neg q]
              rw [R3] at R
              cases l3 : mvB3 g ps t x with
              | false =>
                rw [l3] at n14 R
                exact ⟨.ref 3, tl_4 c7 n9 n11 n14 agr_rfl, ⟨g, R, agr_rfl⟩, ⟨by decide, by decide⟩⟩
              | true =>
                rw [l3] at n14 R
                rw [cond_true] at R
                have hq : ∀ k, k < (hpl g x).length → ∃ j, j < (pl g t).length ∧ at0 ps (1 + k) = I3 j ∧ at0 (pl g t) j = at0 (hpl g x) k := fun k hk => by
                  obtain ⟨y, y1, y2, y3⟩ := hp k (by omega)
                  have := of_decide_eq_true (all1_iff.mp l3 k (by omega))
                  rw [y3] at this
                  exact ⟨y, by omega, by rw [Nat.add_comm]; exact y2, this⟩
                by_cases q5 : fm g x = 5
                ·
                  rw [if_pos q5] at R
                  have wF := K.2.2.2.2.2.2.2.2.2.2.2.2.2.2
                  rw [wfF_0] at wF
                  have fx := wF.1 x x1
                  rw [q5] at fx
                  obtain ⟨p', t', z1, z2, z3, z4, z5, z6, z7, z8, z9⟩ := FS_5 fx
                  have m10' := mn_10 K z1
                  have hl' := hpl_len g p'
                  have ix : ∀ i, i < (hpl g p').length → ∃ j, at0 (prt g x) (1 + i) = I3 j ∧ j + 1 < ps.length ∧ j < (hpl g x).length ∧ at0 (hpl g x) j = at0 (hpl g p') i := fun i hi => by
                    obtain ⟨j, j1, j2, j3⟩ := z9 i hi
                    exact ⟨j, j2, by omega, j1, j3⟩
                  obtain ⟨h2, c1, c2, c3, c4, c5, c6, c8, c9, c10⟩ := C_join K S op ne x1 e12 (by omega) (fun i hi => by obtain ⟨j, j1, j2, -⟩ := ix i (by omega); exact ⟨j, j1, j2⟩) q5
                  obtain ⟨g2, r1, r2, r3⟩ := R_join (t := t) K P x1 z7 z8 (fun i hi => by obtain ⟨j, j1, j2, -⟩ := ix i (by omega); exact ⟨j, j1, j2⟩)
                  have v81 : g.1 81 (24 * x) = I3 p' := by rw [← z8]; exact (at0_lst (f := fun k => g.1 81 (24 * x + k)) (n := pm g x) (i := 0) (by rw [← prt_len]; omega)).symm
                  rw [show (24 : Int32) * I3 x = I3 (24 * x) by rw [I3_lit, I3_mul], ldI_I (by omega) (by omega), v81] at R; simp only [obs] at R
                  rw [R_mn K z1] at R; simp only [obs] at R
                  rw [← hl', r1] at R
                  have jl : (joinL ps (prt g x)).length = 1 + (hpl g p').length := by unfold joinL; rw [List.length_cons, lst_len]; omega
                  refine mk5_end K S t1 z1 c7 n9 n11 n14 c1 c2 c3 c4 c5 c6 c8 (c9.trans z8) rw35 (Or.inl ⟨rfl, rfl⟩) c10 (by omega) R r2 r3 ?_
                  refine (Or.inr (Or.inr (Or.inr (Or.inr (Or.inr (Or.inl ⟨rfl, p', t, z1, t1, rfl, q2.trans z4, rfl, rfl, jl, z8, fun k hk => ?_⟩))))))
                  obtain ⟨j, j1, j2, j3, j4⟩ := ix k hk
                  obtain ⟨i, i1, i2, i3⟩ := hq j j3
                  refine ⟨i, i1, ?_, i3.trans j4⟩
                  rw [Nat.add_comm]
                  show at0 (lst (fun i => at0 ps (tn (at0 (prt g x) (1 + i)) + 1)) ((prt g x).length - 1)) k = _
                  rw [at0_lst (by omega), j1, tnI (by omega), Nat.add_comm j 1]; exact i2
                · rw [if_neg q5] at R
                  have J : F_27 h = some h := by
                    have f38 : fm g x ≤ 38 := (wH.2 x x1).1.2
                    show F_27_0 h = _
                    unfold F_27_0
                    rw [e12, C_fm K x1]; simp only [obs]
                    rw [if_neg (show ¬ I3 (fm g x) = (5 : Int32) by rw [I3_lit, I3_inj (by omega) (by decide)]; exact q5)]
                  exact mk5_end K S t1 x1 c7 n9 n11 n14 J agr_rfl S.f7 S.f8 S.f9 S.f10 S.f11 e12 S.w op S.r q0 R agr_rfl P (Or.inr (Or.inr (Or.inr (Or.inr (Or.inr (Or.inl ⟨rfl, x, t, x1, t1, rfl, q2, rfl, rfl, by omega, x2, hq⟩))))))
            · rw [if_neg q2] at R
              rw [decide_eq_false q2, Bool.false_and] at n14
              exact ⟨.ref 3, tl_4 c7 n9 n11 n14 agr_rfl, ⟨g, R, agr_rfl⟩, ⟨by decide, by decide⟩⟩
        · rw [j] at n9 R
          rw [if_pos (by decide)] at R
          exact ⟨.ref 1, tl_2 c7 n9, ⟨g, R, agr_rfl⟩, ⟨by decide, by decide⟩⟩
      · have q1' : ¬ I3 ps.length = I3 (1 + tM g (ty g x)) := by rw [I3_inj (by omega) (by omega)]; exact q1
        rw [if_neg q1'] at c7
        refine bad1 c7 ?_
        rw [R]
        cases inR b (nT g) with
        | false => rfl
        | true =>
          rw [if_neg (by decide), show ldI g 69 24 0 = _ from ld]; simp only [obs]
          rw [R_mn K x1]; simp only [obs]
          rw [P.1, show (1 : Int32) + I3 (tM g (ty g x)) = I3 (1 + tM g (ty g x)) from I3_add 1 _, if_neg q1']; rfl
    · rw [i] at c7 R
      rw [if_pos (by decide)] at c7 R
      exact bad1 c7 R
  · rw [at1_out (by omega), inR_m1] at c7
    rw [if_pos (by decide)] at c7
    rw [if_pos (by rw [P.1, show ps.length = 0 by omega]; decide)] at R
    exact bad1 c7 R
abbrev pt (ps : List Int32) (i z : Nat) : Int32 := at0 ps (4 * i + z)
def cA (g : sm_H) (ps : List Int32) (i : Nat) : Bool := decide (pt ps i 0 = -1) || (decide (pt ps i 1 = -1) || decide (hrs g (tn (pt ps i 0)) = hrs g (tn (pt ps i 1))))
def cB (ps : List Int32) (i : Nat) : Bool := decide (pt ps i 3 = -1) || !decide (pt ps i 2 = -1)
def cC (g : sm_H) (ps : List Int32) (i : Nat) : Bool := decide (pt ps i 2 = -1) || decide (hrs g (tn (pt ps i 2)) = 1)
def cD (g : sm_H) (ps : List Int32) (t i : Nat) : Bool := decide (pt ps i 3 = -1) || decide (hrs g (tn (pt ps i 3)) = rs g t)
def cE (g : sm_H) (ps : List Int32) (t i : Nat) : Bool := decide (pt ps i 0 = -1) || fitB (hpl g (tn (pt ps i 0))) (pl g t) 0 0
def cFz (g : sm_H) (W ps : List Int32) (i z : Nat) : Bool := decide (pt ps i z = -1) || fitB (hpl g (tn (pt ps i z))) W 0 0
def P1 (g : sm_H) (ps : List Int32) (t i : Nat) : Bool := cA g ps i && (cB ps i && (cC g ps i && cD g ps t i))
def P2 (g : sm_H) (W ps : List Int32) (t i : Nat) : Bool := cE g ps t i && (cFz g W ps i 1 && (cFz g W ps i 2 && cFz g W ps i 3))
def hasK (ps : List Int32) (k : Nat) : Bool := !all1 (fun i => decide (pt ps i 2 = -1)) k
theorem hasK_s (ps : List Int32) (k : Nat) : hasK ps (k + 1) = (hasK ps k || !decide (pt ps k 2 = -1)) := by
  unfold hasK; rw [all1_succ]; cases all1 (fun i => decide (pt ps i 2 = -1)) k <;> cases decide (pt ps k 2 = -1) <;> rfl
theorem vrs_s (g : sm_H) (ps : List Int32) (k : Nat) : vrs g ps (k + 1) = vrs g ps k ++ (if vk g ps k = 0 then [] else [vk g ps k]) := by
  unfold vrs
  rw [List.range_succ, List.map_append, List.filter_append]
  congr 1
  by_cases q : vk g ps k = 0
  · rw [if_pos q]; simp [q]
  · rw [if_neg q]; simp [q]
theorem vrs_len (g : sm_H) (ps : List Int32) (k : Nat) : (vrs g ps k).length ≤ k := by
  induction k with
  | zero => exact Nat.le_refl 0
  | succ k ih =>
    rw [vrs_s, List.length_append]
    by_cases q : vk g ps k = 0
    · rw [if_pos q]; simp only [List.length_nil]; omega
    · rw [if_neg q]; simp only [List.length_cons, List.length_nil]; omega
abbrev LPt (g : sm_H) (ps : List Int32) (n : Nat) : Prop := (ps.length = 4 * n) ∧ (0 < n) ∧ (n ≤ 4) ∧ (∀ i z, i < n → z < 4 → pt ps i z = -1 ∨ ∃ y, y < nH g ∧ pt ps i z = I3 y ∧ tn (pt ps i z) = y ∧ pt ps i z ≠ -1)
theorem LPt.l {g : sm_H} {ps : List Int32} {n : Nat} (F_ : LPt g ps n) : ps.length = 4 * n := F_.1
theorem LPt.n0 {g : sm_H} {ps : List Int32} {n : Nat} (F_ : LPt g ps n) : 0 < n := F_.2.1
theorem LPt.n4 {g : sm_H} {ps : List Int32} {n : Nat} (F_ : LPt g ps n) : n ≤ 4 := F_.2.2.1
theorem LPt.h {g : sm_H} {ps : List Int32} {n : Nat} (F_ : LPt g ps n) : ∀ i z, i < n → z < 4 → pt ps i z = -1 ∨ ∃ y, y < nH g ∧ pt ps i z = I3 y ∧ tn (pt ps i z) = y ∧ pt ps i z ≠ -1 := F_.2.2.2
theorem LPt.c {g : sm_H} {ps : List Int32} {n : Nat} (L : LPt g ps n) {i z : Nat} (hi : i < n) (hz : z < 4) {α : Prop} (h1 : pt ps i z = -1 → α) (h2 : ∀ y, y < nH g → pt ps i z = I3 y → tn (pt ps i z) = y → pt ps i z ≠ -1 → α) : α := by
  rcases L.h i z hi hz with q | ⟨y, y1, y2, y3, y4⟩
  · exact h1 q
  · exact h2 y y1 y2 y3 y4
theorem vk_k {h g : sm_H} (K : K1 h g) {ps : List Int32} {n i : Nat} (L : LPt g ps n) (hi : i < n) : ∃ q, vk g ps i = I3 q ∧ q < 20 + nC g := by
  unfold vk
  refine L.c hi (show 1 < 4 by omega) (fun e => ?_) (fun y y1 y2 y3 y4 => ?_)
  · have e' : at0 ps (4 * i + 1) = -1 := e
    rw [if_neg (not_not_intro e')]
    refine L.c hi (show 0 < 4 by omega) (fun e0 => ?_) (fun y y1 y2 y3 y4 => ?_)
    · rw [if_neg (not_not_intro (show at0 ps (4 * i) = -1 from e0))]; exact ⟨0, rfl, by omega⟩
    · rw [if_pos (show at0 ps (4 * i) ≠ -1 from y4), show tn (at0 ps (4 * i)) = y from y3]; exact rs_k K y1
  · rw [if_pos (show at0 ps (4 * i + 1) ≠ -1 from y4), show tn (at0 ps (4 * i + 1)) = y from y3]; exact rs_k K y1
abbrev vS (h2 : sm_H) (vs : List Int32) : Prop := (h2.1 34 6 = I3 vs.length) ∧ (∀ k, k < vs.length → h2.1 37 k = at0 vs k)
theorem vS.n {h2 : sm_H} {vs : List Int32} (F_ : vS h2 vs) : h2.1 34 6 = I3 vs.length := F_.1
theorem vS.v {h2 : sm_H} {vs : List Int32} (F_ : vS h2 vs) : ∀ k, k < vs.length → h2.1 37 k = at0 vs k := F_.2
abbrev S37 (b j : Nat) : Prop := b = 34 ∧ j = 6 ∨ b = 37
theorem agr_fS37 {h h1 : sm_H} {f a b : Int32} {c : Int64} {o p : Nat} {ps : List Int32} (S : fS h f a b c o p ps) (op : oP o p) (ag : agr S37 h h1) : fS h1 f a b c o p ps := by
  have e : ∀ j, j ≠ 6 → h1.1 34 j = h.1 34 j := fun j hj => ag.1 34 j (by unfold S37; omega)
  refine ⟨(e 7 (by decide)).trans S.f7, (e 8 (by decide)).trans S.f8, (e 9 (by decide)).trans S.f9, (ag.2.1 34 10 (by unfold S37; omega)).trans S.f10, ?_, (e 12 (by decide)).trans S.f12, (e 13 (by decide)).trans S.f13, (e 14 (by decide)).trans S.f14, S.w, hasL_agr S.r ag (fun j => by unfold S37; unfold oP at op; omega)⟩
  show h1.2.2.1 34 11 = some o
  rw [ag.2.2.1 34 11 (by unfold S37; omega)]
  exact S.f11
theorem S37_sc (b j : Nat) (z : S37 b j) : Ssc b j := Or.inr (by unfold S37 at z; omega)
theorem C_vk {h g : sm_H} (K : K1 h g) {ps : List Int32} {n i : Nat} (L : LPt g ps n) (hi : i < n) : F_47 (pt ps i 0) (pt ps i 1) h = some (vk g ps i, h) := by
  have wH := K.2.2.2.2.1
  have cHq := K.2.2.2.2.2.1
  have w500 : nH g ≤ 500 := wH.1.2
  have e11 : h.1 10 11 = I3 (nH g) := cHq.1.trans wH.1.1
  have go : ∀ y, y < nH g → F_47_10 (I3 y) h = some (hrs g y, h) := fun y y1 => by
    unfold F_47_10 F_47_33
    rw [if_neg (I3_nn (by omega)), e11, if_pos (by rw [I3_lt (by omega) (by omega)]; exact y1), ldI_I (by omega) (by omega), (cHq.2.2.2 y y1).1]; rfl
  show F_47_0 (pt ps i 0) (pt ps i 1) h = _
  unfold F_47_0 vk
  refine L.c hi (show 1 < 4 by omega) (fun e => ?_) (fun y y1 y2 y3 y4 => ?_)
  · rw [if_pos e, if_neg (not_not_intro (show at0 ps (4 * i + 1) = -1 from e))]
    refine L.c hi (show 0 < 4 by omega) (fun e0 => ?_) (fun y y1 y2 y3 y4 => ?_)
    · rw [if_neg (not_not_intro (show at0 ps (4 * i) = -1 from e0)), e0]
      unfold F_47_10
      rw [if_pos (by decide)]; rfl
    · rw [if_pos (show at0 ps (4 * i) ≠ -1 from y4), show tn (at0 ps (4 * i)) = y from y3, y2, go y y1]
  · rw [if_neg y4, if_pos (show at0 ps (4 * i + 1) ≠ -1 from y4), show tn (at0 ps (4 * i + 1)) = y from y3, y2, go y y1]
theorem R_vk {h g u : sm_H} {r : Int32} {l : List Int32} (K : K1 h g) (e : E h g u r l) {ps : List Int32} {n i : Nat} (L : LPt g ps n) (hi : i < n) : F_332 (pt ps i 0) (pt ps i 1) u = some (vk g ps i, u) := by
  show F_332_0 (pt ps i 0) (pt ps i 1) u = _
  unfold F_332_0 vk F_332_27
  refine L.c hi (show 1 < 4 by omega) (fun z => ?_) (fun y y1 y2 y3 y4 => ?_)
  · rw [if_pos z, if_neg (not_not_intro (show at0 ps (4 * i + 1) = -1 from z))]
    refine L.c hi (show 0 < 4 by omega) (fun e0 => ?_) (fun y y1 y2 y3 y4 => ?_)
    · rw [if_neg (not_not_intro (show at0 ps (4 * i) = -1 from e0)), if_pos e0]
    · rw [if_pos (show at0 ps (4 * i) ≠ -1 from y4), show tn (at0 ps (4 * i)) = y from y3, if_neg y4, y2, E_result e y1]; rfl
  · rw [if_neg y4, if_pos (show at0 ps (4 * i + 1) ≠ -1 from y4), show tn (at0 ps (4 * i + 1)) = y from y3, y2, E_result e y1]; rfl
theorem C_findV {h g : sm_H} (K : K1 h g) {a b : Int32} {c : Int64} {o p n : Nat} {ps : List Int32} (S : fS h (I3 18) a b c o p ps) (op : oP o p) (L : LPt g ps n) : ∃ h2, F_23 h = some h2 ∧ agr S37 h h2 ∧ vS h2 (vrs g ps n) := by
  have n4 := L.n4
  have ll := L.l
  have LL := lp_ex (body := F_23_7B) (P := fun k s => s.1 = I3 (4 * k) ∧ agr S37 h s.2 ∧ vS s.2 (vrs g ps k)) (Q := fun h2 => agr S37 h h2 ∧ vS h2 (vrs g ps n)) n (fun k s hk p1 => ?_) (fun s p1 => ?_) (0, sm_wI h 34 6 0) 1000000 ⟨rfl, agr_wI agr_rfl (Or.inl ⟨rfl, rfl⟩), ⟨rfl, fun k hk => by cases hk⟩⟩ (by omega)
  · obtain ⟨h2, e1, e2⟩ := LL
    exact ⟨h2, e1, e2⟩
  · obtain ⟨s1, s2⟩ := s
    obtain ⟨p1, p2, p3⟩ := p1
    have p1 : s1 = I3 (4 * k) := p1
    have p2 : agr S37 h s2 := p2
    have p3 : vS s2 (vrs g ps k) := p3
    subst p1
    have S2 := agr_fS37 S op p2
    have K2 : K1 s2 g := K1_h K (agr_mono Ssc_not (agr_mono S37_sc p2))
    have vl := vrs_len g ps k
    have V := C_vk K2 L hk
    have hd : ∀ X, F_23_7B (I3 (4 * k), s2) = X ↔ (if vk g ps k = 0 then F_23_76 (I3 (4 * k)) s2 else (stI s2 37 4 (s2.1 34 6) (vk g ps k)).bind fun h12 => (some (sm_wI h12 34 6 (h12.1 34 6 + 1))).bind fun h13 => F_23_76 (I3 (4 * k)) h13) = X := fun X => by
      unfold F_23_7B
      rw [S2.f11]; simp only [obs]
      rw [if_neg (not_not_intro (S2.w.i s2)), C_rsize S2.w S2.r]; simp only [obs]
      rw [if_neg (by rw [I3_le (by omega) (by omega)]; omega), p3.n, if_neg (by rw [I3_lit, I3_le (by decide) (by omega)]; omega), S2.f11]; simp only [obs]
      rw [if_neg (not_not_intro (S2.w.i s2)), C_rat S2.w S2.r (by omega)]; simp only [obs]
      rw [S2.f11]; simp only [obs]
      rw [if_neg (not_not_intro (S2.w.i s2)), show I3 (4 * k) + 1 = I3 (4 * k + 1) from I3_add _ 1, C_rat S2.w S2.r (by omega)]; simp only [obs]
      rw [show F_47 (at0 ps (4 * k)) (at0 ps (4 * k + 1)) s2 = _ from V]; simp only [obs]
      rw [p3.n]
    by_cases q : vk g ps k = 0
    · refine Or.inl ⟨(I3 (4 * (k + 1)), s2), (hd _).mpr ?_, rfl, p2, ?_⟩
      · rw [if_pos q]; unfold F_23_76; rw [show I3 (4 * k) + 4 = I3 (4 * (k + 1)) from I3_add _ 4]; rfl
      · show vS s2 (vrs g ps (k + 1))
        rw [vrs_s, if_pos q, List.append_nil]; exact p3
    · have wl : (vrs g ps k ++ [vk g ps k]).length = (vrs g ps k).length + 1 := by rw [List.length_append]; rfl
      refine Or.inl ⟨(I3 (4 * (k + 1)), sm_wI (sm_wI s2 37 (vrs g ps k).length (vk g ps k)) 34 6 (I3 ((vrs g ps k).length + 1))), (hd _).mpr ?_, rfl, agr_wI (agr_wI p2 (Or.inr rfl)) (Or.inl ⟨rfl, rfl⟩), ?_⟩
      · rw [if_neg q, p3.n, stI_I (by omega) (by omega)]; simp only [obs]
        unfold F_23_76
        rw [show (sm_wI s2 37 (vrs g ps k).length (vk g ps k)).1 34 6 = s2.1 34 6 from rfl, p3.n, show I3 (vrs g ps k).length + 1 = I3 ((vrs g ps k).length + 1) from I3_add _ 1, show I3 (4 * k) + 4 = I3 (4 * (k + 1)) from I3_add _ 4]; rfl
      · show vS _ (vrs g ps (k + 1))
        rw [vrs_s, if_neg q]
        refine ⟨by rw [wl]; rfl, fun j hj => ?_⟩
        rw [wl] at hj
        show (if j = (vrs g ps k).length then vk g ps k else s2.1 37 j) = _
        by_cases z : j = (vrs g ps k).length
        · rw [if_pos z, z]
          unfold at0; rw [List.getD_eq_getElem?_getD, List.getElem?_append_right (Nat.le_refl _), Nat.sub_self]; rfl
        · rw [if_neg z, p3.v j (by omega)]
          unfold at0; rw [List.getD_eq_getElem?_getD, List.getD_eq_getElem?_getD, List.getElem?_append_left (by omega)]
  · obtain ⟨s1, s2⟩ := s
    obtain ⟨p1, p2, p3⟩ := p1
    have p1 : s1 = I3 (4 * n) := p1
    subst p1
    have S2 := agr_fS37 S op p2
    refine ⟨s2, ?_, p2, p3⟩
    show F_23_7B (I3 (4 * n), s2) = _
    unfold F_23_7B
    rw [show sm_rr G0 s2 34 11 = _ from S2.f11]; simp only [obs]
    rw [if_neg (not_not_intro (S2.w.i s2)), C_rsize S2.w S2.r]; simp only [obs]
    rw [if_pos (by rw [ll, I3_le (by omega) (by omega)]; omega)]; rfl
theorem C_round {h g : sm_H} (K : K1 h g) {t : Nat} {vs : List Int32} (V : vS h vs) (v4 : vs.length ≤ 4) (ht : t < nT g) (e9 : h.1 34 9 = I3 t) {x : Int32} (hx : x = -1 ∨ ∃ y, y < nH g ∧ x = I3 y ∧ tn x = y ∧ x ≠ -1) : F_25 x h = some (b2 (!(decide (x = -1) || fitB (hpl g (tn x)) (vs ++ pl g t) 0 0)), h) := by
  have wT := K.2.2.1
  have w300 : nT g ≤ 300 := wT.1.2
  have t10 : tM g t ≤ 10 := (wT.2.1 t ht).2.1.2
  have lt := pl_len g t
  rcases hx with rfl | ⟨y, y1, y2, y3, y4⟩
  · have e : F_25_2B (-1, 0, h) = some (.inr (0, h)) := by
      unfold F_25_2B
      rw [C45m K]; simp only [obs]
      rw [if_pos (by decide)]
    exact lp_e (n := 1000000) (by decide) e
  · rw [y3, decide_eq_false y4, Bool.false_or, y2]
    have m10 := mn_10 K y1
    have hl := hpl_len g y
    have kx := kL_h K y1
    have wl : (vs ++ pl g t).length = vs.length + tM g t := by rw [List.length_append, lt]
    have L := lp_all (body := F_25_2B) (fun k => decide (0 + k < (vs ++ pl g t).length) && decide (at0 (vs ++ pl g t) (0 + k) = at0 (hpl g y) (0 + k))) ((hpl g y).length - 0) (fun k => (I3 y, I3 k, h)) (1, h) (0, h) (f := 1000000) (by omega) (fun k hk e => ?_) (fun k hk e => ?_) ?_
    · refine Eq.trans (show F_25 (I3 y) h = lp F_25_2B 1000000 (I3 y, I3 0, h) from rfl) (L.trans ?_)
      unfold fitB
      cases all1 (fun k => decide (0 + k < (vs ++ pl g t).length) && decide (at0 (vs ++ pl g t) (0 + k) = at0 (hpl g y) (0 + k))) ((hpl g y).length - 0) <;> rfl
    · rw [Bool.and_eq_true, decide_eq_true_eq, decide_eq_true_eq] at e
      simp only [Nat.zero_add] at e
      show F_25_2B (I3 y, I3 k, h) = _
      unfold F_25_2B F_25_36 F_25_53
      rw [C_mn K y1]; simp only [obs]
      rw [if_neg (by rw [I3_le (by omega) (by omega)]; omega), V.n]
      by_cases q : k < vs.length
      · rw [if_neg (by rw [I3_le (by omega) (by omega)]; omega), if_neg (by rw [I3_lit, I3_le (by decide) (by omega)]; omega), ldI_I (by omega) (by omega), V.v k q]; simp only [obs]
        rw [C_pc K y1 (by omega)]; simp only [obs]
        have e2 := e.2
        rw [at0_app1 q] at e2
        rw [if_pos e2.symm, I3_lit, I3_add]
      · have e2 := e.2
        rw [at0_app2 (Nat.le_of_not_lt q), at0_lst (by omega)] at e2
        have fin : ((F_227 (h.1 34 9) (I3 k - I3 vs.length) h).bind fun q3 => (F_46 (I3 y) (I3 k) q3.2).bind fun q1 => if q1.1 = q3.1 then ((some (I3 k + 1 : Int32)).bind fun v2 => some (.inl (I3 y, v2, q1.2))) else (some (.inr (1, q1.2)) : Option ((Int32 × Int32 × sm_H) ⊕ (Int32 × sm_H)))) = some (.inl (I3 y, I3 (k + 1), h)) := by
          rw [e9, I3_sub (by omega), C_tplace wT K.2.2.2.1 ht (by omega)]; simp only [obs]
          rw [C_pc K y1 (by omega)]; simp only [obs]
          rw [if_pos e2.symm, I3_lit, I3_add]
        simp only [obs] at fin
        rw [if_pos (by rw [I3_le (by omega) (by omega)]; omega)]; exact fin
    · show F_25_2B (I3 y, I3 k, h) = _
      unfold F_25_2B F_25_36 F_25_53
      rw [C_mn K y1]; simp only [obs]
      rw [if_neg (by rw [I3_le (by omega) (by omega)]; omega), V.n]
      simp only [Nat.zero_add] at e
      by_cases q : k < vs.length
      · rw [decide_eq_true (show k < (vs ++ pl g t).length by omega), Bool.true_and, at0_app1 q] at e
        rw [if_neg (by rw [I3_le (by omega) (by omega)]; omega), if_neg (by rw [I3_lit, I3_le (by decide) (by omega)]; omega), ldI_I (by omega) (by omega), V.v k q]; simp only [obs]
        rw [C_pc K y1 (by omega)]; simp only [obs]
        rw [if_neg (fun z => of_decide_eq_false e z.symm)]
      · rw [if_pos (by rw [I3_le (by omega) (by omega)]; omega), e9, I3_sub (by omega)]
        by_cases q1 : k < (vs ++ pl g t).length
        · rw [decide_eq_true q1, Bool.true_and, at0_app2 (Nat.le_of_not_lt q), at0_lst (by omega)] at e
          rw [C_tplace wT K.2.2.2.1 ht (by omega)]; simp only [obs]
          rw [C_pc K y1 (by omega)]; simp only [obs]
          rw [if_neg (fun z => of_decide_eq_false e z.symm)]
        · rw [C_tplace_o wT K.2.2.2.1 ht (by rw [inR_I (by omega)]; exact decide_eq_false (by omega))]; simp only [obs]
          rw [C_pc K y1 (by omega)]; simp only [obs]
          obtain ⟨qk, k1, k2, k3⟩ := kx k (by omega)
          have h12 := K.1.2.1
          rw [k1, if_neg (fun z => I3_m1 (show qk < 2147483648 by omega) z)]
    · show F_25_2B (I3 y, I3 ((hpl g y).length - 0), h) = _
      unfold F_25_2B
      rw [C_mn K y1]; simp only [obs]
      rw [if_pos (by rw [I3_le (by omega) (by omega)]; omega)]
theorem C_init {h g : sm_H} (K : K1 h g) {t n i : Nat} {ps : List Int32} (L : LPt g ps n) (hi : i < n) (ht : t < nT g) (e9 : h.1 34 9 = I3 t) : F_24 (pt ps i 0) (pt ps i 1) h = some (b2 (!(cA g ps i && cE g ps t i)), h) := by
  have wT := K.2.2.1
  show F_24_0 (pt ps i 0) (pt ps i 1) h = _
  unfold F_24_0 F_24_31 F_24_63 F_24_68 cA cE
  simp only [true_or, or_true, if_true]
  refine L.c hi (show 0 < 4 by omega) (fun e0 => ?_) (fun y y1 y2 y3 y4 => ?_)
  · rw [if_pos e0, decide_eq_true e0]; rfl
  · have lx := hpl_len g y
    have A := C_agree K (t := ty g y) (u := t) (i := 0) (j := 0) (ty_lt K y1) ht (by omega) (by omega)
    rw [Nat.sub_zero, pl_len] at A
    have fin : ((F_41 (pt ps i 0) h).bind fun q1 => (F_45 (pt ps i 0) q1.2).bind fun q2 => (F_235 q1.1 0 (q1.2.1 34 9) 0 q2.1 q2.2).bind fun q3 => if q3.1 = 0 then some (1, q3.2) else (some (0, q3.2) : Option (Int32 × sm_H))) = some (b2 (!fitB (hpl g y) (pl g t) 0 0), h) := by
      rw [y2, C_ty K y1]; simp only [obs]
      rw [C_mn K y1]; simp only [obs]
      rw [e9, show F_235 (I3 (ty g y)) 0 (I3 t) 0 (I3 (tM g (ty g y))) h = _ from A]; simp only [obs]
      cases fitB (hpl g y) (pl g t) 0 0 <;> rfl
    rw [if_neg y4, decide_eq_false y4, Bool.false_or, Bool.false_or, y3]
    refine L.c hi (show 1 < 4 by omega) (fun e1 => ?_) (fun w w1 w2 w3 w4 => ?_)
    · rw [if_pos e1, decide_eq_true e1, Bool.true_or, Bool.true_and]; exact fin
    · rw [if_neg w4, decide_eq_false w4, Bool.false_or, w3, show F_44 (pt ps i 1) h = some (hrs g w, h) by rw [w2]; exact C_rs K w1]; simp only [obs]
      rw [show F_44 (pt ps i 0) h = some (hrs g y, h) by rw [y2]; exact C_rs K y1]; simp only [obs]
      by_cases q : hrs g y = hrs g w
      · rw [if_pos q.symm, decide_eq_true q, Bool.true_and]; exact fin
      · rw [if_neg (fun z => q z.symm), decide_eq_false q]; rfl
def lpB (g : sm_H) (ps : List Int32) (t n : Nat) : Bool := all1 (fun i => P1 g ps t i && P2 g (vrs g ps n ++ pl g t) ps t i) n && hasK ps n
theorem C_loop {h g : sm_H} (K : K1 h g) {a : Int32} {c : Int64} {o p n t : Nat} {ps : List Int32} (S : fS h (I3 18) a (I3 t) c o p ps) (V : vS h (vrs g ps n)) (L : LPt g ps n) (ht : t < nT g) : F_22_8 0 0 h = some (b2 (!lpB g ps t n), h) := by
  have n4 := L.n4
  have ll := L.l
  have vl := vrs_len g ps n
  have wT := K.2.2.1
  have LL := lp_all (body := F_22_8B) (fun i => P1 g ps t i && P2 g (vrs g ps n ++ pl g t) ps t i) n (fun k => (b2 (hasK ps k), I3 (4 * k), h)) (1, h) (b2 (!hasK ps n), h) (f := 1000000) (by omega) (fun k hk e => ?_) (fun k hk e => ?_) ?_
  · refine Eq.trans (show F_22_8 0 0 h = lp F_22_8B 1000000 (b2 (hasK ps 0), I3 (4 * 0), h) from rfl) (LL.trans ?_)
    unfold lpB
    cases all1 (fun i => P1 g ps t i && P2 g (vrs g ps n ++ pl g t) ps t i) n <;> rfl
  rotate_left 2
  · show F_22_8B (b2 (hasK ps n), I3 (4 * n), h) = _
    unfold F_22_8B F_22_200
    simp only [true_or, or_true, if_true]
    rw [S.f11]; simp only [obs]
    rw [if_neg (not_not_intro (S.w.i h)), C_rsize S.w S.r]; simp only [obs]
    rw [if_pos (by rw [ll, I3_le (by omega) (by omega)]; omega)]
    cases hasK ps n <;> rfl
  all_goals
    have hd : F_22_8B (b2 (hasK ps k), I3 (4 * k), h) = F_22_79 (I3 (4 * k)) (pt ps k 0) (pt ps k 1) (pt ps k 2) (pt ps k 3) (b2 (hasK ps (k + 1))) h := by
      unfold F_22_8B
      rw [S.f11]; simp only [obs]
      rw [if_neg (not_not_intro (S.w.i h)), C_rsize S.w S.r]; simp only [obs]
      rw [if_neg (by rw [I3_le (by omega) (by omega)]; omega), S.f11]; simp only [obs]
      rw [if_neg (not_not_intro (S.w.i h)), C_rat S.w S.r (by omega)]; simp only [obs]
      rw [S.f11]; simp only [obs]
      rw [if_neg (not_not_intro (S.w.i h)), show I3 (4 * k) + 1 = I3 (4 * k + 1) from I3_add _ 1, C_rat S.w S.r (by omega)]; simp only [obs]
      rw [S.f11]; simp only [obs]
      rw [if_neg (not_not_intro (S.w.i h)), show I3 (4 * k) + 2 = I3 (4 * k + 2) from I3_add _ 2, C_rat S.w S.r (by omega)]; simp only [obs]
      rw [S.f11]; simp only [obs]
      rw [if_neg (not_not_intro (S.w.i h)), show I3 (4 * k) + 3 = I3 (4 * k + 3) from I3_add _ 3, C_rat S.w S.r (by omega)]; simp only [obs]
      rw [hasK_s]
      unfold F_22_74
      cases hasK ps k with
      | true => rw [if_neg (by decide)]; rfl
      | false =>
        rw [if_pos (by decide)]
        by_cases q : pt ps k 2 = -1
        · rw [if_pos (show at0 ps (4 * k + 2) = -1 from q), decide_eq_true q]; rfl
        · rw [if_neg (show ¬ at0 ps (4 * k + 2) = -1 from q), decide_eq_false q]; rfl
    have CI := C_init K L hk ht S.f9
    have R1 := C_round K V (by omega) ht S.f9 (L.h k 1 hk (by omega))
    have R2 := C_round K V (by omega) ht S.f9 (L.h k 2 hk (by omega))
    have R3 := C_round K V (by omega) ht S.f9 (L.h k 3 hk (by omega))
    have nx : I3 (4 * k) + 4 = I3 (4 * (k + 1)) := I3_add _ 4
    have t154 : F_22_154 (b2 (hasK ps (k + 1))) (I3 (4 * k)) (pt ps k 3) h = if cD g ps t k = true then some (.inl (b2 (hasK ps (k + 1)), I3 (4 * (k + 1)), h)) else some (.inr (1, h)) := by
      unfold F_22_154 F_22_185 cD
      rw [nx]
      refine L.c hk (show 3 < 4 by omega) (fun e0 => ?_) (fun y y1 y2 y3 y4 => ?_)
      · rw [if_pos e0, decide_eq_true e0]; rfl
      · rw [if_neg y4, decide_eq_false y4, Bool.false_or, y3, show F_44 (pt ps k 3) h = some (hrs g y, h) by rw [y2]; exact C_rs K y1]; simp only [obs]
        rw [S.f9, C_tres wT K.2.2.2.1 ht]; simp only [obs]
        by_cases q : hrs g y = rs g t
        · rw [if_pos (show hrs g y = g.1 72 t from q), if_pos (decide_eq_true q)]
        · rw [if_neg (show ¬ hrs g y = g.1 72 t from q), if_neg (by rw [decide_eq_true_eq]; exact q)]
    have t92 : F_22_92 (b2 (hasK ps (k + 1))) (I3 (4 * k)) (pt ps k 0) (pt ps k 1) (pt ps k 2) (pt ps k 3) h = if (cA g ps k && cE g ps t k && (cFz g (vrs g ps n ++ pl g t) ps k 1 && (cFz g (vrs g ps n ++ pl g t) ps k 2 && cFz g (vrs g ps n ++ pl g t) ps k 3)) && (cC g ps k && cD g ps t k)) = true then some (.inl (b2 (hasK ps (k + 1)), I3 (4 * (k + 1)), h)) else some (.inr (1, h)) := by
      unfold F_22_92 F_22_131 F_22_102
      rw [CI]; simp only [obs]
      cases cA g ps k && cE g ps t k with
      | false => rfl
      | true =>
        rw [if_pos (by decide), R1]; simp only [obs]
        unfold cFz
        cases (decide (pt ps k 1 = -1) || fitB (hpl g (tn (pt ps k 1))) (vrs g ps n ++ pl g t) 0 0) with
        | false => rfl
        | true =>
          rw [if_pos (by decide), R2]; simp only [obs]
          cases (decide (pt ps k 2 = -1) || fitB (hpl g (tn (pt ps k 2))) (vrs g ps n ++ pl g t) 0 0) with
          | false => rfl
          | true =>
            rw [if_pos (by decide), R3]; simp only [obs]
            cases (decide (pt ps k 3 = -1) || fitB (hpl g (tn (pt ps k 3))) (vrs g ps n ++ pl g t) 0 0) with
            | false => rfl
            | true =>
              rw [if_pos (by decide), t154]
              simp only [Bool.true_and]
              refine L.c hk (show 2 < 4 by omega) (fun e0 => ?_) (fun y y1 y2 y3 y4 => ?_)
              · rw [if_pos e0, show cC g ps k = true by unfold cC; rw [decide_eq_true e0]; rfl, Bool.true_and]
              · rw [if_neg y4, show F_44 (pt ps k 2) h = some (hrs g y, h) by rw [y2]; exact C_rs K y1]; simp only [obs]
                by_cases q : hrs g y = 1
                · rw [if_pos q, t154, show cC g ps k = true by unfold cC; rw [y3, decide_eq_true q, Bool.or_true], Bool.true_and]
                · rw [if_neg q, show cC g ps k = false by unfold cC; rw [y3, decide_eq_false q, decide_eq_false y4]; rfl]; rfl
    have t79 : F_22_8B (b2 (hasK ps k), I3 (4 * k), h) = if (P1 g ps t k && P2 g (vrs g ps n ++ pl g t) ps t k) = true then some (.inl (b2 (hasK ps (k + 1)), I3 (4 * (k + 1)), h)) else some (.inr (1, h)) := by
      rw [hd]
      unfold F_22_79 F_22_102
      rw [t92]
      unfold P1 P2
      by_cases q3 : pt ps k 3 = -1
      · rw [if_pos q3, show cB ps k = true by unfold cB; rw [decide_eq_true q3]; rfl]
        cases cA g ps k <;> cases cE g ps t k <;> cases cC g ps k <;> cases cD g ps t k <;> simp
      · rw [if_neg q3]
        by_cases q2 : pt ps k 2 = -1
        · rw [if_pos q2, show cB ps k = false by unfold cB; rw [decide_eq_true q2, decide_eq_false q3]; rfl]
          cases cA g ps k <;> rfl
        · rw [if_neg q2, show cB ps k = true by unfold cB; rw [decide_eq_false q2]; simp]
          cases cA g ps k <;> cases cE g ps t k <;> cases cC g ps k <;> cases cD g ps t k <;> simp
    show F_22_8B (b2 (hasK ps k), I3 (4 * k), h) = _
    rw [t79]
    simp only [e]
    rfl
