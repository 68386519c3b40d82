theorem all1_succ (p : Nat → Bool) (n : Nat) : all1 p (n + 1) = (all1 p n && p n) := by
  have e : (all1 p (n + 1) = true) ↔ ((all1 p n && p n) = true) := by
    rw [Bool.and_eq_true, all1_iff, all1_iff]
    exact ⟨fun h => ⟨fun k hk => h k (by omega), h n (by omega)⟩, fun h k hk => by
      rcases (show k < n ∨ k = n by omega) with z | z
      · exact h.1 k z
      · rw [z]; exact h.2⟩
  cases h1 : all1 p (n + 1) <;> cases h2 : (all1 p n && p n)
  · rfl
  · rw [h1, h2] at e; exact absurd (e.mpr rfl) (by decide)
  · rw [h1, h2] at e; exact absurd (e.mp rfl) (by decide)
  · rfl
theorem all1_0 (p : Nat → Bool) : all1 p 0 = true := all1_iff.mpr (fun k hk => by omega)
theorem C_type {u g : sm_H} (K : K1 u g) {l : List Int32} (d : dC u l) {t : Nat} (ht : t < nT g) (hl : l.length ≤ 100) : ∃ u1, F_31 (I3 t) u = some (rs g t, u1) ∧ dC u1 (l ++ pl g t) ∧ agr SCd u u1 := by
  have wT := K.2.2.1
  obtain ⟨u1, c1, c2, c3⟩ := C_withPlaces K d hl ht (Nat.le_refl (tM g t)) (show 0 ≤ 1000 by omega)
  have K2 := K1_h K (agr_mono SCd_not c3)
  have T1 : F_226 (I3 t) u = some (I3 (tM g t), u) := by have := C_tmany wT K.2.2.2.1 ht; rw [(wT.2.1 t ht).2.1.1] at this; exact this
  have T2 := C_tres wT K2.2.2.2.1 ht
  rw [Nat.sub_zero, ← pl_len, seg_all] at c2
  refine ⟨u1, ?_, c2, c3⟩
  show F_31_0 (I3 t) u = _
  unfold F_31_0
  rw [T1]; simp only [obs]
  rw [show F_230 (I3 t) 0 (I3 (tM g t)) u = some u1 from c1]; simp only [obs]
  rw [T2]; rfl
def stB (ps : List Int32) : Bool := all1 (fun k => decide (at0 ps (k + 1) = I3 k)) (ps.length - 1)
theorem C_stays {h2 : sm_H} {o p : Nat} {ps : List Int32} (w : isRw o p) (r : hasL h2 o p ps) (f11 : sm_rr G0 h2 34 11 = some o) (hl : 0 < ps.length) : F_28 h2 = some (b2 (stB ps), h2) := by
  have l20 := r.2.1
  have L := lp_all (body := F_28_2B) (fun k => decide (at0 ps (k + 1) = I3 k)) (ps.length - 1) (fun k => (I3 (k + 1), h2)) (0, h2) (1, h2) (f := 1000000) (by omega) (fun k hk e => ?_) (fun k hk e => ?_) ?_
  · refine Eq.trans (show F_28 h2 = lp F_28_2B 1000000 (I3 (0 + 1), h2) from rfl) (L.trans ?_)
    unfold stB
    cases all1 (fun k => decide (at0 ps (k + 1) = I3 k)) (ps.length - 1) <;> rfl
  · show F_28_2B (I3 (k + 1), h2) = _
    unfold F_28_2B
    rw [f11]; simp only [obs]
    rw [if_neg (not_not_intro (w.i h2)), C_rsize w r]; simp only [obs]
    rw [if_neg (by rw [I3_le (by omega) (by omega)]; omega), f11]; simp only [obs]
    rw [if_neg (not_not_intro (w.i h2)), C_rat w r (by omega)]; simp only [obs]
    rw [show I3 (k + 1) - 1 = I3 k from I3_sub (a := k + 1) (b := 1) (by omega), if_pos (of_decide_eq_true e), I3_lit, I3_add]
  · show F_28_2B (I3 (k + 1), h2) = _
    unfold F_28_2B
    rw [f11]; simp only [obs]
    rw [if_neg (not_not_intro (w.i h2)), C_rsize w r]; simp only [obs]
    rw [if_neg (by rw [I3_le (by omega) (by omega)]; omega), f11]; simp only [obs]
    rw [if_neg (not_not_intro (w.i h2)), C_rat w r (by omega)]; simp only [obs]
    rw [show I3 (k + 1) - 1 = I3 k from I3_sub (a := k + 1) (b := 1) (by omega), if_neg (of_decide_eq_false e)]
  · show F_28_2B (I3 (ps.length - 1 + 1), h2) = _
    unfold F_28_2B
    rw [f11]; simp only [obs]
    rw [if_neg (not_not_intro (w.i h2)), C_rsize w r]; simp only [obs]
    rw [if_pos (by rw [I3_le (by omega) (by omega)]; omega)]
theorem R_stays {h g2 : sm_H} (K2 : K1 h g2) {t x : Nat} (ht : t < nT g2) (hx : x < nH g2) {ps : List Int32} (P : prR g2 ps) (hl : 0 < ps.length) :
    (t = ty g2 x ∧ stB ps = true ∧ F_319_275 (I3 t) (I3 x) g2 = some (-1 - I3 x, g2)) ∨ (¬ (t = ty g2 x ∧ stB ps = true) ∧ ∃ g3, F_319_275 (I3 t) (I3 x) g2 = some (0, g3) ∧ E h g2 g3 (rs g2 t) (pl g2 t)) := by
  have w300 : nT g2 ≤ 300 := K2.2.2.1.1.2
  have l20 := P.2.1
  have tx := ty_lt K2 hx
  obtain ⟨g0, f1, E0⟩ := E_clear K2 (rs g2 t)
  obtain ⟨g1, f2, E1⟩ := E_type E0 ht (by decide)
  rw [List.nil_append] at E1
  have lo : ∀ f0 : Bool, F_319_294 (I3 t) (I3 x) (b2 f0) 1 g2 = some (bif f0 && stB ps then (-1 - I3 x, g2) else (0, g1)) := fun f0 => by
    have L := lp_ex (body := F_319_294B) (P := fun k s => s = (I3 t, I3 x, b2 (f0 && all1 (fun k => decide (at0 ps (k + 1) = I3 k)) k), I3 (k + 1), g2)) (Q := fun r => r = bif f0 && stB ps then (-1 - I3 x, g2) else (0, g1)) (ps.length - 1) (fun k s hk p1 => ?_) (fun s p1 => ?_) (I3 t, I3 x, b2 f0, I3 1, g2) 1000000 (by rw [all1_0, Bool.and_true]) (by omega)
    · obtain ⟨r, e1, e2⟩ := L
      rw [← e2]; exact e1
    · subst p1
      refine Or.inl ⟨_, ?_, rfl⟩
      show F_319_294B (I3 t, I3 x, b2 (f0 && all1 (fun k => decide (at0 ps (k + 1) = I3 k)) k), I3 (k + 1), g2) = _
      unfold F_319_294B F_319_325 F_319_326
      rw [if_neg (by rw [P.1, I3_le (by omega) (by omega)]; omega), all1_succ]; simp only [obs]
      cases i : f0 && all1 (fun k => decide (at0 ps (k + 1) = I3 k)) k with
      | false =>
        rw [if_pos (by decide), ← Bool.and_assoc, i, show I3 (k + 1) + 1 = I3 (k + 1 + 1) from I3_add (k + 1) 1]; rfl
      | true =>
        rw [if_neg (by decide), ← Bool.and_assoc, i, prR_ld P (by omega)]; simp only [obs]
        rw [show I3 (k + 1) - 1 = I3 k from I3_sub (a := k + 1) (b := 1) (by omega), show I3 (k + 1) + 1 = I3 (k + 1 + 1) from I3_add (k + 1) 1]
        by_cases q : at0 ps (k + 1) = I3 k
        · rw [if_pos q, decide_eq_true q]; rfl
        · rw [if_neg q, decide_eq_false q]; rfl
    · subst p1
      show ∃ r, F_319_294B (I3 t, I3 x, b2 (f0 && stB ps), I3 (ps.length - 1 + 1), g2) = some (.inr r) ∧ _
      refine ⟨_, ?_, rfl⟩
      unfold F_319_294B
      rw [if_pos (by rw [P.1, I3_le (by omega) (by omega)]; omega)]
      cases f0 && stB ps with
      | false =>
        rw [if_pos (show b2 false = 0 by decide), ldI_I (by omega) (by omega)]; simp only [obs]
        rw [show F_308 (g2.1 72 t) g2 = some g0 from f1]; simp only [obs]
        rw [f2]; rfl
      | true => rw [if_neg (show ¬ b2 true = 0 by decide)]; rfl
  have e0 : F_319_275 (I3 t) (I3 x) g2 = some (bif decide (t = ty g2 x) && stB ps then (-1 - I3 x, g2) else (0, g1)) := by
    unfold F_319_275 F_319_290
    rw [R_ty K2 hx]; simp only [obs]
    by_cases q : t = ty g2 x
    · rw [if_pos (by rw [q]), decide_eq_true q]; exact lo true
    · rw [if_neg (by rw [I3_inj (by omega) (by omega)]; exact fun z => q z.symm), decide_eq_false q]; exact lo false
  by_cases q : t = ty g2 x ∧ stB ps = true
  · rw [decide_eq_true q.1, q.2] at e0
    exact Or.inl ⟨q.1, q.2, e0⟩
  · refine Or.inr ⟨q, g1, ?_, E1⟩
    rw [e0]
    have : (decide (t = ty g2 x) && stB ps) = false := by
      cases i : decide (t = ty g2 x) && stB ps with
      | false => rfl
      | true =>
        rw [Bool.and_eq_true, decide_eq_true_eq] at i
        exact absurd i q
    rw [this]; rfl
theorem pl_agr {g u : sm_H} (a : agr SRp g u) (t : Nat) : pl u t = pl g t := by
  have e : tM u t = tM g t := by show tn _ = tn _; rw [a.1 73 t (by unfold SRp; omega)]
  show lst _ (tM u t) = lst _ (tM g t)
  rw [e]; exact lst_congr (fun k _ => a.1 74 _ (by unfold SRp; omega))
theorem prR_SRd' {g u : sm_H} {ps : List Int32} (P : prR g ps) (a : agr SRd g u) : prR u ps := prR_SRd P a
theorem mk5_end {h g h2 g2 : sm_H} (K : K1 h g) {a : Int32} {c : Int64} {o p o' p' t x : Nat} {ps ps' : List Int32} (S : fS h (I3 5) 0 (I3 t) 0 o p ps) (ht : t < nT g) (hx : x < nH g) (c7 : F_7 h = some (0, h)) (n9 : F_9 h = some (0, h)) (n11 : F_11 h = some (0, h)) (n14 : F_14 h = some (0, h))
    (J : F_27 h = some h2) (ag : agr Ssc h h2) (e7 : h2.1 34 7 = I3 5) (e8 : h2.1 34 8 = 0) (e9 : h2.1 34 9 = I3 t) (e10 : h2.2.1 34 10 = 0) (e11 : sm_rr G0 h2 34 11 = some o') (e12 : h2.1 34 12 = I3 x) (w : isRw o' p') (op : oP o' p') (r : hasL h2 o' p' ps') (hl : 0 < ps'.length)
    (RJ : F_336 (I3 5) a (I3 t) c g = (F_319_275 (I3 t) (I3 x) g2).bind fun q => some (q.1, q.2)) (bg : agr SRp g g2) (P : prR g2 ps') (fs : FS g 5 0 (I3 t) 0 ps' (rs g t) (pl g t)) : ∃ out, OC h (I3 5) 0 (I3 t) 0 out ∧ OR g (I3 5) a (I3 t) c out ∧ OK g 5 0 (I3 t) 0 out := by
  have wT := K.2.2.1
  have w500 : nH g ≤ 500 := K.2.2.2.2.1.1.2
  have w300 : nT g ≤ 300 := wT.1.2
  have K2 : K1 h2 g := K1_h K (agr_mono Ssc_not ag)
  have KG : K1 h g2 := K1_g K (agr_mono SRp_not bg)
  have nt : nT g2 = nT g := by show tn _ = tn _; rw [bg.1 67 10 (by unfold SRp; omega)]
  have nh : nH g2 = nH g := by show tn _ = tn _; rw [bg.1 67 18 (by unfold SRp; omega)]
  have et : ty g2 x = ty g x := by show tn _ = tn _; rw [bg.1 76 x (by unfold SRp; omega)]
  have tx := ty_lt K hx
  have t10 : (pl g t).length ≤ 10 := by rw [pl_len]; exact (wT.2.1 t ht).2.1.2
  have n26 : F_26 h = some (if t = ty g x ∧ stB ps' = true then I3 x else -1, h2) := by
    rw [B26_5 S.f7, J]; simp only [obs]
    rw [e12, C_ty K2 hx, e9]; simp only [obs]
    by_cases q : t = ty g x
    · rw [if_pos (by rw [q]), C_stays w r e11 hl]; simp only [obs]
      cases i : stB ps' with
      | false => rw [if_pos (by decide), if_neg (show ¬ (t = ty g x ∧ false = true) from fun z => absurd z.2 (by decide))]; rfl
      | true =>
        rw [if_neg (by decide), if_pos ⟨q, rfl⟩, e12]; rfl
    · rw [if_neg (by rw [I3_inj (by omega) (by omega)]; exact q), if_neg (fun z => q z.1)]; rfl
  rcases R_stays KG (t := t) (x := x) (by rw [nt]; exact ht) (by rw [nh]; exact hx) P hl with ⟨q1, q2, q3⟩ | ⟨q, g3, q3, E3⟩
  · rw [et] at q1
    rw [if_pos ⟨q1, q2⟩] at n26
    rw [q3] at RJ
    exact ⟨.smp x, tl_5 (by omega) c7 n9 n11 n14 n26 ag, ⟨g2, RJ, bg⟩, hx⟩
  · rw [et] at q
    rw [if_neg q] at n26
    rw [q3] at RJ
    obtain ⟨u, d1, d2, d3⟩ := C_begin h2
    have Ku := K1_h K2 (agr_mono SCd_not d3)
    obtain ⟨u1, v1, v2, v3⟩ := C_type Ku d2 ht (by decide)
    rw [List.nil_append] at v2
    have e34 : ∀ j, u.1 34 j = h2.1 34 j := fun j => d3.1 34 j (by unfold SCd; omega)
    have n45 := C_mn Ku hx
    have hu := hasL_agr (hasL_agr r d3 (fun j => by unfold SCd; omega)) v3 (fun j => by unfold SCd; omega)
    have er : rs g2 t = rs g t := bg.1 72 t (by unfold SRp; omega)
    have dd := E3.d
    have rr := E3.r
    rw [pl_agr bg] at dd
    rw [er] at rr
    refine ⟨.fin (rs g t) (pl g t) ps' o' p', tl_6 w c7 n9 n11 n14 n26 e7 e8 e9 e10 e11 ?_ v2 hu op (agr_trans ag (Ssc_d (agr_trans d3 v3))), ⟨g3, RJ, dd, rr, prR_SRd P E3.a, agr_trans bg (agr_mono SRd_p E3.a)⟩, ⟨fs, kR1_rs wT ht, kL_pl wT ht, by omega⟩⟩
    rw [B29_5 d1 ((e34 7).trans e7) (((e34 12).trans e12) ▸ n45)]; unfold F_29_411
    rw [e34, e9, v1]; rfl
