def rowB (a : Int32) : Bool := decide (a = 15 ∨ a = 16 ∨ a = 17)
theorem rowB_x {a : Int32} (h : rowB a = true) : ∃ k, 15 ≤ k ∧ k ≤ 17 ∧ a = I3 k := by
  rcases of_decide_eq_true h with rfl | rfl | rfl
  · exact ⟨15, by decide, by decide, rfl⟩
  · exact ⟨16, by decide, by decide, rfl⟩
  · exact ⟨17, by decide, by decide, rfl⟩
theorem rowB_I {a : Nat} (ha : a < 2147483648) : rowB (I3 a) = decide (15 ≤ a ∧ a ≤ 17) := by
  unfold rowB
  congr 1
  simp only [I3_lit, I3_inj ha (show 15 < 2147483648 by decide), I3_inj ha (show 16 < 2147483648 by decide), I3_inj ha (show 17 < 2147483648 by decide)]
  exact propext ⟨by omega, by omega⟩
theorem rowB_n {a : Int32} (h : a < 0) : rowB a = false := by
  unfold rowB
  rw [decide_eq_false_iff_not]
  rintro (q | q | q) <;> · rw [q] at h; exact absurd h (by decide)
theorem lt_of_neg {a : Int32} (h : a < 0) {n : Nat} (hn : n < 2147483648) : a < I3 n := neg_lt_I3 h hn
theorem C_isRowX (h : sm_H) (a : Int32) : F_59 a h = some (b2 (rowB a), h) := by
  rcases I3_cases a with ⟨k, hk, rfl⟩ | q
  · rw [C_isRow hk, rowB_I hk]
  · rw [rowB_n q]
    show F_59_0 a h = _
    unfold F_59_0
    rw [if_pos (show a < (15 : Int32) from neg_lt_I3 q (a := 15) (by decide))]; rfl
theorem R_isRowX (h : sm_H) (a : Int32) : F_293 a h = some (b2 (rowB a), h) := by
  rcases I3_cases a with ⟨k, hk, rfl⟩ | q
  · rw [R_isRow hk, rowB_I hk]
  · rw [rowB_n q]
    show F_293_0 a h = _
    unfold F_293_0
    rw [if_pos (show a < (15 : Int32) from neg_lt_I3 q (a := 15) (by decide))]; rfl
theorem R_elem (h : sm_H) {k : Nat} (k1 : 15 ≤ k) (k2 : k ≤ 17) : F_294 (I3 k) h = some (I3 (k - 10), h) := by
  rcases (show k = 15 ∨ k = 16 ∨ k = 17 by omega) with rfl | rfl | rfl <;> rfl
theorem len_a1 {l : List Int32} {x : Int32} : (l ++ [x]).length = l.length + 1 := by simp
theorem D_chg {h u g : sm_H} {f a b : Int32} {c : Int64} {o p : Nat} {ps l : List Int32} (d : D h u g f a b c o p ps l) (op : o = 35 ∧ p = 36 ∨ o = 56 ∧ p = 57 ∨ o = 64 ∧ p = 65) (e : Int32) {w : Nat} (w1 : 4 ≤ w) (w2 : w ≤ 8) (hl : l.length < 90) : ∃ u1, F_33 e (I3 w) u = some (chgR e w, u1) ∧ D h u1 g f a b c o p ps (l ++ chgL e w) := by
  obtain ⟨u1, v1, D1⟩ := D_with d op e (by omega)
  obtain ⟨u2, v2, D2⟩ := D_with D1 op e (by rw [len_a1]; omega)
  rcases (show w = 4 ∨ w = 5 ∨ w = 6 ∨ w = 7 ∨ w = 8 by omega) with rfl | rfl | rfl | rfl | rfl
  · exact ⟨u, rfl, by rw [show chgL e 4 = [] from rfl, List.append_nil]; exact d⟩
  · refine ⟨u1, ?_, D1⟩
    show F_33_0 e (I3 5) u = _
    unfold F_33_0
    rw [if_neg (by decide), v1]; rfl
  · refine ⟨u1, ?_, D1⟩
    show F_33_0 e (I3 6) u = _
    unfold F_33_0
    rw [if_neg (by decide), v1]; rfl
  · refine ⟨u2, ?_, by rw [List.append_assoc] at D2; exact D2⟩
    show F_33_0 e (I3 7) u = _
    unfold F_33_0
    rw [if_neg (by decide), v1]; simp only [Option.bind_some]
    unfold F_33_13
    rw [if_pos (by decide), v2]; rfl
  · refine ⟨u1, ?_, D1⟩
    show F_33_0 e (I3 8) u = _
    unfold F_33_0
    rw [if_neg (by decide), v1]; rfl
theorem n9_350 {h : sm_H} {a : Int32} (e8 : h.1 34 8 = a) : F_9_350 h = some (b2 (!rowB a), h) := by
  unfold F_9_350
  rw [e8, C_isRowX]; simp only [Option.bind_some, F_9_369, true_or, or_true, if_true]
  exact notb h _
theorem n9_272 {h g : sm_H} (K : K1 h g) {b : Int32} (e9 : h.1 34 9 = b) : F_9_272 h = some (b2 (!inR b (nT g)), h) := by
  unfold F_9_272
  rw [e9, C_hasT K.2.2.1 K.2.2.2.1]; simp only [Option.bind_some, F_9_291, true_or, or_true, if_true]
  exact notb h _
theorem D_row {h u g : sm_H} {f k : Nat} {b : Int32} {c : Int64} {o p : Nat} {ps : List Int32} (f1 : 22 ≤ f) (f2 : f ≤ 26) (k1 : 15 ≤ k) (k2 : k ≤ 17) (d : D h u g (I3 f) (I3 k) b c o p ps []) (op : o = 35 ∧ p = 36 ∨ o = 56 ∧ p = 57 ∨ o = 64 ∧ p = 65) : ∃ u1, F_32_304 u = some (chgR (I3 (k - 10)) (f - 18), u1) ∧ D h u1 g (I3 f) (I3 k) b c o p ps (I3 k :: 5 :: chgL (I3 (k - 10)) (f - 18)) := by
  obtain ⟨u1, v1, D1⟩ := D_with d op (I3 k) (by decide)
  obtain ⟨u2, v2, D2⟩ := D_with D1 op 5 (Nat.le_of_ble_eq_true rfl)
  obtain ⟨u3, v3, D3⟩ := D_chg D2 op (I3 (k - 10)) (w := f - 18) (by omega) (by omega) (Nat.le_of_ble_eq_true rfl)
  refine ⟨u3, ?_, D3⟩
  unfold F_32_304
  rw [d.s.f8, v1]; simp only [Option.bind_some]
  rw [v2]; simp only [Option.bind_some]
  rw [D2.s.f8, C_elem k1 k2]; simp only [Option.bind_some]
  rw [D2.s.f7]
  have : I3 f - 22 + 4 = I3 (f - 18) := by
    rw [I3_lit, I3_lit, I3_sub (by omega), I3_add]
    show I3 (f - 22 + 4) = _
    congr 1; omega
  rw [this, v3]; rfl
theorem R_row (g : sm_H) {f k : Nat} (f1 : 22 ≤ f) (f2 : f ≤ 26) (k1 : 15 ≤ k) (k2 : k ≤ 17) : ∃ g1, F_334_28 (I3 f) (I3 k) g = some (0, g1) ∧ dR g1 (I3 k :: 5 :: chgL (I3 (k - 10)) (f - 18)) ∧ agr SRd g g1 ∧ g1.1 67 20 = chgR (I3 (k - 10)) (f - 18) := by
  have E := R_elem g k1 k2
  revert E
  generalize I3 (k - 10) = x
  intro E
  obtain ⟨g0, g1, g2, y1, y2, y3, y4, y5, y6⟩ := rr_2 g (chgR (x) (f - 18)) (I3 k) 5
  obtain ⟨g3, z1, z2, z3, z4⟩ := R_addNew y4 (Nat.le_of_ble_eq_true rfl) (x)
  obtain ⟨g4, x1, x2, x3, x4⟩ := R_addNew z2 (Nat.le_of_ble_eq_true rfl) (x)
  have e : ∀ (r : Int32) (X : Option (Int32 × sm_H)), F_308 r g = some g0 → (I3 f = 22 → F_334_120 (I3 f) (x) g2 = X) → (I3 f ≠ 22 → F_334_120 (I3 f) (x) g3 = X) → F_334_75 (I3 f) (I3 k) (x) r g = X := fun r X e1 e2 e3 => by
    unfold F_334_75
    rw [e1]; simp only [Option.bind_some]
    rw [if_neg (by rw [I3_lit, I3_inj (by omega) (by decide)]; omega), y2]; simp only [Option.bind_some]
    rw [if_neg (by rw [I3_lit, I3_inj (by omega) (by decide)]; omega), y3]; simp only [Option.bind_some]
    by_cases q : I3 f = 22
    · rw [if_pos q]; exact e2 q
    · rw [if_neg q, z1]; simp only [Option.bind_some]; exact e3 q
  unfold F_334_28
  rw [E]; simp only [Option.bind_some]
  rcases (show f = 22 ∨ f = 23 ∨ f = 24 ∨ f = 25 ∨ f = 26 by omega) with rfl | rfl | rfl | rfl | rfl
  · have cr : chgR x (22 - 18) = x := by unfold chgR; simp
    have cl : chgL x (22 - 18) = [] := by unfold chgL; simp
    rw [cr] at y1 y6; rw [cr, cl, if_neg (by decide), if_neg (by decide), if_neg (by decide), if_neg (by decide)]
    refine ⟨g2, e _ (some (0, g2)) y1 (fun _ => ?_) (fun z => absurd rfl z), y4, y5, y6⟩
    unfold F_334_120; rw [if_neg (by decide)]; rfl
  · have cr : chgR x (23 - 18) = 0 := by unfold chgR; simp
    have cl : chgL x (23 - 18) = [x] := by unfold chgL; simp
    rw [cr] at y1 y6; rw [cr, cl, if_neg (by decide), if_neg (by decide), if_pos (by decide)]
    refine ⟨g3, e _ (some (0, g3)) y1 (fun z => absurd z (by decide)) (fun _ => ?_), z2, agr_trans y5 z3, z4.trans y6⟩
    unfold F_334_120; rw [if_neg (by decide)]; rfl
  · have cr : chgR x (24 - 18) = x := by unfold chgR; simp
    have cl : chgL x (24 - 18) = [x] := by unfold chgL; simp
    rw [cr] at y1 y6; rw [cr, cl, if_neg (by decide), if_neg (by decide), if_neg (by decide), if_neg (by decide)]
    refine ⟨g3, e _ (some (0, g3)) y1 (fun z => absurd z (by decide)) (fun _ => ?_), z2, agr_trans y5 z3, z4.trans y6⟩
    unfold F_334_120; rw [if_neg (by decide)]; rfl
  · have cr : chgR x (25 - 18) = 1 := by unfold chgR; simp
    have cl : chgL x (25 - 18) = [x, x] := by unfold chgL; simp
    rw [cr] at y1 y6; rw [cr, cl, if_neg (by decide), if_neg (by decide), if_neg (by decide), if_pos (by decide)]
    refine ⟨g4, e _ (some (0, g4)) y1 (fun z => absurd z (by decide)) (fun _ => ?_), x2, agr_trans (agr_trans y5 z3) x3, (x4.trans z4).trans y6⟩
    unfold F_334_120; rw [if_pos (by decide), x1]; rfl
  · have cr : chgR x (26 - 18) = x := by unfold chgR; simp
    have cl : chgL x (26 - 18) = [x] := by unfold chgL; simp
    rw [cr] at y1 y6; rw [cr, cl, if_neg (by decide), if_neg (by decide), if_neg (by decide), if_neg (by decide)]
    refine ⟨g3, e _ (some (0, g3)) y1 (fun z => absurd z (by decide)) (fun _ => ?_), z2, agr_trans y5 z3, z4.trans y6⟩
    unfold F_334_120; rw [if_neg (by decide)]; rfl
theorem okRow {g : sm_H} {f k : Nat} (f1 : 22 ≤ f) (f2 : f ≤ 26) (k1 : 15 ≤ k) (k2 : k ≤ 17) (k3 : f = 26 → k ≠ 17) : FS g f (I3 k) 0 0 [] (chgR (I3 (k - 10)) (f - 18)) (I3 k :: 5 :: chgL (I3 (k - 10)) (f - 18)) ∧ kR1 g (chgR (I3 (k - 10)) (f - 18)) ∧ kL g (I3 k :: 5 :: chgL (I3 (k - 10)) (f - 18)) ∧ (I3 k :: 5 :: chgL (I3 (k - 10)) (f - 18)).length ≤ 64 := by
  have ke := kL_1 (g := g) (q := k - 10) (by omega) (by omega)
  have h1 : kL g (chgL (I3 (k - 10)) (f - 18)) ∧ (chgL (I3 (k - 10)) (f - 18)).length ≤ 2 := by
    rcases (show f = 22 ∨ f = 23 ∨ f = 24 ∨ f = 25 ∨ f = 26 by omega) with rfl | rfl | rfl | rfl | rfl
    · exact ⟨kL_0, Nat.le_of_ble_eq_true rfl⟩
    · exact ⟨ke, Nat.le_of_ble_eq_true rfl⟩
    · exact ⟨ke, Nat.le_of_ble_eq_true rfl⟩
    · exact ⟨kL_app ke ke, Nat.le_of_ble_eq_true rfl⟩
    · exact ⟨ke, Nat.le_of_ble_eq_true rfl⟩
  refine ⟨?_, ?_, kL_app (kL_1 (by omega) (by omega)) (kL_app (kL_1 (q := 5) (by omega) (by omega)) h1.1), by simp only [List.length_cons]; omega⟩
  · refine Or.inr (Or.inr (Or.inr (Or.inr (Or.inr (Or.inr (Or.inr (Or.inr (Or.inr (Or.inr (Or.inr (Or.inr (Or.inr (Or.inr (Or.inr (Or.inr (Or.inr (Or.inr (Or.inr (Or.inl ⟨by omega, f2, rfl, k, k1, k2, rfl, k3, ?_, ?_, fun _ => ⟨rfl, rfl⟩⟩)))))))))))))))))))
    · omega
    · omega
  · rcases (show f = 22 ∨ f = 23 ∨ f = 24 ∨ f = 25 ∨ f = 26 by omega) with rfl | rfl | rfl | rfl | rfl
    · exact ⟨_, rfl, by omega⟩
    · exact ⟨0, rfl, by omega⟩
    · exact ⟨_, rfl, by omega⟩
    · exact ⟨1, rfl, by omega⟩
    · exact ⟨_, rfl, by omega⟩
abbrev oP (o p : Nat) : Prop := o = 35 ∧ p = 36 ∨ o = 56 ∧ p = 57 ∨ o = 64 ∧ p = 65
theorem mkRow {h g : sm_H} (K : K1 h g) {f : Nat} (f1 : 22 ≤ f) (f2 : f ≤ 26) {a : Int32} {o p : Nat} {ps : List Int32} (S : fS h (I3 f) a 0 0 o p ps) (op : oP o p) (P : prR g ps) (b : Int32) (c : Int64) (pn : sm_ldI G0 h 1000001 (I3 f) = some (I3 0)) (cd : Bool) (c1 : cd = (rowB a && !(decide (f = 26) && decide (a = 17))))
    (b9 : F_9 h = some (b2 (!cd), h)) (b11 : ∀ v, F_45 (h.1 34 12) h = some (v, h) → F_11 h = some (0, h)) (b14 : F_14 h = some (0, h)) (b26 : F_26 h = some (-1, h)) (b29 : ∀ {u : sm_H} {v : Int32}, F_228 h = some u → u.1 34 7 = I3 f → F_45 (u.1 34 12) u = some (v, u) → F_29 h = F_29_461 u) (b32 : ∀ {u : sm_H}, u.1 34 7 = I3 f → F_32 u = F_32_304 u) (b336 : F_336 (I3 f) a b c g = F_336_250 (I3 f) a g) : ∃ out, OC h (I3 f) a 0 0 out ∧ OR g (I3 f) a b c out ∧ OK g f a 0 0 out := by
  have nf : ∀ n, n < 22 → I3 f ≠ I3 n := fun n hn => by rw [Ne, I3_inj (by omega) (by omega)]; omega
  refine genA (r := chgR (I3 (tn a - 10)) (f - 18)) (l := a :: 5 :: chgL (I3 (tn a - 10)) (f - 18)) K S op P (nf 5 (by decide)) (nf 18 (by decide)) (nf 17 (by decide)) pn cd (fun _ => b9) (fun z => ?_) b14 b26 (fun z kv => ?_) (fun z => ?_) (fun z kv => ?_) (fun z kv => ?_) (fun kv => ?_)
  · subst z; exact b11 _ (n11d K S)
  · subst z
    rw [c1, Bool.and_eq_true] at kv
    obtain ⟨k, k1, k2, rfl⟩ := rowB_x kv.1
    rw [show tn (I3 k) = k from I3_clamp (by omega)]
    obtain ⟨u, d1, D0⟩ := D_begin K S op
    obtain ⟨u1, d2, D1⟩ := D_row f1 f2 k1 k2 D0 op
    refine ⟨u1, ?_, D1.d, D1.a⟩
    rw [b29 d1 D0.s.f7 (n11d D0.k D0.s)]; unfold F_29_461
    rw [b32 D0.s.f7, d2]; rfl
  · rw [b336]; unfold F_336_250
    show ((F_334_0 (I3 f) a g).bind fun q2 => some (q2.1, q2.2)) = _
    unfold F_334_0
    rw [if_neg z]; rfl
  · refine ⟨g, ?_, agr_rfl⟩
    rw [b336]; unfold F_336_250
    show ((F_334_0 (I3 f) a g).bind fun q2 => some (q2.1, q2.2)) = _
    unfold F_334_0
    rw [if_pos z, R_isRowX]; simp only [Option.bind_some]
    rw [c1] at kv
    cases i : rowB a with
    | false => rfl
    | true =>
      rw [i, Bool.true_and, Bool.not_eq_false', Bool.and_eq_true] at kv
      rw [if_neg (by decide), if_pos (by rw [of_decide_eq_true kv.1]; rfl), if_pos (of_decide_eq_true kv.2)]; rfl
  · rw [c1, Bool.and_eq_true] at kv
    have kv1 := kv.1
    obtain ⟨k, k1, k2, rfl⟩ := rowB_x kv.1
    rw [show tn (I3 k) = k from I3_clamp (by omega)]
    obtain ⟨g1, y1, y2, y3, y4⟩ := R_row g f1 f2 k1 k2
    refine ⟨g1, ?_, y2, y3, y4⟩
    rw [b336]; unfold F_336_250
    show ((F_334_0 (I3 f) (I3 k) g).bind fun q2 => some (q2.1, q2.2)) = _
    unfold F_334_0
    rw [if_pos z, R_isRowX, kv1]; simp only [Option.bind_some]
    rw [if_neg (by decide)]
    by_cases q : I3 f = 26
    · rw [if_pos q]
      have q' : f = 26 := (I3_inj (by omega) (by decide)).mp q
      have n17 : ¬ I3 k = 17 := by
        intro e
        have := kv.2
        rw [decide_eq_true q', decide_eq_true e] at this; cases this
      rw [if_neg n17, y1]; rfl
    · rw [if_neg q, y1]; rfl
  · rw [c1, Bool.and_eq_true] at kv
    obtain ⟨k, k1, k2, rfl⟩ := rowB_x kv.1
    rw [show tn (I3 k) = k from I3_clamp (by omega)]
    refine okRow f1 f2 k1 k2 (fun e1 e2 => ?_)
    have := kv.2
    subst e1; subst e2; revert this; decide
theorem mk_22 {h g : sm_H} (K : K1 h g) {a : Int32} {o p : Nat} {ps : List Int32} (S : fS h (I3 22) a 0 0 o p ps) (op : oP o p) (P : prR g ps) (b : Int32) (c : Int64) : ∃ out, OC h (I3 22) a 0 0 out ∧ OR g (I3 22) a b c out ∧ OK g 22 a 0 0 out :=
  mkRow K (by decide) (by decide) S op P b c rfl (rowB a) (by cases rowB a <;> rfl) ((B9_22 S.f7).trans (n9_350 S.f8)) (fun v e => (B11_22 S.f7 e).trans rfl) (B14_22 S.f7) (B26_22 S.f7) (fun x y z => B29_22 x y z) (fun x => B32_22 x) (B336_22 _ _ _)
theorem mk_23 {h g : sm_H} (K : K1 h g) {a : Int32} {o p : Nat} {ps : List Int32} (S : fS h (I3 23) a 0 0 o p ps) (op : oP o p) (P : prR g ps) (b : Int32) (c : Int64) : ∃ out, OC h (I3 23) a 0 0 out ∧ OR g (I3 23) a b c out ∧ OK g 23 a 0 0 out :=
  mkRow K (by decide) (by decide) S op P b c rfl (rowB a) (by cases rowB a <;> rfl) ((B9_23 S.f7).trans (n9_350 S.f8)) (fun v e => (B11_23 S.f7 e).trans rfl) (B14_23 S.f7) (B26_23 S.f7) (fun x y z => B29_23 x y z) (fun x => B32_23 x) (B336_23 _ _ _)
theorem mk_24 {h g : sm_H} (K : K1 h g) {a : Int32} {o p : Nat} {ps : List Int32} (S : fS h (I3 24) a 0 0 o p ps) (op : oP o p) (P : prR g ps) (b : Int32) (c : Int64) : ∃ out, OC h (I3 24) a 0 0 out ∧ OR g (I3 24) a b c out ∧ OK g 24 a 0 0 out :=
  mkRow K (by decide) (by decide) S op P b c rfl (rowB a) (by cases rowB a <;> rfl) ((B9_24 S.f7).trans (n9_350 S.f8)) (fun v e => (B11_24 S.f7 e).trans rfl) (B14_24 S.f7) (B26_24 S.f7) (fun x y z => B29_24 x y z) (fun x => B32_24 x) (B336_24 _ _ _)
theorem mk_25 {h g : sm_H} (K : K1 h g) {a : Int32} {o p : Nat} {ps : List Int32} (S : fS h (I3 25) a 0 0 o p ps) (op : oP o p) (P : prR g ps) (b : Int32) (c : Int64) : ∃ out, OC h (I3 25) a 0 0 out ∧ OR g (I3 25) a b c out ∧ OK g 25 a 0 0 out :=
  mkRow K (by decide) (by decide) S op P b c rfl (rowB a) (by cases rowB a <;> rfl) ((B9_25 S.f7).trans (n9_350 S.f8)) (fun v e => (B11_25 S.f7 e).trans rfl) (B14_25 S.f7) (B26_25 S.f7) (fun x y z => B29_25 x y z) (fun x => B32_25 x) (B336_25 _ _ _)
theorem mk_26 {h g : sm_H} (K : K1 h g) {a : Int32} {o p : Nat} {ps : List Int32} (S : fS h (I3 26) a 0 0 o p ps) (op : oP o p) (P : prR g ps) (b : Int32) (c : Int64) : ∃ out, OC h (I3 26) a 0 0 out ∧ OR g (I3 26) a b c out ∧ OK g 26 a 0 0 out := by
  refine mkRow K (by decide) (by decide) S op P b c rfl (decide (a = 15 ∨ a = 16)) ?_ ?_ (fun v e => (B11_26 S.f7 e).trans rfl) (B14_26 S.f7) (B26_26 S.f7) (fun x y z => B29_26 x y z) (fun x => B32_26 x) (B336_26 _ _ _)
  · unfold rowB
    by_cases q5 : a = 15
    · subst q5; rfl
    · by_cases q6 : a = 16
      · subst q6; rfl
      · by_cases q7 : a = 17
        · subst q7; rfl
        · rw [decide_eq_false (by rintro (z | z); exact q5 z; exact q6 z), decide_eq_false (by rintro (z | z | z); exact q5 z; exact q6 z; exact q7 z)]; rfl
  · rw [B9_26 S.f7, S.f8]
    by_cases q5 : a = 15
    · subst q5; rfl
    · by_cases q6 : a = 16
      · subst q6; rfl
      · rw [if_neg q5, if_neg q6, decide_eq_false (by rintro (z | z); exact q5 z; exact q6 z)]; rfl
theorem mk_20 {h g : sm_H} (K : K1 h g) {a : Int32} {o p : Nat} {ps : List Int32} (S : fS h (I3 20) a 0 0 o p ps) (op : oP o p) (P : prR g ps) (b : Int32) (c : Int64) : ∃ out, OC h (I3 20) a 0 0 out ∧ OR g (I3 20) a b c out ∧ OK g 20 a 0 0 out := by
  have e7 := S.f7
  refine genA (r := a) (l := [5]) K S op P (by decide) (by decide) (by decide) rfl (rowB a) (fun _ => (B9_20 e7).trans (n9_350 S.f8)) (fun z => ?_) (B14_20 e7) (B26_20 e7) (fun z kv => ?_) (fun z => ?_) (fun z kv => ?_) (fun z kv => ?_) (fun kv => ?_)
  · subst z; rw [B11_20 e7 (n11d K S)]; rfl
  · subst z
    obtain ⟨u, d1, D0⟩ := D_begin K S op
    obtain ⟨u1, d2, D1⟩ := D_with D0 op 5 (by decide)
    refine ⟨u1, ?_, D1.d, D1.a⟩
    rw [B29_20 d1 D0.s.f7 (n11d D0.k D0.s)]; unfold F_29_461
    rw [B32_20 D0.s.f7, d2]; simp only [Option.bind_some]
    rw [D1.s.f8]
  · rw [B336_20]; unfold F_336_250
    show ((F_334_0 (I3 20) a g).bind fun q2 => some (q2.1, q2.2)) = _
    unfold F_334_0
    rw [if_neg z]; rfl
  · refine ⟨g, ?_, agr_rfl⟩
    rw [B336_20]; unfold F_336_250
    show ((F_334_0 (I3 20) a g).bind fun q2 => some (q2.1, q2.2)) = _
    unfold F_334_0
    rw [if_pos z, R_isRowX, kv]; rfl
  · have kv' := kv
    obtain ⟨k, k1, k2, rfl⟩ := rowB_x kv
    obtain ⟨g0, g1, f1, r1, r2, r3, r4⟩ := rr_1 g (I3 k) 5
    refine ⟨g1, ?_, r2, r3, r4⟩
    rw [B336_20]; unfold F_336_250
    show ((F_334_0 (I3 20) (I3 k) g).bind fun q2 => some (q2.1, q2.2)) = _
    unfold F_334_0
    rw [if_pos z, R_isRowX, kv']; simp only [Option.bind_some]
    rw [if_neg (by decide), if_neg (by decide)]; unfold F_334_28
    rw [R_elem _ k1 k2]; simp only [Option.bind_some]
    rw [if_pos (by decide)]; unfold F_334_75
    rw [f1]; simp only [Option.bind_some]
    rw [if_pos (by decide), r1]; rfl
  · obtain ⟨k, k1, k2, rfl⟩ := rowB_x kv
    exact ⟨Or.inr (Or.inr (Or.inr (Or.inr (Or.inr (Or.inr (Or.inr (Or.inr (Or.inr (Or.inr (Or.inr (Or.inr (Or.inr (Or.inr (Or.inr (Or.inr (Or.inr (Or.inr (Or.inr (Or.inl ⟨by decide, by decide, rfl, k, k1, k2, rfl, by omega, fun _ => ⟨rfl, rfl⟩, by omega, by omega⟩))))))))))))))))))), ⟨k, rfl, by omega⟩, kL_1 (q := 5) (by omega) (by omega), len1 _⟩
theorem mk_21 {h g : sm_H} (K : K1 h g) {a : Int32} {o p : Nat} {ps : List Int32} (S : fS h (I3 21) a 0 0 o p ps) (op : oP o p) (P : prR g ps) (b : Int32) (c : Int64) : ∃ out, OC h (I3 21) a 0 0 out ∧ OR g (I3 21) a b c out ∧ OK g 21 a 0 0 out := by
  have e7 := S.f7
  refine genA (r := 5) (l := [a]) K S op P (by decide) (by decide) (by decide) rfl (rowB a) (fun _ => (B9_21 e7).trans (n9_350 S.f8)) (fun z => ?_) (B14_21 e7) (B26_21 e7) (fun z kv => ?_) (fun z => ?_) (fun z kv => ?_) (fun z kv => ?_) (fun kv => ?_)
  · subst z; rw [B11_21 e7 (n11d K S)]; rfl
  · subst z
    obtain ⟨u, d1, D0⟩ := D_begin K S op
    obtain ⟨u1, d2, D1⟩ := D_with D0 op a (by decide)
    refine ⟨u1, ?_, D1.d, D1.a⟩
    rw [B29_21 d1 D0.s.f7 (n11d D0.k D0.s)]; unfold F_29_461
    rw [B32_21 D0.s.f7, D0.s.f8, d2]; rfl
  · rw [B336_21]; unfold F_336_250
    show ((F_334_0 (I3 21) a g).bind fun q2 => some (q2.1, q2.2)) = _
    unfold F_334_0
    rw [if_neg z]; rfl
  · refine ⟨g, ?_, agr_rfl⟩
    rw [B336_21]; unfold F_336_250
    show ((F_334_0 (I3 21) a g).bind fun q2 => some (q2.1, q2.2)) = _
    unfold F_334_0
    rw [if_pos z, R_isRowX, kv]; rfl
  · have kv' := kv
    obtain ⟨k, k1, k2, rfl⟩ := rowB_x kv
    obtain ⟨g0, g1, f1, r1, r2, r3, r4⟩ := rr_1 g 5 (I3 k)
    refine ⟨g1, ?_, r2, r3, r4⟩
    rw [B336_21]; unfold F_336_250
    show ((F_334_0 (I3 21) (I3 k) g).bind fun q2 => some (q2.1, q2.2)) = _
    unfold F_334_0
    rw [if_pos z, R_isRowX, kv']; simp only [Option.bind_some]
    rw [if_neg (by decide), if_neg (by decide)]; unfold F_334_28
    rw [R_elem _ k1 k2]; simp only [Option.bind_some]
    rw [if_neg (by decide), if_pos (by decide)]; unfold F_334_75
    rw [f1]; simp only [Option.bind_some]
    rw [if_neg (by decide), r1]; simp only [Option.bind_some]
    rw [if_pos (by decide)]; rfl
  · obtain ⟨k, k1, k2, rfl⟩ := rowB_x kv
    exact ⟨Or.inr (Or.inr (Or.inr (Or.inr (Or.inr (Or.inr (Or.inr (Or.inr (Or.inr (Or.inr (Or.inr (Or.inr (Or.inr (Or.inr (Or.inr (Or.inr (Or.inr (Or.inr (Or.inr (Or.inl ⟨by decide, by decide, rfl, k, k1, k2, rfl, by omega, by omega, fun _ => ⟨rfl, rfl⟩, by omega⟩))))))))))))))))))), ⟨5, rfl, by omega⟩, kL_1 (by omega) (by omega), len1 _⟩
