theorem fitB_ok {m L : List Int32} {i j : Nat} (h : pre (m.drop i) (L.drop j)) : fitB m L i j = true := by
  unfold fitB
  rw [all1_iff]
  intro k hk
  have h1 := h.1
  rw [List.length_drop, List.length_drop] at h1
  have h2 := h.2 k (by rw [List.length_drop]; omega)
  rw [at0_drop, at0_drop] at h2
  rw [Bool.and_eq_true]
  exact ⟨decide_eq_true (by omega), decide_eq_true h2⟩
theorem asB_ok {g : sm_H} {u t : Nat} {f : Bool} (h : mayAs g u t f) : asB g u t f = true := by
  unfold asB
  rw [decide_eq_true h.1, all1_iff.mpr h.2.1, h.2.2]; rfl
theorem aH_ok {g : sm_H} {ps : List Int32} {n : Nat} (w500 : nH g ≤ 500) (h : ∀ k, k < n → ∃ y, y < nH g ∧ at0 ps k = I3 y) : aH g ps n = true := by
  unfold aH
  rw [all1_iff]
  intro k hk
  obtain ⟨y, y1, y2⟩ := h k hk
  rw [y2, inR_I (by omega)]; exact decide_eq_true y1
theorem aH1_ok {g : sm_H} {x : Nat} (w500 : nH g ≤ 500) (x1 : x < nH g) : aH g [I3 x] 1 = true := aH_ok w500 (fun k hk => by
  have e : k = 0 := by omega
  subst e
  exact ⟨x, x1, rfl⟩)
section
variable {h g : sm_H}
theorem ck_oth {f : Nat} {a b : Int32} {c : Int64} {X : Option (Int32 × sm_H)} (P0 : g.1 67 3 = 0) (B6 : F_336 (I3 f) a b c g = F_336_257 (I3 f) a b g) (e : F_335_12 (I3 f) a b 1 g = X) : F_336 (I3 f) a b c g = X := by
  rw [B6]
  unfold F_336_257
  rw [bind_id, show F_335 (I3 f) a b g = F_335_0 (I3 f) a b g from rfl]
  unfold F_335_0
  rw [if_pos P0, e]
theorem kdK (K : K1 h g) {k : Nat} (hk : k < 20 + nC g) : F_289 (I3 k) g = some (1, g) := by
  have h12 := K.1.2.1
  rw [R_kind K.1, inR_I (by omega), decide_eq_true hk]; rfl
theorem ck_0 (K : K1 h g) (P0 : g.1 67 3 = 0) {k : Nat} (k1 : 0 < k) (k2 : k < 20 + nC g) (b : Int32) {c : Int64} (t : trK g k c = 0) : Ck g 0 (I3 k) b c (I3 k) [] := by
  have h12 := K.1.2.1
  obtain ⟨u, f1, E1⟩ := E_clear K (I3 k)
  refine Or.inl ⟨u, ?_, E1.d, E1.r⟩
  rw [B336_0, if_pos P0, kdK K k2]; simp only [obs]
  rw [if_neg (by decide), if_neg (by rw [I3_lit, I3_inj (by omega) (by decide)]; omega), f1]; simp only [obs]
  rw [E_trouble E1 k1 k2, t]; simp only [obs]
  rfl
theorem ck_2 (K : K1 h g) (P0 : g.1 67 3 = 0) {k : Nat} (k1 : 0 < k) (k2 : k < 20 + nC g) (b : Int32) (c : Int64) : Ck g 2 (I3 k) b c (I3 k) [I3 k] := by
  have h12 := K.1.2.1
  obtain ⟨u, f1, E1⟩ := E_clear K (I3 k)
  obtain ⟨u2, f2, E2⟩ := E_add E1 (by simp) (I3 k)
  rw [List.nil_append] at E2
  refine Or.inl ⟨u2, ck_oth P0 (B336_2 _ _ _) ?_, E2.d, E2.r⟩
  rw [B335_2, if_neg (by decide), kdK K k2]; simp only [obs]
  rw [if_neg (by decide), if_neg (by rw [I3_lit, I3_inj (by omega) (by decide)]; omega), f1]; simp only [obs]
  rw [f2]; simp only [obs]
theorem ck_3 (K : K1 h g) (P0 : g.1 67 3 = 0) {o w : Nat} (o1 : o ≤ 12) (w1 : w = 5 ∨ w = 6) (c : Int64) : Ck g 3 (I3 o) (I3 w) c (if 10 < o then 1 else I3 w) [I3 w, I3 w] := by
  obtain ⟨u, f1, E1⟩ := E_clear K (if 10 < o then 1 else I3 w)
  obtain ⟨u2, f2, E2⟩ := E_add E1 (by simp) (I3 w)
  obtain ⟨u3, f3, E3⟩ := E_add E2 (by simp) (I3 w)
  refine Or.inl ⟨u3, ck_oth P0 (B336_3 _ _ _) ?_, E3.d, E3.r⟩
  rw [B335_3, if_neg (by decide), R_out12, inR_I (by omega), decide_eq_true (by omega)]; simp only [obs]
  rw [if_pos (by decide)]
  have fin : F_335_248 (I3 o) (I3 w) g = some (0, u3) := by
    unfold F_335_248 F_335_260
    by_cases q : 10 < o
    · rw [if_pos q] at f1
      rw [if_neg (by rw [I3_lit, I3_le (by omega) (by decide)]; omega), f1]; simp only [obs]
      rw [f2]; simp only [obs]
      rw [f3]; simp only [obs]
    · rw [if_neg q] at f1
      rw [if_pos (by rw [I3_lit, I3_le (by omega) (by decide)]; omega), f1]; simp only [obs]
      rw [f2]; simp only [obs]
      rw [f3]; simp only [obs]
  rcases w1 with rfl | rfl
  · rw [if_pos (by decide)]; exact fin
  · rw [if_neg (by decide), if_pos (by decide)]; exact fin
theorem ck_19 (K : K1 h g) (P0 : g.1 67 3 = 0) {k e : Nat} (k2 : k < 20 + nC g) (e2 : e < 20 + nC g) (be : B g e 19 = true) (c : Int64) : Ck g 19 (I3 k) (I3 e) c (I3 k) [I3 e] := by
  obtain ⟨u, f1, E1⟩ := E_clear K (I3 k)
  obtain ⟨u2, f2, E2⟩ := E_add E1 (by simp) (I3 e)
  rw [List.nil_append] at E2
  refine Or.inl ⟨u2, ck_oth P0 (B336_19 _ _ _) ?_, E2.d, E2.r⟩
  rw [B335_19, if_neg (by decide), kdK K k2]; simp only [obs]
  rw [if_neg (by decide), kdK K e2]; simp only [obs]
  rw [if_neg (by decide), R_below19 K.1 e2, be]; simp only [obs]
  rw [if_neg (by decide), f1]; simp only [obs]
  rw [f2]; simp only [obs]
theorem ck_29 (K : K1 h g) (P0 : g.1 67 3 = 0) {n : Nat} (n1 : n < nG g) (b : Int32) (c : Int64) : Ck g 29 (I3 n) b c (hrs g (tn (g.1 92 n))) (hpl g (tn (g.1 92 n))) := by
  have cGq := K.2.2.2.2.2.2.2.2.1
  have w80 : nG g ≤ 80 := cGq.2.1.2
  have w500 : nH g ≤ 500 := K.2.2.2.2.1.1.2
  obtain ⟨x, x1, x2⟩ := cGq.2.2.2 n n1
  have ex : tn (g.1 92 n) = x := by rw [x2]; exact tnI (by omega)
  rw [ex]
  obtain ⟨u, f1, E1⟩ := E_clear K (hrs g x)
  obtain ⟨u2, f2, E2⟩ := E_all E1 x1 (by decide)
  rw [List.nil_append] at E2
  refine Or.inl ⟨u2, ck_oth P0 (B336_29 _ _ _) ?_, E2.d, E2.r⟩
  have l1 : ldI g 92 80 (I3 n) = some (I3 x) := by rw [ldI_I (by omega) (by decide), x2]
  have l2 : ldI u 92 80 (I3 n) = some (I3 x) := by rw [ldI_I (by omega) (by decide), E1.a.1 92 n (by unfold SRd; omega), x2]
  rw [B335_29, if_neg (by decide), show g.1 67 35 - 1 = I3 (nG g) - I3 1 by rw [show g.1 67 35 = I3 (nG g) from cGq.2.1.1]; rfl, R_outI (by omega), inR_I (by omega), decide_eq_true n1]; simp only [obs]
  rw [if_pos (by decide), l1]; simp only [obs]
  rw [R_rs K x1]; simp only [obs]
  rw [f1]; simp only [obs]
  rw [l2]; simp only [obs]
  rw [E_many E1 x1]; simp only [obs]
  rw [f2]; simp only [obs]
theorem ck_31 (K : K1 h g) (P0 : g.1 67 3 = 0) {k : Nat} (k1 : 7 ≤ k) (k2 : k < 20 + nC g) (b : Int32) (c : Int64) : Ck g 31 (I3 k) b c 1 [7] := by
  have h12 := K.1.2.1
  obtain ⟨u, f1, E1⟩ := E_clear K 1
  obtain ⟨u2, f2, E2⟩ := E_add E1 (by simp) 7
  rw [List.nil_append] at E2
  refine Or.inl ⟨u2, ck_oth P0 (B336_31 _ _ _) ?_, E2.d, E2.r⟩
  rw [B335_31, if_neg (by decide), kdK K k2]; simp only [obs]
  rw [if_neg (by decide), R_ref (by omega), decide_eq_true k1]; simp only [obs]
  rw [if_neg (by decide), f1]; simp only [obs]
  rw [f2]; simp only [obs]
theorem ck_32 (K : K1 h g) (P0 : g.1 67 3 = 0) (a b : Int32) (c : Int64) : Ck g 32 a b c 1 [7, 7] := by
  obtain ⟨u, f1, E1⟩ := E_clear K 1
  obtain ⟨u2, f2, E2⟩ := E_add E1 (by simp) 7
  obtain ⟨u3, f3, E3⟩ := E_add E2 (by simp) 7
  refine Or.inl ⟨u3, ck_oth P0 (B336_32 _ _ _) ?_, E3.d, E3.r⟩
  rw [B335_32, if_neg (by decide), f1]; simp only [obs]
  rw [f2]; simp only [obs]
  rw [f3]; simp only [obs]
theorem ck_33 (K : K1 h g) (P0 : g.1 67 3 = 0) (a b : Int32) (c : Int64) : Ck g 33 a b c 5 [19] := by
  obtain ⟨u, f1, E1⟩ := E_clear K 5
  obtain ⟨u2, f2, E2⟩ := E_add E1 (by simp) 19
  refine Or.inl ⟨u2, ck_oth P0 (B336_33 _ _ _) ?_, E2.d, E2.r⟩
  rw [B335_33, if_neg (by decide), f1]; simp only [obs]
  rw [f2]; simp only [obs]
theorem ck_34 (K : K1 h g) (P0 : g.1 67 3 = 0) {t : Nat} (t1 : t < nT g) (a : Int32) (c : Int64) : Ck g 34 a (I3 t) c (rs g t) (pl g t) := by
  have w300 : nT g ≤ 300 := K.2.2.1.1.2
  obtain ⟨u, f1, E1⟩ := E_clear K (rs g t)
  obtain ⟨u2, f2, E2⟩ := E_type E1 t1 (by decide)
  rw [List.nil_append] at E2
  refine Or.inl ⟨u2, ck_oth P0 (B336_34 _ _ _) ?_, E2.d, E2.r⟩
  rw [B335_34]
  unfold F_335_598
  rw [if_neg (by decide), R_isT K.2.2.1, inR_I (by omega), decide_eq_true t1]; simp only [obs]
  rw [if_neg (by decide), ldI_I (by omega) (by decide)]; simp only [obs]
  rw [f1]; simp only [obs]
  rw [f2]; simp only [obs]
theorem ck_row (K : K1 h g) (P0 : g.1 67 3 = 0) {k f : Nat} (k1 : 15 ≤ k) (k2 : k ≤ 17) (hf : f = 20 ∨ f = 21 ∨ f = 22 ∨ f = 23) (b : Int32) (c : Int64) : Ck g f (I3 k) b c (if f = 20 then I3 k else if f = 21 then 5 else if f = 22 then I3 (k - 10) else 0) (if f = 20 then [5] else if f = 21 then [I3 k] else if f = 22 then [I3 k, 5] else [I3 k, 5, I3 (k - 10)]) := by
  have rw1 : F_293 (I3 k) g = some (1, g) := by rw [R_isRow (by omega), decide_eq_true ⟨k1, k2⟩]; rfl
  have el := R_elem g k1 k2
  have go : ∀ X : Option (Int32 × sm_H), F_336 (I3 f) (I3 k) b c g = F_336_250 (I3 f) (I3 k) g → F_334_28 (I3 f) (I3 k) g = X → F_336 (I3 f) (I3 k) b c g = X := fun X e1 e2 => by
    rw [e1]
    unfold F_336_250
    rw [bind_id, show F_334 (I3 f) (I3 k) g = F_334_0 (I3 f) (I3 k) g from rfl]
    unfold F_334_0
    rw [if_pos P0, rw1]; simp only [obs]
    rw [if_neg (by decide), if_neg (by rcases hf with rfl | rfl | rfl | rfl <;> decide), e2]
  obtain ⟨u, f1, E1⟩ := E_clear K (if f = 20 then I3 k else if f = 21 then 5 else if f = 22 then I3 (k - 10) else 0)
  obtain ⟨u2, f2, E2⟩ := E_add E1 (by simp) (I3 k)
  obtain ⟨u3, f3, E3⟩ := E_add E2 (by simp) 5
  obtain ⟨u4, f4, E4⟩ := E_add E3 (by simp) (I3 (k - 10))
  obtain ⟨v2, d2, D2⟩ := E_add E1 (by simp) 5
  rcases hf with rfl | rfl | rfl | rfl
  · refine Or.inl ⟨v2, go _ (B336_20 _ _ _) ?_, D2.d, D2.r⟩
    unfold F_334_28 F_334_75
    rw [el]; simp only [obs]
    rw [if_pos (by decide), show F_308 (I3 k) g = some u from f1]; simp only [obs]
    rw [if_pos (by decide), d2]; rfl
  · refine Or.inl ⟨u2, go _ (B336_21 _ _ _) ?_, E2.d, E2.r⟩
    unfold F_334_28 F_334_75
    rw [el]; simp only [obs]
    rw [if_neg (by decide), if_pos (by decide), show F_308 5 g = some u from f1]; simp only [obs]
    rw [if_neg (by decide), f2]; simp only [obs]
    rw [if_pos (by decide)]
  · refine Or.inl ⟨u3, go _ (B336_22 _ _ _) ?_, E3.d, E3.r⟩
    unfold F_334_28 F_334_75 F_334_120 F_334_131
    rw [el]; simp only [obs]
    rw [if_neg (by decide), if_neg (by decide), if_neg (by decide), if_neg (by decide), show F_308 (I3 (k - 10)) g = some u from f1]; simp only [obs]
    rw [if_neg (by decide), f2]; simp only [obs]
    rw [if_neg (by decide), f3]; simp only [obs]
    rw [if_pos (by decide), if_neg (by decide)]
  · refine Or.inl ⟨u4, go _ (B336_23 _ _ _) ?_, E4.d, E4.r⟩
    unfold F_334_28 F_334_75 F_334_120 F_334_131
    rw [el]; simp only [obs]
    rw [if_neg (by decide), if_neg (by decide), if_pos (by decide), show F_308 0 g = some u from f1]; simp only [obs]
    rw [if_neg (by decide), f2]; simp only [obs]
    rw [if_neg (by decide), f3]; simp only [obs]
    rw [if_neg (by decide), f4]; simp only [obs]
    rw [if_neg (by decide)]
theorem ck_4 (K : K1 h g) {x n t : Nat} (P : prR g [I3 x]) (x1 : x < nH g) (n1 : n ≤ (hpl g x).length) (t1 : t < nT g) (c : Int64) : Ck g 4 (I3 n) (I3 t) c (hrs g x) ((hpl g x).take n ++ (pl g t ++ (hpl g x).drop n)) := by
  have wT := K.2.2.1
  have w300 : nT g ≤ 300 := wT.1.2
  have w500 : nH g ≤ 500 := K.2.2.2.2.1.1.2
  have m10 := mn_10 K x1
  have hl := hpl_len g x
  have m10t : tM g t ≤ 10 := (wT.2.1 t t1).2.1.2
  have t10 : (pl g t).length ≤ 10 := by rw [pl_len]; exact m10t
  have R : F_336 (I3 4) (I3 n) (I3 t) c g = (F_318_0 (I3 n) (I3 t) g).bind fun q6 => some (q6.1, q6.2) := B336_4 _ _ _
  have ld : ldI g 69 24 0 = some (I3 x) := prR_ld P (k := 0) (by simp)
  unfold F_318_0 at R
  rw [if_pos (show g.1 67 3 = 1 from P.1), show F_314 0 1 g = some (b2 (aH g [I3 x] 1), g) from R_areH K.2.2.2.2.1 P (n := 1) (by simp), aH1_ok w500 x1] at R; simp only [obs] at R
  rw [if_neg (by decide), R_isT wT, inR_I (by omega), decide_eq_true t1] at R; simp only [obs] at R
  rw [if_neg (by decide), ld] at R; simp only [obs] at R
  rw [R_mn K x1] at R; simp only [obs] at R
  rw [R_out' (by omega), inR_I (by omega), decide_eq_true (by omega)] at R; simp only [obs] at R
  rw [if_pos (by decide), ldI_I (by omega) (by omega), (wT.2.1 t t1).2.1.1] at R; simp only [obs] at R
  by_cases q : tM g t = 0
  · rw [if_pos (show I3 (tM g t) = (0 : Int32) from congrArg I3 q)] at R
    refine Or.inr ⟨x, g, R, x1, rfl, ?_⟩
    have : pl g t = [] := List.eq_nil_of_length_eq_zero (by rw [pl_len]; exact q)
    rw [this, List.nil_append, List.take_append_drop]
  · rw [if_neg (show ¬ I3 (tM g t) = 0 by rw [I3_lit, I3_inj (by omega) (by decide)]; exact q)] at R
    obtain ⟨g0, y1, E0⟩ := E_clear K (hrs g x)
    obtain ⟨g1, y2, E1⟩ := E_places E0 (i := 0) (j := n) x1 (by omega) (by decide) (by omega)
    rw [List.nil_append, Nat.sub_zero, seg_take (by omega)] at E1
    obtain ⟨g2, y3, E2⟩ := E_type E1 t1 (by rw [List.length_take]; omega)
    obtain ⟨g3, y4, E3⟩ := E_places E2 (i := n) (j := tM g (ty g x)) x1 (Nat.le_refl _) (by rw [List.length_append, List.length_take]; omega) (by omega)
    rw [seg_drop (L := hpl g x) (by omega), List.append_assoc] at E3
    refine Or.inl ⟨g3, ?_, E3.d, E3.r⟩
    rw [R, R_rs K x1]; simp only [obs]
    rw [y1]; simp only [obs]
    rw [show F_310 (I3 x) 0 (I3 n) g0 = some g1 from y2]; simp only [obs]
    rw [y3]; simp only [obs]
    rw [E_many E2 x1]; simp only [obs]
    rw [y4]; rfl
theorem ck_as (K : K1 h g) {x t : Nat} (P : prR g [I3 x]) (x1 : x < nH g) (t1 : t < nT g) (f : Bool) (m : mayAs g (ty g x) t f) (a : Int32) (c : Int64) : Ck g (bif f then 13 else 12) a (I3 t) c (rs g t) (pl g t) := by
  have wT := K.2.2.1
  have w300 : nT g ≤ 300 := wT.1.2
  have w500 : nH g ≤ 500 := K.2.2.2.2.1.1.2
  have ld : ldI g 69 24 0 = some (I3 x) := prR_ld P (k := 0) (by simp)
  have tx := ty_lt K x1
  have key : ∀ X : Option (Int32 × sm_H), X = (F_327_0 (I3 t) (b2 f) g).bind (fun q14 => some (q14.1, q14.2)) → (∃ u, X = some (0, u) ∧ dR u (pl g t) ∧ u.1 67 20 = rs g t) ∨ ∃ y u, X = some (-1 - I3 y, u) ∧ y < nH g ∧ hrs g y = rs g t ∧ hpl g y = pl g t := fun X R => by
    unfold F_327_0 at R
    rw [if_pos (show g.1 67 3 = 1 from P.1), show F_314 0 1 g = some (b2 (aH g [I3 x] 1), g) from R_areH K.2.2.2.2.1 P (n := 1) (by simp), aH1_ok w500 x1] at R; simp only [obs] at R
    rw [if_neg (by decide), R_isT wT, inR_I (by omega), decide_eq_true t1] at R; simp only [obs] at R
    rw [if_neg (by decide), ld] at R; simp only [obs] at R
    rw [R_mayAs K x1 t1 f, asB_ok m] at R; simp only [obs] at R
    rw [if_neg (by decide), R_ty K x1] at R; simp only [obs] at R
    by_cases q : t = ty g x
    · rw [if_pos (by rw [q])] at R
      exact Or.inr ⟨x, g, R, x1, by rw [q], by rw [q]⟩
    · rw [if_neg (by rw [I3_inj (by omega) (by omega)]; exact fun z => q z.symm), ldI_I (by omega) (by omega)] at R; simp only [obs] at R
      obtain ⟨g0, y1, E0⟩ := E_clear K (rs g t)
      obtain ⟨g1, y2, E1⟩ := E_type E0 t1 (by decide)
      rw [List.nil_append] at E1
      refine Or.inl ⟨g1, ?_, E1.d, E1.r⟩
      rw [R, y1]; simp only [obs]
      rw [y2]; rfl
  cases f
  · exact key _ (B336_12 _ _ _)
  · exact key _ (B336_13 _ _ _)
theorem ck_8 (K : K1 h g) {x y n : Nat} (P : prR g [I3 x, I3 y]) (x1 : x < nH g) (y1 : y < nH g) (n1 : n + gone (hrs g y) ≤ (hpl g x).length) (kd : hrs g y ≠ 0 → at0 (hpl g x) n = hrs g y) (pr : pre (hpl g y) (((hpl g x).take n ++ (hpl g x).drop (n + gone (hrs g y))).drop n)) (b : Int32) (c : Int64) : Ck g 8 (I3 n) b c (hrs g x) ((hpl g x).take n ++ (hpl g x).drop (n + gone (hrs g y))) := by
  have w500 : nH g ≤ 500 := K.2.2.2.2.1.1.2
  have m10 := mn_10 K x1
  have m10y := mn_10 K y1
  have hl := hpl_len g x
  have gv1 := gone_1 (hrs g y)
  have ld : ldI g 69 24 0 = some (I3 x) := prR_ld P (k := 0) (by simp)
  have ld' : ldI g 69 24 1 = some (I3 y) := prR_ld P (k := 1) (by simp)
  have R : F_336 (I3 8) (I3 n) b c g = (F_322_0 (I3 n) g).bind fun q10 => some (q10.1, q10.2) := B336_8 _ _ _
  unfold F_322_0 at R
  rw [if_pos (show g.1 67 3 = 2 from P.1), show F_314 0 2 g = some (b2 (aH g [I3 x, I3 y] 2), g) from R_areH K.2.2.2.2.1 P (n := 2) (by simp), aH_ok w500 (fun k hk => by
    rcases (show k = 0 ∨ k = 1 by omega) with rfl | rfl
    · exact ⟨x, x1, rfl⟩
    · exact ⟨y, y1, rfl⟩)] at R; simp only [obs] at R
  rw [if_neg (by decide), ld] at R; simp only [obs] at R
  rw [ld'] at R; simp only [obs] at R
  rw [R_rs K y1] at R; simp only [obs] at R
  rw [gv_if (g := g) (y := y) (fun v => F_322_46 (I3 n) (I3 x) (I3 y) v g)] at R
  unfold F_322_46 at R
  rw [R_mn K x1] at R; simp only [obs] at R
  rw [R_mis K (I3 n) x1 (y := y), inR_I (by omega), decide_eq_true (by omega)] at R; simp only [obs] at R
  rw [if_pos (by decide)] at R
  have RR : F_336 (I3 8) (I3 n) b c g = (F_322_90 (I3 n) (I3 x) (I3 y) (I3 (gone (hrs g y))) g).bind fun q => some (q.1, q.2) := by
    rw [R]
    by_cases q : hrs g y = 0
    · rw [if_neg (show ¬ I3 (gone (hrs g y)) = 1 by rw [gone_0 q]; decide)]
    · rw [if_pos (show I3 (gone (hrs g y)) = 1 by rw [gone_n q]; rfl), R_pc K x1 (by rw [gone_n q] at n1; omega)]; simp only [obs]
      rw [R_rs K y1]; simp only [obs]
      rw [if_pos (kd q)]
  unfold F_322_90 at RR
  rw [R_rs K x1] at RR; simp only [obs] at RR
  obtain ⟨g0, f1, E0⟩ := E_clear K (hrs g x)
  obtain ⟨g1, f2, E1⟩ := E_places E0 (i := 0) (j := n) x1 (by omega) (by decide) (by omega)
  rw [List.nil_append, Nat.sub_zero, seg_take (by omega)] at E1
  obtain ⟨g3, f4, E3⟩ := E_places E1 (i := n + gone (hrs g y)) (j := tM g (ty g x)) x1 (Nat.le_refl _) (by rw [List.length_take]; omega) (by omega)
  rw [seg_drop (L := hpl g x) (by omega)] at E3
  rw [f1] at RR; simp only [obs] at RR
  rw [show F_310 (I3 x) 0 (I3 n) g0 = some g1 from f2] at RR; simp only [obs] at RR
  rw [E_many E1 x1] at RR; simp only [obs] at RR
  rw [I3_add, f4] at RR; simp only [obs] at RR
  have F1 := R_areFirst E3 (i := 0) (j := n) y1 (by omega) (by omega) (by rw [List.length_append, List.length_take, List.length_drop]; omega)
  rw [fitB_ok (by rw [List.drop_zero]; exact pr)] at F1
  rw [show F_312 (I3 y) 0 (I3 n) g3 = some (1, g3) from F1] at RR; simp only [obs] at RR
  exact Or.inl ⟨g3, RR, E3.d, E3.r⟩
theorem ck_14 (K : K1 h g) {x y z : Nat} (P : prR g [I3 x, I3 y, I3 z]) (x1 : x < nH g) (y1 : y < nH g) (z1 : z < nH g) (et : ty g y = ty g z) (ez : hrs g x = 1) (pr : pre (hpl g x) (hpl g y)) (a b : Int32) (c : Int64) : Ck g 14 a b c (hrs g y) (hpl g y) := by
  have w500 : nH g ≤ 500 := K.2.2.2.2.1.1.2
  have m10y := mn_10 K y1
  have l0 : ldI g 69 24 0 = some (I3 x) := prR_ld P (k := 0) (by simp)
  have l1 : ldI g 69 24 1 = some (I3 y) := prR_ld P (k := 1) (by simp)
  have l2 : ldI g 69 24 2 = some (I3 z) := prR_ld P (k := 2) (by simp)
  have R : F_336 (I3 14) a b c g = (F_328_0 g).bind fun q16 => some (q16.1, q16.2) := B336_14 _ _ _
  unfold F_328_0 at R
  rw [if_pos (show g.1 67 3 = 3 from P.1), show F_314 0 3 g = some (b2 (aH g [I3 x, I3 y, I3 z] 3), g) from R_areH K.2.2.2.2.1 P (n := 3) (by simp), aH_ok w500 (fun k hk => by
    rcases (show k = 0 ∨ k = 1 ∨ k = 2 by omega) with rfl | rfl | rfl
    · exact ⟨x, x1, rfl⟩
    · exact ⟨y, y1, rfl⟩
    · exact ⟨z, z1, rfl⟩)] at R; simp only [obs] at R
  rw [if_neg (by decide), l0] at R; simp only [obs] at R
  rw [l1] at R; simp only [obs] at R
  rw [R_ty K y1] at R; simp only [obs] at R
  rw [l2] at R; simp only [obs] at R
  rw [R_ty K z1] at R; simp only [obs] at R
  rw [if_pos (by rw [et]), R_rs K x1] at R; simp only [obs] at R
  rw [if_pos ez, R_rs K y1] at R; simp only [obs] at R
  obtain ⟨g0, f1, E0⟩ := E_clear K (hrs g y)
  obtain ⟨g1, f2, E1⟩ := E_all E0 y1 (by decide)
  rw [List.nil_append] at E1
  rw [f1] at R; simp only [obs] at R
  rw [E_many E0 y1] at R; simp only [obs] at R
  rw [f2] at R; simp only [obs] at R
  have F1 := R_areFirst E1 (i := 0) (j := 0) x1 (by omega) (by omega) (by omega)
  rw [fitB_ok (by rw [List.drop_zero, List.drop_zero]; exact pr)] at F1
  rw [show F_312 (I3 x) 0 0 g1 = some (1, g1) from F1] at R; simp only [obs] at R
  exact Or.inl ⟨g1, R, E1.d, E1.r⟩
theorem ck_15 (K : K1 h g) {x y : Nat} {m : List Int32} (P : prR g [I3 x, I3 y]) (x1 : x < nH g) (y1 : y < nH g) (ep : hpl g y = 19 :: m) (pr : pre m (hpl g x)) (er : hrs g y = hrs g x) (b : Int32) (c : Int64) : Ck g 15 19 b c (hrs g x) (hpl g x) := by
  have w500 : nH g ≤ 500 := K.2.2.2.2.1.1.2
  have m10 := mn_10 K x1
  have h12 := K.1.2.1
  have hly := hpl_len g y
  have l0 : ldI g 69 24 0 = some (I3 x) := prR_ld P (k := 0) (by simp)
  have l1 : ldI g 69 24 1 = some (I3 y) := prR_ld P (k := 1) (by simp)
  have R : F_336 (I3 15) 19 b c g = (F_329_0 19 g).bind fun q17 => some (q17.1, q17.2) := B336_15 _ _ _
  unfold F_329_0 at R
  rw [if_pos (show g.1 67 3 = 2 from P.1), show F_314 0 2 g = some (b2 (aH g [I3 x, I3 y] 2), g) from R_areH K.2.2.2.2.1 P (n := 2) (by simp), aH_ok w500 (fun k hk => by
    rcases (show k = 0 ∨ k = 1 by omega) with rfl | rfl
    · exact ⟨x, x1, rfl⟩
    · exact ⟨y, y1, rfl⟩)] at R; simp only [obs] at R
  rw [if_neg (by decide), show F_289 19 g = some (1, g) from kdK K (k := 19) (by omega)] at R; simp only [obs] at R
  rw [if_neg (by decide), show F_295 19 19 g = some (b2 (B g 19 19), g) from R_below19 K.1 (x := 19) (by omega), show B g 19 19 = true from B_self g 12 19] at R; simp only [obs] at R
  rw [if_neg (by decide), l0] at R; simp only [obs] at R
  rw [l1] at R; simp only [obs] at R
  rw [R_rs K x1] at R; simp only [obs] at R
  obtain ⟨g0, f1, E0⟩ := E_clear K (hrs g x)
  obtain ⟨g1, f2, E1⟩ := E_all E0 x1 (by decide)
  rw [List.nil_append] at E1
  have ly : (hpl g y).length = m.length + 1 := by rw [ep]; rfl
  rw [f1] at R; simp only [obs] at R
  rw [E_many E0 x1] at R; simp only [obs] at R
  rw [f2] at R; simp only [obs] at R
  rw [E_many E1 y1] at R; simp only [obs] at R
  rw [if_neg (show ¬ I3 (tM g (ty g y)) ≤ 0 by
    have := mn_10 K y1
    rw [I3_lit, I3_le (by omega) (by decide)]; omega), show F_306 (I3 y) 0 g1 = some (at0 (hpl g y) 0, g1) from E_place E1 y1 (k := 0) (by omega), show at0 (hpl g y) 0 = 19 by rw [ep]; rfl] at R; simp only [obs] at R
  rw [if_pos trivial, E_result E1 y1] at R; simp only [obs] at R
  rw [E_result E1 x1] at R; simp only [obs] at R
  have F1 := R_areFirst E1 (i := 1) (j := 0) y1 (by omega) (by omega) (by omega)
  rw [fitB_ok (by rw [List.drop_zero, ep]; exact pr)] at F1
  rw [if_pos er, show F_312 (I3 y) 1 0 g1 = some (1, g1) from F1] at R; simp only [obs] at R
  exact Or.inl ⟨g1, R, E1.d, E1.r⟩
theorem ck_5 (K : K1 h g) {x t i : Nat} {k : Int32} (P : prR g [I3 x, I3 i]) (x1 : x < nH g) (f2 : fm g x = 2) (hx : hpl g x = [k]) (rx : hrs g x = k) (t1 : t < nT g) (rt : rs g t = k) (i1 : i < (pl g t).length) (pi : at0 (pl g t) i = k) (a : Int32) (c : Int64) : Ck g 5 a (I3 t) c (rs g t) (pl g t) := by
  have wT := K.2.2.1
  have w300 : nT g ≤ 300 := wT.1.2
  have w500 : nH g ≤ 500 := K.2.2.2.2.1.1.2
  have m10t : tM g t ≤ 10 := (wT.2.1 t t1).2.1.2
  have tl := pl_len g t
  have hl := hpl_len g x
  rw [hx] at hl
  have hl : tM g (ty g x) = 1 := hl.symm
  have tx := ty_lt K x1
  have l0 : ldI g 69 24 0 = some (I3 x) := prR_ld P (k := 0) (by simp)
  have l1 : ldI g 69 24 1 = some (I3 i) := prR_ld P (k := 1) (by simp)
  have e3 : g.1 67 3 = I3 2 := P.1
  have R : F_336 (I3 5) a (I3 t) c g = (F_319_0 (I3 t) g).bind fun q7 => some (q7.1, q7.2) := B336_5 _ _ _
  have le21 : ¬ g.1 67 3 ≤ 1 := by rw [e3]; decide
  have le22 : g.1 67 3 ≤ 2 := by rw [e3]; decide
  unfold F_319_0 at R
  rw [if_neg (show ¬ g.1 67 3 < 1 by rw [e3]; decide), show F_314 0 1 g = some (b2 (aH g [I3 x, I3 i] 1), g) from R_areH K.2.2.2.2.1 P (n := 1) (by simp), aH_ok w500 (fun k hk => by
    have e : k = 0 := by omega
    subst e
    exact ⟨x, x1, rfl⟩)] at R; simp only [obs] at R
  rw [if_neg (by decide), R_isT wT, inR_I (by omega), decide_eq_true t1] at R; simp only [obs] at R
  rw [if_neg (by decide), l0] at R; simp only [obs] at R
  rw [R_mn K x1, hl] at R; simp only [obs] at R
  rw [if_pos (show g.1 67 3 = 1 + I3 1 by rw [e3]; decide)] at R
  obtain ⟨g0, y1, E0⟩ := E_clear K (rs g t)
  obtain ⟨g1, y2, E1⟩ := E_type E0 t1 (by decide)
  rw [List.nil_append] at E1
  have one : (1 : Int32) + 1 = 2 := by decide
  have fin : ∀ z : Int32, z = 0 ∨ z = 1 → lp F_319_294B 1000000 (I3 t, I3 x, z, 1, g) = some (0, g1) ∨ (z = 1 ∧ lp F_319_294B 1000000 (I3 t, I3 x, z, 1, g) = some (-1 - I3 x, g)) := fun z hz => by
    have s0 : F_319_294B (I3 t, I3 x, 0, 2, g) = some (.inr (0, g1)) := by
      unfold F_319_294B
      rw [if_pos le22, if_pos rfl, ldI_I (by omega) (by omega)]; simp only [obs]
      rw [y1]; simp only [obs]
      rw [y2]; rfl
    have s1 : F_319_294B (I3 t, I3 x, 1, 2, g) = some (.inr (-1 - I3 x, g)) := by
      unfold F_319_294B
      rw [if_pos le22, if_neg (show ¬ (1 : Int32) = 0 by decide)]; rfl
    rcases hz with rfl | rfl
    · left
      rw [lp_s (s' := (I3 t, I3 x, 0, 2, g)) (by decide) (by
        unfold F_319_294B F_319_325 F_319_326
        rw [if_neg le21, if_pos rfl]; rfl)]
      exact lp_e (by decide) s0
    · by_cases q : I3 i = 1 - 1
      · right
        refine ⟨rfl, ?_⟩
        rw [lp_s (s' := (I3 t, I3 x, 1, 2, g)) (by decide) (by
          unfold F_319_294B F_319_325 F_319_326
          rw [if_neg le21, if_neg (show ¬ (1 : Int32) = 0 by decide), l1]; simp only [obs]
          rw [if_pos q]; rfl)]
        exact lp_e (by decide) s1
      · left
        rw [lp_s (s' := (I3 t, I3 x, 0, 2, g)) (by decide) (by
          unfold F_319_294B F_319_325 F_319_326
          rw [if_neg le21, if_neg (show ¬ (1 : Int32) = 0 by decide), l1]; simp only [obs]
          rw [if_neg q]; rfl)]
        exact lp_e (by decide) s0
  have R275 : F_319_275 (I3 t) (I3 x) g = some (0, g1) ∨ (t = ty g x ∧ F_319_275 (I3 t) (I3 x) g = some (-1 - I3 x, g)) := by
    unfold F_319_275 F_319_290
    rw [R_ty K x1]; simp only [obs]
    by_cases q : t = ty g x
    · rw [if_pos (by rw [q])]
      rcases fin 1 (Or.inr rfl) with z | ⟨-, z⟩
      · exact Or.inl z
      · exact Or.inr ⟨q, z⟩
    · rw [if_neg (by rw [I3_inj (by omega) (by omega)]; exact fun z => q z.symm)]
      rcases fin 0 (Or.inl rfl) with z | ⟨z, -⟩
      · exact Or.inl z
      · exact absurd z (by decide)
  have b112 : ∀ q, F_319_275 (I3 t) (I3 x) g = some q → F_319_55 (I3 t) (I3 x) 1 g = some q := fun q hq => by
    have t112 : F_319_112 (I3 t) (I3 x) 1 g = some q := by
      show lp F_319_112B 1000000 (I3 t, I3 x, 1, g) = _
      rw [lp_s (s' := (I3 t, I3 x, 2, g)) (by decide) (by
        unfold F_319_112B
        rw [if_neg le21, l1]; simp only [obs]
        rw [show (10 : Int32) * I3 t + I3 i = I3 (10 * t + i) by rw [I3_lit, I3_mul, I3_add], ldI_I (by omega) (by omega)]; simp only [obs]
        rw [show F_306 (I3 x) (1 - 1) g = some (at0 (hpl g x) 0, g) from R_pc K x1 (k := 0) (by rw [hx]; exact Nat.one_pos)]; simp only [obs]
        rw [if_pos (show g.1 74 (10 * t + i) = at0 (hpl g x) 0 by
          rw [hx]
          have := pi
          rw [at0_lst (by omega)] at this; exact this)]; rfl)]
      refine lp_e (by decide) ?_
      unfold F_319_112B
      rw [if_pos le22, R_fm K x1, f2]; simp only [obs]
      rw [if_neg (show ¬ I3 2 = (5 : Int32) by decide), hq]; rfl
    show lp F_319_55B 1000000 (I3 t, I3 x, 1, g) = _
    rw [lp_s (s' := (I3 t, I3 x, 2, g)) (by decide) (by
      unfold F_319_55B
      rw [if_neg le21, l1]; simp only [obs]
      rw [ldI_I (by omega) (by omega), (wT.2.1 t t1).2.1.1]; simp only [obs]
      rw [show I3 (tM g t) - 1 = I3 (tM g t) - I3 1 from rfl, show F_315 (I3 i).toInt64 0 (I3 (tM g t) - I3 1).toInt64 g = some (b2 (!inR (I3 i) (tM g t)), g) from R_outI (by omega) (I3 i), inR_I (by omega), decide_eq_true (by omega)]; simp only [obs]
      rw [if_pos (by decide)]; rfl)]
    refine lp_e (by decide) ?_
    unfold F_319_55B
    rw [if_pos le22, ldI_I (by omega) (by omega)]; simp only [obs]
    rw [R_rs K x1]; simp only [obs]
    rw [if_pos (show g.1 72 t = hrs g x from rt.trans rx.symm), t112]; rfl
  rw [l0] at R; simp only [obs] at R
  rcases R275 with z | ⟨z1, z⟩
  · rw [b112 _ z] at R
    exact Or.inl ⟨g1, R, E1.d, E1.r⟩
  · rw [b112 _ z] at R
    exact Or.inr ⟨x, g, R, x1, by rw [z1], by rw [z1]⟩
theorem ck_18 (K : K1 h g) {ps : List Int32} (P : prR g ps) {t : Nat} (t1 : t < nT g) (q : ps.length ≠ 0) (q4 : ps.length % 4 = 0) (q16 : ps.length ≤ 16) (ok : okP g ps = true) (lb : lpB g ps t (ps.length / 4) = true) (a : Int32) (c : Int64) : Ck g 18 a (I3 t) c (rs g t) (pl g t) := by
  have wT := K.2.2.1
  have wH := K.2.2.2.2.1
  have w500 : nH g ≤ 500 := wH.1.2
  have w300 : nT g ≤ 300 := wT.1.2
  have m4 := mod4 ps.length (by omega)
  have R : F_336 (I3 18) a (I3 t) c g = ((F_333_0 (I3 t) g).bind fun q => some (q.1, q.2)) := B336_18 _ _ _
  unfold F_333_0 F_333_33 at R
  rw [R_isT wT, inR_I (by omega), decide_eq_true t1] at R; simp only [obs] at R
  rw [P.1] at R
  rw [if_neg (by decide), if_neg (by rw [I3_lit, I3_inj (by omega) (by decide)]; exact q), if_neg (by decide), if_pos (of_decide_eq_true (m4.trans (decide_eq_true q4))), if_pos (by rw [I3_lit, I3_le (by omega) (by decide)]; exact q16)] at R
  obtain ⟨g0, f1, E0⟩ := E_clear K (rs g t)
  have R37 : F_333_37 (I3 t) 0 g = bif okP g ps then F_333_90 (I3 t) 0 0 g0 else some (1, g) := by
    have L := lp_allO (body := F_333_37B) (fun k => inR (at0 ps k) (nH g) || (true && decide (at0 ps k = -1))) ps.length (fun k => (I3 t, I3 k, g)) (1, g) (F_333_90 (I3 t) 0 0 g0) (f := 1000000) (by omega) (fun k hk e => ?_) (fun k hk e => ?_) ?_
    · exact L
    · show F_333_37B (I3 t, I3 k, g) = _
      unfold F_333_37B F_333_70
      rw [if_neg (by rw [P.1, I3_le (by omega) (by omega)]; omega), prR_ld P hk]; simp only [obs]
      rw [show I3 k + 1 = I3 (k + 1) from I3_add k 1]
      by_cases q1 : at0 ps k = -1
      · rw [if_pos q1]
      · rw [if_neg q1, R_isHg wH]; simp only [obs]
        rw [decide_eq_false q1, Bool.and_false, Bool.or_false] at e
        rw [e, if_neg (by decide)]
    · show F_333_37B (I3 t, I3 k, g) = _
      unfold F_333_37B F_333_70
      rw [if_neg (by rw [P.1, I3_le (by omega) (by omega)]; omega), prR_ld P hk]; simp only [obs]
      rw [Bool.or_eq_false_iff, Bool.true_and, decide_eq_false_iff_not] at e
      rw [if_neg e.2, R_isHg wH, e.1]; simp only [obs]
      rw [if_pos (by decide)]
    · show F_333_37B (I3 t, I3 ps.length, g) = _
      unfold F_333_37B
      rw [if_pos (by rw [P.1, I3_le (by omega) (by omega)]; omega), ldI_I (by omega) (by omega)]; simp only [obs]
      rw [show F_308 (g.1 72 t) g = some g0 from f1]; simp only [obs]
  rw [R37, ok, cond_true] at R
  have L := LP_of K q q4 q16 ok
  obtain ⟨r, r1, r2⟩ := R_pass1 K E0 L P t1
  rw [r1] at R
  rcases r2 with ⟨l1, l2, l3⟩ | ⟨l1, l2, l3⟩
  · refine Or.inl ⟨r.2, ?_, l3.d, l3.r⟩
    rw [R]; show some (r.1, r.2) = _; rw [l2]
  · rw [lb] at l1; cases l1
end
