theorem take_s {l : List Int32} {j : Nat} (h : j < l.length) : l.take j ++ [at0 l j] = l.take (j + 1) := by
  rw [List.take_succ_eq_append_getElem h, ← at0_get h]
theorem row_s {h : sm_H} {ps : List Int32} {j : Nat} (r : hasL h 56 57 (ps.take j)) (hj : j < ps.length) (l20 : ps.length ≤ 20) {x : Int32} (e : at0 ps j = x) : ∃ h1, F_139 56 x h = some (1, h1) ∧ hasL h1 56 57 (ps.take (j + 1)) ∧ agr S56 h h1 := by
  have tl : (ps.take j).length = j := by rw [List.length_take]; omega
  obtain ⟨h1, a, b, c⟩ := C_app56 r (by omega) x
  rw [← e, take_s hj] at b
  exact ⟨h1, a, b, c⟩
section
variable {h g : sm_H} {nm nm' : Nat → Int64} {kd ks : List Int32} {pc base k n : Nat} {pt : Nat → Nat}
theorem C_213 {ps : List Int32} (n3 : n ≤ 3) (st : STK h base (2 * n + 2) pt) (ll : ps.length = 4 * n + 4) (pa : ∀ i, i < n → at0 ps (4 * i) = I3 (pt i) ∧ at0 ps (4 * i + 1) = I3 (pt (n + i)) ∧ at0 ps (4 * i + 2) = -1 ∧ at0 ps (4 * i + 3) = -1) (p0 : at0 ps (4 * n) = -1) (p1 : at0 ps (4 * n + 1) = -1) (p2 : at0 ps (4 * n + 2) = I3 (pt (2 * n))) (p3 : at0 ps (4 * n + 3) = I3 (pt (2 * n + 1))) : ∃ h1, F_213 (I3 base) (I3 n) h = some h1 ∧ hasL h1 56 57 ps ∧ agr S56 h h1 := by
  have LP : ∀ r i, i + r = n → ∀ (f : Nat) (u : sm_H), r < f → agr S56 h u → hasL u 56 57 (ps.take (4 * i)) → ∃ h1, lp F_213_9B f (I3 base, I3 n, I3 i, u) = some h1 ∧ hasL h1 56 57 ps ∧ agr S56 h h1 := by
    intro r
    induction r with
    | zero =>
      intro i hi f u hf a1 r0
      have e : i = n := by omega
      subst e
      have b12 : i + i = 2 * i := by omega
      obtain ⟨u1, c1, d1, e1⟩ := row_s r0 (by omega) (by omega) p0
      obtain ⟨u2, c2, d2, e2⟩ := row_s d1 (by omega) (by omega) p1
      obtain ⟨u3, c3, d3, e3⟩ := row_s d2 (by omega) (by omega) p2
      obtain ⟨u4, c4, d4, e4⟩ := row_s d3 (by omega) (by omega) p3
      have s2 := STK_agr (STK_agr (STK_agr st a1 S56_stk) e1 S56_stk) e2 S56_stk
      have s3 := STK_agr s2 e3 S56_stk
      rw [List.take_of_length_le (by omega)] at d4
      refine ⟨u4, lp_e (by omega) ?_, d4, agr_trans (agr_trans (agr_trans (agr_trans a1 e1) e2) e3) e4⟩
      unfold F_213_9B
      show (if I3 i ≤ I3 i then _ else _) = _
      rw [if_pos (by rw [I3_le (by omega) (by omega)]; omega)]
      simp only []
      rw [c1]; simp only [obs]
      rw [c2]; simp only [obs]
      rw [show I3 base + 2 * I3 i = I3 (base + 2 * i) by rw [I3_lit, I3_mul, I3_add], STK_at s2 (i := 2 * i) (by omega)]; simp only [obs]
      rw [c3]; simp only [obs]
      rw [show I3 (base + 2 * i) + 1 = I3 (base + (2 * i + 1)) from I3_add _ 1, STK_at s3 (i := 2 * i + 1) (by omega)]; simp only [obs]
      rw [c4]; rfl
    | succ r ih =>
      intro i hi f u hf a1 r0
      obtain ⟨z0, z1, z2, z3⟩ := pa i (by omega)
      obtain ⟨u1, c1, d1, e1⟩ := row_s r0 (by omega) (by omega) z0
      obtain ⟨u2, c2, d2, e2⟩ := row_s d1 (by omega) (by omega) z1
      obtain ⟨u3, c3, d3, e3⟩ := row_s d2 (by omega) (by omega) z2
      obtain ⟨u4, c4, d4, e4⟩ := row_s d3 (by omega) (by omega) z3
      have s0 := STK_agr st a1 S56_stk
      have s1 := STK_agr s0 e1 S56_stk
      rw [lp_s (s' := (I3 base, I3 n, I3 (i + 1), u4)) (by omega) (by
        unfold F_213_9B
        show (if I3 n ≤ I3 i then _ else _) = _
        rw [if_neg (by rw [I3_le (by omega) (by omega)]; omega)]
        simp only []
        rw [show I3 base + I3 i = I3 (base + i) from I3_add _ _, STK_at s0 (i := i) (by omega)]; simp only [obs]
        rw [c1]; simp only [obs]
        rw [show I3 base + I3 n + I3 i = I3 (base + (n + i)) by rw [I3_add, I3_add, Nat.add_assoc], STK_at s1 (i := n + i) (by omega)]; simp only [obs]
        rw [c2]; simp only [obs]
        rw [c3]; simp only [obs]
        rw [c4]; simp only [obs]
        rw [show I3 i + 1 = I3 (i + 1) from I3_add i 1])]
      exact ih (i + 1) (by omega) (f - 1) u4 (by omega) (agr_trans (agr_trans (agr_trans (agr_trans a1 e1) e2) e3) e4) (by rw [show 4 * (i + 1) = 4 * i + 1 + 1 + 1 + 1 by omega]; exact d4)
  obtain ⟨h1, a, b, c⟩ := LP n 0 (by omega) 1000000 (sm_wI h 56 1 0) (by omega) (agr_wI agr_rfl (Or.inl ⟨rfl, rfl⟩)) (show hasL (sm_wI h 56 1 0) 56 57 [] from ⟨rfl, by decide, fun k hk => by cases hk⟩)
  refine ⟨h1, ?_, b, c⟩
  show F_213_0 (I3 base) (I3 n) h = _
  unfold F_213_0
  rw [show F_138 56 h = some (sm_wI h 56 1 0) from rfl]; simp only [obs]
  exact a
theorem R_462a (x y : Int32) (g : sm_H) : ∃ g1, F_462_9 x y 0 g = F_462_30 x y 0 g1 ∧ agr S127 g g1 ∧ ∀ j, j < 16 → g1.1 128 j = -1 := by
  have LP : ∀ r i, i + r = 16 → ∀ (f : Nat) (u : sm_H), r < f → agr S127 g u → (∀ j, j < i → u.1 128 j = -1) → ∃ g1, lp F_462_9B f (x, y, I3 i, u) = F_462_30 x y 0 g1 ∧ agr S127 g g1 ∧ ∀ j, j < 16 → g1.1 128 j = -1 := by
    intro r
    induction r with
    | zero =>
      intro i hi f u hf a1 b1
      have e : i = 16 := by omega
      subst e
      refine ⟨u, ?_, a1, b1⟩
      rw [lp_oK (by omega)]
      unfold F_462_9B
      show oK _ _ (if 16 ≤ I3 16 then _ else _) = _
      rw [if_pos (by decide)]
      simp only []
      cases F_462_30 x y 0 u <;> rfl
    | succ r ih =>
      intro i hi f u hf a1 b1
      rw [lp_s (s' := (x, y, I3 (i + 1), sm_wI u 128 i (-1))) (by omega) (by
        unfold F_462_9B
        show (if 16 ≤ I3 i then _ else _) = _
        rw [if_neg (by rw [I3_lit, I3_le (by decide) (by omega)]; omega)]
        simp only []
        rw [stI_I (by omega) (by decide)]; simp only [obs]
        rw [show I3 i + 1 = I3 (i + 1) from I3_add i 1])]
      refine ih (i + 1) (by omega) (f - 1) _ (by omega) (agr_wI a1 (by unfold S127; omega)) (fun j hj => ?_)
      show (if j = i then -1 else u.1 128 j) = _
      by_cases q : j = i
      · rw [if_pos q]
      · rw [if_neg q]; exact b1 j (by omega)
  exact LP 16 0 (by omega) 1000000 g (by omega) agr_rfl (fun j hj => by omega)
theorem R_462c {l : Nat} (l16 : l ≤ 16) (t : Int32) (g : sm_H) (e3 : g.1 67 3 = I3 l) : ∃ g1, F_462_212 t 0 g = F_429 18 0 t 0 g1 ∧ agr SRp g g1 ∧ prR g1 (lst (fun j => g.1 128 j) l) := by
  have LP : ∀ r i, i + r = l → ∀ (f : Nat) (u : sm_H), r < f → agr (fun b _ => b = 69) g u → (∀ j, j < i → u.1 69 j = g.1 128 j) → ∃ g1, lp F_462_212B f (t, I3 i, u) = F_429 18 0 t 0 g1 ∧ agr (fun b _ => b = 69) g g1 ∧ ∀ j, j < l → g1.1 69 j = g.1 128 j := by
    intro r
    induction r with
    | zero =>
      intro i hi f u hf a1 b1
      have e : i = l := by omega
      subst e
      refine ⟨u, ?_, a1, b1⟩
      rw [lp_oK (by omega)]
      unfold F_462_212B
      show oK _ _ (if u.1 67 3 ≤ I3 i then _ else _) = _
      rw [a1.1 67 3 (by omega), e3, if_pos (by rw [I3_le (by omega) (by omega)]; omega)]
      simp only []
      cases F_429 18 0 t 0 u <;> rfl
    | succ r ih =>
      intro i hi f u hf a1 b1
      rw [lp_s (s' := (t, I3 (i + 1), sm_wI u 69 i (g.1 128 i))) (by omega) (by
        unfold F_462_212B
        show (if u.1 67 3 ≤ I3 i then _ else _) = _
        rw [a1.1 67 3 (by omega), e3, if_neg (by rw [I3_le (by omega) (by omega)]; omega)]
        simp only []
        rw [ldI_I (by omega) (by decide), a1.1 128 i (by omega)]; simp only [obs]
        rw [stI_I (by omega) (by decide)]; simp only [obs]
        rw [show I3 i + 1 = I3 (i + 1) from I3_add i 1])]
      refine ih (i + 1) (by omega) (f - 1) _ (by omega) (agr_wI a1 rfl) (fun j hj => ?_)
      show (if j = i then g.1 128 i else u.1 69 j) = _
      by_cases q : j = i
      · rw [if_pos q, q]
      · rw [if_neg q]; exact b1 j (by omega)
  obtain ⟨g1, a, b, c⟩ := LP l 0 (by omega) 1000000 g (by omega) agr_rfl (fun j hj => by omega)
  refine ⟨g1, a, agr_mono (fun b j z => by unfold SRp; omega) b, ?_, by rw [lst_len]; omega, fun j hj => ?_⟩
  · rw [b.1 67 3 (by omega), e3, lst_len]
  · rw [lst_len] at hj
    rw [c j hj, at0_lst hj]
def PW (b0 : Nat) (h g : sm_H) (pc : Nat) (rc rr : Option (Int32 × sm_H)) (nm : Nat → Int64) (kd : List Int32) : Prop :=
  (∃ y h1 g1, rc = some (I3 y, h1) ∧ rr = some (I3 y, g1) ∧ y < nH g1 ∧ hpl g1 y = kd ∧ TW b0 h g h1 g1 ∧ NF h1 g1 ∧ SCO nm kd h1 g1) ∨ ∃ e h1 g1, rc = some (-1, h1) ∧ rr = some (-1, g1) ∧ TW b0 h g h1 g1 ∧ FT e pc h1 g1
theorem R_462d (K : K1 h g) (k1 : k < 24) (n3 : n ≤ 3) (fne : ¬ g.1 67 77 = 0) (ok : ∀ i, i < n → ∃ y, y < nH g ∧ g.1 125 (20 * k + i) = I3 y) : ∀ r i, i + r = n → ∀ (f : Nat) (u : sm_H), r < f → agr S127 g u → ∃ g1, lp F_462_30B f (I3 k, I3 n, I3 i, u) = some (-1, g1) ∧ agr S127 g g1 := by
  have ix : ∀ j, (20 : Int32) * I3 k + I3 j = I3 (20 * k + j) := fun j => by rw [I3_lit, I3_mul, I3_add]
  have fu : ∀ u, agr S127 g u → ¬ u.1 67 77 = 0 := fun u a => by rw [a.1 67 77 (by unfold S127; omega)]; exact fne
  intro r
  induction r with
  | zero =>
    intro i hi f u hf a1
    have e : i = n := by omega
    subst e
    have a2 : agr S127 g (sm_wI u 128 (4 * i + 2) (-1)) := agr_wI a1 (by unfold S127; omega)
    have a3 : agr S127 g (sm_wI (sm_wI u 128 (4 * i + 2) (-1)) 128 (4 * i + 3) ((sm_wI u 128 (4 * i + 2) (-1)).1 125 (20 * k + (2 * i + 1)))) := agr_wI a2 (by unfold S127; omega)
    refine ⟨_, lp_e (by omega) ?_, a3⟩
    unfold F_462_30B
    show (if I3 i ≤ I3 i then _ else _) = _
    rw [if_pos (by rw [I3_le (by omega) (by omega)]; omega)]
    simp only []
    rw [show (2 : Int32) * I3 i = I3 (2 * i) from I3_mul 2 i, show (4 : Int32) * I3 i = I3 (4 * i) from I3_mul 4 i, ix, ldI_I (by omega) (by decide)]; simp only [obs]
    rw [dd433 (fu u a1)]; simp only [obs]
    rw [show I3 (4 * i) + 2 = I3 (4 * i + 2) from I3_add _ 2, show I3 (4 * i) + 3 = I3 (4 * i + 3) from I3_add _ 3, show I3 (20 * k + 2 * i) + 1 = I3 (20 * k + (2 * i + 1)) from I3_add _ 1, stI_I (by omega) (by decide)]; simp only [obs]
    rw [ldI_I (by omega) (by decide)]; simp only [obs]
    rw [stI_I (by omega) (by decide)]; simp only [obs]
    rw [if_neg (fu _ a3)]
  | succ r ih =>
    intro i hi f u hf a1
    obtain ⟨y, y1, y2⟩ := ok i (by omega)
    have a2 : agr S127 g (sm_wI u 128 (4 * i) (I3 y)) := agr_wI a1 (by unfold S127; omega)
    have a3 : agr S127 g (sm_wI (sm_wI u 128 (4 * i) (I3 y)) 128 (4 * i + 1) (-1)) := agr_wI a2 (by unfold S127; omega)
    have T := TB_127 (TB_of (b0 := 0) (TK_rfl K)) a2
    have l1 : ∀ u, agr S127 g u → ldI u 125 480 (I3 (20 * k + i)) = some (I3 y) := fun u a => by rw [ldI_I (by omega) (by decide), a.1 125 _ (by unfold S127; omega), y2]
    rw [lp_s (s' := (I3 k, I3 n, I3 (i + 1), sm_wI (sm_wI u 128 (4 * i) (I3 y)) 128 (4 * i + 1) (-1))) (by omega) (by
      unfold F_462_30B
      show (if I3 n ≤ I3 i then _ else _) = _
      rw [if_neg (by rw [I3_le (by omega) (by omega)]; omega)]
      simp only []
      rw [show (4 : Int32) * I3 i = I3 (4 * i) from I3_mul 4 i, ix, ix, l1 u a1]; simp only [obs]
      rw [stI_I (by omega) (by decide)]; simp only [obs]
      rw [show I3 (20 * k + n) + I3 i = I3 (20 * k + n + i) from I3_add _ _, ldI_I (by omega) (by decide)]; simp only [obs]
      rw [l1 _ a2]; simp only [obs]
      rw [R_rs T.k (T.nH y1)]; simp only [obs]
      rw [dd433 (fu _ a2)]; simp only [obs]
      rw [show I3 (4 * i) + 1 = I3 (4 * i + 1) from I3_add _ 1, stI_I (by omega) (by decide)]; simp only [obs]
      rw [show I3 i + 1 = I3 (i + 1) from I3_add i 1])]
    exact ih (i + 1) (by omega) (f - 1) _ (by omega) a3
theorem TW_dd {b0 : Nat} {h1 g1 g2 : sm_H} (t : TW b0 h g h1 g1) (a : agr Sdd g1 g2) : TW b0 h g h1 g2 := TW_trans t (TW_of (TB_dd (TB_of (TK_rfl t.k)) a))
theorem wh_TW {b0 : Nat} {h1 g1 : sm_H} (wh : g.1 67 106 = I3 pc) (t : TW b0 h g h1 g1) : g1.1 67 106 = I3 pc := (t.a.1 67 106 (by unfold SRa SRq SRb SRp SRh SRt Ssr; omega)).trans wh
theorem loopEnd (K : K1 h g) (S : SCO nm' (ks ++ kd) h g) (en : ∀ i, nm' (ks.length + i) = nm i) (nf : NF h g) (wh : g.1 67 106 = I3 pc) (n1 : 1 ≤ n) (n3 : n ≤ 3) (lk : ks.length = n) (st : STK h base (2 * n + 2) pt) (k1 : k < 24) (k0 : ∀ i, i < n → ¬ at0 ks i = 0) (ok0 : ∀ i, i < n → pt i < nH g ∧ hpl g (pt i) = kd ∧ hrs g (pt i) = at0 ks i) (ok1 : ∀ j, n ≤ j → j < 2 * n + 2 → pt j < nH g ∧ hpl g (pt j) = ks ++ kd) (f125 : ∀ i, i < 2 * n + 2 → g.1 125 (20 * k + i) = I3 (pt i)) (f122 : g.1 122 k = I3 n) (f123 : g.1 123 k = I3 (400 - kd.length)) (rec : sm_H → Option (Int32 × sm_H)) :
    PW base h g pc (F_211_69 rec (I3 pc) (I3 base) (I3 n) 0 h) (F_462 (I3 k) g) nm kd := by
  have h12 := K.1.2.1
  have ix : ∀ j, (20 : Int32) * I3 k + I3 j = I3 (20 * k + j) := fun j => by rw [I3_lit, I3_mul, I3_add]
  obtain ⟨g0, r1, r2, r3⟩ := R_462a (I3 k) (I3 n) g
  have R0 : F_462 (I3 k) g = lp F_462_30B 1000000 (I3 k, I3 n, I3 0, g0) := by
    show F_462_0 (I3 k) g = _
    unfold F_462_0
    rw [ldI_I k1 (by decide), f122]; simp only [obs]
    exact r1
  rw [R0]
  have kL12 : (ks ++ kd).length ≤ 13 := S.2.1
  rw [List.length_append] at kL12
  have LP : ∀ r i, i + r = n → ∀ (f : Nat) (h1 g1 : sm_H) (p : Nat → Nat), r < f → TB base h g h1 g1 → NF h1 g1 → STK h1 base (2 * n + 2) p → (∀ j, j < n → p j = pt j) → (∀ j, n + i ≤ j → p j = pt j) → (∀ j, n ≤ j → j < 2 * n + 2 → p j < nH g1 ∧ hpl g1 (p j) = ks ++ kd) → (∀ j, j < i → hrs g1 (p (n + j)) = at0 ks j ∧ g1.1 128 (4 * j) = I3 (p j) ∧ g1.1 128 (4 * j + 1) = I3 (p (n + j))) → (∀ j, j < 16 → (4 * i ≤ j ∨ j % 4 = 2 ∨ j % 4 = 3) → g1.1 128 j = -1) → PW base h g pc (lp (F_211_69B rec) f (I3 pc, I3 base, I3 n, I3 i, h1)) (lp F_462_30B f (I3 k, I3 n, I3 i, g1)) nm kd := by
    intro r
    induction r with
    | zero =>
      intro i hi f h1 g1 p hf T nf1 s1 pa pb pc1 pd pe
      have e : i = n := by omega
      subst e
      have nc := T.nC
      have S1 := SCO_TB S T
      have wh1 := wh_TB wh T
      have l125 : ∀ u, agr SRa g u → ∀ j, j < 2 * i + 2 → ldI u 125 480 (I3 (20 * k + j)) = some (I3 (pt j)) := fun u a j hj => by rw [ldI_I (by omega) (by decide), a.1 125 _ (by unfold SRa SRq SRb SRp SRh SRt; omega), f125 j hj]
      have ec : p (2 * i) = pt (2 * i) := pb _ (by omega)
      have er : p (2 * i + 1) = pt (2 * i + 1) := pb _ (by omega)
      have C0 : ∀ v h2, F_190 (I3 (base + 2 * i)) 1 (I3 pc) h1 = some (v, h2) → F_211_69B rec (I3 pc, I3 base, I3 i, I3 i, h1) = if v = 0 then some (.inr (-1, h2)) else ((F_184 (I3 i) h2).bind fun q2 =>
          (F_189 (I3 (base + 2 * i) + 1) q2).bind fun q3 =>
          (F_185 q3.1 (I3 pc) q3.2).bind fun q4 =>
          if q4.1 = (-1) then (some (.inr ((-1), q4.2)))
          else ((F_213 (I3 base) (I3 i) q4.2).bind fun q5 =>
          (F_5 18 0 q4.1 0 56 q5).bind fun q6 =>
          if 0 ≤ q6.1 then ((F_211_194 rec q6.1 q6.2).map fun r => (.inr r))
          else ((F_169 8 (I3 pc) q6.2).bind fun q7 =>
          (F_211_194 rec q7.1 q7.2).map fun r => (.inr r)))) := fun v h2 z => by
        unfold F_211_69B
        show (if I3 i ≤ I3 i then _ else _) = _
        rw [if_pos (by rw [I3_le (by omega) (by omega)]; omega)]
        simp only []
        rw [show I3 base + 2 * I3 i = I3 (base + 2 * i) by rw [I3_lit, I3_mul, I3_add], z]; simp only [obs]
      have R1 : ∀ v g2, F_433 (I3 (pt (2 * i))) 1 g1 = some (v, g2) → agr SRq g1 g2 → F_462_30B (I3 k, I3 i, I3 i, g1) = if (sm_wI (sm_wI g2 128 (4 * i + 2) v) 128 (4 * i + 3) (I3 (pt (2 * i + 1)))).1 67 77 = 0 then ((F_307 (I3 (pt (2 * i + 1))) (sm_wI (sm_wI (sm_wI g2 128 (4 * i + 2) v) 128 (4 * i + 3) (I3 (pt (2 * i + 1)))) 67 94 (I3 (400 - kd.length)))).bind fun q13 =>
          (F_428 q13.1 q13.2).bind fun q14 =>
          if q14.1 = (-1) then (some (.inr ((-1), q14.2)))
          else ((some (sm_wI q14.2 67 3 (I3 (4 * i + 4)))).bind fun h15 =>
          (F_462_212 q14.1 0 h15).map fun r => (.inr r))) else some (.inr (-1, sm_wI (sm_wI g2 128 (4 * i + 2) v) 128 (4 * i + 3) (I3 (pt (2 * i + 1))))) := fun v g2 z aq => by
        have a2 : agr SRa g g2 := agr_trans T.a (agr_mono (fun _ _ z => Or.inl z) aq)
        unfold F_462_30B
        show (if I3 i ≤ I3 i then _ else _) = _
        rw [if_pos (by rw [I3_le (by omega) (by omega)]; omega)]
        simp only []
        rw [show (2 : Int32) * I3 i = I3 (2 * i) from I3_mul 2 i, show (4 : Int32) * I3 i = I3 (4 * i) from I3_mul 4 i, ix, l125 g1 T.a _ (by omega)]; simp only [obs]
        rw [z]; simp only [obs]
        rw [show I3 (4 * i) + 2 = I3 (4 * i + 2) from I3_add _ 2, show I3 (4 * i) + 3 = I3 (4 * i + 3) from I3_add _ 3, show I3 (4 * i) + 4 = I3 (4 * i + 4) from I3_add _ 4, show I3 (20 * k + 2 * i) + 1 = I3 (20 * k + (2 * i + 1)) from I3_add _ 1, stI_I (by omega) (by decide)]; simp only [obs]
        rw [l125 (sm_wI g2 128 (4 * i + 2) v) (agr_wI a2 (Or.inr (by omega))) _ (by omega)]; simp only [obs]
        rw [stI_I (by omega) (by decide)]; simp only [obs]
        rw [ldI_I k1 (by decide), show (sm_wI (sm_wI g2 128 (4 * i + 2) v) 128 (4 * i + 3) (I3 (pt (2 * i + 1)))).1 123 k = I3 (400 - kd.length) from (a2.1 123 k (by unfold SRa SRq SRb SRp SRh SRt; omega)).trans f123]; simp only [obs]
        rw [ldI_I (by omega) (by decide), show (sm_wI (sm_wI (sm_wI g2 128 (4 * i + 2) v) 128 (4 * i + 3) (I3 (pt (2 * i + 1)))) 67 94 (I3 (400 - kd.length))).1 128 (4 * i + 3) = I3 (pt (2 * i + 1)) from if_pos rfl]; simp only [obs]
      rcases pass1 T.k S1 nf1 (i := 2 * i) (pc := pc) wh1 s1 (by omega) (pc1 (2 * i) (by omega) (by omega)).1 (pc1 (2 * i) (by omega) (by omega)).2 (k := 1) (by omega) with ⟨z, h2, g2, c1, c2, c3, c4, c5, c6, c7, c8⟩ | ⟨e, h2, g2, c1, c2, c3, c4⟩
      · have aq := a433 T.k S1 nf1 wh1 (pc1 (2 * i) (by omega) (by omega)).1 (pc1 (2 * i) (by omega) (by omega)).2 (k := 1) (by omega) c2
        rw [ec] at c2
        have B1 := C0 _ _ c1
        have B2 := R1 _ _ c2 aq
        rw [if_neg (by decide)] at B1
        have a23 : agr S127 g2 (sm_wI (sm_wI g2 128 (4 * i + 2) (I3 z)) 128 (4 * i + 3) (I3 (pt (2 * i + 1)))) := agr_wI (agr_wI agr_rfl (by unfold S127; omega)) (by unfold S127; omega)
        have v128 : ∀ x, (sm_wI (sm_wI g2 128 (4 * i + 2) (I3 z)) 128 (4 * i + 3) (I3 (pt (2 * i + 1)))).1 128 x = if x = 4 * i + 3 then I3 (pt (2 * i + 1)) else if x = 4 * i + 2 then I3 z else g2.1 128 x := fun x => rfl
        generalize hg3 : sm_wI (sm_wI g2 128 (4 * i + 2) (I3 z)) 128 (4 * i + 3) (I3 (pt (2 * i + 1))) = g3 at *
        have T2 := TB_mono (Nat.le_add_right base (2 * i)) c7
        have T13 : TB base h1 g1 h2 g3 := TB_127 T2 a23
        have T3 : TB base h g h2 g3 := TB_trans T T13
        have n3' : NF h2 g3 := NF_127 c8 a23
        rw [if_pos n3'.2] at B2
        have en' : ∀ j, nm' (ks.length + j) = nm j := en
        obtain ⟨h3, d1, d2, d3, d4⟩ := SCO_drop (SCO_TB S T3) en'
        rw [lk] at d1
        have W34 : TW base h2 g3 h3 (sm_wI g3 67 94 (I3 (400 - kd.length))) := TW_sc T3.k d3 d4
        have v4 : ∀ x, (sm_wI g3 67 94 (I3 (400 - kd.length))).1 128 x = g3.1 128 x := fun x => rfl
        generalize hg4 : sm_wI g3 67 94 (I3 (400 - kd.length)) = g4 at *
        have W04 : TW base h g h3 g4 := TW_trans (TW_of T3) W34
        have W14 : TW base h1 g1 h3 g4 := TW_trans (TW_of T13) W34
        have W24 : TW base h2 g2 h3 g4 := TW_trans (TW_of (TB_127 (TB_of (TK_rfl c7.k)) a23)) W34
        have n4 : NF h3 g4 := NF_sc n3' d3 d4
        have wh4 := wh_TW wh W04
        have okr := ok1 (2 * i + 1) (by omega) (by omega)
        have okr4 := W04.nH okr.1
        have s3 := STK_sc c6 d3
        rw [d1] at B1; simp only [obs] at B1
        have u1 : updN p (2 * i) z (2 * i + 1) = pt (2 * i + 1) := by rw [up_o _ _ (by omega)]; exact er
        rw [show I3 (base + 2 * i) + 1 = I3 (base + (2 * i + 1)) from I3_add _ 1, C_189 W34.k s3 (i := 2 * i + 1) (by omega) (by rw [u1]; exact okr4), u1] at B1; simp only [obs] at B1
        rw [R_rs W34.k okr4] at B2; simp only [obs] at B2
        rcases scopeTy W34.k d2 n4 wh4 (kR_h W34.k okr4) with ⟨t, h5, g5, e1, e2, t1, t2, t3, t4, T5, n5⟩ | ⟨e, h5, g5, e1, e2, T5, ft⟩
        · have w3 := w300 T5.k
          rw [e1] at B1; simp only [obs] at B1
          rw [e2] at B2; simp only [obs] at B2
          rw [if_neg (I3_m1 (by omega))] at B1 B2
          have v5 : ∀ x, g5.1 128 x = if x = 4 * i + 3 then I3 (pt (2 * i + 1)) else if x = 4 * i + 2 then I3 z else g1.1 128 x := fun x => by
            rw [T5.a.1 128 x (by unfold SRq SRb SRp SRh SRt; omega), v4, v128, aq.1 128 x (by unfold SRq SRb SRp SRh SRt; omega)]
          have at5 : ∀ x, x < 4 * i + 4 → at0 (lst (fun j => g5.1 128 j) (4 * i + 4)) x = g5.1 128 x := fun x hx => at0_lst hx
          have qa : ∀ j, j < i → at0 (lst (fun j => g5.1 128 j) (4 * i + 4)) (4 * j) = I3 (updN p (2 * i) z j) ∧ at0 (lst (fun j => g5.1 128 j) (4 * i + 4)) (4 * j + 1) = I3 (updN p (2 * i) z (i + j)) ∧ at0 (lst (fun j => g5.1 128 j) (4 * i + 4)) (4 * j + 2) = -1 ∧ at0 (lst (fun j => g5.1 128 j) (4 * i + 4)) (4 * j + 3) = -1 := fun j hj => by
            rw [at5 _ (by omega), at5 _ (by omega), at5 _ (by omega), at5 _ (by omega), v5, v5, v5, v5]
            rw [if_neg (by omega), if_neg (by omega), if_neg (by omega), if_neg (by omega), if_neg (by omega), if_neg (by omega), if_neg (by omega), if_neg (by omega), up_o _ _ (by omega), up_o _ _ (by omega)]
            exact ⟨(pd j hj).2.1, (pd j hj).2.2, pe _ (by omega) (by omega), pe _ (by omega) (by omega)⟩
          have q0 : at0 (lst (fun j => g5.1 128 j) (4 * i + 4)) (4 * i) = -1 := by rw [at5 _ (by omega), v5, if_neg (by omega), if_neg (by omega)]; exact pe _ (by omega) (by omega)
          have q1 : at0 (lst (fun j => g5.1 128 j) (4 * i + 4)) (4 * i + 1) = -1 := by rw [at5 _ (by omega), v5, if_neg (by omega), if_neg (by omega)]; exact pe _ (by omega) (by omega)
          have q2 : at0 (lst (fun j => g5.1 128 j) (4 * i + 4)) (4 * i + 2) = I3 z := by rw [at5 _ (by omega), v5, if_neg (by omega), if_pos rfl]
          have q3 : at0 (lst (fun j => g5.1 128 j) (4 * i + 4)) (4 * i + 3) = I3 (pt (2 * i + 1)) := by rw [at5 _ (by omega), v5, if_pos rfl]
          have ll : (lst (fun j => g5.1 128 j) (4 * i + 4)).length = 4 * i + 4 := lst_len _ _
          obtain ⟨h6, x1, x2, x3⟩ := C_213 (ps := lst (fun j => g5.1 128 j) (4 * i + 4)) n3 (STK_TK s3 T5) ll qa q0 q1 (by rw [q2, up_s]) (by rw [q3, u1])
          rw [x1] at B1; simp only [obs] at B1
          obtain ⟨g6, y1, y2, y3⟩ := R_462c (l := 4 * i + 4) (by omega) (I3 t) (sm_wI g5 67 3 (I3 (4 * i + 4))) rfl
          have a56 : agr SRp g5 g6 := agr_trans (agr_wI agr_rfl (by unfold SRp; omega)) y2
          have T46 : TK h3 g4 h6 g6 := TK_par (TK_row T5 x3) a56
          have n6 : NF h6 g6 := NF_par (NF_row n5 x3) a56
          have K6 := K1_c19 T46.k
          have e56 : ext g5 (sm_wI g6 67 19 0) := ext_trans (TK_par (TK_rfl T5.k) a56).e (ext_19 g6 0)
          have W06 : TW base h g h6 (sm_wI g6 67 19 0) := TW_trans W04 (TW_of (TB_of (TK_19 T46)))
          have W16 : TW base h1 g1 h6 (sm_wI g6 67 19 0) := TW_trans W14 (TW_of (TB_of (TK_19 T46)))
          have W26 : TW base h2 g2 h6 (sm_wI g6 67 19 0) := TW_trans W24 (TW_of (TB_of (TK_19 T46)))
          have W56 : TK h5 g5 h6 (sm_wI g6 67 19 0) := TK_19 (TK_par (TK_row (TK_rfl T5.k) x3) a56)
          have tnT : nT (sm_wI g6 67 19 0) = nT g5 := congrArg tn (a56.1 67 10 (by unfold SRp; omega))
          have tt1 : t < nT (sm_wI g6 67 19 0) := by rw [tnT]; exact t1
          have tt2 : rs (sm_wI g6 67 19 0) t = rs g5 t := a56.1 72 t (by unfold SRp; omega)
          have ttm : tM (sm_wI g6 67 19 0) t = tM g5 t := congrArg tn (a56.1 73 t (by unfold SRp; omega))
          have tt3 : pl (sm_wI g6 67 19 0) t = kd := by
            rw [← t3]
            show lst _ (tM (sm_wI g6 67 19 0) t) = lst _ (tM g5 t)
            rw [ttm]; exact lst_congr (fun x _ => a56.1 74 _ (by unfold SRp; omega))
          have ck := loopCk K6 (ps := lst (fun j => g5.1 128 j) (4 * i + 4)) y3 (n := i) (t := t) (c := z) (r := pt (2 * i + 1)) (a := pt) (b := fun j => p (i + j)) (kd := kd) (ks := ks) n1 n3 tt1 tt3 (tt2.trans (t2.trans ((TK_19 T46).hrs W34.k okr4).symm)) lk ll (fun j hj => by
            obtain ⟨z0, z1, z2, z3⟩ := qa j hj
            rw [up_o _ _ (by omega), pa j hj] at z0
            rw [up_o _ _ (by omega)] at z1
            exact ⟨z0, z1, z2, z3⟩) q0 q1 q2 q3 (fun j hj => ⟨W06.nH (ok0 j hj).1, (W06.hpl K (ok0 j hj).1).trans (ok0 j hj).2.1, (W06.hrs K (ok0 j hj).1).trans (ok0 j hj).2.2⟩) (fun j hj => ⟨W16.nH (pc1 (i + j) (by omega) (by omega)).1, (W16.hpl T.k (pc1 (i + j) (by omega) (by omega)).1).trans (pc1 (i + j) (by omega) (by omega)).2, (W16.hrs T.k (pc1 (i + j) (by omega) (by omega)).1).trans (pd j hj).1⟩) ⟨W26.nH c3, (W26.hpl c7.k c3).trans c5, (W26.hrs c7.k c3).trans c4⟩ ⟨W06.nH okr.1, (W06.hpl K okr.1).trans okr.2⟩ k0 0 0
          rw [tt3] at ck
          have M := mkForm T46.k n6 (f := 18) (wh_TK wh4 T46) 0 (I3 t) 0 x2 y3 (by decide) (by omega) ck
          rw [show F_462_212 (I3 t) 0 (sm_wI g5 67 3 (I3 (4 * i + 4))) = F_429 18 0 (I3 t) 0 g6 from y1] at B2
          rcases M with ⟨w, h7, g7, m1, m2, m3, m4, m5, m6, m7⟩ | ⟨w', h7, h8, g8, w0, m1, m2, m3, m4, m5⟩
          · rw [show F_5 18 0 (I3 t) 0 56 h6 = _ from m1] at B1; simp only [obs] at B1
            rw [if_pos (h_ge m6.k m3)] at B1
            rw [show F_429 18 0 (I3 t) 0 g6 = _ from m2] at B2
            refine Or.inl ⟨w, h7, g7, lp_e (by omega) B1, lp_e (by omega) B2, m3, m5, TW_trans W04 (TW_of (TB_of (TK_trans T46 m6))), m7, SCO_TK d2 (TK_trans T46 m6)⟩
          · rw [show F_5 18 0 (I3 t) 0 56 h6 = _ from m1] at B1; simp only [obs] at B1
            rw [if_neg (Int32.not_le.mpr w0), m2] at B1
            rw [show F_429 18 0 (I3 t) 0 g6 = _ from m3] at B2
            exact Or.inr ⟨8, h8, g8, lp_e (by omega) B1, lp_e (by omega) B2, TW_trans W04 (TW_of (TB_of (TK_trans T46 m4))), m5⟩
        · rw [e1] at B1; simp only [obs] at B1
          rw [e2] at B2; simp only [obs] at B2
          rw [if_pos trivial] at B1 B2
          rw [lp_e (by omega) B1, lp_e (by omega) B2]
          exact Or.inr ⟨e, h5, g5, rfl, rfl, TW_trans W04 (TW_of (TB_of T5)), ft⟩
      · rw [ec] at c2
        have B1 := C0 _ _ c1
        have B2 := R1 _ _ c2 c3.a
        rw [if_pos rfl] at B1
        have a2 : agr S127 g2 (sm_wI (sm_wI g2 128 (4 * i + 2) (-1)) 128 (4 * i + 3) (I3 (pt (2 * i + 1)))) := agr_wI (agr_wI agr_rfl (by unfold S127; omega)) (by unfold S127; omega)
        rw [if_neg (by rw [a2.1 67 77 (by unfold S127; omega)]; exact FT_ne c4)] at B2
        rw [lp_e (by omega) B1, lp_e (by omega) B2]
        exact Or.inr ⟨e, h2, _, rfl, rfl, TW_dd (TW_of (TB_trans T (TB_of c3))) (ag127 a2), FT_dd c4 (ag127 a2)⟩
    | succ r ih =>
      intro i hi f h1 g1 p hf T nf1 s1 pa pb pc1 pd pe
      obtain ⟨o1, o2, o3⟩ := ok0 i (by omega)
      obtain ⟨q, q1, q2⟩ := rs_k K o1
      have nc := T.nC
      have a1 : agr S127 g1 (sm_wI g1 128 (4 * i) (I3 (pt i))) := agr_wI agr_rfl (by unfold S127; omega)
      have v1 : ∀ x, (sm_wI g1 128 (4 * i) (I3 (pt i))).1 128 x = if x = 4 * i then I3 (pt i) else g1.1 128 x := fun x => rfl
      have st1 : ldI g1 125 480 (I3 (20 * k + i)) = some (I3 (pt i)) := by rw [ldI_I (by omega) (by decide), T.a.1 125 _ (by unfold SRa SRq SRb SRp SRh SRt; omega), f125 i (by omega)]
      have st2 : stI g1 128 16 (I3 (4 * i)) (I3 (pt i)) = some (sm_wI g1 128 (4 * i) (I3 (pt i))) := stI_I (by omega) (by decide)
      generalize hg : sm_wI g1 128 (4 * i) (I3 (pt i)) = g1' at *
      have T11 : TB base h1 g1 h1 g1' := TB_127 (TB_of (TK_rfl T.k)) a1
      have T' : TB base h g h1 g1' := TB_trans T T11
      have nf' : NF h1 g1' := NF_127 nf1 a1
      have wh' := wh_TB wh T'
      have S' := SCO_TB S T'
      have o1' := T'.nH o1
      have ri : hrs g1' (pt i) = I3 q := (T'.hrs K o1).trans q1
      have ri1 : hrs g1 (pt i) = I3 q := (T.hrs K o1).trans q1
      have oks := pc1 (n + i) (by omega) (by omega)
      have oks' := T11.nH oks.1
      have es : p (n + i) = pt (n + i) := pb _ (by omega)
      have b125 : ∀ j, j < 2 * n + 2 → ldI g1' 125 480 (I3 (20 * k + j)) = some (I3 (pt j)) := fun j hj => by rw [ldI_I (by omega) (by decide), T'.a.1 125 _ (by unfold SRa SRq SRb SRp SRh SRt; omega), f125 j hj]
      have B1 : ∀ v h2, F_190 (I3 (base + (n + i))) (I3 q) (I3 pc) h1 = some (v, h2) → F_211_69B rec (I3 pc, I3 base, I3 n, I3 i, h1) = if v = 0 then some (.inr (-1, h2)) else some (.inl (I3 pc, I3 base, I3 n, I3 (i + 1), h2)) := fun v h2 z => by
        unfold F_211_69B
        show (if I3 n ≤ I3 i then _ else _) = _
        rw [if_neg (by rw [I3_le (by omega) (by omega)]; omega)]
        simp only []
        rw [show I3 base + I3 i = I3 (base + i) from I3_add _ _, C_189 T.k s1 (i := i) (by omega) (by rw [pa i (by omega)]; exact T.nH o1), pa i (by omega), ri1]; simp only [obs]
        rw [show I3 base + I3 n + I3 i = I3 (base + (n + i)) by rw [I3_add, I3_add, Nat.add_assoc], z]; simp only [obs]
        rw [show I3 i + 1 = I3 (i + 1) from I3_add i 1]
      have B2 : ∀ v g2, F_433 (I3 (pt (n + i))) (I3 q) g1' = some (v, g2) → F_462_30B (I3 k, I3 n, I3 i, g1) = some (.inl (I3 k, I3 n, I3 (i + 1), sm_wI g2 128 (4 * i + 1) v)) := fun v g2 z => by
        unfold F_462_30B
        show (if I3 n ≤ I3 i then _ else _) = _
        rw [if_neg (by rw [I3_le (by omega) (by omega)]; omega)]
        simp only []
        rw [show (4 : Int32) * I3 i = I3 (4 * i) from I3_mul 4 i, ix, ix, st1]; simp only [obs]
        rw [st2]; simp only [obs]
        rw [show I3 (20 * k + n) + I3 i = I3 (20 * k + (n + i)) by rw [I3_add, Nat.add_assoc], b125 _ (by omega)]; simp only [obs]
        rw [b125 _ (by omega)]; simp only [obs]
        rw [R_rs T'.k o1', ri]; simp only [obs]
        rw [z]; simp only [obs]
        rw [show I3 (4 * i) + 1 = I3 (4 * i + 1) from I3_add _ 1, stI_I (by omega) (by decide)]; simp only [obs]
        rw [show I3 i + 1 = I3 (i + 1) from I3_add i 1]
      have hps : hpl g1' (p (n + i)) = ks ++ kd := (T11.hpl T.k oks.1).trans oks.2
      rcases pass1 T'.k S' nf' (i := n + i) (pc := pc) wh' s1 (by omega) oks' hps (k := q) (by have := T'.nC; omega) with ⟨z, h2, g2, c1, c2, c3, c4, c5, c6, c7, c8⟩ | ⟨e, h2, g2, c1, c2, c3, c4⟩
      · have aq := a433 T'.k S' nf' wh' oks' hps (k := q) (by have := T'.nC; omega) c2
        rw [es] at c2
        have b1 := B1 _ _ c1
        have b2 := B2 _ _ c2
        rw [if_neg (by decide)] at b1
        rw [lp_s (by omega) b1, lp_s (by omega) b2]
        have a2 : agr S127 g2 (sm_wI g2 128 (4 * i + 1) (I3 z)) := agr_wI agr_rfl (by unfold S127; omega)
        have v2 : ∀ x, (sm_wI g2 128 (4 * i + 1) (I3 z)).1 128 x = if x = 4 * i + 1 then I3 z else if x = 4 * i then I3 (pt i) else g1.1 128 x := fun x => by
          show (if x = 4 * i + 1 then I3 z else g2.1 128 x) = _
          rw [aq.1 128 x (by unfold SRq SRb SRp SRh SRt; omega), v1]
        have T12 : TB base h1 g1 h2 (sm_wI g2 128 (4 * i + 1) (I3 z)) := TB_127 (TB_trans T11 (TB_mono (Nat.le_add_right base (n + i)) c7)) a2
        have Tz : TB base h2 g2 h2 (sm_wI g2 128 (4 * i + 1) (I3 z)) := TB_127 (TB_of (TK_rfl c7.k)) a2
        refine ih (i + 1) (by omega) (f - 1) _ _ (updN p (n + i) z) (by omega) (TB_trans T T12) (NF_127 c8 a2) c6 (fun j hj => ?_) (fun j hj => ?_) (fun j hj1 hj2 => ?_) (fun j hj => ?_) (fun j hj hj2 => ?_)
        · rw [up_o _ _ (by omega)]; exact pa j hj
        · rw [up_o _ _ (by omega)]; exact pb j (by omega)
        · by_cases w : j = n + i
          · subst w
            rw [up_s]; exact ⟨Tz.nH c3, (Tz.hpl c7.k c3).trans c5⟩
          · rw [up_o _ _ w]
            exact ⟨T12.nH (pc1 j hj1 hj2).1, (T12.hpl T.k (pc1 j hj1 hj2).1).trans (pc1 j hj1 hj2).2⟩
        · rw [v2, v2]
          by_cases w : j = i
          · subst w
            rw [up_s, if_neg (by omega), if_pos rfl, if_pos rfl, up_o _ _ (by omega), pa j (by omega)]
            exact ⟨((Tz.hrs c7.k c3).trans c4).trans (q1.symm.trans o3), rfl, rfl⟩
          · obtain ⟨d1, d2, d3⟩ := pd j (by omega)
            rw [if_neg (by omega), if_neg (by omega), if_neg (by omega), if_neg (by omega), up_o _ _ (by omega), up_o _ _ (by omega)]
            exact ⟨(T12.hrs T.k (pc1 (n + j) (by omega) (by omega)).1).trans d1, d2, d3⟩
        · rw [v2, if_neg (by omega), if_neg (by omega)]
          exact pe j hj (by omega)
      · rw [es] at c2
        have b1 := B1 _ _ c1
        have b2 := B2 _ _ c2
        rw [if_pos rfl] at b1
        rw [lp_e (by omega) b1, lp_s (by omega) b2]
        have a2 : agr S127 g2 (sm_wI g2 128 (4 * i + 1) (-1)) := agr_wI agr_rfl (by unfold S127; omega)
        have T2 : TB base h g h2 g2 := TB_trans T' (TB_of c3)
        obtain ⟨g4, d1, d2⟩ := R_462d T2.k k1 n3 (FT_ne c4) (fun j hj => ⟨pt j, T2.nH (ok0 j hj).1, (T2.a.1 125 _ (by unfold SRa SRq SRb SRp SRh SRt; omega)).trans (f125 j (by omega))⟩) r (i + 1) (by omega) (f - 1) _ (by omega) a2
        exact Or.inr ⟨e, h2, g4, rfl, d1, TW_dd (TW_of T2) (ag127 d2), FT_dd c4 (ag127 d2)⟩
  exact LP n 0 (by omega) 1000000 h g0 pt (by omega) (TB_127 (TB_of (TK_rfl K)) r2) (NF_127 nf r2) st (fun _ _ => rfl) (fun _ _ => rfl) (fun j h1 h2 => ⟨(TB_127 (TB_of (b0 := 0) (TK_rfl K)) r2).nH (ok1 j h1 h2).1, ((TB_127 (TB_of (b0 := 0) (TK_rfl K)) r2).hpl K (ok1 j h1 h2).1).trans (ok1 j h1 h2).2⟩) (fun j hj => by omega) (fun j hj _ => r3 j hj)
end
