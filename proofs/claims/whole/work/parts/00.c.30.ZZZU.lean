theorem w500 {h g : sm_H} (K : K1 h g) : nH g ≤ 500 := K.2.2.2.2.1.1.2
theorem w300 {h g : sm_H} (K : K1 h g) : nT g ≤ 300 := K.2.2.1.1.2
theorem h_m1 {h g : sm_H} (K : K1 h g) {y : Nat} (hy : y < nH g) : ¬ I3 y = (-1 : Int32) := m1_l hy (w500 K)
theorem h_ge {h g : sm_H} (K : K1 h g) {y : Nat} (hy : y < nH g) : (0 : Int32) ≤ I3 y := by
  have := w500 K
  rw [I3_lit, I3_le (by decide) (by omega)]; omega
theorem h_nn {h g : sm_H} (K : K1 h g) {y : Nat} (hy : y < nH g) : ¬ I3 y < (0 : Int32) := by
  have := w500 K
  exact I3_nn (by omega)
theorem kL_n0 {g : sm_H} {l : List Int32} (k : kL g l) (w : nC g ≤ 1000) {i : Nat} (hi : i < l.length) : ¬ at0 l i = 0 := by
  obtain ⟨q, q1, q2, q3⟩ := k i hi
  rw [q1, I3_lit, I3_inj (by omega) (by decide)]; omega
theorem take_drop_app {l kd : List Int32} {i : Nat} (hi : i < l.length) : (l.take (i + 1) ++ kd).take i = l.take i ∧ (l.take (i + 1) ++ kd).drop (i + 1) = kd := by
  have tl : (l.take (i + 1)).length = i + 1 := by rw [List.length_take]; omega
  constructor
  · rw [List.take_append_of_le_length (by omega), List.take_take, Nat.min_eq_left (by omega)]
  · rw [List.drop_append, tl, Nat.sub_self, List.drop_zero, List.drop_of_length_le (by omega)]; rfl
theorem foldMk {h g : sm_H} {kd : List Int32} (K : K1 h g) (nf : NF h g) {pc x y n : Nat} (wh : g.1 67 106 = I3 pc) (x1 : x < nH g) (y1 : y < nH g) (n1 : n + gone (hrs g y) ≤ (hpl g x).length) (kk : hrs g y ≠ 0 → at0 (hpl g x) n = hrs g y) (pr : pre (hpl g y) (((hpl g x).take n ++ (hpl g x).drop (n + gone (hrs g y))).drop n)) (el : (hpl g x).take n ++ (hpl g x).drop (n + gone (hrs g y)) = kd) :
    ∃ h1, F_141 56 (I3 x) (I3 y) h = some (56, h1) ∧ ((∃ z h2 g2, F_5 8 (I3 n) 0 0 56 h1 = some (I3 z, h2) ∧ F_432 8 (I3 n) (I3 x) (I3 y) g = some (I3 z, g2) ∧ z < nH g2 ∧ hrs g2 z = hrs g x ∧ hpl g2 z = kd ∧ TK h g h2 g2 ∧ NF h2 g2) ∨ ∃ w' h2 h3 g3, w' < 0 ∧ F_5 8 (I3 n) 0 0 56 h1 = some (w', h2) ∧ F_169 8 (I3 pc) h2 = some (-1, h3) ∧ F_432 8 (I3 n) (I3 x) (I3 y) g = some (-1, g3) ∧ TK h g h3 g3 ∧ FT 8 pc h3 g3) := by
  obtain ⟨h1, r1, r2, r3⟩ := C_two56 h (I3 x) (I3 y)
  obtain ⟨p1, p2⟩ := par2 g (I3 x) (I3 y)
  have T2 := TK_par (TK_row (TK_rfl K) r3) p2
  have n2 := NF_par (NF_row nf r3) p2
  have l10 : kd.length ≤ 64 := by
    have := mn_10 K x1
    rw [← el, List.length_append, List.length_take, List.length_drop]; omega
  have ck : Ck (sm_wI (sm_wI (sm_wI (sm_wI g 69 0 (I3 x)) 69 1 (I3 y)) 67 3 2) 67 19 0) 8 (I3 n) 0 0 (hrs g x) kd := by
    have := ck_8 (K1_c19 T2.k) (P := (show prR (sm_wI (sm_wI (sm_wI (sm_wI g 69 0 (I3 x)) 69 1 (I3 y)) 67 3 2) 67 19 0) [I3 x, I3 y] from p1)) (x := x) (y := y) (n := n) x1 y1 n1 kk pr 0 0
    rw [← el]; exact this
  have M := mkForm T2.k n2 (f := 8) (wh_TK wh T2) (I3 n) 0 0 r2 p1 (by decide) l10 ck
  have R0 : F_432 8 (I3 n) (I3 x) (I3 y) g = F_429 8 (I3 n) 0 0 (sm_wI (sm_wI (sm_wI g 69 0 (I3 x)) 69 1 (I3 y)) 67 3 2) := by
    show F_432_0 8 (I3 n) (I3 x) (I3 y) g = _
    unfold F_432_0
    rw [if_neg (h_m1 K x1), if_neg (h_m1 K y1), show stI g 69 24 0 (I3 x) = some (sm_wI g 69 0 (I3 x)) from stI_I (k := 0) (by decide) (by decide)]; simp only [obs]
    rw [show stI (sm_wI g 69 0 (I3 x)) 69 24 1 (I3 y) = some (sm_wI (sm_wI g 69 0 (I3 x)) 69 1 (I3 y)) from stI_I (k := 1) (by decide) (by decide)]; simp only [obs]
    rw [bind_id]
  refine ⟨h1, r1, ?_⟩
  rw [R0]
  rcases M with ⟨z, h3, g3, m1, m2, m3, m4, m5, m6, m7⟩ | ⟨w', h3, h4, g4, w0, m1, m2, m3, m4, m5⟩
  · exact Or.inl ⟨z, h3, g3, m1, m2, m3, m4, m5, TK_trans T2 m6, m7⟩
  · exact Or.inr ⟨w', h3, h4, g4, w0, m1, m2, m3, TK_trans T2 m4, m5⟩
theorem foldLoop {h g : sm_H} {kd l : List Int32} {r : Int32} (K : K1 h g) {pc base m : Nat} {pt : Nat → Nat} (st : STK h base m pt) (lm : l.length = m) (m8 : m ≤ 8) (kl : kL g l) (a127 : ∀ i, i < m → g.1 127 i = I3 (pt i)) (ok : ∀ i, i < m → pt i < nH g ∧ hpl g (pt i) = kd ∧ hrs g (pt i) = at0 l i) :
    ∀ n, n ≤ m → ∀ (f z : Nat) (h1 g1 : sm_H), n < f → z < nH g1 → hrs g1 z = r → hpl g1 z = l.take n ++ kd → TK h g h1 g1 → NF h1 g1 → g1.1 67 106 = I3 pc →
      ((∃ y h2 g2, lp F_192_64B f (I3 base, I3 pc, I3 z, I3 n - 1, h1) = some (I3 y, h2) ∧ lp F_434_48B f (I3 z, I3 n - 1, g1) = some (I3 y, g2) ∧ y < nH g2 ∧ hrs g2 y = r ∧ hpl g2 y = kd ∧ TK h g h2 g2 ∧ NF h2 g2) ∨ ∃ e h2 g2, lp F_192_64B f (I3 base, I3 pc, I3 z, I3 n - 1, h1) = some (-1, h2) ∧ lp F_434_48B f (I3 z, I3 n - 1, g1) = some (-1, g2) ∧ TK h g h2 g2 ∧ FT e pc h2 g2) := by
  intro n
  induction n with
  | zero =>
    intro _ f z h1 g1 hf z1 z2 z3 T nf wh
    refine Or.inl ⟨z, h1, g1, ?_, ?_, z1, z2, by rw [z3]; rfl, T, nf⟩
    · refine lp_e (by omega) ?_
      unfold F_192_64B F_192_112 F_192_130
      show (if I3 0 - 1 < 0 then _ else _) = _
      rw [if_pos (by decide)]
      show Option.map _ (if 0 ≤ I3 z then _ else _) = _
      rw [if_pos (h_ge T.k z1)]; rfl
    · refine lp_e (by omega) ?_
      unfold F_434_48B F_434_84
      show (if I3 0 - 1 < 0 then _ else _) = _
      rw [if_pos (by decide)]; rfl
  | succ n ih =>
    intro hn f z h1 g1 hf z1 z2 z3 T nf wh
    have a2 : ∀ i, i < m → g1.1 127 i = I3 (pt i) := fun i hi => (T.a.1 127 i (by unfold SRq SRb SRp SRh SRt; omega)).trans (a127 i hi)
    have hc : nC g ≤ 1000 := by have := K.1.2.1; omega
    obtain ⟨o1, o2, o3⟩ := ok n (by omega)
    have y1 : pt n < nH g1 := T.nH o1
    have ey : hrs g1 (pt n) = at0 l n := (T.hrs K o1).trans o3
    have n0 : ¬ hrs g1 (pt n) = 0 := by rw [ey]; exact kL_n0 kl hc (by omega)
    have gn : gone (hrs g1 (pt n)) = 1 := gone_n n0
    have tl : (l.take (n + 1)).length = n + 1 := by rw [List.length_take]; omega
    obtain ⟨td1, td2⟩ := take_drop_app (l := l) (kd := kd) (i := n) (by omega)
    have el : (hpl g1 z).take n ++ (hpl g1 z).drop (n + gone (hrs g1 (pt n))) = l.take n ++ kd := by rw [gn, z3, td1, td2]
    obtain ⟨h2, c1, c2⟩ := foldMk T.k nf (x := z) (y := pt n) (n := n) wh z1 y1 (by rw [gn, z3, List.length_append, tl]; omega) (fun _ => by rw [z3, at0_app1 (by omega), at0_take (by omega), ey]) (by
      rw [el, (T.hpl K o1).trans o2, List.drop_append, List.length_take, Nat.min_eq_left (by omega), Nat.sub_self, List.drop_zero, List.drop_of_length_le (by rw [List.length_take]; omega)]; exact pre_rfl _) el
    have e1 : I3 (n + 1) - 1 = I3 n := I3_s1 n
    rw [e1]
    have bc : ∀ w' h3, F_5 8 (I3 n) 0 0 56 h2 = some (w', h3) → F_192_64B (I3 base, I3 pc, I3 z, I3 n, h1) = some (.inl (I3 base, I3 pc, w', I3 n + (-1), h3)) := fun w' h3 q => by
      unfold F_192_64B
      show (if I3 n < 0 then _ else if I3 z < 0 then _ else _) = _
      rw [if_neg (I3_nn (by omega)), if_neg (h_nn T.k z1), show I3 base + I3 n = I3 (base + n) from I3_add _ _, STK_at (STK_TK st T) (by omega)]; simp only [obs]
      rw [c1]; simp only [obs]
      rw [q]; simp only [obs]
    have br : ∀ w' g3, F_432 8 (I3 n) (I3 z) (I3 (pt n)) g1 = some (w', g3) → F_434_48B (I3 z, I3 n, g1) = some (.inl (w', I3 n + (-1), g3)) := fun w' g3 q => by
      unfold F_434_48B
      show (if I3 n < 0 then _ else if I3 z = -1 then _ else _) = _
      rw [if_neg (I3_nn (by omega)), if_neg (h_m1 T.k z1), ldI_I (by omega) (by decide), a2 n (by omega)]; simp only [obs]
      rw [q]; simp only [obs]
    rcases c2 with ⟨y, h3, g3, q1, q2, q3, q4, q5, q6, q7⟩ | ⟨w', h3, h4, g4, w0, q1, q2, q3, q4, q5⟩
    · rw [lp_s (by omega) (bc _ _ q1), lp_s (by omega) (br _ _ q2)]
      have e2 : I3 n + (-1) = I3 n - 1 := (Int32.sub_eq_add_neg _ _).symm
      rw [e2]
      have T3 := TK_trans T q6
      exact ih (by omega) (f - 1) y h3 g3 (by omega) q3 (q4.trans z2) q5 T3 q7 (wh_TK wh q6)
    · right
      rw [lp_s (by omega) (bc _ _ q1), lp_s (by omega) (br _ _ q3)]
      refine ⟨8, h4, g4, lp_e (by omega) ?_, lp_e (by omega) ?_, TK_trans T q4, q5⟩
      · unfold F_192_64B F_192_112 F_192_130
        show (if I3 n + -1 < 0 then _ else if w' < 0 then _ else _) = _
        rw [if_pos w0, ite_self]
        show Option.map _ (if 0 ≤ w' then _ else _) = _
        rw [if_neg (Int32.not_le.mpr w0), q2]; rfl
      · unfold F_434_48B F_434_84
        show (if I3 n + -1 < 0 then _ else if (-1 : Int32) = -1 then _ else _) = _
        rw [if_pos rfl, ite_self]; rfl
theorem applied {h g : sm_H} {nm : Nat → Int64} {kd : List Int32} (K : K1 h g) (S : SCO nm kd h g) (nf : NF h g) {pc base m x : Nat} {pt : Nat → Nat} (wh : g.1 67 106 = I3 pc) (x1 : x < nH g) (st : STK h base m pt) (lm : (hpl g x).length = m) (m8 : m ≤ 8) (a127 : ∀ i, i < m → g.1 127 i = I3 (pt i)) (ok : ∀ i, i < m → pt i < nH g ∧ hpl g (pt i) = kd ∧ hrs g (pt i) = at0 (hpl g x) i) :
    MkO h g pc (F_192 (I3 x) (I3 base) (I3 m) (I3 pc) h) (F_434 (I3 x) (I3 m) g) (hrs g x) kd := by
  have kR := kR_h K x1
  have C0 : F_192 (I3 x) (I3 base) (I3 m) (I3 pc) h = F_192_0 (I3 x) (I3 base) (I3 m) (I3 pc) h := rfl
  have R0 : F_434 (I3 x) (I3 m) g = F_434_0 (I3 x) (I3 m) g := rfl
  unfold F_192_0 at C0
  unfold F_434_0 F_434_41 at R0
  rw [if_pos (h_ge K x1), C_rs K x1] at C0; simp only [obs] at C0
  rw [if_neg (h_m1 K x1), if_pos nf.2, R_rs K x1] at R0; simp only [obs] at R0
  rcases scopeTy K S nf wh kR with ⟨t, h1, g1, e1, e2, t1, t2, t3, t4, T, n1⟩ | ⟨e, h1, g1, e1, e2, T, ft⟩
  · rw [e1] at C0; simp only [obs] at C0
    rw [e2] at R0; simp only [obs] at R0
    have tm : ¬ I3 t = (-1 : Int32) := by have := w300 T.k; exact I3_m1 (by omega)
    obtain ⟨h2, r1, r2, r3⟩ := C_one56 h1 (I3 x)
    obtain ⟨p1, p2⟩ := par1 g1 (I3 x)
    have T2 := TK_par (TK_row T r3) p2
    have n2 := NF_par (NF_row n1 r3) p2
    have x1' : x < nH g1 := T.nH x1
    have hx : hpl g1 x = hpl g x := T.hpl K x1
    have ck : Ck (sm_wI (sm_wI (sm_wI g1 69 0 (I3 x)) 67 3 1) 67 19 0) 4 (I3 m) (I3 t) 0 (hrs g x) (hpl g x ++ kd) := by
      have := ck_4 (K1_c19 T2.k) (P := (show prR (sm_wI (sm_wI (sm_wI g1 69 0 (I3 x)) 67 3 1) 67 19 0) [I3 x] from p1)) (x := x) (n := m) (t := t) x1' (by show m ≤ (hpl g1 x).length; rw [hx]; omega) t1 0
      have z1 : hrs (sm_wI (sm_wI (sm_wI g1 69 0 (I3 x)) 67 3 1) 67 19 0) x = hrs g x := T.hrs K x1
      have z2 : pl (sm_wI (sm_wI (sm_wI g1 69 0 (I3 x)) 67 3 1) 67 19 0) t = kd := t3
      have z3 : hpl (sm_wI (sm_wI (sm_wI g1 69 0 (I3 x)) 67 3 1) 67 19 0) x = hpl g x := hx
      rw [z1, z2, z3, List.take_of_length_le (by omega), List.drop_of_length_le (by omega), List.append_nil] at this
      exact this
    have M := mkForm T2.k n2 (f := 4) (wh_TK wh T2) (I3 m) (I3 t) 0 r2 p1 (by decide) (by rw [List.length_append]; omega) ck
    rw [if_neg tm, r1] at C0; simp only [obs] at C0
    have R1 : F_431 4 (I3 m) (I3 t) (I3 x) g1 = F_429 4 (I3 m) (I3 t) 0 (sm_wI (sm_wI g1 69 0 (I3 x)) 67 3 1) := by
      show F_431_0 4 (I3 m) (I3 t) (I3 x) g1 = _
      unfold F_431_0
      rw [if_neg (h_m1 T.k x1'), show stI g1 69 24 0 (I3 x) = some (sm_wI g1 69 0 (I3 x)) from stI_I (k := 0) (by decide) (by decide)]; simp only [obs]
      rw [bind_id]
    rw [if_neg tm, R1] at R0
    rcases M with ⟨z, h3, g3, m1, m2, m3, m4, m5, m6, m7⟩ | ⟨w', h3, h4, g4, w0, m1, m2, m3, m4, m5⟩
    · rw [show F_5 4 (I3 m) (I3 t) 0 56 h2 = _ from m1] at C0; simp only [obs] at C0
      rw [show F_429 4 (I3 m) (I3 t) 0 (sm_wI (sm_wI g1 69 0 (I3 x)) 67 3 1) = _ from m2] at R0; simp only [obs] at R0
      have T3 := TK_trans T2 m6
      have L := foldLoop (r := hrs g x) (l := hpl g x) (kd := kd) (pc := pc) K st lm m8 (kL_h K x1) a127 ok m (Nat.le_refl _) 1000000 z h3 g3 (by omega) m3 m4 (by rw [m5, List.take_of_length_le (by omega)]) T3 m7 (wh_TK wh T3)
      rw [C0, R0]
      exact L
    · rw [show F_5 4 (I3 m) (I3 t) 0 56 h2 = _ from m1] at C0; simp only [obs] at C0
      rw [show F_429 4 (I3 m) (I3 t) 0 (sm_wI (sm_wI g1 69 0 (I3 x)) 67 3 1) = _ from m3] at R0; simp only [obs] at R0
      refine Or.inr ⟨8, h4, g4, ?_, ?_, TK_trans T2 m4, m5⟩
      · rw [C0]
        refine lp_e (by decide) ?_
        unfold F_192_64B F_192_112 F_192_130
        show (if I3 m - 1 < 0 then _ else if w' < 0 then _ else _) = _
        rw [if_pos w0, ite_self]
        show Option.map _ (if 0 ≤ w' then _ else _) = _
        rw [if_neg (Int32.not_le.mpr w0), m2]; rfl
      · rw [R0]
        refine lp_e (by decide) ?_
        unfold F_434_48B F_434_84
        show (if I3 m - 1 < 0 then _ else if (-1 : Int32) = -1 then _ else _) = _
        rw [if_pos rfl, ite_self]; rfl
  · rw [e1] at C0; simp only [obs] at C0
    rw [e2] at R0; simp only [obs] at R0
    rw [if_pos trivial] at C0 R0
    refine Or.inr ⟨e, h1, g1, C0, ?_, T, ft⟩
    rw [R0]
    refine lp_e (by decide) ?_
    unfold F_434_48B F_434_84
    show (if I3 m - 1 < 0 then _ else if (-1 : Int32) = -1 then _ else _) = _
    rw [if_pos rfl, ite_self]; rfl
