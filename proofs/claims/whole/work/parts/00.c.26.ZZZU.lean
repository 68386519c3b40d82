theorem w500 {h g : sm_H} (K : K1 h g) : nH g ≤ 500 := K.2.2.2.2.1.1.2
theorem w300 {h g : sm_H} (K : K1 h g) : nT g ≤ 300 := K.2.2.1.1.2
theorem h_m1 {h g : sm_H} (K : K1 h g) {y : Nat} (hy : y < nH g) : ¬ I3 y = (-1 : Int32) := m1_l hy (w500 K)
theorem h_ge {h g : sm_H} (K : K1 h g) {y : Nat} (hy : y < nH g) : (0 : Int32) ≤ I3 y := by
  have := w500 K
  rw [I3_lit, I3_le (by decide) (by omega)]; omega
theorem h_nn {h g : sm_H} (K : K1 h g) {y : Nat} (hy : y < nH g) : ¬ I3 y < (0 : Int32) := by
  have := w500 K
  exact I3_nn (by omega)
theorem kL_n0 {g : sm_H} {l : List Int32} (k : kL g l) (w : nC g ≤ 1000) {i : Nat} (hi : i < l.length) : ¬ at0 l i = 0 := by
  obtain ⟨q, q1, q2, q3⟩ := k i hi
  rw [q1, I3_lit, I3_inj (by omega) (by decide)]; omega
theorem take_drop_app {l kd : List Int32} {i : Nat} (hi : i < l.length) : (l.take (i + 1) ++ kd).take i = l.take i ∧ (l.take (i + 1) ++ kd).drop (i + 1) = kd := by
  have tl : (l.take (i + 1)).length = i + 1 := by rw [List.length_take]; omega
  constructor
  · rw [List.take_append_of_le_length (by omega), List.take_take, Nat.min_eq_left (by omega)]
  · rw [List.drop_append, tl, Nat.sub_self, List.drop_zero, List.drop_of_length_le (by omega)]; rfl
theorem foldMk {h g : sm_H} {kd : List Int32} (K : K1 h g) (nf : NF h g) {pc x y n : Nat} (wh : g.1 67 106 = I3 pc) (x1 : x < nH g) (y1 : y < nH g) (n1 : n + gone (hrs g y) ≤ (hpl g x).length) (kk : hrs g y ≠ 0 → at0 (hpl g x) n = hrs g y) (pr : pre (hpl g y) (((hpl g x).take n ++ (hpl g x).drop (n + gone (hrs g y))).drop n)) (el : (hpl g x).take n ++ (hpl g x).drop (n + gone (hrs g y)) = kd) :
    ∃ h1, F_141 56 (I3 x) (I3 y) h = some (56, h1) ∧ ((∃ z h2 g2, F_5 8 (I3 n) 0 0 56 h1 = some (I3 z, h2) ∧ F_432 8 (I3 n) (I3 x) (I3 y) g = some (I3 z, g2) ∧ z < nH g2 ∧ hrs g2 z = hrs g x ∧ hpl g2 z = kd ∧ TK h g h2 g2 ∧ NF h2 g2) ∨ ∃ w' h2 h3 g3, w' < 0 ∧ F_5 8 (I3 n) 0 0 56 h1 = some (w', h2) ∧ F_169 8 (I3 pc) h2 = some (-1, h3) ∧ F_432 8 (I3 n) (I3 x) (I3 y) g = some (-1, g3) ∧ TK h g h3 g3 ∧ FT 8 pc h3 g3) := by
  obtain ⟨h1, r1, r2, r3⟩ := C_two56 h (I3 x) (I3 y)
  obtain ⟨p1, p2⟩ := par2 g (I3 x) (I3 y)
  have T2 := TK_par (TK_row (TK_rfl K) r3) p2
  have n2 := NF_par (NF_row nf r3) p2
  have l10 : kd.length ≤ 64 := by
    have := mn_10 K x1
    rw [← el, List.length_append, List.length_take, List.length_drop]; omega
  have ck : Ck (sm_wI (sm_wI (sm_wI (sm_wI g 69 0 (I3 x)) 69 1 (I3 y)) 67 3 2) 67 19 0) 8 (I3 n) 0 0 (hrs g x) kd := by
    have := ck_8 (K1_c19 T2.k) (P := (show prR (sm_wI (sm_wI (sm_wI (sm_wI g 69 0 (I3 x)) 69 1 (I3 y)) 67 3 2) 67 19 0) [I3 x, I3 y] from p1)) (x := x) (y := y) (n := n) x1 y1 n1 kk pr 0 0
    rw [← el]; exact this
  have M := mkForm T2.k n2 (f := 8) (wh_TK wh T2) (I3 n) 0 0 r2 p1 (by decide) l10 ck
  have R0 : F_432 8 (I3 n) (I3 x) (I3 y) g = F_429 8 (I3 n) 0 0 (sm_wI (sm_wI (sm_wI g 69 0 (I3 x)) 69 1 (I3 y)) 67 3 2) := by
    show F_432_0 8 (I3 n) (I3 x) (I3 y) g = _
    unfold F_432_0
    rw [if_neg (h_m1 K x1), if_neg (h_m1 K y1), show stI g 69 24 0 (I3 x) = some (sm_wI g 69 0 (I3 x)) from stI_I (k := 0) (by decide) (by decide)]; simp only [obs]
    rw [show stI (sm_wI g 69 0 (I3 x)) 69 24 1 (I3 y) = some (sm_wI (sm_wI g 69 0 (I3 x)) 69 1 (I3 y)) from stI_I (k := 1) (by decide) (by decide)]; simp only [obs]
    rw [bind_id]
  refine ⟨h1, r1, ?_⟩
  rw [R0]
  rcases M with ⟨z, h3, g3, m1, m2, m3, m4, m5, m6, m7⟩ | ⟨w', h3, h4, g4, w0, m1, m2, m3, m4, m5⟩
  · exact Or.inl ⟨z, h3, g3, m1, m2, m3, m4, m5, TK_trans T2 m6, m7⟩
  · exact Or.inr ⟨w', h3, h4, g4, w0, m1, m2, m3, TK_trans T2 m4, m5⟩
theorem foldLoop {h g : sm_H} {kd l : List Int32} {r : Int32} (K : K1 h g) {pc base m : Nat} {pt : Nat → Nat} (st : STK h base m pt) (lm : l.length = m) (m8 : m ≤ 8) (kl : kL g l) (a127 : ∀ i, i < m → g.1 127 i = I3 (pt i)) (ok : ∀ i, i < m → pt i < nH g ∧ hpl g (pt i) = kd ∧ hrs g (pt i) = at0 l i) :
    ∀ n, n ≤ m → ∀ (f z : Nat) (h1 g1 : sm_H), n < f → z < nH g1 → hrs g1 z = r → hpl g1 z = l.take n ++ kd → TK h g h1 g1 → NF h1 g1 → g1.1 67 106 = I3 pc →
      ((∃ y h2 g2, lp F_192_64B f (I3 base, I3 pc, I3 z, I3 n - 1, h1) = some (I3 y, h2) ∧ lp F_434_48B f (I3 z, I3 n - 1, g1) = some (I3 y, g2) ∧ y < nH g2 ∧ hrs g2 y = r ∧ hpl g2 y = kd ∧ TK h g h2 g2 ∧ NF h2 g2) ∨ ∃ e h2 g2, lp F_192_64B f (I3 base, I3 pc, I3 z, I3 n - 1, h1) = some (-1, h2) ∧ lp F_434_48B f (I3 z, I3 n - 1, g1) = some (-1, g2) ∧ TK h g h2 g2 ∧ FT e pc h2 g2) := by
  intro n
  induction n with
  | zero =>
    intro _ f z h1 g1 hf z1 z2 z3 T nf wh
    refine Or.inl ⟨z, h1, g1, ?_, ?_, z1, z2, by rw [z3]; rfl, T, nf⟩
    · refine lp_e (by omega) ?_
      unfold F_192_64B F_192_112 F_192_130
      show (if I3 0 - 1 < 0 then _ else _) = _
      rw [if_pos (by decide)]
      show Option.map _ (if 0 ≤ I3 z then _ else _) = _
      rw [if_pos (h_ge T.k z1)]; rfl
    · refine lp_e (by omega) ?_
      unfold F_434_48B F_434_84
      show (if I3 0 - 1 < 0 then _ else _) = _
      rw [if_pos (by decide)]; rfl
  | succ n ih =>
    intro hn f z h1 g1 hf z1 z2 z3 T nf wh
    have a2 : ∀ i, i < m → g1.1 127 i = I3 (pt i) := fun i hi => (T.a.1 127 i (by unfold SRq SRb SRp SRh SRt; omega)).trans (a127 i hi)
    have hc : nC g ≤ 1000 := by have := K.1.2.1; omega
    obtain ⟨o1, o2, o3⟩ := ok n (by omega)
    have y1 : pt n < nH g1 := T.nH o1
    have ey : hrs g1 (pt n) = at0 l n := (T.hrs K o1).trans o3
    have n0 : ¬ hrs g1 (pt n) = 0 := by rw [ey]; exact kL_n0 kl hc (by omega)
    have gn : gone (hrs g1 (pt n)) = 1 := gone_n n0
    have tl : (l.take (n + 1)).length = n + 1 := by rw [List.length_take]; omega
    obtain ⟨td1, td2⟩ := take_drop_app (l := l) (kd := kd) (i := n) (by omega)
    have el : (hpl g1 z).take n ++ (hpl g1 z).drop (n + gone (hrs g1 (pt n))) = l.take n ++ kd := by rw [gn, z3, td1, td2]
    obtain ⟨h2, c1, c2⟩ := foldMk T.k nf (x := z) (y := pt n) (n := n) wh z1 y1 (by rw [gn, z3, List.length_append, tl]; omega) (fun _ => by rw [z3, at0_app1 (by omega), at0_take (by omega), ey]) (by
      rw [el, (T.hpl K o1).trans o2, List.drop_append, List.length_take, Nat.min_eq_left (by omega), Nat.sub_self, List.drop_zero, List.drop_of_length_le (by rw [List.length_take]; omega)]; exact pre_rfl _) el
    have e1 : I3 (n + 1) - 1 = I3 n := I3_s1 n
    rw [e1]
    have bc : ∀ w' h3, F_5 8 (I3 n) 0 0 56 h2 = some (w', h3) → F_192_64B (I3 base, I3 pc, I3 z, I3 n, h1) = some (.inl (I3 base, I3 pc, w', I3 n + (-1), h3)) := fun w' h3 q => by
      unfold F_192_64B
      show (if I3 n < 0 then _ else if I3 z < 0 then _ else _) = _
      rw [if_neg (I3_nn (by omega)), if_neg (h_nn T.k z1), show I3 base + I3 n = I3 (base + n) from I3_add _ _, STK_at (STK_TK st T) (by omega)]; simp only [obs]
      rw [c1]; simp only [obs]
      rw [q]; simp only [obs]
    have br : ∀ w' g3, F_432 8 (I3 n) (I3 z) (I3 (pt n)) g1 = some (w', g3) → F_434_48B (I3 z, I3 n, g1) = some (.inl (w', I3 n + (-1), g3)) := fun w' g3 q => by
      unfold F_434_48B
      show (if I3 n < 0 then _ else if I3 z = -1 then _ else _) = _
      rw [if_neg (I3_nn (by omega)), if_neg (h_m1 T.k z1), ldI_I (by omega) (by decide), a2 n (by omega)]; simp only [obs]
      rw [q]; simp only [obs]
    rcases c2 with ⟨y, h3, g3, q1, q2, q3, q4, q5, q6, q7⟩ | ⟨w', h3, h4, g4, w0, q1, q2, q3, q4, q5⟩
    · rw [lp_s (by omega) (bc _ _ q1), lp_s (by omega) (br _ _ q2)]
      have e2 : I3 n + (-1) = I3 n - 1 := (Int32.sub_eq_add_neg _ _).symm
      rw [e2]
      have T3 := TK_trans T q6
      exact ih (by omega) (f - 1) y h3 g3 (by omega) q3 (q4.trans z2) q5 T3 q7 (wh_TK wh q6)
    · right
      rw [lp_s (by omega) (bc _ _ q1), lp_s (by omega) (br _ _ q3)]
      refine ⟨8, h4, g4, lp_e (by omega) ?_, lp_e (by omega) ?_, TK_trans T q4, q5⟩
      · unfold F_192_64B F_192_112 F_192_130
        show (if I3 n + -1 < 0 then _ else if w' < 0 then _ else _) = _
        rw [if_pos w0, ite_self]
        show Option.map _ (if 0 ≤ w' then _ else _) = _
        rw [if_neg (Int32.not_le.mpr w0), q2]; rfl
      · unfold F_434_48B F_434_84
        show (if I3 n + -1 < 0 then _ else if (-1 : Int32) = -1 then _ else _) = _
        rw [if_pos rfl, ite_self]; rfl
theorem applied {h g : sm_H} {nm : Nat → Int64} {kd : List Int32} (K : K1 h g) (S : SCO nm kd h g) (nf : NF h g) {pc base m x : Nat} {pt : Nat → Nat} (wh : g.1 67 106 = I3 pc) (x1 : x < nH g) (st : STK h base m pt) (lm : (hpl g x).length = m) (m8 : m ≤ 8) (a127 : ∀ i, i < m → g.1 127 i = I3 (pt i)) (ok : ∀ i, i < m → pt i < nH g ∧ hpl g (pt i) = kd ∧ hrs g (pt i) = at0 (hpl g x) i) :
    MkO h g pc (F_192 (I3 x) (I3 base) (I3 m) (I3 pc) h) (F_434 (I3 x) (I3 m) g) (hrs g x) kd := by
  have kR := kR_h K x1
  have C0 : F_192 (I3 x) (I3 base) (I3 m) (I3 pc) h = F_192_0 (I3 x) (I3 base) (I3 m) (I3 pc) h := rfl
  have R0 : F_434 (I3 x) (I3 m) g = F_434_0 (I3 x) (I3 m) g := rfl
  unfold F_192_0 at C0
  unfold F_434_0 F_434_41 at R0
  rw [if_pos (h_ge K x1), C_rs K x1] at C0; simp only [obs] at C0
  rw [if_neg (h_m1 K x1), if_pos nf.2.1, R_rs K x1] at R0; simp only [obs] at R0
  rcases scopeTy K S nf wh kR with ⟨t, h1, g1, e1, e2, t1, t2, t3, t4, T, n1⟩ | ⟨e, h1, g1, e1, e2, T, ft⟩
  · rw [e1] at C0; simp only [obs] at C0
    rw [e2] at R0; simp only [obs] at R0
    have tm : ¬ I3 t = (-1 : Int32) := by have := w300 T.k; exact I3_m1 (by omega)
    obtain ⟨h2, r1, r2, r3⟩ := C_one56 h1 (I3 x)
    obtain ⟨p1, p2⟩ := par1 g1 (I3 x)
    have T2 := TK_par (TK_row T r3) p2
    have n2 := NF_par (NF_row n1 r3) p2
    have x1' : x < nH g1 := T.nH x1
    have hx : hpl g1 x = hpl g x := T.hpl K x1
    have ck : Ck (sm_wI (sm_wI (sm_wI g1 69 0 (I3 x)) 67 3 1) 67 19 0) 4 (I3 m) (I3 t) 0 (hrs g x) (hpl g x ++ kd) := by
      have := ck_4 (K1_c19 T2.k) (P := (show prR (sm_wI (sm_wI (sm_wI g1 69 0 (I3 x)) 67 3 1) 67 19 0) [I3 x] from p1)) (x := x) (n := m) (t := t) x1' (by show m ≤ (hpl g1 x).length; rw [hx]; omega) t1 0
      have z1 : hrs (sm_wI (sm_wI (sm_wI g1 69 0 (I3 x)) 67 3 1) 67 19 0) x = hrs g x := T.hrs K x1
      have z2 : pl (sm_wI (sm_wI (sm_wI g1 69 0 (I3 x)) 67 3 1) 67 19 0) t = kd := t3
      have z3 : hpl (sm_wI (sm_wI (sm_wI g1 69 0 (I3 x)) 67 3 1) 67 19 0) x = hpl g x := hx
      rw [z1, z2, z3, List.take_of_length_le (by omega), List.drop_of_length_le (by omega), List.append_nil] at this
      exact this
    have M := mkForm T2.k n2 (f := 4) (wh_TK wh T2) (I3 m) (I3 t) 0 r2 p1 (by decide) (by rw [List.length_append]; omega) ck
    rw [if_neg tm, r1] at C0; simp only [obs] at C0
    have R1 : F_431 4 (I3 m) (I3 t) (I3 x) g1 = F_429 4 (I3 m) (I3 t) 0 (sm_wI (sm_wI g1 69 0 (I3 x)) 67 3 1) := by
      show F_431_0 4 (I3 m) (I3 t) (I3 x) g1 = _
      unfold F_431_0
      rw [if_neg (h_m1 T.k x1'), show stI g1 69 24 0 (I3 x) = some (sm_wI g1 69 0 (I3 x)) from stI_I (k := 0) (by decide) (by decide)]; simp only [obs]
      rw [bind_id]
    rw [if_neg tm, R1] at R0
    rcases M with ⟨z, h3, g3, m1, m2, m3, m4, m5, m6, m7⟩ | ⟨w', h3, h4, g4, w0, m1, m2, m3, m4, m5⟩
    · rw [show F_5 4 (I3 m) (I3 t) 0 56 h2 = _ from m1] at C0; simp only [obs] at C0
      rw [show F_429 4 (I3 m) (I3 t) 0 (sm_wI (sm_wI g1 69 0 (I3 x)) 67 3 1) = _ from m2] at R0; simp only [obs] at R0
      have T3 := TK_trans T2 m6
      have L := foldLoop (r := hrs g x) (l := hpl g x) (kd := kd) (pc := pc) K st lm m8 (kL_h K x1) a127 ok m (Nat.le_refl _) 1000000 z h3 g3 (by omega) m3 m4 (by rw [m5, List.take_of_length_le (by omega)]) T3 m7 (wh_TK wh T3)
      rw [C0, R0]
      exact L
    · rw [show F_5 4 (I3 m) (I3 t) 0 56 h2 = _ from m1] at C0; simp only [obs] at C0
      rw [show F_429 4 (I3 m) (I3 t) 0 (sm_wI (sm_wI g1 69 0 (I3 x)) 67 3 1) = _ from m3] at R0; simp only [obs] at R0
      refine Or.inr ⟨8, h4, g4, ?_, ?_, TK_trans T2 m4, m5⟩
      · rw [C0]
        refine lp_e (by decide) ?_
        unfold F_192_64B F_192_112 F_192_130
        show (if I3 m - 1 < 0 then _ else if w' < 0 then _ else _) = _
        rw [if_pos w0, ite_self]
        show Option.map _ (if 0 ≤ w' then _ else _) = _
        rw [if_neg (Int32.not_le.mpr w0), m2]; rfl
      · rw [R0]
        refine lp_e (by decide) ?_
        unfold F_434_48B F_434_84
        show (if I3 m - 1 < 0 then _ else if (-1 : Int32) = -1 then _ else _) = _
        rw [if_pos rfl, ite_self]; rfl
  · rw [e1] at C0; simp only [obs] at C0
    rw [e2] at R0; simp only [obs] at R0
    rw [if_pos trivial] at C0 R0
    refine Or.inr ⟨e, h1, g1, C0, ?_, T, ft⟩
    rw [R0]
    refine lp_e (by decide) ?_
    unfold F_434_48B F_434_84
    show (if I3 m - 1 < 0 then _ else if (-1 : Int32) = -1 then _ else _) = _
    rw [if_pos rfl, ite_self]; rfl
def PO (b0 : Nat) (h g : sm_H) (pc : Nat) (rc rr : Option (Int32 × sm_H)) (kd : List Int32) : Prop :=
  (∃ y h1 g1, rc = some (I3 y, h1) ∧ rr = some (I3 y, g1) ∧ y < nH g1 ∧ hpl g1 y = kd ∧ TB b0 h g h1 g1 ∧ NF h1 g1) ∨ ∃ e h1 g1, rc = some (-1, h1) ∧ rr = some (-1, g1) ∧ TB b0 h g h1 g1 ∧ FT e pc h1 g1
theorem PO_of {b0 : Nat} {h g : sm_H} {pc : Nat} {rc rr : Option (Int32 × sm_H)} {r : Int32} {kd : List Int32} (m : MkO h g pc rc rr r kd) : PO b0 h g pc rc rr kd := by
  rcases m with ⟨y, h1, g1, a1, a2, a3, a4, a5, a6, a7⟩ | ⟨e, h1, g1, a1, a2, a3, a4⟩
  · exact Or.inl ⟨y, h1, g1, a1, a2, a3, a5, TB_of a6, a7⟩
  · exact Or.inr ⟨e, h1, g1, a1, a2, TB_of a3, a4⟩
theorem PO_tr {b0 : Nat} {h g h' g' : sm_H} {pc : Nat} {rc rr : Option (Int32 × sm_H)} {kd : List Int32} (t : TB b0 h g h' g') (p : PO b0 h' g' pc rc rr kd) : PO b0 h g pc rc rr kd := by
  rcases p with ⟨y, h1, g1, a1, a2, a3, a5, a6, a7⟩ | ⟨e, h1, g1, a1, a2, a3, a4⟩
  · exact Or.inl ⟨y, h1, g1, a1, a2, a3, a5, TB_trans t a6, a7⟩
  · exact Or.inr ⟨e, h1, g1, a1, a2, TB_trans t a3, a4⟩
theorem TB_mono {b0 b1 : Nat} (hb : b0 ≤ b1) {h g h1 g1 : sm_H} (t : TB b1 h g h1 g1) : TB b0 h g h1 g1 := ⟨t.1, t.2.1, t.2.2.1, agr_mono (fun b j z => by
  rcases z with z | ⟨z1, z2⟩
  · exact Or.inl z
  · exact Or.inr ⟨z1, Nat.le_trans hb z2⟩) t.2.2.2.1, t.2.2.2.2⟩
abbrev S127 (b _j : Nat) : Prop := 127 ≤ b ∧ b ≤ 129
abbrev Sdd (b j : Nat) : Prop := SRp b j ∨ S127 b j
theorem TB_dd {b0 : Nat} {h g h1 g1 g2 : sm_H} (t : TB b0 h g h1 g1) (a : agr Sdd g1 g2) : TB b0 h g h1 g2 := by
  have nr : ∀ b j, Sdd b j → notR b j := fun b j z => by
    rcases z with z | z
    · exact SRp_not b j z
    · rcases (show b = 127 ∨ b = 128 ∨ b = 129 by unfold S127 at z; omega) with rfl | rfl | rfl <;> rfl
  have E := ext_eq (ok_of_not nr a)
  exact TB_trans t ⟨K1_g t.k (agr_mono nr a), E.1, E.2.1, agr_rfl, agr_mono (fun b j z => by
    rcases z with z | z
    · exact Or.inl (Or.inl (Or.inl z))
    · exact Or.inr z) a⟩
theorem FT_dd {e pc : Nat} {h1 g1 g2 : sm_H} (f : FT e pc h1 g1) (a : agr Sdd g1 g2) : FT e pc h1 g2 := ⟨f.1, f.2.1, (a.1 67 77 (by unfold Sdd S127 SRp; omega)).trans f.2.2.1, (a.1 67 78 (by unfold Sdd S127 SRp; omega)).trans f.2.2.2.1, f.2.2.2.2.1, f.2.2.2.2.2⟩
theorem FT_ne {e pc : Nat} {h g : sm_H} (f : FT e pc h g) : ¬ g.1 67 77 = 0 := by
  obtain ⟨-, -, f3, -, f5, f6⟩ := f
  rw [f3, I3_lit, I3_inj (by omega) (by decide)]; omega
theorem NF_dd {h1 g1 g2 : sm_H} (f : NF h1 g1) (a : agr Sdd g1 g2) : NF h1 g2 := NF_agr (S := fun _ _ => False) f agr_rfl a ⟨fun z => z, fun z => z⟩ (by unfold Sdd S127 SRp; omega)
theorem PO_fail {b0 : Nat} {h g h1 g1 g2 : sm_H} {e pc : Nat} {rc rr : Option (Int32 × sm_H)} {kd : List Int32} (t : TB b0 h g h1 g1) (f : FT e pc h1 g1) (c : rc = some (-1, h1)) (r : rr = some (-1, g2)) (a : agr Sdd g1 g2) : PO b0 h g pc rc rr kd := Or.inr ⟨e, h1, g2, c, r, TB_dd t a, FT_dd f a⟩
section
variable {g : sm_H} (f : ¬ g.1 67 77 = 0)
theorem dd433 (f : ¬ g.1 67 77 = 0) (x k : Int32) : F_433 x k g = some (-1, g) := by
  show F_433_0 x k g = _
  unfold F_433_0
  rw [if_neg f]; rfl
theorem dd429 (f : ¬ g.1 67 77 = 0) (a b d : Int32) (c : Int64) : F_429 a b d c g = some (-1, g) := by
  show F_429_0 a b d c g = _
  unfold F_429_0
  rw [if_neg f]
theorem dd430 (f : ¬ g.1 67 77 = 0) (a b d : Int32) (c : Int64) : F_430 a b d c g = some (-1, sm_wI g 67 3 0) := by
  show F_430_0 a b d c g = _
  unfold F_430_0
  simp only [obs]
  rw [show F_429 a b d c (sm_wI g 67 3 0) = some (-1, sm_wI g 67 3 0) from dd429 (g := sm_wI g 67 3 0) f a b d c]; rfl
end
theorem st127 (g : sm_H) {k : Nat} (hk : k < 8) (x : Int32) : stI g 127 8 (I3 k) x = some (sm_wI g 127 k x) ∧ agr S127 g (sm_wI g 127 k x) := ⟨stI_I hk (by decide), agr_wI agr_rfl (by unfold S127; omega)⟩
theorem ap434 (g : sm_H) (m : Int32) : F_434 (-1) m g = some (-1, g) := by
  show F_434_0 (-1) m g = _
  unfold F_434_0
  rw [if_pos rfl]; rfl
theorem fin0 (x : Int32) (g : sm_H) : F_435 x g = F_434 x 0 g := bind_id _
theorem fin1 {y : Nat} (hy : y < 500) (x : Int32) (g : sm_H) : F_436 x (I3 y) g = F_434 x 1 (sm_wI g 127 0 (I3 y)) := by
  show F_436_0 x (I3 y) g = _
  unfold F_436_0 F_436_22
  rw [show stI g 127 8 0 (I3 y) = some (sm_wI g 127 0 (I3 y)) from (st127 g (k := 0) (by decide) _).1]; simp only [obs]
  rw [if_neg (m1_l hy (Nat.le_refl _)), bind_id]
theorem fin2 {y z : Nat} (hy : y < 500) (hz : z < 500) (x : Int32) (g : sm_H) : F_437 x (I3 y) (I3 z) g = F_434 x 2 (sm_wI (sm_wI g 127 0 (I3 y)) 127 1 (I3 z)) := by
  show F_437_0 x (I3 y) (I3 z) g = _
  unfold F_437_0 F_437_34
  rw [show stI g 127 8 0 (I3 y) = some (sm_wI g 127 0 (I3 y)) from (st127 g (k := 0) (by decide) _).1]; simp only [obs]
  rw [show stI (sm_wI g 127 0 (I3 y)) 127 8 1 (I3 z) = some (sm_wI (sm_wI g 127 0 (I3 y)) 127 1 (I3 z)) from (st127 _ (k := 1) (by decide) _).1]; simp only [obs]
  rw [if_neg (m1_l hy (Nat.le_refl _)), if_neg (m1_l hz (Nat.le_refl _)), bind_id]
theorem fin3 {y z w : Nat} (hy : y < 500) (hz : z < 500) (hw : w < 500) (x : Int32) (g : sm_H) : F_438 x (I3 y) (I3 z) (I3 w) g = F_434 x 3 (sm_wI (sm_wI (sm_wI g 127 0 (I3 y)) 127 1 (I3 z)) 127 2 (I3 w)) := by
  show F_438_0 x (I3 y) (I3 z) (I3 w) g = _
  unfold F_438_0 F_438_48
  rw [show stI g 127 8 0 (I3 y) = some (sm_wI g 127 0 (I3 y)) from (st127 g (k := 0) (by decide) _).1]; simp only [obs]
  rw [show stI (sm_wI g 127 0 (I3 y)) 127 8 1 (I3 z) = some (sm_wI (sm_wI g 127 0 (I3 y)) 127 1 (I3 z)) from (st127 _ (k := 1) (by decide) _).1]; simp only [obs]
  rw [show stI (sm_wI (sm_wI g 127 0 (I3 y)) 127 1 (I3 z)) 127 8 2 (I3 w) = some (sm_wI (sm_wI (sm_wI g 127 0 (I3 y)) 127 1 (I3 z)) 127 2 (I3 w)) from (st127 _ (k := 2) (by decide) _).1]; simp only [obs]
  rw [if_neg (m1_l hy (Nat.le_refl _)), if_neg (m1_l hz (Nat.le_refl _)), if_neg (m1_l hw (Nat.le_refl _)), bind_id]
theorem dd436 (g : sm_H) (y : Int32) : ∃ g2, F_436 (-1) y g = some (-1, g2) ∧ agr S127 g g2 := by
  refine ⟨_, ?_, (st127 g (k := 0) (by decide) y).2⟩
  show F_436_0 (-1) y g = _
  unfold F_436_0 F_436_22
  rw [show stI g 127 8 0 y = some (sm_wI g 127 0 y) from (st127 g (k := 0) (by decide) _).1]; simp only [obs]
  by_cases q : y = -1
  · rw [if_pos q]
  · rw [if_neg q, ap434]; rfl
theorem dd437 (g : sm_H) (y z : Int32) : ∃ g2, F_437 (-1) y z g = some (-1, g2) ∧ agr S127 g g2 := by
  refine ⟨_, ?_, agr_trans (st127 g (k := 0) (by decide) y).2 (st127 (sm_wI g 127 0 y) (k := 1) (by decide) z).2⟩
  show F_437_0 (-1) y z g = _
  unfold F_437_0 F_437_24 F_437_34
  rw [show stI g 127 8 0 y = some (sm_wI g 127 0 y) from (st127 g (k := 0) (by decide) _).1]; simp only [obs]
  rw [show stI (sm_wI g 127 0 y) 127 8 1 z = some (sm_wI (sm_wI g 127 0 y) 127 1 z) from (st127 _ (k := 1) (by decide) _).1]; simp only [obs]
  rw [ap434]; simp only [obs]
  rw [ite_self, ite_self]
theorem dd438 (g : sm_H) (y z w : Int32) : ∃ g2, F_438 (-1) y z w g = some (-1, g2) ∧ agr S127 g g2 := by
  refine ⟨_, ?_, agr_trans (agr_trans (st127 g (k := 0) (by decide) y).2 (st127 (sm_wI g 127 0 y) (k := 1) (by decide) z).2) (st127 (sm_wI (sm_wI g 127 0 y) 127 1 z) (k := 2) (by decide) w).2⟩
  show F_438_0 (-1) y z w g = _
  unfold F_438_0 F_438_38 F_438_48
  rw [show stI g 127 8 0 y = some (sm_wI g 127 0 y) from (st127 g (k := 0) (by decide) _).1]; simp only [obs]
  rw [show stI (sm_wI g 127 0 y) 127 8 1 z = some (sm_wI (sm_wI g 127 0 y) 127 1 z) from (st127 _ (k := 1) (by decide) _).1]; simp only [obs]
  rw [show stI (sm_wI (sm_wI g 127 0 y) 127 1 z) 127 8 2 w = some (sm_wI (sm_wI (sm_wI g 127 0 y) 127 1 z) 127 2 w) from (st127 _ (k := 2) (by decide) _).1]; simp only [obs]
  rw [ap434]; simp only [obs]
  rw [ite_self, ite_self, ite_self]
theorem ag3 (g : sm_H) : agr Sdd g (sm_wI g 67 3 0) := agr_wI agr_rfl (by unfold Sdd SRp; omega)
theorem ag127 {g g1 : sm_H} (a : agr S127 g g1) : agr Sdd g g1 := agr_mono (fun _ _ z => Or.inr z) a
theorem plain {h g : sm_H} {nm : Nat → Int64} {kd l : List Int32} {r : Int32} (K : K1 h g) (S : SCO nm kd h g) (nf : NF h g) {pc base m b0 f : Nat} {pt : Nat → Nat} (wh : g.1 67 106 = I3 pc) (st : STK h base m pt) (m8 : m ≤ 8) (uf : f = 0 ∨ f = 2 ∨ f = 3 ∨ f = 4 ∨ f = 5 ∨ f = 8 ∨ f = 12 ∨ f = 13 ∨ f = 14 ∨ f = 15 ∨ f = 18 ∨ f = 19 ∨ f = 20 ∨ f = 21 ∨ f = 22 ∨ f = 23 ∨ f = 29 ∨ f = 31 ∨ f = 32 ∨ f = 33 ∨ f = 34) {a b : Int32} {c : Int64} (ec : ∀ h, F_5 (I3 f) a b (-1) 56 h = F_5 (I3 f) a b c 56 h) (ck : Ck (sm_wI (sm_wI g 67 3 0) 67 19 0) f a b c r l) (lm : l.length = m) (ok : ∀ i, i < m → pt i < nH g ∧ hpl g (pt i) = kd ∧ hrs g (pt i) = at0 l i) {fin : Int32 → sm_H → Option (Int32 × sm_H)}
    (hfin : ∀ x g, ∃ g', agr S127 g g' ∧ (∀ i, i < m → g'.1 127 i = I3 (pt i)) ∧ fin x g = F_434 x (I3 m) g') : PO b0 h g pc (F_191 (I3 f) a b (I3 base) (I3 m) (I3 pc) h) ((F_430 (I3 f) a b c g).bind fun q => fin q.1 q.2) kd := by
  have R : hasL (sm_wI h 56 1 0) 56 57 [] := ⟨rfl, by decide, fun k hk => by cases hk⟩
  have a1 : agr S56 h (sm_wI h 56 1 0) := agr_wI agr_rfl (Or.inl ⟨rfl, rfl⟩)
  have P : prR (sm_wI g 67 3 0) [] := ⟨rfl, by decide, fun k hk => by cases hk⟩
  have a2 : agr SRp g (sm_wI g 67 3 0) := agr_wI agr_rfl (by unfold SRp; omega)
  have T0 := TK_par (TK_row (TK_rfl K) a1) a2
  have n0 := NF_par (NF_row nf a1) a2
  have M := mkForm T0.k n0 (wh_TK wh T0) a b c R P uf (by omega) ck
  have C0 : F_191 (I3 f) a b (I3 base) (I3 m) (I3 pc) h = (F_5 (I3 f) a b c 56 (sm_wI h 56 1 0)).bind fun q2 => F_192 q2.1 (I3 base) (I3 m) (I3 pc) q2.2 := by
    show F_191_0 (I3 f) a b (I3 base) (I3 m) (I3 pc) h = _
    unfold F_191_0
    rw [show F_138 56 h = some (sm_wI h 56 1 0) from rfl]; simp only [obs]
    rw [ec]
    cases F_5 (I3 f) a b c 56 (sm_wI h 56 1 0) with
    | none => rfl
    | some q => exact bind_id _
  have R0 : ((F_430 (I3 f) a b c g).bind fun q => fin q.1 q.2) = (F_429 (I3 f) a b c (sm_wI g 67 3 0)).bind fun q => fin q.1 q.2 := by
    rw [show F_430 (I3 f) a b c g = F_429 (I3 f) a b c (sm_wI g 67 3 0) from bind_id _]
  rw [C0, R0]
  rcases M with ⟨y, h1, g1, m1, m2, m3, m4, m5, m6, m7⟩ | ⟨w', h1, h2, g2, w0, m1, m2, m3, m4, m5⟩
  · rw [m1, m2]; simp only [obs]
    obtain ⟨g', f1, f2, f3⟩ := hfin (I3 y) g1
    rw [f3]
    have T1 := TK_trans T0 m6
    have T2 : TB b0 h g h1 g' := TB_127 (TB_of T1) f1
    have n2 : NF h1 g' := NF_127 m7 f1
    have e1 : ext g1 g' := (TB_127 (TB_of (b0 := b0) (TK_rfl T1.k)) f1).e
    have y' : y < nH g' := (TB_127 (TB_of (b0 := b0) (TK_rfl T1.k)) f1).nH m3
    have hy : hpl g' y = l := (ext_hpl T1.k.2.2.2.2.1 e1 m3).trans m5
    have A := applied T2.k (SCO_TB S T2) n2 (wh_TB wh T2) y' (STK_TK st T1) (by rw [hy]; exact lm) m8 f2 (fun i hi => ⟨T2.nH (ok i hi).1, (T2.hpl K (ok i hi).1).trans (ok i hi).2.1, by rw [hy, T2.hrs K (ok i hi).1]; exact (ok i hi).2.2⟩)
    exact PO_tr T2 (PO_of A)
  · rw [m1, m3]; simp only [obs]
    obtain ⟨g', f1, f2, f3⟩ := hfin (-1) g2
    rw [f3, ap434]
    refine PO_fail (TB_of (TK_trans T0 m4)) m5 ?_ rfl (ag127 f1)
    show F_192_0 w' (I3 base) (I3 m) (I3 pc) h1 = _
    unfold F_192_0
    rw [if_neg (Int32.not_le.mpr w0), m2]; rfl
def FRM (g : sm_H) (k : Nat) (srt ex : Int32) (m : Nat) (pt : Nat → Nat) : Prop := k < 24 ∧ g.1 119 k = srt ∧ g.1 122 k = ex ∧ g.1 124 k = I3 m ∧ m ≤ 20 ∧ ∀ i, i < m → g.1 125 (20 * k + i) = I3 (pt i)
def pO (m : Nat) (pt : Nat → Nat) (i : Nat) : Int32 := if i < m then I3 (pt i) else -1
theorem F460 {g : sm_H} {k m : Nat} {srt ex : Int32} {pt : Nat → Nat} (f : FRM g k srt ex m pt) : F_460 (I3 k) g = F_460_74 (I3 k) (pO m pt 0) (pO m pt 1) (pO m pt 2) g := by
  obtain ⟨k1, -, -, f4, f5, f6⟩ := f
  show F_460_0 (I3 k) g = _
  unfold F_460_0 F_460_22 F_460_48 pO
  have l4 : ldI g 124 24 (I3 k) = some (I3 m) := by rw [ldI_I k1 (by decide), f4]
  have e : ∀ j, (20 : Int32) * I3 k + I3 j = I3 (20 * k + j) := fun j => by rw [I3_lit, I3_mul, I3_add]
  rw [l4]; simp only [obs]
  by_cases q0 : m = 0
  · rw [if_pos (by rw [I3_lit, I3_le (by omega) (by decide)]; omega), if_pos (by rw [I3_lit, I3_le (by omega) (by decide)]; omega), if_pos (by rw [I3_lit, I3_le (by omega) (by decide)]; omega), if_neg (by omega), if_neg (by omega), if_neg (by omega)]
  · rw [if_neg (by rw [I3_lit, I3_le (by omega) (by decide)]; omega), show (20 : Int32) * I3 k = I3 (20 * k + 0) by rw [I3_lit, I3_mul]; rfl, ldI_I (by omega) (by decide), f6 0 (by omega), if_pos (show 0 < m by omega)]; simp only [obs]
    by_cases q1 : m = 1
    · rw [if_pos (by rw [I3_lit, I3_le (by omega) (by decide)]; omega), if_pos (by rw [I3_lit, I3_le (by omega) (by decide)]; omega), if_neg (by omega), if_neg (by omega)]
    · rw [if_neg (by rw [I3_lit, I3_le (by omega) (by decide)]; omega), show I3 (20 * k + 0) + 1 = I3 (20 * k + 1) from I3_add _ 1, ldI_I (by omega) (by decide), f6 1 (by omega), if_pos (show 1 < m by omega)]; simp only [obs]
      by_cases q2 : m = 2
      · rw [if_pos (by rw [I3_lit, I3_le (by omega) (by decide)]; omega), if_neg (by omega)]
      · rw [if_neg (by rw [I3_lit, I3_le (by omega) (by decide)]; omega), show I3 (20 * k + 0) + 2 = I3 (20 * k + 2) from I3_add _ 2, ldI_I (by omega) (by decide), f6 2 (by omega), if_pos (show 2 < m by omega)]; simp only [obs]
theorem ld122 {g : sm_H} {k m : Nat} {srt ex : Int32} {pt : Nat → Nat} (f : FRM g k srt ex m pt) : ldI g 122 24 (I3 k) = some ex := by rw [ldI_I f.1 (by decide), f.2.2.1]
theorem ld119 {g : sm_H} {k m : Nat} {srt ex : Int32} {pt : Nat → Nat} (f : FRM g k srt ex m pt) : ldI g 119 24 (I3 k) = some srt := by rw [ldI_I f.1 (by decide), f.2.1]
theorem ck458t (g : sm_H) : F_458 1 g = some (1, g) := by
  show F_458_0 1 g = _
  unfold F_458_0 F_458_17 F_458_22
  rw [if_neg (by decide), if_pos (by decide)]
theorem ck458f {h g : sm_H} (K : K1 h g) (nf : NF h g) {pc : Nat} (wh : g.1 67 106 = I3 pc) : ∃ h2 g2, F_169 7 (I3 pc) h = some (-1, h2) ∧ F_458 0 g = some (0, g2) ∧ TK h g h2 g2 ∧ FT 7 pc h2 g2 := by
  obtain ⟨h2, g2, f1, f2, f3, f4⟩ := failB K nf (e := 7) (pc := pc) (by decide) (by decide)
  refine ⟨h2, g2, f1, ?_, f3, f4⟩
  show F_458_0 0 g = _
  unfold F_458_0 F_458_22
  rw [if_pos rfl, wh, show F_413 7 (I3 pc) g = some (0, g2) from f2]; simp only [obs]
  rw [if_pos trivial, if_pos (by decide)]
def CP (x1 x2 x3 x4 : Int32) (h : sm_H) : Option (Int32 × sm_H) := (F_203 x1 x2 x3 h).bind fun q5 =>
  if q5.1 = 0 then ((F_169 7 x4 q5.2).bind fun q8 => some (q8.1, q8.2))
  else (if x1 = 0 then ((F_205 x3 x4 q5.2).bind fun q7 => some (q7.1, q7.2)) else ((F_202 x1 x2 x3 x4 q5.2).bind fun q6 => some (q6.1, q6.2)))
theorem CP_f {x1 x2 x3 : Int32} {pc : Nat} {h h2 : sm_H} (a : F_203 x1 x2 x3 h = some (0, h)) (b : F_169 7 (I3 pc) h = some (-1, h2)) : CP x1 x2 x3 (I3 pc) h = some (-1, h2) := by
  unfold CP
  rw [a]; simp only [obs]
  rw [if_pos trivial, b]; rfl
theorem CP_t {x1 x2 x3 x4 : Int32} {h : sm_H} (a : F_203 x1 x2 x3 h = some (1, h)) (b : ¬ x1 = 0) : CP x1 x2 x3 x4 h = F_202 x1 x2 x3 x4 h := by
  unfold CP
  rw [a]; simp only [obs]
  rw [if_neg (by decide), if_neg b, bind_id]
theorem C_rsX {h g : sm_H} (K : K1 h g) (x : Int32) : ∃ w, F_44 x h = some (w, h) := by
  cases q : inR x (nH g) with
  | false => exact ⟨_, C_resultOf_o K.2.2.2.2.1 K.2.2.2.2.2.1 q⟩
  | true =>
    obtain ⟨a, a1, rfl⟩ := inR_x (by have := w500 K; omega) q
    exact ⟨_, C_rs K a1⟩
theorem C_189X {h g : sm_H} (K : K1 h g) {base m : Nat} {pt : Nat → Nat} (st : STK h base m pt) : ∃ w, F_189 (I3 base) h = some (w, h) := by
  have A : ∃ v, F_187 (I3 base) h = some (v, h) := by
    obtain ⟨top, t1, t2, t3, t4⟩ := st
    show ∃ v, F_187_0 (I3 base) h = some (v, h)
    unfold F_187_0 F_187_28 F_187_29
    rw [if_neg (I3_nn (by omega))]
    by_cases q : h.1 55 12 ≤ I3 base
    · rw [if_pos q]; exact ⟨_, rfl⟩
    · rw [if_neg q]
      by_cases q2 : 200 ≤ base
      · rw [if_pos (by rw [I3_lit, I3_le (by omega) (by omega)]; omega)]; exact ⟨_, rfl⟩
      · rw [if_neg (by rw [I3_lit, I3_le (by omega) (by omega)]; omega), ldI_I (by omega) (by decide)]; exact ⟨_, rfl⟩
  obtain ⟨v, v1⟩ := A
  obtain ⟨w, w1⟩ := C_rsX K v
  refine ⟨w, ?_⟩
  show F_189_0 (I3 base) h = _
  unfold F_189_0
  rw [v1]; simp only [obs]
  rw [w1]; rfl
theorem C_189 {h g : sm_H} (K : K1 h g) {base m i : Nat} {pt : Nat → Nat} (st : STK h base m pt) (hi : i < m) (p : pt i < nH g) : F_189 (I3 (base + i)) h = some (hrs g (pt i), h) := by
  show F_189_0 (I3 (base + i)) h = _
  unfold F_189_0
  rw [STK_at st hi]; simp only [obs]
  rw [C_rs K p]; rfl
section
variable {h g : sm_H} {nm : Nat → Int64} {kd : List Int32} {pc base k : Nat} {pt : Nat → Nat} {ex : Int32}
theorem do_5 (K : K1 h g) (S : SCO nm kd h g) (nf : NF h g) (wh : g.1 67 106 = I3 pc) (st : STK h base 1 pt) (ok : ∀ i, i < 1 → pt i < nH g ∧ hpl g (pt i) = kd) {x : Nat} (hx : x < 20 + nC g) (fr : FRM g k 7 (I3 x) 1 pt) : PO base h g pc (CP 5 (I3 x) (I3 base) (I3 pc) h) (F_460 (I3 k) g) kd := by
  obtain ⟨o1, o2⟩ := ok 0 (by omega)
  have M := passedAs K S nf wh o1 o2 hx
  rw [F460 fr]
  unfold F_460_74
  rw [ld122 fr, ld119 fr]; simp only [obs]
  rw [if_neg (by decide), if_neg (by decide), if_neg (by decide), if_neg (by decide), if_neg (by decide), if_neg (by decide), if_pos trivial, bind_id, show pO 1 pt 0 = I3 (pt 0) from rfl, CP_t (by rfl) (by decide)]
  have C0 : F_202 5 (I3 x) (I3 base) (I3 pc) h = F_202_0 5 (I3 x) (I3 base) (I3 pc) h := rfl
  unfold F_202_0 at C0
  rw [show F_189 (I3 base) h = some (hrs g (pt 0), h) from C_189 K st (i := 0) (by omega) o1] at C0; simp only [obs] at C0
  rw [if_neg (by decide), if_pos trivial, show F_187 (I3 base) h = some (I3 (pt 0), h) from STK_at st (i := 0) (by omega)] at C0; simp only [obs] at C0
  rw [bind_id] at C0
  rw [C0]
  exact PO_of M
theorem do_6 (K : K1 h g) (S : SCO nm kd h g) (nf : NF h g) (wh : g.1 67 106 = I3 pc) (st : STK h base 1 pt) (ok : ∀ i, i < 1 → pt i < nH g ∧ hpl g (pt i) = kd) {x : Nat} (hx : x < 20 + nC g) (fr : FRM g k 8 (I3 x) 1 pt) : PO base h g pc (CP 6 (I3 x) (I3 base) (I3 pc) h) (F_460 (I3 k) g) kd := by
  obtain ⟨o1, o2⟩ := ok 0 (by omega)
  have M := forcedAs K S nf wh o1 o2 hx
  rw [F460 fr]
  unfold F_460_74
  rw [ld122 fr, ld119 fr]; simp only [obs]
  rw [if_neg (by decide), if_neg (by decide), if_neg (by decide), if_neg (by decide), if_neg (by decide), if_neg (by decide), if_neg (by decide), if_pos trivial, show pO 1 pt 0 = I3 (pt 0) from rfl, CP_t (by rfl) (by decide)]
  have C0 : F_202 6 (I3 x) (I3 base) (I3 pc) h = F_202_0 6 (I3 x) (I3 base) (I3 pc) h := rfl
  unfold F_202_0 at C0
  rw [show F_189 (I3 base) h = some (hrs g (pt 0), h) from C_189 K st (i := 0) (by omega) o1] at C0; simp only [obs] at C0
  rw [if_neg (by decide), if_neg (by decide), if_pos trivial, show F_187 (I3 base) h = some (I3 (pt 0), h) from STK_at st (i := 0) (by omega)] at C0; simp only [obs] at C0
  rw [bind_id] at C0
  rw [C0]
  exact PO_of M
theorem ex_F5 {f : Nat} {v : Int32} (t : ∀ h, sm_ldI G0 h 1000000 (I3 f) = some v) (e : v &&& 4 = 0) (a b : Int32) (c : Int64) : ∀ h, F_5 (I3 f) a b (-1) 56 h = F_5 (I3 f) a b c 56 h := fun h => F5c t e a b (-1) c 56 h
theorem do_7 (K : K1 h g) (S : SCO nm kd h g) (nf : NF h g) (wh : g.1 67 106 = I3 pc) (st : STK h base 0 pt) {x : Nat} (hx : x < 20 + nC g) (fr : FRM g k 9 (I3 x) 0 pt) : PO base h g pc (CP 7 (I3 x) (I3 base) (I3 pc) h) (F_460 (I3 k) g) kd := by
  have h12 := K.1.2.1
  rw [F460 fr]
  unfold F_460_74
  rw [ld122 fr, ld119 fr]; simp only [obs]
  rw [if_neg (by decide), if_neg (by decide), if_neg (by decide), if_neg (by decide), if_neg (by decide), if_neg (by decide), if_neg (by decide), if_neg (by decide), if_pos trivial, R_ref (by omega)]; simp only [obs]
  have B203 : F_203 7 (I3 x) (I3 base) h = some (b2 (decide (7 ≤ x)), h) := by
    show F_203_0 7 (I3 x) (I3 base) h = _
    unfold F_203_0 F_203_48
    rw [if_pos rfl, refB K.1 K.2.1, inR_I (by omega), decide_eq_true hx, Bool.true_and]; simp only [obs]
    rw [show decide (¬ I3 x < 7) = decide (7 ≤ x) by
      have : (I3 x < 7) ↔ x < 7 := by rw [I3_lit, I3_lt (by omega) (by decide)]
      exact decide_eq_decide.mpr (by rw [this]; omega)]
    cases decide (7 ≤ x) <;> rfl
  by_cases q : 7 ≤ x
  · rw [decide_eq_true q] at B203 ⊢
    rw [show F_458 (b2 true) g = some (1, g) from ck458t g]; simp only [obs]
    rw [if_neg (by decide), CP_t B203 (by decide)]
    have C0 : F_202 7 (I3 x) (I3 base) (I3 pc) h = F_191 0 (I3 x) 0 (I3 base) 0 (I3 pc) h := by
      show F_202_0 7 (I3 x) (I3 base) (I3 pc) h = _
      unfold F_202_0
      obtain ⟨w, w1⟩ := C_189X K st
      rw [w1]; simp only [obs]
      rw [if_neg (by decide), if_neg (by decide), if_neg (by decide), if_pos trivial, bind_id]
    rw [C0]
    have ck := ck_0 (h := h) (g := sm_wI (sm_wI g 67 3 0) 67 19 0) (K1_c19 (TK_par (TK_rfl K) (agr_wI agr_rfl (by unfold SRp; omega) : agr SRp g (sm_wI g 67 3 0))).k) rfl (k := x) (by omega) hx 0 (c := -1) (by unfold trK; rw [if_neg (by omega), if_pos rfl])
    exact plain (f := 0) (a := I3 x) (b := 0) (c := -1) (l := []) K S nf wh st (by decide) (by decide) (fun _ => rfl) ck rfl (fun i hi => by omega) (fun x g => ⟨g, agr_rfl, fun i hi => by omega, (bind_id (F_435 x g)).trans (fin0 x g)⟩)
  · rw [decide_eq_false q] at B203 ⊢
    obtain ⟨h2, g2, f1, f2, f3, f4⟩ := ck458f K nf wh
    rw [show F_458 (b2 false) g = some (0, g2) from f2]; simp only [obs]
    rw [if_pos trivial]
    exact PO_fail (TB_of f3) f4 (CP_f B203 f1) rfl agr_rfl
theorem TK0 (K : K1 h g) : K1 h (sm_wI (sm_wI g 67 3 0) 67 19 0) := K1_c19 (TK_par (TK_rfl K) (agr_wI agr_rfl (by unfold SRp; omega) : agr SRp g (sm_wI g 67 3 0))).k
theorem lt500 (K : K1 h g) {y : Nat} (hy : y < nH g) : y < 500 := Nat.lt_of_lt_of_le hy (w500 K)
theorem up_s (i z : Nat) (pt : Nat → Nat) : updN pt i z i = z := if_pos rfl
theorem up_o {i j : Nat} (z : Nat) (pt : Nat → Nat) (h : j ≠ i) : updN pt i z j = pt j := if_neg h
theorem one_plain (K : K1 h g) (S : SCO nm kd h g) (nf : NF h g) (wh : g.1 67 106 = I3 pc) (st : STK h base 1 pt) (ok : ∀ i, i < 1 → pt i < nH g ∧ hpl g (pt i) = kd) {kk f : Nat} {a r : Int32} (hkk : kk < 20) (uf : f = 20 ∨ f = 31 ∨ f = 33) (ec : ∀ h, F_5 (I3 f) a 0 (-1) 56 h = F_5 (I3 f) a 0 0 56 h) (ckf : ∀ h' g', K1 h' g' → nC g' = nC g → g'.1 67 3 = 0 → Ck g' f a 0 0 r [I3 kk]) :
    PO base h g pc ((F_190 (I3 base) (I3 kk) (I3 pc) h).bind fun q => if q.1 = 0 then some (-1, q.2) else ((F_191 (I3 f) a 0 (I3 base) 1 (I3 pc) q.2).bind fun q => some (q.1, q.2)))
      ((F_433 (I3 (pt 0)) (I3 kk) g).bind fun q => (F_430 (I3 f) a 0 0 q.2).bind fun q1 => (F_436 q1.1 q.1 q1.2).bind fun q2 => some (q2.1, q2.2)) kd := by
  obtain ⟨o1, o2⟩ := ok 0 (by omega)
  rcases pass1 K S nf (i := 0) wh st (by omega) o1 o2 (k := kk) (by omega) with ⟨z, h1, g1, a1, a2, a3, a4, a5, a6, a7, a8⟩ | ⟨e, h1, g1, a1, a2, a3, a4⟩
  · rw [show F_190 (I3 base) (I3 kk) (I3 pc) h = some (1, h1) from a1, a2]; simp only [obs]
    rw [if_neg (by decide), bind_id]
    refine PO_tr a7 ?_
    have z5 := lt500 a7.k a3
    exact plain (m := 1) a7.k (SCO_TB S a7) a8 (wh_TB wh a7) a6 (by decide) (by rcases uf with rfl | rfl | rfl <;> decide) ec (ckf _ _ (TK0 a7.k) a7.nC rfl) rfl (fun i hi => by
      have e : i = 0 := by omega
      subst e
      rw [up_s]
      exact ⟨a3, a5, a4⟩) (fun x g => ⟨sm_wI g 127 0 (I3 z), (st127 g (k := 0) (by decide) _).2, fun i hi => by
        have e : i = 0 := by omega
        subst e
        rw [up_s]; rfl, (bind_id _).trans (fin1 z5 x g)⟩)
  · rw [show F_190 (I3 base) (I3 kk) (I3 pc) h = some (0, h1) from a1, a2]; simp only [obs]
    rw [if_pos trivial, dd430 (FT_ne a4)]; simp only [obs]
    obtain ⟨g2, b1, b2'⟩ := dd436 (sm_wI g1 67 3 0) (-1)
    rw [b1]
    exact PO_fail (TB_of a3) a4 rfl rfl (agr_trans (ag3 g1) (ag127 b2'))
theorem two_plain (K : K1 h g) (S : SCO nm kd h g) (nf : NF h g) (wh : g.1 67 106 = I3 pc) (st : STK h base 2 pt) (ok : ∀ i, i < 2 → pt i < nH g ∧ hpl g (pt i) = kd) {kk f : Nat} {a b r : Int32} (hkk : kk < 20) (uf : f = 3 ∨ f = 32) (ec : ∀ h, F_5 (I3 f) a b (-1) 56 h = F_5 (I3 f) a b 0 56 h) (ckf : ∀ h' g', K1 h' g' → nC g' = nC g → g'.1 67 3 = 0 → Ck g' f a b 0 r [I3 kk, I3 kk]) :
    PO base h g pc ((F_190 (I3 base) (I3 kk) (I3 pc) h).bind fun q => if q.1 = 0 then some (-1, q.2) else ((F_190 (I3 base + 1) (I3 kk) (I3 pc) q.2).bind fun q => if q.1 = 0 then some (-1, q.2) else ((F_191 (I3 f) a b (I3 base) 2 (I3 pc) q.2).bind fun q => some (q.1, q.2))))
      ((F_433 (I3 (pt 0)) (I3 kk) g).bind fun p => (F_433 (I3 (pt 1)) (I3 kk) p.2).bind fun q => (F_430 (I3 f) a b 0 q.2).bind fun q1 => (F_437 q1.1 p.1 q.1 q1.2).bind fun q2 => some (q2.1, q2.2)) kd := by
  obtain ⟨o1, o2⟩ := ok 0 (by omega)
  obtain ⟨p1, p2⟩ := ok 1 (by omega)
  rcases pass1 K S nf (i := 0) wh st (by omega) o1 o2 (k := kk) (by omega) with ⟨z, h1, g1, a1, a2, a3, a4, a5, a6, a7, a8⟩ | ⟨e, h1, g1, a1, a2, a3, a4⟩
  · rw [show F_190 (I3 base) (I3 kk) (I3 pc) h = some (1, h1) from a1, a2]; simp only [obs]
    rw [if_neg (by decide), show I3 base + 1 = I3 (base + 1) from I3_add base 1]
    have u1 : updN pt 0 z 1 = pt 1 := rfl
    rcases pass1 a7.k (SCO_TB S a7) a8 (i := 1) (pc := pc) (wh_TB wh a7) a6 (by omega) (by rw [u1]; exact a7.nH p1) (by rw [u1, a7.hpl K p1]; exact p2) (k := kk) (by omega) with ⟨w, h2, g2, c1, c2, c3, c4, c5, c6, c7, c8⟩ | ⟨e, h2, g2, c1, c2, c3, c4⟩
    · rw [u1] at c2
      rw [c1, c2]; simp only [obs]
      rw [if_neg (by decide), bind_id]
      have T := TB_trans a7 (TB_mono (Nat.le_add_right base 1) c7)
      refine PO_tr T ?_
      have z5 := lt500 a7.k a3
      have w5 := lt500 T.k c3
      exact plain (m := 2) T.k (SCO_TB S T) c8 (wh_TB wh T) c6 (by decide) (by rcases uf with rfl | rfl <;> decide) ec (ckf _ _ (TK0 T.k) T.nC rfl) rfl (fun i hi => by
        rcases (show i = 0 ∨ i = 1 by omega) with rfl | rfl
        · exact ⟨c7.nH a3, (c7.hpl a7.k a3).trans a5, (c7.hrs a7.k a3).trans a4⟩
        · exact ⟨c3, c5, c4⟩) (fun x g => ⟨sm_wI (sm_wI g 127 0 (I3 z)) 127 1 (I3 w), agr_trans (st127 g (k := 0) (by decide) _).2 (st127 _ (k := 1) (by decide) _).2, fun i hi => by
          rcases (show i = 0 ∨ i = 1 by omega) with rfl | rfl <;> rfl, (bind_id _).trans (fin2 z5 w5 x g)⟩)
    · rw [u1] at c2
      rw [c1, c2]; simp only [obs]
      rw [if_pos trivial, dd430 (FT_ne c4)]; simp only [obs]
      obtain ⟨g3, b1, b2'⟩ := dd437 (sm_wI g2 67 3 0) (I3 z) (-1)
      rw [b1]
      exact PO_fail (TB_trans a7 (TB_of c3)) c4 rfl rfl (agr_trans (ag3 g2) (ag127 b2'))
  · rw [show F_190 (I3 base) (I3 kk) (I3 pc) h = some (0, h1) from a1, a2]; simp only [obs]
    rw [if_pos trivial, dd433 (FT_ne a4)]; simp only [obs]
    rw [dd430 (FT_ne a4)]; simp only [obs]
    obtain ⟨g2, b1, b2'⟩ := dd437 (sm_wI g1 67 3 0) (-1) (-1)
    rw [b1]
    exact PO_fail (TB_of a3) a4 rfl rfl (agr_trans (ag3 g1) (ag127 b2'))
theorem do_8 (K : K1 h g) (S : SCO nm kd h g) (nf : NF h g) (wh : g.1 67 106 = I3 pc) (st : STK h base 1 pt) (ok : ∀ i, i < 1 → pt i < nH g ∧ hpl g (pt i) = kd) {x : Nat} (hx : x < 20 + nC g) (fr : FRM g k 10 (I3 x) 1 pt) : PO base h g pc (CP 8 (I3 x) (I3 base) (I3 pc) h) (F_460 (I3 k) g) kd := by
  have h12 := K.1.2.1
  rw [F460 fr]
  unfold F_460_74
  rw [ld122 fr, ld119 fr]; simp only [obs]
  rw [if_neg (by decide), if_neg (by decide), if_neg (by decide), if_neg (by decide), if_neg (by decide), if_neg (by decide), if_neg (by decide), if_neg (by decide), if_neg (by decide), if_pos trivial, show pO 1 pt 0 = I3 (pt 0) from rfl, R_isRow (by omega)]; simp only [obs]
  have B203 : F_203 8 (I3 x) (I3 base) h = some (b2 (decide (15 ≤ x ∧ x ≤ 17)), h) := by
    show F_203_0 8 (I3 x) (I3 base) h = _
    unfold F_203_0
    rw [if_neg (by decide), if_pos rfl, C_isRow (by omega)]; simp only [obs]
    cases decide (15 ≤ x ∧ x ≤ 17) <;> rfl
  by_cases q : 15 ≤ x ∧ x ≤ 17
  · rw [decide_eq_true q] at B203 ⊢
    rw [show F_458 (b2 true) g = some (1, g) from ck458t g]; simp only [obs]
    rw [if_neg (by decide), CP_t B203 (by decide)]
    have C0 : F_202 8 (I3 x) (I3 base) (I3 pc) h = F_202_0 8 (I3 x) (I3 base) (I3 pc) h := rfl
    unfold F_202_0 at C0
    obtain ⟨w, w1⟩ := C_189X K st
    rw [w1] at C0; simp only [obs] at C0
    rw [if_neg (by decide), if_neg (by decide), if_neg (by decide), if_neg (by decide), if_pos trivial] at C0
    rw [C0]
    exact one_plain K S nf wh st ok (kk := 5) (f := 20) (a := I3 x) (by decide) (by decide) (ex_F5 (fun _ => rfl) (by decide) _ _ _) (fun h' g' K' e P0 => ck_row K' P0 q.1 q.2 (Or.inl rfl) 0 0)
  · rw [decide_eq_false q] at B203 ⊢
    obtain ⟨h2, g2, f1, f2, f3, f4⟩ := ck458f K nf wh
    rw [show F_458 (b2 false) g = some (0, g2) from f2]; simp only [obs]
    rw [if_pos trivial]
    unfold F_460_445
    rw [dd430 (FT_ne f4)]; simp only [obs]
    obtain ⟨g3, b1, b2'⟩ := dd436 (sm_wI g2 67 3 0) (-1)
    rw [b1]
    exact PO_fail (TB_of f3) f4 (CP_f B203 f1) rfl (agr_trans (ag3 g2) (ag127 b2'))
theorem do_12 (K : K1 h g) (S : SCO nm kd h g) (nf : NF h g) (wh : g.1 67 106 = I3 pc) (st : STK h base 1 pt) (ok : ∀ i, i < 1 → pt i < nH g ∧ hpl g (pt i) = kd) {x : Nat} (hx : x < 20 + nC g) (fr : FRM g k 14 (I3 x) 1 pt) : PO base h g pc (CP 12 (I3 x) (I3 base) (I3 pc) h) (F_460 (I3 k) g) kd := by
  have h12 := K.1.2.1
  rw [F460 fr]
  unfold F_460_74
  rw [ld122 fr, ld119 fr]; simp only [obs]
  rw [if_neg (by decide), if_neg (by decide), if_neg (by decide), if_neg (by decide), if_neg (by decide), if_neg (by decide), if_neg (by decide), if_neg (by decide), if_neg (by decide), if_neg (by decide), if_neg (by decide), if_neg (by decide), if_neg (by decide), if_pos trivial, show pO 1 pt 0 = I3 (pt 0) from rfl, R_ref (by omega)]; simp only [obs]
  have B203 : F_203 12 (I3 x) (I3 base) h = some (b2 (decide (7 ≤ x)), h) := by
    show F_203_0 12 (I3 x) (I3 base) h = _
    unfold F_203_0 F_203_48
    rw [if_neg (by decide), if_neg (by decide), if_neg (by decide), if_neg (by decide), if_neg (by decide), if_pos rfl, refB K.1 K.2.1, inR_I (by omega), decide_eq_true hx, Bool.true_and]; simp only [obs]
    rw [show decide (¬ I3 x < 7) = decide (7 ≤ x) by
      have : (I3 x < 7) ↔ x < 7 := by rw [I3_lit, I3_lt (by omega) (by decide)]
      exact decide_eq_decide.mpr (by rw [this]; omega)]
    cases decide (7 ≤ x) <;> rfl
  by_cases q : 7 ≤ x
  · rw [decide_eq_true q] at B203 ⊢
    rw [show F_458 (b2 true) g = some (1, g) from ck458t g]; simp only [obs]
    rw [if_neg (by decide), CP_t B203 (by decide)]
    have C0 : F_202 12 (I3 x) (I3 base) (I3 pc) h = F_202_0 12 (I3 x) (I3 base) (I3 pc) h := rfl
    unfold F_202_0 at C0
    obtain ⟨w, w1⟩ := C_189X K st
    rw [w1] at C0; simp only [obs] at C0
    rw [if_neg (by decide), if_neg (by decide), if_neg (by decide), if_neg (by decide), if_neg (by decide), if_neg (by decide), if_neg (by decide), if_neg (by decide), if_pos trivial] at C0
    rw [C0]
    exact one_plain K S nf wh st ok (kk := 7) (f := 31) (a := I3 x) (by decide) (by decide) (ex_F5 (fun _ => rfl) (by decide) _ _ _) (fun h' g' K' e P0 => ck_31 K' P0 q (by rw [e]; exact hx) 0 0)
  · rw [decide_eq_false q] at B203 ⊢
    obtain ⟨h2, g2, f1, f2, f3, f4⟩ := ck458f K nf wh
    rw [show F_458 (b2 false) g = some (0, g2) from f2]; simp only [obs]
    rw [if_pos trivial]
    unfold F_460_649
    rw [dd430 (FT_ne f4)]; simp only [obs]
    obtain ⟨g3, b1, b2'⟩ := dd436 (sm_wI g2 67 3 0) (-1)
    rw [b1]
    exact PO_fail (TB_of f3) f4 (CP_f B203 f1) rfl (agr_trans (ag3 g2) (ag127 b2'))
theorem do_15 (K : K1 h g) (S : SCO nm kd h g) (nf : NF h g) (wh : g.1 67 106 = I3 pc) (st : STK h base 1 pt) (ok : ∀ i, i < 1 → pt i < nH g ∧ hpl g (pt i) = kd) (fr : FRM g k 17 ex 1 pt) : PO base h g pc (CP 15 ex (I3 base) (I3 pc) h) (F_460 (I3 k) g) kd := by
  rw [F460 fr]
  unfold F_460_74
  rw [ld122 fr, ld119 fr]; simp only [obs]
  rw [if_neg (by decide), if_neg (by decide), if_neg (by decide), if_neg (by decide), if_neg (by decide), if_neg (by decide), if_neg (by decide), if_neg (by decide), if_neg (by decide), if_neg (by decide), if_neg (by decide), if_neg (by decide), if_neg (by decide), if_neg (by decide), if_neg (by decide), if_neg (by decide), if_pos trivial, show pO 1 pt 0 = I3 (pt 0) from rfl, CP_t (by rfl) (by decide)]
  have C0 : F_202 15 ex (I3 base) (I3 pc) h = F_202_0 15 ex (I3 base) (I3 pc) h := rfl
  unfold F_202_0 at C0
  obtain ⟨w, w1⟩ := C_189X K st
  rw [w1] at C0; simp only [obs] at C0
  rw [if_neg (by decide), if_neg (by decide), if_neg (by decide), if_neg (by decide), if_neg (by decide), if_neg (by decide), if_neg (by decide), if_neg (by decide), if_neg (by decide), if_neg (by decide), if_neg (by decide), if_pos trivial] at C0
  rw [C0]
  exact one_plain K S nf wh st ok (kk := 19) (f := 33) (a := 0) (by decide) (by decide) (ex_F5 (fun _ => rfl) (by decide) _ _ _) (fun h' g' K' e P0 => ck_33 K' P0 0 0 0)
theorem do_13 (K : K1 h g) (S : SCO nm kd h g) (nf : NF h g) (wh : g.1 67 106 = I3 pc) (st : STK h base 2 pt) (ok : ∀ i, i < 2 → pt i < nH g ∧ hpl g (pt i) = kd) (fr : FRM g k 15 ex 2 pt) : PO base h g pc (CP 13 ex (I3 base) (I3 pc) h) (F_460 (I3 k) g) kd := by
  rw [F460 fr]
  unfold F_460_74
  rw [ld122 fr, ld119 fr]; simp only [obs]
  rw [if_neg (by decide), if_neg (by decide), if_neg (by decide), if_neg (by decide), if_neg (by decide), if_neg (by decide), if_neg (by decide), if_neg (by decide), if_neg (by decide), if_neg (by decide), if_neg (by decide), if_neg (by decide), if_neg (by decide), if_neg (by decide), if_pos trivial, show pO 2 pt 0 = I3 (pt 0) from rfl, show pO 2 pt 1 = I3 (pt 1) from rfl, CP_t (by rfl) (by decide)]
  have C0 : F_202 13 ex (I3 base) (I3 pc) h = F_202_0 13 ex (I3 base) (I3 pc) h := rfl
  unfold F_202_0 F_202_352 F_202_353 F_202_376 at C0
  obtain ⟨w, w1⟩ := C_189X K st
  rw [w1] at C0; simp only [obs] at C0
  rw [if_neg (by decide), if_neg (by decide), if_neg (by decide), if_neg (by decide), if_neg (by decide), if_neg (by decide), if_neg (by decide), if_neg (by decide), if_neg (by decide), if_pos trivial] at C0
  simp only [if_true, show ¬ ((1 : Int32) = 0) by decide, if_false] at C0
  rw [C0]
  exact two_plain K S nf wh st ok (kk := 7) (f := 32) (a := 0) (b := 0) (by decide) (by decide) (ex_F5 (fun _ => rfl) (by decide) _ _ _) (fun h' g' K' e P0 => ck_32 K' P0 0 0 0)
def wB (q : Int32) : Bool := decide (q = 6) || decide (q = 14)
theorem C_204 (q : Int32) (h : sm_H) : F_204 q h = some (b2 (wB q), h) := by
  show F_204_0 q h = _
  unfold F_204_0 F_204_12 F_204_17 wB
  by_cases a : q = 6
  · rw [if_pos a, if_pos (by decide), decide_eq_true a]; rfl
  · rw [if_neg a, decide_eq_false a, Bool.false_or]
    by_cases b : q = 14
    · rw [if_pos b, if_pos (by decide), decide_eq_true b]; rfl
    · rw [if_neg b, if_pos (by decide), decide_eq_false b]; rfl
theorem R_459 (K : K1 h g) {y : Nat} (hy : y < nH g) : F_459 (I3 y) g = some (if wB (hrs g y) = true then 6 else 5, g) := by
  show F_459_0 (I3 y) g = _
  unfold F_459_0 F_459_20 F_459_26 wB
  rw [R_rs K hy]; simp only [obs]
  by_cases a : hrs g y = 6
  · rw [if_pos a, decide_eq_true a]; rfl
  · rw [if_neg a, decide_eq_false a, Bool.false_or, R_rs K hy]; simp only [obs]
    by_cases b : hrs g y = 14
    · rw [if_pos b, decide_eq_true b]; rfl
    · rw [if_neg b, decide_eq_false b]; rfl
theorem do_16 (K : K1 h g) (S : SCO nm kd h g) (nf : NF h g) (wh : g.1 67 106 = I3 pc) (st : STK h base 2 pt) (ok : ∀ i, i < 2 → pt i < nH g ∧ hpl g (pt i) = kd) {o : Nat} (o1 : o ≤ 12) (fr : FRM g k 1 (I3 o) 2 pt) : PO base h g pc (CP 16 (I3 o) (I3 base) (I3 pc) h) (F_460 (I3 k) g) kd := by
  obtain ⟨p1, p2⟩ := ok 0 (by omega)
  obtain ⟨r1, r2⟩ := ok 1 (by omega)
  rw [F460 fr]
  unfold F_460_74
  rw [ld122 fr, ld119 fr]; simp only [obs]
  rw [if_pos trivial, show pO 2 pt 0 = I3 (pt 0) from rfl, show pO 2 pt 1 = I3 (pt 1) from rfl, CP_t (by rfl) (by decide), R_459 K p1]; simp only [obs]
  have C0 : F_202 16 (I3 o) (I3 base) (I3 pc) h = F_202_0 16 (I3 o) (I3 base) (I3 pc) h := rfl
  unfold F_202_0 F_202_420 F_202_443 at C0
  rw [show F_189 (I3 base) h = some (hrs g (pt 0), h) from C_189 K st (i := 0) (by omega) p1] at C0; simp only [obs] at C0
  rw [if_neg (by decide), if_neg (by decide), if_neg (by decide), if_neg (by decide), if_neg (by decide), if_neg (by decide), if_neg (by decide), if_neg (by decide), if_neg (by decide), if_neg (by decide), if_neg (by decide), if_neg (by decide), C_204] at C0; simp only [obs] at C0
  have fin : ∀ w : Nat, w = 5 ∨ w = 6 → PO base h g pc (F_202_449 (I3 o) (I3 base) (I3 pc) (I3 w) h) (F_460_198 (I3 (pt 0)) (I3 (pt 1)) (I3 o) (I3 w) g) kd := fun w hw => by
    unfold F_202_449 F_202_481 F_202_482 F_202_505 F_460_198
    simp only [if_true, show ¬ ((1 : Int32) = 0) by decide, if_false]
    exact two_plain K S nf wh st ok (kk := w) (f := 3) (a := I3 o) (b := I3 w) (by omega) (by decide) (ex_F5 (fun _ => rfl) (by decide) _ _ _) (fun h' g' K' e P0 => ck_3 K' P0 o1 hw 0)
  cases a : wB (hrs g (pt 0)) with
  | true =>
    rw [a, if_neg (by decide)] at C0
    rw [if_pos (by decide), C0]
    exact fin 6 (Or.inr rfl)
  | false =>
    rw [a, if_pos (by decide), show I3 base + 1 = I3 (base + 1) from I3_add base 1, C_189 K st (i := 1) (by omega) r1] at C0; simp only [obs] at C0
    rw [C_204] at C0; simp only [obs] at C0
    rw [if_neg (by decide), R_459 K r1]; simp only [obs]
    cases b : wB (hrs g (pt 1)) with
    | true =>
      rw [b, if_neg (by decide)] at C0
      rw [if_pos (by decide), C0]
      exact fin 6 (Or.inr rfl)
    | false =>
      rw [b, if_pos (by decide)] at C0
      rw [if_neg (by decide), C0]
      exact fin 5 (Or.inl rfl)
theorem C_row3 (K : K1 h g) {m : Nat} (m0 : 0 < m) (st : STK h base m pt) (ok : ∀ i, i < m → pt i < nH g ∧ hpl g (pt i) = kd) {q : Nat} (eq : hrs g (pt 0) = I3 q) (hq : q < 20 + nC g) {x1 : Int32} (hx : x1 = 9 ∨ x1 = 10 ∨ x1 = 11) (ex : Int32) : F_203 x1 ex (I3 base) h = some (b2 (decide (15 ≤ q ∧ q ≤ 17)), h) := by
  have h12 := K.1.2.1
  have e1 : F_203_66 (I3 base) h = some (b2 (decide (15 ≤ q ∧ q ≤ 17)), h) := by
    unfold F_203_66
    rw [show F_189 (I3 base) h = some (hrs g (pt 0), h) from C_189 K st (i := 0) m0 (ok 0 m0).1, eq]; simp only [obs]
    rw [C_isRow (by omega)]; simp only [obs]
    cases decide (15 ≤ q ∧ q ≤ 17) <;> rfl
  show F_203_0 x1 ex (I3 base) h = _
  unfold F_203_0
  rcases hx with rfl | rfl | rfl
  · rw [if_neg (by decide), if_neg (by decide), if_pos rfl, e1]
  · rw [if_neg (by decide), if_neg (by decide), if_neg (by decide), if_pos rfl, e1]
  · rw [if_neg (by decide), if_neg (by decide), if_neg (by decide), if_neg (by decide), if_pos rfl, e1]
theorem do_9 (K : K1 h g) (S : SCO nm kd h g) (nf : NF h g) (wh : g.1 67 106 = I3 pc) (st : STK h base 1 pt) (ok : ∀ i, i < 1 → pt i < nH g ∧ hpl g (pt i) = kd) (fr : FRM g k 11 ex 1 pt) : PO base h g pc (CP 9 ex (I3 base) (I3 pc) h) (F_460 (I3 k) g) kd := by
  have h12 := K.1.2.1
  obtain ⟨o1, o2⟩ := ok 0 (by omega)
  obtain ⟨q, q1, q2⟩ := rs_k K o1
  rw [F460 fr]
  unfold F_460_74
  rw [ld122 fr, ld119 fr]; simp only [obs]
  rw [if_neg (by decide), if_neg (by decide), if_neg (by decide), if_neg (by decide), if_neg (by decide), if_neg (by decide), if_neg (by decide), if_neg (by decide), if_neg (by decide), if_neg (by decide), if_pos trivial, show pO 1 pt 0 = I3 (pt 0) from rfl, R_rs K o1, q1]; simp only [obs]
  rw [R_isRow (by omega)]; simp only [obs]
  have B203 := C_row3 K (by decide) st ok q1 q2 (x1 := 9) (by decide) ex
  by_cases c : 15 ≤ q ∧ q ≤ 17
  · rw [decide_eq_true c] at B203 ⊢
    rw [show F_458 (b2 true) g = some (1, g) from ck458t g]; simp only [obs]
    rw [if_neg (by decide), CP_t B203 (by decide), R_rs K o1, q1]; simp only [obs]
    have C0 : F_202 9 ex (I3 base) (I3 pc) h = F_202_0 9 ex (I3 base) (I3 pc) h := rfl
    unfold F_202_0 at C0
    rw [show F_189 (I3 base) h = some (hrs g (pt 0), h) from C_189 K st (i := 0) (by omega) o1, q1] at C0; simp only [obs] at C0
    rw [if_neg (by decide), if_neg (by decide), if_neg (by decide), if_neg (by decide), if_neg (by decide), if_pos trivial, bind_id] at C0
    rw [C0]
    have p5 := lt500 K o1
    exact plain (m := 1) (f := 21) K S nf wh st (by decide) (by decide) (ex_F5 (fun _ => rfl) (by decide) (I3 q) 0 0) (ck_row (TK0 K) rfl c.1 c.2 (Or.inr (Or.inl rfl)) 0 0) rfl (fun i hi => by
      have e : i = 0 := by omega
      subst e
      exact ⟨o1, o2, q1⟩) (fun x g => ⟨sm_wI g 127 0 (I3 (pt 0)), (st127 g (k := 0) (by decide) _).2, fun i hi => by
        have e : i = 0 := by omega
        subst e; rfl, (bind_id _).trans (fin1 p5 x g)⟩)
  · rw [decide_eq_false c] at B203 ⊢
    obtain ⟨h2, g2, f1, f2, f3, f4⟩ := ck458f K nf wh
    rw [show F_458 (b2 false) g = some (0, g2) from f2]; simp only [obs]
    rw [if_pos trivial]
    exact PO_fail (TB_of f3) f4 (CP_f B203 f1) rfl agr_rfl
theorem do_10 (K : K1 h g) (S : SCO nm kd h g) (nf : NF h g) (wh : g.1 67 106 = I3 pc) (st : STK h base 2 pt) (ok : ∀ i, i < 2 → pt i < nH g ∧ hpl g (pt i) = kd) (fr : FRM g k 12 ex 2 pt) : PO base h g pc (CP 10 ex (I3 base) (I3 pc) h) (F_460 (I3 k) g) kd := by
  have h12 := K.1.2.1
  obtain ⟨o1, o2⟩ := ok 0 (by omega)
  obtain ⟨p1, p2⟩ := ok 1 (by omega)
  obtain ⟨q, q1, q2⟩ := rs_k K o1
  rw [F460 fr]
  unfold F_460_74
  rw [ld122 fr, ld119 fr]; simp only [obs]
  rw [if_neg (by decide), if_neg (by decide), if_neg (by decide), if_neg (by decide), if_neg (by decide), if_neg (by decide), if_neg (by decide), if_neg (by decide), if_neg (by decide), if_neg (by decide), if_neg (by decide), if_pos trivial, show pO 2 pt 0 = I3 (pt 0) from rfl, show pO 2 pt 1 = I3 (pt 1) from rfl, R_rs K o1, q1]; simp only [obs]
  rw [R_isRow (by omega)]; simp only [obs]
  have B203 := C_row3 K (by decide) st ok q1 q2 (x1 := 10) (by decide) ex
  have dead : ∀ (h2 g2 : sm_H) (e : Nat), TB base h g h2 g2 → FT e pc h2 g2 → ∃ g3, F_460_527 (I3 (pt 0)) (-1) g2 = some (-1, g3) ∧ agr Sdd g2 g3 := fun h2 g2 e t f4 => by
    unfold F_460_527
    rw [R_rs t.k (t.nH o1)]; simp only [obs]
    rw [dd430 (FT_ne f4)]; simp only [obs]
    obtain ⟨g3, b1, b2'⟩ := dd437 (sm_wI g2 67 3 0) (I3 (pt 0)) (-1)
    rw [b1]
    exact ⟨g3, rfl, agr_trans (ag3 g2) (ag127 b2')⟩
  by_cases c : 15 ≤ q ∧ q ≤ 17
  · rw [decide_eq_true c] at B203 ⊢
    rw [show F_458 (b2 true) g = some (1, g) from ck458t g]; simp only [obs]
    rw [if_neg (by decide), CP_t B203 (by decide)]
    have C0 : F_202 10 ex (I3 base) (I3 pc) h = F_202_0 10 ex (I3 base) (I3 pc) h := rfl
    unfold F_202_0 F_202_228 at C0
    rw [show F_189 (I3 base) h = some (hrs g (pt 0), h) from C_189 K st (i := 0) (by omega) o1, q1] at C0; simp only [obs] at C0
    rw [if_neg (by decide), if_neg (by decide), if_neg (by decide), if_neg (by decide), if_neg (by decide), if_neg (by decide), if_pos trivial, show I3 base + 1 = I3 (base + 1) from I3_add base 1] at C0
    rw [C0]
    rcases pass1 K S nf (i := 1) wh st (by omega) p1 p2 (k := 5) (by omega) with ⟨w, h2, g2, c1, c2, c3, c4, c5, c6, c7, c8⟩ | ⟨e, h2, g2, c1, c2, c3, c4⟩
    · rw [show F_190 (I3 (base + 1)) 5 (I3 pc) h = _ from c1, show F_433 (I3 (pt 1)) 5 g = _ from c2]; simp only [obs]
      rw [if_neg (by decide), bind_id]
      have T := TB_mono (Nat.le_add_right base 1) c7
      refine PO_tr T ?_
      unfold F_460_527
      have r2 : hrs g2 (pt 0) = I3 q := (T.hrs K o1).trans q1
      rw [R_rs T.k (T.nH o1), r2]; simp only [obs]
      have z5 := lt500 K o1
      have w5 := lt500 T.k c3
      exact plain (m := 2) (f := 22) T.k (SCO_TB S T) c8 (wh_TB wh T) c6 (by decide) (by decide) (ex_F5 (fun _ => rfl) (by decide) (I3 q) 0 0) (ck_row (TK0 T.k) rfl c.1 c.2 (Or.inr (Or.inr (Or.inl rfl))) 0 0) rfl (fun i hi => by
        rcases (show i = 0 ∨ i = 1 by omega) with rfl | rfl
        · exact ⟨T.nH o1, (T.hpl K o1).trans o2, r2⟩
        · exact ⟨c3, c5, c4⟩) (fun x g => ⟨sm_wI (sm_wI g 127 0 (I3 (pt 0))) 127 1 (I3 w), agr_trans (st127 g (k := 0) (by decide) _).2 (st127 _ (k := 1) (by decide) _).2, fun i hi => by
          rcases (show i = 0 ∨ i = 1 by omega) with rfl | rfl <;> rfl, (bind_id _).trans (fin2 z5 w5 x g)⟩)
    · rw [show F_190 (I3 (base + 1)) 5 (I3 pc) h = _ from c1, show F_433 (I3 (pt 1)) 5 g = _ from c2]; simp only [obs]
      rw [if_pos trivial]
      obtain ⟨g3, d1, d2⟩ := dead h2 g2 e (TB_of c3) c4
      rw [d1]
      exact PO_fail (TB_of c3) c4 rfl rfl d2
  · rw [decide_eq_false c] at B203 ⊢
    obtain ⟨h2, g2, f1, f2, f3, f4⟩ := ck458f K nf wh
    rw [show F_458 (b2 false) g = some (0, g2) from f2]; simp only [obs]
    rw [if_pos trivial]
    obtain ⟨g3, d1, d2⟩ := dead h2 g2 7 (TB_of f3) f4
    rw [d1]
    exact PO_fail (TB_of f3) f4 (CP_f B203 f1) rfl d2
theorem do_11 (K : K1 h g) (S : SCO nm kd h g) (nf : NF h g) (wh : g.1 67 106 = I3 pc) (st : STK h base 3 pt) (ok : ∀ i, i < 3 → pt i < nH g ∧ hpl g (pt i) = kd) (fr : FRM g k 13 ex 3 pt) : PO base h g pc (CP 11 ex (I3 base) (I3 pc) h) (F_460 (I3 k) g) kd := by
  have h12 := K.1.2.1
  obtain ⟨o1, o2⟩ := ok 0 (by omega)
  obtain ⟨p1, p2⟩ := ok 1 (by omega)
  obtain ⟨s1, s2⟩ := ok 2 (by omega)
  obtain ⟨q, q1, q2⟩ := rs_k K o1
  rw [F460 fr]
  unfold F_460_74
  rw [ld122 fr, ld119 fr]; simp only [obs]
  rw [if_neg (by decide), if_neg (by decide), if_neg (by decide), if_neg (by decide), if_neg (by decide), if_neg (by decide), if_neg (by decide), if_neg (by decide), if_neg (by decide), if_neg (by decide), if_neg (by decide), if_neg (by decide), if_pos trivial, show pO 3 pt 0 = I3 (pt 0) from rfl, show pO 3 pt 1 = I3 (pt 1) from rfl, show pO 3 pt 2 = I3 (pt 2) from rfl, R_rs K o1, q1]; simp only [obs]
  rw [R_isRow (by omega)]; simp only [obs]
  have B203 := C_row3 K (by decide) st ok q1 q2 (x1 := 11) (by decide) ex
  have dead : ∀ (h2 g2 : sm_H) (e : Nat) (u v : Int32), TB base h g h2 g2 → FT e pc h2 g2 → ∃ g3, F_460_601 (I3 (pt 0)) u v g2 = some (-1, g3) ∧ agr Sdd g2 g3 := fun h2 g2 e u v t f4 => by
    unfold F_460_601
    rw [R_rs t.k (t.nH o1)]; simp only [obs]
    rw [dd430 (FT_ne f4)]; simp only [obs]
    obtain ⟨g3, b1, b2'⟩ := dd438 (sm_wI g2 67 3 0) (I3 (pt 0)) u v
    rw [b1]
    exact ⟨g3, rfl, agr_trans (ag3 g2) (ag127 b2')⟩
  by_cases c : 15 ≤ q ∧ q ≤ 17
  · rw [decide_eq_true c] at B203 ⊢
    rw [show F_458 (b2 true) g = some (1, g) from ck458t g]; simp only [obs]
    rw [if_neg (by decide), CP_t B203 (by decide)]
    have C0 : F_202 11 ex (I3 base) (I3 pc) h = F_202_0 11 ex (I3 base) (I3 pc) h := rfl
    unfold F_202_0 F_202_267 F_202_268 F_202_292 at C0
    rw [show F_189 (I3 base) h = some (hrs g (pt 0), h) from C_189 K st (i := 0) (by omega) o1, q1] at C0; simp only [obs] at C0
    rw [if_neg (by decide), if_neg (by decide), if_neg (by decide), if_neg (by decide), if_neg (by decide), if_neg (by decide), if_neg (by decide), if_pos trivial, show I3 base + 1 = I3 (base + 1) from I3_add base 1, show I3 base + 2 = I3 (base + 2) from I3_add base 2] at C0
    simp only [if_true, show ¬ ((1 : Int32) = 0) by decide, if_false] at C0
    rw [C0]
    rcases pass1 K S nf (i := 1) wh st (by omega) p1 p2 (k := 5) (by omega) with ⟨w, h2, g2, c1, c2, c3, c4, c5, c6, c7, c8⟩ | ⟨e, h2, g2, c1, c2, c3, c4⟩
    · rw [show F_190 (I3 (base + 1)) 5 (I3 pc) h = _ from c1, show F_433 (I3 (pt 1)) 5 g = _ from c2]; simp only [obs]
      have T := TB_mono (Nat.le_add_right base 1) c7
      have r2 : hrs g2 (pt 0) = I3 q := (T.hrs K o1).trans q1
      unfold F_460_575
      rw [if_neg (by decide), C_elem c.1 c.2, if_neg (h_m1 T.k c3), R_rs T.k (T.nH o1), r2]; simp only [obs]
      rw [R_elem g2 c.1 c.2]; simp only [obs]
      have u2 : updN pt 1 w 2 = pt 2 := rfl
      rcases pass1 T.k (SCO_TB S T) c8 (i := 2) (pc := pc) (wh_TB wh T) c6 (by omega) (by rw [u2]; exact T.nH s1) (by rw [u2, T.hpl K s1]; exact s2) (k := q - 10) (by omega) with ⟨v, h3, g3, d1, d2, d3, d4, d5, d6, d7, d8⟩ | ⟨e, h3, g3, d1, d2, d3, d4⟩
      · rw [u2] at d2
        rw [d1, d2]; simp only [obs]
        rw [if_neg (by decide), bind_id]
        have T2 := TB_trans T (TB_mono (Nat.le_add_right base 2) d7)
        have r3 : hrs g3 (pt 0) = I3 q := (T2.hrs K o1).trans q1
        refine PO_tr T2 ?_
        unfold F_460_601
        rw [R_rs T2.k (T2.nH o1), r3]; simp only [obs]
        have z5 := lt500 K o1
        have w5 := lt500 T.k c3
        have v5 := lt500 T2.k d3
        exact plain (m := 3) (f := 23) T2.k (SCO_TB S T2) d8 (wh_TB wh T2) d6 (by decide) (by decide) (ex_F5 (fun _ => rfl) (by decide) (I3 q) 0 0) (ck_row (TK0 T2.k) rfl c.1 c.2 (Or.inr (Or.inr (Or.inr rfl))) 0 0) rfl (fun i hi => by
          rcases (show i = 0 ∨ i = 1 ∨ i = 2 by omega) with rfl | rfl | rfl
          · exact ⟨T2.nH o1, (T2.hpl K o1).trans o2, r3⟩
          · exact ⟨d7.nH c3, (d7.hpl T.k c3).trans c5, (d7.hrs T.k c3).trans c4⟩
          · exact ⟨d3, d5, d4⟩) (fun x g => ⟨sm_wI (sm_wI (sm_wI g 127 0 (I3 (pt 0))) 127 1 (I3 w)) 127 2 (I3 v), agr_trans (agr_trans (st127 g (k := 0) (by decide) _).2 (st127 _ (k := 1) (by decide) _).2) (st127 _ (k := 2) (by decide) _).2, fun i hi => by
            rcases (show i = 0 ∨ i = 1 ∨ i = 2 by omega) with rfl | rfl | rfl <;> rfl, (bind_id _).trans (fin3 z5 w5 v5 x g)⟩)
      · rw [u2] at d2
        rw [d1, d2]; simp only [obs]
        rw [if_pos trivial]
        obtain ⟨g4, b1, b2'⟩ := dead h3 g3 e (I3 w) (-1) (TB_trans T (TB_of d3)) d4
        rw [b1]
        exact PO_fail (TB_trans T (TB_of d3)) d4 rfl rfl b2'
    · rw [show F_190 (I3 (base + 1)) 5 (I3 pc) h = _ from c1, show F_433 (I3 (pt 1)) 5 g = _ from c2]; simp only [obs]
      unfold F_460_575
      rw [if_pos trivial, if_pos rfl]
      obtain ⟨g3, d1, d2⟩ := dead h2 g2 e (-1) (-1) (TB_of c3) c4
      rw [d1]
      exact PO_fail (TB_of c3) c4 rfl rfl d2
  · rw [decide_eq_false c] at B203 ⊢
    obtain ⟨h2, g2, f1, f2, f3, f4⟩ := ck458f K nf wh
    rw [show F_458 (b2 false) g = some (0, g2) from f2]; simp only [obs]
    unfold F_460_575
    rw [if_pos trivial, if_pos rfl]
    obtain ⟨g3, d1, d2⟩ := dead h2 g2 7 (-1) (-1) (TB_of f3) f4
    rw [d1]
    exact PO_fail (TB_of f3) f4 (CP_f B203 f1) rfl d2
theorem do_14 (K : K1 h g) (S : SCO nm kd h g) (nf : NF h g) (wh : g.1 67 106 = I3 pc) (st : STK h base 1 pt) (ok : ∀ i, i < 1 → pt i < nH g ∧ hpl g (pt i) = kd) {x : Nat} (hx : x < 20 + nC g) (fr : FRM g k 16 (I3 x) 1 pt) : PO base h g pc (CP 14 (I3 x) (I3 base) (I3 pc) h) (F_460 (I3 k) g) kd := by
  have h12 := K.1.2.1
  obtain ⟨o1, o2⟩ := ok 0 (by omega)
  obtain ⟨q, q1, q2⟩ := rs_k K o1
  rw [F460 fr]
  unfold F_460_74
  rw [ld122 fr, ld119 fr]; simp only [obs]
  rw [if_neg (by decide), if_neg (by decide), if_neg (by decide), if_neg (by decide), if_neg (by decide), if_neg (by decide), if_neg (by decide), if_neg (by decide), if_neg (by decide), if_neg (by decide), if_neg (by decide), if_neg (by decide), if_neg (by decide), if_neg (by decide), if_neg (by decide), if_pos trivial, show pO 1 pt 0 = I3 (pt 0) from rfl, R_rs K o1, q1]; simp only [obs]
  rw [R_below19 K.1 q2]; simp only [obs]
  have B203 : F_203 14 (I3 x) (I3 base) h = some (b2 (B g q 19), h) := by
    show F_203_0 14 (I3 x) (I3 base) h = _
    unfold F_203_0
    rw [if_neg (by decide), if_neg (by decide), if_neg (by decide), if_neg (by decide), if_neg (by decide), if_neg (by decide), if_pos rfl, show F_189 (I3 base) h = some (hrs g (pt 0), h) from C_189 K st (i := 0) (by omega) o1, q1]; simp only [obs]
    rw [show F_60 (I3 q) 19 h = some (b2 (B g q 19), h) from C_belowN K.1 K.2.1 q2 (y := 19) (by omega)]; simp only [obs]
    cases B g q 19 <;> rfl
  cases c : B g q 19 with
  | true =>
    rw [c] at B203
    rw [show F_458 (b2 true) g = some (1, g) from ck458t g]; simp only [obs]
    rw [if_neg (by decide), CP_t B203 (by decide), R_rs K o1, q1]; simp only [obs]
    have C0 : F_202 14 (I3 x) (I3 base) (I3 pc) h = F_202_0 14 (I3 x) (I3 base) (I3 pc) h := rfl
    unfold F_202_0 at C0
    rw [show F_189 (I3 base) h = some (hrs g (pt 0), h) from C_189 K st (i := 0) (by omega) o1, q1] at C0; simp only [obs] at C0
    rw [if_neg (by decide), if_neg (by decide), if_neg (by decide), if_neg (by decide), if_neg (by decide), if_neg (by decide), if_neg (by decide), if_neg (by decide), if_neg (by decide), if_neg (by decide), if_pos trivial, bind_id] at C0
    rw [C0]
    have p5 := lt500 K o1
    exact plain (m := 1) (f := 19) K S nf wh st (by decide) (by decide) (ex_F5 (fun _ => rfl) (by decide) (I3 x) (I3 q) 0) (ck_19 (TK0 K) rfl hx q2 c 0) rfl (fun i hi => by
      have e : i = 0 := by omega
      subst e
      exact ⟨o1, o2, q1⟩) (fun x g => ⟨sm_wI g 127 0 (I3 (pt 0)), (st127 g (k := 0) (by decide) _).2, fun i hi => by
        have e : i = 0 := by omega
        subst e; rfl, (bind_id _).trans (fin1 p5 x g)⟩)
  | false =>
    rw [c] at B203
    obtain ⟨h2, g2, f1, f2, f3, f4⟩ := ck458f K nf wh
    rw [show F_458 (b2 false) g = some (0, g2) from f2]; simp only [obs]
    rw [if_pos trivial]
    exact PO_fail (TB_of f3) f4 (CP_f B203 f1) rfl agr_rfl
theorem folded0 (K : K1 h g) (nf : NF h g) (wh : g.1 67 106 = I3 pc) {x y : Nat} (x1 : x < nH g) (y1 : y < nH g) (ex : hpl g x = kd) (ey : hpl g y = kd) (ry : hrs g y = 0) : MkO h g pc (F_206 (I3 x) (I3 y) (I3 pc) h) (F_432 8 0 (I3 x) (I3 y) g) (hrs g x) kd := by
  have gn : gone (hrs g y) = 0 := gone_0 ry
  have el : (hpl g x).take 0 ++ (hpl g x).drop (0 + gone (hrs g y)) = kd := by rw [gn, ex]; rfl
  obtain ⟨h1, c1, c2⟩ := foldMk K nf (n := 0) wh x1 y1 (by rw [gn]; omega) (fun z => absurd ry z) (by rw [el, ey]; exact pre_rfl _) el
  have C0 : F_206 (I3 x) (I3 y) (I3 pc) h = F_206_0 (I3 x) (I3 y) (I3 pc) h := rfl
  unfold F_206_0 F_206_40 at C0
  rw [c1] at C0; simp only [obs] at C0
  rcases c2 with ⟨z, h2, g2, q1, q2, q3, q4, q5, q6, q7⟩ | ⟨w', h2, h3, g3, w0, q1, q2, q3, q4, q5⟩
  · rw [show F_5 8 0 0 0 56 h1 = _ from q1] at C0; simp only [obs] at C0
    rw [if_pos (h_ge q6.k q3)] at C0
    exact Or.inl ⟨z, h2, g2, C0, q2, q3, q4, q5, q6, q7⟩
  · rw [show F_5 8 0 0 0 56 h1 = _ from q1] at C0; simp only [obs] at C0
    rw [if_neg (Int32.not_le.mpr w0), q2] at C0
    exact Or.inr ⟨8, h3, g3, C0, q3, q4, q5⟩
theorem r432 (a b x : Int32) (g : sm_H) : F_432 a b x (-1) g = some (-1, g) := by
  show F_432_0 a b x (-1) g = _
  unfold F_432_0 F_432_11
  rw [if_pos (show (-1 : Int32) = -1 from rfl), ite_self]
theorem do_2 (K : K1 h g) (S : SCO nm kd h g) (nf : NF h g) (wh : g.1 67 106 = I3 pc) (st : STK h base 2 pt) (ok : ∀ i, i < 2 → pt i < nH g ∧ hpl g (pt i) = kd) (fr : FRM g k 4 ex 2 pt) : PO base h g pc (CP 2 ex (I3 base) (I3 pc) h) (F_460 (I3 k) g) kd := by
  obtain ⟨o1, o2⟩ := ok 0 (by omega)
  obtain ⟨p1, p2⟩ := ok 1 (by omega)
  rw [F460 fr]
  unfold F_460_74
  rw [ld122 fr, ld119 fr]; simp only [obs]
  rw [if_neg (by decide), if_neg (by decide), if_neg (by decide), if_pos trivial, show pO 2 pt 0 = I3 (pt 0) from rfl, show pO 2 pt 1 = I3 (pt 1) from rfl, CP_t (by rfl) (by decide)]
  have C0 : F_202 2 ex (I3 base) (I3 pc) h = F_202_0 2 ex (I3 base) (I3 pc) h := rfl
  unfold F_202_0 F_202_113 at C0
  rw [show F_189 (I3 base) h = some (hrs g (pt 0), h) from C_189 K st (i := 0) (by omega) o1] at C0; simp only [obs] at C0
  rw [if_pos trivial] at C0
  rw [C0]
  rcases pass1 K S nf (i := 0) wh st (by omega) o1 o2 (k := 0) (by omega) with ⟨z, h1, g1, a1, a2, a3, a4, a5, a6, a7, a8⟩ | ⟨e, h1, g1, a1, a2, a3, a4⟩
  · rw [show F_190 (I3 base) 0 (I3 pc) h = some (1, h1) from a1, show F_433 (I3 (pt 0)) 0 g = some (I3 z, g1) from a2]; simp only [obs]
    rw [if_neg (by decide), show I3 base + 1 = I3 (base + 1) from I3_add base 1, STK_at a6 (i := 1) (by omega)]; simp only [obs]
    rw [show F_187 (I3 base) h1 = some (I3 z, h1) from STK_at a6 (i := 0) (by omega)]; simp only [obs]
    rw [bind_id, bind_id, show updN pt 0 z 1 = pt 1 from rfl]
    exact PO_tr a7 (PO_of (folded0 a7.k a8 (wh_TB wh a7) (a7.nH p1) a3 ((a7.hpl K p1).trans p2) a5 a4))
  · rw [show F_190 (I3 base) 0 (I3 pc) h = some (0, h1) from a1, show F_433 (I3 (pt 0)) 0 g = some (-1, g1) from a2]; simp only [obs]
    rw [if_pos trivial, r432]
    exact PO_fail (TB_of a3) a4 rfl rfl agr_rfl
end
