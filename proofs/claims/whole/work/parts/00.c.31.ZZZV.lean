def PO (b0 : Nat) (h g : sm_H) (pc : Nat) (rc rr : Option (Int32 × sm_H)) (kd : List Int32) : Prop :=
  (∃ y h1 g1, rc = some (I3 y, h1) ∧ rr = some (I3 y, g1) ∧ y < nH g1 ∧ hpl g1 y = kd ∧ TB b0 h g h1 g1 ∧ NF h1 g1) ∨ ∃ e h1 g1, rc = some (-1, h1) ∧ rr = some (-1, g1) ∧ TB b0 h g h1 g1 ∧ FT e pc h1 g1
theorem PO_of {b0 : Nat} {h g : sm_H} {pc : Nat} {rc rr : Option (Int32 × sm_H)} {r : Int32} {kd : List Int32} (m : MkO h g pc rc rr r kd) : PO b0 h g pc rc rr kd := by
  rcases m with ⟨y, h1, g1, a1, a2, a3, a4, a5, a6, a7⟩ | ⟨e, h1, g1, a1, a2, a3, a4⟩
  · exact Or.inl ⟨y, h1, g1, a1, a2, a3, a5, TB_of a6, a7⟩
  · exact Or.inr ⟨e, h1, g1, a1, a2, TB_of a3, a4⟩
theorem PO_tr {b0 : Nat} {h g h' g' : sm_H} {pc : Nat} {rc rr : Option (Int32 × sm_H)} {kd : List Int32} (t : TB b0 h g h' g') (p : PO b0 h' g' pc rc rr kd) : PO b0 h g pc rc rr kd := by
  rcases p with ⟨y, h1, g1, a1, a2, a3, a5, a6, a7⟩ | ⟨e, h1, g1, a1, a2, a3, a4⟩
  · exact Or.inl ⟨y, h1, g1, a1, a2, a3, a5, TB_trans t a6, a7⟩
  · exact Or.inr ⟨e, h1, g1, a1, a2, TB_trans t a3, a4⟩
theorem TB_mono {b0 b1 : Nat} (hb : b0 ≤ b1) {h g h1 g1 : sm_H} (t : TB b1 h g h1 g1) : TB b0 h g h1 g1 := ⟨t.1, t.2.1, t.2.2.1, agr_mono (fun b j z => by
  rcases z with z | ⟨z1, z2⟩
  · exact Or.inl z
  · exact Or.inr ⟨z1, Nat.le_trans hb z2⟩) t.2.2.2.1, t.2.2.2.2⟩
abbrev S127 (b _j : Nat) : Prop := 127 ≤ b ∧ b ≤ 129
abbrev Sdd (b j : Nat) : Prop := SRp b j ∨ S127 b j
theorem TB_dd {b0 : Nat} {h g h1 g1 g2 : sm_H} (t : TB b0 h g h1 g1) (a : agr Sdd g1 g2) : TB b0 h g h1 g2 := by
  have nr : ∀ b j, Sdd b j → notR b j := fun b j z => by
    rcases z with z | z
    · exact SRp_not b j z
    · rcases (show b = 127 ∨ b = 128 ∨ b = 129 by unfold S127 at z; omega) with rfl | rfl | rfl <;> rfl
  have E := ext_eq (ok_of_not nr a)
  exact TB_trans t ⟨K1_g t.k (agr_mono nr a), E.1, E.2.1, agr_rfl, agr_mono (fun b j z => by
    rcases z with z | z
    · exact Or.inl (Or.inl (Or.inl z))
    · exact Or.inr z) a⟩
theorem FT_dd {e pc : Nat} {h1 g1 g2 : sm_H} (f : FT e pc h1 g1) (a : agr Sdd g1 g2) : FT e pc h1 g2 := ⟨f.1, f.2.1, (a.1 67 77 (by unfold Sdd S127 SRp; omega)).trans f.2.2.1, (a.1 67 78 (by unfold Sdd S127 SRp; omega)).trans f.2.2.2.1, f.2.2.2.2.1, f.2.2.2.2.2⟩
theorem FT_ne {e pc : Nat} {h g : sm_H} (f : FT e pc h g) : ¬ g.1 67 77 = 0 := by
  obtain ⟨-, -, f3, -, f5, f6⟩ := f
  rw [f3, I3_lit, I3_inj (by omega) (by decide)]; omega
theorem NF_dd {h1 g1 g2 : sm_H} (f : NF h1 g1) (a : agr Sdd g1 g2) : NF h1 g2 := ⟨f.1, (a.1 67 77 (by unfold Sdd S127 SRp; omega)).trans f.2⟩
theorem PO_fail {b0 : Nat} {h g h1 g1 g2 : sm_H} {e pc : Nat} {rc rr : Option (Int32 × sm_H)} {kd : List Int32} (t : TB b0 h g h1 g1) (f : FT e pc h1 g1) (c : rc = some (-1, h1)) (r : rr = some (-1, g2)) (a : agr Sdd g1 g2) : PO b0 h g pc rc rr kd := Or.inr ⟨e, h1, g2, c, r, TB_dd t a, FT_dd f a⟩
section
variable {g : sm_H} (f : ¬ g.1 67 77 = 0)
theorem dd433 (f : ¬ g.1 67 77 = 0) (x k : Int32) : F_433 x k g = some (-1, g) := by
  show F_433_0 x k g = _
  unfold F_433_0
  rw [if_neg f]; rfl
theorem dd429 (f : ¬ g.1 67 77 = 0) (a b d : Int32) (c : Int64) : F_429 a b d c g = some (-1, g) := by
  show F_429_0 a b d c g = _
  unfold F_429_0
  rw [if_neg f]
theorem dd430 (f : ¬ g.1 67 77 = 0) (a b d : Int32) (c : Int64) : F_430 a b d c g = some (-1, sm_wI g 67 3 0) := by
  show F_430_0 a b d c g = _
  unfold F_430_0
  simp only [obs]
  rw [show F_429 a b d c (sm_wI g 67 3 0) = some (-1, sm_wI g 67 3 0) from dd429 (g := sm_wI g 67 3 0) f a b d c]; rfl
end
theorem st127 (g : sm_H) {k : Nat} (hk : k < 8) (x : Int32) : stI g 127 8 (I3 k) x = some (sm_wI g 127 k x) ∧ agr S127 g (sm_wI g 127 k x) := ⟨stI_I hk (by decide), agr_wI agr_rfl (by unfold S127; omega)⟩
theorem ap434 (g : sm_H) (m : Int32) : F_434 (-1) m g = some (-1, g) := by
  show F_434_0 (-1) m g = _
  unfold F_434_0
  rw [if_pos rfl]; rfl
theorem fin0 (x : Int32) (g : sm_H) : F_435 x g = F_434 x 0 g := bind_id _
theorem fin1 {y : Nat} (hy : y < 500) (x : Int32) (g : sm_H) : F_436 x (I3 y) g = F_434 x 1 (sm_wI g 127 0 (I3 y)) := by
  show F_436_0 x (I3 y) g = _
  unfold F_436_0 F_436_22
  rw [show stI g 127 8 0 (I3 y) = some (sm_wI g 127 0 (I3 y)) from (st127 g (k := 0) (by decide) _).1]; simp only [obs]
  rw [if_neg (m1_l hy (Nat.le_refl _)), bind_id]
theorem fin2 {y z : Nat} (hy : y < 500) (hz : z < 500) (x : Int32) (g : sm_H) : F_437 x (I3 y) (I3 z) g = F_434 x 2 (sm_wI (sm_wI g 127 0 (I3 y)) 127 1 (I3 z)) := by
  show F_437_0 x (I3 y) (I3 z) g = _
  unfold F_437_0 F_437_34
  rw [show stI g 127 8 0 (I3 y) = some (sm_wI g 127 0 (I3 y)) from (st127 g (k := 0) (by decide) _).1]; simp only [obs]
  rw [show stI (sm_wI g 127 0 (I3 y)) 127 8 1 (I3 z) = some (sm_wI (sm_wI g 127 0 (I3 y)) 127 1 (I3 z)) from (st127 _ (k := 1) (by decide) _).1]; simp only [obs]
  rw [if_neg (m1_l hy (Nat.le_refl _)), if_neg (m1_l hz (Nat.le_refl _)), bind_id]
theorem fin3 {y z w : Nat} (hy : y < 500) (hz : z < 500) (hw : w < 500) (x : Int32) (g : sm_H) : F_438 x (I3 y) (I3 z) (I3 w) g = F_434 x 3 (sm_wI (sm_wI (sm_wI g 127 0 (I3 y)) 127 1 (I3 z)) 127 2 (I3 w)) := by
  show F_438_0 x (I3 y) (I3 z) (I3 w) g = _
  unfold F_438_0 F_438_48
  rw [show stI g 127 8 0 (I3 y) = some (sm_wI g 127 0 (I3 y)) from (st127 g (k := 0) (by decide) _).1]; simp only [obs]
  rw [show stI (sm_wI g 127 0 (I3 y)) 127 8 1 (I3 z) = some (sm_wI (sm_wI g 127 0 (I3 y)) 127 1 (I3 z)) from (st127 _ (k := 1) (by decide) _).1]; simp only [obs]
  rw [show stI (sm_wI (sm_wI g 127 0 (I3 y)) 127 1 (I3 z)) 127 8 2 (I3 w) = some (sm_wI (sm_wI (sm_wI g 127 0 (I3 y)) 127 1 (I3 z)) 127 2 (I3 w)) from (st127 _ (k := 2) (by decide) _).1]; simp only [obs]
  rw [if_neg (m1_l hy (Nat.le_refl _)), if_neg (m1_l hz (Nat.le_refl _)), if_neg (m1_l hw (Nat.le_refl _)), bind_id]
theorem dd436 (g : sm_H) (y : Int32) : ∃ g2, F_436 (-1) y g = some (-1, g2) ∧ agr S127 g g2 := by
  refine ⟨_, ?_, (st127 g (k := 0) (by decide) y).2⟩
  show F_436_0 (-1) y g = _
  unfold F_436_0 F_436_22
  rw [show stI g 127 8 0 y = some (sm_wI g 127 0 y) from (st127 g (k := 0) (by decide) _).1]; simp only [obs]
  by_cases q : y = -1
  · rw [if_pos q]
  · rw [if_neg q, ap434]; rfl
theorem dd437 (g : sm_H) (y z : Int32) : ∃ g2, F_437 (-1) y z g = some (-1, g2) ∧ agr S127 g g2 := by
  refine ⟨_, ?_, agr_trans (st127 g (k := 0) (by decide) y).2 (st127 (sm_wI g 127 0 y) (k := 1) (by decide) z).2⟩
  show F_437_0 (-1) y z g = _
  unfold F_437_0 F_437_24 F_437_34
  rw [show stI g 127 8 0 y = some (sm_wI g 127 0 y) from (st127 g (k := 0) (by decide) _).1]; simp only [obs]
  rw [show stI (sm_wI g 127 0 y) 127 8 1 z = some (sm_wI (sm_wI g 127 0 y) 127 1 z) from (st127 _ (k := 1) (by decide) _).1]; simp only [obs]
  rw [ap434]; simp only [obs]
  rw [ite_self, ite_self]
theorem dd438 (g : sm_H) (y z w : Int32) : ∃ g2, F_438 (-1) y z w g = some (-1, g2) ∧ agr S127 g g2 := by
  refine ⟨_, ?_, agr_trans (agr_trans (st127 g (k := 0) (by decide) y).2 (st127 (sm_wI g 127 0 y) (k := 1) (by decide) z).2) (st127 (sm_wI (sm_wI g 127 0 y) 127 1 z) (k := 2) (by decide) w).2⟩
  show F_438_0 (-1) y z w g = _
  unfold F_438_0 F_438_38 F_438_48
  rw [show stI g 127 8 0 y = some (sm_wI g 127 0 y) from (st127 g (k := 0) (by decide) _).1]; simp only [obs]
  rw [show stI (sm_wI g 127 0 y) 127 8 1 z = some (sm_wI (sm_wI g 127 0 y) 127 1 z) from (st127 _ (k := 1) (by decide) _).1]; simp only [obs]
  rw [show stI (sm_wI (sm_wI g 127 0 y) 127 1 z) 127 8 2 w = some (sm_wI (sm_wI (sm_wI g 127 0 y) 127 1 z) 127 2 w) from (st127 _ (k := 2) (by decide) _).1]; simp only [obs]
  rw [ap434]; simp only [obs]
  rw [ite_self, ite_self, ite_self]
theorem ag3 (g : sm_H) : agr Sdd g (sm_wI g 67 3 0) := agr_wI agr_rfl (by unfold Sdd SRp; omega)
theorem ag127 {g g1 : sm_H} (a : agr S127 g g1) : agr Sdd g g1 := agr_mono (fun _ _ z => Or.inr z) a
theorem plain {h g : sm_H} {nm : Nat → Int64} {kd l : List Int32} {r : Int32} (K : K1 h g) (S : SCO nm kd h g) (nf : NF h g) {pc base m b0 f : Nat} {pt : Nat → Nat} (wh : g.1 67 106 = I3 pc) (st : STK h base m pt) (m8 : m ≤ 8) (uf : f = 0 ∨ f = 2 ∨ f = 3 ∨ f = 4 ∨ f = 5 ∨ f = 8 ∨ f = 12 ∨ f = 13 ∨ f = 14 ∨ f = 15 ∨ f = 18 ∨ f = 19 ∨ f = 20 ∨ f = 21 ∨ f = 22 ∨ f = 23 ∨ f = 29 ∨ f = 31 ∨ f = 32 ∨ f = 33 ∨ f = 34) {a b : Int32} {c : Int64} (ec : ∀ h, F_5 (I3 f) a b (-1) 56 h = F_5 (I3 f) a b c 56 h) (ck : Ck (sm_wI (sm_wI g 67 3 0) 67 19 0) f a b c r l) (lm : l.length = m) (ok : ∀ i, i < m → pt i < nH g ∧ hpl g (pt i) = kd ∧ hrs g (pt i) = at0 l i) {fin : Int32 → sm_H → Option (Int32 × sm_H)}
    (hfin : ∀ x g, ∃ g', agr S127 g g' ∧ (∀ i, i < m → g'.1 127 i = I3 (pt i)) ∧ fin x g = F_434 x (I3 m) g') : PO b0 h g pc (F_191 (I3 f) a b (I3 base) (I3 m) (I3 pc) h) ((F_430 (I3 f) a b c g).bind fun q => fin q.1 q.2) kd := by
  have R : hasL (sm_wI h 56 1 0) 56 57 [] := ⟨rfl, by decide, fun k hk => by cases hk⟩
  have a1 : agr S56 h (sm_wI h 56 1 0) := agr_wI agr_rfl (Or.inl ⟨rfl, rfl⟩)
  have P : prR (sm_wI g 67 3 0) [] := ⟨rfl, by decide, fun k hk => by cases hk⟩
  have a2 : agr SRp g (sm_wI g 67 3 0) := agr_wI agr_rfl (by unfold SRp; omega)
  have T0 := TK_par (TK_row (TK_rfl K) a1) a2
  have n0 := NF_par (NF_row nf a1) a2
  have M := mkForm T0.k n0 (wh_TK wh T0) a b c R P uf (by omega) ck
  have C0 : F_191 (I3 f) a b (I3 base) (I3 m) (I3 pc) h = (F_5 (I3 f) a b c 56 (sm_wI h 56 1 0)).bind fun q2 => F_192 q2.1 (I3 base) (I3 m) (I3 pc) q2.2 := by
    show F_191_0 (I3 f) a b (I3 base) (I3 m) (I3 pc) h = _
    unfold F_191_0
    rw [show F_138 56 h = some (sm_wI h 56 1 0) from rfl]; simp only [obs]
    rw [ec]
    cases F_5 (I3 f) a b c 56 (sm_wI h 56 1 0) with
    | none => rfl
    | some q => exact bind_id _
  have R0 : ((F_430 (I3 f) a b c g).bind fun q => fin q.1 q.2) = (F_429 (I3 f) a b c (sm_wI g 67 3 0)).bind fun q => fin q.1 q.2 := by
    rw [show F_430 (I3 f) a b c g = F_429 (I3 f) a b c (sm_wI g 67 3 0) from bind_id _]
  rw [C0, R0]
  rcases M with ⟨y, h1, g1, m1, m2, m3, m4, m5, m6, m7⟩ | ⟨w', h1, h2, g2, w0, m1, m2, m3, m4, m5⟩
  · rw [m1, m2]; simp only [obs]
    obtain ⟨g', f1, f2, f3⟩ := hfin (I3 y) g1
    rw [f3]
    have T1 := TK_trans T0 m6
    have T2 : TB b0 h g h1 g' := TB_127 (TB_of T1) f1
    have n2 : NF h1 g' := NF_127 m7 f1
    have e1 : ext g1 g' := (TB_127 (TB_of (b0 := b0) (TK_rfl T1.k)) f1).e
    have y' : y < nH g' := (TB_127 (TB_of (b0 := b0) (TK_rfl T1.k)) f1).nH m3
    have hy : hpl g' y = l := (ext_hpl T1.k.2.2.2.2.1 e1 m3).trans m5
    have A := applied T2.k (SCO_TB S T2) n2 (wh_TB wh T2) y' (STK_TK st T1) (by rw [hy]; exact lm) m8 f2 (fun i hi => ⟨T2.nH (ok i hi).1, (T2.hpl K (ok i hi).1).trans (ok i hi).2.1, by rw [hy, T2.hrs K (ok i hi).1]; exact (ok i hi).2.2⟩)
    exact PO_tr T2 (PO_of A)
  · rw [m1, m3]; simp only [obs]
    obtain ⟨g', f1, f2, f3⟩ := hfin (-1) g2
    rw [f3, ap434]
    refine PO_fail (TB_of (TK_trans T0 m4)) m5 ?_ rfl (ag127 f1)
    show F_192_0 w' (I3 base) (I3 m) (I3 pc) h1 = _
    unfold F_192_0
    rw [if_neg (Int32.not_le.mpr w0), m2]; rfl
