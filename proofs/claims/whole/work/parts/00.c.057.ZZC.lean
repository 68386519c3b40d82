theorem C_rat1 {h : sm_H} {o p : Nat} {ps : List Int32} (w : isRw o p) (r : hasL h o p ps) {k : Nat} (hk : k < 100) : F_137 o (I3 k) h = some (at1 ps k, h) := by
  by_cases q : k < ps.length
  · rw [C_rat w r q, at1_in q]
  · rw [C_rat_o w r (by rw [inR_I (by omega)]; exact decide_eq_false q), at1_out (by omega)]
abbrev S34 (b _j : Nat) : Prop := b = 34
theorem hasL34 {h h1 : sm_H} {o p : Nat} {ps : List Int32} (op : oP o p) (r : hasL h o p ps) (a : agr S34 h h1) : hasL h1 o p ps := hasL_agr r a (fun j => by unfold S34; unfold oP at op; omega)
theorem C_set {h : sm_H} {f : Nat} {v a b : Int32} {c : Int64} {o p : Nat} {ps : List Int32} (w : isRw o p) (op : oP o p) (r : hasL h o p ps) (hf : f < 35) (t : ∀ h, sm_ldI G0 h 1000000 (I3 f) = some v) {va vb vc : Bool} (ea : (v &&& 1 = 0) = (va = false)) (eb : (v &&& 2 = 0) = (vb = false)) (ec : (v &&& 4 = 0) = (vc = false)) :
    ∃ h', F_5 (I3 f) a b c o h = tl h' ∧ fS h' (I3 f) (bif va then a else 0) (bif vb then b else 0) (bif vc then c else 0) o p ps ∧ agr S34 h h' := by
  have key : ∀ (h0 : sm_H) (z : Int64), agr S34 h h0 → ∃ h', F_5_82 o z h0 = tl h' ∧ agr S34 h h' ∧ h'.2.1 34 10 = z ∧ sm_rr G0 h' 34 11 = some o ∧ h'.1 34 12 = at1 ps 0 ∧ h'.1 34 13 = at1 ps 1 ∧ h'.1 34 14 = at1 ps 2 ∧ h'.1 34 7 = h0.1 34 7 ∧ h'.1 34 8 = h0.1 34 8 ∧ h'.1 34 9 = h0.1 34 9 := fun h0 z a0 => by
    have a1 : agr S34 h (sm_wR (sm_wJ h0 34 10 z) 34 11 (some o)) := agr_wR (agr_wJ a0 rfl) rfl
    have a2 : agr S34 h (sm_wI (sm_wR (sm_wJ h0 34 10 z) 34 11 (some o)) 34 12 (at1 ps 0)) := agr_wI a1 rfl
    have a3 : agr S34 h (sm_wI (sm_wI (sm_wR (sm_wJ h0 34 10 z) 34 11 (some o)) 34 12 (at1 ps 0)) 34 13 (at1 ps 1)) := agr_wI a2 rfl
    refine ⟨sm_wI (sm_wI (sm_wI (sm_wR (sm_wJ h0 34 10 z) 34 11 (some o)) 34 12 (at1 ps 0)) 34 13 (at1 ps 1)) 34 14 (at1 ps 2), ?_, agr_wI a3 rfl, rfl, rfl, rfl, rfl, rfl, rfl, rfl, rfl⟩
    unfold F_5_82
    simp only [obs]
    rw [if_neg (not_not_intro (w.i _)), show F_137 o 0 _ = _ from C_rat1 w (hasL34 op r a1) (k := 0) (by decide)]; simp only [obs]
    rw [if_neg (not_not_intro (w.i _)), show F_137 o 1 _ = _ from C_rat1 w (hasL34 op r a2) (k := 1) (by decide)]; simp only [obs]
    rw [if_neg (not_not_intro (w.i _)), show F_137 o 2 _ = _ from C_rat1 w (hasL34 op r a3) (k := 2) (by decide)]; simp only [obs]
    unfold tl
    rfl
  obtain ⟨h', k1, k2, k3, k4, k5, k6, k7, k8, k9, k10⟩ := key (sm_wI (sm_wI (sm_wI h 34 7 (I3 f)) 34 8 (bif va then a else 0)) 34 9 (bif vb then b else 0)) (bif vc then c else 0) (agr_wI (agr_wI (agr_wI agr_rfl rfl) rfl) rfl)
  refine ⟨h', ?_, ⟨k8, k9, k10, k3, k4, k5, k6, k7, w, hasL34 op r k2⟩, k2⟩
  rw [← k1]
  show F_5_0 (I3 f) a b c o h = _
  unfold F_5_0
  rw [if_neg (I3_nn (by omega)), show sm_al G0 h 1000000 = some (I3 35) from rfl]; simp only [obs]
  rw [if_neg (by rw [I3_le (by decide) (by omega)]; omega), show sm_al G0 h 1000001 = some (I3 35) from rfl]; simp only [obs]
  rw [if_pos (by rw [I3_lt (by omega) (by decide)]; exact hf), t]; simp only [obs]
  unfold F_5_43 F_5_62
  simp only [obs, t]
  simp only [ea, eb, ec]
  cases va <;> cases vb <;> cases vc <;> rfl
theorem neg1sub {y : Nat} (hy : y < 1000) : (-1 - I3 y : Int32).toInt = -1 - (y : Int) := by
  rw [Int32.toInt_sub, I3_toInt (by omega), show (-1 : Int32).toInt = -1 from rfl]
  rw [Int.bmod_eq_of_le] <;> omega
theorem sub2 {y : Nat} (hy : y < 1000) : (-1 - (-1 - I3 y) : Int32) = I3 y := by
  rw [← Int32.toInt_inj, Int32.toInt_sub, neg1sub hy, I3_toInt (by omega), show (-1 : Int32).toInt = -1 from rfl]
  rw [Int.bmod_eq_of_le] <;> omega
theorem ext_19 (g : sm_H) (x : Int32) : ext g (sm_wI g 67 19 x) := by
  obtain ⟨c1, c2, c3, c4, c5, c6, c7, c8, c9, c10, c11⟩ := ext_rfl (g := g)
  exact ⟨c1, c2, c3, c4, c5, c6, c7, c8, c9, c10, c11⟩
theorem grow_19 (g : sm_H) (x : Int32) : grow g (sm_wI g 67 19 x) := by
  obtain ⟨c1, c2, c3, c4, c5⟩ := grow_rfl (g := g)
  exact ⟨c1, c2, c3, c4, c5⟩
abbrev SCb (b j : Nat) : Prop := Ssc b j ∨ SCh b j
abbrev SRb (b j : Nat) : Prop := SRp b j ∨ SRh b j
def bOut (g1 : sm_H) (v w' : Int32) : Prop := (∃ e, 1 ≤ e ∧ e ≤ 5 ∧ w' = -I3 e ∧ v = -1 ∧ g1.1 67 19 = I3 e) ∨ ∃ y, y < nH g1 ∧ w' = I3 y ∧ v = I3 y ∧ g1.1 67 19 = 0
theorem buildF {h g : sm_H} (K : K1 h g) {f : Nat} {tv a b : Int32} {c : Int64} {o p : Nat} {ps : List Int32} (w : isRw o p) (op : oP o p) (r : hasL h o p ps) (P : prR g ps) (hf : f < 35) (t : ∀ h, sm_ldI G0 h 1000000 (I3 f) = some tv) {va vb vc : Bool} (ea : (tv &&& 1 = 0) = (va = false)) (eb : (tv &&& 2 = 0) = (vb = false)) (ec : (tv &&& 4 = 0) = (vc = false)) (rA : ∀ g, F_337 (I3 f) g = some (b2 va, g)) (rB : ∀ g, F_338 (I3 f) g = some (b2 vb, g)) (rC : vc = decide (f = 0 ∨ f = 6))
    (mk : ∀ h' g', K1 h' g' → fS h' (I3 f) (bif va then a else 0) (bif vb then b else 0) (bif vc then c else 0) o p ps → prR g' ps → ∃ out, OC h' (I3 f) (bif va then a else 0) (bif vb then b else 0) (bif vc then c else 0) out ∧ OR g' (I3 f) a b c out ∧ OK g' f (bif va then a else 0) (bif vb then b else 0) (bif vc then c else 0) out) :
    ∃ v w' h1 g1, F_5 (I3 f) a b c o h = some (w', h1) ∧ F_341 (I3 f) a b c g = some (v, g1) ∧ K1 h1 g1 ∧ ext g g1 ∧ grow g g1 ∧ agr SCb h h1 ∧ agr SRb g g1 ∧ bOut g1 v w' := by
  obtain ⟨h', c1, c2, c3⟩ := C_set (a := a) (b := b) (c := c) w op r hf t ea eb ec
  have a3 : agr Ssc h h' := agr_mono (fun b' j z => Or.inr (by unfold S34 at z; omega)) c3
  have K' : K1 h' (sm_wI g 67 19 0) := K1_19 (K1_h K (agr_mono Ssc_not a3)) 0
  have P' : prR (sm_wI g 67 19 0) ps := P
  have ag0 : agr SRb g (sm_wI g 67 19 0) := agr_wI agr_rfl (Or.inr (Or.inr (Or.inl ⟨rfl, Or.inr rfl⟩)))
  have E0 := ext_19 g 0
  have G0' := grow_19 g 0
  obtain ⟨out, o1, o2, o3⟩ := mk h' (sm_wI g 67 19 0) K' c2 P'
  have start : ∀ q, F_336 (I3 f) a b c (sm_wI g 67 19 0) = some q → F_341 (I3 f) a b c g = F_341_28 (I3 f) a b c q.1 q.2 := fun q hq => by
    show F_341_0 (I3 f) a b c g = _
    unfold F_341_0
    simp only [obs]
    rw [if_neg (I3_nn (by omega)), if_pos (by rw [I3_lit, I3_le (by omega) (by decide)]; omega), hq]; simp only [obs]
  rcases out with e | y | ⟨r, l, ps', o', p'⟩
  · obtain ⟨h1, x1, x2⟩ := o1
    obtain ⟨g1, y1, y2⟩ := o2
    have e3 : 1 ≤ e ∧ e ≤ 3 := o3
    have st := start _ y1
    have E1 := ext_eq (okR_SRp y2)
    have E2 := ext_19 g1 (I3 e)
    have G2 := grow_19 g1 (I3 e)
    refine ⟨-1, -I3 e, h1, sm_wI g1 67 19 (I3 e), c1.trans x1, ?_, K1_19 (K1_g (K1_h K' (agr_mono Ssc_not x2)) (agr_mono SRp_not y2)) _, ext_trans E0 (ext_trans E1.1 E2), grow_trans G0' (grow_trans E1.2.1 G2), agr_mono (fun _ _ z => Or.inl z) (agr_trans a3 x2), agr_wI (agr_trans ag0 (agr_mono (fun _ _ z => Or.inl z) y2)) (Or.inr (Or.inr (Or.inl ⟨rfl, Or.inr rfl⟩))), Or.inl ⟨e, e3.1, by omega, rfl, rfl, rfl⟩⟩
    rw [st]
    unfold F_341_28
    rw [if_neg (by rw [I3_lit, I3_le (by omega) (by decide)]; omega)]; simp only [obs]
  · obtain ⟨h1, x1, x2⟩ := o1
    obtain ⟨g1, y1, y2⟩ := o2
    have e3 : y < nH (sm_wI g 67 19 0) := o3
    have w500 : nH (sm_wI g 67 19 0) ≤ 500 := K'.2.2.2.2.1.1.2
    have st := start _ y1
    have E1 := ext_eq (okR_SRp y2)
    have nh : nH g1 = nH (sm_wI g 67 19 0) := by show tn _ = tn _; rw [y2.1 67 18 (by unfold SRp; omega)]
    refine ⟨I3 y, I3 y, h1, g1, c1.trans x1, ?_, K1_g (K1_h K' (agr_mono Ssc_not x2)) (agr_mono SRp_not y2), ext_trans E0 E1.1, grow_trans G0' E1.2.1, agr_mono (fun _ _ z => Or.inl z) (agr_trans a3 x2), agr_trans ag0 (agr_mono (fun _ _ z => Or.inl z) y2), Or.inr ⟨y, by omega, rfl, rfl, by rw [y2.1 67 19 (by unfold SRp; omega)]; rfl⟩⟩
    rw [st]
    unfold F_341_28
    clear E0 G0' E1
    have n1 := neg1sub (y := y) (by omega)
    have z0 : (0 : Int32).toInt = 0 := rfl
    rw [if_pos (by rw [Int32.le_iff_toInt_le, n1, z0]; omega), if_neg (by rw [Int32.le_iff_toInt_le, n1, z0]; omega), sub2 (by omega)]
  · obtain ⟨h1, x1, x2, x3, x4, x5, x6⟩ := o1
    obtain ⟨g1, y1, y2, y3, y4, y5⟩ := o2
    obtain ⟨z1, z2, z3, z4⟩ := (o3 : FS _ f _ _ _ ps' r l ∧ kR1 _ r ∧ kL _ l ∧ l.length ≤ 64)
    have st := start _ y1
    have E1 := ext_eq (okR_SRp y5)
    have K2 : K1 h1 g1 := K1_g (K1_h K' (agr_mono Ssc_not x6)) (agr_mono SRp_not y5)
    have bK := K'
    have nC1 : nC g1 = nC (sm_wI g 67 19 0) := by show tn _ = tn _; rw [y5.1 67 6 (by unfold SRp; omega)]
    have FS1 : FS g1 f (bif va then a else 0) (bif vb then b else 0) (bif vc then c else 0) ps' r l := FS_up (K1_base K') (fun k hk => by
      have := (K1_base K2).g k (by show k < tn _; rw [y5.1 67 35 (by unfold SRp; omega)]; exact hk)
      exact this) E1.1 z1
    have kr : kR1 g1 r := by obtain ⟨q, q1, q2⟩ := z2; exact ⟨q, q1, by rw [nC1]; exact q2⟩
    have kl : kL g1 l := fun i hi => by obtain ⟨q, q1, q2, q3⟩ := z3 i hi; exact ⟨q, q1, q2, by rw [nC1]; exact q3⟩
    obtain ⟨v, w', h2, g2, m1, m2, m3, m4, m5, m6, m7, m8⟩ := MH K2 x4 (by omega) (by omega) x3 y4 x2 y2 y3 z4 kr kl FS1
    refine ⟨v, w', h2, g2, ?_, ?_, m3, ext_trans E0 (ext_trans E1.1 m4), grow_trans G0' (grow_trans E1.2.1 m5), agr_trans (agr_mono (fun _ _ z => Or.inl z) (agr_trans a3 x6)) (agr_mono (fun _ _ z => Or.inr z) m6), agr_trans ag0 (agr_trans (agr_mono (fun _ _ z => Or.inl z) y5) (agr_mono (fun _ _ z => Or.inr z) m7)), ?_⟩
    · rw [c1, x1, m1]; rfl
    · rw [st]
      unfold F_341_28
      rw [if_pos (show (0 : Int32) ≤ 0 by decide), if_pos (show (0 : Int32) ≤ 0 by decide)]
      have go : ∀ vq : Bool, (bif vq then c else 0) = (bif vc then c else 0) → F_341_68 (I3 f) a b c (b2 vq) g1 = some (v, g2) := fun vq hq => by
        have m2' : F_341_107 (I3 f) (bif va then a else 0) (bif vb then b else 0) (bif vq then c else 0) g1 = some (v, g2) := by
          unfold F_341_107; rw [hq, m2]; rfl
        unfold F_341_68 F_341_84 F_341_96
        rw [rA]; simp only [obs]
        rw [rB]; simp only [obs]
        cases va <;> cases vb <;> cases vq <;> exact m2'
      unfold F_341_63
      by_cases q0 : f = 0
      · rw [if_pos (show I3 f = (0 : Int32) from congrArg I3 q0)]
        exact go true (by rw [rC, decide_eq_true (Or.inl q0)])
      · rw [if_neg (by rw [I3_lit, I3_inj (by omega) (by decide)]; exact q0)]
        by_cases q6 : f = 6
        · rw [if_pos (show I3 f = (6 : Int32) from congrArg I3 q6)]
          exact go true (by rw [rC, decide_eq_true (Or.inr q6)])
        · rw [if_neg (by rw [I3_lit, I3_inj (by omega) (by decide)]; exact q6)]
          exact go false (by rw [rC, decide_eq_false (by omega)])
    · rcases m8 with ⟨e, e1, e2, e3, e4⟩ | ⟨y, q1, q2, q3, q4⟩
      · exact Or.inl ⟨e, by omega, by omega, e2, e3, e4⟩
      · exact Or.inr ⟨y, q1, q2, q3, by rw [q4, y5.1 67 19 (by unfold SRp; omega)]; rfl⟩
theorem build {h g : sm_H} (K : K1 h g) (x a b : Int32) (c : Int64) {o p : Nat} {ps : List Int32} (w : isRw o p) (op : oP o p) (ne : o ≠ 35) (r : hasL h o p ps) (P : prR g ps) :
    ∃ v w' h1 g1, F_5 x a b c o h = some (w', h1) ∧ F_341 x a b c g = some (v, g1) ∧ K1 h1 g1 ∧ ext g g1 ∧ grow g g1 ∧ agr SCb h h1 ∧ agr SRb g g1 ∧ bOut g1 v w' := by
  have no : F_5 x a b c o h = some (-1, h) → F_341 x a b c g = F_341_28 x a b c 1 (sm_wI g 67 19 0) → ∃ v w' h1 g1, F_5 x a b c o h = some (w', h1) ∧ F_341 x a b c g = some (v, g1) ∧ K1 h1 g1 ∧ ext g g1 ∧ grow g g1 ∧ agr SCb h h1 ∧ agr SRb g g1 ∧ bOut g1 v w' := fun z1 z2 => by
    refine ⟨-1, -1, h, sm_wI (sm_wI g 67 19 0) 67 19 1, z1, ?_, K1_19 (K1_19 K 0) 1, ext_trans (ext_19 g 0) (ext_19 _ 1), grow_trans (grow_19 g 0) (grow_19 _ 1), agr_rfl, agr_wI (agr_wI agr_rfl (Or.inr (Or.inr (Or.inl ⟨rfl, Or.inr rfl⟩)))) (Or.inr (Or.inr (Or.inl ⟨rfl, Or.inr rfl⟩))), Or.inl ⟨1, by decide, by decide, rfl, rfl, rfl⟩⟩
    rw [z2]
    unfold F_341_28
    rw [if_neg (by decide)]; simp only [obs]
  rcases I3_cases x with ⟨f, f1, rfl⟩ | q
  · by_cases hf : f < 35
    · rcases (show f = 0 ∨ f = 1 ∨ f = 2 ∨ f = 3 ∨ f = 4 ∨ f = 5 ∨ f = 6 ∨ f = 7 ∨ f = 8 ∨ f = 9 ∨ f = 10 ∨ f = 11 ∨ f = 12 ∨ f = 13 ∨ f = 14 ∨ f = 15 ∨ f = 16 ∨ f = 17 ∨ f = 18 ∨ f = 19 ∨ f = 20 ∨ f = 21 ∨ f = 22 ∨ f = 23 ∨ f = 24 ∨ f = 25 ∨ f = 26 ∨ f = 27 ∨ f = 28 ∨ f = 29 ∨ f = 30 ∨ f = 31 ∨ f = 32 ∨ f = 33 ∨ f = 34 by omega) with rfl | rfl | rfl | rfl | rfl | rfl | rfl | rfl | rfl | rfl | rfl | rfl | rfl | rfl | rfl | rfl | rfl | rfl | rfl | rfl | rfl | rfl | rfl | rfl | rfl | rfl | rfl | rfl | rfl | rfl | rfl | rfl | rfl | rfl | rfl
      · exact buildF K w op r P (by decide) (va := true) (vb := false) (vc := true) (fun _ => rfl) (by decide) (by decide) (by decide) (fun _ => rfl) (fun _ => rfl) (by decide) (fun h' g' K' S' P' => mk_0 K' a b c S' op P')
      · exact buildF K w op r P (by decide) (va := false) (vb := false) (vc := false) (fun _ => rfl) (by decide) (by decide) (by decide) (fun _ => rfl) (fun _ => rfl) (by decide) (fun h' g' K' S' P' => mk_1 K' a b c S' op P')
      · exact buildF K w op r P (by decide) (va := true) (vb := false) (vc := false) (fun _ => rfl) (by decide) (by decide) (by decide) (fun _ => rfl) (fun _ => rfl) (by decide) (fun h' g' K' S' P' => mk_2 K' S' op P' b c)
      · exact buildF K w op r P (by decide) (va := true) (vb := true) (vc := false) (fun _ => rfl) (by decide) (by decide) (by decide) (fun _ => rfl) (fun _ => rfl) (by decide) (fun h' g' K' S' P' => mk_3 K' S' op P' c)
      · exact buildF K w op r P (by decide) (va := true) (vb := true) (vc := false) (fun _ => rfl) (by decide) (by decide) (by decide) (fun _ => rfl) (fun _ => rfl) (by decide) (fun h' g' K' S' P' => mk_4 K' a b c S' op P')
      · exact buildF K w op r P (by decide) (va := false) (vb := true) (vc := false) (fun _ => rfl) (by decide) (by decide) (by decide) (fun _ => rfl) (fun _ => rfl) (by decide) (fun h' g' K' S' P' => mk_5 K' a b c S' op ne P')
      · exact buildF K w op r P (by decide) (va := true) (vb := false) (vc := true) (fun _ => rfl) (by decide) (by decide) (by decide) (fun _ => rfl) (fun _ => rfl) (by decide) (fun h' g' K' S' P' => mk_6 K' a b c S' op P')
      · exact buildF K w op r P (by decide) (va := true) (vb := false) (vc := false) (fun _ => rfl) (by decide) (by decide) (by decide) (fun _ => rfl) (fun _ => rfl) (by decide) (fun h' g' K' S' P' => mk_7 K' a b c S' op P')
      · exact buildF K w op r P (by decide) (va := true) (vb := false) (vc := false) (fun _ => rfl) (by decide) (by decide) (by decide) (fun _ => rfl) (fun _ => rfl) (by decide) (fun h' g' K' S' P' => mk_8 K' a b c S' op P')
      · exact buildF K w op r P (by decide) (va := false) (vb := false) (vc := false) (fun _ => rfl) (by decide) (by decide) (by decide) (fun _ => rfl) (fun _ => rfl) (by decide) (fun h' g' K' S' P' => mk_9 K' a b c S' op P')
      · exact buildF K w op r P (by decide) (va := true) (vb := true) (vc := false) (fun _ => rfl) (by decide) (by decide) (by decide) (fun _ => rfl) (fun _ => rfl) (by decide) (fun h' g' K' S' P' => mk_10 K' a b c S' op P')
      · exact buildF K w op r P (by decide) (va := false) (vb := true) (vc := false) (fun _ => rfl) (by decide) (by decide) (by decide) (fun _ => rfl) (fun _ => rfl) (by decide) (fun h' g' K' S' P' => mk_11 K' a b c S' op P')
      · exact buildF K w op r P (by decide) (va := false) (vb := true) (vc := false) (fun _ => rfl) (by decide) (by decide) (by decide) (fun _ => rfl) (fun _ => rfl) (by decide) (fun h' g' K' S' P' => mk_12 K' a b c S' op P')
      · exact buildF K w op r P (by decide) (va := false) (vb := true) (vc := false) (fun _ => rfl) (by decide) (by decide) (by decide) (fun _ => rfl) (fun _ => rfl) (by decide) (fun h' g' K' S' P' => mk_13 K' a b c S' op P')
      · exact buildF K w op r P (by decide) (va := false) (vb := false) (vc := false) (fun _ => rfl) (by decide) (by decide) (by decide) (fun _ => rfl) (fun _ => rfl) (by decide) (fun h' g' K' S' P' => mk_14 K' a b c S' op P')
      · exact buildF K w op r P (by decide) (va := true) (vb := false) (vc := false) (fun _ => rfl) (by decide) (by decide) (by decide) (fun _ => rfl) (fun _ => rfl) (by decide) (fun h' g' K' S' P' => mk_15 K' a b c S' op P')
      · exact buildF K w op r P (by decide) (va := false) (vb := false) (vc := false) (fun _ => rfl) (by decide) (by decide) (by decide) (fun _ => rfl) (fun _ => rfl) (by decide) (fun h' g' K' S' P' => mk_16 K' a b c S' op P')
      · exact buildF K w op r P (by decide) (va := false) (vb := false) (vc := false) (fun _ => rfl) (by decide) (by decide) (by decide) (fun _ => rfl) (fun _ => rfl) (by decide) (fun h' g' K' S' P' => mk_17 K' a b c S' op P')
      · exact buildF K w op r P (by decide) (va := false) (vb := true) (vc := false) (fun _ => rfl) (by decide) (by decide) (by decide) (fun _ => rfl) (fun _ => rfl) (by decide) (fun h' g' K' S' P' => mk_18 K' a b c S' op P')
      · exact buildF K w op r P (by decide) (va := true) (vb := true) (vc := false) (fun _ => rfl) (by decide) (by decide) (by decide) (fun _ => rfl) (fun _ => rfl) (by decide) (fun h' g' K' S' P' => mk_19 K' a b c S' op P')
      · exact buildF K w op r P (by decide) (va := true) (vb := false) (vc := false) (fun _ => rfl) (by decide) (by decide) (by decide) (fun _ => rfl) (fun _ => rfl) (by decide) (fun h' g' K' S' P' => mk_20 K' S' op P' b c)
      · exact buildF K w op r P (by decide) (va := true) (vb := false) (vc := false) (fun _ => rfl) (by decide) (by decide) (by decide) (fun _ => rfl) (fun _ => rfl) (by decide) (fun h' g' K' S' P' => mk_21 K' S' op P' b c)
      · exact buildF K w op r P (by decide) (va := true) (vb := false) (vc := false) (fun _ => rfl) (by decide) (by decide) (by decide) (fun _ => rfl) (fun _ => rfl) (by decide) (fun h' g' K' S' P' => mk_22 K' S' op P' b c)
      · exact buildF K w op r P (by decide) (va := true) (vb := false) (vc := false) (fun _ => rfl) (by decide) (by decide) (by decide) (fun _ => rfl) (fun _ => rfl) (by decide) (fun h' g' K' S' P' => mk_23 K' S' op P' b c)
      · exact buildF K w op r P (by decide) (va := true) (vb := false) (vc := false) (fun _ => rfl) (by decide) (by decide) (by decide) (fun _ => rfl) (fun _ => rfl) (by decide) (fun h' g' K' S' P' => mk_24 K' S' op P' b c)
      · exact buildF K w op r P (by decide) (va := true) (vb := false) (vc := false) (fun _ => rfl) (by decide) (by decide) (by decide) (fun _ => rfl) (fun _ => rfl) (by decide) (fun h' g' K' S' P' => mk_25 K' S' op P' b c)
      · exact buildF K w op r P (by decide) (va := true) (vb := false) (vc := false) (fun _ => rfl) (by decide) (by decide) (by decide) (fun _ => rfl) (fun _ => rfl) (by decide) (fun h' g' K' S' P' => mk_26 K' S' op P' b c)
      · exact buildF K w op r P (by decide) (va := false) (vb := true) (vc := false) (fun _ => rfl) (by decide) (by decide) (by decide) (fun _ => rfl) (fun _ => rfl) (by decide) (fun h' g' K' S' P' => mk_27 K' a b c S' op P')
      · exact buildF K w op r P (by decide) (va := false) (vb := true) (vc := false) (fun _ => rfl) (by decide) (by decide) (by decide) (fun _ => rfl) (fun _ => rfl) (by decide) (fun h' g' K' S' P' => mk_28 K' a b c S' op P')
      · exact buildF K w op r P (by decide) (va := true) (vb := false) (vc := false) (fun _ => rfl) (by decide) (by decide) (by decide) (fun _ => rfl) (fun _ => rfl) (by decide) (fun h' g' K' S' P' => mk_29 K' a b c S' op P')
      · exact buildF K w op r P (by decide) (va := true) (vb := false) (vc := false) (fun _ => rfl) (by decide) (by decide) (by decide) (fun _ => rfl) (fun _ => rfl) (by decide) (fun h' g' K' S' P' => mk_30 K' a b c S' op P')
      · exact buildF K w op r P (by decide) (va := true) (vb := false) (vc := false) (fun _ => rfl) (by decide) (by decide) (by decide) (fun _ => rfl) (fun _ => rfl) (by decide) (fun h' g' K' S' P' => mk_31 K' a b c S' op P')
      · exact buildF K w op r P (by decide) (va := false) (vb := false) (vc := false) (fun _ => rfl) (by decide) (by decide) (by decide) (fun _ => rfl) (fun _ => rfl) (by decide) (fun h' g' K' S' P' => mk_32 K' a b c S' op P')
      · exact buildF K w op r P (by decide) (va := false) (vb := false) (vc := false) (fun _ => rfl) (by decide) (by decide) (by decide) (fun _ => rfl) (fun _ => rfl) (by decide) (fun h' g' K' S' P' => mk_33 K' a b c S' op P')
      · exact buildF K w op r P (by decide) (va := false) (vb := true) (vc := false) (fun _ => rfl) (by decide) (by decide) (by decide) (fun _ => rfl) (fun _ => rfl) (by decide) (fun h' g' K' S' P' => mk_34 K' a b c S' op P')
    · refine no ?_ ?_
      · show F_5_0 (I3 f) a b c o h = _
        unfold F_5_0 F_5_20
        rw [if_neg (I3_nn (by omega)), show sm_al G0 h 1000000 = some (I3 35) from rfl]; simp only [obs]
        rw [if_pos (by rw [I3_le (by decide) (by omega)]; omega)]
      · show F_341_0 (I3 f) a b c g = _
        unfold F_341_0 F_341_15
        simp only [obs]
        rw [if_neg (I3_nn (by omega)), if_neg (by rw [I3_lit, I3_le (by omega) (by decide)]; omega)]
  · refine no ?_ ?_
    · show F_5_0 x a b c o h = _
      unfold F_5_0 F_5_20
      rw [if_pos q]
    · show F_341_0 x a b c g = _
      unfold F_341_0 F_341_15
      simp only [obs]
      rw [if_pos q]
