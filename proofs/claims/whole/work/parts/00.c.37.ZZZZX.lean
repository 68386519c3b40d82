theorem I3_surj (x : Int32) : ∃ k, x = I3 k := ⟨x.toBitVec.toNat, by
  unfold I3
  exact Int32.toBitVec_inj.mp (by rw [Int32.toBitVec_ofNat', BitVec.ofNat_toNat, BitVec.setWidth_eq])⟩
theorem tgAdd {h g : sm_H} (K : K1 h g) {a : Nat} (ha : a < nH g) (n8 : nG g < 80) : K1 (sm_wI (sm_wI h 32 (nG g) (I3 a)) 21 8 (I3 (nG g + 1))) (sm_wI (sm_wI g 92 (nG g) (I3 a)) 67 35 (I3 (nG g + 1))) ∧ ext g (sm_wI (sm_wI g 92 (nG g) (I3 a)) 67 35 (I3 (nG g + 1))) ∧ grow g (sm_wI (sm_wI g 92 (nG g) (I3 a)) 67 35 (I3 (nG g + 1))) := by
  have B0 := K1_base K
  obtain ⟨wK, cK, wT, cT, wH, cH, wM, cM, cG, cO, cV, wX, cX, cXh, wF⟩ := K
  obtain ⟨r1, ⟨r2, r3⟩, r4, r5⟩ := cG
  have w500 : nH g ≤ 500 := wH.1.2
  have r5 : ∀ k, k < tn (g.1 67 35) → ∃ a, a < nH g ∧ g.1 92 k = I3 a := r5
  have e92 : ∀ k, k < nG g → (sm_wI (sm_wI g 92 (nG g) (I3 a)) 67 35 (I3 (nG g + 1))).1 92 k = g.1 92 k := fun k hk => if_neg (by omega)
  have nn : nG g ≤ nG (sm_wI (sm_wI g 92 (nG g) (I3 a)) 67 35 (I3 (nG g + 1))) := by
    show nG g ≤ (I3 (nG g + 1)).toNatClampNeg
    rw [I3_clamp (by omega)]; omega
  have EE : ext g (sm_wI (sm_wI g 92 (nG g) (I3 a)) 67 35 (I3 (nG g + 1))) := ⟨Nat.le_refl _, fun _ _ => rfl, Nat.le_refl _, fun _ _ => rfl, ⟨Nat.le_refl _, fun _ _ => ⟨rfl, rfl, fun _ _ => rfl⟩⟩, Nat.le_refl _, fun _ _ => rfl, nn, fun k hk => by rw [e92 k hk]; rfl, Nat.le_refl _, ⟨Nat.le_refl _, fun _ _ => ⟨rfl, rfl, rfl, rfl, rfl, rfl⟩⟩⟩
  refine ⟨⟨wK, cK, wT, cT, wH, cH, wM, cM, ⟨rfl, cnt_up (by omega) (by decide), fun k hk => ?_, fun k hk => ?_⟩, cO, cV, wX, cX, cXh_fr (by repeat first | exact hi_rfl | refine hi_wI ?_ (by decide) | refine hi_wJ ?_ (by decide)) cXh, wfF_ext B0 (fun k hk => by rw [e92 k hk]; exact B0.g k hk) EE ⟨rfl, fun _ _ => ⟨rfl, rfl, rfl, rfl, rfl⟩, fun _ _ _ _ => rfl⟩ ⟨rfl, fun _ _ => rfl⟩ wF⟩, EE, ⟨Nat.le_refl _, Nat.le_refl _, Nat.le_refl _, fun _ _ => rfl, fun _ _ => rfl⟩⟩
  · exact upd_eq (p := h.1 32) (q := g.1 92) (y := 0) (r4 k hk)
  · have hk : k < tn (I3 (nG g + 1)) := hk
    unfold tn at hk
    rw [I3_clamp (by omega)] at hk
    show ∃ b, b < nH g ∧ (if k = nG g then I3 a else g.1 92 k) = I3 b
    by_cases q : k = nG g
    · exact ⟨a, ha, if_pos q⟩
    · rw [if_neg q]; exact r5 k (by show k < nG g; omega)
theorem tgSet {h g : sm_H} (K : K1 h g) {a k0 : Nat} (ha : a < nH g) (hk0 : k0 < nG g) (et : ty g a = ty g (tn (g.1 92 k0))) : K1 (sm_wI h 32 k0 (I3 a)) (sm_wI g 92 k0 (I3 a)) ∧ ext g (sm_wI g 92 k0 (I3 a)) ∧ grow g (sm_wI g 92 k0 (I3 a)) := by
  have B0 := K1_base K
  obtain ⟨wK, cK, wT, cT, wH, cH, wM, cM, cG, cO, cV, wX, cX, cXh, wF⟩ := K
  obtain ⟨r1, ⟨r2, r3⟩, r4, r5⟩ := cG
  have w500 : nH g ≤ 500 := wH.1.2
  have e92 : ∀ k, (sm_wI g 92 k0 (I3 a)).1 92 k = if k = k0 then I3 a else g.1 92 k := fun k => rfl
  have tb : tn (I3 a) = a := I3_clamp (by omega)
  have EE : ext g (sm_wI g 92 k0 (I3 a)) := ⟨Nat.le_refl _, fun _ _ => rfl, Nat.le_refl _, fun _ _ => rfl, ⟨Nat.le_refl _, fun _ _ => ⟨rfl, rfl, fun _ _ => rfl⟩⟩, Nat.le_refl _, fun _ _ => rfl, Nat.le_refl _, fun k hk => by
    rw [e92]
    by_cases z : k = k0
    · rw [if_pos z, tb, z]; exact et
    · rw [if_neg z]; rfl, Nat.le_refl _, ⟨Nat.le_refl _, fun _ _ => ⟨rfl, rfl, rfl, rfl, rfl, rfl⟩⟩⟩
  refine ⟨⟨wK, cK, wT, cT, wH, cH, wM, cM, ⟨r1, ⟨r2, r3⟩, fun k hk => ?_, fun k hk => ?_⟩, cO, cV, wX, cX, cXh_fr (by repeat first | exact hi_rfl | refine hi_wI ?_ (by decide) | refine hi_wJ ?_ (by decide)) cXh, wfF_ext B0 (fun k hk => ?_) EE ⟨rfl, fun _ _ => ⟨rfl, rfl, rfl, rfl, rfl⟩, fun _ _ _ _ => rfl⟩ ⟨rfl, fun _ _ => rfl⟩ wF⟩, EE, ⟨Nat.le_refl _, Nat.le_refl _, Nat.le_refl _, fun _ _ => rfl, fun _ _ => rfl⟩⟩
  · exact upd_eq (p := h.1 32) (q := g.1 92) (y := 0) (r4 k hk)
  · show ∃ c, c < nH g ∧ (if k = k0 then I3 a else g.1 92 k) = I3 c
    by_cases q : k = k0
    · exact ⟨a, ha, if_pos q⟩
    · rw [if_neg q]; exact r5 k hk
  · rw [e92]
    by_cases z : k = k0
    · rw [if_pos z, tb]; exact ha
    · rw [if_neg z]; exact B0.g k hk
theorem mkFormR {h g : sm_H} (K : K1 h g) (nf : NF h g) {pc f : Nat} (wh : g.1 67 106 = I3 pc) (a b : Int32) (c : Int64) {ps : List Int32} (R : hasL h 56 57 ps) (P : prR g ps) (uf : f = 29 ∨ f = 34) {r : Int32} {l : List Int32} (l64 : l.length ≤ 64) (ck : Ck (sm_wI g 67 19 0) f a b c r l) :
    (∃ y h1 g1, F_5 (I3 f) a b c 56 h = some (I3 y, h1) ∧ F_429 (I3 f) a b c g = some (I3 y, g1) ∧ y < nH g1 ∧ hrs g1 y = r ∧ hpl g1 y = l ∧ TK h g h1 g1 ∧ NF h1 g1 ∧ agr SCb h h1) ∨ ∃ w' h1 h2 g2, w' < 0 ∧ F_5 (I3 f) a b c 56 h = some (w', h1) ∧ F_169 8 (I3 pc) h1 = some (-1, h2) ∧ F_429 (I3 f) a b c g = some (-1, g2) ∧ TK h g h2 g2 ∧ FT 8 pc h2 g2 := by
  obtain ⟨v, w', h1, g1, b1, b2', b3, b4, b5, b6, b7, b8⟩ := build2 (f := f) K a b c rw56 (Or.inr (Or.inl ⟨rfl, rfl⟩)) (by decide) R P (by omega) l64 ck
  have T : TK h g h1 g1 := TK_mk b3 b4 b5 (agr_mono (fun _ _ z => Or.inl z) b6) (agr_mono (fun _ _ z => Or.inl z) b7)
  have n1 : NF h1 g1 := NF_agr nf b6 b7 (by unfold SCb Ssc SCd SCh SCt; omega) (by unfold SRb SRp SRh SRt; omega)
  have w500 : nH g1 ≤ 500 := b3.2.2.2.2.1.1.2
  have R0 : F_429 (I3 f) a b c g = F_429_0 (I3 f) a b c g := rfl
  unfold F_429_0 F_429_42 F_429_50 at R0
  rw [if_pos nf.2, b2'] at R0; simp only [obs] at R0
  rcases b8 with ⟨e, e1, e2, rfl, rfl, e4⟩ | ⟨y, y1, rfl, rfl, y3, y4⟩
  · right
    obtain ⟨h2, g2, f1, f2, f3, f4⟩ := TK_fail T n1 (e := 8) (pc := pc) (by decide) (by decide)
    refine ⟨-I3 e, h1, h2, g2, ?_, b1, f1, ?_, f3, f4⟩
    · rcases (show e = 4 ∨ e = 5 by omega) with rfl | rfl <;> decide
    · rw [if_pos rfl, e4, if_neg (by rw [I3_lit, I3_le (by omega) (by decide)]; omega), show g1.1 67 106 = I3 pc from (b7.1 67 106 (by unfold SRb SRp SRh SRt; omega)).trans wh, show F_413 8 (I3 pc) g1 = some (0, g2) from f2] at R0
      exact R0
  · left
    rw [if_neg (I3_m1 (by omega))] at R0
    exact ⟨y, h1, g1, b1, R0, y1, y3, y4, T, n1, b6⟩
abbrev RCx (b j : Nat) : Prop := XCc 0 b j ∨ (b = 55 ∧ j = 15) ∨ b = 62 ∨ b = 63 ∨ (b = 21 ∧ j = 8) ∨ b = 32
abbrev RRx (b j : Nat) : Prop := XRc 0 b j ∨ (b = 67 ∧ (j = 91 ∨ j = 35)) ∨ b = 92 ∨ (113 ≤ b ∧ b ≤ 116) ∨ b = 130
def RT (h g h1 g1 : sm_H) : Prop := K1 h1 g1 ∧ ext g g1 ∧ grow g g1 ∧ agr RCx h h1 ∧ agr RRx g g1
section
variable {n : Nat} {bt : Nat → Nat} {nd o T j k m p f f0 nv : Nat} {h g h1 g1 h2 g2 : sm_H}
theorem RT_trans (a : RT h g h1 g1) (b : RT h1 g1 h2 g2) : RT h g h2 g2 := ⟨b.1, ext_trans a.2.1 b.2.1, grow_trans a.2.2.1 b.2.2.1, agr_trans a.2.2.2.1 b.2.2.2.1, agr_trans a.2.2.2.2 b.2.2.2.2⟩
theorem RT_XT (x : XT T k h g h1 g1) : RT h g h1 g1 := ⟨x.k1, x.e, x.r, agr_mono (fun b j z => Or.inl (XCc_s (Nat.zero_le _) b j z)) x.c, agr_mono (fun b j z => Or.inl (XRc_s (Nat.zero_le _) b j z)) x.a⟩
theorem RT_rfl (K : K1 h g) : RT h g h g := ⟨K, ext_rfl, grow_rfl, agr_rfl, agr_rfl⟩
abbrev TU (n : Nat) (bt : Nat → Nat) (k : Nat) (h g : sm_H) : Prop := TG (fun _ _ => True) n bt 0 k h g
theorem FT_e {e pc : Nat} (f : FT e pc h g) : 1 ≤ e ∧ e ≤ 9 := ⟨f.2.2.2.2.1, f.2.2.2.2.2⟩
def dRest (v : Int32) (x : Int64) (g : sm_H) : Option (Int32 × sm_H) := (F_424 1 g).bind fun q42 => if q42.1 = 0 then (some (0, q42.2))
  else ((some ((q42.2.1 67 105) : Int32)).bind fun v43 =>
  (some ((q42.2.1 67 91) : Int32)).bind fun v44 =>
  (F_464 v44 q42.2).bind fun q45 =>
  if q45.1 = 0 then (some (0, q45.2))
  else (F_465_174 v x v43 v44 0 q45.2))
def hK2 (v : Int32) (u : sm_H) : Option (Int32 × sm_H) := (F_443 (u.2.1 67 83) u).bind fun q39 =>
  if q39.1 = (-1) then (if (q39.2.1 67 91) = 60 then (F_465_118 q39.2)
  else ((some ((q39.2.2.1 67 83) : Int64)).bind fun v40 =>
  (F_420 q39.2).bind fun q41 => dRest v v40 q41))
  else (F_465_118 q39.2)
def hK1 (v : Int32) (u : sm_H) : Option (Int32 × sm_H) := (F_439 100 101 102 0 0 u).bind fun q36 =>
  if (lg_cmp (u.2.1 67 83) q36.1) = 0 then ((F_420 q36.2).bind fun q37 => refE 1 (hK2 v) q37)
  else (F_465_66 q36.2)
theorem F465e (g : sm_H) : F_465 g = if (sm_wI g 67 86 0).1 67 80 = 3 then ((F_425 (sm_wI g 67 86 0)).bind fun q34 => if q34.1 = 0 then some (0, q34.2) else refE 1 (hK1 ((sm_wI g 67 86 0).1 67 81)) q34.2) else ((F_421 (sm_wI g 67 86 0)).bind fun q47 => if q47.1 = 0 ∨ q47.1 = 1 then some (q47.1, q47.2) else none) := rfl
theorem TU_62 (s : TU n bt k h g) (i : Nat) (x : Int64) : TU n bt k (sm_wJ h 62 i x) g := ⟨by
    obtain ⟨wK, cK, wT, cT, wH, cH, wM, cM, cG, cO, cV, wX, cX, cXh, wF⟩ := s.K
    exact ⟨wK, cK, wT, cT, wH, cH, wM, cM, cG, cO, cV, wX, cX, cXh_fr (by repeat first | exact hi_rfl | refine hi_wI ?_ (by decide) | refine hi_wJ ?_ (by decide)) cXh, wF⟩, s.nf, trivial, s.t, s.b, s.xc, s.xr⟩
theorem hdrX (s : TU n bt k h g) (e16 : h.1 55 16 = I3 0) (D : DF nd h g) (lc : LXC n bt f h) (lr : LXR n bt f g) (fn : f ≤ n) (w0 : wrd n bt f ≠ 0) (w6 : wrd n bt f ≠ 6) :
    (∃ h1 g1 x f1, f < f1 ∧ F_177 h = some (1, h1) ∧ F_465 g = dRest (I3 f) x g1 ∧ TU n bt k h1 g1 ∧ OP 1 h1 g1 ∧ DF nd h1 g1 ∧ nd < 60 ∧ h1.2.1 62 nd = x ∧ CB n bt f1 h1 ∧ RB n bt f1 g1 ∧ RT h g h1 g1) ∨ ∃ e pc h1 g1, F_177 h = some (0, h1) ∧ F_465 g = some (0, g1) ∧ FT e pc h1 g1 ∧ XT 0 0 h g h1 g1 := by
  have w6' := wrd_6 n bt f
  have a0 : agr Srl g (sm_wI g 67 86 0) := agr_wI agr_rfl (Or.inr ⟨rfl, Or.inl rfl⟩)
  have X0 : ∀ T' k', XT T' k' h g h (sm_wI g 67 86 0) := fun T' k' => XT_y s.K agr_rfl a0
  have s0 : TU n bt k h (sm_wI g 67 86 0) := ⟨(X0 0 0).k1, s.nf, trivial, s.t, s.b, s.xc, s.xr⟩
  have p0 : OP 0 h (sm_wI g 67 86 0) := ⟨e16, rfl, by decide⟩
  have lr0 : LXR n bt f (sm_wI g 67 86 0) := lr
  have C0 : F_177 h = F_177_0 h := rfl
  unfold F_177_0 F_177_34 F_177_92 at C0
  rw [show F_242 h = some (h.1 52 4, h) from rfl, lc.2.1] at C0; simp only [obs] at C0
  have R0 := F465e g
  rw [show (sm_wI g 67 86 0).1 67 81 = I3 f from lr.2.1, show (sm_wI g 67 86 0).1 67 80 = I3 (rwd (wrd n bt f)) from lr.2.2.1] at R0
  generalize hg0 : sm_wI g 67 86 0 = g0 at *
  by_cases w1 : wrd n bt f = 1
  rotate_left
  · right
    obtain ⟨h2, g2, f1, f2, f3, f4⟩ := XT_fail s0 (T' := 0) (k' := 0) (e := 4) (f := f) (by decide) (by decide)
    refine ⟨4, f, h2, g2, ?_, ?_, f3, XT_trans (X0 0 0) f4⟩
    · rw [C0, if_neg (show ¬ I3 (wrd n bt f) = (1 : Int32) by rw [I3_lit, I3_inj (by omega) (by decide)]; exact w1), C_170 lc, show F_169 4 (I3 f) h = some (-1, h2) from f1]; rfl
    · rw [R0, if_neg (show ¬ I3 (rwd (wrd n bt f)) = (3 : Int32) by
        rw [show (3 : Int32) = I3 (rwd 1) from rfl, I3_inj (by have := rwd_5 (x := wrd n bt f) (by omega); omega) (by decide)]
        exact fun y => w1 (rwd_inj (by omega) (by omega) y)), f421 g0 lr0.2.1]
      exact f2
  rw [w1, if_pos (by decide)] at C0 R0
  rcases openS s0 p0 fn lc lr0 w1 with ⟨h1, g1, -, a1, a2, a3, a4, a5, a6, a7, a8, a9, a10⟩ | ⟨e', h1, g1, a1, a2, a3, a4⟩
  rotate_left
  · right
    rw [a1] at C0; simp only [obs] at C0; rw [if_pos trivial] at C0
    rw [a2] at R0; simp only [obs] at R0; rw [if_pos trivial] at R0
    exact ⟨e', _, h1, g1, C0, R0, a3, XT_trans (X0 0 0) (XT_mono (Nat.zero_le _) (Nat.zero_le _) a4)⟩
  rw [a1] at C0; simp only [obs] at C0; rw [if_neg (by decide)] at C0
  rw [a2] at R0; simp only [obs] at R0; rw [if_neg (by decide)] at R0
  have X01 : XT 0 0 h g h1 g1 := XT_trans (X0 0 0) (XT_mono (Nat.zero_le _) (Nat.zero_le _) a8)
  have fn1 := RB_n a6
  rcases expect (x := 4) (by decide) a3 a5 a6 with ⟨q, h2, g2, b1, b2', b3, b4, b5, b6, b7, b8⟩ | ⟨q, h2, g2, b1, b2', b3, b4⟩
  rotate_left
  · right
    rw [show F_172 4 h1 = some (0, h2) from b1] at C0; simp only [obs] at C0; rw [if_pos trivial] at C0
    refine ⟨_, _, h2, g2, C0, ?_, b3, XT_trans X01 (XT_mono (Nat.zero_le _) (Nat.zero_le _) b4)⟩
    rw [R0]
    exact b2' (hK1 (I3 f))
  rw [show F_172 4 h1 = some (1, h2) from b1] at C0; simp only [obs] at C0; rw [if_neg (by decide), show F_248 h2 = some (h2.2.1 52 10, h2) from rfl, b3.2.2.2.2.2.1 q] at C0; simp only [obs] at C0
  have R1 := R0.trans (b2' (hK1 (I3 f)))
  unfold hK1 at R1
  rw [show F_439 100 101 102 0 0 g2 = some (6579558, g2) from rfl, b4.2.2.2.2.2.1 q] at R1; simp only [obs] at R1
  have X02 : XT 0 0 h g h2 g2 := XT_trans X01 (XT_y a3.K (S52_Scl b6) (SLx_Srl b7))
  have ff1 : f < nx n bt f := a7
  by_cases dq : foldN bt (nx n bt f) (men n bt (nx n bt f) - nx n bt f) = 6579558
  rotate_left
  · right
    obtain ⟨h3, g3, f1, f2, f3, f4⟩ := XT_fail b5 (T' := 0) (k' := 0) (e := 4) (f := nx n bt f) (by decide) (by decide)
    rw [if_neg (fun z => dq (cmp_eq.mp z)), C_170 b3, show F_169 4 (I3 (nx n bt f)) h2 = some (-1, h3) from f1] at C0; simp only [obs] at C0
    rw [if_neg (fun z => dq (cmp_eq.mp z))] at R1
    unfold F_465_66 at R1
    rw [f421 g2 b4.2.1, show F_413 4 (I3 (nx n bt f)) g2 = some (0, g3) from f2] at R1
    exact ⟨4, _, h3, g3, C0, R1, f3, XT_trans X02 f4⟩
  rw [if_pos (cmp_eq.mpr dq)] at C0 R1
  obtain ⟨g3, t1, t2, t3, t4⟩ := take_R b5 fn1 b4
  rw [t1] at R1; simp only [obs] at R1
  have X03 : XT 0 0 h g h2 g3 := XT_trans X02 (XT_y b5.K agr_rfl (agr_mono (fun b j z => Or.inl ⟨z.1, by omega, by omega⟩) t4))
  have c2 : CB n bt (nx n bt (nx n bt f)) h2 := CB_nx fn1 b3 (by omega)
  have fn2 := RB_n t2
  have ff2 : nx n bt f < nx n bt (nx n bt f) := nx_gt fn1 (by omega) (by omega)
  rcases expect (x := 4) (by decide) t3 c2 t2 with ⟨q', h4, g4, d1, d2, d3, d4, d5, d6, d7, d8⟩ | ⟨q', h4, g4, d1, d2, d3, d4⟩
  rotate_left
  · right
    rw [show F_172 4 h2 = some (0, h4) from d1] at C0; simp only [obs] at C0; rw [if_pos trivial] at C0
    refine ⟨_, _, h4, g4, C0, ?_, d3, XT_trans X03 (XT_mono (Nat.zero_le _) (Nat.zero_le _) d4)⟩
    rw [R1]
    exact d2 (hK2 (I3 f))
  rw [show F_172 4 h2 = some (1, h4) from d1] at C0; simp only [obs] at C0; rw [if_neg (by decide)] at C0
  have R2 := R1.trans (d2 (hK2 (I3 f)))
  unfold hK2 at R2
  have X04 : XT 0 0 h g h4 g4 := XT_trans X03 (XT_y t3.K (S52_Scl d6) (SLx_Srl d7))
  have D4 : DF nd h4 g4 := DF_T s.K D X04
  have nd6 := D4.2.2.1
  have exh := d3.2.2.2.2.2.1 q'
  have exg := d4.2.2.2.2.2.1 q'
  generalize hx : foldN bt (nx n bt (nx n bt f)) (men n bt (nx n bt (nx n bt f)) - nx n bt (nx n bt f)) = x at exh exg
  rw [exg, R_443 D4] at R2; simp only [obs] at R2
  rw [D4.1] at C0
  have bad : F_177 h = ((F_170 6 h4).bind fun q1 => some (0, q1.2)) → F_465 g = F_465_118 g4 → ∃ e pc h1 g1, F_177 h = some (0, h1) ∧ F_465 g = some (0, g1) ∧ FT e pc h1 g1 ∧ XT 0 0 h g h1 g1 := fun x1 x2 => by
    obtain ⟨h5, g5, f1, f2, f3, f4⟩ := XT_fail d5 (T' := 0) (k' := 0) (e := 6) (f := nx n bt (nx n bt f)) (by decide) (by decide)
    unfold F_465_118 at x2
    rw [C_170 d3, show F_169 6 (I3 (nx n bt (nx n bt f))) h4 = some (-1, h5) from f1] at x1
    rw [d4.2.1, show F_413 6 (I3 (nx n bt (nx n bt f))) g4 = some (0, g5) from f2] at x2
    exact ⟨6, _, h5, g5, x1, x2, f3, XT_trans X04 f4⟩
  by_cases nf : nd = 60
  · right
    rw [if_pos (by rw [nf]; decide)] at C0
    refine bad C0 ?_
    rw [R2]
    by_cases wq : wd nd x g4 < nd
    · rw [if_pos wq, if_neg (I3_m1 (by omega))]
    · rw [if_neg wq, if_pos rfl, D4.2.1, if_pos (by rw [nf]; rfl)]
  rw [if_neg (by rw [I3_lit, I3_le (by decide) (by omega)]; omega), show F_248 h4 = some (h4.2.1 52 10, h4) from rfl, exh] at C0; simp only [obs] at C0
  rw [C_166 D4] at C0; simp only [obs] at C0
  by_cases wq : wd nd x g4 < nd
  · right
    rw [if_pos wq] at C0 R2
    rw [if_neg (I3_m1 (by omega))] at C0 R2
    exact bad C0 R2
  left
  rw [if_neg wq, if_pos rfl] at C0 R2
  rw [show F_248 h4 = some (h4.2.1 52 10, h4) from rfl, exh] at C0; simp only [obs] at C0
  rw [D4.1, stJ_I (by omega) (by decide)] at C0; simp only [obs] at C0
  rw [D4.2.1, if_neg (by rw [I3_lit, I3_inj (by omega) (by decide)]; omega), exg] at R2
  obtain ⟨g5, u1, u2, u3, u4⟩ := take_R d5 fn2 d4
  rw [u1] at R2; simp only [obs] at R2
  have X05 : XT 0 0 h g h4 g5 := XT_trans X04 (XT_y d5.K agr_rfl (agr_mono (fun b j z => Or.inl ⟨z.1, by omega, by omega⟩) u4))
  have D5 : DF nd h4 g5 := DF_T s.K D X05
  have p5 : OP 1 h4 g5 := ⟨(d6.1 55 16 (by unfold S52; omega)).trans ((b6.1 55 16 (by unfold S52; omega)).trans a4.1), (u4.1 67 86 (by omega)).trans ((d7.1 67 86 (by unfold SLx; omega)).trans ((t4.1 67 86 (by omega)).trans ((b7.1 67 86 (by unfold SLx; omega)).trans a4.2.1))), by decide⟩
  refine ⟨sm_wJ h4 62 nd x, g5, x, nx n bt (nx n bt (nx n bt f)), ?_, C0, R2, TU_62 u3 nd x, p5, ⟨D5.1, D5.2.1, D5.2.2.1, fun d hd => ?_⟩, by omega, if_pos rfl, CB_nx (h := h4) fn2 d3 (by omega), u2, RT_trans (RT_XT X05) ⟨(TU_62 u3 nd x).K, ext_rfl, grow_rfl, agr_wJ agr_rfl (Or.inr (Or.inr (Or.inl rfl))), agr_rfl⟩⟩
  · have := nx_gt (n := n) (bt := bt) fn2 (by omega) (by omega)
    omega
  · obtain ⟨z1, z2⟩ := D5.2.2.2 d hd
    refine ⟨?_, z2⟩
    show (if d = nd then x else h4.2.1 62 d) = _
    rw [if_neg (by omega)]; exact z1
end
