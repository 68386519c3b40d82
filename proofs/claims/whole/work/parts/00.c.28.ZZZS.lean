theorem F5c {f : Nat} {v : Int32} (t : ∀ h, sm_ldI G0 h 1000000 (I3 f) = some v) (e : v &&& 4 = 0) (a b : Int32) (c c' : Int64) (o : Nat) (h : sm_H) : F_5 (I3 f) a b c o h = F_5 (I3 f) a b c' o h := by
  have e62 : ∀ z h, F_5_62 (I3 f) c o z h = F_5_62 (I3 f) c' o z h := fun z h => by
    unfold F_5_62
    simp only [obs]
    rw [t]; simp only [obs]
    rw [if_pos e, if_pos e]
  have e43 : ∀ z h, F_5_43 (I3 f) b c o z h = F_5_43 (I3 f) b c' o z h := fun z h => by
    unfold F_5_43
    simp only [obs, e62]
  show F_5_0 (I3 f) a b c o h = F_5_0 (I3 f) a b c' o h
  unfold F_5_0
  simp only [e43]
theorem C_allowsR {h g : sm_H} (K : K1 h g) {a b : Nat} (ha : a < 20 + nC g) (hb : b < 20 + nC g) (f : Bool) : F_65 (I3 a) (I3 b) (b2 f) h = some (b2 (mayB g a b f true), h) := by
  have h12 := K.1.2.1
  have has : ∀ k, k < 20 + nC g → F_53 (I3 k) h = some (1, h) := fun k hk => by
    rw [C_has K.1 K.2.1, inR_I (by omega), decide_eq_true hk]; rfl
  show F_65_0 (I3 a) (I3 b) (b2 f) h = _
  unfold F_65_0 F_65_12 F_65_24 F_65_34 F_65_39
  simp only [true_or, or_true, if_true]
  by_cases q1 : a = 0
  · rw [if_pos (show I3 a = (0 : Int32) from congrArg I3 q1), has b hb, mayB_0 (Or.inl q1)]; simp only [obs]
    rw [if_neg (by decide)]; rfl
  · rw [if_neg (show ¬ I3 a = (0 : Int32) by rw [I3_lit, I3_inj (by omega) (by decide)]; exact q1)]
    by_cases q2 : b = 0
    · rw [if_pos (show I3 b = (0 : Int32) from congrArg I3 q2), has a ha, mayB_0 (Or.inr q2)]; simp only [obs]
      rw [if_neg (by decide)]; rfl
    · rw [if_neg (show ¬ I3 b = (0 : Int32) by rw [I3_lit, I3_inj (by omega) (by decide)]; exact q2), C_allows K.1 K.2.1 (by omega) ha (by omega) hb f, mayB_n q1 q2]; simp only [obs]
      cases mayB g a b f false <;> rfl
theorem mayB_self (g : sm_H) (a : Nat) (f r : Bool) : mayB g a a f r = true := by unfold mayB; rw [if_pos rfl]
theorem TK_row {h g h1 g1 h2 : sm_H} (t : TK h g h1 g1) (a : agr S56 h1 h2) : TK h g h2 g1 := TK_trans t (TK_mk (K1_h t.k (agr_mono (fun b j z => by rcases z with ⟨rfl, -⟩ | rfl <;> rfl) a)) ext_rfl grow_rfl (agr_mono (fun b j z => by unfold SCq; omega) a) agr_rfl)
theorem TK_par {h g h1 g1 g2 : sm_H} (t : TK h g h1 g1) (a : agr SRp g1 g2) : TK h g h1 g2 := by
  have E := ext_eq (okR_SRp a)
  exact TK_trans t (TK_mk (K1_g t.k (agr_mono SRp_not a)) E.1 E.2.1 agr_rfl (agr_mono (fun _ _ z => Or.inl (Or.inl z)) a))
theorem NF_row {h1 g1 h2 : sm_H} (n : NF h1 g1) (a : agr S56 h1 h2) : NF h2 g1 := ⟨(a.1 55 17 (by unfold S56; omega)).trans n.1, n.2⟩
theorem NF_par {h1 g1 g2 : sm_H} (n : NF h1 g1) (a : agr SRp g1 g2) : NF h1 g2 := ⟨n.1, (a.1 67 77 (by unfold SRp; omega)).trans n.2⟩
theorem par1 (g : sm_H) (x : Int32) : prR (sm_wI (sm_wI g 69 0 x) 67 3 1) [x] ∧ agr SRp g (sm_wI (sm_wI g 69 0 x) 67 3 1) := by
  refine ⟨⟨rfl, by simp, fun k hk => ?_⟩, agr_wI (agr_wI agr_rfl (by unfold SRp; omega)) (by unfold SRp; omega)⟩
  have e : k = 0 := by simp only [List.length_cons, List.length_nil] at hk; omega
  subst e; rfl
theorem par2 (g : sm_H) (x y : Int32) : prR (sm_wI (sm_wI (sm_wI g 69 0 x) 69 1 y) 67 3 2) [x, y] ∧ agr SRp g (sm_wI (sm_wI (sm_wI g 69 0 x) 69 1 y) 67 3 2) := by
  refine ⟨⟨rfl, by simp, fun k hk => ?_⟩, agr_wI (agr_wI (agr_wI agr_rfl (by unfold SRp; omega)) (by unfold SRp; omega)) (by unfold SRp; omega)⟩
  rcases (show k = 0 ∨ k = 1 by simp only [List.length_cons, List.length_nil] at hk; omega) with rfl | rfl <;> rfl
theorem wh_TK {h g h1 g1 : sm_H} {pc : Nat} (wh : g.1 67 106 = I3 pc) (t : TK h g h1 g1) : g1.1 67 106 = I3 pc := (t.a.1 67 106 (by unfold SRq SRb SRp SRh SRt; omega)).trans wh
theorem K1_c19 {h g : sm_H} (K : K1 h g) : K1 h (sm_wI g 67 19 0) := K1_19 K 0
theorem mayAs_same {h g : sm_H} (K : K1 h g) {y t : Nat} {kd : List Int32} {q k : Nat} (y1 : y < nH g) (t1 : t < nT g) (hy : hpl g y = kd) (ht : pl g t = kd) (ry : hrs g y = I3 q) (rt : rs g t = I3 k) (hq : q < 20 + nC g) (hk : k < 20 + nC g) {f : Bool} (m : mayB g q k f true = true) : mayAs g (ty g y) t f := by
  have h12 := K.1.2.1
  have e1 := pl_len g t
  have e2 := hpl_len g y
  rw [ht] at e1
  rw [hy] at e2
  refine ⟨by omega, fun i hi => ?_, ?_⟩
  · have a1 : at0 (pl g t) i = g.1 74 (10 * t + i) := at0_lst (by omega)
    have a2 : at0 (hpl g y) i = g.1 74 (10 * ty g y + i) := at0_lst hi
    rw [ht] at a1
    rw [hy] at a2
    show mayB g (tn (g.1 74 (10 * t + i))) (tn (g.1 74 (10 * ty g y + i))) f false = true
    rw [← a1, ← a2]; exact mayB_self _ _ _ _
  · show mayB g (tn (hrs g y)) (tn (rs g t)) f true = true
    rw [ry, rt, tnI (by omega), tnI (by omega)]; exact m
theorem asMk {h g : sm_H} {nm : Nat → Int64} {kd : List Int32} (K : K1 h g) (S : SCO nm kd h g) (nf : NF h g) {pc y q k : Nat} (wh : g.1 67 106 = I3 pc) (y1 : y < nH g) (hy : hpl g y = kd) (ry : hrs g y = I3 q) (hq : q < 20 + nC g) (hk : k < 20 + nC g) (f : Bool) (m : mayB g q k f true = true) :
    MkO h g pc ((F_185 (I3 k) (I3 pc) h).bind fun q2 => if q2.1 = (-1) then (some ((-1), q2.2)) else ((F_140 56 (I3 y) q2.2).bind fun q3 => (F_5 (bif f then 13 else 12) 0 q2.1 0 q3.1 q3.2).bind fun q4 => if 0 ≤ q4.1 then (F_186_108 q4.1 q4.2) else ((F_169 8 (I3 pc) q4.2).bind fun q5 => F_186_108 q5.1 q5.2)))
      ((F_428 (I3 k) g).bind fun q4 => if q4.1 = (-1) then some (-1, q4.2) else ((F_431 (bif f then 13 else 12) 0 q4.1 (I3 y) q4.2).bind fun q5 => some (q5.1, q5.2))) (I3 k) kd := by
  have h12 := K.1.2.1
  have w500 : nH g ≤ 500 := K.2.2.2.2.1.1.2
  rcases scopeTy K S nf wh (r := I3 k) ⟨k, rfl, hk⟩ with ⟨t, h1, g1, e1, e2, t1, t2, t3, t4, T, n1⟩ | ⟨e, h1, g1, e1, e2, T, ft⟩
  · have w300 : nT g1 ≤ 300 := T.k.2.2.1.1.2
    obtain ⟨h2, r1, r2, r3⟩ := C_one56 h1 (I3 y)
    obtain ⟨p1, p2⟩ := par1 g1 (I3 y)
    have T2 := TK_par (TK_row T r3) p2
    have n2 := NF_par (NF_row n1 r3) p2
    have nc := T.nC
    have y1' : y < nH g1 := T.nH y1
    have ck := ck_as (K1_c19 T2.k) (P := (show prR (sm_wI (sm_wI (sm_wI g1 69 0 (I3 y)) 67 3 1) 67 19 0) [I3 y] from p1)) (show y < nH (sm_wI (sm_wI (sm_wI g1 69 0 (I3 y)) 67 3 1) 67 19 0) from y1') (show t < nT (sm_wI (sm_wI (sm_wI g1 69 0 (I3 y)) 67 3 1) 67 19 0) from t1) f (show mayAs g1 (ty g1 y) t f from mayAs_same T.k y1' t1 ((T.hpl K y1).trans hy) t3 ((T.hrs K y1).trans ry) t2 (by rw [nc]; exact hq) (by rw [nc]; exact hk) (by
      have : mayB g1 q k f true = mayB g q k f true := by
        unfold mayB
        have eB : ∀ a b, B g1 a b = B g a b := B_par (fun c => by show tn (g1.1 70 c) = tn (g.1 70 c); rw [T.a.1 70 c (by unfold SRq SRb SRp SRh SRt; omega)])
        rw [eB]
      rw [this]; exact m)) 0 0
    have ck : Ck (sm_wI (sm_wI (sm_wI g1 69 0 (I3 y)) 67 3 1) 67 19 0) (bif f then 13 else 12) 0 (I3 t) 0 (I3 k) kd := by
      have z1 : rs (sm_wI (sm_wI (sm_wI g1 69 0 (I3 y)) 67 3 1) 67 19 0) t = I3 k := t2
      have z2 : pl (sm_wI (sm_wI (sm_wI g1 69 0 (I3 y)) 67 3 1) 67 19 0) t = kd := t3
      rw [z1, z2] at ck; exact ck
    have ff : I3 (bif f then 13 else 12) = (bif f then 13 else 12 : Int32) := by cases f <;> rfl
    have M := mkForm T2.k n2 (f := bif f then 13 else 12) (wh_TK wh T2) 0 (I3 t) 0 r2 p1 (by cases f <;> simp) (by omega) ck
    rw [ff] at M
    have tm : ¬ I3 t = (-1 : Int32) := I3_m1 (by omega)
    have C0 : ∀ w' h3, F_5 (bif f then 13 else 12) 0 (I3 t) 0 56 h2 = some (w', h3) → ((F_185 (I3 k) (I3 pc) h).bind fun q2 => if q2.1 = (-1) then (some ((-1), q2.2)) else ((F_140 56 (I3 y) q2.2).bind fun q3 => (F_5 (bif f then 13 else 12) 0 q2.1 0 q3.1 q3.2).bind fun q4 => if 0 ≤ q4.1 then (F_186_108 q4.1 q4.2) else ((F_169 8 (I3 pc) q4.2).bind fun q5 => F_186_108 q5.1 q5.2))) = (if 0 ≤ w' then some (w', h3) else ((F_169 8 (I3 pc) h3).bind fun q5 => F_186_108 q5.1 q5.2)) := fun w' h3 z => by
      rw [e1]; simp only [obs]
      rw [if_neg tm, r1]; simp only [obs]
      rw [z]; simp only [obs]
      rfl
    have R0 : ((F_428 (I3 k) g).bind fun q4 => if q4.1 = (-1) then some (-1, q4.2) else ((F_431 (bif f then 13 else 12) 0 q4.1 (I3 y) q4.2).bind fun q5 => some (q5.1, q5.2))) = F_429 (bif f then 13 else 12) 0 (I3 t) 0 (sm_wI (sm_wI g1 69 0 (I3 y)) 67 3 1) := by
      rw [e2]; simp only [obs]
      rw [if_neg tm, bind_id, show F_431 (bif f then 13 else 12) 0 (I3 t) (I3 y) g1 = F_431_0 (bif f then 13 else 12) 0 (I3 t) (I3 y) g1 from rfl]
      unfold F_431_0
      rw [if_neg (I3_m1 (by omega)), show stI g1 69 24 0 (I3 y) = some (sm_wI g1 69 0 (I3 y)) from stI_I (k := 0) (by decide) (by decide)]; simp only [obs]
      rw [bind_id]
    rcases M with ⟨z, h3, g3, m1, m2, m3, m4, m5, m6, m7⟩ | ⟨w', h3, h4, g4, w0, m1, m2, m3, m4, m5⟩
    · have w5 : nH g3 ≤ 500 := m6.k.2.2.2.2.1.1.2
      refine Or.inl ⟨z, h3, g3, ?_, R0.trans m2, m3, m4, m5, TK_trans T2 m6, m7⟩
      rw [C0 _ _ m1, if_pos (show (0 : Int32) ≤ I3 z by rw [I3_lit, I3_le (by decide) (by omega)]; omega)]
    · refine Or.inr ⟨8, h4, g4, ?_, R0.trans m3, TK_trans T2 m4, m5⟩
      rw [C0 _ _ m1, if_neg (Int32.not_le.mpr w0), m2]; rfl
  · refine Or.inr ⟨e, h1, g1, ?_, ?_, T, ft⟩
    · rw [e1]; simp only [obs]; rw [if_pos trivial]
    · rw [e2]; simp only [obs]; rw [if_pos trivial]
theorem passedAs {h g : sm_H} {nm : Nat → Int64} {kd : List Int32} (K : K1 h g) (S : SCO nm kd h g) (nf : NF h g) {pc y k : Nat} (wh : g.1 67 106 = I3 pc) (y1 : y < nH g) (hy : hpl g y = kd) (hk : k < 20 + nC g) : MkO h g pc (F_186 12 (I3 y) (I3 k) (I3 pc) h) (F_433 (I3 y) (I3 k) g) (I3 k) kd := by
  have h12 := K.1.2.1
  have w500 : nH g ≤ 500 := K.2.2.2.2.1.1.2
  obtain ⟨q, q1, q2⟩ := rs_k K y1
  have C0 : F_186 12 (I3 y) (I3 k) (I3 pc) h = F_186_0 12 (I3 y) (I3 k) (I3 pc) h := rfl
  have R0 : F_433 (I3 y) (I3 k) g = F_433_0 (I3 y) (I3 k) g := rfl
  unfold F_186_0 F_186_36 at C0
  unfold F_433_0 F_433_77 at R0
  rw [C_rs K y1, q1] at C0; simp only [obs] at C0
  rw [if_pos nf.2, if_neg (I3_m1 (by omega)), R_rs K y1, q1] at R0; simp only [obs] at R0
  by_cases e : q = k
  · rw [if_pos (congrArg I3 e)] at C0 R0
    exact Or.inl ⟨y, h, g, C0, R0, y1, by rw [q1, e], hy, TK_rfl K, nf⟩
  · have e' : ¬ I3 q = I3 k := by rw [I3_inj (by omega) (by omega)]; exact e
    rw [if_neg e'] at C0 R0
    rw [if_neg (by decide), show F_65 (I3 q) (I3 k) 0 h = some (b2 (mayB g q k false true), h) from C_allowsR K q2 hk false] at C0; simp only [obs] at C0
    rw [show F_307 (I3 y) g = some (I3 q, g) by rw [R_rs K y1, q1]] at R0; simp only [obs] at R0
    rw [show F_297 (I3 q) (I3 k) 0 1 g = some (b2 (mayB g q k false true), g) from R_mayBe K.1 q2 hk false true] at R0; simp only [obs] at R0
    cases m : mayB g q k false true with
    | false =>
      rw [m, if_pos (by decide)] at C0 R0
      obtain ⟨h2, g2, f1, f2, f3, f4⟩ := failB K nf (e := 7) (pc := pc) (by decide) (by decide)
      rw [show F_169 7 (I3 pc) h = some (-1, h2) from f1] at C0
      rw [wh, show F_413 7 (I3 pc) g = some (0, g2) from f2] at R0
      exact Or.inr ⟨7, h2, g2, C0, R0, f3, f4⟩
    | true =>
      rw [m, if_neg (by decide)] at C0 R0
      have M := asMk K S nf wh y1 hy q1 q2 hk false m
      rw [C0, R0]; exact M
