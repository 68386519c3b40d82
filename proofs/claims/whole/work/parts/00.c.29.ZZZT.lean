theorem I3_s1 (n : Nat) : I3 (n + 1) - 1 = I3 n := I3_sub (a := n + 1) (b := 1) (by omega)
theorem I3_p1 (n : Nat) : I3 (n + 1) + (-1) = I3 n := by rw [← Int32.sub_eq_add_neg]; exact I3_s1 n
theorem ng_le {y : Nat} (hy : y < 1000) : (-1 - I3 y : Int32) ≤ 0 ∧ ¬ (0 : Int32) ≤ -1 - I3 y := by
  have n1 := neg1sub hy
  have z0 : (0 : Int32).toInt = 0 := rfl
  exact ⟨by rw [Int32.le_iff_toInt_le, n1, z0]; omega, by rw [Int32.le_iff_toInt_le, n1, z0]; omega⟩
theorem m1_l {y n : Nat} (hy : y < n) (hn : n ≤ 500) : ¬ I3 y = (-1 : Int32) := I3_m1 (by omega)
theorem TK_19 {h g h1 g1 : sm_H} (t : TK h g h1 g1) : TK h g h1 (sm_wI g1 67 19 0) := TK_trans t (TK_mk (K1_19 t.k 0) (ext_19 g1 0) (grow_19 g1 0) agr_rfl (agr_wI agr_rfl (Or.inl (Or.inr (Or.inr (Or.inl ⟨rfl, Or.inr rfl⟩))))))
theorem R_scope {h g : sm_H} {nm : Nat → Int64} {kd : List Int32} (S : SCO nm kd h g) (q : kd.length ≤ 10) (r : Int32) : ∃ v, F_428 r g = F_428_47 v ∧ dR v kd ∧ agr SRd g v ∧ v.1 67 20 = r := by
  obtain ⟨s1, s2, s3, s4, s5⟩ := S
  have RL : ∀ k, k ≤ kd.length → ∃ v, F_428 r g = lp F_428_15B (1000000 - k) (I3 (400 - kd.length + k), v) ∧ dR v (kd.take k) ∧ agr SRd g v ∧ v.1 67 20 = r := by
    intro k
    induction k with
    | zero =>
      intro _
      refine ⟨sm_wI (sm_wI g 67 20 r) 67 21 0, ?_, ⟨rfl, fun i hi => by cases hi⟩, agr_wI (agr_wI agr_rfl (by unfold SRd; omega)) (by unfold SRd; omega), rfl⟩
      show F_428_0 r g = _
      unfold F_428_0
      simp only [obs]
      rw [show (sm_wI (sm_wI g 67 20 r) 67 21 0).1 67 94 = g.1 67 94 from rfl, s3]; rfl
    | succ k ih =>
      intro hk
      obtain ⟨v, e1, d1, a1, r1⟩ := ih (by omega)
      have tl : (kd.take k).length = k := by rw [List.length_take]; omega
      obtain ⟨v2, c1, c2, c3, c4⟩ := R_addNew d1 (by omega) (at0 kd k)
      refine ⟨v2, ?_, ?_, agr_trans a1 c3, c4.trans r1⟩
      · rw [e1, lp_s (s' := (I3 (400 - kd.length + (k + 1)), v2)) (by omega) ?_]
        · rw [show 1000000 - k - 1 = 1000000 - (k + 1) by omega]
        · unfold F_428_15B
          rw [if_neg (by rw [I3_lit, I3_le (by decide) (by omega)]; omega), d1.1, tl, if_neg (by rw [I3_lit, I3_le (by decide) (by omega)]; omega), ldI_I (by omega) (by decide), a1.1 118 _ (by unfold SRd; omega), (s5 k (by omega)).2.2.2]; simp only [obs]
          rw [c1]; simp only [obs]
          rw [show I3 (400 - kd.length + k) + 1 = I3 (400 - kd.length + (k + 1)) from I3_add _ 1]
      · rw [List.take_succ_eq_append_getElem (by omega), ← at0_get (by omega)]; exact c2
  obtain ⟨v, e2, d2, a2, r2⟩ := RL kd.length (Nat.le_refl _)
  rw [List.take_length] at d2
  refine ⟨v, ?_, d2, a2, r2⟩
  rw [e2, lp_oK (by omega)]
  unfold F_428_15B
  rw [if_pos (by rw [I3_lit, I3_le (by decide) (by omega)]; omega)]
  cases F_428_47 v <;> rfl
theorem as13 {h g : sm_H} (K : K1 h g) {x : Nat} (P : prR g [I3 x]) (x1 : x < nH g) (a : Int32) (c : Int64) : F_336 (I3 13) a (I3 (ty g x)) c g = some (-1 - I3 x, g) := by
  have wT := K.2.2.1
  have w300 : nT g ≤ 300 := wT.1.2
  have w500 : nH g ≤ 500 := K.2.2.2.2.1.1.2
  have ld : ldI g 69 24 0 = some (I3 x) := prR_ld P (k := 0) (by simp)
  have tx := ty_lt K x1
  obtain ⟨q, q1, q2⟩ := rs_k K x1
  have R : F_336 (I3 13) a (I3 (ty g x)) c g = (F_327_0 (I3 (ty g x)) (b2 true) g).bind (fun q14 => some (q14.1, q14.2)) := B336_13 _ _ _
  unfold F_327_0 at R
  rw [if_pos (show g.1 67 3 = 1 from P.1), show F_314 0 1 g = some (b2 (aH g [I3 x] 1), g) from R_areH K.2.2.2.2.1 P (n := 1) (by simp), aH1_ok w500 x1] at R; simp only [obs] at R
  rw [if_neg (by decide), R_isT wT, inR_I (by omega), decide_eq_true tx] at R; simp only [obs] at R
  rw [if_neg (by decide), ld] at R; simp only [obs] at R
  rw [R_mayAs K x1 tx true, asB_ok (mayAs_same K x1 tx rfl rfl q1 q1 q2 q2 (mayB_self _ _ _ _))] at R; simp only [obs] at R
  rw [if_neg (by decide), R_ty K x1] at R; simp only [obs] at R
  rw [if_pos trivial] at R
  exact R
theorem forcedAs {h g : sm_H} {nm : Nat → Int64} {kd : List Int32} (K : K1 h g) (S : SCO nm kd h g) (nf : NF h g) {pc y k : Nat} (wh : g.1 67 106 = I3 pc) (y1 : y < nH g) (hy : hpl g y = kd) (hk : k < 20 + nC g) : MkO h g pc (F_186 13 (I3 y) (I3 k) (I3 pc) h) ((F_307 (I3 y) g).bind fun q37 =>
  (F_297 q37.1 (I3 k) 1 1 q37.2).bind fun q38 =>
  if q38.1 = 0 then ((F_413 7 (q38.2.1 67 106) q38.2).bind fun q39 =>
  if q39.1 = 0 then (F_460_368 (I3 y) (-1) q39.2)
  else (F_460_358 (I3 y) (I3 k) q39.2))
  else (F_460_358 (I3 y) (I3 k) q38.2)) (I3 k) kd := by
  have h12 := K.1.2.1
  have w500 : nH g ≤ 500 := K.2.2.2.2.1.1.2
  have w300 : nT g ≤ 300 := K.2.2.1.1.2
  have y1000 : y < 1000 := by omega
  have tm1 : ¬ I3 (ty g y) = (-1 : Int32) := I3_m1 (by have := ty_lt K y1; omega)
  have ym1 : ¬ I3 y = (-1 : Int32) := I3_m1 (by omega)
  obtain ⟨q, q1, q2⟩ := rs_k K y1
  have C0 : F_186 13 (I3 y) (I3 k) (I3 pc) h = F_186_0 13 (I3 y) (I3 k) (I3 pc) h := rfl
  unfold F_186_0 F_186_36 at C0
  rw [C_rs K y1, q1] at C0; simp only [obs] at C0
  have M : mayB g q k true true = true → ((F_307 (I3 y) g).bind fun q37 =>
    (F_297 q37.1 (I3 k) 1 1 q37.2).bind fun q38 =>
    if q38.1 = 0 then ((F_413 7 (q38.2.1 67 106) q38.2).bind fun q39 =>
    if q39.1 = 0 then (F_460_368 (I3 y) (-1) q39.2)
    else (F_460_358 (I3 y) (I3 k) q39.2))
    else (F_460_358 (I3 y) (I3 k) q38.2)) = F_460_358 (I3 y) (I3 k) g := fun m => by
    rw [R_rs K y1, q1]; simp only [obs]
    rw [show F_297 (I3 q) (I3 k) 1 1 g = some (b2 (mayB g q k true true), g) from R_mayBe K.1 q2 hk true true, m]; simp only [obs]
    rw [if_neg (by decide)]
  by_cases e : q = k
  · rw [if_pos (congrArg I3 e)] at C0
    rw [C0, M (by rw [e]; exact mayB_self _ _ _ _)]
    have kl : kd.length ≤ 10 := by rw [← hy]; exact mn_10 K y1
    obtain ⟨v, v1, v2, v3, v4⟩ := R_scope S kl (I3 k)
    have T0 : TK h g h v := TK_d K agr_rfl v3
    have tyv : ty v y = ty g y := by show tn _ = tn _; rw [v3.1 76 y (by unfold SRd; omega)]
    have isv : isTy v (ty g y) (I3 k) kd := by
      have tx := ty_lt K y1
      have nTv : nT v = nT g := by show tn _ = tn _; rw [v3.1 67 10 (by unfold SRd; omega)]
      have hl := hpl_len g y
      rw [hy] at hl
      refine ⟨by rw [nTv]; exact tx, ?_, ?_, fun i hi => ?_⟩
      · rw [v3.1 72 _ (by unfold SRd; omega), ← e, ← q1]
      · rw [v3.1 73 _ (by unfold SRd; omega), hl]; exact (K.2.2.1.2.1 _ tx).2.1.1
      · rw [v3.1 74 _ (by unfold SRd; omega), ← hy]; exact (at0_lst (f := fun k => g.1 74 (10 * ty g y + k)) (by omega)).symm
    have f1 : fT v (I3 k) kd < nT v := by
      rcases Nat.lt_or_ge (fT v (I3 k) kd) (nT v) with z | z
      · exact z
      · exact absurd isv (fT_none (Nat.le_antisymm (fT_le _ _ _) z))
    have f2 : fT v (I3 k) kd = ty g y := by
      have a := isTy_of f1
      have b := isv
      refine T0.k.2.2.1.2.2 _ _ a.1 b.1 (a.2.1.trans b.2.1.symm) (a.2.2.1.trans b.2.2.1.symm) (fun i hi => ?_)
      have tm : tM v (fT v (I3 k) kd) = kd.length := by show tn _ = _; rw [a.2.2.1]; exact tnI (by omega)
      rw [a.2.2.2 i (by omega), b.2.2.2 i (by omega)]
    have R1 : F_428 (I3 k) g = some (I3 (ty g y), v) := by
      rw [v1]
      unfold F_428_47 F_428_68
      rw [R_made1 T0.k.2.2.1 v2 kl v4 f1, f2]; simp only [obs]
      rw [if_neg tm1]
    obtain ⟨p1, p2⟩ := par1 v (I3 y)
    have T2 := TK_19 (TK_par T0 p2)
    have R2 := as13 T2.k (P := p1) (x := y) (T2.nH y1) 0 0
    rw [show ty (sm_wI (sm_wI (sm_wI v 69 0 (I3 y)) 67 3 1) 67 19 0) y = ty g y from tyv] at R2
    have R3 : F_341 13 0 (I3 (ty g y)) 0 (sm_wI (sm_wI v 69 0 (I3 y)) 67 3 1) = some (I3 y, sm_wI (sm_wI (sm_wI v 69 0 (I3 y)) 67 3 1) 67 19 0) := by
      show F_341_0 13 0 (I3 (ty g y)) 0 (sm_wI (sm_wI v 69 0 (I3 y)) 67 3 1) = _
      unfold F_341_0
      simp only [obs]
      rw [if_neg (by decide), if_pos (by decide), show F_336 13 0 (I3 (ty g y)) 0 (sm_wI (sm_wI (sm_wI v 69 0 (I3 y)) 67 3 1) 67 19 0) = _ from R2]; simp only [obs]
      unfold F_341_28
      rw [if_pos (ng_le y1000).1, if_neg (ng_le y1000).2, sub2 y1000]
    have nfv : (sm_wI (sm_wI v 69 0 (I3 y)) 67 3 1).1 67 77 = 0 := (v3.1 67 77 (by unfold SRd; omega)).trans nf.2
    refine Or.inl ⟨y, h, sm_wI (sm_wI (sm_wI v 69 0 (I3 y)) 67 3 1) 67 19 0, rfl, ?_, T2.nH y1, ?_, (T2.hpl K y1).trans hy, T2, ⟨nf.1, nfv⟩⟩
    · unfold F_460_358 F_460_368 F_460_390
      rw [R1]; simp only [obs]
      rw [if_neg tm1, bind_id, show F_431 13 0 (I3 (ty g y)) (I3 y) v = F_431_0 13 0 (I3 (ty g y)) (I3 y) v from rfl]
      unfold F_431_0
      rw [if_neg ym1, show stI v 69 24 0 (I3 y) = some (sm_wI v 69 0 (I3 y)) from stI_I (k := 0) (by decide) (by decide)]; simp only [obs]
      rw [bind_id, show F_429 13 0 (I3 (ty g y)) 0 (sm_wI (sm_wI v 69 0 (I3 y)) 67 3 1) = F_429_0 13 0 (I3 (ty g y)) 0 (sm_wI (sm_wI v 69 0 (I3 y)) 67 3 1) from rfl]
      unfold F_429_0 F_429_50
      rw [if_pos nfv, R3]; simp only [obs]
      rw [if_neg ym1]
    · rw [T2.hrs K y1, q1, e]
  · have e' : ¬ I3 q = I3 k := by rw [I3_inj (by omega) (by omega)]; exact e
    rw [if_neg e', if_pos (by decide), show F_65 (I3 q) (I3 k) 1 h = some (b2 (mayB g q k true true), h) from C_allowsR K q2 hk true] at C0; simp only [obs] at C0
    cases m : mayB g q k true true with
    | false =>
      rw [m, if_pos (by decide)] at C0
      obtain ⟨h2, g2, f1, f2, f3, f4⟩ := failB K nf (e := 7) (pc := pc) (by decide) (by decide)
      rw [show F_169 7 (I3 pc) h = some (-1, h2) from f1] at C0
      refine Or.inr ⟨7, h2, g2, C0, ?_, f3, f4⟩
      rw [R_rs K y1, q1]; simp only [obs]
      rw [show F_297 (I3 q) (I3 k) 1 1 g = some (b2 (mayB g q k true true), g) from R_mayBe K.1 q2 hk true true, m]; simp only [obs]
      rw [if_pos (by decide), wh, show F_413 7 (I3 pc) g = some (0, g2) from f2]; simp only [obs]
      rfl
    | true =>
      rw [m, if_neg (by decide)] at C0
      rw [C0, M m]
      exact asMk K S nf wh y1 hy q1 q2 hk true m
def STK (h : sm_H) (base m : Nat) (pt : Nat → Nat) : Prop := ∃ top, h.1 55 12 = I3 top ∧ base + m ≤ top ∧ top ≤ 200 ∧ ∀ i, i < m → h.1 60 (base + i) = I3 (pt i)
theorem STK_at {h : sm_H} {base m : Nat} {pt : Nat → Nat} (s : STK h base m pt) {i : Nat} (hi : i < m) : F_187 (I3 (base + i)) h = some (I3 (pt i), h) := by
  obtain ⟨top, t1, t2, t3, t4⟩ := s
  show F_187_0 (I3 (base + i)) h = _
  unfold F_187_0 F_187_29
  rw [if_neg (I3_nn (by omega)), t1, if_neg (by rw [I3_le (by omega) (by omega)]; omega), if_neg (by rw [I3_lit, I3_le (by omega) (by omega)]; omega), ldI_I (by omega) (by decide), t4 i hi]; simp only [obs]
theorem STK_agr {h h1 : sm_H} {base m : Nat} {pt : Nat → Nat} {P : Nat → Nat → Prop} (s : STK h base m pt) (a : agr P h h1) (p : ∀ b j, P b j → ¬ (b = 55 ∧ j = 12 ∨ b = 60)) : STK h1 base m pt := by
  obtain ⟨top, t1, t2, t3, t4⟩ := s
  exact ⟨top, (a.1 55 12 (fun z => p _ _ z (by omega))).trans t1, t2, t3, fun i hi => (a.1 60 _ (fun z => p _ _ z (by omega))).trans (t4 i hi)⟩
theorem SCq_stk (b j : Nat) (z : SCq b j) : ¬ (b = 55 ∧ j = 12 ∨ b = 60) := by unfold SCq SCb Ssc SCd SCh SCt at z; omega
theorem STK_TK {h g h1 g1 : sm_H} {base m : Nat} {pt : Nat → Nat} (s : STK h base m pt) (t : TK h g h1 g1) : STK h1 base m pt := STK_agr s t.c SCq_stk
abbrev SRa (b j : Nat) : Prop := SRq b j ∨ (127 ≤ b ∧ b ≤ 129)
def TB (b0 : Nat) (h g h1 g1 : sm_H) : Prop := K1 h1 g1 ∧ ext g g1 ∧ grow g g1 ∧ agr (fun b j => SCq b j ∨ b = 60 ∧ b0 ≤ j) h h1 ∧ agr SRa g g1
theorem TB_of {b0 : Nat} {h g h1 g1 : sm_H} (t : TK h g h1 g1) : TB b0 h g h1 g1 := ⟨t.1, t.2.1, t.2.2.1, agr_mono (fun _ _ z => Or.inl z) t.2.2.2.1, agr_mono (fun _ _ z => Or.inl z) t.2.2.2.2⟩
theorem TB.k {b0 : Nat} {h g h1 g1 : sm_H} (t : TB b0 h g h1 g1) : K1 h1 g1 := t.1
theorem TB.e {b0 : Nat} {h g h1 g1 : sm_H} (t : TB b0 h g h1 g1) : ext g g1 := t.2.1
theorem TB.r {b0 : Nat} {h g h1 g1 : sm_H} (t : TB b0 h g h1 g1) : grow g g1 := t.2.2.1
theorem TB.c {b0 : Nat} {h g h1 g1 : sm_H} (t : TB b0 h g h1 g1) : agr (fun b j => SCq b j ∨ b = 60 ∧ b0 ≤ j) h h1 := t.2.2.2.1
theorem TB.a {b0 : Nat} {h g h1 g1 : sm_H} (t : TB b0 h g h1 g1) : agr SRa g g1 := t.2.2.2.2
theorem TB_trans {b0 : Nat} {h g h1 g1 h2 g2 : sm_H} (a : TB b0 h g h1 g1) (b : TB b0 h1 g1 h2 g2) : TB b0 h g h2 g2 := ⟨b.1, ext_trans a.2.1 b.2.1, grow_trans a.2.2.1 b.2.2.1, agr_trans a.2.2.2.1 b.2.2.2.1, agr_trans a.2.2.2.2 b.2.2.2.2⟩
theorem TB.hrs {b0 : Nat} {h g h1 g1 : sm_H} (t : TB b0 h g h1 g1) {h' : sm_H} (K : K1 h' g) {x : Nat} (hx : x < nH g) : hrs g1 x = hrs g x := ext_hrs K.2.2.2.2.1 t.e hx
theorem TB.hpl {b0 : Nat} {h g h1 g1 : sm_H} (t : TB b0 h g h1 g1) {h' : sm_H} (K : K1 h' g) {x : Nat} (hx : x < nH g) : hpl g1 x = hpl g x := ext_hpl K.2.2.2.2.1 t.e hx
theorem TB.nH {b0 : Nat} {h g h1 g1 : sm_H} (t : TB b0 h g h1 g1) {x : Nat} (hx : x < nH g) : x < nH g1 := Nat.lt_of_lt_of_le hx t.r.2.2.1
theorem TB.nC {b0 : Nat} {h g h1 g1 : sm_H} (t : TB b0 h g h1 g1) : CHandleHouseLaw_law_r9294_ac1f8b.nC g1 = CHandleHouseLaw_law_r9294_ac1f8b.nC g := by show tn _ = tn _; rw [t.a.1 67 6 (by unfold SRa SRq SRb SRp SRh SRt; omega)]
theorem SCO_TB {b0 : Nat} {nm : Nat → Int64} {kd : List Int32} {h g h1 g1 : sm_H} (S : SCO nm kd h g) (t : TB b0 h g h1 g1) : SCO nm kd h1 g1 := SCO_agr S t.c t.a (Nat.le_of_eq t.nC.symm) (fun b j z => by unfold SCq SCb Ssc SCd SCh SCt at z; omega) (fun b j z => by unfold SRa SRq SRb SRp SRh SRt at z; omega)
theorem wh_TB {b0 : Nat} {h g h1 g1 : sm_H} {pc : Nat} (wh : g.1 67 106 = I3 pc) (t : TB b0 h g h1 g1) : g1.1 67 106 = I3 pc := (t.a.1 67 106 (by unfold SRa SRq SRb SRp SRh SRt; omega)).trans wh
theorem TB_127 {b0 : Nat} {h g h1 g1 g2 : sm_H} (t : TB b0 h g h1 g1) (a : agr (fun b _ => 127 ≤ b ∧ b ≤ 129) g1 g2) : TB b0 h g h1 g2 := by
  have nr : ∀ b j, (127 ≤ b ∧ b ≤ 129) → notR b j := fun b j z => by
    rcases (show b = 127 ∨ b = 128 ∨ b = 129 by omega) with rfl | rfl | rfl <;> rfl
  have E := ext_eq (ok_of_not nr a)
  exact TB_trans t ⟨K1_g t.k (agr_mono nr a), E.1, E.2.1, agr_rfl, agr_mono (fun b j z => by unfold SRa; omega) a⟩
theorem NF_127 {h1 g1 g2 : sm_H} (n : NF h1 g1) (a : agr (fun b _ => 127 ≤ b ∧ b ≤ 129) g1 g2) : NF h1 g2 := ⟨n.1, (a.1 67 77 (by omega)).trans n.2⟩
theorem K1_60 {h g : sm_H} (K : K1 h g) (j : Nat) (x : Int32) : K1 (sm_wI h 60 j x) g := by
  obtain ⟨wK, cK, wT, cT, wH, cH, wM, cM, cG, cO, cV, wX, cX, cXh, wF⟩ := K
  exact ⟨wK, cK, wT, cT, wH, cH, wM, cM, cG, cO, cV, wX, cX, cXh_fr (by repeat first | exact hi_rfl | refine hi_wI ?_ (by decide) | refine hi_wJ ?_ (by decide)) cXh, wF⟩
def updN (pt : Nat → Nat) (i z : Nat) (j : Nat) : Nat := if j = i then z else pt j
theorem pass1 {h g : sm_H} {nm : Nat → Int64} {kd : List Int32} (K : K1 h g) (S : SCO nm kd h g) (nf : NF h g) {pc k base m i : Nat} {pt : Nat → Nat} (wh : g.1 67 106 = I3 pc) (st : STK h base m pt) (hi : i < m) (y1 : pt i < nH g) (hy : hpl g (pt i) = kd) (hk : k < 20 + nC g) :
    (∃ z h1 g1, F_190 (I3 (base + i)) (I3 k) (I3 pc) h = some (1, h1) ∧ F_433 (I3 (pt i)) (I3 k) g = some (I3 z, g1) ∧ z < nH g1 ∧ hrs g1 z = I3 k ∧ hpl g1 z = kd ∧ STK h1 base m (updN pt i z) ∧ TB (base + i) h g h1 g1 ∧ NF h1 g1) ∨ ∃ e h1 g1, F_190 (I3 (base + i)) (I3 k) (I3 pc) h = some (0, h1) ∧ F_433 (I3 (pt i)) (I3 k) g = some (-1, g1) ∧ TK h g h1 g1 ∧ FT e pc h1 g1 := by
  have C0 : F_190 (I3 (base + i)) (I3 k) (I3 pc) h = F_190_0 (I3 (base + i)) (I3 k) (I3 pc) h := rfl
  unfold F_190_0 F_190_40 at C0
  rw [STK_at st hi] at C0; simp only [obs] at C0
  rcases passedAs K S nf wh y1 hy hk with ⟨z, h1, g1, a1, a2, a3, a4, a5, a6, a7⟩ | ⟨e, h1, g1, a1, a2, a3, a4⟩
  · left
    have w500 : nH g1 ≤ 500 := a6.k.2.2.2.2.1.1.2
    obtain ⟨top, t1, t2, t3, t4⟩ := STK_TK st a6
    rw [a1] at C0; simp only [obs] at C0
    rw [if_neg (I3_m1 (by omega)), if_neg (I3_nn (by omega)), t1, if_neg (by rw [I3_le (by omega) (by omega)]; omega), if_pos (by rw [I3_lit, I3_lt (by omega) (by omega)]; omega), stI_I (by omega) (by decide)] at C0; simp only [obs] at C0
    refine ⟨z, sm_wI h1 60 (base + i) (I3 z), g1, C0, a2, a3, a4, a5, ⟨top, t1, t2, t3, fun j hj => ?_⟩, TB_trans (TB_of a6) ⟨K1_60 a6.k _ _, ext_rfl, grow_rfl, agr_wI agr_rfl (Or.inr ⟨rfl, Nat.le_refl _⟩), agr_rfl⟩, a7⟩
    show (if base + j = base + i then I3 z else h1.1 60 (base + j)) = I3 (updN pt i z j)
    unfold updN
    by_cases q : j = i
    · rw [if_pos (by rw [q]), if_pos q]
    · rw [if_neg (by omega), if_neg q, t4 j hj]
  · right
    rw [a1] at C0; simp only [obs] at C0
    rw [if_pos trivial] at C0
    exact ⟨e, h1, g1, C0, a2, a3, a4⟩
