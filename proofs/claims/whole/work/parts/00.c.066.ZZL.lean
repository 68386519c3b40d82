theorem tag_I {q : Nat} (h1 : 7 ≤ q ∨ q = 0) (h2 : q < 2147483648) : tag (I3 q) = I3 q := by
  unfold tag
  rw [if_neg]
  rw [I3_lit, I3_lit, I3_le (by decide) h2, I3_le h2 (by decide)]; omega
theorem tag_p {q : Nat} (h1 : 1 ≤ q) (h2 : q ≤ 6) : tag (I3 q) = 0 := by
  unfold tag
  rw [if_pos]
  rw [I3_lit, I3_lit, I3_le (by decide) (by omega), I3_le (by omega) (by decide)]; omega
theorem okO_7 {g : sm_H} {q : Nat} {n : Int64} (h : okO g q n) : 9 ≤ q := by
  rcases h with h | h | h | h
  · omega
  · omega
  · omega
  · omega
abbrev S48 (b j : Nat) : Prop := b = 67 ∧ (j = 48 ∨ j = 49)
def conV (g : sm_H) (k : Nat) (c : Int64) : Val := if k ≤ 6 then (I3 k, c) else if c = -1 then (0, 0) else (g.1 94 c.toInt.toNat, g.2.1 95 c.toInt.toNat)
theorem conV_m {g g1 : sm_H} (a : agr SRm g g1) (k : Nat) (c : Int64) : conV g1 k c = conV g k c := by
  unfold conV; rw [(m_c a (show 70 ≤ 94 by decide) (by decide)).1, (m_c a (show 70 ≤ 95 by decide) (by decide)).2]
theorem okK_m {g g1 : sm_H} (a : agr SRm g g1) {k : Nat} {c : Int64} (ok : okK g k c) : okK g1 k c := by
  rcases ok with z | ⟨z1, z2⟩
  · exact Or.inl z
  · refine Or.inr ⟨z1, ?_⟩
    rcases z2 with z | ⟨v, v1, v2, v3⟩
    · exact Or.inl z
    · refine Or.inr ⟨v, ?_, v2, ?_⟩
      · show v < tn _; rw [a.1 67 40 (by unfold SRm SN; omega)]; exact v1
      · rw [m_B a, (m_c a (show 70 ≤ 94 by decide) (by decide)).1]; exact v3
theorem constV {h g : sm_H} (K : K1 h g) {k : Nat} {c : Int64} (hk : k < 20 + nC g) (ok : okK g k c) : okV g k (conV g k c).1 (conV g k c).2 ∧ F_153 (I3 k) c h = some ((conV g k c).2, h) ∧ F_154 (I3 k) c h = some (tag (conV g k c).1, h) ∧ ∃ g', F_353 (I3 k) c g = some g' ∧ agr S48 g g' ∧ g'.1 67 48 = (conV g k c).1 ∧ g'.2.1 67 49 = (conV g k c).2 := by
  have wK := K.1
  have h12 := wK.2.1
  have cVq := K.2.2.2.2.2.2.2.2.2.2.1
  have w100 : nV g ≤ 100 := cVq.2.1.2
  have CP := C_plain (h := h) (a := k) (by omega)
  have RP := R_plain (g := g) (a := k) (by omega)
  rcases ok with ⟨k1, k2, k3⟩ | ⟨k7, rest⟩
  · rw [decide_eq_true (show 1 ≤ k ∧ k ≤ 6 by omega)] at CP RP
    rw [show conV g k c = (I3 k, c) by unfold conV; rw [if_pos k2]]
    refine ⟨Or.inl ⟨k1, k2, rfl, k3⟩, ?_, ?_, sm_wJ (sm_wI g 67 48 (I3 k)) 67 49 c, ?_, agr_wJ (agr_wI agr_rfl (by unfold S48; omega)) (by unfold S48; omega), rfl, rfl⟩
    · show F_153_0 (I3 k) c h = _
      unfold F_153_0
      rw [CP]; simp only [obs]; rw [if_neg (by decide)]; rfl
    · show F_154_0 (I3 k) c h = _
      unfold F_154_0
      rw [CP]; simp only [obs]; rw [if_neg (by decide), tag_p k1 k2]; rfl
    · show F_353_0 (I3 k) c g = _
      unfold F_353_0
      rw [RP]; simp only [obs]; rw [if_neg (by decide)]; rfl
  · rw [decide_eq_false (show ¬ (1 ≤ k ∧ k ≤ 6) by omega)] at CP RP
    rcases rest with rfl | ⟨v, v1, rfl, v3⟩
    · have t0 := C_vtag cVq (-1)
      have n0 := C_vnum cVq (-1)
      rw [inR_m1] at t0 n0
      rw [show conV g k (-1) = (0, 0) by unfold conV; rw [if_neg (by omega), if_pos rfl]]
      refine ⟨Or.inr (Or.inl ⟨Or.inr k7, rfl, rfl⟩), ?_, ?_, sm_wJ (sm_wI g 67 48 0) 67 49 0, ?_, agr_wJ (agr_wI agr_rfl (by unfold S48; omega)) (by unfold S48; omega), rfl, rfl⟩
      · show F_153_0 (I3 k) (-1) h = _
        unfold F_153_0
        rw [CP]; simp only [obs]; rw [if_pos (by decide), show F_150 (-1) h = _ from n0]; rfl
      · show F_154_0 (I3 k) (-1) h = _
        unfold F_154_0
        rw [CP]; simp only [obs]; rw [if_pos (by decide), show F_151 (-1) h = _ from t0]; rfl
      · show F_353_0 (I3 k) (-1) g = _
        unfold F_353_0
        rw [RP]; simp only [obs]
        rw [if_pos (by decide), if_pos (by decide), show F_299 7 g = _ from R_zero (q := 7) (by decide)]; rfl
    · have t0 := C_vtag cVq (I3 v)
      have n0 := C_vnum cVq (I3 v)
      rw [inR_I (by omega), decide_eq_true v1, tnI (by omega), I3_64 (by omega)] at t0 n0
      obtain ⟨q, z1, z2, z3⟩ := cVq.2.2.2 v v1
      have q9 := okO_7 z3
      rw [z1, tnI (by omega)] at v3
      have ne : ¬ I6 v = -1 := fun e => by have z := congrArg Int64.toInt e; rw [I6_toInt (by omega)] at z; exact absurd z (by show ¬ (v : Int) = -1; omega)
      rw [show conV g k (I6 v) = (g.1 94 v, g.2.1 95 v) by unfold conV; rw [if_neg (by omega), if_neg ne, I6_toInt (by omega)]; rfl]
      refine ⟨?_, ?_, ?_, sm_wJ (sm_wI g 67 48 (g.1 94 v)) 67 49 (g.2.1 95 v), ?_, agr_wJ (agr_wI agr_rfl (by unfold S48; omega)) (by unfold S48; omega), rfl, rfl⟩
      · exact Or.inr (Or.inr ⟨k7, q, z1, z2, v3, z3⟩)
      · show F_153_0 (I3 k) (I6 v) h = _
        unfold F_153_0
        rw [CP]; simp only [obs]; rw [if_pos (by decide), n0]; rfl
      · show F_154_0 (I3 k) (I6 v) h = _
        unfold F_154_0
        rw [CP]; simp only [obs]; rw [if_pos (by decide), t0]
        show some (g.1 94 v, h) = _
        rw [z1, tag_I (by omega) (by omega)]
      · show F_353_0 (I3 k) (I6 v) g = _
        unfold F_353_0
        rw [RP]; simp only [obs]
        rw [if_pos (by decide), if_neg (by rw [cmp_eq]; exact ne), I6_32, ldI_I (by omega) (by decide)]; simp only [obs]
        rw [ldJ_I (by omega) (by decide)]; rfl
section
variable {d fuel s0 x vp p s : Nat} {vs : List Val} {h0 g0 h g : sm_H}
theorem Fr_48 (F : Fr d fuel s0 x vp vs h0 g0 h g p s) {g' : sm_H} (a : agr S48 g g') : Fr d fuel s0 x vp vs h0 g0 h g' p s := Fr_g F (agr_mono (fun b j z => by unfold S48 at z; unfold SG; omega) a)
end
theorem Ph_48 {g g' g2 : sm_H} {T : Nat} {ws : List Val} (P : Ph g g' T ws) (a : agr S48 g' g2) : Ph g g2 T ws := by
  refine ⟨agr_trans P.a (agr_mono (fun b j z => by unfold S48 at z; unfold SP; omega) a), (a.1 67 59 (by unfold S48; omega)).trans P.n, fun i hi => ?_⟩
  rw [a.1 108 _ (by unfold S48; omega), a.2.1 109 _ (by unfold S48; omega)]
  exact P.s i hi
section
variable {d fuel s0 x vp p s : Nat} {vs : List Val} {h0 g0 h g : sm_H}
theorem Fr.k351 (F : Fr d fuel s0 x vp vs h0 g0 h g p s) {i : Nat} (hi : i < vs.length) : F_351 (I3 i) g = some ((atv vs i).1, g) := by
  have := F.v10
  have := F.vl
  have := F.d1
  show F_351_0 (I3 i) g = _
  unfold F_351_0
  rw [F.c56, show I3 (d + 1) - 1 = I3 d from I3_sub (a := d + 1) (b := 1) (by omega), F.l105]; simp only [obs]
  rw [I3_add, ldI_I (by omega) (by decide), (F.st i hi).1]; rfl
theorem Fr.k352 (F : Fr d fuel s0 x vp vs h0 g0 h g p s) {i : Nat} (hi : i < vs.length) : F_352 (I3 i) g = some ((atv vs i).2, g) := by
  have := F.v10
  have := F.vl
  have := F.d1
  show F_352_0 (I3 i) g = _
  unfold F_352_0
  rw [F.c56, show I3 (d + 1) - 1 = I3 d from I3_sub (a := d + 1) (b := 1) (by omega), F.l105]; simp only [obs]
  rw [I3_add, ldJ_I (by omega) (by decide), (F.st i hi).2]; rfl
theorem Fr.c77 (F : Fr d fuel s0 x vp vs h0 g0 h g p s) {i : Nat} (hi : i < vs.length) : F_77 (I3 d) (I3 i) h = some ((atv vs i).2, h) := by
  have := F.v10
  have := F.d1
  rw [C_num (by omega) (by omega), (F.fr i hi).1]
theorem Fr.c78 (F : Fr d fuel s0 x vp vs h0 g0 h g p s) {i : Nat} (hi : i < vs.length) : F_78 (I3 d) (I3 i) h = some (tag (atv vs i).1, h) := by
  have := F.v10
  have := F.d1
  rw [C_tg (by omega) (by omega), (F.fr i hi).2]
theorem Fr_all (F : Fr d fuel s0 x vp vs h0 g0 h g p s) (c59 : g.1 67 59 = I3 (vp + vs.length)) {y : Nat} (y1 : y < nH g0) (l : (hpl g0 y).length ≤ vs.length) : (∃ h', F_81 (I3 d) (I3 y) h = some h' ∧ Ly h h' (d + 1) (sub vs 0 (hpl g0 y).length)) ∧ ∃ g', F_343 (I3 vp) (I3 (vp + (hpl g0 y).length)) g = some g' ∧ Ph g g' (vp + vs.length) (sub vs 0 (hpl g0 y).length) := by
  have v10 := F.v10
  have vl := F.vl
  have d1 := F.d1
  obtain ⟨h1, a1, L1⟩ := C_lend (i := 0) (n := (hpl g0 y).length) (Ly_0 h (d + 1)) F.fr d1 (by omega) (by omega) (by simp only [List.length_nil]; omega)
  obtain ⟨g1, b1, P1⟩ := R_copy (i := 0) (n := (hpl g0 y).length) (Ph_0 c59) F.st (Nat.le_refl _) (by omega) (by simp only [List.length_nil]; omega)
  rw [List.nil_append] at L1 P1
  refine ⟨⟨h1, ?_, L1⟩, g1, b1, P1⟩
  show F_81_0 (I3 d) (I3 y) h = _
  unfold F_81_0
  rw [F.cmn y1]; simp only [obs]
  rw [show F_80 (I3 d) 0 0 (I3 (hpl g0 y).length) h = some h1 from a1]; rfl
end
theorem tyV_first {g : sm_H} {ks ls : List Int32} {vs : List Val} (h : tyV g ks vs) (p : pre ls ks) : tyV g ls (sub vs 0 ls.length) := by
  have l := p.1
  have e : seg ks 0 ls.length = ls := by
    refine lst_ext (seg_len _ _ _) (fun i hi => ?_)
    rw [seg_len] at hi
    rw [show at0 (seg ks 0 ls.length) i = at0 ks (0 + i) from at0_lst hi, Nat.zero_add]
    exact p.2 i hi
  have z := tyV_sub h (i := 0) (n := ls.length) (by rw [h.1]; omega)
  rw [e] at z; exact z
theorem pre_rfl (l : List Int32) : pre l l := ⟨Nat.le_refl _, fun _ _ => rfl⟩
theorem tail_all {rec : Int32 → Int32 → sm_H → Option (Int32 × sm_H)} {d fuel s0 x vp p s : Nat} {vs : List Val} {h0 g0 h g : sm_H} (IH : CallOK (d + 1) rec) (F : Fr d fuel s0 x vp vs h0 g0 h g p s) (c59 : g.1 67 59 = I3 (vp + vs.length)) {y : Nat} (y1 : y < nH g0) (pr : pre (hpl g0 y) (hpl g0 x)) : ∃ h' g' u, F_81 (I3 d) (I3 y) h = some h' ∧ F_343 (I3 vp) (I3 (vp + (hpl g0 y).length)) g = some g' ∧ F_349 (I3 y) g' = some u ∧ Fr d fuel s0 x vp vs h0 g0 h g' p s ∧ Ends d fuel s0 vp (tn (hrs g0 y)) h0 g0 (p + 1) (rec (I3 y) (I3 (d + 1)) h') u := by
  obtain ⟨⟨h', a1, L⟩, g', b1, P⟩ := Fr_all F c59 y1 (by rw [F.vx]; exact pr.1)
  obtain ⟨u, e1, e2⟩ := tail2 IH F y1 (Nat.le_refl _) (by omega) L P (tyV_first F.ty pr)
  exact ⟨h', g', u, a1, b1, e1, Fr_Ph F (Nat.le_refl _) P, e2⟩
theorem run_29 {rec : Int32 → Int32 → sm_H → Option (Int32 × sm_H)} {d fuel s x vp : Nat} {vs : List Val} {h0 g0 h g : sm_H} (IH : CallOK (d + 1) rec) (F : Fr d fuel s x vp vs h0 g0 h g 0 (s + 1)) (c63 : g.1 67 63 = 0) (c59 : g.1 67 59 = I3 (vp + vs.length)) (eh : sm_wI h0 49 8 (h0.1 49 8 + 1) = h) (lf : h0.1 49 8 < h0.1 49 7) (f : fm g0 x = 29) : Ends d fuel s vp (tn (hrs g0 x)) h0 g0 0 (F_82R rec (I3 x) (I3 d) h0) g := by
  have d1 := F.d1
  have v10 := F.v10
  have x500 := F.x500
  have vl := F.vl
  have vx := F.vx
  have fs := F.fs0
  rw [f] at fs
  have C := B82_29 (rec := rec) (x1 := I3 x) (x2 := I3 d) (by rw [I3_lit, I3_lt (by omega) (by decide)]; omega) lf eh (f ▸ F.f37)
  rw [C]
  have R := B370_29 F.c56 F.l103 F.l105 F.l305 F.l77 F.l78 F.l81 F.l81' (f ▸ F.l75)
  obtain ⟨ep, n, n1, ea, er, el⟩ := FS_29 fs
  have cGq := F.m.k.2.2.2.2.2.2.2.2.1
  have nG' : nG g = nG g0 := by show tn _ = tn _; rw [F.ar.1 67 35 (by unfold SRm SN; omega)]
  have w80 : nG g ≤ 80 := cGq.2.1.2
  have w500 : nH g ≤ 500 := F.m.k.2.2.2.2.1.1.2
  obtain ⟨y, y1, y2⟩ := cGq.2.2.2 n (by omega)
  have y2' : g0.1 92 n = I3 y := by rw [← (m_c F.ar (show 70 ≤ 92 by decide) (by decide)).1]; exact y2
  have ty' : tn (g0.1 92 n) = y := by rw [y2', tnI (by omega)]
  rw [ty'] at er el
  have y1' : y < nH g0 := by rw [← m_nH F.ar]; exact y1
  obtain ⟨h', g', u, a1, b1, e1, F', e2⟩ := tail_all IH F c59 y1' (by rw [el]; exact pre_rfl _)
  have C1 := C_hasTg (h := h) (n := nG g) (cGq.1.trans cGq.2.1.1) (by omega) (I3 n)
  rw [inR_I (by omega), decide_eq_true (show n < nG g by omega)] at C1
  have CC : F_82_192 rec (I3 x) (I3 d) h = rec (I3 y) (I3 (d + 1)) h' := by
    unfold F_82_192
    rw [bind_id, show F_83 rec (I3 x) (I3 d) h = F_83_0 rec (I3 x) (I3 d) h from rfl]
    unfold F_83_0 F_83_334
    have p43 : F_43 (I3 x) 0 h = some (-1, h) := by
      have := C_part_o F.m.k.2.2.2.2.1 F.m.k.2.2.2.2.2.1 F.hx (x := 0) (by show inR (I3 0) _ = _; rw [inR_I (by decide), m_pm F.ar, ← prt_len, ep]; rfl)
      exact this
    rw [p43]; simp only [obs]
    rw [F.f38, ea]; simp only [obs]
    rw [F.f37, f]; simp only [obs]
    rw [if_neg (by decide), if_neg (by decide), if_neg (by decide), if_neg (by decide), if_pos (by decide)]
    have C3 : F_157 (I3 n) h = some (I3 y, h) := by
      show F_157_0 (I3 n) h = _
      unfold F_157_0
      rw [C1]; simp only [obs]
      rw [if_neg (by decide), ldI_I (by omega) (by omega), cGq.2.2.1 n (by omega), y2]; rfl
    rw [C3]; simp only [obs]
    rw [a1]; simp only [obs]
    rw [bind_id, show I3 d + 1 = I3 (d + 1) from I3_add d 1]
  rw [CC, er]
  refine Ends_step (step_enter (by omega) F.c64 F.c56 c63 ?_) e2
  rw [R, ea, I3_add, vx, el, b1]; simp only [obs]
  rw [ldI_I (by omega) (by decide), (m_c F'.ar (by decide) (by decide)).1, y2']; simp only [obs]
  rw [e1]; rfl
theorem run_30 {rec : Int32 → Int32 → sm_H → Option (Int32 × sm_H)} {d fuel s x vp : Nat} {vs : List Val} {h0 g0 h g : sm_H} (IH : CallOK (d + 1) rec) (F : Fr d fuel s x vp vs h0 g0 h g 0 (s + 1)) (c63 : g.1 67 63 = 0) (c59 : g.1 67 59 = I3 (vp + vs.length)) (eh : sm_wI h0 49 8 (h0.1 49 8 + 1) = h) (lf : h0.1 49 8 < h0.1 49 7) (f : fm g0 x = 30) : Ends d fuel s vp (tn (hrs g0 x)) h0 g0 0 (F_82R rec (I3 x) (I3 d) h0) g := by
  have d1 := F.d1
  have v10 := F.v10
  have x500 := F.x500
  have vl := F.vl
  have vx := F.vx
  have fs := F.fs0
  rw [f] at fs
  have C := B82_30 (rec := rec) (x1 := I3 x) (x2 := I3 d) (by rw [I3_lit, I3_lt (by omega) (by decide)]; omega) lf eh (f ▸ F.f37)
  rw [C]
  have R := B370_30 F.c56 F.l103 F.l105 F.l305 F.l77 F.l78 F.l81 F.l81' (f ▸ F.l75)
  obtain ⟨y, z, n, y1, z1, ep, et, n1, ea, er, el⟩ := FS_30 fs
  have cOq := F.m.k.2.2.2.2.2.2.2.2.2.1
  have nO' : nO g = nO g0 := by show tn _ = tn _; rw [F.ar.1 67 37 (by unfold SRm SN; omega)]
  have w20 : nO g ≤ 20 := cOq.2.1.2
  have C1 := C_hasPt (h := h) (n := nO g) (cOq.1.trans cOq.2.1.1) (by omega) (I3 n)
  rw [inR_I (by omega), decide_eq_true (show n < nO g by omega)] at C1
  have el' : hpl g0 z = hpl g0 y := by show pl g0 (ty g0 z) = pl g0 (ty g0 y); rw [et]
  have er' : hrs g0 z = hrs g0 y := by show rs g0 (ty g0 z) = rs g0 (ty g0 y); rw [et]
  have pl2 : (prt g0 x).length = 2 := by rw [ep]; rfl
  have e0 : g0.1 81 (24 * x) = I3 y := by have := F.at81 (k := 0) (by omega); rw [ep] at this; exact this
  have e1' : g0.1 81 (24 * x + 1) = I3 z := by have := F.at81 (k := 1) (by omega); rw [ep] at this; exact this
  obtain ⟨b, hb⟩ := cOq.2.2.2 n (by omega)
  have hb0 : g0.1 93 n = b2 b := by rw [← (m_c F.ar (show 70 ≤ 93 by decide) (by decide)).1]; exact hb
  have key : ∀ w, w < nH g0 → hpl g0 w = hpl g0 y → hrs g0 w = hrs g0 y → (F_43 (I3 x) (b2 b) h = some (I3 w, h)) → (∀ g', agr SRm g0 g' → (ldZ g' 93 20 (I3 n)).bind (fun v80 => if v80 = 0 then F_370_803 (I3 y) g' else F_370_803 (I3 z) g') = F_370_803 (I3 w) g') → Ends d fuel s vp (tn (hrs g0 x)) h0 g0 0 (F_82_192 rec (I3 x) (I3 d) h) g := fun w w1 w2 w3 w4 w5 => by
    obtain ⟨h', g', u, a1, b1, e1, F', e2⟩ := tail_all IH F c59 w1 (by rw [w2, el]; exact pre_rfl _)
    have CC : F_82_192 rec (I3 x) (I3 d) h = rec (I3 w) (I3 (d + 1)) h' := by
      unfold F_82_192
      rw [bind_id, show F_83 rec (I3 x) (I3 d) h = F_83_0 rec (I3 x) (I3 d) h from rfl]
      unfold F_83_0 F_83_334
      rw [show F_43 (I3 x) 0 h = some (I3 y, h) by have := F.f43 (k := 0) (by omega); rw [ep] at this; exact this]; simp only [obs]
      rw [F.f38, ea]; simp only [obs]
      rw [F.f37, f]; simp only [obs]
      rw [if_neg (by decide), if_neg (by decide), if_neg (by decide), if_neg (by decide), if_neg (by decide)]
      have C3 : F_161 (I3 n) h = some (b2 b, h) := by
        show F_161_0 (I3 n) h = _
        unfold F_161_0
        rw [C1]; simp only [obs]
        rw [if_neg (by decide), ldZ_I (n := 20) (by omega) (by decide), cOq.2.2.1 n (by omega), hb]; simp only [obs]
        cases b <;> rfl
      rw [C3]; simp only [obs]
      have fin : F_83_324 rec (I3 d) (I3 x) (b2 b) h = rec (I3 w) (I3 (d + 1)) h' := by
        unfold F_83_324 F_83_334
        rw [w4]; simp only [obs]
        rw [a1]; simp only [obs]
        rw [bind_id, show I3 d + 1 = I3 (d + 1) from I3_add d 1]
      cases b
      · exact fin
      · exact fin
    rw [CC, show hrs g0 x = hrs g0 w by rw [w3]; exact er]
    refine Ends_step (step_enter (by omega) F.c64 F.c56 c63 ?_) e2
    rw [R, ea, I3_add, e0, e1', vx, el, ← w2, b1]; simp only [obs]
    rw [w5 g' F'.ar]
    unfold F_370_803
    rw [e1]; rfl
  cases b with
  | false =>
    refine key y y1 rfl rfl ?_ (fun g' a => ?_)
    · have := F.f43 (k := 0) (by omega); rw [ep] at this; exact this
    · rw [ldZ_I (n := 20) (by omega) (by decide), (m_c a (by decide) (by decide)).1, hb0]; simp only [obs]
      rw [if_pos (by decide)]
  | true =>
    refine key z z1 el' er' ?_ (fun g' a => ?_)
    · have := F.f43 (k := 1) (by omega); rw [ep] at this; exact this
    · rw [ldZ_I (n := 20) (by omega) (by decide), (m_c a (by decide) (by decide)).1, hb0]; simp only [obs]
      rw [if_neg (by decide)]
