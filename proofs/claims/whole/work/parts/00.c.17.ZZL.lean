theorem tag_I {q : Nat} (h1 : 7 ≤ q ∨ q = 0) (h2 : q < 2147483648) : tag (I3 q) = I3 q := by
  unfold tag
  rw [if_neg]
  rw [I3_lit, I3_lit, I3_le (by decide) h2, I3_le h2 (by decide)]; omega
theorem tag_p {q : Nat} (h1 : 1 ≤ q) (h2 : q ≤ 6) : tag (I3 q) = 0 := by
  unfold tag
  rw [if_pos]
  rw [I3_lit, I3_lit, I3_le (by decide) (by omega), I3_le (by omega) (by decide)]; omega
theorem okO_7 {g : sm_H} {q : Nat} {n : Int64} (h : okO g q n) : 9 ≤ q := by
  rcases h with h | h | h | h
  · omega
  · omega
  · omega
  · omega
abbrev S48 (b j : Nat) : Prop := b = 67 ∧ (j = 48 ∨ j = 49)
def conV (g : sm_H) (k : Nat) (c : Int64) : Val := if k ≤ 6 then (I3 k, c) else if c = -1 then (0, 0) else (g.1 94 c.toInt.toNat, g.2.1 95 c.toInt.toNat)
theorem conV_m {g g1 : sm_H} (a : agr SRm g g1) (k : Nat) (c : Int64) : conV g1 k c = conV g k c := by
  unfold conV; rw [(m_c a (show 70 ≤ 94 by decide) (by decide)).1, (m_c a (show 70 ≤ 95 by decide) (by decide)).2]
theorem okK_m {g g1 : sm_H} (a : agr SRm g g1) {k : Nat} {c : Int64} (ok : okK g k c) : okK g1 k c := by
  rcases ok with z | ⟨z1, z2⟩
  · exact Or.inl z
  · refine Or.inr ⟨z1, ?_⟩
    rcases z2 with z | ⟨v, v1, v2, v3⟩
    · exact Or.inl z
    · refine Or.inr ⟨v, ?_, v2, ?_⟩
      · show v < tn _; rw [a.1 67 40 (by unfold SRm SN; omega)]; exact v1
      · rw [m_B a, (m_c a (show 70 ≤ 94 by decide) (by decide)).1]; exact v3
theorem constV {h g : sm_H} (K : K1 h g) {k : Nat} {c : Int64} (hk : k < 20 + nC g) (ok : okK g k c) : okV g k (conV g k c).1 (conV g k c).2 ∧ F_153 (I3 k) c h = some ((conV g k c).2, h) ∧ F_154 (I3 k) c h = some (tag (conV g k c).1, h) ∧ ∃ g', F_353 (I3 k) c g = some g' ∧ agr S48 g g' ∧ g'.1 67 48 = (conV g k c).1 ∧ g'.2.1 67 49 = (conV g k c).2 := by
  have wK := K.1
  have h12 := wK.2.1
  have cVq := K.2.2.2.2.2.2.2.2.2.2.1
  have w100 : nV g ≤ 100 := cVq.2.1.2
  have CP := C_plain (h := h) (a := k) (by omega)
  have RP := R_plain (g := g) (a := k) (by omega)
  rcases ok with ⟨k1, k2, k3⟩ | ⟨k7, rest⟩
  · rw [decide_eq_true (show 1 ≤ k ∧ k ≤ 6 by omega)] at CP RP
    rw [show conV g k c = (I3 k, c) by unfold conV; rw [if_pos k2]]
    refine ⟨Or.inl ⟨k1, k2, rfl, k3⟩, ?_, ?_, sm_wJ (sm_wI g 67 48 (I3 k)) 67 49 c, ?_, agr_wJ (agr_wI agr_rfl (by unfold S48; omega)) (by unfold S48; omega), rfl, rfl⟩
    · show F_153_0 (I3 k) c h = _
      unfold F_153_0
      rw [CP]; simp only [obs]; rw [if_neg (by decide)]; rfl
    · show F_154_0 (I3 k) c h = _
      unfold F_154_0
      rw [CP]; simp only [obs]; rw [if_neg (by decide), tag_p k1 k2]; rfl
    · show F_353_0 (I3 k) c g = _
      unfold F_353_0
      rw [RP]; simp only [obs]; rw [if_neg (by decide)]; rfl
  · rw [decide_eq_false (show ¬ (1 ≤ k ∧ k ≤ 6) by omega)] at CP RP
    rcases rest with rfl | ⟨v, v1, rfl, v3⟩
    · have t0 := C_vtag cVq (-1)
      have n0 := C_vnum cVq (-1)
      rw [inR_m1] at t0 n0
      rw [show conV g k (-1) = (0, 0) by unfold conV; rw [if_neg (by omega), if_pos rfl]]
      refine ⟨Or.inr (Or.inl ⟨Or.inr k7, rfl, rfl⟩), ?_, ?_, sm_wJ (sm_wI g 67 48 0) 67 49 0, ?_, agr_wJ (agr_wI agr_rfl (by unfold S48; omega)) (by unfold S48; omega), rfl, rfl⟩
      · show F_153_0 (I3 k) (-1) h = _
        unfold F_153_0
        rw [CP]; simp only [obs]; rw [if_pos (by decide), show F_150 (-1) h = _ from n0]; rfl
      · show F_154_0 (I3 k) (-1) h = _
        unfold F_154_0
        rw [CP]; simp only [obs]; rw [if_pos (by decide), show F_151 (-1) h = _ from t0]; rfl
      · show F_353_0 (I3 k) (-1) g = _
        unfold F_353_0
        rw [RP]; simp only [obs]
        rw [if_pos (by decide), if_pos (by decide), show F_299 7 g = _ from R_zero (q := 7) (by decide)]; rfl
    · have t0 := C_vtag cVq (I3 v)
      have n0 := C_vnum cVq (I3 v)
      rw [inR_I (by omega), decide_eq_true v1, tnI (by omega), I3_64 (by omega)] at t0 n0
      obtain ⟨q, z1, z2, z3⟩ := cVq.2.2.2 v v1
      have q9 := okO_7 z3
      rw [z1, tnI (by omega)] at v3
      have ne : ¬ I6 v = -1 := fun e => by have z := congrArg Int64.toInt e; rw [I6_toInt (by omega)] at z; exact absurd z (by show ¬ (v : Int) = -1; omega)
      rw [show conV g k (I6 v) = (g.1 94 v, g.2.1 95 v) by unfold conV; rw [if_neg (by omega), if_neg ne, I6_toInt (by omega)]; rfl]
      refine ⟨?_, ?_, ?_, sm_wJ (sm_wI g 67 48 (g.1 94 v)) 67 49 (g.2.1 95 v), ?_, agr_wJ (agr_wI agr_rfl (by unfold S48; omega)) (by unfold S48; omega), rfl, rfl⟩
      · exact Or.inr (Or.inr ⟨k7, q, z1, z2, v3, z3⟩)
      · show F_153_0 (I3 k) (I6 v) h = _
        unfold F_153_0
        rw [CP]; simp only [obs]; rw [if_pos (by decide), n0]; rfl
      · show F_154_0 (I3 k) (I6 v) h = _
        unfold F_154_0
        rw [CP]; simp only [obs]; rw [if_pos (by decide), t0]
        show some (g.1 94 v, h) = _
        rw [z1, tag_I (by omega) (by omega)]
      · show F_353_0 (I3 k) (I6 v) g = _
        unfold F_353_0
        rw [RP]; simp only [obs]
        rw [if_pos (by decide), if_neg (by rw [cmp_eq]; exact ne), I6_32, ldI_I (by omega) (by decide)]; simp only [obs]
        rw [ldJ_I (by omega) (by decide)]; rfl
section
variable {d fuel s0 x vp p s : Nat} {vs : List Val} {h0 g0 h g : sm_H}
theorem Fr_48 (F : Fr d fuel s0 x vp vs h0 g0 h g p s) {g' : sm_H} (a : agr S48 g g') : Fr d fuel s0 x vp vs h0 g0 h g' p s := Fr_g F (agr_mono (fun b j z => by unfold S48 at z; unfold SG; omega) a)
end
theorem Ph_48 {g g' g2 : sm_H} {T : Nat} {ws : List Val} (P : Ph g g' T ws) (a : agr S48 g' g2) : Ph g g2 T ws := by
  refine ⟨agr_trans P.a (agr_mono (fun b j z => by unfold S48 at z; unfold SP; omega) a), (a.1 67 59 (by unfold S48; omega)).trans P.n, fun i hi => ?_⟩
  rw [a.1 108 _ (by unfold S48; omega), a.2.1 109 _ (by unfold S48; omega)]
  exact P.s i hi
section
variable {d fuel s0 x vp p s : Nat} {vs : List Val} {h0 g0 h g : sm_H}
theorem Fr.k351 (F : Fr d fuel s0 x vp vs h0 g0 h g p s) {i : Nat} (hi : i < vs.length) : F_351 (I3 i) g = some ((atv vs i).1, g) := by
  have := F.v10
  have := F.vl
  have := F.d1
  show F_351_0 (I3 i) g = _
  unfold F_351_0
  rw [F.c56, show I3 (d + 1) - 1 = I3 d from I3_sub (a := d + 1) (b := 1) (by omega), F.l105]; simp only [obs]
  rw [I3_add, ldI_I (by omega) (by decide), (F.st i hi).1]; rfl
theorem Fr.k352 (F : Fr d fuel s0 x vp vs h0 g0 h g p s) {i : Nat} (hi : i < vs.length) : F_352 (I3 i) g = some ((atv vs i).2, g) := by
  have := F.v10
  have := F.vl
  have := F.d1
  show F_352_0 (I3 i) g = _
  unfold F_352_0
  rw [F.c56, show I3 (d + 1) - 1 = I3 d from I3_sub (a := d + 1) (b := 1) (by omega), F.l105]; simp only [obs]
  rw [I3_add, ldJ_I (by omega) (by decide), (F.st i hi).2]; rfl
theorem Fr.c77 (F : Fr d fuel s0 x vp vs h0 g0 h g p s) {i : Nat} (hi : i < vs.length) : F_77 (I3 d) (I3 i) h = some ((atv vs i).2, h) := by
  have := F.v10
  have := F.d1
  rw [C_num (by omega) (by omega), (F.fr i hi).1]
theorem Fr.c78 (F : Fr d fuel s0 x vp vs h0 g0 h g p s) {i : Nat} (hi : i < vs.length) : F_78 (I3 d) (I3 i) h = some (tag (atv vs i).1, h) := by
  have := F.v10
  have := F.d1
  rw [C_tg (by omega) (by omega), (F.fr i hi).2]
theorem Fr_all (F : Fr d fuel s0 x vp vs h0 g0 h g p s) (c59 : g.1 67 59 = I3 (vp + vs.length)) {y : Nat} (y1 : y < nH g0) (l : (hpl g0 y).length ≤ vs.length) : (∃ h', F_81 (I3 d) (I3 y) h = some h' ∧ Ly h h' (d + 1) (sub vs 0 (hpl g0 y).length)) ∧ ∃ g', F_343 (I3 vp) (I3 (vp + (hpl g0 y).length)) g = some g' ∧ Ph g g' (vp + vs.length) (sub vs 0 (hpl g0 y).length) := by
  have v10 := F.v10
  have vl := F.vl
  have d1 := F.d1
  obtain ⟨h1, a1, L1⟩ := C_lend (i := 0) (n := (hpl g0 y).length) (Ly_0 h (d + 1)) F.fr d1 (by omega) (by omega) (by simp only [List.length_nil]; omega)
  obtain ⟨g1, b1, P1⟩ := R_copy (i := 0) (n := (hpl g0 y).length) (Ph_0 c59) F.st (Nat.le_refl _) (by omega) (by simp only [List.length_nil]; omega)
  rw [List.nil_append] at L1 P1
  refine ⟨⟨h1, ?_, L1⟩, g1, b1, P1⟩
  show F_81_0 (I3 d) (I3 y) h = _
  unfold F_81_0
  rw [F.cmn y1]; simp only [obs]
  rw [show F_80 (I3 d) 0 0 (I3 (hpl g0 y).length) h = some h1 from a1]; rfl
end
theorem tyV_first {g : sm_H} {ks ls : List Int32} {vs : List Val} (h : tyV g ks vs) (p : pre ls ks) : tyV g ls (sub vs 0 ls.length) := by
  have l := p.1
  have e : seg ks 0 ls.length = ls := by
    refine lst_ext (seg_len _ _ _) (fun i hi => ?_)
    rw [seg_len] at hi
    rw [show at0 (seg ks 0 ls.length) i = at0 ks (0 + i) from at0_lst hi, Nat.zero_add]
    exact p.2 i hi
  have z := tyV_sub h (i := 0) (n := ls.length) (by rw [h.1]; omega)
  rw [e] at z; exact z
theorem pre_rfl (l : List Int32) : pre l l := ⟨Nat.le_refl _, fun _ _ => rfl⟩
theorem tail_all {rec : Int32 → Int32 → sm_H → Option (Int32 × sm_H)} {d fuel s0 x vp p s : Nat} {vs : List Val} {h0 g0 h g : sm_H} (IH : CallOK (d + 1) rec) (F : Fr d fuel s0 x vp vs h0 g0 h g p s) (c59 : g.1 67 59 = I3 (vp + vs.length)) {y : Nat} (y1 : y < nH g0) (pr : pre (hpl g0 y) (hpl g0 x)) : ∃ h' g' u, F_81 (I3 d) (I3 y) h = some h' ∧ F_343 (I3 vp) (I3 (vp + (hpl g0 y).length)) g = some g' ∧ F_349 (I3 y) g' = some u ∧ Fr d fuel s0 x vp vs h0 g0 h g' p s ∧ Ends d fuel s0 vp (tn (hrs g0 y)) h0 g0 (p + 1) (rec (I3 y) (I3 (d + 1)) h') u := by
  obtain ⟨⟨h', a1, L⟩, g', b1, P⟩ := Fr_all F c59 y1 (by rw [F.vx]; exact pr.1)
  obtain ⟨u, e1, e2⟩ := tail2 IH F y1 (Nat.le_refl _) (by omega) L P (tyV_first F.ty pr)
  exact ⟨h', g', u, a1, b1, e1, Fr_Ph F (Nat.le_refl _) P, e2⟩
theorem run_29 {rec : Int32 → Int32 → sm_H → Option (Int32 × sm_H)} {d fuel s x vp : Nat} {vs : List Val} {h0 g0 h g : sm_H} (IH : CallOK (d + 1) rec) (F : Fr d fuel s x vp vs h0 g0 h g 0 (s + 1)) (c63 : g.1 67 63 = 0) (c59 : g.1 67 59 = I3 (vp + vs.length)) (eh : sm_wI h0 49 8 (h0.1 49 8 + 1) = h) (lf : h0.1 49 8 < h0.1 49 7) (f : fm g0 x = 29) : Ends d fuel s vp (tn (hrs g0 x)) h0 g0 0 (F_82R rec (I3 x) (I3 d) h0) g := by
  have d1 := F.d1
  have v10 := F.v10
  have x500 := F.x500
  have vl := F.vl
  have vx := F.vx
  have fs := F.fs0
  rw [f] at fs
  have C := B82_29 (rec := rec) (x1 := I3 x) (x2 := I3 d) (by rw [I3_lit, I3_lt (by omega) (by decide)]; omega) lf eh (f ▸ F.f37)
  rw [C]
  have R := B370_29 F.c56 F.l103 F.l105 F.l305 F.l77 F.l78 F.l81 F.l81' (f ▸ F.l75)
  obtain ⟨ep, n, n1, ea, er, el⟩ := FS_29 fs
  have cGq := F.m.k.2.2.2.2.2.2.2.2.1
  have nG' : nG g = nG g0 := by show tn _ = tn _; rw [F.ar.1 67 35 (by unfold SRm SN; omega)]
  have w80 : nG g ≤ 80 := cGq.2.1.2
  have w500 : nH g ≤ 500 := F.m.k.2.2.2.2.1.1.2
  obtain ⟨y, y1, y2⟩ := cGq.2.2.2 n (by omega)
  have y2' : g0.1 92 n = I3 y := by rw [← (m_c F.ar (show 70 ≤ 92 by decide) (by decide)).1]; exact y2
  have ty' : tn (g0.1 92 n) = y := by rw [y2', tnI (by omega)]
  rw [ty'] at er el
  have y1' : y < nH g0 := by rw [← m_nH F.ar]; exact y1
  obtain ⟨h', g', u, a1, b1, e1, F', e2⟩ := tail_all IH F c59 y1' (by rw [el]; exact pre_rfl _)
  have C1 := C_hasTg (h := h) (n := nG g) (cGq.1.trans cGq.2.1.1) (by omega) (I3 n)
  rw [inR_I (by omega), decide_eq_true (show n < nG g by omega)] at C1
  have CC : F_82_192 rec (I3 x) (I3 d) h = rec (I3 y) (I3 (d + 1)) h' := by
    unfold F_82_192
    rw [bind_id, show F_83 rec (I3 x) (I3 d) h = F_83_0 rec (I3 x) (I3 d) h from rfl]
    unfold F_83_0 F_83_334
    have p43 : F_43 (I3 x) 0 h = some (-1, h) := by
      have := C_part_o F.m.k.2.2.2.2.1 F.m.k.2.2.2.2.2.1 F.hx (x := 0) (by show inR (I3 0) _ = _; rw [inR_I (by decide), m_pm F.ar, ← prt_len, ep]; rfl)
      exact this
    rw [p43]; simp only [obs]
    rw [F.f38, ea]; simp only [obs]
    rw [F.f37, f]; simp only [obs]
    rw [if_neg (by decide), if_neg (by decide), if_neg (by decide), if_neg (by decide), if_pos (by decide)]
    have C3 : F_157 (I3 n) h = some (I3 y, h) := by
      show F_157_0 (I3 n) h = _
      unfold F_157_0
      rw [C1]; simp only [obs]
      rw [if_neg (by decide), ldI_I (by omega) (by omega), cGq.2.2.1 n (by omega), y2]; rfl
    rw [C3]; simp only [obs]
    rw [a1]; simp only [obs]
    rw [bind_id, show I3 d + 1 = I3 (d + 1) from I3_add d 1]
  rw [CC, er]
  refine Ends_step (step_enter (by omega) F.c64 F.c56 c63 ?_) e2
  rw [R, ea, I3_add, vx, el, b1]; simp only [obs]
  rw [ldI_I (by omega) (by decide), (m_c F'.ar (by decide) (by decide)).1, y2']; simp only [obs]
  rw [e1]; rfl
theorem run_30 {rec : Int32 → Int32 → sm_H → Option (Int32 × sm_H)} {d fuel s x vp : Nat} {vs : List Val} {h0 g0 h g : sm_H} (IH : CallOK (d + 1) rec) (F : Fr d fuel s x vp vs h0 g0 h g 0 (s + 1)) (c63 : g.1 67 63 = 0) (c59 : g.1 67 59 = I3 (vp + vs.length)) (eh : sm_wI h0 49 8 (h0.1 49 8 + 1) = h) (lf : h0.1 49 8 < h0.1 49 7) (f : fm g0 x = 30) : Ends d fuel s vp (tn (hrs g0 x)) h0 g0 0 (F_82R rec (I3 x) (I3 d) h0) g := by
  have d1 := F.d1
  have v10 := F.v10
  have x500 := F.x500
  have vl := F.vl
  have vx := F.vx
  have fs := F.fs0
  rw [f] at fs
  have C := B82_30 (rec := rec) (x1 := I3 x) (x2 := I3 d) (by rw [I3_lit, I3_lt (by omega) (by decide)]; omega) lf eh (f ▸ F.f37)
  rw [C]
  have R := B370_30 F.c56 F.l103 F.l105 F.l305 F.l77 F.l78 F.l81 F.l81' (f ▸ F.l75)
  obtain ⟨y, z, n, y1, z1, ep, et, n1, ea, er, el⟩ := FS_30 fs
  have cOq := F.m.k.2.2.2.2.2.2.2.2.2.1
  have nO' : nO g = nO g0 := by show tn _ = tn _; rw [F.ar.1 67 37 (by unfold SRm SN; omega)]
  have w20 : nO g ≤ 20 := cOq.2.1.2
  have C1 := C_hasPt (h := h) (n := nO g) (cOq.1.trans cOq.2.1.1) (by omega) (I3 n)
  rw [inR_I (by omega), decide_eq_true (show n < nO g by omega)] at C1
  have el' : hpl g0 z = hpl g0 y := by show pl g0 (ty g0 z) = pl g0 (ty g0 y); rw [et]
  have er' : hrs g0 z = hrs g0 y := by show rs g0 (ty g0 z) = rs g0 (ty g0 y); rw [et]
  have pl2 : (prt g0 x).length = 2 := by rw [ep]; rfl
  have e0 : g0.1 81 (24 * x) = I3 y := by have := F.at81 (k := 0) (by omega); rw [ep] at this; exact this
  have e1' : g0.1 81 (24 * x + 1) = I3 z := by have := F.at81 (k := 1) (by omega); rw [ep] at this; exact this
  obtain ⟨b, hb⟩ := cOq.2.2.2 n (by omega)
  have hb0 : g0.1 93 n = b2 b := by rw [← (m_c F.ar (show 70 ≤ 93 by decide) (by decide)).1]; exact hb
  have key : ∀ w, w < nH g0 → hpl g0 w = hpl g0 y → hrs g0 w = hrs g0 y → (F_43 (I3 x) (b2 b) h = some (I3 w, h)) → (∀ g', agr SRm g0 g' → (ldZ g' 93 20 (I3 n)).bind (fun v80 => if v80 = 0 then F_370_803 (I3 y) g' else F_370_803 (I3 z) g') = F_370_803 (I3 w) g') → Ends d fuel s vp (tn (hrs g0 x)) h0 g0 0 (F_82_192 rec (I3 x) (I3 d) h) g := fun w w1 w2 w3 w4 w5 => by
    obtain ⟨h', g', u, a1, b1, e1, F', e2⟩ := tail_all IH F c59 w1 (by rw [w2, el]; exact pre_rfl _)
    have CC : F_82_192 rec (I3 x) (I3 d) h = rec (I3 w) (I3 (d + 1)) h' := by
      unfold F_82_192
      rw [bind_id, show F_83 rec (I3 x) (I3 d) h = F_83_0 rec (I3 x) (I3 d) h from rfl]
      unfold F_83_0 F_83_334
      rw [show F_43 (I3 x) 0 h = some (I3 y, h) by have := F.f43 (k := 0) (by omega); rw [ep] at this; exact this]; simp only [obs]
      rw [F.f38, ea]; simp only [obs]
      rw [F.f37, f]; simp only [obs]
      rw [if_neg (by decide), if_neg (by decide), if_neg (by decide), if_neg (by decide), if_neg (by decide)]
      have C3 : F_161 (I3 n) h = some (b2 b, h) := by
        show F_161_0 (I3 n) h = _
        unfold F_161_0
        rw [C1]; simp only [obs]
        rw [if_neg (by decide), ldZ_I (n := 20) (by omega) (by decide), cOq.2.2.1 n (by omega), hb]; simp only [obs]
        cases b <;> rfl
      rw [C3]; simp only [obs]
      have fin : F_83_324 rec (I3 d) (I3 x) (b2 b) h = rec (I3 w) (I3 (d + 1)) h' := by
        unfold F_83_324 F_83_334
        rw [w4]; simp only [obs]
        rw [a1]; simp only [obs]
        rw [bind_id, show I3 d + 1 = I3 (d + 1) from I3_add d 1]
      cases b
      · exact fin
      · exact fin
    rw [CC, show hrs g0 x = hrs g0 w by rw [w3]; exact er]
    refine Ends_step (step_enter (by omega) F.c64 F.c56 c63 ?_) e2
    rw [R, ea, I3_add, e0, e1', vx, el, ← w2, b1]; simp only [obs]
    rw [w5 g' F'.ar]
    unfold F_370_803
    rw [e1]; rfl
  cases b with
  | false =>
    refine key y y1 rfl rfl ?_ (fun g' a => ?_)
    · have := F.f43 (k := 0) (by omega); rw [ep] at this; exact this
    · rw [ldZ_I (n := 20) (by omega) (by decide), (m_c a (by decide) (by decide)).1, hb0]; simp only [obs]
      rw [if_pos (by decide)]
  | true =>
    refine key z z1 el' er' ?_ (fun g' a => ?_)
    · have := F.f43 (k := 1) (by omega); rw [ep] at this; exact this
    · rw [ldZ_I (n := 20) (by omega) (by decide), (m_c a (by decide) (by decide)).1, hb0]; simp only [obs]
      rw [if_neg (by decide)]
theorem run_6 {rec : Int32 → Int32 → sm_H → Option (Int32 × sm_H)} {d fuel s x vp : Nat} {vs : List Val} {h0 g0 h g : sm_H} (IH : CallOK (d + 1) rec) (F : Fr d fuel s x vp vs h0 g0 h g 0 (s + 1)) (c63 : g.1 67 63 = 0) (c59 : g.1 67 59 = I3 (vp + vs.length)) (eh : sm_wI h0 49 8 (h0.1 49 8 + 1) = h) (lf : h0.1 49 8 < h0.1 49 7) (f : fm g0 x = 6) : Ends d fuel s vp (tn (hrs g0 x)) h0 g0 0 (F_82R rec (I3 x) (I3 d) h0) g := by
  have d1 := F.d1
  have v10 := F.v10
  have x500 := F.x500
  have vl := F.vl
  have vx := F.vx
  have fs := F.fs0
  rw [f] at fs
  have C := B82_6 (rec := rec) (x1 := I3 x) (x2 := I3 d) (by rw [I3_lit, I3_lt (by omega) (by decide)]; omega) lf eh (f ▸ F.f37)
  rw [C]
  have R := B370_6 F.c56 F.l103 F.l105 F.l305 F.l77 F.l78 F.l81 F.l81' (f ▸ F.l75)
  obtain ⟨y, n, y1, ep, hn, ea, ok, er, el⟩ := FS_6 fs
  have n10 := F.n10 y1
  have pl1 : (prt g0 x).length = 1 := by rw [ep]; rfl
  have e81 : g0.1 81 (24 * x) = I3 y := by have := F.at81 (k := 0) (by omega); rw [ep] at this; exact this
  have lx : vs.length + 1 = (hpl g0 y).length := by rw [vx, el, List.length_append, List.length_take, List.length_drop]; omega
  have y1' : y < nH g := by rw [m_nH F.ar]; exact y1
  obtain ⟨k, k1, k2, k3⟩ := kL_h F.m.k y1' n (by rw [m_hpl F.ar]; exact hn)
  rw [m_hpl F.ar] at k1
  have h12 := F.m.k.1.2.1
  rw [k1, tnI (by omega)] at ok
  obtain ⟨h1, a1, L1⟩ := C_lend (i := 0) (n := n) (Ly_0 h (d + 1)) F.fr d1 (by omega) (by omega) (by simp only [List.length_nil]; omega)
  rw [List.nil_append] at L1
  have s1 : (sub vs 0 n).length = n := sub_len (by omega)
  have F1 := Fr_Ly F L1
  obtain ⟨v1, v2, v3, -⟩ := constV F1.m.k (c := g0.2.1 79 x) k3 (okK_m F.ar ok)
  rw [conV_m F.ar] at v1 v2 v3
  generalize hv : conV g0 k (g0.2.1 79 x) = v at v1 v2 v3
  obtain ⟨h2, a2, L2⟩ := C_lay1 L1 (by omega) (by omega) v
  have l2 : (sub vs 0 n ++ [v]).length = n + 1 := by rw [List.length_append, s1]; rfl
  obtain ⟨h3, a3, L3⟩ := C_lend (i := n) (n := (hpl g0 y).length - n - 1) L2 F.fr d1 (by omega) (by omega) (by omega)
  rw [l2] at a3
  rw [s1] at a2
  have F2 := Fr_Ly F L2
  have CC : F_82_192 rec (I3 x) (I3 d) h = rec (I3 y) (I3 (d + 1)) h3 := by
    unfold F_82_192
    rw [bind_id, show F_83 rec (I3 x) (I3 d) h = F_83_0 rec (I3 x) (I3 d) h from rfl]
    unfold F_83_0 F_83_334
    rw [show F_43 (I3 x) 0 h = some (I3 y, h) by have := F.f43 (k := 0) (by omega); rw [ep] at this; exact this]; simp only [obs]
    rw [F.f38, ea]; simp only [obs]
    rw [F.f37, f]; simp only [obs]
    rw [if_neg (by decide), if_neg (by decide), if_pos (by decide), C_pc F.m.k y1' (by rw [m_hpl F.ar]; exact hn), m_hpl F.ar, k1]; simp only [obs]
    rw [F.f40]; simp only [obs]
    rw [show F_80 (I3 d) 0 0 (I3 n) h = some h1 from a1]; simp only [obs]
    rw [v2]; simp only [obs]
    rw [v3]; simp only [obs]
    rw [show I3 d + 1 = I3 (d + 1) from I3_add d 1, a2]; simp only [obs]
    rw [F2.cmn y1]; simp only [obs]
    rw [show I3 n + 1 = I3 (n + 1) from I3_add n 1, show I3 (hpl g0 y).length - I3 n - 1 = I3 ((hpl g0 y).length - n - 1) by rw [I3_sub (by omega)]; exact I3_sub (b := 1) (by omega), a3]; simp only [obs]
    rw [bind_id]
  rw [CC]
  obtain ⟨g1, b1, P1⟩ := R_copy (i := 0) (n := n) (Ph_0 c59) F.st (Nat.le_refl _) (by omega) (by simp only [List.length_nil]; omega)
  rw [List.nil_append] at P1
  have G1 := Fr_Ph F (Nat.le_refl _) P1
  obtain ⟨-, -, -, g2, w4, w5, w6, w7⟩ := constV G1.m.k (c := g0.2.1 79 x) (by rw [m_nC G1.ar, ← m_nC F.ar]; exact k3) (okK_m G1.ar ok)
  rw [conV_m G1.ar, hv] at w6 w7
  have P2 := Ph_48 P1 w5
  obtain ⟨g3, b3, P3⟩ := R_push P2 (by omega) v
  obtain ⟨g4, b4, P4⟩ := R_copy (i := n) (n := (hpl g0 y).length - n - 1) P3 F.st (Nat.le_refl _) (by omega) (by omega)
  have tw : tyV g (hpl g0 y) (sub vs 0 n ++ [v] ++ sub vs n ((hpl g0 y).length - n - 1)) := by
    have z := tyV_app (tyV_app (tyV_sub F.ty (i := 0) (n := n) (by omega)) (tyV_1 (k := at0 (hpl g0 y) n) (v := v) (by rw [k1, tnI (by omega)]; exact v1))) (tyV_sub F.ty (i := n) (n := (hpl g0 y).length - n - 1) (by omega))
    have e1 : seg (hpl g0 x) 0 n = (hpl g0 y).take n := by
      rw [seg_take (by omega), el, List.take_append_of_le_length (by rw [List.length_take]; omega), List.take_take, Nat.min_self]
    have e2 : seg (hpl g0 x) n ((hpl g0 y).length - n - 1) = (hpl g0 y).drop (n + 1) := by
      rw [seg_drop (by omega), el, List.drop_left' (by rw [List.length_take]; omega)]
    have e3 : (hpl g0 y).take n ++ [at0 (hpl g0 y) n] = (hpl g0 y).take (n + 1) := by
      rw [at0_get hn, ← List.take_succ_eq_append_getElem hn]
    rw [e1, e2, e3, List.take_append_drop] at z; exact z
  obtain ⟨u, e1, e2⟩ := tail2 IH F y1 (Nat.le_refl _) (by omega) L3 P4 tw
  rw [er]
  refine Ends_step (step_enter (by omega) F.c64 F.c56 c63 ?_) e2
  rw [R, ea, e81, I3_add, show F_343 (I3 vp) (I3 (vp + n)) g = some g1 from b1]; simp only [obs]
  rw [R_pc G1.m.k (by rw [m_nH G1.ar]; exact y1) (by rw [m_hpl G1.ar]; exact hn), m_hpl G1.ar, k1]; simp only [obs]
  rw [G1.l79]; simp only [obs]
  rw [w4]; simp only [obs]
  rw [w6, w7, b3]; simp only [obs]
  rw [I3_add, show vp + vs.length = vp + n + ((hpl g0 y).length - n - 1) by omega, b4]; simp only [obs]
  rw [e1]; rfl
def mvl (vs : List Val) (L : List Int32) (k : Nat) : List Val := (List.range k).map (fun i => atv vs (tn (at0 L (i + 1))))
theorem mvl_len (vs : List Val) (L : List Int32) (k : Nat) : (mvl vs L k).length = k := by unfold mvl; rw [List.length_map, List.length_range]
theorem mvl_s (vs : List Val) (L : List Int32) (k : Nat) : mvl vs L (k + 1) = mvl vs L k ++ [atv vs (tn (at0 L (k + 1)))] := by unfold mvl; rw [List.range_succ, List.map_append]; rfl
theorem atv_mvl {vs : List Val} {L : List Int32} {k i : Nat} (h : i < k) : atv (mvl vs L k) i = atv vs (tn (at0 L (i + 1))) := by
  unfold mvl atv; rw [List.getD_eq_getElem?_getD, List.getElem?_map, List.getElem?_range h]; rfl
theorem sub_1 {vs : List Val} {j : Nat} (h : j < vs.length) : sub vs j 1 = [atv vs j] := by
  have := sub_succ (l := vs) (i := j) (n := 0) (by omega)
  rw [sub_0, List.nil_append] at this; exact this
theorem run_5 {rec : Int32 → Int32 → sm_H → Option (Int32 × sm_H)} {d fuel s x vp : Nat} {vs : List Val} {h0 g0 h g : sm_H} (IH : CallOK (d + 1) rec) (F : Fr d fuel s x vp vs h0 g0 h g 0 (s + 1)) (c63 : g.1 67 63 = 0) (c59 : g.1 67 59 = I3 (vp + vs.length)) (eh : sm_wI h0 49 8 (h0.1 49 8 + 1) = h) (lf : h0.1 49 8 < h0.1 49 7) (f : fm g0 x = 5) : Ends d fuel s vp (tn (hrs g0 x)) h0 g0 0 (F_82R rec (I3 x) (I3 d) h0) g := by
  have d1 := F.d1
  have v10 := F.v10
  have x500 := F.x500
  have vl := F.vl
  have vx := F.vx
  have fs := F.fs0
  rw [f] at fs
  have C := B82_5 (rec := rec) (x1 := I3 x) (x2 := I3 d) (by rw [I3_lit, I3_lt (by omega) (by decide)]; omega) lf eh (f ▸ F.f37)
  rw [C]
  have R := B370_5 F.c56 F.l103 F.l105 F.l305 F.l77 F.l78 F.l81 F.l81' (f ▸ F.l75)
  obtain ⟨y, t, y1, t1, eb, er, er', el, pl', e0, mv⟩ := FS_5 fs
  have n10 := F.n10 y1
  have e81 : g0.1 81 (24 * x) = I3 y := by have := F.at81 (k := 0) (by omega); rw [← e0]; exact this
  have mj : ∀ k, k < (hpl g0 y).length → ∃ j, j < vs.length ∧ at0 (prt g0 x) (k + 1) = I3 j ∧ at0 (hpl g0 x) j = at0 (hpl g0 y) k := fun k hk => by
    obtain ⟨j, j1, j2, j3⟩ := mv k hk
    exact ⟨j, by omega, by rw [Nat.add_comm]; exact j2, j3⟩
  have CL : ∃ h2, F_83_131 rec (I3 x) (I3 d) (I3 y) 0 h = rec (I3 y) (I3 (d + 1)) h2 ∧ Ly h h2 (d + 1) (mvl vs (prt g0 x) (hpl g0 y).length) := by
    have LL : ∀ k, k ≤ (hpl g0 y).length → ∃ h2, F_83_131 rec (I3 x) (I3 d) (I3 y) 0 h = lp (F_83_131B rec) (1000000 - k) (I3 x, I3 d, I3 y, I3 k, h2) ∧ Ly h h2 (d + 1) (mvl vs (prt g0 x) k) := by
      intro k
      induction k with
      | zero => intro _; exact ⟨h, rfl, Ly_0 h (d + 1)⟩
      | succ k ih =>
        intro hk
        obtain ⟨h2, e1, e2⟩ := ih (by omega)
        obtain ⟨j, j1, j2, j3⟩ := mj k (by omega)
        have F2 := Fr_Ly F e2
        obtain ⟨h3, a3, L3⟩ := C_lend (i := j) (n := 1) e2 F.fr d1 (by omega) (by omega) (by rw [mvl_len]; omega)
        rw [mvl_len] at a3
        rw [sub_1 j1] at L3
        refine ⟨h3, ?_, by rw [mvl_s, j2, tnI (by omega)]; exact L3⟩
        rw [e1, lp_s (n := 1000000 - k) (s' := (I3 x, I3 d, I3 y, I3 (k + 1), h3)) (by omega) ?_]
        · rw [show 1000000 - k - 1 = 1000000 - (k + 1) by omega]
        · unfold F_83_131B
          rw [F2.cmn y1]; simp only [obs]
          rw [if_neg (by rw [I3_le (by omega) (by omega)]; omega), show I3 k + 1 = I3 (k + 1) from I3_add k 1, F2.f43 (by omega), j2]; simp only [obs]
          rw [show F_80 (I3 d) (I3 j) (I3 k) 1 h2 = some h3 from a3]; simp only [obs]
    obtain ⟨h2, e1, e2⟩ := LL _ (Nat.le_refl _)
    refine ⟨h2, ?_, e2⟩
    rw [e1]
    have F2 := Fr_Ly F e2
    have fin : ∀ (r : Option (Int32 × sm_H)), F_83_131B rec (I3 x, I3 d, I3 y, I3 (hpl g0 y).length, h2) = r.map (fun q => .inr q) → lp (F_83_131B rec) (1000000 - (hpl g0 y).length) (I3 x, I3 d, I3 y, I3 (hpl g0 y).length, h2) = r := fun r z => by
      cases r with
      | none =>
        have := lp_n (n := 1000000 - (hpl g0 y).length - 1) z
        rw [show 1000000 - (hpl g0 y).length - 1 + 1 = 1000000 - (hpl g0 y).length by omega] at this; exact this
      | some r => exact lp_e (by omega) z
    refine fin _ ?_
    unfold F_83_131B F_83_334
    rw [F2.cmn y1]; simp only [obs]
    rw [if_pos (by rw [I3_le (by omega) (by omega)]; omega), bind_id, show I3 d + 1 = I3 (d + 1) from I3_add d 1]
  obtain ⟨h2, c1, L2⟩ := CL
  have CC : F_82_192 rec (I3 x) (I3 d) h = rec (I3 y) (I3 (d + 1)) h2 := by
    unfold F_82_192
    rw [bind_id, show F_83 rec (I3 x) (I3 d) h = F_83_0 rec (I3 x) (I3 d) h from rfl]
    unfold F_83_0
    rw [show F_43 (I3 x) 0 h = some (I3 y, h) by have := F.f43 (k := 0) (by omega); rw [e0] at this; exact this]; simp only [obs]
    rw [F.f38]; simp only [obs]
    rw [F.f37, f]; simp only [obs]
    rw [if_neg (by decide), if_pos (by decide), c1]
  rw [CC]
  have tw : tyV g (hpl g0 y) (mvl vs (prt g0 x) (hpl g0 y).length) := by
    refine ⟨mvl_len _ _ _, fun i hi => ?_⟩
    rw [mvl_len] at hi
    obtain ⟨j, j1, j2, j3⟩ := mj i hi
    rw [atv_mvl hi, j2, tnI (by omega), ← j3]
    exact F.ty.2 j j1
  have RL : ∃ g2, F_370_338 (I3 x) (I3 y) 0 g = (F_349 (I3 y) g2).bind (fun q => some q) ∧ Ph g g2 (vp + vs.length) (mvl vs (prt g0 x) (hpl g0 y).length) := by
    have LL : ∀ k, k ≤ (hpl g0 y).length → ∃ g2, F_370_338 (I3 x) (I3 y) 0 g = lp F_370_338B (1000000 - k) (I3 x, I3 y, I3 k, g2) ∧ Ph g g2 (vp + vs.length) (mvl vs (prt g0 x) k) := by
      intro k
      induction k with
      | zero => intro _; exact ⟨g, rfl, Ph_0 c59⟩
      | succ k ih =>
        intro hk
        obtain ⟨g2, e1, e2⟩ := ih (by omega)
        obtain ⟨j, j1, j2, j3⟩ := mj k (by omega)
        have F2 := Fr_Ph F (Nat.le_refl _) e2
        obtain ⟨g3, b3, P3⟩ := R_push e2 (by rw [mvl_len]; omega) (atv vs j)
        refine ⟨g3, ?_, by rw [mvl_s, j2, tnI (by omega)]; exact P3⟩
        rw [e1, lp_s (n := 1000000 - k) (s' := (I3 x, I3 y, I3 (k + 1), g3)) (by omega) ?_]
        · rw [show 1000000 - k - 1 = 1000000 - (k + 1) by omega]
        · have l81 : ldI g2 81 12000 (24 * I3 x + 1 + I3 k) = some (I3 j) := by
            rw [show (24 : Int32) * I3 x + 1 + I3 k = I3 (24 * x + (k + 1)) by rw [I3_lit, I3_lit, I3_mul, I3_add, I3_add, Nat.add_assoc, Nat.add_comm 1 k], F2.l81k (by omega), F2.at81 (by omega), j2]
          unfold F_370_338B
          rw [F2.mn y1]; simp only [obs]
          rw [if_neg (by rw [I3_le (by omega) (by omega)]; omega), l81]; simp only [obs]
          rw [F2.k351 j1]; simp only [obs]
          rw [l81]; simp only [obs]
          rw [F2.k352 j1]; simp only [obs]
          rw [b3]; simp only [obs]
          rw [show I3 k + 1 = I3 (k + 1) from I3_add k 1]
    obtain ⟨g2, e1, e2⟩ := LL _ (Nat.le_refl _)
    refine ⟨g2, ?_, e2⟩
    rw [e1]
    have F2 := Fr_Ph F (Nat.le_refl _) e2
    have fin : ∀ (r : Option sm_H), F_370_338B (I3 x, I3 y, I3 (hpl g0 y).length, g2) = r.map (fun q => .inr q) → lp F_370_338B (1000000 - (hpl g0 y).length) (I3 x, I3 y, I3 (hpl g0 y).length, g2) = r := fun r z => by
      cases r with
      | none =>
        have := lp_n (n := 1000000 - (hpl g0 y).length - 1) z
        rw [show 1000000 - (hpl g0 y).length - 1 + 1 = 1000000 - (hpl g0 y).length by omega] at this; exact this
      | some r => exact lp_e (by omega) z
    refine fin _ ?_
    unfold F_370_338B
    rw [F2.mn y1]; simp only [obs]
    rw [if_pos (by rw [I3_le (by omega) (by omega)]; omega)]
    cases F_349 (I3 y) g2 <;> rfl
  obtain ⟨g2, r1, P2⟩ := RL
  obtain ⟨u, e1, e2⟩ := tail2 IH F y1 (Nat.le_refl _) (by omega) L2 P2 tw
  rw [er]
  refine Ends_step (step_enter (by omega) F.c64 F.c56 c63 ?_) e2
  rw [R, e81, r1, e1]; rfl
theorem I3_m1i {N : Nat} (hN : 0 < N) (h : N < 1000) : (Int32.toInt64 (I3 N - 1)).toInt = (N : Int) - 1 := by
  rw [toI64, I3_lit, I3m1 (by omega)]
theorem run_17 {rec : Int32 → Int32 → sm_H → Option (Int32 × sm_H)} {d fuel s x vp : Nat} {vs : List Val} {h0 g0 h g : sm_H} (IH : CallOK (d + 1) rec) (F : Fr d fuel s x vp vs h0 g0 h g 0 (s + 1)) (c63 : g.1 67 63 = 0) (c59 : g.1 67 59 = I3 (vp + vs.length)) (eh : sm_wI h0 49 8 (h0.1 49 8 + 1) = h) (lf : h0.1 49 8 < h0.1 49 7) (f : fm g0 x = 17) : Ends d fuel s vp (tn (hrs g0 x)) h0 g0 0 (F_82R rec (I3 x) (I3 d) h0) g := by
  have d1 := F.d1
  have v10 := F.v10
  have x500 := F.x500
  have vl := F.vl
  have vx := F.vx
  have fs := F.fs0
  rw [f] at fs
  have C := B82_17 (rec := rec) (x1 := I3 x) (x2 := I3 d) (by rw [I3_lit, I3_lt (by omega) (by decide)]; omega) lf eh (f ▸ F.f37)
  rw [C]
  have R := B370_17 F.c56 F.l103 F.l105 F.l305 F.l77 F.l78 F.l81 F.l81' (f ▸ F.l75)
  obtain ⟨p, mm, p1, l0, e0, all, hp, er, el⟩ := FS_17 fs
  have N20 : (prt g0 x).length ≤ 20 := by
    have := (F.m.k.2.2.2.2.1.2 x F.hx).2.2.2.2
    rw [show tn (g.1 80 x) = pm g x from rfl, m_pm F.ar, ← prt_len] at this; exact this
  have v0 : 0 < vs.length := by rw [vx, el, hp]; exact Nat.zero_lt_succ _
  have pq : F_42 (I3 x) h = some (I3 (prt g0 x).length, h) := by
    have z := C_partsOf F.m.k.2.2.2.2.1 F.m.k.2.2.2.2.2.1 F.hx
    rw [(F.m.k.2.2.2.2.1.2 x F.hx).2.2.2.1, show tn (g.1 80 x) = pm g x from rfl, m_pm F.ar, ← prt_len] at z; exact z
  generalize hn : (atv vs 0).2 = n
  have c77 : F_77 (I3 d) 0 h = some (n, h) := by have := F.c77 (i := 0) v0; rw [hn] at this; exact this
  have key : ∀ idx w, idx < (prt g0 x).length → w < nH g0 → at0 (prt g0 x) idx = I3 w → ty g0 w = ty g0 p → F_84 (I3 x) n h = F_84_47 (I3 x) (I3 idx) h → (∀ g', Fr d fuel s x vp vs h0 g0 h g' 0 (s + 1) → (if lg_cmp n 0 < 0 then F_370_663 (I3 p) g' else (ldI g' 80 500 (I3 x)).bind fun v63 => if 0 ≤ lg_cmp n (Int32.toInt64 (v63 - 1)) then F_370_663 (I3 p) g' else (ldI g' 81 12000 (24 * I3 x + 1 + Int64.toInt32 n)).bind fun v64 => F_370_665 v64 g') = F_370_665 (I3 w) g') → Ends d fuel s vp (tn (hrs g0 x)) h0 g0 0 (F_82_192 rec (I3 x) (I3 d) h) g := fun idx w i1 w1 w2 w3 w4 w5 => by
    have w2' : hpl g0 w = hpl g0 x := by rw [el]; show pl g0 (ty g0 w) = pl g0 (ty g0 p); rw [w3]
    have w3' : hrs g0 w = hrs g0 x := by rw [er]; show rs g0 (ty g0 w) = rs g0 (ty g0 p); rw [w3]
    obtain ⟨h', g', u, a1, b1, e1, F', e2⟩ := tail_all IH F c59 w1 (by rw [w2']; exact pre_rfl _)
    have CC : F_82_192 rec (I3 x) (I3 d) h = rec (I3 w) (I3 (d + 1)) h' := by
      unfold F_82_192
      rw [bind_id, show F_83 rec (I3 x) (I3 d) h = F_83_0 rec (I3 x) (I3 d) h from rfl]
      unfold F_83_0 F_83_334
      rw [show F_43 (I3 x) 0 h = some (I3 p, h) by have := F.f43 (k := 0) l0; rw [e0] at this; exact this]; simp only [obs]
      rw [F.f38]; simp only [obs]
      rw [F.f37, f]; simp only [obs]
      rw [if_neg (by decide), if_neg (by decide), if_neg (by decide), if_pos (by decide), c77]; simp only [obs]
      rw [w4]
      unfold F_84_47
      rw [F.f43 i1, w2]; simp only [obs]
      rw [a1]; simp only [obs]
      rw [bind_id, show I3 d + 1 = I3 (d + 1) from I3_add d 1]
    rw [CC, ← w3']
    refine Ends_step (step_enter (by omega) F.c64 F.c56 c63 ?_) e2
    have e81 : g0.1 81 (24 * x) = I3 p := by have := F.at81 (k := 0) l0; rw [← e0]; exact this
    rw [R, show F_352 0 g = some (n, g) by have := F.k352 (i := 0) v0; rw [hn] at this; exact this]; simp only [obs]
    rw [I3_add, vx, ← w2', b1]; simp only [obs]
    rw [e81]
    have := w5 g' F'
    rw [this]
    unfold F_370_665
    rw [e1]; rfl
  have N0 := l0
  by_cases q1 : n.toInt < 0
  · refine key 0 p l0 p1 e0 rfl ?_ (fun g' F' => ?_)
    · show F_84_0 (I3 x) n h = _
      unfold F_84_0 F_84_26 F_84_27
      rw [if_pos (by rw [cmp_lt]; exact q1), if_pos rfl]; rfl
    · rw [if_pos (by rw [cmp_lt]; exact q1)]; rfl
  · have l80 : ∀ g', Fr d fuel s x vp vs h0 g0 h g' 0 (s + 1) → ldI g' 80 500 (I3 x) = some (I3 (prt g0 x).length) := fun g' F' => by
      rw [ldI_I x500 (by decide), (F'.m.k.2.2.2.2.1.2 x F'.hx).2.2.2.1, show tn (g'.1 80 x) = pm g' x from rfl, m_pm F'.ar, ← prt_len]
    by_cases q2 : ((prt g0 x).length : Int) - 1 ≤ n.toInt
    · refine key 0 p l0 p1 e0 rfl ?_ (fun g' F' => ?_)
      · show F_84_0 (I3 x) n h = _
        unfold F_84_0 F_84_26 F_84_27
        rw [if_neg (by rw [cmp_lt]; exact q1), pq]; simp only [obs]
        rw [if_pos (by rw [cmp_ge, I3_m1i l0 (by omega)]; exact q2)]; rfl
      · rw [if_neg (by rw [cmp_lt]; exact q1), l80 g' F']; simp only [obs]
        rw [if_pos (by rw [cmp_ge, I3_m1i l0 (by omega)]; exact q2)]; rfl
    · have z0 : (0 : Int64).toInt = 0 := rfl
      have en : n = I6 n.toInt.toNat := by rw [← Int64.toInt_inj, I6_toInt (by omega)]; omega
      have e32 : Int64.toInt32 n = I3 n.toInt.toNat := by rw [en, I6_32, ← en]
      obtain ⟨w, w1, w2, w3⟩ := all (n.toInt.toNat + 1) (by omega)
      refine key (n.toInt.toNat + 1) w (by omega) w1 w2 w3 ?_ (fun g' F' => ?_)
      · show F_84_0 (I3 x) n h = _
        unfold F_84_0 F_84_27
        rw [if_neg (by rw [cmp_lt]; exact q1), pq]; simp only [obs]
        rw [if_neg (by rw [cmp_ge, I3_m1i l0 (by omega)]; exact q2), if_neg (by decide), e32, show I3 n.toInt.toNat + 1 = I3 (n.toInt.toNat + 1) from I3_add _ 1]
      · rw [if_neg (by rw [cmp_lt]; exact q1), l80 g' F']; simp only [obs]
        rw [if_neg (by rw [cmp_ge, I3_m1i l0 (by omega)]; exact q2), e32, show (24 : Int32) * I3 x + 1 + I3 n.toInt.toNat = I3 (24 * x + (n.toInt.toNat + 1)) by rw [I3_lit, I3_lit, I3_mul, I3_add, I3_add, Nat.add_assoc, Nat.add_comm 1], F'.l81k (by omega), F'.at81 (by omega), w2]; simp only [obs]
section
variable {d fuel s0 x vp p s : Nat} {vs : List Val} {h0 g0 h g : sm_H}
theorem mid {rec : Int32 → Int32 → sm_H → Option (Int32 × sm_H)} (IH : CallOK (d + 1) rec) (F : Fr d fuel s0 x vp vs h0 g0 h g p s) {h' g' : sm_H} {y T : Nat} {ws : List Val} (st : Int32) (y1 : y < nH g0) (t1 : vp + vs.length ≤ T) (t2 : T ≤ vp + vs.length + 10) (L : Ly h h' (d + 1) ws) (P : Ph g g' T ws) (tw : tyV g (hpl g0 y) ws) {rk : Nat} {k : Int32 × sm_H → Option (Int32 × sm_H)}
    (thr : ∀ o h1, o ≠ 0 → k (o, h1) = some (o, h1)) (cat : st ≠ 1 ∨ (fm g0 x ≠ 15 ∧ fm g0 x ≠ 16))
    (go : ∀ h1 g1 p1 s1, Fr d fuel s0 x vp vs h0 g0 h1 g1 p1 s1 → g1.1 67 59 = I3 T → g1.1 67 63 = 1 → g1.1 67 62 = I3 0 → g1.1 104 d = st → res h1 g1 0 (tn (hrs g0 y)) → keepR (d + 1) T (sm_wI g' 104 d st) g1 → Ends d fuel s0 vp rk h0 g0 p1 (k (0, h1)) g1) :
    ∃ u, F_350 (I3 y) st g' = some u ∧ Ends d fuel s0 vp rk h0 g0 (p + 1) ((rec (I3 y) (I3 (d + 1)) h').bind k) u := by
  have F1 := Fr_Ph (Fr_Ly F L) t1 P
  have a : agr (SG d (vp + vs.length)) g' (sm_wI g' 104 d st) := agr_wI agr_rfl (by unfold SG; omega)
  have F' := Fr_g F1 a
  obtain ⟨u, e1, e2⟩ := Fr_sub IH F' y1 t1 t2 P.n L.f P.s (tyV_grow F1.m.k.1 (grow_N (agr_mono (SG_N _ _) a)) (tyV_Ph F P tw))
  refine ⟨u, ?_, ?_⟩
  · show F_350_0 (I3 y) st g' = _
    unfold F_350_0
    rw [F1.c56, show I3 (d + 1) - 1 = I3 d from I3_sub (a := d + 1) (b := 1) (by omega), stI_I F.d1 (by decide)]; simp only [obs]
    rw [e1]; simp only [obs]
  · rcases e2 with ⟨out, h1, g1, c, s1, o1, o2, o3, o4, o5, o6, o7, o8, o9, o10, -⟩ | ⟨out, h1, o1, e4, o2, o3⟩
    · rw [o2]; simp only [obs]
      have k104 : g1.1 104 d = st := by
        rw [o9.1 104 d (by decide) (by decide) (by omega)]
        show (if d = d then st else g'.1 104 d) = _; rw [if_pos rfl]
      refine Ends_lp o3 ?_
      rcases (show out = 0 ∨ out = 1 by omega) with rfl | rfl
      · refine go h1 g1 _ s1 o4 o5 o6 o7 k104 o8 o9
      · rw [thr _ _ (by decide)]
        exact thru o4 (Nat.le_refl 1) o6 o7 ⟨o8.1, o8.2.1, fun z => by (cases z), o8.2.2.2⟩ (fun z => by cases z) (fun _ => by rw [k104]; exact cat)
    · rw [o2]; simp only [obs]
      rw [thr _ _ (by rw [Ne, I3_lit, I3_inj (by omega) (by decide)]; omega)]; exact o3 _
end
theorem go_1 {d fuel s0 x vp p s : Nat} {vs : List Val} {h0 g0 h g : sm_H} (F : Fr d fuel s0 x vp vs h0 g0 h g p s) (c62 : g.1 67 62 = I3 0) (c104 : g.1 104 d = 1) {X : sm_H → Option sm_H} (hX : ∀ (h27 : sm_H), h27 = sm_wI g 67 63 0 → ∀ v45, I3 (fm g0 x) = v45 →
    (if v45 = 7 then (F_343 (I3 vp) (I3 vp + g0.1 77 x) h27).bind fun q46 => (F_307 (g0.1 81 (24 * x + 1)) q46).bind fun q47 => if q47.1 = 0 then F_377_370 (I3 vp) (I3 vs.length) (g0.1 77 x) (g0.1 81 (24 * x)) (g0.1 81 (24 * x + 1)) q47.2 else (F_342 (g.1 67 60) (g.2.1 67 61) q47.2).bind fun q48 => F_377_370 (I3 vp) (I3 vs.length) (g0.1 77 x) (g0.1 81 (24 * x)) (g0.1 81 (24 * x + 1)) q48
    else if v45 = 8 then (F_343 (I3 vp) (I3 vp + g0.1 77 x) h27).bind fun q49 => (F_307 (g0.1 81 (24 * x + 1)) q49).bind fun q50 => if q50.1 = 0 then F_377_422 (I3 vp) (I3 vs.length) (g0.1 77 x) (g0.1 81 (24 * x)) q50.2 else (F_342 (g.1 67 60) (g.2.1 67 61) q50.2).bind fun q51 => F_377_422 (I3 vp) (I3 vs.length) (g0.1 77 x) (g0.1 81 (24 * x)) q51
    else if v45 = 9 then (F_307 (g0.1 81 (24 * x)) h27).bind fun q52 => if q52.1 = 0 then F_377_458 (g0.1 81 (24 * x + 1)) q52.2 else (F_342 (g.1 67 60) (g.2.1 67 61) q52.2).bind fun q53 => F_377_458 (g0.1 81 (24 * x + 1)) q53
    else if v45 = 12 then F_377_465 (I3 x) (g0.1 81 (24 * x)) (g.1 67 60) (g.2.1 67 61) h27
    else if v45 = 13 then F_377_465 (I3 x) (g0.1 81 (24 * x)) (g.1 67 60) (g.2.1 67 61) h27
    else if v45 = 14 then (F_343 (I3 vp) (I3 vp + I3 vs.length) h27).bind fun q54 => if lg_cmp (g.2.1 67 61) 1 = 0 then F_377_562 (g0.1 81 (24 * x + 1)) q54 else (ldI q54 81 12000 (24 * I3 x + 2)).bind fun v55 => F_377_562 v55 q54
    else if v45 = 16 then (F_342 0 0 h27).bind fun q56 => (F_307 (I3 x) q56).bind fun q57 => if q57.1 = 0 then F_377_588 (I3 x) (I3 vp) (g0.1 81 (24 * x + 1)) q57.2 else (F_342 (g.1 67 60) (g.2.1 67 61) q57.2).bind fun q58 => F_377_588 (I3 x) (I3 vp) (g0.1 81 (24 * x + 1)) q58
    else F_377_622 (g.1 67 60) (g.2.1 67 61) h27) = X h27) : F_377 g = X (sm_wI g 67 63 0) := by
  have F' := Fr_g F (g' := sm_wI g 67 63 0) (agr_wI agr_rfl (by unfold SG; omega))
  rw [← hX (sm_wI g 67 63 0) rfl _ rfl]
  show F_377_0 g = _
  unfold F_377_0
  simp only [obs]
  rw [F.c56, show I3 (d + 1) - 1 = I3 d from I3_sub (a := d + 1) (b := 1) (by omega), F.l103]; simp only [obs]
  rw [F.l105]; simp only [obs]
  rw [F.l305]; simp only [obs]
  rw [F.l77]; simp only [obs]
  rw [F.l81]; simp only [obs]
  rw [F.l81']; simp only [obs]
  rw [if_pos (show (sm_wI g 67 63 0).1 67 62 = 0 from c62), ldI_I F.d1 (by decide), show (sm_wI g 67 63 0).1 104 d = g.1 104 d from rfl, c104]; simp only [obs]
  rw [if_neg (by decide), if_neg (by decide), if_neg (by decide), if_neg (by decide), if_neg (by decide), if_neg (by decide), if_neg (by decide), F'.l75]; simp only [obs]
  rfl
section
variable {d fuel s0 x vp p s : Nat} {vs : List Val} {h0 g0 h g : sm_H}
theorem midG {rec : Int32 → Int32 → sm_H → Option (Int32 × sm_H)} (IH : CallOK (d + 1) rec) (F : Fr d fuel s0 x vp vs h0 g0 h g p s) {h' g' : sm_H} {y T : Nat} {ws : List Val} (st : Int32) (y1 : y < nH g0) (t1 : vp + vs.length ≤ T) (t2 : T ≤ vp + vs.length + 10) (L : Ly h h' (d + 1) ws) (P : Ph g g' T ws) (tw : tyV g (hpl g0 y) ws) {rk : Nat} {k : Int32 × sm_H → Option (Int32 × sm_H)}
    (stop : ∀ o h1, 2 ≤ o → o ≤ 4 → k (I3 o, h1) = some (I3 o, h1))
    (go : ∀ out h1 g1 p1 s1, out ≤ 1 → Fr d fuel s0 x vp vs h0 g0 h1 g1 p1 s1 → g1.1 67 59 = I3 T → g1.1 67 63 = 1 → g1.1 67 62 = I3 out → g1.1 104 d = st → res h1 g1 out (tn (hrs g0 y)) → keepR (d + 1) T (sm_wI g' 104 d st) g1 → grow (sm_wI g' 104 d st) g1 → Ends d fuel s0 vp rk h0 g0 p1 (k (I3 out, h1)) g1) :
    ∃ u, F_350 (I3 y) st g' = some u ∧ Ends d fuel s0 vp rk h0 g0 (p + 1) ((rec (I3 y) (I3 (d + 1)) h').bind k) u := by
  have F1 := Fr_Ph (Fr_Ly F L) t1 P
  have a : agr (SG d (vp + vs.length)) g' (sm_wI g' 104 d st) := agr_wI agr_rfl (by unfold SG; omega)
  have F' := Fr_g F1 a
  obtain ⟨u, e1, e2⟩ := Fr_sub IH F' y1 t1 t2 P.n L.f P.s (tyV_grow F1.m.k.1 (grow_N (agr_mono (SG_N _ _) a)) (tyV_Ph F P tw))
  refine ⟨u, ?_, ?_⟩
  · show F_350_0 (I3 y) st g' = _
    unfold F_350_0
    rw [F1.c56, show I3 (d + 1) - 1 = I3 d from I3_sub (a := d + 1) (b := 1) (by omega), stI_I F.d1 (by decide)]; simp only [obs]
    rw [e1]; simp only [obs]
  · rcases e2 with ⟨out, h1, g1, c, s1, o1, o2, o3, o4, o5, o6, o7, o8, o9, o10, o11, -⟩ | ⟨out, h1, o1, e4, o2, o3⟩
    · rw [o2]; simp only [obs]
      have k104 : g1.1 104 d = st := by
        rw [o9.1 104 d (by decide) (by decide) (by omega)]
        show (if d = d then st else g'.1 104 d) = _; rw [if_pos rfl]
      exact Ends_lp o3 (go out h1 g1 _ s1 o1 o4 o5 o6 o7 k104 o8 o9 o11)
    · rw [o2]; simp only [obs]
      rw [stop _ _ o1 e4]; exact o3 _
theorem Fr_63 (F : Fr d fuel s0 x vp vs h0 g0 h g p s) : Fr d fuel s0 x vp vs h0 g0 h (sm_wI g 67 63 0) p s := Fr_g F (agr_wI agr_rfl (by unfold SG; omega))
end
theorem I3_ne0 {o : Nat} (h1 : 1 ≤ o) (h2 : o ≤ 4) : ¬ I3 o = (0 : Int32) := by rw [I3_lit, I3_inj (by omega) (by decide)]; omega
theorem I3_ne1 {o : Nat} (h1 : 2 ≤ o) (h2 : o ≤ 4) : ¬ I3 o = (1 : Int32) := by rw [I3_lit, I3_inj (by omega) (by decide)]; omega
theorem Ly_nil {h h' : sm_H} {d : Nat} {ws : List Val} (L : Ly h h' d ws) : Ly h h' d [] := ⟨L.a, (fun i hi => by cases hi), L.r⟩
theorem run_14 {rec : Int32 → Int32 → sm_H → Option (Int32 × sm_H)} {d fuel s x vp : Nat} {vs : List Val} {h0 g0 h g : sm_H} (IH : CallOK (d + 1) rec) (F : Fr d fuel s x vp vs h0 g0 h g 0 (s + 1)) (c63 : g.1 67 63 = 0) (c59 : g.1 67 59 = I3 (vp + vs.length)) (eh : sm_wI h0 49 8 (h0.1 49 8 + 1) = h) (lf : h0.1 49 8 < h0.1 49 7) (f : fm g0 x = 14) : Ends d fuel s vp (tn (hrs g0 x)) h0 g0 0 (F_82R rec (I3 x) (I3 d) h0) g := by
  have d1 := F.d1
  have v10 := F.v10
  have x500 := F.x500
  have vl := F.vl
  have vx := F.vx
  have fs := F.fs0
  rw [f] at fs
  have C := B82_14 (rec := rec) (x1 := I3 x) (x2 := I3 d) (by rw [I3_lit, I3_lt (by omega) (by decide)]; omega) lf eh (f ▸ F.f37)
  rw [C]
  have R := B370_14 F.c56 F.l103 F.l105 F.l305 F.l77 F.l78 F.l81 F.l81' (f ▸ F.l75)
  obtain ⟨y, z, w, y1, z1, w1, ep, et, e1r, pr, er, el⟩ := FS_14 fs
  have pl3 : (prt g0 x).length = 3 := by rw [ep]; rfl
  have q0 : g0.1 81 (24 * x) = I3 y := by have := F.at81 (k := 0) (by omega); rw [ep] at this; exact this
  have q1 : g0.1 81 (24 * x + 1) = I3 z := by have := F.at81 (k := 1) (by omega); rw [ep] at this; exact this
  have q2 : g0.1 81 (24 * x + 2) = I3 w := by have := F.at81 (k := 2) (by omega); rw [ep] at this; exact this
  obtain ⟨⟨h', a1, L⟩, g', b1, P⟩ := Fr_all F c59 y1 (by rw [vx, el]; exact pr.1)
  have el' : hpl g0 w = hpl g0 z := by show pl g0 (ty g0 w) = pl g0 (ty g0 z); rw [et]
  have er' : hrs g0 w = hrs g0 z := by show rs g0 (ty g0 w) = rs g0 (ty g0 z); rw [et]
  have M : ∃ u, F_350 (I3 y) 1 g' = some u ∧ Ends d fuel s vp (tn (hrs g0 x)) h0 g0 (0 + 1) ((rec (I3 y) (I3 (d + 1)) h').bind fun q6 => if q6.1 = 0 then (if (lg_cmp (q6.2.2.1 49 9) 1) = 0 then (F_92_53 rec (I3 d) (I3 x) 1 q6.2) else (F_92_53 rec (I3 d) (I3 x) 2 q6.2)) else (some (q6.1, q6.2))) u := by
    refine midG IH F 1 y1 (Nat.le_refl _) (by omega) L P (tyV_first F.ty (by rw [el]; exact pr)) (rk := tn (hrs g0 x)) (k := fun q6 => if q6.1 = 0 then (if (lg_cmp (q6.2.2.1 49 9) 1) = 0 then (F_92_53 rec (I3 d) (I3 x) 1 q6.2) else (F_92_53 rec (I3 d) (I3 x) 2 q6.2)) else (some (q6.1, q6.2))) (fun o h1 o1 o2 => if_neg (I3_ne0 (by omega) o2)) (fun out h1 g1 p1 s1 o1 G t59 t63 t62 t104 r kp _ => ?_)
    rcases (show out = 0 ∨ out = 1 by omega) with rfl | rfl
    · have G' := Fr_63 G
      have key : ∀ (i : Nat) (v : Nat), v < nH g0 → hpl g0 v = hpl g0 x → hrs g0 v = hrs g0 x → i < 3 → at0 (prt g0 x) i = I3 v → (∀ q54, Fr d fuel s x vp vs h0 g0 h1 q54 p1 s1 → (if lg_cmp (g1.2.1 67 61) 1 = 0 then F_377_562 (g0.1 81 (24 * x + 1)) q54 else (ldI q54 81 12000 (24 * I3 x + 2)).bind fun v55 => F_377_562 v55 q54) = F_377_562 (I3 v) q54) → Ends d fuel s vp (tn (hrs g0 x)) h0 g0 p1 (F_92_53 rec (I3 d) (I3 x) (I3 i) h1) g1 := fun i v v1 v2 v3 i1 i2 hq => by
        obtain ⟨h'', g'', u', a2, b2, e1', F'', e2'⟩ := tail_all IH G' (show (sm_wI g1 67 63 0).1 67 59 = _ from t59) v1 (by rw [v2]; exact pre_rfl _)
        have CC : F_92_53 rec (I3 d) (I3 x) (I3 i) h1 = rec (I3 v) (I3 (d + 1)) h'' := by
          unfold F_92_53
          rw [G.f43 (by omega), i2]; simp only [obs]
          rw [a2]; simp only [obs]
          rw [bind_id, show I3 d + 1 = I3 (d + 1) from I3_add d 1]
        rw [CC, ← v3]
        refine Ends_step (step_goOn (by omega) G.c64 G.c56 t63 ?_) e2'
        refine (go_1 G t62 t104 (X := fun h27 => (F_343 (I3 vp) (I3 vp + I3 vs.length) h27).bind fun q54 => if lg_cmp (g1.2.1 67 61) 1 = 0 then F_377_562 (g0.1 81 (24 * x + 1)) q54 else (ldI q54 81 12000 (24 * I3 x + 2)).bind fun v55 => F_377_562 v55 q54) (fun h27 _ v45 hv => ?_)).trans ?_
        · rw [← hv, f, if_neg (by decide), if_neg (by decide), if_neg (by decide), if_neg (by decide), if_neg (by decide), if_pos (by decide)]
        · show (F_343 (I3 vp) (I3 vp + I3 vs.length) (sm_wI g1 67 63 0)).bind _ = _
          rw [I3_add, vx, ← v2, b2]; simp only [obs]
          rw [hq g'' F'']
          unfold F_377_562
          rw [e1']; rfl
      rw [if_pos (show I3 0 = (0 : Int32) from rfl)]
      show Ends d fuel s vp (tn (hrs g0 x)) h0 g0 p1 (if (lg_cmp (h1.2.1 49 9) 1) = 0 then (F_92_53 rec (I3 d) (I3 x) 1 h1) else (F_92_53 rec (I3 d) (I3 x) 2 h1)) g1
      rw [r.1]
      by_cases q : lg_cmp (g1.2.1 67 61) 1 = 0
      · rw [if_pos q]
        refine key 1 z z1 el.symm er.symm (by omega) (by rw [ep]; rfl) (fun q54 _ => ?_)
        rw [if_pos q, q1]
      · rw [if_neg q]
        refine key 2 w w1 (by rw [el', el]) (by rw [er', er]) (by omega) (by rw [ep]; rfl) (fun q54 Fq => ?_)
        rw [if_neg q, show (24 : Int32) * I3 x + 2 = I3 (24 * x + 2) by rw [I3_lit, I3_lit, I3_mul, I3_add], Fq.l81k (by omega), q2]; simp only [obs]
    · rw [if_neg (I3_ne0 (o := 1) (by omega) (by omega))]
      exact thru G (Nat.le_refl 1) t63 t62 ⟨r.1, r.2.1, fun z => by (cases z), r.2.2.2⟩ (fun z => by cases z) (fun _ => Or.inr (by omega))
  obtain ⟨u, e1, e2⟩ := M
  refine Ends_step (step_enter (by omega) F.c64 F.c56 c63 ?_) ?_ (u' := u)
  · rw [R, q0, F.mn y1]; simp only [obs]
    rw [I3_add, b1]; simp only [obs]
    rw [e1]
    rfl
  · have CC : ((F_92 rec (I3 x) (I3 d) h).bind fun q18 => some (q18.1, q18.2)) = ((rec (I3 y) (I3 (d + 1)) h').bind fun q6 => if q6.1 = 0 then (if (lg_cmp (q6.2.2.1 49 9) 1) = 0 then (F_92_53 rec (I3 d) (I3 x) 1 q6.2) else (F_92_53 rec (I3 d) (I3 x) 2 q6.2)) else (some (q6.1, q6.2))) := by
      rw [bind_id, show F_92 rec (I3 x) (I3 d) h = F_92_0 rec (I3 x) (I3 d) h from rfl]
      unfold F_92_0
      rw [show F_43 (I3 x) 0 h = some (I3 y, h) by have := F.f43 (k := 0) (by omega); rw [ep] at this; exact this]; simp only [obs]
      rw [a1]; simp only [obs]
      rw [show I3 d + 1 = I3 (d + 1) from I3_add d 1]
    rw [CC]; exact e2
theorem run_9 {rec : Int32 → Int32 → sm_H → Option (Int32 × sm_H)} {d fuel s x vp : Nat} {vs : List Val} {h0 g0 h g : sm_H} (IH : CallOK (d + 1) rec) (F : Fr d fuel s x vp vs h0 g0 h g 0 (s + 1)) (c63 : g.1 67 63 = 0) (c59 : g.1 67 59 = I3 (vp + vs.length)) (eh : sm_wI h0 49 8 (h0.1 49 8 + 1) = h) (lf : h0.1 49 8 < h0.1 49 7) (f : fm g0 x = 9) : Ends d fuel s vp (tn (hrs g0 x)) h0 g0 0 (F_82R rec (I3 x) (I3 d) h0) g := by
  have d1 := F.d1
  have v10 := F.v10
  have x500 := F.x500
  have vl := F.vl
  have vx := F.vx
  have fs := F.fs0
  rw [f] at fs
  have C := B82_9 (rec := rec) (x1 := I3 x) (x2 := I3 d) (by rw [I3_lit, I3_lt (by omega) (by decide)]; omega) lf eh (f ▸ F.f37)
  rw [C]
  have R := B370_9 F.c56 F.l103 F.l105 F.l305 F.l77 F.l78 F.l81 F.l81' (f ▸ F.l75)
  obtain ⟨y, z, y1, z1, ep, eq, er, el⟩ := FS_9 fs
  have pl2 : (prt g0 x).length = 2 := by rw [ep]; rfl
  have q0 : g0.1 81 (24 * x) = I3 y := by have := F.at81 (k := 0) (by omega); rw [ep] at this; exact this
  have q1 : g0.1 81 (24 * x + 1) = I3 z := by have := F.at81 (k := 1) (by omega); rw [ep] at this; exact this
  obtain ⟨⟨h', a1, L⟩, g', b1, P⟩ := Fr_all F c59 y1 (by rw [vx, el]; exact Nat.le_refl _)
  have M : ∃ u, F_350 (I3 y) 1 g' = some u ∧ Ends d fuel s vp (tn (hrs g0 x)) h0 g0 (0 + 1) ((rec (I3 y) (I3 (d + 1)) h').bind fun q3 => if q3.1 = 0 then ((F_79 (I3 d + 1) 0 (q3.2.2.1 49 9) (q3.2.1 49 10) q3.2).bind fun q4 => (F_43 (I3 x) 1 q4).bind fun q5 => (rec q5.1 (I3 d + 1) q5.2).bind fun q6 => some (q6.1, q6.2)) else (some (q3.1, q3.2))) u := by
    refine midG IH F 1 y1 (Nat.le_refl _) (by omega) L P (tyV_first F.ty (by rw [el]; exact pre_rfl _)) (rk := tn (hrs g0 x)) (fun o h1 o1 o2 => if_neg (I3_ne0 (by omega) o2)) (fun out h1 g1 p1 s1 o1 G t59 t63 t62 t104 r kp _ => ?_)
    rcases (show out = 0 ∨ out = 1 by omega) with rfl | rfl
    · have G' := Fr_63 G
      rw [if_pos (show I3 0 = (0 : Int32) from rfl)]
      obtain ⟨h2, a2, L2⟩ := C_lay1 (Ly_0 h1 (d + 1)) (by omega) (by decide) (g1.1 67 60, g1.2.1 67 61)
      rw [List.nil_append] at L2
      have G2 := Fr_Ly G L2
      have CC : ((F_79 (I3 d + 1) 0 (h1.2.1 49 9) (h1.1 49 10) h1).bind fun q4 => (F_43 (I3 x) 1 q4).bind fun q5 => (rec q5.1 (I3 d + 1) q5.2).bind fun q6 => some (q6.1, q6.2)) = rec (I3 z) (I3 (d + 1)) h2 := by
        rw [r.1, r.2.1, show I3 d + 1 = I3 (d + 1) from I3_add d 1, show F_79 (I3 (d + 1)) 0 (g1.2.1 67 61) (tag (g1.1 67 60)) h1 = some h2 from a2]; simp only [obs]
        rw [show F_43 (I3 x) 1 h2 = some (I3 z, h2) by have := G2.f43 (k := 1) (by omega); rw [ep] at this; exact this]; simp only [obs]
        rw [bind_id]
      show Ends d fuel s vp (tn (hrs g0 x)) h0 g0 p1 ((F_79 (I3 d + 1) 0 (h1.2.1 49 9) (h1.1 49 10) h1).bind fun q4 => (F_43 (I3 x) 1 q4).bind fun q5 => (rec q5.1 (I3 d + 1) q5.2).bind fun q6 => some (q6.1, q6.2)) g1
      rw [CC, er]
      have g1r := go_1 G t62 t104 (X := fun h27 => (F_307 (g0.1 81 (24 * x)) h27).bind fun q52 => if q52.1 = 0 then F_377_458 (g0.1 81 (24 * x + 1)) q52.2 else (F_342 (g1.1 67 60) (g1.2.1 67 61) q52.2).bind fun q53 => F_377_458 (g0.1 81 (24 * x + 1)) q53) (fun h27 _ v45 hv => by rw [← hv, f, if_neg (by decide), if_neg (by decide), if_pos (by decide)])
      rw [q0, q1, G'.rs y1] at g1r; simp only [obs] at g1r
      by_cases q : hrs g0 y = 0
      · rw [if_pos q] at eq g1r
        obtain ⟨u', e1', e2'⟩ := tail2 IH G' z1 (Nat.le_refl _) (by omega) (Ly_nil L2) (Ph_0 (show (sm_wI g1 67 63 0).1 67 59 = _ from t59)) (by rw [eq]; exact tyV_0 _)
        refine Ends_step (step_goOn (by omega) G.c64 G.c56 t63 ?_) e2'
        rw [g1r]
        unfold F_377_458
        rw [e1']; rfl
      · rw [if_neg q] at eq g1r
        obtain ⟨g2, b2, P2⟩ := R_push (Ph_0 (show (sm_wI g1 67 63 0).1 67 59 = _ from t59)) (by simp only [List.length_nil]; omega) (g1.1 67 60, g1.2.1 67 61)
        rw [List.nil_append] at P2
        obtain ⟨u', e1', e2'⟩ := tail2 IH G' z1 (Nat.le_refl _) (by omega) L2 P2 (by rw [eq]; exact tyV_1 (okV_grow G.m.k.1 (grow_N (agr_wI agr_rfl (by unfold SN; omega))) (r.2.2.1 rfl)))
        refine Ends_step (step_goOn (by omega) G.c64 G.c56 t63 ?_) e2'
        rw [g1r, b2]; simp only [obs]
        unfold F_377_458
        rw [e1']; rfl
    · rw [if_neg (I3_ne0 (o := 1) (by omega) (by omega))]
      exact thru G (Nat.le_refl 1) t63 t62 ⟨r.1, r.2.1, fun z => by (cases z), r.2.2.2⟩ (fun z => by cases z) (fun _ => Or.inr (by omega))
  obtain ⟨u, e1, e2⟩ := M
  refine Ends_step (step_enter (by omega) F.c64 F.c56 c63 ?_) ?_ (u' := u)
  · rw [R, q0]
    unfold F_370_514
    rw [I3_add, vx, el, b1]; simp only [obs]
    rw [e1]; rfl
  · have CC : ((F_86 rec (I3 x) (I3 d) h).bind fun q15 => some (q15.1, q15.2)) = ((rec (I3 y) (I3 (d + 1)) h').bind fun q3 => if q3.1 = 0 then ((F_79 (I3 d + 1) 0 (q3.2.2.1 49 9) (q3.2.1 49 10) q3.2).bind fun q4 => (F_43 (I3 x) 1 q4).bind fun q5 => (rec q5.1 (I3 d + 1) q5.2).bind fun q6 => some (q6.1, q6.2)) else (some (q3.1, q3.2))) := by
      rw [bind_id, show F_86 rec (I3 x) (I3 d) h = F_86_0 rec (I3 x) (I3 d) h from rfl]
      unfold F_86_0
      rw [show F_43 (I3 x) 0 h = some (I3 y, h) by have := F.f43 (k := 0) (by omega); rw [ep] at this; exact this]; simp only [obs]
      rw [a1]; simp only [obs]
      rw [show I3 d + 1 = I3 (d + 1) from I3_add d 1]
    rw [CC]; exact e2
theorem gone_0 {r : Int32} (h : r = 0) : gone r = 0 := by unfold gone; rw [if_pos h]
theorem gone_n {r : Int32} (h : ¬ r = 0) : gone r = 1 := by unfold gone; rw [if_neg h]
theorem lay_given {d fuel s0 x vp p s : Nat} {vs : List Val} {h0 g0 h g : sm_H} (F : Fr d fuel s0 x vp vs h0 g0 h g p s) (c59 : g.1 67 59 = I3 (vp + vs.length)) {n z i k : Nat} (z1 : z < nH g0) (hn : n ≤ vs.length) (hk : i + k ≤ vs.length) (kl : n + gone (hrs g0 z) + k ≤ 10) (v : Val) (h9 : h.2.1 49 9 = v.2) (h10 : h.1 49 10 = tag v.1) :
    ∃ h1 h2 ws, F_80 (I3 d) 0 0 (I3 n) h = some h1 ∧ (if hrs g0 z = 0 then h2 = h1 else F_79 (I3 d + 1) (I3 n) (h1.2.1 49 9) (h1.1 49 10) h1 = some h2) ∧ Ly h h2 (d + 1) ws ∧ ws = sub vs 0 n ++ (if hrs g0 z = 0 then [] else [v]) ∧ ws.length = n + gone (hrs g0 z) ∧
      (∃ h3, F_80 (I3 d) (I3 i) (I3 (n + gone (hrs g0 z))) (I3 k) h2 = some h3 ∧ Ly h h3 (d + 1) (ws ++ sub vs i k)) ∧ ∃ g1 g2, F_343 (I3 vp) (I3 (vp + n)) g = some g1 ∧ Ph g g1 (vp + vs.length) (sub vs 0 n) ∧ (if hrs g0 z = 0 then g2 = g1 else F_342 v.1 v.2 g1 = some g2) ∧ Ph g g2 (vp + vs.length) ws ∧ ∃ g3, F_343 (I3 (vp + i)) (I3 (vp + i + k)) g2 = some g3 ∧ Ph g g3 (vp + vs.length) (ws ++ sub vs i k) := by
  have d1 := F.d1
  have v10 := F.v10
  have vl := F.vl
  have gv := gone_1 (hrs g0 z)
  obtain ⟨h1, a1, L1⟩ := C_lend (i := 0) (n := n) (Ly_0 h (d + 1)) F.fr d1 (by omega) (by omega) (by simp only [List.length_nil]; omega)
  obtain ⟨g1, b1, P1⟩ := R_copy (i := 0) (n := n) (Ph_0 c59) F.st (Nat.le_refl _) (by omega) (by simp only [List.length_nil]; omega)
  rw [List.nil_append] at L1 P1
  have s1 : (sub vs 0 n).length = n := sub_len (by omega)
  by_cases q : hrs g0 z = 0
  · rw [gone_0 q]
    obtain ⟨h3, a3, L3⟩ := C_lend (i := i) (n := k) L1 F.fr d1 (by omega) hk (by omega)
    obtain ⟨g3, b3, P3⟩ := R_copy (i := i) (n := k) P1 F.st (Nat.le_refl _) hk (by omega)
    rw [s1] at a3
    refine ⟨h1, h1, sub vs 0 n, a1, by rw [if_pos q], L1, by rw [if_pos q, List.append_nil], by rw [s1]; rfl, ⟨h3, a3, L3⟩, g1, g1, b1, P1, ?_, P1, g3, b3, P3⟩
    rw [if_pos q]
  · rw [gone_n q]
    obtain ⟨h2, a2, L2⟩ := C_lay1 L1 (by omega) (by omega) v
    obtain ⟨g2, b2, P2⟩ := R_push P1 (by omega) v
    have l2 : (sub vs 0 n ++ [v]).length = n + 1 := by rw [List.length_append, s1]; rfl
    obtain ⟨h3, a3, L3⟩ := C_lend (i := i) (n := k) L2 F.fr d1 (by omega) hk (by omega)
    obtain ⟨g3, b3, P3⟩ := R_copy (i := i) (n := k) P2 F.st (Nat.le_refl _) hk (by omega)
    rw [l2] at a3
    rw [s1] at a2
    refine ⟨h1, h2, sub vs 0 n ++ [v], a1, ?_, L2, by rw [if_neg q], l2, ⟨h3, a3, L3⟩, g1, g2, b1, P1, ?_, P2, g3, b3, P3⟩
    · rw [if_neg q, show I3 d + 1 = I3 (d + 1) from I3_add d 1, L1.a.2.1 49 9 (by unfold SL; omega), L1.a.1 49 10 (by unfold SL; omega), h9, h10]; exact a2
    · rw [if_neg q]; exact b2
theorem run_giv {rec : Int32 → Int32 → sm_H → Option (Int32 × sm_H)} {d fuel s x vp : Nat} {vs : List Val} {h0 g0 h g : sm_H} (IH : CallOK (d + 1) rec) (F : Fr d fuel s x vp vs h0 g0 h g 0 (s + 1)) (c63 : g.1 67 63 = 0) (c59 : g.1 67 59 = I3 (vp + vs.length)) {y z n i : Nat} (fd : fm g0 x = 7 ∨ fm g0 x = 8) (hi : i = if fm g0 x = 8 then n else n + (hpl g0 z).length) (y1 : y < nH g0) (z1 : z < nH g0) (ep : prt g0 x = [I3 y, I3 z]) (ea : g0.1 77 x = I3 n) (hn : n + gone (hrs g0 z) ≤ (hpl g0 y).length) (kd : hrs g0 z ≠ 0 → at0 (hpl g0 y) n = hrs g0 z) (er : hrs g0 x = hrs g0 y)
    (vn : n + (hpl g0 z).length ≤ vs.length) (vi : i + ((hpl g0 y).length - n - gone (hrs g0 z)) = vs.length) (tz : tyV g (hpl g0 z) (sub vs n (hpl g0 z).length)) (ta : seg (hpl g0 x) 0 n = (hpl g0 y).take n) (tb : (hpl g0 x).drop i = (hpl g0 y).drop (n + gone (hrs g0 z)))
    (R : F_370 g = ((F_305 (I3 z) g).bind fun q50 => (F_343 (I3 vp + I3 n) (I3 vp + I3 n + q50.1) q50.2).bind fun q51 => (F_350 (I3 z) 1 q51).bind fun q52 => some q52)) : Ends d fuel s vp (tn (hrs g0 x)) h0 g0 0 (F_82_199 rec (I3 x) (I3 d) h) g := by
  have d1 := F.d1
  have v10 := F.v10
  have x500 := F.x500
  have vl := F.vl
  have vx := F.vx
  have ny := F.n10 y1
  have nz := F.n10 z1
  have f38 : fm g0 x ≤ 38 := by omega
  have pl2 : (prt g0 x).length = 2 := by rw [ep]; rfl
  have q0 : g0.1 81 (24 * x) = I3 y := by have := F.at81 (k := 0) (by omega); rw [ep] at this; exact this
  have q1 : g0.1 81 (24 * x + 1) = I3 z := by have := F.at81 (k := 1) (by omega); rw [ep] at this; exact this
  obtain ⟨h', a1, L⟩ := C_lend (i := n) (n := (hpl g0 z).length) (Ly_0 h (d + 1)) F.fr d1 (by omega) vn (by simp only [List.length_nil]; omega)
  obtain ⟨g', b1, P⟩ := R_copy (i := n) (n := (hpl g0 z).length) (Ph_0 c59) F.st (Nat.le_refl _) vn (by simp only [List.length_nil]; omega)
  rw [List.nil_append] at L P
  have F1 := Fr_Ly F L
  have M : ∃ u, F_350 (I3 z) 1 g' = some u ∧ Ends d fuel s vp (tn (hrs g0 x)) h0 g0 (0 + 1) ((rec (I3 z) (I3 (d + 1)) h').bind fun q12 => if q12.1 = 0 then ((F_44 (I3 z) q12.2).bind fun q13 => if q13.1 = 0 then (F_85_88 rec (I3 x) (I3 d) (I3 y) (I3 n) (I3 (hpl g0 z).length) 0 q13.2) else (F_85_88 rec (I3 x) (I3 d) (I3 y) (I3 n) (I3 (hpl g0 z).length) 1 q13.2)) else (some (q12.1, q12.2))) u := by
    refine midG IH F 1 z1 (Nat.le_refl _) (by omega) L P tz (rk := tn (hrs g0 x)) (fun o h1 o1 o2 => if_neg (I3_ne0 (by omega) o2)) (fun out h1 g1 p1 s1 o1 G t59 t63 t62 t104 r kp _ => ?_)
    rcases (show out = 0 ∨ out = 1 by omega) with rfl | rfl
    · have G' := Fr_63 G
      rw [if_pos (show I3 0 = (0 : Int32) from rfl), show F_44 (I3 z) (I3 0, h1).2 = some (hrs g0 z, h1) from G.crs z1]; simp only [obs]
      obtain ⟨h2, h3, ws, j1, j2, j3, j4, j5, ⟨h4, j6, j7⟩, g2, g3, k1, k2, k3, k4, g4, k5, k6⟩ := lay_given G' (show (sm_wI g1 67 63 0).1 67 59 = _ from t59) (n := n) (i := i) (k := (hpl g0 y).length - n - gone (hrs g0 z)) z1 (by omega) (by omega) (by omega) (g1.1 67 60, g1.2.1 67 61) r.1 r.2.1
      have Gh := Fr_Ly G j3
      have tw : tyV (sm_wI g1 67 63 0) (hpl g0 y) (ws ++ sub vs i ((hpl g0 y).length - n - gone (hrs g0 z))) := by
        have e2 : seg (hpl g0 x) i ((hpl g0 y).length - n - gone (hrs g0 z)) = (hpl g0 y).drop (n + gone (hrs g0 z)) := by rw [seg_drop (by omega), tb]
        have t1 := tyV_sub G'.ty (i := 0) (n := n) (by omega)
        have t3 := tyV_sub G'.ty (i := i) (n := (hpl g0 y).length - n - gone (hrs g0 z)) (by omega)
        rw [ta] at t1
        rw [e2] at t3
        rw [j4]
        by_cases q : hrs g0 z = 0
        · rw [if_pos q, List.append_nil]
          rw [gone_0 q, Nat.add_zero, Nat.sub_zero] at t3
          rw [gone_0 q, Nat.sub_zero]
          have z := tyV_app t1 t3
          rw [List.take_append_drop] at z; exact z
        · rw [if_neg q]
          have ok : okV (sm_wI g1 67 63 0) (tn (hrs g0 z)) (g1.1 67 60) (g1.2.1 67 61) := okV_grow G.m.k.1 (grow_N (agr_wI agr_rfl (show SN 67 63 by unfold SN; omega))) (r.2.2.1 rfl)
          have z := tyV_app (tyV_app t1 (tyV_1 (k := at0 (hpl g0 y) n) (v := (g1.1 67 60, g1.2.1 67 61)) (by rw [kd q]; exact ok))) t3
          rw [gone_n q] at z hn
          rw [at0_get (show n < (hpl g0 y).length by omega), ← List.take_succ_eq_append_getElem (by omega), List.take_append_drop] at z
          rw [gone_n q]; exact z
      obtain ⟨u', e1', e2'⟩ := tail2 IH G' y1 (Nat.le_refl _) (by omega) j7 k6 tw
      have C122 : F_85_122 rec (I3 x) (I3 d) (I3 y) (I3 n) (I3 (hpl g0 z).length) (I3 (gone (hrs g0 z))) h3 = rec (I3 y) (I3 (d + 1)) h4 := by
        have C145 : F_85_145 rec (I3 d) (I3 y) (I3 n) (I3 (gone (hrs g0 z))) (I3 i) h3 = rec (I3 y) (I3 (d + 1)) h4 := by
          unfold F_85_145
          rw [Gh.cmn y1]; simp only [obs]
          rw [I3_add, I3_sub (by omega), I3_sub (by omega), j6]; simp only [obs]
          rw [bind_id, show I3 d + 1 = I3 (d + 1) from I3_add d 1]
        unfold F_85_122
        rw [Gh.f37]; simp only [obs]
        rcases fd with q | q
        · rw [q] at hi
          rw [q, if_neg (by decide), I3_add]
          rw [if_neg (by decide)] at hi
          rw [← hi]; exact C145
        · rw [q] at hi
          rw [q, if_pos (by decide)]
          rw [if_pos rfl] at hi
          rw [hi] at C145; exact C145
      have CC : (if hrs g0 z = 0 then (F_85_88 rec (I3 x) (I3 d) (I3 y) (I3 n) (I3 (hpl g0 z).length) 0 h1) else (F_85_88 rec (I3 x) (I3 d) (I3 y) (I3 n) (I3 (hpl g0 z).length) 1 h1)) = rec (I3 y) (I3 (d + 1)) h4 := by
        unfold F_85_88
        rw [j1]; simp only [obs]
        by_cases q : hrs g0 z = 0
        · rw [if_pos q, if_neg (by decide)]
          rw [if_pos q] at j2
          rw [gone_0 q, j2] at C122; exact C122
        · rw [if_neg q, if_pos trivial]
          rw [if_neg q] at j2
          rw [j2]; simp only [obs]
          rw [gone_n q] at C122; exact C122
      rw [CC, er]
      refine Ends_step (step_goOn (by omega) G.c64 G.c56 t63 ?_) e2'
      have G2 := Fr_Ph G' (Nat.le_refl _) k2
      rcases fd with q | q
      · rw [q] at hi
        rw [if_neg (by decide)] at hi
        refine (go_1 G t62 t104 (X := fun h27 => (F_343 (I3 vp) (I3 vp + g0.1 77 x) h27).bind fun q46 => (F_307 (g0.1 81 (24 * x + 1)) q46).bind fun q47 => if q47.1 = 0 then F_377_370 (I3 vp) (I3 vs.length) (g0.1 77 x) (g0.1 81 (24 * x)) (g0.1 81 (24 * x + 1)) q47.2 else (F_342 (g1.1 67 60) (g1.2.1 67 61) q47.2).bind fun q48 => F_377_370 (I3 vp) (I3 vs.length) (g0.1 77 x) (g0.1 81 (24 * x)) (g0.1 81 (24 * x + 1)) q48) (fun h27 _ v45 hv => by rw [← hv, q, if_pos (by decide)])).trans ?_
        rw [ea, q0, q1, I3_add, k1]; simp only [obs]
        rw [G2.rs z1]; simp only [obs]
        have fin : F_377_370 (I3 vp) (I3 vs.length) (I3 n) (I3 y) (I3 z) g3 = some u' := by
          unfold F_377_370
          rw [(Fr_Ph G' (Nat.le_refl _) k4).mn z1]; simp only [obs]
          rw [I3_add, I3_add, I3_add, show vp + n + (hpl g0 z).length = vp + i by omega, show vp + vs.length = vp + i + ((hpl g0 y).length - n - gone (hrs g0 z)) by omega, k5]; simp only [obs]
          rw [e1']; rfl
        by_cases qz : hrs g0 z = 0
        · rw [if_pos qz] at k3 ⊢; rw [k3] at fin; exact fin
        · rw [if_neg qz] at k3 ⊢; rw [k3]; simp only [obs]; exact fin
      · rw [q] at hi
        rw [if_pos rfl] at hi
        refine (go_1 G t62 t104 (X := fun h27 => (F_343 (I3 vp) (I3 vp + g0.1 77 x) h27).bind fun q49 => (F_307 (g0.1 81 (24 * x + 1)) q49).bind fun q50 => if q50.1 = 0 then F_377_422 (I3 vp) (I3 vs.length) (g0.1 77 x) (g0.1 81 (24 * x)) q50.2 else (F_342 (g1.1 67 60) (g1.2.1 67 61) q50.2).bind fun q51 => F_377_422 (I3 vp) (I3 vs.length) (g0.1 77 x) (g0.1 81 (24 * x)) q51) (fun h27 _ v45 hv => by rw [← hv, q, if_neg (by decide), if_pos (by decide)])).trans ?_
        rw [ea, q0, q1, I3_add, k1]; simp only [obs]
        rw [G2.rs z1]; simp only [obs]
        have fin : F_377_422 (I3 vp) (I3 vs.length) (I3 n) (I3 y) g3 = some u' := by
          unfold F_377_422
          rw [I3_add, I3_add, show vp + n = vp + i by omega, show vp + vs.length = vp + i + ((hpl g0 y).length - n - gone (hrs g0 z)) by omega, k5]; simp only [obs]
          rw [e1']; rfl
        by_cases qz : hrs g0 z = 0
        · rw [if_pos qz] at k3 ⊢; rw [k3] at fin; exact fin
        · rw [if_neg qz] at k3 ⊢; rw [k3]; simp only [obs]; exact fin
    · rw [if_neg (I3_ne0 (o := 1) (by omega) (by omega))]
      exact thru G (Nat.le_refl 1) t63 t62 ⟨r.1, r.2.1, fun z => by (cases z), r.2.2.2⟩ (fun z => by cases z) (fun _ => Or.inr (by omega))
  obtain ⟨u, e1, e2⟩ := M
  refine Ends_step (step_enter (by omega) F.c64 F.c56 c63 ?_) ?_ (u' := u)
  · rw [R, F.mn z1]; simp only [obs]
    rw [I3_add, I3_add, b1]; simp only [obs]
    rw [e1]; rfl
  · have CC : F_82_199 rec (I3 x) (I3 d) h = ((rec (I3 z) (I3 (d + 1)) h').bind fun q12 => if q12.1 = 0 then ((F_44 (I3 z) q12.2).bind fun q13 => if q13.1 = 0 then (F_85_88 rec (I3 x) (I3 d) (I3 y) (I3 n) (I3 (hpl g0 z).length) 0 q13.2) else (F_85_88 rec (I3 x) (I3 d) (I3 y) (I3 n) (I3 (hpl g0 z).length) 1 q13.2)) else (some (q12.1, q12.2))) := by
      unfold F_82_199
      rw [bind_id, show F_85 rec (I3 x) (I3 d) h = F_85_0 rec (I3 x) (I3 d) h from rfl]
      unfold F_85_0
      rw [show F_43 (I3 x) 0 h = some (I3 y, h) by have := F.f43 (k := 0) (by omega); rw [ep] at this; exact this]; simp only [obs]
      rw [show F_43 (I3 x) 1 h = some (I3 z, h) by have := F.f43 (k := 1) (by omega); rw [ep] at this; exact this]; simp only [obs]
      rw [F.f38, ea]; simp only [obs]
      rw [F.cmn z1]; simp only [obs]
      rw [show F_80 (I3 d) (I3 n) 0 (I3 (hpl g0 z).length) h = some h' from a1]; simp only [obs]
      rw [show I3 d + 1 = I3 (d + 1) from I3_add d 1]
    rw [CC]; exact e2
theorem run_7 {rec : Int32 → Int32 → sm_H → Option (Int32 × sm_H)} {d fuel s x vp : Nat} {vs : List Val} {h0 g0 h g : sm_H} (IH : CallOK (d + 1) rec) (F : Fr d fuel s x vp vs h0 g0 h g 0 (s + 1)) (c63 : g.1 67 63 = 0) (c59 : g.1 67 59 = I3 (vp + vs.length)) (eh : sm_wI h0 49 8 (h0.1 49 8 + 1) = h) (lf : h0.1 49 8 < h0.1 49 7) (f : fm g0 x = 7) : Ends d fuel s vp (tn (hrs g0 x)) h0 g0 0 (F_82R rec (I3 x) (I3 d) h0) g := by
  have d1 := F.d1
  have v10 := F.v10
  have x500 := F.x500
  have vl := F.vl
  have vx := F.vx
  have fs := F.fs0
  rw [f] at fs
  have C := B82_7 (rec := rec) (x1 := I3 x) (x2 := I3 d) (by rw [I3_lit, I3_lt (by omega) (by decide)]; omega) lf eh (f ▸ F.f37)
  rw [C]
  have R := B370_7 F.c56 F.l103 F.l105 F.l305 F.l77 F.l78 F.l81 F.l81' (f ▸ F.l75)
  obtain ⟨y, z, n, y1, z1, ep, ea, hn, kd, er, el⟩ := FS_7 fs
  have ny := F.n10 y1
  have gv := gone_1 (hrs g0 z)
  have pl2 : (prt g0 x).length = 2 := by rw [ep]; rfl
  have q1 : g0.1 81 (24 * x + 1) = I3 z := by have := F.at81 (k := 1) (by omega); rw [ep] at this; exact this
  have lx : vs.length = n + (hpl g0 z).length + ((hpl g0 y).length - (n + gone (hrs g0 z))) := by rw [vx, el, List.length_append, List.length_append, List.length_take, List.length_drop]; omega
  refine run_giv (i := n + (hpl g0 z).length) IH F c63 c59 (Or.inl f) (by rw [f]; rfl) y1 z1 ep ea hn kd er (by omega) (by omega) ?_ ?_ ?_ (by rw [R, q1, ea])
  · have t := tyV_sub F.ty (i := n) (n := (hpl g0 z).length) (by omega)
    have e : seg (hpl g0 x) n (hpl g0 z).length = hpl g0 z := by
      refine lst_ext (seg_len _ _ _) (fun i hi => ?_)
      rw [seg_len] at hi
      rw [show at0 (seg (hpl g0 x) n (hpl g0 z).length) i = at0 (hpl g0 x) (n + i) from at0_lst hi, el, at0_app2 (by rw [List.length_take]; omega), at0_app1 (by rw [List.length_take]; omega)]
      congr 1; rw [List.length_take]; omega
    rw [e] at t; exact t
  · rw [seg_take (by omega), el, List.take_append_of_le_length (by rw [List.length_take]; omega), List.take_take, Nat.min_self]
  · rw [el, ← List.append_assoc, List.drop_left' (by rw [List.length_append, List.length_take]; omega)]
theorem run_8 {rec : Int32 → Int32 → sm_H → Option (Int32 × sm_H)} {d fuel s x vp : Nat} {vs : List Val} {h0 g0 h g : sm_H} (IH : CallOK (d + 1) rec) (F : Fr d fuel s x vp vs h0 g0 h g 0 (s + 1)) (c63 : g.1 67 63 = 0) (c59 : g.1 67 59 = I3 (vp + vs.length)) (eh : sm_wI h0 49 8 (h0.1 49 8 + 1) = h) (lf : h0.1 49 8 < h0.1 49 7) (f : fm g0 x = 8) : Ends d fuel s vp (tn (hrs g0 x)) h0 g0 0 (F_82R rec (I3 x) (I3 d) h0) g := by
  have d1 := F.d1
  have v10 := F.v10
  have x500 := F.x500
  have vl := F.vl
  have vx := F.vx
  have fs := F.fs0
  rw [f] at fs
  have C := B82_8 (rec := rec) (x1 := I3 x) (x2 := I3 d) (by rw [I3_lit, I3_lt (by omega) (by decide)]; omega) lf eh (f ▸ F.f37)
  rw [C]
  have R := B370_8 F.c56 F.l103 F.l105 F.l305 F.l77 F.l78 F.l81 F.l81' (f ▸ F.l75)
  obtain ⟨y, z, n, y1, z1, ep, ea, hn, kd, er, el, pr⟩ := FS_8 fs
  have ny := F.n10 y1
  have gv := gone_1 (hrs g0 z)
  have pl2 : (prt g0 x).length = 2 := by rw [ep]; rfl
  have q1 : g0.1 81 (24 * x + 1) = I3 z := by have := F.at81 (k := 1) (by omega); rw [ep] at this; exact this
  have lx : vs.length = n + ((hpl g0 y).length - (n + gone (hrs g0 z))) := by rw [vx, el, List.length_append, List.length_take, List.length_drop]; omega
  have lz : n + (hpl g0 z).length ≤ vs.length := by have := pr.1; rw [List.length_drop, ← vx] at this; omega
  refine run_giv (i := n) IH F c63 c59 (Or.inr f) (by rw [f]; rfl) y1 z1 ep ea hn kd er lz (by omega) ?_ ?_ ?_ (by rw [R, q1, ea])
  · have t := tyV_sub F.ty (i := n) (n := (hpl g0 z).length) lz
    have e : seg (hpl g0 x) n (hpl g0 z).length = hpl g0 z := by
      refine lst_ext (seg_len _ _ _) (fun i hi => ?_)
      rw [seg_len] at hi
      rw [show at0 (seg (hpl g0 x) n (hpl g0 z).length) i = at0 (hpl g0 x) (n + i) from at0_lst hi]
      have := pr.2 i hi
      rw [at0_drop] at this; exact this
    rw [e] at t; exact t
  · rw [seg_take (by omega), el, List.take_append_of_le_length (by rw [List.length_take]; omega), List.take_take, Nat.min_self]
  · rw [el, List.drop_left' (by rw [List.length_take]; omega)]
