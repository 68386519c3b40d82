section
variable {n : Nat} {bt : Nat → Nat} {o T k : Nat} {nm : Nat → Int64} {kd : List Int32} {h g : sm_H}
theorem plainC {l : List Int32} {r : Int32} (K : K1 h g) (S : SCO nm kd h g) (nf : NF h g) {pc base m b0 f : Nat} {pt : Nat → Nat} (wh : g.1 67 106 = I3 pc) (st : STK h base m pt) (m8 : m ≤ 8) (uf : f = 0 ∨ f = 2 ∨ f = 3 ∨ f = 4 ∨ f = 5 ∨ f = 8 ∨ f = 12 ∨ f = 13 ∨ f = 14 ∨ f = 15 ∨ f = 18 ∨ f = 19 ∨ f = 20 ∨ f = 21 ∨ f = 22 ∨ f = 23 ∨ f = 29 ∨ f = 31 ∨ f = 32 ∨ f = 33 ∨ f = 34) {a b : Int32} {c : Int64} (ck : Ck (sm_wI (sm_wI g 67 3 0) 67 19 0) f a b c r l) (lm : l.length = m) (ok : ∀ i, i < m → pt i < nH g ∧ hpl g (pt i) = kd ∧ hrs g (pt i) = at0 l i) {fin : Int32 → sm_H → Option (Int32 × sm_H)}
    (hfin : ∀ x g, ∃ g', agr S127 g g' ∧ (∀ i, i < m → g'.1 127 i = I3 (pt i)) ∧ fin x g = F_434 x (I3 m) g') : PO b0 h g pc ((F_5 (I3 f) a b c 56 (sm_wI h 56 1 0)).bind fun q2 => F_192 q2.1 (I3 base) (I3 m) (I3 pc) q2.2) ((F_430 (I3 f) a b c g).bind fun q => fin q.1 q.2) kd := by
  have R : hasL (sm_wI h 56 1 0) 56 57 [] := ⟨rfl, by decide, fun k hk => by cases hk⟩
  have a1 : agr S56 h (sm_wI h 56 1 0) := agr_wI agr_rfl (Or.inl ⟨rfl, rfl⟩)
  have P : prR (sm_wI g 67 3 0) [] := ⟨rfl, by decide, fun k hk => by cases hk⟩
  have a2 : agr SRp g (sm_wI g 67 3 0) := agr_wI agr_rfl (by unfold SRp; omega)
  have T0 := TK_par (TK_row (TK_rfl K) a1) a2
  have n0 := NF_par (NF_row nf a1) a2
  have M := mkForm T0.k n0 (wh_TK wh T0) a b c R P uf (by omega) ck
  have R0 : ((F_430 (I3 f) a b c g).bind fun q => fin q.1 q.2) = (F_429 (I3 f) a b c (sm_wI g 67 3 0)).bind fun q => fin q.1 q.2 := by
    rw [show F_430 (I3 f) a b c g = F_429 (I3 f) a b c (sm_wI g 67 3 0) from bind_id _]
  rw [R0]
  rcases M with ⟨y, h1, g1, m1, m2, m3, m4, m5, m6, m7⟩ | ⟨w', h1, h2, g2, w0, m1, m2, m3, m4, m5⟩
  · rw [m1, m2]; simp only [obs]
    obtain ⟨g', f1, f2, f3⟩ := hfin (I3 y) g1
    rw [f3]
    have T1 := TK_trans T0 m6
    have T2 : TB b0 h g h1 g' := TB_127 (TB_of T1) f1
    have n2 : NF h1 g' := NF_127 m7 f1
    have e1 : ext g1 g' := (TB_127 (TB_of (b0 := b0) (TK_rfl T1.k)) f1).e
    have y' : y < nH g' := (TB_127 (TB_of (b0 := b0) (TK_rfl T1.k)) f1).nH m3
    have hy : hpl g' y = l := (ext_hpl T1.k.2.2.2.2.1 e1 m3).trans m5
    have A := applied T2.k (SCO_TB S T2) n2 (wh_TB wh T2) y' (STK_TK st T1) (by rw [hy]; exact lm) m8 f2 (fun i hi => ⟨T2.nH (ok i hi).1, (T2.hpl K (ok i hi).1).trans (ok i hi).2.1, by rw [hy, T2.hrs K (ok i hi).1]; exact (ok i hi).2.2⟩)
    exact PO_tr T2 (PO_of A)
  · rw [m1, m3]; simp only [obs]
    obtain ⟨g', f1, f2, f3⟩ := hfin (-1) g2
    rw [f3, ap434]
    refine PO_fail (TB_of (TK_trans T0 m4)) m5 ?_ rfl (ag127 f1)
    show F_192_0 w' (I3 base) (I3 m) (I3 pc) h1 = _
    unfold F_192_0
    rw [if_neg (Int32.not_le.mpr w0), m2]; rfl
abbrev SDv (k m b j : Nat) : Prop := (b = 124 ∧ j = k) ∨ (b = 125 ∧ j = 20 * k + m ∧ m < 20)
theorem deliver {y m : Nat} (hy : y < 500) (k1 : k < 24) (b : g.1 67 102 = I3 (k + 1)) (e : g.1 124 k = I3 m) (m3 : m ≤ 4000) : ∃ g2, F_447 (I3 y) g = some (1, g2) ∧ agr (SDv k m) g g2 ∧ g2.1 124 k = I3 (m + 1) ∧ (m < 20 → g2.1 125 (20 * k + m) = I3 y) := by
  have R0 : F_447 (I3 y) g = F_447_0 (I3 y) g := rfl
  unfold F_447_0 F_447_42 at R0
  rw [b, I3_s1] at R0; simp only [obs] at R0
  have l : ldI g 124 24 (I3 k) = some (I3 m) := by rw [ldI_I k1 (by decide), e]
  rw [if_neg (m1_l hy (Nat.le_refl _)), l] at R0; simp only [obs] at R0
  by_cases q : 20 ≤ m
  · rw [if_pos (by rw [I3_lit, I3_le (by decide) (by omega)]; exact q), show I3 m + 1 = I3 (m + 1) from I3_add m 1, stI_I k1 (by decide)] at R0; simp only [obs] at R0
    exact ⟨_, R0, agr_wI agr_rfl (Or.inl ⟨rfl, rfl⟩), if_pos rfl, fun z => by omega⟩
  · rw [if_neg (by rw [I3_lit, I3_le (by decide) (by omega)]; exact q), show (20 : Int32) * I3 k + I3 m = I3 (20 * k + m) by rw [I3_lit, I3_mul, I3_add], stI_I (by omega) (by decide)] at R0; simp only [obs] at R0
    rw [ldI_I k1 (by decide), show (sm_wI g 125 (20 * k + m) (I3 y)).1 124 k = I3 m from e] at R0; simp only [obs] at R0
    rw [show I3 m + 1 = I3 (m + 1) from I3_add m 1, stI_I k1 (by decide)] at R0; simp only [obs] at R0
    exact ⟨_, R0, agr_wI (agr_wI agr_rfl (Or.inr ⟨rfl, rfl, by omega⟩)) (Or.inl ⟨rfl, rfl⟩), if_pos rfl, fun _ => if_pos rfl⟩
theorem SDv_not (m : Nat) (b j : Nat) (z : SDv k m b j) : notR b j := by
  rcases z with ⟨rfl, -⟩ | ⟨rfl, -⟩ <;> rfl
def EO (n : Nat) (bt : Nat → Nat) (o T k m f : Nat) (nm : Nat → Int64) (kd : List Int32) (h g : sm_H) (rc rr : Option (Int32 × sm_H)) : Prop :=
  (∃ y h1 g1 g2 f' c, rc = some (I3 y, h1) ∧ rr = some (1, g1) ∧ (∀ a b d fu, c < fu → lp F_465_386B fu (a, b, d, g1) = lp F_465_386B (fu - c) (a, b, d, g2)) ∧ c + f < f' ∧ TS n bt T (k + 1) nm kd h1 g2 ∧ OP o h1 g2 ∧ CB n bt f' h1 ∧ RB n bt f' g2 ∧ y < nH g2 ∧ hpl g2 y = kd ∧ ext g g2 ∧ grow g g2 ∧ agr (XCc T) h h1 ∧ agr (fun b j => XRc (k + 1) b j ∨ SDv k m b j) g g2 ∧ g2.1 124 k = I3 (m + 1) ∧ (m < 20 → g2.1 125 (20 * k + m) = I3 y)) ∨
  ∃ e pc h1 g1, rc = some (-1, h1) ∧ FT e pc h1 g1 ∧ XT 0 0 h g h1 g1 ∧ (rr = some (0, g1) ∨ ∃ g0 c, rr = some (1, g0) ∧ c ≤ 3000 ∧ ∀ a b d fu, c < fu → lp F_465_386B fu (a, b, d, g0) = some (0, g1))
theorem leaf {m f f' : Nat} {rc rr : Option (Int32 × sm_H)} (k1 : k < 24) (m3 : m ≤ 4000) (e : g.1 124 k = I3 m) {g0 : sm_H} (s : TS n bt T (k + 1) nm kd h g0) (p : OP o h g0) (X : XT T (k + 1) h g h g0) (ag : agr (fun b j => SLx b j ∨ (b = 67 ∧ (j = 105 ∨ j = 106 ∨ j = 108))) g g0) (c : CB n bt f' h) (r : RB n bt f' g0) (ff : f < f') {pc : Nat} (po : PO T h g0 pc rc rr kd) : EO n bt o T k m f nm kd h g rc (rr.bind fun q21 => (F_447 q21.1 q21.2).bind fun q22 => if q22.1 = 0 ∨ q22.1 = 1 then some (q22.1, q22.2) else none) := by
  rcases po with ⟨y, h1, g1, a1, a2, a3, a4, a5, a6⟩ | ⟨e', h1, g1, a1, a2, a3, a4⟩
  · have e1 : g1.1 124 k = I3 m := by rw [a5.a.1 124 k (by unfold SRa SRq SRb SRp SRh SRt; omega), ag.1 124 k (by unfold SLx; omega), e]
    have b1 : g1.1 67 102 = I3 (k + 1) := (a5.a.1 67 102 (by unfold SRa SRq SRb SRp SRh SRt; omega)).trans s.b
    obtain ⟨g2, d1, d2, d3, d4⟩ := deliver (lt500 a5.k a3) k1 b1 e1 m3
    have E := ext_eq (ok_of_not (SDv_not m) d2)
    have K2 : K1 h1 g2 := K1_g a5.k (agr_mono (SDv_not m) d2)
    have nc : nC g2 = nC g1 := by show tn _ = tn _; rw [d2.1 67 6 (by unfold SDv; omega)]
    refine Or.inl ⟨y, h1, g2, g2, f', 0, a1, ?_, fun a b d fu hf => rfl, by omega, ⟨K2, NF_agr (S := fun _ _ => False) a6 agr_rfl d2 (fun z => z) (by unfold SDv; omega), SCO_agr (P := fun _ _ => False) (SCO_TB s.S a5) agr_rfl d2 (Nat.le_of_eq nc.symm) (fun b j z => z.elim) (fun b j z => by unfold SDv at z; omega), ⟨(a5.c.1 55 12 (by unfold SCq SCb Ssc SCd SCh SCt; omega)).trans s.t.1, s.t.2⟩, (d2.1 67 102 (by unfold SDv; omega)).trans b1, TXC_agr s.xc a5.c (fun b j z => by unfold SCq SCb Ssc SCd SCh SCt at z; omega), TXR_agr (TXR_agr s.xr a5.a (fun b j z => by unfold SRa SRq SRb SRp SRh SRt at z; omega)) d2 (fun b j z => by unfold SDv at z; omega)⟩, ⟨(a5.c.1 55 16 (by unfold SCq SCb Ssc SCd SCh SCt; omega)).trans p.1, ((d2.1 67 86 (by unfold SDv; omega)).trans (a5.a.1 67 86 (by unfold SRa SRq SRb SRp SRh SRt; omega))).trans p.2.1, p.2.2⟩, ?_, ?_, Nat.lt_of_lt_of_le a3 E.2.1.2.2.1, (ext_hpl a5.k.2.2.2.2.1 E.1 a3).trans a4, ext_trans X.e (ext_trans a5.e E.1), grow_trans X.r (grow_trans a5.r E.2.1), (XT_TB (k := k + 1) a5).c, agr_trans (agr_mono (fun b j z => Or.inl z) (agr_trans X.a (XT_TB (k := k + 1) a5).a)) (agr_mono (fun b j z => Or.inr z) d2), d3, d4⟩
    · rw [a2]; simp only [obs]
      rw [d1]; simp only [obs]
      rw [if_pos (Or.inr trivial)]
    · obtain ⟨q, q1, q2, q3⟩ := c
      exact ⟨q, (a5.c.1 52 3 (by unfold SCq SCb Ssc SCd SCh SCt; omega)).trans q1, q2, q3⟩
    · obtain ⟨q, q1, q2, q3⟩ := r
      exact ⟨q, ((d2.1 67 79 (by unfold SDv; omega)).trans (a5.a.1 67 79 (by unfold SRa SRq SRb SRp SRh SRt; omega))).trans q1, q2, q3⟩
  · refine Or.inr ⟨e', pc, h1, g1, a1, a4, XT_mono (Nat.zero_le T) (Nat.zero_le (k + 1)) (XT_trans X (XT_TB a3)), Or.inl ?_⟩
    rw [a2]; simp only [obs]
    have : F_447 (-1) g1 = some (0, g1) := by
      show F_447_0 (-1) g1 = _
      unfold F_447_0
      simp only [obs]
      rw [if_pos trivial]
    rw [this]; simp only [obs]
    rw [if_pos (Or.inl trivial)]
theorem numLeaf {m f : Nat} (s : TS n bt T (k + 1) nm kd h g) (p : OP o h g) (lc : LXC n bt f h) (r : RB n bt f g) (w : wrd n bt f = 3) (k1 : k < 24) (m3 : m ≤ 4000) (e : g.1 124 k = I3 m) (rec : sm_H → Option (Int32 × sm_H)) : EO n bt o T k m f nm kd h g (F_194R rec h) (F_448 g) := by
  have fn := RB_n r
  obtain ⟨g1, d1, d2, d3, d4, d5⟩ := look_R s r
  rw [if_neg (by omega)] at d5
  obtain ⟨d5, lr⟩ := d5
  have a6 : agr (fun b j => b = 67 ∧ j = 106) g1 (sm_wI g1 67 106 (I3 f)) := agr_wI agr_rfl ⟨rfl, rfl⟩
  have S2 := (TS_x (T' := T) (k' := k + 1) d1 agr_rfl (agr_mono (fun b j z => Or.inr ⟨z.1, by omega⟩) a6)).1
  obtain ⟨g2, t1, t2, t3, t4⟩ := take_R S2 fn (show LXR n bt f (sm_wI g1 67 106 (I3 f)) from lr)
  have ag : agr (fun b j => SLx b j ∨ (b = 67 ∧ (j = 105 ∨ j = 106 ∨ j = 108))) g g2 := agr_trans (agr_trans (agr_mono (fun b j z => Or.inl z) d2) (agr_mono (fun b j z => Or.inr ⟨z.1, by omega⟩) a6)) (agr_mono (fun b j z => Or.inl ⟨z.1, by omega, by omega⟩) t4)
  have X := (TS_x (T' := T) (k' := k + 1) s agr_rfl ag).2
  have wh : g2.1 67 106 = I3 f := t4.1 67 106 (by omega)
  have nv : g2.2.1 67 84 = nva n bt f := (t4.2.1 67 84 (by omega)).trans (lr.2.2.2.2.1 w).1
  have nk : g2.1 67 85 = (if isl n bt f = true then 6 else 5) := (t4.1 67 85 (by omega)).trans (lr.2.2.2.2.1 w).2
  have cv := (lc.2.2.2.2.1 w).1
  have ckd := (lc.2.2.2.2.1 w).2
  have h12 := t3.K.1.2.1
  have nar : ∃ kk, (kk = 5 ∨ kk = 6) ∧ (if isl n bt f = true then (6 : Int32) else 5) = I3 kk ∧ trK (sm_wI (sm_wI g2 67 3 0) 67 19 0) kk (nva n bt f) = 0 := by
    by_cases il : isl n bt f = true
    · refine ⟨6, Or.inr rfl, if_pos il, ?_⟩
      unfold trK
      rw [if_pos (by decide)]
      exact if_pos rfl
    · refine ⟨5, Or.inl rfl, if_neg il, ?_⟩
      have hf : nfi n bt f = true := by
        have w' := w
        unfold wrd at w'
        repeat' split at w'
        all_goals first | (cases w') | skip
        have z := (show _ ∧ (_ ∨ _) by assumption : nok n bt f = true ∧ (isl n bt f = true ∨ nfi n bt f = true))
        exact z.2.resolve_left il
      unfold trK
      rw [if_pos (by decide)]
      refine if_pos ?_
      have hf := of_decide_eq_true hf
      exact hf.symm
  obtain ⟨kk, kk1, kk2, kk3⟩ := nar
  have C0 : F_194R rec h = (F_5 0 (I3 kk) 0 (nva n bt f) 56 (sm_wI h 56 1 0)).bind fun q2 => F_192 q2.1 0 0 (I3 f) q2.2 := by
    show F_194_0 rec h = _
    unfold F_194_0
    rw [show F_243 h = some (h.1 52 5, h) from rfl, lc.1]; simp only [obs]
    rw [show F_242 h = some (h.1 52 4, h) from rfl, lc.2.1, w]; simp only [obs]
    rw [if_neg (by decide), if_pos (by decide), show F_138 56 h = some (sm_wI h 56 1 0) from rfl]; simp only [obs]
    rw [show F_247 (sm_wI h 56 1 0) = some (h.1 52 9, sm_wI h 56 1 0) from rfl, ckd, kk2]; simp only [obs]
    rw [show F_246 (sm_wI h 56 1 0) = some (h.2.1 52 8, sm_wI h 56 1 0) from rfl, cv]; simp only [obs]
    cases F_5 0 (I3 kk) 0 (nva n bt f) 56 (sm_wI h 56 1 0) with
    | none => rfl
    | some q => exact bind_id _
  have R0 : F_448 g = (((F_430 0 (I3 kk) 0 (nva n bt f) g2).bind fun q => F_435 q.1 q.2).bind fun q21 => (F_447 q21.1 q21.2).bind fun q22 => if q22.1 = 0 ∨ q22.1 = 1 then some (q22.1, q22.2) else none) := by
    show F_448_0 g = _
    unfold F_448_0
    rw [d5]; simp only [obs]
    rw [if_neg (by decide), d4, show (sm_wI g1 67 106 (I3 f)).1 67 80 = g1.1 67 80 from rfl, lr.2.2.1, w, if_pos (by decide), t1]; simp only [obs]
    rw [nk, nv, kk2]
    cases F_430 0 (I3 kk) 0 (nva n bt f) g2 <;> rfl
  rw [C0, R0]
  have ck := ck_0 (h := h) (g := sm_wI (sm_wI g2 67 3 0) 67 19 0) (TK0 t3.K) rfl (k := kk) (by omega) (by show kk < 20 + nC g2; omega) 0 (c := nva n bt f) kk3
  have P := plainC (b0 := T) (f := 0) (base := 0) (m := 0) (pt := fun _ => 0) t3.K t3.S t3.nf wh ⟨T, t3.t.1, by omega, t3.t.2, fun i hi => by omega⟩ (by decide) (by decide) ck rfl (fun i hi => by omega) (fin := F_435) (fun x g => ⟨g, agr_rfl, fun i hi => by omega, fin0 x g⟩)
  exact leaf k1 m3 e t3 (OP_x (P := fun _ _ => False) p agr_rfl ag (fun z => z) (by unfold SLx; omega)) X ag (CB_nx fn lc (by omega)) t2 (by
    have := (wen_n (n := n) (bt := bt) fn).2.2 (by omega) (by omega)
    exact Nat.lt_of_lt_of_le this (far_ge _ _ _ _)) P
end
