section
variable {n : Nat} {bt : Nat → Nat} {o T k : Nat} {nm : Nat → Int64} {kd : List Int32} {h g : sm_H}
theorem plainC {l : List Int32} {r : Int32} (K : K1 h g) (S : SCO nm kd h g) (nf : NF h g) {pc base m b0 f : Nat} {pt : Nat → Nat} (wh : g.1 67 106 = I3 pc) (st : STK h base m pt) (m8 : m ≤ 8) (uf : f = 0 ∨ f = 2 ∨ f = 3 ∨ f = 4 ∨ f = 5 ∨ f = 8 ∨ f = 12 ∨ f = 13 ∨ f = 14 ∨ f = 15 ∨ f = 18 ∨ f = 19 ∨ f = 20 ∨ f = 21 ∨ f = 22 ∨ f = 23 ∨ f = 29 ∨ f = 31 ∨ f = 32 ∨ f = 33 ∨ f = 34) {a b : Int32} {c : Int64} (ck : Ck (sm_wI (sm_wI g 67 3 0) 67 19 0) f a b c r l) (lm : l.length = m) (ok : ∀ i, i < m → pt i < nH g ∧ hpl g (pt i) = kd ∧ hrs g (pt i) = at0 l i) {fin : Int32 → sm_H → Option (Int32 × sm_H)}
    (hfin : ∀ x g, ∃ g', agr S127 g g' ∧ (∀ i, i < m → g'.1 127 i = I3 (pt i)) ∧ fin x g = F_434 x (I3 m) g') : PO b0 h g pc ((F_5 (I3 f) a b c 56 (sm_wI h 56 1 0)).bind fun q2 => F_192 q2.1 (I3 base) (I3 m) (I3 pc) q2.2) ((F_430 (I3 f) a b c g).bind fun q => fin q.1 q.2) kd := by
  have R : hasL (sm_wI h 56 1 0) 56 57 [] := ⟨rfl, by decide, fun k hk => by cases hk⟩
  have a1 : agr S56 h (sm_wI h 56 1 0) := agr_wI agr_rfl (Or.inl ⟨rfl, rfl⟩)
  have P : prR (sm_wI g 67 3 0) [] := ⟨rfl, by decide, fun k hk => by cases hk⟩
  have a2 : agr SRp g (sm_wI g 67 3 0) := agr_wI agr_rfl (by unfold SRp; omega)
  have T0 := TK_par (TK_row (TK_rfl K) a1) a2
  have n0 := NF_par (NF_row nf a1) a2
  have M := mkForm T0.k n0 (wh_TK wh T0) a b c R P uf (by omega) ck
  have R0 : ((F_430 (I3 f) a b c g).bind fun q => fin q.1 q.2) = (F_429 (I3 f) a b c (sm_wI g 67 3 0)).bind fun q => fin q.1 q.2 := by
    rw [show F_430 (I3 f) a b c g = F_429 (I3 f) a b c (sm_wI g 67 3 0) from bind_id _]
  rw [R0]
  rcases M with ⟨y, h1, g1, m1, m2, m3, m4, m5, m6, m7⟩ | ⟨w', h1, h2, g2, w0, m1, m2, m3, m4, m5⟩
  · rw [m1, m2]; simp only [obs]
    obtain ⟨g', f1, f2, f3⟩ := hfin (I3 y) g1
    rw [f3]
    have T1 := TK_trans T0 m6
    have T2 : TB b0 h g h1 g' := TB_127 (TB_of T1) f1
    have n2 : NF h1 g' := NF_127 m7 f1
    have e1 : ext g1 g' := (TB_127 (TB_of (b0 := b0) (TK_rfl T1.k)) f1).e
    have y' : y < nH g' := (TB_127 (TB_of (b0 := b0) (TK_rfl T1.k)) f1).nH m3
    have hy : hpl g' y = l := (ext_hpl T1.k.2.2.2.2.1 e1 m3).trans m5
    have A := applied T2.k (SCO_TB S T2) n2 (wh_TB wh T2) y' (STK_TK st T1) (by rw [hy]; exact lm) m8 f2 (fun i hi => ⟨T2.nH (ok i hi).1, (T2.hpl K (ok i hi).1).trans (ok i hi).2.1, by rw [hy, T2.hrs K (ok i hi).1]; exact (ok i hi).2.2⟩)
    exact PO_tr T2 (PO_of A)
  · rw [m1, m3]; simp only [obs]
    obtain ⟨g', f1, f2, f3⟩ := hfin (-1) g2
    rw [f3, ap434]
    refine PO_fail (TB_of (TK_trans T0 m4)) m5 ?_ rfl (ag127 f1)
    show F_192_0 w' (I3 base) (I3 m) (I3 pc) h1 = _
    unfold F_192_0
    rw [if_neg (Int32.not_le.mpr w0), m2]; rfl
abbrev SDv (k m b j : Nat) : Prop := (b = 124 ∧ j = k) ∨ (b = 125 ∧ j = 20 * k + m ∧ m < 20)
theorem deliver {y m : Nat} (hy : y < 500) (k1 : k < 24) (b : g.1 67 102 = I3 (k + 1)) (e : g.1 124 k = I3 m) (m3 : m ≤ 4000) : ∃ g2, F_447 (I3 y) g = some (1, g2) ∧ agr (SDv k m) g g2 ∧ g2.1 124 k = I3 (m + 1) ∧ (m < 20 → g2.1 125 (20 * k + m) = I3 y) := by
  have R0 : F_447 (I3 y) g = F_447_0 (I3 y) g := rfl
  unfold F_447_0 F_447_42 at R0
  rw [b, I3_s1] at R0; simp only [obs] at R0
  have l : ldI g 124 24 (I3 k) = some (I3 m) := by rw [ldI_I k1 (by decide), e]
  rw [if_neg (m1_l hy (Nat.le_refl _)), l] at R0; simp only [obs] at R0
  by_cases q : 20 ≤ m
  · rw [if_pos (by rw [I3_lit, I3_le (by decide) (by omega)]; exact q), show I3 m + 1 = I3 (m + 1) from I3_add m 1, stI_I k1 (by decide)] at R0; simp only [obs] at R0
    exact ⟨_, R0, agr_wI agr_rfl (Or.inl ⟨rfl, rfl⟩), if_pos rfl, fun z => by omega⟩
  · rw [if_neg (by rw [I3_lit, I3_le (by decide) (by omega)]; exact q), show (20 : Int32) * I3 k + I3 m = I3 (20 * k + m) by rw [I3_lit, I3_mul, I3_add], stI_I (by omega) (by decide)] at R0; simp only [obs] at R0
    rw [ldI_I k1 (by decide), show (sm_wI g 125 (20 * k + m) (I3 y)).1 124 k = I3 m from e] at R0; simp only [obs] at R0
    rw [show I3 m + 1 = I3 (m + 1) from I3_add m 1, stI_I k1 (by decide)] at R0; simp only [obs] at R0
    exact ⟨_, R0, agr_wI (agr_wI agr_rfl (Or.inr ⟨rfl, rfl, by omega⟩)) (Or.inl ⟨rfl, rfl⟩), if_pos rfl, fun _ => if_pos rfl⟩
theorem SDv_not (m : Nat) (b j : Nat) (z : SDv k m b j) : notR b j := by
  rcases z with ⟨rfl, -⟩ | ⟨rfl, -⟩ <;> rfl
def EO (n : Nat) (bt : Nat → Nat) (o T k m f : Nat) (nm : Nat → Int64) (kd : List Int32) (h g : sm_H) (rc rr : Option (Int32 × sm_H)) : Prop :=
  (∃ y h1 g1 g2 f' c, rc = some (I3 y, h1) ∧ rr = some (1, g1) ∧ (∀ a b d fu, c < fu → lp F_465_386B fu (a, b, d, g1) = lp F_465_386B (fu - c) (a, b, d, g2)) ∧ c + f < f' ∧ TS n bt T (k + 1) nm kd h1 g2 ∧ OP o h1 g2 ∧ CB n bt f' h1 ∧ RB n bt f' g2 ∧ y < nH g2 ∧ hpl g2 y = kd ∧ ext g g2 ∧ grow g g2 ∧ agr (XCc T) h h1 ∧ agr (fun b j => XRc (k + 1) b j ∨ SDv k m b j) g g2 ∧ g2.1 124 k = I3 (m + 1) ∧ (m < 20 → g2.1 125 (20 * k + m) = I3 y)) ∨
  ∃ e pc h1 g1, rc = some (-1, h1) ∧ FT e pc h1 g1 ∧ XT 0 0 h g h1 g1 ∧ (rr = some (0, g1) ∨ ∃ g0 c, rr = some (1, g0) ∧ c + f ≤ n ∧ ∀ a b d fu, c < fu → lp F_465_386B fu (a, b, d, g0) = some (0, g1))
theorem leaf {m f f' : Nat} {rc rr : Option (Int32 × sm_H)} (k1 : k < 24) (m3 : m ≤ 4000) (e : g.1 124 k = I3 m) {g0 : sm_H} (s : TS n bt T (k + 1) nm kd h g0) (p : OP o h g0) (X : XT T (k + 1) h g h g0) (ag : agr (fun b j => SLx b j ∨ (b = 67 ∧ (j = 105 ∨ j = 106 ∨ j = 108))) g g0) (c : CB n bt f' h) (r : RB n bt f' g0) (ff : f < f') {pc : Nat} (po : PO T h g0 pc rc rr kd) : EO n bt o T k m f nm kd h g rc (rr.bind fun q21 => (F_447 q21.1 q21.2).bind fun q22 => if q22.1 = 0 ∨ q22.1 = 1 then some (q22.1, q22.2) else none) := by
  rcases po with ⟨y, h1, g1, a1, a2, a3, a4, a5, a6⟩ | ⟨e', h1, g1, a1, a2, a3, a4⟩
  · have e1 : g1.1 124 k = I3 m := by rw [a5.a.1 124 k (by unfold SRa SRq SRb SRp SRh SRt; omega), ag.1 124 k (by unfold SLx; omega), e]
    have b1 : g1.1 67 102 = I3 (k + 1) := (a5.a.1 67 102 (by unfold SRa SRq SRb SRp SRh SRt; omega)).trans s.b
    obtain ⟨g2, d1, d2, d3, d4⟩ := deliver (lt500 a5.k a3) k1 b1 e1 m3
    have E := ext_eq (ok_of_not (SDv_not m) d2)
    have K2 : K1 h1 g2 := K1_g a5.k (agr_mono (SDv_not m) d2)
    have nc : nC g2 = nC g1 := by show tn _ = tn _; rw [d2.1 67 6 (by unfold SDv; omega)]
    refine Or.inl ⟨y, h1, g2, g2, f', 0, a1, ?_, fun a b d fu hf => rfl, by omega, ⟨K2, NF_agr (S := fun _ _ => False) a6 agr_rfl d2 ⟨fun z => z, fun z => z⟩ (by unfold SDv; omega), SCO_agr (P := fun _ _ => False) (SCO_TB s.S a5) agr_rfl d2 (Nat.le_of_eq nc.symm) (fun b j z => z.elim) (fun b j z => by unfold SDv at z; omega), ⟨(a5.c.1 55 12 (by unfold SCq SCb Ssc SCd SCh SCt; omega)).trans s.t.1, s.t.2⟩, (d2.1 67 102 (by unfold SDv; omega)).trans b1, TXC_agr s.xc a5.c (fun b j z => by unfold SCq SCb Ssc SCd SCh SCt at z; omega), TXR_agr (TXR_agr s.xr a5.a (fun b j z => by unfold SRa SRq SRb SRp SRh SRt at z; omega)) d2 (fun b j z => by unfold SDv at z; omega)⟩, ⟨(a5.c.1 55 16 (by unfold SCq SCb Ssc SCd SCh SCt; omega)).trans p.1, ((d2.1 67 86 (by unfold SDv; omega)).trans (a5.a.1 67 86 (by unfold SRa SRq SRb SRp SRh SRt; omega))).trans p.2.1, p.2.2⟩, ?_, ?_, Nat.lt_of_lt_of_le a3 E.2.1.2.2.1, (ext_hpl a5.k.2.2.2.2.1 E.1 a3).trans a4, ext_trans X.e (ext_trans a5.e E.1), grow_trans X.r (grow_trans a5.r E.2.1), (XT_TB (k := k + 1) a5).c, agr_trans (agr_mono (fun b j z => Or.inl z) (agr_trans X.a (XT_TB (k := k + 1) a5).a)) (agr_mono (fun b j z => Or.inr z) d2), d3, d4⟩
    · rw [a2]; simp only [obs]
      rw [d1]; simp only [obs]
      rw [if_pos (Or.inr trivial)]
    · obtain ⟨q, q1, q2, q3⟩ := c
      exact ⟨q, (a5.c.1 52 3 (by unfold SCq SCb Ssc SCd SCh SCt; omega)).trans q1, q2, q3⟩
    · obtain ⟨q, q1, q2, q3⟩ := r
      exact ⟨q, ((d2.1 67 79 (by unfold SDv; omega)).trans (a5.a.1 67 79 (by unfold SRa SRq SRb SRp SRh SRt; omega))).trans q1, q2, q3⟩
  · refine Or.inr ⟨e', pc, h1, g1, a1, a4, XT_mono (Nat.zero_le T) (Nat.zero_le (k + 1)) (XT_trans X (XT_TB a3)), Or.inl ?_⟩
    rw [a2]; simp only [obs]
    have : F_447 (-1) g1 = some (0, g1) := by
      show F_447_0 (-1) g1 = _
      unfold F_447_0
      simp only [obs]
      rw [if_pos trivial]
    rw [this]; simp only [obs]
    rw [if_pos (Or.inl trivial)]
theorem numLeaf {m f : Nat} (s : TS n bt T (k + 1) nm kd h g) (p : OP o h g) (lc : LXC n bt f h) (r : RB n bt f g) (w : wrd n bt f = 3) (k1 : k < 24) (m3 : m ≤ 4000) (e : g.1 124 k = I3 m) (rec : sm_H → Option (Int32 × sm_H)) : EO n bt o T k m f nm kd h g (F_194R rec h) (F_448 g) := by
  have fn := RB_n r
  obtain ⟨g1, d1, d2, d3, d4, d5⟩ := look_R s r
  rw [if_neg (by omega)] at d5
  obtain ⟨d5, lr⟩ := d5
  have a6 : agr (fun b j => b = 67 ∧ j = 106) g1 (sm_wI g1 67 106 (I3 f)) := agr_wI agr_rfl ⟨rfl, rfl⟩
  have S2 := (TS_x (T' := T) (k' := k + 1) d1 agr_rfl (agr_mono (fun b j z => Or.inr ⟨z.1, by omega⟩) a6)).1
  obtain ⟨g2, t1, t2, t3, t4⟩ := take_R S2 fn (show LXR n bt f (sm_wI g1 67 106 (I3 f)) from lr)
  have ag : agr (fun b j => SLx b j ∨ (b = 67 ∧ (j = 105 ∨ j = 106 ∨ j = 108))) g g2 := agr_trans (agr_trans (agr_mono (fun b j z => Or.inl z) d2) (agr_mono (fun b j z => Or.inr ⟨z.1, by omega⟩) a6)) (agr_mono (fun b j z => Or.inl ⟨z.1, by omega, by omega⟩) t4)
  have X := (TS_x (T' := T) (k' := k + 1) s agr_rfl ag).2
  have wh : g2.1 67 106 = I3 f := t4.1 67 106 (by omega)
  have nv : g2.2.1 67 84 = nva n bt f := (t4.2.1 67 84 (by omega)).trans (lr.2.2.2.2.1 w).1
  have nk : g2.1 67 85 = (if isl n bt f = true then 6 else 5) := (t4.1 67 85 (by omega)).trans (lr.2.2.2.2.1 w).2
  have cv := (lc.2.2.2.2.1 w).1
  have ckd := (lc.2.2.2.2.1 w).2
  have h12 := t3.K.1.2.1
  have nar : ∃ kk, (kk = 5 ∨ kk = 6) ∧ (if isl n bt f = true then (6 : Int32) else 5) = I3 kk ∧ trK (sm_wI (sm_wI g2 67 3 0) 67 19 0) kk (nva n bt f) = 0 := by
    by_cases il : isl n bt f = true
    · refine ⟨6, Or.inr rfl, if_pos il, ?_⟩
      unfold trK
      rw [if_pos (by decide)]
      exact if_pos rfl
    · refine ⟨5, Or.inl rfl, if_neg il, ?_⟩
      have hf : nfi n bt f = true := by
        have w' := w
        unfold wrd at w'
        repeat' split at w'
        all_goals first | (cases w') | skip
        have z := (show _ ∧ (_ ∨ _) by assumption : nok n bt f = true ∧ (isl n bt f = true ∨ nfi n bt f = true))
        exact z.2.resolve_left il
      unfold trK
      rw [if_pos (by decide)]
      refine if_pos ?_
      have hf := of_decide_eq_true hf
      exact hf.symm
  obtain ⟨kk, kk1, kk2, kk3⟩ := nar
  have C0 : F_194R rec h = (F_5 0 (I3 kk) 0 (nva n bt f) 56 (sm_wI h 56 1 0)).bind fun q2 => F_192 q2.1 0 0 (I3 f) q2.2 := by
    show F_194_0 rec h = _
    unfold F_194_0
    rw [show F_243 h = some (h.1 52 5, h) from rfl, lc.1]; simp only [obs]
    rw [show F_242 h = some (h.1 52 4, h) from rfl, lc.2.1, w]; simp only [obs]
    rw [if_neg (by decide), if_pos (by decide), show F_138 56 h = some (sm_wI h 56 1 0) from rfl]; simp only [obs]
    rw [show F_247 (sm_wI h 56 1 0) = some (h.1 52 9, sm_wI h 56 1 0) from rfl, ckd, kk2]; simp only [obs]
    rw [show F_246 (sm_wI h 56 1 0) = some (h.2.1 52 8, sm_wI h 56 1 0) from rfl, cv]; simp only [obs]
    cases F_5 0 (I3 kk) 0 (nva n bt f) 56 (sm_wI h 56 1 0) with
    | none => rfl
    | some q => exact bind_id _
  have R0 : F_448 g = (((F_430 0 (I3 kk) 0 (nva n bt f) g2).bind fun q => F_435 q.1 q.2).bind fun q21 => (F_447 q21.1 q21.2).bind fun q22 => if q22.1 = 0 ∨ q22.1 = 1 then some (q22.1, q22.2) else none) := by
    show F_448_0 g = _
    unfold F_448_0
    rw [d5]; simp only [obs]
    rw [if_neg (by decide), d4, show (sm_wI g1 67 106 (I3 f)).1 67 80 = g1.1 67 80 from rfl, lr.2.2.1, w, if_pos (by decide), t1]; simp only [obs]
    rw [nk, nv, kk2]
    cases F_430 0 (I3 kk) 0 (nva n bt f) g2 <;> rfl
  rw [C0, R0]
  have ck := ck_0 (h := h) (g := sm_wI (sm_wI g2 67 3 0) 67 19 0) (TK0 t3.K) rfl (k := kk) (by omega) (by show kk < 20 + nC g2; omega) 0 (c := nva n bt f) kk3
  have P := plainC (b0 := T) (f := 0) (base := 0) (m := 0) (pt := fun _ => 0) t3.K t3.S t3.nf wh ⟨T, t3.t.1, by omega, t3.t.2, fun i hi => by omega⟩ (by decide) (by decide) ck rfl (fun i hi => by omega) (fin := F_435) (fun x g => ⟨g, agr_rfl, fun i hi => by omega, fin0 x g⟩)
  exact leaf k1 m3 e t3 (OP_x (P := fun _ _ => False) p agr_rfl ag (fun z => z) (by unfold SLx; omega)) X ag (CB_nx fn lc (by omega)) t2 (by
    have := (wen_n (n := n) (bt := bt) fn).2.2 (by omega) (by omega)
    exact Nat.lt_of_lt_of_le this (far_ge _ _ _ _)) P
end
theorem MH2f {h g : sm_H} (K : K1 h g) {f : Nat} {a b : Int32} {c : Int64} {ps l : List Int32} {r : Int32} {o p : Nat} (w : isRw o p) (ho : o < 1000 ∧ (o < 5 ∨ 20 < o)) (hp : p < 5 ∨ 20 < p) (R : hasL h o p ps) (P : prR g ps) (dc : dC h l) (dr : dR g l) (er : g.1 67 20 = r) (h64 : l.length ≤ 64) (kr : kR1 g r) (kl : kL g l) (F : FS g f a b c ps r l) (fu : ∀ r' l', FS g f a b c ps r' l' → r' = r ∧ l' = l) : ∃ v w' h1 g1, F_6 (I3 f) a b c o r h = some (w', h1) ∧ F_340 (I3 f) a b c g = some (v, g1) ∧ K1 h1 g1 ∧ ext g g1 ∧ grow g g1 ∧ agr SCh h h1 ∧ agr SRh g g1 ∧ ((∃ e, (e = 4 ∨ e = 5) ∧ w' = -I3 e ∧ v = -1 ∧ g1.1 67 19 = I3 e) ∨ ∃ y, y < nH g1 ∧ w' = I3 y ∧ v = I3 y ∧ g1.1 67 19 = g.1 67 19 ∧ hrs g1 y = r ∧ hpl g1 y = l ∧ fm g1 y = f) := by
  obtain ⟨wK, cK, wT, cT, wH, cH, wM, cM, cG, cO, cV, wX, cX, cXh, wF⟩ := id K
  have h12 := wK.2.1
  have w300 : nT g ≤ 300 := wT.1.2
  have w500 : nH g ≤ 500 := wH.1.2
  have l20 := R.2.1
  have F1 := C_fits wT cT dc h64 r
  have F2 := C_knownH wH cH w R (I3 f) a b c
  have G2 := R_findH wH P (I3 f) a b c
  have e21 := dr.1
  have e10 : g.1 67 10 = I3 (nT g) := wT.1.1
  have e18 : g.1 67 18 = I3 (nH g) := wH.1.1
  have S35 : F_35 h = some (I3 (nH g), h) := by show some (h.1 10 11, h) = _; rw [cH.1, e18]
  have k19 : ∀ e : Int32, K1 h (sm_wI g 67 19 e) := fun e => ⟨wK, cK, wT, cT, wH, cH, wM, cM, cG, cO, cV, wX, cX, cXh, wF⟩
  have x19 : ∀ e : Int32, ext g (sm_wI g 67 19 e) ∧ grow g (sm_wI g 67 19 e) := fun e => ⟨⟨Nat.le_refl _, fun _ _ => rfl, Nat.le_refl _, fun _ _ => rfl, ⟨Nat.le_refl _, fun _ _ => ⟨rfl, rfl, fun _ _ => rfl⟩⟩, Nat.le_refl _, fun _ _ => rfl, Nat.le_refl _, fun _ _ => rfl, Nat.le_refl _, ⟨Nat.le_refl _, fun _ _ => ⟨rfl, rfl, rfl, rfl, rfl, rfl⟩⟩⟩, ⟨Nat.le_refl _, Nat.le_refl _, Nat.le_refl _, fun _ _ => rfl, fun _ _ => rfl⟩⟩
  have a19 : ∀ e : Int32, agr SRh g (sm_wI g 67 19 e) := fun e => agr_wI agr_rfl (by simp [SRh])
  have fHle := fH_le g (I3 f) a b c ps
  have refR : l.length ≤ 10 → (nT g < 300 ∨ fT g r l < nT g) → F_340 (I3 f) a b c g = F_340_42 (I3 f) a b c g := fun z room => by
    have RF := R_findT wT dr z r
    show F_340_0 _ _ _ _ g = _
    unfold F_340_0
    rw [e21, if_neg (by rw [I3_lit, I3_lt (by decide) (by omega)]; omega), er, RF]; simp only [Option.bind_some]
    rw [e10]
    by_cases q : nT g < 300
    · rw [if_neg (show ¬ I3 (nT g) = 300 by rw [I3_lit, I3_inj (by omega) (by decide)]; omega), ite_self]
    · unfold orN
      rw [if_pos (show fT g r l < nT g by omega), if_neg (I3_m1 (by omega))]
  by_cases fit : l.length ≤ 10 ∧ (nT g < 300 ∨ fT g r l < nT g)
  · rw [decide_eq_true fit] at F1
    have refR := refR fit.1 fit.2
    by_cases kn : fH g (I3 f) a b c ps < nH g
    · have kn' : orN (fH g (I3 f) a b c ps < nH g) (fH g (I3 f) a b c ps) = I3 (fH g (I3 f) a b c ps) := if_pos kn
      rw [kn'] at F2 G2
      have fuy : hrs g (fH g (I3 f) a b c ps) = r ∧ hpl g (fH g (I3 f) a b c ps) = l ∧ fm g (fH g (I3 f) a b c ps) = f := by
        have s := (fst1_spec (hP g (I3 f) a b c ps) (nH g)).2.2 kn
        have wF' := wF
        rw [wfF_0] at wF'
        have z := wF'.1 _ kn
        have f38 := FS_lt F
        unfold hP at s
        rw [Bool.and_eq_true, decide_eq_true_eq, all1_iff] at s
        obtain ⟨⟨s1, s2, s3, s4, s5⟩, s6⟩ := s
        have e1 : fm g (fH g (I3 f) a b c ps) = f := by show tn _ = _; rw [show g.1 75 (fH g (I3 f) a b c ps) = I3 f from s1]; exact tnI (by omega)
        have e2 : prt g (fH g (I3 f) a b c ps) = ps := by
          have : pm g (fH g (I3 f) a b c ps) = ps.length := by show tn _ = _; rw [show g.1 80 (fH g (I3 f) a b c ps) = I3 ps.length from s5]; exact tnI (by omega)
          show lst _ (pm g (fH g (I3 f) a b c ps)) = ps
          rw [this]
          refine lst_ext (lst_len _ _) (fun k hk => ?_)
          rw [lst_len] at hk
          rw [at0_lst hk]
          exact of_decide_eq_true (s6 k hk)
        rw [e1, e2, show g.1 77 (fH g (I3 f) a b c ps) = a from s2, show g.1 78 (fH g (I3 f) a b c ps) = b from s3, show g.2.1 79 (fH g (I3 f) a b c ps) = c from s4] at z
        exact ⟨(fu _ _ z).1, (fu _ _ z).2, e1⟩
      refine ⟨I3 (fH g (I3 f) a b c ps), I3 (fH g (I3 f) a b c ps), h, g, ?_, ?_, K, ext_rfl, grow_rfl, agr_rfl, agr_rfl, Or.inr ⟨_, kn, rfl, rfl, rfl, fuy⟩⟩
      · show F_6_0 _ _ _ _ _ _ h = _
        unfold F_6_0
        rw [F1]; simp only [Option.bind_some]
        rw [if_neg (by decide), F2]; simp only [Option.bind_some]
        rw [if_neg (I3_m1 (by omega))]
      · rw [refR]
        unfold F_340_42
        rw [G2]; simp only [Option.bind_some]
        rw [if_neg (I3_m1 (by omega))]
    · have kn' : orN (fH g (I3 f) a b c ps < nH g) (fH g (I3 f) a b c ps) = -1 := if_neg kn
      rw [kn'] at F2 G2
      have c6 : F_6 (I3 f) a b c o r h = if I3 (nH g) < 500 then ((F_234 r h).bind fun q4 => (F_50 (I3 f) a b c o q4.1 q4.2).bind fun q5 => some (q5.1, q5.2)) else (some ((-5), h)) := by
        show F_6_0 _ _ _ _ _ _ h = _
        unfold F_6_0
        rw [F1]; simp only [Option.bind_some]
        rw [if_neg (by decide), F2]; simp only [Option.bind_some]
        rw [if_pos trivial, S35]; simp only [Option.bind_some]
      have c7 : F_340 (I3 f) a b c g = if I3 (nH g) = 500 then ((some (sm_wI g 67 19 5)).bind fun h14 => some ((-1), h14)) else ((F_302 g).bind fun q7 => (stI q7.2 76 500 (I3 (nH g)) q7.1).bind fun h8 => (stI h8 75 500 (I3 (nH g)) (I3 f)).bind fun h9 => (stI h9 77 500 (I3 (nH g)) a).bind fun h10 => (stI h10 78 500 (I3 (nH g)) b).bind fun h11 => (stJ h11 79 500 (I3 (nH g)) c).bind fun h12 => (stI h12 80 500 (I3 (nH g)) (h12.1 67 3)).bind fun h13 => F_340_143 (I3 (nH g)) 0 h13) := by
        rw [refR]
        unfold F_340_42
        rw [G2]; simp only [Option.bind_some]
        rw [if_pos trivial, e18]
      by_cases full : nH g = 500
      · refine ⟨-1, -I3 5, h, sm_wI g 67 19 5, ?_, ?_, k19 _, (x19 _).1, (x19 _).2, agr_rfl, a19 _, Or.inl ⟨5, Or.inr rfl, rfl, rfl, rfl⟩⟩
        · rw [c6, if_neg (by rw [I3_lit, I3_lt (by omega) (by decide)]; omega)]; rfl
        · rw [c7, if_pos (by rw [full]; rfl)]; rfl
      · rw [if_pos (by rw [I3_lit, I3_lt (by omega) (by decide)]; omega)] at c6
        rw [if_neg (by rw [I3_lit, I3_inj (by omega) (by decide)]; exact full)] at c7
        obtain ⟨h3, g3, s1, s2, s3, s4, s5, s6, s7, s8, s9⟩ := settled K dc dr er fit.1 fit.2 kr kl
        generalize ht : fT g r l = t at s1 s2 s7
        obtain ⟨y1, y2⟩ := isTy_pl s7 (by omega)
        have n3 : nH g3 = nH g := s6.n
        have cGq1 : ∀ k, k < nG g → tn (g3.1 92 k) < nH g3 := fun k hk => by
          rw [s9.1 92 k (by unfold SRt; omega), n3]
          exact (K1_base K).g k hk
        have F3 : FS g3 f a b c ps r l := FS_up (K1_base K) cGq1 s4 F
        obtain ⟨A1, A2, A3⟩ := hAdd s3 (by omega) s7.1 y1 y2 l20 F3
        have R3 : hasL h3 o p ps := hasL_agr R s8 (fun j => by unfold SCt; omega)
        have P3 : prR g3 ps := ⟨by rw [s9.1 67 3 (by unfold SRt; omega)]; exact P.1, P.2.1, fun k hk => by rw [s9.1 69 k (by unfold SRt; omega)]; exact P.2.2 k hk⟩
        have CA := C_append (h := h3) (g := g3) s3.2.2.1 s3.2.2.2.2.1 s3.2.2.2.1 s3.2.2.2.2.2.1 w (by omega) (by omega) R3 (I3 f) a b c s7.1 (by omega)
        have RA := R_append (g := g3) (n := nH g) (by have := s3.2.2.2.2.1.1.1; rw [this]; show I3 (nH g3) = _; rw [n3]) (by omega) P3 (I3 f) a b c (t := t)
        rw [n3] at A1 A2 A3 CA
        rw [y1, y2] at CA
        refine ⟨I3 (nH g), I3 (nH g), _, _, ?_, ?_, A1, ext_trans s4 A2, grow_trans s5 A3, agr_trans (agr_mono (fun _ _ z => Or.inl z) s8) agr_setHC, agr_trans (agr_mono (fun _ _ z => Or.inl z) s9) agr_setHR, Or.inr ⟨nH g, ?_, rfl, rfl, ?_, ?_⟩⟩
        · rw [c6, s1]; simp only [Option.bind_some]
          rw [CA]; rfl
        · rw [c7, s2]; simp only [Option.bind_some]
          exact RA
        · show nH g < (I3 (nH g + 1)).toNatClampNeg
          rw [I3_clamp (by omega)]; omega
        · show g3.1 67 19 = _
          exact s9.1 67 19 (by unfold SRt; omega)
        · have tt : ty (setHR g3 (nH g) (I3 f) a b c ps t) (nH g) = t := by
            show tn (if nH g = nH g then I3 t else g3.1 76 (nH g)) = _
            rw [if_pos rfl]
            have w3 : nT g3 ≤ 300 := s3.2.2.1.1.2
            exact tnI (Nat.lt_of_lt_of_le s7.1 (Nat.le_trans w3 (by decide)))
          refine ⟨?_, ?_, ?_⟩
          · show rs (setHR g3 (nH g) (I3 f) a b c ps t) (ty (setHR g3 (nH g) (I3 f) a b c ps t) (nH g)) = r
            rw [tt]; exact y1
          · show pl (setHR g3 (nH g) (I3 f) a b c ps t) (ty (setHR g3 (nH g) (I3 f) a b c ps t) (nH g)) = l
            rw [tt]; exact y2
          · show tn (if nH g = nH g then I3 f else g3.1 75 (nH g)) = f
            rw [if_pos rfl]; exact tnI (Nat.lt_of_le_of_lt (FS_lt F) (by decide))
  · rw [decide_eq_false fit] at F1
    refine ⟨-1, -I3 4, h, sm_wI g 67 19 4, ?_, ?_, k19 _, (x19 _).1, (x19 _).2, agr_rfl, a19 _, Or.inl ⟨4, Or.inl rfl, rfl, rfl, rfl⟩⟩
    · show F_6_0 _ _ _ _ _ _ h = _
      unfold F_6_0
      rw [F1]; simp only [Option.bind_some]
      rw [if_pos (by decide)]; rfl
    · show F_340_0 _ _ _ _ g = _
      unfold F_340_0 F_340_35
      rw [e21]
      by_cases z : l.length ≤ 10
      · have RF := R_findT wT dr z r
        have on : orN (fT g r l < nT g) (fT g r l) = -1 := if_neg (by omega)
        rw [on] at RF
        rw [if_neg (by rw [I3_lit, I3_lt (by decide) (by omega)]; omega), er, RF]; simp only [Option.bind_some]
        rw [if_pos trivial, e10, if_pos (by rw [show nT g = 300 by omega]; rfl)]
      · rw [if_pos (by rw [I3_lit, I3_lt (by decide) (by omega)]; omega)]; rfl
theorem buildF2f {h g : sm_H} (K : K1 h g) {f : Nat} {tv a b : Int32} {c : Int64} {o p : Nat} {ps : List Int32} (w : isRw o p) (op : oP o p) (r : hasL h o p ps) (P : prR g ps) (hf : f < 35) (t : ∀ h, sm_ldI G0 h 1000000 (I3 f) = some tv) {va vb vc : Bool} (ea : (tv &&& 1 = 0) = (va = false)) (eb : (tv &&& 2 = 0) = (vb = false)) (ec : (tv &&& 4 = 0) = (vc = false)) (rA : ∀ g, F_337 (I3 f) g = some (b2 va, g)) (rB : ∀ g, F_338 (I3 f) g = some (b2 vb, g)) (rC : vc = decide (f = 0 ∨ f = 6))
    (mk : ∀ h' g', K1 h' g' → fS h' (I3 f) (bif va then a else 0) (bif vb then b else 0) (bif vc then c else 0) o p ps → prR g' ps → ∃ out, OC h' (I3 f) (bif va then a else 0) (bif vb then b else 0) (bif vc then c else 0) out ∧ OR g' (I3 f) a b c out ∧ OK g' f (bif va then a else 0) (bif vb then b else 0) (bif vc then c else 0) out) :
    ∀ {rr : Int32} {ll : List Int32}, ll.length ≤ 64 → (∃ u, F_336 (I3 f) a b c (sm_wI g 67 19 0) = some (0, u) ∧ dR u ll ∧ u.1 67 20 = rr) → (∀ u ps r l r' l', K1 h u ∨ (∃ z, K1 z u) → FS u f (bif va then a else 0) (bif vb then b else 0) (bif vc then c else 0) ps r l → FS u f (bif va then a else 0) (bif vb then b else 0) (bif vc then c else 0) ps r' l' → r = r' ∧ l = l') → ∃ v w' h1 g1, F_5 (I3 f) a b c o h = some (w', h1) ∧ F_341 (I3 f) a b c g = some (v, g1) ∧ K1 h1 g1 ∧ ext g g1 ∧ grow g g1 ∧ agr SCb h h1 ∧ agr SRb g g1 ∧ ((∃ e, 4 ≤ e ∧ e ≤ 5 ∧ w' = -I3 e ∧ v = -1 ∧ g1.1 67 19 = I3 e) ∨ ∃ y, y < nH g1 ∧ w' = I3 y ∧ v = I3 y ∧ hrs g1 y = rr ∧ hpl g1 y = ll ∧ fm g1 y = f) := by
  intro rr ll ll64 ck fu
  obtain ⟨h', c1, c2, c3⟩ := C_set (a := a) (b := b) (c := c) w op r hf t ea eb ec
  have a3 : agr Ssc h h' := agr_mono (fun b' j z => Or.inr (by unfold S34 at z; omega)) c3
  have K' : K1 h' (sm_wI g 67 19 0) := K1_19 (K1_h K (agr_mono Ssc_not a3)) 0
  have P' : prR (sm_wI g 67 19 0) ps := P
  have ag0 : agr SRb g (sm_wI g 67 19 0) := agr_wI agr_rfl (Or.inr (Or.inr (Or.inl ⟨rfl, Or.inr rfl⟩)))
  have E0 := ext_19 g 0
  have G0' := grow_19 g 0
  obtain ⟨out, o1, o2, o3⟩ := mk h' (sm_wI g 67 19 0) K' c2 P'
  have start : ∀ q, F_336 (I3 f) a b c (sm_wI g 67 19 0) = some q → F_341 (I3 f) a b c g = F_341_28 (I3 f) a b c q.1 q.2 := fun q hq => by
    show F_341_0 (I3 f) a b c g = _
    unfold F_341_0
    simp only [obs]
    rw [if_neg (I3_nn (by omega)), if_pos (by rw [I3_lit, I3_le (by omega) (by decide)]; omega), hq]; simp only [obs]
  rcases out with e | y | ⟨r, l, ps', o', p'⟩
  · obtain ⟨h1, x1, x2⟩ := o1
    obtain ⟨g1, y1, y2⟩ := o2
    have e3 : 1 ≤ e ∧ e ≤ 3 := o3
    exfalso
    obtain ⟨u, u1, -⟩ := ck
    rw [y1] at u1
    injection u1 with u1
    exact absurd (congrArg Prod.fst u1) (I3_ne0 e3.1 (by omega))
  · obtain ⟨h1, x1, x2⟩ := o1
    obtain ⟨g1, y1, y2⟩ := o2
    have e3 : y < nH (sm_wI g 67 19 0) := o3
    have w500 : nH (sm_wI g 67 19 0) ≤ 500 := K'.2.2.2.2.1.1.2
    exfalso
    obtain ⟨u, u1, -⟩ := ck
    rw [y1] at u1
    injection u1 with u1
    exact absurd (congrArg Prod.fst u1) (ns1 (lt1000 e3 w500))
  · obtain ⟨h1, x1, x2, x3, x4, x5, x6⟩ := o1
    obtain ⟨g1, y1, y2, y3, y4, y5⟩ := o2
    obtain ⟨z1, z2, z3, z4⟩ := (o3 : FS _ f _ _ _ ps' r l ∧ kR1 _ r ∧ kL _ l ∧ l.length ≤ 64)
    have st := start _ y1
    have E1 := ext_eq (okR_SRp y5)
    have K2 : K1 h1 g1 := K1_g (K1_h K' (agr_mono Ssc_not x6)) (agr_mono SRp_not y5)
    have bK := K'
    have nC1 : nC g1 = nC (sm_wI g 67 19 0) := by show tn _ = tn _; rw [y5.1 67 6 (by unfold SRp; omega)]
    have FS1 : FS g1 f (bif va then a else 0) (bif vb then b else 0) (bif vc then c else 0) ps' r l := FS_up (K1_base K') (fun k hk => by
      have := (K1_base K2).g k (by show k < tn _; rw [y5.1 67 35 (by unfold SRp; omega)]; exact hk)
      exact this) E1.1 z1
    have kr : kR1 g1 r := by obtain ⟨q, q1, q2⟩ := z2; exact ⟨q, q1, by rw [nC1]; exact q2⟩
    have kl : kL g1 l := fun i hi => by obtain ⟨q, q1, q2, q3⟩ := z3 i hi; exact ⟨q, q1, q2, by rw [nC1]; exact q3⟩
    have tyy : r = rr ∧ l = ll := by
      obtain ⟨u, u1, u2, u3⟩ := ck
      rw [y1] at u1
      injection u1 with u1
      have eu : g1 = u := congrArg Prod.snd u1
      subst eu
      exact ⟨y3.symm.trans u3, dR_inj y2 u2 z4 ll64⟩
    obtain ⟨v, w', h2, g2, m1, m2, m3, m4, m5, m6, m7, m8⟩ := MH2f K2 x4 (by omega) (by omega) x3 y4 x2 y2 y3 z4 kr kl FS1 (fun r' l' z => fu g1 _ _ _ _ _ (Or.inr ⟨h1, K2⟩) z FS1)
    refine ⟨v, w', h2, g2, ?_, ?_, m3, ext_trans E0 (ext_trans E1.1 m4), grow_trans G0' (grow_trans E1.2.1 m5), agr_trans (agr_mono (fun _ _ z => Or.inl z) (agr_trans a3 x6)) (agr_mono (fun _ _ z => Or.inr z) m6), agr_trans ag0 (agr_trans (agr_mono (fun _ _ z => Or.inl z) y5) (agr_mono (fun _ _ z => Or.inr z) m7)), ?_⟩
    · rw [c1, x1, m1]; rfl
    · rw [st]
      unfold F_341_28
      rw [if_pos (show (0 : Int32) ≤ 0 by decide), if_pos (show (0 : Int32) ≤ 0 by decide)]
      have go : ∀ vq : Bool, (bif vq then c else 0) = (bif vc then c else 0) → F_341_68 (I3 f) a b c (b2 vq) g1 = some (v, g2) := fun vq hq => by
        have m2' : F_341_107 (I3 f) (bif va then a else 0) (bif vb then b else 0) (bif vq then c else 0) g1 = some (v, g2) := by
          unfold F_341_107; rw [hq, m2]; rfl
        unfold F_341_68 F_341_84 F_341_96
        rw [rA]; simp only [obs]
        rw [rB]; simp only [obs]
        cases va <;> cases vb <;> cases vq <;> exact m2'
      unfold F_341_63
      by_cases q0 : f = 0
      · rw [if_pos (show I3 f = (0 : Int32) from congrArg I3 q0)]
        exact go true (by rw [rC, decide_eq_true (Or.inl q0)])
      · rw [if_neg (by rw [I3_lit, I3_inj (by omega) (by decide)]; exact q0)]
        by_cases q6 : f = 6
        · rw [if_pos (show I3 f = (6 : Int32) from congrArg I3 q6)]
          exact go true (by rw [rC, decide_eq_true (Or.inr q6)])
        · rw [if_neg (by rw [I3_lit, I3_inj (by omega) (by decide)]; exact q6)]
          exact go false (by rw [rC, decide_eq_false (by omega)])
    · rcases m8 with ⟨e, e1, e2, e3, e4⟩ | ⟨y, q1, q2, q3, q4, q5, q6⟩
      · exact Or.inl ⟨e, by omega, by omega, e2, e3, e4⟩
      · exact Or.inr ⟨y, q1, q2, q3, q5.trans tyy.1, q6.1.trans tyy.2, q6.2⟩
theorem mkForm2 {h g : sm_H} (K : K1 h g) (nf : NF h g) {pc k : Nat} (wh : g.1 67 106 = I3 pc) (k1 : 0 < k) (k2 : k < 20 + nC g) (R : hasL h 56 57 []) (P : prR g []) :
    (∃ y h1 g1, F_5 2 (I3 k) 0 0 56 h = some (I3 y, h1) ∧ F_429 2 (I3 k) 0 0 g = some (I3 y, g1) ∧ y < nH g1 ∧ hrs g1 y = I3 k ∧ hpl g1 y = [I3 k] ∧ fm g1 y = 2 ∧ TK h g h1 g1 ∧ NF h1 g1) ∨ ∃ w' h1 h2 g2, w' < 0 ∧ F_5 2 (I3 k) 0 0 56 h = some (w', h1) ∧ F_169 8 (I3 pc) h1 = some (-1, h2) ∧ F_429 2 (I3 k) 0 0 g = some (-1, g2) ∧ TK h g h2 g2 ∧ FT 8 pc h2 g2 := by
  have ck : ∃ u, F_336 (I3 2) (I3 k) 0 0 (sm_wI g 67 19 0) = some (0, u) ∧ dR u [I3 k] ∧ u.1 67 20 = I3 k := by
    rcases ck_2 (K1_c19 K) P.1 k1 (show k < 20 + nC (sm_wI g 67 19 0) from k2) 0 0 with z | ⟨y, u, u1, u2, -⟩
    · exact z
    · exfalso
      have h12 := K.1.2.1
      have K' := K1_c19 K
      obtain ⟨u0, f1, E1⟩ := E_clear K' (I3 k)
      obtain ⟨u3, f2, E2⟩ := E_add E1 (by simp) (I3 k)
      have : F_336 (I3 2) (I3 k) 0 0 (sm_wI g 67 19 0) = some (0, u3) := by
        refine ck_oth (X := some (0, u3)) P.1 (B336_2 _ _ _) ?_
        rw [B335_2, if_neg (by decide), kdK K' (show k < 20 + nC (sm_wI g 67 19 0) from k2)]; simp only [obs]
        rw [if_neg (by decide), if_neg (by rw [I3_lit, I3_inj (by omega) (by decide)]; omega), f1]; simp only [obs]
        rw [f2]; simp only [obs]
      rw [this] at u1
      injection u1 with u1
      exact ns1 (lt1000 u2 (w500 K')) (congrArg Prod.fst u1).symm
  obtain ⟨v, w', h1, g1, b1, b2', b3, b4, b5, b6, b7, b8⟩ := buildF2f (f := 2) (a := I3 k) (b := 0) (c := 0) K rw56 (Or.inr (Or.inl ⟨rfl, rfl⟩)) R P (by decide) (va := true) (vb := false) (vc := false) (fun _ => rfl) (by decide) (by decide) (by decide) (fun _ => rfl) (fun _ => rfl) (by decide) (fun h' g' K' S' P' => mk_2 K' S' (Or.inr (Or.inl ⟨rfl, rfl⟩)) P' 0 0) (by simp) ck (fun u ps r l r' l' z x y => by
      rcases z with z | ⟨_, z⟩
      · exact fu_2 z x y
      · exact fu_2 z x y)
  have T : TK h g h1 g1 := TK_mk b3 b4 b5 (agr_mono (fun _ _ z => Or.inl z) b6) (agr_mono (fun _ _ z => Or.inl z) b7)
  have n1 : NF h1 g1 := NF_agr nf b6 b7 (by unfold SCb Ssc SCd SCh SCt; omega) (by unfold SRb SRp SRh SRt; omega)
  have w5 : nH g1 ≤ 500 := b3.2.2.2.2.1.1.2
  have R0 : F_429 2 (I3 k) 0 0 g = F_429_0 2 (I3 k) 0 0 g := rfl
  unfold F_429_0 F_429_42 F_429_50 at R0
  rw [if_pos nf.2.1, show F_341 2 (I3 k) 0 0 g = some (v, g1) from b2'] at R0; simp only [obs] at R0
  rcases b8 with ⟨e, e1, e2, rfl, rfl, e4⟩ | ⟨y, y1, rfl, rfl, y3, y4, y5⟩
  · right
    obtain ⟨h2, g2, f1, f2, f3, f4⟩ := TK_fail T n1 (e := 8) (pc := pc) (by decide) (by decide)
    refine ⟨-I3 e, h1, h2, g2, ?_, b1, f1, ?_, f3, f4⟩
    · rcases (show e = 4 ∨ e = 5 by omega) with rfl | rfl <;> decide
    · rw [if_pos rfl, e4, if_neg (by rw [I3_lit, I3_le (by omega) (by decide)]; omega), show g1.1 67 106 = I3 pc from (b7.1 67 106 (by unfold SRb SRp SRh SRt; omega)).trans wh, show F_413 8 (I3 pc) g1 = some (0, g2) from f2] at R0
      exact R0
  · left
    rw [if_neg (I3_m1 (by omega))] at R0
    exact ⟨y, h1, g1, b1, R0, y1, y3, y4, y5, T, n1⟩
section
variable {n : Nat} {bt : Nat → Nat} {o T k : Nat} {nm : Nat → Int64} {kd : List Int32} {h g : sm_H}
def ws (nm : Nat → Int64) (kd : List Int32) (x : Int64) : Nat := fst1 (fun i => decide (nm i = x)) kd.length
theorem ws_le (x : Int64) : ws nm kd x ≤ kd.length := (fst1_spec _ _).1
theorem C_181 (S : SCO nm kd h g) (x : Int64) : F_181 x h = some (if ws nm kd x < kd.length then I3 (ws nm kd x) else -1, h) := by
  obtain ⟨s1, s2, s3, s4, s5⟩ := S
  have L := lp_fst (body := F_181_2B) (fun i => decide (nm i = x)) kd.length (fun k => (x, I3 k, h)) (fun k => (I3 k, h)) (-1, h) (f := 1000000) (by omega) (fun i hi e => ?_) (fun i hi e => ?_) ?_
  · refine Eq.trans (show F_181 x h = lp F_181_2B 1000000 (x, I3 0, h) from rfl) (L.trans ?_)
    unfold ws
    split <;> rfl
  · show F_181_2B (x, I3 i, h) = _
    unfold F_181_2B
    simp only []
    rw [s1, if_neg (by rw [I3_le (by omega) (by omega)]; omega), if_neg (by rw [I3_lit, I3_le (by decide) (by omega)]; omega), ldJ_I (by omega) (by decide), (s5 i hi).1]; simp only [obs]
    first
    | rw [if_neg (fun z => (of_decide_eq_false e) (cmp_eq.mp z)), show I3 i + 1 = I3 (i + 1) from I3_add i 1]
    | rw [if_pos (cmp_eq.mpr (of_decide_eq_true e))]
  · show F_181_2B (x, I3 i, h) = _
    unfold F_181_2B
    simp only []
    rw [s1, if_neg (by rw [I3_le (by omega) (by omega)]; omega), if_neg (by rw [I3_lit, I3_le (by decide) (by omega)]; omega), ldJ_I (by omega) (by decide), (s5 i hi).1]; simp only [obs]
    first
    | rw [if_neg (fun z => (of_decide_eq_false e) (cmp_eq.mp z)), show I3 i + 1 = I3 (i + 1) from I3_add i 1]
    | rw [if_pos (cmp_eq.mpr (of_decide_eq_true e))]
  · show F_181_2B (x, I3 kd.length, h) = _
    unfold F_181_2B F_181_35
    simp only []
    rw [s1, if_pos (by rw [I3_le (by omega) (by omega)]; omega)]; rfl
theorem R_83 (S : SCO nm kd h g) {x : Int64} (e83 : g.2.1 67 83 = x) : F_448_83 (I3 (400 - kd.length)) g = F_448_110 (I3 (400 - kd.length + ws nm kd x)) g := by
  obtain ⟨s1, s2, s3, s4, s5⟩ := S
  have sp := fst1_spec (fun i => decide (nm i = x)) kd.length
  have LP : ∀ r i fu, i + r = kd.length → r < fu → i ≤ ws nm kd x → lp F_448_83B fu (I3 (400 - kd.length + i), g) = F_448_110 (I3 (400 - kd.length + ws nm kd x)) g := by
    intro r
    induction r with
    | zero =>
      intro i fu hi hf hw
      have e : ws nm kd x = kd.length := by have := ws_le (nm := nm) (kd := kd) x; omega
      rw [lp_oK (by omega), e]
      unfold F_448_83B
      simp only []
      rw [if_pos (by rw [I3_lit, I3_le (by decide) (by omega)]; omega), show i = kd.length by omega, oKm]
    | succ r ih =>
      intro i fu hi hf hw
      have z := (s5 i (by omega)).2.2.1
      by_cases q : nm i = x
      · have e : ws nm kd x = i := by
          rcases Nat.lt_or_ge i (ws nm kd x) with y | y
          · have := sp.2.1 i y
            rw [decide_eq_true q] at this; cases this
          · omega
        rw [lp_oK (by omega), e]
        unfold F_448_83B
        simp only []
        rw [if_neg (by rw [I3_lit, I3_le (by decide) (by omega)]; omega), ldJ_I (by omega) (by decide), z, e83]; simp only [obs]
        rw [if_pos (cmp_eq.mpr q), oKm]
      · have hw' : i + 1 ≤ ws nm kd x := by
          rcases Nat.lt_or_ge i (ws nm kd x) with y | y
          · exact y
          · have e : ws nm kd x = i := by omega
            have : nm (ws nm kd x) = x := of_decide_eq_true (sp.2.2 (show ws nm kd x < kd.length by omega))
            rw [e] at this; exact absurd this q
        rw [lp_s (s' := (I3 (400 - kd.length + (i + 1)), g)) (by omega) (by
          unfold F_448_83B
          simp only []
          rw [if_neg (by rw [I3_lit, I3_le (by decide) (by omega)]; omega), ldJ_I (by omega) (by decide), z, e83]; simp only [obs]
          rw [if_neg (fun w => q (cmp_eq.mp w)), show I3 (400 - kd.length + i) + 1 = I3 (400 - kd.length + (i + 1)) from I3_add _ 1])]
        exact ih (i + 1) (fu - 1) (by omega) (by omega) hw'
  exact LP kd.length 0 1000000 (by omega) (by omega) (Nat.zero_le _)
theorem R_428_75 (K : K1 h g) (S : SCO nm kd h g) (l10 : kd.length ≤ 10) {r : Int32} {t : Nat} {g4 : sm_H} (tm : ¬ I3 t = (-1 : Int32)) (e : F_428 r g = some (I3 t, g4)) (y : Nat) : g4.1 75 y = g.1 75 y := by
  obtain ⟨v, v1, v2, v3, v4⟩ := R_scope S l10 r
  have T0 : TK h g h v := TK_d K agr_rfl v3
  have wT := T0.k.2.2.1
  have ev : v.1 75 y = g.1 75 y := v3.1 75 y (by unfold SRd; omega)
  rw [v1] at e
  unfold F_428_47 F_428_68 at e
  have fl := fT_le v r kd
  by_cases c1 : fT v r kd < nT v
  · rw [R_made1 wT v2 l10 v4 c1] at e; simp only [obs] at e
    rw [if_neg (by have := wT.1.2; exact I3_m1 (by have := wT.1.2; show fT v r kd < 2147483648; have : nT v ≤ 300 := wT.1.2; omega))] at e
    injection e with e
    have := congrArg Prod.snd e
    have : v = g4 := this
    rw [← this]; exact ev
  · have c2 : fT v r kd = nT v := by omega
    by_cases c3 : nT v < 300
    · rw [R_made2 wT v2 l10 v4 c2 c3] at e; simp only [obs] at e
      rw [if_neg (I3_m1 (by omega))] at e
      injection e with e
      have : setTR v (nT v) r kd = g4 := congrArg Prod.snd e
      rw [← this]; exact ev
    · rw [R_made0 wT v2 (by omega) v4 (by omega)] at e; simp only [obs] at e
      rw [if_pos trivial] at e
      exfalso
      cases z : F_413 8 (v.1 67 106) v with
      | none => rw [z] at e; cases e
      | some q =>
        rw [z] at e; simp only [obs] at e
        injection e with e
        exact tm (congrArg Prod.fst e).symm
theorem nameLeaf {m f : Nat} (s : TS n bt T (k + 1) nm kd h g) (p : OP o h g) (lc : LXC n bt f h) (r : RB n bt f g) (w : wrd n bt f = 4) (k1 : k < 24) (m3 : m ≤ 4000) (e : g.1 124 k = I3 m) (rec : sm_H → Option (Int32 × sm_H)) : EO n bt o T k m f nm kd h g (F_194R rec h) (F_448 g) := by
  have fn := RB_n r
  obtain ⟨g1, d1, d2, d3, d4, d5⟩ := look_R s r
  rw [if_neg (by omega)] at d5
  obtain ⟨d5, lr⟩ := d5
  have a6 : agr (fun b j => b = 67 ∧ j = 106) g1 (sm_wI g1 67 106 (I3 f)) := agr_wI agr_rfl ⟨rfl, rfl⟩
  have S2 := (TS_x (T' := T) (k' := k + 1) d1 agr_rfl (agr_mono (fun b j z => Or.inr ⟨z.1, by omega⟩) a6)).1
  have ag1 : agr (fun b j => SLx b j ∨ (b = 67 ∧ (j = 105 ∨ j = 106 ∨ j = 108))) g (sm_wI g1 67 106 (I3 f)) := agr_trans (agr_mono (fun b j z => Or.inl z) d2) (agr_mono (fun b j z => Or.inr ⟨z.1, by omega⟩) a6)
  have X1 := (TS_x (T' := T) (k' := k + 1) s agr_rfl ag1).2
  have cx : h.2.1 52 10 = foldN bt f (men n bt f - f) := lc.2.2.2.2.2.1 w
  have rx : g1.2.1 67 83 = foldN bt f (men n bt f - f) := lr.2.2.2.2.2.1 w
  generalize foldN bt f (men n bt f - f) = x at cx rx
  have C0 : F_194R rec h = F_195 (I3 f) h := by
    show F_194_0 rec h = _
    unfold F_194_0
    rw [show F_243 h = some (h.1 52 5, h) from rfl, lc.1]; simp only [obs]
    rw [show F_242 h = some (h.1 52 4, h) from rfl, lc.2.1, w]; simp only [obs]
    rw [if_neg (by decide), if_neg (by decide), if_pos (by decide)]
    exact bind_id _
  have C1 : F_195 (I3 f) h = F_195_0 (I3 f) h := rfl
  unfold F_195_0 F_195_23 at C1
  rw [show F_248 h = some (h.2.1 52 10, h) from rfl, cx] at C1; simp only [obs] at C1
  rw [C_181 s.S x] at C1; simp only [obs] at C1
  have R0 : F_448 g = F_448_110 (I3 (400 - kd.length + ws nm kd x)) (sm_wI g1 67 106 (I3 f)) := by
    rw [← R_83 S2.S (show (sm_wI g1 67 106 (I3 f)).2.1 67 83 = x from rx)]
    show F_448_0 g = _
    unfold F_448_0
    rw [d5]; simp only [obs]
    rw [if_neg (by decide), d4, show (sm_wI g1 67 106 (I3 f)).1 67 80 = g1.1 67 80 from rfl, lr.2.2.1, w, if_neg (by decide), if_neg (by decide), if_pos (by decide), show (sm_wI g1 67 106 (I3 f)).1 67 94 = I3 (400 - kd.length) from S2.S.2.2.1]
  have s13 := s.S.2.1
  have wl := ws_le (nm := nm) (kd := kd) x
  rw [C0, C1, R0]
  unfold F_448_110
  by_cases q : ws nm kd x < kd.length
  · rw [if_pos q, if_neg (I3_m1 (by omega)), if_pos (by rw [I3_lit, I3_lt (by omega) (by decide)]; omega), if_neg (by rw [I3_lit, I3_inj (by omega) (by decide)]; omega)]
    obtain ⟨g2, t1, t2, t3, t4⟩ := take_R S2 fn (show LXR n bt f (sm_wI g1 67 106 (I3 f)) from lr)
    have ag : agr (fun b j => SLx b j ∨ (b = 67 ∧ (j = 105 ∨ j = 106 ∨ j = 108))) g g2 := agr_trans ag1 (agr_mono (fun b j z => Or.inl ⟨z.1, by omega, by omega⟩) t4)
    have X := (TS_x (T' := T) (k' := k + 1) s agr_rfl ag).2
    have wh : g2.1 67 106 = I3 f := t4.1 67 106 (by omega)
    obtain ⟨qk, qk1, qk2, qk3⟩ := t3.S.2.2.2.1 (ws nm kd x) q
    have l59 : ldI h 59 16 (I3 (ws nm kd x)) = some (I3 qk) := by rw [ldI_I (by omega) (by decide), (s.S.2.2.2.2 _ q).2.1, qk1]
    have l118 : ∀ u, u.1 118 (400 - kd.length + ws nm kd x) = g2.1 118 (400 - kd.length + ws nm kd x) → ldI u 118 400 (I3 (400 - kd.length + ws nm kd x)) = some (I3 qk) := fun u hu => by rw [ldI_I (by omega) (by decide), hu, (t3.S.2.2.2.2 _ q).2.2.2, qk1]
    rw [l59, t1]; simp only [obs]
    rw [l118 g2 rfl, show F_138 56 h = some (sm_wI h 56 1 0) from rfl]; simp only [obs]
    have Rr : hasL (sm_wI h 56 1 0) 56 57 [] := ⟨rfl, by decide, fun k hk => by cases hk⟩
    have b1 : agr S56 h (sm_wI h 56 1 0) := agr_wI agr_rfl (Or.inl ⟨rfl, rfl⟩)
    have Pp : prR (sm_wI g2 67 3 0) [] := ⟨rfl, by decide, fun k hk => by cases hk⟩
    have b2' : agr SRp g2 (sm_wI g2 67 3 0) := agr_wI agr_rfl (by unfold SRp; omega)
    have T0 := TK_par (TK_row (TK_rfl t3.K) b1) b2'
    have n0 := NF_par (NF_row t3.nf b1) b2'
    rw [show F_430 2 (I3 qk) 0 0 g2 = F_429 2 (I3 qk) 0 0 (sm_wI g2 67 3 0) from bind_id _]
    have early : ∀ (e' : Nat) (h3 g3 : sm_H) (rc : Option (Int32 × sm_H)), TK h g2 h3 g3 → FT e' f h3 g3 → rc = some (-1, h3) → EO n bt o T k m f nm kd h g rc (some (0, g3)) := fun e' h3 g3 rc t ft hc => Or.inr ⟨e', f, h3, g3, hc, ft, XT_mono (Nat.zero_le T) (Nat.zero_le (k + 1)) (XT_trans X (XT_TK t)), Or.inl rfl⟩
    rcases mkForm2 T0.k n0 (wh_TK wh T0) qk2 (show qk < 20 + nC g2 from qk3) Rr Pp with ⟨y, h3, g3, m1, m2, m3', m4, m5, m6, m7, m8⟩ | ⟨w', h3, h4, g4, w0, m1, m2, m3', m4, m5⟩
    · have T3 := TK_trans T0 m7
      rw [m1, m2]; simp only [obs]
      rw [if_pos (h_ge m7.k m3'), if_neg (h_m1 m7.k m3'), l118 g3 (T3.a.1 118 _ (by unfold SRq SRb SRp SRh SRt; omega))]; simp only [obs]
      have nc3 := T3.nC
      rcases scopeTy m7.k (SCO_TK t3.S T3) m8 (wh_TK wh T3) (r := I3 qk) ⟨qk, rfl, by omega⟩ with ⟨t, h4, g4, e1, e2, u1, u2, u3, u4, T4, n4⟩ | ⟨e', h4, g4, e1, e2, T4, ft⟩
      · rw [e1, e2]; simp only [obs]
        have tm : ¬ I3 t = (-1 : Int32) := by have := w300 T4.k; exact I3_m1 (by omega)
        unfold F_448_165
        rw [if_neg tm, if_neg tm]
        obtain ⟨h5, v1, v2, v3⟩ := C_two56 h4 (I3 y) (I3 (ws nm kd x))
        obtain ⟨p1, p2⟩ := par2 g4 (I3 y) (I3 (ws nm kd x))
        have T5 := TK_par (TK_row (TK_trans T3 T4) v3) p2
        have n5 := NF_par (NF_row n4 v3) p2
        have e94 : (sm_wI g4 69 0 (I3 y)).1 67 94 = I3 (400 - kd.length) := ((TK_trans T3 T4).a.1 67 94 (by unfold SRq SRb SRp SRh SRt; omega)).trans t3.S.2.2.1
        rw [v1, show stI g4 69 24 0 (I3 y) = some (sm_wI g4 69 0 (I3 y)) from stI_I (k := 0) (by decide) (by decide)]; simp only [obs]
        rw [e94, I3_sub (by omega), show 400 - kd.length + ws nm kd x - (400 - kd.length) = ws nm kd x by omega, show stI (sm_wI g4 69 0 (I3 y)) 69 24 1 (I3 (ws nm kd x)) = some (sm_wI (sm_wI g4 69 0 (I3 y)) 69 1 (I3 (ws nm kd x))) from stI_I (k := 1) (by decide) (by decide)]; simp only [obs]
        have fm4 : fm g4 y = 2 := (congrArg tn (R_428_75 m7.k (SCO_TK t3.S T3) u4 tm e2 y)).trans m6
        have ck : Ck (sm_wI (sm_wI (sm_wI (sm_wI g4 69 0 (I3 y)) 69 1 (I3 (ws nm kd x))) 67 3 2) 67 19 0) 5 0 (I3 t) 0 (I3 qk) kd := by
          have := ck_5 (K1_c19 T5.k) (P := (show prR (sm_wI (sm_wI (sm_wI (sm_wI g4 69 0 (I3 y)) 69 1 (I3 (ws nm kd x))) 67 3 2) 67 19 0) _ from p1)) (x := y) (t := t) (i := ws nm kd x) (k := I3 qk) (T4.nH m3') fm4 ((T4.hpl m7.k m3').trans m5) ((T4.hrs m7.k m3').trans m4) u1 u2 (by show _ < (pl g4 t).length; rw [u3]; exact q) (by show at0 (pl g4 t) _ = _; rw [u3]; exact qk1) 0 0
          have z1 : rs (sm_wI (sm_wI (sm_wI (sm_wI g4 69 0 (I3 y)) 69 1 (I3 (ws nm kd x))) 67 3 2) 67 19 0) t = I3 qk := u2
          have z2 : pl (sm_wI (sm_wI (sm_wI (sm_wI g4 69 0 (I3 y)) 69 1 (I3 (ws nm kd x))) 67 3 2) 67 19 0) t = kd := u3
          rw [z1, z2] at this; exact this
        have M := mkForm T5.k n5 (f := 5) (wh_TK wh T5) 0 (I3 t) 0 v2 p1 (by decide) (by omega) ck
        have PP : PO T h g2 f (if 0 ≤ ((F_5 5 0 (I3 t) 0 56 h5).getD (0, h)).1 then some (((F_5 5 0 (I3 t) 0 56 h5).getD (0, h)).1, ((F_5 5 0 (I3 t) 0 56 h5).getD (0, h)).2) else (F_169 8 (I3 f) ((F_5 5 0 (I3 t) 0 56 h5).getD (0, h)).2).bind fun q10 => some (q10.1, q10.2)) (F_429 5 0 (I3 t) 0 (sm_wI (sm_wI (sm_wI g4 69 0 (I3 y)) 69 1 (I3 (ws nm kd x))) 67 3 2)) kd := by
          rcases M with ⟨z, h6, g6, o1, o2, o3, o4, o5, o6, o7⟩ | ⟨w', h6, h7, g7, w0, o1, o2, o3, o4, o5⟩
          · rw [show F_5 5 0 (I3 t) 0 56 h5 = _ from o1]
            refine Or.inl ⟨z, h6, g6, if_pos (h_ge o6.k o3), o2, o3, o5, TB_of (TK_trans T5 o6), o7⟩
          · rw [show F_5 5 0 (I3 t) 0 56 h5 = _ from o1]
            refine Or.inr ⟨8, h7, g7, ?_, o3, TB_of (TK_trans T5 o4), o5⟩
            show (if 0 ≤ w' then some (w', h6) else (F_169 8 (I3 f) h6).bind fun q10 => some (q10.1, q10.2)) = _
            rw [if_neg (Int32.not_le.mpr w0), o2]; rfl
        have lf := leaf k1 m3 e t3 (OP_x (P := fun _ _ => False) p agr_rfl ag (fun z => z) (by unfold SLx; omega)) X ag (CB_nx fn lc (by omega)) t2 (f := f) (by
          have := (wen_n (n := n) (bt := bt) fn).2.2 (by omega) (by omega)
          exact Nat.lt_of_lt_of_le this (far_ge _ _ _ _)) PP
        have c5 : ∃ q, F_5 5 0 (I3 t) 0 56 h5 = some q := by
          rcases M with ⟨z, h6, g6, o1, -⟩ | ⟨w', h6, h7, g7, w0, o1, -⟩
          · exact ⟨_, o1⟩
          · exact ⟨_, o1⟩
        obtain ⟨q5, q5e⟩ := c5
        rw [q5e] at lf ⊢
        exact lf
      · rw [e1, e2]; simp only [obs]
        unfold F_448_165
        rw [if_pos trivial, if_pos rfl]
        exact early e' h4 g4 _ (TK_trans T3 T4) ft rfl
    · rw [m1, m3']; simp only [obs]
      unfold F_448_165
      rw [if_neg (Int32.not_le.mpr w0), if_pos trivial, if_pos rfl]
      refine early 8 h4 g4 _ (TK_trans T0 m4) m5 ?_
      rw [m2]; rfl
  · rw [if_neg q, if_pos rfl, if_pos (by rw [show 400 - kd.length + ws nm kd x = 400 by omega]; rfl)]
    obtain ⟨h2, g2, f1, f2, f3, f4⟩ := XT_fail S2 (T' := 0) (k' := 0) (e := 6) (f := f) (by decide) (by decide)
    refine Or.inr ⟨6, f, h2, g2, ?_, f3, XT_trans (XT_mono (Nat.zero_le T) (Nat.zero_le (k + 1)) X1) f4, Or.inl ?_⟩
    · rw [C_170 lc, show F_169 6 (I3 f) h = some (-1, h2) from f1]; rfl
    · rw [show (sm_wI g1 67 106 (I3 f)).1 67 81 = I3 f from d4, show F_413 6 (I3 f) (sm_wI g1 67 106 (I3 f)) = some (0, g2) from f2]; simp only [obs]
      rw [if_pos (Or.inl trivial)]
end
section
variable {n : Nat} {bt : Nat → Nat} {o T k : Nat} {nm : Nat → Int64} {kd : List Int32} {h g : sm_H}
theorem badLeaf {m f : Nat} (s : TS n bt T (k + 1) nm kd h g) (lc : LXC n bt f h) (r : RB n bt f g) (w : wrd n bt f = 0 ∨ wrd n bt f = 2 ∨ wrd n bt f = 5) (rec : sm_H → Option (Int32 × sm_H)) : EO n bt o T k m f nm kd h g (F_194R rec h) (F_448 g) := by
  obtain ⟨g1, d1, d2, d3, d4, d5⟩ := look_R s r
  rw [if_neg (by omega)] at d5
  obtain ⟨d5, lr⟩ := d5
  have a6 : agr (fun b j => b = 67 ∧ j = 106) g1 (sm_wI g1 67 106 (I3 f)) := agr_wI agr_rfl ⟨rfl, rfl⟩
  have S2 := (TS_x (T' := T) (k' := k + 1) d1 agr_rfl (agr_mono (fun b j z => Or.inr ⟨z.1, by omega⟩) a6)).1
  have ag1 : agr (fun b j => SLx b j ∨ (b = 67 ∧ (j = 105 ∨ j = 106 ∨ j = 108))) g (sm_wI g1 67 106 (I3 f)) := agr_trans (agr_mono (fun b j z => Or.inl z) d2) (agr_mono (fun b j z => Or.inr ⟨z.1, by omega⟩) a6)
  have X1 := (TS_x (T' := 0) (k' := 0) s agr_rfl ag1).2
  obtain ⟨h2, g2, f1, f2, f3, f4⟩ := XT_fail S2 (T' := 0) (k' := 0) (e := 4) (f := f) (by decide) (by decide)
  have nc : ∀ x : Nat, x = 1 ∨ x = 3 ∨ x = 4 → ¬ I3 (wrd n bt f) = I3 x := fun x hx => by rw [I3_inj (by omega) (by omega)]; omega
  have nr : ∀ x : Nat, x = 1 ∨ x = 2 ∨ x = 3 → ¬ I3 (rwd (wrd n bt f)) = I3 x := fun x hx => by
    rcases w with z | z | z <;> rw [z] <;> rcases hx with rfl | rfl | rfl <;> decide
  refine Or.inr ⟨4, f, h2, g2, ?_, f3, XT_trans X1 f4, Or.inl ?_⟩
  · show F_194_0 rec h = _
    unfold F_194_0 F_194_109
    rw [show F_243 h = some (h.1 52 5, h) from rfl, lc.1]; simp only [obs]
    rw [show F_242 h = some (h.1 52 4, h) from rfl, lc.2.1]; simp only [obs]
    rw [if_neg (show ¬ I3 (wrd n bt f) = (1 : Int32) from nc 1 (by decide)), if_neg (show ¬ I3 (wrd n bt f) = (3 : Int32) from nc 3 (by decide)), if_neg (show ¬ I3 (wrd n bt f) = (4 : Int32) from nc 4 (by decide)), C_170 lc, show F_169 4 (I3 f) h = some (-1, h2) from f1]; rfl
  · show F_448_0 g = _
    unfold F_448_0
    rw [d5]; simp only [obs]
    rw [if_neg (by decide), d4, show (sm_wI g1 67 106 (I3 f)).1 67 80 = g1.1 67 80 from rfl, lr.2.2.1, if_neg (show ¬ I3 (rwd (wrd n bt f)) = (2 : Int32) from nr 2 (by decide)), if_neg (show ¬ I3 (rwd (wrd n bt f)) = (3 : Int32) from nr 3 (by decide)), if_neg (show ¬ I3 (rwd (wrd n bt f)) = (1 : Int32) from nr 1 (by decide)), f421 _ (show (sm_wI g1 67 106 (I3 f)).1 67 81 = I3 f from d4)]
    exact f2
theorem C_169f {e pc : Nat} (ft : FT e pc h g) (x y : Int32) : F_169 x y h = some (-1, h) := by
  obtain ⟨f1, -, -, -, f5, f6⟩ := ft
  show F_169_0 x y h = _
  unfold F_169_0
  rw [if_neg (by rw [f1, I3_lit, I3_inj (by omega) (by decide)]; omega)]
  rfl
theorem badWord {Q : sm_H → sm_H → Prop} (s : TG Q n bt T k h g) {f : Nat} (lc : LXC n bt f h) (r : RB n bt f g) (w : wrd n bt f = 6) (cq : CQ Q := by first | assumption | exact CQ_S _ _ | exact CQ_T) : ∃ h2 g2, F_170 (h.1 52 6) h = some (-1, h2) ∧ F_418 g = some (0, g2) ∧ FT (wtr n bt f) f h2 g2 ∧ XT 0 0 h g h2 g2 ∧ agr (fun b j => b = 55 ∧ (j = 17 ∨ j = 18)) h h2 := by
  obtain ⟨g1, d1, d2, d3, d4, d5⟩ := look_R s r
  rw [if_pos w] at d5
  have X1 := (TS_x (T' := 0) (k' := 0) s agr_rfl (agr_mono (fun b j z => Or.inl z) d2)).2
  have e9 : 1 ≤ wtr n bt f := by
    unfold wtr
    repeat' split
    all_goals omega
  have e3 := wtr_3 n bt f
  obtain ⟨h2, g2, f1, f2, f3, f4⟩ := XT_fail d1 (T' := 0) (k' := 0) (e := wtr n bt f) (f := f) e9 (by omega)
  have fe : F_169 (I3 (wtr n bt f)) (I3 f) h = some (-1, sm_wI (sm_wI h 55 17 (I3 (wtr n bt f))) 55 18 (I3 f)) := by
    show F_169_0 (I3 (wtr n bt f)) (I3 f) h = _
    unfold F_169_0
    rw [if_pos s.nf.1]; rfl
  have eh : h2 = sm_wI (sm_wI h 55 17 (I3 (wtr n bt f))) 55 18 (I3 f) := by
    rw [fe] at f1
    injection f1 with f1
    exact (congrArg Prod.snd f1).symm
  refine ⟨h2, g2, ?_, d5.trans f2, f3, XT_trans X1 f4, ?_⟩
  · rw [lc.2.2.1 w, C_170 lc]; exact f1
  · rw [eh]; exact agr_wI (agr_wI agr_rfl ⟨rfl, Or.inl rfl⟩) ⟨rfl, Or.inr rfl⟩
theorem EO_step {m f : Nat} {h1 : sm_H} {rc rr : Option (Int32 × sm_H)} (K : K1 h g) (a : agr S52 h h1) (e : EO n bt o T k m f nm kd h1 g rc rr) : EO n bt o T k m f nm kd h g rc rr := by
  have X : ∀ T' k', XT T' k' h g h1 g := fun T' k' => XT_x K (agr_mono (fun b j z => Or.inl z) a) agr_rfl
  rcases e with ⟨y, h2, g1, g2, f', c, e1, e2, e3, e4, e5, e6, e7, e8, e9, e10, e11, e12, e13, e14⟩ | ⟨e', pc, h2, g1, e1, e2, e3, e4⟩
  · exact Or.inl ⟨y, h2, g1, g2, f', c, e1, e2, e3, e4, e5, e6, e7, e8, e9, e10, e11, e12, agr_trans (X T 0).c e13, e14⟩
  · exact Or.inr ⟨e', pc, h2, g1, e1, e2, XT_trans (X 0 0) e3, e4⟩
theorem exprA {m f : Nat} {rec rec2 : sm_H → Option (Int32 × sm_H)} (hr : ∀ u, rec u = F_194R rec2 u) (ES : ∀ h1, agr S52 h h1 → TS n bt T (k + 1) nm kd h1 g → OP o h1 g → LXC n bt f h1 → wrd n bt f ≠ 6 → EO n bt o T k m f nm kd h1 g (rec h1) (F_448 g)) (s : TS n bt T (k + 1) nm kd h g) (p : OP o h g) (c : CB n bt f h) (r : RB n bt f g) : EO n bt o T k m f nm kd h g (F_193 rec h) (F_448 g) := by
  obtain ⟨h1, c1, c2, c3, c4⟩ := step_C s c
  have w6 := wrd_6 n bt f
  have C0 : F_193 rec h = F_193_0 rec h := rfl
  unfold F_193_0 at C0
  have C1 : F_171 h = F_171_0 h := rfl
  unfold F_171_0 F_171_26 at C1
  rw [c1] at C1; simp only [obs] at C1
  by_cases w : wrd n bt f = 6
  · obtain ⟨h2, g2, b1, b2', b3, b4, b5⟩ := badWord c3 c2 r w
    rw [if_pos (by rw [w]; rfl), show F_244 h1 = some (h1.1 52 6, h1) from rfl] at C1; simp only [obs] at C1
    rw [b1] at C1; simp only [obs] at C1
    rw [C1] at C0; simp only [obs] at C0
    refine EO_step s.K c4 (Or.inr ⟨_, _, h2, g2, ?_, b3, b4, Or.inl ?_⟩)
    · rw [C0, bind_id, hr]
      show F_194_0 rec2 h2 = _
      unfold F_194_0 F_194_109
      rw [show F_243 h2 = some (h2.1 52 5, h2) from rfl]; simp only [obs]
      rw [show F_242 h2 = some (h2.1 52 4, h2) from rfl, b5.1 52 4 (by omega), c2.2.1, w]; simp only [obs]
      rw [if_neg (by decide), if_neg (by decide), if_neg (by decide)]
      show ((F_170_0 4 h2).bind fun q1 => some (q1.1, q1.2)) = _
      unfold F_170_0
      rw [show F_243 h2 = some (h2.1 52 5, h2) from rfl]; simp only [obs]
      rw [C_169f b3]; rfl
    · show F_448_0 g = _
      unfold F_448_0
      rw [b2']; simp only [obs]
      rw [if_pos trivial]
  · rw [if_neg (by rw [I3_lit, I3_inj (by omega) (by decide)]; exact w)] at C1
    rw [C1] at C0; simp only [obs] at C0
    rw [C0, bind_id]
    exact EO_step s.K c4 (ES h1 c4 c3 (OP_x (Q := fun _ _ => False) p c4 agr_rfl (by unfold S52; omega) (fun z => z)) c2 w)
end
