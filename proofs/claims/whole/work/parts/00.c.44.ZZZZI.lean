section
variable {n : Nat} {bt : Nat → Nat} {o T k : Nat} {nm : Nat → Int64} {kd : List Int32} {h g : sm_H}
def ws (nm : Nat → Int64) (kd : List Int32) (x : Int64) : Nat := fst1 (fun i => decide (nm i = x)) kd.length
theorem ws_le (x : Int64) : ws nm kd x ≤ kd.length := (fst1_spec _ _).1
theorem C_181 (S : SCO nm kd h g) (x : Int64) : F_181 x h = some (if ws nm kd x < kd.length then I3 (ws nm kd x) else -1, h) := by
  obtain ⟨s1, s2, s3, s4, s5⟩ := S
  have L := lp_fst (body := F_181_2B) (fun i => decide (nm i = x)) kd.length (fun k => (x, I3 k, h)) (fun k => (I3 k, h)) (-1, h) (f := 1000000) (by omega) (fun i hi e => ?_) (fun i hi e => ?_) ?_
  · refine Eq.trans (show F_181 x h = lp F_181_2B 1000000 (x, I3 0, h) from rfl) (L.trans ?_)
    unfold ws
    split <;> rfl
  · show F_181_2B (x, I3 i, h) = _
    unfold F_181_2B
    simp only []
    rw [s1, if_neg (by rw [I3_le (by omega) (by omega)]; omega), if_neg (by rw [I3_lit, I3_le (by decide) (by omega)]; omega), ldJ_I (by omega) (by decide), (s5 i hi).1]; simp only [obs]
    first
    | rw [if_neg (fun z => (of_decide_eq_false e) (cmp_eq.mp z)), show I3 i + 1 = I3 (i + 1) from I3_add i 1]
    | rw [if_pos (cmp_eq.mpr (of_decide_eq_true e))]
  · show F_181_2B (x, I3 i, h) = _
    unfold F_181_2B
    simp only []
    rw [s1, if_neg (by rw [I3_le (by omega) (by omega)]; omega), if_neg (by rw [I3_lit, I3_le (by decide) (by omega)]; omega), ldJ_I (by omega) (by decide), (s5 i hi).1]; simp only [obs]
    first
    | rw [if_neg (fun z => (of_decide_eq_false e) (cmp_eq.mp z)), show I3 i + 1 = I3 (i + 1) from I3_add i 1]
    | rw [if_pos (cmp_eq.mpr (of_decide_eq_true e))]
  · show F_181_2B (x, I3 kd.length, h) = _
    unfold F_181_2B F_181_35
    simp only []
    rw [s1, if_pos (by rw [I3_le (by omega) (by omega)]; omega)]; rfl
theorem R_83 (S : SCO nm kd h g) {x : Int64} (e83 : g.2.1 67 83 = x) : F_448_83 (I3 (400 - kd.length)) g = F_448_110 (I3 (400 - kd.length + ws nm kd x)) g := by
  obtain ⟨s1, s2, s3, s4, s5⟩ := S
  have sp := fst1_spec (fun i => decide (nm i = x)) kd.length
  have LP : ∀ r i fu, i + r = kd.length → r < fu → i ≤ ws nm kd x → lp F_448_83B fu (I3 (400 - kd.length + i), g) = F_448_110 (I3 (400 - kd.length + ws nm kd x)) g := by
    intro r
    induction r with
    | zero =>
      intro i fu hi hf hw
      have e : ws nm kd x = kd.length := by have := ws_le (nm := nm) (kd := kd) x; omega
      rw [lp_oK (by omega), e]
      unfold F_448_83B
      simp only []
      rw [if_pos (by rw [I3_lit, I3_le (by decide) (by omega)]; omega), show i = kd.length by omega, oKm]
    | succ r ih =>
      intro i fu hi hf hw
      have z := (s5 i (by omega)).2.2.1
      by_cases q : nm i = x
      · have e : ws nm kd x = i := by
          rcases Nat.lt_or_ge i (ws nm kd x) with y | y
          · have := sp.2.1 i y
            rw [decide_eq_true q] at this; cases this
          · omega
        rw [lp_oK (by omega), e]
        unfold F_448_83B
        simp only []
        rw [if_neg (by rw [I3_lit, I3_le (by decide) (by omega)]; omega), ldJ_I (by omega) (by decide), z, e83]; simp only [obs]
        rw [if_pos (cmp_eq.mpr q), oKm]
      · have hw' : i + 1 ≤ ws nm kd x := by
          rcases Nat.lt_or_ge i (ws nm kd x) with y | y
          · exact y
          · have e : ws nm kd x = i := by omega
            have : nm (ws nm kd x) = x := of_decide_eq_true (sp.2.2 (show ws nm kd x < kd.length by omega))
            rw [e] at this; exact absurd this q
        rw [lp_s (s' := (I3 (400 - kd.length + (i + 1)), g)) (by omega) (by
          unfold F_448_83B
          simp only []
          rw [if_neg (by rw [I3_lit, I3_le (by decide) (by omega)]; omega), ldJ_I (by omega) (by decide), z, e83]; simp only [obs]
          rw [if_neg (fun w => q (cmp_eq.mp w)), show I3 (400 - kd.length + i) + 1 = I3 (400 - kd.length + (i + 1)) from I3_add _ 1])]
        exact ih (i + 1) (fu - 1) (by omega) (by omega) hw'
  exact LP kd.length 0 1000000 (by omega) (by omega) (Nat.zero_le _)
theorem R_428_75 (K : K1 h g) (S : SCO nm kd h g) (l10 : kd.length ≤ 10) {r : Int32} {t : Nat} {g4 : sm_H} (tm : ¬ I3 t = (-1 : Int32)) (e : F_428 r g = some (I3 t, g4)) (y : Nat) : g4.1 75 y = g.1 75 y := by
  obtain ⟨v, v1, v2, v3, v4⟩ := R_scope S l10 r
  have T0 : TK h g h v := TK_d K agr_rfl v3
  have wT := T0.k.2.2.1
  have ev : v.1 75 y = g.1 75 y := v3.1 75 y (by unfold SRd; omega)
  rw [v1] at e
  unfold F_428_47 F_428_68 at e
  have fl := fT_le v r kd
  by_cases c1 : fT v r kd < nT v
  · rw [R_made1 wT v2 l10 v4 c1] at e; simp only [obs] at e
    rw [if_neg (by have := wT.1.2; exact I3_m1 (by have := wT.1.2; show fT v r kd < 2147483648; have : nT v ≤ 300 := wT.1.2; omega))] at e
    injection e with e
    have := congrArg Prod.snd e
    have : v = g4 := this
    rw [← this]; exact ev
  · have c2 : fT v r kd = nT v := by omega
    by_cases c3 : nT v < 300
    · rw [R_made2 wT v2 l10 v4 c2 c3] at e; simp only [obs] at e
      rw [if_neg (I3_m1 (by omega))] at e
      injection e with e
      have : setTR v (nT v) r kd = g4 := congrArg Prod.snd e
      rw [← this]; exact ev
    · rw [R_made0 wT v2 (by omega) v4 (by omega)] at e; simp only [obs] at e
      rw [if_pos trivial] at e
      exfalso
      cases z : F_413 8 (v.1 67 106) v with
      | none => rw [z] at e; cases e
      | some q =>
        rw [z] at e; simp only [obs] at e
        injection e with e
        exact tm (congrArg Prod.fst e).symm
theorem nameLeaf {m f : Nat} (s : TS n bt T (k + 1) nm kd h g) (p : OP o h g) (lc : LXC n bt f h) (r : RB n bt f g) (w : wrd n bt f = 4) (k1 : k < 24) (m3 : m ≤ 4000) (e : g.1 124 k = I3 m) (rec : sm_H → Option (Int32 × sm_H)) : EO n bt o T k m f nm kd h g (F_194R rec h) (F_448 g) := by
  have fn := RB_n r
  obtain ⟨g1, d1, d2, d3, d4, d5⟩ := look_R s r
  rw [if_neg (by omega)] at d5
  obtain ⟨d5, lr⟩ := d5
  have a6 : agr (fun b j => b = 67 ∧ j = 106) g1 (sm_wI g1 67 106 (I3 f)) := agr_wI agr_rfl ⟨rfl, rfl⟩
  have S2 := (TS_x (T' := T) (k' := k + 1) d1 agr_rfl (agr_mono (fun b j z => Or.inr ⟨z.1, by omega⟩) a6)).1
  have ag1 : agr (fun b j => SLx b j ∨ (b = 67 ∧ (j = 105 ∨ j = 106 ∨ j = 108))) g (sm_wI g1 67 106 (I3 f)) := agr_trans (agr_mono (fun b j z => Or.inl z) d2) (agr_mono (fun b j z => Or.inr ⟨z.1, by omega⟩) a6)
  have X1 := (TS_x (T' := T) (k' := k + 1) s agr_rfl ag1).2
  have cx : h.2.1 52 10 = foldN bt f (men n bt f - f) := lc.2.2.2.2.2.1 w
  have rx : g1.2.1 67 83 = foldN bt f (men n bt f - f) := lr.2.2.2.2.2.1 w
  generalize foldN bt f (men n bt f - f) = x at cx rx
  have C0 : F_194R rec h = F_195 (I3 f) h := by
    show F_194_0 rec h = _
    unfold F_194_0
    rw [show F_243 h = some (h.1 52 5, h) from rfl, lc.1]; simp only [obs]
    rw [show F_242 h = some (h.1 52 4, h) from rfl, lc.2.1, w]; simp only [obs]
    rw [if_neg (by decide), if_neg (by decide), if_pos (by decide)]
    exact bind_id _
  have C1 : F_195 (I3 f) h = F_195_0 (I3 f) h := rfl
  unfold F_195_0 F_195_23 at C1
  rw [show F_248 h = some (h.2.1 52 10, h) from rfl, cx] at C1; simp only [obs] at C1
  rw [C_181 s.S x] at C1; simp only [obs] at C1
  have R0 : F_448 g = F_448_110 (I3 (400 - kd.length + ws nm kd x)) (sm_wI g1 67 106 (I3 f)) := by
    rw [← R_83 S2.S (show (sm_wI g1 67 106 (I3 f)).2.1 67 83 = x from rx)]
    show F_448_0 g = _
    unfold F_448_0
    rw [d5]; simp only [obs]
    rw [if_neg (by decide), d4, show (sm_wI g1 67 106 (I3 f)).1 67 80 = g1.1 67 80 from rfl, lr.2.2.1, w, if_neg (by decide), if_neg (by decide), if_pos (by decide), show (sm_wI g1 67 106 (I3 f)).1 67 94 = I3 (400 - kd.length) from S2.S.2.2.1]
  have s13 := s.S.2.1
  have wl := ws_le (nm := nm) (kd := kd) x
  rw [C0, C1, R0]
  unfold F_448_110
  by_cases q : ws nm kd x < kd.length
  · rw [if_pos q, if_neg (I3_m1 (by omega)), if_pos (by rw [I3_lit, I3_lt (by omega) (by decide)]; omega), if_neg (by rw [I3_lit, I3_inj (by omega) (by decide)]; omega)]
    obtain ⟨g2, t1, t2, t3, t4⟩ := take_R S2 fn (show LXR n bt f (sm_wI g1 67 106 (I3 f)) from lr)
    have ag : agr (fun b j => SLx b j ∨ (b = 67 ∧ (j = 105 ∨ j = 106 ∨ j = 108))) g g2 := agr_trans ag1 (agr_mono (fun b j z => Or.inl ⟨z.1, by omega, by omega⟩) t4)
    have X := (TS_x (T' := T) (k' := k + 1) s agr_rfl ag).2
    have wh : g2.1 67 106 = I3 f := t4.1 67 106 (by omega)
    obtain ⟨qk, qk1, qk2, qk3⟩ := t3.S.2.2.2.1 (ws nm kd x) q
    have l59 : ldI h 59 16 (I3 (ws nm kd x)) = some (I3 qk) := by rw [ldI_I (by omega) (by decide), (s.S.2.2.2.2 _ q).2.1, qk1]
    have l118 : ∀ u, u.1 118 (400 - kd.length + ws nm kd x) = g2.1 118 (400 - kd.length + ws nm kd x) → ldI u 118 400 (I3 (400 - kd.length + ws nm kd x)) = some (I3 qk) := fun u hu => by rw [ldI_I (by omega) (by decide), hu, (t3.S.2.2.2.2 _ q).2.2.2, qk1]
    rw [l59, t1]; simp only [obs]
    rw [l118 g2 rfl, show F_138 56 h = some (sm_wI h 56 1 0) from rfl]; simp only [obs]
    have Rr : hasL (sm_wI h 56 1 0) 56 57 [] := ⟨rfl, by decide, fun k hk => by cases hk⟩
    have b1 : agr S56 h (sm_wI h 56 1 0) := agr_wI agr_rfl (Or.inl ⟨rfl, rfl⟩)
    have Pp : prR (sm_wI g2 67 3 0) [] := ⟨rfl, by decide, fun k hk => by cases hk⟩
    have b2' : agr SRp g2 (sm_wI g2 67 3 0) := agr_wI agr_rfl (by unfold SRp; omega)
    have T0 := TK_par (TK_row (TK_rfl t3.K) b1) b2'
    have n0 := NF_par (NF_row t3.nf b1) b2'
    rw [show F_430 2 (I3 qk) 0 0 g2 = F_429 2 (I3 qk) 0 0 (sm_wI g2 67 3 0) from bind_id _]
    have early : ∀ (e' : Nat) (h3 g3 : sm_H) (rc : Option (Int32 × sm_H)), TK h g2 h3 g3 → FT e' f h3 g3 → rc = some (-1, h3) → EO n bt o T k m f nm kd h g rc (some (0, g3)) := fun e' h3 g3 rc t ft hc => Or.inr ⟨e', f, h3, g3, hc, ft, XT_mono (Nat.zero_le T) (Nat.zero_le (k + 1)) (XT_trans X (XT_TK t)), Or.inl rfl⟩
    rcases mkForm2 T0.k n0 (wh_TK wh T0) qk2 (show qk < 20 + nC g2 from qk3) Rr Pp with ⟨y, h3, g3, m1, m2, m3', m4, m5, m6, m7, m8⟩ | ⟨w', h3, h4, g4, w0, m1, m2, m3', m4, m5⟩
    · have T3 := TK_trans T0 m7
      rw [m1, m2]; simp only [obs]
      rw [if_pos (h_ge m7.k m3'), if_neg (h_m1 m7.k m3'), l118 g3 (T3.a.1 118 _ (by unfold SRq SRb SRp SRh SRt; omega))]; simp only [obs]
      have nc3 := T3.nC
      rcases scopeTy m7.k (SCO_TK t3.S T3) m8 (wh_TK wh T3) (r := I3 qk) ⟨qk, rfl, by omega⟩ with ⟨t, h4, g4, e1, e2, u1, u2, u3, u4, T4, n4⟩ | ⟨e', h4, g4, e1, e2, T4, ft⟩
      · rw [e1, e2]; simp only [obs]
        have tm : ¬ I3 t = (-1 : Int32) := by have := w300 T4.k; exact I3_m1 (by omega)
        unfold F_448_165
        rw [if_neg tm, if_neg tm]
        obtain ⟨h5, v1, v2, v3⟩ := C_two56 h4 (I3 y) (I3 (ws nm kd x))
        obtain ⟨p1, p2⟩ := par2 g4 (I3 y) (I3 (ws nm kd x))
        have T5 := TK_par (TK_row (TK_trans T3 T4) v3) p2
        have n5 := NF_par (NF_row n4 v3) p2
        have e94 : (sm_wI g4 69 0 (I3 y)).1 67 94 = I3 (400 - kd.length) := ((TK_trans T3 T4).a.1 67 94 (by unfold SRq SRb SRp SRh SRt; omega)).trans t3.S.2.2.1
        rw [v1, show stI g4 69 24 0 (I3 y) = some (sm_wI g4 69 0 (I3 y)) from stI_I (k := 0) (by decide) (by decide)]; simp only [obs]
        rw [e94, I3_sub (by omega), show 400 - kd.length + ws nm kd x - (400 - kd.length) = ws nm kd x by omega, show stI (sm_wI g4 69 0 (I3 y)) 69 24 1 (I3 (ws nm kd x)) = some (sm_wI (sm_wI g4 69 0 (I3 y)) 69 1 (I3 (ws nm kd x))) from stI_I (k := 1) (by decide) (by decide)]; simp only [obs]
        have fm4 : fm g4 y = 2 := (congrArg tn (R_428_75 m7.k (SCO_TK t3.S T3) u4 tm e2 y)).trans m6
        have ck : Ck (sm_wI (sm_wI (sm_wI (sm_wI g4 69 0 (I3 y)) 69 1 (I3 (ws nm kd x))) 67 3 2) 67 19 0) 5 0 (I3 t) 0 (I3 qk) kd := by
          have := ck_5 (K1_c19 T5.k) (P := (show prR (sm_wI (sm_wI (sm_wI (sm_wI g4 69 0 (I3 y)) 69 1 (I3 (ws nm kd x))) 67 3 2) 67 19 0) _ from p1)) (x := y) (t := t) (i := ws nm kd x) (k := I3 qk) (T4.nH m3') fm4 ((T4.hpl m7.k m3').trans m5) ((T4.hrs m7.k m3').trans m4) u1 u2 (by show _ < (pl g4 t).length; rw [u3]; exact q) (by show at0 (pl g4 t) _ = _; rw [u3]; exact qk1) 0 0
          have z1 : rs (sm_wI (sm_wI (sm_wI (sm_wI g4 69 0 (I3 y)) 69 1 (I3 (ws nm kd x))) 67 3 2) 67 19 0) t = I3 qk := u2
          have z2 : pl (sm_wI (sm_wI (sm_wI (sm_wI g4 69 0 (I3 y)) 69 1 (I3 (ws nm kd x))) 67 3 2) 67 19 0) t = kd := u3
          rw [z1, z2] at this; exact this
        have M := mkForm T5.k n5 (f := 5) (wh_TK wh T5) 0 (I3 t) 0 v2 p1 (by decide) (by omega) ck
        have PP : PO T h g2 f (if 0 ≤ ((F_5 5 0 (I3 t) 0 56 h5).getD (0, h)).1 then some (((F_5 5 0 (I3 t) 0 56 h5).getD (0, h)).1, ((F_5 5 0 (I3 t) 0 56 h5).getD (0, h)).2) else (F_169 8 (I3 f) ((F_5 5 0 (I3 t) 0 56 h5).getD (0, h)).2).bind fun q10 => some (q10.1, q10.2)) (F_429 5 0 (I3 t) 0 (sm_wI (sm_wI (sm_wI g4 69 0 (I3 y)) 69 1 (I3 (ws nm kd x))) 67 3 2)) kd := by
          rcases M with ⟨z, h6, g6, o1, o2, o3, o4, o5, o6, o7⟩ | ⟨w', h6, h7, g7, w0, o1, o2, o3, o4, o5⟩
          · rw [show F_5 5 0 (I3 t) 0 56 h5 = _ from o1]
            refine Or.inl ⟨z, h6, g6, if_pos (h_ge o6.k o3), o2, o3, o5, TB_of (TK_trans T5 o6), o7⟩
          · rw [show F_5 5 0 (I3 t) 0 56 h5 = _ from o1]
            refine Or.inr ⟨8, h7, g7, ?_, o3, TB_of (TK_trans T5 o4), o5⟩
            show (if 0 ≤ w' then some (w', h6) else (F_169 8 (I3 f) h6).bind fun q10 => some (q10.1, q10.2)) = _
            rw [if_neg (Int32.not_le.mpr w0), o2]; rfl
        have lf := leaf k1 m3 e t3 (OP_x (P := fun _ _ => False) p agr_rfl ag (fun z => z) (by unfold SLx; omega)) X ag (CB_nx fn lc (by omega)) t2 (f := f) (by
          have := (wen_n (n := n) (bt := bt) fn).2.2 (by omega) (by omega)
          exact Nat.lt_of_lt_of_le this (far_ge _ _ _ _)) PP
        have c5 : ∃ q, F_5 5 0 (I3 t) 0 56 h5 = some q := by
          rcases M with ⟨z, h6, g6, o1, -⟩ | ⟨w', h6, h7, g7, w0, o1, -⟩
          · exact ⟨_, o1⟩
          · exact ⟨_, o1⟩
        obtain ⟨q5, q5e⟩ := c5
        rw [q5e] at lf ⊢
        exact lf
      · rw [e1, e2]; simp only [obs]
        unfold F_448_165
        rw [if_pos trivial, if_pos rfl]
        exact early e' h4 g4 _ (TK_trans T3 T4) ft rfl
    · rw [m1, m3']; simp only [obs]
      unfold F_448_165
      rw [if_neg (Int32.not_le.mpr w0), if_pos trivial, if_pos rfl]
      refine early 8 h4 g4 _ (TK_trans T0 m4) m5 ?_
      rw [m2]; rfl
  · rw [if_neg q, if_pos rfl, if_pos (by rw [show 400 - kd.length + ws nm kd x = 400 by omega]; rfl)]
    obtain ⟨h2, g2, f1, f2, f3, f4⟩ := XT_fail S2 (T' := 0) (k' := 0) (e := 6) (f := f) (by decide) (by decide)
    refine Or.inr ⟨6, f, h2, g2, ?_, f3, XT_trans (XT_mono (Nat.zero_le T) (Nat.zero_le (k + 1)) X1) f4, Or.inl ?_⟩
    · rw [C_170 lc, show F_169 6 (I3 f) h = some (-1, h2) from f1]; rfl
    · rw [show (sm_wI g1 67 106 (I3 f)).1 67 81 = I3 f from d4, show F_413 6 (I3 f) (sm_wI g1 67 106 (I3 f)) = some (0, g2) from f2]; simp only [obs]
      rw [if_pos (Or.inl trivial)]
end
