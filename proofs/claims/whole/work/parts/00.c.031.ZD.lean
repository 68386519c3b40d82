theorem FS_lt {g : sm_H} {f : Nat} {a b : Int32} {c : Int64} {ps : List Int32} {r : Int32} {l : List Int32} (h : FS g f a b c ps r l) : f ≤ 38 := by
  unfold FS at h
  omega
theorem hAdd {h g : sm_H} (K : K1 h g) {f t : Nat} {a b : Int32} {c : Int64} {ps l : List Int32} {r : Int32} (hn : nH g < 500) (ht : t < nT g) (hr : rs g t = r) (hl : pl g t = l) (l20 : ps.length ≤ 20) (F : FS g f a b c ps r l) : K1 (setHC h (nH g) (I3 f) a b c ps t r l) (setHR g (nH g) (I3 f) a b c ps t) ∧ ext g (setHR g (nH g) (I3 f) a b c ps t) ∧ grow g (setHR g (nH g) (I3 f) a b c ps t) := by
  have B0 := K1_base K
  have f38 := FS_lt F
  obtain ⟨wK, cK, wT, cT, wH, cH, wM, cM, cG, cO, cV, wX, cX, cXh, wF⟩ := id K
  have h12 := wK.2.1
  have w300 : nT g ≤ 300 := wT.1.2
  have m10 : tM g t ≤ 10 := (wT.2.1 _ ht).2.1.2
  have ll : l.length = tM g t := by rw [← hl]; exact lst_len _ _
  generalize hnn : nH g = n at *
  have hnn' : tn (g.1 67 18) = n := hnn
  generalize hg1 : setHR g n (I3 f) a b c ps t = g1
  generalize hh1 : setHC h n (I3 f) a b c ps t r l = h1
  have nn : nH g1 = n + 1 := by subst hg1; exact I3_clamp (by omega)
  have a75 : ∀ x, g1.1 75 x = if x = n then I3 f else g.1 75 x := by subst hg1; exact fun _ => rfl
  have a76 : ∀ x, g1.1 76 x = if x = n then I3 t else g.1 76 x := by subst hg1; exact fun _ => rfl
  have a77 : ∀ x, g1.1 77 x = if x = n then a else g.1 77 x := by subst hg1; exact fun _ => rfl
  have a78 : ∀ x, g1.1 78 x = if x = n then b else g.1 78 x := by subst hg1; exact fun _ => rfl
  have a79 : ∀ x, g1.2.1 79 x = if x = n then c else g.2.1 79 x := by subst hg1; exact fun _ => rfl
  have a80 : ∀ x, g1.1 80 x = if x = n then I3 ps.length else g.1 80 x := by subst hg1; exact fun _ => rfl
  have a81 : ∀ i, g1.1 81 i = blk (g.1 81) (24 * n) ps ps.length i := by subst hg1; exact fun _ => rfl
  have o81 : ∀ x i, x < n → i < 24 → g1.1 81 (24 * x + i) = g.1 81 (24 * x + i) := fun x i hx hi => by rw [a81]; unfold blk; rw [if_neg (by omega)]
  have n81 : ∀ i, i < ps.length → g1.1 81 (24 * n + i) = at0 ps i := fun i hi => by rw [a81]; unfold blk; rw [if_pos (by omega), show 24 * n + i - 24 * n = i by omega]
  have EE : ext g g1 := by
    have e : ∀ x, x < n → g1.1 76 x = g.1 76 x := fun x hx => by rw [a76, if_neg (by omega)]
    refine ⟨?_, ?_, ?_, ?_, ?_, by omega, fun x hx => e x (by omega), ?_, fun k hk => ?_, ?_, ?_⟩
    · subst hg1; exact Nat.le_refl _
    · subst hg1; exact fun _ _ => rfl
    · subst hg1; exact Nat.le_refl _
    · subst hg1; exact fun _ _ => rfl
    · subst hg1; exact ⟨Nat.le_refl _, fun _ _ => ⟨rfl, rfl, fun _ _ => rfl⟩⟩
    · subst hg1; exact Nat.le_refl _
    · have e92 : g1.1 92 k = g.1 92 k := by subst hg1; rfl
      show tn (g1.1 76 (tn (g1.1 92 k))) = tn (g.1 76 (tn (g.1 92 k)))
      rw [e92, e _ (by have := B0.g k hk; omega)]
    · subst hg1; exact Nat.le_refl _
    · subst hg1; exact ⟨Nat.le_refl _, fun _ _ => ⟨rfl, rfl, rfl, rfl, rfl, rfl⟩⟩
  have GG : grow g g1 := by
    refine ⟨?_, ?_, by omega, ?_, ?_⟩
    · subst hg1; exact Nat.le_refl _
    · subst hg1; exact Nat.le_refl _
    · subst hg1; exact fun _ _ => rfl
    · subst hg1; exact fun _ _ => rfl
  have nc1 : nC g1 = nC g := by subst hg1; rfl
  have nt1 : nT g1 = nT g := by subst hg1; rfl
  have nm1 : nM g1 = nM g := by subst hg1; rfl
  have nx1 : nX g1 = nX g := by subst hg1; rfl
  have cGq1 : ∀ k, k < nG g → tn (g1.1 92 k) < nH g1 := fun k hk => by
    have e92 : g1.1 92 k = g.1 92 k := by subst hg1; rfl
    rw [e92]; have := B0.g k hk; omega
  have tyn : ty g1 n = t := by show tn _ = _; rw [a76, if_pos rfl]; exact I3_clamp (by omega)
  have tyo : ∀ x, x < n → ty g1 x = ty g x := fun x hx => ext_ty EE (by omega)
  have rst : ∀ u, rs g1 u = rs g u := by subst hg1; exact fun _ => rfl
  have plt : ∀ u, pl g1 u = pl g u := by subst hg1; exact fun _ => rfl
  have mt : ∀ u, tM g1 u = tM g u := by subst hg1; exact fun _ => rfl
  have wH1 : wfH0 g1 := by
    refine ⟨?_, fun x hx => ?_⟩
    · have e : g1.1 67 18 = I3 (n + 1) := by subst hg1; rfl
      rw [e]; exact cnt_up (by omega) (by decide)
    · rw [nn] at hx
      by_cases q : x = n
      · subst q
        rw [a75, a76, a80, if_pos rfl, if_pos rfl, if_pos rfl, tyn, nt1]
        exact ⟨cnt_up f38 (by decide), rfl, ht, cnt_up l20 (by decide)⟩
      · have hx : x < n := by omega
        rw [a75, a76, a80, if_neg q, if_neg q, if_neg q, tyo x hx, nt1]
        exact wH.2 x (by omega)
  have wF1 : wfF g1 := by
    rw [wfF_0] at wF ⊢
    refine ⟨fun x hx => ?_, fun m hm => ?_⟩
    · rw [nn] at hx
      by_cases q : x = n
      · subst q
        have ef : fm g1 x = f := by show tn _ = _; rw [a75, if_pos rfl]; exact I3_clamp (by omega)
        have ep : prt g1 x = ps := by
          have : pm g1 x = ps.length := by show tn _ = _; rw [a80, if_pos rfl]; exact I3_clamp (by omega)
          show lst _ (pm g1 x) = ps
          rw [this]
          refine lst_ext (lst_len _ _) (fun k hk => ?_)
          rw [lst_len] at hk
          rw [at0_lst hk]; exact n81 k hk
        have e1 : hrs g1 x = r := by show rs g1 (ty g1 x) = r; rw [tyn, rst, hr]
        have e2 : hpl g1 x = l := by show pl g1 (ty g1 x) = l; rw [tyn, plt, hl]
        rw [ef, ep, e1, e2, a77, a78, a79, if_pos rfl, if_pos rfl, if_pos rfl]
        exact FS_up B0 cGq1 EE F
      · have hx : x < n := by omega
        have hx' : x < nH g := by omega
        have ef : fm g1 x = fm g x := by show tn _ = tn _; rw [a75, if_neg q]
        have p20 : pm g x ≤ 20 := (wH.2 x hx').2.2.2.2
        rw [ef, a77, a78, a79, if_neg q, if_neg q, if_neg q, prt_ext (by rw [a80, if_neg q]) (fun i hi => o81 x i hx (by omega)), ext_hrs wH EE hx', ext_hpl wH EE hx']
        exact FS_up B0 cGq1 EE (wF.1 x hx')
    · rw [nm1] at hm
      exact mrel_ext B0 EE hm (by subst hg1; rfl) (wF.2 m hm)
  have cH1 : CHandleHouseLaw_law_r9294_ac1f8b.cH h1 g1 := by
    refine ⟨?_, fun x hx => ?_, fun x i hx hi => ?_, fun x hx => ?_⟩
    · subst hg1; subst hh1; rfl
    · obtain ⟨y1, y2, y3, y4, y5, y6⟩ := cH.2.1 x hx
      rw [a75, a76, a77, a78, a79, a80]
      have b11 : h1.1 11 x = if x = n then I3 f else h.1 11 x := by subst hh1; rfl
      have b12 : h1.1 12 x = if x = n then a else h.1 12 x := by subst hh1; rfl
      have b13 : h1.1 13 x = if x = n then b else h.1 13 x := by subst hh1; rfl
      have b14 : h1.2.1 14 x = if x = n then c else h.2.1 14 x := by subst hh1; rfl
      have b15 : h1.1 15 x = if x = n then I3 ps.length else h.1 15 x := by subst hh1; rfl
      have b17 : h1.1 17 x = if x = n then I3 t else h.1 17 x := by subst hh1; rfl
      rw [b11, b12, b13, b14, b15, b17, y1, y2, y3, y4, y5, y6]
      exact ⟨rfl, rfl, rfl, rfl, rfl, rfl⟩
    · have b16 : h1.1 16 (x * 20 + i) = blk (h.1 16) (n * 20) ps ps.length (x * 20 + i) := by subst hh1; rfl
      rw [b16, a81]
      unfold blk
      by_cases q : x = n ∧ i < ps.length
      · rw [if_pos (by omega), if_pos (by omega), show x * 20 + i - n * 20 = i by omega, show 24 * x + i - 24 * n = i by omega]
      · have q1 : ¬ (n * 20 ≤ x * 20 + i ∧ x * 20 + i < n * 20 + ps.length) := by
          rintro ⟨z1, z2⟩
          apply q
          have : x = n := by omega
          exact ⟨this, by subst this; omega⟩
        have q2 : ¬ (24 * n ≤ 24 * x + i ∧ 24 * x + i < 24 * n + ps.length) := by
          rintro ⟨z1, z2⟩
          apply q
          have : x = n := by omega
          exact ⟨this, by subst this; omega⟩
        rw [if_neg q1, if_neg q2]
        exact cH.2.2.1 x i hx hi
    · rw [nn] at hx
      by_cases q : x = n
      · subst q
        have b18 : h1.1 18 x = r := by subst hh1; exact if_pos rfl
        have b19 : h1.1 19 x = I3 l.length := by subst hh1; exact if_pos rfl
        have b20 : ∀ k, k < l.length → h1.1 20 (x * 10 + k) = at0 l k := fun k hk => by
          have : h1.1 20 (x * 10 + k) = blk (h.1 20) (x * 10) l l.length (x * 10 + k) := by subst hh1; rfl
          rw [this]; unfold blk; rw [if_pos (by omega), show x * 10 + k - x * 10 = k by omega]
        have m73 : g.1 73 t = I3 (tM g t) := (wT.2.1 _ ht).2.1.1
        have e73 : g1.1 73 t = g.1 73 t := by subst hg1; rfl
        rw [tyn, b18, b19, e73, m73, mt, ll]
        refine ⟨hr.symm.trans (rst t).symm, rfl, fun k hk => ?_⟩
        rw [b20 k (by omega), ← hl, at0_lst hk]
        subst hg1; rfl
      · have hx : x < n := by omega
        obtain ⟨y1, y2, y3⟩ := cH.2.2.2 x (by omega)
        have lt := (wH.2 x (by omega)).2.2.1
        have m10' : tM g (ty g x) ≤ 10 := (wT.2.1 _ lt).2.1.2
        have b18 : h1.1 18 x = h.1 18 x := by subst hh1; exact if_neg q
        have b19 : h1.1 19 x = h.1 19 x := by subst hh1; exact if_neg q
        have b20 : ∀ k, k < 10 → h1.1 20 (x * 10 + k) = h.1 20 (x * 10 + k) := fun k hk => by
          have : h1.1 20 (x * 10 + k) = blk (h.1 20) (n * 10) l l.length (x * 10 + k) := by subst hh1; rfl
          rw [this]; unfold blk; rw [if_neg (by omega)]
        have e72 : ∀ u, g1.1 72 u = g.1 72 u := by subst hg1; exact fun _ => rfl
        have e73 : ∀ u, g1.1 73 u = g.1 73 u := by subst hg1; exact fun _ => rfl
        have e74 : ∀ u, g1.1 74 u = g.1 74 u := by subst hg1; exact fun _ => rfl
        rw [tyo x hx, b18, b19, e72, e73, mt]
        refine ⟨y1, y2, fun k hk => ?_⟩
        rw [b20 k (by omega), e74]; exact y3 k hk
  refine ⟨⟨?_, ?_, ?_, ?_, wH1, cH1, ?_, ?_, ?_, ?_, ?_, ?_, ?_, ?_, wF1⟩, EE, GG⟩
  · subst hg1; exact wK
  · subst hg1; subst hh1; exact cK
  · subst hg1; exact wT
  · subst hg1; subst hh1; exact cT
  · refine ⟨by subst hg1; exact wM.1, by subst hg1; exact wM.2.1, fun m hm => ?_⟩
    rw [nm1] at hm
    obtain ⟨m1, m2, m3, m4, m5⟩ := wM.2.2 m hm
    have z : (∃ a, a < nH g ∧ g.1 90 m = I3 a) → ∃ a, a < nH g1 ∧ g.1 90 m = I3 a := fun ⟨a, x1, x2⟩ => ⟨a, by omega, x2⟩
    subst hg1
    refine ⟨m1, m2, m3, m4, ?_⟩
    rcases m5 with m5 | ⟨q1, q2, q3⟩
    · exact Or.inl m5
    · exact Or.inr ⟨q1, z q2, q3⟩
  · subst hg1; subst hh1; exact cM
  · have z : ∀ k, k < nG g → ∃ a, a < nH g1 ∧ g.1 92 k = I3 a := fun k hk => by obtain ⟨a, x1, x2⟩ := cG.2.2.2 k hk; exact ⟨a, by omega, x2⟩
    subst hg1; subst hh1
    exact ⟨cG.1, cG.2.1, cG.2.2.1, z⟩
  · subst hg1; subst hh1; exact cO
  · have z : ∀ v, v < nV g → ∃ q, g.1 94 v = I3 q ∧ q < 20 + nC g ∧ okO g1 q (g.2.1 95 v) := fun v hv => by obtain ⟨q, x1, x2, x3⟩ := cV.2.2.2 v hv; exact ⟨q, x1, x2, okO_grow GG x3⟩
    subst hg1; subst hh1
    exact ⟨cV.1, cV.2.1, cV.2.2.1, z⟩
  · refine ⟨by subst hg1; exact wX.1, fun u hu => ?_, fun m hm z1 z2 => ?_⟩
    · rw [nx1] at hu
      obtain ⟨z1, z2⟩ := wX.2.1 u hu
      refine ⟨by subst hg1; exact z1, ?_⟩
      rcases z2 with ⟨k, k1, k2, k3, k4⟩ | ⟨k, k1, k2, k3, k4⟩
      · refine Or.inl ⟨k, k1, k2, by subst hg1; exact k3, fun i hi => ?_⟩
        have := okV_grow wK GG (k4 i (by subst hg1; exact hi))
        subst hg1; exact this
      · refine Or.inr ⟨k, k1, by rw [nc1]; exact k2, by subst hg1; exact k3, fun m hm y1 y2 => ?_⟩
        rw [nm1] at hm
        have := okV_grow wK GG (k4 m hm (by subst hg1; exact y1) (by subst hg1; exact y2))
        subst hg1; exact this
    · rw [nm1] at hm
      have := okV_grow wK GG (wX.2.2 m hm (by subst hg1; exact z1) (by subst hg1; exact z2))
      subst hg1; exact this
  · subst hg1; subst hh1; exact cX
  · have := cXh_fr (h' := h1) (by subst hh1; unfold setHC hC0; repeat first | exact hi_rfl | refine hi_wI ?_ (by decide) | refine hi_wJ ?_ (by decide) | refine hi_wA ?_ (by decide)) cXh
    subst hg1; exact this
abbrev SCh (b j : Nat) : Prop := SCt b j ∨ (10 ≤ b ∧ b ≤ 20)
abbrev SRh (b j : Nat) : Prop := SRt b j ∨ (b = 67 ∧ (j = 18 ∨ j = 19)) ∨ (75 ≤ b ∧ b ≤ 81)
theorem agr_setHC {h : sm_H} {n : Nat} {f a b : Int32} {c : Int64} {ps : List Int32} {t : Nat} {r : Int32} {l : List Int32} : agr SCh h (setHC h n f a b c ps t r l) := by
  unfold setHC hC0
  repeat first | exact agr_rfl | refine agr_wI ?_ (by simp [SCh]) | refine agr_wJ ?_ (by simp [SCh]) | refine agr_wA ?_ (by simp [SCh])
theorem agr_setHR {h : sm_H} {n : Nat} {f a b : Int32} {c : Int64} {ps : List Int32} {t : Nat} : agr SRh h (setHR h n f a b c ps t) := by
  unfold setHR hR0
  repeat first | exact agr_rfl | refine agr_wI ?_ (by simp [SRh]) | refine agr_wJ ?_ (by simp [SRh]) | refine agr_wA ?_ (by simp [SRh])
theorem MH {h g : sm_H} (K : K1 h g) {f : Nat} {a b : Int32} {c : Int64} {ps l : List Int32} {r : Int32} {o p : Nat} (w : isRw o p) (ho : o < 1000 ∧ (o < 5 ∨ 20 < o)) (hp : p < 5 ∨ 20 < p) (R : hasL h o p ps) (P : prR g ps) (dc : dC h l) (dr : dR g l) (er : g.1 67 20 = r) (h64 : l.length ≤ 64) (kr : kR1 g r) (kl : kL g l) (F : FS g f a b c ps r l) : ∃ v w' h1 g1, F_6 (I3 f) a b c o r h = some (w', h1) ∧ F_340 (I3 f) a b c g = some (v, g1) ∧ K1 h1 g1 ∧ ext g g1 ∧ grow g g1 ∧ agr SCh h h1 ∧ agr SRh g g1 ∧ ((∃ e, (e = 4 ∨ e = 5) ∧ w' = -I3 e ∧ v = -1 ∧ g1.1 67 19 = I3 e) ∨ ∃ y, y < nH g1 ∧ w' = I3 y ∧ v = I3 y ∧ g1.1 67 19 = g.1 67 19) := by
  obtain ⟨wK, cK, wT, cT, wH, cH, wM, cM, cG, cO, cV, wX, cX, cXh, wF⟩ := id K
  have h12 := wK.2.1
  have w300 : nT g ≤ 300 := wT.1.2
  have w500 : nH g ≤ 500 := wH.1.2
  have l20 := R.2.1
  have F1 := C_fits wT cT dc h64 r
  have F2 := C_knownH wH cH w R (I3 f) a b c
  have G2 := R_findH wH P (I3 f) a b c
  have e21 := dr.1
  have e10 : g.1 67 10 = I3 (nT g) := wT.1.1
  have e18 : g.1 67 18 = I3 (nH g) := wH.1.1
  have S35 : F_35 h = some (I3 (nH g), h) := by show some (h.1 10 11, h) = _; rw [cH.1, e18]
  have k19 : ∀ e : Int32, K1 h (sm_wI g 67 19 e) := fun e => ⟨wK, cK, wT, cT, wH, cH, wM, cM, cG, cO, cV, wX, cX, cXh, wF⟩
  have x19 : ∀ e : Int32, ext g (sm_wI g 67 19 e) ∧ grow g (sm_wI g 67 19 e) := fun e => ⟨⟨Nat.le_refl _, fun _ _ => rfl, Nat.le_refl _, fun _ _ => rfl, ⟨Nat.le_refl _, fun _ _ => ⟨rfl, rfl, fun _ _ => rfl⟩⟩, Nat.le_refl _, fun _ _ => rfl, Nat.le_refl _, fun _ _ => rfl, Nat.le_refl _, ⟨Nat.le_refl _, fun _ _ => ⟨rfl, rfl, rfl, rfl, rfl, rfl⟩⟩⟩, ⟨Nat.le_refl _, Nat.le_refl _, Nat.le_refl _, fun _ _ => rfl, fun _ _ => rfl⟩⟩
  have a19 : ∀ e : Int32, agr SRh g (sm_wI g 67 19 e) := fun e => agr_wI agr_rfl (by simp [SRh])
  have fHle := fH_le g (I3 f) a b c ps
  have refR : l.length ≤ 10 → (nT g < 300 ∨ fT g r l < nT g) → F_340 (I3 f) a b c g = F_340_42 (I3 f) a b c g := fun z room => by
    have RF := R_findT wT dr z r
    show F_340_0 _ _ _ _ g = _
    unfold F_340_0
    rw [e21, if_neg (by rw [I3_lit, I3_lt (by decide) (by omega)]; omega), er, RF]; simp only [Option.bind_some]
    rw [e10]
    by_cases q : nT g < 300
    · rw [if_neg (show ¬ I3 (nT g) = 300 by rw [I3_lit, I3_inj (by omega) (by decide)]; omega), ite_self]
    · unfold orN
      rw [if_pos (show fT g r l < nT g by omega), if_neg (I3_m1 (by omega))]
  by_cases fit : l.length ≤ 10 ∧ (nT g < 300 ∨ fT g r l < nT g)
  · rw [decide_eq_true fit] at F1
    have refR := refR fit.1 fit.2
    by_cases kn : fH g (I3 f) a b c ps < nH g
    · have kn' : orN (fH g (I3 f) a b c ps < nH g) (fH g (I3 f) a b c ps) = I3 (fH g (I3 f) a b c ps) := if_pos kn
      rw [kn'] at F2 G2
      refine ⟨I3 (fH g (I3 f) a b c ps), I3 (fH g (I3 f) a b c ps), h, g, ?_, ?_, K, ext_rfl, grow_rfl, agr_rfl, agr_rfl, Or.inr ⟨_, kn, rfl, rfl, rfl⟩⟩
      · show F_6_0 _ _ _ _ _ _ h = _
        unfold F_6_0
        rw [F1]; simp only [Option.bind_some]
        rw [if_neg (by decide), F2]; simp only [Option.bind_some]
        rw [if_neg (I3_m1 (by omega))]
      · rw [refR]
        unfold F_340_42
        rw [G2]; simp only [Option.bind_some]
        rw [if_neg (I3_m1 (by omega))]
    · have kn' : orN (fH g (I3 f) a b c ps < nH g) (fH g (I3 f) a b c ps) = -1 := if_neg kn
      rw [kn'] at F2 G2
      have c6 : F_6 (I3 f) a b c o r h = if I3 (nH g) < 500 then ((F_234 r h).bind fun q4 => (F_50 (I3 f) a b c o q4.1 q4.2).bind fun q5 => some (q5.1, q5.2)) else (some ((-5), h)) := by
        show F_6_0 _ _ _ _ _ _ h = _
        unfold F_6_0
        rw [F1]; simp only [Option.bind_some]
        rw [if_neg (by decide), F2]; simp only [Option.bind_some]
        rw [if_pos trivial, S35]; simp only [Option.bind_some]
      have c7 : F_340 (I3 f) a b c g = if I3 (nH g) = 500 then ((some (sm_wI g 67 19 5)).bind fun h14 => some ((-1), h14)) else ((F_302 g).bind fun q7 => (stI q7.2 76 500 (I3 (nH g)) q7.1).bind fun h8 => (stI h8 75 500 (I3 (nH g)) (I3 f)).bind fun h9 => (stI h9 77 500 (I3 (nH g)) a).bind fun h10 => (stI h10 78 500 (I3 (nH g)) b).bind fun h11 => (stJ h11 79 500 (I3 (nH g)) c).bind fun h12 => (stI h12 80 500 (I3 (nH g)) (h12.1 67 3)).bind fun h13 => F_340_143 (I3 (nH g)) 0 h13) := by
        rw [refR]
        unfold F_340_42
        rw [G2]; simp only [Option.bind_some]
        rw [if_pos trivial, e18]
      by_cases full : nH g = 500
      · refine ⟨-1, -I3 5, h, sm_wI g 67 19 5, ?_, ?_, k19 _, (x19 _).1, (x19 _).2, agr_rfl, a19 _, Or.inl ⟨5, Or.inr rfl, rfl, rfl, rfl⟩⟩
        · rw [c6, if_neg (by rw [I3_lit, I3_lt (by omega) (by decide)]; omega)]; rfl
        · rw [c7, if_pos (by rw [full]; rfl)]; rfl
      · rw [if_pos (by rw [I3_lit, I3_lt (by omega) (by decide)]; omega)] at c6
        rw [if_neg (by rw [I3_lit, I3_inj (by omega) (by decide)]; exact full)] at c7
        obtain ⟨h3, g3, s1, s2, s3, s4, s5, s6, s7, s8, s9⟩ := settled K dc dr er fit.1 fit.2 kr kl
        generalize ht : fT g r l = t at s1 s2 s7
        obtain ⟨y1, y2⟩ := isTy_pl s7 (by omega)
        have n3 : nH g3 = nH g := s6.n
        have cGq1 : ∀ k, k < nG g → tn (g3.1 92 k) < nH g3 := fun k hk => by
          rw [s9.1 92 k (by unfold SRt; omega), n3]
          exact (K1_base K).g k hk
        have F3 : FS g3 f a b c ps r l := FS_up (K1_base K) cGq1 s4 F
        obtain ⟨A1, A2, A3⟩ := hAdd s3 (by omega) s7.1 y1 y2 l20 F3
        have R3 : hasL h3 o p ps := hasL_agr R s8 (fun j => by unfold SCt; omega)
        have P3 : prR g3 ps := ⟨by rw [s9.1 67 3 (by unfold SRt; omega)]; exact P.1, P.2.1, fun k hk => by rw [s9.1 69 k (by unfold SRt; omega)]; exact P.2.2 k hk⟩
        have CA := C_append (h := h3) (g := g3) s3.2.2.1 s3.2.2.2.2.1 s3.2.2.2.1 s3.2.2.2.2.2.1 w (by omega) (by omega) R3 (I3 f) a b c s7.1 (by omega)
        have RA := R_append (g := g3) (n := nH g) (by have := s3.2.2.2.2.1.1.1; rw [this]; show I3 (nH g3) = _; rw [n3]) (by omega) P3 (I3 f) a b c (t := t)
        rw [n3] at A1 A2 A3 CA
        rw [y1, y2] at CA
        refine ⟨I3 (nH g), I3 (nH g), _, _, ?_, ?_, A1, ext_trans s4 A2, grow_trans s5 A3, agr_trans (agr_mono (fun _ _ z => Or.inl z) s8) agr_setHC, agr_trans (agr_mono (fun _ _ z => Or.inl z) s9) agr_setHR, Or.inr ⟨nH g, ?_, rfl, rfl, ?_⟩⟩
        · rw [c6, s1]; simp only [Option.bind_some]
          rw [CA]; rfl
        · rw [c7, s2]; simp only [Option.bind_some]
          exact RA
        · show nH g < (I3 (nH g + 1)).toNatClampNeg
          rw [I3_clamp (by omega)]; omega
        · show g3.1 67 19 = _
          exact s9.1 67 19 (by unfold SRt; omega)
  · rw [decide_eq_false fit] at F1
    refine ⟨-1, -I3 4, h, sm_wI g 67 19 4, ?_, ?_, k19 _, (x19 _).1, (x19 _).2, agr_rfl, a19 _, Or.inl ⟨4, Or.inl rfl, rfl, rfl, rfl⟩⟩
    · show F_6_0 _ _ _ _ _ _ h = _
      unfold F_6_0
      rw [F1]; simp only [Option.bind_some]
      rw [if_pos (by decide)]; rfl
    · show F_340_0 _ _ _ _ g = _
      unfold F_340_0 F_340_35
      rw [e21]
      by_cases z : l.length ≤ 10
      · have RF := R_findT wT dr z r
        have on : orN (fT g r l < nT g) (fT g r l) = -1 := if_neg (by omega)
        rw [on] at RF
        rw [if_neg (by rw [I3_lit, I3_lt (by decide) (by omega)]; omega), er, RF]; simp only [Option.bind_some]
        rw [if_pos trivial, e10, if_pos (by rw [show nT g = 300 by omega]; rfl)]
      · rw [if_pos (by rw [I3_lit, I3_lt (by decide) (by omega)]; omega)]; rfl
