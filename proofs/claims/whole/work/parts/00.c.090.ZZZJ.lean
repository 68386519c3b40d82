section
variable {d fuel s0 x vp p s : Nat} {vs : List Val} {h0 g0 h g : sm_H}
theorem C_98_none {h : sm_H} {n : Nat} (hn : n < 1000) (dd : Int32) : F_98 (-1) (I3 n) dd h = some h := by
  show F_98_0 (-1) (I3 n) dd h = _
  unfold F_98_0
  rw [show F_45 (-1) h = some (0, h) from rfl]; simp only [obs]
  rw [C_lend0 _ _ _ (by
    by_cases q : (0 : Int32) < I3 n
    · rw [if_pos q]; decide
    · rw [if_neg q]; exact Int32.not_lt.mp q)]; simp only [obs]
  rw [C_lend0 (n := 0 - I3 n) _ _ _ (sub_neg (a := 0) (b := n) (by omega) (by omega))]; simp only [obs]
theorem loop_test {rec : Int32 → Int32 → sm_H → Option (Int32 × sm_H)} (IH : CallOK (d + 1) rec) {n : Nat} (L : LPt g0 (prt g0 x) n)
    (fa : ∀ i, i < n → (pt (prt g0 x) i 2 ≠ -1 → hrs g0 (tn (pt (prt g0 x) i 2)) = 1) ∧ (pt (prt g0 x) i 3 ≠ -1 → hrs g0 (tn (pt (prt g0 x) i 3)) = hrs g0 x) ∧ ∀ z, 1 ≤ z → z < 4 → pt (prt g0 x) i z ≠ -1 → pre (hpl g0 (tn (pt (prt g0 x) i z))) (vrs g0 (prt g0 x) n ++ hpl g0 x))
    {i r vi zz f : Nat} {us : List Val} (hi : i < n) (F : Fr d fuel s0 x vp vs h0 g0 h g p s) (c59 : g.1 67 59 = I3 (vp + vs.length + us.length)) (V : LV d vp (vrs g0 (prt g0 x) n) vs us h g) (c107 : g.1 107 d = I3 i)
    (nx0 : pt (prt g0 x) i 2 = -1 → ∀ g1, Fr d fuel s0 x vp vs h0 g0 h g1 p s → g1.1 67 59 = I3 (vp + vs.length + us.length) → LV d vp (vrs g0 (prt g0 x) n) vs us h g1 → g1.1 107 d = I3 (if i + 1 = n then 0 else i + 1) → ∃ u, lp F_374_17B f (I3 d, I3 x, 0, g1) = some u ∧ Ends d fuel s0 vp (tn (hrs g0 x)) h0 g0 (p + 1) (RC rec x d us.length r (vi + zz) (i + 1) h) u)
    (nx1 : ∀ h1 g1 p1 s1, s < s1 → Fr d fuel s0 x vp vs h0 g0 h1 g1 p1 s1 → g1.1 67 59 = I3 (vp + vs.length + us.length) → LV d vp (vrs g0 (prt g0 x) n) vs us h1 g1 → g1.1 107 d = I3 (if i + 1 = n then 0 else i + 1) → ∃ u, lp F_374_17B 1000000 (I3 d, I3 x, 0, g1) = some u ∧ Ends d fuel s0 vp (tn (hrs g0 x)) h0 g0 (p1 + 1) (RC rec x d us.length r (vi + zz) (i + 1) h1) u) :
    ∃ u, oK F_374_17B f (F_374_79 (I3 d) (I3 x) (24 * I3 x + 4 * I3 i) g) = some u ∧ Ends d fuel s0 vp (tn (hrs g0 x)) h0 g0 (p + 1) (WC rec r i (F_96_161 rec (I3 x) (I3 d) (I3 us.length) (I3 r) (I3 (4 * i)) (pt (prt g0 x) i 2) (I3 vi) (I3 zz) h)) u := by
  have d1 := F.d1
  have v10 := F.v10
  have vl := F.vl
  have n4 := L.n4
  have ll := L.l
  have x500 := F.x500
  have vx := F.vx
  have u4 : us.length ≤ 4 := by rw [V.2.2.1.1]; exact Nat.le_trans (vrs_len _ _ _) n4
  have tw : tyV g (vrs g0 (prt g0 x) n ++ hpl g0 x) (us ++ vs) := tyV_app V.2.2.1 F.ty
  have e4 : I3 (4 * i) + 4 = I3 (4 * (i + 1)) := I3_add _ 4
  refine L.c hi (show 2 < 4 by omega) (fun e => ?_) (fun y y1 y2 y3 y4 => ?_)
  · have N := R_next F ll n4 hi c107
    have a : agr (SG d (vp + vs.length)) g (sm_wI g 107 d (I3 (if i + 1 = n then 0 else i + 1))) := agr_wI agr_rfl (by unfold SG; omega)
    have F1 := Fr_g F a
    obtain ⟨u, e1, e2⟩ := nx0 e _ F1 c59 ⟨V.1, V.2.1, tyV_grow F.m.k.1 (grow_N (agr_mono (SG_N _ _) a)) V.2.2.1, V.2.2.2⟩ (by show (if d = d then I3 (if i + 1 = n then 0 else i + 1) else g.1 107 d) = _; rw [if_pos rfl])
    refine ⟨u, ?_, ?_⟩
    · unfold F_374_79
      rw [F.q2 (by omega)]; simp only [obs]
      rw [if_pos e, N]; simp only [obs]
      exact e1
    · unfold F_96_161 F_96_255
      simp only [obs]
      rw [if_pos e, e4, I3_add, WC_next]; exact e2
  · have prY := (fa i hi).2.2 2 (by decide) (by decide) y4
    rw [y3] at prY
    have len : (hpl g0 y).length ≤ us.length + vs.length := by
      have := prY.1
      rw [List.length_append, ← vx, ← V.2.2.1.1] at this; exact this
    have hz : hrs g0 y = 1 := by have := (fa i hi).1 y4; rw [y3] at this; exact this
    obtain ⟨h', a1, Ly1⟩ := C_lendR F V.2.1 (by omega) y1 len
    obtain ⟨g', b1, P⟩ := R_lendR F c59 V.1 V.2.2.2 (by omega) y1 len
    obtain ⟨u, e1, e2⟩ := midL IH F (rk := tn (hrs g0 x)) 22 y1 (T := vp + vs.length + us.length) (by omega) (by omega) Ly1 P (tyV_first tw prY) (k := fun q4 => WC rec r i (if q4.1 = 0 then (if (lg_cmp (q4.2.2.1 49 9) 0) = 0 then ((F_43 (I3 x) (I3 (4 * i) + 3) q4.2).bind fun q5 => (F_75 0 0 q5.2).bind fun q6 => (F_98 q5.1 (I3 us.length) (I3 d) q6.2).bind fun q7 => if q5.1 = (-1) then ((F_96_254 rec 0 q7).map fun r => (.inr (.inr r))) else ((rec q5.1 (I3 d + 1) q7).bind fun q8 => (F_96_254 rec q8.1 q8.2).map fun r => (.inr (.inr r)))) else (F_96_255 rec (I3 x) (I3 d) (I3 us.length) (I3 r) (I3 vi + I3 zz) (I3 (4 * i)) q4.2)) else (some (.inr (.inr (q4.1, q4.2))))))
      (by decide) (fun o h1 o1 o2 => by
        show WC rec r i (if I3 o = 0 then _ else _) = _
        rw [if_neg (I3_ne0 o1 o2)]; rfl) (fun h1 g1 p1 s1 lt FN t59 t63 t62 t104 t107 rr LVt => by
        have G' := Fr_63 FN
        have V1 := LVt _ us (Nat.le_refl _) (by omega) V
        have ok := rr.2.2.1 rfl
        rw [hz, show tn (1 : Int32) = 1 from rfl] at ok
        obtain ⟨-, n1⟩ := okV_6 (v := (g1.1 67 60, g1.2.1 67 61)) (k := 1) (by decide) (by decide) ok
        have n1 : g1.2.1 67 61 = 0 ∨ g1.2.1 67 61 = 1 := n1.1 rfl
        have S := go_20 FN t62 t104 (Or.inr (Or.inr rfl))
        have l107' : (sm_wI g1 67 63 0).1 107 d = I3 i := t107.trans c107
        have l107 : ldI (sm_wI g1 67 63 0) 107 100 (I3 d) = some (I3 i) := by rw [ldI_I d1 (by decide), l107']
        have l104 : ldI (sm_wI g1 67 63 0) 104 100 (I3 d) = some 22 := by rw [ldI_I d1 (by decide)]; exact congrArg some t104
        have S2 : F_376 (I3 d) (I3 x) (sm_wI g1 67 63 0) = (if (lg_cmp (g1.2.1 67 61) 1) = 0 then ((F_375 (I3 d) (I3 x) (sm_wI g1 67 63 0)).bind fun q19 => (F_374 0 q19).bind fun q20 => F_376_302 q20) else (if pt (prt g0 x) i 3 = (-1) then ((F_307 (I3 x) (sm_wI g1 67 63 0)).bind fun q17 => (F_346 q17.1 q17.2).bind fun q18 => F_376_302 q18) else ((F_373 (pt (prt g0 x) i 3) (sm_wI g1 67 63 0)).bind fun q14 => (ldI q14 81 12000 (24 * I3 x + 4 * I3 i + 3)).bind fun v15 => (F_349 v15 q14).bind fun q16 => F_376_302 q16))) := by
          show F_376_0 (I3 d) (I3 x) (sm_wI g1 67 63 0) = _
          unfold F_376_0
          rw [l107]; simp only [obs]
          rw [G'.l105]; simp only [obs]
          rw [G'.l305]; simp only [obs]
          rw [l104]; simp only [obs]
          rw [if_neg (by decide), if_neg (by decide), G'.q3 (by omega)]; simp only [obs]
          all_goals rfl
        have V2 : LV d vp (vrs g0 (prt g0 x) n) vs us h1 (sm_wI g1 67 63 0) := ⟨V1.1, V1.2.1, tyV_grow FN.m.k.1 (grow_N (agr_wI agr_rfl (by unfold SN; omega))) V1.2.2.1, V1.2.2.2⟩
        have tw2 : tyV (sm_wI g1 67 63 0) (vrs g0 (prt g0 x) n ++ hpl g0 x) (us ++ vs) := tyV_app V2.2.2.1 G'.ty
        show Ends d fuel s0 vp (tn (hrs g0 x)) h0 g0 p1 (WC rec r i (if (0 : Int32) = 0 then _ else _)) g1
        rw [if_pos rfl]
        rcases n1 with n1 | n1
        · rw [if_pos (by rw [cmp_eq]; exact rr.1.trans n1), show I3 (4 * i) + 3 = I3 (4 * i + 3) from I3_add _ 3, FN.f43 (by omega)]; simp only [obs]
          rw [if_neg (show ¬ lg_cmp (g1.2.1 67 61) 1 = 0 by rw [cmp_eq, n1]; decide)] at S2
          refine L.c hi (show 3 < 4 by omega) (fun e => ?_) (fun w w1 w2 w3 w4 => ?_)
          · obtain ⟨q, q1, q2⟩ := rs_k FN.m.k FN.hx
            have h12 := FN.m.k.1.2.1
            rw [m_hrs FN.ar] at q1
            have z := okV_zk (g := sm_wI g1 67 63 0) (q := q) (by omega)
            obtain ⟨u, h2, j1, j2, j3⟩ := Fr_give (rk := tn (hrs g0 x)) (Fr_48 G' (g' := sm_wJ (sm_wI (sm_wI g1 67 63 0) 67 48 (zk (I3 q))) 67 49 0) (agr_wJ (agr_wI agr_rfl (by unfold S48; omega)) (by unfold S48; omega))) (zk (I3 q)) 0 (by rw [q1, tnI (by omega)]; exact okV_grow G'.m.k.1 (grow_N (agr_wJ (agr_wI agr_rfl (by unfold SN; omega)) (by unfold SN; omega))) z)
            rw [tag_zk] at j2
            rw [if_pos e, G'.rs F.x1, q1] at S2; simp only [obs] at S2
            rw [show F_346 (I3 q) (sm_wI g1 67 63 0) = F_346_0 (I3 q) (sm_wI g1 67 63 0) from rfl] at S2
            unfold F_346_0 at S2
            rw [R_zero (by omega)] at S2; simp only [obs] at S2
            rw [show F_345 ((sm_wJ (sm_wI (sm_wI g1 67 63 0) 67 48 (zk (I3 q))) 67 49 0).1 67 48) ((sm_wJ (sm_wI (sm_wI g1 67 63 0) 67 48 (zk (I3 q))) 67 49 0).2.1 67 49) (sm_wJ (sm_wI (sm_wI g1 67 63 0) 67 48 (zk (I3 q))) 67 49 0) = some u from j1] at S2; simp only [obs] at S2
            rw [j2]; simp only [obs]
            rw [show at0 (prt g0 x) (4 * i + 3) = -1 from e, C_98_none (by omega)]; simp only [obs]
            rw [if_pos trivial]
            exact Ends_step (step_goOn (by omega) FN.c64 FN.c56 t63 (S.trans S2)) j3
          · have prW := (fa i hi).2.2 3 (by decide) (by decide) w4
            rw [w3] at prW
            have lenW : (hpl g0 w).length ≤ us.length + vs.length := by
              have := prW.1
              rw [List.length_append, ← vx, ← V.2.2.1.1] at this; exact this
            have hw : hrs g0 w = hrs g0 x := by have := (fa i hi).2.1 w4; rw [w3] at this; exact this
            have a2 : agr (SC1 d) h1 (sm_wI (sm_wJ h1 49 9 0) 49 10 0) := agr_wI (agr_wJ agr_rfl (by unfold SC1; omega)) (by unfold SC1; omega)
            have F2 := Fr_h G' a2 rfl
            obtain ⟨h3, a3, L3⟩ := C_lendR F2 (us := us) (show frmO (sm_wI (sm_wJ h1 49 9 0) 49 10 0) d 10 us from V1.2.1) (by omega) w1 lenW
            obtain ⟨g3, b3, P3⟩ := R_lendR F2 (us := us) t59 V2.1 V2.2.2.2 (by omega) w1 lenW
            obtain ⟨u, j1, j2⟩ := tail2 IH F2 w1 (by omega) (by omega) L3 P3 (tyV_first tw2 prW)
            rw [if_neg w4, w2, b3] at S2; simp only [obs] at S2
            rw [(Fr_Ph F2 (by omega) P3).q3 (by omega)] at S2; simp only [obs] at S2
            rw [w2, j1] at S2; simp only [obs] at S2
            rw [show F_75 0 0 h1 = some (0, sm_wI (sm_wJ h1 49 9 0) 49 10 0) from rfl]; simp only [obs]
            rw [show at0 (prt g0 x) (4 * i + 3) = I3 w from w2, a3]; simp only [obs]
            rw [if_neg (show ¬ I3 w = (-1 : Int32) by rw [← w2]; exact w4), WC_bind, show I3 d + 1 = I3 (d + 1) from I3_add d 1, ← hw]
            refine Ends_step (step_goOn (by omega) FN.c64 FN.c56 t63 (S.trans S2)) ?_
            have E : ((rec (I3 w) (I3 (d + 1)) h3).bind fun z => WC rec r i ((F_96_254 rec z.1 z.2).map fun r => (.inr (.inr r)))) = rec (I3 w) (I3 (d + 1)) h3 := bind_id _
            rw [E]; exact j2
        · rw [if_neg (by rw [cmp_eq]; intro z; rw [rr.1, n1] at z; exact absurd z (by decide))]
          have N := R_next G' ll n4 hi l107'
          have a : agr (SG d (vp + vs.length)) (sm_wI g1 67 63 0) (sm_wI (sm_wI g1 67 63 0) 107 d (I3 (if i + 1 = n then 0 else i + 1))) := agr_wI agr_rfl (by unfold SG; omega)
          have F1 := Fr_g G' a
          obtain ⟨u, j1, j2⟩ := nx1 h1 _ p1 s1 lt F1 t59 ⟨V2.1, V2.2.1, tyV_grow G'.m.k.1 (grow_N (agr_mono (SG_N _ _) a)) V2.2.2.1, V2.2.2.2⟩ (by show (if d = d then I3 (if i + 1 = n then 0 else i + 1) else (sm_wI g1 67 63 0).1 107 d) = _; rw [if_pos rfl])
          rw [if_pos (by rw [cmp_eq]; exact n1), N] at S2; simp only [obs] at S2
          rw [F1.l374, j1] at S2; simp only [obs] at S2
          refine Ends_step (step_goOn (by omega) FN.c64 FN.c56 t63 (S.trans S2)) ?_
          unfold F_96_255
          simp only [obs]
          rw [e4, I3_add, WC_next]; exact j2)
    refine ⟨u, ?_, ?_⟩
    · unfold F_374_79
      rw [F.q2 (by omega)]; simp only [obs]
      rw [if_neg y4, y2, b1]; simp only [obs]
      rw [(Fr_Ph F (by omega) P).q2 (by omega)]; simp only [obs]
      rw [y2, e1]; rfl
    · have CC : WC rec r i (F_96_161 rec (I3 x) (I3 d) (I3 us.length) (I3 r) (I3 (4 * i)) (pt (prt g0 x) i 2) (I3 vi) (I3 zz) h) = (rec (I3 y) (I3 (d + 1)) h').bind fun q4 => WC rec r i (if q4.1 = 0 then (if (lg_cmp (q4.2.2.1 49 9) 0) = 0 then ((F_43 (I3 x) (I3 (4 * i) + 3) q4.2).bind fun q5 => (F_75 0 0 q5.2).bind fun q6 => (F_98 q5.1 (I3 us.length) (I3 d) q6.2).bind fun q7 => if q5.1 = (-1) then ((F_96_254 rec 0 q7).map fun r => (.inr (.inr r))) else ((rec q5.1 (I3 d + 1) q7).bind fun q8 => (F_96_254 rec q8.1 q8.2).map fun r => (.inr (.inr r)))) else (F_96_255 rec (I3 x) (I3 d) (I3 us.length) (I3 r) (I3 vi + I3 zz) (I3 (4 * i)) q4.2)) else (some (.inr (.inr (q4.1, q4.2))))) := by
        unfold F_96_161
        simp only [obs]
        rw [if_neg y4, y2, a1]; simp only [obs]
        rw [WC_bind, show I3 d + 1 = I3 (d + 1) from I3_add d 1]
      rw [CC]; exact e2
end
