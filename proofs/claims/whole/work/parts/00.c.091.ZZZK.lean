section
variable {d fuel s0 x vp : Nat} {vs : List Val} {h0 g0 : sm_H}
theorem loop_round {rec : Int32 → Int32 → sm_H → Option (Int32 × sm_H)} (IH : CallOK (d + 1) rec) {n j0 : Nat} (L : LPt g0 (prt g0 x) n)
    (fa : ∀ i, i < n → (pt (prt g0 x) i 2 ≠ -1 → hrs g0 (tn (pt (prt g0 x) i 2)) = 1) ∧ (pt (prt g0 x) i 3 ≠ -1 → hrs g0 (tn (pt (prt g0 x) i 3)) = hrs g0 x) ∧ ∀ z, 1 ≤ z → z < 4 → pt (prt g0 x) i z ≠ -1 → pre (hpl g0 (tn (pt (prt g0 x) i z))) (vrs g0 (prt g0 x) n ++ hpl g0 x))
    (j1 : j0 < n) (j2 : pt (prt g0 x) j0 2 ≠ -1) : ∀ (m : Nat) (i r e f p s : Nat) (us : List Val) (h g : sm_H), ((i ≤ j0 ∧ e = j0 - i) ∨ (j0 < i ∧ i ≤ n ∧ e = n - i + 1 + j0)) → (fuel - s) * 20 + e < m → e < f → Fr d fuel s0 x vp vs h0 g0 h g p s → g.1 67 59 = I3 (vp + vs.length + us.length) → LV d vp (vrs g0 (prt g0 x) n) vs us h g → g.1 107 d = I3 (if i = n then 0 else i) → r + s0 + 1 ≤ s → (j0 < i → r + s0 + 2 ≤ s) →
      ∃ u, lp F_374_17B f (I3 d, I3 x, 0, g) = some u ∧ Ends d fuel s0 vp (tn (hrs g0 x)) h0 g0 (p + 1) (RC rec x d us.length r (vrs g0 (prt g0 x) i).length i h) u := by
  have n4 := L.n4
  have ll := L.l
  intro m
  induction m with
  | zero => intro i r e f p s us h g _ hm; omega
  | succ m ih =>
    intro i r e f p s us h g he hm hf F c59 V c107 r1 r2
    have le := F.m.le
    have fm' := F.m.fm
    have d1 := F.d1
    have v10 := F.v10
    have vl := F.vl
    have x500 := F.x500
    have vx := F.vx
    have u4 : us.length ≤ 4 := by rw [V.2.2.1.1]; exact Nat.le_trans (vrs_len _ _ _) n4
    by_cases q : i = n
    · rw [if_pos q] at c107
      obtain ⟨u, e1, e2⟩ := ih 0 (r + 1) j0 f p s us h g (Or.inl ⟨by omega, by omega⟩) (by omega) (by omega) F c59 V (by rw [if_neg (by omega)]; exact c107) (by omega) (by omega)
      refine ⟨u, e1, ?_⟩
      have H : F_96_23B rec (I3 x, I3 d, I3 us.length, I3 r, I3 (vrs g0 (prt g0 x) i).length, I3 (4 * i), h) = some (.inr (.inl (I3 x, I3 d, I3 us.length, I3 (r + 1), h))) := by
        unfold F_96_23B
        rw [F.f42]; simp only [obs]
        rw [if_pos (by rw [ll, I3_le (by omega) (by omega)]; omega), show I3 r + 1 = I3 (r + 1) from I3_add r 1]
      rw [RC_WC (by omega), H, WC_round (by omega)]; exact e2
    · have hi : i < n := by omega
      rw [if_neg q] at c107
      have l107 : ldI g 107 100 (I3 d) = some (I3 i) := by rw [ldI_I d1 (by decide), c107]
      have nx : ∀ (p1 s1 f1 : Nat) (us1 : List Val) (h1 g1 : sm_H), s < s1 → 20 ≤ f1 → Fr d fuel s0 x vp vs h0 g0 h1 g1 p1 s1 → g1.1 67 59 = I3 (vp + vs.length + us1.length) → LV d vp (vrs g0 (prt g0 x) n) vs us1 h1 g1 → g1.1 107 d = I3 (if i + 1 = n then 0 else i + 1) → ∃ u, lp F_374_17B f1 (I3 d, I3 x, 0, g1) = some u ∧ Ends d fuel s0 vp (tn (hrs g0 x)) h0 g0 (p1 + 1) (RC rec x d us1.length r ((vrs g0 (prt g0 x) i).length + gone (vk g0 (prt g0 x) i)) (i + 1) h1) u := fun p1 s1 f1 us1 h1 g1 lt f20 F1 c1 V1 k1 => by
        have le1 := F1.m.le
        obtain ⟨e', he'⟩ : ∃ e', (i + 1 ≤ j0 ∧ e' = j0 - (i + 1)) ∨ (j0 < i + 1 ∧ i + 1 ≤ n ∧ e' = n - (i + 1) + 1 + j0) := by
          by_cases z : i + 1 ≤ j0
          · exact ⟨_, Or.inl ⟨z, rfl⟩⟩
          · exact ⟨_, Or.inr ⟨by omega, by omega, rfl⟩⟩
        have z := ih (i + 1) r e' f1 p1 s1 us1 h1 g1 he' (by omega) (by omega) F1 c1 V1 k1 (by omega) (by omega)
        rw [vrs_g] at z; exact z
      rw [RC_WC (by omega), C_head F L hi]
      refine L.c hi (show 1 < 4 by omega) (fun st => ?_) (fun y y1 y2 y3 y4 => ?_)
      · obtain ⟨u, e1, e2⟩ := loop_test (zz := gone (vk g0 (prt g0 x) i)) (vi := (vrs g0 (prt g0 x) i).length) (r := r) (f := f - 1) IH L fa hi F c59 V c107 (fun ne g1 F1 c1 V1 k1 => by
          have nj : i ≠ j0 := fun z => j2 (z ▸ ne)
          have z := ih (i + 1) r (e - 1) (f - 1) p s us h g1 (by omega) (by omega) (by omega) F1 c1 V1 k1 (by omega) (by omega)
          rw [vrs_g] at z; exact z) (fun h1 g1 p1 s1 lt F1 c1 V1 k1 => nx p1 s1 1000000 us h1 g1 lt (by omega) F1 c1 V1 k1)
        refine ⟨u, ?_, ?_⟩
        · have HB : F_374_17B (I3 d, I3 x, 0, g) = F_374_79 (I3 d) (I3 x) (24 * I3 x + 4 * I3 i) g := by
            unfold F_374_17B
            rw [l107]; simp only [obs]
            rw [if_pos trivial, F.q1 (by omega)]; simp only [obs]
            rw [if_pos st]
          rw [lp_oK (by omega), HB]; exact e1
        · unfold F_96_91
          rw [if_pos st, C_149]; exact e2
      · have prY := (fa i hi).2.2 1 (by decide) (by decide) y4
        rw [y3] at prY
        have len : (hpl g0 y).length ≤ us.length + vs.length := by
          have := prY.1
          rw [List.length_append, ← vx, ← V.2.2.1.1] at this; exact this
        have vkY : vk g0 (prt g0 x) i = hrs g0 y := by
          unfold vk
          rw [if_pos (show at0 (prt g0 x) (4 * i + 1) ≠ -1 from y4), show tn (at0 (prt g0 x) (4 * i + 1)) = y from y3]
        have tw : tyV g (vrs g0 (prt g0 x) n ++ hpl g0 x) (us ++ vs) := tyV_app V.2.2.1 F.ty
        obtain ⟨h', a1, Ly1⟩ := C_lendR F V.2.1 (by omega) y1 len
        obtain ⟨g', b1, P⟩ := R_lendR F c59 V.1 V.2.2.2 (by omega) y1 len
        obtain ⟨u, e1, e2⟩ := midL IH F (rk := tn (hrs g0 x)) 21 y1 (T := vp + vs.length + us.length) (by omega) (by omega) Ly1 P (tyV_first tw prY) (k := fun q10 => WC rec r i (if q10.1 = 0 then (if I3 (gone (vk g0 (prt g0 x) i)) = 0 then (F_96_149 rec (I3 x) (I3 d) (I3 us.length) (I3 r) (I3 (vrs g0 (prt g0 x) i).length) (I3 (4 * i)) (pt (prt g0 x) i 2) (I3 (gone (vk g0 (prt g0 x) i))) q10.2) else ((F_79 (I3 d) (10 + I3 (vrs g0 (prt g0 x) i).length) (q10.2.2.1 49 9) (q10.2.1 49 10) q10.2).bind fun q11 => F_96_149 rec (I3 x) (I3 d) (I3 us.length) (I3 r) (I3 (vrs g0 (prt g0 x) i).length) (I3 (4 * i)) (pt (prt g0 x) i 2) (I3 (gone (vk g0 (prt g0 x) i))) q11)) else (some (.inr (.inr (q10.1, q10.2))))))
          (by decide) (fun o h1 o1 o2 => by
            show WC rec r i (if I3 o = 0 then _ else _) = _
            rw [if_neg (I3_ne0 o1 o2)]; rfl) (fun h1 g1 p1 s1 lt FN t59 t63 t62 t104 t107 rr LVt => by
            have G' := Fr_63 FN
            have V1 := LVt _ us (Nat.le_refl _) (by omega) V
            have V2 : LV d vp (vrs g0 (prt g0 x) n) vs us h1 (sm_wI g1 67 63 0) := ⟨V1.1, V1.2.1, tyV_grow FN.m.k.1 (grow_N (agr_wI agr_rfl (by unfold SN; omega))) V1.2.2.1, V1.2.2.2⟩
            have S := go_20 FN t62 t104 (Or.inr (Or.inl rfl))
            have k107' : (sm_wI g1 67 63 0).1 107 d = I3 i := t107.trans c107
            have k107 : ldI (sm_wI g1 67 63 0) 107 100 (I3 d) = some (I3 i) := by rw [ldI_I d1 (by decide), k107']
            have k104 : ldI (sm_wI g1 67 63 0) 104 100 (I3 d) = some 21 := by rw [ldI_I d1 (by decide)]; exact congrArg some t104
            have S2 : F_376 (I3 d) (I3 x) (sm_wI g1 67 63 0) = (if hrs g0 y = 0 then F_376_223 (sm_wI g1 67 63 0) else ((F_372 (I3 x) (I3 i) (sm_wI g1 67 63 0)).bind fun q24 => (some ((I3 vp + I3 vs.length + q24.1) : Int32)).bind fun v25 => (stI q24.2 108 6000 v25 (q24.2.1 67 60)).bind fun h26 => (stJ h26 109 6000 v25 (h26.2.1 67 61)).bind fun h27 => F_376_223 h27)) := by
              show F_376_0 (I3 d) (I3 x) (sm_wI g1 67 63 0) = _
              unfold F_376_0
              rw [k107]; simp only [obs]
              rw [G'.l105]; simp only [obs]
              rw [G'.l305]; simp only [obs]
              rw [k104]; simp only [obs]
              rw [if_neg (by decide), if_pos (by decide), G'.q1 (by omega)]; simp only [obs]
              rw [y2, G'.rs y1]; simp only [obs]
              all_goals (rw [k107]; rfl)
            have after : ∀ (h2 g3 : sm_H) (us2 : List Val), us2.length = us.length → Fr d fuel s0 x vp vs h0 g0 h2 g3 p1 s1 → g3.1 67 59 = I3 (vp + vs.length + us2.length) → LV d vp (vrs g0 (prt g0 x) n) vs us2 h2 g3 → g3.1 107 d = I3 i → ∃ u, F_376_223 g3 = some u ∧ Ends d fuel s0 vp (tn (hrs g0 x)) h0 g0 (p1 + 1) (WC rec r i (F_96_149 rec (I3 x) (I3 d) (I3 us.length) (I3 r) (I3 (vrs g0 (prt g0 x) i).length) (I3 (4 * i)) (pt (prt g0 x) i 2) (I3 (gone (vk g0 (prt g0 x) i))) h2)) u := fun h2 g3 us2 ul F3 c3 V3 k3 => by
              obtain ⟨u, j1, j2⟩ := loop_test (zz := gone (vk g0 (prt g0 x) i)) (vi := (vrs g0 (prt g0 x) i).length) (r := r) (f := 999999) IH L fa hi F3 c3 V3 k3 (fun _ g4 F4 c4 V4 k4 => nx p1 s1 999999 us2 h2 g4 lt (by omega) F4 c4 V4 k4) (fun h4 g4 p4 s4 lt4 F4 c4 V4 k4 => nx p4 s4 1000000 us2 h4 g4 (by omega) (by omega) F4 c4 V4 k4)
              have l3 : ldI g3 107 100 (I3 d) = some (I3 i) := by rw [ldI_I d1 (by decide), k3]
              refine ⟨u, ?_, ?_⟩
              · unfold F_376_223
                have HB : F_374_17B (I3 d, I3 x, 1, g3) = F_374_79 (I3 d) (I3 x) (24 * I3 x + 4 * I3 i) g3 := by
                  unfold F_374_17B
                  rw [l3]; simp only [obs]
                  rw [if_neg (by decide)]
                rw [F3.l374, lp_oK (by decide), HB, show 1000000 - 1 = 999999 from rfl, j1]; rfl
              · rw [C_149, ← ul]; exact j2
            show Ends d fuel s0 vp (tn (hrs g0 x)) h0 g0 p1 (WC rec r i (if (0 : Int32) = 0 then _ else _)) g1
            rw [if_pos rfl]
            by_cases z : hrs g0 y = 0
            · obtain ⟨u, w1, w2⟩ := after h1 (sm_wI g1 67 63 0) us rfl G' t59 V2 k107'
              rw [if_pos z] at S2
              rw [if_pos (show I3 (gone (vk g0 (prt g0 x) i)) = 0 by rw [vkY, gone_0 z]; rfl)]
              exact Ends_step (step_goOn (by omega) FN.c64 FN.c56 t63 (S.trans (S2.trans w1))) w2
            · obtain ⟨v1, v2⟩ := vrs_at g0 (prt g0 x) hi (by rw [vkY]; exact z)
              have vu : (vrs g0 (prt g0 x) i).length < us.length := by rw [V.2.2.1.1]; exact v1
              have ok : okV (sm_wI g1 67 63 0) (tn (at0 (vrs g0 (prt g0 x) n) (vrs g0 (prt g0 x) i).length)) (g1.1 67 60) (g1.2.1 67 61) := by
                rw [v2, vkY]; exact okV_grow FN.m.k.1 (grow_N (agr_wI agr_rfl (by unfold SN; omega))) (rr.2.2.1 rfl)
              have V3 := LV_set G'.m.k.1 V2 vu (g1.1 67 60, g1.2.1 67 61) ok
              have FC := Fr_h G' (h' := sm_wI (sm_wJ h1 50 (16 * d + (10 + (vrs g0 (prt g0 x) i).length)) (g1.2.1 67 61)) 51 (16 * d + (10 + (vrs g0 (prt g0 x) i).length)) (tag (g1.1 67 60))) (agr_wI (agr_wJ agr_rfl (by unfold SC1; omega)) (by unfold SC1; omega)) rfl
              have FR := Fr_g FC (g' := sm_wJ (sm_wI (sm_wI g1 67 63 0) 108 (vp + vs.length + (vrs g0 (prt g0 x) i).length) (g1.1 67 60)) 109 (vp + vs.length + (vrs g0 (prt g0 x) i).length) (g1.2.1 67 61)) (agr_wJ (agr_wI agr_rfl (by unfold SG SP; omega)) (by unfold SG SP; omega))
              obtain ⟨u, w1, w2⟩ := after _ _ _ (by rw [List.length_set]) FR (by rw [List.length_set]; exact t59) V3 k107'
              rw [if_neg z, R_varAt G' L hi] at S2; simp only [obs] at S2
              rw [I3_add, I3_add, stI_I (by omega) (by decide)] at S2; simp only [obs] at S2
              rw [stJ_I (by omega) (by decide)] at S2; simp only [obs] at S2
              rw [if_neg (show ¬ I3 (gone (vk g0 (prt g0 x) i)) = 0 by rw [vkY, gone_n z]; decide), rr.1, rr.2.1, show (10 : Int32) + I3 (vrs g0 (prt g0 x) i).length = I3 (10 + (vrs g0 (prt g0 x) i).length) from I3_add 10 _, C_lay0 (by omega) (by omega)]; simp only [obs]
              exact Ends_step (step_goOn (by omega) FN.c64 FN.c56 t63 (S.trans (S2.trans w1))) w2)
        refine ⟨u, ?_, ?_⟩
        · have HB : F_374_17B (I3 d, I3 x, 0, g) = some (.inr u) := by
            unfold F_374_17B
            rw [l107]; simp only [obs]
            rw [if_pos trivial, F.q1 (by omega)]; simp only [obs]
            rw [if_neg y4, y2, b1]; simp only [obs]
            rw [(Fr_Ph F (by omega) P).q1 (by omega)]; simp only [obs]
            rw [y2, e1]; rfl
          exact lp_e (by omega) HB
        · have CC : WC rec r i (F_96_91 rec (I3 x) (I3 d) (I3 us.length) (I3 r) (I3 (vrs g0 (prt g0 x) i).length) (I3 (4 * i)) (pt (prt g0 x) i 1) (pt (prt g0 x) i 2) (I3 (gone (vk g0 (prt g0 x) i))) h) = (rec (I3 y) (I3 (d + 1)) h').bind fun q10 => WC rec r i (if q10.1 = 0 then (if I3 (gone (vk g0 (prt g0 x) i)) = 0 then (F_96_149 rec (I3 x) (I3 d) (I3 us.length) (I3 r) (I3 (vrs g0 (prt g0 x) i).length) (I3 (4 * i)) (pt (prt g0 x) i 2) (I3 (gone (vk g0 (prt g0 x) i))) q10.2) else ((F_79 (I3 d) (10 + I3 (vrs g0 (prt g0 x) i).length) (q10.2.2.1 49 9) (q10.2.1 49 10) q10.2).bind fun q11 => F_96_149 rec (I3 x) (I3 d) (I3 us.length) (I3 r) (I3 (vrs g0 (prt g0 x) i).length) (I3 (4 * i)) (pt (prt g0 x) i 2) (I3 (gone (vk g0 (prt g0 x) i))) q11)) else (some (.inr (.inr (q10.1, q10.2))))) := by
            unfold F_96_91
            rw [if_neg y4, y2, a1]; simp only [obs]
            rw [WC_bind, show I3 d + 1 = I3 (d + 1) from I3_add d 1]
          rw [CC]; exact e2
end
