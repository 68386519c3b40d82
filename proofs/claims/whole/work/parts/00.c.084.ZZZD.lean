theorem NwR.s48 {g g' : sm_H} {t k sz : Nat} (R : NwR g g' t k sz) (a : Int32) (b : Int64) : NwR (sm_wJ (sm_wI g 67 48 a) 67 49 b) (sm_wJ (sm_wI g' 67 48 a) 67 49 b) t k sz := by
  refine ⟨⟨fun c j n => ?_, fun c j n => ?_, fun c j n => R.a.2.2.1 c j n, R.a.2.2.2⟩, R.e45, R.e96, R.e97⟩
  · show (sm_wI g' 67 48 a).1 c j = (sm_wI g 67 48 a).1 c j
    rw [wI_rd, wI_rd]
    by_cases q : c = 67 ∧ j = 48
    · rw [if_pos q, if_pos q]
    · rw [if_neg q, if_neg q]; exact R.a.1 c j n
  · rw [wJ_rd, wJ_rd]
    by_cases q : c = 67 ∧ j = 49
    · rw [if_pos q, if_pos q]
    · rw [if_neg q, if_neg q]; exact R.a.2.1 c j n
section
variable {d fuel s0 x vp p s : Nat} {vs : List Val} {h0 g0 h g : sm_H}
theorem Fr_48' (F : Fr d fuel s0 x vp vs h0 g0 h g p s) (a : Int32) (b : Int64) : Fr d fuel s0 x vp vs h0 g0 h (sm_wJ (sm_wI g 67 48 a) 67 49 b) p s := Fr_g F (agr_wJ (agr_wI agr_rfl (by unfold SG; omega)) (by unfold SG; omega))
end
theorem R_fill {g g1 : sm_H} {t k sz : Nat} {v : Val} (R : NwR g g1 t k sz) (t1 : t < 1000) (hs : sz ≤ 100) (e48 : g1.1 67 48 = v.1) (e49 : g1.2.1 67 49 = v.2) (x1 : Int32) (n : Int64) (hn : n.toInt = sz) : ∃ g2, F_359_62 x1 n (I3 t) 0 g1 = (F_345 x1 (Int32.toInt64 (I3 t)) g2) ∧ NwR g g2 t k sz ∧ ∀ i, i < sz → g2.1 98 (100 * t + i) = v.1 ∧ g2.2.1 99 (100 * t + i) = v.2 := by
  have key : ∀ j, j ≤ sz → ∃ g2, F_359_62 x1 n (I3 t) 0 g1 = lp F_359_62B (1000000 - j) (x1, n, I3 t, I3 j, g2) ∧ NwR g g2 t k sz ∧ g2.1 67 48 = v.1 ∧ g2.2.1 67 49 = v.2 ∧ ∀ i, i < j → g2.1 98 (100 * t + i) = v.1 ∧ g2.2.1 99 (100 * t + i) = v.2 := by
    intro j
    induction j with
    | zero => intro _; exact ⟨g1, rfl, R, e48, e49, fun i hi => by omega⟩
    | succ j ih =>
      intro hj
      obtain ⟨g2, e, R2, a1, a2, a3⟩ := ih (by omega)
      refine ⟨sm_wJ (sm_wI g2 98 (100 * t + j) v.1) 99 (100 * t + j) v.2, ?_, R2.put (by omega) v, a1, a2, fun i hi => ?_⟩
      · rw [e, lp_s (n := 1000000 - j) (s' := (x1, n, I3 t, I3 (j + 1), sm_wJ (sm_wI g2 98 (100 * t + j) v.1) 99 (100 * t + j) v.2)) (by omega) ?_]
        · rw [show 1000000 - j - 1 = 1000000 - (j + 1) by omega]
        · unfold F_359_62B
          rw [if_neg (by rw [cmp_ge, toI64, I3_toInt (by omega), hn]; omega), a1, show (100 : Int32) * I3 t + I3 j = I3 (100 * t + j) by rw [I3_lit, I3_mul, I3_add], stI_I (by omega) (by decide)]; simp only [obs]
          rw [show (sm_wI g2 98 (100 * t + j) v.1).2.1 67 49 = g2.2.1 67 49 from rfl, a2, stJ_I (by omega) (by decide)]; simp only [obs]
          rw [show I3 j + 1 = I3 (j + 1) from I3_add j 1]
      · show (if 100 * t + i = 100 * t + j then v.1 else g2.1 98 (100 * t + i)) = v.1 ∧ (if 100 * t + i = 100 * t + j then v.2 else g2.2.1 99 (100 * t + i)) = v.2
        by_cases q : i = j
        · rw [if_pos (by omega), if_pos (by omega)]; exact ⟨rfl, rfl⟩
        · rw [if_neg (by omega), if_neg (by omega)]; exact a3 i (by omega)
  obtain ⟨g2, e, R2, a1, a2, a3⟩ := key sz (Nat.le_refl _)
  refine ⟨g2, ?_, R2, a3⟩
  rw [e]
  have B : F_359_62B (x1, n, I3 t, I3 sz, g2) = (F_345 x1 (Int32.toInt64 (I3 t)) g2).map (fun q => .inr q) := by
    unfold F_359_62B
    rw [if_pos (by rw [cmp_ge, toI64, I3_toInt (by omega), hn]; omega)]
    cases F_345 x1 (Int32.toInt64 (I3 t)) g2 <;> rfl
  cases q : F_345 x1 (Int32.toInt64 (I3 t)) g2 with
  | none =>
    rw [q] at B
    have := lp_n (n := 1000000 - sz - 1) B
    rw [show 1000000 - sz - 1 + 1 = 1000000 - sz by omega] at this; exact this
  | some u => rw [q] at B; exact lp_e (by omega) B
theorem okV_new {h g : sm_H} (K : K1 h g) {k t : Nat} (k1 : 15 ≤ k) (hk : k < 20 + nC g) (k2 : k ≤ 17 ∨ 20 ≤ k) (t1 : t < nX g) (t96 : g.1 96 t = I3 k) : okV g k (I3 k) (I6 t) := Or.inr (Or.inr ⟨by omega, k, rfl, hk, B_self g 12 k, Or.inr (Or.inl ⟨by omega, t, t1, rfl, t96⟩)⟩)
theorem run_20 {rec : Int32 → Int32 → sm_H → Option (Int32 × sm_H)} {d fuel s x vp : Nat} {vs : List Val} {h0 g0 h g : sm_H} (IH : CallOK (d + 1) rec) (F : Fr d fuel s x vp vs h0 g0 h g 0 (s + 1)) (c63 : g.1 67 63 = 0) (c59 : g.1 67 59 = I3 (vp + vs.length)) (eh : sm_wI h0 49 8 (h0.1 49 8 + 1) = h) (lf : h0.1 49 8 < h0.1 49 7) (f : fm g0 x = 20) : Ends d fuel s vp (tn (hrs g0 x)) h0 g0 0 (F_82R rec (I3 x) (I3 d) h0) g := by
  have d1 := F.d1
  have v10 := F.v10
  have x500 := F.x500
  have vl := F.vl
  have vx := F.vx
  have fs := F.fs0
  rw [f] at fs
  have C := B82_20 (rec := rec) (x1 := I3 x) (x2 := I3 d) (by rw [I3_lit, I3_lt (by omega) (by decide)]; omega) lf eh (f ▸ F.f37)
  rw [C]
  have R := B370_20 F.c56 F.l103 F.l105 F.l305 F.l77 F.l78 F.l81 F.l81' (f ▸ F.l75)
  obtain ⟨ep, k, k1, k2, ea, -, r20, -, -⟩ := FS_20 fs
  obtain ⟨er, el⟩ := r20 rfl
  have K := F.m.k
  have h12 := K.1.2.1
  have x1000 := nX_1000 K
  have wX := K.2.2.2.2.2.2.2.2.2.2.2.1
  have cXq := K.2.2.2.2.2.2.2.2.2.2.2.2.1
  have cXhq := K.2.2.2.2.2.2.2.2.2.2.2.2.2.1
  have v0 : 0 < vs.length := by rw [vx, el]; exact Nat.zero_lt_succ _
  have ok0 := F.ty.2 0 v0
  rw [el, show at0 [(5 : Int32)] 0 = 5 from rfl, show tn (5 : Int32) = 5 from rfl] at ok0
  obtain ⟨-, n5⟩ := okV_6 (by decide) (by decide) ok0
  have n5 := n5.2.2.2.2 rfl
  generalize hn : (atv vs 0).2 = n at *
  have c0 : F_77 (I3 d) 0 h = some (n, h) := by have := F.c77 (i := 0) v0; rw [hn] at this; exact this
  have r0 : F_352 0 g = some (n, g) := by have := F.k352 (i := 0) v0; rw [hn] at this; exact this
  have e0 : (0 : Int64).toInt = 0 := rfl
  have e100 : (100 : Int64).toInt = 100 := rfl
  have eR : Int32.toInt64 (Int64.toInt32 n) = n := nar_id (k := 5) (by decide) (by decide) (n := n) ⟨fun z => by (cases z), fun z => by (cases z), fun z => by (cases z), fun z => by (cases z), fun _ => n5⟩
  have en : (Int64.toInt32 n).toInt = n.toInt := by rw [← toI64, eR]
  have C0 := B102_20 (x2 := I3 d) F.f38 (f ▸ F.f37)
  rw [c0, ea] at C0; simp only [obs] at C0
  rw [bind_id, show F_107 (I3 k) (Int64.toInt32 n) h = F_107_0 (I3 k) (Int64.toInt32 n) h from rfl] at C0
  unfold F_107_0 F_107_35 at C0
  have CC : ∀ r, F_102 (I3 x) (I3 d) h = r → F_82_367 rec (I3 x) (I3 d) h = r := fun r e => by unfold F_82_367; rw [bind_id, e]
  rw [bind_id1, ea, show F_359 (I3 k) g = F_359_0 (I3 k) g from rfl] at R
  unfold F_359_0 at R
  rw [r0] at R; simp only [obs] at R
  by_cases q0 : 0 ≤ n.toInt
  · rw [if_pos (by rw [Int32.le_iff_toInt_le, en]; exact q0)] at C0
    rw [if_pos (by rw [cmp_ge, e0]; exact q0)] at R
    by_cases q1 : n.toInt ≤ 100
    · obtain ⟨sz, hsz⟩ : ∃ sz : Nat, n.toInt = sz := ⟨n.toInt.toNat, by omega⟩
      have ei : Int64.toInt32 n = I3 sz := by rw [← Int32.toInt_inj, en, I3_toInt (by omega), hsz]
      rw [ei] at C0 R
      rw [if_pos (by rw [cmp_le, e100]; exact q1)] at R
      by_cases q2 : nX g < 1000
      · obtain ⟨h1, a1, N1, z1⟩ := C_new1 (h := h) (t := nX g) (sz := sz) q2 (by omega) (cXq.1.trans wX.1.1) cXhq.1
        obtain ⟨b0, g1, b1, N2, z2⟩ := R_new (k := k) (sz := sz) wX.1 q2 (by omega)
        rw [a1] at C0; simp only [obs] at C0
        rw [if_neg (I3_m1 (by omega))] at C0
        rw [b0] at R; simp only [obs] at R
        rw [if_pos trivial, b1] at R; simp only [obs] at R
        rw [R_elem g1 k1 k2] at R; simp only [obs] at R
        rw [R_zero (by omega)] at R; simp only [obs] at R
        have N3 := N2.s48 (zk (I3 (k - 10))) 0
        obtain ⟨g2, f1, N4, f2⟩ := R_fill (v := (zk (I3 (k - 10)), 0)) N3 q2 (show sz ≤ 100 by omega) rfl rfl (I3 k) n hsz
        rw [f1] at R
        have F1 := Fr_48' F (zk (I3 (k - 10))) 0
        have es : sz = if k < 20 then sz else 24 := by rw [if_pos (by omega)]
        obtain ⟨K', w1, w2, w3, w4⟩ := T_new F1.m.k q2 k1 (by show k < 20 + nC g; omega) (show sz ≤ 100 by omega) (show sz ≤ 100 by omega) N1 N4 es (fun i hi => by
          show h1.2.1 (132 + 3 * nX g) i = g2.2.1 99 (100 * nX g + i) ∧ h1.1 (133 + 3 * nX g) i = tag (g2.1 98 (100 * nX g + i))
          rw [(z1 i).1, (z1 i).2, (f2 i hi).1, (f2 i hi).2, tag_zk]; exact ⟨rfl, rfl⟩) (Or.inl ⟨k2, fun i hi => by
          show okV _ (k - 10) (g2.1 98 (100 * nX g + i)) (g2.2.1 99 (100 * nX g + i))
          rw [(f2 i hi).1, (f2 i hi).2]; exact okV_zk (by omega)⟩)
        have F2 := Fr_th F1 K' w1 w2 w3
        have nC2 : nC g2 = nC g := by show tn _ = tn _; rw [w2.1 67 6 (by unfold SRx; omega)]; rfl
        obtain ⟨u, h', e1, e2, e3⟩ := Fr_give (rk := k) F2 (I3 k) (I6 (nX g)) (okV_new K' k1 (by omega) (Or.inl k2) (by show nX g < nX g2; rw [w4]; exact Nat.lt_succ_self _) N4.e96)
        rw [tag_I (by omega) (by omega)] at e2
        rw [I3_64 (by omega), e2] at C0; simp only [obs] at C0
        rw [CC _ C0, er, ea, tnI (by omega)]
        refine Ends_step (step_enter (by omega) F.c64 F.c56 c63 ?_) e3
        rw [R, I3_64 (by omega), e1]
      · have q3 : nX g = 1000 := by omega
        rw [C_new0 (by omega) (by rw [cXq.1, wX.1.1]; show I3 (nX g) = _; rw [q3])] at C0; simp only [obs] at C0
        rw [R_new0 wX.1 q3] at R; simp only [obs] at R
        rw [if_pos trivial] at C0
        rw [if_neg (by decide)] at R
        rw [CC _ C0]
        exact Ends_step (step_enter (by omega) F.c64 F.c56 c63 R) (Fr_full F)
    · rw [if_neg (by rw [cmp_le, e100]; exact q1)] at R
      have C1 : F_146 (Int64.toInt32 n) h = some (-1, h) := by
        show F_146_0 (Int64.toInt32 n) h = _
        unfold F_146_0
        rw [if_neg (by rw [Int32.lt_iff_toInt_lt, en, show (0 : Int32).toInt = 0 from rfl]; omega), if_pos (by rw [Int32.lt_iff_toInt_lt, en, show (100 : Int32).toInt = 100 from rfl]; omega)]; rfl
      rw [C1] at C0; simp only [obs] at C0
      rw [if_pos trivial] at C0
      rw [CC _ C0]
      exact Ends_step (step_enter (by omega) F.c64 F.c56 c63 R) (Fr_full F)
  · rw [if_neg (by rw [Int32.le_iff_toInt_le, en]; exact q0)] at C0
    rw [if_neg (by rw [cmp_ge, e0]; exact q0)] at R
    obtain ⟨u, h', f1, f2, f3⟩ := Fr_fail (rk := tn (hrs g0 x)) F 4
    rw [f2] at C0; simp only [obs] at C0
    rw [CC _ C0]
    refine Ends_step (step_enter (by omega) F.c64 F.c56 c63 ?_) f3
    rw [R, f1]; rfl
