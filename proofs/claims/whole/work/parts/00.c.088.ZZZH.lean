def frmO (h : sm_H) (d o : Nat) (us : List Val) : Prop := ∀ i, i < us.length → h.2.1 50 (16 * d + (o + i)) = (atv us i).2 ∧ h.1 51 (16 * d + (o + i)) = tag (atv us i).1
theorem frmO_agr {h h' : sm_H} {d d' o : Nat} {us : List Val} (F : frmO h d o us) (a : agr (SL d') h h') (l : o + us.length ≤ 16) (ne : d ≠ d') : frmO h' d o us := fun i hi => by
  rw [a.2.1 50 _ (by unfold SL; omega), a.1 51 _ (by unfold SL; omega)]
  exact F i hi
theorem C_lendO {h h' : sm_H} {d o i n : Nat} {us ws : List Val} (L : Ly h h' (d + 1) ws) (F : frmO h d o us) (hd : d < 100) (u16 : o + us.length ≤ 16) (hi : i + n ≤ us.length) (hw : ws.length + n ≤ 16) : ∃ h2, F_80 (I3 d) (I3 (o + i)) (I3 ws.length) (I3 n) h' = some h2 ∧ Ly h h2 (d + 1) (ws ++ sub us i n) := by
  have LL := lp_ex (body := F_80_3B) (P := fun k s => s.1 = I3 d ∧ s.2.1 = I3 (o + i) ∧ s.2.2.1 = I3 ws.length ∧ s.2.2.2.1 = I3 n ∧ s.2.2.2.2.1 = I3 k ∧ Ly h s.2.2.2.2.2 (d + 1) (ws ++ sub us i k)) (Q := fun h2 => Ly h h2 (d + 1) (ws ++ sub us i n)) n (fun k s hk p1 => ?_) (fun s p1 => ?_) (I3 d, I3 (o + i), I3 ws.length, I3 n, 0, h') 1000000 ⟨rfl, rfl, rfl, rfl, rfl, by rw [sub_0, List.append_nil]; exact L⟩ (by omega)
  · obtain ⟨h2, e1, e2⟩ := LL
    exact ⟨h2, e1, e2⟩
  · obtain ⟨s1, s2, s3, s4, s5, s6⟩ := s
    obtain ⟨p1, p2, p3, p4, p5, p6⟩ := p1
    have p1 : s1 = I3 d := p1
    have p2 : s2 = I3 (o + i) := p2
    have p3 : s3 = I3 ws.length := p3
    have p4 : s4 = I3 n := p4
    have p5 : s5 = I3 k := p5
    have p6 : Ly h s6 (d + 1) (ws ++ sub us i k) := p6
    subst p1 p2 p3 p4 p5
    have sl : (sub us i k).length = k := sub_len (by omega)
    have wl : (ws ++ sub us i k).length = ws.length + k := by rw [List.length_append, sl]
    have F6 : s6.2.1 50 (16 * d + (o + i + k)) = (atv us (i + k)).2 ∧ s6.1 51 (16 * d + (o + i + k)) = tag (atv us (i + k)).1 := by
      have z := frmO_agr F p6.a u16 (by omega) (i + k) (by omega)
      rw [← Nat.add_assoc o i k] at z; exact z
    obtain ⟨h2, c1, c2⟩ := C_lay1 p6 (by omega) (by omega) (atv us (i + k))
    refine Or.inl ⟨(I3 d, I3 (o + i), I3 ws.length, I3 n, I3 (k + 1), h2), ?_, rfl, rfl, rfl, rfl, rfl, ?_⟩
    · show F_80_3B (I3 d, I3 (o + i), I3 ws.length, I3 n, I3 k, s6) = _
      unfold F_80_3B
      rw [if_neg (by rw [I3_le (by omega) (by omega)]; omega), if_neg (by rw [I3_lit, I3_le (by decide) (by omega)]; omega), I3_add, C_num (by omega) (by omega)]; simp only [obs]
      rw [C_tg (by omega) (by omega)]; simp only [obs]
      rw [F6.1, F6.2, show I3 d + 1 = I3 (d + 1) from I3_add d 1, I3_add, ← wl, c1]; simp only [obs]
      rw [show I3 k + 1 = I3 (k + 1) from I3_add k 1]
    · show Ly h h2 (d + 1) _
      rw [sub_succ (by omega), ← List.append_assoc]; exact c2
  · obtain ⟨s1, s2, s3, s4, s5, s6⟩ := s
    obtain ⟨p1, p2, p3, p4, p5, p6⟩ := p1
    have p4 : s4 = I3 n := p4
    have p5 : s5 = I3 n := p5
    subst p4 p5
    refine ⟨s6, ?_, p6⟩
    show F_80_3B (s1, s2, s3, I3 n, I3 n, s6) = _
    unfold F_80_3B
    rw [if_pos (by rw [I3_le (by omega) (by omega)]; omega)]; rfl
theorem C_lend0 {h : sm_H} (a b c : Int32) {n : Int32} (hn : n ≤ 0) : F_80 a b c n h = some h := by
  show lp F_80_3B 1000000 (a, b, c, n, 0, h) = _
  refine lp_e (by decide) ?_
  unfold F_80_3B
  rw [if_pos hn]; rfl
theorem sub_cat1 {us vs : List Val} {m : Nat} (h : m ≤ us.length) : sub (us ++ vs) 0 m = sub us 0 m := by
  unfold sub; rw [List.drop_zero, List.drop_zero, List.take_append_of_le_length h]
theorem sub_cat2 {us vs : List Val} {m : Nat} (h : us.length ≤ m) : sub (us ++ vs) 0 m = us ++ sub vs 0 (m - us.length) := by
  unfold sub; rw [List.drop_zero, List.drop_zero, List.take_append, List.take_of_length_le h]
abbrev LV (d vp : Nat) (ks : List Int32) (vs us : List Val) (h g : sm_H) : Prop := stk g (vp + vs.length) us ∧ frmO h d 10 us ∧ tyV g ks us ∧ g.1 106 d = I3 us.length
theorem sub_neg {a b : Nat} (h : a ≤ b) (hb : b < 2147483648) : I3 a - I3 b ≤ 0 := by
  have z0 : (0 : Int32).toInt = 0 := rfl
  rw [Int32.le_iff_toInt_le, Int32.toInt_sub, I3_toInt (by omega), I3_toInt (by omega), Int.bmod_eq_of_le (by omega) (by omega), z0]; omega
section
variable {d fuel s0 x vp p s : Nat} {vs : List Val} {h0 g0 h g : sm_H}
theorem C_lendR (F : Fr d fuel s0 x vp vs h0 g0 h g p s) {us : List Val} (V : frmO h d 10 us) (u4 : us.length ≤ 6) {y : Nat} (y1 : y < nH g0) (l : (hpl g0 y).length ≤ us.length + vs.length) : ∃ h2, F_98 (I3 y) (I3 us.length) (I3 d) h = some h2 ∧ Ly h h2 (d + 1) (sub (us ++ vs) 0 (hpl g0 y).length) := by
  have d1 := F.d1
  have v10 := F.v10
  have n10 := F.n10 y1
  have C0 : F_98 (I3 y) (I3 us.length) (I3 d) h = F_98_0 (I3 y) (I3 us.length) (I3 d) h := rfl
  unfold F_98_0 at C0
  rw [F.cmn y1] at C0; simp only [obs] at C0
  by_cases q : (hpl g0 y).length < us.length
  · obtain ⟨h1, a1, L1⟩ := C_lendO (o := 10) (i := 0) (n := (hpl g0 y).length) (Ly_0 h (d + 1)) V d1 (by omega) (by omega) (by simp only [List.length_nil]; omega)
    rw [if_pos (by rw [I3_lt (by omega) (by omega)]; exact q), show F_80 (I3 d) 10 0 (I3 (hpl g0 y).length) h = some h1 from a1] at C0; simp only [obs] at C0
    rw [C_lend0 _ _ _ (sub_neg (by omega) (by omega))] at C0; simp only [obs] at C0
    refine ⟨h1, C0, ?_⟩
    rw [sub_cat1 (by omega)]; exact L1
  · obtain ⟨h1, a1, L1⟩ := C_lendO (o := 10) (i := 0) (n := us.length) (Ly_0 h (d + 1)) V d1 (by omega) (by omega) (by simp only [List.length_nil]; omega)
    rw [List.nil_append, sub_all] at L1
    obtain ⟨h2, a2, L2⟩ := C_lend (i := 0) (n := (hpl g0 y).length - us.length) L1 F.fr d1 (by omega) (by omega) (by omega)
    rw [if_neg (by rw [I3_lt (by omega) (by omega)]; exact q), show F_80 (I3 d) 10 0 (I3 us.length) h = some h1 from a1] at C0; simp only [obs] at C0
    rw [I3_sub (by omega), show F_80 (I3 d) 0 (I3 us.length) (I3 ((hpl g0 y).length - us.length)) h1 = some h2 from a2] at C0; simp only [obs] at C0
    refine ⟨h2, C0, ?_⟩
    rw [sub_cat2 (by omega)]; exact L2
theorem R_lendR (F : Fr d fuel s0 x vp vs h0 g0 h g p s) {us : List Val} (c59 : g.1 67 59 = I3 (vp + vs.length + us.length)) (V : stk g (vp + vs.length) us) (c106 : g.1 106 d = I3 us.length) (u4 : us.length ≤ 6) {y : Nat} (y1 : y < nH g0) (l : (hpl g0 y).length ≤ us.length + vs.length) : ∃ g2, F_373 (I3 y) g = some g2 ∧ Ph g g2 (vp + vs.length + us.length) (sub (us ++ vs) 0 (hpl g0 y).length) := by
  have d1 := F.d1
  have v10 := F.v10
  have vl := F.vl
  have n10 := F.n10 y1
  have l106 : ldI g 106 100 (I3 d) = some (I3 us.length) := by rw [ldI_I d1 (by decide), c106]
  have C0 : F_373 (I3 y) g = F_373_0 (I3 y) g := rfl
  unfold F_373_0 at C0
  simp only [obs] at C0
  rw [F.c56, show I3 (d + 1) - 1 = I3 d from I3_sub (a := d + 1) (b := 1) (by omega), F.l105] at C0; simp only [obs] at C0
  rw [F.l103] at C0; simp only [obs] at C0
  rw [F.l305] at C0; simp only [obs] at C0
  rw [F.mn y1] at C0; simp only [obs] at C0
  rw [l106] at C0; simp only [obs] at C0
  have fin : ∀ k, k ≤ us.length → k ≤ (hpl g0 y).length → (hpl g0 y).length - k ≤ vs.length → ∃ g2, F_373_54 (I3 d) (I3 vp + I3 vs.length) (I3 (hpl g0 y).length) (I3 k) g = some g2 ∧ Ph g g2 (vp + vs.length + us.length) (sub us 0 k ++ sub vs 0 ((hpl g0 y).length - k)) := fun k k1 k2 k3 => by
    obtain ⟨g1, b1, P1⟩ := R_copy (i := 0) (n := k) (Ph_0 c59) V (Nat.le_refl _) (by omega) (by simp only [List.length_nil]; omega)
    rw [List.nil_append] at P1
    have sl : (sub us 0 k).length = k := sub_len (by omega)
    obtain ⟨g2, b2, P2⟩ := R_copy (i := 0) (n := (hpl g0 y).length - k) P1 F.st (by omega) (by omega) (by omega)
    have F1 := Fr_Ph F (by omega) P1
    refine ⟨g2, ?_, P2⟩
    unfold F_373_54
    rw [I3_add, I3_add, show F_343 (I3 (vp + vs.length)) (I3 (vp + vs.length + k)) g = some g1 from b1]; simp only [obs]
    rw [F1.l105]; simp only [obs]
    rw [I3_add, I3_sub (by omega), show vp + (hpl g0 y).length - k = vp + 0 + ((hpl g0 y).length - k) by omega, show F_343 (I3 vp) (I3 (vp + 0 + ((hpl g0 y).length - k))) g1 = some g2 from b2]; simp only [obs]
  by_cases q : us.length ≤ (hpl g0 y).length
  · obtain ⟨g2, e1, e2⟩ := fin us.length (Nat.le_refl _) q (by omega)
    rw [if_pos (by rw [I3_le (by omega) (by omega)]; exact q)] at C0
    refine ⟨g2, C0.trans e1, ?_⟩
    rw [sub_cat2 q]; rw [sub_all] at e2; exact e2
  · obtain ⟨g2, e1, e2⟩ := fin (hpl g0 y).length (by omega) (Nat.le_refl _) (by omega)
    rw [if_neg (by rw [I3_le (by omega) (by omega)]; exact q)] at C0
    refine ⟨g2, C0.trans e1, ?_⟩
    rw [sub_cat1 (by omega)]; rw [Nat.sub_self, sub_0, List.append_nil] at e2; exact e2
theorem midL {rec : Int32 → Int32 → sm_H → Option (Int32 × sm_H)} (IH : CallOK (d + 1) rec) (F : Fr d fuel s0 x vp vs h0 g0 h g p s) {h' g' : sm_H} {y T : Nat} {ws : List Val} (st : Int32) (y1 : y < nH g0) (t1 : vp + vs.length ≤ T) (t2 : T ≤ vp + vs.length + 10) (L : Ly h h' (d + 1) ws) (P : Ph g g' T ws) (tw : tyV g (hpl g0 y) ws) {rk : Nat} {k : Int32 × sm_H → Option (Int32 × sm_H)}
    (ne : st ≠ 1) (stop : ∀ o h1, 1 ≤ o → o ≤ 4 → k (I3 o, h1) = some (I3 o, h1))
    (go : ∀ h1 g1 p1 s1, s < s1 → Fr d fuel s0 x vp vs h0 g0 h1 g1 p1 s1 → g1.1 67 59 = I3 T → g1.1 67 63 = 1 → g1.1 67 62 = I3 0 → g1.1 104 d = st → g1.1 107 d = g.1 107 d → res h1 g1 0 (tn (hrs g0 y)) → (∀ ks us, vp + vs.length + us.length ≤ T → us.length ≤ 6 → LV d vp ks vs us h g → LV d vp ks vs us h1 g1) → Ends d fuel s0 vp rk h0 g0 p1 (k (0, h1)) g1) :
    ∃ u, F_350 (I3 y) st g' = some u ∧ Ends d fuel s0 vp rk h0 g0 (p + 1) ((rec (I3 y) (I3 (d + 1)) h').bind k) u := by
  have F1 := Fr_Ph (Fr_Ly F L) t1 P
  have a : agr (SG d (vp + vs.length)) g' (sm_wI g' 104 d st) := agr_wI agr_rfl (by unfold SG; omega)
  have F' := Fr_g F1 a
  have y1' : y < nH (sm_wI g' 104 d st) := by rw [m_nH F'.ar]; exact y1
  have v10 := F.v10
  have vl := F.vl
  have d1 := F.d1
  have tg : ∀ ks us, tyV g ks us → tyV (sm_wI g' 104 d st) ks us := fun ks us t => tyV_grow F1.m.k.1 (grow_N (agr_mono (SG_N _ _) a)) (tyV_Ph F P t)
  obtain ⟨u, e1, e2⟩ := IH h' (sm_wI g' 104 d st) fuel s y T ws F'.m y1' F'.c56 P.n F'.c64 (by omega) (by rw [m_hpl F'.ar]; exact tg _ _ tw) L.f P.s
  obtain ⟨out, h1, g1, c, s1, o1, o2, o3, o4, o5, o6, o7, o8, o9⟩ := e2
  have b := F.b
  have lt := F.lt
  refine ⟨u, ?_, ?_⟩
  · show F_350_0 (I3 y) st g' = _
    unfold F_350_0
    rw [F1.c56, show I3 (d + 1) - 1 = I3 d from I3_sub (a := d + 1) (b := 1) (by omega), stI_I F.d1 (by decide)]; simp only [obs]
    rw [e1]; simp only [obs]
  rw [o1]; simp only [obs]
  rcases o9 with ⟨q1, q2, q3, q4, q5, q6, q7, q8, q9⟩ | ⟨q1, q2, q3, q4⟩
  · have FN : Fr d fuel s0 x vp vs h0 g0 h1 g1 (p + 1 + c) s1 := by
      refine ⟨o3, by omega, by omega, F.d1, F.x1, q3, (q8.1 103 d (by decide) (by decide) (by omega)).trans F'.c103, (q8.1 105 d (by decide) (by decide) (by omega)).trans F'.c105, q5, vl, tyV_grow F'.m.k.1 o7 F'.ty, fun i hi => ?_, fun i hi => ?_, agr3_trans F'.ac o5, agr_trans F'.ar o6, grow_trans F'.gr o7, keepC_trans F'.kc (keepC_mono o8 (by omega)), keepR_trans F'.kr (keepR_mono q8 (by omega) (by omega))⟩
      · have := o8 (16 * d + i) (by omega)
        rw [this.1, this.2]; exact F'.fr i hi
      · have := q8.2 (vp + i) (by omega)
        rw [this.1, this.2]; exact F'.st i hi
    have k104 : g1.1 104 d = st := by
      rw [q8.1 104 d (by decide) (by decide) (by omega)]
      show (if d = d then st else g'.1 104 d) = _; rw [if_pos rfl]
    refine Ends_lp o2 ?_
    rcases (show out = 0 ∨ out = 1 by omega) with rfl | rfl
    · refine go h1 g1 _ s1 (by omega) FN q4 q6 q7 k104 ?_ (by rw [← m_hrs F'.ar]; exact q9) (fun ks us t3 t4 V => ⟨fun i hi => ?_, fun i hi => ?_, tyV_grow F'.m.k.1 o7 (tg _ _ V.2.2.1), ?_⟩)
      · rw [q8.1 107 d (by decide) (by decide) (by omega)]
        show g'.1 107 d = _
        exact P.a.1 107 d (by unfold SP; omega)
      · have z := q8.2 (vp + vs.length + i) (by omega)
        rw [z.1, z.2]
        exact stk_agr V.1 P.a t3 i hi
      · have z := o8 (16 * d + (10 + i)) (by omega)
        rw [z.1, z.2]
        exact frmO_agr V.2.1 L.a (by omega) (by omega) i hi
      · rw [q8.1 106 d (by decide) (by decide) (by omega)]
        show g'.1 106 d = _
        rw [P.a.1 106 d (by unfold SP; omega)]; exact V.2.2.2
    · rw [stop 1 _ (by decide) (by decide)]
      exact thru FN (Nat.le_refl 1) q6 q7 ⟨q9.1, q9.2.1, fun z => by (cases z), q9.2.2.2⟩ (fun z => by cases z) (fun _ => Or.inl (by rw [k104]; exact ne))
  · rw [stop out _ (by omega) q2]
    exact ⟨out, h1, g1, c, s1, rfl, o2, o3, by omega, agr3_trans F'.ac o5, agr_trans F'.ar o6, grow_trans F'.gr o7, keepC_trans F'.kc (keepC_mono o8 (by omega)), Or.inr ⟨q1, q2, by omega, q4⟩⟩
theorem Fr.f42 (F : Fr d fuel s0 x vp vs h0 g0 h g p s) : F_42 (I3 x) h = some (I3 (prt g0 x).length, h) := by
  rw [prt_len, ← m_pm F.ar]
  have z := C_partsOf F.m.k.2.2.2.2.1 F.m.k.2.2.2.2.2.1 F.hx
  rw [(F.m.k.2.2.2.2.1.2 x F.hx).2.2.2.1] at z; exact z
theorem Fr.l80 (F : Fr d fuel s0 x vp vs h0 g0 h g p s) : ldI g 80 500 (I3 x) = some (I3 (prt g0 x).length) := by
  rw [prt_len, ← m_pm F.ar, ldI_I F.x500 (by decide), (F.m.k.2.2.2.2.1.2 x F.hx).2.2.2.1]
theorem Fr.q0 (F : Fr d fuel s0 x vp vs h0 g0 h g p s) {i : Nat} (hk : 4 * i < (prt g0 x).length) : ldI g 81 12000 (24 * I3 x + 4 * I3 i) = some (pt (prt g0 x) i 0) := by
  have := F.x500
  have p24 : (prt g0 x).length ≤ 20 := by rw [prt_len, ← m_pm F.ar]; exact (F.m.k.2.2.2.2.1.2 x F.hx).2.2.2.2
  rw [show (24 : Int32) * I3 x + 4 * I3 i = I3 (24 * x + (4 * i + 0)) by rw [I3_lit, I3_lit, I3_mul, I3_mul, I3_add]; rfl, F.l81k (by omega), F.at81 (by omega)]
theorem Fr.q1 (F : Fr d fuel s0 x vp vs h0 g0 h g p s) {i : Nat} (hk : 4 * i + 1 < (prt g0 x).length) : ldI g 81 12000 (24 * I3 x + 4 * I3 i + 1) = some (pt (prt g0 x) i 1) := by
  have := F.x500
  have p24 : (prt g0 x).length ≤ 20 := by rw [prt_len, ← m_pm F.ar]; exact (F.m.k.2.2.2.2.1.2 x F.hx).2.2.2.2
  rw [show (24 : Int32) * I3 x + 4 * I3 i + 1 = I3 (24 * x + (4 * i + 1)) by rw [I3_lit, I3_lit, I3_lit, I3_mul, I3_mul, I3_add, I3_add]; rfl, F.l81k (by omega), F.at81 (by omega)]
theorem Fr.q2 (F : Fr d fuel s0 x vp vs h0 g0 h g p s) {i : Nat} (hk : 4 * i + 2 < (prt g0 x).length) : ldI g 81 12000 (24 * I3 x + 4 * I3 i + 2) = some (pt (prt g0 x) i 2) := by
  have := F.x500
  have p24 : (prt g0 x).length ≤ 20 := by rw [prt_len, ← m_pm F.ar]; exact (F.m.k.2.2.2.2.1.2 x F.hx).2.2.2.2
  rw [show (24 : Int32) * I3 x + 4 * I3 i + 2 = I3 (24 * x + (4 * i + 2)) by rw [I3_lit, I3_lit, I3_lit, I3_mul, I3_mul, I3_add, I3_add]; rfl, F.l81k (by omega), F.at81 (by omega)]
theorem Fr.q3 (F : Fr d fuel s0 x vp vs h0 g0 h g p s) {i : Nat} (hk : 4 * i + 3 < (prt g0 x).length) : ldI g 81 12000 (24 * I3 x + 4 * I3 i + 3) = some (pt (prt g0 x) i 3) := by
  have := F.x500
  have p24 : (prt g0 x).length ≤ 20 := by rw [prt_len, ← m_pm F.ar]; exact (F.m.k.2.2.2.2.1.2 x F.hx).2.2.2.2
  rw [show (24 : Int32) * I3 x + 4 * I3 i + 3 = I3 (24 * x + (4 * i + 3)) by rw [I3_lit, I3_lit, I3_lit, I3_mul, I3_mul, I3_add, I3_add]; rfl, F.l81k (by omega), F.at81 (by omega)]
theorem Fr.cvk (F : Fr d fuel s0 x vp vs h0 g0 h g p s) {ps : List Int32} {n i : Nat} (L : LPt g0 ps n) (hi : i < n) : F_47 (pt ps i 0) (pt ps i 1) h = some (vk g0 ps i, h) := by
  have L' : LPt g ps n := ⟨L.l, L.n0, L.n4, fun i z hi hz => by rw [m_nH F.ar]; exact L.h i z hi hz⟩
  rw [C_vk F.m.k L' hi]
  unfold vk
  rw [m_hrs F.ar, m_hrs F.ar]
theorem Fr.rvk (F : Fr d fuel s0 x vp vs h0 g0 h g p s) {ps : List Int32} {n i : Nat} (L : LPt g0 ps n) (hi : i < n) : F_332 (pt ps i 0) (pt ps i 1) g = some (vk g0 ps i, g) := by
  show F_332_0 (pt ps i 0) (pt ps i 1) g = _
  unfold F_332_0 vk F_332_27
  refine L.c hi (show 1 < 4 by omega) (fun z => ?_) (fun y y1 y2 y3 y4 => ?_)
  · rw [if_pos z, if_neg (not_not_intro (show at0 ps (4 * i + 1) = -1 from z))]
    refine L.c hi (show 0 < 4 by omega) (fun e0 => ?_) (fun y y1 y2 y3 y4 => ?_)
    · rw [if_neg (not_not_intro (show at0 ps (4 * i) = -1 from e0)), if_pos e0]
    · rw [if_pos (show at0 ps (4 * i) ≠ -1 from y4), show tn (at0 ps (4 * i)) = y from y3, if_neg y4, y2, F.rs y1]; rfl
  · rw [if_neg y4, if_pos (show at0 ps (4 * i + 1) ≠ -1 from y4), show tn (at0 ps (4 * i + 1)) = y from y3, y2, F.rs y1]; rfl
theorem go_20 (F : Fr d fuel s0 x vp vs h0 g0 h g p s) (c62 : g.1 67 62 = I3 0) {st : Int32} (c104 : g.1 104 d = st) (e : st = 20 ∨ st = 21 ∨ st = 22) : F_377 g = F_376 (I3 d) (I3 x) (sm_wI g 67 63 0) := by
  show F_377_0 g = _
  unfold F_377_0
  simp only [obs]
  rw [F.c56, show I3 (d + 1) - 1 = I3 d from I3_sub (a := d + 1) (b := 1) (by omega), F.l103]; simp only [obs]
  rw [F.l105]; simp only [obs]
  rw [F.l305]; simp only [obs]
  rw [F.l77]; simp only [obs]
  rw [F.l81]; simp only [obs]
  rw [F.l81']; simp only [obs]
  rw [if_pos (show (sm_wI g 67 63 0).1 67 62 = 0 from c62), ldI_I F.d1 (by decide), show (sm_wI g 67 63 0).1 104 d = g.1 104 d from rfl, c104]; simp only [obs]
  rcases e with rfl | rfl | rfl
  · simp (decide := true) only [if_true, if_false]
    show (F_376 (I3 d) (I3 x) (sm_wI g 67 63 0)).bind some = _
    cases F_376 (I3 d) (I3 x) (sm_wI g 67 63 0) <;> rfl
  · simp (decide := true) only [if_true, if_false]
    show (F_376 (I3 d) (I3 x) (sm_wI g 67 63 0)).bind some = _
    cases F_376 (I3 d) (I3 x) (sm_wI g 67 63 0) <;> rfl
  · simp (decide := true) only [if_true, if_false]
    show (F_376 (I3 d) (I3 x) (sm_wI g 67 63 0)).bind some = _
    cases F_376 (I3 d) (I3 x) (sm_wI g 67 63 0) <;> rfl
end
