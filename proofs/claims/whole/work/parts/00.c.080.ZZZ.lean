theorem tag_inj {g : sm_H} (wK : wfK g) {s : Nat} {v w : Val} (s1 : 1 ≤ s) (h : okV g s v.1 v.2) (k : okV g s w.1 w.2) : (v.2 = w.2 ∧ tag v.1 = tag w.1) ↔ w = v := by
  constructor
  · rintro ⟨e1, e2⟩
    refine Prod.ext ?_ e1.symm
    rcases (show s ≤ 6 ∨ 7 ≤ s by omega) with c | c
    · rw [(okV_6 s1 c h).1, (okV_6 s1 c k).1]
    · have t1 : tag v.1 = v.1 := by
        rcases okV_7 wK c h with ⟨z, z'⟩ | ⟨q, z1, z2, z3, z4, z5, z6, z7⟩
        · rw [z', z]
        · exact z6
      have t2 : tag w.1 = w.1 := by
        rcases okV_7 wK c k with ⟨z, z'⟩ | ⟨q, z1, z2, z3, z4, z5, z6, z7⟩
        · rw [z', z]
        · exact z6
      rw [← t1, ← t2, e2]
  · rintro rfl; exact ⟨rfl, rfl⟩
theorem ref_eq {g : sm_H} (wK : wfK g) {s : Nat} {v w : Val} (s1 : 1 ≤ s) (h : okV g s v.1 v.2) (k : okV g s w.1 w.2) (c : 7 ≤ s) (e1 : w.1 = 0) (e2 : v.1 = 0) : w = v := by
  rcases okV_7 wK c h with ⟨z, z'⟩ | ⟨q, z1, z2, z3, z4, z5, z6, z7⟩
  · rcases okV_7 wK c k with ⟨y, y'⟩ | ⟨q, y1, y2, y3, y4, y5, y6, y7⟩
    · rw [z, y]
    · exact absurd e1 y7
  · exact absurd e2 z7
def putR (g : sm_H) (st y2 : Nat) (v : Val) : sm_H := if st = 0 then sm_wJ (sm_wI g 98 y2 v.1) 99 y2 v.2 else sm_wJ (sm_wI g 100 y2 v.1) 101 y2 v.2
abbrev Cell (h g : sm_H) (o p q i sz y2 st s : Nat) (v0 : Val) : Prop := (isTh h o p q sz) ∧ (i < sz) ∧ (h.2.1 p i = v0.2 ∧ h.1 q i = tag v0.1) ∧ ((st = 0 ∧ y2 < 100000 ∧ g.1 98 y2 = v0.1 ∧ g.2.1 99 y2 = v0.2) ∨ (st = 1 ∧ y2 < 100 ∧ g.1 100 y2 = v0.1 ∧ g.2.1 101 y2 = v0.2)) ∧ (okV g s v0.1 v0.2) ∧ (∀ v : Val, okV g s v.1 v.2 → K1 (sm_wI (sm_wJ h p i v.2) q i (tag v.1)) (putR g st y2 v) ∧ agr3 SCx h (sm_wI (sm_wJ h p i v.2) q i (tag v.1)) ∧ agr SRx g (putR g st y2 v) ∧ grow g (putR g st y2 v))
theorem Cell.th {h g : sm_H} {o p q i sz y2 st s : Nat} {v0 : Val} (F_ : Cell h g o p q i sz y2 st s v0) : isTh h o p q sz := F_.1
theorem Cell.i1 {h g : sm_H} {o p q i sz y2 st s : Nat} {v0 : Val} (F_ : Cell h g o p q i sz y2 st s v0) : i < sz := F_.2.1
theorem Cell.c {h g : sm_H} {o p q i sz y2 st s : Nat} {v0 : Val} (F_ : Cell h g o p q i sz y2 st s v0) : h.2.1 p i = v0.2 ∧ h.1 q i = tag v0.1 := F_.2.2.1
theorem Cell.r {h g : sm_H} {o p q i sz y2 st s : Nat} {v0 : Val} (F_ : Cell h g o p q i sz y2 st s v0) : (st = 0 ∧ y2 < 100000 ∧ g.1 98 y2 = v0.1 ∧ g.2.1 99 y2 = v0.2) ∨ (st = 1 ∧ y2 < 100 ∧ g.1 100 y2 = v0.1 ∧ g.2.1 101 y2 = v0.2) := F_.2.2.2.1
theorem Cell.ok {h g : sm_H} {o p q i sz y2 st s : Nat} {v0 : Val} (F_ : Cell h g o p q i sz y2 st s v0) : okV g s v0.1 v0.2 := F_.2.2.2.2.1
theorem Cell.w {h g : sm_H} {o p q i sz y2 st s : Nat} {v0 : Val} (F_ : Cell h g o p q i sz y2 st s v0) : ∀ v : Val, okV g s v.1 v.2 → K1 (sm_wI (sm_wJ h p i v.2) q i (tag v.1)) (putR g st y2 v) ∧ agr3 SCx h (sm_wI (sm_wJ h p i v.2) q i (tag v.1)) ∧ agr SRx g (putR g st y2 v) ∧ grow g (putR g st y2 v) := F_.2.2.2.2.2
section
variable {h g : sm_H} {o p q i sz y2 st s : Nat} {v0 : Val}
theorem Cell.get (c : Cell h g o p q i sz y2 st s v0) (y1 y4 y5 : Int32) : F_360 y1 (I3 y2) (I3 st) y4 y5 g = F_360_40 y1 (I3 y2) (I3 st) y4 y5 v0.1 v0.2 g := by
  show F_360_0 y1 (I3 y2) (I3 st) y4 y5 g = _
  unfold F_360_0 F_360_19
  rcases c.r with ⟨rfl, r1, r2, r3⟩ | ⟨rfl, r1, r2, r3⟩
  · rw [if_pos (by decide), ldI_I r1 (by decide), r2]; simp only [obs]
    rw [if_pos (by decide), ldJ_I r1 (by decide), r3]; simp only [obs]
  · rw [if_neg (by decide), ldI_I r1 (by decide), r2]; simp only [obs]
    rw [if_neg (by decide), ldJ_I r1 (by decide), r3]; simp only [obs]
theorem Cell.put (c : Cell h g o p q i sz y2 st s v0) (y1 y6 y12 : Int32) (y7 : Int64) (v : Val) : F_360_168 y1 (I3 y2) (I3 st) y6 y7 v.1 v.2 y12 g = F_360_207 y1 y6 y7 y12 (putR g st y2 v) := by
  unfold F_360_168 putR
  rcases c.r with ⟨rfl, r1, r2, r3⟩ | ⟨rfl, r1, r2, r3⟩
  · rw [if_pos (by decide), stI_I r1 (by decide)]; simp only [obs]
    rw [stJ_I r1 (by decide)]; simp only [obs]; rw [if_pos trivial]
  · rw [if_neg (by decide), stI_I r1 (by decide)]; simp only [obs]
    rw [stJ_I r1 (by decide)]; simp only [obs]; rw [if_neg (by decide)]
theorem Cell.cas (wK : wfK g) (c : Cell h g o p q i sz y2 st s v0) (s1 : 1 ≤ s) {v : Val} (ok : okV g s v.1 v.2) : F_220 o (I3 i) v.2 (tag v.1) h = some (b2 (decide (v = v0)), h) := by
  have T := tag_inj wK s1 c.ok ok
  show F_220_0 o (I3 i) v.2 (tag v.1) h = _
  unfold F_220_0 F_220_24 F_220_25
  rw [if_neg (not_not_intro c.th.1), C_thnum c.th c.i1, c.c.1]; simp only [obs]
  by_cases e1 : v0.2 = v.2
  · rw [if_pos (by rw [cmp_eq]; exact e1), if_neg (not_not_intro c.th.1), C_thtag c.th c.i1, c.c.2]; simp only [obs]
    by_cases e2 : tag v0.1 = tag v.1
    · rw [if_pos e2, decide_eq_true (T.mp ⟨e1, e2⟩)]; rfl
    · rw [if_neg e2, decide_eq_false (fun z => e2 (T.mpr z).2)]; rfl
  · rw [if_neg (by rw [cmp_eq]; exact e1), decide_eq_false (fun z => e1 (T.mpr z).1)]; rfl
theorem Cell.rcas (wK : wfK g) (c : Cell h g o p q i sz y2 st s v0) (s1 : 1 ≤ s) (s2 : s < 1000) {v : Val} (ok : okV g s v.1 v.2) (y1 y5 : Int32) (y22 : y1 ≠ 22) {g' : sm_H} (k1 : F_351 y5 g = some (v.1, g)) (k2 : F_352 y5 g = some (v.2, g)) : F_360_40 y1 (I3 y2) (I3 st) (I3 s) y5 v0.1 v0.2 g = F_360_111 y1 (I3 y2) (I3 st) (I3 s) y5 v0.1 v0.2 v.1 v.2 (b2 (decide (v = v0))) g := by
  unfold F_360_40 F_360_106 F_360_88 F_360_110
  rw [if_neg y22, k1]; simp only [obs]
  rw [k2]; simp only [obs]
  rw [R_ref (by omega)]; simp only [obs]
  by_cases e : v = v0
  · rw [decide_eq_true e, if_pos (by rw [e]), if_pos (by rw [cmp_eq, e])]; rfl
  · rw [decide_eq_false e]
    have key : (if b2 (decide (7 ≤ s)) = 0 then F_360_111 y1 (I3 y2) (I3 st) (I3 s) y5 v0.1 v0.2 v.1 v.2 0 g else if v.1 = 0 then if v0.1 = 0 then F_360_111 y1 (I3 y2) (I3 st) (I3 s) y5 v0.1 v0.2 v.1 v.2 1 g else F_360_111 y1 (I3 y2) (I3 st) (I3 s) y5 v0.1 v0.2 v.1 v.2 0 g else F_360_111 y1 (I3 y2) (I3 st) (I3 s) y5 v0.1 v0.2 v.1 v.2 0 g) = F_360_111 y1 (I3 y2) (I3 st) (I3 s) y5 v0.1 v0.2 v.1 v.2 0 g := by
      by_cases c7 : 7 ≤ s
      · rw [decide_eq_true c7, if_neg (by decide)]
        by_cases z1 : v.1 = 0
        · rw [if_pos z1, if_neg (fun z2 => e (ref_eq wK s1 c.ok ok c7 z1 z2))]
        · rw [if_neg z1]
      · rw [decide_eq_false c7, if_pos (by decide)]
    by_cases e1 : v.1 = v0.1
    · rw [if_pos e1, if_neg (fun z => by rw [cmp_eq] at z; exact e (Prod.ext e1 z))]; exact key
    · rw [if_neg e1]; exact key
end
theorem bind_id0 {r : Option sm_H} : (r.bind fun q => F_360_253 q) = r := by cases r <;> rfl
section
variable {d fuel s0 x vp p s : Nat} {vs : List Val} {h0 g0 h g : sm_H}
theorem Fr_void (F : Fr d fuel s0 x vp vs h0 g0 h g p s) : ∃ u h', F_346 0 g = some u ∧ F_75 0 0 h = some (0, h') ∧ Ends d fuel s0 vp 0 h0 g0 (p + 1) (some (0, h')) u := by
  have a : agr (SG d (vp + vs.length)) g (sm_wJ (sm_wI g 67 48 0) 67 49 0) := agr_wJ (agr_wI agr_rfl (by unfold SG; omega)) (by unfold SG; omega)
  obtain ⟨u, h', e1, e2, e3⟩ := Fr_give (rk := 0) (Fr_g F a) 0 0 (Or.inr (Or.inl ⟨Or.inl rfl, rfl, rfl⟩))
  refine ⟨u, h', ?_, e2, e3⟩
  show F_346_0 0 g = _
  unfold F_346_0
  rw [show F_299 0 g = some (sm_wJ (sm_wI g 67 48 0) 67 49 0) from rfl]; simp only [obs]
  rw [show (sm_wJ (sm_wI g 67 48 0) 67 49 0).1 67 48 = 0 from rfl, show (sm_wJ (sm_wI g 67 48 0) 67 49 0).2.1 67 49 = 0 from rfl, e1]; simp only [obs]
theorem chg (F : Fr d fuel s0 x vp vs h0 g0 h g p s) {o pp qq i sz y2 st k : Nat} {v0 : Val} (ce : ∀ h, K1 h g → Cell h g o pp qq i sz y2 st k v0) (s1 : 1 ≤ k) (s2 : k < 20 + nC g) {w b : Nat} (w1 : 4 ≤ w) (w2 : w ≤ 8) (w8 : w = 8 → 2 ≤ k ∧ k ≤ 6) (b1 : b ≤ 2) (a1 : 5 ≤ w → b < vs.length ∧ okV g k (atv vs b).1 (atv vs b).2) (a2 : w = 7 → b + 1 < vs.length ∧ okV g k (atv vs (b + 1)).1 (atv vs (b + 1)).2) :
    ∃ u h', F_110 o (I3 i) (I3 w) (I3 k) (I3 d) (I3 b) h = some (0, h') ∧ F_360 (I3 (18 + w)) (I3 y2) (I3 st) (I3 k) (I3 b) g = some u ∧ Ends d fuel s0 vp (tn (chgR (I3 k) w)) h0 g0 (p + 1) (some (0, h')) u := by
  have d1 := F.d1
  have wK := F.m.k.1
  have h12 := wK.2.1
  have c := ce h F.m.k
  have ck : tn (I3 k) = k := tnI (by omega)
  have C0 : F_110 o (I3 i) (I3 w) (I3 k) (I3 d) (I3 b) h = F_110_0 o (I3 i) (I3 w) (I3 k) (I3 d) (I3 b) h := rfl
  unfold F_110_0 at C0
  rw [C_num (by omega) (by omega)] at C0; simp only [obs] at C0
  rw [C_tg (by omega) (by omega)] at C0; simp only [obs] at C0
  rw [if_neg (not_not_intro c.th.1), if_neg (not_not_intro c.th.1), C_thnum c.th c.i1, c.c.1] at C0; simp only [obs] at C0
  rw [if_neg (not_not_intro c.th.1), C_thtag c.th c.i1, c.c.2] at C0; simp only [obs] at C0
  have aF : agr (SC1 d) h (sm_wI (sm_wJ h 49 9 v0.2) 49 10 (tag v0.1)) := agr_wI (agr_wJ agr_rfl (by unfold SC1; omega)) (by unfold SC1; omega)
  have F1 := Fr_h F aF rfl
  rw [show F_75 v0.2 (tag v0.1) h = some (0, sm_wI (sm_wJ h 49 9 v0.2) 49 10 (tag v0.1)) from rfl] at C0; simp only [obs] at C0
  have c1 := ce _ F1.m.k
  rw [C0, c.get]
  generalize hh1 : sm_wI (sm_wJ h 49 9 v0.2) 49 10 (tag v0.1) = h1 at *
  have h19 : h1.2.1 49 9 = v0.2 := by rw [← hh1]; rfl
  have h110 : h1.1 49 10 = tag v0.1 := by rw [← hh1]; rfl
  rcases (show w = 4 ∨ w = 5 ∨ w = 6 ∨ w = 7 ∨ w = 8 by omega) with rfl | rfl | rfl | rfl | rfl
  · obtain ⟨u, e1, e2⟩ := Fr_pass (rk := k) F1 v0.1 v0.2 h19 h110 c.ok
    refine ⟨u, h1, ?_, ?_, ?_⟩
    · rw [if_neg (by decide), if_neg (by decide), if_pos (by decide)]; rfl
    · unfold F_360_40
      rw [if_pos (by decide), e1]; rfl
    · rw [show chgR (I3 k) 4 = I3 k from rfl, ck]; exact e2
  all_goals
    obtain ⟨b2', okb⟩ := a1 (by decide)
    have f77 : h.2.1 50 (16 * d + b) = (atv vs b).2 := (F.fr b b2').1
    have f78 : h.1 51 (16 * d + b) = tag (atv vs b).1 := (F.fr b b2').2
    rw [f77, f78]
    have RC := fun y1 y22 => Cell.rcas (g' := g) wK c s1 (by omega) okb y1 (I3 b) y22 (F.k351 b2') (F.k352 b2')
    rw [RC _ (by decide)]
    unfold F_360_111
  · obtain ⟨K', z1, z2, z3⟩ := c1.w (atv vs b) okb
    obtain ⟨u, h', e1, e2, e3⟩ := Fr_void (Fr_th F1 K' z1 z2 z3)
    refine ⟨u, h', ?_, ?_, e3⟩
    · rw [if_neg (by decide), if_neg (by decide), if_neg (by decide), if_neg (not_not_intro c1.th.1), C_thchg c1.th c1.i1]; simp only [obs]
      unfold F_110_143
      rw [if_pos (by decide), e2]; rfl
    · unfold F_360_139 F_360_157
      rw [if_neg (by decide), if_neg (by decide), if_neg (by decide), c.put]
      unfold F_360_207
      rw [if_pos (by decide), e1]; rfl
  · obtain ⟨K', z1, z2, z3⟩ := c1.w (atv vs b) okb
    have F2 := Fr_th F1 K' z1 z2 z3
    obtain ⟨u, e1, e2⟩ := Fr_pass (rk := k) F2 v0.1 v0.2 ((z1.2.1 49 9 (by unfold SCx; omega)).trans h19) ((z1.1 49 10 (by unfold SCx; omega)).trans h110) (okV_grow wK z3 c.ok)
    refine ⟨u, _, ?_, ?_, by rw [show chgR (I3 k) 6 = I3 k from rfl, ck]; exact e2⟩
    · rw [if_neg (by decide), if_neg (by decide), if_neg (by decide), if_neg (not_not_intro c1.th.1), C_thchg c1.th c1.i1]; simp only [obs]
      unfold F_110_143
      rw [if_neg (by decide)]; rfl
    · unfold F_360_139 F_360_157
      rw [if_neg (by decide), if_neg (by decide), if_neg (by decide), c.put]
      unfold F_360_207
      rw [if_neg (by decide), if_neg (by decide), e1]; rfl
  · obtain ⟨b3, okc⟩ := a2 rfl
    by_cases e : atv vs b = v0
    · rw [decide_eq_true e]
      obtain ⟨K', z1, z2, z3⟩ := c.w (atv vs (b + 1)) okc
      obtain ⟨u, h', e1, e2, e3⟩ := Fr_give (rk := 1) (Fr_th F K' z1 z2 z3) 1 1 (Or.inl ⟨by decide, by decide, rfl, ⟨fun _ => Or.inr rfl, fun z => by (cases z), fun z => by (cases z), fun z => by (cases z), fun z => by (cases z)⟩⟩)
      refine ⟨u, h', ?_, ?_, e3⟩
      · rw [if_pos (by decide), Cell.cas wK c s1 okb, decide_eq_true e]; simp only [obs]
        rw [if_neg (by decide), show I3 b + 1 = I3 (b + 1) from I3_add b 1, F.c77 b3]; simp only [obs]
        rw [F.c78 b3]; simp only [obs]
        rw [if_neg (not_not_intro c.th.1), C_thchg c.th c.i1]; simp only [obs]
        unfold F_110_67 F_110_78
        rw [if_neg (by decide), show F_75 1 0 _ = some (0, h') from e2]; rfl
      · rw [if_pos (by decide), show I3 b + 1 = I3 (b + 1) from I3_add b 1, F.k351 b3]; simp only [obs]
        rw [F.k352 b3]; simp only [obs]
        unfold F_360_139 F_360_157
        rw [if_neg (by decide), if_pos (by decide), if_neg (by decide), c.put]
        unfold F_360_207 F_360_239
        rw [if_neg (by decide), if_pos (by decide), if_neg (by decide), e1]; rfl
    · rw [decide_eq_false e]
      obtain ⟨u, h', e1, e2, e3⟩ := Fr_give (rk := 1) F 1 0 (Or.inl ⟨by decide, by decide, rfl, ⟨fun _ => Or.inl rfl, fun z => by (cases z), fun z => by (cases z), fun z => by (cases z), fun z => by (cases z)⟩⟩)
      refine ⟨u, h', ?_, ?_, e3⟩
      · rw [if_pos (by decide), Cell.cas wK c s1 okb, decide_eq_false e]; simp only [obs]
        rw [if_pos (by decide)]
        unfold F_110_67 F_110_78
        rw [if_pos (by decide), show F_75 0 0 h = some (0, h') from e2]; rfl
      · rw [if_pos (by decide), show I3 b + 1 = I3 (b + 1) from I3_add b 1, F.k351 b3]; simp only [obs]
        rw [F.k352 b3]; simp only [obs]
        unfold F_360_139 F_360_157
        rw [if_neg (by decide), if_pos (by decide), if_pos (by decide)]
        unfold F_360_207 F_360_239
        rw [if_neg (by decide), if_pos (by decide), if_pos (by decide), e1]; rfl
  · obtain ⟨k1, k2⟩ := w8 rfl
    obtain ⟨kb, nb⟩ := okV_6 s1 k2 okb
    have okn : okV g k (I3 k) (nar k (v0.2 + (atv vs b).2)) := Or.inl ⟨s1, k2, rfl, nar_ok _ _⟩
    obtain ⟨K', z1, z2, z3⟩ := c1.w (I3 k, nar k (v0.2 + (atv vs b).2)) okn
    have F2 := Fr_th F1 K' z1 z2 z3
    obtain ⟨u, e1, e2⟩ := Fr_pass (rk := k) F2 v0.1 v0.2 ((z1.2.1 49 9 (by unfold SCx; omega)).trans h19) ((z1.1 49 10 (by unfold SCx; omega)).trans h110) (okV_grow wK z3 c.ok)
    refine ⟨u, _, ?_, ?_, by rw [show chgR (I3 k) 8 = I3 k from rfl, ck]; exact e2⟩
    · rw [if_neg (by decide), if_pos (by decide), h19, C_nar _ (by omega)]; simp only [obs]
      have T := C_thchg c1.th c1.i1 (nar k (v0.2 + (atv vs b).2)) (tag (I3 k))
      rw [tag_p (by omega) k2] at T
      rw [if_neg (not_not_intro c1.th.1), T]; simp only [obs]
      unfold F_110_143
      rw [if_neg (by decide), tag_p (by omega) k2]; rfl
    · unfold F_360_139 F_360_157
      rw [if_neg (by decide), if_pos (by decide), Int64.add_comm, R_nar _ (by omega)]; simp only [obs]
      rw [if_neg (by decide), kb]
      have P := c.put 26 v0.1 (b2 (decide (atv vs b = v0))) v0.2 (I3 k, nar k (v0.2 + (atv vs b).2))
      rw [show F_360_168 (I3 (18 + 8)) (I3 y2) (I3 st) v0.1 v0.2 (I3 k) (nar k (v0.2 + (atv vs b).2)) (b2 (decide (atv vs b = v0))) g = _ from P]
      unfold F_360_207
      rw [if_neg (by decide), if_neg (by decide), e1]; rfl
end
