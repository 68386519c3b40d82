theorem tag_inj {g : sm_H} (wK : wfK g) {s : Nat} {v w : Val} (s1 : 1 ≤ s) (h : okV g s v.1 v.2) (k : okV g s w.1 w.2) : (v.2 = w.2 ∧ tag v.1 = tag w.1) ↔ w = v := by
  constructor
  · rintro ⟨e1, e2⟩
    refine Prod.ext ?_ e1.symm
    rcases (show s ≤ 6 ∨ 7 ≤ s by omega) with c | c
    · rw [(okV_6 s1 c h).1, (okV_6 s1 c k).1]
    · have t1 : tag v.1 = v.1 := by
        rcases okV_7 wK c h with ⟨z, z'⟩ | ⟨q, z1, z2, z3, z4, z5, z6, z7⟩
        · rw [z', z]
        · exact z6
      have t2 : tag w.1 = w.1 := by
        rcases okV_7 wK c k with ⟨z, z'⟩ | ⟨q, z1, z2, z3, z4, z5, z6, z7⟩
        · rw [z', z]
        · exact z6
      rw [← t1, ← t2, e2]
  · rintro rfl; exact ⟨rfl, rfl⟩
theorem ref_eq {g : sm_H} (wK : wfK g) {s : Nat} {v w : Val} (s1 : 1 ≤ s) (h : okV g s v.1 v.2) (k : okV g s w.1 w.2) (c : 7 ≤ s) (e1 : w.1 = 0) (e2 : v.1 = 0) : w = v := by
  rcases okV_7 wK c h with ⟨z, z'⟩ | ⟨q, z1, z2, z3, z4, z5, z6, z7⟩
  · rcases okV_7 wK c k with ⟨y, y'⟩ | ⟨q, y1, y2, y3, y4, y5, y6, y7⟩
    · rw [z, y]
    · exact absurd e1 y7
  · exact absurd e2 z7
def putR (g : sm_H) (st y2 : Nat) (v : Val) : sm_H := if st = 0 then sm_wJ (sm_wI g 98 y2 v.1) 99 y2 v.2 else sm_wJ (sm_wI g 100 y2 v.1) 101 y2 v.2
abbrev Cell (h g : sm_H) (o p q i sz y2 st s : Nat) (v0 : Val) : Prop := (isTh h o p q sz) ∧ (i < sz) ∧ (h.2.1 p i = v0.2 ∧ h.1 q i = tag v0.1) ∧ ((st = 0 ∧ y2 < 100000 ∧ g.1 98 y2 = v0.1 ∧ g.2.1 99 y2 = v0.2) ∨ (st = 1 ∧ y2 < 100 ∧ g.1 100 y2 = v0.1 ∧ g.2.1 101 y2 = v0.2)) ∧ (okV g s v0.1 v0.2) ∧ (∀ v : Val, okV g s v.1 v.2 → K1 (sm_wI (sm_wJ h p i v.2) q i (tag v.1)) (putR g st y2 v) ∧ agr3 SCx h (sm_wI (sm_wJ h p i v.2) q i (tag v.1)) ∧ agr SRx g (putR g st y2 v) ∧ grow g (putR g st y2 v))
theorem Cell.th {h g : sm_H} {o p q i sz y2 st s : Nat} {v0 : Val} (F_ : Cell h g o p q i sz y2 st s v0) : isTh h o p q sz := F_.1
theorem Cell.i1 {h g : sm_H} {o p q i sz y2 st s : Nat} {v0 : Val} (F_ : Cell h g o p q i sz y2 st s v0) : i < sz := F_.2.1
theorem Cell.c {h g : sm_H} {o p q i sz y2 st s : Nat} {v0 : Val} (F_ : Cell h g o p q i sz y2 st s v0) : h.2.1 p i = v0.2 ∧ h.1 q i = tag v0.1 := F_.2.2.1
theorem Cell.r {h g : sm_H} {o p q i sz y2 st s : Nat} {v0 : Val} (F_ : Cell h g o p q i sz y2 st s v0) : (st = 0 ∧ y2 < 100000 ∧ g.1 98 y2 = v0.1 ∧ g.2.1 99 y2 = v0.2) ∨ (st = 1 ∧ y2 < 100 ∧ g.1 100 y2 = v0.1 ∧ g.2.1 101 y2 = v0.2) := F_.2.2.2.1
theorem Cell.ok {h g : sm_H} {o p q i sz y2 st s : Nat} {v0 : Val} (F_ : Cell h g o p q i sz y2 st s v0) : okV g s v0.1 v0.2 := F_.2.2.2.2.1
theorem Cell.w {h g : sm_H} {o p q i sz y2 st s : Nat} {v0 : Val} (F_ : Cell h g o p q i sz y2 st s v0) : ∀ v : Val, okV g s v.1 v.2 → K1 (sm_wI (sm_wJ h p i v.2) q i (tag v.1)) (putR g st y2 v) ∧ agr3 SCx h (sm_wI (sm_wJ h p i v.2) q i (tag v.1)) ∧ agr SRx g (putR g st y2 v) ∧ grow g (putR g st y2 v) := F_.2.2.2.2.2
section
variable {h g : sm_H} {o p q i sz y2 st s : Nat} {v0 : Val}
theorem Cell.get (c : Cell h g o p q i sz y2 st s v0) (y1 y4 y5 : Int32) : F_360 y1 (I3 y2) (I3 st) y4 y5 g = F_360_40 y1 (I3 y2) (I3 st) y4 y5 v0.1 v0.2 g := by
  show F_360_0 y1 (I3 y2) (I3 st) y4 y5 g = _
  unfold F_360_0 F_360_19
  rcases c.r with ⟨rfl, r1, r2, r3⟩ | ⟨rfl, r1, r2, r3⟩
  · rw [if_pos (by decide), ldI_I r1 (by decide), r2]; simp only [obs]
    rw [if_pos (by decide), ldJ_I r1 (by decide), r3]; simp only [obs]
  · rw [if_neg (by decide), ldI_I r1 (by decide), r2]; simp only [obs]
    rw [if_neg (by decide), ldJ_I r1 (by decide), r3]; simp only [obs]
theorem Cell.put (c : Cell h g o p q i sz y2 st s v0) (y1 y6 y12 : Int32) (y7 : Int64) (v : Val) : F_360_168 y1 (I3 y2) (I3 st) y6 y7 v.1 v.2 y12 g = F_360_207 y1 y6 y7 y12 (putR g st y2 v) := by
  unfold F_360_168 putR
  rcases c.r with ⟨rfl, r1, r2, r3⟩ | ⟨rfl, r1, r2, r3⟩
  · rw [if_pos (by decide), stI_I r1 (by decide)]; simp only [obs]
    rw [stJ_I r1 (by decide)]; simp only [obs]; rw [if_pos trivial]
  · rw [if_neg (by decide), stI_I r1 (by decide)]; simp only [obs]
    rw [stJ_I r1 (by decide)]; simp only [obs]; rw [if_neg (by decide)]
theorem Cell.cas (wK : wfK g) (c : Cell h g o p q i sz y2 st s v0) (s1 : 1 ≤ s) {v : Val} (ok : okV g s v.1 v.2) : F_220 o (I3 i) v.2 (tag v.1) h = some (b2 (decide (v = v0)), h) := by
  have T := tag_inj wK s1 c.ok ok
  show F_220_0 o (I3 i) v.2 (tag v.1) h = _
  unfold F_220_0 F_220_24 F_220_25
  rw [if_neg (not_not_intro c.th.1), C_thnum c.th c.i1, c.c.1]; simp only [obs]
  by_cases e1 : v0.2 = v.2
  · rw [if_pos (by rw [cmp_eq]; exact e1), if_neg (not_not_intro c.th.1), C_thtag c.th c.i1, c.c.2]; simp only [obs]
    by_cases e2 : tag v0.1 = tag v.1
    · rw [if_pos e2, decide_eq_true (T.mp ⟨e1, e2⟩)]; rfl
    · rw [if_neg e2, decide_eq_false (fun z => e2 (T.mpr z).2)]; rfl
  · rw [if_neg (by rw [cmp_eq]; exact e1), decide_eq_false (fun z => e1 (T.mpr z).1)]; rfl
theorem Cell.rcas (wK : wfK g) (c : Cell h g o p q i sz y2 st s v0) (s1 : 1 ≤ s) (s2 : s < 1000) {v : Val} (ok : okV g s v.1 v.2) (y1 y5 : Int32) (y22 : y1 ≠ 22) {g' : sm_H} (k1 : F_351 y5 g = some (v.1, g)) (k2 : F_352 y5 g = some (v.2, g)) : F_360_40 y1 (I3 y2) (I3 st) (I3 s) y5 v0.1 v0.2 g = F_360_111 y1 (I3 y2) (I3 st) (I3 s) y5 v0.1 v0.2 v.1 v.2 (b2 (decide (v = v0))) g := by
  unfold F_360_40 F_360_106 F_360_88 F_360_110
  rw [if_neg y22, k1]; simp only [obs]
  rw [k2]; simp only [obs]
  rw [R_ref (by omega)]; simp only [obs]
  by_cases e : v = v0
  · rw [decide_eq_true e, if_pos (by rw [e]), if_pos (by rw [cmp_eq, e])]; rfl
  · rw [decide_eq_false e]
    have key : (if b2 (decide (7 ≤ s)) = 0 then F_360_111 y1 (I3 y2) (I3 st) (I3 s) y5 v0.1 v0.2 v.1 v.2 0 g else if v.1 = 0 then if v0.1 = 0 then F_360_111 y1 (I3 y2) (I3 st) (I3 s) y5 v0.1 v0.2 v.1 v.2 1 g else F_360_111 y1 (I3 y2) (I3 st) (I3 s) y5 v0.1 v0.2 v.1 v.2 0 g else F_360_111 y1 (I3 y2) (I3 st) (I3 s) y5 v0.1 v0.2 v.1 v.2 0 g) = F_360_111 y1 (I3 y2) (I3 st) (I3 s) y5 v0.1 v0.2 v.1 v.2 0 g := by
      by_cases c7 : 7 ≤ s
      · rw [decide_eq_true c7, if_neg (by decide)]
        by_cases z1 : v.1 = 0
        · rw [if_pos z1, if_neg (fun z2 => e (ref_eq wK s1 c.ok ok c7 z1 z2))]
        · rw [if_neg z1]
      · rw [decide_eq_false c7, if_pos (by decide)]
    by_cases e1 : v.1 = v0.1
    · rw [if_pos e1, if_neg (fun z => by rw [cmp_eq] at z; exact e (Prod.ext e1 z))]; exact key
    · rw [if_neg e1]; exact key
end
theorem bind_id0 {r : Option sm_H} : (r.bind fun q => F_360_253 q) = r := by cases r <;> rfl
section
variable {d fuel s0 x vp p s : Nat} {vs : List Val} {h0 g0 h g : sm_H}
theorem Fr_void (F : Fr d fuel s0 x vp vs h0 g0 h g p s) : ∃ u h', F_346 0 g = some u ∧ F_75 0 0 h = some (0, h') ∧ Ends d fuel s0 vp 0 h0 g0 (p + 1) (some (0, h')) u := by
  have a : agr (SG d (vp + vs.length)) g (sm_wJ (sm_wI g 67 48 0) 67 49 0) := agr_wJ (agr_wI agr_rfl (by unfold SG; omega)) (by unfold SG; omega)
  obtain ⟨u, h', e1, e2, e3⟩ := Fr_give (rk := 0) (Fr_g F a) 0 0 (Or.inr (Or.inl ⟨Or.inl rfl, rfl, rfl⟩))
  refine ⟨u, h', ?_, e2, e3⟩
  show F_346_0 0 g = _
  unfold F_346_0
  rw [show F_299 0 g = some (sm_wJ (sm_wI g 67 48 0) 67 49 0) from rfl]; simp only [obs]
  rw [show (sm_wJ (sm_wI g 67 48 0) 67 49 0).1 67 48 = 0 from rfl, show (sm_wJ (sm_wI g 67 48 0) 67 49 0).2.1 67 49 = 0 from rfl, e1]; simp only [obs]
theorem chg (F : Fr d fuel s0 x vp vs h0 g0 h g p s) {o pp qq i sz y2 st k : Nat} {v0 : Val} (ce : ∀ h, K1 h g → Cell h g o pp qq i sz y2 st k v0) (s1 : 1 ≤ k) (s2 : k < 20 + nC g) {w b : Nat} (w1 : 4 ≤ w) (w2 : w ≤ 8) (w8 : w = 8 → 2 ≤ k ∧ k ≤ 6) (b1 : b ≤ 2) (a1 : 5 ≤ w → b < vs.length ∧ okV g k (atv vs b).1 (atv vs b).2) (a2 : w = 7 → b + 1 < vs.length ∧ okV g k (atv vs (b + 1)).1 (atv vs (b + 1)).2) :
    ∃ u h', F_110 o (I3 i) (I3 w) (I3 k) (I3 d) (I3 b) h = some (0, h') ∧ F_360 (I3 (18 + w)) (I3 y2) (I3 st) (I3 k) (I3 b) g = some u ∧ Ends d fuel s0 vp (tn (chgR (I3 k) w)) h0 g0 (p + 1) (some (0, h')) u := by
  have d1 := F.d1
  have wK := F.m.k.1
  have h12 := wK.2.1
  have c := ce h F.m.k
  have ck : tn (I3 k) = k := tnI (by omega)
  have C0 : F_110 o (I3 i) (I3 w) (I3 k) (I3 d) (I3 b) h = F_110_0 o (I3 i) (I3 w) (I3 k) (I3 d) (I3 b) h := rfl
  unfold F_110_0 at C0
  rw [C_num (by omega) (by omega)] at C0; simp only [obs] at C0
  rw [C_tg (by omega) (by omega)] at C0; simp only [obs] at C0
  rw [if_neg (not_not_intro c.th.1), if_neg (not_not_intro c.th.1), C_thnum c.th c.i1, c.c.1] at C0; simp only [obs] at C0
  rw [if_neg (not_not_intro c.th.1), C_thtag c.th c.i1, c.c.2] at C0; simp only [obs] at C0
  have aF : agr (SC1 d) h (sm_wI (sm_wJ h 49 9 v0.2) 49 10 (tag v0.1)) := agr_wI (agr_wJ agr_rfl (by unfold SC1; omega)) (by unfold SC1; omega)
  have F1 := Fr_h F aF rfl
  rw [show F_75 v0.2 (tag v0.1) h = some (0, sm_wI (sm_wJ h 49 9 v0.2) 49 10 (tag v0.1)) from rfl] at C0; simp only [obs] at C0
  have c1 := ce _ F1.m.k
  rw [C0, c.get]
  generalize hh1 : sm_wI (sm_wJ h 49 9 v0.2) 49 10 (tag v0.1) = h1 at *
  have h19 : h1.2.1 49 9 = v0.2 := by rw [← hh1]; rfl
  have h110 : h1.1 49 10 = tag v0.1 := by rw [← hh1]; rfl
  rcases (show w = 4 ∨ w = 5 ∨ w = 6 ∨ w = 7 ∨ w = 8 by omega) with rfl | rfl | rfl | rfl | rfl
  · obtain ⟨u, e1, e2⟩ := Fr_pass (rk := k) F1 v0.1 v0.2 h19 h110 c.ok
    refine ⟨u, h1, ?_, ?_, ?_⟩
    · rw [if_neg (by decide), if_neg (by decide), if_pos (by decide)]; rfl
    · unfold F_360_40
      rw [if_pos (by decide), e1]; rfl
    · rw [show chgR (I3 k) 4 = I3 k from rfl, ck]; exact e2
  all_goals
    obtain ⟨b2', okb⟩ := a1 (by decide)
    have f77 : h.2.1 50 (16 * d + b) = (atv vs b).2 := (F.fr b b2').1
    have f78 : h.1 51 (16 * d + b) = tag (atv vs b).1 := (F.fr b b2').2
    rw [f77, f78]
    have RC := fun y1 y22 => Cell.rcas (g' := g) wK c s1 (by omega) okb y1 (I3 b) y22 (F.k351 b2') (F.k352 b2')
    rw [RC _ (by decide)]
    unfold F_360_111
  · obtain ⟨K', z1, z2, z3⟩ := c1.w (atv vs b) okb
    obtain ⟨u, h', e1, e2, e3⟩ := Fr_void (Fr_th F1 K' z1 z2 z3)
    refine ⟨u, h', ?_, ?_, e3⟩
    · rw [if_neg (by decide), if_neg (by decide), if_neg (by decide), if_neg (not_not_intro c1.th.1), C_thchg c1.th c1.i1]; simp only [obs]
      unfold F_110_143
      rw [if_pos (by decide), e2]; rfl
    · unfold F_360_139 F_360_157
      rw [if_neg (by decide), if_neg (by decide), if_neg (by decide), c.put]
      unfold F_360_207
      rw [if_pos (by decide), e1]; rfl
  · obtain ⟨K', z1, z2, z3⟩ := c1.w (atv vs b) okb
    have F2 := Fr_th F1 K' z1 z2 z3
    obtain ⟨u, e1, e2⟩ := Fr_pass (rk := k) F2 v0.1 v0.2 ((z1.2.1 49 9 (by unfold SCx; omega)).trans h19) ((z1.1 49 10 (by unfold SCx; omega)).trans h110) (okV_grow wK z3 c.ok)
    refine ⟨u, _, ?_, ?_, by rw [show chgR (I3 k) 6 = I3 k from rfl, ck]; exact e2⟩
    · rw [if_neg (by decide), if_neg (by decide), if_neg (by decide), if_neg (not_not_intro c1.th.1), C_thchg c1.th c1.i1]; simp only [obs]
      unfold F_110_143
      rw [if_neg (by decide)]; rfl
    · unfold F_360_139 F_360_157
      rw [if_neg (by decide), if_neg (by decide), if_neg (by decide), c.put]
      unfold F_360_207
      rw [if_neg (by decide), if_neg (by decide), e1]; rfl
  · obtain ⟨b3, okc⟩ := a2 rfl
    by_cases e : atv vs b = v0
    · rw [decide_eq_true e]
      obtain ⟨K', z1, z2, z3⟩ := c.w (atv vs (b + 1)) okc
      obtain ⟨u, h', e1, e2, e3⟩ := Fr_give (rk := 1) (Fr_th F K' z1 z2 z3) 1 1 (Or.inl ⟨by decide, by decide, rfl, ⟨fun _ => Or.inr rfl, fun z => by (cases z), fun z => by (cases z), fun z => by (cases z), fun z => by (cases z)⟩⟩)
      refine ⟨u, h', ?_, ?_, e3⟩
      · rw [if_pos (by decide), Cell.cas wK c s1 okb, decide_eq_true e]; simp only [obs]
        rw [if_neg (by decide), show I3 b + 1 = I3 (b + 1) from I3_add b 1, F.c77 b3]; simp only [obs]
        rw [F.c78 b3]; simp only [obs]
        rw [if_neg (not_not_intro c.th.1), C_thchg c.th c.i1]; simp only [obs]
        unfold F_110_67 F_110_78
        rw [if_neg (by decide), show F_75 1 0 _ = some (0, h') from e2]; rfl
      · rw [if_pos (by decide), show I3 b + 1 = I3 (b + 1) from I3_add b 1, F.k351 b3]; simp only [obs]
        rw [F.k352 b3]; simp only [obs]
        unfold F_360_139 F_360_157
        rw [if_neg (by decide), if_pos (by decide), if_neg (by decide), c.put]
        unfold F_360_207 F_360_239
        rw [if_neg (by decide), if_pos (by decide), if_neg (by decide), e1]; rfl
    · rw [decide_eq_false e]
      obtain ⟨u, h', e1, e2, e3⟩ := Fr_give (rk := 1) F 1 0 (Or.inl ⟨by decide, by decide, rfl, ⟨fun _ => Or.inl rfl, fun z => by (cases z), fun z => by (cases z), fun z => by (cases z), fun z => by (cases z)⟩⟩)
      refine ⟨u, h', ?_, ?_, e3⟩
      · rw [if_pos (by decide), Cell.cas wK c s1 okb, decide_eq_false e]; simp only [obs]
        rw [if_pos (by decide)]
        unfold F_110_67 F_110_78
        rw [if_pos (by decide), show F_75 0 0 h = some (0, h') from e2]; rfl
      · rw [if_pos (by decide), show I3 b + 1 = I3 (b + 1) from I3_add b 1, F.k351 b3]; simp only [obs]
        rw [F.k352 b3]; simp only [obs]
        unfold F_360_139 F_360_157
        rw [if_neg (by decide), if_pos (by decide), if_pos (by decide)]
        unfold F_360_207 F_360_239
        rw [if_neg (by decide), if_pos (by decide), if_pos (by decide), e1]; rfl
  · obtain ⟨k1, k2⟩ := w8 rfl
    obtain ⟨kb, nb⟩ := okV_6 s1 k2 okb
    have okn : okV g k (I3 k) (nar k (v0.2 + (atv vs b).2)) := Or.inl ⟨s1, k2, rfl, nar_ok _ _⟩
    obtain ⟨K', z1, z2, z3⟩ := c1.w (I3 k, nar k (v0.2 + (atv vs b).2)) okn
    have F2 := Fr_th F1 K' z1 z2 z3
    obtain ⟨u, e1, e2⟩ := Fr_pass (rk := k) F2 v0.1 v0.2 ((z1.2.1 49 9 (by unfold SCx; omega)).trans h19) ((z1.1 49 10 (by unfold SCx; omega)).trans h110) (okV_grow wK z3 c.ok)
    refine ⟨u, _, ?_, ?_, by rw [show chgR (I3 k) 8 = I3 k from rfl, ck]; exact e2⟩
    · rw [if_neg (by decide), if_pos (by decide), h19, C_nar _ (by omega)]; simp only [obs]
      have T := C_thchg c1.th c1.i1 (nar k (v0.2 + (atv vs b).2)) (tag (I3 k))
      rw [tag_p (by omega) k2] at T
      rw [if_neg (not_not_intro c1.th.1), T]; simp only [obs]
      unfold F_110_143
      rw [if_neg (by decide), tag_p (by omega) k2]; rfl
    · unfold F_360_139 F_360_157
      rw [if_neg (by decide), if_pos (by decide), Int64.add_comm, R_nar _ (by omega)]; simp only [obs]
      rw [if_neg (by decide), kb]
      have P := c.put 26 v0.1 (b2 (decide (atv vs b = v0))) v0.2 (I3 k, nar k (v0.2 + (atv vs b).2))
      rw [show F_360_168 (I3 (18 + 8)) (I3 y2) (I3 st) v0.1 v0.2 (I3 k) (nar k (v0.2 + (atv vs b).2)) (b2 (decide (atv vs b = v0))) g = _ from P]
      unfold F_360_207
      rw [if_neg (by decide), if_neg (by decide), e1]; rfl
end
theorem chgL_0 (e : Int32) {w : Nat} (w1 : 5 ≤ w) (w2 : w ≤ 8) : 0 < (chgL e w).length ∧ at0 (chgL e w) 0 = e := by
  unfold chgL
  rcases (show w = 5 ∨ w = 6 ∨ w = 7 ∨ w = 8 by omega) with rfl | rfl | rfl | rfl <;> exact ⟨Nat.zero_lt_succ _, rfl⟩
theorem chgL_1 (e : Int32) : 1 < (chgL e 7).length ∧ at0 (chgL e 7) 1 = e := ⟨Nat.le_refl 2, rfl⟩
theorem cell_el {h g : sm_H} (K : K1 h g) {t k i : Nat} (t1 : t < nX g) (k1 : 15 ≤ k) (k2 : k ≤ 17) (t96 : g.1 96 t = I3 k) (i1 : i < tn (g.1 97 t)) (ok : okV g (k - 10) (g.1 98 (100 * t + i)) (g.2.1 99 (100 * t + i))) : Cell h g (131 + 3 * t) (132 + 3 * t) (133 + 3 * t) i (szX g t) (100 * t + i) 0 (k - 10) (g.1 98 (100 * t + i), g.2.1 99 (100 * t + i)) := by
  have wX := K.2.2.2.2.2.2.2.2.2.2.2.1
  have cXhq := K.2.2.2.2.2.2.2.2.2.2.2.2.2.1
  have x1000 := nX_1000 K
  have w := wX.2.1 t t1
  have w12 := w.1.2
  have esz : szX g t = tn (g.1 97 t) := by unfold szX; rw [t96, tnI (by omega), if_pos (by omega)]
  refine ⟨thX wX cXhq t1, by omega, (cXhq.2.2 t t1).2.2.2.2.2.2.2.2 i (by omega), Or.inl ⟨rfl, by omega, rfl, rfl⟩, ok, fun v okv => ?_⟩
  unfold putR
  rw [if_pos rfl]
  exact T_chg K t1 (by omega) v (Or.inl ⟨k, k1, k2, t96, okv⟩)
section
variable {d fuel s0 x vp p s : Nat} {vs : List Val} {h0 g0 h g : sm_H}
theorem elems {rec : Int32 → Int32 → sm_H → Option (Int32 × sm_H)} (F : Fr d fuel s0 x vp vs h0 g0 h g p s) (c63 : g.1 67 63 = 0) {w k : Nat} (w1 : 4 ≤ w) (w2 : w ≤ 8) (f : fm g0 x = 18 + w) (k1 : 15 ≤ k) (k2 : k ≤ 17) (ea : g0.1 77 x = I3 k) (w8 : w = 8 → k ≠ 17) (er : hrs g0 x = chgR (I3 (k - 10)) w) (el : hpl g0 x = I3 k :: 5 :: chgL (I3 (k - 10)) w) (C0 : F_102 (I3 x) (I3 d) h = F_102_368 (I3 x) (I3 d) h) (R : F_370 g = F_370_726 (I3 x) (g0.1 77 x) g) : Ends d fuel s0 vp (tn (hrs g0 x)) h0 g0 p (F_82_367 rec (I3 x) (I3 d) h) g := by
  have d1 := F.d1
  have vx := F.vx
  have h12 := F.m.k.1.2.1
  have x1000 := nX_1000 F.m.k
  have wX := F.m.k.2.2.2.2.2.2.2.2.2.2.2.1
  have cXq := F.m.k.2.2.2.2.2.2.2.2.2.2.2.2.1
  have cXhq := F.m.k.2.2.2.2.2.2.2.2.2.2.2.2.2.1
  have vl : vs.length = 2 + (chgL (I3 (k - 10)) w).length := by rw [vx, el]; simp only [List.length_cons]; omega
  have ok0 := F.ty.2 0 (by omega)
  have ok1 := F.ty.2 1 (by omega)
  rw [el, show at0 (I3 k :: 5 :: chgL (I3 (k - 10)) w) 0 = I3 k from rfl, tnI (by omega)] at ok0
  rw [el, show at0 (I3 k :: 5 :: chgL (I3 (k - 10)) w) 1 = 5 from rfl, show tn (5 : Int32) = 5 from rfl] at ok1
  obtain ⟨-, n5⟩ := okV_6 (by decide) (by decide) ok1
  have n5 := n5.2.2.2.2 rfl
  have ok2 : ∀ j, j < (chgL (I3 (k - 10)) w).length → 2 + j < vs.length ∧ okV g (tn (at0 (chgL (I3 (k - 10)) w) j)) (atv vs (2 + j)).1 (atv vs (2 + j)).2 := fun j hj => by
    have z := F.ty.2 (2 + j) (by omega)
    rw [el, show at0 (I3 k :: 5 :: chgL (I3 (k - 10)) w) (2 + j) = at0 (chgL (I3 (k - 10)) w) j by rw [Nat.add_comm]; rfl] at z
    exact ⟨by omega, z⟩
  have tk : tn (I3 (k - 10)) = k - 10 := tnI (by omega)
  have a1 : 5 ≤ w → 2 < vs.length ∧ okV g (k - 10) (atv vs 2).1 (atv vs 2).2 := fun h5 => by
    have c0 := chgL_0 (I3 (k - 10)) h5 w2
    have z := ok2 0 c0.1; rw [c0.2, tk] at z; exact z
  have a2 : w = 7 → 2 + 1 < vs.length ∧ okV g (k - 10) (atv vs (2 + 1)).1 (atv vs (2 + 1)).2 := fun h7 => by
    subst h7
    have c0 := chgL_1 (I3 (k - 10))
    have z := ok2 1 c0.1; rw [c0.2, tk] at z; exact z
  have k0 : F_351 0 g = _ := F.k351 (i := 0) (by omega)
  have n0 : F_352 0 g = _ := F.k352 (i := 0) (by omega)
  have n1 : F_352 1 g = _ := F.k352 (i := 1) (by omega)
  have c0 : F_77 (I3 d) 0 h = _ := F.c77 (i := 0) (by omega)
  have c1 : F_77 (I3 d) 1 h = _ := F.c77 (i := 1) (by omega)
  have t0 : F_78 (I3 d) 0 h = _ := F.c78 (i := 0) (by omega)
  unfold F_370_726 at R
  rw [F.l75, f] at R; simp only [obs] at R
  rw [bind_id1, show F_361 (I3 (18 + w)) (g0.1 77 x) g = F_361_0 (I3 (18 + w)) (g0.1 77 x) g from rfl] at R
  unfold F_361_0 F_361_67 at R
  rw [k0] at R; simp only [obs] at R
  unfold F_102_368 at C0
  rw [bind_id, show F_108 (I3 x) (I3 d) h = F_108_0 (I3 x) (I3 d) h from rfl] at C0
  unfold F_108_0 at C0
  rw [t0] at C0; simp only [obs] at C0
  have CC : ∀ r, F_102 (I3 x) (I3 d) h = r → F_82_367 rec (I3 x) (I3 d) h = r := fun r e => by unfold F_82_367; rw [bind_id, e]
  rcases rowV F.m.k k1 k2 ok0 with ⟨z1, z2⟩ | ⟨t, t1, tv, t96, tsz, t97, t100, z6, z7, oke⟩
  · rw [if_pos z2] at C0
    obtain ⟨u, h', f1, f2, f3⟩ := Fr_fail (rk := tn (hrs g0 x)) F 1
    rw [f2] at C0; simp only [obs] at C0
    rw [CC _ C0]
    refine Ends_step (step_enter (by omega) F.c64 F.c56 c63 ?_) f3
    rw [R, z1, if_pos (show ((0 : Int32), (0 : Int64)).1 = 0 from rfl), f1]; rfl
  · have tn2 : (atv vs 0).2 = I6 t := by rw [tv]
    have th := thX wX cXhq t1
    rw [if_neg (by rw [z6]; exact z7), c0, tn2] at C0; simp only [obs] at C0
    rw [C_thing wX cXq cXhq t1] at C0; simp only [obs] at C0
    rw [c1] at C0; simp only [obs] at C0
    rw [if_neg (not_not_intro th.1), C_thhas th, tsz] at C0; simp only [obs] at C0
    rw [if_neg z7, n0, tn2] at R; simp only [obs] at R
    rw [if_neg (show ¬ I3 (18 + w) = (21 : Int32) by rw [I3_lit, I3_inj (by omega) (by decide)]; omega), n1] at R; simp only [obs] at R
    rw [I6_32, ldI_I (by omega) (by decide), t97] at R; simp only [obs] at R
    generalize hn : (atv vs 1).2 = n at *
    have e0 : (0 : Int64).toInt = 0 := rfl
    have eR : Int32.toInt64 (Int64.toInt32 n) = n := by
      have := nar_id (k := 5) (by decide) (by decide) (n := n) ⟨fun z => by (cases z), fun z => by (cases z), fun z => by (cases z), fun z => by (cases z), fun _ => n5⟩
      exact this
    have en : (Int64.toInt32 n).toInt = n.toInt := by rw [← toI64, eR]
    by_cases q : 0 ≤ n.toInt ∧ n.toInt < (tn (g.1 97 t) : Int)
    · have ei : Int64.toInt32 n = I3 n.toInt.toNat := by
        rw [← Int32.toInt_inj, en, I3_toInt (by omega)]; omega
      generalize hi : n.toInt.toNat = i at *
      have i1 : i < tn (g.1 97 t) := by omega
      rw [ei, inR_I (by omega), decide_eq_true i1, if_neg (by decide), F.f37, f] at C0; simp only [obs] at C0
      rw [F.f38, ea] at C0; simp only [obs] at C0
      rw [C_elem k1 k2] at C0; simp only [obs] at C0
      obtain ⟨u, h', e1, e2, e3⟩ := chg F (fun h K => cell_el K t1 k1 k2 t96 i1 (oke i i1)) (k := k - 10) (by omega) (by omega) w1 w2 (fun z => ⟨by omega, by have := w8 z; omega⟩) (Nat.le_refl 2) a1 a2
      rw [show I3 (18 + w) - 22 + 4 = I3 w by rw [show (22 : Int32) = I3 22 from rfl, show (4 : Int32) = I3 4 from rfl, I3_sub (by omega), I3_add]; congr 1; omega, show F_110 (131 + 3 * t) (I3 i) (I3 w) (I3 (k - 10)) (I3 d) 2 h = some (0, h') from e1] at C0; simp only [obs] at C0
      rw [CC _ C0, er]
      refine Ends_step (step_enter (by omega) F.c64 F.c56 c63 ?_) e3
      rw [R, if_neg (by rw [cmp_lt]; omega), if_pos (by rw [cmp_lt, toI64, I3_toInt (by omega)]; omega), ea, R_elem g k1 k2]; simp only [obs]
      rw [ei, show (100 : Int32) * I3 t + I3 i = I3 (100 * t + i) by rw [I3_lit, I3_mul, I3_add], show F_360 (I3 (18 + w)) (I3 (100 * t + i)) 0 (I3 (k - 10)) 2 g = some u from e2]; rfl
    · have ir : inR (Int64.toInt32 n) (tn (g.1 97 t)) = false := by unfold inR; rw [en]; exact decide_eq_false q
      rw [ir, if_pos (by decide)] at C0
      obtain ⟨u, h', f1, f2, f3⟩ := Fr_fail (rk := tn (hrs g0 x)) F 6
      rw [f2] at C0; simp only [obs] at C0
      rw [CC _ C0]
      refine Ends_step (step_enter (by omega) F.c64 F.c56 c63 ?_) f3
      rw [R]
      by_cases q1 : n.toInt < 0
      · rw [if_pos (by rw [cmp_lt]; exact q1), f1]; rfl
      · rw [if_neg (by rw [cmp_lt]; exact q1), if_neg (by rw [cmp_lt, toI64, I3_toInt (by omega)]; omega), f1]; rfl
end
theorem run_22 {rec : Int32 → Int32 → sm_H → Option (Int32 × sm_H)} {d fuel s x vp : Nat} {vs : List Val} {h0 g0 h g : sm_H} (IH : CallOK (d + 1) rec) (F : Fr d fuel s x vp vs h0 g0 h g 0 (s + 1)) (c63 : g.1 67 63 = 0) (c59 : g.1 67 59 = I3 (vp + vs.length)) (eh : sm_wI h0 49 8 (h0.1 49 8 + 1) = h) (lf : h0.1 49 8 < h0.1 49 7) (f : fm g0 x = 22) : Ends d fuel s vp (tn (hrs g0 x)) h0 g0 0 (F_82R rec (I3 x) (I3 d) h0) g := by
  have d1 := F.d1
  have v10 := F.v10
  have x500 := F.x500
  have vl := F.vl
  have vx := F.vx
  have fs := F.fs0
  rw [f] at fs
  have C := B82_22 (rec := rec) (x1 := I3 x) (x2 := I3 d) (by rw [I3_lit, I3_lt (by omega) (by decide)]; omega) lf eh (f ▸ F.f37)
  rw [C]
  have R := B370_22 F.c56 F.l103 F.l105 F.l305 F.l77 F.l78 F.l81 F.l81' (f ▸ F.l75)
  obtain ⟨ep, k, k1, k2, ea, w8, -, -, r⟩ := FS_22 fs
  obtain ⟨er, el⟩ := r (by decide)
  rw [ea] at el
  exact elems F c63 (w := 4) (by decide) (by decide) f k1 k2 ea (fun z => by cases z) er el (B102_22 F.f38 (f ▸ F.f37)) R
theorem run_23 {rec : Int32 → Int32 → sm_H → Option (Int32 × sm_H)} {d fuel s x vp : Nat} {vs : List Val} {h0 g0 h g : sm_H} (IH : CallOK (d + 1) rec) (F : Fr d fuel s x vp vs h0 g0 h g 0 (s + 1)) (c63 : g.1 67 63 = 0) (c59 : g.1 67 59 = I3 (vp + vs.length)) (eh : sm_wI h0 49 8 (h0.1 49 8 + 1) = h) (lf : h0.1 49 8 < h0.1 49 7) (f : fm g0 x = 23) : Ends d fuel s vp (tn (hrs g0 x)) h0 g0 0 (F_82R rec (I3 x) (I3 d) h0) g := by
  have d1 := F.d1
  have v10 := F.v10
  have x500 := F.x500
  have vl := F.vl
  have vx := F.vx
  have fs := F.fs0
  rw [f] at fs
  have C := B82_23 (rec := rec) (x1 := I3 x) (x2 := I3 d) (by rw [I3_lit, I3_lt (by omega) (by decide)]; omega) lf eh (f ▸ F.f37)
  rw [C]
  have R := B370_23 F.c56 F.l103 F.l105 F.l305 F.l77 F.l78 F.l81 F.l81' (f ▸ F.l75)
  obtain ⟨ep, k, k1, k2, ea, w8, -, -, r⟩ := FS_23 fs
  obtain ⟨er, el⟩ := r (by decide)
  rw [ea] at el
  exact elems F c63 (w := 5) (by decide) (by decide) f k1 k2 ea (fun z => by cases z) er el (B102_23 F.f38 (f ▸ F.f37)) R
theorem run_24 {rec : Int32 → Int32 → sm_H → Option (Int32 × sm_H)} {d fuel s x vp : Nat} {vs : List Val} {h0 g0 h g : sm_H} (IH : CallOK (d + 1) rec) (F : Fr d fuel s x vp vs h0 g0 h g 0 (s + 1)) (c63 : g.1 67 63 = 0) (c59 : g.1 67 59 = I3 (vp + vs.length)) (eh : sm_wI h0 49 8 (h0.1 49 8 + 1) = h) (lf : h0.1 49 8 < h0.1 49 7) (f : fm g0 x = 24) : Ends d fuel s vp (tn (hrs g0 x)) h0 g0 0 (F_82R rec (I3 x) (I3 d) h0) g := by
  have d1 := F.d1
  have v10 := F.v10
  have x500 := F.x500
  have vl := F.vl
  have vx := F.vx
  have fs := F.fs0
  rw [f] at fs
  have C := B82_24 (rec := rec) (x1 := I3 x) (x2 := I3 d) (by rw [I3_lit, I3_lt (by omega) (by decide)]; omega) lf eh (f ▸ F.f37)
  rw [C]
  have R := B370_24 F.c56 F.l103 F.l105 F.l305 F.l77 F.l78 F.l81 F.l81' (f ▸ F.l75)
  obtain ⟨ep, k, k1, k2, ea, w8, -, -, r⟩ := FS_24 fs
  obtain ⟨er, el⟩ := r (by decide)
  rw [ea] at el
  exact elems F c63 (w := 6) (by decide) (by decide) f k1 k2 ea (fun z => by cases z) er el (B102_24 F.f38 (f ▸ F.f37)) R
theorem run_25 {rec : Int32 → Int32 → sm_H → Option (Int32 × sm_H)} {d fuel s x vp : Nat} {vs : List Val} {h0 g0 h g : sm_H} (IH : CallOK (d + 1) rec) (F : Fr d fuel s x vp vs h0 g0 h g 0 (s + 1)) (c63 : g.1 67 63 = 0) (c59 : g.1 67 59 = I3 (vp + vs.length)) (eh : sm_wI h0 49 8 (h0.1 49 8 + 1) = h) (lf : h0.1 49 8 < h0.1 49 7) (f : fm g0 x = 25) : Ends d fuel s vp (tn (hrs g0 x)) h0 g0 0 (F_82R rec (I3 x) (I3 d) h0) g := by
  have d1 := F.d1
  have v10 := F.v10
  have x500 := F.x500
  have vl := F.vl
  have vx := F.vx
  have fs := F.fs0
  rw [f] at fs
  have C := B82_25 (rec := rec) (x1 := I3 x) (x2 := I3 d) (by rw [I3_lit, I3_lt (by omega) (by decide)]; omega) lf eh (f ▸ F.f37)
  rw [C]
  have R := B370_25 F.c56 F.l103 F.l105 F.l305 F.l77 F.l78 F.l81 F.l81' (f ▸ F.l75)
  obtain ⟨ep, k, k1, k2, ea, w8, -, -, r⟩ := FS_25 fs
  obtain ⟨er, el⟩ := r (by decide)
  rw [ea] at el
  exact elems F c63 (w := 7) (by decide) (by decide) f k1 k2 ea (fun z => by cases z) er el (B102_25 F.f38 (f ▸ F.f37)) R
theorem run_26 {rec : Int32 → Int32 → sm_H → Option (Int32 × sm_H)} {d fuel s x vp : Nat} {vs : List Val} {h0 g0 h g : sm_H} (IH : CallOK (d + 1) rec) (F : Fr d fuel s x vp vs h0 g0 h g 0 (s + 1)) (c63 : g.1 67 63 = 0) (c59 : g.1 67 59 = I3 (vp + vs.length)) (eh : sm_wI h0 49 8 (h0.1 49 8 + 1) = h) (lf : h0.1 49 8 < h0.1 49 7) (f : fm g0 x = 26) : Ends d fuel s vp (tn (hrs g0 x)) h0 g0 0 (F_82R rec (I3 x) (I3 d) h0) g := by
  have d1 := F.d1
  have v10 := F.v10
  have x500 := F.x500
  have vl := F.vl
  have vx := F.vx
  have fs := F.fs0
  rw [f] at fs
  have C := B82_26 (rec := rec) (x1 := I3 x) (x2 := I3 d) (by rw [I3_lit, I3_lt (by omega) (by decide)]; omega) lf eh (f ▸ F.f37)
  rw [C]
  have R := B370_26 F.c56 F.l103 F.l105 F.l305 F.l77 F.l78 F.l81 F.l81' (f ▸ F.l75)
  obtain ⟨ep, k, k1, k2, ea, w8, -, -, r⟩ := FS_26 fs
  obtain ⟨er, el⟩ := r (by decide)
  rw [ea] at el
  exact elems F c63 (w := 8) (by decide) (by decide) f k1 k2 ea (fun _ => w8 rfl) er el (B102_26 F.f38 (f ▸ F.f37)) R
theorem B_up {g : sm_H} {q o : Nat} (h : B g q o = true) (ho : 20 ≤ o) : 20 ≤ q := by
  by_cases c : q < 20
  · rw [B_lt20 c] at h
    unfold kBase at h
    simp only [Bool.or_eq_true, Bool.and_eq_true, Nat.beq_eq, Nat.ble_eq] at h
    omega
  · omega
theorem instV {h g : sm_H} (K : K1 h g) {k : Nat} (k1 : 20 ≤ k) {v : Val} (ok : okV g k v.1 v.2) : (v = (0, 0) ∧ tag v.1 = 0) ∨ ∃ q t, 20 ≤ q ∧ q < 20 + nC g ∧ B g q k = true ∧ t < nX g ∧ v = (I3 q, I6 t) ∧ g.1 96 t = I3 q ∧ szX g t = 24 ∧ tag v.1 = v.1 ∧ v.1 ≠ 0 := by
  have h12 := K.1.2.1
  rcases okV_7 K.1 (by omega) ok with ⟨z1, z2⟩ | ⟨q, z1, z2, z3, z4, z5, z6, z7⟩
  · exact Or.inl ⟨z1, z2⟩
  · right
    have q20 := B_up z4 k1
    obtain ⟨t, t1, tn', t96⟩ : ∃ t, t < nX g ∧ v.2 = I6 t ∧ g.1 96 t = I3 q := by
      rcases z5 with w | w | w | w
      · omega
      · exact w.2
      · omega
      · omega
    refine ⟨q, t, q20, z3, z4, t1, Prod.ext z1 tn', t96, ?_, z6, z7⟩
    unfold szX; rw [t96, tnI (by omega), if_neg (by omega)]
theorem fslot {h g : sm_H} (K : K1 h g) {m : Nat} (hm : m < nM g) (m87 : g.1 87 m = 1) (m86 : g.1 86 m = 0) : ∃ s, s < nS g ∧ nS g ≤ 24 ∧ g.1 91 m = I3 s := by
  have wM := K.2.2.2.2.2.2.1
  rcases (wM.2.2 m hm).2.2.2.2 with z | z
  · obtain ⟨s, s1, s2⟩ := z.2.2.2 m86
    exact ⟨s, s1, wM.2.1.2, s2⟩
  · rw [z.1] at m87; exact absurd m87 (by decide)
theorem cell_fi {h g : sm_H} (K : K1 h g) {t q m sl : Nat} (t1 : t < nX g) (q1 : 20 ≤ q) (q2 : q < 20 + nC g) (t96 : g.1 96 t = I3 q) (hm : m < nM g) (m87 : g.1 87 m = 1) (m86 : g.1 86 m = 0) (s1 : sl < nS g) (s2 : g.1 91 m = I3 sl) : Cell h g (131 + 3 * t) (132 + 3 * t) (133 + 3 * t) sl (szX g t) (100 * t + sl) 0 (tn (g.1 88 m)) (g.1 98 (100 * t + sl), g.2.1 99 (100 * t + sl)) := by
  have wX := K.2.2.2.2.2.2.2.2.2.2.2.1
  have cX0 := K.2.2.2.2.2.2.2.2.2.2.2.2.1
  have cXhq := K.2.2.2.2.2.2.2.2.2.2.2.2.2.1
  have wM := K.2.2.2.2.2.2.1
  have s24 : nS g ≤ 24 := wM.2.1.2
  have h12 := K.1.2.1
  have x1000 := nX_1000 K
  have esz : szX g t = 24 := by unfold szX; rw [t96, tnI (by omega), if_neg (by omega)]
  have es : tn (g.1 91 m) = sl := by rw [s2, tnI (by omega)]
  have ok : okV g (tn (g.1 88 m)) (g.1 98 (100 * t + sl)) (g.2.1 99 (100 * t + sl)) := by
    rcases (wX.2.1 t t1).2 with ⟨k', a1, a2, a3, a4⟩ | ⟨k', a1, a2, a3, a4⟩
    · rw [t96, I3_inj (by omega) (by omega)] at a3; omega
    · have := a4 m hm m87 m86; rw [es] at this; exact this
  refine ⟨thX wX cXhq t1, by omega, (cXhq.2.2 t t1).2.2.2.2.2.2.2.2 sl (by omega), Or.inl ⟨rfl, by omega, rfl, rfl⟩, ok, fun v okv => ?_⟩
  unfold putR
  rw [if_pos rfl]
  refine T_chg K t1 (by omega) v (Or.inr ⟨s1, ⟨q, q1, q2, t96⟩, fun m' hm' e1 e2 e3 => ?_⟩)
  obtain ⟨s', z1, z2, z3⟩ := fslot K hm' e1 e2
  have : m' = m := by
    rw [z3, tnI (by omega)] at e3
    subst e3
    rcases (show m' = m ∨ m' < m ∨ m < m' by omega) with c | c | c
    · exact c
    · exact absurd (z3.trans s2.symm) (cX0.2.2.2.2.2 m' m c hm e1 e2 m87 m86)
    · exact absurd (s2.trans z3.symm) (cX0.2.2.2.2.2 m m' c hm' m87 m86 e1 e2)
  rw [this]; exact okv
theorem cell_st {h g : sm_H} (K : K1 h g) {m : Nat} (hm : m < nM g) (m87 : g.1 87 m = 1) (m86 : g.1 86 m = 1) : Cell h g 23 24 25 m 100 m 1 (tn (g.1 88 m)) (g.1 100 m, g.2.1 101 m) := by
  have wX := K.2.2.2.2.2.2.2.2.2.2.2.1
  have cX0 := K.2.2.2.2.2.2.2.2.2.2.2.2.1
  have m100 : nM g ≤ 100 := K.2.2.2.2.2.2.1.1.2
  refine ⟨th23 h, by omega, cX0.2.1 m (by omega), Or.inr ⟨rfl, by omega, rfl, rfl⟩, wX.2.2 m hm m87 m86, fun v okv => ?_⟩
  unfold putR
  rw [if_neg (by decide)]
  exact T_sta K hm m87 v okv
theorem C_slot {h g : sm_H} (wM : wfM g) (cM : cM h g) {m : Nat} (hm : m < nM g) (m87 : g.1 87 m = 1) : F_129 (I3 m) h = some (if g.1 86 m = 0 then g.1 91 m else I3 m, h) := by
  have m100 : nM g ≤ 100 := wM.1.2
  show F_129_0 (I3 m) h = _
  unfold F_129_0 F_129_18
  rw [C_mhas wM cM hm]; simp only [obs]
  rw [if_neg (by decide), ldI_I (by omega) (by omega), ((cM.2.2 m hm).2.2.2.2.1 m87).2.2.2]; simp only [obs]
theorem C_stat {h g : sm_H} (wM : wfM g) (cM : cM h g) {m : Nat} (hm : m < nM g) : F_130 (I3 m) h = some (g.1 86 m, h) := by
  have m100 : nM g ≤ 100 := wM.1.2
  obtain ⟨b, e⟩ := (wM.2.2 m hm).2.2.2.1
  show F_130_0 (I3 m) h = _
  unfold F_130_0 F_130_22 F_130_21 F_130_22
  rw [C_mhas wM cM hm]; simp only [obs]
  rw [if_neg (by decide), ldZ_I (by omega) (by omega), (cM.2.2 m hm).2.2.2.1, e]; simp only [obs]
  cases b <;> rfl
theorem C_hand {h g : sm_H} (wM : wfM g) (cM : cM h g) {m : Nat} (hm : m < nM g) (m87 : g.1 87 m = 0) : F_131 (I3 m) h = some (g.1 90 m, h) := by
  have m100 : nM g ≤ 100 := wM.1.2
  show F_131_0 (I3 m) h = _
  unfold F_131_0 F_131_18
  rw [C_mhas wM cM hm]; simp only [obs]
  rw [if_neg (by decide), ldI_I (by omega) (by omega), ((cM.2.2 m hm).2.2.2.2.2 m87).2.1]; simp only [obs]
theorem C_owner {h g : sm_H} (wM : wfM g) (cM : cM h g) {m : Nat} (hm : m < nM g) : F_132 (I3 m) h = some (g.1 83 m, h) := by
  have m100 : nM g ≤ 100 := wM.1.2
  show F_132_0 (I3 m) h = _
  unfold F_132_0 F_132_18
  rw [C_mhas wM cM hm]; simp only [obs]
  rw [if_neg (by decide), ldI_I (by omega) (by omega), (cM.2.2 m hm).1]; simp only [obs]
theorem run_35 {rec : Int32 → Int32 → sm_H → Option (Int32 × sm_H)} {d fuel s x vp : Nat} {vs : List Val} {h0 g0 h g : sm_H} (IH : CallOK (d + 1) rec) (F : Fr d fuel s x vp vs h0 g0 h g 0 (s + 1)) (c63 : g.1 67 63 = 0) (c59 : g.1 67 59 = I3 (vp + vs.length)) (eh : sm_wI h0 49 8 (h0.1 49 8 + 1) = h) (lf : h0.1 49 8 < h0.1 49 7) (f : fm g0 x = 35) : Ends d fuel s vp (tn (hrs g0 x)) h0 g0 0 (F_82R rec (I3 x) (I3 d) h0) g := by
  have d1 := F.d1
  have v10 := F.v10
  have x500 := F.x500
  have vl := F.vl
  have vx := F.vx
  have fs := F.fs0
  rw [f] at fs
  have C := B82_35 (rec := rec) (x1 := I3 x) (x2 := I3 d) (by rw [I3_lit, I3_lt (by omega) (by decide)]; omega) lf eh (f ▸ F.f37)
  rw [C]
  have R := B370_35 F.c56 F.l103 F.l105 F.l305 F.l77 F.l78 F.l81 F.l81' (f ▸ F.l75)
  obtain ⟨ep, m, w, m1, ea, m87, w1, w2, eb, w8, er, el⟩ := FS_35 fs
  have h12 := F.m.k.1.2.1
  have x1000 := nX_1000 F.m.k
  have wX := F.m.k.2.2.2.2.2.2.2.2.2.2.2.1
  have cXq := F.m.k.2.2.2.2.2.2.2.2.2.2.2.2.1
  have cXhq := F.m.k.2.2.2.2.2.2.2.2.2.2.2.2.2.1
  have wM := F.m.k.2.2.2.2.2.2.1
  have cMq := F.m.k.2.2.2.2.2.2.2.1
  have m100 : nM g ≤ 100 := wM.1.2
  have s24 : nS g ≤ 24 := wM.2.1.2
  have m1' : m < nM g := by rw [m_nM F.ar]; exact m1
  have e87 : g.1 87 m = 1 := by rw [(m_c F.ar (by decide) (by decide)).1]; exact m87
  have e86 : g.1 86 m = g0.1 86 m := (m_c F.ar (by decide) (by decide)).1
  have e88 : g.1 88 m = g0.1 88 m := (m_c F.ar (by decide) (by decide)).1
  have ek : cnt (g.1 88 m) (19 + nC g) ∧ 0 < tn (g.1 88 m) := by
    rcases (wM.2.2 m m1').2.2.2.2 with z | z
    · exact ⟨z.2.1, z.2.2.1⟩
    · rw [z.1] at e87; exact absurd e87 (by decide)
  have k88 : g.1 88 m = I3 (tn (g.1 88 m)) := ek.1.1
  have k88l : tn (g.1 88 m) ≤ 19 + nC g := ek.1.2
  rw [← e88] at w8 er el
  have CK := C_kindOf wM cMq m1'
  rw [if_pos e87] at CK
  have C0 := B102_35 (x2 := I3 d) (F.f38) (f ▸ F.f37)
  rw [bind_id, show F_109 (I3 x) (I3 d) h = F_109_0 (I3 x) (I3 d) h from rfl] at C0
  unfold F_109_0 at C0
  rw [F.f38, ea] at C0; simp only [obs] at C0
  rw [F.f39, eb] at C0; simp only [obs] at C0
  rw [C_slot wM cMq m1' e87] at C0; simp only [obs] at C0
  rw [C_stat wM cMq m1'] at C0; simp only [obs] at C0
  rw [ea, eb, ldZ_I (by omega) (by decide)] at R; simp only [obs] at R
  rw [bind_id1, show F_362 (I3 m) (I3 w) (g.1 86 m) g = F_362_0 (I3 m) (I3 w) (g.1 86 m) g from rfl] at R
  unfold F_362_0 F_362_9 F_362_29 F_362_53 at R
  have CC : ∀ r, F_102 (I3 x) (I3 d) h = r → F_82_367 rec (I3 x) (I3 d) h = r := fun r e => by unfold F_82_367; rw [bind_id, e]
  have arg : ∀ b, (∀ j, j < (chgL (g.1 88 m) w).length → b + j < vs.length ∧ okV g (tn (at0 (chgL (g.1 88 m) w) j)) (atv vs (b + j)).1 (atv vs (b + j)).2) → (5 ≤ w → b < vs.length ∧ okV g (tn (g.1 88 m)) (atv vs b).1 (atv vs b).2) ∧ (w = 7 → b + 1 < vs.length ∧ okV g (tn (g.1 88 m)) (atv vs (b + 1)).1 (atv vs (b + 1)).2) := fun b ok2 => by
    refine ⟨fun h5 => ?_, fun h7 => ?_⟩
    · have c0 := chgL_0 (g.1 88 m) h5 w2
      have z := ok2 0 c0.1; rw [c0.2] at z; exact z
    · subst h7
      have c0 := chgL_1 (g.1 88 m)
      have z := ok2 1 c0.1; rw [c0.2] at z; exact z
  have e22 : (22 : Int32) + I3 w - 4 = I3 (18 + w) := by rw [show (22 : Int32) = I3 22 from rfl, show (4 : Int32) = I3 4 from rfl, I3_add, I3_sub (by omega)]; congr 1; omega
  rcases el with ⟨z86, el⟩ | ⟨z86, k, k1, k2, kb, el⟩
  · rw [← e86] at z86
    rw [z86, if_neg (by decide), if_neg (by decide)] at C0
    rw [z86, if_neg (by decide), if_neg (by decide), if_neg (by decide), ldI_I (by omega) (by decide)] at R; simp only [obs] at R
    rw [show F_145 h = some (23, h) from rfl] at C0; simp only [obs] at C0
    rw [CK] at C0; simp only [obs] at C0
    obtain ⟨a1, a2⟩ := arg 0 (fun j hj => by
      rw [Nat.zero_add]
      have hj' : j < vs.length := by rw [vx, el]; exact hj
      have z := F.ty.2 j hj'
      rw [el] at z
      exact ⟨hj', z⟩)
    obtain ⟨u, h', e1, e2, e3⟩ := chg F (fun h K => cell_st K m1' e87 z86) ek.2 (by omega) w1 w2 w8 (Nat.zero_le 2) a1 a2
    rw [← k88] at e1 e2 e3
    rw [show F_110 23 (I3 m) (I3 w) (g.1 88 m) (I3 d) 0 h = some (0, h') from e1] at C0; simp only [obs] at C0
    rw [CC _ C0, er]
    refine Ends_step (step_enter (by omega) F.c64 F.c56 c63 ?_) e3
    rw [R, e22, show F_360 (I3 (18 + w)) (I3 m) 1 (g.1 88 m) 0 g = some u from e2]; rfl
  · rw [← e86] at z86
    have vs0 : vs.length = 1 + (chgL (g.1 88 m) w).length := by rw [vx, el, List.length_cons]; omega
    rw [z86, if_pos rfl, if_pos rfl, show F_78 (I3 d) 0 h = _ from F.c78 (i := 0) (by omega)] at C0; simp only [obs] at C0
    rw [z86, if_pos rfl, if_pos rfl, show F_351 0 g = _ from F.k351 (i := 0) (by omega)] at R; simp only [obs] at R
    have ok0 := F.ty.2 0 (by omega)
    rw [el, show at0 (I3 k :: chgL (g.1 88 m) w) 0 = I3 k from rfl, tnI (by rw [← m_nC F.ar] at k2; omega)] at ok0
    rcases instV F.m.k k1 ok0 with ⟨z1, z2⟩ | ⟨q, t, q1, q2, qb, t1, tv, t96, tsz, z6, z7⟩
    · rw [if_pos z2] at C0
      obtain ⟨u, h', f1, f2, f3⟩ := Fr_fail (rk := tn (hrs g0 x)) F 1
      rw [f2] at C0; simp only [obs] at C0
      rw [CC _ C0]
      refine Ends_step (step_enter (by omega) F.c64 F.c56 c63 ?_) f3
      rw [R, z1, if_pos (show ((0 : Int32), (0 : Int64)).1 = 0 from rfl), f1]; rfl
    · have tn2 : (atv vs 0).2 = I6 t := by rw [tv]
      obtain ⟨sl, s1, -, s2⟩ := fslot F.m.k m1' e87 z86
      rw [if_neg (by rw [z6]; exact z7), show F_77 (I3 d) 0 h = _ from F.c77 (i := 0) (by omega), tn2] at C0; simp only [obs] at C0
      rw [C_thing wX cXq cXhq t1] at C0; simp only [obs] at C0
      rw [CK] at C0; simp only [obs] at C0
      rw [if_neg z7, if_pos (by decide), show F_352 0 g = _ from F.k352 (i := 0) (by omega), tn2] at R; simp only [obs] at R
      rw [ldI_I (by omega) (by decide), s2, I6_32] at R; simp only [obs] at R
      rw [ldI_I (by omega) (by decide)] at R; simp only [obs] at R
      obtain ⟨a1, a2⟩ := arg 1 (fun j hj => by
        have hj' : 1 + j < vs.length := by omega
        have z := F.ty.2 (1 + j) hj'
        rw [el, show at0 (I3 k :: chgL (g.1 88 m) w) (1 + j) = at0 (chgL (g.1 88 m) w) j by rw [Nat.add_comm]; rfl] at z
        exact ⟨hj', z⟩)
      obtain ⟨u, h', e1, e2, e3⟩ := chg F (fun h K => cell_fi K t1 q1 q2 t96 m1' e87 z86 s1 s2) ek.2 (by omega) w1 w2 w8 (show 1 ≤ 2 by decide) a1 a2
      rw [← k88] at e1 e2 e3
      rw [s2, show F_110 (131 + 3 * t) (I3 sl) (I3 w) (g.1 88 m) (I3 d) 1 h = some (0, h') from e1] at C0; simp only [obs] at C0
      rw [CC _ C0, er]
      refine Ends_step (step_enter (by omega) F.c64 F.c56 c63 ?_) e3
      rw [R, e22, show (100 : Int32) * I3 t + I3 sl = I3 (100 * t + sl) by rw [I3_lit, I3_mul, I3_add], show F_360 (I3 (18 + w)) (I3 (100 * t + sl)) 0 (g.1 88 m) 1 g = some u from e2]; rfl
theorem nk_1 (h : sm_H) (c n b j : Nat) : (sm_mk G0 h c n).1 b j = if b = 131 + h.2.2.2.2.2.1 then 0 else h.1 b j := by
  show (if b = 131 + h.2.2.2.2.2.1 then (fun _ => 0) else h.1 b) j = _
  split <;> rfl
theorem nk_2 (h : sm_H) (c n b j : Nat) : (sm_mk G0 h c n).2.1 b j = if b = 131 + h.2.2.2.2.2.1 then 0 else h.2.1 b j := by
  show (if b = 131 + h.2.2.2.2.2.1 then (fun _ => 0) else h.2.1 b) j = _
  split <;> rfl
theorem nk_3 (h : sm_H) (c n b j : Nat) : (sm_mk G0 h c n).2.2.1 b j = if b = 131 + h.2.2.2.2.2.1 then none else h.2.2.1 b j := by
  show (if b = 131 + h.2.2.2.2.2.1 then (fun _ => none) else h.2.2.1 b) j = _
  split <;> rfl
theorem nk_4 (h : sm_H) (c n b : Nat) : (sm_mk G0 h c n).2.2.2.1 b = if b = 131 + h.2.2.2.2.2.1 then c else h.2.2.2.1 b := rfl
theorem nk_5 (h : sm_H) (c n b : Nat) : (sm_mk G0 h c n).2.2.2.2.1 b = if b = 131 + h.2.2.2.2.2.1 then n else h.2.2.2.2.1 b := rfl
theorem nk_6 (h : sm_H) (c n : Nat) : (sm_mk G0 h c n).2.2.2.2.2.1 = h.2.2.2.2.2.1 + 1 := rfl
theorem nk_7 (h : sm_H) (c n : Nat) : (sm_mk G0 h c n).2.2.2.2.2.2 = h.2.2.2.2.2.2 + n := rfl
theorem wR_3 (h : sm_H) (a k : Nat) (o : Option Nat) (b j : Nat) : (sm_wR h a k o).2.2.1 b j = if b = a ∧ j = k then o else h.2.2.1 b j := by
  show (if b = a then (fun i => if i = k then o else h.2.2.1 a i) else h.2.2.1 b) j = _
  by_cases e : b = a
  · subst e
    rw [if_pos rfl]
    by_cases e2 : j = k
    · rw [if_pos e2, if_pos ⟨rfl, e2⟩]
    · rw [if_neg e2, if_neg (fun z => e2 z.2)]
  · rw [if_neg e, if_neg (fun z => e z.1)]
theorem wR_1 (h : sm_H) (a k : Nat) (o : Option Nat) : (sm_wR h a k o).1 = h.1 := rfl
theorem wR_2 (h : sm_H) (a k : Nat) (o : Option Nat) : (sm_wR h a k o).2.1 = h.2.1 := rfl
theorem wR_4 (h : sm_H) (a k : Nat) (o : Option Nat) : (sm_wR h a k o).2.2.2 = h.2.2.2 := rfl
theorem C_new1 {h : sm_H} {t sz : Nat} (ht : t < 1000) (hs : sz ≤ 100) (e21 : h.1 21 2 = I3 t) (hn : h.2.2.2.2.2.1 = 3 * t) : ∃ h1, F_146 (I3 sz) h = some (I3 t, h1) ∧ NwC h h1 t sz ∧ ∀ i, h1.2.1 (132 + 3 * t) i = 0 ∧ h1.1 (133 + 3 * t) i = 0 := by
  have C0 : F_146 (I3 sz) h = F_146_0 (I3 sz) h := rfl
  unfold F_146_0 at C0
  rw [if_neg (I3_nn (by omega)), if_neg (by rw [I3_lit, I3_lt (by decide) (by omega)]; omega), e21, if_pos (by rw [I3_lit, I3_lt (by omega) (by decide)]; omega), hn] at C0
  simp only [obs] at C0
  generalize ha : sm_mk G0 h 8 2 = a at *
  have an : a.2.2.2.2.2.1 = 3 * t + 1 := by rw [← ha, nk_6, hn]
  rw [show F_215 (131 + 3 * t) (I3 sz) a = F_215_0 (131 + 3 * t) (I3 sz) a from rfl] at C0
  unfold F_215_0 at C0
  simp only [obs] at C0
  rw [if_neg (I3_nn (by omega)), if_neg (I3_nn (by omega)), an, show Int32.toNatClampNeg (I3 sz) = sz from I3_clamp (by omega)] at C0
  generalize hb : sm_mk G0 a 101 sz = b at *
  have bn : b.2.2.2.2.2.1 = 3 * t + 2 := by rw [← hb, nk_6, an]
  have a4 : a.2.2.2.1 (131 + 3 * t) = 8 := by rw [← ha, nk_4, hn, if_pos rfl]
  have b4 : b.2.2.2.1 (131 + 3 * t) = 8 := by rw [← hb, nk_4, an, if_neg (by omega), a4]
  rw [if_pos ⟨is_live (by omega) (by rw [bn]; omega) b4, fr_hi (by omega)⟩] at C0
  rw [if_neg (I3_nn (by omega))] at C0
  rw [show (sm_wR b (131 + 3 * t) 0 (some (131 + (3 * t + 1)))).2.2.2.2.2.1 = b.2.2.2.2.2.1 from rfl, bn] at C0
  generalize hc : sm_wR b (131 + 3 * t) 0 (some (131 + (3 * t + 1))) = c at *
  generalize hd : sm_mk G0 c 100 sz = e at *
  have cn : c.2.2.2.2.2.1 = 3 * t + 2 := by rw [← hc]; exact bn
  have en : e.2.2.2.2.2.1 = 3 * t + 3 := by rw [← hd, nk_6, cn]
  have e4 : e.2.2.2.1 (131 + 3 * t) = 8 := by rw [← hd, nk_4, cn, if_neg (by omega), ← hc]; exact b4
  rw [if_pos ⟨is_live (by omega) (by rw [en]; omega) e4, fr_hi (by omega)⟩] at C0
  simp only [obs] at C0
  generalize hf : sm_wR e (131 + 3 * t) 1 (some (131 + (3 * t + 2))) = f at *
  have fn : f.2.2.2.2.2.1 = 3 * t + 3 := by rw [← hf]; exact en
  have f4 : f.2.2.2.1 (131 + 3 * t) = 8 := by rw [← hf]; exact e4
  have sR : sm_stR G0 f 8 22 (I3 t) (131 + 3 * t) = some (sm_wR f 22 t (some (131 + 3 * t))) := by
    unfold sm_stR
    rw [is_live (by omega) (by rw [fn]; omega) f4]
    show (if sm_in (I3 t) 1000 then some (sm_wR f 22 (I3 t).toNatClampNeg (some (131 + 3 * t))) else none) = _
    rw [if_pos (sm_in_I3 (by omega) (by omega)), I3_clamp (by omega)]
  rw [sR] at C0; simp only [obs] at C0
  generalize hk : sm_wR f 22 t (some (131 + 3 * t)) = k at *
  have i1 : ∀ b' j, k.1 b' j = if b' = 133 + 3 * t then 0 else if b' = 132 + 3 * t then 0 else if b' = 131 + 3 * t then 0 else h.1 b' j := fun b' j => by
    rw [← hk, wR_1, ← hf, wR_1, ← hd, nk_1, cn, ← hc, wR_1, ← hb, nk_1, an, ← ha, nk_1, hn, show 131 + (3 * t + 2) = 133 + 3 * t by omega, show 131 + (3 * t + 1) = 132 + 3 * t by omega]
  have i2 : ∀ b' j, k.2.1 b' j = if b' = 133 + 3 * t then 0 else if b' = 132 + 3 * t then 0 else if b' = 131 + 3 * t then 0 else h.2.1 b' j := fun b' j => by
    rw [← hk, wR_2, ← hf, wR_2, ← hd, nk_2, cn, ← hc, wR_2, ← hb, nk_2, an, ← ha, nk_2, hn, show 131 + (3 * t + 2) = 133 + 3 * t by omega, show 131 + (3 * t + 1) = 132 + 3 * t by omega]
  have i3 : ∀ b' j, k.2.2.1 b' j = if b' = 22 ∧ j = t then some (131 + 3 * t) else if b' = 131 + 3 * t ∧ j = 1 then some (133 + 3 * t) else if b' = 133 + 3 * t then none else if b' = 131 + 3 * t ∧ j = 0 then some (132 + 3 * t) else if b' = 132 + 3 * t then none else if b' = 131 + 3 * t then none else h.2.2.1 b' j := fun b' j => by
    rw [← hk, wR_3, ← hf, wR_3, ← hd, nk_3, cn, ← hc, wR_3, ← hb, nk_3, an, ← ha, nk_3, hn, show 131 + (3 * t + 2) = 133 + 3 * t by omega, show 131 + (3 * t + 1) = 132 + 3 * t by omega]
  have i4 : ∀ b', k.2.2.2.1 b' = if b' = 133 + 3 * t then 100 else if b' = 132 + 3 * t then 101 else if b' = 131 + 3 * t then 8 else h.2.2.2.1 b' := fun b' => by
    rw [← hk, wR_4, ← hf, wR_4, ← hd, nk_4, cn, ← hc, wR_4, ← hb, nk_4, an, ← ha, nk_4, hn, show 131 + (3 * t + 2) = 133 + 3 * t by omega, show 131 + (3 * t + 1) = 132 + 3 * t by omega]
  have i5 : ∀ b', k.2.2.2.2.1 b' = if b' = 133 + 3 * t then sz else if b' = 132 + 3 * t then sz else if b' = 131 + 3 * t then 2 else h.2.2.2.2.1 b' := fun b' => by
    rw [← hk, wR_4, ← hf, wR_4, ← hd, nk_5, cn, ← hc, wR_4, ← hb, nk_5, an, ← ha, nk_5, hn, show 131 + (3 * t + 2) = 133 + 3 * t by omega, show 131 + (3 * t + 1) = 132 + 3 * t by omega]
  have i6 : k.2.2.2.2.2.1 = 3 * t + 3 := by rw [← hk, wR_4]; exact fn
  have i7 : k.2.2.2.2.2.2 = h.2.2.2.2.2.2 + (2 + sz + sz) := by
    rw [← hk, wR_4, ← hf, wR_4, ← hd, nk_7, ← hc, wR_4, ← hb, nk_7, ← ha, nk_7]; omega
  have k21 : k.1 21 2 = I3 t := by rw [i1, if_neg (by omega), if_neg (by omega), if_neg (by omega), e21]
  rw [k21, show (sm_wI k 21 2 (I3 t + 1)).1 21 2 = I3 t + 1 from rfl, show I3 t + 1 = I3 (t + 1) from I3_add t 1, show I3 (t + 1) - 1 = I3 t from I3_sub (a := t + 1) (b := 1) (by omega)] at C0
  refine ⟨_, C0, ⟨⟨fun b' j nn => ?_, fun b' j nn => ?_, fun b' j nn => ?_⟩, fun b' hb' => ?_, ?_, ?_, rfl, ?_, ?_, ?_, ⟨?_, ?_, ?_⟩, ?_, ?_⟩, fun i => ⟨?_, ?_⟩⟩
  · rw [wI_rd, if_neg (by omega), i1, if_neg (by omega), if_neg (by omega), if_neg (by omega)]
  · show k.2.1 b' j = _; rw [i2, if_neg (by omega), if_neg (by omega), if_neg (by omega)]
  · show k.2.2.1 b' j = _; rw [i3, if_neg (by omega), if_neg (by omega), if_neg (by omega), if_neg (by omega), if_neg (by omega), if_neg (by omega)]
  · show k.2.2.2.1 b' = _ ∧ k.2.2.2.2.1 b' = _
    rw [i4, i5, if_neg (by omega), if_neg (by omega), if_neg (by omega), if_neg (by omega), if_neg (by omega), if_neg (by omega)]; exact ⟨rfl, rfl⟩
  · show k.2.2.2.2.2.1 = _; rw [i6, hn]
  · show k.2.2.2.2.2.2 = _; rw [i7]
  · show k.2.2.1 22 t = _; rw [i3, if_pos ⟨rfl, rfl⟩]
  · show k.2.2.1 (131 + 3 * t) 0 = _; rw [i3, if_neg (by omega), if_neg (by omega), if_neg (by omega), if_pos ⟨rfl, rfl⟩]
  · show k.2.2.1 (131 + 3 * t) 1 = _; rw [i3, if_neg (by omega), if_pos ⟨rfl, rfl⟩]
  · show k.2.2.2.1 (131 + 3 * t) = _; rw [i4, if_neg (by omega), if_neg (by omega), if_pos rfl]
  · show k.2.2.2.1 (132 + 3 * t) = _; rw [i4, if_neg (by omega), if_pos rfl]
  · show k.2.2.2.1 (133 + 3 * t) = _; rw [i4, if_pos rfl]
  · show k.2.2.2.2.1 (132 + 3 * t) = _; rw [i5, if_neg (by omega), if_pos rfl]
  · show k.2.2.2.2.1 (133 + 3 * t) = _; rw [i5, if_pos rfl]
  · show k.2.1 (132 + 3 * t) i = _; rw [i2, if_neg (by omega), if_pos rfl]
  · rw [wI_rd, if_neg (by omega), i1, if_pos rfl]
theorem C_new0 {h : sm_H} {sz : Nat} (hs : sz ≤ 100) (e21 : h.1 21 2 = I3 1000) : F_146 (I3 sz) h = some (-1, h) := by
  show F_146_0 (I3 sz) h = _
  unfold F_146_0
  rw [if_neg (I3_nn (by omega)), if_neg (by rw [I3_lit, I3_lt (by decide) (by omega)]; omega), e21, if_neg (by decide)]; rfl
theorem NwC.isTh {h h1 : sm_H} {t sz : Nat} (C : NwC h h1 t sz) (hn : h.2.2.2.2.2.1 = 3 * t) (hs : sz ≤ 100) (ht : t < 1000) : isTh h1 (131 + 3 * t) (132 + 3 * t) (133 + 3 * t) sz := by
  have n := C.n
  exact ⟨is_live (by omega) (by omega) C.k.1, (rr_hi (by omega)).trans C.r0, (rr_hi (by omega)).trans C.r1, is_live (by omega) (by omega) C.k.2.1, (ln_hi (by omega)).trans C.l.1, is_live (by omega) (by omega) C.k.2.2, (ln_hi (by omega)).trans C.l.2, by omega, by omega, hs⟩
theorem NwC.put {h h1 : sm_H} {t sz i : Nat} (C : NwC h h1 t sz) (n : Int64) (k : Int32) : NwC h (sm_wI (sm_wJ h1 (132 + 3 * t) i n) (133 + 3 * t) i k) t sz := by
  refine ⟨agr3_trans C.a (agr3_of (agr_wI (agr_wJ agr_rfl (by omega)) (by omega))), C.c, C.n, C.sl, ?_, C.e22, C.r0, C.r1, C.k, C.l⟩
  rw [wI_rd, if_neg (by omega)]; exact C.e21
theorem R_new {g : sm_H} {k sz : Nat} (w : cnt (g.1 67 45) 1000) (h : nX g < 1000) (hs : sz ≤ 100) : F_357 (I3 sz) g = some (0, g) ∧ ∃ g1, F_358 (I3 k) (I3 sz) g = some (I3 (nX g), g1) ∧ NwR g g1 (nX g) k sz ∧ ∀ j, g1.1 98 j = g.1 98 j ∧ g1.2.1 99 j = g.2.1 99 j := by
  have e : g.1 67 45 = I3 (nX g) := w.1
  generalize nX g = t at *
  refine ⟨?_, sm_wI (sm_wI (sm_wI g 96 t (I3 k)) 97 t (I3 sz)) 67 45 (I3 (t + 1)), ?_, ⟨agr_wI (agr_wI (agr_wI agr_rfl (by omega)) (by omega)) (by omega), rfl, ?_, ?_⟩, fun j => ⟨rfl, rfl⟩⟩
  · show F_357_0 (I3 sz) g = _
    unfold F_357_0
    rw [e, if_neg (by rw [I3_lit, I3_le (by decide) (by omega)]; omega), if_neg (by rw [I3_lit, I3_lt (by decide) (by omega)]; omega)]
  · show F_358_0 (I3 k) (I3 sz) g = _
    unfold F_358_0
    rw [e, stI_I (by omega) (by decide)]; simp only [obs]
    rw [show (sm_wI g 96 t (I3 k)).1 67 45 = g.1 67 45 from rfl, e, stI_I (by omega) (by decide)]; simp only [obs]
    rw [show (sm_wI (sm_wI g 96 t (I3 k)) 97 t (I3 sz)).1 67 45 = g.1 67 45 from rfl, e, show I3 t + 1 = I3 (t + 1) from I3_add t 1, show (sm_wI (sm_wI (sm_wI g 96 t (I3 k)) 97 t (I3 sz)) 67 45 (I3 (t + 1))).1 67 45 = I3 (t + 1) from rfl, show I3 (t + 1) - 1 = I3 t from I3_sub (a := t + 1) (b := 1) (by omega)]
  · show (if t = t then I3 k else g.1 96 t) = _; rw [if_pos rfl]
  · show (if t = t then I3 sz else g.1 97 t) = _; rw [if_pos rfl]
theorem R_new0 {g : sm_H} {sz : Nat} (w : cnt (g.1 67 45) 1000) (h : nX g = 1000) : F_357 (I3 sz) g = some (1, sm_wI g 67 64 4) := by
  have e : g.1 67 45 = I3 (nX g) := w.1
  show F_357_0 (I3 sz) g = _
  unfold F_357_0 F_357_18
  rw [e, h, if_pos (by decide)]; rfl
theorem NwR.put {g g1 : sm_H} {t k sz i : Nat} (R : NwR g g1 t k sz) (hi : i < 100) (v : Val) : NwR g (sm_wJ (sm_wI g1 98 (100 * t + i) v.1) 99 (100 * t + i) v.2) t k sz := ⟨agr_wJ (agr_wI R.a (by omega)) (by omega), R.e45, R.e96, R.e97⟩
theorem NwR.s48 {g g' : sm_H} {t k sz : Nat} (R : NwR g g' t k sz) (a : Int32) (b : Int64) : NwR (sm_wJ (sm_wI g 67 48 a) 67 49 b) (sm_wJ (sm_wI g' 67 48 a) 67 49 b) t k sz := by
  refine ⟨⟨fun c j n => ?_, fun c j n => ?_, fun c j n => R.a.2.2.1 c j n, R.a.2.2.2⟩, R.e45, R.e96, R.e97⟩
  · show (sm_wI g' 67 48 a).1 c j = (sm_wI g 67 48 a).1 c j
    rw [wI_rd, wI_rd]
    by_cases q : c = 67 ∧ j = 48
    · rw [if_pos q, if_pos q]
    · rw [if_neg q, if_neg q]; exact R.a.1 c j n
  · rw [wJ_rd, wJ_rd]
    by_cases q : c = 67 ∧ j = 49
    · rw [if_pos q, if_pos q]
    · rw [if_neg q, if_neg q]; exact R.a.2.1 c j n
section
variable {d fuel s0 x vp p s : Nat} {vs : List Val} {h0 g0 h g : sm_H}
theorem Fr_48' (F : Fr d fuel s0 x vp vs h0 g0 h g p s) (a : Int32) (b : Int64) : Fr d fuel s0 x vp vs h0 g0 h (sm_wJ (sm_wI g 67 48 a) 67 49 b) p s := Fr_g F (agr_wJ (agr_wI agr_rfl (by unfold SG; omega)) (by unfold SG; omega))
end
theorem R_fill {g g1 : sm_H} {t k sz : Nat} {v : Val} (R : NwR g g1 t k sz) (t1 : t < 1000) (hs : sz ≤ 100) (e48 : g1.1 67 48 = v.1) (e49 : g1.2.1 67 49 = v.2) (x1 : Int32) (n : Int64) (hn : n.toInt = sz) : ∃ g2, F_359_62 x1 n (I3 t) 0 g1 = (F_345 x1 (Int32.toInt64 (I3 t)) g2) ∧ NwR g g2 t k sz ∧ ∀ i, i < sz → g2.1 98 (100 * t + i) = v.1 ∧ g2.2.1 99 (100 * t + i) = v.2 := by
  have key : ∀ j, j ≤ sz → ∃ g2, F_359_62 x1 n (I3 t) 0 g1 = lp F_359_62B (1000000 - j) (x1, n, I3 t, I3 j, g2) ∧ NwR g g2 t k sz ∧ g2.1 67 48 = v.1 ∧ g2.2.1 67 49 = v.2 ∧ ∀ i, i < j → g2.1 98 (100 * t + i) = v.1 ∧ g2.2.1 99 (100 * t + i) = v.2 := by
    intro j
    induction j with
    | zero => intro _; exact ⟨g1, rfl, R, e48, e49, fun i hi => by omega⟩
    | succ j ih =>
      intro hj
      obtain ⟨g2, e, R2, a1, a2, a3⟩ := ih (by omega)
      refine ⟨sm_wJ (sm_wI g2 98 (100 * t + j) v.1) 99 (100 * t + j) v.2, ?_, R2.put (by omega) v, a1, a2, fun i hi => ?_⟩
      · rw [e, lp_s (n := 1000000 - j) (s' := (x1, n, I3 t, I3 (j + 1), sm_wJ (sm_wI g2 98 (100 * t + j) v.1) 99 (100 * t + j) v.2)) (by omega) ?_]
        · rw [show 1000000 - j - 1 = 1000000 - (j + 1) by omega]
        · unfold F_359_62B
          rw [if_neg (by rw [cmp_ge, toI64, I3_toInt (by omega), hn]; omega), a1, show (100 : Int32) * I3 t + I3 j = I3 (100 * t + j) by rw [I3_lit, I3_mul, I3_add], stI_I (by omega) (by decide)]; simp only [obs]
          rw [show (sm_wI g2 98 (100 * t + j) v.1).2.1 67 49 = g2.2.1 67 49 from rfl, a2, stJ_I (by omega) (by decide)]; simp only [obs]
          rw [show I3 j + 1 = I3 (j + 1) from I3_add j 1]
      · show (if 100 * t + i = 100 * t + j then v.1 else g2.1 98 (100 * t + i)) = v.1 ∧ (if 100 * t + i = 100 * t + j then v.2 else g2.2.1 99 (100 * t + i)) = v.2
        by_cases q : i = j
        · rw [if_pos (by omega), if_pos (by omega)]; exact ⟨rfl, rfl⟩
        · rw [if_neg (by omega), if_neg (by omega)]; exact a3 i (by omega)
  obtain ⟨g2, e, R2, a1, a2, a3⟩ := key sz (Nat.le_refl _)
  refine ⟨g2, ?_, R2, a3⟩
  rw [e]
  have B : F_359_62B (x1, n, I3 t, I3 sz, g2) = (F_345 x1 (Int32.toInt64 (I3 t)) g2).map (fun q => .inr q) := by
    unfold F_359_62B
    rw [if_pos (by rw [cmp_ge, toI64, I3_toInt (by omega), hn]; omega)]
    cases F_345 x1 (Int32.toInt64 (I3 t)) g2 <;> rfl
  cases q : F_345 x1 (Int32.toInt64 (I3 t)) g2 with
  | none =>
    rw [q] at B
    have := lp_n (n := 1000000 - sz - 1) B
    rw [show 1000000 - sz - 1 + 1 = 1000000 - sz by omega] at this; exact this
  | some u => rw [q] at B; exact lp_e (by omega) B
theorem okV_new {h g : sm_H} (K : K1 h g) {k t : Nat} (k1 : 15 ≤ k) (hk : k < 20 + nC g) (k2 : k ≤ 17 ∨ 20 ≤ k) (t1 : t < nX g) (t96 : g.1 96 t = I3 k) : okV g k (I3 k) (I6 t) := Or.inr (Or.inr ⟨by omega, k, rfl, hk, B_self g 12 k, Or.inr (Or.inl ⟨by omega, t, t1, rfl, t96⟩)⟩)
theorem run_20 {rec : Int32 → Int32 → sm_H → Option (Int32 × sm_H)} {d fuel s x vp : Nat} {vs : List Val} {h0 g0 h g : sm_H} (IH : CallOK (d + 1) rec) (F : Fr d fuel s x vp vs h0 g0 h g 0 (s + 1)) (c63 : g.1 67 63 = 0) (c59 : g.1 67 59 = I3 (vp + vs.length)) (eh : sm_wI h0 49 8 (h0.1 49 8 + 1) = h) (lf : h0.1 49 8 < h0.1 49 7) (f : fm g0 x = 20) : Ends d fuel s vp (tn (hrs g0 x)) h0 g0 0 (F_82R rec (I3 x) (I3 d) h0) g := by
  have d1 := F.d1
  have v10 := F.v10
  have x500 := F.x500
  have vl := F.vl
  have vx := F.vx
  have fs := F.fs0
  rw [f] at fs
  have C := B82_20 (rec := rec) (x1 := I3 x) (x2 := I3 d) (by rw [I3_lit, I3_lt (by omega) (by decide)]; omega) lf eh (f ▸ F.f37)
  rw [C]
  have R := B370_20 F.c56 F.l103 F.l105 F.l305 F.l77 F.l78 F.l81 F.l81' (f ▸ F.l75)
  obtain ⟨ep, k, k1, k2, ea, -, r20, -, -⟩ := FS_20 fs
  obtain ⟨er, el⟩ := r20 rfl
  have K := F.m.k
  have h12 := K.1.2.1
  have x1000 := nX_1000 K
  have wX := K.2.2.2.2.2.2.2.2.2.2.2.1
  have cXq := K.2.2.2.2.2.2.2.2.2.2.2.2.1
  have cXhq := K.2.2.2.2.2.2.2.2.2.2.2.2.2.1
  have v0 : 0 < vs.length := by rw [vx, el]; exact Nat.zero_lt_succ _
  have ok0 := F.ty.2 0 v0
  rw [el, show at0 [(5 : Int32)] 0 = 5 from rfl, show tn (5 : Int32) = 5 from rfl] at ok0
  obtain ⟨-, n5⟩ := okV_6 (by decide) (by decide) ok0
  have n5 := n5.2.2.2.2 rfl
  generalize hn : (atv vs 0).2 = n at *
  have c0 : F_77 (I3 d) 0 h = some (n, h) := by have := F.c77 (i := 0) v0; rw [hn] at this; exact this
  have r0 : F_352 0 g = some (n, g) := by have := F.k352 (i := 0) v0; rw [hn] at this; exact this
  have e0 : (0 : Int64).toInt = 0 := rfl
  have e100 : (100 : Int64).toInt = 100 := rfl
  have eR : Int32.toInt64 (Int64.toInt32 n) = n := nar_id (k := 5) (by decide) (by decide) (n := n) ⟨fun z => by (cases z), fun z => by (cases z), fun z => by (cases z), fun z => by (cases z), fun _ => n5⟩
  have en : (Int64.toInt32 n).toInt = n.toInt := by rw [← toI64, eR]
  have C0 := B102_20 (x2 := I3 d) F.f38 (f ▸ F.f37)
  rw [c0, ea] at C0; simp only [obs] at C0
  rw [bind_id, show F_107 (I3 k) (Int64.toInt32 n) h = F_107_0 (I3 k) (Int64.toInt32 n) h from rfl] at C0
  unfold F_107_0 F_107_35 at C0
  have CC : ∀ r, F_102 (I3 x) (I3 d) h = r → F_82_367 rec (I3 x) (I3 d) h = r := fun r e => by unfold F_82_367; rw [bind_id, e]
  rw [bind_id1, ea, show F_359 (I3 k) g = F_359_0 (I3 k) g from rfl] at R
  unfold F_359_0 at R
  rw [r0] at R; simp only [obs] at R
  by_cases q0 : 0 ≤ n.toInt
  · rw [if_pos (by rw [Int32.le_iff_toInt_le, en]; exact q0)] at C0
    rw [if_pos (by rw [cmp_ge, e0]; exact q0)] at R
    by_cases q1 : n.toInt ≤ 100
    · obtain ⟨sz, hsz⟩ : ∃ sz : Nat, n.toInt = sz := ⟨n.toInt.toNat, by omega⟩
      have ei : Int64.toInt32 n = I3 sz := by rw [← Int32.toInt_inj, en, I3_toInt (by omega), hsz]
      rw [ei] at C0 R
      rw [if_pos (by rw [cmp_le, e100]; exact q1)] at R
      by_cases q2 : nX g < 1000
      · obtain ⟨h1, a1, N1, z1⟩ := C_new1 (h := h) (t := nX g) (sz := sz) q2 (by omega) (cXq.1.trans wX.1.1) cXhq.1
        obtain ⟨b0, g1, b1, N2, z2⟩ := R_new (k := k) (sz := sz) wX.1 q2 (by omega)
        rw [a1] at C0; simp only [obs] at C0
        rw [if_neg (I3_m1 (by omega))] at C0
        rw [b0] at R; simp only [obs] at R
        rw [if_pos trivial, b1] at R; simp only [obs] at R
        rw [R_elem g1 k1 k2] at R; simp only [obs] at R
        rw [R_zero (by omega)] at R; simp only [obs] at R
        have N3 := N2.s48 (zk (I3 (k - 10))) 0
        obtain ⟨g2, f1, N4, f2⟩ := R_fill (v := (zk (I3 (k - 10)), 0)) N3 q2 (show sz ≤ 100 by omega) rfl rfl (I3 k) n hsz
        rw [f1] at R
        have F1 := Fr_48' F (zk (I3 (k - 10))) 0
        have es : sz = if k < 20 then sz else 24 := by rw [if_pos (by omega)]
        obtain ⟨K', w1, w2, w3, w4⟩ := T_new F1.m.k q2 k1 (by show k < 20 + nC g; omega) (show sz ≤ 100 by omega) (show sz ≤ 100 by omega) N1 N4 es (fun i hi => by
          show h1.2.1 (132 + 3 * nX g) i = g2.2.1 99 (100 * nX g + i) ∧ h1.1 (133 + 3 * nX g) i = tag (g2.1 98 (100 * nX g + i))
          rw [(z1 i).1, (z1 i).2, (f2 i hi).1, (f2 i hi).2, tag_zk]; exact ⟨rfl, rfl⟩) (Or.inl ⟨k2, fun i hi => by
          show okV _ (k - 10) (g2.1 98 (100 * nX g + i)) (g2.2.1 99 (100 * nX g + i))
          rw [(f2 i hi).1, (f2 i hi).2]; exact okV_zk (by omega)⟩)
        have F2 := Fr_th F1 K' w1 w2 w3
        have nC2 : nC g2 = nC g := by show tn _ = tn _; rw [w2.1 67 6 (by unfold SRx; omega)]; rfl
        obtain ⟨u, h', e1, e2, e3⟩ := Fr_give (rk := k) F2 (I3 k) (I6 (nX g)) (okV_new K' k1 (by omega) (Or.inl k2) (by show nX g < nX g2; rw [w4]; exact Nat.lt_succ_self _) N4.e96)
        rw [tag_I (by omega) (by omega)] at e2
        rw [I3_64 (by omega), e2] at C0; simp only [obs] at C0
        rw [CC _ C0, er, ea, tnI (by omega)]
        refine Ends_step (step_enter (by omega) F.c64 F.c56 c63 ?_) e3
        rw [R, I3_64 (by omega), e1]
      · have q3 : nX g = 1000 := by omega
        rw [C_new0 (by omega) (by rw [cXq.1, wX.1.1]; show I3 (nX g) = _; rw [q3])] at C0; simp only [obs] at C0
        rw [R_new0 wX.1 q3] at R; simp only [obs] at R
        rw [if_pos trivial] at C0
        rw [if_neg (by decide)] at R
        rw [CC _ C0]
        exact Ends_step (step_enter (by omega) F.c64 F.c56 c63 R) (Fr_full F)
    · rw [if_neg (by rw [cmp_le, e100]; exact q1)] at R
      have C1 : F_146 (Int64.toInt32 n) h = some (-1, h) := by
        show F_146_0 (Int64.toInt32 n) h = _
        unfold F_146_0
        rw [if_neg (by rw [Int32.lt_iff_toInt_lt, en, show (0 : Int32).toInt = 0 from rfl]; omega), if_pos (by rw [Int32.lt_iff_toInt_lt, en, show (100 : Int32).toInt = 100 from rfl]; omega)]; rfl
      rw [C1] at C0; simp only [obs] at C0
      rw [if_pos trivial] at C0
      rw [CC _ C0]
      exact Ends_step (step_enter (by omega) F.c64 F.c56 c63 R) (Fr_full F)
  · rw [if_neg (by rw [Int32.le_iff_toInt_le, en]; exact q0)] at C0
    rw [if_neg (by rw [cmp_ge, e0]; exact q0)] at R
    obtain ⟨u, h', f1, f2, f3⟩ := Fr_fail (rk := tn (hrs g0 x)) F 4
    rw [f2] at C0; simp only [obs] at C0
    rw [CC _ C0]
    refine Ends_step (step_enter (by omega) F.c64 F.c56 c63 ?_) f3
    rw [R, f1]; rfl
theorem NwC.thing {h h1 : sm_H} {t sz : Nat} (C : NwC h h1 t sz) (ht : t < 1000) : F_147 (I6 t) h1 = some (131 + 3 * t, h1) := by
  have l : sm_ldR G0 h1 22 (I3 t) = some (some (131 + 3 * t)) := by
    show (if sm_in (I3 t) 1000 then some (h1.2.2.1 22 (I3 t).toNatClampNeg) else none) = _
    rw [if_pos (sm_in_I3 (by omega) (by omega)), I3_clamp (by omega), C.e22]
  have e0 : (0 : Int64).toInt = 0 := rfl
  show F_147_0 (I6 t) h1 = _
  unfold F_147_0
  rw [if_neg (by rw [cmp_lt, I6_toInt (by omega), e0]; omega), C.e21, if_pos (by rw [cmp_lt, I6_toInt (by omega), toI64, I3_toInt (by omega)]; omega), I6_32, l]
  rfl
theorem at0_rep (k : Int32) : ∀ (n i : Nat), i < n → at0 (List.replicate n k) i = k := fun n i hi => by
  unfold at0; rw [List.getD_eq_getElem?_getD, List.getElem?_replicate, if_pos hi]; rfl
theorem run_11 {rec : Int32 → Int32 → sm_H → Option (Int32 × sm_H)} {d fuel s x vp : Nat} {vs : List Val} {h0 g0 h g : sm_H} (IH : CallOK (d + 1) rec) (F : Fr d fuel s x vp vs h0 g0 h g 0 (s + 1)) (c63 : g.1 67 63 = 0) (c59 : g.1 67 59 = I3 (vp + vs.length)) (eh : sm_wI h0 49 8 (h0.1 49 8 + 1) = h) (lf : h0.1 49 8 < h0.1 49 7) (f : fm g0 x = 11) : Ends d fuel s vp (tn (hrs g0 x)) h0 g0 0 (F_82R rec (I3 x) (I3 d) h0) g := by
  have d1 := F.d1
  have v10 := F.v10
  have x500 := F.x500
  have vl := F.vl
  have vx := F.vx
  have fs := F.fs0
  rw [f] at fs
  have C := B82_11 (rec := rec) (x1 := I3 x) (x2 := I3 d) (by rw [I3_lit, I3_lt (by omega) (by decide)]; omega) lf eh (f ▸ F.f37)
  rw [C]
  have R := B370_11 F.c56 F.l103 F.l105 F.l305 F.l77 F.l78 F.l81 F.l81' (f ▸ F.l75)
  obtain ⟨y, n, k, m, y1, ep, hn, eb, k1, k2, ey, er, el⟩ := FS_11 fs
  have K := F.m.k
  have h12 := K.1.2.1
  have x1000 := nX_1000 K
  have ny := F.n10 y1
  have wX := K.2.2.2.2.2.2.2.2.2.2.2.1
  have cXq := K.2.2.2.2.2.2.2.2.2.2.2.2.1
  have cXhq := K.2.2.2.2.2.2.2.2.2.2.2.2.2.1
  have pl1 : (prt g0 x).length = 1 := by rw [ep]; rfl
  have e81 : g0.1 81 (24 * x) = I3 y := by have := F.at81 (k := 0) (by omega); rw [ep] at this; exact this
  have ly : (hpl g0 y).length = m.length + 1 := by rw [ey, List.length_append]; rfl
  have lx : vs.length = m.length + n := by rw [vx, el, List.length_append, List.length_replicate]
  generalize hM : m.length = M at *
  have v10 := F.v10
  have ky : at0 (hpl g0 y) M = I3 k := by rw [ey, at0_app2 (by omega), hM, Nat.sub_self]; rfl
  have y1' : y < nH g := by rw [m_nH F.ar]; exact y1
  have oks : ∀ i, i < n → okV g (k - 10) (atv vs (M + i)).1 (atv vs (M + i)).2 := fun i hi => by
    have z := F.ty.2 (M + i) (by omega)
    rw [el, at0_app2 (by omega), hM, Nat.add_sub_cancel_left, at0_rep _ _ _ hi, tnI (by omega)] at z; exact z
  have CC : ∀ r, F_88 rec (I3 x) (I3 d) h = r → ((F_88 rec (I3 x) (I3 d) h).bind fun q17 => some (q17.1, q17.2)) = r := fun r e => by rw [bind_id, e]
  have C0 : F_88 rec (I3 x) (I3 d) h = F_88_0 rec (I3 x) (I3 d) h := rfl
  unfold F_88_0 at C0
  rw [show F_43 (I3 x) 0 h = some (I3 y, h) by have := F.f43 (k := 0) (by omega); rw [ep] at this; exact this] at C0; simp only [obs] at C0
  rw [F.cmn y1, ly] at C0; simp only [obs] at C0
  rw [F.f39, eb] at C0; simp only [obs] at C0
  rw [show I3 (M + 1) - 1 = I3 M from I3_sub (a := M + 1) (b := 1) (by omega)] at C0
  rw [bind_id1, e81, eb, show F_367 (I3 y) (I3 n) g = F_367_0 (I3 y) (I3 n) g from rfl] at R
  unfold F_367_0 at R
  simp only [obs] at R
  rw [F.c56, show I3 (d + 1) - 1 = I3 d from I3_sub (a := d + 1) (b := 1) (by omega), F.l103] at R; simp only [obs] at R
  rw [F.l305] at R; simp only [obs] at R
  by_cases q2 : nX g < 1000
  · obtain ⟨h1, a1, N1, z1⟩ := C_new1 (h := h) (t := nX g) (sz := n) q2 (by omega) (cXq.1.trans wX.1.1) cXhq.1
    obtain ⟨b0, g1, b1, N2, z2⟩ := R_new (k := k) (sz := n) wX.1 q2 (by omega)
    generalize ht : nX g = t at *
    rw [a1] at C0; simp only [obs] at C0
    rw [if_neg (I3_m1 (by omega)), I3_64 (by omega), N1.thing q2] at C0; simp only [obs] at C0
    rw [b0] at R; simp only [obs] at R
    rw [if_pos trivial, F.mn y1, ly] at R; simp only [obs] at R
    have hM0 : M < tM g (ty g y) := by rw [← hpl_len, m_hpl F.ar]; omega
    rw [show I3 (M + 1) - 1 = I3 M from I3_sub (a := M + 1) (b := 1) (by omega), R_place K.2.2.1 K.2.2.2.2.1 y1' hM0, show g.1 74 (10 * ty g y + M) = I3 k by
      rw [← ky, ← m_hpl F.ar]; exact (at0_lst (f := fun k => g.1 74 (10 * ty g y + k)) hM0).symm] at R; simp only [obs] at R
    rw [b1] at R; simp only [obs] at R
    have CL : ∀ j, j ≤ n → ∃ h2, F_88_66 rec (I3 d) (I3 y) (I3 M) (I3 n) (I3 t) (131 + 3 * t) 0 h1 = lp (F_88_66B rec) (1000000 - j) (I3 d, I3 y, I3 M, I3 n, I3 t, 131 + 3 * t, I3 j, h2) ∧ NwC h h2 t n ∧ ∀ i, i < j → h2.2.1 (132 + 3 * t) i = (atv vs (M + i)).2 ∧ h2.1 (133 + 3 * t) i = tag (atv vs (M + i)).1 := by
      intro j
      induction j with
      | zero => intro _; exact ⟨h1, rfl, N1, fun i hi => by omega⟩
      | succ j ih =>
        intro hj
        obtain ⟨h2, e, N, a⟩ := ih (by omega)
        have th := N.isTh (cXhq.1.trans (by rw [ht])) (by omega) q2
        refine ⟨_, ?_, N.put (i := j) (atv vs (M + j)).2 (tag (atv vs (M + j)).1), fun i hi => ?_⟩
        · rw [e, lp_s (n := 1000000 - j) (s' := (I3 d, I3 y, I3 M, I3 n, I3 t, 131 + 3 * t, I3 (j + 1), sm_wI (sm_wJ h2 (132 + 3 * t) j (atv vs (M + j)).2) (133 + 3 * t) j (tag (atv vs (M + j)).1))) (by omega) ?_]
          · rw [show 1000000 - j - 1 = 1000000 - (j + 1) by omega]
          · have f1 := (F.fr (M + j) (by omega)).1
            have f2 := (F.fr (M + j) (by omega)).2
            unfold F_88_66B
            rw [if_neg (by rw [I3_le (by omega) (by omega)]; omega), if_neg (by rw [I3_lit, I3_le (by decide) (by omega)]; omega), I3_add, C_num (by omega) (by omega), N.a.2.1 50 _ (by omega), f1]; simp only [obs]
            rw [C_tg (by omega) (by omega), N.a.1 51 _ (by omega), f2]; simp only [obs]
            rw [if_neg (not_not_intro th.1), C_thchg th (by omega)]; simp only [obs]
            rw [show I3 j + 1 = I3 (j + 1) from I3_add j 1]
        · rw [wI_1, wJ_rd, wI_rd, show (sm_wJ h2 (132 + 3 * t) j (atv vs (M + j)).2).1 = h2.1 from rfl]
          by_cases q : i = j
          · rw [if_pos ⟨rfl, q⟩, if_pos ⟨rfl, q⟩, q]; exact ⟨rfl, rfl⟩
          · rw [if_neg (fun z => q z.2), if_neg (fun z => q z.2)]; exact a i (by omega)
    have RL : ∀ j, j ≤ n → ∃ g2, F_367_54 (I3 y) (I3 n) (I3 d) (I3 vs.length) (I3 k) (I3 t) 0 g1 = lp F_367_54B (1000000 - j) (I3 y, I3 n, I3 d, I3 vs.length, I3 k, I3 t, I3 j, g2) ∧ NwR g g2 t k n ∧ ∀ i, i < j → g2.1 98 (100 * t + i) = (atv vs (M + i)).1 ∧ g2.2.1 99 (100 * t + i) = (atv vs (M + i)).2 := by
      intro j
      induction j with
      | zero => intro _; exact ⟨g1, rfl, N2, fun i hi => by omega⟩
      | succ j ih =>
        intro hj
        obtain ⟨g2, e, N, a⟩ := ih (by omega)
        refine ⟨_, ?_, N.put (i := j) (by omega) (atv vs (M + j)), fun i hi => ?_⟩
        · rw [e, lp_s (n := 1000000 - j) (s' := (I3 y, I3 n, I3 d, I3 vs.length, I3 k, I3 t, I3 (j + 1), sm_wJ (sm_wI g2 98 (100 * t + j) (atv vs (M + j)).1) 99 (100 * t + j) (atv vs (M + j)).2)) (by omega) ?_]
          · rw [show 1000000 - j - 1 = 1000000 - (j + 1) by omega]
          · have f1 := (F.st (M + j) (by omega)).1
            have f2 := (F.st (M + j) (by omega)).2
            have e105 : ldI g2 105 100 (I3 d) = some (I3 vp) := by rw [ldI_I d1 (by decide), N.a.1 105 d (by omega), F.c105]
            have ix : I3 vp + I3 vs.length - I3 n + I3 j = I3 (vp + (M + j)) := by
              rw [I3_add, I3_sub (by omega), I3_add]; congr 1; omega
            unfold F_367_54B
            rw [if_neg (by rw [I3_le (by omega) (by omega)]; omega), e105]; simp only [obs]
            rw [ix, ldI_I (by omega) (by decide), N.a.1 108 _ (by omega), f1]; simp only [obs]
            rw [show (100 : Int32) * I3 t + I3 j = I3 (100 * t + j) by rw [I3_lit, I3_mul, I3_add], stI_I (by omega) (by decide)]; simp only [obs]
            rw [show ldI (sm_wI g2 98 (100 * t + j) (atv vs (M + j)).1) 105 100 (I3 d) = some (I3 vp) by rw [← e105, ldI_I d1 (by decide), ldI_I d1 (by decide)]; rfl]; simp only [obs]
            rw [ix, ldJ_I (by omega) (by decide), show (sm_wI g2 98 (100 * t + j) (atv vs (M + j)).1).2.1 109 (vp + (M + j)) = g2.2.1 109 (vp + (M + j)) from rfl, N.a.2.1 109 _ (by omega), f2]; simp only [obs]
            rw [stJ_I (by omega) (by decide)]; simp only [obs]
            rw [show I3 j + 1 = I3 (j + 1) from I3_add j 1]
        · show (if 100 * t + i = 100 * t + j then (atv vs (M + j)).1 else g2.1 98 (100 * t + i)) = _ ∧ (if 100 * t + i = 100 * t + j then (atv vs (M + j)).2 else g2.2.1 99 (100 * t + i)) = _
          by_cases q : i = j
          · rw [if_pos (by omega), if_pos (by omega), q]; exact ⟨rfl, rfl⟩
          · rw [if_neg (by omega), if_neg (by omega)]; exact a i (by omega)
    obtain ⟨h2, c1, N3, c2⟩ := CL n (Nat.le_refl _)
    obtain ⟨g2, r1, N4, r2⟩ := RL n (Nat.le_refl _)
    have es : n = if k < 20 then n else 24 := by rw [if_pos (by omega)]
    obtain ⟨K', w1, w2, w3, w4⟩ := T_new K (by omega) k1 (by omega) (show n ≤ 100 by omega) (show n ≤ 100 by omega) (ht ▸ N3) (ht ▸ N4) es (fun i hi => by
      rw [ht, (c2 i hi).1, (c2 i hi).2, (r2 i hi).1, (r2 i hi).2]; exact ⟨rfl, rfl⟩) (Or.inl ⟨k2, fun i hi => by rw [ht, (r2 i hi).1, (r2 i hi).2]; exact oks i hi⟩)
    have F2 := Fr_th F K' w1 w2 w3
    rw [ht] at w4
    have nC2 : nC g2 = nC g := by show tn _ = tn _; rw [w2.1 67 6 (by unfold SRx; omega)]
    have okt : okV g2 k (I3 k) (I6 t) := okV_new K' k1 (by omega) (Or.inl k2) (by omega) N4.e96
    have c59' : g2.1 67 59 = I3 (vp + vs.length) := (w2.1 67 59 (by unfold SRx; omega)).trans c59
    obtain ⟨h3, l1, L1⟩ := C_lend (i := 0) (n := M) (Ly_0 h2 (d + 1)) F2.fr d1 (by omega) (by omega) (by simp only [List.length_nil]; omega)
    obtain ⟨g3, p1, P1⟩ := R_copy (i := 0) (n := M) (Ph_0 c59') F2.st (Nat.le_refl _) (by omega) (by simp only [List.length_nil]; omega)
    rw [List.nil_append] at L1 P1
    have s1 : (sub vs 0 M).length = M := sub_len (by omega)
    obtain ⟨h4, l2, L2⟩ := C_lay1 L1 (by omega) (by omega) (I3 k, I6 t)
    obtain ⟨g4, p2, P2⟩ := R_push P1 (by omega) (I3 k, I6 t)
    rw [s1, tag_I (by omega) (by omega)] at l2
    have tw : tyV g2 (hpl g0 y) (sub vs 0 M ++ [(I3 k, I6 t)]) := by
      have z := tyV_app (tyV_sub F2.ty (i := 0) (n := M) (by omega)) (tyV_1 (k := I3 k) (v := (I3 k, I6 t)) (by rw [tnI (by omega)]; exact okt))
      have e3 : seg (hpl g0 x) 0 M = m := by
        rw [seg_take (by omega), el, List.take_append_of_le_length (by omega), ← hM, List.take_length]
      rw [e3, ← ey] at z; exact z
    obtain ⟨u, f1, f2⟩ := tail2 IH F2 y1 (Nat.le_refl _) (by omega) L2 P2 tw
    have F3 := Fr_Ly F2 L1
    have Cfin : F_88 rec (I3 x) (I3 d) h = rec (I3 y) (I3 (d + 1)) h4 := by
      rw [C0, c1]
      have fin : ∀ (r : Option (Int32 × sm_H)), F_88_66B rec (I3 d, I3 y, I3 M, I3 n, I3 t, 131 + 3 * t, I3 n, h2) = r.map (fun q => .inr q) → lp (F_88_66B rec) (1000000 - n) (I3 d, I3 y, I3 M, I3 n, I3 t, 131 + 3 * t, I3 n, h2) = r := fun r z => by
        cases r with
        | none =>
          have := lp_n (n := 1000000 - n - 1) z
          rw [show 1000000 - n - 1 + 1 = 1000000 - n by omega] at this; exact this
        | some r => exact lp_e (by omega) z
      refine fin _ ?_
      unfold F_88_66B F_88_113
      rw [if_pos (by rw [I3_le (by omega) (by omega)]; omega), show F_80 (I3 d) 0 0 (I3 M) h2 = some h3 from l1]; simp only [obs]
      have hM' : M < tM g2 (ty g2 y) := by rw [← hpl_len, m_hpl F2.ar]; omega
      rw [C_place F3.m.k.2.2.1 F3.m.k.2.2.2.2.1 F3.m.k.2.2.2.2.2.1 (by rw [m_nH F2.ar]; exact y1) hM', show g2.1 74 (10 * ty g2 y + M) = I3 k by
        rw [← ky, ← m_hpl F2.ar]; exact (at0_lst (f := fun k => g2.1 74 (10 * ty g2 y + k)) hM').symm]; simp only [obs]
      rw [show I3 d + 1 = I3 (d + 1) from I3_add d 1, I3_64 (by omega), l2]; simp only [obs]
      rw [bind_id]
    rw [CC _ Cfin, er]
    refine Ends_step (step_enter (by omega) F.c64 F.c56 c63 ?_) f2
    rw [R, r1]
    refine lp_e (by omega) ?_
    unfold F_367_54B
    rw [if_pos (by rw [I3_le (by omega) (by omega)]; omega), F2.l105]; simp only [obs]
    rw [show I3 vp + I3 vs.length - I3 n = I3 (vp + M) by rw [I3_add, I3_sub (by omega)]; congr 1; omega, show F_343 (I3 vp) (I3 (vp + M)) g2 = some g3 from p1]; simp only [obs]
    rw [I3_64 (by omega), show F_342 (I3 k) (I6 t) g3 = some g4 from p2]; simp only [obs]
    rw [f1]; simp only [obs]
  · have q3 : nX g = 1000 := by omega
    rw [C_new0 (by omega) (by rw [cXq.1, wX.1.1]; show I3 (nX g) = _; rw [q3])] at C0; simp only [obs] at C0
    rw [R_new0 wX.1 q3] at R; simp only [obs] at R
    rw [if_pos trivial] at C0
    rw [if_neg (by decide)] at R
    rw [CC _ C0]
    exact Ends_step (step_enter (by omega) F.c64 F.c56 c63 R) (Fr_full F)
