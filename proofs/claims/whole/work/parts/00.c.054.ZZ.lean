abbrev pt (ps : List Int32) (i z : Nat) : Int32 := at0 ps (4 * i + z)
def cA (g : sm_H) (ps : List Int32) (i : Nat) : Bool := decide (pt ps i 0 = -1) || (decide (pt ps i 1 = -1) || decide (hrs g (tn (pt ps i 0)) = hrs g (tn (pt ps i 1))))
def cB (ps : List Int32) (i : Nat) : Bool := decide (pt ps i 3 = -1) || !decide (pt ps i 2 = -1)
def cC (g : sm_H) (ps : List Int32) (i : Nat) : Bool := decide (pt ps i 2 = -1) || decide (hrs g (tn (pt ps i 2)) = 1)
def cD (g : sm_H) (ps : List Int32) (t i : Nat) : Bool := decide (pt ps i 3 = -1) || decide (hrs g (tn (pt ps i 3)) = rs g t)
def cE (g : sm_H) (ps : List Int32) (t i : Nat) : Bool := decide (pt ps i 0 = -1) || fitB (hpl g (tn (pt ps i 0))) (pl g t) 0 0
def cFz (g : sm_H) (W ps : List Int32) (i z : Nat) : Bool := decide (pt ps i z = -1) || fitB (hpl g (tn (pt ps i z))) W 0 0
def P1 (g : sm_H) (ps : List Int32) (t i : Nat) : Bool := cA g ps i && (cB ps i && (cC g ps i && cD g ps t i))
def P2 (g : sm_H) (W ps : List Int32) (t i : Nat) : Bool := cE g ps t i && (cFz g W ps i 1 && (cFz g W ps i 2 && cFz g W ps i 3))
def hasK (ps : List Int32) (k : Nat) : Bool := !all1 (fun i => decide (pt ps i 2 = -1)) k
theorem hasK_s (ps : List Int32) (k : Nat) : hasK ps (k + 1) = (hasK ps k || !decide (pt ps k 2 = -1)) := by
  unfold hasK; rw [all1_succ]; cases all1 (fun i => decide (pt ps i 2 = -1)) k <;> cases decide (pt ps k 2 = -1) <;> rfl
theorem vrs_s (g : sm_H) (ps : List Int32) (k : Nat) : vrs g ps (k + 1) = vrs g ps k ++ (if vk g ps k = 0 then [] else [vk g ps k]) := by
  unfold vrs
  rw [List.range_succ, List.map_append, List.filter_append]
  congr 1
  by_cases q : vk g ps k = 0
  · rw [if_pos q]; simp [q]
  · rw [if_neg q]; simp [q]
theorem vrs_len (g : sm_H) (ps : List Int32) (k : Nat) : (vrs g ps k).length ≤ k := by
  induction k with
  | zero => exact Nat.le_refl 0
  | succ k ih =>
    rw [vrs_s, List.length_append]
    by_cases q : vk g ps k = 0
    · rw [if_pos q]; simp only [List.length_nil]; omega
    · rw [if_neg q]; simp only [List.length_cons, List.length_nil]; omega
abbrev LPt (g : sm_H) (ps : List Int32) (n : Nat) : Prop := (ps.length = 4 * n) ∧ (0 < n) ∧ (n ≤ 4) ∧ (∀ i z, i < n → z < 4 → pt ps i z = -1 ∨ ∃ y, y < nH g ∧ pt ps i z = I3 y ∧ tn (pt ps i z) = y ∧ pt ps i z ≠ -1)
theorem LPt.l {g : sm_H} {ps : List Int32} {n : Nat} (F_ : LPt g ps n) : ps.length = 4 * n := F_.1
theorem LPt.n0 {g : sm_H} {ps : List Int32} {n : Nat} (F_ : LPt g ps n) : 0 < n := F_.2.1
theorem LPt.n4 {g : sm_H} {ps : List Int32} {n : Nat} (F_ : LPt g ps n) : n ≤ 4 := F_.2.2.1
theorem LPt.h {g : sm_H} {ps : List Int32} {n : Nat} (F_ : LPt g ps n) : ∀ i z, i < n → z < 4 → pt ps i z = -1 ∨ ∃ y, y < nH g ∧ pt ps i z = I3 y ∧ tn (pt ps i z) = y ∧ pt ps i z ≠ -1 := F_.2.2.2
theorem LPt.c {g : sm_H} {ps : List Int32} {n : Nat} (L : LPt g ps n) {i z : Nat} (hi : i < n) (hz : z < 4) {α : Prop} (h1 : pt ps i z = -1 → α) (h2 : ∀ y, y < nH g → pt ps i z = I3 y → tn (pt ps i z) = y → pt ps i z ≠ -1 → α) : α := by
  rcases L.h i z hi hz with q | ⟨y, y1, y2, y3, y4⟩
  · exact h1 q
  · exact h2 y y1 y2 y3 y4
theorem vk_k {h g : sm_H} (K : K1 h g) {ps : List Int32} {n i : Nat} (L : LPt g ps n) (hi : i < n) : ∃ q, vk g ps i = I3 q ∧ q < 20 + nC g := by
  unfold vk
  refine L.c hi (show 1 < 4 by omega) (fun e => ?_) (fun y y1 y2 y3 y4 => ?_)
  · have e' : at0 ps (4 * i + 1) = -1 := e
    rw [if_neg (not_not_intro e')]
    refine L.c hi (show 0 < 4 by omega) (fun e0 => ?_) (fun y y1 y2 y3 y4 => ?_)
    · rw [if_neg (not_not_intro (show at0 ps (4 * i) = -1 from e0))]; exact ⟨0, rfl, by omega⟩
    · rw [if_pos (show at0 ps (4 * i) ≠ -1 from y4), show tn (at0 ps (4 * i)) = y from y3]; exact rs_k K y1
  · rw [if_pos (show at0 ps (4 * i + 1) ≠ -1 from y4), show tn (at0 ps (4 * i + 1)) = y from y3]; exact rs_k K y1
abbrev vS (h2 : sm_H) (vs : List Int32) : Prop := (h2.1 34 6 = I3 vs.length) ∧ (∀ k, k < vs.length → h2.1 37 k = at0 vs k)
theorem vS.n {h2 : sm_H} {vs : List Int32} (F_ : vS h2 vs) : h2.1 34 6 = I3 vs.length := F_.1
theorem vS.v {h2 : sm_H} {vs : List Int32} (F_ : vS h2 vs) : ∀ k, k < vs.length → h2.1 37 k = at0 vs k := F_.2
abbrev S37 (b j : Nat) : Prop := b = 34 ∧ j = 6 ∨ b = 37
theorem agr_fS37 {h h1 : sm_H} {f a b : Int32} {c : Int64} {o p : Nat} {ps : List Int32} (S : fS h f a b c o p ps) (op : oP o p) (ag : agr S37 h h1) : fS h1 f a b c o p ps := by
  have e : ∀ j, j ≠ 6 → h1.1 34 j = h.1 34 j := fun j hj => ag.1 34 j (by unfold S37; omega)
  refine ⟨(e 7 (by decide)).trans S.f7, (e 8 (by decide)).trans S.f8, (e 9 (by decide)).trans S.f9, (ag.2.1 34 10 (by unfold S37; omega)).trans S.f10, ?_, (e 12 (by decide)).trans S.f12, (e 13 (by decide)).trans S.f13, (e 14 (by decide)).trans S.f14, S.w, hasL_agr S.r ag (fun j => by unfold S37; unfold oP at op; omega)⟩
  show h1.2.2.1 34 11 = some o
  rw [ag.2.2.1 34 11 (by unfold S37; omega)]
  exact S.f11
theorem S37_sc (b j : Nat) (z : S37 b j) : Ssc b j := Or.inr (by unfold S37 at z; omega)
theorem C_vk {h g : sm_H} (K : K1 h g) {ps : List Int32} {n i : Nat} (L : LPt g ps n) (hi : i < n) : F_47 (pt ps i 0) (pt ps i 1) h = some (vk g ps i, h) := by
  have wH := K.2.2.2.2.1
  have cHq := K.2.2.2.2.2.1
  have w500 : nH g ≤ 500 := wH.1.2
  have e11 : h.1 10 11 = I3 (nH g) := cHq.1.trans wH.1.1
  have go : ∀ y, y < nH g → F_47_10 (I3 y) h = some (hrs g y, h) := fun y y1 => by
    unfold F_47_10 F_47_33
    rw [if_neg (I3_nn (by omega)), e11, if_pos (by rw [I3_lt (by omega) (by omega)]; exact y1), ldI_I (by omega) (by omega), (cHq.2.2.2 y y1).1]; rfl
  show F_47_0 (pt ps i 0) (pt ps i 1) h = _
  unfold F_47_0 vk
  refine L.c hi (show 1 < 4 by omega) (fun e => ?_) (fun y y1 y2 y3 y4 => ?_)
  · rw [if_pos e, if_neg (not_not_intro (show at0 ps (4 * i + 1) = -1 from e))]
    refine L.c hi (show 0 < 4 by omega) (fun e0 => ?_) (fun y y1 y2 y3 y4 => ?_)
    · rw [if_neg (not_not_intro (show at0 ps (4 * i) = -1 from e0)), e0]
      unfold F_47_10
      rw [if_pos (by decide)]; rfl
    · rw [if_pos (show at0 ps (4 * i) ≠ -1 from y4), show tn (at0 ps (4 * i)) = y from y3, y2, go y y1]
  · rw [if_neg y4, if_pos (show at0 ps (4 * i + 1) ≠ -1 from y4), show tn (at0 ps (4 * i + 1)) = y from y3, y2, go y y1]
theorem R_vk {h g u : sm_H} {r : Int32} {l : List Int32} (K : K1 h g) (e : E h g u r l) {ps : List Int32} {n i : Nat} (L : LPt g ps n) (hi : i < n) : F_332 (pt ps i 0) (pt ps i 1) u = some (vk g ps i, u) := by
  show F_332_0 (pt ps i 0) (pt ps i 1) u = _
  unfold F_332_0 vk F_332_27
  refine L.c hi (show 1 < 4 by omega) (fun z => ?_) (fun y y1 y2 y3 y4 => ?_)
  · rw [if_pos z, if_neg (not_not_intro (show at0 ps (4 * i + 1) = -1 from z))]
    refine L.c hi (show 0 < 4 by omega) (fun e0 => ?_) (fun y y1 y2 y3 y4 => ?_)
    · rw [if_neg (not_not_intro (show at0 ps (4 * i) = -1 from e0)), if_pos e0]
    · rw [if_pos (show at0 ps (4 * i) ≠ -1 from y4), show tn (at0 ps (4 * i)) = y from y3, if_neg y4, y2, E_result e y1]; rfl
  · rw [if_neg y4, if_pos (show at0 ps (4 * i + 1) ≠ -1 from y4), show tn (at0 ps (4 * i + 1)) = y from y3, y2, E_result e y1]; rfl
theorem C_findV {h g : sm_H} (K : K1 h g) {a b : Int32} {c : Int64} {o p n : Nat} {ps : List Int32} (S : fS h (I3 18) a b c o p ps) (op : oP o p) (L : LPt g ps n) : ∃ h2, F_23 h = some h2 ∧ agr S37 h h2 ∧ vS h2 (vrs g ps n) := by
  have n4 := L.n4
  have ll := L.l
  have LL := lp_ex (body := F_23_7B) (P := fun k s => s.1 = I3 (4 * k) ∧ agr S37 h s.2 ∧ vS s.2 (vrs g ps k)) (Q := fun h2 => agr S37 h h2 ∧ vS h2 (vrs g ps n)) n (fun k s hk p1 => ?_) (fun s p1 => ?_) (0, sm_wI h 34 6 0) 1000000 ⟨rfl, agr_wI agr_rfl (Or.inl ⟨rfl, rfl⟩), ⟨rfl, fun k hk => by cases hk⟩⟩ (by omega)
  · obtain ⟨h2, e1, e2⟩ := LL
    exact ⟨h2, e1, e2⟩
  · obtain ⟨s1, s2⟩ := s
    obtain ⟨p1, p2, p3⟩ := p1
    have p1 : s1 = I3 (4 * k) := p1
    have p2 : agr S37 h s2 := p2
    have p3 : vS s2 (vrs g ps k) := p3
    subst p1
    have S2 := agr_fS37 S op p2
    have K2 : K1 s2 g := K1_h K (agr_mono Ssc_not (agr_mono S37_sc p2))
    have vl := vrs_len g ps k
    have V := C_vk K2 L hk
    have hd : ∀ X, F_23_7B (I3 (4 * k), s2) = X ↔ (if vk g ps k = 0 then F_23_76 (I3 (4 * k)) s2 else (stI s2 37 4 (s2.1 34 6) (vk g ps k)).bind fun h12 => (some (sm_wI h12 34 6 (h12.1 34 6 + 1))).bind fun h13 => F_23_76 (I3 (4 * k)) h13) = X := fun X => by
      unfold F_23_7B
      rw [S2.f11]; simp only [obs]
      rw [if_neg (not_not_intro (S2.w.i s2)), C_rsize S2.w S2.r]; simp only [obs]
      rw [if_neg (by rw [I3_le (by omega) (by omega)]; omega), p3.n, if_neg (by rw [I3_lit, I3_le (by decide) (by omega)]; omega), S2.f11]; simp only [obs]
      rw [if_neg (not_not_intro (S2.w.i s2)), C_rat S2.w S2.r (by omega)]; simp only [obs]
      rw [S2.f11]; simp only [obs]
      rw [if_neg (not_not_intro (S2.w.i s2)), show I3 (4 * k) + 1 = I3 (4 * k + 1) from I3_add _ 1, C_rat S2.w S2.r (by omega)]; simp only [obs]
      rw [show F_47 (at0 ps (4 * k)) (at0 ps (4 * k + 1)) s2 = _ from V]; simp only [obs]
      rw [p3.n]
    by_cases q : vk g ps k = 0
    · refine Or.inl ⟨(I3 (4 * (k + 1)), s2), (hd _).mpr ?_, rfl, p2, ?_⟩
      · rw [if_pos q]; unfold F_23_76; rw [show I3 (4 * k) + 4 = I3 (4 * (k + 1)) from I3_add _ 4]; rfl
      · show vS s2 (vrs g ps (k + 1))
        rw [vrs_s, if_pos q, List.append_nil]; exact p3
    · have wl : (vrs g ps k ++ [vk g ps k]).length = (vrs g ps k).length + 1 := by rw [List.length_append]; rfl
      refine Or.inl ⟨(I3 (4 * (k + 1)), sm_wI (sm_wI s2 37 (vrs g ps k).length (vk g ps k)) 34 6 (I3 ((vrs g ps k).length + 1))), (hd _).mpr ?_, rfl, agr_wI (agr_wI p2 (Or.inr rfl)) (Or.inl ⟨rfl, rfl⟩), ?_⟩
      · rw [if_neg q, p3.n, stI_I (by omega) (by omega)]; simp only [obs]
        unfold F_23_76
        rw [show (sm_wI s2 37 (vrs g ps k).length (vk g ps k)).1 34 6 = s2.1 34 6 from rfl, p3.n, show I3 (vrs g ps k).length + 1 = I3 ((vrs g ps k).length + 1) from I3_add _ 1, show I3 (4 * k) + 4 = I3 (4 * (k + 1)) from I3_add _ 4]; rfl
      · show vS _ (vrs g ps (k + 1))
        rw [vrs_s, if_neg q]
        refine ⟨by rw [wl]; rfl, fun j hj => ?_⟩
        rw [wl] at hj
        show (if j = (vrs g ps k).length then vk g ps k else s2.1 37 j) = _
        by_cases z : j = (vrs g ps k).length
        · rw [if_pos z, z]
          unfold at0; rw [List.getD_eq_getElem?_getD, List.getElem?_append_right (Nat.le_refl _), Nat.sub_self]; rfl
        · rw [if_neg z, p3.v j (by omega)]
          unfold at0; rw [List.getD_eq_getElem?_getD, List.getD_eq_getElem?_getD, List.getElem?_append_left (by omega)]
  · obtain ⟨s1, s2⟩ := s
    obtain ⟨p1, p2, p3⟩ := p1
    have p1 : s1 = I3 (4 * n) := p1
    subst p1
    have S2 := agr_fS37 S op p2
    refine ⟨s2, ?_, p2, p3⟩
    show F_23_7B (I3 (4 * n), s2) = _
    unfold F_23_7B
    rw [show sm_rr G0 s2 34 11 = _ from S2.f11]; simp only [obs]
    rw [if_neg (not_not_intro (S2.w.i s2)), C_rsize S2.w S2.r]; simp only [obs]
    rw [if_pos (by rw [ll, I3_le (by omega) (by omega)]; omega)]; rfl
theorem C_round {h g : sm_H} (K : K1 h g) {t : Nat} {vs : List Int32} (V : vS h vs) (v4 : vs.length ≤ 4) (ht : t < nT g) (e9 : h.1 34 9 = I3 t) {x : Int32} (hx : x = -1 ∨ ∃ y, y < nH g ∧ x = I3 y ∧ tn x = y ∧ x ≠ -1) : F_25 x h = some (b2 (!(decide (x = -1) || fitB (hpl g (tn x)) (vs ++ pl g t) 0 0)), h) := by
  have wT := K.2.2.1
  have w300 : nT g ≤ 300 := wT.1.2
  have t10 : tM g t ≤ 10 := (wT.2.1 t ht).2.1.2
  have lt := pl_len g t
  rcases hx with rfl | ⟨y, y1, y2, y3, y4⟩
  · have e : F_25_2B (-1, 0, h) = some (.inr (0, h)) := by
      unfold F_25_2B
      rw [C45m K]; simp only [obs]
      rw [if_pos (by decide)]
    exact lp_e (n := 1000000) (by decide) e
  · rw [y3, decide_eq_false y4, Bool.false_or, y2]
    have m10 := mn_10 K y1
    have hl := hpl_len g y
    have kx := kL_h K y1
    have wl : (vs ++ pl g t).length = vs.length + tM g t := by rw [List.length_append, lt]
    have L := lp_all (body := F_25_2B) (fun k => decide (0 + k < (vs ++ pl g t).length) && decide (at0 (vs ++ pl g t) (0 + k) = at0 (hpl g y) (0 + k))) ((hpl g y).length - 0) (fun k => (I3 y, I3 k, h)) (1, h) (0, h) (f := 1000000) (by omega) (fun k hk e => ?_) (fun k hk e => ?_) ?_
    · refine Eq.trans (show F_25 (I3 y) h = lp F_25_2B 1000000 (I3 y, I3 0, h) from rfl) (L.trans ?_)
      unfold fitB
      cases all1 (fun k => decide (0 + k < (vs ++ pl g t).length) && decide (at0 (vs ++ pl g t) (0 + k) = at0 (hpl g y) (0 + k))) ((hpl g y).length - 0) <;> rfl
    · rw [Bool.and_eq_true, decide_eq_true_eq, decide_eq_true_eq] at e
      simp only [Nat.zero_add] at e
      show F_25_2B (I3 y, I3 k, h) = _
      unfold F_25_2B F_25_36 F_25_53
      rw [C_mn K y1]; simp only [obs]
      rw [if_neg (by rw [I3_le (by omega) (by omega)]; omega), V.n]
      by_cases q : k < vs.length
      · rw [if_neg (by rw [I3_le (by omega) (by omega)]; omega), if_neg (by rw [I3_lit, I3_le (by decide) (by omega)]; omega), ldI_I (by omega) (by omega), V.v k q]; simp only [obs]
        rw [C_pc K y1 (by omega)]; simp only [obs]
        have e2 := e.2
        rw [at0_app1 q] at e2
        rw [if_pos e2.symm, I3_lit, I3_add]
      · have e2 := e.2
        rw [at0_app2 (Nat.le_of_not_lt q), at0_lst (by omega)] at e2
        have fin : ((F_227 (h.1 34 9) (I3 k - I3 vs.length) h).bind fun q3 => (F_46 (I3 y) (I3 k) q3.2).bind fun q1 => if q1.1 = q3.1 then ((some (I3 k + 1 : Int32)).bind fun v2 => some (.inl (I3 y, v2, q1.2))) else (some (.inr (1, q1.2)) : Option ((Int32 × Int32 × sm_H) ⊕ (Int32 × sm_H)))) = some (.inl (I3 y, I3 (k + 1), h)) := by
          rw [e9, I3_sub (by omega), C_tplace wT K.2.2.2.1 ht (by omega)]; simp only [obs]
          rw [C_pc K y1 (by omega)]; simp only [obs]
          rw [if_pos e2.symm, I3_lit, I3_add]
        simp only [obs] at fin
        rw [if_pos (by rw [I3_le (by omega) (by omega)]; omega)]; exact fin
    · show F_25_2B (I3 y, I3 k, h) = _
      unfold F_25_2B F_25_36 F_25_53
      rw [C_mn K y1]; simp only [obs]
      rw [if_neg (by rw [I3_le (by omega) (by omega)]; omega), V.n]
      simp only [Nat.zero_add] at e
      by_cases q : k < vs.length
      · rw [decide_eq_true (show k < (vs ++ pl g t).length by omega), Bool.true_and, at0_app1 q] at e
        rw [if_neg (by rw [I3_le (by omega) (by omega)]; omega), if_neg (by rw [I3_lit, I3_le (by decide) (by omega)]; omega), ldI_I (by omega) (by omega), V.v k q]; simp only [obs]
        rw [C_pc K y1 (by omega)]; simp only [obs]
        rw [if_neg (fun z => of_decide_eq_false e z.symm)]
      · rw [if_pos (by rw [I3_le (by omega) (by omega)]; omega), e9, I3_sub (by omega)]
        by_cases q1 : k < (vs ++ pl g t).length
        · rw [decide_eq_true q1, Bool.true_and, at0_app2 (Nat.le_of_not_lt q), at0_lst (by omega)] at e
          rw [C_tplace wT K.2.2.2.1 ht (by omega)]; simp only [obs]
          rw [C_pc K y1 (by omega)]; simp only [obs]
          rw [if_neg (fun z => of_decide_eq_false e z.symm)]
        · rw [C_tplace_o wT K.2.2.2.1 ht (by rw [inR_I (by omega)]; exact decide_eq_false (by omega))]; simp only [obs]
          rw [C_pc K y1 (by omega)]; simp only [obs]
          obtain ⟨qk, k1, k2, k3⟩ := kx k (by omega)
          have h12 := K.1.2.1
          rw [k1, if_neg (fun z => I3_m1 (show qk < 2147483648 by omega) z)]
    · show F_25_2B (I3 y, I3 ((hpl g y).length - 0), h) = _
      unfold F_25_2B
      rw [C_mn K y1]; simp only [obs]
      rw [if_pos (by rw [I3_le (by omega) (by omega)]; omega)]
theorem C_init {h g : sm_H} (K : K1 h g) {t n i : Nat} {ps : List Int32} (L : LPt g ps n) (hi : i < n) (ht : t < nT g) (e9 : h.1 34 9 = I3 t) : F_24 (pt ps i 0) (pt ps i 1) h = some (b2 (!(cA g ps i && cE g ps t i)), h) := by
  have wT := K.2.2.1
  show F_24_0 (pt ps i 0) (pt ps i 1) h = _
  unfold F_24_0 F_24_31 F_24_63 F_24_68 cA cE
  simp only [true_or, or_true, if_true]
  refine L.c hi (show 0 < 4 by omega) (fun e0 => ?_) (fun y y1 y2 y3 y4 => ?_)
  · rw [if_pos e0, decide_eq_true e0]; rfl
  · have lx := hpl_len g y
    have A := C_agree K (t := ty g y) (u := t) (i := 0) (j := 0) (ty_lt K y1) ht (by omega) (by omega)
    rw [Nat.sub_zero, pl_len] at A
    have fin : ((F_41 (pt ps i 0) h).bind fun q1 => (F_45 (pt ps i 0) q1.2).bind fun q2 => (F_235 q1.1 0 (q1.2.1 34 9) 0 q2.1 q2.2).bind fun q3 => if q3.1 = 0 then some (1, q3.2) else (some (0, q3.2) : Option (Int32 × sm_H))) = some (b2 (!fitB (hpl g y) (pl g t) 0 0), h) := by
      rw [y2, C_ty K y1]; simp only [obs]
      rw [C_mn K y1]; simp only [obs]
      rw [e9, show F_235 (I3 (ty g y)) 0 (I3 t) 0 (I3 (tM g (ty g y))) h = _ from A]; simp only [obs]
      cases fitB (hpl g y) (pl g t) 0 0 <;> rfl
    rw [if_neg y4, decide_eq_false y4, Bool.false_or, Bool.false_or, y3]
    refine L.c hi (show 1 < 4 by omega) (fun e1 => ?_) (fun w w1 w2 w3 w4 => ?_)
    · rw [if_pos e1, decide_eq_true e1, Bool.true_or, Bool.true_and]; exact fin
    · rw [if_neg w4, decide_eq_false w4, Bool.false_or, w3, show F_44 (pt ps i 1) h = some (hrs g w, h) by rw [w2]; exact C_rs K w1]; simp only [obs]
      rw [show F_44 (pt ps i 0) h = some (hrs g y, h) by rw [y2]; exact C_rs K y1]; simp only [obs]
      by_cases q : hrs g y = hrs g w
      · rw [if_pos q.symm, decide_eq_true q, Bool.true_and]; exact fin
      · rw [if_neg (fun z => q z.symm), decide_eq_false q]; rfl
