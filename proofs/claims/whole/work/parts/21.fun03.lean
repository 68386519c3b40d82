theorem B_336_257 {L : Nat} {xs : Nat → Int32} {d : Nat} (hd : 5 ≤ d) {res : Option Value × sm_H} {y1 : Int32} {y2 : Int32} {y3 : Int32}  {h : sm_H} {r : (Int32 × sm_H)} (hf : F_336_257 y1 y2 y3 h = some r) (hs : (fun (r : Int32 × sm_H) => res = (some (.int r.1), r.2)) r) : Ex (P_G L xs) (RUN L xs d) (sm_lk P_t336) 0 257 [some (.ref 67), some (.int y1), some (.int y2), some (.int y3), none, none] [] h res := by
  unfold F_336_257 at hf
  refine Ex.seg 4 (pc' := 261) (lc' := [some (.ref 67), some (.int y1), some (.int y2), some (.int y3), none, none]) (st' := [.int y3, .int y2, .int y1, .ref 67]) (h' := h) (sg1 rfl rfl (sg1 rfl rfl (sg1 rfl rfl (sg1 rfl rfl rfl)))) ?_
  obtain ⟨q1, e_q1, hf⟩ := bnd hf
  refine Ex.callV (a := 67) (As := [.int y1, .int y2, .int y3]) (r := []) (v := some (.int q1.1)) (h' := q1.2) rfl rfl (by decide) rfl (Nat.le_of_ble_eq_true rfl) rfl (E_335 (Nat.le_trans (by decide) hd) e_q1) rfl ?_
  obtain rfl := Option.some.inj hf
  exact Ex.iret rfl rfl (fun c0 => by cases c0) hs
theorem B_336_250 {L : Nat} {xs : Nat → Int32} {d : Nat} (hd : 5 ≤ d) {res : Option Value × sm_H} {y1 : Int32} {y2 : Int32}  {h : sm_H} {r : (Int32 × sm_H)} (hf : F_336_250 y1 y2 h = some r) (hs : (fun (r : Int32 × sm_H) => res = (some (.int r.1), r.2)) r) : Ex (P_G L xs) (RUN L xs d) (sm_lk P_t336) 0 250 [some (.ref 67), some (.int y1), some (.int y2), none, none, none] [] h res := by
  unfold F_336_250 at hf
  refine Ex.seg 3 (pc' := 253) (lc' := [some (.ref 67), some (.int y1), some (.int y2), none, none, none]) (st' := [.int y2, .int y1, .ref 67]) (h' := h) (sg1 rfl rfl (sg1 rfl rfl (sg1 rfl rfl rfl))) ?_
  obtain ⟨q2, e_q2, hf⟩ := bnd hf
  refine Ex.callV (a := 67) (As := [.int y1, .int y2]) (r := []) (v := some (.int q2.1)) (h' := q2.2) rfl rfl (by decide) rfl (Nat.le_of_ble_eq_true rfl) rfl (E_334 (Nat.le_trans (by decide) hd) e_q2) rfl ?_
  obtain rfl := Option.some.inj hf
  exact Ex.iret rfl rfl (fun c0 => by cases c0) hs
theorem B_336_143 {L : Nat} {xs : Nat → Int32} {d : Nat} (hd : 5 ≤ d) {res : Option Value × sm_H}   {h : sm_H} {r : (Int32 × sm_H)} (hf : F_336_143  h = some r) (hs : (fun (r : Int32 × sm_H) => res = (some (.int r.1), r.2)) r) : Ex (P_G L xs) (RUN L xs d) (sm_lk P_t336) 0 143 [none, none, none, none, none, none] [] h res := by
  unfold F_336_143 at hf
  refine Ex.seg 1 (pc' := 144) (lc' := [none, none, none, none, none, none]) (st' := [.int 1]) (h' := h) (sg1 rfl rfl rfl) ?_
  obtain rfl := Option.some.inj hf
  exact Ex.iret rfl rfl (fun c0 => by cases c0) hs
theorem B_336_0 {L : Nat} {xs : Nat → Int32} {d : Nat} (hd : 5 ≤ d) {res : Option Value × sm_H} {x1 : Int32} {x2 : Int32} {x3 : Int32} {x4 : Int64}  {h : sm_H} {r : (Int32 × sm_H)} (hf : F_336_0 x1 x2 x3 x4 h = some r) (hs : (fun (r : Int32 × sm_H) => res = (some (.int r.1), r.2)) r) : Ex (P_G L xs) (RUN L xs d) (sm_lk P_t336) 0 0 [some (.ref 67), some (.int x1), some (.int x2), some (.int x3), some (.long x4), none] [] h res := by
  unfold F_336_0 at hf
  refine Ex.seg 1 (pc' := 1) (lc' := [some (.ref 67), some (.int x1), some (.int x2), some (.int x3), some (.long x4), none]) (st' := [.int x1]) (h' := h) (sg1 rfl rfl rfl) ?_
  rcases Classical.em (x1 = 0) with n1 | n1
  · rw [if_pos n1] at hf
    refine Ex.swt (t := 124) rfl rfl (by rw [n1]; exact Or.inr ⟨by decide, by decide, _, rfl, by decide⟩) ?_
    refine Ex.seg 2 (pc' := 128) (lc' := [some (.ref 67), some (.int x1), some (.int x2), some (.int x3), some (.long x4), none]) (st' := [.int (h.1 67 3)]) (h' := h) (sg1 rfl rfl (sg1 rfl rfl rfl)) ?_
    refine Ex.ifc rfl rfl (fun (c0 : ¬ ((h.1 67 3) = 0)) => ?_) (fun (c0 : ¬ ¬ ((h.1 67 3) = 0)) => ?_)
    · rw [if_neg c0] at hf
      exact Ex.weak (sm_le_n (sm_le_n (sm_le_n (sm_le_n (sm_le_n (sm_le_s sm_le_nil)))))) (B_336_143 hd  hf hs)
    · rw [if_pos (Classical.not_not.mp c0)] at hf
      refine Ex.seg 2 (pc' := 133) (lc' := [some (.ref 67), some (.int x1), some (.int x2), some (.int x3), some (.long x4), none]) (st' := [.int x2, .ref 67]) (h' := h) (sg1 rfl rfl (sg1 rfl rfl rfl)) ?_
      obtain ⟨q3, e_q3, hf⟩ := bnd hf
      refine Ex.callV (a := 67) (As := [.int x2]) (r := []) (v := some (.int q3.1)) (h' := q3.2) rfl rfl (by decide) rfl (Nat.le_of_ble_eq_true rfl) rfl (E_289 (Nat.le_trans (by decide) hd) e_q3) rfl ?_
      refine Ex.ifc rfl rfl (fun (c0 : q3.1 = 0) => ?_) (fun (c0 : ¬ (q3.1 = 0)) => ?_)
      · rw [if_pos c0] at hf
        exact Ex.weak (sm_le_n (sm_le_n (sm_le_n (sm_le_n (sm_le_n (sm_le_s sm_le_nil)))))) (B_336_143 hd  hf hs)
      · rw [if_neg c0] at hf
        refine Ex.seg 1 (pc' := 140) (lc' := [some (.ref 67), some (.int x1), some (.int x2), some (.int x3), some (.long x4), none]) (st' := [.int x2]) (h' := q3.2) (sg1 rfl rfl rfl) ?_
        refine Ex.ifc rfl rfl (fun (c0 : ¬ (x2 = 0)) => ?_) (fun (c0 : ¬ ¬ (x2 = 0)) => ?_)
        · rw [if_neg c0] at hf
          refine Ex.seg 2 (pc' := 147) (lc' := [some (.ref 67), some (.int x1), some (.int x2), some (.int x3), some (.long x4), none]) (st' := [.int x2, .ref 67]) (h' := q3.2) (sg1 rfl rfl (sg1 rfl rfl rfl)) ?_
          obtain ⟨q4, e_q4, hf⟩ := bnd hf
          refine Ex.callV (a := 67) (As := [.int x2]) (r := []) (v := none) (h' := q4) rfl rfl (by decide) rfl (Nat.le_of_ble_eq_true rfl) rfl (E_308 (Nat.le_trans (by decide) hd) e_q4) rfl ?_
          refine Ex.seg 3 (pc' := 154) (lc' := [some (.ref 67), some (.int x1), some (.int x2), some (.int x3), some (.long x4), none]) (st' := [.long x4, .int x2, .ref 67]) (h' := q4) (sg1 rfl rfl (sg1 rfl rfl (sg1 rfl rfl rfl))) ?_
          obtain ⟨q5, e_q5, hf⟩ := bnd hf
          refine Ex.callV (a := 67) (As := [.int x2, .long x4]) (r := []) (v := some (.int q5.1)) (h' := q5.2) rfl rfl (by decide) rfl (Nat.le_of_ble_eq_true rfl) rfl (E_317 (Nat.le_trans (by decide) hd) e_q5) rfl ?_
          obtain rfl := Option.some.inj hf
          exact Ex.iret rfl rfl (fun c0 => by cases c0) hs
        · rw [if_pos (Classical.not_not.mp c0)] at hf
          exact Ex.weak (sm_le_n (sm_le_n (sm_le_n (sm_le_n (sm_le_n (sm_le_s sm_le_nil)))))) (B_336_143 hd  hf hs)
  rw [if_neg n1] at hf
  rcases Classical.em (x1 = 4) with n2 | n2
  · rw [if_pos n2] at hf
    refine Ex.swt (t := 158) rfl rfl (by rw [n2]; exact Or.inr ⟨by decide, by decide, _, rfl, by decide⟩) ?_
    refine Ex.seg 3 (pc' := 161) (lc' := [some (.ref 67), some (.int x1), some (.int x2), some (.int x3), some (.long x4), none]) (st' := [.int x3, .int x2, .ref 67]) (h' := h) (sg1 rfl rfl (sg1 rfl rfl (sg1 rfl rfl rfl))) ?_
    obtain ⟨q6, e_q6, hf⟩ := bnd hf
    refine Ex.callV (a := 67) (As := [.int x2, .int x3]) (r := []) (v := some (.int q6.1)) (h' := q6.2) rfl rfl (by decide) rfl (Nat.le_of_ble_eq_true rfl) rfl (E_318 (Nat.le_trans (by decide) hd) e_q6) rfl ?_
    obtain rfl := Option.some.inj hf
    exact Ex.iret rfl rfl (fun c0 => by cases c0) hs
  rw [if_neg n2] at hf
  rcases Classical.em (x1 = 5) with n3 | n3
  · rw [if_pos n3] at hf
    refine Ex.swt (t := 165) rfl rfl (by rw [n3]; exact Or.inr ⟨by decide, by decide, _, rfl, by decide⟩) ?_
    refine Ex.seg 2 (pc' := 167) (lc' := [some (.ref 67), some (.int x1), some (.int x2), some (.int x3), some (.long x4), none]) (st' := [.int x3, .ref 67]) (h' := h) (sg1 rfl rfl (sg1 rfl rfl rfl)) ?_
    obtain ⟨q7, e_q7, hf⟩ := bnd hf
    refine Ex.callV (a := 67) (As := [.int x3]) (r := []) (v := some (.int q7.1)) (h' := q7.2) rfl rfl (by decide) rfl (Nat.le_of_ble_eq_true rfl) rfl (E_319 (Nat.le_trans (by decide) hd) e_q7) rfl ?_
    obtain rfl := Option.some.inj hf
    exact Ex.iret rfl rfl (fun c0 => by cases c0) hs
  rw [if_neg n3] at hf
  rcases Classical.em (x1 = 6) with n4 | n4
  · rw [if_pos n4] at hf
    refine Ex.swt (t := 171) rfl rfl (by rw [n4]; exact Or.inr ⟨by decide, by decide, _, rfl, by decide⟩) ?_
    refine Ex.seg 3 (pc' := 175) (lc' := [some (.ref 67), some (.int x1), some (.int x2), some (.int x3), some (.long x4), none]) (st' := [.long x4, .int x2, .ref 67]) (h' := h) (sg1 rfl rfl (sg1 rfl rfl (sg1 rfl rfl rfl))) ?_
    obtain ⟨q8, e_q8, hf⟩ := bnd hf
    refine Ex.callV (a := 67) (As := [.int x2, .long x4]) (r := []) (v := some (.int q8.1)) (h' := q8.2) rfl rfl (by decide) rfl (Nat.le_of_ble_eq_true rfl) rfl (E_320 (Nat.le_trans (by decide) hd) e_q8) rfl ?_
    obtain rfl := Option.some.inj hf
    exact Ex.iret rfl rfl (fun c0 => by cases c0) hs
  rw [if_neg n4] at hf
  rcases Classical.em (x1 = 7) with n5 | n5
  · rw [if_pos n5] at hf
    refine Ex.swt (t := 179) rfl rfl (by rw [n5]; exact Or.inr ⟨by decide, by decide, _, rfl, by decide⟩) ?_
    refine Ex.seg 2 (pc' := 181) (lc' := [some (.ref 67), some (.int x1), some (.int x2), some (.int x3), some (.long x4), none]) (st' := [.int x2, .ref 67]) (h' := h) (sg1 rfl rfl (sg1 rfl rfl rfl)) ?_
    obtain ⟨q9, e_q9, hf⟩ := bnd hf
    refine Ex.callV (a := 67) (As := [.int x2]) (r := []) (v := some (.int q9.1)) (h' := q9.2) rfl rfl (by decide) rfl (Nat.le_of_ble_eq_true rfl) rfl (E_321 (Nat.le_trans (by decide) hd) e_q9) rfl ?_
    obtain rfl := Option.some.inj hf
    exact Ex.iret rfl rfl (fun c0 => by cases c0) hs
  rw [if_neg n5] at hf
  rcases Classical.em (x1 = 8) with n6 | n6
  · rw [if_pos n6] at hf
    refine Ex.swt (t := 185) rfl rfl (by rw [n6]; exact Or.inr ⟨by decide, by decide, _, rfl, by decide⟩) ?_
    refine Ex.seg 2 (pc' := 187) (lc' := [some (.ref 67), some (.int x1), some (.int x2), some (.int x3), some (.long x4), none]) (st' := [.int x2, .ref 67]) (h' := h) (sg1 rfl rfl (sg1 rfl rfl rfl)) ?_
    obtain ⟨q10, e_q10, hf⟩ := bnd hf
    refine Ex.callV (a := 67) (As := [.int x2]) (r := []) (v := some (.int q10.1)) (h' := q10.2) rfl rfl (by decide) rfl (Nat.le_of_ble_eq_true rfl) rfl (E_322 (Nat.le_trans (by decide) hd) e_q10) rfl ?_
    obtain rfl := Option.some.inj hf
    exact Ex.iret rfl rfl (fun c0 => by cases c0) hs
  rw [if_neg n6] at hf
  rcases Classical.em (x1 = 9) with n7 | n7
  · rw [if_pos n7] at hf
    refine Ex.swt (t := 191) rfl rfl (by rw [n7]; exact Or.inr ⟨by decide, by decide, _, rfl, by decide⟩) ?_
    refine Ex.seg 1 (pc' := 192) (lc' := [some (.ref 67), some (.int x1), some (.int x2), some (.int x3), some (.long x4), none]) (st' := [.ref 67]) (h' := h) (sg1 rfl rfl rfl) ?_
    obtain ⟨q11, e_q11, hf⟩ := bnd hf
    refine Ex.callV (a := 67) (As := []) (r := []) (v := some (.int q11.1)) (h' := q11.2) rfl rfl (by decide) rfl (Nat.le_of_ble_eq_true rfl) rfl (E_323 (Nat.le_trans (by decide) hd) e_q11) rfl ?_
    obtain rfl := Option.some.inj hf
    exact Ex.iret rfl rfl (fun c0 => by cases c0) hs
  rw [if_neg n7] at hf
  rcases Classical.em (x1 = 10) with n8 | n8
  · rw [if_pos n8] at hf
    refine Ex.swt (t := 196) rfl rfl (by rw [n8]; exact Or.inr ⟨by decide, by decide, _, rfl, by decide⟩) ?_
    refine Ex.seg 3 (pc' := 199) (lc' := [some (.ref 67), some (.int x1), some (.int x2), some (.int x3), some (.long x4), none]) (st' := [.int x3, .int x2, .ref 67]) (h' := h) (sg1 rfl rfl (sg1 rfl rfl (sg1 rfl rfl rfl))) ?_
    obtain ⟨q12, e_q12, hf⟩ := bnd hf
    refine Ex.callV (a := 67) (As := [.int x2, .int x3]) (r := []) (v := some (.int q12.1)) (h' := q12.2) rfl rfl (by decide) rfl (Nat.le_of_ble_eq_true rfl) rfl (E_324 (Nat.le_trans (by decide) hd) e_q12) rfl ?_
    obtain rfl := Option.some.inj hf
    exact Ex.iret rfl rfl (fun c0 => by cases c0) hs
  rw [if_neg n8] at hf
  rcases Classical.em (x1 = 11) with n9 | n9
  · rw [if_pos n9] at hf
    refine Ex.swt (t := 203) rfl rfl (by rw [n9]; exact Or.inr ⟨by decide, by decide, _, rfl, by decide⟩) ?_
    refine Ex.seg 2 (pc' := 205) (lc' := [some (.ref 67), some (.int x1), some (.int x2), some (.int x3), some (.long x4), none]) (st' := [.int x3, .ref 67]) (h' := h) (sg1 rfl rfl (sg1 rfl rfl rfl)) ?_
    obtain ⟨q13, e_q13, hf⟩ := bnd hf
    refine Ex.callV (a := 67) (As := [.int x3]) (r := []) (v := some (.int q13.1)) (h' := q13.2) rfl rfl (by decide) rfl (Nat.le_of_ble_eq_true rfl) rfl (E_325 (Nat.le_trans (by decide) hd) e_q13) rfl ?_
    obtain rfl := Option.some.inj hf
    exact Ex.iret rfl rfl (fun c0 => by cases c0) hs
  rw [if_neg n9] at hf
  rcases Classical.em (x1 = 12) with n10 | n10
  · rw [if_pos n10] at hf
    refine Ex.swt (t := 209) rfl rfl (by rw [n10]; exact Or.inr ⟨by decide, by decide, _, rfl, by decide⟩) ?_
    refine Ex.seg 3 (pc' := 212) (lc' := [some (.ref 67), some (.int x1), some (.int x2), some (.int x3), some (.long x4), none]) (st' := [.int 0, .int x3, .ref 67]) (h' := h) (sg1 rfl rfl (sg1 rfl rfl (sg1 rfl rfl rfl))) ?_
    obtain ⟨q14, e_q14, hf⟩ := bnd hf
    refine Ex.callV (a := 67) (As := [.int x3, .int 0]) (r := []) (v := some (.int q14.1)) (h' := q14.2) rfl rfl (by decide) rfl (Nat.le_of_ble_eq_true rfl) rfl (E_327 (Nat.le_trans (by decide) hd) e_q14) rfl ?_
    obtain rfl := Option.some.inj hf
    exact Ex.iret rfl rfl (fun c0 => by cases c0) hs
  rw [if_neg n10] at hf
  rcases Classical.em (x1 = 13) with n11 | n11
  · rw [if_pos n11] at hf
    refine Ex.swt (t := 216) rfl rfl (by rw [n11]; exact Or.inr ⟨by decide, by decide, _, rfl, by decide⟩) ?_
    refine Ex.seg 3 (pc' := 219) (lc' := [some (.ref 67), some (.int x1), some (.int x2), some (.int x3), some (.long x4), none]) (st' := [.int 1, .int x3, .ref 67]) (h' := h) (sg1 rfl rfl (sg1 rfl rfl (sg1 rfl rfl rfl))) ?_
    obtain ⟨q15, e_q15, hf⟩ := bnd hf
    refine Ex.callV (a := 67) (As := [.int x3, .int 1]) (r := []) (v := some (.int q15.1)) (h' := q15.2) rfl rfl (by decide) rfl (Nat.le_of_ble_eq_true rfl) rfl (E_327 (Nat.le_trans (by decide) hd) e_q15) rfl ?_
    obtain rfl := Option.some.inj hf
    exact Ex.iret rfl rfl (fun c0 => by cases c0) hs
  rw [if_neg n11] at hf
  rcases Classical.em (x1 = 14) with n12 | n12
  · rw [if_pos n12] at hf
    refine Ex.swt (t := 223) rfl rfl (by rw [n12]; exact Or.inr ⟨by decide, by decide, _, rfl, by decide⟩) ?_
    refine Ex.seg 1 (pc' := 224) (lc' := [some (.ref 67), some (.int x1), some (.int x2), some (.int x3), some (.long x4), none]) (st' := [.ref 67]) (h' := h) (sg1 rfl rfl rfl) ?_
    obtain ⟨q16, e_q16, hf⟩ := bnd hf
    refine Ex.callV (a := 67) (As := []) (r := []) (v := some (.int q16.1)) (h' := q16.2) rfl rfl (by decide) rfl (Nat.le_of_ble_eq_true rfl) rfl (E_328 (Nat.le_trans (by decide) hd) e_q16) rfl ?_
    obtain rfl := Option.some.inj hf
    exact Ex.iret rfl rfl (fun c0 => by cases c0) hs
  rw [if_neg n12] at hf
  rcases Classical.em (x1 = 15) with n13 | n13
  · rw [if_pos n13] at hf
    refine Ex.swt (t := 228) rfl rfl (by rw [n13]; exact Or.inr ⟨by decide, by decide, _, rfl, by decide⟩) ?_
    refine Ex.seg 2 (pc' := 230) (lc' := [some (.ref 67), some (.int x1), some (.int x2), some (.int x3), some (.long x4), none]) (st' := [.int x2, .ref 67]) (h' := h) (sg1 rfl rfl (sg1 rfl rfl rfl)) ?_
    obtain ⟨q17, e_q17, hf⟩ := bnd hf
    refine Ex.callV (a := 67) (As := [.int x2]) (r := []) (v := some (.int q17.1)) (h' := q17.2) rfl rfl (by decide) rfl (Nat.le_of_ble_eq_true rfl) rfl (E_329 (Nat.le_trans (by decide) hd) e_q17) rfl ?_
    obtain rfl := Option.some.inj hf
    exact Ex.iret rfl rfl (fun c0 => by cases c0) hs
  rw [if_neg n13] at hf
  rcases Classical.em (x1 = 16) with n14 | n14
  · rw [if_pos n14] at hf
    refine Ex.swt (t := 234) rfl rfl (by rw [n14]; exact Or.inr ⟨by decide, by decide, _, rfl, by decide⟩) ?_
    refine Ex.seg 1 (pc' := 235) (lc' := [some (.ref 67), some (.int x1), some (.int x2), some (.int x3), some (.long x4), none]) (st' := [.ref 67]) (h' := h) (sg1 rfl rfl rfl) ?_
    obtain ⟨q18, e_q18, hf⟩ := bnd hf
    refine Ex.callV (a := 67) (As := []) (r := []) (v := some (.int q18.1)) (h' := q18.2) rfl rfl (by decide) rfl (Nat.le_of_ble_eq_true rfl) rfl (E_330 (Nat.le_trans (by decide) hd) e_q18) rfl ?_
    obtain rfl := Option.some.inj hf
    exact Ex.iret rfl rfl (fun c0 => by cases c0) hs
  rw [if_neg n14] at hf
  rcases Classical.em (x1 = 17) with n15 | n15
  · rw [if_pos n15] at hf
    refine Ex.swt (t := 239) rfl rfl (by rw [n15]; exact Or.inr ⟨by decide, by decide, _, rfl, by decide⟩) ?_
    refine Ex.seg 1 (pc' := 240) (lc' := [some (.ref 67), some (.int x1), some (.int x2), some (.int x3), some (.long x4), none]) (st' := [.ref 67]) (h' := h) (sg1 rfl rfl rfl) ?_
    obtain ⟨q19, e_q19, hf⟩ := bnd hf
    refine Ex.callV (a := 67) (As := []) (r := []) (v := some (.int q19.1)) (h' := q19.2) rfl rfl (by decide) rfl (Nat.le_of_ble_eq_true rfl) rfl (E_331 (Nat.le_trans (by decide) hd) e_q19) rfl ?_
    obtain rfl := Option.some.inj hf
    exact Ex.iret rfl rfl (fun c0 => by cases c0) hs
  rw [if_neg n15] at hf
  rcases Classical.em (x1 = 18) with n16 | n16
  · rw [if_pos n16] at hf
    refine Ex.swt (t := 244) rfl rfl (by rw [n16]; exact Or.inr ⟨by decide, by decide, _, rfl, by decide⟩) ?_
    refine Ex.seg 2 (pc' := 246) (lc' := [some (.ref 67), some (.int x1), some (.int x2), some (.int x3), some (.long x4), none]) (st' := [.int x3, .ref 67]) (h' := h) (sg1 rfl rfl (sg1 rfl rfl rfl)) ?_
    obtain ⟨q20, e_q20, hf⟩ := bnd hf
    refine Ex.callV (a := 67) (As := [.int x3]) (r := []) (v := some (.int q20.1)) (h' := q20.2) rfl rfl (by decide) rfl (Nat.le_of_ble_eq_true rfl) rfl (E_333 (Nat.le_trans (by decide) hd) e_q20) rfl ?_
    obtain rfl := Option.some.inj hf
    exact Ex.iret rfl rfl (fun c0 => by cases c0) hs
  rw [if_neg n16] at hf
  rcases Classical.em (x1 = 20) with n17 | n17
  · rw [if_pos n17] at hf
    refine Ex.swt (t := 250) rfl rfl (by rw [n17]; exact Or.inr ⟨by decide, by decide, _, rfl, by decide⟩) ?_
    exact Ex.weak (sm_le_s (sm_le_s (sm_le_s (sm_le_n (sm_le_n (sm_le_s sm_le_nil)))))) (B_336_250 hd  hf hs)
  rw [if_neg n17] at hf
  rcases Classical.em (x1 = 21) with n18 | n18
  · rw [if_pos n18] at hf
    refine Ex.swt (t := 250) rfl rfl (by rw [n18]; exact Or.inr ⟨by decide, by decide, _, rfl, by decide⟩) ?_
    exact Ex.weak (sm_le_s (sm_le_s (sm_le_s (sm_le_n (sm_le_n (sm_le_s sm_le_nil)))))) (B_336_250 hd  hf hs)
  rw [if_neg n18] at hf
  rcases Classical.em (x1 = 22) with n19 | n19
  · rw [if_pos n19] at hf
    refine Ex.swt (t := 250) rfl rfl (by rw [n19]; exact Or.inr ⟨by decide, by decide, _, rfl, by decide⟩) ?_
    exact Ex.weak (sm_le_s (sm_le_s (sm_le_s (sm_le_n (sm_le_n (sm_le_s sm_le_nil)))))) (B_336_250 hd  hf hs)
  rw [if_neg n19] at hf
  rcases Classical.em (x1 = 23) with n20 | n20
  · rw [if_pos n20] at hf
    refine Ex.swt (t := 250) rfl rfl (by rw [n20]; exact Or.inr ⟨by decide, by decide, _, rfl, by decide⟩) ?_
    exact Ex.weak (sm_le_s (sm_le_s (sm_le_s (sm_le_n (sm_le_n (sm_le_s sm_le_nil)))))) (B_336_250 hd  hf hs)
  rw [if_neg n20] at hf
  rcases Classical.em (x1 = 24) with n21 | n21
  · rw [if_pos n21] at hf
    refine Ex.swt (t := 250) rfl rfl (by rw [n21]; exact Or.inr ⟨by decide, by decide, _, rfl, by decide⟩) ?_
    exact Ex.weak (sm_le_s (sm_le_s (sm_le_s (sm_le_n (sm_le_n (sm_le_s sm_le_nil)))))) (B_336_250 hd  hf hs)
  rw [if_neg n21] at hf
  rcases Classical.em (x1 = 25) with n22 | n22
  · rw [if_pos n22] at hf
    refine Ex.swt (t := 250) rfl rfl (by rw [n22]; exact Or.inr ⟨by decide, by decide, _, rfl, by decide⟩) ?_
    exact Ex.weak (sm_le_s (sm_le_s (sm_le_s (sm_le_n (sm_le_n (sm_le_s sm_le_nil)))))) (B_336_250 hd  hf hs)
  rw [if_neg n22] at hf
  rcases Classical.em (x1 = 26) with n23 | n23
  · rw [if_pos n23] at hf
    refine Ex.swt (t := 250) rfl rfl (by rw [n23]; exact Or.inr ⟨by decide, by decide, _, rfl, by decide⟩) ?_
    exact Ex.weak (sm_le_s (sm_le_s (sm_le_s (sm_le_n (sm_le_n (sm_le_s sm_le_nil)))))) (B_336_250 hd  hf hs)
  rw [if_neg n23] at hf
  refine Ex.swt (t := 257) rfl rfl (sw_dflt (by decide) (by decide) (fun k hk he => ?_)) ?_
  · have hk : k < 27 := hk
    rcases (show k = 0 ∨ k = 1 ∨ k = 2 ∨ k = 3 ∨ k = 4 ∨ k = 5 ∨ k = 6 ∨ k = 7 ∨ k = 8 ∨ k = 9 ∨ k = 10 ∨ k = 11 ∨ k = 12 ∨ k = 13 ∨ k = 14 ∨ k = 15 ∨ k = 16 ∨ k = 17 ∨ k = 18 ∨ k = 19 ∨ k = 20 ∨ k = 21 ∨ k = 22 ∨ k = 23 ∨ k = 24 ∨ k = 25 ∨ k = 26 by omega) with rfl | rfl | rfl | rfl | rfl | rfl | rfl | rfl | rfl | rfl | rfl | rfl | rfl | rfl | rfl | rfl | rfl | rfl | rfl | rfl | rfl | rfl | rfl | rfl | rfl | rfl | rfl
    · exact absurd (Int32.toInt_inj.mp (he.symm.trans (by decide : (_ : Int) = Int32.toInt 0))) n1
    · rfl
    · rfl
    · rfl
    · exact absurd (Int32.toInt_inj.mp (he.symm.trans (by decide : (_ : Int) = Int32.toInt 4))) n2
    · exact absurd (Int32.toInt_inj.mp (he.symm.trans (by decide : (_ : Int) = Int32.toInt 5))) n3
    · exact absurd (Int32.toInt_inj.mp (he.symm.trans (by decide : (_ : Int) = Int32.toInt 6))) n4
    · exact absurd (Int32.toInt_inj.mp (he.symm.trans (by decide : (_ : Int) = Int32.toInt 7))) n5
    · exact absurd (Int32.toInt_inj.mp (he.symm.trans (by decide : (_ : Int) = Int32.toInt 8))) n6
    · exact absurd (Int32.toInt_inj.mp (he.symm.trans (by decide : (_ : Int) = Int32.toInt 9))) n7
    · exact absurd (Int32.toInt_inj.mp (he.symm.trans (by decide : (_ : Int) = Int32.toInt 10))) n8
    · exact absurd (Int32.toInt_inj.mp (he.symm.trans (by decide : (_ : Int) = Int32.toInt 11))) n9
    · exact absurd (Int32.toInt_inj.mp (he.symm.trans (by decide : (_ : Int) = Int32.toInt 12))) n10
    · exact absurd (Int32.toInt_inj.mp (he.symm.trans (by decide : (_ : Int) = Int32.toInt 13))) n11
    · exact absurd (Int32.toInt_inj.mp (he.symm.trans (by decide : (_ : Int) = Int32.toInt 14))) n12
    · exact absurd (Int32.toInt_inj.mp (he.symm.trans (by decide : (_ : Int) = Int32.toInt 15))) n13
    · exact absurd (Int32.toInt_inj.mp (he.symm.trans (by decide : (_ : Int) = Int32.toInt 16))) n14
    · exact absurd (Int32.toInt_inj.mp (he.symm.trans (by decide : (_ : Int) = Int32.toInt 17))) n15
    · exact absurd (Int32.toInt_inj.mp (he.symm.trans (by decide : (_ : Int) = Int32.toInt 18))) n16
    · rfl
    · exact absurd (Int32.toInt_inj.mp (he.symm.trans (by decide : (_ : Int) = Int32.toInt 20))) n17
    · exact absurd (Int32.toInt_inj.mp (he.symm.trans (by decide : (_ : Int) = Int32.toInt 21))) n18
    · exact absurd (Int32.toInt_inj.mp (he.symm.trans (by decide : (_ : Int) = Int32.toInt 22))) n19
    · exact absurd (Int32.toInt_inj.mp (he.symm.trans (by decide : (_ : Int) = Int32.toInt 23))) n20
    · exact absurd (Int32.toInt_inj.mp (he.symm.trans (by decide : (_ : Int) = Int32.toInt 24))) n21
    · exact absurd (Int32.toInt_inj.mp (he.symm.trans (by decide : (_ : Int) = Int32.toInt 25))) n22
    · exact absurd (Int32.toInt_inj.mp (he.symm.trans (by decide : (_ : Int) = Int32.toInt 26))) n23
  exact Ex.weak (sm_le_s (sm_le_s (sm_le_s (sm_le_s (sm_le_n (sm_le_s sm_le_nil)))))) (B_336_257 hd  hf hs)
theorem E_336 {L : Nat} {xs : Nat → Int32} {d : Nat} (hd : 6 ≤ d) {x1 : Int32} {x2 : Int32} {x3 : Int32} {x4 : Int64} {h : sm_H} {r : Int32 × sm_H} (hf : F_336 x1 x2 x3 x4 h = some r) : RUN L xs d 336 [.ref 67, .int x1, .int x2, .int x3, .long x4] h (some (.int r.1), r.2) := by
  obtain ⟨d, rfl⟩ : ∃ e, d = e + 1 := ⟨d - 1, by omega⟩
  exact ⟨Nat.le_of_ble_eq_true rfl, B_336_0 (by omega) hf rfl⟩
theorem B_337_78 {L : Nat} {xs : Nat → Int32} {d : Nat} (hd : 0 ≤ d) {res : Option Value × sm_H} {z0 : Int32}  {h : sm_H} {r : (Int32 × sm_H)} (hf : F_337_78 z0 h = some r) (hs : (fun (r : Int32 × sm_H) => res = (some (.int r.1), r.2)) r) : Ex (P_G L xs) (RUN L xs d) (sm_lk P_t337) 3 78 [none] [.int z0] h res := by
  unfold F_337_78 at hf
  rcases Classical.em (z0 = 0 ∨ z0 = 1) with c0 | c0
  · rw [if_pos c0] at hf
    obtain rfl := Option.some.inj hf
    exact Ex.iret rfl rfl (fun _ => c0) hs
  · rw [if_neg c0] at hf
    cases hf
theorem B_337_73 {L : Nat} {xs : Nat → Int32} {d : Nat} (hd : 0 ≤ d) {res : Option Value × sm_H}   {h : sm_H} {r : (Int32 × sm_H)} (hf : F_337_73  h = some r) (hs : (fun (r : Int32 × sm_H) => res = (some (.int r.1), r.2)) r) : Ex (P_G L xs) (RUN L xs d) (sm_lk P_t337) 3 73 [none] [] h res := by
  unfold F_337_73 at hf
  refine Ex.seg 2 (pc' := 78) (lc' := [none]) (st' := [.int 1]) (h' := h) (sg1 rfl rfl (sg1 rfl rfl rfl)) ?_
  exact Ex.weak (sm_le_s sm_le_nil) (B_337_78 hd  hf hs)
theorem B_337_67 {L : Nat} {xs : Nat → Int32} {d : Nat} (hd : 0 ≤ d) {res : Option Value × sm_H} {y0 : Int32}  {h : sm_H} {r : (Int32 × sm_H)} (hf : F_337_67 y0 h = some r) (hs : (fun (r : Int32 × sm_H) => res = (some (.int r.1), r.2)) r) : Ex (P_G L xs) (RUN L xs d) (sm_lk P_t337) 3 67 [some (.int y0)] [] h res := by
  unfold F_337_67 at hf
  refine Ex.seg 2 (pc' := 70) (lc' := [some (.int y0)]) (st' := [.int 35, .int y0]) (h' := h) (sg1 rfl rfl (sg1 rfl rfl rfl)) ?_
  refine Ex.icmp rfl rfl (fun (c0 : y0 < 35) => ?_) (fun (c0 : ¬ (y0 < 35)) => ?_)
  · rw [if_pos c0] at hf
    refine Ex.seg 1 (pc' := 78) (lc' := [some (.int y0)]) (st' := [.int 0]) (h' := h) (sg1 rfl rfl rfl) ?_
    exact Ex.weak (sm_le_n sm_le_nil) (B_337_78 hd  hf hs)
  · rw [if_neg c0] at hf
    exact Ex.weak (sm_le_n sm_le_nil) (B_337_73 hd  hf hs)
theorem B_337_55 {L : Nat} {xs : Nat → Int32} {d : Nat} (hd : 0 ≤ d) {res : Option Value × sm_H} {y0 : Int32}  {h : sm_H} {r : (Int32 × sm_H)} (hf : F_337_55 y0 h = some r) (hs : (fun (r : Int32 × sm_H) => res = (some (.int r.1), r.2)) r) : Ex (P_G L xs) (RUN L xs d) (sm_lk P_t337) 3 55 [some (.int y0)] [] h res := by
  unfold F_337_55 at hf
  refine Ex.seg 2 (pc' := 58) (lc' := [some (.int y0)]) (st' := [.int 29, .int y0]) (h' := h) (sg1 rfl rfl (sg1 rfl rfl rfl)) ?_
  refine Ex.icmp rfl rfl (fun (c0 : y0 < 29) => ?_) (fun (c0 : ¬ (y0 < 29)) => ?_)
  · rw [if_pos c0] at hf
    exact Ex.weak (sm_le_s sm_le_nil) (B_337_67 hd  hf hs)
  · rw [if_neg c0] at hf
    refine Ex.seg 2 (pc' := 64) (lc' := [some (.int y0)]) (st' := [.int 31, .int y0]) (h' := h) (sg1 rfl rfl (sg1 rfl rfl rfl)) ?_
    refine Ex.icmp rfl rfl (fun (c0 : y0 ≤ 31) => ?_) (fun (c0 : ¬ (y0 ≤ 31)) => ?_)
    · rw [if_pos c0] at hf
      exact Ex.weak (sm_le_n sm_le_nil) (B_337_73 hd  hf hs)
    · rw [if_neg c0] at hf
      exact Ex.weak (sm_le_s sm_le_nil) (B_337_67 hd  hf hs)
theorem B_337_31 {L : Nat} {xs : Nat → Int32} {d : Nat} (hd : 0 ≤ d) {res : Option Value × sm_H} {y0 : Int32}  {h : sm_H} {r : (Int32 × sm_H)} (hf : F_337_31 y0 h = some r) (hs : (fun (r : Int32 × sm_H) => res = (some (.int r.1), r.2)) r) : Ex (P_G L xs) (RUN L xs d) (sm_lk P_t337) 3 31 [some (.int y0)] [] h res := by
  unfold F_337_31 at hf
  refine Ex.seg 2 (pc' := 34) (lc' := [some (.int y0)]) (st' := [.int 10, .int y0]) (h' := h) (sg1 rfl rfl (sg1 rfl rfl rfl)) ?_
  refine Ex.icmp rfl rfl (fun (c0 : y0 = 10) => ?_) (fun (c0 : ¬ (y0 = 10)) => ?_)
  · rw [if_pos c0] at hf
    exact Ex.weak (sm_le_n sm_le_nil) (B_337_73 hd  hf hs)
  · rw [if_neg c0] at hf
    refine Ex.seg 2 (pc' := 40) (lc' := [some (.int y0)]) (st' := [.int 15, .int y0]) (h' := h) (sg1 rfl rfl (sg1 rfl rfl rfl)) ?_
    refine Ex.icmp rfl rfl (fun (c0 : y0 = 15) => ?_) (fun (c0 : ¬ (y0 = 15)) => ?_)
    · rw [if_pos c0] at hf
      exact Ex.weak (sm_le_n sm_le_nil) (B_337_73 hd  hf hs)
    · rw [if_neg c0] at hf
      refine Ex.seg 2 (pc' := 46) (lc' := [some (.int y0)]) (st' := [.int 19, .int y0]) (h' := h) (sg1 rfl rfl (sg1 rfl rfl rfl)) ?_
      refine Ex.icmp rfl rfl (fun (c0 : y0 < 19) => ?_) (fun (c0 : ¬ (y0 < 19)) => ?_)
      · rw [if_pos c0] at hf
        exact Ex.weak (sm_le_s sm_le_nil) (B_337_55 hd  hf hs)
      · rw [if_neg c0] at hf
        refine Ex.seg 2 (pc' := 52) (lc' := [some (.int y0)]) (st' := [.int 26, .int y0]) (h' := h) (sg1 rfl rfl (sg1 rfl rfl rfl)) ?_
        refine Ex.icmp rfl rfl (fun (c0 : y0 ≤ 26) => ?_) (fun (c0 : ¬ (y0 ≤ 26)) => ?_)
        · rw [if_pos c0] at hf
          exact Ex.weak (sm_le_n sm_le_nil) (B_337_73 hd  hf hs)
        · rw [if_neg c0] at hf
          exact Ex.weak (sm_le_s sm_le_nil) (B_337_55 hd  hf hs)
theorem B_337_0 {L : Nat} {xs : Nat → Int32} {d : Nat} (hd : 0 ≤ d) {res : Option Value × sm_H} {x0 : Int32}  {h : sm_H} {r : (Int32 × sm_H)} (hf : F_337_0 x0 h = some r) (hs : (fun (r : Int32 × sm_H) => res = (some (.int r.1), r.2)) r) : Ex (P_G L xs) (RUN L xs d) (sm_lk P_t337) 3 0 [some (.int x0)] [] h res := by
  unfold F_337_0 at hf
  refine Ex.seg 1 (pc' := 1) (lc' := [some (.int x0)]) (st' := [.int x0]) (h' := h) (sg1 rfl rfl rfl) ?_
  refine Ex.ifc rfl rfl (fun (c0 : x0 = 0) => ?_) (fun (c0 : ¬ (x0 = 0)) => ?_)
  · rw [if_pos c0] at hf
    exact Ex.weak (sm_le_n sm_le_nil) (B_337_73 hd  hf hs)
  · rw [if_neg c0] at hf
    refine Ex.seg 2 (pc' := 6) (lc' := [some (.int x0)]) (st' := [.int 2, .int x0]) (h' := h) (sg1 rfl rfl (sg1 rfl rfl rfl)) ?_
    refine Ex.icmp rfl rfl (fun (c0 : x0 = 2) => ?_) (fun (c0 : ¬ (x0 = 2)) => ?_)
    · rw [if_pos c0] at hf
      exact Ex.weak (sm_le_n sm_le_nil) (B_337_73 hd  hf hs)
    · rw [if_neg c0] at hf
      refine Ex.seg 2 (pc' := 11) (lc' := [some (.int x0)]) (st' := [.int 3, .int x0]) (h' := h) (sg1 rfl rfl (sg1 rfl rfl rfl)) ?_
      refine Ex.icmp rfl rfl (fun (c0 : x0 = 3) => ?_) (fun (c0 : ¬ (x0 = 3)) => ?_)
      · rw [if_pos c0] at hf
        exact Ex.weak (sm_le_n sm_le_nil) (B_337_73 hd  hf hs)
      · rw [if_neg c0] at hf
        refine Ex.seg 2 (pc' := 16) (lc' := [some (.int x0)]) (st' := [.int 4, .int x0]) (h' := h) (sg1 rfl rfl (sg1 rfl rfl rfl)) ?_
        refine Ex.icmp rfl rfl (fun (c0 : x0 = 4) => ?_) (fun (c0 : ¬ (x0 = 4)) => ?_)
        · rw [if_pos c0] at hf
          exact Ex.weak (sm_le_n sm_le_nil) (B_337_73 hd  hf hs)
        · rw [if_neg c0] at hf
          refine Ex.seg 2 (pc' := 22) (lc' := [some (.int x0)]) (st' := [.int 6, .int x0]) (h' := h) (sg1 rfl rfl (sg1 rfl rfl rfl)) ?_
          refine Ex.icmp rfl rfl (fun (c0 : x0 < 6) => ?_) (fun (c0 : ¬ (x0 < 6)) => ?_)
          · rw [if_pos c0] at hf
            exact Ex.weak (sm_le_s sm_le_nil) (B_337_31 hd  hf hs)
          · rw [if_neg c0] at hf
            refine Ex.seg 2 (pc' := 28) (lc' := [some (.int x0)]) (st' := [.int 8, .int x0]) (h' := h) (sg1 rfl rfl (sg1 rfl rfl rfl)) ?_
            refine Ex.icmp rfl rfl (fun (c0 : x0 ≤ 8) => ?_) (fun (c0 : ¬ (x0 ≤ 8)) => ?_)
            · rw [if_pos c0] at hf
              exact Ex.weak (sm_le_n sm_le_nil) (B_337_73 hd  hf hs)
            · rw [if_neg c0] at hf
              exact Ex.weak (sm_le_s sm_le_nil) (B_337_31 hd  hf hs)
theorem E_337 {L : Nat} {xs : Nat → Int32} {d : Nat} (hd : 1 ≤ d) {x0 : Int32} {h : sm_H} {r : Int32 × sm_H} (hf : F_337 x0 h = some r) : RUN L xs d 337 [.int x0] h (some (.int r.1), r.2) := by
  obtain ⟨d, rfl⟩ : ∃ e, d = e + 1 := ⟨d - 1, by omega⟩
  exact ⟨Nat.le_of_ble_eq_true rfl, B_337_0 (by omega) hf rfl⟩
theorem B_338_69 {L : Nat} {xs : Nat → Int32} {d : Nat} (hd : 0 ≤ d) {res : Option Value × sm_H} {z0 : Int32}  {h : sm_H} {r : (Int32 × sm_H)} (hf : F_338_69 z0 h = some r) (hs : (fun (r : Int32 × sm_H) => res = (some (.int r.1), r.2)) r) : Ex (P_G L xs) (RUN L xs d) (sm_lk P_t338) 3 69 [none] [.int z0] h res := by
  unfold F_338_69 at hf
  rcases Classical.em (z0 = 0 ∨ z0 = 1) with c0 | c0
  · rw [if_pos c0] at hf
    obtain rfl := Option.some.inj hf
    exact Ex.iret rfl rfl (fun _ => c0) hs
  · rw [if_neg c0] at hf
    cases hf
theorem B_338_64 {L : Nat} {xs : Nat → Int32} {d : Nat} (hd : 0 ≤ d) {res : Option Value × sm_H}   {h : sm_H} {r : (Int32 × sm_H)} (hf : F_338_64  h = some r) (hs : (fun (r : Int32 × sm_H) => res = (some (.int r.1), r.2)) r) : Ex (P_G L xs) (RUN L xs d) (sm_lk P_t338) 3 64 [none] [] h res := by
  unfold F_338_64 at hf
  refine Ex.seg 2 (pc' := 69) (lc' := [none]) (st' := [.int 1]) (h' := h) (sg1 rfl rfl (sg1 rfl rfl rfl)) ?_
  exact Ex.weak (sm_le_s sm_le_nil) (B_338_69 hd  hf hs)
theorem B_338_68 {L : Nat} {xs : Nat → Int32} {d : Nat} (hd : 0 ≤ d) {res : Option Value × sm_H}   {h : sm_H} {r : (Int32 × sm_H)} (hf : F_338_68  h = some r) (hs : (fun (r : Int32 × sm_H) => res = (some (.int r.1), r.2)) r) : Ex (P_G L xs) (RUN L xs d) (sm_lk P_t338) 3 68 [none] [] h res := by
  unfold F_338_68 at hf
  refine Ex.seg 1 (pc' := 69) (lc' := [none]) (st' := [.int 0]) (h' := h) (sg1 rfl rfl rfl) ?_
  exact Ex.weak (sm_le_s sm_le_nil) (B_338_69 hd  hf hs)
theorem B_338_22 {L : Nat} {xs : Nat → Int32} {d : Nat} (hd : 0 ≤ d) {res : Option Value × sm_H} {y0 : Int32}  {h : sm_H} {r : (Int32 × sm_H)} (hf : F_338_22 y0 h = some r) (hs : (fun (r : Int32 × sm_H) => res = (some (.int r.1), r.2)) r) : Ex (P_G L xs) (RUN L xs d) (sm_lk P_t338) 3 22 [some (.int y0)] [] h res := by
  unfold F_338_22 at hf
  refine Ex.seg 2 (pc' := 25) (lc' := [some (.int y0)]) (st' := [.int 18, .int y0]) (h' := h) (sg1 rfl rfl (sg1 rfl rfl rfl)) ?_
  refine Ex.icmp rfl rfl (fun (c0 : y0 = 18) => ?_) (fun (c0 : ¬ (y0 = 18)) => ?_)
  · rw [if_pos c0] at hf
    exact Ex.weak (sm_le_n sm_le_nil) (B_338_64 hd  hf hs)
  · rw [if_neg c0] at hf
    refine Ex.seg 2 (pc' := 31) (lc' := [some (.int y0)]) (st' := [.int 19, .int y0]) (h' := h) (sg1 rfl rfl (sg1 rfl rfl rfl)) ?_
    refine Ex.icmp rfl rfl (fun (c0 : y0 = 19) => ?_) (fun (c0 : ¬ (y0 = 19)) => ?_)
    · rw [if_pos c0] at hf
      exact Ex.weak (sm_le_n sm_le_nil) (B_338_64 hd  hf hs)
    · rw [if_neg c0] at hf
      refine Ex.seg 2 (pc' := 37) (lc' := [some (.int y0)]) (st' := [.int 27, .int y0]) (h' := h) (sg1 rfl rfl (sg1 rfl rfl rfl)) ?_
      refine Ex.icmp rfl rfl (fun (c0 : y0 = 27) => ?_) (fun (c0 : ¬ (y0 = 27)) => ?_)
      · rw [if_pos c0] at hf
        exact Ex.weak (sm_le_n sm_le_nil) (B_338_64 hd  hf hs)
      · rw [if_neg c0] at hf
        refine Ex.seg 2 (pc' := 43) (lc' := [some (.int y0)]) (st' := [.int 28, .int y0]) (h' := h) (sg1 rfl rfl (sg1 rfl rfl rfl)) ?_
        refine Ex.icmp rfl rfl (fun (c0 : y0 = 28) => ?_) (fun (c0 : ¬ (y0 = 28)) => ?_)
        · rw [if_pos c0] at hf
          exact Ex.weak (sm_le_n sm_le_nil) (B_338_64 hd  hf hs)
        · rw [if_neg c0] at hf
          refine Ex.seg 2 (pc' := 49) (lc' := [some (.int y0)]) (st' := [.int 34, .int y0]) (h' := h) (sg1 rfl rfl (sg1 rfl rfl rfl)) ?_
          refine Ex.icmp rfl rfl (fun (c0 : y0 = 34) => ?_) (fun (c0 : ¬ (y0 = 34)) => ?_)
          · rw [if_pos c0] at hf
            exact Ex.weak (sm_le_n sm_le_nil) (B_338_64 hd  hf hs)
          · rw [if_neg c0] at hf
            refine Ex.seg 2 (pc' := 55) (lc' := [some (.int y0)]) (st' := [.int 35, .int y0]) (h' := h) (sg1 rfl rfl (sg1 rfl rfl rfl)) ?_
            refine Ex.icmp rfl rfl (fun (c0 : y0 < 35) => ?_) (fun (c0 : ¬ (y0 < 35)) => ?_)
            · rw [if_pos c0] at hf
              exact Ex.weak (sm_le_n sm_le_nil) (B_338_68 hd  hf hs)
            · rw [if_neg c0] at hf
              refine Ex.seg 2 (pc' := 61) (lc' := [some (.int y0)]) (st' := [.int 37, .int y0]) (h' := h) (sg1 rfl rfl (sg1 rfl rfl rfl)) ?_
              refine Ex.icmp rfl rfl (fun (c0 : 37 < y0) => ?_) (fun (c0 : ¬ (37 < y0)) => ?_)
              · rw [if_pos c0] at hf
                exact Ex.weak (sm_le_n sm_le_nil) (B_338_68 hd  hf hs)
              · rw [if_neg c0] at hf
                exact Ex.weak (sm_le_n sm_le_nil) (B_338_64 hd  hf hs)
theorem B_338_10 {L : Nat} {xs : Nat → Int32} {d : Nat} (hd : 0 ≤ d) {res : Option Value × sm_H} {y0 : Int32}  {h : sm_H} {r : (Int32 × sm_H)} (hf : F_338_10 y0 h = some r) (hs : (fun (r : Int32 × sm_H) => res = (some (.int r.1), r.2)) r) : Ex (P_G L xs) (RUN L xs d) (sm_lk P_t338) 3 10 [some (.int y0)] [] h res := by
  unfold F_338_10 at hf
  refine Ex.seg 2 (pc' := 13) (lc' := [some (.int y0)]) (st' := [.int 10, .int y0]) (h' := h) (sg1 rfl rfl (sg1 rfl rfl rfl)) ?_
  refine Ex.icmp rfl rfl (fun (c0 : y0 < 10) => ?_) (fun (c0 : ¬ (y0 < 10)) => ?_)
  · rw [if_pos c0] at hf
    exact Ex.weak (sm_le_s sm_le_nil) (B_338_22 hd  hf hs)
  · rw [if_neg c0] at hf
    refine Ex.seg 2 (pc' := 19) (lc' := [some (.int y0)]) (st' := [.int 13, .int y0]) (h' := h) (sg1 rfl rfl (sg1 rfl rfl rfl)) ?_
    refine Ex.icmp rfl rfl (fun (c0 : y0 ≤ 13) => ?_) (fun (c0 : ¬ (y0 ≤ 13)) => ?_)
    · rw [if_pos c0] at hf
      exact Ex.weak (sm_le_n sm_le_nil) (B_338_64 hd  hf hs)
    · rw [if_neg c0] at hf
      exact Ex.weak (sm_le_s sm_le_nil) (B_338_22 hd  hf hs)
theorem B_338_0 {L : Nat} {xs : Nat → Int32} {d : Nat} (hd : 0 ≤ d) {res : Option Value × sm_H} {x0 : Int32}  {h : sm_H} {r : (Int32 × sm_H)} (hf : F_338_0 x0 h = some r) (hs : (fun (r : Int32 × sm_H) => res = (some (.int r.1), r.2)) r) : Ex (P_G L xs) (RUN L xs d) (sm_lk P_t338) 3 0 [some (.int x0)] [] h res := by
  unfold F_338_0 at hf
  refine Ex.seg 2 (pc' := 2) (lc' := [some (.int x0)]) (st' := [.int 3, .int x0]) (h' := h) (sg1 rfl rfl (sg1 rfl rfl rfl)) ?_
  refine Ex.icmp rfl rfl (fun (c0 : x0 < 3) => ?_) (fun (c0 : ¬ (x0 < 3)) => ?_)
  · rw [if_pos c0] at hf
    exact Ex.weak (sm_le_s sm_le_nil) (B_338_10 hd  hf hs)
  · rw [if_neg c0] at hf
    refine Ex.seg 2 (pc' := 7) (lc' := [some (.int x0)]) (st' := [.int 5, .int x0]) (h' := h) (sg1 rfl rfl (sg1 rfl rfl rfl)) ?_
    refine Ex.icmp rfl rfl (fun (c0 : x0 ≤ 5) => ?_) (fun (c0 : ¬ (x0 ≤ 5)) => ?_)
    · rw [if_pos c0] at hf
      exact Ex.weak (sm_le_n sm_le_nil) (B_338_64 hd  hf hs)
    · rw [if_neg c0] at hf
      exact Ex.weak (sm_le_s sm_le_nil) (B_338_10 hd  hf hs)
theorem E_338 {L : Nat} {xs : Nat → Int32} {d : Nat} (hd : 1 ≤ d) {x0 : Int32} {h : sm_H} {r : Int32 × sm_H} (hf : F_338 x0 h = some r) : RUN L xs d 338 [.int x0] h (some (.int r.1), r.2) := by
  obtain ⟨d, rfl⟩ : ∃ e, d = e + 1 := ⟨d - 1, by omega⟩
  exact ⟨Nat.le_of_ble_eq_true rfl, B_338_0 (by omega) hf rfl⟩
theorem B_339_132 {L : Nat} {xs : Nat → Int32} {d : Nat} (hd : 0 ≤ d) {res : Option Value × sm_H} {S1 : (Int32 × Int32 × Int32 × Int64 × Int32 × sm_H) → Prop} (hS1 : ∀ s, S1 s → Ex (P_G L xs) (RUN L xs d) (sm_lk P_t339) 0 3 [some (.ref 67), some (.int s.1), some (.int s.2.1), some (.int s.2.2.1), some (.long s.2.2.2.1), none, some (.int s.2.2.2.2.1), none, none] [] s.2.2.2.2.2 res) {y1 : Int32} {y2 : Int32} {y3 : Int32} {y4 : Int64} {y6 : Int32} {y7 : Int32}  {h : sm_H} {r : ((Int32 × Int32 × Int32 × Int64 × Int32 × sm_H) ⊕ (Int32 × sm_H))} (hf : F_339_132 y1 y2 y3 y4 y6 y7 h = some r) (hs : (Sum.elim S1 (fun (r : Int32 × sm_H) => res = (some (.int r.1), r.2))) r) : Ex (P_G L xs) (RUN L xs d) (sm_lk P_t339) 0 132 [some (.ref 67), some (.int y1), some (.int y2), some (.int y3), some (.long y4), none, some (.int y6), some (.int y7), none] [] h res := by
  unfold F_339_132 at hf
  refine Ex.seg 1 (pc' := 134) (lc' := [some (.ref 67), some (.int y1), some (.int y2), some (.int y3), some (.long y4), none, some (.int y6), some (.int y7), none]) (st' := [.int y7]) (h' := h) (sg1 rfl rfl rfl) ?_
  refine Ex.ifc rfl rfl (fun (c0 : y7 = 0) => ?_) (fun (c0 : ¬ (y7 = 0)) => ?_)
  · rw [if_pos c0] at hf
    refine Ex.seg 1 (pc' := 143) (lc' := [some (.ref 67), some (.int y1), some (.int y2), some (.int y3), some (.long y4), none, some (.int (y6 + 1)), some (.int y7), none]) (st' := []) (h' := h) (sg1 rfl rfl rfl) ?_
    obtain ⟨v1, e_v1, hf⟩ := bnd hf
    rw [Option.some.inj e_v1]
    refine Ex.seg 1 (pc' := 3) (lc' := [some (.ref 67), some (.int y1), some (.int y2), some (.int y3), some (.long y4), none, some (.int v1), some (.int y7), none]) (st' := []) (h' := h) (sg1 rfl rfl rfl) ?_
    obtain rfl := Option.some.inj hf
    exact Ex.weak (sm_le_s (sm_le_s (sm_le_s (sm_le_s (sm_le_s (sm_le_s (sm_le_s (sm_le_n (sm_le_s sm_le_nil))))))))) (hS1 _ hs)
  · rw [if_neg c0] at hf
    refine Ex.seg 1 (pc' := 139) (lc' := [some (.ref 67), some (.int y1), some (.int y2), some (.int y3), some (.long y4), none, some (.int y6), some (.int y7), none]) (st' := [.int y6]) (h' := h) (sg1 rfl rfl rfl) ?_
    obtain rfl := Option.some.inj hf
    exact Ex.iret rfl rfl (fun c0 => by cases c0) hs
theorem B_339_124 {L : Nat} {xs : Nat → Int32} {d : Nat} (hd : 0 ≤ d) {res : Option Value × sm_H} {S1 : (Int32 × Int32 × Int32 × Int64 × Int32 × sm_H) → Prop} (hS1 : ∀ s, S1 s → Ex (P_G L xs) (RUN L xs d) (sm_lk P_t339) 0 3 [some (.ref 67), some (.int s.1), some (.int s.2.1), some (.int s.2.2.1), some (.long s.2.2.2.1), none, some (.int s.2.2.2.2.1), none, none] [] s.2.2.2.2.2 res) {S2 : (Int32 × Int32 × Int32 × Int64 × Int32 × Int32 × Int32 × sm_H) → Prop} (hS2 : ∀ s, S2 s → Ex (P_G L xs) (RUN L xs d) (sm_lk P_t339) 0 82 [some (.ref 67), some (.int s.1), some (.int s.2.1), some (.int s.2.2.1), some (.long s.2.2.2.1), none, some (.int s.2.2.2.2.1), some (.int s.2.2.2.2.2.1), some (.int s.2.2.2.2.2.2.1)] [] s.2.2.2.2.2.2.2 res) {y1 : Int32} {y2 : Int32} {y3 : Int32} {y4 : Int64} {y6 : Int32} {y8 : Int32} {z0 : Int32}  {h : sm_H} {r : ((Int32 × Int32 × Int32 × Int64 × Int32 × Int32 × Int32 × sm_H) ⊕ ((Int32 × Int32 × Int32 × Int64 × Int32 × sm_H) ⊕ (Int32 × sm_H)))} (hf : F_339_124 y1 y2 y3 y4 y6 y8 z0 h = some r) (hs : (Sum.elim S2 (Sum.elim S1 (fun (r : Int32 × sm_H) => res = (some (.int r.1), r.2)))) r) : Ex (P_G L xs) (RUN L xs d) (sm_lk P_t339) 0 124 [some (.ref 67), some (.int y1), some (.int y2), some (.int y3), some (.long y4), none, some (.int y6), none, some (.int y8)] [.int z0] h res := by
  unfold F_339_124 at hf
  refine Ex.seg 2 (pc' := 129) (lc' := [some (.ref 67), some (.int y1), some (.int y2), some (.int y3), some (.long y4), none, some (.int y6), some (.int z0), some (.int (y8 + 1))]) (st' := []) (h' := h) (sg1 rfl rfl (sg1 rfl rfl rfl)) ?_
  obtain ⟨v2, e_v2, hf⟩ := bnd hf
  rw [Option.some.inj e_v2]
  refine Ex.seg 1 (pc' := 82) (lc' := [some (.ref 67), some (.int y1), some (.int y2), some (.int y3), some (.long y4), none, some (.int y6), some (.int z0), some (.int v2)]) (st' := []) (h' := h) (sg1 rfl rfl rfl) ?_
  obtain rfl := Option.some.inj hf
  exact Ex.weak (sm_le_s (sm_le_s (sm_le_s (sm_le_s (sm_le_s (sm_le_s (sm_le_s (sm_le_s (sm_le_s sm_le_nil))))))))) (hS2 _ hs)
theorem B_339_82B {L : Nat} {xs : Nat → Int32} {d : Nat} (hd : 0 ≤ d) {res : Option Value × sm_H} {S1 : (Int32 × Int32 × Int32 × Int64 × Int32 × sm_H) → Prop} (hS1 : ∀ s, S1 s → Ex (P_G L xs) (RUN L xs d) (sm_lk P_t339) 0 3 [some (.ref 67), some (.int s.1), some (.int s.2.1), some (.int s.2.2.1), some (.long s.2.2.2.1), none, some (.int s.2.2.2.2.1), none, none] [] s.2.2.2.2.2 res) {S2 : (Int32 × Int32 × Int32 × Int64 × Int32 × Int32 × Int32 × sm_H) → Prop} (hS2 : ∀ s, S2 s → Ex (P_G L xs) (RUN L xs d) (sm_lk P_t339) 0 82 [some (.ref 67), some (.int s.1), some (.int s.2.1), some (.int s.2.2.1), some (.long s.2.2.2.1), none, some (.int s.2.2.2.2.1), some (.int s.2.2.2.2.2.1), some (.int s.2.2.2.2.2.2.1)] [] s.2.2.2.2.2.2.2 res) {s : (Int32 × Int32 × Int32 × Int64 × Int32 × Int32 × Int32 × sm_H)}  {r : ((Int32 × Int32 × Int32 × Int64 × Int32 × Int32 × Int32 × sm_H) ⊕ ((Int32 × Int32 × Int32 × Int64 × Int32 × sm_H) ⊕ (Int32 × sm_H)))} (hf : F_339_82B s = some r) (hs : (Sum.elim S2 (Sum.elim S1 (fun (r : Int32 × sm_H) => res = (some (.int r.1), r.2)))) r) : Ex (P_G L xs) (RUN L xs d) (sm_lk P_t339) 0 82 [some (.ref 67), some (.int s.1), some (.int s.2.1), some (.int s.2.2.1), some (.long s.2.2.2.1), none, some (.int s.2.2.2.2.1), some (.int s.2.2.2.2.2.1), some (.int s.2.2.2.2.2.2.1)] [] s.2.2.2.2.2.2.2 res := by
  unfold F_339_82B at hf
  refine Ex.seg 3 (pc' := 88) (lc' := [some (.ref 67), some (.int s.1), some (.int s.2.1), some (.int s.2.2.1), some (.long s.2.2.2.1), none, some (.int s.2.2.2.2.1), some (.int s.2.2.2.2.2.1), some (.int s.2.2.2.2.2.2.1)]) (st' := [.int (s.2.2.2.2.2.2.2.1 67 3), .int s.2.2.2.2.2.2.1]) (h' := s.2.2.2.2.2.2.2) (sg1 rfl rfl (sg1 rfl rfl (sg1 rfl rfl rfl))) ?_
  refine Ex.icmp rfl rfl (fun (c0 : (s.2.2.2.2.2.2.2.1 67 3) ≤ s.2.2.2.2.2.2.1) => ?_) (fun (c0 : ¬ ((s.2.2.2.2.2.2.2.1 67 3) ≤ s.2.2.2.2.2.2.1)) => ?_)
  · rw [if_pos c0] at hf
    obtain ⟨r0, hf0, rfl⟩ := Option.map_eq_some_iff.mp hf
    exact Ex.weak (sm_le_s (sm_le_s (sm_le_s (sm_le_s (sm_le_s (sm_le_s (sm_le_s (sm_le_s (sm_le_n sm_le_nil))))))))) (B_339_132 hd hS1 hf0 hs)
  · rw [if_neg c0] at hf
    refine Ex.seg 1 (pc' := 93) (lc' := [some (.ref 67), some (.int s.1), some (.int s.2.1), some (.int s.2.2.1), some (.long s.2.2.2.1), none, some (.int s.2.2.2.2.1), some (.int s.2.2.2.2.2.1), some (.int s.2.2.2.2.2.2.1)]) (st' := [.int s.2.2.2.2.2.1]) (h' := s.2.2.2.2.2.2.2) (sg1 rfl rfl rfl) ?_
    refine Ex.ifc rfl rfl (fun (c0 : s.2.2.2.2.2.1 = 0) => ?_) (fun (c0 : ¬ (s.2.2.2.2.2.1 = 0)) => ?_)
    · rw [if_pos c0] at hf
      obtain ⟨r0, hf0, rfl⟩ := Option.map_eq_some_iff.mp hf
      exact Ex.weak (sm_le_s (sm_le_s (sm_le_s (sm_le_s (sm_le_s (sm_le_s (sm_le_s (sm_le_s (sm_le_n sm_le_nil))))))))) (B_339_132 hd hS1 hf0 hs)
    · rw [if_neg c0] at hf
      refine Ex.seg 7 (pc' := 108) (lc' := [some (.ref 67), some (.int s.1), some (.int s.2.1), some (.int s.2.2.1), some (.long s.2.2.2.1), none, some (.int s.2.2.2.2.1), some (.int s.2.2.2.2.2.1), some (.int s.2.2.2.2.2.2.1)]) (st' := [.int ((24 * s.2.2.2.2.1) + s.2.2.2.2.2.2.1), .ref 81]) (h' := s.2.2.2.2.2.2.2) (sg1 rfl rfl (sg1 rfl rfl (sg1 rfl rfl (sg1 rfl rfl (sg1 rfl rfl (sg1 rfl rfl (sg1 rfl rfl rfl))))))) ?_
      obtain ⟨v3, e_v3, hf⟩ := bnd hf
      refine Ex.iald e_v3 rfl rfl ?_
      refine Ex.seg 3 (pc' := 115) (lc' := [some (.ref 67), some (.int s.1), some (.int s.2.1), some (.int s.2.2.1), some (.long s.2.2.2.1), none, some (.int s.2.2.2.2.1), some (.int s.2.2.2.2.2.1), some (.int s.2.2.2.2.2.2.1)]) (st' := [.int s.2.2.2.2.2.2.1, .ref 69, .int v3]) (h' := s.2.2.2.2.2.2.2) (sg1 rfl rfl (sg1 rfl rfl (sg1 rfl rfl rfl))) ?_
      obtain ⟨v4, e_v4, hf⟩ := bnd hf
      refine Ex.iald e_v4 rfl rfl ?_
      refine Ex.icmp rfl rfl (fun (c0 : ¬ (v3 = v4)) => ?_) (fun (c0 : ¬ ¬ (v3 = v4)) => ?_)
      · rw [if_neg c0] at hf
        refine Ex.seg 1 (pc' := 124) (lc' := [some (.ref 67), some (.int s.1), some (.int s.2.1), some (.int s.2.2.1), some (.long s.2.2.2.1), none, some (.int s.2.2.2.2.1), some (.int s.2.2.2.2.2.1), some (.int s.2.2.2.2.2.2.1)]) (st' := [.int 0]) (h' := s.2.2.2.2.2.2.2) (sg1 rfl rfl rfl) ?_
        exact Ex.weak (sm_le_s (sm_le_s (sm_le_s (sm_le_s (sm_le_s (sm_le_s (sm_le_s (sm_le_n (sm_le_s sm_le_nil))))))))) (B_339_124 hd hS1 hS2 hf hs)
      · rw [if_pos (Classical.not_not.mp c0)] at hf
        refine Ex.seg 2 (pc' := 124) (lc' := [some (.ref 67), some (.int s.1), some (.int s.2.1), some (.int s.2.2.1), some (.long s.2.2.2.1), none, some (.int s.2.2.2.2.1), some (.int s.2.2.2.2.2.1), some (.int s.2.2.2.2.2.2.1)]) (st' := [.int 1]) (h' := s.2.2.2.2.2.2.2) (sg1 rfl rfl (sg1 rfl rfl rfl)) ?_
        exact Ex.weak (sm_le_s (sm_le_s (sm_le_s (sm_le_s (sm_le_s (sm_le_s (sm_le_s (sm_le_n (sm_le_s sm_le_nil))))))))) (B_339_124 hd hS1 hS2 hf hs)
theorem B_339_82 {L : Nat} {xs : Nat → Int32} {d : Nat} (hd : 0 ≤ d) {res : Option Value × sm_H} {S1 : (Int32 × Int32 × Int32 × Int64 × Int32 × sm_H) → Prop} (hS1 : ∀ s, S1 s → Ex (P_G L xs) (RUN L xs d) (sm_lk P_t339) 0 3 [some (.ref 67), some (.int s.1), some (.int s.2.1), some (.int s.2.2.1), some (.long s.2.2.2.1), none, some (.int s.2.2.2.2.1), none, none] [] s.2.2.2.2.2 res) {y1 : Int32} {y2 : Int32} {y3 : Int32} {y4 : Int64} {y6 : Int32} {y7 : Int32} {y8 : Int32}  {h : sm_H} {r : ((Int32 × Int32 × Int32 × Int64 × Int32 × sm_H) ⊕ (Int32 × sm_H))} (hf : F_339_82 y1 y2 y3 y4 y6 y7 y8 h = some r) (hs : (Sum.elim S1 (fun (r : Int32 × sm_H) => res = (some (.int r.1), r.2))) r) : Ex (P_G L xs) (RUN L xs d) (sm_lk P_t339) 0 82 [some (.ref 67), some (.int y1), some (.int y2), some (.int y3), some (.long y4), none, some (.int y6), some (.int y7), some (.int y8)] [] h res := by
  unfold F_339_82 at hf
  exact lp_ok (P := fun (s : (Int32 × Int32 × Int32 × Int64 × Int32 × Int32 × Int32 × sm_H)) => Ex (P_G L xs) (RUN L xs d) (sm_lk P_t339) 0 82 [some (.ref 67), some (.int s.1), some (.int s.2.1), some (.int s.2.2.1), some (.long s.2.2.2.1), none, some (.int s.2.2.2.2.1), some (.int s.2.2.2.2.2.1), some (.int s.2.2.2.2.2.2.1)] [] s.2.2.2.2.2.2.2 res) (S := (Sum.elim S1 (fun (r : Int32 × sm_H) => res = (some (.int r.1), r.2)))) (fun s x hx hsx => by
    intros
    exact B_339_82B hd hS1 (fun _ q => q) hx hsx) 1000000 _ r hf hs
theorem B_339_77 {L : Nat} {xs : Nat → Int32} {d : Nat} (hd : 0 ≤ d) {res : Option Value × sm_H} {S1 : (Int32 × Int32 × Int32 × Int64 × Int32 × sm_H) → Prop} (hS1 : ∀ s, S1 s → Ex (P_G L xs) (RUN L xs d) (sm_lk P_t339) 0 3 [some (.ref 67), some (.int s.1), some (.int s.2.1), some (.int s.2.2.1), some (.long s.2.2.2.1), none, some (.int s.2.2.2.2.1), none, none] [] s.2.2.2.2.2 res) {y1 : Int32} {y2 : Int32} {y3 : Int32} {y4 : Int64} {y6 : Int32} {z0 : Int32}  {h : sm_H} {r : ((Int32 × Int32 × Int32 × Int64 × Int32 × sm_H) ⊕ (Int32 × sm_H))} (hf : F_339_77 y1 y2 y3 y4 y6 z0 h = some r) (hs : (Sum.elim S1 (fun (r : Int32 × sm_H) => res = (some (.int r.1), r.2))) r) : Ex (P_G L xs) (RUN L xs d) (sm_lk P_t339) 0 77 [some (.ref 67), some (.int y1), some (.int y2), some (.int y3), some (.long y4), none, some (.int y6), none, none] [.int z0] h res := by
  unfold F_339_77 at hf
  refine Ex.seg 3 (pc' := 82) (lc' := [some (.ref 67), some (.int y1), some (.int y2), some (.int y3), some (.long y4), none, some (.int y6), some (.int z0), some (.int 0)]) (st' := []) (h' := h) (sg1 rfl rfl (sg1 rfl rfl (sg1 rfl rfl rfl))) ?_
  exact Ex.weak (sm_le_s (sm_le_s (sm_le_s (sm_le_s (sm_le_s (sm_le_s (sm_le_s (sm_le_s (sm_le_s sm_le_nil))))))))) (B_339_82 hd hS1 hf hs)
theorem B_339_76 {L : Nat} {xs : Nat → Int32} {d : Nat} (hd : 0 ≤ d) {res : Option Value × sm_H} {S1 : (Int32 × Int32 × Int32 × Int64 × Int32 × sm_H) → Prop} (hS1 : ∀ s, S1 s → Ex (P_G L xs) (RUN L xs d) (sm_lk P_t339) 0 3 [some (.ref 67), some (.int s.1), some (.int s.2.1), some (.int s.2.2.1), some (.long s.2.2.2.1), none, some (.int s.2.2.2.2.1), none, none] [] s.2.2.2.2.2 res) {y1 : Int32} {y2 : Int32} {y3 : Int32} {y4 : Int64} {y6 : Int32}  {h : sm_H} {r : ((Int32 × Int32 × Int32 × Int64 × Int32 × sm_H) ⊕ (Int32 × sm_H))} (hf : F_339_76 y1 y2 y3 y4 y6 h = some r) (hs : (Sum.elim S1 (fun (r : Int32 × sm_H) => res = (some (.int r.1), r.2))) r) : Ex (P_G L xs) (RUN L xs d) (sm_lk P_t339) 0 76 [some (.ref 67), some (.int y1), some (.int y2), some (.int y3), some (.long y4), none, some (.int y6), none, none] [] h res := by
  unfold F_339_76 at hf
  refine Ex.seg 1 (pc' := 77) (lc' := [some (.ref 67), some (.int y1), some (.int y2), some (.int y3), some (.long y4), none, some (.int y6), none, none]) (st' := [.int 0]) (h' := h) (sg1 rfl rfl rfl) ?_
  exact Ex.weak (sm_le_s (sm_le_s (sm_le_s (sm_le_s (sm_le_s (sm_le_s (sm_le_s (sm_le_s (sm_le_s sm_le_nil))))))))) (B_339_77 hd hS1 hf hs)
theorem B_339_3B {L : Nat} {xs : Nat → Int32} {d : Nat} (hd : 0 ≤ d) {res : Option Value × sm_H} {S1 : (Int32 × Int32 × Int32 × Int64 × Int32 × sm_H) → Prop} (hS1 : ∀ s, S1 s → Ex (P_G L xs) (RUN L xs d) (sm_lk P_t339) 0 3 [some (.ref 67), some (.int s.1), some (.int s.2.1), some (.int s.2.2.1), some (.long s.2.2.2.1), none, some (.int s.2.2.2.2.1), none, none] [] s.2.2.2.2.2 res) {s : (Int32 × Int32 × Int32 × Int64 × Int32 × sm_H)}  {r : ((Int32 × Int32 × Int32 × Int64 × Int32 × sm_H) ⊕ (Int32 × sm_H))} (hf : F_339_3B s = some r) (hs : (Sum.elim S1 (fun (r : Int32 × sm_H) => res = (some (.int r.1), r.2))) r) : Ex (P_G L xs) (RUN L xs d) (sm_lk P_t339) 0 3 [some (.ref 67), some (.int s.1), some (.int s.2.1), some (.int s.2.2.1), some (.long s.2.2.2.1), none, some (.int s.2.2.2.2.1), none, none] [] s.2.2.2.2.2 res := by
  unfold F_339_3B at hf
  refine Ex.seg 3 (pc' := 9) (lc' := [some (.ref 67), some (.int s.1), some (.int s.2.1), some (.int s.2.2.1), some (.long s.2.2.2.1), none, some (.int s.2.2.2.2.1), none, none]) (st' := [.int (s.2.2.2.2.2.1 67 18), .int s.2.2.2.2.1]) (h' := s.2.2.2.2.2) (sg1 rfl rfl (sg1 rfl rfl (sg1 rfl rfl rfl))) ?_
  refine Ex.icmp rfl rfl (fun (c0 : (s.2.2.2.2.2.1 67 18) ≤ s.2.2.2.2.1) => ?_) (fun (c0 : ¬ ((s.2.2.2.2.2.1 67 18) ≤ s.2.2.2.2.1)) => ?_)
  · rw [if_pos c0] at hf
    refine Ex.seg 1 (pc' := 147) (lc' := [some (.ref 67), some (.int s.1), some (.int s.2.1), some (.int s.2.2.1), some (.long s.2.2.2.1), none, some (.int s.2.2.2.2.1), none, none]) (st' := [.int (-1)]) (h' := s.2.2.2.2.2) (sg1 rfl rfl rfl) ?_
    obtain rfl := Option.some.inj hf
    exact Ex.iret rfl rfl (fun c0 => by cases c0) hs
  · rw [if_neg c0] at hf
    refine Ex.seg 3 (pc' := 18) (lc' := [some (.ref 67), some (.int s.1), some (.int s.2.1), some (.int s.2.2.1), some (.long s.2.2.2.1), none, some (.int s.2.2.2.2.1), none, none]) (st' := [.int s.2.2.2.2.1, .ref 75]) (h' := s.2.2.2.2.2) (sg1 rfl rfl (sg1 rfl rfl (sg1 rfl rfl rfl))) ?_
    obtain ⟨v5, e_v5, hf⟩ := bnd hf
    refine Ex.iald e_v5 rfl rfl ?_
    refine Ex.seg 1 (pc' := 20) (lc' := [some (.ref 67), some (.int s.1), some (.int s.2.1), some (.int s.2.2.1), some (.long s.2.2.2.1), none, some (.int s.2.2.2.2.1), none, none]) (st' := [.int s.1, .int v5]) (h' := s.2.2.2.2.2) (sg1 rfl rfl rfl) ?_
    refine Ex.icmp rfl rfl (fun (c0 : ¬ (v5 = s.1)) => ?_) (fun (c0 : ¬ ¬ (v5 = s.1)) => ?_)
    · rw [if_neg c0] at hf
      exact Ex.weak (sm_le_s (sm_le_s (sm_le_s (sm_le_s (sm_le_s (sm_le_s (sm_le_s (sm_le_s (sm_le_s sm_le_nil))))))))) (B_339_76 hd hS1 hf hs)
    · rw [if_pos (Classical.not_not.mp c0)] at hf
      refine Ex.seg 3 (pc' := 29) (lc' := [some (.ref 67), some (.int s.1), some (.int s.2.1), some (.int s.2.2.1), some (.long s.2.2.2.1), none, some (.int s.2.2.2.2.1), none, none]) (st' := [.int s.2.2.2.2.1, .ref 77]) (h' := s.2.2.2.2.2) (sg1 rfl rfl (sg1 rfl rfl (sg1 rfl rfl rfl))) ?_
      obtain ⟨v6, e_v6, hf⟩ := bnd hf
      refine Ex.iald e_v6 rfl rfl ?_
      refine Ex.seg 1 (pc' := 31) (lc' := [some (.ref 67), some (.int s.1), some (.int s.2.1), some (.int s.2.2.1), some (.long s.2.2.2.1), none, some (.int s.2.2.2.2.1), none, none]) (st' := [.int s.2.1, .int v6]) (h' := s.2.2.2.2.2) (sg1 rfl rfl rfl) ?_
      refine Ex.icmp rfl rfl (fun (c0 : ¬ (v6 = s.2.1)) => ?_) (fun (c0 : ¬ ¬ (v6 = s.2.1)) => ?_)
      · rw [if_neg c0] at hf
        exact Ex.weak (sm_le_s (sm_le_s (sm_le_s (sm_le_s (sm_le_s (sm_le_s (sm_le_s (sm_le_s (sm_le_s sm_le_nil))))))))) (B_339_76 hd hS1 hf hs)
      · rw [if_pos (Classical.not_not.mp c0)] at hf
        refine Ex.seg 3 (pc' := 40) (lc' := [some (.ref 67), some (.int s.1), some (.int s.2.1), some (.int s.2.2.1), some (.long s.2.2.2.1), none, some (.int s.2.2.2.2.1), none, none]) (st' := [.int s.2.2.2.2.1, .ref 78]) (h' := s.2.2.2.2.2) (sg1 rfl rfl (sg1 rfl rfl (sg1 rfl rfl rfl))) ?_
        obtain ⟨v7, e_v7, hf⟩ := bnd hf
        refine Ex.iald e_v7 rfl rfl ?_
        refine Ex.seg 1 (pc' := 42) (lc' := [some (.ref 67), some (.int s.1), some (.int s.2.1), some (.int s.2.2.1), some (.long s.2.2.2.1), none, some (.int s.2.2.2.2.1), none, none]) (st' := [.int s.2.2.1, .int v7]) (h' := s.2.2.2.2.2) (sg1 rfl rfl rfl) ?_
        refine Ex.icmp rfl rfl (fun (c0 : ¬ (v7 = s.2.2.1)) => ?_) (fun (c0 : ¬ ¬ (v7 = s.2.2.1)) => ?_)
        · rw [if_neg c0] at hf
          exact Ex.weak (sm_le_s (sm_le_s (sm_le_s (sm_le_s (sm_le_s (sm_le_s (sm_le_s (sm_le_s (sm_le_s sm_le_nil))))))))) (B_339_76 hd hS1 hf hs)
        · rw [if_pos (Classical.not_not.mp c0)] at hf
          refine Ex.seg 3 (pc' := 51) (lc' := [some (.ref 67), some (.int s.1), some (.int s.2.1), some (.int s.2.2.1), some (.long s.2.2.2.1), none, some (.int s.2.2.2.2.1), none, none]) (st' := [.int s.2.2.2.2.1, .ref 79]) (h' := s.2.2.2.2.2) (sg1 rfl rfl (sg1 rfl rfl (sg1 rfl rfl rfl))) ?_
          obtain ⟨v8, e_v8, hf⟩ := bnd hf
          refine Ex.lald e_v8 rfl rfl ?_
          refine Ex.seg 2 (pc' := 55) (lc' := [some (.ref 67), some (.int s.1), some (.int s.2.1), some (.int s.2.2.1), some (.long s.2.2.2.1), none, some (.int s.2.2.2.2.1), none, none]) (st' := [.int (lg_cmp v8 s.2.2.2.1)]) (h' := s.2.2.2.2.2) (sg1 rfl rfl (sg1 rfl rfl rfl)) ?_
          refine Ex.ifc rfl rfl (fun (c0 : ¬ ((lg_cmp v8 s.2.2.2.1) = 0)) => ?_) (fun (c0 : ¬ ¬ ((lg_cmp v8 s.2.2.2.1) = 0)) => ?_)
          · rw [if_neg c0] at hf
            exact Ex.weak (sm_le_s (sm_le_s (sm_le_s (sm_le_s (sm_le_s (sm_le_s (sm_le_s (sm_le_s (sm_le_s sm_le_nil))))))))) (B_339_76 hd hS1 hf hs)
          · rw [if_pos (Classical.not_not.mp c0)] at hf
            refine Ex.seg 3 (pc' := 64) (lc' := [some (.ref 67), some (.int s.1), some (.int s.2.1), some (.int s.2.2.1), some (.long s.2.2.2.1), none, some (.int s.2.2.2.2.1), none, none]) (st' := [.int s.2.2.2.2.1, .ref 80]) (h' := s.2.2.2.2.2) (sg1 rfl rfl (sg1 rfl rfl (sg1 rfl rfl rfl))) ?_
            obtain ⟨v9, e_v9, hf⟩ := bnd hf
            refine Ex.iald e_v9 rfl rfl ?_
            refine Ex.seg 2 (pc' := 69) (lc' := [some (.ref 67), some (.int s.1), some (.int s.2.1), some (.int s.2.2.1), some (.long s.2.2.2.1), none, some (.int s.2.2.2.2.1), none, none]) (st' := [.int (s.2.2.2.2.2.1 67 3), .int v9]) (h' := s.2.2.2.2.2) (sg1 rfl rfl (sg1 rfl rfl rfl)) ?_
            refine Ex.icmp rfl rfl (fun (c0 : ¬ (v9 = (s.2.2.2.2.2.1 67 3))) => ?_) (fun (c0 : ¬ ¬ (v9 = (s.2.2.2.2.2.1 67 3))) => ?_)
            · rw [if_neg c0] at hf
              exact Ex.weak (sm_le_s (sm_le_s (sm_le_s (sm_le_s (sm_le_s (sm_le_s (sm_le_s (sm_le_s (sm_le_s sm_le_nil))))))))) (B_339_76 hd hS1 hf hs)
            · rw [if_pos (Classical.not_not.mp c0)] at hf
              refine Ex.seg 2 (pc' := 77) (lc' := [some (.ref 67), some (.int s.1), some (.int s.2.1), some (.int s.2.2.1), some (.long s.2.2.2.1), none, some (.int s.2.2.2.2.1), none, none]) (st' := [.int 1]) (h' := s.2.2.2.2.2) (sg1 rfl rfl (sg1 rfl rfl rfl)) ?_
              exact Ex.weak (sm_le_s (sm_le_s (sm_le_s (sm_le_s (sm_le_s (sm_le_s (sm_le_s (sm_le_s (sm_le_s sm_le_nil))))))))) (B_339_77 hd hS1 hf hs)
theorem B_339_3 {L : Nat} {xs : Nat → Int32} {d : Nat} (hd : 0 ≤ d) {res : Option Value × sm_H} {y1 : Int32} {y2 : Int32} {y3 : Int32} {y4 : Int64} {y6 : Int32}  {h : sm_H} {r : (Int32 × sm_H)} (hf : F_339_3 y1 y2 y3 y4 y6 h = some r) (hs : (fun (r : Int32 × sm_H) => res = (some (.int r.1), r.2)) r) : Ex (P_G L xs) (RUN L xs d) (sm_lk P_t339) 0 3 [some (.ref 67), some (.int y1), some (.int y2), some (.int y3), some (.long y4), none, some (.int y6), none, none] [] h res := by
  unfold F_339_3 at hf
  exact lp_ok (P := fun (s : (Int32 × Int32 × Int32 × Int64 × Int32 × sm_H)) => Ex (P_G L xs) (RUN L xs d) (sm_lk P_t339) 0 3 [some (.ref 67), some (.int s.1), some (.int s.2.1), some (.int s.2.2.1), some (.long s.2.2.2.1), none, some (.int s.2.2.2.2.1), none, none] [] s.2.2.2.2.2 res) (S := (fun (r : Int32 × sm_H) => res = (some (.int r.1), r.2))) (fun s x hx hsx => by
    intros
    exact B_339_3B hd  (fun _ q => q) hx hsx) 1000000 _ r hf hs
theorem B_339_0 {L : Nat} {xs : Nat → Int32} {d : Nat} (hd : 0 ≤ d) {res : Option Value × sm_H} {x1 : Int32} {x2 : Int32} {x3 : Int32} {x4 : Int64}  {h : sm_H} {r : (Int32 × sm_H)} (hf : F_339_0 x1 x2 x3 x4 h = some r) (hs : (fun (r : Int32 × sm_H) => res = (some (.int r.1), r.2)) r) : Ex (P_G L xs) (RUN L xs d) (sm_lk P_t339) 0 0 [some (.ref 67), some (.int x1), some (.int x2), some (.int x3), some (.long x4), none, none, none, none] [] h res := by
  unfold F_339_0 at hf
  refine Ex.seg 2 (pc' := 3) (lc' := [some (.ref 67), some (.int x1), some (.int x2), some (.int x3), some (.long x4), none, some (.int 0), none, none]) (st' := []) (h' := h) (sg1 rfl rfl (sg1 rfl rfl rfl)) ?_
  exact Ex.weak (sm_le_s (sm_le_s (sm_le_s (sm_le_s (sm_le_s (sm_le_s (sm_le_s (sm_le_s (sm_le_s sm_le_nil))))))))) (B_339_3 hd  hf hs)
theorem E_339 {L : Nat} {xs : Nat → Int32} {d : Nat} (hd : 1 ≤ d) {x1 : Int32} {x2 : Int32} {x3 : Int32} {x4 : Int64} {h : sm_H} {r : Int32 × sm_H} (hf : F_339 x1 x2 x3 x4 h = some r) : RUN L xs d 339 [.ref 67, .int x1, .int x2, .int x3, .long x4] h (some (.int r.1), r.2) := by
  obtain ⟨d, rfl⟩ : ∃ e, d = e + 1 := ⟨d - 1, by omega⟩
  exact ⟨Nat.le_of_ble_eq_true rfl, B_339_0 (by omega) hf rfl⟩
theorem B_340_143B {L : Nat} {xs : Nat → Int32} {d : Nat} (hd : 2 ≤ d) {res : Option Value × sm_H} {S1 : (Int32 × Int32 × sm_H) → Prop} (hS1 : ∀ s, S1 s → Ex (P_G L xs) (RUN L xs d) (sm_lk P_t340) 0 143 [some (.ref 67), none, none, none, none, none, some (.int s.1), some (.int s.2.1)] [] s.2.2 res) {s : (Int32 × Int32 × sm_H)}  {r : ((Int32 × Int32 × sm_H) ⊕ (Int32 × sm_H))} (hf : F_340_143B s = some r) (hs : (Sum.elim S1 (fun (r : Int32 × sm_H) => res = (some (.int r.1), r.2))) r) : Ex (P_G L xs) (RUN L xs d) (sm_lk P_t340) 0 143 [some (.ref 67), none, none, none, none, none, some (.int s.1), some (.int s.2.1)] [] s.2.2 res := by
  unfold F_340_143B at hf
  refine Ex.seg 3 (pc' := 149) (lc' := [some (.ref 67), none, none, none, none, none, some (.int s.1), some (.int s.2.1)]) (st' := [.int (s.2.2.1 67 3), .int s.2.1]) (h' := s.2.2) (sg1 rfl rfl (sg1 rfl rfl (sg1 rfl rfl rfl))) ?_
  refine Ex.icmp rfl rfl (fun (c0 : (s.2.2.1 67 3) ≤ s.2.1) => ?_) (fun (c0 : ¬ ((s.2.2.1 67 3) ≤ s.2.1)) => ?_)
  · rw [if_pos c0] at hf
    refine Ex.seg 6 (pc' := 188) (lc' := [some (.ref 67), none, none, none, none, none, some (.int s.1), some (.int s.2.1)]) (st' := []) (h' := (sm_wI s.2.2 67 18 ((s.2.2.1 67 18) + 1))) (sg1 rfl rfl (sg1 rfl rfl (sg1 rfl rfl (sg1 rfl rfl (sg1 rfl rfl (sg1 rfl rfl rfl)))))) ?_
    obtain ⟨h1, e_h1, hf⟩ := bnd hf
    rw [Option.some.inj e_h1]
    refine Ex.seg 1 (pc' := 190) (lc' := [some (.ref 67), none, none, none, none, none, some (.int s.1), some (.int s.2.1)]) (st' := [.int s.1]) (h' := h1) (sg1 rfl rfl rfl) ?_
    obtain rfl := Option.some.inj hf
    exact Ex.iret rfl rfl (fun c0 => by cases c0) hs
  · rw [if_neg c0] at hf
    refine Ex.seg 10 (pc' := 170) (lc' := [some (.ref 67), none, none, none, none, none, some (.int s.1), some (.int s.2.1)]) (st' := [.int s.2.1, .ref 69, .int ((24 * s.1) + s.2.1), .ref 81]) (h' := s.2.2) (sg1 rfl rfl (sg1 rfl rfl (sg1 rfl rfl (sg1 rfl rfl (sg1 rfl rfl (sg1 rfl rfl (sg1 rfl rfl (sg1 rfl rfl (sg1 rfl rfl (sg1 rfl rfl rfl)))))))))) ?_
    obtain ⟨v2, e_v2, hf⟩ := bnd hf
    refine Ex.iald e_v2 rfl rfl ?_
    obtain ⟨h3, e_h3, hf⟩ := bnd hf
    refine Ex.iast e_h3 rfl rfl ?_
    refine Ex.seg 1 (pc' := 175) (lc' := [some (.ref 67), none, none, none, none, none, some (.int s.1), some (.int (s.2.1 + 1))]) (st' := []) (h' := h3) (sg1 rfl rfl rfl) ?_
    obtain ⟨v4, e_v4, hf⟩ := bnd hf
    rw [Option.some.inj e_v4]
    refine Ex.seg 1 (pc' := 143) (lc' := [some (.ref 67), none, none, none, none, none, some (.int s.1), some (.int v4)]) (st' := []) (h' := h3) (sg1 rfl rfl rfl) ?_
    obtain rfl := Option.some.inj hf
    exact Ex.weak (sm_le_s (sm_le_s (sm_le_s (sm_le_s (sm_le_s (sm_le_s (sm_le_s (sm_le_s sm_le_nil)))))))) (hS1 _ hs)
theorem B_340_143 {L : Nat} {xs : Nat → Int32} {d : Nat} (hd : 2 ≤ d) {res : Option Value × sm_H} {y6 : Int32} {y7 : Int32}  {h : sm_H} {r : (Int32 × sm_H)} (hf : F_340_143 y6 y7 h = some r) (hs : (fun (r : Int32 × sm_H) => res = (some (.int r.1), r.2)) r) : Ex (P_G L xs) (RUN L xs d) (sm_lk P_t340) 0 143 [some (.ref 67), none, none, none, none, none, some (.int y6), some (.int y7)] [] h res := by
  unfold F_340_143 at hf
  exact lp_ok (P := fun (s : (Int32 × Int32 × sm_H)) => Ex (P_G L xs) (RUN L xs d) (sm_lk P_t340) 0 143 [some (.ref 67), none, none, none, none, none, some (.int s.1), some (.int s.2.1)] [] s.2.2 res) (S := (fun (r : Int32 × sm_H) => res = (some (.int r.1), r.2))) (fun s x hx hsx => by
    intros
    exact B_340_143B hd  (fun _ q => q) hx hsx) 1000000 _ r hf hs
theorem B_340_42 {L : Nat} {xs : Nat → Int32} {d : Nat} (hd : 2 ≤ d) {res : Option Value × sm_H} {y1 : Int32} {y2 : Int32} {y3 : Int32} {y4 : Int64}  {h : sm_H} {r : (Int32 × sm_H)} (hf : F_340_42 y1 y2 y3 y4 h = some r) (hs : (fun (r : Int32 × sm_H) => res = (some (.int r.1), r.2)) r) : Ex (P_G L xs) (RUN L xs d) (sm_lk P_t340) 0 42 [some (.ref 67), some (.int y1), some (.int y2), some (.int y3), some (.long y4), none, none, none] [] h res := by
  unfold F_340_42 at hf
  refine Ex.seg 5 (pc' := 48) (lc' := [some (.ref 67), some (.int y1), some (.int y2), some (.int y3), some (.long y4), none, none, none]) (st' := [.long y4, .int y3, .int y2, .int y1, .ref 67]) (h' := h) (sg1 rfl rfl (sg1 rfl rfl (sg1 rfl rfl (sg1 rfl rfl (sg1 rfl rfl rfl))))) ?_
  obtain ⟨q5, e_q5, hf⟩ := bnd hf
  refine Ex.callV (a := 67) (As := [.int y1, .int y2, .int y3, .long y4]) (r := []) (v := some (.int q5.1)) (h' := q5.2) rfl rfl (by decide) rfl (Nat.le_of_ble_eq_true rfl) rfl (E_339 (Nat.le_trans (by decide) hd) e_q5) rfl ?_
  refine Ex.seg 3 (pc' := 56) (lc' := [some (.ref 67), some (.int y1), some (.int y2), some (.int y3), some (.long y4), none, some (.int q5.1), none]) (st' := [.int (-1), .int q5.1]) (h' := q5.2) (sg1 rfl rfl (sg1 rfl rfl (sg1 rfl rfl rfl))) ?_
  refine Ex.icmp rfl rfl (fun (c0 : q5.1 = (-1)) => ?_) (fun (c0 : ¬ (q5.1 = (-1))) => ?_)
  · rw [if_pos c0] at hf
    refine Ex.seg 3 (pc' := 69) (lc' := [some (.ref 67), some (.int y1), some (.int y2), some (.int y3), some (.long y4), none, some (.int q5.1), none]) (st' := [.int 500, .int (q5.2.1 67 18)]) (h' := q5.2) (sg1 rfl rfl (sg1 rfl rfl (sg1 rfl rfl rfl))) ?_
    refine Ex.icmp rfl rfl (fun (c0 : ¬ ((q5.2.1 67 18) = 500)) => ?_) (fun (c0 : ¬ ¬ ((q5.2.1 67 18) = 500)) => ?_)
    · rw [if_neg c0] at hf
      refine Ex.seg 3 (pc' := 85) (lc' := [some (.ref 67), some (.int y1), some (.int y2), some (.int y3), some (.long y4), none, some (.int (q5.2.1 67 18)), none]) (st' := []) (h' := q5.2) (sg1 rfl rfl (sg1 rfl rfl (sg1 rfl rfl rfl))) ?_
      obtain ⟨v6, e_v6, hf⟩ := bnd hf
      rw [Option.some.inj e_v6]
      refine Ex.seg 4 (pc' := 92) (lc' := [some (.ref 67), some (.int y1), some (.int y2), some (.int y3), some (.long y4), none, some (.int v6), none]) (st' := [.ref 67, .int v6, .ref 76]) (h' := q5.2) (sg1 rfl rfl (sg1 rfl rfl (sg1 rfl rfl (sg1 rfl rfl rfl)))) ?_
      obtain ⟨q7, e_q7, hf⟩ := bnd hf
      refine Ex.callV (a := 67) (As := []) (r := [.int v6, .ref 76]) (v := some (.int q7.1)) (h' := q7.2) rfl rfl (by decide) rfl (Nat.le_of_ble_eq_true rfl) rfl (E_302 (Nat.le_trans (by decide) hd) e_q7) rfl ?_
      obtain ⟨h8, e_h8, hf⟩ := bnd hf
      refine Ex.iast e_h8 rfl rfl ?_
      refine Ex.seg 4 (pc' := 103) (lc' := [some (.ref 67), some (.int y1), some (.int y2), some (.int y3), some (.long y4), none, some (.int v6), none]) (st' := [.int y1, .int v6, .ref 75]) (h' := h8) (sg1 rfl rfl (sg1 rfl rfl (sg1 rfl rfl (sg1 rfl rfl rfl)))) ?_
      obtain ⟨h9, e_h9, hf⟩ := bnd hf
      refine Ex.iast e_h9 rfl rfl ?_
      refine Ex.seg 4 (pc' := 111) (lc' := [some (.ref 67), some (.int y1), some (.int y2), some (.int y3), some (.long y4), none, some (.int v6), none]) (st' := [.int y2, .int v6, .ref 77]) (h' := h9) (sg1 rfl rfl (sg1 rfl rfl (sg1 rfl rfl (sg1 rfl rfl rfl)))) ?_
      obtain ⟨h10, e_h10, hf⟩ := bnd hf
      refine Ex.iast e_h10 rfl rfl ?_
      refine Ex.seg 4 (pc' := 119) (lc' := [some (.ref 67), some (.int y1), some (.int y2), some (.int y3), some (.long y4), none, some (.int v6), none]) (st' := [.int y3, .int v6, .ref 78]) (h' := h10) (sg1 rfl rfl (sg1 rfl rfl (sg1 rfl rfl (sg1 rfl rfl rfl)))) ?_
      obtain ⟨h11, e_h11, hf⟩ := bnd hf
      refine Ex.iast e_h11 rfl rfl ?_
      refine Ex.seg 4 (pc' := 128) (lc' := [some (.ref 67), some (.int y1), some (.int y2), some (.int y3), some (.long y4), none, some (.int v6), none]) (st' := [.long y4, .int v6, .ref 79]) (h' := h11) (sg1 rfl rfl (sg1 rfl rfl (sg1 rfl rfl (sg1 rfl rfl rfl)))) ?_
      obtain ⟨h12, e_h12, hf⟩ := bnd hf
      refine Ex.last e_h12 rfl rfl ?_
      refine Ex.seg 5 (pc' := 139) (lc' := [some (.ref 67), some (.int y1), some (.int y2), some (.int y3), some (.long y4), none, some (.int v6), none]) (st' := [.int (h12.1 67 3), .int v6, .ref 80]) (h' := h12) (sg1 rfl rfl (sg1 rfl rfl (sg1 rfl rfl (sg1 rfl rfl (sg1 rfl rfl rfl))))) ?_
      obtain ⟨h13, e_h13, hf⟩ := bnd hf
      refine Ex.iast e_h13 rfl rfl ?_
      refine Ex.seg 2 (pc' := 143) (lc' := [some (.ref 67), some (.int y1), some (.int y2), some (.int y3), some (.long y4), none, some (.int v6), some (.int 0)]) (st' := []) (h' := h13) (sg1 rfl rfl (sg1 rfl rfl rfl)) ?_
      exact Ex.weak (sm_le_s (sm_le_n (sm_le_n (sm_le_n (sm_le_n (sm_le_s (sm_le_s (sm_le_s sm_le_nil)))))))) (B_340_143 hd  hf hs)
    · rw [if_pos (Classical.not_not.mp c0)] at hf
      refine Ex.seg 3 (pc' := 77) (lc' := [some (.ref 67), some (.int y1), some (.int y2), some (.int y3), some (.long y4), none, some (.int q5.1), none]) (st' := []) (h' := (sm_wI q5.2 67 19 5)) (sg1 rfl rfl (sg1 rfl rfl (sg1 rfl rfl rfl))) ?_
      obtain ⟨h14, e_h14, hf⟩ := bnd hf
      rw [Option.some.inj e_h14]
      refine Ex.seg 1 (pc' := 78) (lc' := [some (.ref 67), some (.int y1), some (.int y2), some (.int y3), some (.long y4), none, some (.int q5.1), none]) (st' := [.int (-1)]) (h' := h14) (sg1 rfl rfl rfl) ?_
      obtain rfl := Option.some.inj hf
      exact Ex.iret rfl rfl (fun c0 => by cases c0) hs
  · rw [if_neg c0] at hf
    refine Ex.seg 1 (pc' := 61) (lc' := [some (.ref 67), some (.int y1), some (.int y2), some (.int y3), some (.long y4), none, some (.int q5.1), none]) (st' := [.int q5.1]) (h' := q5.2) (sg1 rfl rfl rfl) ?_
    obtain rfl := Option.some.inj hf
    exact Ex.iret rfl rfl (fun c0 => by cases c0) hs
theorem B_340_35 {L : Nat} {xs : Nat → Int32} {d : Nat} (hd : 2 ≤ d) {res : Option Value × sm_H}   {h : sm_H} {r : (Int32 × sm_H)} (hf : F_340_35  h = some r) (hs : (fun (r : Int32 × sm_H) => res = (some (.int r.1), r.2)) r) : Ex (P_G L xs) (RUN L xs d) (sm_lk P_t340) 0 35 [some (.ref 67), none, none, none, none, none, none, none] [] h res := by
  unfold F_340_35 at hf
  refine Ex.seg 3 (pc' := 40) (lc' := [some (.ref 67), none, none, none, none, none, none, none]) (st' := []) (h' := (sm_wI h 67 19 4)) (sg1 rfl rfl (sg1 rfl rfl (sg1 rfl rfl rfl))) ?_
  obtain ⟨h15, e_h15, hf⟩ := bnd hf
  rw [Option.some.inj e_h15]
  refine Ex.seg 1 (pc' := 41) (lc' := [some (.ref 67), none, none, none, none, none, none, none]) (st' := [.int (-1)]) (h' := h15) (sg1 rfl rfl rfl) ?_
  obtain rfl := Option.some.inj hf
  exact Ex.iret rfl rfl (fun c0 => by cases c0) hs
theorem B_340_0 {L : Nat} {xs : Nat → Int32} {d : Nat} (hd : 2 ≤ d) {res : Option Value × sm_H} {x1 : Int32} {x2 : Int32} {x3 : Int32} {x4 : Int64}  {h : sm_H} {r : (Int32 × sm_H)} (hf : F_340_0 x1 x2 x3 x4 h = some r) (hs : (fun (r : Int32 × sm_H) => res = (some (.int r.1), r.2)) r) : Ex (P_G L xs) (RUN L xs d) (sm_lk P_t340) 0 0 [some (.ref 67), some (.int x1), some (.int x2), some (.int x3), some (.long x4), none, none, none] [] h res := by
  unfold F_340_0 at hf
  refine Ex.seg 3 (pc' := 6) (lc' := [some (.ref 67), some (.int x1), some (.int x2), some (.int x3), some (.long x4), none, none, none]) (st' := [.int 10, .int (h.1 67 21)]) (h' := h) (sg1 rfl rfl (sg1 rfl rfl (sg1 rfl rfl rfl))) ?_
  refine Ex.icmp rfl rfl (fun (c0 : 10 < (h.1 67 21)) => ?_) (fun (c0 : ¬ (10 < (h.1 67 21))) => ?_)
  · rw [if_pos c0] at hf
    exact Ex.weak (sm_le_s (sm_le_n (sm_le_n (sm_le_n (sm_le_n (sm_le_s (sm_le_s (sm_le_s sm_le_nil)))))))) (B_340_35 hd  hf hs)
  · rw [if_neg c0] at hf
    refine Ex.seg 5 (pc' := 18) (lc' := [some (.ref 67), some (.int x1), some (.int x2), some (.int x3), some (.long x4), none, none, none]) (st' := [.int (h.1 67 21), .int (h.1 67 20), .ref 67]) (h' := h) (sg1 rfl rfl (sg1 rfl rfl (sg1 rfl rfl (sg1 rfl rfl (sg1 rfl rfl rfl))))) ?_
    obtain ⟨q16, e_q16, hf⟩ := bnd hf
    refine Ex.callV (a := 67) (As := [.int (h.1 67 20), .int (h.1 67 21)]) (r := []) (v := some (.int q16.1)) (h' := q16.2) rfl rfl (by decide) rfl (Nat.le_of_ble_eq_true rfl) rfl (E_301 (Nat.le_trans (by decide) hd) e_q16) rfl ?_
    refine Ex.seg 1 (pc' := 22) (lc' := [some (.ref 67), some (.int x1), some (.int x2), some (.int x3), some (.long x4), none, none, none]) (st' := [.int (-1), .int q16.1]) (h' := q16.2) (sg1 rfl rfl rfl) ?_
    refine Ex.icmp rfl rfl (fun (c0 : ¬ (q16.1 = (-1))) => ?_) (fun (c0 : ¬ ¬ (q16.1 = (-1))) => ?_)
    · rw [if_neg c0] at hf
      exact Ex.weak (sm_le_s (sm_le_s (sm_le_s (sm_le_s (sm_le_s (sm_le_s (sm_le_s (sm_le_s sm_le_nil)))))))) (B_340_42 hd  hf hs)
    · rw [if_pos (Classical.not_not.mp c0)] at hf
      refine Ex.seg 3 (pc' := 32) (lc' := [some (.ref 67), some (.int x1), some (.int x2), some (.int x3), some (.long x4), none, none, none]) (st' := [.int 300, .int (q16.2.1 67 10)]) (h' := q16.2) (sg1 rfl rfl (sg1 rfl rfl (sg1 rfl rfl rfl))) ?_
      refine Ex.icmp rfl rfl (fun (c0 : ¬ ((q16.2.1 67 10) = 300)) => ?_) (fun (c0 : ¬ ¬ ((q16.2.1 67 10) = 300)) => ?_)
      · rw [if_neg c0] at hf
        exact Ex.weak (sm_le_s (sm_le_s (sm_le_s (sm_le_s (sm_le_s (sm_le_s (sm_le_s (sm_le_s sm_le_nil)))))))) (B_340_42 hd  hf hs)
      · rw [if_pos (Classical.not_not.mp c0)] at hf
        exact Ex.weak (sm_le_s (sm_le_n (sm_le_n (sm_le_n (sm_le_n (sm_le_s (sm_le_s (sm_le_s sm_le_nil)))))))) (B_340_35 hd  hf hs)
theorem E_340 {L : Nat} {xs : Nat → Int32} {d : Nat} (hd : 3 ≤ d) {x1 : Int32} {x2 : Int32} {x3 : Int32} {x4 : Int64} {h : sm_H} {r : Int32 × sm_H} (hf : F_340 x1 x2 x3 x4 h = some r) : RUN L xs d 340 [.ref 67, .int x1, .int x2, .int x3, .long x4] h (some (.int r.1), r.2) := by
  obtain ⟨d, rfl⟩ : ∃ e, d = e + 1 := ⟨d - 1, by omega⟩
  exact ⟨Nat.le_of_ble_eq_true rfl, B_340_0 (by omega) hf rfl⟩
theorem B_341_107 {L : Nat} {xs : Nat → Int32} {d : Nat} (hd : 6 ≤ d) {res : Option Value × sm_H} {z1 : Int32} {z2 : Int32} {z3 : Int32} {z4 : Int64}  {h : sm_H} {r : (Int32 × sm_H)} (hf : F_341_107 z1 z2 z3 z4 h = some r) (hs : (fun (r : Int32 × sm_H) => res = (some (.int r.1), r.2)) r) : Ex (P_G L xs) (RUN L xs d) (sm_lk P_t341) 0 107 [none, none, none, none, none, none, none, none] [.long z4, .int z3, .int z2, .int z1, .ref 67] h res := by
  unfold F_341_107 at hf
  obtain ⟨q1, e_q1, hf⟩ := bnd hf
  refine Ex.callV (a := 67) (As := [.int z1, .int z2, .int z3, .long z4]) (r := []) (v := some (.int q1.1)) (h' := q1.2) rfl rfl (by decide) rfl (Nat.le_of_ble_eq_true rfl) rfl (E_340 (Nat.le_trans (by decide) hd) e_q1) rfl ?_
  obtain rfl := Option.some.inj hf
  exact Ex.iret rfl rfl (fun c0 => by cases c0) hs
theorem B_341_96 {L : Nat} {xs : Nat → Int32} {d : Nat} (hd : 6 ≤ d) {res : Option Value × sm_H} {y4 : Int64} {y7 : Int32} {z1 : Int32} {z2 : Int32} {z3 : Int32}  {h : sm_H} {r : (Int32 × sm_H)} (hf : F_341_96 y4 y7 z1 z2 z3 h = some r) (hs : (fun (r : Int32 × sm_H) => res = (some (.int r.1), r.2)) r) : Ex (P_G L xs) (RUN L xs d) (sm_lk P_t341) 0 96 [none, none, none, none, some (.long y4), none, none, some (.int y7)] [.int z3, .int z2, .int z1, .ref 67] h res := by
  unfold F_341_96 at hf
  refine Ex.seg 1 (pc' := 98) (lc' := [none, none, none, none, some (.long y4), none, none, some (.int y7)]) (st' := [.int y7, .int z3, .int z2, .int z1, .ref 67]) (h' := h) (sg1 rfl rfl rfl) ?_
  refine Ex.ifc rfl rfl (fun (c0 : y7 = 0) => ?_) (fun (c0 : ¬ (y7 = 0)) => ?_)
  · rw [if_pos c0] at hf
    refine Ex.seg 1 (pc' := 107) (lc' := [none, none, none, none, some (.long y4), none, none, some (.int y7)]) (st' := [.long 0, .int z3, .int z2, .int z1, .ref 67]) (h' := h) (sg1 rfl rfl rfl) ?_
    exact Ex.weak (sm_le_s (sm_le_s (sm_le_s (sm_le_s (sm_le_n (sm_le_s (sm_le_s (sm_le_n sm_le_nil)))))))) (B_341_107 hd  hf hs)
  · rw [if_neg c0] at hf
    refine Ex.seg 2 (pc' := 107) (lc' := [none, none, none, none, some (.long y4), none, none, some (.int y7)]) (st' := [.long y4, .int z3, .int z2, .int z1, .ref 67]) (h' := h) (sg1 rfl rfl (sg1 rfl rfl rfl)) ?_
    exact Ex.weak (sm_le_s (sm_le_s (sm_le_s (sm_le_s (sm_le_n (sm_le_s (sm_le_s (sm_le_n sm_le_nil)))))))) (B_341_107 hd  hf hs)
theorem B_341_84 {L : Nat} {xs : Nat → Int32} {d : Nat} (hd : 6 ≤ d) {res : Option Value × sm_H} {y1 : Int32} {y3 : Int32} {y4 : Int64} {y7 : Int32} {z1 : Int32} {z2 : Int32}  {h : sm_H} {r : (Int32 × sm_H)} (hf : F_341_84 y1 y3 y4 y7 z1 z2 h = some r) (hs : (fun (r : Int32 × sm_H) => res = (some (.int r.1), r.2)) r) : Ex (P_G L xs) (RUN L xs d) (sm_lk P_t341) 0 84 [none, some (.int y1), none, some (.int y3), some (.long y4), none, none, some (.int y7)] [.int z2, .int z1, .ref 67] h res := by
  unfold F_341_84 at hf
  refine Ex.seg 1 (pc' := 85) (lc' := [none, some (.int y1), none, some (.int y3), some (.long y4), none, none, some (.int y7)]) (st' := [.int y1, .int z2, .int z1, .ref 67]) (h' := h) (sg1 rfl rfl rfl) ?_
  obtain ⟨q2, e_q2, hf⟩ := bnd hf
  refine Ex.callS (As := [.int y1]) (r := [.int z2, .int z1, .ref 67]) (v := some (.int q2.1)) (h' := q2.2) rfl rfl rfl rfl (Nat.le_of_ble_eq_true rfl) (E_338 (Nat.le_trans (by decide) hd) e_q2) rfl ?_
  refine Ex.ifc rfl rfl (fun (c0 : q2.1 = 0) => ?_) (fun (c0 : ¬ (q2.1 = 0)) => ?_)
  · rw [if_pos c0] at hf
    refine Ex.seg 1 (pc' := 96) (lc' := [none, some (.int y1), none, some (.int y3), some (.long y4), none, none, some (.int y7)]) (st' := [.int 0, .int z2, .int z1, .ref 67]) (h' := q2.2) (sg1 rfl rfl rfl) ?_
    exact Ex.weak (sm_le_s (sm_le_n (sm_le_s (sm_le_n (sm_le_s (sm_le_s (sm_le_s (sm_le_s sm_le_nil)))))))) (B_341_96 hd  hf hs)
  · rw [if_neg c0] at hf
    refine Ex.seg 2 (pc' := 96) (lc' := [none, some (.int y1), none, some (.int y3), some (.long y4), none, none, some (.int y7)]) (st' := [.int y3, .int z2, .int z1, .ref 67]) (h' := q2.2) (sg1 rfl rfl (sg1 rfl rfl rfl)) ?_
    exact Ex.weak (sm_le_s (sm_le_n (sm_le_s (sm_le_n (sm_le_s (sm_le_s (sm_le_s (sm_le_s sm_le_nil)))))))) (B_341_96 hd  hf hs)
theorem B_341_68 {L : Nat} {xs : Nat → Int32} {d : Nat} (hd : 6 ≤ d) {res : Option Value × sm_H} {y1 : Int32} {y2 : Int32} {y3 : Int32} {y4 : Int64} {z0 : Int32}  {h : sm_H} {r : (Int32 × sm_H)} (hf : F_341_68 y1 y2 y3 y4 z0 h = some r) (hs : (fun (r : Int32 × sm_H) => res = (some (.int r.1), r.2)) r) : Ex (P_G L xs) (RUN L xs d) (sm_lk P_t341) 0 68 [some (.ref 67), some (.int y1), some (.int y2), some (.int y3), some (.long y4), none, none, none] [.int z0] h res := by
  unfold F_341_68 at hf
  refine Ex.seg 4 (pc' := 73) (lc' := [some (.ref 67), some (.int y1), some (.int y2), some (.int y3), some (.long y4), none, none, some (.int z0)]) (st' := [.int y1, .int y1, .ref 67]) (h' := h) (sg1 rfl rfl (sg1 rfl rfl (sg1 rfl rfl (sg1 rfl rfl rfl)))) ?_
  obtain ⟨q3, e_q3, hf⟩ := bnd hf
  refine Ex.callS (As := [.int y1]) (r := [.int y1, .ref 67]) (v := some (.int q3.1)) (h' := q3.2) rfl rfl rfl rfl (Nat.le_of_ble_eq_true rfl) (E_337 (Nat.le_trans (by decide) hd) e_q3) rfl ?_
  refine Ex.ifc rfl rfl (fun (c0 : q3.1 = 0) => ?_) (fun (c0 : ¬ (q3.1 = 0)) => ?_)
  · rw [if_pos c0] at hf
    refine Ex.seg 1 (pc' := 84) (lc' := [some (.ref 67), some (.int y1), some (.int y2), some (.int y3), some (.long y4), none, none, some (.int z0)]) (st' := [.int 0, .int y1, .ref 67]) (h' := q3.2) (sg1 rfl rfl rfl) ?_
    exact Ex.weak (sm_le_n (sm_le_s (sm_le_n (sm_le_s (sm_le_s (sm_le_s (sm_le_s (sm_le_s sm_le_nil)))))))) (B_341_84 hd  hf hs)
  · rw [if_neg c0] at hf
    refine Ex.seg 2 (pc' := 84) (lc' := [some (.ref 67), some (.int y1), some (.int y2), some (.int y3), some (.long y4), none, none, some (.int z0)]) (st' := [.int y2, .int y1, .ref 67]) (h' := q3.2) (sg1 rfl rfl (sg1 rfl rfl rfl)) ?_
    exact Ex.weak (sm_le_n (sm_le_s (sm_le_n (sm_le_s (sm_le_s (sm_le_s (sm_le_s (sm_le_s sm_le_nil)))))))) (B_341_84 hd  hf hs)
theorem B_341_63 {L : Nat} {xs : Nat → Int32} {d : Nat} (hd : 6 ≤ d) {res : Option Value × sm_H} {y1 : Int32} {y2 : Int32} {y3 : Int32} {y4 : Int64}  {h : sm_H} {r : (Int32 × sm_H)} (hf : F_341_63 y1 y2 y3 y4 h = some r) (hs : (fun (r : Int32 × sm_H) => res = (some (.int r.1), r.2)) r) : Ex (P_G L xs) (RUN L xs d) (sm_lk P_t341) 0 63 [some (.ref 67), some (.int y1), some (.int y2), some (.int y3), some (.long y4), none, none, none] [] h res := by
  unfold F_341_63 at hf
  refine Ex.seg 2 (pc' := 68) (lc' := [some (.ref 67), some (.int y1), some (.int y2), some (.int y3), some (.long y4), none, none, none]) (st' := [.int 1]) (h' := h) (sg1 rfl rfl (sg1 rfl rfl rfl)) ?_
  exact Ex.weak (sm_le_s (sm_le_s (sm_le_s (sm_le_s (sm_le_s (sm_le_s (sm_le_s (sm_le_s sm_le_nil)))))))) (B_341_68 hd  hf hs)
theorem B_341_28 {L : Nat} {xs : Nat → Int32} {d : Nat} (hd : 6 ≤ d) {res : Option Value × sm_H} {y1 : Int32} {y2 : Int32} {y3 : Int32} {y4 : Int64} {z0 : Int32}  {h : sm_H} {r : (Int32 × sm_H)} (hf : F_341_28 y1 y2 y3 y4 z0 h = some r) (hs : (fun (r : Int32 × sm_H) => res = (some (.int r.1), r.2)) r) : Ex (P_G L xs) (RUN L xs d) (sm_lk P_t341) 0 28 [some (.ref 67), some (.int y1), some (.int y2), some (.int y3), some (.long y4), none, none, none] [.int z0] h res := by
  unfold F_341_28 at hf
  refine Ex.seg 2 (pc' := 32) (lc' := [some (.ref 67), some (.int y1), some (.int y2), some (.int y3), some (.long y4), none, some (.int z0), none]) (st' := [.int z0]) (h' := h) (sg1 rfl rfl (sg1 rfl rfl rfl)) ?_
  refine Ex.ifc rfl rfl (fun (c0 : z0 ≤ 0) => ?_) (fun (c0 : ¬ (z0 ≤ 0)) => ?_)
  · rw [if_pos c0] at hf
    refine Ex.seg 1 (pc' := 45) (lc' := [some (.ref 67), some (.int y1), some (.int y2), some (.int y3), some (.long y4), none, some (.int z0), none]) (st' := [.int z0]) (h' := h) (sg1 rfl rfl rfl) ?_
    refine Ex.ifc rfl rfl (fun (c0 : 0 ≤ z0) => ?_) (fun (c0 : ¬ (0 ≤ z0)) => ?_)
    · rw [if_pos c0] at hf
      refine Ex.seg 1 (pc' := 54) (lc' := [some (.ref 67), some (.int y1), some (.int y2), some (.int y3), some (.long y4), none, some (.int z0), none]) (st' := [.int y1]) (h' := h) (sg1 rfl rfl rfl) ?_
      refine Ex.ifc rfl rfl (fun (c0 : y1 = 0) => ?_) (fun (c0 : ¬ (y1 = 0)) => ?_)
      · rw [if_pos c0] at hf
        exact Ex.weak (sm_le_s (sm_le_s (sm_le_s (sm_le_s (sm_le_s (sm_le_s (sm_le_n (sm_le_s sm_le_nil)))))))) (B_341_63 hd  hf hs)
      · rw [if_neg c0] at hf
        refine Ex.seg 2 (pc' := 60) (lc' := [some (.ref 67), some (.int y1), some (.int y2), some (.int y3), some (.long y4), none, some (.int z0), none]) (st' := [.int 6, .int y1]) (h' := h) (sg1 rfl rfl (sg1 rfl rfl rfl)) ?_
        refine Ex.icmp rfl rfl (fun (c0 : ¬ (y1 = 6)) => ?_) (fun (c0 : ¬ ¬ (y1 = 6)) => ?_)
        · rw [if_neg c0] at hf
          refine Ex.seg 1 (pc' := 68) (lc' := [some (.ref 67), some (.int y1), some (.int y2), some (.int y3), some (.long y4), none, some (.int z0), none]) (st' := [.int 0]) (h' := h) (sg1 rfl rfl rfl) ?_
          exact Ex.weak (sm_le_s (sm_le_s (sm_le_s (sm_le_s (sm_le_s (sm_le_s (sm_le_n (sm_le_s sm_le_nil)))))))) (B_341_68 hd  hf hs)
        · rw [if_pos (Classical.not_not.mp c0)] at hf
          exact Ex.weak (sm_le_s (sm_le_s (sm_le_s (sm_le_s (sm_le_s (sm_le_s (sm_le_n (sm_le_s sm_le_nil)))))))) (B_341_63 hd  hf hs)
    · rw [if_neg c0] at hf
      refine Ex.seg 3 (pc' := 52) (lc' := [some (.ref 67), some (.int y1), some (.int y2), some (.int y3), some (.long y4), none, some (.int z0), none]) (st' := [.int ((-1) - z0)]) (h' := h) (sg1 rfl rfl (sg1 rfl rfl (sg1 rfl rfl rfl))) ?_
      obtain rfl := Option.some.inj hf
      exact Ex.iret rfl rfl (fun c0 => by cases c0) hs
  · rw [if_neg c0] at hf
    refine Ex.seg 3 (pc' := 41) (lc' := [some (.ref 67), some (.int y1), some (.int y2), some (.int y3), some (.long y4), none, some (.int z0), none]) (st' := []) (h' := (sm_wI h 67 19 z0)) (sg1 rfl rfl (sg1 rfl rfl (sg1 rfl rfl rfl))) ?_
    obtain ⟨h4, e_h4, hf⟩ := bnd hf
    rw [Option.some.inj e_h4]
    refine Ex.seg 1 (pc' := 42) (lc' := [some (.ref 67), some (.int y1), some (.int y2), some (.int y3), some (.long y4), none, some (.int z0), none]) (st' := [.int (-1)]) (h' := h4) (sg1 rfl rfl rfl) ?_
    obtain rfl := Option.some.inj hf
    exact Ex.iret rfl rfl (fun c0 => by cases c0) hs
theorem B_341_15 {L : Nat} {xs : Nat → Int32} {d : Nat} (hd : 6 ≤ d) {res : Option Value × sm_H} {y1 : Int32} {y2 : Int32} {y3 : Int32} {y4 : Int64}  {h : sm_H} {r : (Int32 × sm_H)} (hf : F_341_15 y1 y2 y3 y4 h = some r) (hs : (fun (r : Int32 × sm_H) => res = (some (.int r.1), r.2)) r) : Ex (P_G L xs) (RUN L xs d) (sm_lk P_t341) 0 15 [some (.ref 67), some (.int y1), some (.int y2), some (.int y3), some (.long y4), none, none, none] [] h res := by
  unfold F_341_15 at hf
  refine Ex.seg 2 (pc' := 28) (lc' := [some (.ref 67), some (.int y1), some (.int y2), some (.int y3), some (.long y4), none, none, none]) (st' := [.int 1]) (h' := h) (sg1 rfl rfl (sg1 rfl rfl rfl)) ?_
  exact Ex.weak (sm_le_s (sm_le_s (sm_le_s (sm_le_s (sm_le_s (sm_le_s (sm_le_s (sm_le_s sm_le_nil)))))))) (B_341_28 hd  hf hs)
theorem B_341_0 {L : Nat} {xs : Nat → Int32} {d : Nat} (hd : 6 ≤ d) {res : Option Value × sm_H} {x1 : Int32} {x2 : Int32} {x3 : Int32} {x4 : Int64}  {h : sm_H} {r : (Int32 × sm_H)} (hf : F_341_0 x1 x2 x3 x4 h = some r) (hs : (fun (r : Int32 × sm_H) => res = (some (.int r.1), r.2)) r) : Ex (P_G L xs) (RUN L xs d) (sm_lk P_t341) 0 0 [some (.ref 67), some (.int x1), some (.int x2), some (.int x3), some (.long x4), none, none, none] [] h res := by
  unfold F_341_0 at hf
  refine Ex.seg 3 (pc' := 5) (lc' := [some (.ref 67), some (.int x1), some (.int x2), some (.int x3), some (.long x4), none, none, none]) (st' := []) (h' := (sm_wI h 67 19 0)) (sg1 rfl rfl (sg1 rfl rfl (sg1 rfl rfl rfl))) ?_
  obtain ⟨h5, e_h5, hf⟩ := bnd hf
  rw [Option.some.inj e_h5]
  refine Ex.seg 1 (pc' := 6) (lc' := [some (.ref 67), some (.int x1), some (.int x2), some (.int x3), some (.long x4), none, none, none]) (st' := [.int x1]) (h' := h5) (sg1 rfl rfl rfl) ?_
  refine Ex.ifc rfl rfl (fun (c0 : x1 < 0) => ?_) (fun (c0 : ¬ (x1 < 0)) => ?_)
  · rw [if_pos c0] at hf
    exact Ex.weak (sm_le_s (sm_le_s (sm_le_s (sm_le_s (sm_le_s (sm_le_s (sm_le_s (sm_le_s sm_le_nil)))))))) (B_341_15 hd  hf hs)
  · rw [if_neg c0] at hf
    refine Ex.seg 2 (pc' := 12) (lc' := [some (.ref 67), some (.int x1), some (.int x2), some (.int x3), some (.long x4), none, none, none]) (st' := [.int 34, .int x1]) (h' := h5) (sg1 rfl rfl (sg1 rfl rfl rfl)) ?_
    refine Ex.icmp rfl rfl (fun (c0 : x1 ≤ 34) => ?_) (fun (c0 : ¬ (x1 ≤ 34)) => ?_)
    · rw [if_pos c0] at hf
      refine Ex.seg 5 (pc' := 25) (lc' := [some (.ref 67), some (.int x1), some (.int x2), some (.int x3), some (.long x4), none, none, none]) (st' := [.long x4, .int x3, .int x2, .int x1, .ref 67]) (h' := h5) (sg1 rfl rfl (sg1 rfl rfl (sg1 rfl rfl (sg1 rfl rfl (sg1 rfl rfl rfl))))) ?_
      obtain ⟨q6, e_q6, hf⟩ := bnd hf
      refine Ex.callV (a := 67) (As := [.int x1, .int x2, .int x3, .long x4]) (r := []) (v := some (.int q6.1)) (h' := q6.2) rfl rfl (by decide) rfl (Nat.le_of_ble_eq_true rfl) rfl (E_336 (Nat.le_trans (by decide) hd) e_q6) rfl ?_
      exact Ex.weak (sm_le_s (sm_le_s (sm_le_s (sm_le_s (sm_le_s (sm_le_s (sm_le_s (sm_le_s sm_le_nil)))))))) (B_341_28 hd  hf hs)
    · rw [if_neg c0] at hf
      exact Ex.weak (sm_le_s (sm_le_s (sm_le_s (sm_le_s (sm_le_s (sm_le_s (sm_le_s (sm_le_s sm_le_nil)))))))) (B_341_15 hd  hf hs)
theorem E_341 {L : Nat} {xs : Nat → Int32} {d : Nat} (hd : 7 ≤ d) {x1 : Int32} {x2 : Int32} {x3 : Int32} {x4 : Int64} {h : sm_H} {r : Int32 × sm_H} (hf : F_341 x1 x2 x3 x4 h = some r) : RUN L xs d 341 [.ref 67, .int x1, .int x2, .int x3, .long x4] h (some (.int r.1), r.2) := by
  obtain ⟨d, rfl⟩ : ∃ e, d = e + 1 := ⟨d - 1, by omega⟩
  exact ⟨Nat.le_of_ble_eq_true rfl, B_341_0 (by omega) hf rfl⟩
theorem B_342_0 {L : Nat} {xs : Nat → Int32} {d : Nat} (hd : 0 ≤ d) {res : Option Value × sm_H} {x1 : Int32} {x2 : Int64}  {h : sm_H} {r : (sm_H)} (hf : F_342_0 x1 x2 h = some r) (hs : (fun (r : sm_H) => res = (none, r)) r) : Ex (P_G L xs) (RUN L xs d) (sm_lk P_t342) 0 0 [some (.ref 67), some (.int x1), some (.long x2), none] [] h res := by
  unfold F_342_0 at hf
  refine Ex.seg 5 (pc' := 9) (lc' := [some (.ref 67), some (.int x1), some (.long x2), none]) (st' := [.int x1, .int (h.1 67 59), .ref 108]) (h' := h) (sg1 rfl rfl (sg1 rfl rfl (sg1 rfl rfl (sg1 rfl rfl (sg1 rfl rfl rfl))))) ?_
  obtain ⟨h1, e_h1, hf⟩ := bnd hf
  refine Ex.iast e_h1 rfl rfl ?_
  refine Ex.seg 5 (pc' := 19) (lc' := [some (.ref 67), some (.int x1), some (.long x2), none]) (st' := [.long x2, .int (h1.1 67 59), .ref 109]) (h' := h1) (sg1 rfl rfl (sg1 rfl rfl (sg1 rfl rfl (sg1 rfl rfl (sg1 rfl rfl rfl))))) ?_
  obtain ⟨h2, e_h2, hf⟩ := bnd hf
  refine Ex.last e_h2 rfl rfl ?_
  refine Ex.seg 6 (pc' := 30) (lc' := [some (.ref 67), some (.int x1), some (.long x2), none]) (st' := []) (h' := (sm_wI h2 67 59 ((h2.1 67 59) + 1))) (sg1 rfl rfl (sg1 rfl rfl (sg1 rfl rfl (sg1 rfl rfl (sg1 rfl rfl (sg1 rfl rfl rfl)))))) ?_
  obtain ⟨h3, e_h3, hf⟩ := bnd hf
  rw [Option.some.inj e_h3]
  obtain rfl := Option.some.inj hf
  exact Ex.vret rfl rfl hs
theorem E_342 {L : Nat} {xs : Nat → Int32} {d : Nat} (hd : 1 ≤ d) {x1 : Int32} {x2 : Int64} {h : sm_H} {r : sm_H} (hf : F_342 x1 x2 h = some r) : RUN L xs d 342 [.ref 67, .int x1, .long x2] h (none, r) := by
  obtain ⟨d, rfl⟩ : ∃ e, d = e + 1 := ⟨d - 1, by omega⟩
  exact ⟨Nat.le_of_ble_eq_true rfl, B_342_0 (by omega) hf rfl⟩
theorem B_343_2B {L : Nat} {xs : Nat → Int32} {d : Nat} (hd : 1 ≤ d) {res : Option Value × sm_H} {S1 : (Int32 × Int32 × sm_H) → Prop} (hS1 : ∀ s, S1 s → Ex (P_G L xs) (RUN L xs d) (sm_lk P_t343) 0 2 [some (.ref 67), none, some (.int s.1), some (.int s.2.1)] [] s.2.2 res) {s : (Int32 × Int32 × sm_H)}  {r : ((Int32 × Int32 × sm_H) ⊕ (sm_H))} (hf : F_343_2B s = some r) (hs : (Sum.elim S1 (fun (r : sm_H) => res = (none, r))) r) : Ex (P_G L xs) (RUN L xs d) (sm_lk P_t343) 0 2 [some (.ref 67), none, some (.int s.1), some (.int s.2.1)] [] s.2.2 res := by
  unfold F_343_2B at hf
  refine Ex.seg 2 (pc' := 4) (lc' := [some (.ref 67), none, some (.int s.1), some (.int s.2.1)]) (st' := [.int s.1, .int s.2.1]) (h' := s.2.2) (sg1 rfl rfl (sg1 rfl rfl rfl)) ?_
  refine Ex.icmp rfl rfl (fun (c0 : s.1 ≤ s.2.1) => ?_) (fun (c0 : ¬ (s.1 ≤ s.2.1)) => ?_)
  · rw [if_pos c0] at hf
    obtain rfl := Option.some.inj hf
    exact Ex.vret rfl rfl hs
  · rw [if_neg c0] at hf
    refine Ex.seg 4 (pc' := 13) (lc' := [some (.ref 67), none, some (.int s.1), some (.int s.2.1)]) (st' := [.int s.2.1, .ref 108, .ref 67]) (h' := s.2.2) (sg1 rfl rfl (sg1 rfl rfl (sg1 rfl rfl (sg1 rfl rfl rfl)))) ?_
    obtain ⟨v1, e_v1, hf⟩ := bnd hf
    refine Ex.iald e_v1 rfl rfl ?_
    refine Ex.seg 3 (pc' := 19) (lc' := [some (.ref 67), none, some (.int s.1), some (.int s.2.1)]) (st' := [.int s.2.1, .ref 109, .int v1, .ref 67]) (h' := s.2.2) (sg1 rfl rfl (sg1 rfl rfl (sg1 rfl rfl rfl))) ?_
    obtain ⟨v2, e_v2, hf⟩ := bnd hf
    refine Ex.lald e_v2 rfl rfl ?_
    obtain ⟨q3, e_q3, hf⟩ := bnd hf
    refine Ex.callV (a := 67) (As := [.int v1, .long v2]) (r := []) (v := none) (h' := q3) rfl rfl (by decide) rfl (Nat.le_of_ble_eq_true rfl) rfl (E_342 (Nat.le_trans (by decide) hd) e_q3) rfl ?_
    refine Ex.seg 1 (pc' := 26) (lc' := [some (.ref 67), none, some (.int s.1), some (.int (s.2.1 + 1))]) (st' := []) (h' := q3) (sg1 rfl rfl rfl) ?_
    obtain ⟨v4, e_v4, hf⟩ := bnd hf
    rw [Option.some.inj e_v4]
    refine Ex.seg 1 (pc' := 2) (lc' := [some (.ref 67), none, some (.int s.1), some (.int v4)]) (st' := []) (h' := q3) (sg1 rfl rfl rfl) ?_
    obtain rfl := Option.some.inj hf
    exact Ex.weak (sm_le_s (sm_le_s (sm_le_s (sm_le_s sm_le_nil)))) (hS1 _ hs)
theorem B_343_2 {L : Nat} {xs : Nat → Int32} {d : Nat} (hd : 1 ≤ d) {res : Option Value × sm_H} {y2 : Int32} {y3 : Int32}  {h : sm_H} {r : (sm_H)} (hf : F_343_2 y2 y3 h = some r) (hs : (fun (r : sm_H) => res = (none, r)) r) : Ex (P_G L xs) (RUN L xs d) (sm_lk P_t343) 0 2 [some (.ref 67), none, some (.int y2), some (.int y3)] [] h res := by
  unfold F_343_2 at hf
  exact lp_ok (P := fun (s : (Int32 × Int32 × sm_H)) => Ex (P_G L xs) (RUN L xs d) (sm_lk P_t343) 0 2 [some (.ref 67), none, some (.int s.1), some (.int s.2.1)] [] s.2.2 res) (S := (fun (r : sm_H) => res = (none, r))) (fun s x hx hsx => by
    intros
    exact B_343_2B hd  (fun _ q => q) hx hsx) 1000000 _ r hf hs
theorem B_343_0 {L : Nat} {xs : Nat → Int32} {d : Nat} (hd : 1 ≤ d) {res : Option Value × sm_H} {x1 : Int32} {x2 : Int32}  {h : sm_H} {r : (sm_H)} (hf : F_343_0 x1 x2 h = some r) (hs : (fun (r : sm_H) => res = (none, r)) r) : Ex (P_G L xs) (RUN L xs d) (sm_lk P_t343) 0 0 [some (.ref 67), some (.int x1), some (.int x2), none] [] h res := by
  unfold F_343_0 at hf
  refine Ex.seg 2 (pc' := 2) (lc' := [some (.ref 67), some (.int x1), some (.int x2), some (.int x1)]) (st' := []) (h' := h) (sg1 rfl rfl (sg1 rfl rfl rfl)) ?_
  exact Ex.weak (sm_le_s (sm_le_n (sm_le_s (sm_le_s sm_le_nil)))) (B_343_2 hd  hf hs)
theorem E_343 {L : Nat} {xs : Nat → Int32} {d : Nat} (hd : 2 ≤ d) {x1 : Int32} {x2 : Int32} {h : sm_H} {r : sm_H} (hf : F_343 x1 x2 h = some r) : RUN L xs d 343 [.ref 67, .int x1, .int x2] h (none, r) := by
  obtain ⟨d, rfl⟩ : ∃ e, d = e + 1 := ⟨d - 1, by omega⟩
  exact ⟨Nat.le_of_ble_eq_true rfl, B_343_0 (by omega) hf rfl⟩
theorem B_344_0 {L : Nat} {xs : Nat → Int32} {d : Nat} (hd : 1 ≤ d) {res : Option Value × sm_H} {x1 : Int32}  {h : sm_H} {r : (sm_H)} (hf : F_344_0 x1 h = some r) (hs : (fun (r : sm_H) => res = (none, r)) r) : Ex (P_G L xs) (RUN L xs d) (sm_lk P_t344) 0 0 [some (.ref 67), some (.int x1)] [] h res := by
  unfold F_344_0 at hf
  refine Ex.seg 3 (pc' := 5) (lc' := [some (.ref 67), some (.int x1)]) (st' := []) (h' := (sm_wI h 67 63 0)) (sg1 rfl rfl (sg1 rfl rfl (sg1 rfl rfl rfl))) ?_
  obtain ⟨h1, e_h1, hf⟩ := bnd hf
  rw [Option.some.inj e_h1]
  refine Ex.seg 3 (pc' := 11) (lc' := [some (.ref 67), some (.int x1)]) (st' := [.int 100, .int (h1.1 67 56)]) (h' := h1) (sg1 rfl rfl (sg1 rfl rfl (sg1 rfl rfl rfl))) ?_
  refine Ex.icmp rfl rfl (fun (c0 : ¬ ((h1.1 67 56) = 100)) => ?_) (fun (c0 : ¬ ¬ ((h1.1 67 56) = 100)) => ?_)
  · rw [if_neg c0] at hf
    refine Ex.seg 4 (pc' := 28) (lc' := [some (.ref 67), some (.int x1)]) (st' := [.int (h1.1 67 65), .int (h1.1 67 66)]) (h' := h1) (sg1 rfl rfl (sg1 rfl rfl (sg1 rfl rfl (sg1 rfl rfl rfl)))) ?_
    refine Ex.icmp rfl rfl (fun (c0 : ¬ ((h1.1 67 66) = (h1.1 67 65))) => ?_) (fun (c0 : ¬ ¬ ((h1.1 67 66) = (h1.1 67 65))) => ?_)
    · rw [if_neg c0] at hf
      refine Ex.seg 6 (pc' := 47) (lc' := [some (.ref 67), some (.int x1)]) (st' := []) (h' := (sm_wI h1 67 66 ((h1.1 67 66) + 1))) (sg1 rfl rfl (sg1 rfl rfl (sg1 rfl rfl (sg1 rfl rfl (sg1 rfl rfl (sg1 rfl rfl rfl)))))) ?_
      obtain ⟨h2, e_h2, hf⟩ := bnd hf
      rw [Option.some.inj e_h2]
      refine Ex.seg 5 (pc' := 56) (lc' := [some (.ref 67), some (.int x1)]) (st' := [.int x1, .int (h2.1 67 56), .ref 103]) (h' := h2) (sg1 rfl rfl (sg1 rfl rfl (sg1 rfl rfl (sg1 rfl rfl (sg1 rfl rfl rfl))))) ?_
      obtain ⟨h3, e_h3, hf⟩ := bnd hf
      refine Ex.iast e_h3 rfl rfl ?_
      refine Ex.seg 5 (pc' := 66) (lc' := [some (.ref 67), some (.int x1)]) (st' := [.int 0, .int (h3.1 67 56), .ref 104]) (h' := h3) (sg1 rfl rfl (sg1 rfl rfl (sg1 rfl rfl (sg1 rfl rfl (sg1 rfl rfl rfl))))) ?_
      obtain ⟨h4, e_h4, hf⟩ := bnd hf
      refine Ex.iast e_h4 rfl rfl ?_
      refine Ex.seg 8 (pc' := 81) (lc' := [some (.ref 67), some (.int x1)]) (st' := [.int x1, .ref 67, .int (h4.1 67 59), .int (h4.1 67 56), .ref 105]) (h' := h4) (sg1 rfl rfl (sg1 rfl rfl (sg1 rfl rfl (sg1 rfl rfl (sg1 rfl rfl (sg1 rfl rfl (sg1 rfl rfl (sg1 rfl rfl rfl)))))))) ?_
      obtain ⟨q5, e_q5, hf⟩ := bnd hf
      refine Ex.callV (a := 67) (As := [.int x1]) (r := [.int (h4.1 67 59), .int (h4.1 67 56), .ref 105]) (v := some (.int q5.1)) (h' := q5.2) rfl rfl (by decide) rfl (Nat.le_of_ble_eq_true rfl) rfl (E_305 (Nat.le_trans (by decide) hd) e_q5) rfl ?_
      refine Ex.seg 1 (pc' := 85) (lc' := [some (.ref 67), some (.int x1)]) (st' := [.int ((h4.1 67 59) - q5.1), .int (h4.1 67 56), .ref 105]) (h' := q5.2) (sg1 rfl rfl rfl) ?_
      obtain ⟨h6, e_h6, hf⟩ := bnd hf
      refine Ex.iast e_h6 rfl rfl ?_
      refine Ex.seg 6 (pc' := 96) (lc' := [some (.ref 67), some (.int x1)]) (st' := []) (h' := (sm_wI h6 67 56 ((h6.1 67 56) + 1))) (sg1 rfl rfl (sg1 rfl rfl (sg1 rfl rfl (sg1 rfl rfl (sg1 rfl rfl (sg1 rfl rfl rfl)))))) ?_
      obtain ⟨h7, e_h7, hf⟩ := bnd hf
      rw [Option.some.inj e_h7]
      obtain rfl := Option.some.inj hf
      exact Ex.vret rfl rfl hs
    · rw [if_pos (Classical.not_not.mp c0)] at hf
      refine Ex.seg 3 (pc' := 36) (lc' := [some (.ref 67), some (.int x1)]) (st' := []) (h' := (sm_wI h1 67 64 2)) (sg1 rfl rfl (sg1 rfl rfl (sg1 rfl rfl rfl))) ?_
      obtain ⟨h8, e_h8, hf⟩ := bnd hf
      rw [Option.some.inj e_h8]
      obtain rfl := Option.some.inj hf
      exact Ex.vret rfl rfl hs
  · rw [if_pos (Classical.not_not.mp c0)] at hf
    refine Ex.seg 3 (pc' := 19) (lc' := [some (.ref 67), some (.int x1)]) (st' := []) (h' := (sm_wI h1 67 64 3)) (sg1 rfl rfl (sg1 rfl rfl (sg1 rfl rfl rfl))) ?_
    obtain ⟨h9, e_h9, hf⟩ := bnd hf
    rw [Option.some.inj e_h9]
    obtain rfl := Option.some.inj hf
    exact Ex.vret rfl rfl hs
theorem E_344 {L : Nat} {xs : Nat → Int32} {d : Nat} (hd : 2 ≤ d) {x1 : Int32} {h : sm_H} {r : sm_H} (hf : F_344 x1 h = some r) : RUN L xs d 344 [.ref 67, .int x1] h (none, r) := by
  obtain ⟨d, rfl⟩ : ∃ e, d = e + 1 := ⟨d - 1, by omega⟩
  exact ⟨Nat.le_of_ble_eq_true rfl, B_344_0 (by omega) hf rfl⟩
theorem B_345_0 {L : Nat} {xs : Nat → Int32} {d : Nat} (hd : 0 ≤ d) {res : Option Value × sm_H} {x1 : Int32} {x2 : Int64}  {h : sm_H} {r : (sm_H)} (hf : F_345_0 x1 x2 h = some r) (hs : (fun (r : sm_H) => res = (none, r)) r) : Ex (P_G L xs) (RUN L xs d) (sm_lk P_t345) 0 0 [some (.ref 67), some (.int x1), some (.long x2), none] [] h res := by
  unfold F_345_0 at hf
  refine Ex.seg 6 (pc' := 10) (lc' := [some (.ref 67), some (.int x1), some (.long x2), none]) (st' := []) (h' := (sm_wI h 67 56 ((h.1 67 56) - 1))) (sg1 rfl rfl (sg1 rfl rfl (sg1 rfl rfl (sg1 rfl rfl (sg1 rfl rfl (sg1 rfl rfl rfl)))))) ?_
  obtain ⟨h1, e_h1, hf⟩ := bnd hf
  rw [Option.some.inj e_h1]
  refine Ex.seg 5 (pc' := 19) (lc' := [some (.ref 67), some (.int x1), some (.long x2), none]) (st' := [.int (h1.1 67 56), .ref 105, .ref 67]) (h' := h1) (sg1 rfl rfl (sg1 rfl rfl (sg1 rfl rfl (sg1 rfl rfl (sg1 rfl rfl rfl))))) ?_
  obtain ⟨v2, e_v2, hf⟩ := bnd hf
  refine Ex.iald e_v2 rfl rfl ?_
  refine Ex.seg 1 (pc' := 23) (lc' := [some (.ref 67), some (.int x1), some (.long x2), none]) (st' := []) (h' := (sm_wI h1 67 59 v2)) (sg1 rfl rfl rfl) ?_
  obtain ⟨h3, e_h3, hf⟩ := bnd hf
  rw [Option.some.inj e_h3]
  refine Ex.seg 3 (pc' := 28) (lc' := [some (.ref 67), some (.int x1), some (.long x2), none]) (st' := []) (h' := (sm_wI h3 67 60 x1)) (sg1 rfl rfl (sg1 rfl rfl (sg1 rfl rfl rfl))) ?_
  obtain ⟨h4, e_h4, hf⟩ := bnd hf
  rw [Option.some.inj e_h4]
  refine Ex.seg 3 (pc' := 33) (lc' := [some (.ref 67), some (.int x1), some (.long x2), none]) (st' := []) (h' := (sm_wJ h4 67 61 x2)) (sg1 rfl rfl (sg1 rfl rfl (sg1 rfl rfl rfl))) ?_
  obtain ⟨h5, e_h5, hf⟩ := bnd hf
  rw [Option.some.inj e_h5]
  refine Ex.seg 3 (pc' := 38) (lc' := [some (.ref 67), some (.int x1), some (.long x2), none]) (st' := []) (h' := (sm_wI h5 67 62 0)) (sg1 rfl rfl (sg1 rfl rfl (sg1 rfl rfl rfl))) ?_
  obtain ⟨h6, e_h6, hf⟩ := bnd hf
  rw [Option.some.inj e_h6]
  refine Ex.seg 3 (pc' := 43) (lc' := [some (.ref 67), some (.int x1), some (.long x2), none]) (st' := []) (h' := (sm_wI h6 67 63 1)) (sg1 rfl rfl (sg1 rfl rfl (sg1 rfl rfl rfl))) ?_
  obtain ⟨h7, e_h7, hf⟩ := bnd hf
  rw [Option.some.inj e_h7]
  obtain rfl := Option.some.inj hf
  exact Ex.vret rfl rfl hs
theorem E_345 {L : Nat} {xs : Nat → Int32} {d : Nat} (hd : 1 ≤ d) {x1 : Int32} {x2 : Int64} {h : sm_H} {r : sm_H} (hf : F_345 x1 x2 h = some r) : RUN L xs d 345 [.ref 67, .int x1, .long x2] h (none, r) := by
  obtain ⟨d, rfl⟩ : ∃ e, d = e + 1 := ⟨d - 1, by omega⟩
  exact ⟨Nat.le_of_ble_eq_true rfl, B_345_0 (by omega) hf rfl⟩
theorem B_346_0 {L : Nat} {xs : Nat → Int32} {d : Nat} (hd : 2 ≤ d) {res : Option Value × sm_H} {x1 : Int32}  {h : sm_H} {r : (sm_H)} (hf : F_346_0 x1 h = some r) (hs : (fun (r : sm_H) => res = (none, r)) r) : Ex (P_G L xs) (RUN L xs d) (sm_lk P_t346) 0 0 [some (.ref 67), some (.int x1)] [] h res := by
  unfold F_346_0 at hf
  refine Ex.seg 2 (pc' := 2) (lc' := [some (.ref 67), some (.int x1)]) (st' := [.int x1, .ref 67]) (h' := h) (sg1 rfl rfl (sg1 rfl rfl rfl)) ?_
  obtain ⟨q1, e_q1, hf⟩ := bnd hf
  refine Ex.callV (a := 67) (As := [.int x1]) (r := []) (v := none) (h' := q1) rfl rfl (by decide) rfl (Nat.le_of_ble_eq_true rfl) rfl (E_299 (Nat.le_trans (by decide) hd) e_q1) rfl ?_
  refine Ex.seg 5 (pc' := 14) (lc' := [some (.ref 67), some (.int x1)]) (st' := [.long (q1.2.1 67 49), .int (q1.1 67 48), .ref 67]) (h' := q1) (sg1 rfl rfl (sg1 rfl rfl (sg1 rfl rfl (sg1 rfl rfl (sg1 rfl rfl rfl))))) ?_
  obtain ⟨q2, e_q2, hf⟩ := bnd hf
  refine Ex.callV (a := 67) (As := [.int (q1.1 67 48), .long (q1.2.1 67 49)]) (r := []) (v := none) (h' := q2) rfl rfl (by decide) rfl (Nat.le_of_ble_eq_true rfl) rfl (E_345 (Nat.le_trans (by decide) hd) e_q2) rfl ?_
  obtain rfl := Option.some.inj hf
  exact Ex.vret rfl rfl hs
theorem E_346 {L : Nat} {xs : Nat → Int32} {d : Nat} (hd : 3 ≤ d) {x1 : Int32} {h : sm_H} {r : sm_H} (hf : F_346 x1 h = some r) : RUN L xs d 346 [.ref 67, .int x1] h (none, r) := by
  obtain ⟨d, rfl⟩ : ∃ e, d = e + 1 := ⟨d - 1, by omega⟩
  exact ⟨Nat.le_of_ble_eq_true rfl, B_346_0 (by omega) hf rfl⟩
theorem B_347_0 {L : Nat} {xs : Nat → Int32} {d : Nat} (hd : 1 ≤ d) {res : Option Value × sm_H} {x1 : Int32} {x2 : Int64}  {h : sm_H} {r : (sm_H)} (hf : F_347_0 x1 x2 h = some r) (hs : (fun (r : sm_H) => res = (none, r)) r) : Ex (P_G L xs) (RUN L xs d) (sm_lk P_t347) 0 0 [some (.ref 67), some (.int x1), some (.long x2), none] [] h res := by
  unfold F_347_0 at hf
  refine Ex.seg 3 (pc' := 3) (lc' := [some (.ref 67), some (.int x1), some (.long x2), none]) (st' := [.long x2, .int x1, .ref 67]) (h' := h) (sg1 rfl rfl (sg1 rfl rfl (sg1 rfl rfl rfl))) ?_
  obtain ⟨q1, e_q1, hf⟩ := bnd hf
  refine Ex.callV (a := 67) (As := [.int x1, .long x2]) (r := []) (v := none) (h' := q1) rfl rfl (by decide) rfl (Nat.le_of_ble_eq_true rfl) rfl (E_345 (Nat.le_trans (by decide) hd) e_q1) rfl ?_
  refine Ex.seg 3 (pc' := 11) (lc' := [some (.ref 67), some (.int x1), some (.long x2), none]) (st' := []) (h' := (sm_wI q1 67 62 1)) (sg1 rfl rfl (sg1 rfl rfl (sg1 rfl rfl rfl))) ?_
  obtain ⟨h2, e_h2, hf⟩ := bnd hf
  rw [Option.some.inj e_h2]
  obtain rfl := Option.some.inj hf
  exact Ex.vret rfl rfl hs
theorem E_347 {L : Nat} {xs : Nat → Int32} {d : Nat} (hd : 2 ≤ d) {x1 : Int32} {x2 : Int64} {h : sm_H} {r : sm_H} (hf : F_347 x1 x2 h = some r) : RUN L xs d 347 [.ref 67, .int x1, .long x2] h (none, r) := by
  obtain ⟨d, rfl⟩ : ∃ e, d = e + 1 := ⟨d - 1, by omega⟩
  exact ⟨Nat.le_of_ble_eq_true rfl, B_347_0 (by omega) hf rfl⟩
theorem B_348_0 {L : Nat} {xs : Nat → Int32} {d : Nat} (hd : 2 ≤ d) {res : Option Value × sm_H} {x1 : Int32}  {h : sm_H} {r : (sm_H)} (hf : F_348_0 x1 h = some r) (hs : (fun (r : sm_H) => res = (none, r)) r) : Ex (P_G L xs) (RUN L xs d) (sm_lk P_t348) 0 0 [some (.ref 67), some (.int x1)] [] h res := by
  unfold F_348_0 at hf
  refine Ex.seg 4 (pc' := 5) (lc' := [some (.ref 67), some (.int x1)]) (st' := [.long (Int32.toInt64 x1), .int 19, .ref 67]) (h' := h) (sg1 rfl rfl (sg1 rfl rfl (sg1 rfl rfl (sg1 rfl rfl rfl)))) ?_
  obtain ⟨q1, e_q1, hf⟩ := bnd hf
  refine Ex.callV (a := 67) (As := [.int 19, .long (Int32.toInt64 x1)]) (r := []) (v := none) (h' := q1) rfl rfl (by decide) rfl (Nat.le_of_ble_eq_true rfl) rfl (E_347 (Nat.le_trans (by decide) hd) e_q1) rfl ?_
  obtain rfl := Option.some.inj hf
  exact Ex.vret rfl rfl hs
theorem E_348 {L : Nat} {xs : Nat → Int32} {d : Nat} (hd : 3 ≤ d) {x1 : Int32} {h : sm_H} {r : sm_H} (hf : F_348 x1 h = some r) : RUN L xs d 348 [.ref 67, .int x1] h (none, r) := by
  obtain ⟨d, rfl⟩ : ∃ e, d = e + 1 := ⟨d - 1, by omega⟩
  exact ⟨Nat.le_of_ble_eq_true rfl, B_348_0 (by omega) hf rfl⟩
theorem B_349_0 {L : Nat} {xs : Nat → Int32} {d : Nat} (hd : 2 ≤ d) {res : Option Value × sm_H} {x1 : Int32}  {h : sm_H} {r : (sm_H)} (hf : F_349_0 x1 h = some r) (hs : (fun (r : sm_H) => res = (none, r)) r) : Ex (P_G L xs) (RUN L xs d) (sm_lk P_t349) 0 0 [some (.ref 67), some (.int x1)] [] h res := by
  unfold F_349_0 at hf
  refine Ex.seg 7 (pc' := 12) (lc' := [some (.ref 67), some (.int x1)]) (st' := [.int 90, .int ((h.1 67 56) - 1), .ref 104]) (h' := h) (sg1 rfl rfl (sg1 rfl rfl (sg1 rfl rfl (sg1 rfl rfl (sg1 rfl rfl (sg1 rfl rfl (sg1 rfl rfl rfl))))))) ?_
  obtain ⟨h1, e_h1, hf⟩ := bnd hf
  refine Ex.iast e_h1 rfl rfl ?_
  refine Ex.seg 2 (pc' := 15) (lc' := [some (.ref 67), some (.int x1)]) (st' := [.int x1, .ref 67]) (h' := h1) (sg1 rfl rfl (sg1 rfl rfl rfl)) ?_
  obtain ⟨q2, e_q2, hf⟩ := bnd hf
  refine Ex.callV (a := 67) (As := [.int x1]) (r := []) (v := none) (h' := q2) rfl rfl (by decide) rfl (Nat.le_of_ble_eq_true rfl) rfl (E_344 (Nat.le_trans (by decide) hd) e_q2) rfl ?_
  obtain rfl := Option.some.inj hf
  exact Ex.vret rfl rfl hs
theorem E_349 {L : Nat} {xs : Nat → Int32} {d : Nat} (hd : 3 ≤ d) {x1 : Int32} {h : sm_H} {r : sm_H} (hf : F_349 x1 h = some r) : RUN L xs d 349 [.ref 67, .int x1] h (none, r) := by
  obtain ⟨d, rfl⟩ : ∃ e, d = e + 1 := ⟨d - 1, by omega⟩
  exact ⟨Nat.le_of_ble_eq_true rfl, B_349_0 (by omega) hf rfl⟩
theorem B_350_0 {L : Nat} {xs : Nat → Int32} {d : Nat} (hd : 2 ≤ d) {res : Option Value × sm_H} {x1 : Int32} {x2 : Int32}  {h : sm_H} {r : (sm_H)} (hf : F_350_0 x1 x2 h = some r) (hs : (fun (r : sm_H) => res = (none, r)) r) : Ex (P_G L xs) (RUN L xs d) (sm_lk P_t350) 0 0 [some (.ref 67), some (.int x1), some (.int x2)] [] h res := by
  unfold F_350_0 at hf
  refine Ex.seg 7 (pc' := 11) (lc' := [some (.ref 67), some (.int x1), some (.int x2)]) (st' := [.int x2, .int ((h.1 67 56) - 1), .ref 104]) (h' := h) (sg1 rfl rfl (sg1 rfl rfl (sg1 rfl rfl (sg1 rfl rfl (sg1 rfl rfl (sg1 rfl rfl (sg1 rfl rfl rfl))))))) ?_
  obtain ⟨h1, e_h1, hf⟩ := bnd hf
  refine Ex.iast e_h1 rfl rfl ?_
  refine Ex.seg 2 (pc' := 14) (lc' := [some (.ref 67), some (.int x1), some (.int x2)]) (st' := [.int x1, .ref 67]) (h' := h1) (sg1 rfl rfl (sg1 rfl rfl rfl)) ?_
  obtain ⟨q2, e_q2, hf⟩ := bnd hf
  refine Ex.callV (a := 67) (As := [.int x1]) (r := []) (v := none) (h' := q2) rfl rfl (by decide) rfl (Nat.le_of_ble_eq_true rfl) rfl (E_344 (Nat.le_trans (by decide) hd) e_q2) rfl ?_
  obtain rfl := Option.some.inj hf
  exact Ex.vret rfl rfl hs
theorem E_350 {L : Nat} {xs : Nat → Int32} {d : Nat} (hd : 3 ≤ d) {x1 : Int32} {x2 : Int32} {h : sm_H} {r : sm_H} (hf : F_350 x1 x2 h = some r) : RUN L xs d 350 [.ref 67, .int x1, .int x2] h (none, r) := by
  obtain ⟨d, rfl⟩ : ∃ e, d = e + 1 := ⟨d - 1, by omega⟩
  exact ⟨Nat.le_of_ble_eq_true rfl, B_350_0 (by omega) hf rfl⟩
theorem B_351_0 {L : Nat} {xs : Nat → Int32} {d : Nat} (hd : 0 ≤ d) {res : Option Value × sm_H} {x1 : Int32}  {h : sm_H} {r : (Int32 × sm_H)} (hf : F_351_0 x1 h = some r) (hs : (fun (r : Int32 × sm_H) => res = (some (.int r.1), r.2)) r) : Ex (P_G L xs) (RUN L xs d) (sm_lk P_t351) 0 0 [some (.ref 67), some (.int x1)] [] h res := by
  unfold F_351_0 at hf
  refine Ex.seg 8 (pc' := 14) (lc' := [some (.ref 67), some (.int x1)]) (st' := [.int ((h.1 67 56) - 1), .ref 105, .ref 108]) (h' := h) (sg1 rfl rfl (sg1 rfl rfl (sg1 rfl rfl (sg1 rfl rfl (sg1 rfl rfl (sg1 rfl rfl (sg1 rfl rfl (sg1 rfl rfl rfl)))))))) ?_
  obtain ⟨v1, e_v1, hf⟩ := bnd hf
  refine Ex.iald e_v1 rfl rfl ?_
  refine Ex.seg 2 (pc' := 17) (lc' := [some (.ref 67), some (.int x1)]) (st' := [.int (v1 + x1), .ref 108]) (h' := h) (sg1 rfl rfl (sg1 rfl rfl rfl)) ?_
  obtain ⟨v2, e_v2, hf⟩ := bnd hf
  refine Ex.iald e_v2 rfl rfl ?_
  obtain rfl := Option.some.inj hf
  exact Ex.iret rfl rfl (fun c0 => by cases c0) hs
theorem E_351 {L : Nat} {xs : Nat → Int32} {d : Nat} (hd : 1 ≤ d) {x1 : Int32} {h : sm_H} {r : Int32 × sm_H} (hf : F_351 x1 h = some r) : RUN L xs d 351 [.ref 67, .int x1] h (some (.int r.1), r.2) := by
  obtain ⟨d, rfl⟩ : ∃ e, d = e + 1 := ⟨d - 1, by omega⟩
  exact ⟨Nat.le_of_ble_eq_true rfl, B_351_0 (by omega) hf rfl⟩
theorem B_352_0 {L : Nat} {xs : Nat → Int32} {d : Nat} (hd : 0 ≤ d) {res : Option Value × sm_H} {x1 : Int32}  {h : sm_H} {r : (Int64 × sm_H)} (hf : F_352_0 x1 h = some r) (hs : (fun (r : Int64 × sm_H) => res = (some (.long r.1), r.2)) r) : Ex (P_G L xs) (RUN L xs d) (sm_lk P_t352) 0 0 [some (.ref 67), some (.int x1)] [] h res := by
  unfold F_352_0 at hf
  refine Ex.seg 8 (pc' := 14) (lc' := [some (.ref 67), some (.int x1)]) (st' := [.int ((h.1 67 56) - 1), .ref 105, .ref 109]) (h' := h) (sg1 rfl rfl (sg1 rfl rfl (sg1 rfl rfl (sg1 rfl rfl (sg1 rfl rfl (sg1 rfl rfl (sg1 rfl rfl (sg1 rfl rfl rfl)))))))) ?_
  obtain ⟨v1, e_v1, hf⟩ := bnd hf
  refine Ex.iald e_v1 rfl rfl ?_
  refine Ex.seg 2 (pc' := 17) (lc' := [some (.ref 67), some (.int x1)]) (st' := [.int (v1 + x1), .ref 109]) (h' := h) (sg1 rfl rfl (sg1 rfl rfl rfl)) ?_
  obtain ⟨v2, e_v2, hf⟩ := bnd hf
  refine Ex.lald e_v2 rfl rfl ?_
  obtain rfl := Option.some.inj hf
  exact Ex.lret rfl rfl hs
theorem E_352 {L : Nat} {xs : Nat → Int32} {d : Nat} (hd : 1 ≤ d) {x1 : Int32} {h : sm_H} {r : Int64 × sm_H} (hf : F_352 x1 h = some r) : RUN L xs d 352 [.ref 67, .int x1] h (some (.long r.1), r.2) := by
  obtain ⟨d, rfl⟩ : ∃ e, d = e + 1 := ⟨d - 1, by omega⟩
  exact ⟨Nat.le_of_ble_eq_true rfl, B_352_0 (by omega) hf rfl⟩
theorem B_353_59 {L : Nat} {xs : Nat → Int32} {d : Nat} (hd : 2 ≤ d) {res : Option Value × sm_H}   {h : sm_H} {r : (sm_H)} (hf : F_353_59  h = some r) (hs : (fun (r : sm_H) => res = (none, r)) r) : Ex (P_G L xs) (RUN L xs d) (sm_lk P_t353) 0 59 [none, none, none, none] [] h res := by
  unfold F_353_59 at hf
  obtain rfl := Option.some.inj hf
  exact Ex.vret rfl rfl hs
theorem B_353_0 {L : Nat} {xs : Nat → Int32} {d : Nat} (hd : 2 ≤ d) {res : Option Value × sm_H} {x1 : Int32} {x2 : Int64}  {h : sm_H} {r : (sm_H)} (hf : F_353_0 x1 x2 h = some r) (hs : (fun (r : sm_H) => res = (none, r)) r) : Ex (P_G L xs) (RUN L xs d) (sm_lk P_t353) 0 0 [some (.ref 67), some (.int x1), some (.long x2), none] [] h res := by
  unfold F_353_0 at hf
  refine Ex.seg 1 (pc' := 1) (lc' := [some (.ref 67), some (.int x1), some (.long x2), none]) (st' := [.int x1]) (h' := h) (sg1 rfl rfl rfl) ?_
  obtain ⟨q1, e_q1, hf⟩ := bnd hf
  refine Ex.callS (As := [.int x1]) (r := []) (v := some (.int q1.1)) (h' := q1.2) rfl rfl rfl rfl (Nat.le_of_ble_eq_true rfl) (E_290 (Nat.le_trans (by decide) hd) e_q1) rfl ?_
  refine Ex.ifc rfl rfl (fun (c0 : q1.1 = 0) => ?_) (fun (c0 : ¬ (q1.1 = 0)) => ?_)
  · rw [if_pos c0] at hf
    refine Ex.seg 3 (pc' := 25) (lc' := [some (.ref 67), some (.int x1), some (.long x2), none]) (st' := [.int (lg_cmp x2 (-1))]) (h' := q1.2) (sg1 rfl rfl (sg1 rfl rfl (sg1 rfl rfl rfl))) ?_
    refine Ex.ifc rfl rfl (fun (c0 : ¬ ((lg_cmp x2 (-1)) = 0)) => ?_) (fun (c0 : ¬ ¬ ((lg_cmp x2 (-1)) = 0)) => ?_)
    · rw [if_neg c0] at hf
      refine Ex.seg 5 (pc' := 44) (lc' := [some (.ref 67), some (.int x1), some (.long x2), none]) (st' := [.int (Int64.toInt32 x2), .ref 94, .ref 67]) (h' := q1.2) (sg1 rfl rfl (sg1 rfl rfl (sg1 rfl rfl (sg1 rfl rfl (sg1 rfl rfl rfl))))) ?_
      obtain ⟨v2, e_v2, hf⟩ := bnd hf
      refine Ex.iald e_v2 rfl rfl ?_
      refine Ex.seg 1 (pc' := 48) (lc' := [some (.ref 67), some (.int x1), some (.long x2), none]) (st' := []) (h' := (sm_wI q1.2 67 48 v2)) (sg1 rfl rfl rfl) ?_
      obtain ⟨h3, e_h3, hf⟩ := bnd hf
      rw [Option.some.inj e_h3]
      refine Ex.seg 5 (pc' := 55) (lc' := [some (.ref 67), some (.int x1), some (.long x2), none]) (st' := [.int (Int64.toInt32 x2), .ref 95, .ref 67]) (h' := h3) (sg1 rfl rfl (sg1 rfl rfl (sg1 rfl rfl (sg1 rfl rfl (sg1 rfl rfl rfl))))) ?_
      obtain ⟨v4, e_v4, hf⟩ := bnd hf
      refine Ex.lald e_v4 rfl rfl ?_
      refine Ex.seg 1 (pc' := 59) (lc' := [some (.ref 67), some (.int x1), some (.long x2), none]) (st' := []) (h' := (sm_wJ h3 67 49 v4)) (sg1 rfl rfl rfl) ?_
      obtain ⟨h5, e_h5, hf⟩ := bnd hf
      rw [Option.some.inj e_h5]
      exact Ex.weak (sm_le_n (sm_le_n (sm_le_n (sm_le_s sm_le_nil)))) (B_353_59 hd  hf hs)
    · rw [if_pos (Classical.not_not.mp c0)] at hf
      refine Ex.seg 2 (pc' := 31) (lc' := [some (.ref 67), some (.int x1), some (.long x2), none]) (st' := [.int 7, .ref 67]) (h' := q1.2) (sg1 rfl rfl (sg1 rfl rfl rfl)) ?_
      obtain ⟨q6, e_q6, hf⟩ := bnd hf
      refine Ex.callV (a := 67) (As := [.int 7]) (r := []) (v := none) (h' := q6) rfl rfl (by decide) rfl (Nat.le_of_ble_eq_true rfl) rfl (E_299 (Nat.le_trans (by decide) hd) e_q6) rfl ?_
      refine Ex.seg 1 (pc' := 59) (lc' := [some (.ref 67), some (.int x1), some (.long x2), none]) (st' := []) (h' := q6) (sg1 rfl rfl rfl) ?_
      exact Ex.weak (sm_le_n (sm_le_n (sm_le_n (sm_le_s sm_le_nil)))) (B_353_59 hd  hf hs)
  · rw [if_neg c0] at hf
    refine Ex.seg 3 (pc' := 12) (lc' := [some (.ref 67), some (.int x1), some (.long x2), none]) (st' := []) (h' := (sm_wI q1.2 67 48 x1)) (sg1 rfl rfl (sg1 rfl rfl (sg1 rfl rfl rfl))) ?_
    obtain ⟨h7, e_h7, hf⟩ := bnd hf
    rw [Option.some.inj e_h7]
    refine Ex.seg 3 (pc' := 17) (lc' := [some (.ref 67), some (.int x1), some (.long x2), none]) (st' := []) (h' := (sm_wJ h7 67 49 x2)) (sg1 rfl rfl (sg1 rfl rfl (sg1 rfl rfl rfl))) ?_
    obtain ⟨h8, e_h8, hf⟩ := bnd hf
    rw [Option.some.inj e_h8]
    refine Ex.seg 1 (pc' := 59) (lc' := [some (.ref 67), some (.int x1), some (.long x2), none]) (st' := []) (h' := h8) (sg1 rfl rfl rfl) ?_
    exact Ex.weak (sm_le_n (sm_le_n (sm_le_n (sm_le_s sm_le_nil)))) (B_353_59 hd  hf hs)
theorem E_353 {L : Nat} {xs : Nat → Int32} {d : Nat} (hd : 3 ≤ d) {x1 : Int32} {x2 : Int64} {h : sm_H} {r : sm_H} (hf : F_353 x1 x2 h = some r) : RUN L xs d 353 [.ref 67, .int x1, .long x2] h (none, r) := by
  obtain ⟨d, rfl⟩ : ∃ e, d = e + 1 := ⟨d - 1, by omega⟩
  exact ⟨Nat.le_of_ble_eq_true rfl, B_353_0 (by omega) hf rfl⟩
theorem B_354_252 {L : Nat} {xs : Nat → Int32} {d : Nat} (hd : 0 ≤ d) {res : Option Value × sm_H} {z0 : Int64}  {h : sm_H} {r : (Int64 × sm_H)} (hf : F_354_252 z0 h = some r) (hs : (fun (r : Int64 × sm_H) => res = (some (.long r.1), r.2)) r) : Ex (P_G L xs) (RUN L xs d) (sm_lk P_t354) 0 252 [none, none, none, none, none, none, none] [.long z0] h res := by
  unfold F_354_252 at hf
  obtain rfl := Option.some.inj hf
  exact Ex.lret rfl rfl hs
theorem B_354_239 {L : Nat} {xs : Nat → Int32} {d : Nat} (hd : 0 ≤ d) {res : Option Value × sm_H} {z0 : Int64}  {h : sm_H} {r : (Int64 × sm_H)} (hf : F_354_239 z0 h = some r) (hs : (fun (r : Int64 × sm_H) => res = (some (.long r.1), r.2)) r) : Ex (P_G L xs) (RUN L xs d) (sm_lk P_t354) 0 239 [none, none, none, none, none, none, none] [.long z0] h res := by
  unfold F_354_239 at hf
  obtain rfl := Option.some.inj hf
  exact Ex.lret rfl rfl hs
theorem B_354_226 {L : Nat} {xs : Nat → Int32} {d : Nat} (hd : 0 ≤ d) {res : Option Value × sm_H} {z0 : Int64}  {h : sm_H} {r : (Int64 × sm_H)} (hf : F_354_226 z0 h = some r) (hs : (fun (r : Int64 × sm_H) => res = (some (.long r.1), r.2)) r) : Ex (P_G L xs) (RUN L xs d) (sm_lk P_t354) 0 226 [none, none, none, none, none, none, none] [.long z0] h res := by
  unfold F_354_226 at hf
  obtain rfl := Option.some.inj hf
  exact Ex.lret rfl rfl hs
theorem B_354_198 {L : Nat} {xs : Nat → Int32} {d : Nat} (hd : 0 ≤ d) {res : Option Value × sm_H} {z0 : Int64}  {h : sm_H} {r : (Int64 × sm_H)} (hf : F_354_198 z0 h = some r) (hs : (fun (r : Int64 × sm_H) => res = (some (.long r.1), r.2)) r) : Ex (P_G L xs) (RUN L xs d) (sm_lk P_t354) 0 198 [none, none, none, none, none, none, none] [.long z0] h res := by
  unfold F_354_198 at hf
  obtain rfl := Option.some.inj hf
  exact Ex.lret rfl rfl hs
theorem B_354_170 {L : Nat} {xs : Nat → Int32} {d : Nat} (hd : 0 ≤ d) {res : Option Value × sm_H} {z0 : Int64}  {h : sm_H} {r : (Int64 × sm_H)} (hf : F_354_170 z0 h = some r) (hs : (fun (r : Int64 × sm_H) => res = (some (.long r.1), r.2)) r) : Ex (P_G L xs) (RUN L xs d) (sm_lk P_t354) 0 170 [none, none, none, none, none, none, none] [.long z0] h res := by
  unfold F_354_170 at hf
  obtain rfl := Option.some.inj hf
  exact Ex.lret rfl rfl hs
theorem B_354_127 {L : Nat} {xs : Nat → Int32} {d : Nat} (hd : 0 ≤ d) {res : Option Value × sm_H} {z0 : Int64}  {h : sm_H} {r : (Int64 × sm_H)} (hf : F_354_127 z0 h = some r) (hs : (fun (r : Int64 × sm_H) => res = (some (.long r.1), r.2)) r) : Ex (P_G L xs) (RUN L xs d) (sm_lk P_t354) 0 127 [none, none, none, none, none, none, none] [.long z0] h res := by
  unfold F_354_127 at hf
  obtain rfl := Option.some.inj hf
  exact Ex.lret rfl rfl hs
theorem B_354_109 {L : Nat} {xs : Nat → Int32} {d : Nat} (hd : 0 ≤ d) {res : Option Value × sm_H} {z0 : Int64}  {h : sm_H} {r : (Int64 × sm_H)} (hf : F_354_109 z0 h = some r) (hs : (fun (r : Int64 × sm_H) => res = (some (.long r.1), r.2)) r) : Ex (P_G L xs) (RUN L xs d) (sm_lk P_t354) 0 109 [none, none, none, none, none, none, none] [.long z0] h res := by
  unfold F_354_109 at hf
  obtain rfl := Option.some.inj hf
  exact Ex.lret rfl rfl hs
theorem B_354_11 {L : Nat} {xs : Nat → Int32} {d : Nat} (hd : 0 ≤ d) {res : Option Value × sm_H} {y0 : Int32} {y1 : Int32} {y2 : Int64} {y4 : Int64} {z0 : Int32}  {h : sm_H} {r : (Int64 × sm_H)} (hf : F_354_11 y0 y1 y2 y4 z0 h = some r) (hs : (fun (r : Int64 × sm_H) => res = (some (.long r.1), r.2)) r) : Ex (P_G L xs) (RUN L xs d) (sm_lk P_t354) 0 11 [some (.int y0), some (.int y1), some (.long y2), none, some (.long y4), none, none] [.int z0] h res := by
  unfold F_354_11 at hf
  refine Ex.seg 2 (pc' := 14) (lc' := [some (.int y0), some (.int y1), some (.long y2), none, some (.long y4), none, some (.int z0)]) (st' := [.int y0]) (h' := h) (sg1 rfl rfl (sg1 rfl rfl rfl)) ?_
  rcases Classical.em (y0 = 0) with n1 | n1
  · rw [if_pos n1] at hf
    refine Ex.swt (t := 76) rfl rfl (by rw [n1]; exact Or.inr ⟨by decide, by decide, _, rfl, by decide⟩) ?_
    refine Ex.seg 3 (pc' := 80) (lc' := [some (.int y0), some (.int y1), some (.long y2), none, some (.long y4), none, some (.int z0)]) (st' := [.long (y2 + y4)]) (h' := h) (sg1 rfl rfl (sg1 rfl rfl (sg1 rfl rfl rfl))) ?_
    obtain rfl := Option.some.inj hf
    exact Ex.lret rfl rfl hs
  rw [if_neg n1] at hf
  rcases Classical.em (y0 = 1) with n2 | n2
  · rw [if_pos n2] at hf
    refine Ex.swt (t := 81) rfl rfl (by rw [n2]; exact Or.inr ⟨by decide, by decide, _, rfl, by decide⟩) ?_
    refine Ex.seg 3 (pc' := 85) (lc' := [some (.int y0), some (.int y1), some (.long y2), none, some (.long y4), none, some (.int z0)]) (st' := [.long (y2 - y4)]) (h' := h) (sg1 rfl rfl (sg1 rfl rfl (sg1 rfl rfl rfl))) ?_
    obtain rfl := Option.some.inj hf
    exact Ex.lret rfl rfl hs
  rw [if_neg n2] at hf
  rcases Classical.em (y0 = 2) with n3 | n3
  · rw [if_pos n3] at hf
    refine Ex.swt (t := 86) rfl rfl (by rw [n3]; exact Or.inr ⟨by decide, by decide, _, rfl, by decide⟩) ?_
    refine Ex.seg 3 (pc' := 90) (lc' := [some (.int y0), some (.int y1), some (.long y2), none, some (.long y4), none, some (.int z0)]) (st' := [.long (y2 * y4)]) (h' := h) (sg1 rfl rfl (sg1 rfl rfl (sg1 rfl rfl rfl))) ?_
    obtain rfl := Option.some.inj hf
    exact Ex.lret rfl rfl hs
  rw [if_neg n3] at hf
  rcases Classical.em (y0 = 3) with n4 | n4
  · rw [if_pos n4] at hf
    refine Ex.swt (t := 91) rfl rfl (by rw [n4]; exact Or.inr ⟨by decide, by decide, _, rfl, by decide⟩) ?_
    refine Ex.seg 3 (pc' := 97) (lc' := [some (.int y0), some (.int y1), some (.long y2), none, some (.long y4), none, some (.int z0)]) (st' := [.int (lg_cmp y4 (-1))]) (h' := h) (sg1 rfl rfl (sg1 rfl rfl (sg1 rfl rfl rfl))) ?_
    refine Ex.ifc rfl rfl (fun (c0 : ¬ ((lg_cmp y4 (-1)) = 0)) => ?_) (fun (c0 : ¬ ¬ ((lg_cmp y4 (-1)) = 0)) => ?_)
    · rw [if_neg c0] at hf
      refine Ex.seg 2 (pc' := 108) (lc' := [some (.int y0), some (.int y1), some (.long y2), none, some (.long y4), none, some (.int z0)]) (st' := [.long y4, .long y2]) (h' := h) (sg1 rfl rfl (sg1 rfl rfl rfl)) ?_
      rcases Classical.em (y4 = 0) with c0 | c0
      · rw [if_pos c0] at hf
        cases hf
      rw [if_neg c0] at hf
      refine Ex.ldiv c0 rfl rfl ?_
      exact Ex.weak (sm_le_n (sm_le_n (sm_le_n (sm_le_s (sm_le_n (sm_le_s (sm_le_n sm_le_nil))))))) (B_354_109 hd  hf hs)
    · rw [if_pos (Classical.not_not.mp c0)] at hf
      refine Ex.seg 3 (pc' := 109) (lc' := [some (.int y0), some (.int y1), some (.long y2), none, some (.long y4), none, some (.int z0)]) (st' := [.long (-y2)]) (h' := h) (sg1 rfl rfl (sg1 rfl rfl (sg1 rfl rfl rfl))) ?_
      exact Ex.weak (sm_le_n (sm_le_n (sm_le_n (sm_le_s (sm_le_n (sm_le_s (sm_le_n sm_le_nil))))))) (B_354_109 hd  hf hs)
  rw [if_neg n4] at hf
  rcases Classical.em (y0 = 4) with n5 | n5
  · rw [if_pos n5] at hf
    refine Ex.swt (t := 110) rfl rfl (by rw [n5]; exact Or.inr ⟨by decide, by decide, _, rfl, by decide⟩) ?_
    refine Ex.seg 3 (pc' := 116) (lc' := [some (.int y0), some (.int y1), some (.long y2), none, some (.long y4), none, some (.int z0)]) (st' := [.int (lg_cmp y4 (-1))]) (h' := h) (sg1 rfl rfl (sg1 rfl rfl (sg1 rfl rfl rfl))) ?_
    refine Ex.ifc rfl rfl (fun (c0 : ¬ ((lg_cmp y4 (-1)) = 0)) => ?_) (fun (c0 : ¬ ¬ ((lg_cmp y4 (-1)) = 0)) => ?_)
    · rw [if_neg c0] at hf
      refine Ex.seg 2 (pc' := 126) (lc' := [some (.int y0), some (.int y1), some (.long y2), none, some (.long y4), none, some (.int z0)]) (st' := [.long y4, .long y2]) (h' := h) (sg1 rfl rfl (sg1 rfl rfl rfl)) ?_
      rcases Classical.em (y4 = 0) with c0 | c0
      · rw [if_pos c0] at hf
        cases hf
      rw [if_neg c0] at hf
      refine Ex.lrem c0 rfl rfl ?_
      exact Ex.weak (sm_le_n (sm_le_n (sm_le_n (sm_le_s (sm_le_n (sm_le_s (sm_le_n sm_le_nil))))))) (B_354_127 hd  hf hs)
    · rw [if_pos (Classical.not_not.mp c0)] at hf
      refine Ex.seg 2 (pc' := 127) (lc' := [some (.int y0), some (.int y1), some (.long y2), none, some (.long y4), none, some (.int z0)]) (st' := [.long 0]) (h' := h) (sg1 rfl rfl (sg1 rfl rfl rfl)) ?_
      exact Ex.weak (sm_le_n (sm_le_n (sm_le_n (sm_le_s (sm_le_n (sm_le_s (sm_le_n sm_le_nil))))))) (B_354_127 hd  hf hs)
  rw [if_neg n5] at hf
  rcases Classical.em (y0 = 5) with n6 | n6
  · rw [if_pos n6] at hf
    refine Ex.swt (t := 128) rfl rfl (by rw [n6]; exact Or.inr ⟨by decide, by decide, _, rfl, by decide⟩) ?_
    refine Ex.seg 3 (pc' := 132) (lc' := [some (.int y0), some (.int y1), some (.long y2), none, some (.long y4), none, some (.int z0)]) (st' := [.long (y2 &&& y4)]) (h' := h) (sg1 rfl rfl (sg1 rfl rfl (sg1 rfl rfl rfl))) ?_
    obtain rfl := Option.some.inj hf
    exact Ex.lret rfl rfl hs
  rw [if_neg n6] at hf
  rcases Classical.em (y0 = 6) with n7 | n7
  · rw [if_pos n7] at hf
    refine Ex.swt (t := 133) rfl rfl (by rw [n7]; exact Or.inr ⟨by decide, by decide, _, rfl, by decide⟩) ?_
    refine Ex.seg 3 (pc' := 137) (lc' := [some (.int y0), some (.int y1), some (.long y2), none, some (.long y4), none, some (.int z0)]) (st' := [.long (y2 ||| y4)]) (h' := h) (sg1 rfl rfl (sg1 rfl rfl (sg1 rfl rfl rfl))) ?_
    obtain rfl := Option.some.inj hf
    exact Ex.lret rfl rfl hs
  rw [if_neg n7] at hf
  rcases Classical.em (y0 = 7) with n8 | n8
  · rw [if_pos n8] at hf
    refine Ex.swt (t := 138) rfl rfl (by rw [n8]; exact Or.inr ⟨by decide, by decide, _, rfl, by decide⟩) ?_
    refine Ex.seg 3 (pc' := 142) (lc' := [some (.int y0), some (.int y1), some (.long y2), none, some (.long y4), none, some (.int z0)]) (st' := [.long (y2 ^^^ y4)]) (h' := h) (sg1 rfl rfl (sg1 rfl rfl (sg1 rfl rfl rfl))) ?_
    obtain rfl := Option.some.inj hf
    exact Ex.lret rfl rfl hs
  rw [if_neg n8] at hf
  rcases Classical.em (y0 = 8) with n9 | n9
  · rw [if_pos n9] at hf
    refine Ex.swt (t := 143) rfl rfl (by rw [n9]; exact Or.inr ⟨by decide, by decide, _, rfl, by decide⟩) ?_
    refine Ex.seg 1 (pc' := 144) (lc' := [some (.int y0), some (.int y1), some (.long y2), none, some (.long y4), none, some (.int z0)]) (st' := [.int y1]) (h' := h) (sg1 rfl rfl rfl) ?_
    refine Ex.ifc rfl rfl (fun (c0 : y1 = 0) => ?_) (fun (c0 : ¬ (y1 = 0)) => ?_)
    · rw [if_pos c0] at hf
      refine Ex.seg 9 (pc' := 170) (lc' := [some (.int y0), some (.int y1), some (.long y2), none, some (.long y4), none, some (.int z0)]) (st' := [.long (Int32.toInt64 ((Int64.toInt32 y2) <<< ((Int64.toInt32 (y4 &&& (Int32.toInt64 z0))) &&& 31)))]) (h' := h) (sg1 rfl rfl (sg1 rfl rfl (sg1 rfl rfl (sg1 rfl rfl (sg1 rfl rfl (sg1 rfl rfl (sg1 rfl rfl (sg1 rfl rfl (sg1 rfl rfl rfl))))))))) ?_
      exact Ex.weak (sm_le_n (sm_le_n (sm_le_n (sm_le_s (sm_le_n (sm_le_s (sm_le_n sm_le_nil))))))) (B_354_170 hd  hf hs)
    · rw [if_neg c0] at hf
      refine Ex.seg 8 (pc' := 170) (lc' := [some (.int y0), some (.int y1), some (.long y2), none, some (.long y4), none, some (.int z0)]) (st' := [.long (y2 <<< (Int32.toInt64 (Int64.toInt32 (y4 &&& (Int32.toInt64 z0))) &&& 63))]) (h' := h) (sg1 rfl rfl (sg1 rfl rfl (sg1 rfl rfl (sg1 rfl rfl (sg1 rfl rfl (sg1 rfl rfl (sg1 rfl rfl (sg1 rfl rfl rfl)))))))) ?_
      exact Ex.weak (sm_le_n (sm_le_n (sm_le_n (sm_le_s (sm_le_n (sm_le_s (sm_le_n sm_le_nil))))))) (B_354_170 hd  hf hs)
  rw [if_neg n9] at hf
  rcases Classical.em (y0 = 9) with n10 | n10
  · rw [if_pos n10] at hf
    refine Ex.swt (t := 171) rfl rfl (by rw [n10]; exact Or.inr ⟨by decide, by decide, _, rfl, by decide⟩) ?_
    refine Ex.seg 1 (pc' := 172) (lc' := [some (.int y0), some (.int y1), some (.long y2), none, some (.long y4), none, some (.int z0)]) (st' := [.int y1]) (h' := h) (sg1 rfl rfl rfl) ?_
    refine Ex.ifc rfl rfl (fun (c0 : y1 = 0) => ?_) (fun (c0 : ¬ (y1 = 0)) => ?_)
    · rw [if_pos c0] at hf
      refine Ex.seg 9 (pc' := 198) (lc' := [some (.int y0), some (.int y1), some (.long y2), none, some (.long y4), none, some (.int z0)]) (st' := [.long (Int32.toInt64 ((Int64.toInt32 y2) >>> ((Int64.toInt32 (y4 &&& (Int32.toInt64 z0))) &&& 31)))]) (h' := h) (sg1 rfl rfl (sg1 rfl rfl (sg1 rfl rfl (sg1 rfl rfl (sg1 rfl rfl (sg1 rfl rfl (sg1 rfl rfl (sg1 rfl rfl (sg1 rfl rfl rfl))))))))) ?_
      exact Ex.weak (sm_le_n (sm_le_n (sm_le_n (sm_le_s (sm_le_n (sm_le_s (sm_le_n sm_le_nil))))))) (B_354_198 hd  hf hs)
    · rw [if_neg c0] at hf
      refine Ex.seg 8 (pc' := 198) (lc' := [some (.int y0), some (.int y1), some (.long y2), none, some (.long y4), none, some (.int z0)]) (st' := [.long (y2 >>> (Int32.toInt64 (Int64.toInt32 (y4 &&& (Int32.toInt64 z0))) &&& 63))]) (h' := h) (sg1 rfl rfl (sg1 rfl rfl (sg1 rfl rfl (sg1 rfl rfl (sg1 rfl rfl (sg1 rfl rfl (sg1 rfl rfl (sg1 rfl rfl rfl)))))))) ?_
      exact Ex.weak (sm_le_n (sm_le_n (sm_le_n (sm_le_s (sm_le_n (sm_le_s (sm_le_n sm_le_nil))))))) (B_354_198 hd  hf hs)
  rw [if_neg n10] at hf
  rcases Classical.em (y0 = 10) with n11 | n11
  · rw [if_pos n11] at hf
    refine Ex.swt (t := 199) rfl rfl (by rw [n11]; exact Or.inr ⟨by decide, by decide, _, rfl, by decide⟩) ?_
    refine Ex.seg 1 (pc' := 200) (lc' := [some (.int y0), some (.int y1), some (.long y2), none, some (.long y4), none, some (.int z0)]) (st' := [.int y1]) (h' := h) (sg1 rfl rfl rfl) ?_
    refine Ex.ifc rfl rfl (fun (c0 : y1 = 0) => ?_) (fun (c0 : ¬ (y1 = 0)) => ?_)
    · rw [if_pos c0] at hf
      refine Ex.seg 9 (pc' := 226) (lc' := [some (.int y0), some (.int y1), some (.long y2), none, some (.long y4), none, some (.int z0)]) (st' := [.long (Int32.toInt64 (Int32.toUInt32 (Int64.toInt32 y2) >>> (Int32.toUInt32 (Int64.toInt32 (y4 &&& (Int32.toInt64 z0))) &&& Int32.toUInt32 31)).toInt32)]) (h' := h) (sg1 rfl rfl (sg1 rfl rfl (sg1 rfl rfl (sg1 rfl rfl (sg1 rfl rfl (sg1 rfl rfl (sg1 rfl rfl (sg1 rfl rfl (sg1 rfl rfl rfl))))))))) ?_
      exact Ex.weak (sm_le_n (sm_le_n (sm_le_n (sm_le_s (sm_le_n (sm_le_s (sm_le_n sm_le_nil))))))) (B_354_226 hd  hf hs)
    · rw [if_neg c0] at hf
      refine Ex.seg 8 (pc' := 226) (lc' := [some (.int y0), some (.int y1), some (.long y2), none, some (.long y4), none, some (.int z0)]) (st' := [.long (Int64.toUInt64 y2 >>> ((Int32.toInt64 (Int64.toInt32 (y4 &&& (Int32.toInt64 z0)))).toUInt64 &&& Int64.toUInt64 63)).toInt64]) (h' := h) (sg1 rfl rfl (sg1 rfl rfl (sg1 rfl rfl (sg1 rfl rfl (sg1 rfl rfl (sg1 rfl rfl (sg1 rfl rfl (sg1 rfl rfl rfl)))))))) ?_
      exact Ex.weak (sm_le_n (sm_le_n (sm_le_n (sm_le_s (sm_le_n (sm_le_s (sm_le_n sm_le_nil))))))) (B_354_226 hd  hf hs)
  rw [if_neg n11] at hf
  rcases Classical.em (y0 = 11) with n12 | n12
  · rw [if_pos n12] at hf
    refine Ex.swt (t := 227) rfl rfl (by rw [n12]; exact Or.inr ⟨by decide, by decide, _, rfl, by decide⟩) ?_
    refine Ex.seg 3 (pc' := 231) (lc' := [some (.int y0), some (.int y1), some (.long y2), none, some (.long y4), none, some (.int z0)]) (st' := [.int (lg_cmp y2 y4)]) (h' := h) (sg1 rfl rfl (sg1 rfl rfl (sg1 rfl rfl rfl))) ?_
    refine Ex.ifc rfl rfl (fun (c0 : 0 ≤ (lg_cmp y2 y4)) => ?_) (fun (c0 : ¬ (0 ≤ (lg_cmp y2 y4))) => ?_)
    · rw [if_pos c0] at hf
      refine Ex.seg 1 (pc' := 239) (lc' := [some (.int y0), some (.int y1), some (.long y2), none, some (.long y4), none, some (.int z0)]) (st' := [.long 0]) (h' := h) (sg1 rfl rfl rfl) ?_
      exact Ex.weak (sm_le_n (sm_le_n (sm_le_n (sm_le_s (sm_le_n (sm_le_s (sm_le_n sm_le_nil))))))) (B_354_239 hd  hf hs)
    · rw [if_neg c0] at hf
      refine Ex.seg 2 (pc' := 239) (lc' := [some (.int y0), some (.int y1), some (.long y2), none, some (.long y4), none, some (.int z0)]) (st' := [.long 1]) (h' := h) (sg1 rfl rfl (sg1 rfl rfl rfl)) ?_
      exact Ex.weak (sm_le_n (sm_le_n (sm_le_n (sm_le_s (sm_le_n (sm_le_s (sm_le_n sm_le_nil))))))) (B_354_239 hd  hf hs)
  rw [if_neg n12] at hf
  refine Ex.swt (t := 240) rfl rfl (sw_dflt (by decide) (by decide) (fun k hk he => ?_)) ?_
  · have hk : k < 12 := hk
    rcases (show k = 0 ∨ k = 1 ∨ k = 2 ∨ k = 3 ∨ k = 4 ∨ k = 5 ∨ k = 6 ∨ k = 7 ∨ k = 8 ∨ k = 9 ∨ k = 10 ∨ k = 11 by omega) with rfl | rfl | rfl | rfl | rfl | rfl | rfl | rfl | rfl | rfl | rfl | rfl
    · exact absurd (Int32.toInt_inj.mp (he.symm.trans (by decide : (_ : Int) = Int32.toInt 0))) n1
    · exact absurd (Int32.toInt_inj.mp (he.symm.trans (by decide : (_ : Int) = Int32.toInt 1))) n2
    · exact absurd (Int32.toInt_inj.mp (he.symm.trans (by decide : (_ : Int) = Int32.toInt 2))) n3
    · exact absurd (Int32.toInt_inj.mp (he.symm.trans (by decide : (_ : Int) = Int32.toInt 3))) n4
    · exact absurd (Int32.toInt_inj.mp (he.symm.trans (by decide : (_ : Int) = Int32.toInt 4))) n5
    · exact absurd (Int32.toInt_inj.mp (he.symm.trans (by decide : (_ : Int) = Int32.toInt 5))) n6
    · exact absurd (Int32.toInt_inj.mp (he.symm.trans (by decide : (_ : Int) = Int32.toInt 6))) n7
    · exact absurd (Int32.toInt_inj.mp (he.symm.trans (by decide : (_ : Int) = Int32.toInt 7))) n8
    · exact absurd (Int32.toInt_inj.mp (he.symm.trans (by decide : (_ : Int) = Int32.toInt 8))) n9
    · exact absurd (Int32.toInt_inj.mp (he.symm.trans (by decide : (_ : Int) = Int32.toInt 9))) n10
    · exact absurd (Int32.toInt_inj.mp (he.symm.trans (by decide : (_ : Int) = Int32.toInt 10))) n11
    · exact absurd (Int32.toInt_inj.mp (he.symm.trans (by decide : (_ : Int) = Int32.toInt 11))) n12
  refine Ex.seg 3 (pc' := 244) (lc' := [some (.int y0), some (.int y1), some (.long y2), none, some (.long y4), none, some (.int z0)]) (st' := [.int (lg_cmp y2 y4)]) (h' := h) (sg1 rfl rfl (sg1 rfl rfl (sg1 rfl rfl rfl))) ?_
  refine Ex.ifc rfl rfl (fun (c0 : ¬ ((lg_cmp y2 y4) = 0)) => ?_) (fun (c0 : ¬ ¬ ((lg_cmp y2 y4) = 0)) => ?_)
  · rw [if_neg c0] at hf
    refine Ex.seg 1 (pc' := 252) (lc' := [some (.int y0), some (.int y1), some (.long y2), none, some (.long y4), none, some (.int z0)]) (st' := [.long 0]) (h' := h) (sg1 rfl rfl rfl) ?_
    exact Ex.weak (sm_le_n (sm_le_n (sm_le_n (sm_le_s (sm_le_n (sm_le_s (sm_le_n sm_le_nil))))))) (B_354_252 hd  hf hs)
  · rw [if_pos (Classical.not_not.mp c0)] at hf
    refine Ex.seg 2 (pc' := 252) (lc' := [some (.int y0), some (.int y1), some (.long y2), none, some (.long y4), none, some (.int z0)]) (st' := [.long 1]) (h' := h) (sg1 rfl rfl (sg1 rfl rfl rfl)) ?_
    exact Ex.weak (sm_le_n (sm_le_n (sm_le_n (sm_le_s (sm_le_n (sm_le_s (sm_le_n sm_le_nil))))))) (B_354_252 hd  hf hs)
theorem B_354_0 {L : Nat} {xs : Nat → Int32} {d : Nat} (hd : 0 ≤ d) {res : Option Value × sm_H} {x0 : Int32} {x1 : Int32} {x2 : Int64} {x4 : Int64}  {h : sm_H} {r : (Int64 × sm_H)} (hf : F_354_0 x0 x1 x2 x4 h = some r) (hs : (fun (r : Int64 × sm_H) => res = (some (.long r.1), r.2)) r) : Ex (P_G L xs) (RUN L xs d) (sm_lk P_t354) 0 0 [some (.int x0), some (.int x1), some (.long x2), none, some (.long x4), none, none] [] h res := by
  unfold F_354_0 at hf
  refine Ex.seg 1 (pc' := 1) (lc' := [some (.int x0), some (.int x1), some (.long x2), none, some (.long x4), none, none]) (st' := [.int x1]) (h' := h) (sg1 rfl rfl rfl) ?_
  refine Ex.ifc rfl rfl (fun (c0 : x1 = 0) => ?_) (fun (c0 : ¬ (x1 = 0)) => ?_)
  · rw [if_pos c0] at hf
    refine Ex.seg 1 (pc' := 11) (lc' := [some (.int x0), some (.int x1), some (.long x2), none, some (.long x4), none, none]) (st' := [.int 31]) (h' := h) (sg1 rfl rfl rfl) ?_
    exact Ex.weak (sm_le_s (sm_le_s (sm_le_s (sm_le_s (sm_le_s (sm_le_s (sm_le_s sm_le_nil))))))) (B_354_11 hd  hf hs)
  · rw [if_neg c0] at hf
    refine Ex.seg 2 (pc' := 11) (lc' := [some (.int x0), some (.int x1), some (.long x2), none, some (.long x4), none, none]) (st' := [.int 63]) (h' := h) (sg1 rfl rfl (sg1 rfl rfl rfl)) ?_
    exact Ex.weak (sm_le_s (sm_le_s (sm_le_s (sm_le_s (sm_le_s (sm_le_s (sm_le_s sm_le_nil))))))) (B_354_11 hd  hf hs)
theorem E_354 {L : Nat} {xs : Nat → Int32} {d : Nat} (hd : 1 ≤ d) {x0 : Int32} {x1 : Int32} {x2 : Int64} {x4 : Int64} {h : sm_H} {r : Int64 × sm_H} (hf : F_354 x0 x1 x2 x4 h = some r) : RUN L xs d 354 [.int x0, .int x1, .long x2, .long x4] h (some (.long r.1), r.2) := by
  obtain ⟨d, rfl⟩ : ∃ e, d = e + 1 := ⟨d - 1, by omega⟩
  exact ⟨Nat.le_of_ble_eq_true rfl, B_354_0 (by omega) hf rfl⟩
