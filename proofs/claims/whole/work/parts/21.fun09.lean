theorem B_423_0 {L : Nat} {xs : Nat → Int32} {d : Nat} (hd : 3 ≤ d) {res : Option Value × sm_H} {x1 : Int32}  {h : sm_H} {r : (Int32 × sm_H)} (hf : F_423_0 x1 h = some r) (hs : (fun (r : Int32 × sm_H) => res = (some (.int r.1), r.2)) r) : Ex (P_G L xs) (RUN L xs d) (sm_lk P_t423) 3 0 [some (.ref 67), some (.int x1)] [] h res := by
  unfold F_423_0 at hf
  refine Ex.seg 1 (pc' := 1) (lc' := [some (.ref 67), some (.int x1)]) (st' := [.ref 67]) (h' := h) (sg1 rfl rfl rfl) ?_
  obtain ⟨q1, e_q1, hf⟩ := bnd hf
  refine Ex.callV (a := 67) (As := []) (r := []) (v := some (.int q1.1)) (h' := q1.2) rfl rfl (by decide) rfl (Nat.le_of_ble_eq_true rfl) rfl (E_418 (Nat.le_trans (by decide) hd) e_q1) rfl ?_
  refine Ex.ifc rfl rfl (fun (c0 : ¬ (q1.1 = 0)) => ?_) (fun (c0 : ¬ ¬ (q1.1 = 0)) => ?_)
  · rw [if_neg c0] at hf
    refine Ex.seg 3 (pc' := 14) (lc' := [some (.ref 67), some (.int x1)]) (st' := [.int x1, .int (q1.2.1 67 80)]) (h' := q1.2) (sg1 rfl rfl (sg1 rfl rfl (sg1 rfl rfl rfl))) ?_
    refine Ex.icmp rfl rfl (fun (c0 : (q1.2.1 67 80) = x1) => ?_) (fun (c0 : ¬ ((q1.2.1 67 80) = x1)) => ?_)
    · rw [if_pos c0] at hf
      refine Ex.seg 1 (pc' := 23) (lc' := [some (.ref 67), some (.int x1)]) (st' := [.ref 67]) (h' := q1.2) (sg1 rfl rfl rfl) ?_
      obtain ⟨q2, e_q2, hf⟩ := bnd hf
      refine Ex.callV (a := 67) (As := []) (r := []) (v := none) (h' := q2) rfl rfl (by decide) rfl (Nat.le_of_ble_eq_true rfl) rfl (E_420 (Nat.le_trans (by decide) hd) e_q2) rfl ?_
      refine Ex.seg 1 (pc' := 27) (lc' := [some (.ref 67), some (.int x1)]) (st' := [.int 1]) (h' := q2) (sg1 rfl rfl rfl) ?_
      obtain rfl := Option.some.inj hf
      exact Ex.iret rfl rfl (fun _ => by decide) hs
    · rw [if_neg c0] at hf
      refine Ex.seg 1 (pc' := 18) (lc' := [some (.ref 67), some (.int x1)]) (st' := [.ref 67]) (h' := q1.2) (sg1 rfl rfl rfl) ?_
      obtain ⟨q3, e_q3, hf⟩ := bnd hf
      refine Ex.callV (a := 67) (As := []) (r := []) (v := some (.int q3.1)) (h' := q3.2) rfl rfl (by decide) rfl (Nat.le_of_ble_eq_true rfl) rfl (E_421 (Nat.le_trans (by decide) hd) e_q3) rfl ?_
      rcases Classical.em (q3.1 = 0 ∨ q3.1 = 1) with c0 | c0
      · rw [if_pos c0] at hf
        obtain rfl := Option.some.inj hf
        exact Ex.iret rfl rfl (fun _ => c0) hs
      · rw [if_neg c0] at hf
        cases hf
  · rw [if_pos (Classical.not_not.mp c0)] at hf
    refine Ex.seg 1 (pc' := 8) (lc' := [some (.ref 67), some (.int x1)]) (st' := [.int 0]) (h' := q1.2) (sg1 rfl rfl rfl) ?_
    obtain rfl := Option.some.inj hf
    exact Ex.iret rfl rfl (fun _ => by decide) hs
theorem E_423 {L : Nat} {xs : Nat → Int32} {d : Nat} (hd : 4 ≤ d) {x1 : Int32} {h : sm_H} {r : Int32 × sm_H} (hf : F_423 x1 h = some r) : RUN L xs d 423 [.ref 67, .int x1] h (some (.int r.1), r.2) := by
  obtain ⟨d, rfl⟩ : ∃ e, d = e + 1 := ⟨d - 1, by omega⟩
  exact ⟨Nat.le_of_ble_eq_true rfl, B_423_0 (by omega) hf rfl⟩
theorem B_424_64 {L : Nat} {xs : Nat → Int32} {d : Nat} (hd : 3 ≤ d) {res : Option Value × sm_H}   {h : sm_H} {r : (Int32 × sm_H)} (hf : F_424_64  h = some r) (hs : (fun (r : Int32 × sm_H) => res = (some (.int r.1), r.2)) r) : Ex (P_G L xs) (RUN L xs d) (sm_lk P_t424) 3 64 [some (.ref 67), none] [] h res := by
  unfold F_424_64 at hf
  refine Ex.seg 1 (pc' := 65) (lc' := [some (.ref 67), none]) (st' := [.ref 67]) (h' := h) (sg1 rfl rfl rfl) ?_
  obtain ⟨q1, e_q1, hf⟩ := bnd hf
  refine Ex.callV (a := 67) (As := []) (r := []) (v := none) (h' := q1) rfl rfl (by decide) rfl (Nat.le_of_ble_eq_true rfl) rfl (E_420 (Nat.le_trans (by decide) hd) e_q1) rfl ?_
  refine Ex.seg 1 (pc' := 69) (lc' := [some (.ref 67), none]) (st' := [.int 1]) (h' := q1) (sg1 rfl rfl rfl) ?_
  obtain rfl := Option.some.inj hf
  exact Ex.iret rfl rfl (fun _ => by decide) hs
theorem B_424_53 {L : Nat} {xs : Nat → Int32} {d : Nat} (hd : 3 ≤ d) {res : Option Value × sm_H}   {h : sm_H} {r : (Int32 × sm_H)} (hf : F_424_53  h = some r) (hs : (fun (r : Int32 × sm_H) => res = (some (.int r.1), r.2)) r) : Ex (P_G L xs) (RUN L xs d) (sm_lk P_t424) 3 53 [some (.ref 67), none] [] h res := by
  unfold F_424_53 at hf
  refine Ex.seg 4 (pc' := 60) (lc' := [some (.ref 67), none]) (st' := [.int (h.1 67 81), .int 6, .ref 67]) (h' := h) (sg1 rfl rfl (sg1 rfl rfl (sg1 rfl rfl (sg1 rfl rfl rfl)))) ?_
  obtain ⟨q2, e_q2, hf⟩ := bnd hf
  refine Ex.callV (a := 67) (As := [.int 6, .int (h.1 67 81)]) (r := []) (v := some (.int q2.1)) (h' := q2.2) rfl rfl (by decide) rfl (Nat.le_of_ble_eq_true rfl) rfl (E_413 (Nat.le_trans (by decide) hd) e_q2) rfl ?_
  rcases Classical.em (q2.1 = 0 ∨ q2.1 = 1) with c0 | c0
  · rw [if_pos c0] at hf
    obtain rfl := Option.some.inj hf
    exact Ex.iret rfl rfl (fun _ => c0) hs
  · rw [if_neg c0] at hf
    cases hf
theorem B_424_0 {L : Nat} {xs : Nat → Int32} {d : Nat} (hd : 3 ≤ d) {res : Option Value × sm_H} {x1 : Int32}  {h : sm_H} {r : (Int32 × sm_H)} (hf : F_424_0 x1 h = some r) (hs : (fun (r : Int32 × sm_H) => res = (some (.int r.1), r.2)) r) : Ex (P_G L xs) (RUN L xs d) (sm_lk P_t424) 3 0 [some (.ref 67), some (.int x1)] [] h res := by
  unfold F_424_0 at hf
  refine Ex.seg 1 (pc' := 1) (lc' := [some (.ref 67), some (.int x1)]) (st' := [.ref 67]) (h' := h) (sg1 rfl rfl rfl) ?_
  obtain ⟨q3, e_q3, hf⟩ := bnd hf
  refine Ex.callV (a := 67) (As := []) (r := []) (v := some (.int q3.1)) (h' := q3.2) rfl rfl (by decide) rfl (Nat.le_of_ble_eq_true rfl) rfl (E_418 (Nat.le_trans (by decide) hd) e_q3) rfl ?_
  refine Ex.ifc rfl rfl (fun (c0 : ¬ (q3.1 = 0)) => ?_) (fun (c0 : ¬ ¬ (q3.1 = 0)) => ?_)
  · rw [if_neg c0] at hf
    refine Ex.seg 3 (pc' := 14) (lc' := [some (.ref 67), some (.int x1)]) (st' := [.int 1, .int (q3.2.1 67 80)]) (h' := q3.2) (sg1 rfl rfl (sg1 rfl rfl (sg1 rfl rfl rfl))) ?_
    refine Ex.icmp rfl rfl (fun (c0 : (q3.2.1 67 80) = 1) => ?_) (fun (c0 : ¬ ((q3.2.1 67 80) = 1)) => ?_)
    · rw [if_pos c0] at hf
      refine Ex.seg 4 (pc' := 28) (lc' := [some (.ref 67), some (.int x1)]) (st' := [.long (q3.2.2.1 67 83), .ref 67, .ref 67]) (h' := q3.2) (sg1 rfl rfl (sg1 rfl rfl (sg1 rfl rfl (sg1 rfl rfl rfl)))) ?_
      obtain ⟨q4, e_q4, hf⟩ := bnd hf
      refine Ex.callV (a := 67) (As := [.long (q3.2.2.1 67 83)]) (r := [.ref 67]) (v := some (.int q4.1)) (h' := q4.2) rfl rfl (by decide) rfl (Nat.le_of_ble_eq_true rfl) rfl (E_422 (Nat.le_trans (by decide) hd) e_q4) rfl ?_
      refine Ex.seg 1 (pc' := 34) (lc' := [some (.ref 67), some (.int x1)]) (st' := []) (h' := (sm_wI q4.2 67 105 q4.1)) (sg1 rfl rfl rfl) ?_
      obtain ⟨h5, e_h5, hf⟩ := bnd hf
      rw [Option.some.inj e_h5]
      refine Ex.seg 3 (pc' := 39) (lc' := [some (.ref 67), some (.int x1)]) (st' := [.int (-1), .int (h5.1 67 105)]) (h' := h5) (sg1 rfl rfl (sg1 rfl rfl (sg1 rfl rfl rfl))) ?_
      refine Ex.icmp rfl rfl (fun (c0 : (h5.1 67 105) = (-1)) => ?_) (fun (c0 : ¬ ((h5.1 67 105) = (-1))) => ?_)
      · rw [if_pos c0] at hf
        exact Ex.weak (sm_le_s (sm_le_n sm_le_nil)) (B_424_53 hd  hf hs)
      · rw [if_neg c0] at hf
        refine Ex.seg 2 (pc' := 46) (lc' := [some (.ref 67), some (.int x1)]) (st' := [.int (h5.1 67 105)]) (h' := h5) (sg1 rfl rfl (sg1 rfl rfl rfl)) ?_
        refine Ex.ifc rfl rfl (fun (c0 : ¬ ((h5.1 67 105) = 0)) => ?_) (fun (c0 : ¬ ¬ ((h5.1 67 105) = 0)) => ?_)
        · rw [if_neg c0] at hf
          exact Ex.weak (sm_le_s (sm_le_n sm_le_nil)) (B_424_64 hd  hf hs)
        · rw [if_pos (Classical.not_not.mp c0)] at hf
          refine Ex.seg 1 (pc' := 50) (lc' := [some (.ref 67), some (.int x1)]) (st' := [.int x1]) (h' := h5) (sg1 rfl rfl rfl) ?_
          refine Ex.ifc rfl rfl (fun (c0 : ¬ (x1 = 0)) => ?_) (fun (c0 : ¬ ¬ (x1 = 0)) => ?_)
          · rw [if_neg c0] at hf
            exact Ex.weak (sm_le_s (sm_le_n sm_le_nil)) (B_424_64 hd  hf hs)
          · rw [if_pos (Classical.not_not.mp c0)] at hf
            exact Ex.weak (sm_le_s (sm_le_n sm_le_nil)) (B_424_53 hd  hf hs)
    · rw [if_neg c0] at hf
      refine Ex.seg 1 (pc' := 18) (lc' := [some (.ref 67), some (.int x1)]) (st' := [.ref 67]) (h' := q3.2) (sg1 rfl rfl rfl) ?_
      obtain ⟨q6, e_q6, hf⟩ := bnd hf
      refine Ex.callV (a := 67) (As := []) (r := []) (v := some (.int q6.1)) (h' := q6.2) rfl rfl (by decide) rfl (Nat.le_of_ble_eq_true rfl) rfl (E_421 (Nat.le_trans (by decide) hd) e_q6) rfl ?_
      rcases Classical.em (q6.1 = 0 ∨ q6.1 = 1) with c0 | c0
      · rw [if_pos c0] at hf
        obtain rfl := Option.some.inj hf
        exact Ex.iret rfl rfl (fun _ => c0) hs
      · rw [if_neg c0] at hf
        cases hf
  · rw [if_pos (Classical.not_not.mp c0)] at hf
    refine Ex.seg 1 (pc' := 8) (lc' := [some (.ref 67), some (.int x1)]) (st' := [.int 0]) (h' := q3.2) (sg1 rfl rfl rfl) ?_
    obtain rfl := Option.some.inj hf
    exact Ex.iret rfl rfl (fun _ => by decide) hs
theorem E_424 {L : Nat} {xs : Nat → Int32} {d : Nat} (hd : 4 ≤ d) {x1 : Int32} {h : sm_H} {r : Int32 × sm_H} (hf : F_424 x1 h = some r) : RUN L xs d 424 [.ref 67, .int x1] h (some (.int r.1), r.2) := by
  obtain ⟨d, rfl⟩ : ∃ e, d = e + 1 := ⟨d - 1, by omega⟩
  exact ⟨Nat.le_of_ble_eq_true rfl, B_424_0 (by omega) hf rfl⟩
theorem B_426_0 {L : Nat} {xs : Nat → Int32} {d : Nat} (hd : 3 ≤ d) {res : Option Value × sm_H}   {h : sm_H} {r : (Int32 × sm_H)} (hf : F_426_0  h = some r) (hs : (fun (r : Int32 × sm_H) => res = (some (.int r.1), r.2)) r) : Ex (P_G L xs) (RUN L xs d) (sm_lk P_t426) 3 0 [some (.ref 67)] [] h res := by
  unfold F_426_0 at hf
  refine Ex.seg 1 (pc' := 1) (lc' := [some (.ref 67)]) (st' := [.ref 67]) (h' := h) (sg1 rfl rfl rfl) ?_
  obtain ⟨q1, e_q1, hf⟩ := bnd hf
  refine Ex.callV (a := 67) (As := []) (r := []) (v := some (.int q1.1)) (h' := q1.2) rfl rfl (by decide) rfl (Nat.le_of_ble_eq_true rfl) rfl (E_418 (Nat.le_trans (by decide) hd) e_q1) rfl ?_
  refine Ex.ifc rfl rfl (fun (c0 : ¬ (q1.1 = 0)) => ?_) (fun (c0 : ¬ ¬ (q1.1 = 0)) => ?_)
  · rw [if_neg c0] at hf
    refine Ex.seg 3 (pc' := 14) (lc' := [some (.ref 67)]) (st' := [.int 3, .int (q1.2.1 67 80)]) (h' := q1.2) (sg1 rfl rfl (sg1 rfl rfl (sg1 rfl rfl rfl))) ?_
    refine Ex.icmp rfl rfl (fun (c0 : (q1.2.1 67 80) = 3) => ?_) (fun (c0 : ¬ ((q1.2.1 67 80) = 3)) => ?_)
    · rw [if_pos c0] at hf
      refine Ex.seg 1 (pc' := 23) (lc' := [some (.ref 67)]) (st' := [.ref 67]) (h' := q1.2) (sg1 rfl rfl rfl) ?_
      obtain ⟨q2, e_q2, hf⟩ := bnd hf
      refine Ex.callV (a := 67) (As := []) (r := []) (v := some (.int q2.1)) (h' := q2.2) rfl rfl (by decide) rfl (Nat.le_of_ble_eq_true rfl) rfl (E_425 (Nat.le_trans (by decide) hd) e_q2) rfl ?_
      rcases Classical.em (q2.1 = 0 ∨ q2.1 = 1) with c0 | c0
      · rw [if_pos c0] at hf
        obtain rfl := Option.some.inj hf
        exact Ex.iret rfl rfl (fun _ => c0) hs
      · rw [if_neg c0] at hf
        cases hf
    · rw [if_neg c0] at hf
      refine Ex.seg 1 (pc' := 18) (lc' := [some (.ref 67)]) (st' := [.ref 67]) (h' := q1.2) (sg1 rfl rfl rfl) ?_
      obtain ⟨q3, e_q3, hf⟩ := bnd hf
      refine Ex.callV (a := 67) (As := []) (r := []) (v := some (.int q3.1)) (h' := q3.2) rfl rfl (by decide) rfl (Nat.le_of_ble_eq_true rfl) rfl (E_421 (Nat.le_trans (by decide) hd) e_q3) rfl ?_
      rcases Classical.em (q3.1 = 0 ∨ q3.1 = 1) with c0 | c0
      · rw [if_pos c0] at hf
        obtain rfl := Option.some.inj hf
        exact Ex.iret rfl rfl (fun _ => c0) hs
      · rw [if_neg c0] at hf
        cases hf
  · rw [if_pos (Classical.not_not.mp c0)] at hf
    refine Ex.seg 1 (pc' := 8) (lc' := [some (.ref 67)]) (st' := [.int 0]) (h' := q1.2) (sg1 rfl rfl rfl) ?_
    obtain rfl := Option.some.inj hf
    exact Ex.iret rfl rfl (fun _ => by decide) hs
theorem E_426 {L : Nat} {xs : Nat → Int32} {d : Nat} (hd : 4 ≤ d)  {h : sm_H} {r : Int32 × sm_H} (hf : F_426  h = some r) : RUN L xs d 426 [.ref 67] h (some (.int r.1), r.2) := by
  obtain ⟨d, rfl⟩ : ∃ e, d = e + 1 := ⟨d - 1, by omega⟩
  exact ⟨Nat.le_of_ble_eq_true rfl, B_426_0 (by omega) hf rfl⟩
theorem B_427_0 {L : Nat} {xs : Nat → Int32} {d : Nat} (hd : 4 ≤ d) {res : Option Value × sm_H}   {h : sm_H} {r : (Int32 × sm_H)} (hf : F_427_0  h = some r) (hs : (fun (r : Int32 × sm_H) => res = (some (.int r.1), r.2)) r) : Ex (P_G L xs) (RUN L xs d) (sm_lk P_t427) 3 0 [some (.ref 67)] [] h res := by
  unfold F_427_0 at hf
  refine Ex.seg 2 (pc' := 2) (lc' := [some (.ref 67)]) (st' := [.int 4, .ref 67]) (h' := h) (sg1 rfl rfl (sg1 rfl rfl rfl)) ?_
  obtain ⟨q1, e_q1, hf⟩ := bnd hf
  refine Ex.callV (a := 67) (As := [.int 4]) (r := []) (v := some (.int q1.1)) (h' := q1.2) rfl rfl (by decide) rfl (Nat.le_of_ble_eq_true rfl) rfl (E_423 (Nat.le_trans (by decide) hd) e_q1) rfl ?_
  refine Ex.ifc rfl rfl (fun (c0 : ¬ (q1.1 = 0)) => ?_) (fun (c0 : ¬ ¬ (q1.1 = 0)) => ?_)
  · rw [if_neg c0] at hf
    refine Ex.seg 6 (pc' := 20) (lc' := [some (.ref 67)]) (st' := []) (h' := (sm_wI q1.2 67 86 ((q1.2.1 67 86) - 1))) (sg1 rfl rfl (sg1 rfl rfl (sg1 rfl rfl (sg1 rfl rfl (sg1 rfl rfl (sg1 rfl rfl rfl)))))) ?_
    obtain ⟨h2, e_h2, hf⟩ := bnd hf
    rw [Option.some.inj e_h2]
    refine Ex.seg 1 (pc' := 21) (lc' := [some (.ref 67)]) (st' := [.int 1]) (h' := h2) (sg1 rfl rfl rfl) ?_
    obtain rfl := Option.some.inj hf
    exact Ex.iret rfl rfl (fun _ => by decide) hs
  · rw [if_pos (Classical.not_not.mp c0)] at hf
    refine Ex.seg 1 (pc' := 9) (lc' := [some (.ref 67)]) (st' := [.int 0]) (h' := q1.2) (sg1 rfl rfl rfl) ?_
    obtain rfl := Option.some.inj hf
    exact Ex.iret rfl rfl (fun _ => by decide) hs
theorem E_427 {L : Nat} {xs : Nat → Int32} {d : Nat} (hd : 5 ≤ d)  {h : sm_H} {r : Int32 × sm_H} (hf : F_427  h = some r) : RUN L xs d 427 [.ref 67] h (some (.int r.1), r.2) := by
  obtain ⟨d, rfl⟩ : ∃ e, d = e + 1 := ⟨d - 1, by omega⟩
  exact ⟨Nat.le_of_ble_eq_true rfl, B_427_0 (by omega) hf rfl⟩
theorem B_440_318 {L : Nat} {xs : Nat → Int32} {d : Nat} (hd : 1 ≤ d) {res : Option Value × sm_H} {z0 : Int32}  {h : sm_H} {r : (Int32 × sm_H)} (hf : F_440_318 z0 h = some r) (hs : (fun (r : Int32 × sm_H) => res = (some (.int r.1), r.2)) r) : Ex (P_G L xs) (RUN L xs d) (sm_lk P_t440) 0 318 [none, none] [.int z0] h res := by
  unfold F_440_318 at hf
  obtain rfl := Option.some.inj hf
  exact Ex.iret rfl rfl (fun c0 => by cases c0) hs
theorem B_440_0 {L : Nat} {xs : Nat → Int32} {d : Nat} (hd : 1 ≤ d) {res : Option Value × sm_H} {x0 : Int64}  {h : sm_H} {r : (Int32 × sm_H)} (hf : F_440_0 x0 h = some r) (hs : (fun (r : Int32 × sm_H) => res = (some (.int r.1), r.2)) r) : Ex (P_G L xs) (RUN L xs d) (sm_lk P_t440) 0 0 [some (.long x0), none] [] h res := by
  unfold F_440_0 at hf
  refine Ex.seg 1 (pc' := 1) (lc' := [some (.long x0), none]) (st' := [.long x0]) (h' := h) (sg1 rfl rfl rfl) ?_
  obtain ⟨q1, e_q1, hf⟩ := bnd hf
  refine Ex.callS (As := [.long x0]) (r := []) (v := some (.int q1.1)) (h' := q1.2) rfl rfl rfl rfl (Nat.le_of_ble_eq_true rfl) (E_441 (Nat.le_trans (by decide) hd) e_q1) rfl ?_
  refine Ex.seg 1 (pc' := 5) (lc' := [some (.long x0), none]) (st' := [.int (-1), .int q1.1]) (h' := q1.2) (sg1 rfl rfl rfl) ?_
  refine Ex.icmp rfl rfl (fun (c0 : q1.1 = (-1)) => ?_) (fun (c0 : ¬ (q1.1 = (-1))) => ?_)
  · rw [if_pos c0] at hf
    refine Ex.seg 6 (pc' := 18) (lc' := [some (.long x0), none]) (st' := [.int 0, .int 0, .int 0, .int 102, .int 105, .long x0]) (h' := q1.2) (sg1 rfl rfl (sg1 rfl rfl (sg1 rfl rfl (sg1 rfl rfl (sg1 rfl rfl (sg1 rfl rfl rfl)))))) ?_
    obtain ⟨q2, e_q2, hf⟩ := bnd hf
    refine Ex.callS (As := [.int 105, .int 102, .int 0, .int 0, .int 0]) (r := [.long x0]) (v := some (.long q2.1)) (h' := q2.2) rfl rfl rfl rfl (Nat.le_of_ble_eq_true rfl) (E_439 (Nat.le_trans (by decide) hd) e_q2) rfl ?_
    refine Ex.seg 1 (pc' := 22) (lc' := [some (.long x0), none]) (st' := [.int (lg_cmp x0 q2.1)]) (h' := q2.2) (sg1 rfl rfl rfl) ?_
    refine Ex.ifc rfl rfl (fun (c0 : ¬ ((lg_cmp x0 q2.1) = 0)) => ?_) (fun (c0 : ¬ ¬ ((lg_cmp x0 q2.1) = 0)) => ?_)
    · rw [if_neg c0] at hf
      refine Ex.seg 6 (pc' := 36) (lc' := [some (.long x0), none]) (st' := [.int 0, .int 0, .int 116, .int 101, .int 108, .long x0]) (h' := q2.2) (sg1 rfl rfl (sg1 rfl rfl (sg1 rfl rfl (sg1 rfl rfl (sg1 rfl rfl (sg1 rfl rfl rfl)))))) ?_
      obtain ⟨q3, e_q3, hf⟩ := bnd hf
      refine Ex.callS (As := [.int 108, .int 101, .int 116, .int 0, .int 0]) (r := [.long x0]) (v := some (.long q3.1)) (h' := q3.2) rfl rfl rfl rfl (Nat.le_of_ble_eq_true rfl) (E_439 (Nat.le_trans (by decide) hd) e_q3) rfl ?_
      refine Ex.seg 1 (pc' := 40) (lc' := [some (.long x0), none]) (st' := [.int (lg_cmp x0 q3.1)]) (h' := q3.2) (sg1 rfl rfl rfl) ?_
      refine Ex.ifc rfl rfl (fun (c0 : ¬ ((lg_cmp x0 q3.1) = 0)) => ?_) (fun (c0 : ¬ ¬ ((lg_cmp x0 q3.1) = 0)) => ?_)
      · rw [if_neg c0] at hf
        refine Ex.seg 6 (pc' := 53) (lc' := [some (.long x0), none]) (st' := [.int 0, .int 0, .int 0, .int 111, .int 100, .long x0]) (h' := q3.2) (sg1 rfl rfl (sg1 rfl rfl (sg1 rfl rfl (sg1 rfl rfl (sg1 rfl rfl (sg1 rfl rfl rfl)))))) ?_
        obtain ⟨q4, e_q4, hf⟩ := bnd hf
        refine Ex.callS (As := [.int 100, .int 111, .int 0, .int 0, .int 0]) (r := [.long x0]) (v := some (.long q4.1)) (h' := q4.2) rfl rfl rfl rfl (Nat.le_of_ble_eq_true rfl) (E_439 (Nat.le_trans (by decide) hd) e_q4) rfl ?_
        refine Ex.seg 1 (pc' := 57) (lc' := [some (.long x0), none]) (st' := [.int (lg_cmp x0 q4.1)]) (h' := q4.2) (sg1 rfl rfl rfl) ?_
        refine Ex.ifc rfl rfl (fun (c0 : ¬ ((lg_cmp x0 q4.1) = 0)) => ?_) (fun (c0 : ¬ ¬ ((lg_cmp x0 q4.1) = 0)) => ?_)
        · rw [if_neg c0] at hf
          refine Ex.seg 6 (pc' := 72) (lc' := [some (.long x0), none]) (st' := [.int 0, .int 112, .int 111, .int 111, .int 108, .long x0]) (h' := q4.2) (sg1 rfl rfl (sg1 rfl rfl (sg1 rfl rfl (sg1 rfl rfl (sg1 rfl rfl (sg1 rfl rfl rfl)))))) ?_
          obtain ⟨q5, e_q5, hf⟩ := bnd hf
          refine Ex.callS (As := [.int 108, .int 111, .int 111, .int 112, .int 0]) (r := [.long x0]) (v := some (.long q5.1)) (h' := q5.2) rfl rfl rfl rfl (Nat.le_of_ble_eq_true rfl) (E_439 (Nat.le_trans (by decide) hd) e_q5) rfl ?_
          refine Ex.seg 1 (pc' := 76) (lc' := [some (.long x0), none]) (st' := [.int (lg_cmp x0 q5.1)]) (h' := q5.2) (sg1 rfl rfl rfl) ?_
          refine Ex.ifc rfl rfl (fun (c0 : ¬ ((lg_cmp x0 q5.1) = 0)) => ?_) (fun (c0 : ¬ ¬ ((lg_cmp x0 q5.1) = 0)) => ?_)
          · rw [if_neg c0] at hf
            refine Ex.seg 6 (pc' := 90) (lc' := [some (.long x0), none]) (st' := [.int 0, .int 0, .int 121, .int 114, .int 116, .long x0]) (h' := q5.2) (sg1 rfl rfl (sg1 rfl rfl (sg1 rfl rfl (sg1 rfl rfl (sg1 rfl rfl (sg1 rfl rfl rfl)))))) ?_
            obtain ⟨q6, e_q6, hf⟩ := bnd hf
            refine Ex.callS (As := [.int 116, .int 114, .int 121, .int 0, .int 0]) (r := [.long x0]) (v := some (.long q6.1)) (h' := q6.2) rfl rfl rfl rfl (Nat.le_of_ble_eq_true rfl) (E_439 (Nat.le_trans (by decide) hd) e_q6) rfl ?_
            refine Ex.seg 1 (pc' := 94) (lc' := [some (.long x0), none]) (st' := [.int (lg_cmp x0 q6.1)]) (h' := q6.2) (sg1 rfl rfl rfl) ?_
            refine Ex.ifc rfl rfl (fun (c0 : ¬ ((lg_cmp x0 q6.1) = 0)) => ?_) (fun (c0 : ¬ ¬ ((lg_cmp x0 q6.1) = 0)) => ?_)
            · rw [if_neg c0] at hf
              refine Ex.seg 6 (pc' := 108) (lc' := [some (.long x0), none]) (st' := [.int 0, .int 0, .int 0, .int 115, .int 97, .long x0]) (h' := q6.2) (sg1 rfl rfl (sg1 rfl rfl (sg1 rfl rfl (sg1 rfl rfl (sg1 rfl rfl (sg1 rfl rfl rfl)))))) ?_
              obtain ⟨q7, e_q7, hf⟩ := bnd hf
              refine Ex.callS (As := [.int 97, .int 115, .int 0, .int 0, .int 0]) (r := [.long x0]) (v := some (.long q7.1)) (h' := q7.2) rfl rfl rfl rfl (Nat.le_of_ble_eq_true rfl) (E_439 (Nat.le_trans (by decide) hd) e_q7) rfl ?_
              refine Ex.seg 1 (pc' := 112) (lc' := [some (.long x0), none]) (st' := [.int (lg_cmp x0 q7.1)]) (h' := q7.2) (sg1 rfl rfl rfl) ?_
              refine Ex.ifc rfl rfl (fun (c0 : ¬ ((lg_cmp x0 q7.1) = 0)) => ?_) (fun (c0 : ¬ ¬ ((lg_cmp x0 q7.1) = 0)) => ?_)
              · rw [if_neg c0] at hf
                refine Ex.seg 6 (pc' := 129) (lc' := [some (.long x0), none]) (st' := [.int 101, .int 99, .int 114, .int 111, .int 102, .long x0]) (h' := q7.2) (sg1 rfl rfl (sg1 rfl rfl (sg1 rfl rfl (sg1 rfl rfl (sg1 rfl rfl (sg1 rfl rfl rfl)))))) ?_
                obtain ⟨q8, e_q8, hf⟩ := bnd hf
                refine Ex.callS (As := [.int 102, .int 111, .int 114, .int 99, .int 101]) (r := [.long x0]) (v := some (.long q8.1)) (h' := q8.2) rfl rfl rfl rfl (Nat.le_of_ble_eq_true rfl) (E_439 (Nat.le_trans (by decide) hd) e_q8) rfl ?_
                refine Ex.seg 1 (pc' := 133) (lc' := [some (.long x0), none]) (st' := [.int (lg_cmp x0 q8.1)]) (h' := q8.2) (sg1 rfl rfl rfl) ?_
                refine Ex.ifc rfl rfl (fun (c0 : ¬ ((lg_cmp x0 q8.1) = 0)) => ?_) (fun (c0 : ¬ ¬ ((lg_cmp x0 q8.1) = 0)) => ?_)
                · rw [if_neg c0] at hf
                  refine Ex.seg 6 (pc' := 149) (lc' := [some (.long x0), none]) (st' := [.int 0, .int 108, .int 108, .int 117, .int 110, .long x0]) (h' := q8.2) (sg1 rfl rfl (sg1 rfl rfl (sg1 rfl rfl (sg1 rfl rfl (sg1 rfl rfl (sg1 rfl rfl rfl)))))) ?_
                  obtain ⟨q9, e_q9, hf⟩ := bnd hf
                  refine Ex.callS (As := [.int 110, .int 117, .int 108, .int 108, .int 0]) (r := [.long x0]) (v := some (.long q9.1)) (h' := q9.2) rfl rfl rfl rfl (Nat.le_of_ble_eq_true rfl) (E_439 (Nat.le_trans (by decide) hd) e_q9) rfl ?_
                  refine Ex.seg 1 (pc' := 153) (lc' := [some (.long x0), none]) (st' := [.int (lg_cmp x0 q9.1)]) (h' := q9.2) (sg1 rfl rfl rfl) ?_
                  refine Ex.ifc rfl rfl (fun (c0 : ¬ ((lg_cmp x0 q9.1) = 0)) => ?_) (fun (c0 : ¬ ¬ ((lg_cmp x0 q9.1) = 0)) => ?_)
                  · rw [if_neg c0] at hf
                    refine Ex.seg 6 (pc' := 168) (lc' := [some (.long x0), none]) (st' := [.int 0, .int 0, .int 119, .int 111, .int 114, .long x0]) (h' := q9.2) (sg1 rfl rfl (sg1 rfl rfl (sg1 rfl rfl (sg1 rfl rfl (sg1 rfl rfl (sg1 rfl rfl rfl)))))) ?_
                    obtain ⟨q10, e_q10, hf⟩ := bnd hf
                    refine Ex.callS (As := [.int 114, .int 111, .int 119, .int 0, .int 0]) (r := [.long x0]) (v := some (.long q10.1)) (h' := q10.2) rfl rfl rfl rfl (Nat.le_of_ble_eq_true rfl) (E_439 (Nat.le_trans (by decide) hd) e_q10) rfl ?_
                    refine Ex.seg 1 (pc' := 172) (lc' := [some (.long x0), none]) (st' := [.int (lg_cmp x0 q10.1)]) (h' := q10.2) (sg1 rfl rfl rfl) ?_
                    refine Ex.ifc rfl rfl (fun (c0 : ¬ ((lg_cmp x0 q10.1) = 0)) => ?_) (fun (c0 : ¬ ¬ ((lg_cmp x0 q10.1) = 0)) => ?_)
                    · rw [if_neg c0] at hf
                      refine Ex.seg 6 (pc' := 188) (lc' := [some (.long x0), none]) (st' := [.int 0, .int 101, .int 122, .int 105, .int 115, .long x0]) (h' := q10.2) (sg1 rfl rfl (sg1 rfl rfl (sg1 rfl rfl (sg1 rfl rfl (sg1 rfl rfl (sg1 rfl rfl rfl)))))) ?_
                      obtain ⟨q11, e_q11, hf⟩ := bnd hf
                      refine Ex.callS (As := [.int 115, .int 105, .int 122, .int 101, .int 0]) (r := [.long x0]) (v := some (.long q11.1)) (h' := q11.2) rfl rfl rfl rfl (Nat.le_of_ble_eq_true rfl) (E_439 (Nat.le_trans (by decide) hd) e_q11) rfl ?_
                      refine Ex.seg 1 (pc' := 192) (lc' := [some (.long x0), none]) (st' := [.int (lg_cmp x0 q11.1)]) (h' := q11.2) (sg1 rfl rfl rfl) ?_
                      refine Ex.ifc rfl rfl (fun (c0 : ¬ ((lg_cmp x0 q11.1) = 0)) => ?_) (fun (c0 : ¬ ¬ ((lg_cmp x0 q11.1) = 0)) => ?_)
                      · rw [if_neg c0] at hf
                        refine Ex.seg 6 (pc' := 207) (lc' := [some (.long x0), none]) (st' := [.int 0, .int 0, .int 116, .int 101, .int 103, .long x0]) (h' := q11.2) (sg1 rfl rfl (sg1 rfl rfl (sg1 rfl rfl (sg1 rfl rfl (sg1 rfl rfl (sg1 rfl rfl rfl)))))) ?_
                        obtain ⟨q12, e_q12, hf⟩ := bnd hf
                        refine Ex.callS (As := [.int 103, .int 101, .int 116, .int 0, .int 0]) (r := [.long x0]) (v := some (.long q12.1)) (h' := q12.2) rfl rfl rfl rfl (Nat.le_of_ble_eq_true rfl) (E_439 (Nat.le_trans (by decide) hd) e_q12) rfl ?_
                        refine Ex.seg 1 (pc' := 211) (lc' := [some (.long x0), none]) (st' := [.int (lg_cmp x0 q12.1)]) (h' := q12.2) (sg1 rfl rfl rfl) ?_
                        refine Ex.ifc rfl rfl (fun (c0 : ¬ ((lg_cmp x0 q12.1) = 0)) => ?_) (fun (c0 : ¬ ¬ ((lg_cmp x0 q12.1) = 0)) => ?_)
                        · rw [if_neg c0] at hf
                          refine Ex.seg 6 (pc' := 226) (lc' := [some (.long x0), none]) (st' := [.int 0, .int 0, .int 116, .int 101, .int 115, .long x0]) (h' := q12.2) (sg1 rfl rfl (sg1 rfl rfl (sg1 rfl rfl (sg1 rfl rfl (sg1 rfl rfl (sg1 rfl rfl rfl)))))) ?_
                          obtain ⟨q13, e_q13, hf⟩ := bnd hf
                          refine Ex.callS (As := [.int 115, .int 101, .int 116, .int 0, .int 0]) (r := [.long x0]) (v := some (.long q13.1)) (h' := q13.2) rfl rfl rfl rfl (Nat.le_of_ble_eq_true rfl) (E_439 (Nat.le_trans (by decide) hd) e_q13) rfl ?_
                          refine Ex.seg 1 (pc' := 230) (lc' := [some (.long x0), none]) (st' := [.int (lg_cmp x0 q13.1)]) (h' := q13.2) (sg1 rfl rfl rfl) ?_
                          refine Ex.ifc rfl rfl (fun (c0 : ¬ ((lg_cmp x0 q13.1) = 0)) => ?_) (fun (c0 : ¬ ¬ ((lg_cmp x0 q13.1) = 0)) => ?_)
                          · rw [if_neg c0] at hf
                            refine Ex.seg 6 (pc' := 244) (lc' := [some (.long x0), none]) (st' := [.int 0, .int 0, .int 0, .int 115, .int 105, .long x0]) (h' := q13.2) (sg1 rfl rfl (sg1 rfl rfl (sg1 rfl rfl (sg1 rfl rfl (sg1 rfl rfl (sg1 rfl rfl rfl)))))) ?_
                            obtain ⟨q14, e_q14, hf⟩ := bnd hf
                            refine Ex.callS (As := [.int 105, .int 115, .int 0, .int 0, .int 0]) (r := [.long x0]) (v := some (.long q14.1)) (h' := q14.2) rfl rfl rfl rfl (Nat.le_of_ble_eq_true rfl) (E_439 (Nat.le_trans (by decide) hd) e_q14) rfl ?_
                            refine Ex.seg 1 (pc' := 248) (lc' := [some (.long x0), none]) (st' := [.int (lg_cmp x0 q14.1)]) (h' := q14.2) (sg1 rfl rfl rfl) ?_
                            refine Ex.ifc rfl rfl (fun (c0 : ¬ ((lg_cmp x0 q14.1) = 0)) => ?_) (fun (c0 : ¬ ¬ ((lg_cmp x0 q14.1) = 0)) => ?_)
                            · rw [if_neg c0] at hf
                              refine Ex.seg 6 (pc' := 264) (lc' := [some (.long x0), none]) (st' := [.int 0, .int 101, .int 109, .int 97, .int 115, .long x0]) (h' := q14.2) (sg1 rfl rfl (sg1 rfl rfl (sg1 rfl rfl (sg1 rfl rfl (sg1 rfl rfl (sg1 rfl rfl rfl)))))) ?_
                              obtain ⟨q15, e_q15, hf⟩ := bnd hf
                              refine Ex.callS (As := [.int 115, .int 97, .int 109, .int 101, .int 0]) (r := [.long x0]) (v := some (.long q15.1)) (h' := q15.2) rfl rfl rfl rfl (Nat.le_of_ble_eq_true rfl) (E_439 (Nat.le_trans (by decide) hd) e_q15) rfl ?_
                              refine Ex.seg 1 (pc' := 268) (lc' := [some (.long x0), none]) (st' := [.int (lg_cmp x0 q15.1)]) (h' := q15.2) (sg1 rfl rfl rfl) ?_
                              refine Ex.ifc rfl rfl (fun (c0 : ¬ ((lg_cmp x0 q15.1) = 0)) => ?_) (fun (c0 : ¬ ¬ ((lg_cmp x0 q15.1) = 0)) => ?_)
                              · rw [if_neg c0] at hf
                                refine Ex.seg 6 (pc' := 285) (lc' := [some (.long x0), none]) (st' := [.int 119, .int 111, .int 114, .int 104, .int 116, .long x0]) (h' := q15.2) (sg1 rfl rfl (sg1 rfl rfl (sg1 rfl rfl (sg1 rfl rfl (sg1 rfl rfl (sg1 rfl rfl rfl)))))) ?_
                                obtain ⟨q16, e_q16, hf⟩ := bnd hf
                                refine Ex.callS (As := [.int 116, .int 104, .int 114, .int 111, .int 119]) (r := [.long x0]) (v := some (.long q16.1)) (h' := q16.2) rfl rfl rfl rfl (Nat.le_of_ble_eq_true rfl) (E_439 (Nat.le_trans (by decide) hd) e_q16) rfl ?_
                                refine Ex.seg 1 (pc' := 289) (lc' := [some (.long x0), none]) (st' := [.int (lg_cmp x0 q16.1)]) (h' := q16.2) (sg1 rfl rfl rfl) ?_
                                refine Ex.ifc rfl rfl (fun (c0 : ¬ ((lg_cmp x0 q16.1) = 0)) => ?_) (fun (c0 : ¬ ¬ ((lg_cmp x0 q16.1) = 0)) => ?_)
                                · rw [if_neg c0] at hf
                                  refine Ex.seg 6 (pc' := 305) (lc' := [some (.long x0), none]) (st' := [.int 0, .int 101, .int 100, .int 111, .int 99, .long x0]) (h' := q16.2) (sg1 rfl rfl (sg1 rfl rfl (sg1 rfl rfl (sg1 rfl rfl (sg1 rfl rfl (sg1 rfl rfl rfl)))))) ?_
                                  obtain ⟨q17, e_q17, hf⟩ := bnd hf
                                  refine Ex.callS (As := [.int 99, .int 111, .int 100, .int 101, .int 0]) (r := [.long x0]) (v := some (.long q17.1)) (h' := q17.2) rfl rfl rfl rfl (Nat.le_of_ble_eq_true rfl) (E_439 (Nat.le_trans (by decide) hd) e_q17) rfl ?_
                                  refine Ex.seg 1 (pc' := 309) (lc' := [some (.long x0), none]) (st' := [.int (lg_cmp x0 q17.1)]) (h' := q17.2) (sg1 rfl rfl rfl) ?_
                                  refine Ex.ifc rfl rfl (fun (c0 : ¬ ((lg_cmp x0 q17.1) = 0)) => ?_) (fun (c0 : ¬ ¬ ((lg_cmp x0 q17.1) = 0)) => ?_)
                                  · rw [if_neg c0] at hf
                                    refine Ex.seg 1 (pc' := 318) (lc' := [some (.long x0), none]) (st' := [.int (-1)]) (h' := q17.2) (sg1 rfl rfl rfl) ?_
                                    exact Ex.weak (sm_le_n (sm_le_s sm_le_nil)) (B_440_318 hd  hf hs)
                                  · rw [if_pos (Classical.not_not.mp c0)] at hf
                                    refine Ex.seg 2 (pc' := 318) (lc' := [some (.long x0), none]) (st' := [.int 17]) (h' := q17.2) (sg1 rfl rfl (sg1 rfl rfl rfl)) ?_
                                    exact Ex.weak (sm_le_n (sm_le_s sm_le_nil)) (B_440_318 hd  hf hs)
                                · rw [if_pos (Classical.not_not.mp c0)] at hf
                                  refine Ex.seg 1 (pc' := 294) (lc' := [some (.long x0), none]) (st' := [.int 16]) (h' := q16.2) (sg1 rfl rfl rfl) ?_
                                  obtain rfl := Option.some.inj hf
                                  exact Ex.iret rfl rfl (fun c0 => by cases c0) hs
                              · rw [if_pos (Classical.not_not.mp c0)] at hf
                                refine Ex.seg 1 (pc' := 273) (lc' := [some (.long x0), none]) (st' := [.int 15]) (h' := q15.2) (sg1 rfl rfl rfl) ?_
                                obtain rfl := Option.some.inj hf
                                exact Ex.iret rfl rfl (fun c0 => by cases c0) hs
                            · rw [if_pos (Classical.not_not.mp c0)] at hf
                              refine Ex.seg 1 (pc' := 253) (lc' := [some (.long x0), none]) (st' := [.int 14]) (h' := q14.2) (sg1 rfl rfl rfl) ?_
                              obtain rfl := Option.some.inj hf
                              exact Ex.iret rfl rfl (fun c0 => by cases c0) hs
                          · rw [if_pos (Classical.not_not.mp c0)] at hf
                            refine Ex.seg 1 (pc' := 235) (lc' := [some (.long x0), none]) (st' := [.int 13]) (h' := q13.2) (sg1 rfl rfl rfl) ?_
                            obtain rfl := Option.some.inj hf
                            exact Ex.iret rfl rfl (fun c0 => by cases c0) hs
                        · rw [if_pos (Classical.not_not.mp c0)] at hf
                          refine Ex.seg 1 (pc' := 216) (lc' := [some (.long x0), none]) (st' := [.int 12]) (h' := q12.2) (sg1 rfl rfl rfl) ?_
                          obtain rfl := Option.some.inj hf
                          exact Ex.iret rfl rfl (fun c0 => by cases c0) hs
                      · rw [if_pos (Classical.not_not.mp c0)] at hf
                        refine Ex.seg 1 (pc' := 197) (lc' := [some (.long x0), none]) (st' := [.int 11]) (h' := q11.2) (sg1 rfl rfl rfl) ?_
                        obtain rfl := Option.some.inj hf
                        exact Ex.iret rfl rfl (fun c0 => by cases c0) hs
                    · rw [if_pos (Classical.not_not.mp c0)] at hf
                      refine Ex.seg 1 (pc' := 177) (lc' := [some (.long x0), none]) (st' := [.int 10]) (h' := q10.2) (sg1 rfl rfl rfl) ?_
                      obtain rfl := Option.some.inj hf
                      exact Ex.iret rfl rfl (fun c0 => by cases c0) hs
                  · rw [if_pos (Classical.not_not.mp c0)] at hf
                    refine Ex.seg 1 (pc' := 158) (lc' := [some (.long x0), none]) (st' := [.int 9]) (h' := q9.2) (sg1 rfl rfl rfl) ?_
                    obtain rfl := Option.some.inj hf
                    exact Ex.iret rfl rfl (fun c0 => by cases c0) hs
                · rw [if_pos (Classical.not_not.mp c0)] at hf
                  refine Ex.seg 1 (pc' := 138) (lc' := [some (.long x0), none]) (st' := [.int 8]) (h' := q8.2) (sg1 rfl rfl rfl) ?_
                  obtain rfl := Option.some.inj hf
                  exact Ex.iret rfl rfl (fun c0 => by cases c0) hs
              · rw [if_pos (Classical.not_not.mp c0)] at hf
                refine Ex.seg 1 (pc' := 117) (lc' := [some (.long x0), none]) (st' := [.int 7]) (h' := q7.2) (sg1 rfl rfl rfl) ?_
                obtain rfl := Option.some.inj hf
                exact Ex.iret rfl rfl (fun c0 => by cases c0) hs
            · rw [if_pos (Classical.not_not.mp c0)] at hf
              refine Ex.seg 1 (pc' := 99) (lc' := [some (.long x0), none]) (st' := [.int 6]) (h' := q6.2) (sg1 rfl rfl rfl) ?_
              obtain rfl := Option.some.inj hf
              exact Ex.iret rfl rfl (fun c0 => by cases c0) hs
          · rw [if_pos (Classical.not_not.mp c0)] at hf
            refine Ex.seg 1 (pc' := 80) (lc' := [some (.long x0), none]) (st' := [.int 5]) (h' := q5.2) (sg1 rfl rfl rfl) ?_
            obtain rfl := Option.some.inj hf
            exact Ex.iret rfl rfl (fun c0 => by cases c0) hs
        · rw [if_pos (Classical.not_not.mp c0)] at hf
          refine Ex.seg 1 (pc' := 61) (lc' := [some (.long x0), none]) (st' := [.int 4]) (h' := q4.2) (sg1 rfl rfl rfl) ?_
          obtain rfl := Option.some.inj hf
          exact Ex.iret rfl rfl (fun c0 => by cases c0) hs
      · rw [if_pos (Classical.not_not.mp c0)] at hf
        refine Ex.seg 1 (pc' := 44) (lc' := [some (.long x0), none]) (st' := [.int 3]) (h' := q3.2) (sg1 rfl rfl rfl) ?_
        obtain rfl := Option.some.inj hf
        exact Ex.iret rfl rfl (fun c0 => by cases c0) hs
    · rw [if_pos (Classical.not_not.mp c0)] at hf
      refine Ex.seg 1 (pc' := 26) (lc' := [some (.long x0), none]) (st' := [.int 2]) (h' := q2.2) (sg1 rfl rfl rfl) ?_
      obtain rfl := Option.some.inj hf
      exact Ex.iret rfl rfl (fun c0 => by cases c0) hs
  · rw [if_neg c0] at hf
    refine Ex.seg 1 (pc' := 9) (lc' := [some (.long x0), none]) (st' := [.int 1]) (h' := q1.2) (sg1 rfl rfl rfl) ?_
    obtain rfl := Option.some.inj hf
    exact Ex.iret rfl rfl (fun c0 => by cases c0) hs
theorem E_440 {L : Nat} {xs : Nat → Int32} {d : Nat} (hd : 2 ≤ d) {x0 : Int64} {h : sm_H} {r : Int32 × sm_H} (hf : F_440 x0 h = some r) : RUN L xs d 440 [.long x0] h (some (.int r.1), r.2) := by
  obtain ⟨d, rfl⟩ : ∃ e, d = e + 1 := ⟨d - 1, by omega⟩
  exact ⟨Nat.le_of_ble_eq_true rfl, B_440_0 (by omega) hf rfl⟩
theorem B_446_194 {L : Nat} {xs : Nat → Int32} {d : Nat} (hd : 4 ≤ d) {res : Option Value × sm_H} {y5 : Int32} {z1 : Int32}  {h : sm_H} {r : (Int32 × sm_H)} (hf : F_446_194 y5 z1 h = some r) (hs : (fun (r : Int32 × sm_H) => res = (some (.int r.1), r.2)) r) : Ex (P_G L xs) (RUN L xs d) (sm_lk P_t446) 3 194 [some (.ref 67), none, none, none, none, some (.int y5)] [.int z1, .ref 67] h res := by
  unfold F_446_194 at hf
  obtain ⟨q1, e_q1, hf⟩ := bnd hf
  refine Ex.callV (a := 67) (As := [.int z1]) (r := []) (v := some (.int q1.1)) (h' := q1.2) rfl rfl (by decide) rfl (Nat.le_of_ble_eq_true rfl) rfl (E_424 (Nat.le_trans (by decide) hd) e_q1) rfl ?_
  refine Ex.ifc rfl rfl (fun (c0 : ¬ (q1.1 = 0)) => ?_) (fun (c0 : ¬ ¬ (q1.1 = 0)) => ?_)
  · rw [if_neg c0] at hf
    refine Ex.seg 5 (pc' := 212) (lc' := [some (.ref 67), none, none, none, none, some (.int y5)]) (st' := [.int (q1.2.1 67 105), .int y5, .ref 122]) (h' := q1.2) (sg1 rfl rfl (sg1 rfl rfl (sg1 rfl rfl (sg1 rfl rfl (sg1 rfl rfl rfl))))) ?_
    obtain ⟨h2, e_h2, hf⟩ := bnd hf
    refine Ex.iast e_h2 rfl rfl ?_
    refine Ex.seg 1 (pc' := 214) (lc' := [some (.ref 67), none, none, none, none, some (.int y5)]) (st' := [.int 1]) (h' := h2) (sg1 rfl rfl rfl) ?_
    obtain rfl := Option.some.inj hf
    exact Ex.iret rfl rfl (fun _ => by decide) hs
  · rw [if_pos (Classical.not_not.mp c0)] at hf
    refine Ex.seg 1 (pc' := 201) (lc' := [some (.ref 67), none, none, none, none, some (.int y5)]) (st' := [.int 0]) (h' := q1.2) (sg1 rfl rfl rfl) ?_
    obtain rfl := Option.some.inj hf
    exact Ex.iret rfl rfl (fun _ => by decide) hs
theorem B_446_182 {L : Nat} {xs : Nat → Int32} {d : Nat} (hd : 4 ≤ d) {res : Option Value × sm_H} {y2 : Int32} {y5 : Int32}  {h : sm_H} {r : (Int32 × sm_H)} (hf : F_446_182 y2 y5 h = some r) (hs : (fun (r : Int32 × sm_H) => res = (some (.int r.1), r.2)) r) : Ex (P_G L xs) (RUN L xs d) (sm_lk P_t446) 3 182 [some (.ref 67), none, some (.int y2), none, none, some (.int y5)] [] h res := by
  unfold F_446_182 at hf
  refine Ex.seg 3 (pc' := 186) (lc' := [some (.ref 67), none, some (.int y2), none, none, some (.int y5)]) (st' := [.int 16, .int y2, .ref 67]) (h' := h) (sg1 rfl rfl (sg1 rfl rfl (sg1 rfl rfl rfl))) ?_
  refine Ex.icmp rfl rfl (fun (c0 : ¬ (y2 = 16)) => ?_) (fun (c0 : ¬ ¬ (y2 = 16)) => ?_)
  · rw [if_neg c0] at hf
    refine Ex.seg 1 (pc' := 194) (lc' := [some (.ref 67), none, some (.int y2), none, none, some (.int y5)]) (st' := [.int 0, .ref 67]) (h' := h) (sg1 rfl rfl rfl) ?_
    exact Ex.weak (sm_le_s (sm_le_s (sm_le_n (sm_le_s (sm_le_s (sm_le_s sm_le_nil)))))) (B_446_194 hd  hf hs)
  · rw [if_pos (Classical.not_not.mp c0)] at hf
    refine Ex.seg 2 (pc' := 194) (lc' := [some (.ref 67), none, some (.int y2), none, none, some (.int y5)]) (st' := [.int 1, .ref 67]) (h' := h) (sg1 rfl rfl (sg1 rfl rfl rfl)) ?_
    exact Ex.weak (sm_le_s (sm_le_s (sm_le_n (sm_le_s (sm_le_s (sm_le_s sm_le_nil)))))) (B_446_194 hd  hf hs)
theorem B_446_143 {L : Nat} {xs : Nat → Int32} {d : Nat} (hd : 4 ≤ d) {res : Option Value × sm_H} {y2 : Int32} {y5 : Int32} {z1 : Int32} {z2 : Int32}  {h : sm_H} {r : (Int32 × sm_H)} (hf : F_446_143 y2 y5 z1 z2 h = some r) (hs : (fun (r : Int32 × sm_H) => res = (some (.int r.1), r.2)) r) : Ex (P_G L xs) (RUN L xs d) (sm_lk P_t446) 3 143 [some (.ref 67), none, some (.int y2), none, none, some (.int y5)] [.int z2, .int z1, .ref 122] h res := by
  unfold F_446_143 at hf
  obtain ⟨h3, e_h3, hf⟩ := bnd hf
  refine Ex.iast e_h3 rfl rfl ?_
  refine Ex.seg 2 (pc' := 147) (lc' := [some (.ref 67), none, some (.int y2), none, none, some (.int y5)]) (st' := [.int 7, .int y2]) (h' := h3) (sg1 rfl rfl (sg1 rfl rfl rfl)) ?_
  refine Ex.icmp rfl rfl (fun (c0 : y2 = 7) => ?_) (fun (c0 : ¬ (y2 = 7)) => ?_)
  · rw [if_pos c0] at hf
    exact Ex.weak (sm_le_s (sm_le_s (sm_le_s (sm_le_s (sm_le_s (sm_le_s sm_le_nil)))))) (B_446_182 hd  hf hs)
  · rw [if_neg c0] at hf
    refine Ex.seg 2 (pc' := 153) (lc' := [some (.ref 67), none, some (.int y2), none, none, some (.int y5)]) (st' := [.int 8, .int y2]) (h' := h3) (sg1 rfl rfl (sg1 rfl rfl rfl)) ?_
    refine Ex.icmp rfl rfl (fun (c0 : y2 = 8) => ?_) (fun (c0 : ¬ (y2 = 8)) => ?_)
    · rw [if_pos c0] at hf
      exact Ex.weak (sm_le_s (sm_le_s (sm_le_s (sm_le_s (sm_le_s (sm_le_s sm_le_nil)))))) (B_446_182 hd  hf hs)
    · rw [if_neg c0] at hf
      refine Ex.seg 2 (pc' := 159) (lc' := [some (.ref 67), none, some (.int y2), none, none, some (.int y5)]) (st' := [.int 9, .int y2]) (h' := h3) (sg1 rfl rfl (sg1 rfl rfl rfl)) ?_
      refine Ex.icmp rfl rfl (fun (c0 : y2 = 9) => ?_) (fun (c0 : ¬ (y2 = 9)) => ?_)
      · rw [if_pos c0] at hf
        exact Ex.weak (sm_le_s (sm_le_s (sm_le_s (sm_le_s (sm_le_s (sm_le_s sm_le_nil)))))) (B_446_182 hd  hf hs)
      · rw [if_neg c0] at hf
        refine Ex.seg 2 (pc' := 165) (lc' := [some (.ref 67), none, some (.int y2), none, none, some (.int y5)]) (st' := [.int 10, .int y2]) (h' := h3) (sg1 rfl rfl (sg1 rfl rfl rfl)) ?_
        refine Ex.icmp rfl rfl (fun (c0 : y2 = 10) => ?_) (fun (c0 : ¬ (y2 = 10)) => ?_)
        · rw [if_pos c0] at hf
          exact Ex.weak (sm_le_s (sm_le_s (sm_le_s (sm_le_s (sm_le_s (sm_le_s sm_le_nil)))))) (B_446_182 hd  hf hs)
        · rw [if_neg c0] at hf
          refine Ex.seg 2 (pc' := 171) (lc' := [some (.ref 67), none, some (.int y2), none, none, some (.int y5)]) (st' := [.int 14, .int y2]) (h' := h3) (sg1 rfl rfl (sg1 rfl rfl rfl)) ?_
          refine Ex.icmp rfl rfl (fun (c0 : y2 = 14) => ?_) (fun (c0 : ¬ (y2 = 14)) => ?_)
          · rw [if_pos c0] at hf
            exact Ex.weak (sm_le_s (sm_le_s (sm_le_s (sm_le_s (sm_le_s (sm_le_s sm_le_nil)))))) (B_446_182 hd  hf hs)
          · rw [if_neg c0] at hf
            refine Ex.seg 2 (pc' := 177) (lc' := [some (.ref 67), none, some (.int y2), none, none, some (.int y5)]) (st' := [.int 16, .int y2]) (h' := h3) (sg1 rfl rfl (sg1 rfl rfl rfl)) ?_
            refine Ex.icmp rfl rfl (fun (c0 : y2 = 16) => ?_) (fun (c0 : ¬ (y2 = 16)) => ?_)
            · rw [if_pos c0] at hf
              exact Ex.weak (sm_le_s (sm_le_s (sm_le_s (sm_le_s (sm_le_s (sm_le_s sm_le_nil)))))) (B_446_182 hd  hf hs)
            · rw [if_neg c0] at hf
              refine Ex.seg 1 (pc' := 181) (lc' := [some (.ref 67), none, some (.int y2), none, none, some (.int y5)]) (st' := [.int 1]) (h' := h3) (sg1 rfl rfl rfl) ?_
              obtain rfl := Option.some.inj hf
              exact Ex.iret rfl rfl (fun _ => by decide) hs
theorem B_446_114 {L : Nat} {xs : Nat → Int32} {d : Nat} (hd : 4 ≤ d) {res : Option Value × sm_H} {y1 : Int32} {y2 : Int32} {y3 : Int32} {y4 : Int32} {z1 : Int32}  {h : sm_H} {r : (Int32 × sm_H)} (hf : F_446_114 y1 y2 y3 y4 z1 h = some r) (hs : (fun (r : Int32 × sm_H) => res = (some (.int r.1), r.2)) r) : Ex (P_G L xs) (RUN L xs d) (sm_lk P_t446) 3 114 [some (.ref 67), some (.int y1), some (.int y2), some (.int y3), some (.int y4), none] [.int z1, .ref 67] h res := by
  unfold F_446_114 at hf
  refine Ex.seg 1 (pc' := 115) (lc' := [some (.ref 67), some (.int y1), some (.int y2), some (.int y3), some (.int y4), none]) (st' := [.int y1, .int z1, .ref 67]) (h' := h) (sg1 rfl rfl rfl) ?_
  obtain ⟨q4, e_q4, hf⟩ := bnd hf
  refine Ex.callV (a := 67) (As := [.int z1, .int y1]) (r := []) (v := none) (h' := q4) rfl rfl (by decide) rfl (Nat.le_of_ble_eq_true rfl) rfl (E_445 (Nat.le_trans (by decide) hd) e_q4) rfl ?_
  refine Ex.seg 5 (pc' := 126) (lc' := [some (.ref 67), some (.int y1), some (.int y2), some (.int y3), some (.int y4), some (.int ((q4.1 67 102) - 1))]) (st' := []) (h' := q4) (sg1 rfl rfl (sg1 rfl rfl (sg1 rfl rfl (sg1 rfl rfl (sg1 rfl rfl rfl))))) ?_
  obtain ⟨v5, e_v5, hf⟩ := bnd hf
  rw [Option.some.inj e_v5]
  refine Ex.seg 5 (pc' := 134) (lc' := [some (.ref 67), some (.int y1), some (.int y2), some (.int y3), some (.int y4), some (.int v5)]) (st' := [.int (-1), .int y2, .int v5, .ref 122]) (h' := q4) (sg1 rfl rfl (sg1 rfl rfl (sg1 rfl rfl (sg1 rfl rfl (sg1 rfl rfl rfl))))) ?_
  refine Ex.icmp rfl rfl (fun (c0 : ¬ (y2 = (-1))) => ?_) (fun (c0 : ¬ ¬ (y2 = (-1))) => ?_)
  · rw [if_neg c0] at hf
    refine Ex.seg 1 (pc' := 143) (lc' := [some (.ref 67), some (.int y1), some (.int y2), some (.int y3), some (.int y4), some (.int v5)]) (st' := [.int y4, .int v5, .ref 122]) (h' := q4) (sg1 rfl rfl rfl) ?_
    exact Ex.weak (sm_le_s (sm_le_n (sm_le_s (sm_le_n (sm_le_n (sm_le_s sm_le_nil)))))) (B_446_143 hd  hf hs)
  · rw [if_pos (Classical.not_not.mp c0)] at hf
    refine Ex.seg 2 (pc' := 143) (lc' := [some (.ref 67), some (.int y1), some (.int y2), some (.int y3), some (.int y4), some (.int v5)]) (st' := [.int y3, .int v5, .ref 122]) (h' := q4) (sg1 rfl rfl (sg1 rfl rfl rfl)) ?_
    exact Ex.weak (sm_le_s (sm_le_n (sm_le_s (sm_le_n (sm_le_n (sm_le_s sm_le_nil)))))) (B_446_143 hd  hf hs)
theorem B_446_89 {L : Nat} {xs : Nat → Int32} {d : Nat} (hd : 4 ≤ d) {res : Option Value × sm_H} {y1 : Int32} {y2 : Int32} {y3 : Int32}  {h : sm_H} {r : (Int32 × sm_H)} (hf : F_446_89 y1 y2 y3 h = some r) (hs : (fun (r : Int32 × sm_H) => res = (some (.int r.1), r.2)) r) : Ex (P_G L xs) (RUN L xs d) (sm_lk P_t446) 3 89 [some (.ref 67), some (.int y1), some (.int y2), some (.int y3), none, none] [] h res := by
  unfold F_446_89 at hf
  refine Ex.seg 2 (pc' := 93) (lc' := [some (.ref 67), some (.int y1), some (.int y2), some (.int y3), none, none]) (st' := [.long (h.2.1 67 83)]) (h' := h) (sg1 rfl rfl (sg1 rfl rfl rfl)) ?_
  obtain ⟨q6, e_q6, hf⟩ := bnd hf
  refine Ex.callS (As := [.long (h.2.1 67 83)]) (r := []) (v := some (.int q6.1)) (h' := q6.2) rfl rfl rfl rfl (Nat.le_of_ble_eq_true rfl) (E_441 (Nat.le_trans (by decide) hd) e_q6) rfl ?_
  refine Ex.seg 2 (pc' := 99) (lc' := [some (.ref 67), some (.int y1), some (.int y2), some (.int y3), some (.int q6.1), none]) (st' := [.ref 67]) (h' := q6.2) (sg1 rfl rfl (sg1 rfl rfl rfl)) ?_
  obtain ⟨q7, e_q7, hf⟩ := bnd hf
  refine Ex.callV (a := 67) (As := []) (r := []) (v := none) (h' := q7) rfl rfl (by decide) rfl (Nat.le_of_ble_eq_true rfl) rfl (E_420 (Nat.le_trans (by decide) hd) e_q7) rfl ?_
  refine Ex.seg 3 (pc' := 105) (lc' := [some (.ref 67), some (.int y1), some (.int y2), some (.int y3), some (.int q6.1), none]) (st' := [.int (-1), .int y2, .ref 67]) (h' := q7) (sg1 rfl rfl (sg1 rfl rfl (sg1 rfl rfl rfl))) ?_
  refine Ex.icmp rfl rfl (fun (c0 : ¬ (y2 = (-1))) => ?_) (fun (c0 : ¬ ¬ (y2 = (-1))) => ?_)
  · rw [if_neg c0] at hf
    refine Ex.seg 1 (pc' := 114) (lc' := [some (.ref 67), some (.int y1), some (.int y2), some (.int y3), some (.int q6.1), none]) (st' := [.int y2, .ref 67]) (h' := q7) (sg1 rfl rfl rfl) ?_
    exact Ex.weak (sm_le_s (sm_le_s (sm_le_s (sm_le_s (sm_le_s (sm_le_s sm_le_nil)))))) (B_446_114 hd  hf hs)
  · rw [if_pos (Classical.not_not.mp c0)] at hf
    refine Ex.seg 2 (pc' := 114) (lc' := [some (.ref 67), some (.int y1), some (.int y2), some (.int y3), some (.int q6.1), none]) (st' := [.int 18, .ref 67]) (h' := q7) (sg1 rfl rfl (sg1 rfl rfl rfl)) ?_
    exact Ex.weak (sm_le_s (sm_le_s (sm_le_s (sm_le_s (sm_le_s (sm_le_s sm_le_nil)))))) (B_446_114 hd  hf hs)
theorem B_446_67 {L : Nat} {xs : Nat → Int32} {d : Nat} (hd : 4 ≤ d) {res : Option Value × sm_H} {y1 : Int32} {y2 : Int32} {z0 : Int32}  {h : sm_H} {r : (Int32 × sm_H)} (hf : F_446_67 y1 y2 z0 h = some r) (hs : (fun (r : Int32 × sm_H) => res = (some (.int r.1), r.2)) r) : Ex (P_G L xs) (RUN L xs d) (sm_lk P_t446) 3 67 [some (.ref 67), some (.int y1), some (.int y2), none, none, none] [.int z0] h res := by
  unfold F_446_67 at hf
  refine Ex.seg 3 (pc' := 70) (lc' := [some (.ref 67), some (.int y1), some (.int y2), some (.int z0), none, none]) (st' := [.int (-1), .int y2]) (h' := h) (sg1 rfl rfl (sg1 rfl rfl (sg1 rfl rfl rfl))) ?_
  refine Ex.icmp rfl rfl (fun (c0 : ¬ (y2 = (-1))) => ?_) (fun (c0 : ¬ ¬ (y2 = (-1))) => ?_)
  · rw [if_neg c0] at hf
    exact Ex.weak (sm_le_s (sm_le_s (sm_le_s (sm_le_s (sm_le_s (sm_le_s sm_le_nil)))))) (B_446_89 hd  hf hs)
  · rw [if_pos (Classical.not_not.mp c0)] at hf
    refine Ex.seg 2 (pc' := 75) (lc' := [some (.ref 67), some (.int y1), some (.int y2), some (.int z0), none, none]) (st' := [.int (-1), .int z0]) (h' := h) (sg1 rfl rfl (sg1 rfl rfl rfl)) ?_
    refine Ex.icmp rfl rfl (fun (c0 : ¬ (z0 = (-1))) => ?_) (fun (c0 : ¬ ¬ (z0 = (-1))) => ?_)
    · rw [if_neg c0] at hf
      exact Ex.weak (sm_le_s (sm_le_s (sm_le_s (sm_le_s (sm_le_s (sm_le_s sm_le_nil)))))) (B_446_89 hd  hf hs)
    · rw [if_pos (Classical.not_not.mp c0)] at hf
      refine Ex.seg 4 (pc' := 85) (lc' := [some (.ref 67), some (.int y1), some (.int y2), some (.int z0), none, none]) (st' := [.int (h.1 67 81), .int 6, .ref 67]) (h' := h) (sg1 rfl rfl (sg1 rfl rfl (sg1 rfl rfl (sg1 rfl rfl rfl)))) ?_
      obtain ⟨q8, e_q8, hf⟩ := bnd hf
      refine Ex.callV (a := 67) (As := [.int 6, .int (h.1 67 81)]) (r := []) (v := some (.int q8.1)) (h' := q8.2) rfl rfl (by decide) rfl (Nat.le_of_ble_eq_true rfl) rfl (E_413 (Nat.le_trans (by decide) hd) e_q8) rfl ?_
      rcases Classical.em (q8.1 = 0 ∨ q8.1 = 1) with c0 | c0
      · rw [if_pos c0] at hf
        obtain rfl := Option.some.inj hf
        exact Ex.iret rfl rfl (fun _ => c0) hs
      · rw [if_neg c0] at hf
        cases hf
theorem B_446_42 {L : Nat} {xs : Nat → Int32} {d : Nat} (hd : 4 ≤ d) {res : Option Value × sm_H} {y1 : Int32}  {h : sm_H} {r : (Int32 × sm_H)} (hf : F_446_42 y1 h = some r) (hs : (fun (r : Int32 × sm_H) => res = (some (.int r.1), r.2)) r) : Ex (P_G L xs) (RUN L xs d) (sm_lk P_t446) 3 42 [some (.ref 67), some (.int y1), none, none, none, none] [] h res := by
  unfold F_446_42 at hf
  refine Ex.seg 2 (pc' := 46) (lc' := [some (.ref 67), some (.int y1), none, none, none, none]) (st' := [.long (h.2.1 67 83)]) (h' := h) (sg1 rfl rfl (sg1 rfl rfl rfl)) ?_
  obtain ⟨q9, e_q9, hf⟩ := bnd hf
  refine Ex.callS (As := [.long (h.2.1 67 83)]) (r := []) (v := some (.int q9.1)) (h' := q9.2) rfl rfl rfl rfl (Nat.le_of_ble_eq_true rfl) (E_440 (Nat.le_trans (by decide) hd) e_q9) rfl ?_
  refine Ex.seg 3 (pc' := 52) (lc' := [some (.ref 67), some (.int y1), some (.int q9.1), none, none, none]) (st' := [.int (-1), .int q9.1]) (h' := q9.2) (sg1 rfl rfl (sg1 rfl rfl (sg1 rfl rfl rfl))) ?_
  refine Ex.icmp rfl rfl (fun (c0 : ¬ (q9.1 = (-1))) => ?_) (fun (c0 : ¬ ¬ (q9.1 = (-1))) => ?_)
  · rw [if_neg c0] at hf
    refine Ex.seg 1 (pc' := 67) (lc' := [some (.ref 67), some (.int y1), some (.int q9.1), none, none, none]) (st' := [.int (-1)]) (h' := q9.2) (sg1 rfl rfl rfl) ?_
    exact Ex.weak (sm_le_s (sm_le_s (sm_le_s (sm_le_s (sm_le_s (sm_le_s sm_le_nil)))))) (B_446_67 hd  hf hs)
  · rw [if_pos (Classical.not_not.mp c0)] at hf
    refine Ex.seg 3 (pc' := 60) (lc' := [some (.ref 67), some (.int y1), some (.int q9.1), none, none, none]) (st' := [.long (q9.2.2.1 67 83), .ref 67]) (h' := q9.2) (sg1 rfl rfl (sg1 rfl rfl (sg1 rfl rfl rfl))) ?_
    obtain ⟨q10, e_q10, hf⟩ := bnd hf
    refine Ex.callV (a := 67) (As := [.long (q9.2.2.1 67 83)]) (r := []) (v := some (.int q10.1)) (h' := q10.2) rfl rfl (by decide) rfl (Nat.le_of_ble_eq_true rfl) rfl (E_443 (Nat.le_trans (by decide) hd) e_q10) rfl ?_
    refine Ex.seg 1 (pc' := 67) (lc' := [some (.ref 67), some (.int y1), some (.int q9.1), none, none, none]) (st' := [.int q10.1]) (h' := q10.2) (sg1 rfl rfl rfl) ?_
    exact Ex.weak (sm_le_s (sm_le_s (sm_le_s (sm_le_s (sm_le_s (sm_le_s sm_le_nil)))))) (B_446_67 hd  hf hs)
theorem B_446_19 {L : Nat} {xs : Nat → Int32} {d : Nat} (hd : 4 ≤ d) {res : Option Value × sm_H}   {h : sm_H} {r : (Int32 × sm_H)} (hf : F_446_19  h = some r) (hs : (fun (r : Int32 × sm_H) => res = (some (.int r.1), r.2)) r) : Ex (P_G L xs) (RUN L xs d) (sm_lk P_t446) 3 19 [none, none, none, none, none, none] [] h res := by
  unfold F_446_19 at hf
  refine Ex.seg 1 (pc' := 20) (lc' := [none, none, none, none, none, none]) (st' := [.int 0]) (h' := h) (sg1 rfl rfl rfl) ?_
  obtain rfl := Option.some.inj hf
  exact Ex.iret rfl rfl (fun _ => by decide) hs
theorem B_446_0 {L : Nat} {xs : Nat → Int32} {d : Nat} (hd : 4 ≤ d) {res : Option Value × sm_H}   {h : sm_H} {r : (Int32 × sm_H)} (hf : F_446_0  h = some r) (hs : (fun (r : Int32 × sm_H) => res = (some (.int r.1), r.2)) r) : Ex (P_G L xs) (RUN L xs d) (sm_lk P_t446) 3 0 [some (.ref 67), none, none, none, none, none] [] h res := by
  unfold F_446_0 at hf
  refine Ex.seg 3 (pc' := 5) (lc' := [some (.ref 67), some (.int (h.1 67 81)), none, none, none, none]) (st' := []) (h' := h) (sg1 rfl rfl (sg1 rfl rfl (sg1 rfl rfl rfl))) ?_
  obtain ⟨v11, e_v11, hf⟩ := bnd hf
  rw [Option.some.inj e_v11]
  refine Ex.seg 1 (pc' := 6) (lc' := [some (.ref 67), some (.int v11), none, none, none, none]) (st' := [.ref 67]) (h' := h) (sg1 rfl rfl rfl) ?_
  obtain ⟨q12, e_q12, hf⟩ := bnd hf
  refine Ex.callV (a := 67) (As := []) (r := []) (v := some (.int q12.1)) (h' := q12.2) rfl rfl (by decide) rfl (Nat.le_of_ble_eq_true rfl) rfl (E_425 (Nat.le_trans (by decide) hd) e_q12) rfl ?_
  refine Ex.ifc rfl rfl (fun (c0 : q12.1 = 0) => ?_) (fun (c0 : ¬ (q12.1 = 0)) => ?_)
  · rw [if_pos c0] at hf
    exact Ex.weak (sm_le_n (sm_le_n (sm_le_s (sm_le_s (sm_le_s (sm_le_s sm_le_nil)))))) (B_446_19 hd  hf hs)
  · rw [if_neg c0] at hf
    refine Ex.seg 1 (pc' := 13) (lc' := [some (.ref 67), some (.int v11), none, none, none, none]) (st' := [.ref 67]) (h' := q12.2) (sg1 rfl rfl rfl) ?_
    obtain ⟨q13, e_q13, hf⟩ := bnd hf
    refine Ex.callV (a := 67) (As := []) (r := []) (v := some (.int q13.1)) (h' := q13.2) rfl rfl (by decide) rfl (Nat.le_of_ble_eq_true rfl) rfl (E_418 (Nat.le_trans (by decide) hd) e_q13) rfl ?_
    refine Ex.ifc rfl rfl (fun (c0 : ¬ (q13.1 = 0)) => ?_) (fun (c0 : ¬ ¬ (q13.1 = 0)) => ?_)
    · rw [if_neg c0] at hf
      refine Ex.seg 3 (pc' := 26) (lc' := [some (.ref 67), some (.int v11), none, none, none, none]) (st' := [.int 1, .int (q13.2.1 67 80)]) (h' := q13.2) (sg1 rfl rfl (sg1 rfl rfl (sg1 rfl rfl rfl))) ?_
      refine Ex.icmp rfl rfl (fun (c0 : (q13.2.1 67 80) = 1) => ?_) (fun (c0 : ¬ ((q13.2.1 67 80) = 1)) => ?_)
      · rw [if_pos c0] at hf
        exact Ex.weak (sm_le_s (sm_le_s (sm_le_s (sm_le_s (sm_le_s (sm_le_s sm_le_nil)))))) (B_446_42 hd  hf hs)
      · rw [if_neg c0] at hf
        refine Ex.seg 3 (pc' := 34) (lc' := [some (.ref 67), some (.int v11), none, none, none, none]) (st' := [.int 5, .int (q13.2.1 67 80)]) (h' := q13.2) (sg1 rfl rfl (sg1 rfl rfl (sg1 rfl rfl rfl))) ?_
        refine Ex.icmp rfl rfl (fun (c0 : (q13.2.1 67 80) = 5) => ?_) (fun (c0 : ¬ ((q13.2.1 67 80) = 5)) => ?_)
        · rw [if_pos c0] at hf
          exact Ex.weak (sm_le_s (sm_le_s (sm_le_s (sm_le_s (sm_le_s (sm_le_s sm_le_nil)))))) (B_446_42 hd  hf hs)
        · rw [if_neg c0] at hf
          refine Ex.seg 1 (pc' := 38) (lc' := [some (.ref 67), some (.int v11), none, none, none, none]) (st' := [.ref 67]) (h' := q13.2) (sg1 rfl rfl rfl) ?_
          obtain ⟨q14, e_q14, hf⟩ := bnd hf
          refine Ex.callV (a := 67) (As := []) (r := []) (v := some (.int q14.1)) (h' := q14.2) rfl rfl (by decide) rfl (Nat.le_of_ble_eq_true rfl) rfl (E_421 (Nat.le_trans (by decide) hd) e_q14) rfl ?_
          rcases Classical.em (q14.1 = 0 ∨ q14.1 = 1) with c0 | c0
          · rw [if_pos c0] at hf
            obtain rfl := Option.some.inj hf
            exact Ex.iret rfl rfl (fun _ => c0) hs
          · rw [if_neg c0] at hf
            cases hf
    · rw [if_pos (Classical.not_not.mp c0)] at hf
      exact Ex.weak (sm_le_n (sm_le_n (sm_le_s (sm_le_s (sm_le_s (sm_le_s sm_le_nil)))))) (B_446_19 hd  hf hs)
theorem E_446 {L : Nat} {xs : Nat → Int32} {d : Nat} (hd : 5 ≤ d)  {h : sm_H} {r : Int32 × sm_H} (hf : F_446  h = some r) : RUN L xs d 446 [.ref 67] h (some (.int r.1), r.2) := by
  obtain ⟨d, rfl⟩ : ∃ e, d = e + 1 := ⟨d - 1, by omega⟩
  exact ⟨Nat.le_of_ble_eq_true rfl, B_446_0 (by omega) hf rfl⟩
theorem B_448_165 {L : Nat} {xs : Nat → Int32} {d : Nat} (hd : 11 ≤ d) {res : Option Value × sm_H} {y1 : Int32} {y2 : Int32} {z0 : Int32}  {h : sm_H} {r : (Int32 × sm_H)} (hf : F_448_165 y1 y2 z0 h = some r) (hs : (fun (r : Int32 × sm_H) => res = (some (.int r.1), r.2)) r) : Ex (P_G L xs) (RUN L xs d) (sm_lk P_t448) 3 165 [some (.ref 67), some (.int y1), some (.int y2), none] [.int z0] h res := by
  unfold F_448_165 at hf
  refine Ex.seg 3 (pc' := 168) (lc' := [some (.ref 67), some (.int y1), some (.int y2), some (.int z0)]) (st' := [.int (-1), .int z0]) (h' := h) (sg1 rfl rfl (sg1 rfl rfl (sg1 rfl rfl rfl))) ?_
  refine Ex.icmp rfl rfl (fun (c0 : ¬ (z0 = (-1))) => ?_) (fun (c0 : ¬ ¬ (z0 = (-1))) => ?_)
  · rw [if_neg c0] at hf
    refine Ex.seg 4 (pc' := 179) (lc' := [some (.ref 67), some (.int y1), some (.int y2), some (.int z0)]) (st' := [.int y2, .int 0, .ref 69]) (h' := h) (sg1 rfl rfl (sg1 rfl rfl (sg1 rfl rfl (sg1 rfl rfl rfl)))) ?_
    obtain ⟨h1, e_h1, hf⟩ := bnd hf
    refine Ex.iast e_h1 rfl rfl ?_
    refine Ex.seg 7 (pc' := 191) (lc' := [some (.ref 67), some (.int y1), some (.int y2), some (.int z0)]) (st' := [.int (y1 - (h1.1 67 94)), .int 1, .ref 69]) (h' := h1) (sg1 rfl rfl (sg1 rfl rfl (sg1 rfl rfl (sg1 rfl rfl (sg1 rfl rfl (sg1 rfl rfl (sg1 rfl rfl rfl))))))) ?_
    obtain ⟨h2, e_h2, hf⟩ := bnd hf
    refine Ex.iast e_h2 rfl rfl ?_
    refine Ex.seg 3 (pc' := 197) (lc' := [some (.ref 67), some (.int y1), some (.int y2), some (.int z0)]) (st' := []) (h' := (sm_wI h2 67 3 2)) (sg1 rfl rfl (sg1 rfl rfl (sg1 rfl rfl rfl))) ?_
    obtain ⟨h3, e_h3, hf⟩ := bnd hf
    rw [Option.some.inj e_h3]
    refine Ex.seg 6 (pc' := 203) (lc' := [some (.ref 67), some (.int y1), some (.int y2), some (.int z0)]) (st' := [.long 0, .int z0, .int 0, .int 5, .ref 67, .ref 67]) (h' := h3) (sg1 rfl rfl (sg1 rfl rfl (sg1 rfl rfl (sg1 rfl rfl (sg1 rfl rfl (sg1 rfl rfl rfl)))))) ?_
    obtain ⟨q4, e_q4, hf⟩ := bnd hf
    refine Ex.callV (a := 67) (As := [.int 5, .int 0, .int z0, .long 0]) (r := [.ref 67]) (v := some (.int q4.1)) (h' := q4.2) rfl rfl (by decide) rfl (Nat.le_of_ble_eq_true rfl) rfl (E_429 (Nat.le_trans (by decide) hd) e_q4) rfl ?_
    obtain ⟨q5, e_q5, hf⟩ := bnd hf
    refine Ex.callV (a := 67) (As := [.int q4.1]) (r := []) (v := some (.int q5.1)) (h' := q5.2) rfl rfl (by decide) rfl (Nat.le_of_ble_eq_true rfl) rfl (E_447 (Nat.le_trans (by decide) hd) e_q5) rfl ?_
    rcases Classical.em (q5.1 = 0 ∨ q5.1 = 1) with c0 | c0
    · rw [if_pos c0] at hf
      obtain rfl := Option.some.inj hf
      exact Ex.iret rfl rfl (fun _ => c0) hs
    · rw [if_neg c0] at hf
      cases hf
  · rw [if_pos (Classical.not_not.mp c0)] at hf
    refine Ex.seg 1 (pc' := 172) (lc' := [some (.ref 67), some (.int y1), some (.int y2), some (.int z0)]) (st' := [.int 0]) (h' := h) (sg1 rfl rfl rfl) ?_
    obtain rfl := Option.some.inj hf
    exact Ex.iret rfl rfl (fun _ => by decide) hs
theorem B_448_110 {L : Nat} {xs : Nat → Int32} {d : Nat} (hd : 11 ≤ d) {res : Option Value × sm_H} {y1 : Int32}  {h : sm_H} {r : (Int32 × sm_H)} (hf : F_448_110 y1 h = some r) (hs : (fun (r : Int32 × sm_H) => res = (some (.int r.1), r.2)) r) : Ex (P_G L xs) (RUN L xs d) (sm_lk P_t448) 3 110 [some (.ref 67), some (.int y1), none, none] [] h res := by
  unfold F_448_110 at hf
  refine Ex.seg 2 (pc' := 114) (lc' := [some (.ref 67), some (.int y1), none, none]) (st' := [.int 400, .int y1]) (h' := h) (sg1 rfl rfl (sg1 rfl rfl rfl)) ?_
  refine Ex.icmp rfl rfl (fun (c0 : ¬ (y1 = 400)) => ?_) (fun (c0 : ¬ ¬ (y1 = 400)) => ?_)
  · rw [if_neg c0] at hf
    refine Ex.seg 1 (pc' := 129) (lc' := [some (.ref 67), some (.int y1), none, none]) (st' := [.ref 67]) (h' := h) (sg1 rfl rfl rfl) ?_
    obtain ⟨q6, e_q6, hf⟩ := bnd hf
    refine Ex.callV (a := 67) (As := []) (r := []) (v := none) (h' := q6) rfl rfl (by decide) rfl (Nat.le_of_ble_eq_true rfl) rfl (E_420 (Nat.le_trans (by decide) hd) e_q6) rfl ?_
    refine Ex.seg 5 (pc' := 139) (lc' := [some (.ref 67), some (.int y1), none, none]) (st' := [.int y1, .ref 118, .int 2, .ref 67]) (h' := q6) (sg1 rfl rfl (sg1 rfl rfl (sg1 rfl rfl (sg1 rfl rfl (sg1 rfl rfl rfl))))) ?_
    obtain ⟨v7, e_v7, hf⟩ := bnd hf
    refine Ex.iald e_v7 rfl rfl ?_
    refine Ex.seg 2 (pc' := 142) (lc' := [some (.ref 67), some (.int y1), none, none]) (st' := [.long 0, .int 0, .int v7, .int 2, .ref 67]) (h' := q6) (sg1 rfl rfl (sg1 rfl rfl rfl)) ?_
    obtain ⟨q8, e_q8, hf⟩ := bnd hf
    refine Ex.callV (a := 67) (As := [.int 2, .int v7, .int 0, .long 0]) (r := []) (v := some (.int q8.1)) (h' := q8.2) rfl rfl (by decide) rfl (Nat.le_of_ble_eq_true rfl) rfl (E_430 (Nat.le_trans (by decide) hd) e_q8) rfl ?_
    refine Ex.seg 3 (pc' := 148) (lc' := [some (.ref 67), some (.int y1), some (.int q8.1), none]) (st' := [.int (-1), .int q8.1]) (h' := q8.2) (sg1 rfl rfl (sg1 rfl rfl (sg1 rfl rfl rfl))) ?_
    refine Ex.icmp rfl rfl (fun (c0 : ¬ (q8.1 = (-1))) => ?_) (fun (c0 : ¬ ¬ (q8.1 = (-1))) => ?_)
    · rw [if_neg c0] at hf
      refine Ex.seg 4 (pc' := 161) (lc' := [some (.ref 67), some (.int y1), some (.int q8.1), none]) (st' := [.int y1, .ref 118, .ref 67]) (h' := q8.2) (sg1 rfl rfl (sg1 rfl rfl (sg1 rfl rfl (sg1 rfl rfl rfl)))) ?_
      obtain ⟨v9, e_v9, hf⟩ := bnd hf
      refine Ex.iald e_v9 rfl rfl ?_
      obtain ⟨q10, e_q10, hf⟩ := bnd hf
      refine Ex.callV (a := 67) (As := [.int v9]) (r := []) (v := some (.int q10.1)) (h' := q10.2) rfl rfl (by decide) rfl (Nat.le_of_ble_eq_true rfl) rfl (E_428 (Nat.le_trans (by decide) hd) e_q10) rfl ?_
      exact Ex.weak (sm_le_s (sm_le_s (sm_le_s (sm_le_s sm_le_nil)))) (B_448_165 hd  hf hs)
    · rw [if_pos (Classical.not_not.mp c0)] at hf
      refine Ex.seg 2 (pc' := 165) (lc' := [some (.ref 67), some (.int y1), some (.int q8.1), none]) (st' := [.int (-1)]) (h' := q8.2) (sg1 rfl rfl (sg1 rfl rfl rfl)) ?_
      exact Ex.weak (sm_le_s (sm_le_s (sm_le_s (sm_le_s sm_le_nil)))) (B_448_165 hd  hf hs)
  · rw [if_pos (Classical.not_not.mp c0)] at hf
    refine Ex.seg 4 (pc' := 124) (lc' := [some (.ref 67), some (.int y1), none, none]) (st' := [.int (h.1 67 81), .int 6, .ref 67]) (h' := h) (sg1 rfl rfl (sg1 rfl rfl (sg1 rfl rfl (sg1 rfl rfl rfl)))) ?_
    obtain ⟨q11, e_q11, hf⟩ := bnd hf
    refine Ex.callV (a := 67) (As := [.int 6, .int (h.1 67 81)]) (r := []) (v := some (.int q11.1)) (h' := q11.2) rfl rfl (by decide) rfl (Nat.le_of_ble_eq_true rfl) rfl (E_413 (Nat.le_trans (by decide) hd) e_q11) rfl ?_
    rcases Classical.em (q11.1 = 0 ∨ q11.1 = 1) with c0 | c0
    · rw [if_pos c0] at hf
      obtain rfl := Option.some.inj hf
      exact Ex.iret rfl rfl (fun _ => c0) hs
    · rw [if_neg c0] at hf
      cases hf
theorem B_448_83B {L : Nat} {xs : Nat → Int32} {d : Nat} (hd : 11 ≤ d) {res : Option Value × sm_H} {S1 : (Int32 × sm_H) → Prop} (hS1 : ∀ s, S1 s → Ex (P_G L xs) (RUN L xs d) (sm_lk P_t448) 3 83 [some (.ref 67), some (.int s.1), none, none] [] s.2 res) {s : (Int32 × sm_H)}  {r : ((Int32 × sm_H) ⊕ (Int32 × sm_H))} (hf : F_448_83B s = some r) (hs : (Sum.elim S1 (fun (r : Int32 × sm_H) => res = (some (.int r.1), r.2))) r) : Ex (P_G L xs) (RUN L xs d) (sm_lk P_t448) 3 83 [some (.ref 67), some (.int s.1), none, none] [] s.2 res := by
  unfold F_448_83B at hf
  refine Ex.seg 2 (pc' := 87) (lc' := [some (.ref 67), some (.int s.1), none, none]) (st' := [.int 400, .int s.1]) (h' := s.2) (sg1 rfl rfl (sg1 rfl rfl rfl)) ?_
  refine Ex.icmp rfl rfl (fun (c0 : 400 ≤ s.1) => ?_) (fun (c0 : ¬ (400 ≤ s.1)) => ?_)
  · rw [if_pos c0] at hf
    obtain ⟨r0, hf0, rfl⟩ := Option.map_eq_some_iff.mp hf
    exact Ex.weak (sm_le_s (sm_le_s (sm_le_s (sm_le_s sm_le_nil)))) (B_448_110 hd  hf0 hs)
  · rw [if_neg c0] at hf
    refine Ex.seg 3 (pc' := 95) (lc' := [some (.ref 67), some (.int s.1), none, none]) (st' := [.int s.1, .ref 117]) (h' := s.2) (sg1 rfl rfl (sg1 rfl rfl (sg1 rfl rfl rfl))) ?_
    obtain ⟨v12, e_v12, hf⟩ := bnd hf
    refine Ex.lald e_v12 rfl rfl ?_
    refine Ex.seg 3 (pc' := 101) (lc' := [some (.ref 67), some (.int s.1), none, none]) (st' := [.int (lg_cmp v12 (s.2.2.1 67 83))]) (h' := s.2) (sg1 rfl rfl (sg1 rfl rfl (sg1 rfl rfl rfl))) ?_
    refine Ex.ifc rfl rfl (fun (c0 : (lg_cmp v12 (s.2.2.1 67 83)) = 0) => ?_) (fun (c0 : ¬ ((lg_cmp v12 (s.2.2.1 67 83)) = 0)) => ?_)
    · rw [if_pos c0] at hf
      obtain ⟨r0, hf0, rfl⟩ := Option.map_eq_some_iff.mp hf
      exact Ex.weak (sm_le_s (sm_le_s (sm_le_s (sm_le_s sm_le_nil)))) (B_448_110 hd  hf0 hs)
    · rw [if_neg c0] at hf
      refine Ex.seg 1 (pc' := 107) (lc' := [some (.ref 67), some (.int (s.1 + 1)), none, none]) (st' := []) (h' := s.2) (sg1 rfl rfl rfl) ?_
      obtain ⟨v13, e_v13, hf⟩ := bnd hf
      rw [Option.some.inj e_v13]
      refine Ex.seg 1 (pc' := 83) (lc' := [some (.ref 67), some (.int v13), none, none]) (st' := []) (h' := s.2) (sg1 rfl rfl rfl) ?_
      obtain rfl := Option.some.inj hf
      exact Ex.weak (sm_le_s (sm_le_s (sm_le_s (sm_le_s sm_le_nil)))) (hS1 _ hs)
theorem B_448_83 {L : Nat} {xs : Nat → Int32} {d : Nat} (hd : 11 ≤ d) {res : Option Value × sm_H} {y1 : Int32}  {h : sm_H} {r : (Int32 × sm_H)} (hf : F_448_83 y1 h = some r) (hs : (fun (r : Int32 × sm_H) => res = (some (.int r.1), r.2)) r) : Ex (P_G L xs) (RUN L xs d) (sm_lk P_t448) 3 83 [some (.ref 67), some (.int y1), none, none] [] h res := by
  unfold F_448_83 at hf
  exact lp_ok (P := fun (s : (Int32 × sm_H)) => Ex (P_G L xs) (RUN L xs d) (sm_lk P_t448) 3 83 [some (.ref 67), some (.int s.1), none, none] [] s.2 res) (S := (fun (r : Int32 × sm_H) => res = (some (.int r.1), r.2))) (fun s x hx hsx => by
    intros
    exact B_448_83B hd  (fun _ q => q) hx hsx) 1000000 _ r hf hs
theorem B_448_0 {L : Nat} {xs : Nat → Int32} {d : Nat} (hd : 11 ≤ d) {res : Option Value × sm_H}   {h : sm_H} {r : (Int32 × sm_H)} (hf : F_448_0  h = some r) (hs : (fun (r : Int32 × sm_H) => res = (some (.int r.1), r.2)) r) : Ex (P_G L xs) (RUN L xs d) (sm_lk P_t448) 3 0 [some (.ref 67), none, none, none] [] h res := by
  unfold F_448_0 at hf
  refine Ex.seg 1 (pc' := 1) (lc' := [some (.ref 67), none, none, none]) (st' := [.ref 67]) (h' := h) (sg1 rfl rfl rfl) ?_
  obtain ⟨q14, e_q14, hf⟩ := bnd hf
  refine Ex.callV (a := 67) (As := []) (r := []) (v := some (.int q14.1)) (h' := q14.2) rfl rfl (by decide) rfl (Nat.le_of_ble_eq_true rfl) rfl (E_418 (Nat.le_trans (by decide) hd) e_q14) rfl ?_
  refine Ex.ifc rfl rfl (fun (c0 : ¬ (q14.1 = 0)) => ?_) (fun (c0 : ¬ ¬ (q14.1 = 0)) => ?_)
  · rw [if_neg c0] at hf
    refine Ex.seg 4 (pc' := 17) (lc' := [some (.ref 67), none, none, none]) (st' := []) (h' := (sm_wI q14.2 67 106 (q14.2.1 67 81))) (sg1 rfl rfl (sg1 rfl rfl (sg1 rfl rfl (sg1 rfl rfl rfl)))) ?_
    obtain ⟨h15, e_h15, hf⟩ := bnd hf
    rw [Option.some.inj e_h15]
    refine Ex.seg 3 (pc' := 22) (lc' := [some (.ref 67), none, none, none]) (st' := [.int 2, .int (h15.1 67 80)]) (h' := h15) (sg1 rfl rfl (sg1 rfl rfl (sg1 rfl rfl rfl))) ?_
    refine Ex.icmp rfl rfl (fun (c0 : ¬ ((h15.1 67 80) = 2)) => ?_) (fun (c0 : ¬ ¬ ((h15.1 67 80) = 2)) => ?_)
    · rw [if_neg c0] at hf
      refine Ex.seg 3 (pc' := 57) (lc' := [some (.ref 67), none, none, none]) (st' := [.int 3, .int (h15.1 67 80)]) (h' := h15) (sg1 rfl rfl (sg1 rfl rfl (sg1 rfl rfl rfl))) ?_
      refine Ex.icmp rfl rfl (fun (c0 : ¬ ((h15.1 67 80) = 3)) => ?_) (fun (c0 : ¬ ¬ ((h15.1 67 80) = 3)) => ?_)
      · rw [if_neg c0] at hf
        refine Ex.seg 3 (pc' := 70) (lc' := [some (.ref 67), none, none, none]) (st' := [.int 1, .int (h15.1 67 80)]) (h' := h15) (sg1 rfl rfl (sg1 rfl rfl (sg1 rfl rfl rfl))) ?_
        refine Ex.icmp rfl rfl (fun (c0 : (h15.1 67 80) = 1) => ?_) (fun (c0 : ¬ ((h15.1 67 80) = 1)) => ?_)
        · rw [if_pos c0] at hf
          refine Ex.seg 3 (pc' := 83) (lc' := [some (.ref 67), some (.int (h15.1 67 94)), none, none]) (st' := []) (h' := h15) (sg1 rfl rfl (sg1 rfl rfl (sg1 rfl rfl rfl))) ?_
          obtain ⟨v16, e_v16, hf⟩ := bnd hf
          rw [Option.some.inj e_v16]
          exact Ex.weak (sm_le_s (sm_le_s (sm_le_s (sm_le_s sm_le_nil)))) (B_448_83 hd  hf hs)
        · rw [if_neg c0] at hf
          refine Ex.seg 1 (pc' := 74) (lc' := [some (.ref 67), none, none, none]) (st' := [.ref 67]) (h' := h15) (sg1 rfl rfl rfl) ?_
          obtain ⟨q17, e_q17, hf⟩ := bnd hf
          refine Ex.callV (a := 67) (As := []) (r := []) (v := some (.int q17.1)) (h' := q17.2) rfl rfl (by decide) rfl (Nat.le_of_ble_eq_true rfl) rfl (E_421 (Nat.le_trans (by decide) hd) e_q17) rfl ?_
          rcases Classical.em (q17.1 = 0 ∨ q17.1 = 1) with c0 | c0
          · rw [if_pos c0] at hf
            obtain rfl := Option.some.inj hf
            exact Ex.iret rfl rfl (fun _ => c0) hs
          · rw [if_neg c0] at hf
            cases hf
      · rw [if_pos (Classical.not_not.mp c0)] at hf
        refine Ex.seg 1 (pc' := 61) (lc' := [some (.ref 67), none, none, none]) (st' := [.ref 67]) (h' := h15) (sg1 rfl rfl rfl) ?_
        obtain ⟨q18, e_q18, hf⟩ := bnd hf
        refine Ex.callV (a := 67) (As := []) (r := []) (v := some (.int q18.1)) (h' := q18.2) rfl rfl (by decide) rfl (Nat.le_of_ble_eq_true rfl) rfl (E_446 (Nat.le_trans (by decide) hd) e_q18) rfl ?_
        rcases Classical.em (q18.1 = 0 ∨ q18.1 = 1) with c0 | c0
        · rw [if_pos c0] at hf
          obtain rfl := Option.some.inj hf
          exact Ex.iret rfl rfl (fun _ => c0) hs
        · rw [if_neg c0] at hf
          cases hf
    · rw [if_pos (Classical.not_not.mp c0)] at hf
      refine Ex.seg 1 (pc' := 26) (lc' := [some (.ref 67), none, none, none]) (st' := [.ref 67]) (h' := h15) (sg1 rfl rfl rfl) ?_
      obtain ⟨q19, e_q19, hf⟩ := bnd hf
      refine Ex.callV (a := 67) (As := []) (r := []) (v := none) (h' := q19) rfl rfl (by decide) rfl (Nat.le_of_ble_eq_true rfl) rfl (E_420 (Nat.le_trans (by decide) hd) e_q19) rfl ?_
      refine Ex.seg 9 (pc' := 42) (lc' := [some (.ref 67), none, none, none]) (st' := [.long (q19.2.1 67 84), .int 0, .int (q19.1 67 85), .int 0, .ref 67, .ref 67, .ref 67]) (h' := q19) (sg1 rfl rfl (sg1 rfl rfl (sg1 rfl rfl (sg1 rfl rfl (sg1 rfl rfl (sg1 rfl rfl (sg1 rfl rfl (sg1 rfl rfl (sg1 rfl rfl rfl))))))))) ?_
      obtain ⟨q20, e_q20, hf⟩ := bnd hf
      refine Ex.callV (a := 67) (As := [.int 0, .int (q19.1 67 85), .int 0, .long (q19.2.1 67 84)]) (r := [.ref 67, .ref 67]) (v := some (.int q20.1)) (h' := q20.2) rfl rfl (by decide) rfl (Nat.le_of_ble_eq_true rfl) rfl (E_430 (Nat.le_trans (by decide) hd) e_q20) rfl ?_
      obtain ⟨q21, e_q21, hf⟩ := bnd hf
      refine Ex.callV (a := 67) (As := [.int q20.1]) (r := [.ref 67]) (v := some (.int q21.1)) (h' := q21.2) rfl rfl (by decide) rfl (Nat.le_of_ble_eq_true rfl) rfl (E_435 (Nat.le_trans (by decide) hd) e_q21) rfl ?_
      obtain ⟨q22, e_q22, hf⟩ := bnd hf
      refine Ex.callV (a := 67) (As := [.int q21.1]) (r := []) (v := some (.int q22.1)) (h' := q22.2) rfl rfl (by decide) rfl (Nat.le_of_ble_eq_true rfl) rfl (E_447 (Nat.le_trans (by decide) hd) e_q22) rfl ?_
      rcases Classical.em (q22.1 = 0 ∨ q22.1 = 1) with c0 | c0
      · rw [if_pos c0] at hf
        obtain rfl := Option.some.inj hf
        exact Ex.iret rfl rfl (fun _ => c0) hs
      · rw [if_neg c0] at hf
        cases hf
  · rw [if_pos (Classical.not_not.mp c0)] at hf
    refine Ex.seg 1 (pc' := 8) (lc' := [some (.ref 67), none, none, none]) (st' := [.int 0]) (h' := q14.2) (sg1 rfl rfl rfl) ?_
    obtain rfl := Option.some.inj hf
    exact Ex.iret rfl rfl (fun _ => by decide) hs
theorem E_448 {L : Nat} {xs : Nat → Int32} {d : Nat} (hd : 12 ≤ d)  {h : sm_H} {r : Int32 × sm_H} (hf : F_448  h = some r) : RUN L xs d 448 [.ref 67] h (some (.int r.1), r.2) := by
  obtain ⟨d, rfl⟩ : ∃ e, d = e + 1 := ⟨d - 1, by omega⟩
  exact ⟨Nat.le_of_ble_eq_true rfl, B_448_0 (by omega) hf rfl⟩
theorem B_450_0 {L : Nat} {xs : Nat → Int32} {d : Nat} (hd : 3 ≤ d) {res : Option Value × sm_H}   {h : sm_H} {r : (Int32 × sm_H)} (hf : F_450_0  h = some r) (hs : (fun (r : Int32 × sm_H) => res = (some (.int r.1), r.2)) r) : Ex (P_G L xs) (RUN L xs d) (sm_lk P_t450) 3 0 [some (.ref 67)] [] h res := by
  unfold F_450_0 at hf
  refine Ex.seg 1 (pc' := 1) (lc' := [some (.ref 67)]) (st' := [.ref 67]) (h' := h) (sg1 rfl rfl rfl) ?_
  obtain ⟨q1, e_q1, hf⟩ := bnd hf
  refine Ex.callV (a := 67) (As := []) (r := []) (v := some (.int q1.1)) (h' := q1.2) rfl rfl (by decide) rfl (Nat.le_of_ble_eq_true rfl) rfl (E_418 (Nat.le_trans (by decide) hd) e_q1) rfl ?_
  refine Ex.ifc rfl rfl (fun (c0 : ¬ (q1.1 = 0)) => ?_) (fun (c0 : ¬ ¬ (q1.1 = 0)) => ?_)
  · rw [if_neg c0] at hf
    refine Ex.seg 3 (pc' := 14) (lc' := [some (.ref 67)]) (st' := [.int 1, .int (q1.2.1 67 80)]) (h' := q1.2) (sg1 rfl rfl (sg1 rfl rfl (sg1 rfl rfl rfl))) ?_
    refine Ex.icmp rfl rfl (fun (c0 : (q1.2.1 67 80) = 1) => ?_) (fun (c0 : ¬ ((q1.2.1 67 80) = 1)) => ?_)
    · rw [if_pos c0] at hf
      refine Ex.seg 4 (pc' := 30) (lc' := [some (.ref 67)]) (st' := []) (h' := (sm_wJ q1.2 67 108 (q1.2.2.1 67 83))) (sg1 rfl rfl (sg1 rfl rfl (sg1 rfl rfl (sg1 rfl rfl rfl)))) ?_
      obtain ⟨h2, e_h2, hf⟩ := bnd hf
      rw [Option.some.inj e_h2]
      refine Ex.seg 1 (pc' := 31) (lc' := [some (.ref 67)]) (st' := [.ref 67]) (h' := h2) (sg1 rfl rfl rfl) ?_
      obtain ⟨q3, e_q3, hf⟩ := bnd hf
      refine Ex.callV (a := 67) (As := []) (r := []) (v := none) (h' := q3) rfl rfl (by decide) rfl (Nat.le_of_ble_eq_true rfl) rfl (E_420 (Nat.le_trans (by decide) hd) e_q3) rfl ?_
      refine Ex.seg 1 (pc' := 35) (lc' := [some (.ref 67)]) (st' := [.int 1]) (h' := q3) (sg1 rfl rfl rfl) ?_
      obtain rfl := Option.some.inj hf
      exact Ex.iret rfl rfl (fun _ => by decide) hs
    · rw [if_neg c0] at hf
      refine Ex.seg 1 (pc' := 18) (lc' := [some (.ref 67)]) (st' := [.ref 67]) (h' := q1.2) (sg1 rfl rfl rfl) ?_
      obtain ⟨q4, e_q4, hf⟩ := bnd hf
      refine Ex.callV (a := 67) (As := []) (r := []) (v := some (.int q4.1)) (h' := q4.2) rfl rfl (by decide) rfl (Nat.le_of_ble_eq_true rfl) rfl (E_421 (Nat.le_trans (by decide) hd) e_q4) rfl ?_
      rcases Classical.em (q4.1 = 0 ∨ q4.1 = 1) with c0 | c0
      · rw [if_pos c0] at hf
        obtain rfl := Option.some.inj hf
        exact Ex.iret rfl rfl (fun _ => c0) hs
      · rw [if_neg c0] at hf
        cases hf
  · rw [if_pos (Classical.not_not.mp c0)] at hf
    refine Ex.seg 1 (pc' := 8) (lc' := [some (.ref 67)]) (st' := [.int 0]) (h' := q1.2) (sg1 rfl rfl rfl) ?_
    obtain rfl := Option.some.inj hf
    exact Ex.iret rfl rfl (fun _ => by decide) hs
theorem E_450 {L : Nat} {xs : Nat → Int32} {d : Nat} (hd : 4 ≤ d)  {h : sm_H} {r : Int32 × sm_H} (hf : F_450  h = some r) : RUN L xs d 450 [.ref 67] h (some (.int r.1), r.2) := by
  obtain ⟨d, rfl⟩ : ∃ e, d = e + 1 := ⟨d - 1, by omega⟩
  exact ⟨Nat.le_of_ble_eq_true rfl, B_450_0 (by omega) hf rfl⟩
theorem B_456_46 {L : Nat} {xs : Nat → Int32} {d : Nat} (hd : 12 ≤ d) {res : Option Value × sm_H}   {h : sm_H} {r : (Int32 × sm_H)} (hf : F_456_46  h = some r) (hs : (fun (r : Int32 × sm_H) => res = (some (.int r.1), r.2)) r) : Ex (P_G L xs) (RUN L xs d) (sm_lk P_t456) 3 46 [none, none] [] h res := by
  unfold F_456_46 at hf
  refine Ex.seg 1 (pc' := 47) (lc' := [none, none]) (st' := [.int 0]) (h' := h) (sg1 rfl rfl rfl) ?_
  obtain rfl := Option.some.inj hf
  exact Ex.iret rfl rfl (fun _ => by decide) hs
theorem B_456_27 {L : Nat} {xs : Nat → Int32} {d : Nat} (hd : 12 ≤ d) {res : Option Value × sm_H}   {h : sm_H} {r : (Int32 × sm_H)} (hf : F_456_27  h = some r) (hs : (fun (r : Int32 × sm_H) => res = (some (.int r.1), r.2)) r) : Ex (P_G L xs) (RUN L xs d) (sm_lk P_t456) 3 27 [some (.ref 67), none] [] h res := by
  unfold F_456_27 at hf
  refine Ex.seg 1 (pc' := 28) (lc' := [some (.ref 67), none]) (st' := [.ref 67]) (h' := h) (sg1 rfl rfl rfl) ?_
  obtain ⟨q1, e_q1, hf⟩ := bnd hf
  refine Ex.callV (a := 67) (As := []) (r := []) (v := some (.int q1.1)) (h' := q1.2) rfl rfl (by decide) rfl (Nat.le_of_ble_eq_true rfl) rfl (E_421 (Nat.le_trans (by decide) hd) e_q1) rfl ?_
  rcases Classical.em (q1.1 = 0 ∨ q1.1 = 1) with c0 | c0
  · rw [if_pos c0] at hf
    obtain rfl := Option.some.inj hf
    exact Ex.iret rfl rfl (fun _ => c0) hs
  · rw [if_neg c0] at hf
    cases hf
theorem B_456_0 {L : Nat} {xs : Nat → Int32} {d : Nat} (hd : 12 ≤ d) {res : Option Value × sm_H} {x1 : Int32}  {h : sm_H} {r : (Int32 × sm_H)} (hf : F_456_0 x1 h = some r) (hs : (fun (r : Int32 × sm_H) => res = (some (.int r.1), r.2)) r) : Ex (P_G L xs) (RUN L xs d) (sm_lk P_t456) 3 0 [some (.ref 67), some (.int x1)] [] h res := by
  unfold F_456_0 at hf
  refine Ex.seg 1 (pc' := 1) (lc' := [some (.ref 67), some (.int x1)]) (st' := [.ref 67]) (h' := h) (sg1 rfl rfl rfl) ?_
  obtain ⟨q2, e_q2, hf⟩ := bnd hf
  refine Ex.callV (a := 67) (As := []) (r := []) (v := some (.int q2.1)) (h' := q2.2) rfl rfl (by decide) rfl (Nat.le_of_ble_eq_true rfl) rfl (E_418 (Nat.le_trans (by decide) hd) e_q2) rfl ?_
  refine Ex.ifc rfl rfl (fun (c0 : ¬ (q2.1 = 0)) => ?_) (fun (c0 : ¬ ¬ (q2.1 = 0)) => ?_)
  · rw [if_neg c0] at hf
    refine Ex.seg 3 (pc' := 14) (lc' := [some (.ref 67), some (.int x1)]) (st' := [.int 3, .int (q2.2.1 67 80)]) (h' := q2.2) (sg1 rfl rfl (sg1 rfl rfl (sg1 rfl rfl rfl))) ?_
    refine Ex.icmp rfl rfl (fun (c0 : ¬ ((q2.2.1 67 80) = 3)) => ?_) (fun (c0 : ¬ ¬ ((q2.2.1 67 80) = 3)) => ?_)
    · rw [if_neg c0] at hf
      exact Ex.weak (sm_le_s (sm_le_n sm_le_nil)) (B_456_27 hd  hf hs)
    · rw [if_pos (Classical.not_not.mp c0)] at hf
      refine Ex.seg 3 (pc' := 22) (lc' := [some (.ref 67), some (.int x1)]) (st' := [.int x1, .ref 122]) (h' := q2.2) (sg1 rfl rfl (sg1 rfl rfl (sg1 rfl rfl rfl))) ?_
      obtain ⟨v3, e_v3, hf⟩ := bnd hf
      refine Ex.iald e_v3 rfl rfl ?_
      refine Ex.seg 1 (pc' := 24) (lc' := [some (.ref 67), some (.int x1)]) (st' := [.int 3, .int v3]) (h' := q2.2) (sg1 rfl rfl rfl) ?_
      refine Ex.icmp rfl rfl (fun (c0 : ¬ (v3 = 3)) => ?_) (fun (c0 : ¬ ¬ (v3 = 3)) => ?_)
      · rw [if_neg c0] at hf
        refine Ex.seg 1 (pc' := 33) (lc' := [some (.ref 67), some (.int x1)]) (st' := [.ref 67]) (h' := q2.2) (sg1 rfl rfl rfl) ?_
        obtain ⟨q4, e_q4, hf⟩ := bnd hf
        refine Ex.callV (a := 67) (As := []) (r := []) (v := some (.int q4.1)) (h' := q4.2) rfl rfl (by decide) rfl (Nat.le_of_ble_eq_true rfl) rfl (E_425 (Nat.le_trans (by decide) hd) e_q4) rfl ?_
        refine Ex.ifc rfl rfl (fun (c0 : q4.1 = 0) => ?_) (fun (c0 : ¬ (q4.1 = 0)) => ?_)
        · rw [if_pos c0] at hf
          exact Ex.weak (sm_le_n (sm_le_n sm_le_nil)) (B_456_46 hd  hf hs)
        · rw [if_neg c0] at hf
          refine Ex.seg 1 (pc' := 40) (lc' := [some (.ref 67), some (.int x1)]) (st' := [.ref 67]) (h' := q4.2) (sg1 rfl rfl rfl) ?_
          obtain ⟨q5, e_q5, hf⟩ := bnd hf
          refine Ex.callV (a := 67) (As := []) (r := []) (v := some (.int q5.1)) (h' := q5.2) rfl rfl (by decide) rfl (Nat.le_of_ble_eq_true rfl) rfl (E_450 (Nat.le_trans (by decide) hd) e_q5) rfl ?_
          refine Ex.ifc rfl rfl (fun (c0 : ¬ (q5.1 = 0)) => ?_) (fun (c0 : ¬ ¬ (q5.1 = 0)) => ?_)
          · rw [if_neg c0] at hf
            refine Ex.seg 8 (pc' := 60) (lc' := [some (.ref 67), some (.int x1)]) (st' := [.int x1, .ref 122, .int (3 * x1), .ref 126]) (h' := q5.2) (sg1 rfl rfl (sg1 rfl rfl (sg1 rfl rfl (sg1 rfl rfl (sg1 rfl rfl (sg1 rfl rfl (sg1 rfl rfl (sg1 rfl rfl rfl)))))))) ?_
            obtain ⟨v6, e_v6, hf⟩ := bnd hf
            refine Ex.iald e_v6 rfl rfl ?_
            refine Ex.seg 3 (pc' := 66) (lc' := [some (.ref 67), some (.int x1)]) (st' := [.long (q5.2.2.1 67 108), .int ((3 * x1) + v6), .ref 126]) (h' := q5.2) (sg1 rfl rfl (sg1 rfl rfl (sg1 rfl rfl rfl))) ?_
            obtain ⟨h7, e_h7, hf⟩ := bnd hf
            refine Ex.last e_h7 rfl rfl ?_
            refine Ex.seg 4 (pc' := 73) (lc' := [some (.ref 67), some (.int x1)]) (st' := [.int x1, .ref 122, .int x1, .ref 122]) (h' := h7) (sg1 rfl rfl (sg1 rfl rfl (sg1 rfl rfl (sg1 rfl rfl rfl)))) ?_
            obtain ⟨v8, e_v8, hf⟩ := bnd hf
            refine Ex.iald e_v8 rfl rfl ?_
            refine Ex.seg 2 (pc' := 76) (lc' := [some (.ref 67), some (.int x1)]) (st' := [.int (v8 + 1), .int x1, .ref 122]) (h' := h7) (sg1 rfl rfl (sg1 rfl rfl rfl)) ?_
            obtain ⟨h9, e_h9, hf⟩ := bnd hf
            refine Ex.iast e_h9 rfl rfl ?_
            refine Ex.seg 1 (pc' := 78) (lc' := [some (.ref 67), some (.int x1)]) (st' := [.ref 67]) (h' := h9) (sg1 rfl rfl rfl) ?_
            obtain ⟨q10, e_q10, hf⟩ := bnd hf
            refine Ex.callV (a := 67) (As := []) (r := []) (v := some (.int q10.1)) (h' := q10.2) rfl rfl (by decide) rfl (Nat.le_of_ble_eq_true rfl) rfl (E_448 (Nat.le_trans (by decide) hd) e_q10) rfl ?_
            rcases Classical.em (q10.1 = 0 ∨ q10.1 = 1) with c0 | c0
            · rw [if_pos c0] at hf
              obtain rfl := Option.some.inj hf
              exact Ex.iret rfl rfl (fun _ => c0) hs
            · rw [if_neg c0] at hf
              cases hf
          · rw [if_pos (Classical.not_not.mp c0)] at hf
            exact Ex.weak (sm_le_n (sm_le_n sm_le_nil)) (B_456_46 hd  hf hs)
      · rw [if_pos (Classical.not_not.mp c0)] at hf
        exact Ex.weak (sm_le_s (sm_le_n sm_le_nil)) (B_456_27 hd  hf hs)
  · rw [if_pos (Classical.not_not.mp c0)] at hf
    refine Ex.seg 1 (pc' := 8) (lc' := [some (.ref 67), some (.int x1)]) (st' := [.int 0]) (h' := q2.2) (sg1 rfl rfl rfl) ?_
    obtain rfl := Option.some.inj hf
    exact Ex.iret rfl rfl (fun _ => by decide) hs
theorem E_456 {L : Nat} {xs : Nat → Int32} {d : Nat} (hd : 13 ≤ d) {x1 : Int32} {h : sm_H} {r : Int32 × sm_H} (hf : F_456 x1 h = some r) : RUN L xs d 456 [.ref 67, .int x1] h (some (.int r.1), r.2) := by
  obtain ⟨d, rfl⟩ : ∃ e, d = e + 1 := ⟨d - 1, by omega⟩
  exact ⟨Nat.le_of_ble_eq_true rfl, B_456_0 (by omega) hf rfl⟩
theorem B_460_745 {L : Nat} {xs : Nat → Int32} {d : Nat} (hd : 11 ≤ d) {res : Option Value × sm_H} {z0 : Int32}  {h : sm_H} {r : (Int32 × sm_H)} (hf : F_460_745 z0 h = some r) (hs : (fun (r : Int32 × sm_H) => res = (some (.int r.1), r.2)) r) : Ex (P_G L xs) (RUN L xs d) (sm_lk P_t460) 0 745 [none, none, none, none, none, none, none, none, none] [.int z0] h res := by
  unfold F_460_745 at hf
  obtain rfl := Option.some.inj hf
  exact Ex.iret rfl rfl (fun c0 => by cases c0) hs
theorem B_460_649 {L : Nat} {xs : Nat → Int32} {d : Nat} (hd : 11 ≤ d) {res : Option Value × sm_H} {y5 : Int32} {z0 : Int32}  {h : sm_H} {r : (Int32 × sm_H)} (hf : F_460_649 y5 z0 h = some r) (hs : (fun (r : Int32 × sm_H) => res = (some (.int r.1), r.2)) r) : Ex (P_G L xs) (RUN L xs d) (sm_lk P_t460) 0 649 [some (.ref 67), none, none, none, none, some (.int y5), none, none, none] [.int z0] h res := by
  unfold F_460_649 at hf
  refine Ex.seg 7 (pc' := 659) (lc' := [some (.ref 67), none, none, none, none, some (.int y5), some (.int z0), none, none]) (st' := [.long 0, .int 0, .int y5, .int 31, .ref 67, .ref 67]) (h' := h) (sg1 rfl rfl (sg1 rfl rfl (sg1 rfl rfl (sg1 rfl rfl (sg1 rfl rfl (sg1 rfl rfl (sg1 rfl rfl rfl))))))) ?_
  obtain ⟨q1, e_q1, hf⟩ := bnd hf
  refine Ex.callV (a := 67) (As := [.int 31, .int y5, .int 0, .long 0]) (r := [.ref 67]) (v := some (.int q1.1)) (h' := q1.2) rfl rfl (by decide) rfl (Nat.le_of_ble_eq_true rfl) rfl (E_430 (Nat.le_trans (by decide) hd) e_q1) rfl ?_
  refine Ex.seg 1 (pc' := 664) (lc' := [some (.ref 67), none, none, none, none, some (.int y5), some (.int z0), none, none]) (st' := [.int z0, .int q1.1, .ref 67]) (h' := q1.2) (sg1 rfl rfl rfl) ?_
  obtain ⟨q2, e_q2, hf⟩ := bnd hf
  refine Ex.callV (a := 67) (As := [.int q1.1, .int z0]) (r := []) (v := some (.int q2.1)) (h' := q2.2) rfl rfl (by decide) rfl (Nat.le_of_ble_eq_true rfl) rfl (E_436 (Nat.le_trans (by decide) hd) e_q2) rfl ?_
  obtain rfl := Option.some.inj hf
  exact Ex.iret rfl rfl (fun c0 => by cases c0) hs
theorem B_460_601 {L : Nat} {xs : Nat → Int32} {d : Nat} (hd : 11 ≤ d) {res : Option Value × sm_H} {y2 : Int32} {y6 : Int32} {z0 : Int32}  {h : sm_H} {r : (Int32 × sm_H)} (hf : F_460_601 y2 y6 z0 h = some r) (hs : (fun (r : Int32 × sm_H) => res = (some (.int r.1), r.2)) r) : Ex (P_G L xs) (RUN L xs d) (sm_lk P_t460) 0 601 [some (.ref 67), none, some (.int y2), none, none, none, some (.int y6), none, none] [.int z0] h res := by
  unfold F_460_601 at hf
  refine Ex.seg 6 (pc' := 609) (lc' := [some (.ref 67), none, some (.int y2), none, none, none, some (.int y6), some (.int z0), none]) (st' := [.int y2, .ref 67, .int 23, .ref 67, .ref 67]) (h' := h) (sg1 rfl rfl (sg1 rfl rfl (sg1 rfl rfl (sg1 rfl rfl (sg1 rfl rfl (sg1 rfl rfl rfl)))))) ?_
  obtain ⟨q3, e_q3, hf⟩ := bnd hf
  refine Ex.callV (a := 67) (As := [.int y2]) (r := [.int 23, .ref 67, .ref 67]) (v := some (.int q3.1)) (h' := q3.2) rfl rfl (by decide) rfl (Nat.le_of_ble_eq_true rfl) rfl (E_307 (Nat.le_trans (by decide) hd) e_q3) rfl ?_
  refine Ex.seg 2 (pc' := 614) (lc' := [some (.ref 67), none, some (.int y2), none, none, none, some (.int y6), some (.int z0), none]) (st' := [.long 0, .int 0, .int q3.1, .int 23, .ref 67, .ref 67]) (h' := q3.2) (sg1 rfl rfl (sg1 rfl rfl rfl)) ?_
  obtain ⟨q4, e_q4, hf⟩ := bnd hf
  refine Ex.callV (a := 67) (As := [.int 23, .int q3.1, .int 0, .long 0]) (r := [.ref 67]) (v := some (.int q4.1)) (h' := q4.2) rfl rfl (by decide) rfl (Nat.le_of_ble_eq_true rfl) rfl (E_430 (Nat.le_trans (by decide) hd) e_q4) rfl ?_
  refine Ex.seg 3 (pc' := 622) (lc' := [some (.ref 67), none, some (.int y2), none, none, none, some (.int y6), some (.int z0), none]) (st' := [.int z0, .int y6, .int y2, .int q4.1, .ref 67]) (h' := q4.2) (sg1 rfl rfl (sg1 rfl rfl (sg1 rfl rfl rfl))) ?_
  obtain ⟨q5, e_q5, hf⟩ := bnd hf
  refine Ex.callV (a := 67) (As := [.int q4.1, .int y2, .int y6, .int z0]) (r := []) (v := some (.int q5.1)) (h' := q5.2) rfl rfl (by decide) rfl (Nat.le_of_ble_eq_true rfl) rfl (E_438 (Nat.le_trans (by decide) hd) e_q5) rfl ?_
  obtain rfl := Option.some.inj hf
  exact Ex.iret rfl rfl (fun c0 => by cases c0) hs
theorem B_460_575 {L : Nat} {xs : Nat → Int32} {d : Nat} (hd : 11 ≤ d) {res : Option Value × sm_H} {y2 : Int32} {y4 : Int32} {z0 : Int32}  {h : sm_H} {r : (Int32 × sm_H)} (hf : F_460_575 y2 y4 z0 h = some r) (hs : (fun (r : Int32 × sm_H) => res = (some (.int r.1), r.2)) r) : Ex (P_G L xs) (RUN L xs d) (sm_lk P_t460) 0 575 [some (.ref 67), none, some (.int y2), none, some (.int y4), none, none, none, none] [.int z0] h res := by
  unfold F_460_575 at hf
  refine Ex.seg 3 (pc' := 580) (lc' := [some (.ref 67), none, some (.int y2), none, some (.int y4), none, some (.int z0), none, none]) (st' := [.int (-1), .int z0]) (h' := h) (sg1 rfl rfl (sg1 rfl rfl (sg1 rfl rfl rfl))) ?_
  refine Ex.icmp rfl rfl (fun (c0 : ¬ (z0 = (-1))) => ?_) (fun (c0 : ¬ ¬ (z0 = (-1))) => ?_)
  · rw [if_neg c0] at hf
    refine Ex.seg 4 (pc' := 592) (lc' := [some (.ref 67), none, some (.int y2), none, some (.int y4), none, some (.int z0), none, none]) (st' := [.int y2, .ref 67, .int y4, .ref 67]) (h' := h) (sg1 rfl rfl (sg1 rfl rfl (sg1 rfl rfl (sg1 rfl rfl rfl)))) ?_
    obtain ⟨q6, e_q6, hf⟩ := bnd hf
    refine Ex.callV (a := 67) (As := [.int y2]) (r := [.int y4, .ref 67]) (v := some (.int q6.1)) (h' := q6.2) rfl rfl (by decide) rfl (Nat.le_of_ble_eq_true rfl) rfl (E_307 (Nat.le_trans (by decide) hd) e_q6) rfl ?_
    obtain ⟨q7, e_q7, hf⟩ := bnd hf
    refine Ex.callS (As := [.int q6.1]) (r := [.int y4, .ref 67]) (v := some (.int q7.1)) (h' := q7.2) rfl rfl rfl rfl (Nat.le_of_ble_eq_true rfl) (E_294 (Nat.le_trans (by decide) hd) e_q7) rfl ?_
    obtain ⟨q8, e_q8, hf⟩ := bnd hf
    refine Ex.callV (a := 67) (As := [.int y4, .int q7.1]) (r := []) (v := some (.int q8.1)) (h' := q8.2) rfl rfl (by decide) rfl (Nat.le_of_ble_eq_true rfl) rfl (E_433 (Nat.le_trans (by decide) hd) e_q8) rfl ?_
    exact Ex.weak (sm_le_s (sm_le_s (sm_le_s (sm_le_s (sm_le_n (sm_le_s (sm_le_s (sm_le_s (sm_le_s sm_le_nil))))))))) (B_460_601 hd  hf hs)
  · rw [if_pos (Classical.not_not.mp c0)] at hf
    refine Ex.seg 2 (pc' := 601) (lc' := [some (.ref 67), none, some (.int y2), none, some (.int y4), none, some (.int z0), none, none]) (st' := [.int (-1)]) (h' := h) (sg1 rfl rfl (sg1 rfl rfl rfl)) ?_
    exact Ex.weak (sm_le_s (sm_le_s (sm_le_s (sm_le_s (sm_le_n (sm_le_s (sm_le_s (sm_le_s (sm_le_s sm_le_nil))))))))) (B_460_601 hd  hf hs)
theorem B_460_527 {L : Nat} {xs : Nat → Int32} {d : Nat} (hd : 11 ≤ d) {res : Option Value × sm_H} {y2 : Int32} {z0 : Int32}  {h : sm_H} {r : (Int32 × sm_H)} (hf : F_460_527 y2 z0 h = some r) (hs : (fun (r : Int32 × sm_H) => res = (some (.int r.1), r.2)) r) : Ex (P_G L xs) (RUN L xs d) (sm_lk P_t460) 0 527 [some (.ref 67), none, some (.int y2), none, none, none, none, none, none] [.int z0] h res := by
  unfold F_460_527 at hf
  refine Ex.seg 6 (pc' := 535) (lc' := [some (.ref 67), none, some (.int y2), none, none, none, some (.int z0), none, none]) (st' := [.int y2, .ref 67, .int 22, .ref 67, .ref 67]) (h' := h) (sg1 rfl rfl (sg1 rfl rfl (sg1 rfl rfl (sg1 rfl rfl (sg1 rfl rfl (sg1 rfl rfl rfl)))))) ?_
  obtain ⟨q9, e_q9, hf⟩ := bnd hf
  refine Ex.callV (a := 67) (As := [.int y2]) (r := [.int 22, .ref 67, .ref 67]) (v := some (.int q9.1)) (h' := q9.2) rfl rfl (by decide) rfl (Nat.le_of_ble_eq_true rfl) rfl (E_307 (Nat.le_trans (by decide) hd) e_q9) rfl ?_
  refine Ex.seg 2 (pc' := 540) (lc' := [some (.ref 67), none, some (.int y2), none, none, none, some (.int z0), none, none]) (st' := [.long 0, .int 0, .int q9.1, .int 22, .ref 67, .ref 67]) (h' := q9.2) (sg1 rfl rfl (sg1 rfl rfl rfl)) ?_
  obtain ⟨q10, e_q10, hf⟩ := bnd hf
  refine Ex.callV (a := 67) (As := [.int 22, .int q9.1, .int 0, .long 0]) (r := [.ref 67]) (v := some (.int q10.1)) (h' := q10.2) rfl rfl (by decide) rfl (Nat.le_of_ble_eq_true rfl) rfl (E_430 (Nat.le_trans (by decide) hd) e_q10) rfl ?_
  refine Ex.seg 2 (pc' := 546) (lc' := [some (.ref 67), none, some (.int y2), none, none, none, some (.int z0), none, none]) (st' := [.int z0, .int y2, .int q10.1, .ref 67]) (h' := q10.2) (sg1 rfl rfl (sg1 rfl rfl rfl)) ?_
  obtain ⟨q11, e_q11, hf⟩ := bnd hf
  refine Ex.callV (a := 67) (As := [.int q10.1, .int y2, .int z0]) (r := []) (v := some (.int q11.1)) (h' := q11.2) rfl rfl (by decide) rfl (Nat.le_of_ble_eq_true rfl) rfl (E_437 (Nat.le_trans (by decide) hd) e_q11) rfl ?_
  obtain rfl := Option.some.inj hf
  exact Ex.iret rfl rfl (fun c0 => by cases c0) hs
theorem B_460_501 {L : Nat} {xs : Nat → Int32} {d : Nat} (hd : 11 ≤ d) {res : Option Value × sm_H} {z0 : Int32}  {h : sm_H} {r : (Int32 × sm_H)} (hf : F_460_501 z0 h = some r) (hs : (fun (r : Int32 × sm_H) => res = (some (.int r.1), r.2)) r) : Ex (P_G L xs) (RUN L xs d) (sm_lk P_t460) 0 501 [none, none, none, none, none, none, none, none, none] [.int z0] h res := by
  unfold F_460_501 at hf
  obtain rfl := Option.some.inj hf
  exact Ex.iret rfl rfl (fun c0 => by cases c0) hs
theorem B_460_445 {L : Nat} {xs : Nat → Int32} {d : Nat} (hd : 11 ≤ d) {res : Option Value × sm_H} {y5 : Int32} {z0 : Int32}  {h : sm_H} {r : (Int32 × sm_H)} (hf : F_460_445 y5 z0 h = some r) (hs : (fun (r : Int32 × sm_H) => res = (some (.int r.1), r.2)) r) : Ex (P_G L xs) (RUN L xs d) (sm_lk P_t460) 0 445 [some (.ref 67), none, none, none, none, some (.int y5), none, none, none] [.int z0] h res := by
  unfold F_460_445 at hf
  refine Ex.seg 7 (pc' := 455) (lc' := [some (.ref 67), none, none, none, none, some (.int y5), some (.int z0), none, none]) (st' := [.long 0, .int 0, .int y5, .int 20, .ref 67, .ref 67]) (h' := h) (sg1 rfl rfl (sg1 rfl rfl (sg1 rfl rfl (sg1 rfl rfl (sg1 rfl rfl (sg1 rfl rfl (sg1 rfl rfl rfl))))))) ?_
  obtain ⟨q12, e_q12, hf⟩ := bnd hf
  refine Ex.callV (a := 67) (As := [.int 20, .int y5, .int 0, .long 0]) (r := [.ref 67]) (v := some (.int q12.1)) (h' := q12.2) rfl rfl (by decide) rfl (Nat.le_of_ble_eq_true rfl) rfl (E_430 (Nat.le_trans (by decide) hd) e_q12) rfl ?_
  refine Ex.seg 1 (pc' := 460) (lc' := [some (.ref 67), none, none, none, none, some (.int y5), some (.int z0), none, none]) (st' := [.int z0, .int q12.1, .ref 67]) (h' := q12.2) (sg1 rfl rfl rfl) ?_
  obtain ⟨q13, e_q13, hf⟩ := bnd hf
  refine Ex.callV (a := 67) (As := [.int q12.1, .int z0]) (r := []) (v := some (.int q13.1)) (h' := q13.2) rfl rfl (by decide) rfl (Nat.le_of_ble_eq_true rfl) rfl (E_436 (Nat.le_trans (by decide) hd) e_q13) rfl ?_
  obtain rfl := Option.some.inj hf
  exact Ex.iret rfl rfl (fun c0 => by cases c0) hs
theorem B_460_422 {L : Nat} {xs : Nat → Int32} {d : Nat} (hd : 11 ≤ d) {res : Option Value × sm_H} {z0 : Int32}  {h : sm_H} {r : (Int32 × sm_H)} (hf : F_460_422 z0 h = some r) (hs : (fun (r : Int32 × sm_H) => res = (some (.int r.1), r.2)) r) : Ex (P_G L xs) (RUN L xs d) (sm_lk P_t460) 0 422 [none, none, none, none, none, none, none, none, none] [.int z0] h res := by
  unfold F_460_422 at hf
  obtain rfl := Option.some.inj hf
  exact Ex.iret rfl rfl (fun c0 => by cases c0) hs
theorem B_460_390 {L : Nat} {xs : Nat → Int32} {d : Nat} (hd : 11 ≤ d) {res : Option Value × sm_H} {z0 : Int32}  {h : sm_H} {r : (Int32 × sm_H)} (hf : F_460_390 z0 h = some r) (hs : (fun (r : Int32 × sm_H) => res = (some (.int r.1), r.2)) r) : Ex (P_G L xs) (RUN L xs d) (sm_lk P_t460) 0 390 [none, none, none, none, none, none, none, none, none] [.int z0] h res := by
  unfold F_460_390 at hf
  obtain rfl := Option.some.inj hf
  exact Ex.iret rfl rfl (fun c0 => by cases c0) hs
theorem B_460_368 {L : Nat} {xs : Nat → Int32} {d : Nat} (hd : 11 ≤ d) {res : Option Value × sm_H} {y2 : Int32} {z0 : Int32}  {h : sm_H} {r : (Int32 × sm_H)} (hf : F_460_368 y2 z0 h = some r) (hs : (fun (r : Int32 × sm_H) => res = (some (.int r.1), r.2)) r) : Ex (P_G L xs) (RUN L xs d) (sm_lk P_t460) 0 368 [some (.ref 67), none, some (.int y2), none, none, none, none, none, none] [.int z0] h res := by
  unfold F_460_368 at hf
  refine Ex.seg 3 (pc' := 373) (lc' := [some (.ref 67), none, some (.int y2), none, none, none, some (.int z0), none, none]) (st' := [.int (-1), .int z0]) (h' := h) (sg1 rfl rfl (sg1 rfl rfl (sg1 rfl rfl rfl))) ?_
  refine Ex.icmp rfl rfl (fun (c0 : ¬ (z0 = (-1))) => ?_) (fun (c0 : ¬ ¬ (z0 = (-1))) => ?_)
  · rw [if_neg c0] at hf
    refine Ex.seg 5 (pc' := 387) (lc' := [some (.ref 67), none, some (.int y2), none, none, none, some (.int z0), none, none]) (st' := [.int y2, .int z0, .int 0, .int 13, .ref 67]) (h' := h) (sg1 rfl rfl (sg1 rfl rfl (sg1 rfl rfl (sg1 rfl rfl (sg1 rfl rfl rfl))))) ?_
    obtain ⟨q14, e_q14, hf⟩ := bnd hf
    refine Ex.callV (a := 67) (As := [.int 13, .int 0, .int z0, .int y2]) (r := []) (v := some (.int q14.1)) (h' := q14.2) rfl rfl (by decide) rfl (Nat.le_of_ble_eq_true rfl) rfl (E_431 (Nat.le_trans (by decide) hd) e_q14) rfl ?_
    exact Ex.weak (sm_le_n (sm_le_s (sm_le_n (sm_le_s (sm_le_s (sm_le_s (sm_le_n (sm_le_s (sm_le_s sm_le_nil))))))))) (B_460_390 hd  hf hs)
  · rw [if_pos (Classical.not_not.mp c0)] at hf
    refine Ex.seg 2 (pc' := 390) (lc' := [some (.ref 67), none, some (.int y2), none, none, none, some (.int z0), none, none]) (st' := [.int (-1)]) (h' := h) (sg1 rfl rfl (sg1 rfl rfl rfl)) ?_
    exact Ex.weak (sm_le_n (sm_le_s (sm_le_n (sm_le_s (sm_le_s (sm_le_s (sm_le_n (sm_le_s (sm_le_s sm_le_nil))))))))) (B_460_390 hd  hf hs)
theorem B_460_358 {L : Nat} {xs : Nat → Int32} {d : Nat} (hd : 11 ≤ d) {res : Option Value × sm_H} {y2 : Int32} {y5 : Int32}  {h : sm_H} {r : (Int32 × sm_H)} (hf : F_460_358 y2 y5 h = some r) (hs : (fun (r : Int32 × sm_H) => res = (some (.int r.1), r.2)) r) : Ex (P_G L xs) (RUN L xs d) (sm_lk P_t460) 0 358 [some (.ref 67), none, some (.int y2), none, none, some (.int y5), none, none, none] [] h res := by
  unfold F_460_358 at hf
  refine Ex.seg 2 (pc' := 361) (lc' := [some (.ref 67), none, some (.int y2), none, none, some (.int y5), none, none, none]) (st' := [.int y5, .ref 67]) (h' := h) (sg1 rfl rfl (sg1 rfl rfl rfl)) ?_
  obtain ⟨q15, e_q15, hf⟩ := bnd hf
  refine Ex.callV (a := 67) (As := [.int y5]) (r := []) (v := some (.int q15.1)) (h' := q15.2) rfl rfl (by decide) rfl (Nat.le_of_ble_eq_true rfl) rfl (E_428 (Nat.le_trans (by decide) hd) e_q15) rfl ?_
  refine Ex.seg 1 (pc' := 368) (lc' := [some (.ref 67), none, some (.int y2), none, none, some (.int y5), none, none, none]) (st' := [.int q15.1]) (h' := q15.2) (sg1 rfl rfl rfl) ?_
  exact Ex.weak (sm_le_s (sm_le_s (sm_le_s (sm_le_s (sm_le_s (sm_le_n (sm_le_s (sm_le_s (sm_le_s sm_le_nil))))))))) (B_460_368 hd  hf hs)
theorem B_460_198 {L : Nat} {xs : Nat → Int32} {d : Nat} (hd : 11 ≤ d) {res : Option Value × sm_H} {y2 : Int32} {y3 : Int32} {y5 : Int32} {z0 : Int32}  {h : sm_H} {r : (Int32 × sm_H)} (hf : F_460_198 y2 y3 y5 z0 h = some r) (hs : (fun (r : Int32 × sm_H) => res = (some (.int r.1), r.2)) r) : Ex (P_G L xs) (RUN L xs d) (sm_lk P_t460) 0 198 [some (.ref 67), none, some (.int y2), some (.int y3), none, some (.int y5), none, none, none] [.int z0] h res := by
  unfold F_460_198 at hf
  refine Ex.seg 4 (pc' := 204) (lc' := [some (.ref 67), none, some (.int y2), some (.int y3), none, some (.int y5), some (.int z0), none, none]) (st' := [.int z0, .int y2, .ref 67]) (h' := h) (sg1 rfl rfl (sg1 rfl rfl (sg1 rfl rfl (sg1 rfl rfl rfl)))) ?_
  obtain ⟨q16, e_q16, hf⟩ := bnd hf
  refine Ex.callV (a := 67) (As := [.int y2, .int z0]) (r := []) (v := some (.int q16.1)) (h' := q16.2) rfl rfl (by decide) rfl (Nat.le_of_ble_eq_true rfl) rfl (E_433 (Nat.le_trans (by decide) hd) e_q16) rfl ?_
  refine Ex.seg 4 (pc' := 213) (lc' := [some (.ref 67), none, some (.int y2), some (.int y3), none, some (.int y5), some (.int z0), some (.int q16.1), none]) (st' := [.int z0, .int y3, .ref 67]) (h' := q16.2) (sg1 rfl rfl (sg1 rfl rfl (sg1 rfl rfl (sg1 rfl rfl rfl)))) ?_
  obtain ⟨q17, e_q17, hf⟩ := bnd hf
  refine Ex.callV (a := 67) (As := [.int y3, .int z0]) (r := []) (v := some (.int q17.1)) (h' := q17.2) rfl rfl (by decide) rfl (Nat.le_of_ble_eq_true rfl) rfl (E_433 (Nat.le_trans (by decide) hd) e_q17) rfl ?_
  refine Ex.seg 7 (pc' := 226) (lc' := [some (.ref 67), none, some (.int y2), some (.int y3), none, some (.int y5), some (.int z0), some (.int q16.1), some (.int q17.1)]) (st' := [.long 0, .int z0, .int y5, .int 3, .ref 67, .ref 67]) (h' := q17.2) (sg1 rfl rfl (sg1 rfl rfl (sg1 rfl rfl (sg1 rfl rfl (sg1 rfl rfl (sg1 rfl rfl (sg1 rfl rfl rfl))))))) ?_
  obtain ⟨q18, e_q18, hf⟩ := bnd hf
  refine Ex.callV (a := 67) (As := [.int 3, .int y5, .int z0, .long 0]) (r := [.ref 67]) (v := some (.int q18.1)) (h' := q18.2) rfl rfl (by decide) rfl (Nat.le_of_ble_eq_true rfl) rfl (E_430 (Nat.le_trans (by decide) hd) e_q18) rfl ?_
  refine Ex.seg 2 (pc' := 233) (lc' := [some (.ref 67), none, some (.int y2), some (.int y3), none, some (.int y5), some (.int z0), some (.int q16.1), some (.int q17.1)]) (st' := [.int q17.1, .int q16.1, .int q18.1, .ref 67]) (h' := q18.2) (sg1 rfl rfl (sg1 rfl rfl rfl)) ?_
  obtain ⟨q19, e_q19, hf⟩ := bnd hf
  refine Ex.callV (a := 67) (As := [.int q18.1, .int q16.1, .int q17.1]) (r := []) (v := some (.int q19.1)) (h' := q19.2) rfl rfl (by decide) rfl (Nat.le_of_ble_eq_true rfl) rfl (E_437 (Nat.le_trans (by decide) hd) e_q19) rfl ?_
  obtain rfl := Option.some.inj hf
  exact Ex.iret rfl rfl (fun c0 => by cases c0) hs
theorem B_460_192 {L : Nat} {xs : Nat → Int32} {d : Nat} (hd : 11 ≤ d) {res : Option Value × sm_H} {y2 : Int32} {y3 : Int32} {y5 : Int32}  {h : sm_H} {r : (Int32 × sm_H)} (hf : F_460_192 y2 y3 y5 h = some r) (hs : (fun (r : Int32 × sm_H) => res = (some (.int r.1), r.2)) r) : Ex (P_G L xs) (RUN L xs d) (sm_lk P_t460) 0 192 [some (.ref 67), none, some (.int y2), some (.int y3), none, some (.int y5), none, none, none] [] h res := by
  unfold F_460_192 at hf
  refine Ex.seg 2 (pc' := 198) (lc' := [some (.ref 67), none, some (.int y2), some (.int y3), none, some (.int y5), none, none, none]) (st' := [.int 6]) (h' := h) (sg1 rfl rfl (sg1 rfl rfl rfl)) ?_
  exact Ex.weak (sm_le_s (sm_le_s (sm_le_s (sm_le_s (sm_le_s (sm_le_s (sm_le_s (sm_le_s (sm_le_s sm_le_nil))))))))) (B_460_198 hd  hf hs)
theorem B_460_74 {L : Nat} {xs : Nat → Int32} {d : Nat} (hd : 11 ≤ d) {res : Option Value × sm_H} {y1 : Int32} {y2 : Int32} {y3 : Int32} {z0 : Int32}  {h : sm_H} {r : (Int32 × sm_H)} (hf : F_460_74 y1 y2 y3 z0 h = some r) (hs : (fun (r : Int32 × sm_H) => res = (some (.int r.1), r.2)) r) : Ex (P_G L xs) (RUN L xs d) (sm_lk P_t460) 0 74 [some (.ref 67), some (.int y1), some (.int y2), some (.int y3), none, none, none, none, none] [.int z0] h res := by
  unfold F_460_74 at hf
  refine Ex.seg 4 (pc' := 81) (lc' := [some (.ref 67), some (.int y1), some (.int y2), some (.int y3), some (.int z0), none, none, none, none]) (st' := [.int y1, .ref 122]) (h' := h) (sg1 rfl rfl (sg1 rfl rfl (sg1 rfl rfl (sg1 rfl rfl rfl)))) ?_
  obtain ⟨v20, e_v20, hf⟩ := bnd hf
  refine Ex.iald e_v20 rfl rfl ?_
  refine Ex.seg 4 (pc' := 89) (lc' := [some (.ref 67), some (.int y1), some (.int y2), some (.int y3), some (.int z0), some (.int v20), none, none, none]) (st' := [.int y1, .ref 119]) (h' := h) (sg1 rfl rfl (sg1 rfl rfl (sg1 rfl rfl (sg1 rfl rfl rfl)))) ?_
  obtain ⟨v21, e_v21, hf⟩ := bnd hf
  refine Ex.iald e_v21 rfl rfl ?_
  rcases Classical.em (v21 = 1) with n1 | n1
  · rw [if_pos n1] at hf
    refine Ex.swt (t := 172) rfl rfl (by rw [n1]; exact Or.inr ⟨by decide, by decide, _, rfl, by decide⟩) ?_
    refine Ex.seg 2 (pc' := 174) (lc' := [some (.ref 67), some (.int y1), some (.int y2), some (.int y3), some (.int z0), some (.int v20), none, none, none]) (st' := [.int y2, .ref 67]) (h' := h) (sg1 rfl rfl (sg1 rfl rfl rfl)) ?_
    obtain ⟨q22, e_q22, hf⟩ := bnd hf
    refine Ex.callV (a := 67) (As := [.int y2]) (r := []) (v := some (.int q22.1)) (h' := q22.2) rfl rfl (by decide) rfl (Nat.le_of_ble_eq_true rfl) rfl (E_459 (Nat.le_trans (by decide) hd) e_q22) rfl ?_
    refine Ex.seg 1 (pc' := 179) (lc' := [some (.ref 67), some (.int y1), some (.int y2), some (.int y3), some (.int z0), some (.int v20), none, none, none]) (st' := [.int 6, .int q22.1]) (h' := q22.2) (sg1 rfl rfl rfl) ?_
    refine Ex.icmp rfl rfl (fun (c0 : q22.1 = 6) => ?_) (fun (c0 : ¬ (q22.1 = 6)) => ?_)
    · rw [if_pos c0] at hf
      exact Ex.weak (sm_le_s (sm_le_n (sm_le_s (sm_le_s (sm_le_n (sm_le_s (sm_le_s (sm_le_s (sm_le_s sm_le_nil))))))))) (B_460_192 hd  hf hs)
    · rw [if_neg c0] at hf
      refine Ex.seg 2 (pc' := 184) (lc' := [some (.ref 67), some (.int y1), some (.int y2), some (.int y3), some (.int z0), some (.int v20), none, none, none]) (st' := [.int y3, .ref 67]) (h' := q22.2) (sg1 rfl rfl (sg1 rfl rfl rfl)) ?_
      obtain ⟨q23, e_q23, hf⟩ := bnd hf
      refine Ex.callV (a := 67) (As := [.int y3]) (r := []) (v := some (.int q23.1)) (h' := q23.2) rfl rfl (by decide) rfl (Nat.le_of_ble_eq_true rfl) rfl (E_459 (Nat.le_trans (by decide) hd) e_q23) rfl ?_
      refine Ex.seg 1 (pc' := 189) (lc' := [some (.ref 67), some (.int y1), some (.int y2), some (.int y3), some (.int z0), some (.int v20), none, none, none]) (st' := [.int 6, .int q23.1]) (h' := q23.2) (sg1 rfl rfl rfl) ?_
      refine Ex.icmp rfl rfl (fun (c0 : ¬ (q23.1 = 6)) => ?_) (fun (c0 : ¬ ¬ (q23.1 = 6)) => ?_)
      · rw [if_neg c0] at hf
        refine Ex.seg 1 (pc' := 198) (lc' := [some (.ref 67), some (.int y1), some (.int y2), some (.int y3), some (.int z0), some (.int v20), none, none, none]) (st' := [.int 5]) (h' := q23.2) (sg1 rfl rfl rfl) ?_
        exact Ex.weak (sm_le_s (sm_le_n (sm_le_s (sm_le_s (sm_le_n (sm_le_s (sm_le_s (sm_le_s (sm_le_s sm_le_nil))))))))) (B_460_198 hd  hf hs)
      · rw [if_pos (Classical.not_not.mp c0)] at hf
        exact Ex.weak (sm_le_s (sm_le_n (sm_le_s (sm_le_s (sm_le_n (sm_le_s (sm_le_s (sm_le_s (sm_le_s sm_le_nil))))))))) (B_460_192 hd  hf hs)
  rw [if_neg n1] at hf
  rcases Classical.em (v21 = 2) with n2 | n2
  · rw [if_pos n2] at hf
    refine Ex.swt (t := 237) rfl rfl (by rw [n2]; exact Or.inr ⟨by decide, by decide, _, rfl, by decide⟩) ?_
    refine Ex.seg 4 (pc' := 242) (lc' := [some (.ref 67), some (.int y1), some (.int y2), some (.int y3), some (.int z0), some (.int v20), none, none, none]) (st' := [.int z0, .int y3, .int y2, .ref 67]) (h' := h) (sg1 rfl rfl (sg1 rfl rfl (sg1 rfl rfl (sg1 rfl rfl rfl)))) ?_
    obtain ⟨q24, e_q24, hf⟩ := bnd hf
    refine Ex.callV (a := 67) (As := [.int y2, .int y3, .int z0]) (r := []) (v := some (.int q24.1)) (h' := q24.2) rfl rfl (by decide) rfl (Nat.le_of_ble_eq_true rfl) rfl (E_461 (Nat.le_trans (by decide) hd) e_q24) rfl ?_
    obtain rfl := Option.some.inj hf
    exact Ex.iret rfl rfl (fun c0 => by cases c0) hs
  rw [if_neg n2] at hf
  rcases Classical.em (v21 = 3) with n3 | n3
  · rw [if_pos n3] at hf
    refine Ex.swt (t := 246) rfl rfl (by rw [n3]; exact Or.inr ⟨by decide, by decide, _, rfl, by decide⟩) ?_
    refine Ex.seg 4 (pc' := 252) (lc' := [some (.ref 67), some (.int y1), some (.int y2), some (.int y3), some (.int z0), some (.int v20), none, none, none]) (st' := [.int y1, .ref 123, .ref 67]) (h' := h) (sg1 rfl rfl (sg1 rfl rfl (sg1 rfl rfl (sg1 rfl rfl rfl)))) ?_
    obtain ⟨v25, e_v25, hf⟩ := bnd hf
    refine Ex.iald e_v25 rfl rfl ?_
    refine Ex.seg 1 (pc' := 256) (lc' := [some (.ref 67), some (.int y1), some (.int y2), some (.int y3), some (.int z0), some (.int v20), none, none, none]) (st' := []) (h' := (sm_wI h 67 94 v25)) (sg1 rfl rfl rfl) ?_
    obtain ⟨h26, e_h26, hf⟩ := bnd hf
    rw [Option.some.inj e_h26]
    refine Ex.seg 5 (pc' := 262) (lc' := [some (.ref 67), some (.int y1), some (.int y2), some (.int y3), some (.int z0), some (.int v20), none, none, none]) (st' := [.int y2, .int y3, .int 0, .int 8, .ref 67]) (h' := h26) (sg1 rfl rfl (sg1 rfl rfl (sg1 rfl rfl (sg1 rfl rfl (sg1 rfl rfl rfl))))) ?_
    obtain ⟨q27, e_q27, hf⟩ := bnd hf
    refine Ex.callV (a := 67) (As := [.int 8, .int 0, .int y3, .int y2]) (r := []) (v := some (.int q27.1)) (h' := q27.2) rfl rfl (by decide) rfl (Nat.le_of_ble_eq_true rfl) rfl (E_432 (Nat.le_trans (by decide) hd) e_q27) rfl ?_
    obtain rfl := Option.some.inj hf
    exact Ex.iret rfl rfl (fun c0 => by cases c0) hs
  rw [if_neg n3] at hf
  rcases Classical.em (v21 = 4) with n4 | n4
  · rw [if_pos n4] at hf
    refine Ex.swt (t := 266) rfl rfl (by rw [n4]; exact Or.inr ⟨by decide, by decide, _, rfl, by decide⟩) ?_
    refine Ex.seg 7 (pc' := 274) (lc' := [some (.ref 67), some (.int y1), some (.int y2), some (.int y3), some (.int z0), some (.int v20), none, none, none]) (st' := [.int 0, .int y2, .ref 67, .int y3, .int 0, .int 8, .ref 67]) (h' := h) (sg1 rfl rfl (sg1 rfl rfl (sg1 rfl rfl (sg1 rfl rfl (sg1 rfl rfl (sg1 rfl rfl (sg1 rfl rfl rfl))))))) ?_
    obtain ⟨q28, e_q28, hf⟩ := bnd hf
    refine Ex.callV (a := 67) (As := [.int y2, .int 0]) (r := [.int y3, .int 0, .int 8, .ref 67]) (v := some (.int q28.1)) (h' := q28.2) rfl rfl (by decide) rfl (Nat.le_of_ble_eq_true rfl) rfl (E_433 (Nat.le_trans (by decide) hd) e_q28) rfl ?_
    obtain ⟨q29, e_q29, hf⟩ := bnd hf
    refine Ex.callV (a := 67) (As := [.int 8, .int 0, .int y3, .int q28.1]) (r := []) (v := some (.int q29.1)) (h' := q29.2) rfl rfl (by decide) rfl (Nat.le_of_ble_eq_true rfl) rfl (E_432 (Nat.le_trans (by decide) hd) e_q29) rfl ?_
    obtain rfl := Option.some.inj hf
    exact Ex.iret rfl rfl (fun c0 => by cases c0) hs
  rw [if_neg n4] at hf
  rcases Classical.em (v21 = 5) with n5 | n5
  · rw [if_pos n5] at hf
    refine Ex.swt (t := 281) rfl rfl (by rw [n5]; exact Or.inr ⟨by decide, by decide, _, rfl, by decide⟩) ?_
    refine Ex.seg 2 (pc' := 283) (lc' := [some (.ref 67), some (.int y1), some (.int y2), some (.int y3), some (.int z0), some (.int v20), none, none, none]) (st' := [.int y1, .ref 67]) (h' := h) (sg1 rfl rfl (sg1 rfl rfl rfl)) ?_
    obtain ⟨q30, e_q30, hf⟩ := bnd hf
    refine Ex.callV (a := 67) (As := [.int y1]) (r := []) (v := some (.int q30.1)) (h' := q30.2) rfl rfl (by decide) rfl (Nat.le_of_ble_eq_true rfl) rfl (E_462 (Nat.le_trans (by decide) hd) e_q30) rfl ?_
    obtain rfl := Option.some.inj hf
    exact Ex.iret rfl rfl (fun c0 => by cases c0) hs
  rw [if_neg n5] at hf
  rcases Classical.em (v21 = 6) with n6 | n6
  · rw [if_pos n6] at hf
    refine Ex.swt (t := 287) rfl rfl (by rw [n6]; exact Or.inr ⟨by decide, by decide, _, rfl, by decide⟩) ?_
    refine Ex.seg 4 (pc' := 291) (lc' := [some (.ref 67), some (.int y1), some (.int y2), some (.int y3), some (.int z0), some (.int v20), none, none, none]) (st' := [.int y2, .ref 67, .int y3, .ref 67]) (h' := h) (sg1 rfl rfl (sg1 rfl rfl (sg1 rfl rfl (sg1 rfl rfl rfl)))) ?_
    obtain ⟨q31, e_q31, hf⟩ := bnd hf
    refine Ex.callV (a := 67) (As := [.int y2]) (r := [.int y3, .ref 67]) (v := some (.int q31.1)) (h' := q31.2) rfl rfl (by decide) rfl (Nat.le_of_ble_eq_true rfl) rfl (E_307 (Nat.le_trans (by decide) hd) e_q31) rfl ?_
    obtain ⟨q32, e_q32, hf⟩ := bnd hf
    refine Ex.callV (a := 67) (As := [.int y3, .int q31.1]) (r := []) (v := some (.int q32.1)) (h' := q32.2) rfl rfl (by decide) rfl (Nat.le_of_ble_eq_true rfl) rfl (E_433 (Nat.le_trans (by decide) hd) e_q32) rfl ?_
    refine Ex.seg 5 (pc' := 305) (lc' := [some (.ref 67), some (.int y1), some (.int y2), some (.int y3), some (.int z0), some (.int v20), some (.int q32.1), none, none]) (st' := [.int y1, .ref 123, .ref 67]) (h' := q32.2) (sg1 rfl rfl (sg1 rfl rfl (sg1 rfl rfl (sg1 rfl rfl (sg1 rfl rfl rfl))))) ?_
    obtain ⟨v33, e_v33, hf⟩ := bnd hf
    refine Ex.iald e_v33 rfl rfl ?_
    refine Ex.seg 1 (pc' := 309) (lc' := [some (.ref 67), some (.int y1), some (.int y2), some (.int y3), some (.int z0), some (.int v20), some (.int q32.1), none, none]) (st' := []) (h' := (sm_wI q32.2 67 94 v33)) (sg1 rfl rfl rfl) ?_
    obtain ⟨h34, e_h34, hf⟩ := bnd hf
    rw [Option.some.inj e_h34]
    refine Ex.seg 5 (pc' := 317) (lc' := [some (.ref 67), some (.int y1), some (.int y2), some (.int y3), some (.int z0), some (.int v20), some (.int q32.1), none, none]) (st' := [.int q32.1, .int y2, .int 19, .int 15, .ref 67]) (h' := h34) (sg1 rfl rfl (sg1 rfl rfl (sg1 rfl rfl (sg1 rfl rfl (sg1 rfl rfl rfl))))) ?_
    obtain ⟨q35, e_q35, hf⟩ := bnd hf
    refine Ex.callV (a := 67) (As := [.int 15, .int 19, .int y2, .int q32.1]) (r := []) (v := some (.int q35.1)) (h' := q35.2) rfl rfl (by decide) rfl (Nat.le_of_ble_eq_true rfl) rfl (E_432 (Nat.le_trans (by decide) hd) e_q35) rfl ?_
    obtain rfl := Option.some.inj hf
    exact Ex.iret rfl rfl (fun c0 => by cases c0) hs
  rw [if_neg n6] at hf
  rcases Classical.em (v21 = 7) with n7 | n7
  · rw [if_pos n7] at hf
    refine Ex.swt (t := 321) rfl rfl (by rw [n7]; exact Or.inr ⟨by decide, by decide, _, rfl, by decide⟩) ?_
    refine Ex.seg 3 (pc' := 325) (lc' := [some (.ref 67), some (.int y1), some (.int y2), some (.int y3), some (.int z0), some (.int v20), none, none, none]) (st' := [.int v20, .int y2, .ref 67]) (h' := h) (sg1 rfl rfl (sg1 rfl rfl (sg1 rfl rfl rfl))) ?_
    obtain ⟨q36, e_q36, hf⟩ := bnd hf
    refine Ex.callV (a := 67) (As := [.int y2, .int v20]) (r := []) (v := some (.int q36.1)) (h' := q36.2) rfl rfl (by decide) rfl (Nat.le_of_ble_eq_true rfl) rfl (E_433 (Nat.le_trans (by decide) hd) e_q36) rfl ?_
    obtain rfl := Option.some.inj hf
    exact Ex.iret rfl rfl (fun c0 => by cases c0) hs
  rw [if_neg n7] at hf
  rcases Classical.em (v21 = 8) with n8 | n8
  · rw [if_pos n8] at hf
    refine Ex.swt (t := 329) rfl rfl (by rw [n8]; exact Or.inr ⟨by decide, by decide, _, rfl, by decide⟩) ?_
    refine Ex.seg 3 (pc' := 332) (lc' := [some (.ref 67), some (.int y1), some (.int y2), some (.int y3), some (.int z0), some (.int v20), none, none, none]) (st' := [.int y2, .ref 67, .ref 67]) (h' := h) (sg1 rfl rfl (sg1 rfl rfl (sg1 rfl rfl rfl))) ?_
    obtain ⟨q37, e_q37, hf⟩ := bnd hf
    refine Ex.callV (a := 67) (As := [.int y2]) (r := [.ref 67]) (v := some (.int q37.1)) (h' := q37.2) rfl rfl (by decide) rfl (Nat.le_of_ble_eq_true rfl) rfl (E_307 (Nat.le_trans (by decide) hd) e_q37) rfl ?_
    refine Ex.seg 3 (pc' := 339) (lc' := [some (.ref 67), some (.int y1), some (.int y2), some (.int y3), some (.int z0), some (.int v20), none, none, none]) (st' := [.int 1, .int 1, .int v20, .int q37.1, .ref 67]) (h' := q37.2) (sg1 rfl rfl (sg1 rfl rfl (sg1 rfl rfl rfl))) ?_
    obtain ⟨q38, e_q38, hf⟩ := bnd hf
    refine Ex.callV (a := 67) (As := [.int q37.1, .int v20, .int 1, .int 1]) (r := []) (v := some (.int q38.1)) (h' := q38.2) rfl rfl (by decide) rfl (Nat.le_of_ble_eq_true rfl) rfl (E_297 (Nat.le_trans (by decide) hd) e_q38) rfl ?_
    refine Ex.ifc rfl rfl (fun (c0 : ¬ (q38.1 = 0)) => ?_) (fun (c0 : ¬ ¬ (q38.1 = 0)) => ?_)
    · rw [if_neg c0] at hf
      exact Ex.weak (sm_le_s (sm_le_n (sm_le_s (sm_le_n (sm_le_n (sm_le_s (sm_le_s (sm_le_s (sm_le_s sm_le_nil))))))))) (B_460_358 hd  hf hs)
    · rw [if_pos (Classical.not_not.mp c0)] at hf
      refine Ex.seg 4 (pc' := 352) (lc' := [some (.ref 67), some (.int y1), some (.int y2), some (.int y3), some (.int z0), some (.int v20), none, none, none]) (st' := [.int (q38.2.1 67 106), .int 7, .ref 67]) (h' := q38.2) (sg1 rfl rfl (sg1 rfl rfl (sg1 rfl rfl (sg1 rfl rfl rfl)))) ?_
      obtain ⟨q39, e_q39, hf⟩ := bnd hf
      refine Ex.callV (a := 67) (As := [.int 7, .int (q38.2.1 67 106)]) (r := []) (v := some (.int q39.1)) (h' := q39.2) rfl rfl (by decide) rfl (Nat.le_of_ble_eq_true rfl) rfl (E_413 (Nat.le_trans (by decide) hd) e_q39) rfl ?_
      refine Ex.ifc rfl rfl (fun (c0 : q39.1 = 0) => ?_) (fun (c0 : ¬ (q39.1 = 0)) => ?_)
      · rw [if_pos c0] at hf
        refine Ex.seg 1 (pc' := 368) (lc' := [some (.ref 67), some (.int y1), some (.int y2), some (.int y3), some (.int z0), some (.int v20), none, none, none]) (st' := [.int (-1)]) (h' := q39.2) (sg1 rfl rfl rfl) ?_
        exact Ex.weak (sm_le_s (sm_le_n (sm_le_s (sm_le_n (sm_le_n (sm_le_n (sm_le_s (sm_le_s (sm_le_s sm_le_nil))))))))) (B_460_368 hd  hf hs)
      · rw [if_neg c0] at hf
        exact Ex.weak (sm_le_s (sm_le_n (sm_le_s (sm_le_n (sm_le_n (sm_le_s (sm_le_s (sm_le_s (sm_le_s sm_le_nil))))))))) (B_460_358 hd  hf hs)
  rw [if_neg n8] at hf
  rcases Classical.em (v21 = 9) with n9 | n9
  · rw [if_pos n9] at hf
    refine Ex.swt (t := 391) rfl rfl (by rw [n9]; exact Or.inr ⟨by decide, by decide, _, rfl, by decide⟩) ?_
    refine Ex.seg 2 (pc' := 394) (lc' := [some (.ref 67), some (.int y1), some (.int y2), some (.int y3), some (.int z0), some (.int v20), none, none, none]) (st' := [.int v20, .ref 67]) (h' := h) (sg1 rfl rfl (sg1 rfl rfl rfl)) ?_
    obtain ⟨q40, e_q40, hf⟩ := bnd hf
    refine Ex.callS (As := [.int v20]) (r := [.ref 67]) (v := some (.int q40.1)) (h' := q40.2) rfl rfl rfl rfl (Nat.le_of_ble_eq_true rfl) (E_291 (Nat.le_trans (by decide) hd) e_q40) rfl ?_
    obtain ⟨q41, e_q41, hf⟩ := bnd hf
    refine Ex.callV (a := 67) (As := [.int q40.1]) (r := []) (v := some (.int q41.1)) (h' := q41.2) rfl rfl (by decide) rfl (Nat.le_of_ble_eq_true rfl) rfl (E_458 (Nat.le_trans (by decide) hd) e_q41) rfl ?_
    refine Ex.ifc rfl rfl (fun (c0 : q41.1 = 0) => ?_) (fun (c0 : ¬ (q41.1 = 0)) => ?_)
    · rw [if_pos c0] at hf
      refine Ex.seg 1 (pc' := 422) (lc' := [some (.ref 67), some (.int y1), some (.int y2), some (.int y3), some (.int z0), some (.int v20), none, none, none]) (st' := [.int (-1)]) (h' := q41.2) (sg1 rfl rfl rfl) ?_
      exact Ex.weak (sm_le_n (sm_le_n (sm_le_n (sm_le_n (sm_le_n (sm_le_n (sm_le_s (sm_le_s (sm_le_s sm_le_nil))))))))) (B_460_422 hd  hf hs)
    · rw [if_neg c0] at hf
      refine Ex.seg 6 (pc' := 412) (lc' := [some (.ref 67), some (.int y1), some (.int y2), some (.int y3), some (.int z0), some (.int v20), none, none, none]) (st' := [.long (-1), .int 0, .int v20, .int 0, .ref 67, .ref 67]) (h' := q41.2) (sg1 rfl rfl (sg1 rfl rfl (sg1 rfl rfl (sg1 rfl rfl (sg1 rfl rfl (sg1 rfl rfl rfl)))))) ?_
      obtain ⟨q42, e_q42, hf⟩ := bnd hf
      refine Ex.callV (a := 67) (As := [.int 0, .int v20, .int 0, .long (-1)]) (r := [.ref 67]) (v := some (.int q42.1)) (h' := q42.2) rfl rfl (by decide) rfl (Nat.le_of_ble_eq_true rfl) rfl (E_430 (Nat.le_trans (by decide) hd) e_q42) rfl ?_
      obtain ⟨q43, e_q43, hf⟩ := bnd hf
      refine Ex.callV (a := 67) (As := [.int q42.1]) (r := []) (v := some (.int q43.1)) (h' := q43.2) rfl rfl (by decide) rfl (Nat.le_of_ble_eq_true rfl) rfl (E_435 (Nat.le_trans (by decide) hd) e_q43) rfl ?_
      refine Ex.seg 1 (pc' := 422) (lc' := [some (.ref 67), some (.int y1), some (.int y2), some (.int y3), some (.int z0), some (.int v20), none, none, none]) (st' := [.int q43.1]) (h' := q43.2) (sg1 rfl rfl rfl) ?_
      exact Ex.weak (sm_le_n (sm_le_n (sm_le_n (sm_le_n (sm_le_n (sm_le_n (sm_le_s (sm_le_s (sm_le_s sm_le_nil))))))))) (B_460_422 hd  hf hs)
  rw [if_neg n9] at hf
  rcases Classical.em (v21 = 10) with n10 | n10
  · rw [if_pos n10] at hf
    refine Ex.swt (t := 423) rfl rfl (by rw [n10]; exact Or.inr ⟨by decide, by decide, _, rfl, by decide⟩) ?_
    refine Ex.seg 2 (pc' := 426) (lc' := [some (.ref 67), some (.int y1), some (.int y2), some (.int y3), some (.int z0), some (.int v20), none, none, none]) (st' := [.int v20, .ref 67]) (h' := h) (sg1 rfl rfl (sg1 rfl rfl rfl)) ?_
    obtain ⟨q44, e_q44, hf⟩ := bnd hf
    refine Ex.callS (As := [.int v20]) (r := [.ref 67]) (v := some (.int q44.1)) (h' := q44.2) rfl rfl rfl rfl (Nat.le_of_ble_eq_true rfl) (E_293 (Nat.le_trans (by decide) hd) e_q44) rfl ?_
    obtain ⟨q45, e_q45, hf⟩ := bnd hf
    refine Ex.callV (a := 67) (As := [.int q44.1]) (r := []) (v := some (.int q45.1)) (h' := q45.2) rfl rfl (by decide) rfl (Nat.le_of_ble_eq_true rfl) rfl (E_458 (Nat.le_trans (by decide) hd) e_q45) rfl ?_
    refine Ex.ifc rfl rfl (fun (c0 : q45.1 = 0) => ?_) (fun (c0 : ¬ (q45.1 = 0)) => ?_)
    · rw [if_pos c0] at hf
      refine Ex.seg 1 (pc' := 445) (lc' := [some (.ref 67), some (.int y1), some (.int y2), some (.int y3), some (.int z0), some (.int v20), none, none, none]) (st' := [.int (-1)]) (h' := q45.2) (sg1 rfl rfl rfl) ?_
      exact Ex.weak (sm_le_s (sm_le_n (sm_le_n (sm_le_n (sm_le_n (sm_le_s (sm_le_s (sm_le_s (sm_le_s sm_le_nil))))))))) (B_460_445 hd  hf hs)
    · rw [if_neg c0] at hf
      refine Ex.seg 3 (pc' := 438) (lc' := [some (.ref 67), some (.int y1), some (.int y2), some (.int y3), some (.int z0), some (.int v20), none, none, none]) (st' := [.int 5, .int y2, .ref 67]) (h' := q45.2) (sg1 rfl rfl (sg1 rfl rfl (sg1 rfl rfl rfl))) ?_
      obtain ⟨q46, e_q46, hf⟩ := bnd hf
      refine Ex.callV (a := 67) (As := [.int y2, .int 5]) (r := []) (v := some (.int q46.1)) (h' := q46.2) rfl rfl (by decide) rfl (Nat.le_of_ble_eq_true rfl) rfl (E_433 (Nat.le_trans (by decide) hd) e_q46) rfl ?_
      refine Ex.seg 1 (pc' := 445) (lc' := [some (.ref 67), some (.int y1), some (.int y2), some (.int y3), some (.int z0), some (.int v20), none, none, none]) (st' := [.int q46.1]) (h' := q46.2) (sg1 rfl rfl rfl) ?_
      exact Ex.weak (sm_le_s (sm_le_n (sm_le_n (sm_le_n (sm_le_n (sm_le_s (sm_le_s (sm_le_s (sm_le_s sm_le_nil))))))))) (B_460_445 hd  hf hs)
  rw [if_neg n10] at hf
  rcases Classical.em (v21 = 11) with n11 | n11
  · rw [if_pos n11] at hf
    refine Ex.swt (t := 464) rfl rfl (by rw [n11]; exact Or.inr ⟨by decide, by decide, _, rfl, by decide⟩) ?_
    refine Ex.seg 3 (pc' := 467) (lc' := [some (.ref 67), some (.int y1), some (.int y2), some (.int y3), some (.int z0), some (.int v20), none, none, none]) (st' := [.int y2, .ref 67, .ref 67]) (h' := h) (sg1 rfl rfl (sg1 rfl rfl (sg1 rfl rfl rfl))) ?_
    obtain ⟨q47, e_q47, hf⟩ := bnd hf
    refine Ex.callV (a := 67) (As := [.int y2]) (r := [.ref 67]) (v := some (.int q47.1)) (h' := q47.2) rfl rfl (by decide) rfl (Nat.le_of_ble_eq_true rfl) rfl (E_307 (Nat.le_trans (by decide) hd) e_q47) rfl ?_
    obtain ⟨q48, e_q48, hf⟩ := bnd hf
    refine Ex.callS (As := [.int q47.1]) (r := [.ref 67]) (v := some (.int q48.1)) (h' := q48.2) rfl rfl rfl rfl (Nat.le_of_ble_eq_true rfl) (E_293 (Nat.le_trans (by decide) hd) e_q48) rfl ?_
    obtain ⟨q49, e_q49, hf⟩ := bnd hf
    refine Ex.callV (a := 67) (As := [.int q48.1]) (r := []) (v := some (.int q49.1)) (h' := q49.2) rfl rfl (by decide) rfl (Nat.le_of_ble_eq_true rfl) rfl (E_458 (Nat.le_trans (by decide) hd) e_q49) rfl ?_
    refine Ex.ifc rfl rfl (fun (c0 : q49.1 = 0) => ?_) (fun (c0 : ¬ (q49.1 = 0)) => ?_)
    · rw [if_pos c0] at hf
      refine Ex.seg 1 (pc' := 501) (lc' := [some (.ref 67), some (.int y1), some (.int y2), some (.int y3), some (.int z0), some (.int v20), none, none, none]) (st' := [.int (-1)]) (h' := q49.2) (sg1 rfl rfl rfl) ?_
      exact Ex.weak (sm_le_n (sm_le_n (sm_le_n (sm_le_n (sm_le_n (sm_le_n (sm_le_s (sm_le_s (sm_le_s sm_le_nil))))))))) (B_460_501 hd  hf hs)
    · rw [if_neg c0] at hf
      refine Ex.seg 5 (pc' := 485) (lc' := [some (.ref 67), some (.int y1), some (.int y2), some (.int y3), some (.int z0), some (.int v20), none, none, none]) (st' := [.int y2, .ref 67, .int 21, .ref 67, .ref 67]) (h' := q49.2) (sg1 rfl rfl (sg1 rfl rfl (sg1 rfl rfl (sg1 rfl rfl (sg1 rfl rfl rfl))))) ?_
      obtain ⟨q50, e_q50, hf⟩ := bnd hf
      refine Ex.callV (a := 67) (As := [.int y2]) (r := [.int 21, .ref 67, .ref 67]) (v := some (.int q50.1)) (h' := q50.2) rfl rfl (by decide) rfl (Nat.le_of_ble_eq_true rfl) rfl (E_307 (Nat.le_trans (by decide) hd) e_q50) rfl ?_
      refine Ex.seg 2 (pc' := 490) (lc' := [some (.ref 67), some (.int y1), some (.int y2), some (.int y3), some (.int z0), some (.int v20), none, none, none]) (st' := [.long 0, .int 0, .int q50.1, .int 21, .ref 67, .ref 67]) (h' := q50.2) (sg1 rfl rfl (sg1 rfl rfl rfl)) ?_
      obtain ⟨q51, e_q51, hf⟩ := bnd hf
      refine Ex.callV (a := 67) (As := [.int 21, .int q50.1, .int 0, .long 0]) (r := [.ref 67]) (v := some (.int q51.1)) (h' := q51.2) rfl rfl (by decide) rfl (Nat.le_of_ble_eq_true rfl) rfl (E_430 (Nat.le_trans (by decide) hd) e_q51) rfl ?_
      refine Ex.seg 1 (pc' := 494) (lc' := [some (.ref 67), some (.int y1), some (.int y2), some (.int y3), some (.int z0), some (.int v20), none, none, none]) (st' := [.int y2, .int q51.1, .ref 67]) (h' := q51.2) (sg1 rfl rfl rfl) ?_
      obtain ⟨q52, e_q52, hf⟩ := bnd hf
      refine Ex.callV (a := 67) (As := [.int q51.1, .int y2]) (r := []) (v := some (.int q52.1)) (h' := q52.2) rfl rfl (by decide) rfl (Nat.le_of_ble_eq_true rfl) rfl (E_436 (Nat.le_trans (by decide) hd) e_q52) rfl ?_
      refine Ex.seg 1 (pc' := 501) (lc' := [some (.ref 67), some (.int y1), some (.int y2), some (.int y3), some (.int z0), some (.int v20), none, none, none]) (st' := [.int q52.1]) (h' := q52.2) (sg1 rfl rfl rfl) ?_
      exact Ex.weak (sm_le_n (sm_le_n (sm_le_n (sm_le_n (sm_le_n (sm_le_n (sm_le_s (sm_le_s (sm_le_s sm_le_nil))))))))) (B_460_501 hd  hf hs)
  rw [if_neg n11] at hf
  rcases Classical.em (v21 = 12) with n12 | n12
  · rw [if_pos n12] at hf
    refine Ex.swt (t := 502) rfl rfl (by rw [n12]; exact Or.inr ⟨by decide, by decide, _, rfl, by decide⟩) ?_
    refine Ex.seg 3 (pc' := 505) (lc' := [some (.ref 67), some (.int y1), some (.int y2), some (.int y3), some (.int z0), some (.int v20), none, none, none]) (st' := [.int y2, .ref 67, .ref 67]) (h' := h) (sg1 rfl rfl (sg1 rfl rfl (sg1 rfl rfl rfl))) ?_
    obtain ⟨q53, e_q53, hf⟩ := bnd hf
    refine Ex.callV (a := 67) (As := [.int y2]) (r := [.ref 67]) (v := some (.int q53.1)) (h' := q53.2) rfl rfl (by decide) rfl (Nat.le_of_ble_eq_true rfl) rfl (E_307 (Nat.le_trans (by decide) hd) e_q53) rfl ?_
    obtain ⟨q54, e_q54, hf⟩ := bnd hf
    refine Ex.callS (As := [.int q53.1]) (r := [.ref 67]) (v := some (.int q54.1)) (h' := q54.2) rfl rfl rfl rfl (Nat.le_of_ble_eq_true rfl) (E_293 (Nat.le_trans (by decide) hd) e_q54) rfl ?_
    obtain ⟨q55, e_q55, hf⟩ := bnd hf
    refine Ex.callV (a := 67) (As := [.int q54.1]) (r := []) (v := some (.int q55.1)) (h' := q55.2) rfl rfl (by decide) rfl (Nat.le_of_ble_eq_true rfl) rfl (E_458 (Nat.le_trans (by decide) hd) e_q55) rfl ?_
    refine Ex.ifc rfl rfl (fun (c0 : q55.1 = 0) => ?_) (fun (c0 : ¬ (q55.1 = 0)) => ?_)
    · rw [if_pos c0] at hf
      refine Ex.seg 1 (pc' := 527) (lc' := [some (.ref 67), some (.int y1), some (.int y2), some (.int y3), some (.int z0), some (.int v20), none, none, none]) (st' := [.int (-1)]) (h' := q55.2) (sg1 rfl rfl rfl) ?_
      exact Ex.weak (sm_le_s (sm_le_n (sm_le_s (sm_le_n (sm_le_n (sm_le_n (sm_le_s (sm_le_s (sm_le_s sm_le_nil))))))))) (B_460_527 hd  hf hs)
    · rw [if_neg c0] at hf
      refine Ex.seg 3 (pc' := 520) (lc' := [some (.ref 67), some (.int y1), some (.int y2), some (.int y3), some (.int z0), some (.int v20), none, none, none]) (st' := [.int 5, .int y3, .ref 67]) (h' := q55.2) (sg1 rfl rfl (sg1 rfl rfl (sg1 rfl rfl rfl))) ?_
      obtain ⟨q56, e_q56, hf⟩ := bnd hf
      refine Ex.callV (a := 67) (As := [.int y3, .int 5]) (r := []) (v := some (.int q56.1)) (h' := q56.2) rfl rfl (by decide) rfl (Nat.le_of_ble_eq_true rfl) rfl (E_433 (Nat.le_trans (by decide) hd) e_q56) rfl ?_
      refine Ex.seg 1 (pc' := 527) (lc' := [some (.ref 67), some (.int y1), some (.int y2), some (.int y3), some (.int z0), some (.int v20), none, none, none]) (st' := [.int q56.1]) (h' := q56.2) (sg1 rfl rfl rfl) ?_
      exact Ex.weak (sm_le_s (sm_le_n (sm_le_s (sm_le_n (sm_le_n (sm_le_n (sm_le_s (sm_le_s (sm_le_s sm_le_nil))))))))) (B_460_527 hd  hf hs)
  rw [if_neg n12] at hf
  rcases Classical.em (v21 = 13) with n13 | n13
  · rw [if_pos n13] at hf
    refine Ex.swt (t := 550) rfl rfl (by rw [n13]; exact Or.inr ⟨by decide, by decide, _, rfl, by decide⟩) ?_
    refine Ex.seg 3 (pc' := 553) (lc' := [some (.ref 67), some (.int y1), some (.int y2), some (.int y3), some (.int z0), some (.int v20), none, none, none]) (st' := [.int y2, .ref 67, .ref 67]) (h' := h) (sg1 rfl rfl (sg1 rfl rfl (sg1 rfl rfl rfl))) ?_
    obtain ⟨q57, e_q57, hf⟩ := bnd hf
    refine Ex.callV (a := 67) (As := [.int y2]) (r := [.ref 67]) (v := some (.int q57.1)) (h' := q57.2) rfl rfl (by decide) rfl (Nat.le_of_ble_eq_true rfl) rfl (E_307 (Nat.le_trans (by decide) hd) e_q57) rfl ?_
    obtain ⟨q58, e_q58, hf⟩ := bnd hf
    refine Ex.callS (As := [.int q57.1]) (r := [.ref 67]) (v := some (.int q58.1)) (h' := q58.2) rfl rfl rfl rfl (Nat.le_of_ble_eq_true rfl) (E_293 (Nat.le_trans (by decide) hd) e_q58) rfl ?_
    obtain ⟨q59, e_q59, hf⟩ := bnd hf
    refine Ex.callV (a := 67) (As := [.int q58.1]) (r := []) (v := some (.int q59.1)) (h' := q59.2) rfl rfl (by decide) rfl (Nat.le_of_ble_eq_true rfl) rfl (E_458 (Nat.le_trans (by decide) hd) e_q59) rfl ?_
    refine Ex.ifc rfl rfl (fun (c0 : q59.1 = 0) => ?_) (fun (c0 : ¬ (q59.1 = 0)) => ?_)
    · rw [if_pos c0] at hf
      refine Ex.seg 1 (pc' := 575) (lc' := [some (.ref 67), some (.int y1), some (.int y2), some (.int y3), some (.int z0), some (.int v20), none, none, none]) (st' := [.int (-1)]) (h' := q59.2) (sg1 rfl rfl rfl) ?_
      exact Ex.weak (sm_le_s (sm_le_n (sm_le_s (sm_le_n (sm_le_s (sm_le_n (sm_le_s (sm_le_s (sm_le_s sm_le_nil))))))))) (B_460_575 hd  hf hs)
    · rw [if_neg c0] at hf
      refine Ex.seg 3 (pc' := 568) (lc' := [some (.ref 67), some (.int y1), some (.int y2), some (.int y3), some (.int z0), some (.int v20), none, none, none]) (st' := [.int 5, .int y3, .ref 67]) (h' := q59.2) (sg1 rfl rfl (sg1 rfl rfl (sg1 rfl rfl rfl))) ?_
      obtain ⟨q60, e_q60, hf⟩ := bnd hf
      refine Ex.callV (a := 67) (As := [.int y3, .int 5]) (r := []) (v := some (.int q60.1)) (h' := q60.2) rfl rfl (by decide) rfl (Nat.le_of_ble_eq_true rfl) rfl (E_433 (Nat.le_trans (by decide) hd) e_q60) rfl ?_
      refine Ex.seg 1 (pc' := 575) (lc' := [some (.ref 67), some (.int y1), some (.int y2), some (.int y3), some (.int z0), some (.int v20), none, none, none]) (st' := [.int q60.1]) (h' := q60.2) (sg1 rfl rfl rfl) ?_
      exact Ex.weak (sm_le_s (sm_le_n (sm_le_s (sm_le_n (sm_le_s (sm_le_n (sm_le_s (sm_le_s (sm_le_s sm_le_nil))))))))) (B_460_575 hd  hf hs)
  rw [if_neg n13] at hf
  rcases Classical.em (v21 = 14) with n14 | n14
  · rw [if_pos n14] at hf
    refine Ex.swt (t := 626) rfl rfl (by rw [n14]; exact Or.inr ⟨by decide, by decide, _, rfl, by decide⟩) ?_
    refine Ex.seg 2 (pc' := 629) (lc' := [some (.ref 67), some (.int y1), some (.int y2), some (.int y3), some (.int z0), some (.int v20), none, none, none]) (st' := [.int v20, .ref 67]) (h' := h) (sg1 rfl rfl (sg1 rfl rfl rfl)) ?_
    obtain ⟨q61, e_q61, hf⟩ := bnd hf
    refine Ex.callS (As := [.int v20]) (r := [.ref 67]) (v := some (.int q61.1)) (h' := q61.2) rfl rfl rfl rfl (Nat.le_of_ble_eq_true rfl) (E_291 (Nat.le_trans (by decide) hd) e_q61) rfl ?_
    obtain ⟨q62, e_q62, hf⟩ := bnd hf
    refine Ex.callV (a := 67) (As := [.int q61.1]) (r := []) (v := some (.int q62.1)) (h' := q62.2) rfl rfl (by decide) rfl (Nat.le_of_ble_eq_true rfl) rfl (E_458 (Nat.le_trans (by decide) hd) e_q62) rfl ?_
    refine Ex.ifc rfl rfl (fun (c0 : q62.1 = 0) => ?_) (fun (c0 : ¬ (q62.1 = 0)) => ?_)
    · rw [if_pos c0] at hf
      refine Ex.seg 1 (pc' := 649) (lc' := [some (.ref 67), some (.int y1), some (.int y2), some (.int y3), some (.int z0), some (.int v20), none, none, none]) (st' := [.int (-1)]) (h' := q62.2) (sg1 rfl rfl rfl) ?_
      exact Ex.weak (sm_le_s (sm_le_n (sm_le_n (sm_le_n (sm_le_n (sm_le_s (sm_le_s (sm_le_s (sm_le_s sm_le_nil))))))))) (B_460_649 hd  hf hs)
    · rw [if_neg c0] at hf
      refine Ex.seg 3 (pc' := 642) (lc' := [some (.ref 67), some (.int y1), some (.int y2), some (.int y3), some (.int z0), some (.int v20), none, none, none]) (st' := [.int 7, .int y2, .ref 67]) (h' := q62.2) (sg1 rfl rfl (sg1 rfl rfl (sg1 rfl rfl rfl))) ?_
      obtain ⟨q63, e_q63, hf⟩ := bnd hf
      refine Ex.callV (a := 67) (As := [.int y2, .int 7]) (r := []) (v := some (.int q63.1)) (h' := q63.2) rfl rfl (by decide) rfl (Nat.le_of_ble_eq_true rfl) rfl (E_433 (Nat.le_trans (by decide) hd) e_q63) rfl ?_
      refine Ex.seg 1 (pc' := 649) (lc' := [some (.ref 67), some (.int y1), some (.int y2), some (.int y3), some (.int z0), some (.int v20), none, none, none]) (st' := [.int q63.1]) (h' := q63.2) (sg1 rfl rfl rfl) ?_
      exact Ex.weak (sm_le_s (sm_le_n (sm_le_n (sm_le_n (sm_le_n (sm_le_s (sm_le_s (sm_le_s (sm_le_s sm_le_nil))))))))) (B_460_649 hd  hf hs)
  rw [if_neg n14] at hf
  rcases Classical.em (v21 = 15) with n15 | n15
  · rw [if_pos n15] at hf
    refine Ex.swt (t := 668) rfl rfl (by rw [n15]; exact Or.inr ⟨by decide, by decide, _, rfl, by decide⟩) ?_
    refine Ex.seg 3 (pc' := 672) (lc' := [some (.ref 67), some (.int y1), some (.int y2), some (.int y3), some (.int z0), some (.int v20), none, none, none]) (st' := [.int 7, .int y2, .ref 67]) (h' := h) (sg1 rfl rfl (sg1 rfl rfl (sg1 rfl rfl rfl))) ?_
    obtain ⟨q64, e_q64, hf⟩ := bnd hf
    refine Ex.callV (a := 67) (As := [.int y2, .int 7]) (r := []) (v := some (.int q64.1)) (h' := q64.2) rfl rfl (by decide) rfl (Nat.le_of_ble_eq_true rfl) rfl (E_433 (Nat.le_trans (by decide) hd) e_q64) rfl ?_
    refine Ex.seg 4 (pc' := 681) (lc' := [some (.ref 67), some (.int y1), some (.int y2), some (.int y3), some (.int z0), some (.int v20), some (.int q64.1), none, none]) (st' := [.int 7, .int y3, .ref 67]) (h' := q64.2) (sg1 rfl rfl (sg1 rfl rfl (sg1 rfl rfl (sg1 rfl rfl rfl)))) ?_
    obtain ⟨q65, e_q65, hf⟩ := bnd hf
    refine Ex.callV (a := 67) (As := [.int y3, .int 7]) (r := []) (v := some (.int q65.1)) (h' := q65.2) rfl rfl (by decide) rfl (Nat.le_of_ble_eq_true rfl) rfl (E_433 (Nat.le_trans (by decide) hd) e_q65) rfl ?_
    refine Ex.seg 7 (pc' := 693) (lc' := [some (.ref 67), some (.int y1), some (.int y2), some (.int y3), some (.int z0), some (.int v20), some (.int q64.1), some (.int q65.1), none]) (st' := [.long 0, .int 0, .int 0, .int 32, .ref 67, .ref 67]) (h' := q65.2) (sg1 rfl rfl (sg1 rfl rfl (sg1 rfl rfl (sg1 rfl rfl (sg1 rfl rfl (sg1 rfl rfl (sg1 rfl rfl rfl))))))) ?_
    obtain ⟨q66, e_q66, hf⟩ := bnd hf
    refine Ex.callV (a := 67) (As := [.int 32, .int 0, .int 0, .long 0]) (r := [.ref 67]) (v := some (.int q66.1)) (h' := q66.2) rfl rfl (by decide) rfl (Nat.le_of_ble_eq_true rfl) rfl (E_430 (Nat.le_trans (by decide) hd) e_q66) rfl ?_
    refine Ex.seg 2 (pc' := 700) (lc' := [some (.ref 67), some (.int y1), some (.int y2), some (.int y3), some (.int z0), some (.int v20), some (.int q64.1), some (.int q65.1), none]) (st' := [.int q65.1, .int q64.1, .int q66.1, .ref 67]) (h' := q66.2) (sg1 rfl rfl (sg1 rfl rfl rfl)) ?_
    obtain ⟨q67, e_q67, hf⟩ := bnd hf
    refine Ex.callV (a := 67) (As := [.int q66.1, .int q64.1, .int q65.1]) (r := []) (v := some (.int q67.1)) (h' := q67.2) rfl rfl (by decide) rfl (Nat.le_of_ble_eq_true rfl) rfl (E_437 (Nat.le_trans (by decide) hd) e_q67) rfl ?_
    obtain rfl := Option.some.inj hf
    exact Ex.iret rfl rfl (fun c0 => by cases c0) hs
  rw [if_neg n15] at hf
  rcases Classical.em (v21 = 16) with n16 | n16
  · rw [if_pos n16] at hf
    refine Ex.swt (t := 704) rfl rfl (by rw [n16]; exact Or.inr ⟨by decide, by decide, _, rfl, by decide⟩) ?_
    refine Ex.seg 4 (pc' := 708) (lc' := [some (.ref 67), some (.int y1), some (.int y2), some (.int y3), some (.int z0), some (.int v20), none, none, none]) (st' := [.int y2, .ref 67, .ref 67, .ref 67]) (h' := h) (sg1 rfl rfl (sg1 rfl rfl (sg1 rfl rfl (sg1 rfl rfl rfl)))) ?_
    obtain ⟨q68, e_q68, hf⟩ := bnd hf
    refine Ex.callV (a := 67) (As := [.int y2]) (r := [.ref 67, .ref 67]) (v := some (.int q68.1)) (h' := q68.2) rfl rfl (by decide) rfl (Nat.le_of_ble_eq_true rfl) rfl (E_307 (Nat.le_trans (by decide) hd) e_q68) rfl ?_
    refine Ex.seg 1 (pc' := 713) (lc' := [some (.ref 67), some (.int y1), some (.int y2), some (.int y3), some (.int z0), some (.int v20), none, none, none]) (st' := [.int 19, .int q68.1, .ref 67, .ref 67]) (h' := q68.2) (sg1 rfl rfl rfl) ?_
    obtain ⟨q69, e_q69, hf⟩ := bnd hf
    refine Ex.callV (a := 67) (As := [.int q68.1, .int 19]) (r := [.ref 67]) (v := some (.int q69.1)) (h' := q69.2) rfl rfl (by decide) rfl (Nat.le_of_ble_eq_true rfl) rfl (E_295 (Nat.le_trans (by decide) hd) e_q69) rfl ?_
    obtain ⟨q70, e_q70, hf⟩ := bnd hf
    refine Ex.callV (a := 67) (As := [.int q69.1]) (r := []) (v := some (.int q70.1)) (h' := q70.2) rfl rfl (by decide) rfl (Nat.le_of_ble_eq_true rfl) rfl (E_458 (Nat.le_trans (by decide) hd) e_q70) rfl ?_
    refine Ex.ifc rfl rfl (fun (c0 : q70.1 = 0) => ?_) (fun (c0 : ¬ (q70.1 = 0)) => ?_)
    · rw [if_pos c0] at hf
      refine Ex.seg 1 (pc' := 745) (lc' := [some (.ref 67), some (.int y1), some (.int y2), some (.int y3), some (.int z0), some (.int v20), none, none, none]) (st' := [.int (-1)]) (h' := q70.2) (sg1 rfl rfl rfl) ?_
      exact Ex.weak (sm_le_n (sm_le_n (sm_le_n (sm_le_n (sm_le_n (sm_le_n (sm_le_s (sm_le_s (sm_le_s sm_le_nil))))))))) (B_460_745 hd  hf hs)
    · rw [if_neg c0] at hf
      refine Ex.seg 6 (pc' := 730) (lc' := [some (.ref 67), some (.int y1), some (.int y2), some (.int y3), some (.int z0), some (.int v20), none, none, none]) (st' := [.int y2, .ref 67, .int v20, .int 19, .ref 67, .ref 67]) (h' := q70.2) (sg1 rfl rfl (sg1 rfl rfl (sg1 rfl rfl (sg1 rfl rfl (sg1 rfl rfl (sg1 rfl rfl rfl)))))) ?_
      obtain ⟨q71, e_q71, hf⟩ := bnd hf
      refine Ex.callV (a := 67) (As := [.int y2]) (r := [.int v20, .int 19, .ref 67, .ref 67]) (v := some (.int q71.1)) (h' := q71.2) rfl rfl (by decide) rfl (Nat.le_of_ble_eq_true rfl) rfl (E_307 (Nat.le_trans (by decide) hd) e_q71) rfl ?_
      refine Ex.seg 1 (pc' := 734) (lc' := [some (.ref 67), some (.int y1), some (.int y2), some (.int y3), some (.int z0), some (.int v20), none, none, none]) (st' := [.long 0, .int q71.1, .int v20, .int 19, .ref 67, .ref 67]) (h' := q71.2) (sg1 rfl rfl rfl) ?_
      obtain ⟨q72, e_q72, hf⟩ := bnd hf
      refine Ex.callV (a := 67) (As := [.int 19, .int v20, .int q71.1, .long 0]) (r := [.ref 67]) (v := some (.int q72.1)) (h' := q72.2) rfl rfl (by decide) rfl (Nat.le_of_ble_eq_true rfl) rfl (E_430 (Nat.le_trans (by decide) hd) e_q72) rfl ?_
      refine Ex.seg 1 (pc' := 738) (lc' := [some (.ref 67), some (.int y1), some (.int y2), some (.int y3), some (.int z0), some (.int v20), none, none, none]) (st' := [.int y2, .int q72.1, .ref 67]) (h' := q72.2) (sg1 rfl rfl rfl) ?_
      obtain ⟨q73, e_q73, hf⟩ := bnd hf
      refine Ex.callV (a := 67) (As := [.int q72.1, .int y2]) (r := []) (v := some (.int q73.1)) (h' := q73.2) rfl rfl (by decide) rfl (Nat.le_of_ble_eq_true rfl) rfl (E_436 (Nat.le_trans (by decide) hd) e_q73) rfl ?_
      refine Ex.seg 1 (pc' := 745) (lc' := [some (.ref 67), some (.int y1), some (.int y2), some (.int y3), some (.int z0), some (.int v20), none, none, none]) (st' := [.int q73.1]) (h' := q73.2) (sg1 rfl rfl rfl) ?_
      exact Ex.weak (sm_le_n (sm_le_n (sm_le_n (sm_le_n (sm_le_n (sm_le_n (sm_le_s (sm_le_s (sm_le_s sm_le_nil))))))))) (B_460_745 hd  hf hs)
  rw [if_neg n16] at hf
  rcases Classical.em (v21 = 17) with n17 | n17
  · rw [if_pos n17] at hf
    refine Ex.swt (t := 746) rfl rfl (by rw [n17]; exact Or.inr ⟨by decide, by decide, _, rfl, by decide⟩) ?_
    refine Ex.seg 3 (pc' := 750) (lc' := [some (.ref 67), some (.int y1), some (.int y2), some (.int y3), some (.int z0), some (.int v20), none, none, none]) (st' := [.int 19, .int y2, .ref 67]) (h' := h) (sg1 rfl rfl (sg1 rfl rfl (sg1 rfl rfl rfl))) ?_
    obtain ⟨q74, e_q74, hf⟩ := bnd hf
    refine Ex.callV (a := 67) (As := [.int y2, .int 19]) (r := []) (v := some (.int q74.1)) (h' := q74.2) rfl rfl (by decide) rfl (Nat.le_of_ble_eq_true rfl) rfl (E_433 (Nat.le_trans (by decide) hd) e_q74) rfl ?_
    refine Ex.seg 7 (pc' := 762) (lc' := [some (.ref 67), some (.int y1), some (.int y2), some (.int y3), some (.int z0), some (.int v20), some (.int q74.1), none, none]) (st' := [.long 0, .int 0, .int 0, .int 33, .ref 67, .ref 67]) (h' := q74.2) (sg1 rfl rfl (sg1 rfl rfl (sg1 rfl rfl (sg1 rfl rfl (sg1 rfl rfl (sg1 rfl rfl (sg1 rfl rfl rfl))))))) ?_
    obtain ⟨q75, e_q75, hf⟩ := bnd hf
    refine Ex.callV (a := 67) (As := [.int 33, .int 0, .int 0, .long 0]) (r := [.ref 67]) (v := some (.int q75.1)) (h' := q75.2) rfl rfl (by decide) rfl (Nat.le_of_ble_eq_true rfl) rfl (E_430 (Nat.le_trans (by decide) hd) e_q75) rfl ?_
    refine Ex.seg 1 (pc' := 767) (lc' := [some (.ref 67), some (.int y1), some (.int y2), some (.int y3), some (.int z0), some (.int v20), some (.int q74.1), none, none]) (st' := [.int q74.1, .int q75.1, .ref 67]) (h' := q75.2) (sg1 rfl rfl rfl) ?_
    obtain ⟨q76, e_q76, hf⟩ := bnd hf
    refine Ex.callV (a := 67) (As := [.int q75.1, .int q74.1]) (r := []) (v := some (.int q76.1)) (h' := q76.2) rfl rfl (by decide) rfl (Nat.le_of_ble_eq_true rfl) rfl (E_436 (Nat.le_trans (by decide) hd) e_q76) rfl ?_
    obtain rfl := Option.some.inj hf
    exact Ex.iret rfl rfl (fun c0 => by cases c0) hs
  rw [if_neg n17] at hf
  refine Ex.swt (t := 771) rfl rfl (sw_dflt (by decide) (by decide) (fun k hk he => ?_)) ?_
  · have hk : k < 17 := hk
    rcases (show k = 0 ∨ k = 1 ∨ k = 2 ∨ k = 3 ∨ k = 4 ∨ k = 5 ∨ k = 6 ∨ k = 7 ∨ k = 8 ∨ k = 9 ∨ k = 10 ∨ k = 11 ∨ k = 12 ∨ k = 13 ∨ k = 14 ∨ k = 15 ∨ k = 16 by omega) with rfl | rfl | rfl | rfl | rfl | rfl | rfl | rfl | rfl | rfl | rfl | rfl | rfl | rfl | rfl | rfl | rfl
    · exact absurd (Int32.toInt_inj.mp (he.symm.trans (by decide : (_ : Int) = Int32.toInt 1))) n1
    · exact absurd (Int32.toInt_inj.mp (he.symm.trans (by decide : (_ : Int) = Int32.toInt 2))) n2
    · exact absurd (Int32.toInt_inj.mp (he.symm.trans (by decide : (_ : Int) = Int32.toInt 3))) n3
    · exact absurd (Int32.toInt_inj.mp (he.symm.trans (by decide : (_ : Int) = Int32.toInt 4))) n4
    · exact absurd (Int32.toInt_inj.mp (he.symm.trans (by decide : (_ : Int) = Int32.toInt 5))) n5
    · exact absurd (Int32.toInt_inj.mp (he.symm.trans (by decide : (_ : Int) = Int32.toInt 6))) n6
    · exact absurd (Int32.toInt_inj.mp (he.symm.trans (by decide : (_ : Int) = Int32.toInt 7))) n7
    · exact absurd (Int32.toInt_inj.mp (he.symm.trans (by decide : (_ : Int) = Int32.toInt 8))) n8
    · exact absurd (Int32.toInt_inj.mp (he.symm.trans (by decide : (_ : Int) = Int32.toInt 9))) n9
    · exact absurd (Int32.toInt_inj.mp (he.symm.trans (by decide : (_ : Int) = Int32.toInt 10))) n10
    · exact absurd (Int32.toInt_inj.mp (he.symm.trans (by decide : (_ : Int) = Int32.toInt 11))) n11
    · exact absurd (Int32.toInt_inj.mp (he.symm.trans (by decide : (_ : Int) = Int32.toInt 12))) n12
    · exact absurd (Int32.toInt_inj.mp (he.symm.trans (by decide : (_ : Int) = Int32.toInt 13))) n13
    · exact absurd (Int32.toInt_inj.mp (he.symm.trans (by decide : (_ : Int) = Int32.toInt 14))) n14
    · exact absurd (Int32.toInt_inj.mp (he.symm.trans (by decide : (_ : Int) = Int32.toInt 15))) n15
    · exact absurd (Int32.toInt_inj.mp (he.symm.trans (by decide : (_ : Int) = Int32.toInt 16))) n16
    · exact absurd (Int32.toInt_inj.mp (he.symm.trans (by decide : (_ : Int) = Int32.toInt 17))) n17
  refine Ex.seg 3 (pc' := 775) (lc' := [some (.ref 67), some (.int y1), some (.int y2), some (.int y3), some (.int z0), some (.int v20), none, none, none]) (st' := [.int v20, .int y1, .ref 67]) (h' := h) (sg1 rfl rfl (sg1 rfl rfl (sg1 rfl rfl rfl))) ?_
  obtain ⟨q77, e_q77, hf⟩ := bnd hf
  refine Ex.callV (a := 67) (As := [.int y1, .int v20]) (r := []) (v := some (.int q77.1)) (h' := q77.2) rfl rfl (by decide) rfl (Nat.le_of_ble_eq_true rfl) rfl (E_463 (Nat.le_trans (by decide) hd) e_q77) rfl ?_
  obtain rfl := Option.some.inj hf
  exact Ex.iret rfl rfl (fun c0 => by cases c0) hs
theorem B_460_48 {L : Nat} {xs : Nat → Int32} {d : Nat} (hd : 11 ≤ d) {res : Option Value × sm_H} {y1 : Int32} {y2 : Int32} {z0 : Int32}  {h : sm_H} {r : (Int32 × sm_H)} (hf : F_460_48 y1 y2 z0 h = some r) (hs : (fun (r : Int32 × sm_H) => res = (some (.int r.1), r.2)) r) : Ex (P_G L xs) (RUN L xs d) (sm_lk P_t460) 0 48 [some (.ref 67), some (.int y1), some (.int y2), none, none, none, none, none, none] [.int z0] h res := by
  unfold F_460_48 at hf
  refine Ex.seg 4 (pc' := 54) (lc' := [some (.ref 67), some (.int y1), some (.int y2), some (.int z0), none, none, none, none, none]) (st' := [.int y1, .ref 124]) (h' := h) (sg1 rfl rfl (sg1 rfl rfl (sg1 rfl rfl (sg1 rfl rfl rfl)))) ?_
  obtain ⟨v78, e_v78, hf⟩ := bnd hf
  refine Ex.iald e_v78 rfl rfl ?_
  refine Ex.seg 1 (pc' := 56) (lc' := [some (.ref 67), some (.int y1), some (.int y2), some (.int z0), none, none, none, none, none]) (st' := [.int 2, .int v78]) (h' := h) (sg1 rfl rfl rfl) ?_
  refine Ex.icmp rfl rfl (fun (c0 : v78 ≤ 2) => ?_) (fun (c0 : ¬ (v78 ≤ 2)) => ?_)
  · rw [if_pos c0] at hf
    refine Ex.seg 1 (pc' := 74) (lc' := [some (.ref 67), some (.int y1), some (.int y2), some (.int z0), none, none, none, none, none]) (st' := [.int (-1)]) (h' := h) (sg1 rfl rfl rfl) ?_
    exact Ex.weak (sm_le_s (sm_le_s (sm_le_s (sm_le_s (sm_le_s (sm_le_s (sm_le_s (sm_le_s (sm_le_s sm_le_nil))))))))) (B_460_74 hd  hf hs)
  · rw [if_neg c0] at hf
    refine Ex.seg 7 (pc' := 69) (lc' := [some (.ref 67), some (.int y1), some (.int y2), some (.int z0), none, none, none, none, none]) (st' := [.int ((20 * y1) + 2), .ref 125]) (h' := h) (sg1 rfl rfl (sg1 rfl rfl (sg1 rfl rfl (sg1 rfl rfl (sg1 rfl rfl (sg1 rfl rfl (sg1 rfl rfl rfl))))))) ?_
    obtain ⟨v79, e_v79, hf⟩ := bnd hf
    refine Ex.iald e_v79 rfl rfl ?_
    refine Ex.seg 1 (pc' := 74) (lc' := [some (.ref 67), some (.int y1), some (.int y2), some (.int z0), none, none, none, none, none]) (st' := [.int v79]) (h' := h) (sg1 rfl rfl rfl) ?_
    exact Ex.weak (sm_le_s (sm_le_s (sm_le_s (sm_le_s (sm_le_s (sm_le_s (sm_le_s (sm_le_s (sm_le_s sm_le_nil))))))))) (B_460_74 hd  hf hs)
theorem B_460_22 {L : Nat} {xs : Nat → Int32} {d : Nat} (hd : 11 ≤ d) {res : Option Value × sm_H} {y1 : Int32} {z0 : Int32}  {h : sm_H} {r : (Int32 × sm_H)} (hf : F_460_22 y1 z0 h = some r) (hs : (fun (r : Int32 × sm_H) => res = (some (.int r.1), r.2)) r) : Ex (P_G L xs) (RUN L xs d) (sm_lk P_t460) 0 22 [some (.ref 67), some (.int y1), none, none, none, none, none, none, none] [.int z0] h res := by
  unfold F_460_22 at hf
  refine Ex.seg 4 (pc' := 28) (lc' := [some (.ref 67), some (.int y1), some (.int z0), none, none, none, none, none, none]) (st' := [.int y1, .ref 124]) (h' := h) (sg1 rfl rfl (sg1 rfl rfl (sg1 rfl rfl (sg1 rfl rfl rfl)))) ?_
  obtain ⟨v80, e_v80, hf⟩ := bnd hf
  refine Ex.iald e_v80 rfl rfl ?_
  refine Ex.seg 1 (pc' := 30) (lc' := [some (.ref 67), some (.int y1), some (.int z0), none, none, none, none, none, none]) (st' := [.int 1, .int v80]) (h' := h) (sg1 rfl rfl rfl) ?_
  refine Ex.icmp rfl rfl (fun (c0 : v80 ≤ 1) => ?_) (fun (c0 : ¬ (v80 ≤ 1)) => ?_)
  · rw [if_pos c0] at hf
    refine Ex.seg 1 (pc' := 48) (lc' := [some (.ref 67), some (.int y1), some (.int z0), none, none, none, none, none, none]) (st' := [.int (-1)]) (h' := h) (sg1 rfl rfl rfl) ?_
    exact Ex.weak (sm_le_s (sm_le_s (sm_le_s (sm_le_s (sm_le_s (sm_le_s (sm_le_s (sm_le_s (sm_le_s sm_le_nil))))))))) (B_460_48 hd  hf hs)
  · rw [if_neg c0] at hf
    refine Ex.seg 7 (pc' := 43) (lc' := [some (.ref 67), some (.int y1), some (.int z0), none, none, none, none, none, none]) (st' := [.int ((20 * y1) + 1), .ref 125]) (h' := h) (sg1 rfl rfl (sg1 rfl rfl (sg1 rfl rfl (sg1 rfl rfl (sg1 rfl rfl (sg1 rfl rfl (sg1 rfl rfl rfl))))))) ?_
    obtain ⟨v81, e_v81, hf⟩ := bnd hf
    refine Ex.iald e_v81 rfl rfl ?_
    refine Ex.seg 1 (pc' := 48) (lc' := [some (.ref 67), some (.int y1), some (.int z0), none, none, none, none, none, none]) (st' := [.int v81]) (h' := h) (sg1 rfl rfl rfl) ?_
    exact Ex.weak (sm_le_s (sm_le_s (sm_le_s (sm_le_s (sm_le_s (sm_le_s (sm_le_s (sm_le_s (sm_le_s sm_le_nil))))))))) (B_460_48 hd  hf hs)
theorem B_460_0 {L : Nat} {xs : Nat → Int32} {d : Nat} (hd : 11 ≤ d) {res : Option Value × sm_H} {x1 : Int32}  {h : sm_H} {r : (Int32 × sm_H)} (hf : F_460_0 x1 h = some r) (hs : (fun (r : Int32 × sm_H) => res = (some (.int r.1), r.2)) r) : Ex (P_G L xs) (RUN L xs d) (sm_lk P_t460) 0 0 [some (.ref 67), some (.int x1), none, none, none, none, none, none, none] [] h res := by
  unfold F_460_0 at hf
  refine Ex.seg 3 (pc' := 5) (lc' := [some (.ref 67), some (.int x1), none, none, none, none, none, none, none]) (st' := [.int x1, .ref 124]) (h' := h) (sg1 rfl rfl (sg1 rfl rfl (sg1 rfl rfl rfl))) ?_
  obtain ⟨v82, e_v82, hf⟩ := bnd hf
  refine Ex.iald e_v82 rfl rfl ?_
  refine Ex.ifc rfl rfl (fun (c0 : v82 ≤ 0) => ?_) (fun (c0 : ¬ (v82 ≤ 0)) => ?_)
  · rw [if_pos c0] at hf
    refine Ex.seg 1 (pc' := 22) (lc' := [some (.ref 67), some (.int x1), none, none, none, none, none, none, none]) (st' := [.int (-1)]) (h' := h) (sg1 rfl rfl rfl) ?_
    exact Ex.weak (sm_le_s (sm_le_s (sm_le_s (sm_le_s (sm_le_s (sm_le_s (sm_le_s (sm_le_s (sm_le_s sm_le_nil))))))))) (B_460_22 hd  hf hs)
  · rw [if_neg c0] at hf
    refine Ex.seg 5 (pc' := 17) (lc' := [some (.ref 67), some (.int x1), none, none, none, none, none, none, none]) (st' := [.int (20 * x1), .ref 125]) (h' := h) (sg1 rfl rfl (sg1 rfl rfl (sg1 rfl rfl (sg1 rfl rfl (sg1 rfl rfl rfl))))) ?_
    obtain ⟨v83, e_v83, hf⟩ := bnd hf
    refine Ex.iald e_v83 rfl rfl ?_
    refine Ex.seg 1 (pc' := 22) (lc' := [some (.ref 67), some (.int x1), none, none, none, none, none, none, none]) (st' := [.int v83]) (h' := h) (sg1 rfl rfl rfl) ?_
    exact Ex.weak (sm_le_s (sm_le_s (sm_le_s (sm_le_s (sm_le_s (sm_le_s (sm_le_s (sm_le_s (sm_le_s sm_le_nil))))))))) (B_460_22 hd  hf hs)
theorem E_460 {L : Nat} {xs : Nat → Int32} {d : Nat} (hd : 12 ≤ d) {x1 : Int32} {h : sm_H} {r : Int32 × sm_H} (hf : F_460 x1 h = some r) : RUN L xs d 460 [.ref 67, .int x1] h (some (.int r.1), r.2) := by
  obtain ⟨d, rfl⟩ : ∃ e, d = e + 1 := ⟨d - 1, by omega⟩
  exact ⟨Nat.le_of_ble_eq_true rfl, B_460_0 (by omega) hf rfl⟩
