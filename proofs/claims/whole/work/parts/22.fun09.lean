theorem B_191_0 {L : Nat} {xs : Nat → Int32} {d : Nat} (hd : 6 ≤ d) {res : Option Value × sm_H} {x1 : Int32} {x2 : Int32} {x3 : Int32} {x4 : Int32} {x5 : Int32} {x6 : Int32}  {h : sm_H} {r : (Int32 × sm_H)} (hf : F_191_0 x1 x2 x3 x4 x5 x6 h = some r) (hs : (fun (r : Int32 × sm_H) => res = (some (.int r.1), r.2)) r) : Ex (P_G L xs) (RUN L xs d) (sm_lk P_t191) 0 0 [some (.ref 55), some (.int x1), some (.int x2), some (.int x3), some (.int x4), some (.int x5), some (.int x6)] [] h res := by
  unfold F_191_0 at hf
  refine Ex.seg 2 (pc' := 4) (lc' := [some (.ref 55), some (.int x1), some (.int x2), some (.int x3), some (.int x4), some (.int x5), some (.int x6)]) (st' := [.ref 56]) (h' := h) (sg1 rfl rfl (sg1 rfl rfl rfl)) ?_
  obtain ⟨q1, e_q1, hf⟩ := bnd hf
  refine Ex.callV (a := 56) (As := []) (r := []) (v := none) (h' := q1) rfl rfl (by decide) rfl (Nat.le_of_ble_eq_true rfl) rfl (E_138 (Nat.le_trans (by decide) hd) e_q1) rfl ?_
  refine Ex.seg 9 (pc' := 22) (lc' := [some (.ref 55), some (.int x1), some (.int x2), some (.int x3), some (.int x4), some (.int x5), some (.int x6)]) (st' := [.ref 56, .long (-1), .int x3, .int x2, .int x1, .ref 34, .ref 55]) (h' := q1) (sg1 rfl rfl (sg1 rfl rfl (sg1 rfl rfl (sg1 rfl rfl (sg1 rfl rfl (sg1 rfl rfl (sg1 rfl rfl (sg1 rfl rfl (sg1 rfl rfl rfl))))))))) ?_
  obtain ⟨q2, e_q2, hf⟩ := bnd hf
  refine Ex.callV (a := 34) (As := [.int x1, .int x2, .int x3, .long (-1), .ref 56]) (r := [.ref 55]) (v := some (.int q2.1)) (h' := q2.2) rfl rfl (by decide) rfl (Nat.le_of_ble_eq_true rfl) rfl (E_5 (Nat.le_trans (by decide) hd) e_q2) rfl ?_
  refine Ex.seg 3 (pc' := 31) (lc' := [some (.ref 55), some (.int x1), some (.int x2), some (.int x3), some (.int x4), some (.int x5), some (.int x6)]) (st' := [.int x6, .int x5, .int x4, .int q2.1, .ref 55]) (h' := q2.2) (sg1 rfl rfl (sg1 rfl rfl (sg1 rfl rfl rfl))) ?_
  obtain ⟨q3, e_q3, hf⟩ := bnd hf
  refine Ex.callV (a := 55) (As := [.int q2.1, .int x4, .int x5, .int x6]) (r := []) (v := some (.int q3.1)) (h' := q3.2) rfl rfl (by decide) rfl (Nat.le_of_ble_eq_true rfl) rfl (E_192 (Nat.le_trans (by decide) hd) e_q3) rfl ?_
  obtain rfl := Option.some.inj hf
  exact Ex.iret rfl rfl (fun c0 => by cases c0) hs
theorem E_191 {L : Nat} {xs : Nat → Int32} {d : Nat} (hd : 7 ≤ d) {x1 : Int32} {x2 : Int32} {x3 : Int32} {x4 : Int32} {x5 : Int32} {x6 : Int32} {h : sm_H} {r : Int32 × sm_H} (hf : F_191 x1 x2 x3 x4 x5 x6 h = some r) : RUN L xs d 191 [.ref 55, .int x1, .int x2, .int x3, .int x4, .int x5, .int x6] h (some (.int r.1), r.2) := by
  obtain ⟨d, rfl⟩ : ∃ e, d = e + 1 := ⟨d - 1, by omega⟩
  exact ⟨Nat.le_of_ble_eq_true rfl, B_191_0 (by omega) hf rfl⟩
theorem B_202_505 {L : Nat} {xs : Nat → Int32} {d : Nat} (hd : 7 ≤ d) {res : Option Value × sm_H} {z0 : Int32}  {h : sm_H} {r : (Int32 × sm_H)} (hf : F_202_505 z0 h = some r) (hs : (fun (r : Int32 × sm_H) => res = (some (.int r.1), r.2)) r) : Ex (P_G L xs) (RUN L xs d) (sm_lk P_t202) 0 505 [none, none, none, none, none, none, none, none, none, none] [.int z0] h res := by
  unfold F_202_505 at hf
  obtain rfl := Option.some.inj hf
  exact Ex.iret rfl rfl (fun c0 => by cases c0) hs
theorem B_202_482 {L : Nat} {xs : Nat → Int32} {d : Nat} (hd : 7 ≤ d) {res : Option Value × sm_H} {y2 : Int32} {y3 : Int32} {y4 : Int32} {y8 : Int32} {z0 : Int32}  {h : sm_H} {r : (Int32 × sm_H)} (hf : F_202_482 y2 y3 y4 y8 z0 h = some r) (hs : (fun (r : Int32 × sm_H) => res = (some (.int r.1), r.2)) r) : Ex (P_G L xs) (RUN L xs d) (sm_lk P_t202) 0 482 [some (.ref 55), none, some (.int y2), some (.int y3), some (.int y4), none, none, none, some (.int y8), none] [.int z0] h res := by
  unfold F_202_482 at hf
  refine Ex.seg 2 (pc' := 486) (lc' := [some (.ref 55), none, some (.int y2), some (.int y3), some (.int y4), none, none, none, some (.int y8), some (.int z0)]) (st' := [.int z0]) (h' := h) (sg1 rfl rfl (sg1 rfl rfl rfl)) ?_
  refine Ex.ifc rfl rfl (fun (c0 : z0 = 0) => ?_) (fun (c0 : ¬ (z0 = 0)) => ?_)
  · rw [if_pos c0] at hf
    refine Ex.seg 1 (pc' := 505) (lc' := [some (.ref 55), none, some (.int y2), some (.int y3), some (.int y4), none, none, none, some (.int y8), some (.int z0)]) (st' := [.int (-1)]) (h' := h) (sg1 rfl rfl rfl) ?_
    exact Ex.weak (sm_le_n (sm_le_s (sm_le_n (sm_le_n (sm_le_n (sm_le_s (sm_le_s (sm_le_s (sm_le_n (sm_le_n sm_le_nil)))))))))) (B_202_505 hd  hf hs)
  · rw [if_neg c0] at hf
    refine Ex.seg 7 (pc' := 498) (lc' := [some (.ref 55), none, some (.int y2), some (.int y3), some (.int y4), none, none, none, some (.int y8), some (.int z0)]) (st' := [.int y4, .int 2, .int y3, .int y8, .int y2, .int 3, .ref 55]) (h' := h) (sg1 rfl rfl (sg1 rfl rfl (sg1 rfl rfl (sg1 rfl rfl (sg1 rfl rfl (sg1 rfl rfl (sg1 rfl rfl rfl))))))) ?_
    obtain ⟨q1, e_q1, hf⟩ := bnd hf
    refine Ex.callV (a := 55) (As := [.int 3, .int y2, .int y8, .int y3, .int 2, .int y4]) (r := []) (v := some (.int q1.1)) (h' := q1.2) rfl rfl (by decide) rfl (Nat.le_of_ble_eq_true rfl) rfl (E_191 (Nat.le_trans (by decide) hd) e_q1) rfl ?_
    refine Ex.seg 1 (pc' := 505) (lc' := [some (.ref 55), none, some (.int y2), some (.int y3), some (.int y4), none, none, none, some (.int y8), some (.int z0)]) (st' := [.int q1.1]) (h' := q1.2) (sg1 rfl rfl rfl) ?_
    exact Ex.weak (sm_le_n (sm_le_s (sm_le_n (sm_le_n (sm_le_n (sm_le_s (sm_le_s (sm_le_s (sm_le_n (sm_le_n sm_le_nil)))))))))) (B_202_505 hd  hf hs)
theorem B_202_481 {L : Nat} {xs : Nat → Int32} {d : Nat} (hd : 7 ≤ d) {res : Option Value × sm_H} {y2 : Int32} {y3 : Int32} {y4 : Int32} {y8 : Int32}  {h : sm_H} {r : (Int32 × sm_H)} (hf : F_202_481 y2 y3 y4 y8 h = some r) (hs : (fun (r : Int32 × sm_H) => res = (some (.int r.1), r.2)) r) : Ex (P_G L xs) (RUN L xs d) (sm_lk P_t202) 0 481 [some (.ref 55), none, some (.int y2), some (.int y3), some (.int y4), none, none, none, some (.int y8), none] [] h res := by
  unfold F_202_481 at hf
  refine Ex.seg 1 (pc' := 482) (lc' := [some (.ref 55), none, some (.int y2), some (.int y3), some (.int y4), none, none, none, some (.int y8), none]) (st' := [.int 0]) (h' := h) (sg1 rfl rfl rfl) ?_
  exact Ex.weak (sm_le_s (sm_le_s (sm_le_s (sm_le_s (sm_le_s (sm_le_s (sm_le_s (sm_le_s (sm_le_s (sm_le_s sm_le_nil)))))))))) (B_202_482 hd  hf hs)
theorem B_202_449 {L : Nat} {xs : Nat → Int32} {d : Nat} (hd : 7 ≤ d) {res : Option Value × sm_H} {y2 : Int32} {y3 : Int32} {y4 : Int32} {z0 : Int32}  {h : sm_H} {r : (Int32 × sm_H)} (hf : F_202_449 y2 y3 y4 z0 h = some r) (hs : (fun (r : Int32 × sm_H) => res = (some (.int r.1), r.2)) r) : Ex (P_G L xs) (RUN L xs d) (sm_lk P_t202) 0 449 [some (.ref 55), none, some (.int y2), some (.int y3), some (.int y4), none, none, none, none, none] [.int z0] h res := by
  unfold F_202_449 at hf
  refine Ex.seg 5 (pc' := 457) (lc' := [some (.ref 55), none, some (.int y2), some (.int y3), some (.int y4), none, none, none, some (.int z0), none]) (st' := [.int y4, .int z0, .int y3, .ref 55]) (h' := h) (sg1 rfl rfl (sg1 rfl rfl (sg1 rfl rfl (sg1 rfl rfl (sg1 rfl rfl rfl))))) ?_
  obtain ⟨q2, e_q2, hf⟩ := bnd hf
  refine Ex.callV (a := 55) (As := [.int y3, .int z0, .int y4]) (r := []) (v := some (.int q2.1)) (h' := q2.2) rfl rfl (by decide) rfl (Nat.le_of_ble_eq_true rfl) rfl (E_190 (Nat.le_trans (by decide) hd) e_q2) rfl ?_
  refine Ex.ifc rfl rfl (fun (c0 : q2.1 = 0) => ?_) (fun (c0 : ¬ (q2.1 = 0)) => ?_)
  · rw [if_pos c0] at hf
    exact Ex.weak (sm_le_s (sm_le_s (sm_le_s (sm_le_s (sm_le_s (sm_le_s (sm_le_s (sm_le_s (sm_le_s (sm_le_s sm_le_nil)))))))))) (B_202_481 hd  hf hs)
  · rw [if_neg c0] at hf
    refine Ex.seg 6 (pc' := 471) (lc' := [some (.ref 55), none, some (.int y2), some (.int y3), some (.int y4), none, none, none, some (.int z0), none]) (st' := [.int y4, .int z0, .int (y3 + 1), .ref 55]) (h' := q2.2) (sg1 rfl rfl (sg1 rfl rfl (sg1 rfl rfl (sg1 rfl rfl (sg1 rfl rfl (sg1 rfl rfl rfl)))))) ?_
    obtain ⟨q3, e_q3, hf⟩ := bnd hf
    refine Ex.callV (a := 55) (As := [.int (y3 + 1), .int z0, .int y4]) (r := []) (v := some (.int q3.1)) (h' := q3.2) rfl rfl (by decide) rfl (Nat.le_of_ble_eq_true rfl) rfl (E_190 (Nat.le_trans (by decide) hd) e_q3) rfl ?_
    refine Ex.ifc rfl rfl (fun (c0 : q3.1 = 0) => ?_) (fun (c0 : ¬ (q3.1 = 0)) => ?_)
    · rw [if_pos c0] at hf
      exact Ex.weak (sm_le_s (sm_le_s (sm_le_s (sm_le_s (sm_le_s (sm_le_s (sm_le_s (sm_le_s (sm_le_s (sm_le_s sm_le_nil)))))))))) (B_202_481 hd  hf hs)
    · rw [if_neg c0] at hf
      refine Ex.seg 2 (pc' := 482) (lc' := [some (.ref 55), none, some (.int y2), some (.int y3), some (.int y4), none, none, none, some (.int z0), none]) (st' := [.int 1]) (h' := q3.2) (sg1 rfl rfl (sg1 rfl rfl rfl)) ?_
      exact Ex.weak (sm_le_s (sm_le_s (sm_le_s (sm_le_s (sm_le_s (sm_le_s (sm_le_s (sm_le_s (sm_le_s (sm_le_s sm_le_nil)))))))))) (B_202_482 hd  hf hs)
theorem B_202_443 {L : Nat} {xs : Nat → Int32} {d : Nat} (hd : 7 ≤ d) {res : Option Value × sm_H} {y2 : Int32} {y3 : Int32} {y4 : Int32}  {h : sm_H} {r : (Int32 × sm_H)} (hf : F_202_443 y2 y3 y4 h = some r) (hs : (fun (r : Int32 × sm_H) => res = (some (.int r.1), r.2)) r) : Ex (P_G L xs) (RUN L xs d) (sm_lk P_t202) 0 443 [some (.ref 55), none, some (.int y2), some (.int y3), some (.int y4), none, none, none, none, none] [] h res := by
  unfold F_202_443 at hf
  refine Ex.seg 2 (pc' := 449) (lc' := [some (.ref 55), none, some (.int y2), some (.int y3), some (.int y4), none, none, none, none, none]) (st' := [.int 6]) (h' := h) (sg1 rfl rfl (sg1 rfl rfl rfl)) ?_
  exact Ex.weak (sm_le_s (sm_le_s (sm_le_s (sm_le_s (sm_le_s (sm_le_s (sm_le_s (sm_le_s (sm_le_s (sm_le_s sm_le_nil)))))))))) (B_202_449 hd  hf hs)
theorem B_202_420 {L : Nat} {xs : Nat → Int32} {d : Nat} (hd : 7 ≤ d) {res : Option Value × sm_H} {y2 : Int32} {y3 : Int32} {y4 : Int32} {y5 : Int32}  {h : sm_H} {r : (Int32 × sm_H)} (hf : F_202_420 y2 y3 y4 y5 h = some r) (hs : (fun (r : Int32 × sm_H) => res = (some (.int r.1), r.2)) r) : Ex (P_G L xs) (RUN L xs d) (sm_lk P_t202) 0 420 [some (.ref 55), none, some (.int y2), some (.int y3), some (.int y4), some (.int y5), none, none, none, none] [] h res := by
  unfold F_202_420 at hf
  refine Ex.seg 2 (pc' := 423) (lc' := [some (.ref 55), none, some (.int y2), some (.int y3), some (.int y4), some (.int y5), none, none, none, none]) (st' := [.int y5, .ref 55]) (h' := h) (sg1 rfl rfl (sg1 rfl rfl rfl)) ?_
  obtain ⟨q4, e_q4, hf⟩ := bnd hf
  refine Ex.callV (a := 55) (As := [.int y5]) (r := []) (v := some (.int q4.1)) (h' := q4.2) rfl rfl (by decide) rfl (Nat.le_of_ble_eq_true rfl) rfl (E_204 (Nat.le_trans (by decide) hd) e_q4) rfl ?_
  refine Ex.ifc rfl rfl (fun (c0 : ¬ (q4.1 = 0)) => ?_) (fun (c0 : ¬ ¬ (q4.1 = 0)) => ?_)
  · rw [if_neg c0] at hf
    exact Ex.weak (sm_le_s (sm_le_s (sm_le_s (sm_le_s (sm_le_s (sm_le_n (sm_le_s (sm_le_s (sm_le_s (sm_le_s sm_le_nil)))))))))) (B_202_443 hd  hf hs)
  · rw [if_pos (Classical.not_not.mp c0)] at hf
    refine Ex.seg 5 (pc' := 434) (lc' := [some (.ref 55), none, some (.int y2), some (.int y3), some (.int y4), some (.int y5), none, none, none, none]) (st' := [.int (y3 + 1), .ref 55, .ref 55]) (h' := q4.2) (sg1 rfl rfl (sg1 rfl rfl (sg1 rfl rfl (sg1 rfl rfl (sg1 rfl rfl rfl))))) ?_
    obtain ⟨q5, e_q5, hf⟩ := bnd hf
    refine Ex.callV (a := 55) (As := [.int (y3 + 1)]) (r := [.ref 55]) (v := some (.int q5.1)) (h' := q5.2) rfl rfl (by decide) rfl (Nat.le_of_ble_eq_true rfl) rfl (E_189 (Nat.le_trans (by decide) hd) e_q5) rfl ?_
    obtain ⟨q6, e_q6, hf⟩ := bnd hf
    refine Ex.callV (a := 55) (As := [.int q5.1]) (r := []) (v := some (.int q6.1)) (h' := q6.2) rfl rfl (by decide) rfl (Nat.le_of_ble_eq_true rfl) rfl (E_204 (Nat.le_trans (by decide) hd) e_q6) rfl ?_
    refine Ex.ifc rfl rfl (fun (c0 : q6.1 = 0) => ?_) (fun (c0 : ¬ (q6.1 = 0)) => ?_)
    · rw [if_pos c0] at hf
      refine Ex.seg 1 (pc' := 449) (lc' := [some (.ref 55), none, some (.int y2), some (.int y3), some (.int y4), some (.int y5), none, none, none, none]) (st' := [.int 5]) (h' := q6.2) (sg1 rfl rfl rfl) ?_
      exact Ex.weak (sm_le_s (sm_le_s (sm_le_s (sm_le_s (sm_le_s (sm_le_n (sm_le_s (sm_le_s (sm_le_s (sm_le_s sm_le_nil)))))))))) (B_202_449 hd  hf hs)
    · rw [if_neg c0] at hf
      exact Ex.weak (sm_le_s (sm_le_s (sm_le_s (sm_le_s (sm_le_s (sm_le_n (sm_le_s (sm_le_s (sm_le_s (sm_le_s sm_le_nil)))))))))) (B_202_443 hd  hf hs)
theorem B_202_419 {L : Nat} {xs : Nat → Int32} {d : Nat} (hd : 7 ≤ d) {res : Option Value × sm_H} {z0 : Int32}  {h : sm_H} {r : (Int32 × sm_H)} (hf : F_202_419 z0 h = some r) (hs : (fun (r : Int32 × sm_H) => res = (some (.int r.1), r.2)) r) : Ex (P_G L xs) (RUN L xs d) (sm_lk P_t202) 0 419 [none, none, none, none, none, none, none, none, none, none] [.int z0] h res := by
  unfold F_202_419 at hf
  obtain rfl := Option.some.inj hf
  exact Ex.iret rfl rfl (fun c0 => by cases c0) hs
theorem B_202_376 {L : Nat} {xs : Nat → Int32} {d : Nat} (hd : 7 ≤ d) {res : Option Value × sm_H} {z0 : Int32}  {h : sm_H} {r : (Int32 × sm_H)} (hf : F_202_376 z0 h = some r) (hs : (fun (r : Int32 × sm_H) => res = (some (.int r.1), r.2)) r) : Ex (P_G L xs) (RUN L xs d) (sm_lk P_t202) 0 376 [none, none, none, none, none, none, none, none, none, none] [.int z0] h res := by
  unfold F_202_376 at hf
  obtain rfl := Option.some.inj hf
  exact Ex.iret rfl rfl (fun c0 => by cases c0) hs
theorem B_202_353 {L : Nat} {xs : Nat → Int32} {d : Nat} (hd : 7 ≤ d) {res : Option Value × sm_H} {y3 : Int32} {y4 : Int32} {z0 : Int32}  {h : sm_H} {r : (Int32 × sm_H)} (hf : F_202_353 y3 y4 z0 h = some r) (hs : (fun (r : Int32 × sm_H) => res = (some (.int r.1), r.2)) r) : Ex (P_G L xs) (RUN L xs d) (sm_lk P_t202) 0 353 [some (.ref 55), none, none, some (.int y3), some (.int y4), none, none, none, none, none] [.int z0] h res := by
  unfold F_202_353 at hf
  refine Ex.seg 2 (pc' := 357) (lc' := [some (.ref 55), none, none, some (.int y3), some (.int y4), none, none, some (.int z0), none, none]) (st' := [.int z0]) (h' := h) (sg1 rfl rfl (sg1 rfl rfl rfl)) ?_
  refine Ex.ifc rfl rfl (fun (c0 : z0 = 0) => ?_) (fun (c0 : ¬ (z0 = 0)) => ?_)
  · rw [if_pos c0] at hf
    refine Ex.seg 1 (pc' := 376) (lc' := [some (.ref 55), none, none, some (.int y3), some (.int y4), none, none, some (.int z0), none, none]) (st' := [.int (-1)]) (h' := h) (sg1 rfl rfl rfl) ?_
    exact Ex.weak (sm_le_n (sm_le_s (sm_le_s (sm_le_n (sm_le_n (sm_le_s (sm_le_s (sm_le_n (sm_le_s (sm_le_s sm_le_nil)))))))))) (B_202_376 hd  hf hs)
  · rw [if_neg c0] at hf
    refine Ex.seg 7 (pc' := 369) (lc' := [some (.ref 55), none, none, some (.int y3), some (.int y4), none, none, some (.int z0), none, none]) (st' := [.int y4, .int 2, .int y3, .int 0, .int 0, .int 32, .ref 55]) (h' := h) (sg1 rfl rfl (sg1 rfl rfl (sg1 rfl rfl (sg1 rfl rfl (sg1 rfl rfl (sg1 rfl rfl (sg1 rfl rfl rfl))))))) ?_
    obtain ⟨q7, e_q7, hf⟩ := bnd hf
    refine Ex.callV (a := 55) (As := [.int 32, .int 0, .int 0, .int y3, .int 2, .int y4]) (r := []) (v := some (.int q7.1)) (h' := q7.2) rfl rfl (by decide) rfl (Nat.le_of_ble_eq_true rfl) rfl (E_191 (Nat.le_trans (by decide) hd) e_q7) rfl ?_
    refine Ex.seg 1 (pc' := 376) (lc' := [some (.ref 55), none, none, some (.int y3), some (.int y4), none, none, some (.int z0), none, none]) (st' := [.int q7.1]) (h' := q7.2) (sg1 rfl rfl rfl) ?_
    exact Ex.weak (sm_le_n (sm_le_s (sm_le_s (sm_le_n (sm_le_n (sm_le_s (sm_le_s (sm_le_n (sm_le_s (sm_le_s sm_le_nil)))))))))) (B_202_376 hd  hf hs)
theorem B_202_352 {L : Nat} {xs : Nat → Int32} {d : Nat} (hd : 7 ≤ d) {res : Option Value × sm_H} {y3 : Int32} {y4 : Int32}  {h : sm_H} {r : (Int32 × sm_H)} (hf : F_202_352 y3 y4 h = some r) (hs : (fun (r : Int32 × sm_H) => res = (some (.int r.1), r.2)) r) : Ex (P_G L xs) (RUN L xs d) (sm_lk P_t202) 0 352 [some (.ref 55), none, none, some (.int y3), some (.int y4), none, none, none, none, none] [] h res := by
  unfold F_202_352 at hf
  refine Ex.seg 1 (pc' := 353) (lc' := [some (.ref 55), none, none, some (.int y3), some (.int y4), none, none, none, none, none]) (st' := [.int 0]) (h' := h) (sg1 rfl rfl rfl) ?_
  exact Ex.weak (sm_le_s (sm_le_s (sm_le_s (sm_le_s (sm_le_s (sm_le_s (sm_le_s (sm_le_s (sm_le_s (sm_le_s sm_le_nil)))))))))) (B_202_353 hd  hf hs)
theorem B_202_321 {L : Nat} {xs : Nat → Int32} {d : Nat} (hd : 7 ≤ d) {res : Option Value × sm_H} {z0 : Int32}  {h : sm_H} {r : (Int32 × sm_H)} (hf : F_202_321 z0 h = some r) (hs : (fun (r : Int32 × sm_H) => res = (some (.int r.1), r.2)) r) : Ex (P_G L xs) (RUN L xs d) (sm_lk P_t202) 0 321 [none, none, none, none, none, none, none, none, none, none] [.int z0] h res := by
  unfold F_202_321 at hf
  obtain rfl := Option.some.inj hf
  exact Ex.iret rfl rfl (fun c0 => by cases c0) hs
theorem B_202_292 {L : Nat} {xs : Nat → Int32} {d : Nat} (hd : 7 ≤ d) {res : Option Value × sm_H} {z0 : Int32}  {h : sm_H} {r : (Int32 × sm_H)} (hf : F_202_292 z0 h = some r) (hs : (fun (r : Int32 × sm_H) => res = (some (.int r.1), r.2)) r) : Ex (P_G L xs) (RUN L xs d) (sm_lk P_t202) 0 292 [none, none, none, none, none, none, none, none, none, none] [.int z0] h res := by
  unfold F_202_292 at hf
  obtain rfl := Option.some.inj hf
  exact Ex.iret rfl rfl (fun c0 => by cases c0) hs
theorem B_202_268 {L : Nat} {xs : Nat → Int32} {d : Nat} (hd : 7 ≤ d) {res : Option Value × sm_H} {y3 : Int32} {y4 : Int32} {y5 : Int32} {z0 : Int32}  {h : sm_H} {r : (Int32 × sm_H)} (hf : F_202_268 y3 y4 y5 z0 h = some r) (hs : (fun (r : Int32 × sm_H) => res = (some (.int r.1), r.2)) r) : Ex (P_G L xs) (RUN L xs d) (sm_lk P_t202) 0 268 [some (.ref 55), none, none, some (.int y3), some (.int y4), some (.int y5), none, none, none, none] [.int z0] h res := by
  unfold F_202_268 at hf
  refine Ex.seg 2 (pc' := 272) (lc' := [some (.ref 55), none, none, some (.int y3), some (.int y4), some (.int y5), some (.int z0), none, none, none]) (st' := [.int z0]) (h' := h) (sg1 rfl rfl (sg1 rfl rfl rfl)) ?_
  refine Ex.ifc rfl rfl (fun (c0 : z0 = 0) => ?_) (fun (c0 : ¬ (z0 = 0)) => ?_)
  · rw [if_pos c0] at hf
    refine Ex.seg 1 (pc' := 292) (lc' := [some (.ref 55), none, none, some (.int y3), some (.int y4), some (.int y5), some (.int z0), none, none, none]) (st' := [.int (-1)]) (h' := h) (sg1 rfl rfl rfl) ?_
    exact Ex.weak (sm_le_n (sm_le_s (sm_le_s (sm_le_n (sm_le_n (sm_le_n (sm_le_n (sm_le_s (sm_le_s (sm_le_s sm_le_nil)))))))))) (B_202_292 hd  hf hs)
  · rw [if_neg c0] at hf
    refine Ex.seg 7 (pc' := 285) (lc' := [some (.ref 55), none, none, some (.int y3), some (.int y4), some (.int y5), some (.int z0), none, none, none]) (st' := [.int y4, .int 3, .int y3, .int 0, .int y5, .int 23, .ref 55]) (h' := h) (sg1 rfl rfl (sg1 rfl rfl (sg1 rfl rfl (sg1 rfl rfl (sg1 rfl rfl (sg1 rfl rfl (sg1 rfl rfl rfl))))))) ?_
    obtain ⟨q8, e_q8, hf⟩ := bnd hf
    refine Ex.callV (a := 55) (As := [.int 23, .int y5, .int 0, .int y3, .int 3, .int y4]) (r := []) (v := some (.int q8.1)) (h' := q8.2) rfl rfl (by decide) rfl (Nat.le_of_ble_eq_true rfl) rfl (E_191 (Nat.le_trans (by decide) hd) e_q8) rfl ?_
    refine Ex.seg 1 (pc' := 292) (lc' := [some (.ref 55), none, none, some (.int y3), some (.int y4), some (.int y5), some (.int z0), none, none, none]) (st' := [.int q8.1]) (h' := q8.2) (sg1 rfl rfl rfl) ?_
    exact Ex.weak (sm_le_n (sm_le_s (sm_le_s (sm_le_n (sm_le_n (sm_le_n (sm_le_n (sm_le_s (sm_le_s (sm_le_s sm_le_nil)))))))))) (B_202_292 hd  hf hs)
theorem B_202_267 {L : Nat} {xs : Nat → Int32} {d : Nat} (hd : 7 ≤ d) {res : Option Value × sm_H} {y3 : Int32} {y4 : Int32} {y5 : Int32}  {h : sm_H} {r : (Int32 × sm_H)} (hf : F_202_267 y3 y4 y5 h = some r) (hs : (fun (r : Int32 × sm_H) => res = (some (.int r.1), r.2)) r) : Ex (P_G L xs) (RUN L xs d) (sm_lk P_t202) 0 267 [some (.ref 55), none, none, some (.int y3), some (.int y4), some (.int y5), none, none, none, none] [] h res := by
  unfold F_202_267 at hf
  refine Ex.seg 1 (pc' := 268) (lc' := [some (.ref 55), none, none, some (.int y3), some (.int y4), some (.int y5), none, none, none, none]) (st' := [.int 0]) (h' := h) (sg1 rfl rfl rfl) ?_
  exact Ex.weak (sm_le_s (sm_le_s (sm_le_s (sm_le_s (sm_le_s (sm_le_s (sm_le_s (sm_le_s (sm_le_s (sm_le_s sm_le_nil)))))))))) (B_202_268 hd  hf hs)
theorem B_202_228 {L : Nat} {xs : Nat → Int32} {d : Nat} (hd : 7 ≤ d) {res : Option Value × sm_H} {z0 : Int32}  {h : sm_H} {r : (Int32 × sm_H)} (hf : F_202_228 z0 h = some r) (hs : (fun (r : Int32 × sm_H) => res = (some (.int r.1), r.2)) r) : Ex (P_G L xs) (RUN L xs d) (sm_lk P_t202) 0 228 [none, none, none, none, none, none, none, none, none, none] [.int z0] h res := by
  unfold F_202_228 at hf
  obtain rfl := Option.some.inj hf
  exact Ex.iret rfl rfl (fun c0 => by cases c0) hs
theorem B_202_183 {L : Nat} {xs : Nat → Int32} {d : Nat} (hd : 7 ≤ d) {res : Option Value × sm_H} {z0 : Int32}  {h : sm_H} {r : (Int32 × sm_H)} (hf : F_202_183 z0 h = some r) (hs : (fun (r : Int32 × sm_H) => res = (some (.int r.1), r.2)) r) : Ex (P_G L xs) (RUN L xs d) (sm_lk P_t202) 0 183 [none, none, none, none, none, none, none, none, none, none] [.int z0] h res := by
  unfold F_202_183 at hf
  obtain rfl := Option.some.inj hf
  exact Ex.iret rfl rfl (fun c0 => by cases c0) hs
theorem B_202_113 {L : Nat} {xs : Nat → Int32} {d : Nat} (hd : 7 ≤ d) {res : Option Value × sm_H} {z0 : Int32}  {h : sm_H} {r : (Int32 × sm_H)} (hf : F_202_113 z0 h = some r) (hs : (fun (r : Int32 × sm_H) => res = (some (.int r.1), r.2)) r) : Ex (P_G L xs) (RUN L xs d) (sm_lk P_t202) 0 113 [none, none, none, none, none, none, none, none, none, none] [.int z0] h res := by
  unfold F_202_113 at hf
  obtain rfl := Option.some.inj hf
  exact Ex.iret rfl rfl (fun c0 => by cases c0) hs
theorem B_202_0 {L : Nat} {xs : Nat → Int32} {d : Nat} (hd : 7 ≤ d) {res : Option Value × sm_H} {x1 : Int32} {x2 : Int32} {x3 : Int32} {x4 : Int32}  {h : sm_H} {r : (Int32 × sm_H)} (hf : F_202_0 x1 x2 x3 x4 h = some r) (hs : (fun (r : Int32 × sm_H) => res = (some (.int r.1), r.2)) r) : Ex (P_G L xs) (RUN L xs d) (sm_lk P_t202) 0 0 [some (.ref 55), some (.int x1), some (.int x2), some (.int x3), some (.int x4), none, none, none, none, none] [] h res := by
  unfold F_202_0 at hf
  refine Ex.seg 2 (pc' := 2) (lc' := [some (.ref 55), some (.int x1), some (.int x2), some (.int x3), some (.int x4), none, none, none, none, none]) (st' := [.int x3, .ref 55]) (h' := h) (sg1 rfl rfl (sg1 rfl rfl rfl)) ?_
  obtain ⟨q9, e_q9, hf⟩ := bnd hf
  refine Ex.callV (a := 55) (As := [.int x3]) (r := []) (v := some (.int q9.1)) (h' := q9.2) rfl rfl (by decide) rfl (Nat.le_of_ble_eq_true rfl) rfl (E_189 (Nat.le_trans (by decide) hd) e_q9) rfl ?_
  refine Ex.seg 2 (pc' := 8) (lc' := [some (.ref 55), some (.int x1), some (.int x2), some (.int x3), some (.int x4), some (.int q9.1), none, none, none, none]) (st' := [.int x1]) (h' := q9.2) (sg1 rfl rfl (sg1 rfl rfl rfl)) ?_
  rcases Classical.em (x1 = 2) with n1 | n1
  · rw [if_pos n1] at hf
    refine Ex.swt (t := 80) rfl rfl (by rw [n1]; exact Or.inr ⟨by decide, by decide, _, rfl, by decide⟩) ?_
    refine Ex.seg 4 (pc' := 85) (lc' := [some (.ref 55), some (.int x1), some (.int x2), some (.int x3), some (.int x4), some (.int q9.1), none, none, none, none]) (st' := [.int x4, .int 0, .int x3, .ref 55]) (h' := q9.2) (sg1 rfl rfl (sg1 rfl rfl (sg1 rfl rfl (sg1 rfl rfl rfl)))) ?_
    obtain ⟨q10, e_q10, hf⟩ := bnd hf
    refine Ex.callV (a := 55) (As := [.int x3, .int 0, .int x4]) (r := []) (v := some (.int q10.1)) (h' := q10.2) rfl rfl (by decide) rfl (Nat.le_of_ble_eq_true rfl) rfl (E_190 (Nat.le_trans (by decide) hd) e_q10) rfl ?_
    refine Ex.ifc rfl rfl (fun (c0 : q10.1 = 0) => ?_) (fun (c0 : ¬ (q10.1 = 0)) => ?_)
    · rw [if_pos c0] at hf
      refine Ex.seg 1 (pc' := 113) (lc' := [some (.ref 55), some (.int x1), some (.int x2), some (.int x3), some (.int x4), some (.int q9.1), none, none, none, none]) (st' := [.int (-1)]) (h' := q10.2) (sg1 rfl rfl rfl) ?_
      exact Ex.weak (sm_le_n (sm_le_n (sm_le_n (sm_le_n (sm_le_n (sm_le_n (sm_le_s (sm_le_s (sm_le_s (sm_le_s sm_le_nil)))))))))) (B_202_113 hd  hf hs)
    · rw [if_neg c0] at hf
      refine Ex.seg 5 (pc' := 96) (lc' := [some (.ref 55), some (.int x1), some (.int x2), some (.int x3), some (.int x4), some (.int q9.1), none, none, none, none]) (st' := [.int (x3 + 1), .ref 55, .ref 55]) (h' := q10.2) (sg1 rfl rfl (sg1 rfl rfl (sg1 rfl rfl (sg1 rfl rfl (sg1 rfl rfl rfl))))) ?_
      obtain ⟨q11, e_q11, hf⟩ := bnd hf
      refine Ex.callV (a := 55) (As := [.int (x3 + 1)]) (r := [.ref 55]) (v := some (.int q11.1)) (h' := q11.2) rfl rfl (by decide) rfl (Nat.le_of_ble_eq_true rfl) rfl (E_187 (Nat.le_trans (by decide) hd) e_q11) rfl ?_
      refine Ex.seg 2 (pc' := 101) (lc' := [some (.ref 55), some (.int x1), some (.int x2), some (.int x3), some (.int x4), some (.int q9.1), none, none, none, none]) (st' := [.int x3, .ref 55, .int q11.1, .ref 55]) (h' := q11.2) (sg1 rfl rfl (sg1 rfl rfl rfl)) ?_
      obtain ⟨q12, e_q12, hf⟩ := bnd hf
      refine Ex.callV (a := 55) (As := [.int x3]) (r := [.int q11.1, .ref 55]) (v := some (.int q12.1)) (h' := q12.2) rfl rfl (by decide) rfl (Nat.le_of_ble_eq_true rfl) rfl (E_187 (Nat.le_trans (by decide) hd) e_q12) rfl ?_
      refine Ex.seg 1 (pc' := 106) (lc' := [some (.ref 55), some (.int x1), some (.int x2), some (.int x3), some (.int x4), some (.int q9.1), none, none, none, none]) (st' := [.int x4, .int q12.1, .int q11.1, .ref 55]) (h' := q12.2) (sg1 rfl rfl rfl) ?_
      obtain ⟨q13, e_q13, hf⟩ := bnd hf
      refine Ex.callV (a := 55) (As := [.int q11.1, .int q12.1, .int x4]) (r := []) (v := some (.int q13.1)) (h' := q13.2) rfl rfl (by decide) rfl (Nat.le_of_ble_eq_true rfl) rfl (E_206 (Nat.le_trans (by decide) hd) e_q13) rfl ?_
      refine Ex.seg 1 (pc' := 113) (lc' := [some (.ref 55), some (.int x1), some (.int x2), some (.int x3), some (.int x4), some (.int q9.1), none, none, none, none]) (st' := [.int q13.1]) (h' := q13.2) (sg1 rfl rfl rfl) ?_
      exact Ex.weak (sm_le_n (sm_le_n (sm_le_n (sm_le_n (sm_le_n (sm_le_n (sm_le_s (sm_le_s (sm_le_s (sm_le_s sm_le_nil)))))))))) (B_202_113 hd  hf hs)
  rw [if_neg n1] at hf
  rcases Classical.em (x1 = 5) with n2 | n2
  · rw [if_pos n2] at hf
    refine Ex.swt (t := 114) rfl rfl (by rw [n2]; exact Or.inr ⟨by decide, by decide, _, rfl, by decide⟩) ?_
    refine Ex.seg 4 (pc' := 119) (lc' := [some (.ref 55), some (.int x1), some (.int x2), some (.int x3), some (.int x4), some (.int q9.1), none, none, none, none]) (st' := [.int x3, .ref 55, .int 12, .ref 55]) (h' := q9.2) (sg1 rfl rfl (sg1 rfl rfl (sg1 rfl rfl (sg1 rfl rfl rfl)))) ?_
    obtain ⟨q14, e_q14, hf⟩ := bnd hf
    refine Ex.callV (a := 55) (As := [.int x3]) (r := [.int 12, .ref 55]) (v := some (.int q14.1)) (h' := q14.2) rfl rfl (by decide) rfl (Nat.le_of_ble_eq_true rfl) rfl (E_187 (Nat.le_trans (by decide) hd) e_q14) rfl ?_
    refine Ex.seg 2 (pc' := 125) (lc' := [some (.ref 55), some (.int x1), some (.int x2), some (.int x3), some (.int x4), some (.int q9.1), none, none, none, none]) (st' := [.int x4, .int x2, .int q14.1, .int 12, .ref 55]) (h' := q14.2) (sg1 rfl rfl (sg1 rfl rfl rfl)) ?_
    obtain ⟨q15, e_q15, hf⟩ := bnd hf
    refine Ex.callV (a := 55) (As := [.int 12, .int q14.1, .int x2, .int x4]) (r := []) (v := some (.int q15.1)) (h' := q15.2) rfl rfl (by decide) rfl (Nat.le_of_ble_eq_true rfl) rfl (E_186 (Nat.le_trans (by decide) hd) e_q15) rfl ?_
    obtain rfl := Option.some.inj hf
    exact Ex.iret rfl rfl (fun c0 => by cases c0) hs
  rw [if_neg n2] at hf
  rcases Classical.em (x1 = 6) with n3 | n3
  · rw [if_pos n3] at hf
    refine Ex.swt (t := 129) rfl rfl (by rw [n3]; exact Or.inr ⟨by decide, by decide, _, rfl, by decide⟩) ?_
    refine Ex.seg 4 (pc' := 134) (lc' := [some (.ref 55), some (.int x1), some (.int x2), some (.int x3), some (.int x4), some (.int q9.1), none, none, none, none]) (st' := [.int x3, .ref 55, .int 13, .ref 55]) (h' := q9.2) (sg1 rfl rfl (sg1 rfl rfl (sg1 rfl rfl (sg1 rfl rfl rfl)))) ?_
    obtain ⟨q16, e_q16, hf⟩ := bnd hf
    refine Ex.callV (a := 55) (As := [.int x3]) (r := [.int 13, .ref 55]) (v := some (.int q16.1)) (h' := q16.2) rfl rfl (by decide) rfl (Nat.le_of_ble_eq_true rfl) rfl (E_187 (Nat.le_trans (by decide) hd) e_q16) rfl ?_
    refine Ex.seg 2 (pc' := 140) (lc' := [some (.ref 55), some (.int x1), some (.int x2), some (.int x3), some (.int x4), some (.int q9.1), none, none, none, none]) (st' := [.int x4, .int x2, .int q16.1, .int 13, .ref 55]) (h' := q16.2) (sg1 rfl rfl (sg1 rfl rfl rfl)) ?_
    obtain ⟨q17, e_q17, hf⟩ := bnd hf
    refine Ex.callV (a := 55) (As := [.int 13, .int q16.1, .int x2, .int x4]) (r := []) (v := some (.int q17.1)) (h' := q17.2) rfl rfl (by decide) rfl (Nat.le_of_ble_eq_true rfl) rfl (E_186 (Nat.le_trans (by decide) hd) e_q17) rfl ?_
    obtain rfl := Option.some.inj hf
    exact Ex.iret rfl rfl (fun c0 => by cases c0) hs
  rw [if_neg n3] at hf
  rcases Classical.em (x1 = 7) with n4 | n4
  · rw [if_pos n4] at hf
    refine Ex.swt (t := 144) rfl rfl (by rw [n4]; exact Or.inr ⟨by decide, by decide, _, rfl, by decide⟩) ?_
    refine Ex.seg 7 (pc' := 152) (lc' := [some (.ref 55), some (.int x1), some (.int x2), some (.int x3), some (.int x4), some (.int q9.1), none, none, none, none]) (st' := [.int x4, .int 0, .int x3, .int 0, .int x2, .int 0, .ref 55]) (h' := q9.2) (sg1 rfl rfl (sg1 rfl rfl (sg1 rfl rfl (sg1 rfl rfl (sg1 rfl rfl (sg1 rfl rfl (sg1 rfl rfl rfl))))))) ?_
    obtain ⟨q18, e_q18, hf⟩ := bnd hf
    refine Ex.callV (a := 55) (As := [.int 0, .int x2, .int 0, .int x3, .int 0, .int x4]) (r := []) (v := some (.int q18.1)) (h' := q18.2) rfl rfl (by decide) rfl (Nat.le_of_ble_eq_true rfl) rfl (E_191 (Nat.le_trans (by decide) hd) e_q18) rfl ?_
    obtain rfl := Option.some.inj hf
    exact Ex.iret rfl rfl (fun c0 => by cases c0) hs
  rw [if_neg n4] at hf
  rcases Classical.em (x1 = 8) with n5 | n5
  · rw [if_pos n5] at hf
    refine Ex.swt (t := 156) rfl rfl (by rw [n5]; exact Or.inr ⟨by decide, by decide, _, rfl, by decide⟩) ?_
    refine Ex.seg 4 (pc' := 161) (lc' := [some (.ref 55), some (.int x1), some (.int x2), some (.int x3), some (.int x4), some (.int q9.1), none, none, none, none]) (st' := [.int x4, .int 5, .int x3, .ref 55]) (h' := q9.2) (sg1 rfl rfl (sg1 rfl rfl (sg1 rfl rfl (sg1 rfl rfl rfl)))) ?_
    obtain ⟨q19, e_q19, hf⟩ := bnd hf
    refine Ex.callV (a := 55) (As := [.int x3, .int 5, .int x4]) (r := []) (v := some (.int q19.1)) (h' := q19.2) rfl rfl (by decide) rfl (Nat.le_of_ble_eq_true rfl) rfl (E_190 (Nat.le_trans (by decide) hd) e_q19) rfl ?_
    refine Ex.ifc rfl rfl (fun (c0 : q19.1 = 0) => ?_) (fun (c0 : ¬ (q19.1 = 0)) => ?_)
    · rw [if_pos c0] at hf
      refine Ex.seg 1 (pc' := 183) (lc' := [some (.ref 55), some (.int x1), some (.int x2), some (.int x3), some (.int x4), some (.int q9.1), none, none, none, none]) (st' := [.int (-1)]) (h' := q19.2) (sg1 rfl rfl rfl) ?_
      exact Ex.weak (sm_le_n (sm_le_n (sm_le_n (sm_le_n (sm_le_n (sm_le_n (sm_le_s (sm_le_s (sm_le_s (sm_le_s sm_le_nil)))))))))) (B_202_183 hd  hf hs)
    · rw [if_neg c0] at hf
      refine Ex.seg 7 (pc' := 176) (lc' := [some (.ref 55), some (.int x1), some (.int x2), some (.int x3), some (.int x4), some (.int q9.1), none, none, none, none]) (st' := [.int x4, .int 1, .int x3, .int 0, .int x2, .int 20, .ref 55]) (h' := q19.2) (sg1 rfl rfl (sg1 rfl rfl (sg1 rfl rfl (sg1 rfl rfl (sg1 rfl rfl (sg1 rfl rfl (sg1 rfl rfl rfl))))))) ?_
      obtain ⟨q20, e_q20, hf⟩ := bnd hf
      refine Ex.callV (a := 55) (As := [.int 20, .int x2, .int 0, .int x3, .int 1, .int x4]) (r := []) (v := some (.int q20.1)) (h' := q20.2) rfl rfl (by decide) rfl (Nat.le_of_ble_eq_true rfl) rfl (E_191 (Nat.le_trans (by decide) hd) e_q20) rfl ?_
      refine Ex.seg 1 (pc' := 183) (lc' := [some (.ref 55), some (.int x1), some (.int x2), some (.int x3), some (.int x4), some (.int q9.1), none, none, none, none]) (st' := [.int q20.1]) (h' := q20.2) (sg1 rfl rfl rfl) ?_
      exact Ex.weak (sm_le_n (sm_le_n (sm_le_n (sm_le_n (sm_le_n (sm_le_n (sm_le_s (sm_le_s (sm_le_s (sm_le_s sm_le_nil)))))))))) (B_202_183 hd  hf hs)
  rw [if_neg n5] at hf
  rcases Classical.em (x1 = 9) with n6 | n6
  · rw [if_pos n6] at hf
    refine Ex.swt (t := 184) rfl rfl (by rw [n6]; exact Or.inr ⟨by decide, by decide, _, rfl, by decide⟩) ?_
    refine Ex.seg 7 (pc' := 194) (lc' := [some (.ref 55), some (.int x1), some (.int x2), some (.int x3), some (.int x4), some (.int q9.1), none, none, none, none]) (st' := [.int x4, .int 1, .int x3, .int 0, .int q9.1, .int 21, .ref 55]) (h' := q9.2) (sg1 rfl rfl (sg1 rfl rfl (sg1 rfl rfl (sg1 rfl rfl (sg1 rfl rfl (sg1 rfl rfl (sg1 rfl rfl rfl))))))) ?_
    obtain ⟨q21, e_q21, hf⟩ := bnd hf
    refine Ex.callV (a := 55) (As := [.int 21, .int q9.1, .int 0, .int x3, .int 1, .int x4]) (r := []) (v := some (.int q21.1)) (h' := q21.2) rfl rfl (by decide) rfl (Nat.le_of_ble_eq_true rfl) rfl (E_191 (Nat.le_trans (by decide) hd) e_q21) rfl ?_
    obtain rfl := Option.some.inj hf
    exact Ex.iret rfl rfl (fun c0 => by cases c0) hs
  rw [if_neg n6] at hf
  rcases Classical.em (x1 = 10) with n7 | n7
  · rw [if_pos n7] at hf
    refine Ex.swt (t := 198) rfl rfl (by rw [n7]; exact Or.inr ⟨by decide, by decide, _, rfl, by decide⟩) ?_
    refine Ex.seg 6 (pc' := 205) (lc' := [some (.ref 55), some (.int x1), some (.int x2), some (.int x3), some (.int x4), some (.int q9.1), none, none, none, none]) (st' := [.int x4, .int 5, .int (x3 + 1), .ref 55]) (h' := q9.2) (sg1 rfl rfl (sg1 rfl rfl (sg1 rfl rfl (sg1 rfl rfl (sg1 rfl rfl (sg1 rfl rfl rfl)))))) ?_
    obtain ⟨q22, e_q22, hf⟩ := bnd hf
    refine Ex.callV (a := 55) (As := [.int (x3 + 1), .int 5, .int x4]) (r := []) (v := some (.int q22.1)) (h' := q22.2) rfl rfl (by decide) rfl (Nat.le_of_ble_eq_true rfl) rfl (E_190 (Nat.le_trans (by decide) hd) e_q22) rfl ?_
    refine Ex.ifc rfl rfl (fun (c0 : q22.1 = 0) => ?_) (fun (c0 : ¬ (q22.1 = 0)) => ?_)
    · rw [if_pos c0] at hf
      refine Ex.seg 1 (pc' := 228) (lc' := [some (.ref 55), some (.int x1), some (.int x2), some (.int x3), some (.int x4), some (.int q9.1), none, none, none, none]) (st' := [.int (-1)]) (h' := q22.2) (sg1 rfl rfl rfl) ?_
      exact Ex.weak (sm_le_n (sm_le_n (sm_le_n (sm_le_n (sm_le_n (sm_le_n (sm_le_s (sm_le_s (sm_le_s (sm_le_s sm_le_nil)))))))))) (B_202_228 hd  hf hs)
    · rw [if_neg c0] at hf
      refine Ex.seg 7 (pc' := 221) (lc' := [some (.ref 55), some (.int x1), some (.int x2), some (.int x3), some (.int x4), some (.int q9.1), none, none, none, none]) (st' := [.int x4, .int 2, .int x3, .int 0, .int q9.1, .int 22, .ref 55]) (h' := q22.2) (sg1 rfl rfl (sg1 rfl rfl (sg1 rfl rfl (sg1 rfl rfl (sg1 rfl rfl (sg1 rfl rfl (sg1 rfl rfl rfl))))))) ?_
      obtain ⟨q23, e_q23, hf⟩ := bnd hf
      refine Ex.callV (a := 55) (As := [.int 22, .int q9.1, .int 0, .int x3, .int 2, .int x4]) (r := []) (v := some (.int q23.1)) (h' := q23.2) rfl rfl (by decide) rfl (Nat.le_of_ble_eq_true rfl) rfl (E_191 (Nat.le_trans (by decide) hd) e_q23) rfl ?_
      refine Ex.seg 1 (pc' := 228) (lc' := [some (.ref 55), some (.int x1), some (.int x2), some (.int x3), some (.int x4), some (.int q9.1), none, none, none, none]) (st' := [.int q23.1]) (h' := q23.2) (sg1 rfl rfl rfl) ?_
      exact Ex.weak (sm_le_n (sm_le_n (sm_le_n (sm_le_n (sm_le_n (sm_le_n (sm_le_s (sm_le_s (sm_le_s (sm_le_s sm_le_nil)))))))))) (B_202_228 hd  hf hs)
  rw [if_neg n7] at hf
  rcases Classical.em (x1 = 11) with n8 | n8
  · rw [if_pos n8] at hf
    refine Ex.swt (t := 229) rfl rfl (by rw [n8]; exact Or.inr ⟨by decide, by decide, _, rfl, by decide⟩) ?_
    refine Ex.seg 6 (pc' := 236) (lc' := [some (.ref 55), some (.int x1), some (.int x2), some (.int x3), some (.int x4), some (.int q9.1), none, none, none, none]) (st' := [.int x4, .int 5, .int (x3 + 1), .ref 55]) (h' := q9.2) (sg1 rfl rfl (sg1 rfl rfl (sg1 rfl rfl (sg1 rfl rfl (sg1 rfl rfl (sg1 rfl rfl rfl)))))) ?_
    obtain ⟨q24, e_q24, hf⟩ := bnd hf
    refine Ex.callV (a := 55) (As := [.int (x3 + 1), .int 5, .int x4]) (r := []) (v := some (.int q24.1)) (h' := q24.2) rfl rfl (by decide) rfl (Nat.le_of_ble_eq_true rfl) rfl (E_190 (Nat.le_trans (by decide) hd) e_q24) rfl ?_
    refine Ex.ifc rfl rfl (fun (c0 : q24.1 = 0) => ?_) (fun (c0 : ¬ (q24.1 = 0)) => ?_)
    · rw [if_pos c0] at hf
      exact Ex.weak (sm_le_s (sm_le_n (sm_le_n (sm_le_s (sm_le_s (sm_le_s (sm_le_s (sm_le_s (sm_le_s (sm_le_s sm_le_nil)))))))))) (B_202_267 hd  hf hs)
    · rw [if_neg c0] at hf
      refine Ex.seg 7 (pc' := 252) (lc' := [some (.ref 55), some (.int x1), some (.int x2), some (.int x3), some (.int x4), some (.int q9.1), none, none, none, none]) (st' := [.int q9.1, .ref 1, .int (x3 + 2), .ref 55]) (h' := q24.2) (sg1 rfl rfl (sg1 rfl rfl (sg1 rfl rfl (sg1 rfl rfl (sg1 rfl rfl (sg1 rfl rfl (sg1 rfl rfl rfl))))))) ?_
      obtain ⟨q25, e_q25, hf⟩ := bnd hf
      refine Ex.callV (a := 1) (As := [.int q9.1]) (r := [.int (x3 + 2), .ref 55]) (v := some (.int q25.1)) (h' := q25.2) rfl rfl (by decide) rfl (Nat.le_of_ble_eq_true rfl) rfl (E_63 (Nat.le_trans (by decide) hd) e_q25) rfl ?_
      refine Ex.seg 1 (pc' := 257) (lc' := [some (.ref 55), some (.int x1), some (.int x2), some (.int x3), some (.int x4), some (.int q9.1), none, none, none, none]) (st' := [.int x4, .int q25.1, .int (x3 + 2), .ref 55]) (h' := q25.2) (sg1 rfl rfl rfl) ?_
      obtain ⟨q26, e_q26, hf⟩ := bnd hf
      refine Ex.callV (a := 55) (As := [.int (x3 + 2), .int q25.1, .int x4]) (r := []) (v := some (.int q26.1)) (h' := q26.2) rfl rfl (by decide) rfl (Nat.le_of_ble_eq_true rfl) rfl (E_190 (Nat.le_trans (by decide) hd) e_q26) rfl ?_
      refine Ex.ifc rfl rfl (fun (c0 : q26.1 = 0) => ?_) (fun (c0 : ¬ (q26.1 = 0)) => ?_)
      · rw [if_pos c0] at hf
        exact Ex.weak (sm_le_s (sm_le_n (sm_le_n (sm_le_s (sm_le_s (sm_le_s (sm_le_s (sm_le_s (sm_le_s (sm_le_s sm_le_nil)))))))))) (B_202_267 hd  hf hs)
      · rw [if_neg c0] at hf
        refine Ex.seg 2 (pc' := 268) (lc' := [some (.ref 55), some (.int x1), some (.int x2), some (.int x3), some (.int x4), some (.int q9.1), none, none, none, none]) (st' := [.int 1]) (h' := q26.2) (sg1 rfl rfl (sg1 rfl rfl rfl)) ?_
        exact Ex.weak (sm_le_s (sm_le_n (sm_le_n (sm_le_s (sm_le_s (sm_le_s (sm_le_s (sm_le_s (sm_le_s (sm_le_s sm_le_nil)))))))))) (B_202_268 hd  hf hs)
  rw [if_neg n8] at hf
  rcases Classical.em (x1 = 12) with n9 | n9
  · rw [if_pos n9] at hf
    refine Ex.swt (t := 293) rfl rfl (by rw [n9]; exact Or.inr ⟨by decide, by decide, _, rfl, by decide⟩) ?_
    refine Ex.seg 4 (pc' := 299) (lc' := [some (.ref 55), some (.int x1), some (.int x2), some (.int x3), some (.int x4), some (.int q9.1), none, none, none, none]) (st' := [.int x4, .int 7, .int x3, .ref 55]) (h' := q9.2) (sg1 rfl rfl (sg1 rfl rfl (sg1 rfl rfl (sg1 rfl rfl rfl)))) ?_
    obtain ⟨q27, e_q27, hf⟩ := bnd hf
    refine Ex.callV (a := 55) (As := [.int x3, .int 7, .int x4]) (r := []) (v := some (.int q27.1)) (h' := q27.2) rfl rfl (by decide) rfl (Nat.le_of_ble_eq_true rfl) rfl (E_190 (Nat.le_trans (by decide) hd) e_q27) rfl ?_
    refine Ex.ifc rfl rfl (fun (c0 : q27.1 = 0) => ?_) (fun (c0 : ¬ (q27.1 = 0)) => ?_)
    · rw [if_pos c0] at hf
      refine Ex.seg 1 (pc' := 321) (lc' := [some (.ref 55), some (.int x1), some (.int x2), some (.int x3), some (.int x4), some (.int q9.1), none, none, none, none]) (st' := [.int (-1)]) (h' := q27.2) (sg1 rfl rfl rfl) ?_
      exact Ex.weak (sm_le_n (sm_le_n (sm_le_n (sm_le_n (sm_le_n (sm_le_n (sm_le_s (sm_le_s (sm_le_s (sm_le_s sm_le_nil)))))))))) (B_202_321 hd  hf hs)
    · rw [if_neg c0] at hf
      refine Ex.seg 7 (pc' := 314) (lc' := [some (.ref 55), some (.int x1), some (.int x2), some (.int x3), some (.int x4), some (.int q9.1), none, none, none, none]) (st' := [.int x4, .int 1, .int x3, .int 0, .int x2, .int 31, .ref 55]) (h' := q27.2) (sg1 rfl rfl (sg1 rfl rfl (sg1 rfl rfl (sg1 rfl rfl (sg1 rfl rfl (sg1 rfl rfl (sg1 rfl rfl rfl))))))) ?_
      obtain ⟨q28, e_q28, hf⟩ := bnd hf
      refine Ex.callV (a := 55) (As := [.int 31, .int x2, .int 0, .int x3, .int 1, .int x4]) (r := []) (v := some (.int q28.1)) (h' := q28.2) rfl rfl (by decide) rfl (Nat.le_of_ble_eq_true rfl) rfl (E_191 (Nat.le_trans (by decide) hd) e_q28) rfl ?_
      refine Ex.seg 1 (pc' := 321) (lc' := [some (.ref 55), some (.int x1), some (.int x2), some (.int x3), some (.int x4), some (.int q9.1), none, none, none, none]) (st' := [.int q28.1]) (h' := q28.2) (sg1 rfl rfl rfl) ?_
      exact Ex.weak (sm_le_n (sm_le_n (sm_le_n (sm_le_n (sm_le_n (sm_le_n (sm_le_s (sm_le_s (sm_le_s (sm_le_s sm_le_nil)))))))))) (B_202_321 hd  hf hs)
  rw [if_neg n9] at hf
  rcases Classical.em (x1 = 13) with n10 | n10
  · rw [if_pos n10] at hf
    refine Ex.swt (t := 322) rfl rfl (by rw [n10]; exact Or.inr ⟨by decide, by decide, _, rfl, by decide⟩) ?_
    refine Ex.seg 4 (pc' := 328) (lc' := [some (.ref 55), some (.int x1), some (.int x2), some (.int x3), some (.int x4), some (.int q9.1), none, none, none, none]) (st' := [.int x4, .int 7, .int x3, .ref 55]) (h' := q9.2) (sg1 rfl rfl (sg1 rfl rfl (sg1 rfl rfl (sg1 rfl rfl rfl)))) ?_
    obtain ⟨q29, e_q29, hf⟩ := bnd hf
    refine Ex.callV (a := 55) (As := [.int x3, .int 7, .int x4]) (r := []) (v := some (.int q29.1)) (h' := q29.2) rfl rfl (by decide) rfl (Nat.le_of_ble_eq_true rfl) rfl (E_190 (Nat.le_trans (by decide) hd) e_q29) rfl ?_
    refine Ex.ifc rfl rfl (fun (c0 : q29.1 = 0) => ?_) (fun (c0 : ¬ (q29.1 = 0)) => ?_)
    · rw [if_pos c0] at hf
      exact Ex.weak (sm_le_s (sm_le_n (sm_le_n (sm_le_s (sm_le_s (sm_le_n (sm_le_s (sm_le_s (sm_le_s (sm_le_s sm_le_nil)))))))))) (B_202_352 hd  hf hs)
    · rw [if_neg c0] at hf
      refine Ex.seg 6 (pc' := 342) (lc' := [some (.ref 55), some (.int x1), some (.int x2), some (.int x3), some (.int x4), some (.int q9.1), none, none, none, none]) (st' := [.int x4, .int 7, .int (x3 + 1), .ref 55]) (h' := q29.2) (sg1 rfl rfl (sg1 rfl rfl (sg1 rfl rfl (sg1 rfl rfl (sg1 rfl rfl (sg1 rfl rfl rfl)))))) ?_
      obtain ⟨q30, e_q30, hf⟩ := bnd hf
      refine Ex.callV (a := 55) (As := [.int (x3 + 1), .int 7, .int x4]) (r := []) (v := some (.int q30.1)) (h' := q30.2) rfl rfl (by decide) rfl (Nat.le_of_ble_eq_true rfl) rfl (E_190 (Nat.le_trans (by decide) hd) e_q30) rfl ?_
      refine Ex.ifc rfl rfl (fun (c0 : q30.1 = 0) => ?_) (fun (c0 : ¬ (q30.1 = 0)) => ?_)
      · rw [if_pos c0] at hf
        exact Ex.weak (sm_le_s (sm_le_n (sm_le_n (sm_le_s (sm_le_s (sm_le_n (sm_le_s (sm_le_s (sm_le_s (sm_le_s sm_le_nil)))))))))) (B_202_352 hd  hf hs)
      · rw [if_neg c0] at hf
        refine Ex.seg 2 (pc' := 353) (lc' := [some (.ref 55), some (.int x1), some (.int x2), some (.int x3), some (.int x4), some (.int q9.1), none, none, none, none]) (st' := [.int 1]) (h' := q30.2) (sg1 rfl rfl (sg1 rfl rfl rfl)) ?_
        exact Ex.weak (sm_le_s (sm_le_n (sm_le_n (sm_le_s (sm_le_s (sm_le_n (sm_le_s (sm_le_s (sm_le_s (sm_le_s sm_le_nil)))))))))) (B_202_353 hd  hf hs)
  rw [if_neg n10] at hf
  rcases Classical.em (x1 = 14) with n11 | n11
  · rw [if_pos n11] at hf
    refine Ex.swt (t := 377) rfl rfl (by rw [n11]; exact Or.inr ⟨by decide, by decide, _, rfl, by decide⟩) ?_
    refine Ex.seg 7 (pc' := 387) (lc' := [some (.ref 55), some (.int x1), some (.int x2), some (.int x3), some (.int x4), some (.int q9.1), none, none, none, none]) (st' := [.int x4, .int 1, .int x3, .int q9.1, .int x2, .int 19, .ref 55]) (h' := q9.2) (sg1 rfl rfl (sg1 rfl rfl (sg1 rfl rfl (sg1 rfl rfl (sg1 rfl rfl (sg1 rfl rfl (sg1 rfl rfl rfl))))))) ?_
    obtain ⟨q31, e_q31, hf⟩ := bnd hf
    refine Ex.callV (a := 55) (As := [.int 19, .int x2, .int q9.1, .int x3, .int 1, .int x4]) (r := []) (v := some (.int q31.1)) (h' := q31.2) rfl rfl (by decide) rfl (Nat.le_of_ble_eq_true rfl) rfl (E_191 (Nat.le_trans (by decide) hd) e_q31) rfl ?_
    obtain rfl := Option.some.inj hf
    exact Ex.iret rfl rfl (fun c0 => by cases c0) hs
  rw [if_neg n11] at hf
  rcases Classical.em (x1 = 15) with n12 | n12
  · rw [if_pos n12] at hf
    refine Ex.swt (t := 391) rfl rfl (by rw [n12]; exact Or.inr ⟨by decide, by decide, _, rfl, by decide⟩) ?_
    refine Ex.seg 4 (pc' := 397) (lc' := [some (.ref 55), some (.int x1), some (.int x2), some (.int x3), some (.int x4), some (.int q9.1), none, none, none, none]) (st' := [.int x4, .int 19, .int x3, .ref 55]) (h' := q9.2) (sg1 rfl rfl (sg1 rfl rfl (sg1 rfl rfl (sg1 rfl rfl rfl)))) ?_
    obtain ⟨q32, e_q32, hf⟩ := bnd hf
    refine Ex.callV (a := 55) (As := [.int x3, .int 19, .int x4]) (r := []) (v := some (.int q32.1)) (h' := q32.2) rfl rfl (by decide) rfl (Nat.le_of_ble_eq_true rfl) rfl (E_190 (Nat.le_trans (by decide) hd) e_q32) rfl ?_
    refine Ex.ifc rfl rfl (fun (c0 : q32.1 = 0) => ?_) (fun (c0 : ¬ (q32.1 = 0)) => ?_)
    · rw [if_pos c0] at hf
      refine Ex.seg 1 (pc' := 419) (lc' := [some (.ref 55), some (.int x1), some (.int x2), some (.int x3), some (.int x4), some (.int q9.1), none, none, none, none]) (st' := [.int (-1)]) (h' := q32.2) (sg1 rfl rfl rfl) ?_
      exact Ex.weak (sm_le_n (sm_le_n (sm_le_n (sm_le_n (sm_le_n (sm_le_n (sm_le_s (sm_le_s (sm_le_s (sm_le_s sm_le_nil)))))))))) (B_202_419 hd  hf hs)
    · rw [if_neg c0] at hf
      refine Ex.seg 7 (pc' := 412) (lc' := [some (.ref 55), some (.int x1), some (.int x2), some (.int x3), some (.int x4), some (.int q9.1), none, none, none, none]) (st' := [.int x4, .int 1, .int x3, .int 0, .int 0, .int 33, .ref 55]) (h' := q32.2) (sg1 rfl rfl (sg1 rfl rfl (sg1 rfl rfl (sg1 rfl rfl (sg1 rfl rfl (sg1 rfl rfl (sg1 rfl rfl rfl))))))) ?_
      obtain ⟨q33, e_q33, hf⟩ := bnd hf
      refine Ex.callV (a := 55) (As := [.int 33, .int 0, .int 0, .int x3, .int 1, .int x4]) (r := []) (v := some (.int q33.1)) (h' := q33.2) rfl rfl (by decide) rfl (Nat.le_of_ble_eq_true rfl) rfl (E_191 (Nat.le_trans (by decide) hd) e_q33) rfl ?_
      refine Ex.seg 1 (pc' := 419) (lc' := [some (.ref 55), some (.int x1), some (.int x2), some (.int x3), some (.int x4), some (.int q9.1), none, none, none, none]) (st' := [.int q33.1]) (h' := q33.2) (sg1 rfl rfl rfl) ?_
      exact Ex.weak (sm_le_n (sm_le_n (sm_le_n (sm_le_n (sm_le_n (sm_le_n (sm_le_s (sm_le_s (sm_le_s (sm_le_s sm_le_nil)))))))))) (B_202_419 hd  hf hs)
  rw [if_neg n12] at hf
  refine Ex.swt (t := 420) rfl rfl (sw_dflt (by decide) (by decide) (fun k hk he => ?_)) ?_
  · have hk : k < 14 := hk
    rcases (show k = 0 ∨ k = 1 ∨ k = 2 ∨ k = 3 ∨ k = 4 ∨ k = 5 ∨ k = 6 ∨ k = 7 ∨ k = 8 ∨ k = 9 ∨ k = 10 ∨ k = 11 ∨ k = 12 ∨ k = 13 by omega) with rfl | rfl | rfl | rfl | rfl | rfl | rfl | rfl | rfl | rfl | rfl | rfl | rfl | rfl
    · exact absurd (Int32.toInt_inj.mp (he.symm.trans (by decide : (_ : Int) = Int32.toInt 2))) n1
    · rfl
    · rfl
    · exact absurd (Int32.toInt_inj.mp (he.symm.trans (by decide : (_ : Int) = Int32.toInt 5))) n2
    · exact absurd (Int32.toInt_inj.mp (he.symm.trans (by decide : (_ : Int) = Int32.toInt 6))) n3
    · exact absurd (Int32.toInt_inj.mp (he.symm.trans (by decide : (_ : Int) = Int32.toInt 7))) n4
    · exact absurd (Int32.toInt_inj.mp (he.symm.trans (by decide : (_ : Int) = Int32.toInt 8))) n5
    · exact absurd (Int32.toInt_inj.mp (he.symm.trans (by decide : (_ : Int) = Int32.toInt 9))) n6
    · exact absurd (Int32.toInt_inj.mp (he.symm.trans (by decide : (_ : Int) = Int32.toInt 10))) n7
    · exact absurd (Int32.toInt_inj.mp (he.symm.trans (by decide : (_ : Int) = Int32.toInt 11))) n8
    · exact absurd (Int32.toInt_inj.mp (he.symm.trans (by decide : (_ : Int) = Int32.toInt 12))) n9
    · exact absurd (Int32.toInt_inj.mp (he.symm.trans (by decide : (_ : Int) = Int32.toInt 13))) n10
    · exact absurd (Int32.toInt_inj.mp (he.symm.trans (by decide : (_ : Int) = Int32.toInt 14))) n11
    · exact absurd (Int32.toInt_inj.mp (he.symm.trans (by decide : (_ : Int) = Int32.toInt 15))) n12
  exact Ex.weak (sm_le_s (sm_le_n (sm_le_s (sm_le_s (sm_le_s (sm_le_s (sm_le_s (sm_le_s (sm_le_s (sm_le_s sm_le_nil)))))))))) (B_202_420 hd  hf hs)
theorem E_202 {L : Nat} {xs : Nat → Int32} {d : Nat} (hd : 8 ≤ d) {x1 : Int32} {x2 : Int32} {x3 : Int32} {x4 : Int32} {h : sm_H} {r : Int32 × sm_H} (hf : F_202 x1 x2 x3 x4 h = some r) : RUN L xs d 202 [.ref 55, .int x1, .int x2, .int x3, .int x4] h (some (.int r.1), r.2) := by
  obtain ⟨d, rfl⟩ : ∃ e, d = e + 1 := ⟨d - 1, by omega⟩
  exact ⟨Nat.le_of_ble_eq_true rfl, B_202_0 (by omega) hf rfl⟩
theorem B_269_0 {L : Nat} {xs : Nat → Int32} {d : Nat} (hd : 7 ≤ d) {res : Option Value × sm_H} {x1 : Int32} {x2 : Int32} {x3 : Int32} {x4 : Int32} {x5 : Int32}  {h : sm_H} {r : (Int32 × sm_H)} (hf : F_269_0 x1 x2 x3 x4 x5 h = some r) (hs : (fun (r : Int32 × sm_H) => res = (some (.int r.1), r.2)) r) : Ex (P_G L xs) (RUN L xs d) (sm_lk P_t269) 0 0 [some (.ref 0), some (.int x1), some (.int x2), some (.int x3), some (.int x4), some (.int x5)] [] h res := by
  unfold F_269_0 at hf
  refine Ex.seg 8 (pc' := 12) (lc' := [some (.ref 0), some (.int x1), some (.int x2), some (.int x3), some (.int x4), some (.int x5)]) (st' := [.int x5, .int x4, .int x3, .int x2, .int x1, .ref 38, .ref 0]) (h' := h) (sg1 rfl rfl (sg1 rfl rfl (sg1 rfl rfl (sg1 rfl rfl (sg1 rfl rfl (sg1 rfl rfl (sg1 rfl rfl (sg1 rfl rfl rfl)))))))) ?_
  obtain ⟨q1, e_q1, hf⟩ := bnd hf
  refine Ex.callV (a := 38) (As := [.int x1, .int x2, .int x3, .int x4, .int x5]) (r := [.ref 0]) (v := some (.int q1.1)) (h' := q1.2) rfl rfl (by decide) rfl (Nat.le_of_ble_eq_true rfl) rfl (E_118 (Nat.le_trans (by decide) hd) e_q1) rfl ?_
  obtain ⟨q2, e_q2, hf⟩ := bnd hf
  refine Ex.callV (a := 0) (As := [.int q1.1]) (r := []) (v := some (.int q2.1)) (h' := q2.2) rfl rfl (by decide) rfl (Nat.le_of_ble_eq_true rfl) rfl (E_264 (Nat.le_trans (by decide) hd) e_q2) rfl ?_
  obtain rfl := Option.some.inj hf
  exact Ex.iret rfl rfl (fun c0 => by cases c0) hs
theorem E_269 {L : Nat} {xs : Nat → Int32} {d : Nat} (hd : 8 ≤ d) {x1 : Int32} {x2 : Int32} {x3 : Int32} {x4 : Int32} {x5 : Int32} {h : sm_H} {r : Int32 × sm_H} (hf : F_269 x1 x2 x3 x4 x5 h = some r) : RUN L xs d 269 [.ref 0, .int x1, .int x2, .int x3, .int x4, .int x5] h (some (.int r.1), r.2) := by
  obtain ⟨d, rfl⟩ : ∃ e, d = e + 1 := ⟨d - 1, by omega⟩
  exact ⟨Nat.le_of_ble_eq_true rfl, B_269_0 (by omega) hf rfl⟩
