theorem B_327_25 {L : Nat} {xs : Nat → Int32} {d : Nat} (hd : 4 ≤ d) {res : Option Value × sm_H}   {h : sm_H} {r : (Int32 × sm_H)} (hf : F_327_25  h = some r) (hs : (fun (r : Int32 × sm_H) => res = (some (.int r.1), r.2)) r) : Ex (P_G L xs) (RUN L xs d) (sm_lk P_t327) 0 25 [none, none, none, none] [] h res := by
  unfold F_327_25 at hf
  refine Ex.seg 1 (pc' := 26) (lc' := [none, none, none, none]) (st' := [.int 1]) (h' := h) (sg1 rfl rfl rfl) ?_
  obtain rfl := Option.some.inj hf
  exact Ex.iret rfl rfl (fun c0 => by cases c0) hs
theorem B_327_0 {L : Nat} {xs : Nat → Int32} {d : Nat} (hd : 4 ≤ d) {res : Option Value × sm_H} {x1 : Int32} {x2 : Int32}  {h : sm_H} {r : (Int32 × sm_H)} (hf : F_327_0 x1 x2 h = some r) (hs : (fun (r : Int32 × sm_H) => res = (some (.int r.1), r.2)) r) : Ex (P_G L xs) (RUN L xs d) (sm_lk P_t327) 0 0 [some (.ref 67), some (.int x1), some (.int x2), none] [] h res := by
  unfold F_327_0 at hf
  refine Ex.seg 3 (pc' := 5) (lc' := [some (.ref 67), some (.int x1), some (.int x2), none]) (st' := [.int 1, .int (h.1 67 3)]) (h' := h) (sg1 rfl rfl (sg1 rfl rfl (sg1 rfl rfl rfl))) ?_
  refine Ex.icmp rfl rfl (fun (c0 : ¬ ((h.1 67 3) = 1)) => ?_) (fun (c0 : ¬ ¬ ((h.1 67 3) = 1)) => ?_)
  · rw [if_neg c0] at hf
    exact Ex.weak (sm_le_n (sm_le_n (sm_le_n (sm_le_s sm_le_nil)))) (B_327_25 hd  hf hs)
  · rw [if_pos (Classical.not_not.mp c0)] at hf
    refine Ex.seg 3 (pc' := 11) (lc' := [some (.ref 67), some (.int x1), some (.int x2), none]) (st' := [.int 1, .int 0, .ref 67]) (h' := h) (sg1 rfl rfl (sg1 rfl rfl (sg1 rfl rfl rfl))) ?_
    obtain ⟨q1, e_q1, hf⟩ := bnd hf
    refine Ex.callV (a := 67) (As := [.int 0, .int 1]) (r := []) (v := some (.int q1.1)) (h' := q1.2) rfl rfl (by decide) rfl (Nat.le_of_ble_eq_true rfl) rfl (E_314 (Nat.le_trans (by decide) hd) e_q1) rfl ?_
    refine Ex.ifc rfl rfl (fun (c0 : q1.1 = 0) => ?_) (fun (c0 : ¬ (q1.1 = 0)) => ?_)
    · rw [if_pos c0] at hf
      exact Ex.weak (sm_le_n (sm_le_n (sm_le_n (sm_le_s sm_le_nil)))) (B_327_25 hd  hf hs)
    · rw [if_neg c0] at hf
      refine Ex.seg 2 (pc' := 19) (lc' := [some (.ref 67), some (.int x1), some (.int x2), none]) (st' := [.int x1, .ref 67]) (h' := q1.2) (sg1 rfl rfl (sg1 rfl rfl rfl)) ?_
      obtain ⟨q2, e_q2, hf⟩ := bnd hf
      refine Ex.callV (a := 67) (As := [.int x1]) (r := []) (v := some (.int q2.1)) (h' := q2.2) rfl rfl (by decide) rfl (Nat.le_of_ble_eq_true rfl) rfl (E_303 (Nat.le_trans (by decide) hd) e_q2) rfl ?_
      refine Ex.ifc rfl rfl (fun (c0 : ¬ (q2.1 = 0)) => ?_) (fun (c0 : ¬ ¬ (q2.1 = 0)) => ?_)
      · rw [if_neg c0] at hf
        refine Ex.seg 3 (pc' := 32) (lc' := [some (.ref 67), some (.int x1), some (.int x2), none]) (st' := [.int 0, .ref 69]) (h' := q2.2) (sg1 rfl rfl (sg1 rfl rfl (sg1 rfl rfl rfl))) ?_
        obtain ⟨v3, e_v3, hf⟩ := bnd hf
        refine Ex.iald e_v3 rfl rfl ?_
        refine Ex.seg 5 (pc' := 38) (lc' := [some (.ref 67), some (.int x1), some (.int x2), some (.int v3)]) (st' := [.int x2, .int x1, .int v3, .ref 67]) (h' := q2.2) (sg1 rfl rfl (sg1 rfl rfl (sg1 rfl rfl (sg1 rfl rfl (sg1 rfl rfl rfl))))) ?_
        obtain ⟨q4, e_q4, hf⟩ := bnd hf
        refine Ex.callV (a := 67) (As := [.int v3, .int x1, .int x2]) (r := []) (v := some (.int q4.1)) (h' := q4.2) rfl rfl (by decide) rfl (Nat.le_of_ble_eq_true rfl) rfl (E_326 (Nat.le_trans (by decide) hd) e_q4) rfl ?_
        refine Ex.ifc rfl rfl (fun (c0 : ¬ (q4.1 = 0)) => ?_) (fun (c0 : ¬ ¬ (q4.1 = 0)) => ?_)
        · rw [if_neg c0] at hf
          refine Ex.seg 3 (pc' := 51) (lc' := [some (.ref 67), some (.int x1), some (.int x2), some (.int v3)]) (st' := [.int v3, .ref 76]) (h' := q4.2) (sg1 rfl rfl (sg1 rfl rfl (sg1 rfl rfl rfl))) ?_
          obtain ⟨v5, e_v5, hf⟩ := bnd hf
          refine Ex.iald e_v5 rfl rfl ?_
          refine Ex.seg 1 (pc' := 53) (lc' := [some (.ref 67), some (.int x1), some (.int x2), some (.int v3)]) (st' := [.int x1, .int v5]) (h' := q4.2) (sg1 rfl rfl rfl) ?_
          refine Ex.icmp rfl rfl (fun (c0 : ¬ (v5 = x1)) => ?_) (fun (c0 : ¬ ¬ (v5 = x1)) => ?_)
          · rw [if_neg c0] at hf
            refine Ex.seg 4 (pc' := 67) (lc' := [some (.ref 67), some (.int x1), some (.int x2), some (.int v3)]) (st' := [.int x1, .ref 72, .ref 67]) (h' := q4.2) (sg1 rfl rfl (sg1 rfl rfl (sg1 rfl rfl (sg1 rfl rfl rfl)))) ?_
            obtain ⟨v6, e_v6, hf⟩ := bnd hf
            refine Ex.iald e_v6 rfl rfl ?_
            obtain ⟨q7, e_q7, hf⟩ := bnd hf
            refine Ex.callV (a := 67) (As := [.int v6]) (r := []) (v := none) (h' := q7) rfl rfl (by decide) rfl (Nat.le_of_ble_eq_true rfl) rfl (E_308 (Nat.le_trans (by decide) hd) e_q7) rfl ?_
            refine Ex.seg 2 (pc' := 73) (lc' := [some (.ref 67), some (.int x1), some (.int x2), some (.int v3)]) (st' := [.int x1, .ref 67]) (h' := q7) (sg1 rfl rfl (sg1 rfl rfl rfl)) ?_
            obtain ⟨q8, e_q8, hf⟩ := bnd hf
            refine Ex.callV (a := 67) (As := [.int x1]) (r := []) (v := none) (h' := q8) rfl rfl (by decide) rfl (Nat.le_of_ble_eq_true rfl) rfl (E_311 (Nat.le_trans (by decide) hd) e_q8) rfl ?_
            refine Ex.seg 1 (pc' := 77) (lc' := [some (.ref 67), some (.int x1), some (.int x2), some (.int v3)]) (st' := [.int 0]) (h' := q8) (sg1 rfl rfl rfl) ?_
            obtain rfl := Option.some.inj hf
            exact Ex.iret rfl rfl (fun c0 => by cases c0) hs
          · rw [if_pos (Classical.not_not.mp c0)] at hf
            refine Ex.seg 1 (pc' := 57) (lc' := [some (.ref 67), some (.int x1), some (.int x2), some (.int v3)]) (st' := [.int v3]) (h' := q4.2) (sg1 rfl rfl rfl) ?_
            obtain ⟨q9, e_q9, hf⟩ := bnd hf
            refine Ex.callS (As := [.int v3]) (r := []) (v := some (.int q9.1)) (h' := q9.2) rfl rfl rfl rfl (Nat.le_of_ble_eq_true rfl) (E_313 (Nat.le_trans (by decide) hd) e_q9) rfl ?_
            obtain rfl := Option.some.inj hf
            exact Ex.iret rfl rfl (fun c0 => by cases c0) hs
        · rw [if_pos (Classical.not_not.mp c0)] at hf
          refine Ex.seg 1 (pc' := 45) (lc' := [some (.ref 67), some (.int x1), some (.int x2), some (.int v3)]) (st' := [.int 3]) (h' := q4.2) (sg1 rfl rfl rfl) ?_
          obtain rfl := Option.some.inj hf
          exact Ex.iret rfl rfl (fun c0 => by cases c0) hs
      · rw [if_pos (Classical.not_not.mp c0)] at hf
        exact Ex.weak (sm_le_n (sm_le_n (sm_le_n (sm_le_s sm_le_nil)))) (B_327_25 hd  hf hs)
theorem E_327 {L : Nat} {xs : Nat → Int32} {d : Nat} (hd : 5 ≤ d) {x1 : Int32} {x2 : Int32} {h : sm_H} {r : Int32 × sm_H} (hf : F_327 x1 x2 h = some r) : RUN L xs d 327 [.ref 67, .int x1, .int x2] h (some (.int r.1), r.2) := by
  obtain ⟨d, rfl⟩ : ∃ e, d = e + 1 := ⟨d - 1, by omega⟩
  exact ⟨Nat.le_of_ble_eq_true rfl, B_327_0 (by omega) hf rfl⟩
theorem B_328_99 {L : Nat} {xs : Nat → Int32} {d : Nat} (hd : 2 ≤ d) {res : Option Value × sm_H} {z0 : Int32}  {h : sm_H} {r : (Int32 × sm_H)} (hf : F_328_99 z0 h = some r) (hs : (fun (r : Int32 × sm_H) => res = (some (.int r.1), r.2)) r) : Ex (P_G L xs) (RUN L xs d) (sm_lk P_t328) 0 99 [none, none, none] [.int z0] h res := by
  unfold F_328_99 at hf
  obtain rfl := Option.some.inj hf
  exact Ex.iret rfl rfl (fun c0 => by cases c0) hs
theorem B_328_62 {L : Nat} {xs : Nat → Int32} {d : Nat} (hd : 2 ≤ d) {res : Option Value × sm_H}   {h : sm_H} {r : (Int32 × sm_H)} (hf : F_328_62  h = some r) (hs : (fun (r : Int32 × sm_H) => res = (some (.int r.1), r.2)) r) : Ex (P_G L xs) (RUN L xs d) (sm_lk P_t328) 0 62 [none, none, none] [] h res := by
  unfold F_328_62 at hf
  refine Ex.seg 1 (pc' := 63) (lc' := [none, none, none]) (st' := [.int 3]) (h' := h) (sg1 rfl rfl rfl) ?_
  obtain rfl := Option.some.inj hf
  exact Ex.iret rfl rfl (fun c0 => by cases c0) hs
theorem B_328_17 {L : Nat} {xs : Nat → Int32} {d : Nat} (hd : 2 ≤ d) {res : Option Value × sm_H}   {h : sm_H} {r : (Int32 × sm_H)} (hf : F_328_17  h = some r) (hs : (fun (r : Int32 × sm_H) => res = (some (.int r.1), r.2)) r) : Ex (P_G L xs) (RUN L xs d) (sm_lk P_t328) 0 17 [none, none, none] [] h res := by
  unfold F_328_17 at hf
  refine Ex.seg 1 (pc' := 18) (lc' := [none, none, none]) (st' := [.int 1]) (h' := h) (sg1 rfl rfl rfl) ?_
  obtain rfl := Option.some.inj hf
  exact Ex.iret rfl rfl (fun c0 => by cases c0) hs
theorem B_328_0 {L : Nat} {xs : Nat → Int32} {d : Nat} (hd : 2 ≤ d) {res : Option Value × sm_H}   {h : sm_H} {r : (Int32 × sm_H)} (hf : F_328_0  h = some r) (hs : (fun (r : Int32 × sm_H) => res = (some (.int r.1), r.2)) r) : Ex (P_G L xs) (RUN L xs d) (sm_lk P_t328) 0 0 [some (.ref 67), none, none] [] h res := by
  unfold F_328_0 at hf
  refine Ex.seg 3 (pc' := 5) (lc' := [some (.ref 67), none, none]) (st' := [.int 3, .int (h.1 67 3)]) (h' := h) (sg1 rfl rfl (sg1 rfl rfl (sg1 rfl rfl rfl))) ?_
  refine Ex.icmp rfl rfl (fun (c0 : ¬ ((h.1 67 3) = 3)) => ?_) (fun (c0 : ¬ ¬ ((h.1 67 3) = 3)) => ?_)
  · rw [if_neg c0] at hf
    exact Ex.weak (sm_le_n (sm_le_s (sm_le_s sm_le_nil))) (B_328_17 hd  hf hs)
  · rw [if_pos (Classical.not_not.mp c0)] at hf
    refine Ex.seg 3 (pc' := 11) (lc' := [some (.ref 67), none, none]) (st' := [.int 3, .int 0, .ref 67]) (h' := h) (sg1 rfl rfl (sg1 rfl rfl (sg1 rfl rfl rfl))) ?_
    obtain ⟨q1, e_q1, hf⟩ := bnd hf
    refine Ex.callV (a := 67) (As := [.int 0, .int 3]) (r := []) (v := some (.int q1.1)) (h' := q1.2) rfl rfl (by decide) rfl (Nat.le_of_ble_eq_true rfl) rfl (E_314 (Nat.le_trans (by decide) hd) e_q1) rfl ?_
    refine Ex.ifc rfl rfl (fun (c0 : ¬ (q1.1 = 0)) => ?_) (fun (c0 : ¬ ¬ (q1.1 = 0)) => ?_)
    · rw [if_neg c0] at hf
      refine Ex.seg 3 (pc' := 24) (lc' := [some (.ref 67), none, none]) (st' := [.int 0, .ref 69]) (h' := q1.2) (sg1 rfl rfl (sg1 rfl rfl (sg1 rfl rfl rfl))) ?_
      obtain ⟨v2, e_v2, hf⟩ := bnd hf
      refine Ex.iald e_v2 rfl rfl ?_
      refine Ex.seg 4 (pc' := 31) (lc' := [some (.ref 67), some (.int v2), none]) (st' := [.int 1, .ref 69]) (h' := q1.2) (sg1 rfl rfl (sg1 rfl rfl (sg1 rfl rfl (sg1 rfl rfl rfl)))) ?_
      obtain ⟨v3, e_v3, hf⟩ := bnd hf
      refine Ex.iald e_v3 rfl rfl ?_
      refine Ex.seg 4 (pc' := 38) (lc' := [some (.ref 67), some (.int v2), some (.int v3)]) (st' := [.int v3, .ref 76]) (h' := q1.2) (sg1 rfl rfl (sg1 rfl rfl (sg1 rfl rfl (sg1 rfl rfl rfl)))) ?_
      obtain ⟨v4, e_v4, hf⟩ := bnd hf
      refine Ex.iald e_v4 rfl rfl ?_
      refine Ex.seg 5 (pc' := 48) (lc' := [some (.ref 67), some (.int v2), some (.int v3)]) (st' := [.int 2, .ref 69, .ref 76, .int v4]) (h' := q1.2) (sg1 rfl rfl (sg1 rfl rfl (sg1 rfl rfl (sg1 rfl rfl (sg1 rfl rfl rfl))))) ?_
      obtain ⟨v5, e_v5, hf⟩ := bnd hf
      refine Ex.iald e_v5 rfl rfl ?_
      obtain ⟨v6, e_v6, hf⟩ := bnd hf
      refine Ex.iald e_v6 rfl rfl ?_
      refine Ex.icmp rfl rfl (fun (c0 : ¬ (v4 = v6)) => ?_) (fun (c0 : ¬ ¬ (v4 = v6)) => ?_)
      · rw [if_neg c0] at hf
        exact Ex.weak (sm_le_n (sm_le_n (sm_le_n sm_le_nil))) (B_328_62 hd  hf hs)
      · rw [if_pos (Classical.not_not.mp c0)] at hf
        refine Ex.seg 2 (pc' := 55) (lc' := [some (.ref 67), some (.int v2), some (.int v3)]) (st' := [.int v2, .ref 67]) (h' := q1.2) (sg1 rfl rfl (sg1 rfl rfl rfl)) ?_
        obtain ⟨q7, e_q7, hf⟩ := bnd hf
        refine Ex.callV (a := 67) (As := [.int v2]) (r := []) (v := some (.int q7.1)) (h' := q7.2) rfl rfl (by decide) rfl (Nat.le_of_ble_eq_true rfl) rfl (E_307 (Nat.le_trans (by decide) hd) e_q7) rfl ?_
        refine Ex.seg 1 (pc' := 59) (lc' := [some (.ref 67), some (.int v2), some (.int v3)]) (st' := [.int 1, .int q7.1]) (h' := q7.2) (sg1 rfl rfl rfl) ?_
        refine Ex.icmp rfl rfl (fun (c0 : q7.1 = 1) => ?_) (fun (c0 : ¬ (q7.1 = 1)) => ?_)
        · rw [if_pos c0] at hf
          refine Ex.seg 3 (pc' := 67) (lc' := [some (.ref 67), some (.int v2), some (.int v3)]) (st' := [.int v3, .ref 67, .ref 67]) (h' := q7.2) (sg1 rfl rfl (sg1 rfl rfl (sg1 rfl rfl rfl))) ?_
          obtain ⟨q8, e_q8, hf⟩ := bnd hf
          refine Ex.callV (a := 67) (As := [.int v3]) (r := [.ref 67]) (v := some (.int q8.1)) (h' := q8.2) rfl rfl (by decide) rfl (Nat.le_of_ble_eq_true rfl) rfl (E_307 (Nat.le_trans (by decide) hd) e_q8) rfl ?_
          obtain ⟨q9, e_q9, hf⟩ := bnd hf
          refine Ex.callV (a := 67) (As := [.int q8.1]) (r := []) (v := none) (h' := q9) rfl rfl (by decide) rfl (Nat.le_of_ble_eq_true rfl) rfl (E_308 (Nat.le_trans (by decide) hd) e_q9) rfl ?_
          refine Ex.seg 5 (pc' := 78) (lc' := [some (.ref 67), some (.int v2), some (.int v3)]) (st' := [.int v3, .ref 67, .int 0, .int v3, .ref 67]) (h' := q9) (sg1 rfl rfl (sg1 rfl rfl (sg1 rfl rfl (sg1 rfl rfl (sg1 rfl rfl rfl))))) ?_
          obtain ⟨q10, e_q10, hf⟩ := bnd hf
          refine Ex.callV (a := 67) (As := [.int v3]) (r := [.int 0, .int v3, .ref 67]) (v := some (.int q10.1)) (h' := q10.2) rfl rfl (by decide) rfl (Nat.le_of_ble_eq_true rfl) rfl (E_305 (Nat.le_trans (by decide) hd) e_q10) rfl ?_
          obtain ⟨q11, e_q11, hf⟩ := bnd hf
          refine Ex.callV (a := 67) (As := [.int v3, .int 0, .int q10.1]) (r := []) (v := none) (h' := q11) rfl rfl (by decide) rfl (Nat.le_of_ble_eq_true rfl) rfl (E_310 (Nat.le_trans (by decide) hd) e_q11) rfl ?_
          refine Ex.seg 4 (pc' := 88) (lc' := [some (.ref 67), some (.int v2), some (.int v3)]) (st' := [.int 0, .int 0, .int v2, .ref 67]) (h' := q11) (sg1 rfl rfl (sg1 rfl rfl (sg1 rfl rfl (sg1 rfl rfl rfl)))) ?_
          obtain ⟨q12, e_q12, hf⟩ := bnd hf
          refine Ex.callV (a := 67) (As := [.int v2, .int 0, .int 0]) (r := []) (v := some (.int q12.1)) (h' := q12.2) rfl rfl (by decide) rfl (Nat.le_of_ble_eq_true rfl) rfl (E_312 (Nat.le_trans (by decide) hd) e_q12) rfl ?_
          refine Ex.ifc rfl rfl (fun (c0 : q12.1 = 0) => ?_) (fun (c0 : ¬ (q12.1 = 0)) => ?_)
          · rw [if_pos c0] at hf
            refine Ex.seg 1 (pc' := 99) (lc' := [some (.ref 67), some (.int v2), some (.int v3)]) (st' := [.int 3]) (h' := q12.2) (sg1 rfl rfl rfl) ?_
            exact Ex.weak (sm_le_n (sm_le_n (sm_le_n sm_le_nil))) (B_328_99 hd  hf hs)
          · rw [if_neg c0] at hf
            refine Ex.seg 2 (pc' := 99) (lc' := [some (.ref 67), some (.int v2), some (.int v3)]) (st' := [.int 0]) (h' := q12.2) (sg1 rfl rfl (sg1 rfl rfl rfl)) ?_
            exact Ex.weak (sm_le_n (sm_le_n (sm_le_n sm_le_nil))) (B_328_99 hd  hf hs)
        · rw [if_neg c0] at hf
          exact Ex.weak (sm_le_n (sm_le_n (sm_le_n sm_le_nil))) (B_328_62 hd  hf hs)
    · rw [if_pos (Classical.not_not.mp c0)] at hf
      exact Ex.weak (sm_le_n (sm_le_s (sm_le_s sm_le_nil))) (B_328_17 hd  hf hs)
theorem E_328 {L : Nat} {xs : Nat → Int32} {d : Nat} (hd : 3 ≤ d)  {h : sm_H} {r : Int32 × sm_H} (hf : F_328  h = some r) : RUN L xs d 328 [.ref 67] h (some (.int r.1), r.2) := by
  obtain ⟨d, rfl⟩ : ∃ e, d = e + 1 := ⟨d - 1, by omega⟩
  exact ⟨Nat.le_of_ble_eq_true rfl, B_328_0 (by omega) hf rfl⟩
theorem B_329_129 {L : Nat} {xs : Nat → Int32} {d : Nat} (hd : 2 ≤ d) {res : Option Value × sm_H} {z0 : Int32}  {h : sm_H} {r : (Int32 × sm_H)} (hf : F_329_129 z0 h = some r) (hs : (fun (r : Int32 × sm_H) => res = (some (.int r.1), r.2)) r) : Ex (P_G L xs) (RUN L xs d) (sm_lk P_t329) 0 129 [none, none, none, none, none] [.int z0] h res := by
  unfold F_329_129 at hf
  obtain rfl := Option.some.inj hf
  exact Ex.iret rfl rfl (fun c0 => by cases c0) hs
theorem B_329_117 {L : Nat} {xs : Nat → Int32} {d : Nat} (hd : 2 ≤ d) {res : Option Value × sm_H} {z0 : Int32}  {h : sm_H} {r : (Int32 × sm_H)} (hf : F_329_117 z0 h = some r) (hs : (fun (r : Int32 × sm_H) => res = (some (.int r.1), r.2)) r) : Ex (P_G L xs) (RUN L xs d) (sm_lk P_t329) 0 117 [none, none, none, none, none] [.int z0] h res := by
  unfold F_329_117 at hf
  refine Ex.seg 2 (pc' := 121) (lc' := [none, none, none, none, some (.int z0)]) (st' := [.int z0]) (h' := h) (sg1 rfl rfl (sg1 rfl rfl rfl)) ?_
  refine Ex.ifc rfl rfl (fun (c0 : z0 = 0) => ?_) (fun (c0 : ¬ (z0 = 0)) => ?_)
  · rw [if_pos c0] at hf
    refine Ex.seg 1 (pc' := 129) (lc' := [none, none, none, none, some (.int z0)]) (st' := [.int 3]) (h' := h) (sg1 rfl rfl rfl) ?_
    exact Ex.weak (sm_le_s (sm_le_s (sm_le_s (sm_le_s (sm_le_n sm_le_nil))))) (B_329_129 hd  hf hs)
  · rw [if_neg c0] at hf
    refine Ex.seg 2 (pc' := 129) (lc' := [none, none, none, none, some (.int z0)]) (st' := [.int 0]) (h' := h) (sg1 rfl rfl (sg1 rfl rfl rfl)) ?_
    exact Ex.weak (sm_le_s (sm_le_s (sm_le_s (sm_le_s (sm_le_n sm_le_nil))))) (B_329_129 hd  hf hs)
theorem B_329_116 {L : Nat} {xs : Nat → Int32} {d : Nat} (hd : 2 ≤ d) {res : Option Value × sm_H}   {h : sm_H} {r : (Int32 × sm_H)} (hf : F_329_116  h = some r) (hs : (fun (r : Int32 × sm_H) => res = (some (.int r.1), r.2)) r) : Ex (P_G L xs) (RUN L xs d) (sm_lk P_t329) 0 116 [none, none, none, none, none] [] h res := by
  unfold F_329_116 at hf
  refine Ex.seg 1 (pc' := 117) (lc' := [none, none, none, none, none]) (st' := [.int 0]) (h' := h) (sg1 rfl rfl rfl) ?_
  exact Ex.weak (sm_le_s (sm_le_s (sm_le_s (sm_le_s (sm_le_s sm_le_nil))))) (B_329_117 hd  hf hs)
theorem B_329_35 {L : Nat} {xs : Nat → Int32} {d : Nat} (hd : 2 ≤ d) {res : Option Value × sm_H}   {h : sm_H} {r : (Int32 × sm_H)} (hf : F_329_35  h = some r) (hs : (fun (r : Int32 × sm_H) => res = (some (.int r.1), r.2)) r) : Ex (P_G L xs) (RUN L xs d) (sm_lk P_t329) 0 35 [none, none, none, none, none] [] h res := by
  unfold F_329_35 at hf
  refine Ex.seg 1 (pc' := 36) (lc' := [none, none, none, none, none]) (st' := [.int 1]) (h' := h) (sg1 rfl rfl rfl) ?_
  obtain rfl := Option.some.inj hf
  exact Ex.iret rfl rfl (fun c0 => by cases c0) hs
theorem B_329_0 {L : Nat} {xs : Nat → Int32} {d : Nat} (hd : 2 ≤ d) {res : Option Value × sm_H} {x1 : Int32}  {h : sm_H} {r : (Int32 × sm_H)} (hf : F_329_0 x1 h = some r) (hs : (fun (r : Int32 × sm_H) => res = (some (.int r.1), r.2)) r) : Ex (P_G L xs) (RUN L xs d) (sm_lk P_t329) 0 0 [some (.ref 67), some (.int x1), none, none, none] [] h res := by
  unfold F_329_0 at hf
  refine Ex.seg 3 (pc' := 5) (lc' := [some (.ref 67), some (.int x1), none, none, none]) (st' := [.int 2, .int (h.1 67 3)]) (h' := h) (sg1 rfl rfl (sg1 rfl rfl (sg1 rfl rfl rfl))) ?_
  refine Ex.icmp rfl rfl (fun (c0 : ¬ ((h.1 67 3) = 2)) => ?_) (fun (c0 : ¬ ¬ ((h.1 67 3) = 2)) => ?_)
  · rw [if_neg c0] at hf
    exact Ex.weak (sm_le_n (sm_le_n (sm_le_s (sm_le_s (sm_le_s sm_le_nil))))) (B_329_35 hd  hf hs)
  · rw [if_pos (Classical.not_not.mp c0)] at hf
    refine Ex.seg 3 (pc' := 11) (lc' := [some (.ref 67), some (.int x1), none, none, none]) (st' := [.int 2, .int 0, .ref 67]) (h' := h) (sg1 rfl rfl (sg1 rfl rfl (sg1 rfl rfl rfl))) ?_
    obtain ⟨q1, e_q1, hf⟩ := bnd hf
    refine Ex.callV (a := 67) (As := [.int 0, .int 2]) (r := []) (v := some (.int q1.1)) (h' := q1.2) rfl rfl (by decide) rfl (Nat.le_of_ble_eq_true rfl) rfl (E_314 (Nat.le_trans (by decide) hd) e_q1) rfl ?_
    refine Ex.ifc rfl rfl (fun (c0 : q1.1 = 0) => ?_) (fun (c0 : ¬ (q1.1 = 0)) => ?_)
    · rw [if_pos c0] at hf
      exact Ex.weak (sm_le_n (sm_le_n (sm_le_s (sm_le_s (sm_le_s sm_le_nil))))) (B_329_35 hd  hf hs)
    · rw [if_neg c0] at hf
      refine Ex.seg 2 (pc' := 19) (lc' := [some (.ref 67), some (.int x1), none, none, none]) (st' := [.int x1, .ref 67]) (h' := q1.2) (sg1 rfl rfl (sg1 rfl rfl rfl)) ?_
      obtain ⟨q2, e_q2, hf⟩ := bnd hf
      refine Ex.callV (a := 67) (As := [.int x1]) (r := []) (v := some (.int q2.1)) (h' := q2.2) rfl rfl (by decide) rfl (Nat.le_of_ble_eq_true rfl) rfl (E_289 (Nat.le_trans (by decide) hd) e_q2) rfl ?_
      refine Ex.ifc rfl rfl (fun (c0 : q2.1 = 0) => ?_) (fun (c0 : ¬ (q2.1 = 0)) => ?_)
      · rw [if_pos c0] at hf
        exact Ex.weak (sm_le_n (sm_le_n (sm_le_s (sm_le_s (sm_le_s sm_le_nil))))) (B_329_35 hd  hf hs)
      · rw [if_neg c0] at hf
        refine Ex.seg 3 (pc' := 29) (lc' := [some (.ref 67), some (.int x1), none, none, none]) (st' := [.int 19, .int x1, .ref 67]) (h' := q2.2) (sg1 rfl rfl (sg1 rfl rfl (sg1 rfl rfl rfl))) ?_
        obtain ⟨q3, e_q3, hf⟩ := bnd hf
        refine Ex.callV (a := 67) (As := [.int x1, .int 19]) (r := []) (v := some (.int q3.1)) (h' := q3.2) rfl rfl (by decide) rfl (Nat.le_of_ble_eq_true rfl) rfl (E_295 (Nat.le_trans (by decide) hd) e_q3) rfl ?_
        refine Ex.ifc rfl rfl (fun (c0 : ¬ (q3.1 = 0)) => ?_) (fun (c0 : ¬ ¬ (q3.1 = 0)) => ?_)
        · rw [if_neg c0] at hf
          refine Ex.seg 3 (pc' := 42) (lc' := [some (.ref 67), some (.int x1), none, none, none]) (st' := [.int 0, .ref 69]) (h' := q3.2) (sg1 rfl rfl (sg1 rfl rfl (sg1 rfl rfl rfl))) ?_
          obtain ⟨v4, e_v4, hf⟩ := bnd hf
          refine Ex.iald e_v4 rfl rfl ?_
          refine Ex.seg 4 (pc' := 49) (lc' := [some (.ref 67), some (.int x1), some (.int v4), none, none]) (st' := [.int 1, .ref 69]) (h' := q3.2) (sg1 rfl rfl (sg1 rfl rfl (sg1 rfl rfl (sg1 rfl rfl rfl)))) ?_
          obtain ⟨v5, e_v5, hf⟩ := bnd hf
          refine Ex.iald e_v5 rfl rfl ?_
          refine Ex.seg 4 (pc' := 54) (lc' := [some (.ref 67), some (.int x1), some (.int v4), some (.int v5), none]) (st' := [.int v4, .ref 67, .ref 67]) (h' := q3.2) (sg1 rfl rfl (sg1 rfl rfl (sg1 rfl rfl (sg1 rfl rfl rfl)))) ?_
          obtain ⟨q6, e_q6, hf⟩ := bnd hf
          refine Ex.callV (a := 67) (As := [.int v4]) (r := [.ref 67]) (v := some (.int q6.1)) (h' := q6.2) rfl rfl (by decide) rfl (Nat.le_of_ble_eq_true rfl) rfl (E_307 (Nat.le_trans (by decide) hd) e_q6) rfl ?_
          obtain ⟨q7, e_q7, hf⟩ := bnd hf
          refine Ex.callV (a := 67) (As := [.int q6.1]) (r := []) (v := none) (h' := q7) rfl rfl (by decide) rfl (Nat.le_of_ble_eq_true rfl) rfl (E_308 (Nat.le_trans (by decide) hd) e_q7) rfl ?_
          refine Ex.seg 5 (pc' := 65) (lc' := [some (.ref 67), some (.int x1), some (.int v4), some (.int v5), none]) (st' := [.int v4, .ref 67, .int 0, .int v4, .ref 67]) (h' := q7) (sg1 rfl rfl (sg1 rfl rfl (sg1 rfl rfl (sg1 rfl rfl (sg1 rfl rfl rfl))))) ?_
          obtain ⟨q8, e_q8, hf⟩ := bnd hf
          refine Ex.callV (a := 67) (As := [.int v4]) (r := [.int 0, .int v4, .ref 67]) (v := some (.int q8.1)) (h' := q8.2) rfl rfl (by decide) rfl (Nat.le_of_ble_eq_true rfl) rfl (E_305 (Nat.le_trans (by decide) hd) e_q8) rfl ?_
          obtain ⟨q9, e_q9, hf⟩ := bnd hf
          refine Ex.callV (a := 67) (As := [.int v4, .int 0, .int q8.1]) (r := []) (v := none) (h' := q9) rfl rfl (by decide) rfl (Nat.le_of_ble_eq_true rfl) rfl (E_310 (Nat.le_trans (by decide) hd) e_q9) rfl ?_
          refine Ex.seg 2 (pc' := 73) (lc' := [some (.ref 67), some (.int x1), some (.int v4), some (.int v5), none]) (st' := [.int v5, .ref 67]) (h' := q9) (sg1 rfl rfl (sg1 rfl rfl rfl)) ?_
          obtain ⟨q10, e_q10, hf⟩ := bnd hf
          refine Ex.callV (a := 67) (As := [.int v5]) (r := []) (v := some (.int q10.1)) (h' := q10.2) rfl rfl (by decide) rfl (Nat.le_of_ble_eq_true rfl) rfl (E_305 (Nat.le_trans (by decide) hd) e_q10) rfl ?_
          refine Ex.ifc rfl rfl (fun (c0 : q10.1 ≤ 0) => ?_) (fun (c0 : ¬ (q10.1 ≤ 0)) => ?_)
          · rw [if_pos c0] at hf
            exact Ex.weak (sm_le_n (sm_le_n (sm_le_n (sm_le_n (sm_le_s sm_le_nil))))) (B_329_116 hd  hf hs)
          · rw [if_neg c0] at hf
            refine Ex.seg 3 (pc' := 82) (lc' := [some (.ref 67), some (.int x1), some (.int v4), some (.int v5), none]) (st' := [.int 0, .int v5, .ref 67]) (h' := q10.2) (sg1 rfl rfl (sg1 rfl rfl (sg1 rfl rfl rfl))) ?_
            obtain ⟨q11, e_q11, hf⟩ := bnd hf
            refine Ex.callV (a := 67) (As := [.int v5, .int 0]) (r := []) (v := some (.int q11.1)) (h' := q11.2) rfl rfl (by decide) rfl (Nat.le_of_ble_eq_true rfl) rfl (E_306 (Nat.le_trans (by decide) hd) e_q11) rfl ?_
            refine Ex.seg 1 (pc' := 86) (lc' := [some (.ref 67), some (.int x1), some (.int v4), some (.int v5), none]) (st' := [.int x1, .int q11.1]) (h' := q11.2) (sg1 rfl rfl rfl) ?_
            refine Ex.icmp rfl rfl (fun (c0 : ¬ (q11.1 = x1)) => ?_) (fun (c0 : ¬ ¬ (q11.1 = x1)) => ?_)
            · rw [if_neg c0] at hf
              exact Ex.weak (sm_le_n (sm_le_n (sm_le_n (sm_le_n (sm_le_s sm_le_nil))))) (B_329_116 hd  hf hs)
            · rw [if_pos (Classical.not_not.mp c0)] at hf
              refine Ex.seg 2 (pc' := 91) (lc' := [some (.ref 67), some (.int x1), some (.int v4), some (.int v5), none]) (st' := [.int v5, .ref 67]) (h' := q11.2) (sg1 rfl rfl (sg1 rfl rfl rfl)) ?_
              obtain ⟨q12, e_q12, hf⟩ := bnd hf
              refine Ex.callV (a := 67) (As := [.int v5]) (r := []) (v := some (.int q12.1)) (h' := q12.2) rfl rfl (by decide) rfl (Nat.le_of_ble_eq_true rfl) rfl (E_307 (Nat.le_trans (by decide) hd) e_q12) rfl ?_
              refine Ex.seg 2 (pc' := 96) (lc' := [some (.ref 67), some (.int x1), some (.int v4), some (.int v5), none]) (st' := [.int v4, .ref 67, .int q12.1]) (h' := q12.2) (sg1 rfl rfl (sg1 rfl rfl rfl)) ?_
              obtain ⟨q13, e_q13, hf⟩ := bnd hf
              refine Ex.callV (a := 67) (As := [.int v4]) (r := [.int q12.1]) (v := some (.int q13.1)) (h' := q13.2) rfl rfl (by decide) rfl (Nat.le_of_ble_eq_true rfl) rfl (E_307 (Nat.le_trans (by decide) hd) e_q13) rfl ?_
              refine Ex.icmp rfl rfl (fun (c0 : ¬ (q12.1 = q13.1)) => ?_) (fun (c0 : ¬ ¬ (q12.1 = q13.1)) => ?_)
              · rw [if_neg c0] at hf
                exact Ex.weak (sm_le_n (sm_le_n (sm_le_n (sm_le_n (sm_le_s sm_le_nil))))) (B_329_116 hd  hf hs)
              · rw [if_pos (Classical.not_not.mp c0)] at hf
                refine Ex.seg 4 (pc' := 106) (lc' := [some (.ref 67), some (.int x1), some (.int v4), some (.int v5), none]) (st' := [.int 0, .int 1, .int v5, .ref 67]) (h' := q13.2) (sg1 rfl rfl (sg1 rfl rfl (sg1 rfl rfl (sg1 rfl rfl rfl)))) ?_
                obtain ⟨q14, e_q14, hf⟩ := bnd hf
                refine Ex.callV (a := 67) (As := [.int v5, .int 1, .int 0]) (r := []) (v := some (.int q14.1)) (h' := q14.2) rfl rfl (by decide) rfl (Nat.le_of_ble_eq_true rfl) rfl (E_312 (Nat.le_trans (by decide) hd) e_q14) rfl ?_
                refine Ex.ifc rfl rfl (fun (c0 : q14.1 = 0) => ?_) (fun (c0 : ¬ (q14.1 = 0)) => ?_)
                · rw [if_pos c0] at hf
                  exact Ex.weak (sm_le_n (sm_le_n (sm_le_n (sm_le_n (sm_le_s sm_le_nil))))) (B_329_116 hd  hf hs)
                · rw [if_neg c0] at hf
                  refine Ex.seg 2 (pc' := 117) (lc' := [some (.ref 67), some (.int x1), some (.int v4), some (.int v5), none]) (st' := [.int 1]) (h' := q14.2) (sg1 rfl rfl (sg1 rfl rfl rfl)) ?_
                  exact Ex.weak (sm_le_n (sm_le_n (sm_le_n (sm_le_n (sm_le_s sm_le_nil))))) (B_329_117 hd  hf hs)
        · rw [if_pos (Classical.not_not.mp c0)] at hf
          exact Ex.weak (sm_le_n (sm_le_n (sm_le_s (sm_le_s (sm_le_s sm_le_nil))))) (B_329_35 hd  hf hs)
theorem E_329 {L : Nat} {xs : Nat → Int32} {d : Nat} (hd : 3 ≤ d) {x1 : Int32} {h : sm_H} {r : Int32 × sm_H} (hf : F_329 x1 h = some r) : RUN L xs d 329 [.ref 67, .int x1] h (some (.int r.1), r.2) := by
  obtain ⟨d, rfl⟩ : ∃ e, d = e + 1 := ⟨d - 1, by omega⟩
  exact ⟨Nat.le_of_ble_eq_true rfl, B_329_0 (by omega) hf rfl⟩
theorem B_330_146 {L : Nat} {xs : Nat → Int32} {d : Nat} (hd : 2 ≤ d) {res : Option Value × sm_H} {z0 : Int32}  {h : sm_H} {r : (Int32 × sm_H)} (hf : F_330_146 z0 h = some r) (hs : (fun (r : Int32 × sm_H) => res = (some (.int r.1), r.2)) r) : Ex (P_G L xs) (RUN L xs d) (sm_lk P_t330) 0 146 [none, none, none, none, none] [.int z0] h res := by
  unfold F_330_146 at hf
  obtain rfl := Option.some.inj hf
  exact Ex.iret rfl rfl (fun c0 => by cases c0) hs
theorem B_330_134 {L : Nat} {xs : Nat → Int32} {d : Nat} (hd : 2 ≤ d) {res : Option Value × sm_H} {z0 : Int32}  {h : sm_H} {r : (Int32 × sm_H)} (hf : F_330_134 z0 h = some r) (hs : (fun (r : Int32 × sm_H) => res = (some (.int r.1), r.2)) r) : Ex (P_G L xs) (RUN L xs d) (sm_lk P_t330) 0 134 [none, none, none, none, none] [.int z0] h res := by
  unfold F_330_134 at hf
  refine Ex.seg 2 (pc' := 138) (lc' := [none, none, none, none, some (.int z0)]) (st' := [.int z0]) (h' := h) (sg1 rfl rfl (sg1 rfl rfl rfl)) ?_
  refine Ex.ifc rfl rfl (fun (c0 : z0 = 0) => ?_) (fun (c0 : ¬ (z0 = 0)) => ?_)
  · rw [if_pos c0] at hf
    refine Ex.seg 1 (pc' := 146) (lc' := [none, none, none, none, some (.int z0)]) (st' := [.int 3]) (h' := h) (sg1 rfl rfl rfl) ?_
    exact Ex.weak (sm_le_s (sm_le_s (sm_le_s (sm_le_s (sm_le_n sm_le_nil))))) (B_330_146 hd  hf hs)
  · rw [if_neg c0] at hf
    refine Ex.seg 2 (pc' := 146) (lc' := [none, none, none, none, some (.int z0)]) (st' := [.int 0]) (h' := h) (sg1 rfl rfl (sg1 rfl rfl rfl)) ?_
    exact Ex.weak (sm_le_s (sm_le_s (sm_le_s (sm_le_s (sm_le_n sm_le_nil))))) (B_330_146 hd  hf hs)
theorem B_330_133 {L : Nat} {xs : Nat → Int32} {d : Nat} (hd : 2 ≤ d) {res : Option Value × sm_H}   {h : sm_H} {r : (Int32 × sm_H)} (hf : F_330_133  h = some r) (hs : (fun (r : Int32 × sm_H) => res = (some (.int r.1), r.2)) r) : Ex (P_G L xs) (RUN L xs d) (sm_lk P_t330) 0 133 [none, none, none, none, none] [] h res := by
  unfold F_330_133 at hf
  refine Ex.seg 1 (pc' := 134) (lc' := [none, none, none, none, none]) (st' := [.int 0]) (h' := h) (sg1 rfl rfl rfl) ?_
  exact Ex.weak (sm_le_s (sm_le_s (sm_le_s (sm_le_s (sm_le_s sm_le_nil))))) (B_330_134 hd  hf hs)
theorem B_330_106 {L : Nat} {xs : Nat → Int32} {d : Nat} (hd : 2 ≤ d) {res : Option Value × sm_H} {y1 : Int32} {y2 : Int32} {y3 : Int32}  {h : sm_H} {r : (Int32 × sm_H)} (hf : F_330_106 y1 y2 y3 h = some r) (hs : (fun (r : Int32 × sm_H) => res = (some (.int r.1), r.2)) r) : Ex (P_G L xs) (RUN L xs d) (sm_lk P_t330) 0 106 [some (.ref 67), some (.int y1), some (.int y2), some (.int y3), none] [] h res := by
  unfold F_330_106 at hf
  refine Ex.seg 2 (pc' := 108) (lc' := [some (.ref 67), some (.int y1), some (.int y2), some (.int y3), none]) (st' := [.int y2, .ref 67]) (h' := h) (sg1 rfl rfl (sg1 rfl rfl rfl)) ?_
  obtain ⟨q1, e_q1, hf⟩ := bnd hf
  refine Ex.callV (a := 67) (As := [.int y2]) (r := []) (v := some (.int q1.1)) (h' := q1.2) rfl rfl (by decide) rfl (Nat.le_of_ble_eq_true rfl) rfl (E_307 (Nat.le_trans (by decide) hd) e_q1) rfl ?_
  refine Ex.seg 2 (pc' := 113) (lc' := [some (.ref 67), some (.int y1), some (.int y2), some (.int y3), none]) (st' := [.int y1, .ref 67, .int q1.1]) (h' := q1.2) (sg1 rfl rfl (sg1 rfl rfl rfl)) ?_
  obtain ⟨q2, e_q2, hf⟩ := bnd hf
  refine Ex.callV (a := 67) (As := [.int y1]) (r := [.int q1.1]) (v := some (.int q2.1)) (h' := q2.2) rfl rfl (by decide) rfl (Nat.le_of_ble_eq_true rfl) rfl (E_307 (Nat.le_trans (by decide) hd) e_q2) rfl ?_
  refine Ex.icmp rfl rfl (fun (c0 : ¬ (q1.1 = q2.1)) => ?_) (fun (c0 : ¬ ¬ (q1.1 = q2.1)) => ?_)
  · rw [if_neg c0] at hf
    exact Ex.weak (sm_le_n (sm_le_n (sm_le_n (sm_le_n (sm_le_s sm_le_nil))))) (B_330_133 hd  hf hs)
  · rw [if_pos (Classical.not_not.mp c0)] at hf
    refine Ex.seg 4 (pc' := 123) (lc' := [some (.ref 67), some (.int y1), some (.int y2), some (.int y3), none]) (st' := [.int 0, .int y3, .int y2, .ref 67]) (h' := q2.2) (sg1 rfl rfl (sg1 rfl rfl (sg1 rfl rfl (sg1 rfl rfl rfl)))) ?_
    obtain ⟨q3, e_q3, hf⟩ := bnd hf
    refine Ex.callV (a := 67) (As := [.int y2, .int y3, .int 0]) (r := []) (v := some (.int q3.1)) (h' := q3.2) rfl rfl (by decide) rfl (Nat.le_of_ble_eq_true rfl) rfl (E_312 (Nat.le_trans (by decide) hd) e_q3) rfl ?_
    refine Ex.ifc rfl rfl (fun (c0 : q3.1 = 0) => ?_) (fun (c0 : ¬ (q3.1 = 0)) => ?_)
    · rw [if_pos c0] at hf
      exact Ex.weak (sm_le_n (sm_le_n (sm_le_n (sm_le_n (sm_le_s sm_le_nil))))) (B_330_133 hd  hf hs)
    · rw [if_neg c0] at hf
      refine Ex.seg 2 (pc' := 134) (lc' := [some (.ref 67), some (.int y1), some (.int y2), some (.int y3), none]) (st' := [.int 1]) (h' := q3.2) (sg1 rfl rfl (sg1 rfl rfl rfl)) ?_
      exact Ex.weak (sm_le_n (sm_le_n (sm_le_n (sm_le_n (sm_le_s sm_le_nil))))) (B_330_134 hd  hf hs)
theorem B_330_46 {L : Nat} {xs : Nat → Int32} {d : Nat} (hd : 2 ≤ d) {res : Option Value × sm_H} {y1 : Int32} {y2 : Int32} {z0 : Int32}  {h : sm_H} {r : (Int32 × sm_H)} (hf : F_330_46 y1 y2 z0 h = some r) (hs : (fun (r : Int32 × sm_H) => res = (some (.int r.1), r.2)) r) : Ex (P_G L xs) (RUN L xs d) (sm_lk P_t330) 0 46 [some (.ref 67), some (.int y1), some (.int y2), none, none] [.int z0] h res := by
  unfold F_330_46 at hf
  refine Ex.seg 4 (pc' := 50) (lc' := [some (.ref 67), some (.int y1), some (.int y2), some (.int z0), none]) (st' := [.int y1, .ref 67, .ref 67]) (h' := h) (sg1 rfl rfl (sg1 rfl rfl (sg1 rfl rfl (sg1 rfl rfl rfl)))) ?_
  obtain ⟨q4, e_q4, hf⟩ := bnd hf
  refine Ex.callV (a := 67) (As := [.int y1]) (r := [.ref 67]) (v := some (.int q4.1)) (h' := q4.2) rfl rfl (by decide) rfl (Nat.le_of_ble_eq_true rfl) rfl (E_307 (Nat.le_trans (by decide) hd) e_q4) rfl ?_
  obtain ⟨q5, e_q5, hf⟩ := bnd hf
  refine Ex.callV (a := 67) (As := [.int q4.1]) (r := []) (v := none) (h' := q5) rfl rfl (by decide) rfl (Nat.le_of_ble_eq_true rfl) rfl (E_308 (Nat.le_trans (by decide) hd) e_q5) rfl ?_
  refine Ex.seg 5 (pc' := 61) (lc' := [some (.ref 67), some (.int y1), some (.int y2), some (.int z0), none]) (st' := [.int y1, .ref 67, .int 0, .int y1, .ref 67]) (h' := q5) (sg1 rfl rfl (sg1 rfl rfl (sg1 rfl rfl (sg1 rfl rfl (sg1 rfl rfl rfl))))) ?_
  obtain ⟨q6, e_q6, hf⟩ := bnd hf
  refine Ex.callV (a := 67) (As := [.int y1]) (r := [.int 0, .int y1, .ref 67]) (v := some (.int q6.1)) (h' := q6.2) rfl rfl (by decide) rfl (Nat.le_of_ble_eq_true rfl) rfl (E_305 (Nat.le_trans (by decide) hd) e_q6) rfl ?_
  obtain ⟨q7, e_q7, hf⟩ := bnd hf
  refine Ex.callV (a := 67) (As := [.int y1, .int 0, .int q6.1]) (r := []) (v := none) (h' := q7) rfl rfl (by decide) rfl (Nat.le_of_ble_eq_true rfl) rfl (E_310 (Nat.le_trans (by decide) hd) e_q7) rfl ?_
  refine Ex.seg 2 (pc' := 69) (lc' := [some (.ref 67), some (.int y1), some (.int y2), some (.int z0), none]) (st' := [.int y2, .ref 67]) (h' := q7) (sg1 rfl rfl (sg1 rfl rfl rfl)) ?_
  obtain ⟨q8, e_q8, hf⟩ := bnd hf
  refine Ex.callV (a := 67) (As := [.int y2]) (r := []) (v := some (.int q8.1)) (h' := q8.2) rfl rfl (by decide) rfl (Nat.le_of_ble_eq_true rfl) rfl (E_305 (Nat.le_trans (by decide) hd) e_q8) rfl ?_
  refine Ex.seg 1 (pc' := 73) (lc' := [some (.ref 67), some (.int y1), some (.int y2), some (.int z0), none]) (st' := [.int z0, .int q8.1]) (h' := q8.2) (sg1 rfl rfl rfl) ?_
  refine Ex.icmp rfl rfl (fun (c0 : q8.1 < z0) => ?_) (fun (c0 : ¬ (q8.1 < z0)) => ?_)
  · rw [if_pos c0] at hf
    exact Ex.weak (sm_le_n (sm_le_n (sm_le_n (sm_le_n (sm_le_s sm_le_nil))))) (B_330_133 hd  hf hs)
  · rw [if_neg c0] at hf
    refine Ex.seg 3 (pc' := 79) (lc' := [some (.ref 67), some (.int y1), some (.int y2), some (.int z0), none]) (st' := [.int 0, .int y2, .ref 67]) (h' := q8.2) (sg1 rfl rfl (sg1 rfl rfl (sg1 rfl rfl rfl))) ?_
    obtain ⟨q9, e_q9, hf⟩ := bnd hf
    refine Ex.callV (a := 67) (As := [.int y2, .int 0]) (r := []) (v := some (.int q9.1)) (h' := q9.2) rfl rfl (by decide) rfl (Nat.le_of_ble_eq_true rfl) rfl (E_306 (Nat.le_trans (by decide) hd) e_q9) rfl ?_
    refine Ex.seg 1 (pc' := 84) (lc' := [some (.ref 67), some (.int y1), some (.int y2), some (.int z0), none]) (st' := [.int 19, .int q9.1]) (h' := q9.2) (sg1 rfl rfl rfl) ?_
    refine Ex.icmp rfl rfl (fun (c0 : ¬ (q9.1 = 19)) => ?_) (fun (c0 : ¬ ¬ (q9.1 = 19)) => ?_)
    · rw [if_neg c0] at hf
      exact Ex.weak (sm_le_n (sm_le_n (sm_le_n (sm_le_n (sm_le_s sm_le_nil))))) (B_330_133 hd  hf hs)
    · rw [if_pos (Classical.not_not.mp c0)] at hf
      refine Ex.seg 2 (pc' := 89) (lc' := [some (.ref 67), some (.int y1), some (.int y2), some (.int z0), none]) (st' := [.int 1, .int z0]) (h' := q9.2) (sg1 rfl rfl (sg1 rfl rfl rfl)) ?_
      refine Ex.icmp rfl rfl (fun (c0 : z0 = 1) => ?_) (fun (c0 : ¬ (z0 = 1)) => ?_)
      · rw [if_pos c0] at hf
        exact Ex.weak (sm_le_s (sm_le_s (sm_le_s (sm_le_s (sm_le_s sm_le_nil))))) (B_330_106 hd  hf hs)
      · rw [if_neg c0] at hf
        refine Ex.seg 3 (pc' := 95) (lc' := [some (.ref 67), some (.int y1), some (.int y2), some (.int z0), none]) (st' := [.int 1, .int y2, .ref 67]) (h' := q9.2) (sg1 rfl rfl (sg1 rfl rfl (sg1 rfl rfl rfl))) ?_
        obtain ⟨q10, e_q10, hf⟩ := bnd hf
        refine Ex.callV (a := 67) (As := [.int y2, .int 1]) (r := []) (v := some (.int q10.1)) (h' := q10.2) rfl rfl (by decide) rfl (Nat.le_of_ble_eq_true rfl) rfl (E_306 (Nat.le_trans (by decide) hd) e_q10) rfl ?_
        refine Ex.seg 2 (pc' := 100) (lc' := [some (.ref 67), some (.int y1), some (.int y2), some (.int z0), none]) (st' := [.int y1, .ref 67, .int q10.1]) (h' := q10.2) (sg1 rfl rfl (sg1 rfl rfl rfl)) ?_
        obtain ⟨q11, e_q11, hf⟩ := bnd hf
        refine Ex.callV (a := 67) (As := [.int y1]) (r := [.int q10.1]) (v := some (.int q11.1)) (h' := q11.2) rfl rfl (by decide) rfl (Nat.le_of_ble_eq_true rfl) rfl (E_307 (Nat.le_trans (by decide) hd) e_q11) rfl ?_
        refine Ex.icmp rfl rfl (fun (c0 : ¬ (q10.1 = q11.1)) => ?_) (fun (c0 : ¬ ¬ (q10.1 = q11.1)) => ?_)
        · rw [if_neg c0] at hf
          exact Ex.weak (sm_le_n (sm_le_n (sm_le_n (sm_le_n (sm_le_s sm_le_nil))))) (B_330_133 hd  hf hs)
        · rw [if_pos (Classical.not_not.mp c0)] at hf
          exact Ex.weak (sm_le_s (sm_le_s (sm_le_s (sm_le_s (sm_le_s sm_le_nil))))) (B_330_106 hd  hf hs)
theorem B_330_17 {L : Nat} {xs : Nat → Int32} {d : Nat} (hd : 2 ≤ d) {res : Option Value × sm_H}   {h : sm_H} {r : (Int32 × sm_H)} (hf : F_330_17  h = some r) (hs : (fun (r : Int32 × sm_H) => res = (some (.int r.1), r.2)) r) : Ex (P_G L xs) (RUN L xs d) (sm_lk P_t330) 0 17 [none, none, none, none, none] [] h res := by
  unfold F_330_17 at hf
  refine Ex.seg 1 (pc' := 18) (lc' := [none, none, none, none, none]) (st' := [.int 1]) (h' := h) (sg1 rfl rfl rfl) ?_
  obtain rfl := Option.some.inj hf
  exact Ex.iret rfl rfl (fun c0 => by cases c0) hs
theorem B_330_0 {L : Nat} {xs : Nat → Int32} {d : Nat} (hd : 2 ≤ d) {res : Option Value × sm_H}   {h : sm_H} {r : (Int32 × sm_H)} (hf : F_330_0  h = some r) (hs : (fun (r : Int32 × sm_H) => res = (some (.int r.1), r.2)) r) : Ex (P_G L xs) (RUN L xs d) (sm_lk P_t330) 0 0 [some (.ref 67), none, none, none, none] [] h res := by
  unfold F_330_0 at hf
  refine Ex.seg 3 (pc' := 5) (lc' := [some (.ref 67), none, none, none, none]) (st' := [.int 2, .int (h.1 67 3)]) (h' := h) (sg1 rfl rfl (sg1 rfl rfl (sg1 rfl rfl rfl))) ?_
  refine Ex.icmp rfl rfl (fun (c0 : ¬ ((h.1 67 3) = 2)) => ?_) (fun (c0 : ¬ ¬ ((h.1 67 3) = 2)) => ?_)
  · rw [if_neg c0] at hf
    exact Ex.weak (sm_le_n (sm_le_s (sm_le_s (sm_le_s (sm_le_s sm_le_nil))))) (B_330_17 hd  hf hs)
  · rw [if_pos (Classical.not_not.mp c0)] at hf
    refine Ex.seg 3 (pc' := 11) (lc' := [some (.ref 67), none, none, none, none]) (st' := [.int 2, .int 0, .ref 67]) (h' := h) (sg1 rfl rfl (sg1 rfl rfl (sg1 rfl rfl rfl))) ?_
    obtain ⟨q12, e_q12, hf⟩ := bnd hf
    refine Ex.callV (a := 67) (As := [.int 0, .int 2]) (r := []) (v := some (.int q12.1)) (h' := q12.2) rfl rfl (by decide) rfl (Nat.le_of_ble_eq_true rfl) rfl (E_314 (Nat.le_trans (by decide) hd) e_q12) rfl ?_
    refine Ex.ifc rfl rfl (fun (c0 : ¬ (q12.1 = 0)) => ?_) (fun (c0 : ¬ ¬ (q12.1 = 0)) => ?_)
    · rw [if_neg c0] at hf
      refine Ex.seg 3 (pc' := 24) (lc' := [some (.ref 67), none, none, none, none]) (st' := [.int 0, .ref 69]) (h' := q12.2) (sg1 rfl rfl (sg1 rfl rfl (sg1 rfl rfl rfl))) ?_
      obtain ⟨v13, e_v13, hf⟩ := bnd hf
      refine Ex.iald e_v13 rfl rfl ?_
      refine Ex.seg 4 (pc' := 31) (lc' := [some (.ref 67), some (.int v13), none, none, none]) (st' := [.int 1, .ref 69]) (h' := q12.2) (sg1 rfl rfl (sg1 rfl rfl (sg1 rfl rfl (sg1 rfl rfl rfl)))) ?_
      obtain ⟨v14, e_v14, hf⟩ := bnd hf
      refine Ex.iald e_v14 rfl rfl ?_
      refine Ex.seg 3 (pc' := 35) (lc' := [some (.ref 67), some (.int v13), some (.int v14), none, none]) (st' := [.int v13, .ref 67]) (h' := q12.2) (sg1 rfl rfl (sg1 rfl rfl (sg1 rfl rfl rfl))) ?_
      obtain ⟨q15, e_q15, hf⟩ := bnd hf
      refine Ex.callV (a := 67) (As := [.int v13]) (r := []) (v := some (.int q15.1)) (h' := q15.2) rfl rfl (by decide) rfl (Nat.le_of_ble_eq_true rfl) rfl (E_307 (Nat.le_trans (by decide) hd) e_q15) rfl ?_
      refine Ex.ifc rfl rfl (fun (c0 : ¬ (q15.1 = 0)) => ?_) (fun (c0 : ¬ ¬ (q15.1 = 0)) => ?_)
      · rw [if_neg c0] at hf
        refine Ex.seg 1 (pc' := 46) (lc' := [some (.ref 67), some (.int v13), some (.int v14), none, none]) (st' := [.int 2]) (h' := q15.2) (sg1 rfl rfl rfl) ?_
        exact Ex.weak (sm_le_s (sm_le_s (sm_le_s (sm_le_s (sm_le_s sm_le_nil))))) (B_330_46 hd  hf hs)
      · rw [if_pos (Classical.not_not.mp c0)] at hf
        refine Ex.seg 2 (pc' := 46) (lc' := [some (.ref 67), some (.int v13), some (.int v14), none, none]) (st' := [.int 1]) (h' := q15.2) (sg1 rfl rfl (sg1 rfl rfl rfl)) ?_
        exact Ex.weak (sm_le_s (sm_le_s (sm_le_s (sm_le_s (sm_le_s sm_le_nil))))) (B_330_46 hd  hf hs)
    · rw [if_pos (Classical.not_not.mp c0)] at hf
      exact Ex.weak (sm_le_n (sm_le_s (sm_le_s (sm_le_s (sm_le_s sm_le_nil))))) (B_330_17 hd  hf hs)
theorem E_330 {L : Nat} {xs : Nat → Int32} {d : Nat} (hd : 3 ≤ d)  {h : sm_H} {r : Int32 × sm_H} (hf : F_330  h = some r) : RUN L xs d 330 [.ref 67] h (some (.int r.1), r.2) := by
  obtain ⟨d, rfl⟩ : ∃ e, d = e + 1 := ⟨d - 1, by omega⟩
  exact ⟨Nat.le_of_ble_eq_true rfl, B_330_0 (by omega) hf rfl⟩
theorem B_331_85 {L : Nat} {xs : Nat → Int32} {d : Nat} (hd : 2 ≤ d) {res : Option Value × sm_H}   {h : sm_H} {r : (Int32 × sm_H)} (hf : F_331_85  h = some r) (hs : (fun (r : Int32 × sm_H) => res = (some (.int r.1), r.2)) r) : Ex (P_G L xs) (RUN L xs d) (sm_lk P_t331) 0 85 [none, none, none] [] h res := by
  unfold F_331_85 at hf
  refine Ex.seg 1 (pc' := 86) (lc' := [none, none, none]) (st' := [.int 3]) (h' := h) (sg1 rfl rfl rfl) ?_
  obtain rfl := Option.some.inj hf
  exact Ex.iret rfl rfl (fun c0 => by cases c0) hs
theorem B_331_31B {L : Nat} {xs : Nat → Int32} {d : Nat} (hd : 2 ≤ d) {res : Option Value × sm_H} {S1 : (Int32 × Int32 × sm_H) → Prop} (hS1 : ∀ s, S1 s → Ex (P_G L xs) (RUN L xs d) (sm_lk P_t331) 0 31 [some (.ref 67), some (.int s.1), some (.int s.2.1)] [] s.2.2 res) {s : (Int32 × Int32 × sm_H)}  {r : ((Int32 × Int32 × sm_H) ⊕ (Int32 × sm_H))} (hf : F_331_31B s = some r) (hs : (Sum.elim S1 (fun (r : Int32 × sm_H) => res = (some (.int r.1), r.2))) r) : Ex (P_G L xs) (RUN L xs d) (sm_lk P_t331) 0 31 [some (.ref 67), some (.int s.1), some (.int s.2.1)] [] s.2.2 res := by
  unfold F_331_31B at hf
  refine Ex.seg 3 (pc' := 36) (lc' := [some (.ref 67), some (.int s.1), some (.int s.2.1)]) (st' := [.int (s.2.2.1 67 3), .int s.2.1]) (h' := s.2.2) (sg1 rfl rfl (sg1 rfl rfl (sg1 rfl rfl rfl))) ?_
  refine Ex.icmp rfl rfl (fun (c0 : (s.2.2.1 67 3) ≤ s.2.1) => ?_) (fun (c0 : ¬ ((s.2.2.1 67 3) ≤ s.2.1)) => ?_)
  · rw [if_pos c0] at hf
    refine Ex.seg 2 (pc' := 69) (lc' := [some (.ref 67), some (.int s.1), some (.int s.2.1)]) (st' := [.int s.1, .ref 67]) (h' := s.2.2) (sg1 rfl rfl (sg1 rfl rfl rfl)) ?_
    obtain ⟨q1, e_q1, hf⟩ := bnd hf
    refine Ex.callV (a := 67) (As := [.int s.1]) (r := []) (v := some (.int q1.1)) (h' := q1.2) rfl rfl (by decide) rfl (Nat.le_of_ble_eq_true rfl) rfl (E_305 (Nat.le_trans (by decide) hd) e_q1) rfl ?_
    refine Ex.ifc rfl rfl (fun (c0 : q1.1 = 0) => ?_) (fun (c0 : ¬ (q1.1 = 0)) => ?_)
    · rw [if_pos c0] at hf
      obtain ⟨r0, hf0, rfl⟩ := Option.map_eq_some_iff.mp hf
      exact Ex.weak (sm_le_n (sm_le_n (sm_le_n sm_le_nil))) (B_331_85 hd  hf0 hs)
    · rw [if_neg c0] at hf
      refine Ex.seg 3 (pc' := 78) (lc' := [some (.ref 67), some (.int s.1), some (.int s.2.1)]) (st' := [.int 0, .int s.1, .ref 67]) (h' := q1.2) (sg1 rfl rfl (sg1 rfl rfl (sg1 rfl rfl rfl))) ?_
      obtain ⟨q2, e_q2, hf⟩ := bnd hf
      refine Ex.callV (a := 67) (As := [.int s.1, .int 0]) (r := []) (v := some (.int q2.1)) (h' := q2.2) rfl rfl (by decide) rfl (Nat.le_of_ble_eq_true rfl) rfl (E_306 (Nat.le_trans (by decide) hd) e_q2) rfl ?_
      refine Ex.seg 1 (pc' := 82) (lc' := [some (.ref 67), some (.int s.1), some (.int s.2.1)]) (st' := [.int 5, .int q2.1]) (h' := q2.2) (sg1 rfl rfl rfl) ?_
      refine Ex.icmp rfl rfl (fun (c0 : q2.1 = 5) => ?_) (fun (c0 : ¬ (q2.1 = 5)) => ?_)
      · rw [if_pos c0] at hf
        refine Ex.seg 3 (pc' := 90) (lc' := [some (.ref 67), some (.int s.1), some (.int s.2.1)]) (st' := [.int s.1, .ref 67, .ref 67]) (h' := q2.2) (sg1 rfl rfl (sg1 rfl rfl (sg1 rfl rfl rfl))) ?_
        obtain ⟨q3, e_q3, hf⟩ := bnd hf
        refine Ex.callV (a := 67) (As := [.int s.1]) (r := [.ref 67]) (v := some (.int q3.1)) (h' := q3.2) rfl rfl (by decide) rfl (Nat.le_of_ble_eq_true rfl) rfl (E_307 (Nat.le_trans (by decide) hd) e_q3) rfl ?_
        obtain ⟨q4, e_q4, hf⟩ := bnd hf
        refine Ex.callV (a := 67) (As := [.int q3.1]) (r := []) (v := none) (h' := q4) rfl rfl (by decide) rfl (Nat.le_of_ble_eq_true rfl) rfl (E_308 (Nat.le_trans (by decide) hd) e_q4) rfl ?_
        refine Ex.seg 5 (pc' := 101) (lc' := [some (.ref 67), some (.int s.1), some (.int s.2.1)]) (st' := [.int s.1, .ref 67, .int 0, .int s.1, .ref 67]) (h' := q4) (sg1 rfl rfl (sg1 rfl rfl (sg1 rfl rfl (sg1 rfl rfl (sg1 rfl rfl rfl))))) ?_
        obtain ⟨q5, e_q5, hf⟩ := bnd hf
        refine Ex.callV (a := 67) (As := [.int s.1]) (r := [.int 0, .int s.1, .ref 67]) (v := some (.int q5.1)) (h' := q5.2) rfl rfl (by decide) rfl (Nat.le_of_ble_eq_true rfl) rfl (E_305 (Nat.le_trans (by decide) hd) e_q5) rfl ?_
        obtain ⟨q6, e_q6, hf⟩ := bnd hf
        refine Ex.callV (a := 67) (As := [.int s.1, .int 0, .int q5.1]) (r := []) (v := none) (h' := q6) rfl rfl (by decide) rfl (Nat.le_of_ble_eq_true rfl) rfl (E_310 (Nat.le_trans (by decide) hd) e_q6) rfl ?_
        refine Ex.seg 1 (pc' := 108) (lc' := [some (.ref 67), some (.int s.1), some (.int s.2.1)]) (st' := [.int 0]) (h' := q6) (sg1 rfl rfl rfl) ?_
        obtain rfl := Option.some.inj hf
        exact Ex.iret rfl rfl (fun c0 => by cases c0) hs
      · rw [if_neg c0] at hf
        obtain ⟨r0, hf0, rfl⟩ := Option.map_eq_some_iff.mp hf
        exact Ex.weak (sm_le_n (sm_le_n (sm_le_n sm_le_nil))) (B_331_85 hd  hf0 hs)
  · rw [if_neg c0] at hf
    refine Ex.seg 5 (pc' := 48) (lc' := [some (.ref 67), some (.int s.1), some (.int s.2.1)]) (st' := [.int s.2.1, .ref 69, .ref 76]) (h' := s.2.2) (sg1 rfl rfl (sg1 rfl rfl (sg1 rfl rfl (sg1 rfl rfl (sg1 rfl rfl rfl))))) ?_
    obtain ⟨v7, e_v7, hf⟩ := bnd hf
    refine Ex.iald e_v7 rfl rfl ?_
    obtain ⟨v8, e_v8, hf⟩ := bnd hf
    refine Ex.iald e_v8 rfl rfl ?_
    refine Ex.seg 3 (pc' := 55) (lc' := [some (.ref 67), some (.int s.1), some (.int s.2.1)]) (st' := [.int s.1, .ref 76, .int v8]) (h' := s.2.2) (sg1 rfl rfl (sg1 rfl rfl (sg1 rfl rfl rfl))) ?_
    obtain ⟨v9, e_v9, hf⟩ := bnd hf
    refine Ex.iald e_v9 rfl rfl ?_
    refine Ex.icmp rfl rfl (fun (c0 : v8 = v9) => ?_) (fun (c0 : ¬ (v8 = v9)) => ?_)
    · rw [if_pos c0] at hf
      refine Ex.seg 1 (pc' := 64) (lc' := [some (.ref 67), some (.int s.1), some (.int (s.2.1 + 1))]) (st' := []) (h' := s.2.2) (sg1 rfl rfl rfl) ?_
      obtain ⟨v10, e_v10, hf⟩ := bnd hf
      rw [Option.some.inj e_v10]
      refine Ex.seg 1 (pc' := 31) (lc' := [some (.ref 67), some (.int s.1), some (.int v10)]) (st' := []) (h' := s.2.2) (sg1 rfl rfl rfl) ?_
      obtain rfl := Option.some.inj hf
      exact Ex.weak (sm_le_s (sm_le_s (sm_le_s sm_le_nil))) (hS1 _ hs)
    · rw [if_neg c0] at hf
      refine Ex.seg 1 (pc' := 60) (lc' := [some (.ref 67), some (.int s.1), some (.int s.2.1)]) (st' := [.int 3]) (h' := s.2.2) (sg1 rfl rfl rfl) ?_
      obtain rfl := Option.some.inj hf
      exact Ex.iret rfl rfl (fun c0 => by cases c0) hs
theorem B_331_31 {L : Nat} {xs : Nat → Int32} {d : Nat} (hd : 2 ≤ d) {res : Option Value × sm_H} {y1 : Int32} {y2 : Int32}  {h : sm_H} {r : (Int32 × sm_H)} (hf : F_331_31 y1 y2 h = some r) (hs : (fun (r : Int32 × sm_H) => res = (some (.int r.1), r.2)) r) : Ex (P_G L xs) (RUN L xs d) (sm_lk P_t331) 0 31 [some (.ref 67), some (.int y1), some (.int y2)] [] h res := by
  unfold F_331_31 at hf
  exact lp_ok (P := fun (s : (Int32 × Int32 × sm_H)) => Ex (P_G L xs) (RUN L xs d) (sm_lk P_t331) 0 31 [some (.ref 67), some (.int s.1), some (.int s.2.1)] [] s.2.2 res) (S := (fun (r : Int32 × sm_H) => res = (some (.int r.1), r.2))) (fun s x hx hsx => by
    intros
    exact B_331_31B hd  (fun _ q => q) hx hsx) 1000000 _ r hf hs
theorem B_331_20 {L : Nat} {xs : Nat → Int32} {d : Nat} (hd : 2 ≤ d) {res : Option Value × sm_H}   {h : sm_H} {r : (Int32 × sm_H)} (hf : F_331_20  h = some r) (hs : (fun (r : Int32 × sm_H) => res = (some (.int r.1), r.2)) r) : Ex (P_G L xs) (RUN L xs d) (sm_lk P_t331) 0 20 [none, none, none] [] h res := by
  unfold F_331_20 at hf
  refine Ex.seg 1 (pc' := 21) (lc' := [none, none, none]) (st' := [.int 1]) (h' := h) (sg1 rfl rfl rfl) ?_
  obtain rfl := Option.some.inj hf
  exact Ex.iret rfl rfl (fun c0 => by cases c0) hs
theorem B_331_0 {L : Nat} {xs : Nat → Int32} {d : Nat} (hd : 2 ≤ d) {res : Option Value × sm_H}   {h : sm_H} {r : (Int32 × sm_H)} (hf : F_331_0  h = some r) (hs : (fun (r : Int32 × sm_H) => res = (some (.int r.1), r.2)) r) : Ex (P_G L xs) (RUN L xs d) (sm_lk P_t331) 0 0 [some (.ref 67), none, none] [] h res := by
  unfold F_331_0 at hf
  refine Ex.seg 3 (pc' := 5) (lc' := [some (.ref 67), none, none]) (st' := [.int 1, .int (h.1 67 3)]) (h' := h) (sg1 rfl rfl (sg1 rfl rfl (sg1 rfl rfl rfl))) ?_
  refine Ex.icmp rfl rfl (fun (c0 : (h.1 67 3) < 1) => ?_) (fun (c0 : ¬ ((h.1 67 3) < 1)) => ?_)
  · rw [if_pos c0] at hf
    exact Ex.weak (sm_le_n (sm_le_s (sm_le_s sm_le_nil))) (B_331_20 hd  hf hs)
  · rw [if_neg c0] at hf
    refine Ex.seg 4 (pc' := 14) (lc' := [some (.ref 67), none, none]) (st' := [.int (h.1 67 3), .int 0, .ref 67]) (h' := h) (sg1 rfl rfl (sg1 rfl rfl (sg1 rfl rfl (sg1 rfl rfl rfl)))) ?_
    obtain ⟨q11, e_q11, hf⟩ := bnd hf
    refine Ex.callV (a := 67) (As := [.int 0, .int (h.1 67 3)]) (r := []) (v := some (.int q11.1)) (h' := q11.2) rfl rfl (by decide) rfl (Nat.le_of_ble_eq_true rfl) rfl (E_314 (Nat.le_trans (by decide) hd) e_q11) rfl ?_
    refine Ex.ifc rfl rfl (fun (c0 : ¬ (q11.1 = 0)) => ?_) (fun (c0 : ¬ ¬ (q11.1 = 0)) => ?_)
    · rw [if_neg c0] at hf
      refine Ex.seg 3 (pc' := 27) (lc' := [some (.ref 67), none, none]) (st' := [.int 0, .ref 69]) (h' := q11.2) (sg1 rfl rfl (sg1 rfl rfl (sg1 rfl rfl rfl))) ?_
      obtain ⟨v12, e_v12, hf⟩ := bnd hf
      refine Ex.iald e_v12 rfl rfl ?_
      refine Ex.seg 3 (pc' := 31) (lc' := [some (.ref 67), some (.int v12), some (.int 1)]) (st' := []) (h' := q11.2) (sg1 rfl rfl (sg1 rfl rfl (sg1 rfl rfl rfl))) ?_
      exact Ex.weak (sm_le_s (sm_le_s (sm_le_s sm_le_nil))) (B_331_31 hd  hf hs)
    · rw [if_pos (Classical.not_not.mp c0)] at hf
      exact Ex.weak (sm_le_n (sm_le_s (sm_le_s sm_le_nil))) (B_331_20 hd  hf hs)
theorem E_331 {L : Nat} {xs : Nat → Int32} {d : Nat} (hd : 3 ≤ d)  {h : sm_H} {r : Int32 × sm_H} (hf : F_331  h = some r) : RUN L xs d 331 [.ref 67] h (some (.int r.1), r.2) := by
  obtain ⟨d, rfl⟩ : ∃ e, d = e + 1 := ⟨d - 1, by omega⟩
  exact ⟨Nat.le_of_ble_eq_true rfl, B_331_0 (by omega) hf rfl⟩
theorem B_332_27 {L : Nat} {xs : Nat → Int32} {d : Nat} (hd : 1 ≤ d) {res : Option Value × sm_H} {z0 : Int32}  {h : sm_H} {r : (Int32 × sm_H)} (hf : F_332_27 z0 h = some r) (hs : (fun (r : Int32 × sm_H) => res = (some (.int r.1), r.2)) r) : Ex (P_G L xs) (RUN L xs d) (sm_lk P_t332) 0 27 [none, none, none] [.int z0] h res := by
  unfold F_332_27 at hf
  obtain rfl := Option.some.inj hf
  exact Ex.iret rfl rfl (fun c0 => by cases c0) hs
theorem B_332_0 {L : Nat} {xs : Nat → Int32} {d : Nat} (hd : 1 ≤ d) {res : Option Value × sm_H} {x1 : Int32} {x2 : Int32}  {h : sm_H} {r : (Int32 × sm_H)} (hf : F_332_0 x1 x2 h = some r) (hs : (fun (r : Int32 × sm_H) => res = (some (.int r.1), r.2)) r) : Ex (P_G L xs) (RUN L xs d) (sm_lk P_t332) 0 0 [some (.ref 67), some (.int x1), some (.int x2)] [] h res := by
  unfold F_332_0 at hf
  refine Ex.seg 2 (pc' := 2) (lc' := [some (.ref 67), some (.int x1), some (.int x2)]) (st' := [.int (-1), .int x2]) (h' := h) (sg1 rfl rfl (sg1 rfl rfl rfl)) ?_
  refine Ex.icmp rfl rfl (fun (c0 : x2 = (-1)) => ?_) (fun (c0 : ¬ (x2 = (-1))) => ?_)
  · rw [if_pos c0] at hf
    refine Ex.seg 2 (pc' := 15) (lc' := [some (.ref 67), some (.int x1), some (.int x2)]) (st' := [.int (-1), .int x1]) (h' := h) (sg1 rfl rfl (sg1 rfl rfl rfl)) ?_
    refine Ex.icmp rfl rfl (fun (c0 : x1 = (-1)) => ?_) (fun (c0 : ¬ (x1 = (-1))) => ?_)
    · rw [if_pos c0] at hf
      refine Ex.seg 1 (pc' := 27) (lc' := [some (.ref 67), some (.int x1), some (.int x2)]) (st' := [.int 0]) (h' := h) (sg1 rfl rfl rfl) ?_
      exact Ex.weak (sm_le_n (sm_le_n (sm_le_n sm_le_nil))) (B_332_27 hd  hf hs)
    · rw [if_neg c0] at hf
      refine Ex.seg 2 (pc' := 20) (lc' := [some (.ref 67), some (.int x1), some (.int x2)]) (st' := [.int x1, .ref 67]) (h' := h) (sg1 rfl rfl (sg1 rfl rfl rfl)) ?_
      obtain ⟨q1, e_q1, hf⟩ := bnd hf
      refine Ex.callV (a := 67) (As := [.int x1]) (r := []) (v := some (.int q1.1)) (h' := q1.2) rfl rfl (by decide) rfl (Nat.le_of_ble_eq_true rfl) rfl (E_307 (Nat.le_trans (by decide) hd) e_q1) rfl ?_
      refine Ex.seg 1 (pc' := 27) (lc' := [some (.ref 67), some (.int x1), some (.int x2)]) (st' := [.int q1.1]) (h' := q1.2) (sg1 rfl rfl rfl) ?_
      exact Ex.weak (sm_le_n (sm_le_n (sm_le_n sm_le_nil))) (B_332_27 hd  hf hs)
  · rw [if_neg c0] at hf
    refine Ex.seg 2 (pc' := 7) (lc' := [some (.ref 67), some (.int x1), some (.int x2)]) (st' := [.int x2, .ref 67]) (h' := h) (sg1 rfl rfl (sg1 rfl rfl rfl)) ?_
    obtain ⟨q2, e_q2, hf⟩ := bnd hf
    refine Ex.callV (a := 67) (As := [.int x2]) (r := []) (v := some (.int q2.1)) (h' := q2.2) rfl rfl (by decide) rfl (Nat.le_of_ble_eq_true rfl) rfl (E_307 (Nat.le_trans (by decide) hd) e_q2) rfl ?_
    refine Ex.seg 1 (pc' := 27) (lc' := [some (.ref 67), some (.int x1), some (.int x2)]) (st' := [.int q2.1]) (h' := q2.2) (sg1 rfl rfl rfl) ?_
    exact Ex.weak (sm_le_n (sm_le_n (sm_le_n sm_le_nil))) (B_332_27 hd  hf hs)
theorem E_332 {L : Nat} {xs : Nat → Int32} {d : Nat} (hd : 2 ≤ d) {x1 : Int32} {x2 : Int32} {h : sm_H} {r : Int32 × sm_H} (hf : F_332 x1 x2 h = some r) : RUN L xs d 332 [.ref 67, .int x1, .int x2] h (some (.int r.1), r.2) := by
  obtain ⟨d, rfl⟩ : ∃ e, d = e + 1 := ⟨d - 1, by omega⟩
  exact ⟨Nat.le_of_ble_eq_true rfl, B_332_0 (by omega) hf rfl⟩
theorem B_333_392 {L : Nat} {xs : Nat → Int32} {d : Nat} (hd : 2 ≤ d) {res : Option Value × sm_H} {S1 : (Int32 × Int32 × Int32 × Int32 × sm_H) → Prop} (hS1 : ∀ s, S1 s → Ex (P_G L xs) (RUN L xs d) (sm_lk P_t333) 0 310 [some (.ref 67), some (.int s.1), some (.int s.2.1), some (.int s.2.2.1), some (.int s.2.2.2.1), none] [] s.2.2.2.2 res) {S2 : (Int32 × Int32 × Int32 × Int32 × Int32 × sm_H) → Prop} (hS2 : ∀ s, S2 s → Ex (P_G L xs) (RUN L xs d) (sm_lk P_t333) 0 351 [some (.ref 67), some (.int s.1), some (.int s.2.1), some (.int s.2.2.1), some (.int s.2.2.2.1), some (.int s.2.2.2.2.1)] [] s.2.2.2.2.2 res) {y1 : Int32} {y2 : Int32} {y3 : Int32} {y4 : Int32} {y5 : Int32}  {h : sm_H} {r : ((Int32 × Int32 × Int32 × Int32 × Int32 × sm_H) ⊕ ((Int32 × Int32 × Int32 × Int32 × sm_H) ⊕ (Int32 × sm_H)))} (hf : F_333_392 y1 y2 y3 y4 y5 h = some r) (hs : (Sum.elim S2 (Sum.elim S1 (fun (r : Int32 × sm_H) => res = (some (.int r.1), r.2)))) r) : Ex (P_G L xs) (RUN L xs d) (sm_lk P_t333) 0 392 [some (.ref 67), some (.int y1), some (.int y2), some (.int y3), some (.int y4), some (.int y5)] [] h res := by
  unfold F_333_392 at hf
  refine Ex.seg 1 (pc' := 395) (lc' := [some (.ref 67), some (.int y1), some (.int y2), some (.int y3), some (.int y4), some (.int (y5 + 1))]) (st' := []) (h' := h) (sg1 rfl rfl rfl) ?_
  obtain ⟨v1, e_v1, hf⟩ := bnd hf
  rw [Option.some.inj e_v1]
  refine Ex.seg 1 (pc' := 351) (lc' := [some (.ref 67), some (.int y1), some (.int y2), some (.int y3), some (.int y4), some (.int v1)]) (st' := []) (h' := h) (sg1 rfl rfl rfl) ?_
  obtain rfl := Option.some.inj hf
  exact Ex.weak (sm_le_s (sm_le_s (sm_le_s (sm_le_s (sm_le_s (sm_le_s sm_le_nil)))))) (hS2 _ hs)
theorem B_333_351B {L : Nat} {xs : Nat → Int32} {d : Nat} (hd : 2 ≤ d) {res : Option Value × sm_H} {S1 : (Int32 × Int32 × Int32 × Int32 × sm_H) → Prop} (hS1 : ∀ s, S1 s → Ex (P_G L xs) (RUN L xs d) (sm_lk P_t333) 0 310 [some (.ref 67), some (.int s.1), some (.int s.2.1), some (.int s.2.2.1), some (.int s.2.2.2.1), none] [] s.2.2.2.2 res) {S2 : (Int32 × Int32 × Int32 × Int32 × Int32 × sm_H) → Prop} (hS2 : ∀ s, S2 s → Ex (P_G L xs) (RUN L xs d) (sm_lk P_t333) 0 351 [some (.ref 67), some (.int s.1), some (.int s.2.1), some (.int s.2.2.1), some (.int s.2.2.2.1), some (.int s.2.2.2.2.1)] [] s.2.2.2.2.2 res) {s : (Int32 × Int32 × Int32 × Int32 × Int32 × sm_H)}  {r : ((Int32 × Int32 × Int32 × Int32 × Int32 × sm_H) ⊕ ((Int32 × Int32 × Int32 × Int32 × sm_H) ⊕ (Int32 × sm_H)))} (hf : F_333_351B s = some r) (hs : (Sum.elim S2 (Sum.elim S1 (fun (r : Int32 × sm_H) => res = (some (.int r.1), r.2)))) r) : Ex (P_G L xs) (RUN L xs d) (sm_lk P_t333) 0 351 [some (.ref 67), some (.int s.1), some (.int s.2.1), some (.int s.2.2.1), some (.int s.2.2.2.1), some (.int s.2.2.2.2.1)] [] s.2.2.2.2.2 res := by
  unfold F_333_351B at hf
  refine Ex.seg 2 (pc' := 354) (lc' := [some (.ref 67), some (.int s.1), some (.int s.2.1), some (.int s.2.2.1), some (.int s.2.2.2.1), some (.int s.2.2.2.2.1)]) (st' := [.int 4, .int s.2.2.2.2.1]) (h' := s.2.2.2.2.2) (sg1 rfl rfl (sg1 rfl rfl rfl)) ?_
  refine Ex.icmp rfl rfl (fun (c0 : 4 ≤ s.2.2.2.2.1) => ?_) (fun (c0 : ¬ (4 ≤ s.2.2.2.2.1)) => ?_)
  · rw [if_pos c0] at hf
    refine Ex.seg 1 (pc' := 401) (lc' := [some (.ref 67), some (.int s.1), some (.int s.2.1), some (.int s.2.2.1), some (.int (s.2.2.2.1 + 4)), some (.int s.2.2.2.2.1)]) (st' := []) (h' := s.2.2.2.2.2) (sg1 rfl rfl rfl) ?_
    obtain ⟨v2, e_v2, hf⟩ := bnd hf
    rw [Option.some.inj e_v2]
    refine Ex.seg 1 (pc' := 310) (lc' := [some (.ref 67), some (.int s.1), some (.int s.2.1), some (.int s.2.2.1), some (.int v2), some (.int s.2.2.2.2.1)]) (st' := []) (h' := s.2.2.2.2.2) (sg1 rfl rfl rfl) ?_
    obtain rfl := Option.some.inj hf
    exact Ex.weak (sm_le_s (sm_le_s (sm_le_s (sm_le_s (sm_le_s (sm_le_n sm_le_nil)))))) (hS1 _ hs)
  · rw [if_neg c0] at hf
    refine Ex.seg 5 (pc' := 366) (lc' := [some (.ref 67), some (.int s.1), some (.int s.2.1), some (.int s.2.2.1), some (.int s.2.2.2.1), some (.int s.2.2.2.2.1)]) (st' := [.int (s.2.2.2.1 + s.2.2.2.2.1), .ref 69]) (h' := s.2.2.2.2.2) (sg1 rfl rfl (sg1 rfl rfl (sg1 rfl rfl (sg1 rfl rfl (sg1 rfl rfl rfl))))) ?_
    obtain ⟨v3, e_v3, hf⟩ := bnd hf
    refine Ex.iald e_v3 rfl rfl ?_
    refine Ex.seg 1 (pc' := 368) (lc' := [some (.ref 67), some (.int s.1), some (.int s.2.1), some (.int s.2.2.1), some (.int s.2.2.2.1), some (.int s.2.2.2.2.1)]) (st' := [.int (-1), .int v3]) (h' := s.2.2.2.2.2) (sg1 rfl rfl rfl) ?_
    refine Ex.icmp rfl rfl (fun (c0 : v3 = (-1)) => ?_) (fun (c0 : ¬ (v3 = (-1))) => ?_)
    · rw [if_pos c0] at hf
      exact Ex.weak (sm_le_s (sm_le_s (sm_le_s (sm_le_s (sm_le_s (sm_le_s sm_le_nil)))))) (B_333_392 hd hS1 hS2 hf hs)
    · rw [if_neg c0] at hf
      refine Ex.seg 6 (pc' := 381) (lc' := [some (.ref 67), some (.int s.1), some (.int s.2.1), some (.int s.2.2.1), some (.int s.2.2.2.1), some (.int s.2.2.2.2.1)]) (st' := [.int (s.2.2.2.1 + s.2.2.2.2.1), .ref 69, .ref 67]) (h' := s.2.2.2.2.2) (sg1 rfl rfl (sg1 rfl rfl (sg1 rfl rfl (sg1 rfl rfl (sg1 rfl rfl (sg1 rfl rfl rfl)))))) ?_
      obtain ⟨v4, e_v4, hf⟩ := bnd hf
      refine Ex.iald e_v4 rfl rfl ?_
      refine Ex.seg 2 (pc' := 384) (lc' := [some (.ref 67), some (.int s.1), some (.int s.2.1), some (.int s.2.2.1), some (.int s.2.2.2.1), some (.int s.2.2.2.2.1)]) (st' := [.int 0, .int 0, .int v4, .ref 67]) (h' := s.2.2.2.2.2) (sg1 rfl rfl (sg1 rfl rfl rfl)) ?_
      obtain ⟨q5, e_q5, hf⟩ := bnd hf
      refine Ex.callV (a := 67) (As := [.int v4, .int 0, .int 0]) (r := []) (v := some (.int q5.1)) (h' := q5.2) rfl rfl (by decide) rfl (Nat.le_of_ble_eq_true rfl) rfl (E_312 (Nat.le_trans (by decide) hd) e_q5) rfl ?_
      refine Ex.ifc rfl rfl (fun (c0 : ¬ (q5.1 = 0)) => ?_) (fun (c0 : ¬ ¬ (q5.1 = 0)) => ?_)
      · rw [if_neg c0] at hf
        exact Ex.weak (sm_le_s (sm_le_s (sm_le_s (sm_le_s (sm_le_s (sm_le_s sm_le_nil)))))) (B_333_392 hd hS1 hS2 hf hs)
      · rw [if_pos (Classical.not_not.mp c0)] at hf
        refine Ex.seg 1 (pc' := 391) (lc' := [some (.ref 67), some (.int s.1), some (.int s.2.1), some (.int s.2.2.1), some (.int s.2.2.2.1), some (.int s.2.2.2.2.1)]) (st' := [.int 3]) (h' := q5.2) (sg1 rfl rfl rfl) ?_
        obtain rfl := Option.some.inj hf
        exact Ex.iret rfl rfl (fun c0 => by cases c0) hs
theorem B_333_351 {L : Nat} {xs : Nat → Int32} {d : Nat} (hd : 2 ≤ d) {res : Option Value × sm_H} {S1 : (Int32 × Int32 × Int32 × Int32 × sm_H) → Prop} (hS1 : ∀ s, S1 s → Ex (P_G L xs) (RUN L xs d) (sm_lk P_t333) 0 310 [some (.ref 67), some (.int s.1), some (.int s.2.1), some (.int s.2.2.1), some (.int s.2.2.2.1), none] [] s.2.2.2.2 res) {y1 : Int32} {y2 : Int32} {y3 : Int32} {y4 : Int32} {y5 : Int32}  {h : sm_H} {r : ((Int32 × Int32 × Int32 × Int32 × sm_H) ⊕ (Int32 × sm_H))} (hf : F_333_351 y1 y2 y3 y4 y5 h = some r) (hs : (Sum.elim S1 (fun (r : Int32 × sm_H) => res = (some (.int r.1), r.2))) r) : Ex (P_G L xs) (RUN L xs d) (sm_lk P_t333) 0 351 [some (.ref 67), some (.int y1), some (.int y2), some (.int y3), some (.int y4), some (.int y5)] [] h res := by
  unfold F_333_351 at hf
  exact lp_ok (P := fun (s : (Int32 × Int32 × Int32 × Int32 × Int32 × sm_H)) => Ex (P_G L xs) (RUN L xs d) (sm_lk P_t333) 0 351 [some (.ref 67), some (.int s.1), some (.int s.2.1), some (.int s.2.2.1), some (.int s.2.2.2.1), some (.int s.2.2.2.2.1)] [] s.2.2.2.2.2 res) (S := (Sum.elim S1 (fun (r : Int32 × sm_H) => res = (some (.int r.1), r.2)))) (fun s x hx hsx => by
    intros
    exact B_333_351B hd hS1 (fun _ q => q) hx hsx) 1000000 _ r hf hs
theorem B_333_348 {L : Nat} {xs : Nat → Int32} {d : Nat} (hd : 2 ≤ d) {res : Option Value × sm_H} {S1 : (Int32 × Int32 × Int32 × Int32 × sm_H) → Prop} (hS1 : ∀ s, S1 s → Ex (P_G L xs) (RUN L xs d) (sm_lk P_t333) 0 310 [some (.ref 67), some (.int s.1), some (.int s.2.1), some (.int s.2.2.1), some (.int s.2.2.2.1), none] [] s.2.2.2.2 res) {y1 : Int32} {y2 : Int32} {y3 : Int32} {y4 : Int32}  {h : sm_H} {r : ((Int32 × Int32 × Int32 × Int32 × sm_H) ⊕ (Int32 × sm_H))} (hf : F_333_348 y1 y2 y3 y4 h = some r) (hs : (Sum.elim S1 (fun (r : Int32 × sm_H) => res = (some (.int r.1), r.2))) r) : Ex (P_G L xs) (RUN L xs d) (sm_lk P_t333) 0 348 [some (.ref 67), some (.int y1), some (.int y2), some (.int y3), some (.int y4), none] [] h res := by
  unfold F_333_348 at hf
  refine Ex.seg 2 (pc' := 351) (lc' := [some (.ref 67), some (.int y1), some (.int y2), some (.int y3), some (.int y4), some (.int 1)]) (st' := []) (h' := h) (sg1 rfl rfl (sg1 rfl rfl rfl)) ?_
  exact Ex.weak (sm_le_s (sm_le_s (sm_le_s (sm_le_s (sm_le_s (sm_le_s sm_le_nil)))))) (B_333_351 hd hS1 hf hs)
theorem B_333_310B {L : Nat} {xs : Nat → Int32} {d : Nat} (hd : 2 ≤ d) {res : Option Value × sm_H} {S1 : (Int32 × Int32 × Int32 × Int32 × sm_H) → Prop} (hS1 : ∀ s, S1 s → Ex (P_G L xs) (RUN L xs d) (sm_lk P_t333) 0 310 [some (.ref 67), some (.int s.1), some (.int s.2.1), some (.int s.2.2.1), some (.int s.2.2.2.1), none] [] s.2.2.2.2 res) {s : (Int32 × Int32 × Int32 × Int32 × sm_H)}  {r : ((Int32 × Int32 × Int32 × Int32 × sm_H) ⊕ (Int32 × sm_H))} (hf : F_333_310B s = some r) (hs : (Sum.elim S1 (fun (r : Int32 × sm_H) => res = (some (.int r.1), r.2))) r) : Ex (P_G L xs) (RUN L xs d) (sm_lk P_t333) 0 310 [some (.ref 67), some (.int s.1), some (.int s.2.1), some (.int s.2.2.1), some (.int s.2.2.2.1), none] [] s.2.2.2.2 res := by
  unfold F_333_310B at hf
  refine Ex.seg 3 (pc' := 316) (lc' := [some (.ref 67), some (.int s.1), some (.int s.2.1), some (.int s.2.2.1), some (.int s.2.2.2.1), none]) (st' := [.int (s.2.2.2.2.1 67 3), .int s.2.2.2.1]) (h' := s.2.2.2.2) (sg1 rfl rfl (sg1 rfl rfl (sg1 rfl rfl rfl))) ?_
  refine Ex.icmp rfl rfl (fun (c0 : (s.2.2.2.2.1 67 3) ≤ s.2.2.2.1) => ?_) (fun (c0 : ¬ ((s.2.2.2.2.1 67 3) ≤ s.2.2.2.1)) => ?_)
  · rw [if_pos c0] at hf
    refine Ex.seg 1 (pc' := 405) (lc' := [some (.ref 67), some (.int s.1), some (.int s.2.1), some (.int s.2.2.1), some (.int s.2.2.2.1), none]) (st' := [.int s.2.1]) (h' := s.2.2.2.2) (sg1 rfl rfl rfl) ?_
    refine Ex.ifc rfl rfl (fun (c0 : ¬ (s.2.1 = 0)) => ?_) (fun (c0 : ¬ ¬ (s.2.1 = 0)) => ?_)
    · rw [if_neg c0] at hf
      refine Ex.seg 4 (pc' := 416) (lc' := [some (.ref 67), some (.int s.1), some (.int s.2.1), some (.int s.2.2.1), some (.int s.2.2.2.1), none]) (st' := [.int s.1, .ref 72, .ref 67]) (h' := s.2.2.2.2) (sg1 rfl rfl (sg1 rfl rfl (sg1 rfl rfl (sg1 rfl rfl rfl)))) ?_
      obtain ⟨v6, e_v6, hf⟩ := bnd hf
      refine Ex.iald e_v6 rfl rfl ?_
      obtain ⟨q7, e_q7, hf⟩ := bnd hf
      refine Ex.callV (a := 67) (As := [.int v6]) (r := []) (v := none) (h' := q7) rfl rfl (by decide) rfl (Nat.le_of_ble_eq_true rfl) rfl (E_308 (Nat.le_trans (by decide) hd) e_q7) rfl ?_
      refine Ex.seg 2 (pc' := 422) (lc' := [some (.ref 67), some (.int s.1), some (.int s.2.1), some (.int s.2.2.1), some (.int s.2.2.2.1), none]) (st' := [.int s.1, .ref 67]) (h' := q7) (sg1 rfl rfl (sg1 rfl rfl rfl)) ?_
      obtain ⟨q8, e_q8, hf⟩ := bnd hf
      refine Ex.callV (a := 67) (As := [.int s.1]) (r := []) (v := none) (h' := q8) rfl rfl (by decide) rfl (Nat.le_of_ble_eq_true rfl) rfl (E_311 (Nat.le_trans (by decide) hd) e_q8) rfl ?_
      refine Ex.seg 1 (pc' := 426) (lc' := [some (.ref 67), some (.int s.1), some (.int s.2.1), some (.int s.2.2.1), some (.int s.2.2.2.1), none]) (st' := [.int 0]) (h' := q8) (sg1 rfl rfl rfl) ?_
      obtain rfl := Option.some.inj hf
      exact Ex.iret rfl rfl (fun c0 => by cases c0) hs
    · rw [if_pos (Classical.not_not.mp c0)] at hf
      refine Ex.seg 1 (pc' := 409) (lc' := [some (.ref 67), some (.int s.1), some (.int s.2.1), some (.int s.2.2.1), some (.int s.2.2.2.1), none]) (st' := [.int 3]) (h' := s.2.2.2.2) (sg1 rfl rfl rfl) ?_
      obtain rfl := Option.some.inj hf
      exact Ex.iret rfl rfl (fun c0 => by cases c0) hs
  · rw [if_neg c0] at hf
    refine Ex.seg 3 (pc' := 325) (lc' := [some (.ref 67), some (.int s.1), some (.int s.2.1), some (.int s.2.2.1), some (.int s.2.2.2.1), none]) (st' := [.int s.2.2.2.1, .ref 69]) (h' := s.2.2.2.2) (sg1 rfl rfl (sg1 rfl rfl (sg1 rfl rfl rfl))) ?_
    obtain ⟨v9, e_v9, hf⟩ := bnd hf
    refine Ex.iald e_v9 rfl rfl ?_
    refine Ex.seg 1 (pc' := 327) (lc' := [some (.ref 67), some (.int s.1), some (.int s.2.1), some (.int s.2.2.1), some (.int s.2.2.2.1), none]) (st' := [.int (-1), .int v9]) (h' := s.2.2.2.2) (sg1 rfl rfl rfl) ?_
    refine Ex.icmp rfl rfl (fun (c0 : v9 = (-1)) => ?_) (fun (c0 : ¬ (v9 = (-1))) => ?_)
    · rw [if_pos c0] at hf
      exact Ex.weak (sm_le_s (sm_le_s (sm_le_s (sm_le_s (sm_le_s (sm_le_s sm_le_nil)))))) (B_333_348 hd hS1 hf hs)
    · rw [if_neg c0] at hf
      refine Ex.seg 4 (pc' := 337) (lc' := [some (.ref 67), some (.int s.1), some (.int s.2.1), some (.int s.2.2.1), some (.int s.2.2.2.1), none]) (st' := [.int s.2.2.2.1, .ref 69, .ref 67]) (h' := s.2.2.2.2) (sg1 rfl rfl (sg1 rfl rfl (sg1 rfl rfl (sg1 rfl rfl rfl)))) ?_
      obtain ⟨v10, e_v10, hf⟩ := bnd hf
      refine Ex.iald e_v10 rfl rfl ?_
      refine Ex.seg 2 (pc' := 340) (lc' := [some (.ref 67), some (.int s.1), some (.int s.2.1), some (.int s.2.2.1), some (.int s.2.2.2.1), none]) (st' := [.int s.2.2.1, .int 0, .int v10, .ref 67]) (h' := s.2.2.2.2) (sg1 rfl rfl (sg1 rfl rfl rfl)) ?_
      obtain ⟨q11, e_q11, hf⟩ := bnd hf
      refine Ex.callV (a := 67) (As := [.int v10, .int 0, .int s.2.2.1]) (r := []) (v := some (.int q11.1)) (h' := q11.2) rfl rfl (by decide) rfl (Nat.le_of_ble_eq_true rfl) rfl (E_312 (Nat.le_trans (by decide) hd) e_q11) rfl ?_
      refine Ex.ifc rfl rfl (fun (c0 : ¬ (q11.1 = 0)) => ?_) (fun (c0 : ¬ ¬ (q11.1 = 0)) => ?_)
      · rw [if_neg c0] at hf
        exact Ex.weak (sm_le_s (sm_le_s (sm_le_s (sm_le_s (sm_le_s (sm_le_s sm_le_nil)))))) (B_333_348 hd hS1 hf hs)
      · rw [if_pos (Classical.not_not.mp c0)] at hf
        refine Ex.seg 1 (pc' := 347) (lc' := [some (.ref 67), some (.int s.1), some (.int s.2.1), some (.int s.2.2.1), some (.int s.2.2.2.1), none]) (st' := [.int 3]) (h' := q11.2) (sg1 rfl rfl rfl) ?_
        obtain rfl := Option.some.inj hf
        exact Ex.iret rfl rfl (fun c0 => by cases c0) hs
theorem B_333_310 {L : Nat} {xs : Nat → Int32} {d : Nat} (hd : 2 ≤ d) {res : Option Value × sm_H} {y1 : Int32} {y2 : Int32} {y3 : Int32} {y4 : Int32}  {h : sm_H} {r : (Int32 × sm_H)} (hf : F_333_310 y1 y2 y3 y4 h = some r) (hs : (fun (r : Int32 × sm_H) => res = (some (.int r.1), r.2)) r) : Ex (P_G L xs) (RUN L xs d) (sm_lk P_t333) 0 310 [some (.ref 67), some (.int y1), some (.int y2), some (.int y3), some (.int y4), none] [] h res := by
  unfold F_333_310 at hf
  exact lp_ok (P := fun (s : (Int32 × Int32 × Int32 × Int32 × sm_H)) => Ex (P_G L xs) (RUN L xs d) (sm_lk P_t333) 0 310 [some (.ref 67), some (.int s.1), some (.int s.2.1), some (.int s.2.2.1), some (.int s.2.2.2.1), none] [] s.2.2.2.2 res) (S := (fun (r : Int32 × sm_H) => res = (some (.int r.1), r.2))) (fun s x hx hsx => by
    intros
    exact B_333_310B hd  (fun _ q => q) hx hsx) 1000000 _ r hf hs
theorem B_333_291 {L : Nat} {xs : Nat → Int32} {d : Nat} (hd : 2 ≤ d) {res : Option Value × sm_H} {S1 : (Int32 × Int32 × Int32 × sm_H) → Prop} (hS1 : ∀ s, S1 s → Ex (P_G L xs) (RUN L xs d) (sm_lk P_t333) 0 90 [some (.ref 67), some (.int s.1), some (.int s.2.1), some (.int s.2.2.1), none, none] [] s.2.2.2 res) {y1 : Int32} {y2 : Int32} {y3 : Int32}  {h : sm_H} {r : ((Int32 × Int32 × Int32 × sm_H) ⊕ (Int32 × sm_H))} (hf : F_333_291 y1 y2 y3 h = some r) (hs : (Sum.elim S1 (fun (r : Int32 × sm_H) => res = (some (.int r.1), r.2))) r) : Ex (P_G L xs) (RUN L xs d) (sm_lk P_t333) 0 291 [some (.ref 67), some (.int y1), some (.int y2), some (.int y3), none, none] [] h res := by
  unfold F_333_291 at hf
  refine Ex.seg 1 (pc' := 294) (lc' := [some (.ref 67), some (.int y1), some (.int y2), some (.int (y3 + 4)), none, none]) (st' := []) (h' := h) (sg1 rfl rfl rfl) ?_
  obtain ⟨v12, e_v12, hf⟩ := bnd hf
  rw [Option.some.inj e_v12]
  refine Ex.seg 1 (pc' := 90) (lc' := [some (.ref 67), some (.int y1), some (.int y2), some (.int v12), none, none]) (st' := []) (h' := h) (sg1 rfl rfl rfl) ?_
  obtain rfl := Option.some.inj hf
  exact Ex.weak (sm_le_s (sm_le_s (sm_le_s (sm_le_s (sm_le_s (sm_le_s sm_le_nil)))))) (hS1 _ hs)
theorem B_333_256 {L : Nat} {xs : Nat → Int32} {d : Nat} (hd : 2 ≤ d) {res : Option Value × sm_H} {S1 : (Int32 × Int32 × Int32 × sm_H) → Prop} (hS1 : ∀ s, S1 s → Ex (P_G L xs) (RUN L xs d) (sm_lk P_t333) 0 90 [some (.ref 67), some (.int s.1), some (.int s.2.1), some (.int s.2.2.1), none, none] [] s.2.2.2 res) {y1 : Int32} {y2 : Int32} {y3 : Int32}  {h : sm_H} {r : ((Int32 × Int32 × Int32 × sm_H) ⊕ (Int32 × sm_H))} (hf : F_333_256 y1 y2 y3 h = some r) (hs : (Sum.elim S1 (fun (r : Int32 × sm_H) => res = (some (.int r.1), r.2))) r) : Ex (P_G L xs) (RUN L xs d) (sm_lk P_t333) 0 256 [some (.ref 67), some (.int y1), some (.int y2), some (.int y3), none, none] [] h res := by
  unfold F_333_256 at hf
  refine Ex.seg 5 (pc' := 263) (lc' := [some (.ref 67), some (.int y1), some (.int y2), some (.int y3), none, none]) (st' := [.int (y3 + 3), .ref 69]) (h' := h) (sg1 rfl rfl (sg1 rfl rfl (sg1 rfl rfl (sg1 rfl rfl (sg1 rfl rfl rfl))))) ?_
  obtain ⟨v13, e_v13, hf⟩ := bnd hf
  refine Ex.iald e_v13 rfl rfl ?_
  refine Ex.seg 1 (pc' := 265) (lc' := [some (.ref 67), some (.int y1), some (.int y2), some (.int y3), none, none]) (st' := [.int (-1), .int v13]) (h' := h) (sg1 rfl rfl rfl) ?_
  refine Ex.icmp rfl rfl (fun (c0 : v13 = (-1)) => ?_) (fun (c0 : ¬ (v13 = (-1))) => ?_)
  · rw [if_pos c0] at hf
    exact Ex.weak (sm_le_s (sm_le_s (sm_le_s (sm_le_s (sm_le_s (sm_le_s sm_le_nil)))))) (B_333_291 hd hS1 hf hs)
  · rw [if_neg c0] at hf
    refine Ex.seg 6 (pc' := 276) (lc' := [some (.ref 67), some (.int y1), some (.int y2), some (.int y3), none, none]) (st' := [.int (y3 + 3), .ref 69, .ref 67]) (h' := h) (sg1 rfl rfl (sg1 rfl rfl (sg1 rfl rfl (sg1 rfl rfl (sg1 rfl rfl (sg1 rfl rfl rfl)))))) ?_
    obtain ⟨v14, e_v14, hf⟩ := bnd hf
    refine Ex.iald e_v14 rfl rfl ?_
    obtain ⟨q15, e_q15, hf⟩ := bnd hf
    refine Ex.callV (a := 67) (As := [.int v14]) (r := []) (v := some (.int q15.1)) (h' := q15.2) rfl rfl (by decide) rfl (Nat.le_of_ble_eq_true rfl) rfl (E_307 (Nat.le_trans (by decide) hd) e_q15) rfl ?_
    refine Ex.seg 3 (pc' := 285) (lc' := [some (.ref 67), some (.int y1), some (.int y2), some (.int y3), none, none]) (st' := [.int y1, .ref 72, .int q15.1]) (h' := q15.2) (sg1 rfl rfl (sg1 rfl rfl (sg1 rfl rfl rfl))) ?_
    obtain ⟨v16, e_v16, hf⟩ := bnd hf
    refine Ex.iald e_v16 rfl rfl ?_
    refine Ex.icmp rfl rfl (fun (c0 : q15.1 = v16) => ?_) (fun (c0 : ¬ (q15.1 = v16)) => ?_)
    · rw [if_pos c0] at hf
      exact Ex.weak (sm_le_s (sm_le_s (sm_le_s (sm_le_s (sm_le_s (sm_le_s sm_le_nil)))))) (B_333_291 hd hS1 hf hs)
    · rw [if_neg c0] at hf
      refine Ex.seg 1 (pc' := 290) (lc' := [some (.ref 67), some (.int y1), some (.int y2), some (.int y3), none, none]) (st' := [.int 3]) (h' := q15.2) (sg1 rfl rfl rfl) ?_
      obtain rfl := Option.some.inj hf
      exact Ex.iret rfl rfl (fun c0 => by cases c0) hs
theorem B_333_226 {L : Nat} {xs : Nat → Int32} {d : Nat} (hd : 2 ≤ d) {res : Option Value × sm_H} {S1 : (Int32 × Int32 × Int32 × sm_H) → Prop} (hS1 : ∀ s, S1 s → Ex (P_G L xs) (RUN L xs d) (sm_lk P_t333) 0 90 [some (.ref 67), some (.int s.1), some (.int s.2.1), some (.int s.2.2.1), none, none] [] s.2.2.2 res) {y1 : Int32} {y2 : Int32} {y3 : Int32}  {h : sm_H} {r : ((Int32 × Int32 × Int32 × sm_H) ⊕ (Int32 × sm_H))} (hf : F_333_226 y1 y2 y3 h = some r) (hs : (Sum.elim S1 (fun (r : Int32 × sm_H) => res = (some (.int r.1), r.2))) r) : Ex (P_G L xs) (RUN L xs d) (sm_lk P_t333) 0 226 [some (.ref 67), some (.int y1), some (.int y2), some (.int y3), none, none] [] h res := by
  unfold F_333_226 at hf
  refine Ex.seg 5 (pc' := 233) (lc' := [some (.ref 67), some (.int y1), some (.int y2), some (.int y3), none, none]) (st' := [.int (y3 + 2), .ref 69]) (h' := h) (sg1 rfl rfl (sg1 rfl rfl (sg1 rfl rfl (sg1 rfl rfl (sg1 rfl rfl rfl))))) ?_
  obtain ⟨v17, e_v17, hf⟩ := bnd hf
  refine Ex.iald e_v17 rfl rfl ?_
  refine Ex.seg 1 (pc' := 235) (lc' := [some (.ref 67), some (.int y1), some (.int y2), some (.int y3), none, none]) (st' := [.int (-1), .int v17]) (h' := h) (sg1 rfl rfl rfl) ?_
  refine Ex.icmp rfl rfl (fun (c0 : v17 = (-1)) => ?_) (fun (c0 : ¬ (v17 = (-1))) => ?_)
  · rw [if_pos c0] at hf
    exact Ex.weak (sm_le_s (sm_le_s (sm_le_s (sm_le_s (sm_le_s (sm_le_s sm_le_nil)))))) (B_333_256 hd hS1 hf hs)
  · rw [if_neg c0] at hf
    refine Ex.seg 6 (pc' := 246) (lc' := [some (.ref 67), some (.int y1), some (.int y2), some (.int y3), none, none]) (st' := [.int (y3 + 2), .ref 69, .ref 67]) (h' := h) (sg1 rfl rfl (sg1 rfl rfl (sg1 rfl rfl (sg1 rfl rfl (sg1 rfl rfl (sg1 rfl rfl rfl)))))) ?_
    obtain ⟨v18, e_v18, hf⟩ := bnd hf
    refine Ex.iald e_v18 rfl rfl ?_
    obtain ⟨q19, e_q19, hf⟩ := bnd hf
    refine Ex.callV (a := 67) (As := [.int v18]) (r := []) (v := some (.int q19.1)) (h' := q19.2) rfl rfl (by decide) rfl (Nat.le_of_ble_eq_true rfl) rfl (E_307 (Nat.le_trans (by decide) hd) e_q19) rfl ?_
    refine Ex.seg 1 (pc' := 251) (lc' := [some (.ref 67), some (.int y1), some (.int y2), some (.int y3), none, none]) (st' := [.int 1, .int q19.1]) (h' := q19.2) (sg1 rfl rfl rfl) ?_
    refine Ex.icmp rfl rfl (fun (c0 : q19.1 = 1) => ?_) (fun (c0 : ¬ (q19.1 = 1)) => ?_)
    · rw [if_pos c0] at hf
      exact Ex.weak (sm_le_s (sm_le_s (sm_le_s (sm_le_s (sm_le_s (sm_le_s sm_le_nil)))))) (B_333_256 hd hS1 hf hs)
    · rw [if_neg c0] at hf
      refine Ex.seg 1 (pc' := 255) (lc' := [some (.ref 67), some (.int y1), some (.int y2), some (.int y3), none, none]) (st' := [.int 3]) (h' := q19.2) (sg1 rfl rfl rfl) ?_
      obtain rfl := Option.some.inj hf
      exact Ex.iret rfl rfl (fun c0 => by cases c0) hs
theorem B_333_199 {L : Nat} {xs : Nat → Int32} {d : Nat} (hd : 2 ≤ d) {res : Option Value × sm_H} {S1 : (Int32 × Int32 × Int32 × sm_H) → Prop} (hS1 : ∀ s, S1 s → Ex (P_G L xs) (RUN L xs d) (sm_lk P_t333) 0 90 [some (.ref 67), some (.int s.1), some (.int s.2.1), some (.int s.2.2.1), none, none] [] s.2.2.2 res) {y1 : Int32} {y3 : Int32} {z0 : Int32}  {h : sm_H} {r : ((Int32 × Int32 × Int32 × sm_H) ⊕ (Int32 × sm_H))} (hf : F_333_199 y1 y3 z0 h = some r) (hs : (Sum.elim S1 (fun (r : Int32 × sm_H) => res = (some (.int r.1), r.2))) r) : Ex (P_G L xs) (RUN L xs d) (sm_lk P_t333) 0 199 [some (.ref 67), some (.int y1), none, some (.int y3), none, none] [.int z0] h res := by
  unfold F_333_199 at hf
  refine Ex.seg 6 (pc' := 207) (lc' := [some (.ref 67), some (.int y1), some (.int z0), some (.int y3), none, none]) (st' := [.int (y3 + 3), .ref 69]) (h' := h) (sg1 rfl rfl (sg1 rfl rfl (sg1 rfl rfl (sg1 rfl rfl (sg1 rfl rfl (sg1 rfl rfl rfl)))))) ?_
  obtain ⟨v20, e_v20, hf⟩ := bnd hf
  refine Ex.iald e_v20 rfl rfl ?_
  refine Ex.seg 1 (pc' := 209) (lc' := [some (.ref 67), some (.int y1), some (.int z0), some (.int y3), none, none]) (st' := [.int (-1), .int v20]) (h' := h) (sg1 rfl rfl rfl) ?_
  refine Ex.icmp rfl rfl (fun (c0 : v20 = (-1)) => ?_) (fun (c0 : ¬ (v20 = (-1))) => ?_)
  · rw [if_pos c0] at hf
    exact Ex.weak (sm_le_s (sm_le_s (sm_le_s (sm_le_s (sm_le_s (sm_le_s sm_le_nil)))))) (B_333_226 hd hS1 hf hs)
  · rw [if_neg c0] at hf
    refine Ex.seg 5 (pc' := 219) (lc' := [some (.ref 67), some (.int y1), some (.int z0), some (.int y3), none, none]) (st' := [.int (y3 + 2), .ref 69]) (h' := h) (sg1 rfl rfl (sg1 rfl rfl (sg1 rfl rfl (sg1 rfl rfl (sg1 rfl rfl rfl))))) ?_
    obtain ⟨v21, e_v21, hf⟩ := bnd hf
    refine Ex.iald e_v21 rfl rfl ?_
    refine Ex.seg 1 (pc' := 221) (lc' := [some (.ref 67), some (.int y1), some (.int z0), some (.int y3), none, none]) (st' := [.int (-1), .int v21]) (h' := h) (sg1 rfl rfl rfl) ?_
    refine Ex.icmp rfl rfl (fun (c0 : ¬ (v21 = (-1))) => ?_) (fun (c0 : ¬ ¬ (v21 = (-1))) => ?_)
    · rw [if_neg c0] at hf
      exact Ex.weak (sm_le_s (sm_le_s (sm_le_s (sm_le_s (sm_le_s (sm_le_s sm_le_nil)))))) (B_333_226 hd hS1 hf hs)
    · rw [if_pos (Classical.not_not.mp c0)] at hf
      refine Ex.seg 1 (pc' := 225) (lc' := [some (.ref 67), some (.int y1), some (.int z0), some (.int y3), none, none]) (st' := [.int 3]) (h' := h) (sg1 rfl rfl rfl) ?_
      obtain rfl := Option.some.inj hf
      exact Ex.iret rfl rfl (fun c0 => by cases c0) hs
theorem B_333_194 {L : Nat} {xs : Nat → Int32} {d : Nat} (hd : 2 ≤ d) {res : Option Value × sm_H} {S1 : (Int32 × Int32 × Int32 × sm_H) → Prop} (hS1 : ∀ s, S1 s → Ex (P_G L xs) (RUN L xs d) (sm_lk P_t333) 0 90 [some (.ref 67), some (.int s.1), some (.int s.2.1), some (.int s.2.2.1), none, none] [] s.2.2.2 res) {y1 : Int32} {y3 : Int32}  {h : sm_H} {r : ((Int32 × Int32 × Int32 × sm_H) ⊕ (Int32 × sm_H))} (hf : F_333_194 y1 y3 h = some r) (hs : (Sum.elim S1 (fun (r : Int32 × sm_H) => res = (some (.int r.1), r.2))) r) : Ex (P_G L xs) (RUN L xs d) (sm_lk P_t333) 0 194 [some (.ref 67), some (.int y1), none, some (.int y3), none, none] [] h res := by
  unfold F_333_194 at hf
  refine Ex.seg 2 (pc' := 199) (lc' := [some (.ref 67), some (.int y1), none, some (.int y3), none, none]) (st' := [.int 1]) (h' := h) (sg1 rfl rfl (sg1 rfl rfl rfl)) ?_
  exact Ex.weak (sm_le_s (sm_le_s (sm_le_s (sm_le_s (sm_le_s (sm_le_s sm_le_nil)))))) (B_333_199 hd hS1 hf hs)
theorem B_333_178 {L : Nat} {xs : Nat → Int32} {d : Nat} (hd : 2 ≤ d) {res : Option Value × sm_H} {S1 : (Int32 × Int32 × Int32 × sm_H) → Prop} (hS1 : ∀ s, S1 s → Ex (P_G L xs) (RUN L xs d) (sm_lk P_t333) 0 90 [some (.ref 67), some (.int s.1), some (.int s.2.1), some (.int s.2.2.1), none, none] [] s.2.2.2 res) {y1 : Int32} {y2 : Int32} {y3 : Int32}  {h : sm_H} {r : ((Int32 × Int32 × Int32 × sm_H) ⊕ (Int32 × sm_H))} (hf : F_333_178 y1 y2 y3 h = some r) (hs : (Sum.elim S1 (fun (r : Int32 × sm_H) => res = (some (.int r.1), r.2))) r) : Ex (P_G L xs) (RUN L xs d) (sm_lk P_t333) 0 178 [some (.ref 67), some (.int y1), some (.int y2), some (.int y3), none, none] [] h res := by
  unfold F_333_178 at hf
  refine Ex.seg 1 (pc' := 179) (lc' := [some (.ref 67), some (.int y1), some (.int y2), some (.int y3), none, none]) (st' := [.int y2]) (h' := h) (sg1 rfl rfl rfl) ?_
  refine Ex.ifc rfl rfl (fun (c0 : ¬ (y2 = 0)) => ?_) (fun (c0 : ¬ ¬ (y2 = 0)) => ?_)
  · rw [if_neg c0] at hf
    exact Ex.weak (sm_le_s (sm_le_s (sm_le_n (sm_le_s (sm_le_s (sm_le_s sm_le_nil)))))) (B_333_194 hd hS1 hf hs)
  · rw [if_pos (Classical.not_not.mp c0)] at hf
    refine Ex.seg 5 (pc' := 189) (lc' := [some (.ref 67), some (.int y1), some (.int y2), some (.int y3), none, none]) (st' := [.int (y3 + 2), .ref 69]) (h' := h) (sg1 rfl rfl (sg1 rfl rfl (sg1 rfl rfl (sg1 rfl rfl (sg1 rfl rfl rfl))))) ?_
    obtain ⟨v22, e_v22, hf⟩ := bnd hf
    refine Ex.iald e_v22 rfl rfl ?_
    refine Ex.seg 1 (pc' := 191) (lc' := [some (.ref 67), some (.int y1), some (.int y2), some (.int y3), none, none]) (st' := [.int (-1), .int v22]) (h' := h) (sg1 rfl rfl rfl) ?_
    refine Ex.icmp rfl rfl (fun (c0 : v22 = (-1)) => ?_) (fun (c0 : ¬ (v22 = (-1))) => ?_)
    · rw [if_pos c0] at hf
      refine Ex.seg 1 (pc' := 199) (lc' := [some (.ref 67), some (.int y1), some (.int y2), some (.int y3), none, none]) (st' := [.int 0]) (h' := h) (sg1 rfl rfl rfl) ?_
      exact Ex.weak (sm_le_s (sm_le_s (sm_le_n (sm_le_s (sm_le_s (sm_le_s sm_le_nil)))))) (B_333_199 hd hS1 hf hs)
    · rw [if_neg c0] at hf
      exact Ex.weak (sm_le_s (sm_le_s (sm_le_n (sm_le_s (sm_le_s (sm_le_s sm_le_nil)))))) (B_333_194 hd hS1 hf hs)
theorem B_333_167 {L : Nat} {xs : Nat → Int32} {d : Nat} (hd : 2 ≤ d) {res : Option Value × sm_H} {S1 : (Int32 × Int32 × Int32 × sm_H) → Prop} (hS1 : ∀ s, S1 s → Ex (P_G L xs) (RUN L xs d) (sm_lk P_t333) 0 90 [some (.ref 67), some (.int s.1), some (.int s.2.1), some (.int s.2.2.1), none, none] [] s.2.2.2 res) {y1 : Int32} {y2 : Int32} {y3 : Int32} {y4 : Int32}  {h : sm_H} {r : ((Int32 × Int32 × Int32 × sm_H) ⊕ (Int32 × sm_H))} (hf : F_333_167 y1 y2 y3 y4 h = some r) (hs : (Sum.elim S1 (fun (r : Int32 × sm_H) => res = (some (.int r.1), r.2))) r) : Ex (P_G L xs) (RUN L xs d) (sm_lk P_t333) 0 167 [some (.ref 67), some (.int y1), some (.int y2), some (.int y3), some (.int y4), none] [] h res := by
  unfold F_333_167 at hf
  refine Ex.seg 1 (pc' := 169) (lc' := [some (.ref 67), some (.int y1), some (.int y2), some (.int y3), some (.int y4), none]) (st' := [.int y4]) (h' := h) (sg1 rfl rfl rfl) ?_
  refine Ex.ifc rfl rfl (fun (c0 : y4 = 0) => ?_) (fun (c0 : ¬ (y4 = 0)) => ?_)
  · rw [if_pos c0] at hf
    exact Ex.weak (sm_le_s (sm_le_s (sm_le_s (sm_le_s (sm_le_n (sm_le_s sm_le_nil)))))) (B_333_178 hd hS1 hf hs)
  · rw [if_neg c0] at hf
    refine Ex.seg 2 (pc' := 175) (lc' := [some (.ref 67), some (.int y1), some (.int y2), some (.int y3), some (.int y4), none]) (st' := [.int y4, .ref 67]) (h' := h) (sg1 rfl rfl (sg1 rfl rfl rfl)) ?_
    obtain ⟨q23, e_q23, hf⟩ := bnd hf
    refine Ex.callV (a := 67) (As := [.int y4]) (r := []) (v := none) (h' := q23) rfl rfl (by decide) rfl (Nat.le_of_ble_eq_true rfl) rfl (E_309 (Nat.le_trans (by decide) hd) e_q23) rfl ?_
    exact Ex.weak (sm_le_s (sm_le_s (sm_le_s (sm_le_s (sm_le_n (sm_le_s sm_le_nil)))))) (B_333_178 hd hS1 hf hs)
theorem B_333_90B {L : Nat} {xs : Nat → Int32} {d : Nat} (hd : 2 ≤ d) {res : Option Value × sm_H} {S1 : (Int32 × Int32 × Int32 × sm_H) → Prop} (hS1 : ∀ s, S1 s → Ex (P_G L xs) (RUN L xs d) (sm_lk P_t333) 0 90 [some (.ref 67), some (.int s.1), some (.int s.2.1), some (.int s.2.2.1), none, none] [] s.2.2.2 res) {s : (Int32 × Int32 × Int32 × sm_H)}  {r : ((Int32 × Int32 × Int32 × sm_H) ⊕ (Int32 × sm_H))} (hf : F_333_90B s = some r) (hs : (Sum.elim S1 (fun (r : Int32 × sm_H) => res = (some (.int r.1), r.2))) r) : Ex (P_G L xs) (RUN L xs d) (sm_lk P_t333) 0 90 [some (.ref 67), some (.int s.1), some (.int s.2.1), some (.int s.2.2.1), none, none] [] s.2.2.2 res := by
  unfold F_333_90B at hf
  refine Ex.seg 3 (pc' := 95) (lc' := [some (.ref 67), some (.int s.1), some (.int s.2.1), some (.int s.2.2.1), none, none]) (st' := [.int (s.2.2.2.1 67 3), .int s.2.2.1]) (h' := s.2.2.2) (sg1 rfl rfl (sg1 rfl rfl (sg1 rfl rfl rfl))) ?_
  refine Ex.icmp rfl rfl (fun (c0 : (s.2.2.2.1 67 3) ≤ s.2.2.1) => ?_) (fun (c0 : ¬ ((s.2.2.2.1 67 3) ≤ s.2.2.1)) => ?_)
  · rw [if_pos c0] at hf
    refine Ex.seg 3 (pc' := 302) (lc' := [some (.ref 67), some (.int s.1), some (.int s.2.1), some (.int (s.2.2.2.1 67 21)), none, none]) (st' := []) (h' := s.2.2.2) (sg1 rfl rfl (sg1 rfl rfl (sg1 rfl rfl rfl))) ?_
    obtain ⟨v24, e_v24, hf⟩ := bnd hf
    rw [Option.some.inj e_v24]
    refine Ex.seg 2 (pc' := 304) (lc' := [some (.ref 67), some (.int s.1), some (.int s.2.1), some (.int v24), none, none]) (st' := [.int s.1, .ref 67]) (h' := s.2.2.2) (sg1 rfl rfl (sg1 rfl rfl rfl)) ?_
    obtain ⟨q25, e_q25, hf⟩ := bnd hf
    refine Ex.callV (a := 67) (As := [.int s.1]) (r := []) (v := none) (h' := q25) rfl rfl (by decide) rfl (Nat.le_of_ble_eq_true rfl) rfl (E_311 (Nat.le_trans (by decide) hd) e_q25) rfl ?_
    refine Ex.seg 2 (pc' := 310) (lc' := [some (.ref 67), some (.int s.1), some (.int s.2.1), some (.int v24), some (.int 0), none]) (st' := []) (h' := q25) (sg1 rfl rfl (sg1 rfl rfl rfl)) ?_
    obtain ⟨r0, hf0, rfl⟩ := Option.map_eq_some_iff.mp hf
    exact Ex.weak (sm_le_s (sm_le_s (sm_le_s (sm_le_s (sm_le_s (sm_le_s sm_le_nil)))))) (B_333_310 hd  hf0 hs)
  · rw [if_neg c0] at hf
    refine Ex.seg 4 (pc' := 104) (lc' := [some (.ref 67), some (.int s.1), some (.int s.2.1), some (.int s.2.2.1), none, none]) (st' := [.int s.2.2.1, .ref 69, .ref 67]) (h' := s.2.2.2) (sg1 rfl rfl (sg1 rfl rfl (sg1 rfl rfl (sg1 rfl rfl rfl)))) ?_
    obtain ⟨v26, e_v26, hf⟩ := bnd hf
    refine Ex.iald e_v26 rfl rfl ?_
    refine Ex.seg 5 (pc' := 112) (lc' := [some (.ref 67), some (.int s.1), some (.int s.2.1), some (.int s.2.2.1), none, none]) (st' := [.int (s.2.2.1 + 1), .ref 69, .int v26, .ref 67]) (h' := s.2.2.2) (sg1 rfl rfl (sg1 rfl rfl (sg1 rfl rfl (sg1 rfl rfl (sg1 rfl rfl rfl))))) ?_
    obtain ⟨v27, e_v27, hf⟩ := bnd hf
    refine Ex.iald e_v27 rfl rfl ?_
    obtain ⟨q28, e_q28, hf⟩ := bnd hf
    refine Ex.callV (a := 67) (As := [.int v26, .int v27]) (r := []) (v := some (.int q28.1)) (h' := q28.2) rfl rfl (by decide) rfl (Nat.le_of_ble_eq_true rfl) rfl (E_332 (Nat.le_trans (by decide) hd) e_q28) rfl ?_
    refine Ex.seg 4 (pc' := 123) (lc' := [some (.ref 67), some (.int s.1), some (.int s.2.1), some (.int s.2.2.1), some (.int q28.1), none]) (st' := [.int s.2.2.1, .ref 69]) (h' := q28.2) (sg1 rfl rfl (sg1 rfl rfl (sg1 rfl rfl (sg1 rfl rfl rfl)))) ?_
    obtain ⟨v29, e_v29, hf⟩ := bnd hf
    refine Ex.iald e_v29 rfl rfl ?_
    refine Ex.seg 1 (pc' := 125) (lc' := [some (.ref 67), some (.int s.1), some (.int s.2.1), some (.int s.2.2.1), some (.int q28.1), none]) (st' := [.int (-1), .int v29]) (h' := q28.2) (sg1 rfl rfl rfl) ?_
    refine Ex.icmp rfl rfl (fun (c0 : v29 = (-1)) => ?_) (fun (c0 : ¬ (v29 = (-1))) => ?_)
    · rw [if_pos c0] at hf
      exact Ex.weak (sm_le_s (sm_le_s (sm_le_s (sm_le_s (sm_le_s (sm_le_s sm_le_nil)))))) (B_333_167 hd hS1 hf hs)
    · rw [if_neg c0] at hf
      refine Ex.seg 5 (pc' := 135) (lc' := [some (.ref 67), some (.int s.1), some (.int s.2.1), some (.int s.2.2.1), some (.int q28.1), none]) (st' := [.int (s.2.2.1 + 1), .ref 69]) (h' := q28.2) (sg1 rfl rfl (sg1 rfl rfl (sg1 rfl rfl (sg1 rfl rfl (sg1 rfl rfl rfl))))) ?_
      obtain ⟨v30, e_v30, hf⟩ := bnd hf
      refine Ex.iald e_v30 rfl rfl ?_
      refine Ex.seg 1 (pc' := 137) (lc' := [some (.ref 67), some (.int s.1), some (.int s.2.1), some (.int s.2.2.1), some (.int q28.1), none]) (st' := [.int (-1), .int v30]) (h' := q28.2) (sg1 rfl rfl rfl) ?_
      refine Ex.icmp rfl rfl (fun (c0 : v30 = (-1)) => ?_) (fun (c0 : ¬ (v30 = (-1))) => ?_)
      · rw [if_pos c0] at hf
        exact Ex.weak (sm_le_s (sm_le_s (sm_le_s (sm_le_s (sm_le_s (sm_le_s sm_le_nil)))))) (B_333_167 hd hS1 hf hs)
      · rw [if_neg c0] at hf
        refine Ex.seg 4 (pc' := 146) (lc' := [some (.ref 67), some (.int s.1), some (.int s.2.1), some (.int s.2.2.1), some (.int q28.1), none]) (st' := [.int s.2.2.1, .ref 69, .ref 67]) (h' := q28.2) (sg1 rfl rfl (sg1 rfl rfl (sg1 rfl rfl (sg1 rfl rfl rfl)))) ?_
        obtain ⟨v31, e_v31, hf⟩ := bnd hf
        refine Ex.iald e_v31 rfl rfl ?_
        obtain ⟨q32, e_q32, hf⟩ := bnd hf
        refine Ex.callV (a := 67) (As := [.int v31]) (r := []) (v := some (.int q32.1)) (h' := q32.2) rfl rfl (by decide) rfl (Nat.le_of_ble_eq_true rfl) rfl (E_307 (Nat.le_trans (by decide) hd) e_q32) rfl ?_
        refine Ex.seg 6 (pc' := 158) (lc' := [some (.ref 67), some (.int s.1), some (.int s.2.1), some (.int s.2.2.1), some (.int q28.1), none]) (st' := [.int (s.2.2.1 + 1), .ref 69, .ref 67, .int q32.1]) (h' := q32.2) (sg1 rfl rfl (sg1 rfl rfl (sg1 rfl rfl (sg1 rfl rfl (sg1 rfl rfl (sg1 rfl rfl rfl)))))) ?_
        obtain ⟨v33, e_v33, hf⟩ := bnd hf
        refine Ex.iald e_v33 rfl rfl ?_
        obtain ⟨q34, e_q34, hf⟩ := bnd hf
        refine Ex.callV (a := 67) (As := [.int v33]) (r := [.int q32.1]) (v := some (.int q34.1)) (h' := q34.2) rfl rfl (by decide) rfl (Nat.le_of_ble_eq_true rfl) rfl (E_307 (Nat.le_trans (by decide) hd) e_q34) rfl ?_
        refine Ex.icmp rfl rfl (fun (c0 : q32.1 = q34.1) => ?_) (fun (c0 : ¬ (q32.1 = q34.1)) => ?_)
        · rw [if_pos c0] at hf
          exact Ex.weak (sm_le_s (sm_le_s (sm_le_s (sm_le_s (sm_le_s (sm_le_s sm_le_nil)))))) (B_333_167 hd hS1 hf hs)
        · rw [if_neg c0] at hf
          refine Ex.seg 1 (pc' := 166) (lc' := [some (.ref 67), some (.int s.1), some (.int s.2.1), some (.int s.2.2.1), some (.int q28.1), none]) (st' := [.int 3]) (h' := q34.2) (sg1 rfl rfl rfl) ?_
          obtain rfl := Option.some.inj hf
          exact Ex.iret rfl rfl (fun c0 => by cases c0) hs
theorem B_333_90 {L : Nat} {xs : Nat → Int32} {d : Nat} (hd : 2 ≤ d) {res : Option Value × sm_H} {y1 : Int32} {y2 : Int32} {y3 : Int32}  {h : sm_H} {r : (Int32 × sm_H)} (hf : F_333_90 y1 y2 y3 h = some r) (hs : (fun (r : Int32 × sm_H) => res = (some (.int r.1), r.2)) r) : Ex (P_G L xs) (RUN L xs d) (sm_lk P_t333) 0 90 [some (.ref 67), some (.int y1), some (.int y2), some (.int y3), none, none] [] h res := by
  unfold F_333_90 at hf
  exact lp_ok (P := fun (s : (Int32 × Int32 × Int32 × sm_H)) => Ex (P_G L xs) (RUN L xs d) (sm_lk P_t333) 0 90 [some (.ref 67), some (.int s.1), some (.int s.2.1), some (.int s.2.2.1), none, none] [] s.2.2.2 res) (S := (fun (r : Int32 × sm_H) => res = (some (.int r.1), r.2))) (fun s x hx hsx => by
    intros
    exact B_333_90B hd  (fun _ q => q) hx hsx) 1000000 _ r hf hs
theorem B_333_70 {L : Nat} {xs : Nat → Int32} {d : Nat} (hd : 2 ≤ d) {res : Option Value × sm_H} {S1 : (Int32 × Int32 × sm_H) → Prop} (hS1 : ∀ s, S1 s → Ex (P_G L xs) (RUN L xs d) (sm_lk P_t333) 0 37 [some (.ref 67), some (.int s.1), some (.int s.2.1), none, none, none] [] s.2.2 res) {y1 : Int32} {y2 : Int32}  {h : sm_H} {r : ((Int32 × Int32 × sm_H) ⊕ (Int32 × sm_H))} (hf : F_333_70 y1 y2 h = some r) (hs : (Sum.elim S1 (fun (r : Int32 × sm_H) => res = (some (.int r.1), r.2))) r) : Ex (P_G L xs) (RUN L xs d) (sm_lk P_t333) 0 70 [some (.ref 67), some (.int y1), some (.int y2), none, none, none] [] h res := by
  unfold F_333_70 at hf
  refine Ex.seg 1 (pc' := 73) (lc' := [some (.ref 67), some (.int y1), some (.int (y2 + 1)), none, none, none]) (st' := []) (h' := h) (sg1 rfl rfl rfl) ?_
  obtain ⟨v35, e_v35, hf⟩ := bnd hf
  rw [Option.some.inj e_v35]
  refine Ex.seg 1 (pc' := 37) (lc' := [some (.ref 67), some (.int y1), some (.int v35), none, none, none]) (st' := []) (h' := h) (sg1 rfl rfl rfl) ?_
  obtain rfl := Option.some.inj hf
  exact Ex.weak (sm_le_s (sm_le_s (sm_le_s (sm_le_s (sm_le_s (sm_le_s sm_le_nil)))))) (hS1 _ hs)
theorem B_333_37B {L : Nat} {xs : Nat → Int32} {d : Nat} (hd : 2 ≤ d) {res : Option Value × sm_H} {S1 : (Int32 × Int32 × sm_H) → Prop} (hS1 : ∀ s, S1 s → Ex (P_G L xs) (RUN L xs d) (sm_lk P_t333) 0 37 [some (.ref 67), some (.int s.1), some (.int s.2.1), none, none, none] [] s.2.2 res) {s : (Int32 × Int32 × sm_H)}  {r : ((Int32 × Int32 × sm_H) ⊕ (Int32 × sm_H))} (hf : F_333_37B s = some r) (hs : (Sum.elim S1 (fun (r : Int32 × sm_H) => res = (some (.int r.1), r.2))) r) : Ex (P_G L xs) (RUN L xs d) (sm_lk P_t333) 0 37 [some (.ref 67), some (.int s.1), some (.int s.2.1), none, none, none] [] s.2.2 res := by
  unfold F_333_37B at hf
  refine Ex.seg 3 (pc' := 42) (lc' := [some (.ref 67), some (.int s.1), some (.int s.2.1), none, none, none]) (st' := [.int (s.2.2.1 67 3), .int s.2.1]) (h' := s.2.2) (sg1 rfl rfl (sg1 rfl rfl (sg1 rfl rfl rfl))) ?_
  refine Ex.icmp rfl rfl (fun (c0 : (s.2.2.1 67 3) ≤ s.2.1) => ?_) (fun (c0 : ¬ ((s.2.2.1 67 3) ≤ s.2.1)) => ?_)
  · rw [if_pos c0] at hf
    refine Ex.seg 6 (pc' := 84) (lc' := [some (.ref 67), some (.int s.1), some (.int 0), none, none, none]) (st' := [.int s.1, .ref 72, .ref 67]) (h' := s.2.2) (sg1 rfl rfl (sg1 rfl rfl (sg1 rfl rfl (sg1 rfl rfl (sg1 rfl rfl (sg1 rfl rfl rfl)))))) ?_
    obtain ⟨v36, e_v36, hf⟩ := bnd hf
    refine Ex.iald e_v36 rfl rfl ?_
    obtain ⟨q37, e_q37, hf⟩ := bnd hf
    refine Ex.callV (a := 67) (As := [.int v36]) (r := []) (v := none) (h' := q37) rfl rfl (by decide) rfl (Nat.le_of_ble_eq_true rfl) rfl (E_308 (Nat.le_trans (by decide) hd) e_q37) rfl ?_
    refine Ex.seg 2 (pc' := 90) (lc' := [some (.ref 67), some (.int s.1), some (.int 0), some (.int 0), none, none]) (st' := []) (h' := q37) (sg1 rfl rfl (sg1 rfl rfl rfl)) ?_
    obtain ⟨r0, hf0, rfl⟩ := Option.map_eq_some_iff.mp hf
    exact Ex.weak (sm_le_s (sm_le_s (sm_le_s (sm_le_s (sm_le_s (sm_le_s sm_le_nil)))))) (B_333_90 hd  hf0 hs)
  · rw [if_neg c0] at hf
    refine Ex.seg 3 (pc' := 50) (lc' := [some (.ref 67), some (.int s.1), some (.int s.2.1), none, none, none]) (st' := [.int s.2.1, .ref 69]) (h' := s.2.2) (sg1 rfl rfl (sg1 rfl rfl (sg1 rfl rfl rfl))) ?_
    obtain ⟨v38, e_v38, hf⟩ := bnd hf
    refine Ex.iald e_v38 rfl rfl ?_
    refine Ex.seg 1 (pc' := 52) (lc' := [some (.ref 67), some (.int s.1), some (.int s.2.1), none, none, none]) (st' := [.int (-1), .int v38]) (h' := s.2.2) (sg1 rfl rfl rfl) ?_
    refine Ex.icmp rfl rfl (fun (c0 : v38 = (-1)) => ?_) (fun (c0 : ¬ (v38 = (-1))) => ?_)
    · rw [if_pos c0] at hf
      exact Ex.weak (sm_le_s (sm_le_s (sm_le_s (sm_le_s (sm_le_s (sm_le_s sm_le_nil)))))) (B_333_70 hd hS1 hf hs)
    · rw [if_neg c0] at hf
      refine Ex.seg 4 (pc' := 61) (lc' := [some (.ref 67), some (.int s.1), some (.int s.2.1), none, none, none]) (st' := [.int s.2.1, .ref 69, .ref 67]) (h' := s.2.2) (sg1 rfl rfl (sg1 rfl rfl (sg1 rfl rfl (sg1 rfl rfl rfl)))) ?_
      obtain ⟨v39, e_v39, hf⟩ := bnd hf
      refine Ex.iald e_v39 rfl rfl ?_
      obtain ⟨q40, e_q40, hf⟩ := bnd hf
      refine Ex.callV (a := 67) (As := [.int v39]) (r := []) (v := some (.int q40.1)) (h' := q40.2) rfl rfl (by decide) rfl (Nat.le_of_ble_eq_true rfl) rfl (E_304 (Nat.le_trans (by decide) hd) e_q40) rfl ?_
      refine Ex.ifc rfl rfl (fun (c0 : ¬ (q40.1 = 0)) => ?_) (fun (c0 : ¬ ¬ (q40.1 = 0)) => ?_)
      · rw [if_neg c0] at hf
        exact Ex.weak (sm_le_s (sm_le_s (sm_le_s (sm_le_s (sm_le_s (sm_le_s sm_le_nil)))))) (B_333_70 hd hS1 hf hs)
      · rw [if_pos (Classical.not_not.mp c0)] at hf
        refine Ex.seg 1 (pc' := 69) (lc' := [some (.ref 67), some (.int s.1), some (.int s.2.1), none, none, none]) (st' := [.int 1]) (h' := q40.2) (sg1 rfl rfl rfl) ?_
        obtain rfl := Option.some.inj hf
        exact Ex.iret rfl rfl (fun c0 => by cases c0) hs
theorem B_333_37 {L : Nat} {xs : Nat → Int32} {d : Nat} (hd : 2 ≤ d) {res : Option Value × sm_H} {y1 : Int32} {y2 : Int32}  {h : sm_H} {r : (Int32 × sm_H)} (hf : F_333_37 y1 y2 h = some r) (hs : (fun (r : Int32 × sm_H) => res = (some (.int r.1), r.2)) r) : Ex (P_G L xs) (RUN L xs d) (sm_lk P_t333) 0 37 [some (.ref 67), some (.int y1), some (.int y2), none, none, none] [] h res := by
  unfold F_333_37 at hf
  exact lp_ok (P := fun (s : (Int32 × Int32 × sm_H)) => Ex (P_G L xs) (RUN L xs d) (sm_lk P_t333) 0 37 [some (.ref 67), some (.int s.1), some (.int s.2.1), none, none, none] [] s.2.2 res) (S := (fun (r : Int32 × sm_H) => res = (some (.int r.1), r.2))) (fun s x hx hsx => by
    intros
    exact B_333_37B hd  (fun _ q => q) hx hsx) 1000000 _ r hf hs
theorem B_333_33 {L : Nat} {xs : Nat → Int32} {d : Nat} (hd : 2 ≤ d) {res : Option Value × sm_H}   {h : sm_H} {r : (Int32 × sm_H)} (hf : F_333_33  h = some r) (hs : (fun (r : Int32 × sm_H) => res = (some (.int r.1), r.2)) r) : Ex (P_G L xs) (RUN L xs d) (sm_lk P_t333) 0 33 [none, none, none, none, none, none] [] h res := by
  unfold F_333_33 at hf
  refine Ex.seg 1 (pc' := 34) (lc' := [none, none, none, none, none, none]) (st' := [.int 1]) (h' := h) (sg1 rfl rfl rfl) ?_
  obtain rfl := Option.some.inj hf
  exact Ex.iret rfl rfl (fun c0 => by cases c0) hs
theorem B_333_0 {L : Nat} {xs : Nat → Int32} {d : Nat} (hd : 2 ≤ d) {res : Option Value × sm_H} {x1 : Int32}  {h : sm_H} {r : (Int32 × sm_H)} (hf : F_333_0 x1 h = some r) (hs : (fun (r : Int32 × sm_H) => res = (some (.int r.1), r.2)) r) : Ex (P_G L xs) (RUN L xs d) (sm_lk P_t333) 0 0 [some (.ref 67), some (.int x1), none, none, none, none] [] h res := by
  unfold F_333_0 at hf
  refine Ex.seg 2 (pc' := 2) (lc' := [some (.ref 67), some (.int x1), none, none, none, none]) (st' := [.int x1, .ref 67]) (h' := h) (sg1 rfl rfl (sg1 rfl rfl rfl)) ?_
  obtain ⟨q41, e_q41, hf⟩ := bnd hf
  refine Ex.callV (a := 67) (As := [.int x1]) (r := []) (v := some (.int q41.1)) (h' := q41.2) rfl rfl (by decide) rfl (Nat.le_of_ble_eq_true rfl) rfl (E_303 (Nat.le_trans (by decide) hd) e_q41) rfl ?_
  refine Ex.ifc rfl rfl (fun (c0 : q41.1 = 0) => ?_) (fun (c0 : ¬ (q41.1 = 0)) => ?_)
  · rw [if_pos c0] at hf
    exact Ex.weak (sm_le_n (sm_le_n (sm_le_s (sm_le_s (sm_le_s (sm_le_s sm_le_nil)))))) (B_333_33 hd  hf hs)
  · rw [if_neg c0] at hf
    refine Ex.seg 2 (pc' := 12) (lc' := [some (.ref 67), some (.int x1), none, none, none, none]) (st' := [.int (q41.2.1 67 3)]) (h' := q41.2) (sg1 rfl rfl (sg1 rfl rfl rfl)) ?_
    refine Ex.ifc rfl rfl (fun (c0 : (q41.2.1 67 3) = 0) => ?_) (fun (c0 : ¬ ((q41.2.1 67 3) = 0)) => ?_)
    · rw [if_pos c0] at hf
      exact Ex.weak (sm_le_n (sm_le_n (sm_le_s (sm_le_s (sm_le_s (sm_le_s sm_le_nil)))))) (B_333_33 hd  hf hs)
    · rw [if_neg c0] at hf
      refine Ex.seg 3 (pc' := 20) (lc' := [some (.ref 67), some (.int x1), none, none, none, none]) (st' := [.int 4, .int (q41.2.1 67 3)]) (h' := q41.2) (sg1 rfl rfl (sg1 rfl rfl (sg1 rfl rfl rfl))) ?_
      rcases Classical.em ((4 : Int32) = 0) with c0 | c0
      · rw [if_pos c0] at hf
        cases hf
      rw [if_neg c0] at hf
      refine Ex.irem c0 rfl rfl ?_
      refine Ex.ifc rfl rfl (fun (c0 : ¬ (((q41.2.1 67 3) - (q41.2.1 67 3) / 4 * 4) = 0)) => ?_) (fun (c0 : ¬ ¬ (((q41.2.1 67 3) - (q41.2.1 67 3) / 4 * 4) = 0)) => ?_)
      · rw [if_neg c0] at hf
        exact Ex.weak (sm_le_n (sm_le_n (sm_le_s (sm_le_s (sm_le_s (sm_le_s sm_le_nil)))))) (B_333_33 hd  hf hs)
      · rw [if_pos (Classical.not_not.mp c0)] at hf
        refine Ex.seg 3 (pc' := 30) (lc' := [some (.ref 67), some (.int x1), none, none, none, none]) (st' := [.int 16, .int (q41.2.1 67 3)]) (h' := q41.2) (sg1 rfl rfl (sg1 rfl rfl (sg1 rfl rfl rfl))) ?_
        refine Ex.icmp rfl rfl (fun (c0 : (q41.2.1 67 3) ≤ 16) => ?_) (fun (c0 : ¬ ((q41.2.1 67 3) ≤ 16)) => ?_)
        · rw [if_pos c0] at hf
          refine Ex.seg 2 (pc' := 37) (lc' := [some (.ref 67), some (.int x1), some (.int 0), none, none, none]) (st' := []) (h' := q41.2) (sg1 rfl rfl (sg1 rfl rfl rfl)) ?_
          exact Ex.weak (sm_le_s (sm_le_s (sm_le_s (sm_le_s (sm_le_s (sm_le_s sm_le_nil)))))) (B_333_37 hd  hf hs)
        · rw [if_neg c0] at hf
          exact Ex.weak (sm_le_n (sm_le_n (sm_le_s (sm_le_s (sm_le_s (sm_le_s sm_le_nil)))))) (B_333_33 hd  hf hs)
theorem E_333 {L : Nat} {xs : Nat → Int32} {d : Nat} (hd : 3 ≤ d) {x1 : Int32} {h : sm_H} {r : Int32 × sm_H} (hf : F_333 x1 h = some r) : RUN L xs d 333 [.ref 67, .int x1] h (some (.int r.1), r.2) := by
  obtain ⟨d, rfl⟩ : ∃ e, d = e + 1 := ⟨d - 1, by omega⟩
  exact ⟨Nat.le_of_ble_eq_true rfl, B_333_0 (by omega) hf rfl⟩
theorem B_334_131 {L : Nat} {xs : Nat → Int32} {d : Nat} (hd : 1 ≤ d) {res : Option Value × sm_H}   {h : sm_H} {r : (Int32 × sm_H)} (hf : F_334_131  h = some r) (hs : (fun (r : Int32 × sm_H) => res = (some (.int r.1), r.2)) r) : Ex (P_G L xs) (RUN L xs d) (sm_lk P_t334) 0 131 [none, none, none, none] [] h res := by
  unfold F_334_131 at hf
  refine Ex.seg 1 (pc' := 132) (lc' := [none, none, none, none]) (st' := [.int 0]) (h' := h) (sg1 rfl rfl rfl) ?_
  obtain rfl := Option.some.inj hf
  exact Ex.iret rfl rfl (fun c0 => by cases c0) hs
theorem B_334_120 {L : Nat} {xs : Nat → Int32} {d : Nat} (hd : 1 ≤ d) {res : Option Value × sm_H} {y1 : Int32} {y3 : Int32}  {h : sm_H} {r : (Int32 × sm_H)} (hf : F_334_120 y1 y3 h = some r) (hs : (fun (r : Int32 × sm_H) => res = (some (.int r.1), r.2)) r) : Ex (P_G L xs) (RUN L xs d) (sm_lk P_t334) 0 120 [some (.ref 67), some (.int y1), none, some (.int y3)] [] h res := by
  unfold F_334_120 at hf
  refine Ex.seg 2 (pc' := 123) (lc' := [some (.ref 67), some (.int y1), none, some (.int y3)]) (st' := [.int 25, .int y1]) (h' := h) (sg1 rfl rfl (sg1 rfl rfl rfl)) ?_
  refine Ex.icmp rfl rfl (fun (c0 : ¬ (y1 = 25)) => ?_) (fun (c0 : ¬ ¬ (y1 = 25)) => ?_)
  · rw [if_neg c0] at hf
    exact Ex.weak (sm_le_n (sm_le_n (sm_le_s (sm_le_n sm_le_nil)))) (B_334_131 hd  hf hs)
  · rw [if_pos (Classical.not_not.mp c0)] at hf
    refine Ex.seg 2 (pc' := 128) (lc' := [some (.ref 67), some (.int y1), none, some (.int y3)]) (st' := [.int y3, .ref 67]) (h' := h) (sg1 rfl rfl (sg1 rfl rfl rfl)) ?_
    obtain ⟨q1, e_q1, hf⟩ := bnd hf
    refine Ex.callV (a := 67) (As := [.int y3]) (r := []) (v := none) (h' := q1) rfl rfl (by decide) rfl (Nat.le_of_ble_eq_true rfl) rfl (E_309 (Nat.le_trans (by decide) hd) e_q1) rfl ?_
    exact Ex.weak (sm_le_n (sm_le_n (sm_le_s (sm_le_n sm_le_nil)))) (B_334_131 hd  hf hs)
theorem B_334_75 {L : Nat} {xs : Nat → Int32} {d : Nat} (hd : 1 ≤ d) {res : Option Value × sm_H} {y1 : Int32} {y2 : Int32} {y3 : Int32} {z1 : Int32}  {h : sm_H} {r : (Int32 × sm_H)} (hf : F_334_75 y1 y2 y3 z1 h = some r) (hs : (fun (r : Int32 × sm_H) => res = (some (.int r.1), r.2)) r) : Ex (P_G L xs) (RUN L xs d) (sm_lk P_t334) 0 75 [some (.ref 67), some (.int y1), some (.int y2), some (.int y3)] [.int z1, .ref 67] h res := by
  unfold F_334_75 at hf
  obtain ⟨q2, e_q2, hf⟩ := bnd hf
  refine Ex.callV (a := 67) (As := [.int z1]) (r := []) (v := none) (h' := q2) rfl rfl (by decide) rfl (Nat.le_of_ble_eq_true rfl) rfl (E_308 (Nat.le_trans (by decide) hd) e_q2) rfl ?_
  refine Ex.seg 2 (pc' := 81) (lc' := [some (.ref 67), some (.int y1), some (.int y2), some (.int y3)]) (st' := [.int 20, .int y1]) (h' := q2) (sg1 rfl rfl (sg1 rfl rfl rfl)) ?_
  refine Ex.icmp rfl rfl (fun (c0 : ¬ (y1 = 20)) => ?_) (fun (c0 : ¬ ¬ (y1 = 20)) => ?_)
  · rw [if_neg c0] at hf
    refine Ex.seg 2 (pc' := 93) (lc' := [some (.ref 67), some (.int y1), some (.int y2), some (.int y3)]) (st' := [.int y2, .ref 67]) (h' := q2) (sg1 rfl rfl (sg1 rfl rfl rfl)) ?_
    obtain ⟨q3, e_q3, hf⟩ := bnd hf
    refine Ex.callV (a := 67) (As := [.int y2]) (r := []) (v := none) (h' := q3) rfl rfl (by decide) rfl (Nat.le_of_ble_eq_true rfl) rfl (E_309 (Nat.le_trans (by decide) hd) e_q3) rfl ?_
    refine Ex.seg 2 (pc' := 99) (lc' := [some (.ref 67), some (.int y1), some (.int y2), some (.int y3)]) (st' := [.int 21, .int y1]) (h' := q3) (sg1 rfl rfl (sg1 rfl rfl rfl)) ?_
    refine Ex.icmp rfl rfl (fun (c0 : ¬ (y1 = 21)) => ?_) (fun (c0 : ¬ ¬ (y1 = 21)) => ?_)
    · rw [if_neg c0] at hf
      refine Ex.seg 2 (pc' := 106) (lc' := [some (.ref 67), some (.int y1), some (.int y2), some (.int y3)]) (st' := [.int 5, .ref 67]) (h' := q3) (sg1 rfl rfl (sg1 rfl rfl rfl)) ?_
      obtain ⟨q4, e_q4, hf⟩ := bnd hf
      refine Ex.callV (a := 67) (As := [.int 5]) (r := []) (v := none) (h' := q4) rfl rfl (by decide) rfl (Nat.le_of_ble_eq_true rfl) rfl (E_309 (Nat.le_trans (by decide) hd) e_q4) rfl ?_
      refine Ex.seg 2 (pc' := 112) (lc' := [some (.ref 67), some (.int y1), some (.int y2), some (.int y3)]) (st' := [.int 22, .int y1]) (h' := q4) (sg1 rfl rfl (sg1 rfl rfl rfl)) ?_
      refine Ex.icmp rfl rfl (fun (c0 : y1 = 22) => ?_) (fun (c0 : ¬ (y1 = 22)) => ?_)
      · rw [if_pos c0] at hf
        exact Ex.weak (sm_le_s (sm_le_s (sm_le_n (sm_le_s sm_le_nil)))) (B_334_120 hd  hf hs)
      · rw [if_neg c0] at hf
        refine Ex.seg 2 (pc' := 117) (lc' := [some (.ref 67), some (.int y1), some (.int y2), some (.int y3)]) (st' := [.int y3, .ref 67]) (h' := q4) (sg1 rfl rfl (sg1 rfl rfl rfl)) ?_
        obtain ⟨q5, e_q5, hf⟩ := bnd hf
        refine Ex.callV (a := 67) (As := [.int y3]) (r := []) (v := none) (h' := q5) rfl rfl (by decide) rfl (Nat.le_of_ble_eq_true rfl) rfl (E_309 (Nat.le_trans (by decide) hd) e_q5) rfl ?_
        exact Ex.weak (sm_le_s (sm_le_s (sm_le_n (sm_le_s sm_le_nil)))) (B_334_120 hd  hf hs)
    · rw [if_pos (Classical.not_not.mp c0)] at hf
      refine Ex.seg 1 (pc' := 103) (lc' := [some (.ref 67), some (.int y1), some (.int y2), some (.int y3)]) (st' := [.int 0]) (h' := q3) (sg1 rfl rfl rfl) ?_
      obtain rfl := Option.some.inj hf
      exact Ex.iret rfl rfl (fun c0 => by cases c0) hs
  · rw [if_pos (Classical.not_not.mp c0)] at hf
    refine Ex.seg 2 (pc' := 86) (lc' := [some (.ref 67), some (.int y1), some (.int y2), some (.int y3)]) (st' := [.int 5, .ref 67]) (h' := q2) (sg1 rfl rfl (sg1 rfl rfl rfl)) ?_
    obtain ⟨q6, e_q6, hf⟩ := bnd hf
    refine Ex.callV (a := 67) (As := [.int 5]) (r := []) (v := none) (h' := q6) rfl rfl (by decide) rfl (Nat.le_of_ble_eq_true rfl) rfl (E_309 (Nat.le_trans (by decide) hd) e_q6) rfl ?_
    refine Ex.seg 1 (pc' := 90) (lc' := [some (.ref 67), some (.int y1), some (.int y2), some (.int y3)]) (st' := [.int 0]) (h' := q6) (sg1 rfl rfl rfl) ?_
    obtain rfl := Option.some.inj hf
    exact Ex.iret rfl rfl (fun c0 => by cases c0) hs
theorem B_334_28 {L : Nat} {xs : Nat → Int32} {d : Nat} (hd : 1 ≤ d) {res : Option Value × sm_H} {y1 : Int32} {y2 : Int32}  {h : sm_H} {r : (Int32 × sm_H)} (hf : F_334_28 y1 y2 h = some r) (hs : (fun (r : Int32 × sm_H) => res = (some (.int r.1), r.2)) r) : Ex (P_G L xs) (RUN L xs d) (sm_lk P_t334) 0 28 [some (.ref 67), some (.int y1), some (.int y2), none] [] h res := by
  unfold F_334_28 at hf
  refine Ex.seg 1 (pc' := 29) (lc' := [some (.ref 67), some (.int y1), some (.int y2), none]) (st' := [.int y2]) (h' := h) (sg1 rfl rfl rfl) ?_
  obtain ⟨q7, e_q7, hf⟩ := bnd hf
  refine Ex.callS (As := [.int y2]) (r := []) (v := some (.int q7.1)) (h' := q7.2) rfl rfl rfl rfl (Nat.le_of_ble_eq_true rfl) (E_294 (Nat.le_trans (by decide) hd) e_q7) rfl ?_
  refine Ex.seg 4 (pc' := 37) (lc' := [some (.ref 67), some (.int y1), some (.int y2), some (.int q7.1)]) (st' := [.int 20, .int y1, .ref 67]) (h' := q7.2) (sg1 rfl rfl (sg1 rfl rfl (sg1 rfl rfl (sg1 rfl rfl rfl)))) ?_
  refine Ex.icmp rfl rfl (fun (c0 : ¬ (y1 = 20)) => ?_) (fun (c0 : ¬ ¬ (y1 = 20)) => ?_)
  · rw [if_neg c0] at hf
    refine Ex.seg 2 (pc' := 47) (lc' := [some (.ref 67), some (.int y1), some (.int y2), some (.int q7.1)]) (st' := [.int 21, .int y1, .ref 67]) (h' := q7.2) (sg1 rfl rfl (sg1 rfl rfl rfl)) ?_
    refine Ex.icmp rfl rfl (fun (c0 : ¬ (y1 = 21)) => ?_) (fun (c0 : ¬ ¬ (y1 = 21)) => ?_)
    · rw [if_neg c0] at hf
      refine Ex.seg 2 (pc' := 57) (lc' := [some (.ref 67), some (.int y1), some (.int y2), some (.int q7.1)]) (st' := [.int 23, .int y1, .ref 67]) (h' := q7.2) (sg1 rfl rfl (sg1 rfl rfl rfl)) ?_
      refine Ex.icmp rfl rfl (fun (c0 : ¬ (y1 = 23)) => ?_) (fun (c0 : ¬ ¬ (y1 = 23)) => ?_)
      · rw [if_neg c0] at hf
        refine Ex.seg 2 (pc' := 67) (lc' := [some (.ref 67), some (.int y1), some (.int y2), some (.int q7.1)]) (st' := [.int 25, .int y1, .ref 67]) (h' := q7.2) (sg1 rfl rfl (sg1 rfl rfl rfl)) ?_
        refine Ex.icmp rfl rfl (fun (c0 : ¬ (y1 = 25)) => ?_) (fun (c0 : ¬ ¬ (y1 = 25)) => ?_)
        · rw [if_neg c0] at hf
          refine Ex.seg 1 (pc' := 75) (lc' := [some (.ref 67), some (.int y1), some (.int y2), some (.int q7.1)]) (st' := [.int q7.1, .ref 67]) (h' := q7.2) (sg1 rfl rfl rfl) ?_
          exact Ex.weak (sm_le_s (sm_le_s (sm_le_s (sm_le_s sm_le_nil)))) (B_334_75 hd  hf hs)
        · rw [if_pos (Classical.not_not.mp c0)] at hf
          refine Ex.seg 2 (pc' := 75) (lc' := [some (.ref 67), some (.int y1), some (.int y2), some (.int q7.1)]) (st' := [.int 1, .ref 67]) (h' := q7.2) (sg1 rfl rfl (sg1 rfl rfl rfl)) ?_
          exact Ex.weak (sm_le_s (sm_le_s (sm_le_s (sm_le_s sm_le_nil)))) (B_334_75 hd  hf hs)
      · rw [if_pos (Classical.not_not.mp c0)] at hf
        refine Ex.seg 2 (pc' := 75) (lc' := [some (.ref 67), some (.int y1), some (.int y2), some (.int q7.1)]) (st' := [.int 0, .ref 67]) (h' := q7.2) (sg1 rfl rfl (sg1 rfl rfl rfl)) ?_
        exact Ex.weak (sm_le_s (sm_le_s (sm_le_s (sm_le_s sm_le_nil)))) (B_334_75 hd  hf hs)
    · rw [if_pos (Classical.not_not.mp c0)] at hf
      refine Ex.seg 2 (pc' := 75) (lc' := [some (.ref 67), some (.int y1), some (.int y2), some (.int q7.1)]) (st' := [.int 5, .ref 67]) (h' := q7.2) (sg1 rfl rfl (sg1 rfl rfl rfl)) ?_
      exact Ex.weak (sm_le_s (sm_le_s (sm_le_s (sm_le_s sm_le_nil)))) (B_334_75 hd  hf hs)
  · rw [if_pos (Classical.not_not.mp c0)] at hf
    refine Ex.seg 2 (pc' := 75) (lc' := [some (.ref 67), some (.int y1), some (.int y2), some (.int q7.1)]) (st' := [.int y2, .ref 67]) (h' := q7.2) (sg1 rfl rfl (sg1 rfl rfl rfl)) ?_
    exact Ex.weak (sm_le_s (sm_le_s (sm_le_s (sm_le_s sm_le_nil)))) (B_334_75 hd  hf hs)
theorem B_334_26 {L : Nat} {xs : Nat → Int32} {d : Nat} (hd : 1 ≤ d) {res : Option Value × sm_H}   {h : sm_H} {r : (Int32 × sm_H)} (hf : F_334_26  h = some r) (hs : (fun (r : Int32 × sm_H) => res = (some (.int r.1), r.2)) r) : Ex (P_G L xs) (RUN L xs d) (sm_lk P_t334) 0 26 [none, none, none, none] [] h res := by
  unfold F_334_26 at hf
  refine Ex.seg 1 (pc' := 27) (lc' := [none, none, none, none]) (st' := [.int 1]) (h' := h) (sg1 rfl rfl rfl) ?_
  obtain rfl := Option.some.inj hf
  exact Ex.iret rfl rfl (fun c0 => by cases c0) hs
theorem B_334_0 {L : Nat} {xs : Nat → Int32} {d : Nat} (hd : 1 ≤ d) {res : Option Value × sm_H} {x1 : Int32} {x2 : Int32}  {h : sm_H} {r : (Int32 × sm_H)} (hf : F_334_0 x1 x2 h = some r) (hs : (fun (r : Int32 × sm_H) => res = (some (.int r.1), r.2)) r) : Ex (P_G L xs) (RUN L xs d) (sm_lk P_t334) 0 0 [some (.ref 67), some (.int x1), some (.int x2), none] [] h res := by
  unfold F_334_0 at hf
  refine Ex.seg 2 (pc' := 4) (lc' := [some (.ref 67), some (.int x1), some (.int x2), none]) (st' := [.int (h.1 67 3)]) (h' := h) (sg1 rfl rfl (sg1 rfl rfl rfl)) ?_
  refine Ex.ifc rfl rfl (fun (c0 : ¬ ((h.1 67 3) = 0)) => ?_) (fun (c0 : ¬ ¬ ((h.1 67 3) = 0)) => ?_)
  · rw [if_neg c0] at hf
    exact Ex.weak (sm_le_n (sm_le_n (sm_le_n (sm_le_s sm_le_nil)))) (B_334_26 hd  hf hs)
  · rw [if_pos (Classical.not_not.mp c0)] at hf
    refine Ex.seg 1 (pc' := 8) (lc' := [some (.ref 67), some (.int x1), some (.int x2), none]) (st' := [.int x2]) (h' := h) (sg1 rfl rfl rfl) ?_
    obtain ⟨q8, e_q8, hf⟩ := bnd hf
    refine Ex.callS (As := [.int x2]) (r := []) (v := some (.int q8.1)) (h' := q8.2) rfl rfl rfl rfl (Nat.le_of_ble_eq_true rfl) (E_293 (Nat.le_trans (by decide) hd) e_q8) rfl ?_
    refine Ex.ifc rfl rfl (fun (c0 : q8.1 = 0) => ?_) (fun (c0 : ¬ (q8.1 = 0)) => ?_)
    · rw [if_pos c0] at hf
      exact Ex.weak (sm_le_n (sm_le_n (sm_le_n (sm_le_s sm_le_nil)))) (B_334_26 hd  hf hs)
    · rw [if_neg c0] at hf
      refine Ex.seg 2 (pc' := 17) (lc' := [some (.ref 67), some (.int x1), some (.int x2), none]) (st' := [.int 26, .int x1]) (h' := q8.2) (sg1 rfl rfl (sg1 rfl rfl rfl)) ?_
      refine Ex.icmp rfl rfl (fun (c0 : ¬ (x1 = 26)) => ?_) (fun (c0 : ¬ ¬ (x1 = 26)) => ?_)
      · rw [if_neg c0] at hf
        exact Ex.weak (sm_le_s (sm_le_s (sm_le_s (sm_le_s sm_le_nil)))) (B_334_28 hd  hf hs)
      · rw [if_pos (Classical.not_not.mp c0)] at hf
        refine Ex.seg 2 (pc' := 23) (lc' := [some (.ref 67), some (.int x1), some (.int x2), none]) (st' := [.int 17, .int x2]) (h' := q8.2) (sg1 rfl rfl (sg1 rfl rfl rfl)) ?_
        refine Ex.icmp rfl rfl (fun (c0 : ¬ (x2 = 17)) => ?_) (fun (c0 : ¬ ¬ (x2 = 17)) => ?_)
        · rw [if_neg c0] at hf
          exact Ex.weak (sm_le_s (sm_le_s (sm_le_s (sm_le_s sm_le_nil)))) (B_334_28 hd  hf hs)
        · rw [if_pos (Classical.not_not.mp c0)] at hf
          exact Ex.weak (sm_le_n (sm_le_n (sm_le_n (sm_le_s sm_le_nil)))) (B_334_26 hd  hf hs)
theorem E_334 {L : Nat} {xs : Nat → Int32} {d : Nat} (hd : 2 ≤ d) {x1 : Int32} {x2 : Int32} {h : sm_H} {r : Int32 × sm_H} (hf : F_334 x1 x2 h = some r) : RUN L xs d 334 [.ref 67, .int x1, .int x2] h (some (.int r.1), r.2) := by
  obtain ⟨d, rfl⟩ : ∃ e, d = e + 1 := ⟨d - 1, by omega⟩
  exact ⟨Nat.le_of_ble_eq_true rfl, B_334_0 (by omega) hf rfl⟩
theorem B_335_611 {L : Nat} {xs : Nat → Int32} {d : Nat} (hd : 2 ≤ d) {res : Option Value × sm_H}   {h : sm_H} {r : (Int32 × sm_H)} (hf : F_335_611  h = some r) (hs : (fun (r : Int32 × sm_H) => res = (some (.int r.1), r.2)) r) : Ex (P_G L xs) (RUN L xs d) (sm_lk P_t335) 0 611 [none, none, none, none, none] [] h res := by
  unfold F_335_611 at hf
  refine Ex.seg 1 (pc' := 612) (lc' := [none, none, none, none, none]) (st' := [.int 1]) (h' := h) (sg1 rfl rfl rfl) ?_
  obtain rfl := Option.some.inj hf
  exact Ex.iret rfl rfl (fun c0 => by cases c0) hs
theorem B_335_598 {L : Nat} {xs : Nat → Int32} {d : Nat} (hd : 2 ≤ d) {res : Option Value × sm_H} {y3 : Int32} {y4 : Int32}  {h : sm_H} {r : (Int32 × sm_H)} (hf : F_335_598 y3 y4 h = some r) (hs : (fun (r : Int32 × sm_H) => res = (some (.int r.1), r.2)) r) : Ex (P_G L xs) (RUN L xs d) (sm_lk P_t335) 0 598 [some (.ref 67), none, none, some (.int y3), some (.int y4)] [] h res := by
  unfold F_335_598 at hf
  refine Ex.seg 1 (pc' := 600) (lc' := [some (.ref 67), none, none, some (.int y3), some (.int y4)]) (st' := [.int y4]) (h' := h) (sg1 rfl rfl rfl) ?_
  refine Ex.ifc rfl rfl (fun (c0 : y4 = 0) => ?_) (fun (c0 : ¬ (y4 = 0)) => ?_)
  · rw [if_pos c0] at hf
    exact Ex.weak (sm_le_n (sm_le_s (sm_le_s (sm_le_n (sm_le_n sm_le_nil))))) (B_335_611 hd  hf hs)
  · rw [if_neg c0] at hf
    refine Ex.seg 2 (pc' := 605) (lc' := [some (.ref 67), none, none, some (.int y3), some (.int y4)]) (st' := [.int y3, .ref 67]) (h' := h) (sg1 rfl rfl (sg1 rfl rfl rfl)) ?_
    obtain ⟨q1, e_q1, hf⟩ := bnd hf
    refine Ex.callV (a := 67) (As := [.int y3]) (r := []) (v := some (.int q1.1)) (h' := q1.2) rfl rfl (by decide) rfl (Nat.le_of_ble_eq_true rfl) rfl (E_303 (Nat.le_trans (by decide) hd) e_q1) rfl ?_
    refine Ex.ifc rfl rfl (fun (c0 : ¬ (q1.1 = 0)) => ?_) (fun (c0 : ¬ ¬ (q1.1 = 0)) => ?_)
    · rw [if_neg c0] at hf
      refine Ex.seg 4 (pc' := 619) (lc' := [some (.ref 67), none, none, some (.int y3), some (.int y4)]) (st' := [.int y3, .ref 72, .ref 67]) (h' := q1.2) (sg1 rfl rfl (sg1 rfl rfl (sg1 rfl rfl (sg1 rfl rfl rfl)))) ?_
      obtain ⟨v2, e_v2, hf⟩ := bnd hf
      refine Ex.iald e_v2 rfl rfl ?_
      obtain ⟨q3, e_q3, hf⟩ := bnd hf
      refine Ex.callV (a := 67) (As := [.int v2]) (r := []) (v := none) (h' := q3) rfl rfl (by decide) rfl (Nat.le_of_ble_eq_true rfl) rfl (E_308 (Nat.le_trans (by decide) hd) e_q3) rfl ?_
      refine Ex.seg 2 (pc' := 625) (lc' := [some (.ref 67), none, none, some (.int y3), some (.int y4)]) (st' := [.int y3, .ref 67]) (h' := q3) (sg1 rfl rfl (sg1 rfl rfl rfl)) ?_
      obtain ⟨q4, e_q4, hf⟩ := bnd hf
      refine Ex.callV (a := 67) (As := [.int y3]) (r := []) (v := none) (h' := q4) rfl rfl (by decide) rfl (Nat.le_of_ble_eq_true rfl) rfl (E_311 (Nat.le_trans (by decide) hd) e_q4) rfl ?_
      refine Ex.seg 1 (pc' := 629) (lc' := [some (.ref 67), none, none, some (.int y3), some (.int y4)]) (st' := [.int 0]) (h' := q4) (sg1 rfl rfl rfl) ?_
      obtain rfl := Option.some.inj hf
      exact Ex.iret rfl rfl (fun c0 => by cases c0) hs
    · rw [if_pos (Classical.not_not.mp c0)] at hf
      exact Ex.weak (sm_le_n (sm_le_s (sm_le_s (sm_le_n (sm_le_n sm_le_nil))))) (B_335_611 hd  hf hs)
theorem B_335_537 {L : Nat} {xs : Nat → Int32} {d : Nat} (hd : 2 ≤ d) {res : Option Value × sm_H}   {h : sm_H} {r : (Int32 × sm_H)} (hf : F_335_537  h = some r) (hs : (fun (r : Int32 × sm_H) => res = (some (.int r.1), r.2)) r) : Ex (P_G L xs) (RUN L xs d) (sm_lk P_t335) 0 537 [none, none, none, none, none] [] h res := by
  unfold F_335_537 at hf
  refine Ex.seg 1 (pc' := 538) (lc' := [none, none, none, none, none]) (st' := [.int 1]) (h' := h) (sg1 rfl rfl rfl) ?_
  obtain rfl := Option.some.inj hf
  exact Ex.iret rfl rfl (fun c0 => by cases c0) hs
theorem B_335_451 {L : Nat} {xs : Nat → Int32} {d : Nat} (hd : 2 ≤ d) {res : Option Value × sm_H}   {h : sm_H} {r : (Int32 × sm_H)} (hf : F_335_451  h = some r) (hs : (fun (r : Int32 × sm_H) => res = (some (.int r.1), r.2)) r) : Ex (P_G L xs) (RUN L xs d) (sm_lk P_t335) 0 451 [none, none, none, none, none] [] h res := by
  unfold F_335_451 at hf
  refine Ex.seg 1 (pc' := 452) (lc' := [none, none, none, none, none]) (st' := [.int 1]) (h' := h) (sg1 rfl rfl rfl) ?_
  obtain rfl := Option.some.inj hf
  exact Ex.iret rfl rfl (fun c0 => by cases c0) hs
theorem B_335_379 {L : Nat} {xs : Nat → Int32} {d : Nat} (hd : 2 ≤ d) {res : Option Value × sm_H}   {h : sm_H} {r : (Int32 × sm_H)} (hf : F_335_379  h = some r) (hs : (fun (r : Int32 × sm_H) => res = (some (.int r.1), r.2)) r) : Ex (P_G L xs) (RUN L xs d) (sm_lk P_t335) 0 379 [none, none, none, none, none] [] h res := by
  unfold F_335_379 at hf
  refine Ex.seg 1 (pc' := 380) (lc' := [none, none, none, none, none]) (st' := [.int 1]) (h' := h) (sg1 rfl rfl rfl) ?_
  obtain rfl := Option.some.inj hf
  exact Ex.iret rfl rfl (fun c0 => by cases c0) hs
theorem B_335_333 {L : Nat} {xs : Nat → Int32} {d : Nat} (hd : 2 ≤ d) {res : Option Value × sm_H}   {h : sm_H} {r : (Int32 × sm_H)} (hf : F_335_333  h = some r) (hs : (fun (r : Int32 × sm_H) => res = (some (.int r.1), r.2)) r) : Ex (P_G L xs) (RUN L xs d) (sm_lk P_t335) 0 333 [none, none, none, none, none] [] h res := by
  unfold F_335_333 at hf
  refine Ex.seg 1 (pc' := 334) (lc' := [none, none, none, none, none]) (st' := [.int 1]) (h' := h) (sg1 rfl rfl rfl) ?_
  obtain rfl := Option.some.inj hf
  exact Ex.iret rfl rfl (fun c0 => by cases c0) hs
theorem B_335_320 {L : Nat} {xs : Nat → Int32} {d : Nat} (hd : 2 ≤ d) {res : Option Value × sm_H} {y3 : Int32} {y4 : Int32}  {h : sm_H} {r : (Int32 × sm_H)} (hf : F_335_320 y3 y4 h = some r) (hs : (fun (r : Int32 × sm_H) => res = (some (.int r.1), r.2)) r) : Ex (P_G L xs) (RUN L xs d) (sm_lk P_t335) 0 320 [some (.ref 67), none, none, some (.int y3), some (.int y4)] [] h res := by
  unfold F_335_320 at hf
  refine Ex.seg 1 (pc' := 322) (lc' := [some (.ref 67), none, none, some (.int y3), some (.int y4)]) (st' := [.int y4]) (h' := h) (sg1 rfl rfl rfl) ?_
  refine Ex.ifc rfl rfl (fun (c0 : y4 = 0) => ?_) (fun (c0 : ¬ (y4 = 0)) => ?_)
  · rw [if_pos c0] at hf
    exact Ex.weak (sm_le_n (sm_le_s (sm_le_s (sm_le_n (sm_le_n sm_le_nil))))) (B_335_333 hd  hf hs)
  · rw [if_neg c0] at hf
    refine Ex.seg 2 (pc' := 327) (lc' := [some (.ref 67), none, none, some (.int y3), some (.int y4)]) (st' := [.int y3, .ref 67]) (h' := h) (sg1 rfl rfl (sg1 rfl rfl rfl)) ?_
    obtain ⟨q5, e_q5, hf⟩ := bnd hf
    refine Ex.callV (a := 67) (As := [.int y3]) (r := []) (v := some (.int q5.1)) (h' := q5.2) rfl rfl (by decide) rfl (Nat.le_of_ble_eq_true rfl) rfl (E_303 (Nat.le_trans (by decide) hd) e_q5) rfl ?_
    refine Ex.ifc rfl rfl (fun (c0 : ¬ (q5.1 = 0)) => ?_) (fun (c0 : ¬ ¬ (q5.1 = 0)) => ?_)
    · rw [if_neg c0] at hf
      refine Ex.seg 4 (pc' := 341) (lc' := [some (.ref 67), none, none, some (.int y3), some (.int y4)]) (st' := [.int y3, .ref 72, .ref 67]) (h' := q5.2) (sg1 rfl rfl (sg1 rfl rfl (sg1 rfl rfl (sg1 rfl rfl rfl)))) ?_
      obtain ⟨v6, e_v6, hf⟩ := bnd hf
      refine Ex.iald e_v6 rfl rfl ?_
      obtain ⟨q7, e_q7, hf⟩ := bnd hf
      refine Ex.callV (a := 67) (As := [.int v6]) (r := []) (v := none) (h' := q7) rfl rfl (by decide) rfl (Nat.le_of_ble_eq_true rfl) rfl (E_308 (Nat.le_trans (by decide) hd) e_q7) rfl ?_
      refine Ex.seg 2 (pc' := 348) (lc' := [some (.ref 67), none, none, some (.int y3), some (.int y4)]) (st' := [.int 18, .ref 67]) (h' := q7) (sg1 rfl rfl (sg1 rfl rfl rfl)) ?_
      obtain ⟨q8, e_q8, hf⟩ := bnd hf
      refine Ex.callV (a := 67) (As := [.int 18]) (r := []) (v := none) (h' := q8) rfl rfl (by decide) rfl (Nat.le_of_ble_eq_true rfl) rfl (E_309 (Nat.le_trans (by decide) hd) e_q8) rfl ?_
      refine Ex.seg 2 (pc' := 353) (lc' := [some (.ref 67), none, none, some (.int y3), some (.int y4)]) (st' := [.int y3, .ref 67]) (h' := q8) (sg1 rfl rfl (sg1 rfl rfl rfl)) ?_
      obtain ⟨q9, e_q9, hf⟩ := bnd hf
      refine Ex.callV (a := 67) (As := [.int y3]) (r := []) (v := none) (h' := q9) rfl rfl (by decide) rfl (Nat.le_of_ble_eq_true rfl) rfl (E_311 (Nat.le_trans (by decide) hd) e_q9) rfl ?_
      refine Ex.seg 1 (pc' := 357) (lc' := [some (.ref 67), none, none, some (.int y3), some (.int y4)]) (st' := [.int 0]) (h' := q9) (sg1 rfl rfl rfl) ?_
      obtain rfl := Option.some.inj hf
      exact Ex.iret rfl rfl (fun c0 => by cases c0) hs
    · rw [if_pos (Classical.not_not.mp c0)] at hf
      exact Ex.weak (sm_le_n (sm_le_s (sm_le_s (sm_le_n (sm_le_n sm_le_nil))))) (B_335_333 hd  hf hs)
theorem B_335_306 {L : Nat} {xs : Nat → Int32} {d : Nat} (hd : 2 ≤ d) {res : Option Value × sm_H}   {h : sm_H} {r : (Int32 × sm_H)} (hf : F_335_306  h = some r) (hs : (fun (r : Int32 × sm_H) => res = (some (.int r.1), r.2)) r) : Ex (P_G L xs) (RUN L xs d) (sm_lk P_t335) 0 306 [none, none, none, none, none] [] h res := by
  unfold F_335_306 at hf
  refine Ex.seg 1 (pc' := 307) (lc' := [none, none, none, none, none]) (st' := [.int 1]) (h' := h) (sg1 rfl rfl rfl) ?_
  obtain rfl := Option.some.inj hf
  exact Ex.iret rfl rfl (fun c0 => by cases c0) hs
theorem B_335_260 {L : Nat} {xs : Nat → Int32} {d : Nat} (hd : 2 ≤ d) {res : Option Value × sm_H} {y3 : Int32} {z1 : Int32}  {h : sm_H} {r : (Int32 × sm_H)} (hf : F_335_260 y3 z1 h = some r) (hs : (fun (r : Int32 × sm_H) => res = (some (.int r.1), r.2)) r) : Ex (P_G L xs) (RUN L xs d) (sm_lk P_t335) 0 260 [some (.ref 67), none, none, some (.int y3), none] [.int z1, .ref 67] h res := by
  unfold F_335_260 at hf
  obtain ⟨q10, e_q10, hf⟩ := bnd hf
  refine Ex.callV (a := 67) (As := [.int z1]) (r := []) (v := none) (h' := q10) rfl rfl (by decide) rfl (Nat.le_of_ble_eq_true rfl) rfl (E_308 (Nat.le_trans (by decide) hd) e_q10) rfl ?_
  refine Ex.seg 2 (pc' := 265) (lc' := [some (.ref 67), none, none, some (.int y3), none]) (st' := [.int y3, .ref 67]) (h' := q10) (sg1 rfl rfl (sg1 rfl rfl rfl)) ?_
  obtain ⟨q11, e_q11, hf⟩ := bnd hf
  refine Ex.callV (a := 67) (As := [.int y3]) (r := []) (v := none) (h' := q11) rfl rfl (by decide) rfl (Nat.le_of_ble_eq_true rfl) rfl (E_309 (Nat.le_trans (by decide) hd) e_q11) rfl ?_
  refine Ex.seg 2 (pc' := 270) (lc' := [some (.ref 67), none, none, some (.int y3), none]) (st' := [.int y3, .ref 67]) (h' := q11) (sg1 rfl rfl (sg1 rfl rfl rfl)) ?_
  obtain ⟨q12, e_q12, hf⟩ := bnd hf
  refine Ex.callV (a := 67) (As := [.int y3]) (r := []) (v := none) (h' := q12) rfl rfl (by decide) rfl (Nat.le_of_ble_eq_true rfl) rfl (E_309 (Nat.le_trans (by decide) hd) e_q12) rfl ?_
  refine Ex.seg 1 (pc' := 274) (lc' := [some (.ref 67), none, none, some (.int y3), none]) (st' := [.int 0]) (h' := q12) (sg1 rfl rfl rfl) ?_
  obtain rfl := Option.some.inj hf
  exact Ex.iret rfl rfl (fun c0 => by cases c0) hs
theorem B_335_248 {L : Nat} {xs : Nat → Int32} {d : Nat} (hd : 2 ≤ d) {res : Option Value × sm_H} {y2 : Int32} {y3 : Int32}  {h : sm_H} {r : (Int32 × sm_H)} (hf : F_335_248 y2 y3 h = some r) (hs : (fun (r : Int32 × sm_H) => res = (some (.int r.1), r.2)) r) : Ex (P_G L xs) (RUN L xs d) (sm_lk P_t335) 0 248 [some (.ref 67), none, some (.int y2), some (.int y3), none] [] h res := by
  unfold F_335_248 at hf
  refine Ex.seg 3 (pc' := 252) (lc' := [some (.ref 67), none, some (.int y2), some (.int y3), none]) (st' := [.int 10, .int y2, .ref 67]) (h' := h) (sg1 rfl rfl (sg1 rfl rfl (sg1 rfl rfl rfl))) ?_
  refine Ex.icmp rfl rfl (fun (c0 : y2 ≤ 10) => ?_) (fun (c0 : ¬ (y2 ≤ 10)) => ?_)
  · rw [if_pos c0] at hf
    refine Ex.seg 1 (pc' := 260) (lc' := [some (.ref 67), none, some (.int y2), some (.int y3), none]) (st' := [.int y3, .ref 67]) (h' := h) (sg1 rfl rfl rfl) ?_
    exact Ex.weak (sm_le_s (sm_le_s (sm_le_n (sm_le_s (sm_le_s sm_le_nil))))) (B_335_260 hd  hf hs)
  · rw [if_neg c0] at hf
    refine Ex.seg 2 (pc' := 260) (lc' := [some (.ref 67), none, some (.int y2), some (.int y3), none]) (st' := [.int 1, .ref 67]) (h' := h) (sg1 rfl rfl (sg1 rfl rfl rfl)) ?_
    exact Ex.weak (sm_le_s (sm_le_s (sm_le_n (sm_le_s (sm_le_s sm_le_nil))))) (B_335_260 hd  hf hs)
theorem B_335_246 {L : Nat} {xs : Nat → Int32} {d : Nat} (hd : 2 ≤ d) {res : Option Value × sm_H}   {h : sm_H} {r : (Int32 × sm_H)} (hf : F_335_246  h = some r) (hs : (fun (r : Int32 × sm_H) => res = (some (.int r.1), r.2)) r) : Ex (P_G L xs) (RUN L xs d) (sm_lk P_t335) 0 246 [none, none, none, none, none] [] h res := by
  unfold F_335_246 at hf
  refine Ex.seg 1 (pc' := 247) (lc' := [none, none, none, none, none]) (st' := [.int 1]) (h' := h) (sg1 rfl rfl rfl) ?_
  obtain rfl := Option.some.inj hf
  exact Ex.iret rfl rfl (fun c0 => by cases c0) hs
theorem B_335_204 {L : Nat} {xs : Nat → Int32} {d : Nat} (hd : 2 ≤ d) {res : Option Value × sm_H}   {h : sm_H} {r : (Int32 × sm_H)} (hf : F_335_204  h = some r) (hs : (fun (r : Int32 × sm_H) => res = (some (.int r.1), r.2)) r) : Ex (P_G L xs) (RUN L xs d) (sm_lk P_t335) 0 204 [none, none, none, none, none] [] h res := by
  unfold F_335_204 at hf
  refine Ex.seg 1 (pc' := 205) (lc' := [none, none, none, none, none]) (st' := [.int 1]) (h' := h) (sg1 rfl rfl rfl) ?_
  obtain rfl := Option.some.inj hf
  exact Ex.iret rfl rfl (fun c0 => by cases c0) hs
theorem B_335_177 {L : Nat} {xs : Nat → Int32} {d : Nat} (hd : 2 ≤ d) {res : Option Value × sm_H}   {h : sm_H} {r : (Int32 × sm_H)} (hf : F_335_177  h = some r) (hs : (fun (r : Int32 × sm_H) => res = (some (.int r.1), r.2)) r) : Ex (P_G L xs) (RUN L xs d) (sm_lk P_t335) 0 177 [none, none, none, none, none] [] h res := by
  unfold F_335_177 at hf
  refine Ex.seg 1 (pc' := 178) (lc' := [none, none, none, none, none]) (st' := [.int 1]) (h' := h) (sg1 rfl rfl rfl) ?_
  obtain rfl := Option.some.inj hf
  exact Ex.iret rfl rfl (fun c0 => by cases c0) hs
theorem B_335_12 {L : Nat} {xs : Nat → Int32} {d : Nat} (hd : 2 ≤ d) {res : Option Value × sm_H} {y1 : Int32} {y2 : Int32} {y3 : Int32} {z0 : Int32}  {h : sm_H} {r : (Int32 × sm_H)} (hf : F_335_12 y1 y2 y3 z0 h = some r) (hs : (fun (r : Int32 × sm_H) => res = (some (.int r.1), r.2)) r) : Ex (P_G L xs) (RUN L xs d) (sm_lk P_t335) 0 12 [some (.ref 67), some (.int y1), some (.int y2), some (.int y3), none] [.int z0] h res := by
  unfold F_335_12 at hf
  refine Ex.seg 2 (pc' := 15) (lc' := [some (.ref 67), some (.int y1), some (.int y2), some (.int y3), some (.int z0)]) (st' := [.int y1]) (h' := h) (sg1 rfl rfl (sg1 rfl rfl rfl)) ?_
  rcases Classical.em (y1 = 1) with n1 | n1
  · rw [if_pos n1] at hf
    refine Ex.swt (t := 160) rfl rfl (by rw [n1]; exact Or.inr ⟨by decide, by decide, _, rfl, by decide⟩) ?_
    refine Ex.seg 3 (pc' := 165) (lc' := [some (.ref 67), some (.int y1), some (.int y2), some (.int y3), some (.int z0)]) (st' := [.int 1, .int (h.1 67 3)]) (h' := h) (sg1 rfl rfl (sg1 rfl rfl (sg1 rfl rfl rfl))) ?_
    refine Ex.icmp rfl rfl (fun (c0 : ¬ ((h.1 67 3) = 1)) => ?_) (fun (c0 : ¬ ¬ ((h.1 67 3) = 1)) => ?_)
    · rw [if_neg c0] at hf
      exact Ex.weak (sm_le_n (sm_le_n (sm_le_n (sm_le_n (sm_le_n sm_le_nil))))) (B_335_177 hd  hf hs)
    · rw [if_pos (Classical.not_not.mp c0)] at hf
      refine Ex.seg 3 (pc' := 171) (lc' := [some (.ref 67), some (.int y1), some (.int y2), some (.int y3), some (.int z0)]) (st' := [.int 1, .int 0, .ref 67]) (h' := h) (sg1 rfl rfl (sg1 rfl rfl (sg1 rfl rfl rfl))) ?_
      obtain ⟨q13, e_q13, hf⟩ := bnd hf
      refine Ex.callV (a := 67) (As := [.int 0, .int 1]) (r := []) (v := some (.int q13.1)) (h' := q13.2) rfl rfl (by decide) rfl (Nat.le_of_ble_eq_true rfl) rfl (E_314 (Nat.le_trans (by decide) hd) e_q13) rfl ?_
      refine Ex.ifc rfl rfl (fun (c0 : ¬ (q13.1 = 0)) => ?_) (fun (c0 : ¬ ¬ (q13.1 = 0)) => ?_)
      · rw [if_neg c0] at hf
        refine Ex.seg 2 (pc' := 182) (lc' := [some (.ref 67), some (.int y1), some (.int y2), some (.int y3), some (.int z0)]) (st' := [.int 18, .ref 67]) (h' := q13.2) (sg1 rfl rfl (sg1 rfl rfl rfl)) ?_
        obtain ⟨q14, e_q14, hf⟩ := bnd hf
        refine Ex.callV (a := 67) (As := [.int 18]) (r := []) (v := none) (h' := q14) rfl rfl (by decide) rfl (Nat.le_of_ble_eq_true rfl) rfl (E_308 (Nat.le_trans (by decide) hd) e_q14) rfl ?_
        refine Ex.seg 1 (pc' := 186) (lc' := [some (.ref 67), some (.int y1), some (.int y2), some (.int y3), some (.int z0)]) (st' := [.int 0]) (h' := q14) (sg1 rfl rfl rfl) ?_
        obtain rfl := Option.some.inj hf
        exact Ex.iret rfl rfl (fun c0 => by cases c0) hs
      · rw [if_pos (Classical.not_not.mp c0)] at hf
        exact Ex.weak (sm_le_n (sm_le_n (sm_le_n (sm_le_n (sm_le_n sm_le_nil))))) (B_335_177 hd  hf hs)
  rw [if_neg n1] at hf
  rcases Classical.em (y1 = 2) with n2 | n2
  · rw [if_pos n2] at hf
    refine Ex.swt (t := 187) rfl rfl (by rw [n2]; exact Or.inr ⟨by decide, by decide, _, rfl, by decide⟩) ?_
    refine Ex.seg 1 (pc' := 189) (lc' := [some (.ref 67), some (.int y1), some (.int y2), some (.int y3), some (.int z0)]) (st' := [.int z0]) (h' := h) (sg1 rfl rfl rfl) ?_
    refine Ex.ifc rfl rfl (fun (c0 : z0 = 0) => ?_) (fun (c0 : ¬ (z0 = 0)) => ?_)
    · rw [if_pos c0] at hf
      exact Ex.weak (sm_le_n (sm_le_n (sm_le_n (sm_le_n (sm_le_n sm_le_nil))))) (B_335_204 hd  hf hs)
    · rw [if_neg c0] at hf
      refine Ex.seg 2 (pc' := 194) (lc' := [some (.ref 67), some (.int y1), some (.int y2), some (.int y3), some (.int z0)]) (st' := [.int y2, .ref 67]) (h' := h) (sg1 rfl rfl (sg1 rfl rfl rfl)) ?_
      obtain ⟨q15, e_q15, hf⟩ := bnd hf
      refine Ex.callV (a := 67) (As := [.int y2]) (r := []) (v := some (.int q15.1)) (h' := q15.2) rfl rfl (by decide) rfl (Nat.le_of_ble_eq_true rfl) rfl (E_289 (Nat.le_trans (by decide) hd) e_q15) rfl ?_
      refine Ex.ifc rfl rfl (fun (c0 : q15.1 = 0) => ?_) (fun (c0 : ¬ (q15.1 = 0)) => ?_)
      · rw [if_pos c0] at hf
        exact Ex.weak (sm_le_n (sm_le_n (sm_le_n (sm_le_n (sm_le_n sm_le_nil))))) (B_335_204 hd  hf hs)
      · rw [if_neg c0] at hf
        refine Ex.seg 1 (pc' := 201) (lc' := [some (.ref 67), some (.int y1), some (.int y2), some (.int y3), some (.int z0)]) (st' := [.int y2]) (h' := q15.2) (sg1 rfl rfl rfl) ?_
        refine Ex.ifc rfl rfl (fun (c0 : ¬ (y2 = 0)) => ?_) (fun (c0 : ¬ ¬ (y2 = 0)) => ?_)
        · rw [if_neg c0] at hf
          refine Ex.seg 2 (pc' := 208) (lc' := [some (.ref 67), some (.int y1), some (.int y2), some (.int y3), some (.int z0)]) (st' := [.int y2, .ref 67]) (h' := q15.2) (sg1 rfl rfl (sg1 rfl rfl rfl)) ?_
          obtain ⟨q16, e_q16, hf⟩ := bnd hf
          refine Ex.callV (a := 67) (As := [.int y2]) (r := []) (v := none) (h' := q16) rfl rfl (by decide) rfl (Nat.le_of_ble_eq_true rfl) rfl (E_308 (Nat.le_trans (by decide) hd) e_q16) rfl ?_
          refine Ex.seg 2 (pc' := 213) (lc' := [some (.ref 67), some (.int y1), some (.int y2), some (.int y3), some (.int z0)]) (st' := [.int y2, .ref 67]) (h' := q16) (sg1 rfl rfl (sg1 rfl rfl rfl)) ?_
          obtain ⟨q17, e_q17, hf⟩ := bnd hf
          refine Ex.callV (a := 67) (As := [.int y2]) (r := []) (v := none) (h' := q17) rfl rfl (by decide) rfl (Nat.le_of_ble_eq_true rfl) rfl (E_309 (Nat.le_trans (by decide) hd) e_q17) rfl ?_
          refine Ex.seg 1 (pc' := 217) (lc' := [some (.ref 67), some (.int y1), some (.int y2), some (.int y3), some (.int z0)]) (st' := [.int 0]) (h' := q17) (sg1 rfl rfl rfl) ?_
          obtain rfl := Option.some.inj hf
          exact Ex.iret rfl rfl (fun c0 => by cases c0) hs
        · rw [if_pos (Classical.not_not.mp c0)] at hf
          exact Ex.weak (sm_le_n (sm_le_n (sm_le_n (sm_le_n (sm_le_n sm_le_nil))))) (B_335_204 hd  hf hs)
  rw [if_neg n2] at hf
  rcases Classical.em (y1 = 3) with n3 | n3
  · rw [if_pos n3] at hf
    refine Ex.swt (t := 218) rfl rfl (by rw [n3]; exact Or.inr ⟨by decide, by decide, _, rfl, by decide⟩) ?_
    refine Ex.seg 1 (pc' := 220) (lc' := [some (.ref 67), some (.int y1), some (.int y2), some (.int y3), some (.int z0)]) (st' := [.int z0]) (h' := h) (sg1 rfl rfl rfl) ?_
    refine Ex.ifc rfl rfl (fun (c0 : z0 = 0) => ?_) (fun (c0 : ¬ (z0 = 0)) => ?_)
    · rw [if_pos c0] at hf
      exact Ex.weak (sm_le_n (sm_le_n (sm_le_n (sm_le_n (sm_le_n sm_le_nil))))) (B_335_246 hd  hf hs)
    · rw [if_neg c0] at hf
      refine Ex.seg 4 (pc' := 229) (lc' := [some (.ref 67), some (.int y1), some (.int y2), some (.int y3), some (.int z0)]) (st' := [.long 12, .long 0, .long (Int32.toInt64 y2)]) (h' := h) (sg1 rfl rfl (sg1 rfl rfl (sg1 rfl rfl (sg1 rfl rfl rfl)))) ?_
      obtain ⟨q18, e_q18, hf⟩ := bnd hf
      refine Ex.callS (As := [.long (Int32.toInt64 y2), .long 0, .long 12]) (r := []) (v := some (.int q18.1)) (h' := q18.2) rfl rfl rfl rfl (Nat.le_of_ble_eq_true rfl) (E_315 (Nat.le_trans (by decide) hd) e_q18) rfl ?_
      refine Ex.ifc rfl rfl (fun (c0 : ¬ (q18.1 = 0)) => ?_) (fun (c0 : ¬ ¬ (q18.1 = 0)) => ?_)
      · rw [if_neg c0] at hf
        exact Ex.weak (sm_le_n (sm_le_n (sm_le_n (sm_le_n (sm_le_n sm_le_nil))))) (B_335_246 hd  hf hs)
      · rw [if_pos (Classical.not_not.mp c0)] at hf
        refine Ex.seg 2 (pc' := 237) (lc' := [some (.ref 67), some (.int y1), some (.int y2), some (.int y3), some (.int z0)]) (st' := [.int 5, .int y3]) (h' := q18.2) (sg1 rfl rfl (sg1 rfl rfl rfl)) ?_
        refine Ex.icmp rfl rfl (fun (c0 : y3 = 5) => ?_) (fun (c0 : ¬ (y3 = 5)) => ?_)
        · rw [if_pos c0] at hf
          exact Ex.weak (sm_le_s (sm_le_n (sm_le_s (sm_le_s (sm_le_n sm_le_nil))))) (B_335_248 hd  hf hs)
        · rw [if_neg c0] at hf
          refine Ex.seg 2 (pc' := 243) (lc' := [some (.ref 67), some (.int y1), some (.int y2), some (.int y3), some (.int z0)]) (st' := [.int 6, .int y3]) (h' := q18.2) (sg1 rfl rfl (sg1 rfl rfl rfl)) ?_
          refine Ex.icmp rfl rfl (fun (c0 : y3 = 6) => ?_) (fun (c0 : ¬ (y3 = 6)) => ?_)
          · rw [if_pos c0] at hf
            exact Ex.weak (sm_le_s (sm_le_n (sm_le_s (sm_le_s (sm_le_n sm_le_nil))))) (B_335_248 hd  hf hs)
          · rw [if_neg c0] at hf
            exact Ex.weak (sm_le_n (sm_le_n (sm_le_n (sm_le_n (sm_le_n sm_le_nil))))) (B_335_246 hd  hf hs)
  rw [if_neg n3] at hf
  rcases Classical.em (y1 = 19) with n4 | n4
  · rw [if_pos n4] at hf
    refine Ex.swt (t := 275) rfl rfl (by rw [n4]; exact Or.inr ⟨by decide, by decide, _, rfl, by decide⟩) ?_
    refine Ex.seg 1 (pc' := 277) (lc' := [some (.ref 67), some (.int y1), some (.int y2), some (.int y3), some (.int z0)]) (st' := [.int z0]) (h' := h) (sg1 rfl rfl rfl) ?_
    refine Ex.ifc rfl rfl (fun (c0 : z0 = 0) => ?_) (fun (c0 : ¬ (z0 = 0)) => ?_)
    · rw [if_pos c0] at hf
      exact Ex.weak (sm_le_n (sm_le_n (sm_le_n (sm_le_n (sm_le_n sm_le_nil))))) (B_335_306 hd  hf hs)
    · rw [if_neg c0] at hf
      refine Ex.seg 2 (pc' := 282) (lc' := [some (.ref 67), some (.int y1), some (.int y2), some (.int y3), some (.int z0)]) (st' := [.int y2, .ref 67]) (h' := h) (sg1 rfl rfl (sg1 rfl rfl rfl)) ?_
      obtain ⟨q19, e_q19, hf⟩ := bnd hf
      refine Ex.callV (a := 67) (As := [.int y2]) (r := []) (v := some (.int q19.1)) (h' := q19.2) rfl rfl (by decide) rfl (Nat.le_of_ble_eq_true rfl) rfl (E_289 (Nat.le_trans (by decide) hd) e_q19) rfl ?_
      refine Ex.ifc rfl rfl (fun (c0 : q19.1 = 0) => ?_) (fun (c0 : ¬ (q19.1 = 0)) => ?_)
      · rw [if_pos c0] at hf
        exact Ex.weak (sm_le_n (sm_le_n (sm_le_n (sm_le_n (sm_le_n sm_le_nil))))) (B_335_306 hd  hf hs)
      · rw [if_neg c0] at hf
        refine Ex.seg 2 (pc' := 290) (lc' := [some (.ref 67), some (.int y1), some (.int y2), some (.int y3), some (.int z0)]) (st' := [.int y3, .ref 67]) (h' := q19.2) (sg1 rfl rfl (sg1 rfl rfl rfl)) ?_
        obtain ⟨q20, e_q20, hf⟩ := bnd hf
        refine Ex.callV (a := 67) (As := [.int y3]) (r := []) (v := some (.int q20.1)) (h' := q20.2) rfl rfl (by decide) rfl (Nat.le_of_ble_eq_true rfl) rfl (E_289 (Nat.le_trans (by decide) hd) e_q20) rfl ?_
        refine Ex.ifc rfl rfl (fun (c0 : q20.1 = 0) => ?_) (fun (c0 : ¬ (q20.1 = 0)) => ?_)
        · rw [if_pos c0] at hf
          exact Ex.weak (sm_le_n (sm_le_n (sm_le_n (sm_le_n (sm_le_n sm_le_nil))))) (B_335_306 hd  hf hs)
        · rw [if_neg c0] at hf
          refine Ex.seg 3 (pc' := 300) (lc' := [some (.ref 67), some (.int y1), some (.int y2), some (.int y3), some (.int z0)]) (st' := [.int 19, .int y3, .ref 67]) (h' := q20.2) (sg1 rfl rfl (sg1 rfl rfl (sg1 rfl rfl rfl))) ?_
          obtain ⟨q21, e_q21, hf⟩ := bnd hf
          refine Ex.callV (a := 67) (As := [.int y3, .int 19]) (r := []) (v := some (.int q21.1)) (h' := q21.2) rfl rfl (by decide) rfl (Nat.le_of_ble_eq_true rfl) rfl (E_295 (Nat.le_trans (by decide) hd) e_q21) rfl ?_
          refine Ex.ifc rfl rfl (fun (c0 : ¬ (q21.1 = 0)) => ?_) (fun (c0 : ¬ ¬ (q21.1 = 0)) => ?_)
          · rw [if_neg c0] at hf
            refine Ex.seg 2 (pc' := 310) (lc' := [some (.ref 67), some (.int y1), some (.int y2), some (.int y3), some (.int z0)]) (st' := [.int y2, .ref 67]) (h' := q21.2) (sg1 rfl rfl (sg1 rfl rfl rfl)) ?_
            obtain ⟨q22, e_q22, hf⟩ := bnd hf
            refine Ex.callV (a := 67) (As := [.int y2]) (r := []) (v := none) (h' := q22) rfl rfl (by decide) rfl (Nat.le_of_ble_eq_true rfl) rfl (E_308 (Nat.le_trans (by decide) hd) e_q22) rfl ?_
            refine Ex.seg 2 (pc' := 315) (lc' := [some (.ref 67), some (.int y1), some (.int y2), some (.int y3), some (.int z0)]) (st' := [.int y3, .ref 67]) (h' := q22) (sg1 rfl rfl (sg1 rfl rfl rfl)) ?_
            obtain ⟨q23, e_q23, hf⟩ := bnd hf
            refine Ex.callV (a := 67) (As := [.int y3]) (r := []) (v := none) (h' := q23) rfl rfl (by decide) rfl (Nat.le_of_ble_eq_true rfl) rfl (E_309 (Nat.le_trans (by decide) hd) e_q23) rfl ?_
            refine Ex.seg 1 (pc' := 319) (lc' := [some (.ref 67), some (.int y1), some (.int y2), some (.int y3), some (.int z0)]) (st' := [.int 0]) (h' := q23) (sg1 rfl rfl rfl) ?_
            obtain rfl := Option.some.inj hf
            exact Ex.iret rfl rfl (fun c0 => by cases c0) hs
          · rw [if_pos (Classical.not_not.mp c0)] at hf
            exact Ex.weak (sm_le_n (sm_le_n (sm_le_n (sm_le_n (sm_le_n sm_le_nil))))) (B_335_306 hd  hf hs)
  rw [if_neg n4] at hf
  rcases Classical.em (y1 = 27) with n5 | n5
  · rw [if_pos n5] at hf
    refine Ex.swt (t := 320) rfl rfl (by rw [n5]; exact Or.inr ⟨by decide, by decide, _, rfl, by decide⟩) ?_
    exact Ex.weak (sm_le_s (sm_le_n (sm_le_n (sm_le_s (sm_le_s sm_le_nil))))) (B_335_320 hd  hf hs)
  rw [if_neg n5] at hf
  rcases Classical.em (y1 = 28) with n6 | n6
  · rw [if_pos n6] at hf
    refine Ex.swt (t := 320) rfl rfl (by rw [n6]; exact Or.inr ⟨by decide, by decide, _, rfl, by decide⟩) ?_
    exact Ex.weak (sm_le_s (sm_le_n (sm_le_n (sm_le_s (sm_le_s sm_le_nil))))) (B_335_320 hd  hf hs)
  rw [if_neg n6] at hf
  rcases Classical.em (y1 = 29) with n7 | n7
  · rw [if_pos n7] at hf
    refine Ex.swt (t := 358) rfl rfl (by rw [n7]; exact Or.inr ⟨by decide, by decide, _, rfl, by decide⟩) ?_
    refine Ex.seg 1 (pc' := 360) (lc' := [some (.ref 67), some (.int y1), some (.int y2), some (.int y3), some (.int z0)]) (st' := [.int z0]) (h' := h) (sg1 rfl rfl rfl) ?_
    refine Ex.ifc rfl rfl (fun (c0 : z0 = 0) => ?_) (fun (c0 : ¬ (z0 = 0)) => ?_)
    · rw [if_pos c0] at hf
      exact Ex.weak (sm_le_n (sm_le_n (sm_le_n (sm_le_n (sm_le_n sm_le_nil))))) (B_335_379 hd  hf hs)
    · rw [if_neg c0] at hf
      refine Ex.seg 8 (pc' := 373) (lc' := [some (.ref 67), some (.int y1), some (.int y2), some (.int y3), some (.int z0)]) (st' := [.long (Int32.toInt64 ((h.1 67 35) - 1)), .long 0, .long (Int32.toInt64 y2)]) (h' := h) (sg1 rfl rfl (sg1 rfl rfl (sg1 rfl rfl (sg1 rfl rfl (sg1 rfl rfl (sg1 rfl rfl (sg1 rfl rfl (sg1 rfl rfl rfl)))))))) ?_
      obtain ⟨q24, e_q24, hf⟩ := bnd hf
      refine Ex.callS (As := [.long (Int32.toInt64 y2), .long 0, .long (Int32.toInt64 ((h.1 67 35) - 1))]) (r := []) (v := some (.int q24.1)) (h' := q24.2) rfl rfl rfl rfl (Nat.le_of_ble_eq_true rfl) (E_315 (Nat.le_trans (by decide) hd) e_q24) rfl ?_
      refine Ex.ifc rfl rfl (fun (c0 : q24.1 = 0) => ?_) (fun (c0 : ¬ (q24.1 = 0)) => ?_)
      · rw [if_pos c0] at hf
        refine Ex.seg 5 (pc' := 388) (lc' := [some (.ref 67), some (.int y1), some (.int y2), some (.int y3), some (.int z0)]) (st' := [.int y2, .ref 92, .ref 67, .ref 67]) (h' := q24.2) (sg1 rfl rfl (sg1 rfl rfl (sg1 rfl rfl (sg1 rfl rfl (sg1 rfl rfl rfl))))) ?_
        obtain ⟨v25, e_v25, hf⟩ := bnd hf
        refine Ex.iald e_v25 rfl rfl ?_
        obtain ⟨q26, e_q26, hf⟩ := bnd hf
        refine Ex.callV (a := 67) (As := [.int v25]) (r := [.ref 67]) (v := some (.int q26.1)) (h' := q26.2) rfl rfl (by decide) rfl (Nat.le_of_ble_eq_true rfl) rfl (E_307 (Nat.le_trans (by decide) hd) e_q26) rfl ?_
        obtain ⟨q27, e_q27, hf⟩ := bnd hf
        refine Ex.callV (a := 67) (As := [.int q26.1]) (r := []) (v := none) (h' := q27) rfl rfl (by decide) rfl (Nat.le_of_ble_eq_true rfl) rfl (E_308 (Nat.le_trans (by decide) hd) e_q27) rfl ?_
        refine Ex.seg 4 (pc' := 401) (lc' := [some (.ref 67), some (.int y1), some (.int y2), some (.int y3), some (.int z0)]) (st' := [.int y2, .ref 92, .ref 67]) (h' := q27) (sg1 rfl rfl (sg1 rfl rfl (sg1 rfl rfl (sg1 rfl rfl rfl)))) ?_
        obtain ⟨v28, e_v28, hf⟩ := bnd hf
        refine Ex.iald e_v28 rfl rfl ?_
        refine Ex.seg 5 (pc' := 409) (lc' := [some (.ref 67), some (.int y1), some (.int y2), some (.int y3), some (.int z0)]) (st' := [.int y2, .ref 92, .ref 67, .int 0, .int v28, .ref 67]) (h' := q27) (sg1 rfl rfl (sg1 rfl rfl (sg1 rfl rfl (sg1 rfl rfl (sg1 rfl rfl rfl))))) ?_
        obtain ⟨v29, e_v29, hf⟩ := bnd hf
        refine Ex.iald e_v29 rfl rfl ?_
        obtain ⟨q30, e_q30, hf⟩ := bnd hf
        refine Ex.callV (a := 67) (As := [.int v29]) (r := [.int 0, .int v28, .ref 67]) (v := some (.int q30.1)) (h' := q30.2) rfl rfl (by decide) rfl (Nat.le_of_ble_eq_true rfl) rfl (E_305 (Nat.le_trans (by decide) hd) e_q30) rfl ?_
        obtain ⟨q31, e_q31, hf⟩ := bnd hf
        refine Ex.callV (a := 67) (As := [.int v28, .int 0, .int q30.1]) (r := []) (v := none) (h' := q31) rfl rfl (by decide) rfl (Nat.le_of_ble_eq_true rfl) rfl (E_310 (Nat.le_trans (by decide) hd) e_q31) rfl ?_
        refine Ex.seg 1 (pc' := 417) (lc' := [some (.ref 67), some (.int y1), some (.int y2), some (.int y3), some (.int z0)]) (st' := [.int 0]) (h' := q31) (sg1 rfl rfl rfl) ?_
        obtain rfl := Option.some.inj hf
        exact Ex.iret rfl rfl (fun c0 => by cases c0) hs
      · rw [if_neg c0] at hf
        exact Ex.weak (sm_le_n (sm_le_n (sm_le_n (sm_le_n (sm_le_n sm_le_nil))))) (B_335_379 hd  hf hs)
  rw [if_neg n7] at hf
  rcases Classical.em (y1 = 30) with n8 | n8
  · rw [if_pos n8] at hf
    refine Ex.swt (t := 418) rfl rfl (by rw [n8]; exact Or.inr ⟨by decide, by decide, _, rfl, by decide⟩) ?_
    refine Ex.seg 3 (pc' := 423) (lc' := [some (.ref 67), some (.int y1), some (.int y2), some (.int y3), some (.int z0)]) (st' := [.int 2, .int (h.1 67 3)]) (h' := h) (sg1 rfl rfl (sg1 rfl rfl (sg1 rfl rfl rfl))) ?_
    refine Ex.icmp rfl rfl (fun (c0 : ¬ ((h.1 67 3) = 2)) => ?_) (fun (c0 : ¬ ¬ ((h.1 67 3) = 2)) => ?_)
    · rw [if_neg c0] at hf
      exact Ex.weak (sm_le_n (sm_le_n (sm_le_n (sm_le_n (sm_le_n sm_le_nil))))) (B_335_451 hd  hf hs)
    · rw [if_pos (Classical.not_not.mp c0)] at hf
      refine Ex.seg 3 (pc' := 429) (lc' := [some (.ref 67), some (.int y1), some (.int y2), some (.int y3), some (.int z0)]) (st' := [.int 2, .int 0, .ref 67]) (h' := h) (sg1 rfl rfl (sg1 rfl rfl (sg1 rfl rfl rfl))) ?_
      obtain ⟨q32, e_q32, hf⟩ := bnd hf
      refine Ex.callV (a := 67) (As := [.int 0, .int 2]) (r := []) (v := some (.int q32.1)) (h' := q32.2) rfl rfl (by decide) rfl (Nat.le_of_ble_eq_true rfl) rfl (E_314 (Nat.le_trans (by decide) hd) e_q32) rfl ?_
      refine Ex.ifc rfl rfl (fun (c0 : q32.1 = 0) => ?_) (fun (c0 : ¬ (q32.1 = 0)) => ?_)
      · rw [if_pos c0] at hf
        exact Ex.weak (sm_le_n (sm_le_n (sm_le_n (sm_le_n (sm_le_n sm_le_nil))))) (B_335_451 hd  hf hs)
      · rw [if_neg c0] at hf
        refine Ex.seg 8 (pc' := 445) (lc' := [some (.ref 67), some (.int y1), some (.int y2), some (.int y3), some (.int z0)]) (st' := [.long (Int32.toInt64 ((q32.2.1 67 37) - 1)), .long 0, .long (Int32.toInt64 y2)]) (h' := q32.2) (sg1 rfl rfl (sg1 rfl rfl (sg1 rfl rfl (sg1 rfl rfl (sg1 rfl rfl (sg1 rfl rfl (sg1 rfl rfl (sg1 rfl rfl rfl)))))))) ?_
        obtain ⟨q33, e_q33, hf⟩ := bnd hf
        refine Ex.callS (As := [.long (Int32.toInt64 y2), .long 0, .long (Int32.toInt64 ((q32.2.1 67 37) - 1))]) (r := []) (v := some (.int q33.1)) (h' := q33.2) rfl rfl rfl rfl (Nat.le_of_ble_eq_true rfl) (E_315 (Nat.le_trans (by decide) hd) e_q33) rfl ?_
        refine Ex.ifc rfl rfl (fun (c0 : q33.1 = 0) => ?_) (fun (c0 : ¬ (q33.1 = 0)) => ?_)
        · rw [if_pos c0] at hf
          refine Ex.seg 5 (pc' := 462) (lc' := [some (.ref 67), some (.int y1), some (.int y2), some (.int y3), some (.int z0)]) (st' := [.int 0, .ref 69, .ref 76]) (h' := q33.2) (sg1 rfl rfl (sg1 rfl rfl (sg1 rfl rfl (sg1 rfl rfl (sg1 rfl rfl rfl))))) ?_
          obtain ⟨v34, e_v34, hf⟩ := bnd hf
          refine Ex.iald e_v34 rfl rfl ?_
          obtain ⟨v35, e_v35, hf⟩ := bnd hf
          refine Ex.iald e_v35 rfl rfl ?_
          refine Ex.seg 5 (pc' := 473) (lc' := [some (.ref 67), some (.int y1), some (.int y2), some (.int y3), some (.int z0)]) (st' := [.int 1, .ref 69, .ref 76, .int v35]) (h' := q33.2) (sg1 rfl rfl (sg1 rfl rfl (sg1 rfl rfl (sg1 rfl rfl (sg1 rfl rfl rfl))))) ?_
          obtain ⟨v36, e_v36, hf⟩ := bnd hf
          refine Ex.iald e_v36 rfl rfl ?_
          obtain ⟨v37, e_v37, hf⟩ := bnd hf
          refine Ex.iald e_v37 rfl rfl ?_
          refine Ex.icmp rfl rfl (fun (c0 : v35 = v37) => ?_) (fun (c0 : ¬ (v35 = v37)) => ?_)
          · rw [if_pos c0] at hf
            refine Ex.seg 5 (pc' := 487) (lc' := [some (.ref 67), some (.int y1), some (.int y2), some (.int y3), some (.int z0)]) (st' := [.int 0, .ref 69, .ref 67, .ref 67]) (h' := q33.2) (sg1 rfl rfl (sg1 rfl rfl (sg1 rfl rfl (sg1 rfl rfl (sg1 rfl rfl rfl))))) ?_
            obtain ⟨v38, e_v38, hf⟩ := bnd hf
            refine Ex.iald e_v38 rfl rfl ?_
            obtain ⟨q39, e_q39, hf⟩ := bnd hf
            refine Ex.callV (a := 67) (As := [.int v38]) (r := [.ref 67]) (v := some (.int q39.1)) (h' := q39.2) rfl rfl (by decide) rfl (Nat.le_of_ble_eq_true rfl) rfl (E_307 (Nat.le_trans (by decide) hd) e_q39) rfl ?_
            obtain ⟨q40, e_q40, hf⟩ := bnd hf
            refine Ex.callV (a := 67) (As := [.int q39.1]) (r := []) (v := none) (h' := q40) rfl rfl (by decide) rfl (Nat.le_of_ble_eq_true rfl) rfl (E_308 (Nat.le_trans (by decide) hd) e_q40) rfl ?_
            refine Ex.seg 4 (pc' := 500) (lc' := [some (.ref 67), some (.int y1), some (.int y2), some (.int y3), some (.int z0)]) (st' := [.int 0, .ref 69, .ref 67]) (h' := q40) (sg1 rfl rfl (sg1 rfl rfl (sg1 rfl rfl (sg1 rfl rfl rfl)))) ?_
            obtain ⟨v41, e_v41, hf⟩ := bnd hf
            refine Ex.iald e_v41 rfl rfl ?_
            refine Ex.seg 5 (pc' := 508) (lc' := [some (.ref 67), some (.int y1), some (.int y2), some (.int y3), some (.int z0)]) (st' := [.int 0, .ref 69, .ref 67, .int 0, .int v41, .ref 67]) (h' := q40) (sg1 rfl rfl (sg1 rfl rfl (sg1 rfl rfl (sg1 rfl rfl (sg1 rfl rfl rfl))))) ?_
            obtain ⟨v42, e_v42, hf⟩ := bnd hf
            refine Ex.iald e_v42 rfl rfl ?_
            obtain ⟨q43, e_q43, hf⟩ := bnd hf
            refine Ex.callV (a := 67) (As := [.int v42]) (r := [.int 0, .int v41, .ref 67]) (v := some (.int q43.1)) (h' := q43.2) rfl rfl (by decide) rfl (Nat.le_of_ble_eq_true rfl) rfl (E_305 (Nat.le_trans (by decide) hd) e_q43) rfl ?_
            obtain ⟨q44, e_q44, hf⟩ := bnd hf
            refine Ex.callV (a := 67) (As := [.int v41, .int 0, .int q43.1]) (r := []) (v := none) (h' := q44) rfl rfl (by decide) rfl (Nat.le_of_ble_eq_true rfl) rfl (E_310 (Nat.le_trans (by decide) hd) e_q44) rfl ?_
            refine Ex.seg 1 (pc' := 516) (lc' := [some (.ref 67), some (.int y1), some (.int y2), some (.int y3), some (.int z0)]) (st' := [.int 0]) (h' := q44) (sg1 rfl rfl rfl) ?_
            obtain rfl := Option.some.inj hf
            exact Ex.iret rfl rfl (fun c0 => by cases c0) hs
          · rw [if_neg c0] at hf
            refine Ex.seg 1 (pc' := 479) (lc' := [some (.ref 67), some (.int y1), some (.int y2), some (.int y3), some (.int z0)]) (st' := [.int 3]) (h' := q33.2) (sg1 rfl rfl rfl) ?_
            obtain rfl := Option.some.inj hf
            exact Ex.iret rfl rfl (fun c0 => by cases c0) hs
        · rw [if_neg c0] at hf
          exact Ex.weak (sm_le_n (sm_le_n (sm_le_n (sm_le_n (sm_le_n sm_le_nil))))) (B_335_451 hd  hf hs)
  rw [if_neg n8] at hf
  rcases Classical.em (y1 = 31) with n9 | n9
  · rw [if_pos n9] at hf
    refine Ex.swt (t := 517) rfl rfl (by rw [n9]; exact Or.inr ⟨by decide, by decide, _, rfl, by decide⟩) ?_
    refine Ex.seg 1 (pc' := 519) (lc' := [some (.ref 67), some (.int y1), some (.int y2), some (.int y3), some (.int z0)]) (st' := [.int z0]) (h' := h) (sg1 rfl rfl rfl) ?_
    refine Ex.ifc rfl rfl (fun (c0 : z0 = 0) => ?_) (fun (c0 : ¬ (z0 = 0)) => ?_)
    · rw [if_pos c0] at hf
      exact Ex.weak (sm_le_n (sm_le_n (sm_le_n (sm_le_n (sm_le_n sm_le_nil))))) (B_335_537 hd  hf hs)
    · rw [if_neg c0] at hf
      refine Ex.seg 2 (pc' := 524) (lc' := [some (.ref 67), some (.int y1), some (.int y2), some (.int y3), some (.int z0)]) (st' := [.int y2, .ref 67]) (h' := h) (sg1 rfl rfl (sg1 rfl rfl rfl)) ?_
      obtain ⟨q45, e_q45, hf⟩ := bnd hf
      refine Ex.callV (a := 67) (As := [.int y2]) (r := []) (v := some (.int q45.1)) (h' := q45.2) rfl rfl (by decide) rfl (Nat.le_of_ble_eq_true rfl) rfl (E_289 (Nat.le_trans (by decide) hd) e_q45) rfl ?_
      refine Ex.ifc rfl rfl (fun (c0 : q45.1 = 0) => ?_) (fun (c0 : ¬ (q45.1 = 0)) => ?_)
      · rw [if_pos c0] at hf
        exact Ex.weak (sm_le_n (sm_le_n (sm_le_n (sm_le_n (sm_le_n sm_le_nil))))) (B_335_537 hd  hf hs)
      · rw [if_neg c0] at hf
        refine Ex.seg 1 (pc' := 531) (lc' := [some (.ref 67), some (.int y1), some (.int y2), some (.int y3), some (.int z0)]) (st' := [.int y2]) (h' := q45.2) (sg1 rfl rfl rfl) ?_
        obtain ⟨q46, e_q46, hf⟩ := bnd hf
        refine Ex.callS (As := [.int y2]) (r := []) (v := some (.int q46.1)) (h' := q46.2) rfl rfl rfl rfl (Nat.le_of_ble_eq_true rfl) (E_291 (Nat.le_trans (by decide) hd) e_q46) rfl ?_
        refine Ex.ifc rfl rfl (fun (c0 : ¬ (q46.1 = 0)) => ?_) (fun (c0 : ¬ ¬ (q46.1 = 0)) => ?_)
        · rw [if_neg c0] at hf
          refine Ex.seg 2 (pc' := 541) (lc' := [some (.ref 67), some (.int y1), some (.int y2), some (.int y3), some (.int z0)]) (st' := [.int 1, .ref 67]) (h' := q46.2) (sg1 rfl rfl (sg1 rfl rfl rfl)) ?_
          obtain ⟨q47, e_q47, hf⟩ := bnd hf
          refine Ex.callV (a := 67) (As := [.int 1]) (r := []) (v := none) (h' := q47) rfl rfl (by decide) rfl (Nat.le_of_ble_eq_true rfl) rfl (E_308 (Nat.le_trans (by decide) hd) e_q47) rfl ?_
          refine Ex.seg 2 (pc' := 547) (lc' := [some (.ref 67), some (.int y1), some (.int y2), some (.int y3), some (.int z0)]) (st' := [.int 7, .ref 67]) (h' := q47) (sg1 rfl rfl (sg1 rfl rfl rfl)) ?_
          obtain ⟨q48, e_q48, hf⟩ := bnd hf
          refine Ex.callV (a := 67) (As := [.int 7]) (r := []) (v := none) (h' := q48) rfl rfl (by decide) rfl (Nat.le_of_ble_eq_true rfl) rfl (E_309 (Nat.le_trans (by decide) hd) e_q48) rfl ?_
          refine Ex.seg 1 (pc' := 551) (lc' := [some (.ref 67), some (.int y1), some (.int y2), some (.int y3), some (.int z0)]) (st' := [.int 0]) (h' := q48) (sg1 rfl rfl rfl) ?_
          obtain rfl := Option.some.inj hf
          exact Ex.iret rfl rfl (fun c0 => by cases c0) hs
        · rw [if_pos (Classical.not_not.mp c0)] at hf
          exact Ex.weak (sm_le_n (sm_le_n (sm_le_n (sm_le_n (sm_le_n sm_le_nil))))) (B_335_537 hd  hf hs)
  rw [if_neg n9] at hf
  rcases Classical.em (y1 = 32) with n10 | n10
  · rw [if_pos n10] at hf
    refine Ex.swt (t := 552) rfl rfl (by rw [n10]; exact Or.inr ⟨by decide, by decide, _, rfl, by decide⟩) ?_
    refine Ex.seg 1 (pc' := 554) (lc' := [some (.ref 67), some (.int y1), some (.int y2), some (.int y3), some (.int z0)]) (st' := [.int z0]) (h' := h) (sg1 rfl rfl rfl) ?_
    refine Ex.ifc rfl rfl (fun (c0 : ¬ (z0 = 0)) => ?_) (fun (c0 : ¬ ¬ (z0 = 0)) => ?_)
    · rw [if_neg c0] at hf
      refine Ex.seg 2 (pc' := 561) (lc' := [some (.ref 67), some (.int y1), some (.int y2), some (.int y3), some (.int z0)]) (st' := [.int 1, .ref 67]) (h' := h) (sg1 rfl rfl (sg1 rfl rfl rfl)) ?_
      obtain ⟨q49, e_q49, hf⟩ := bnd hf
      refine Ex.callV (a := 67) (As := [.int 1]) (r := []) (v := none) (h' := q49) rfl rfl (by decide) rfl (Nat.le_of_ble_eq_true rfl) rfl (E_308 (Nat.le_trans (by decide) hd) e_q49) rfl ?_
      refine Ex.seg 2 (pc' := 567) (lc' := [some (.ref 67), some (.int y1), some (.int y2), some (.int y3), some (.int z0)]) (st' := [.int 7, .ref 67]) (h' := q49) (sg1 rfl rfl (sg1 rfl rfl rfl)) ?_
      obtain ⟨q50, e_q50, hf⟩ := bnd hf
      refine Ex.callV (a := 67) (As := [.int 7]) (r := []) (v := none) (h' := q50) rfl rfl (by decide) rfl (Nat.le_of_ble_eq_true rfl) rfl (E_309 (Nat.le_trans (by decide) hd) e_q50) rfl ?_
      refine Ex.seg 2 (pc' := 573) (lc' := [some (.ref 67), some (.int y1), some (.int y2), some (.int y3), some (.int z0)]) (st' := [.int 7, .ref 67]) (h' := q50) (sg1 rfl rfl (sg1 rfl rfl rfl)) ?_
      obtain ⟨q51, e_q51, hf⟩ := bnd hf
      refine Ex.callV (a := 67) (As := [.int 7]) (r := []) (v := none) (h' := q51) rfl rfl (by decide) rfl (Nat.le_of_ble_eq_true rfl) rfl (E_309 (Nat.le_trans (by decide) hd) e_q51) rfl ?_
      refine Ex.seg 1 (pc' := 577) (lc' := [some (.ref 67), some (.int y1), some (.int y2), some (.int y3), some (.int z0)]) (st' := [.int 0]) (h' := q51) (sg1 rfl rfl rfl) ?_
      obtain rfl := Option.some.inj hf
      exact Ex.iret rfl rfl (fun c0 => by cases c0) hs
    · rw [if_pos (Classical.not_not.mp c0)] at hf
      refine Ex.seg 1 (pc' := 558) (lc' := [some (.ref 67), some (.int y1), some (.int y2), some (.int y3), some (.int z0)]) (st' := [.int 1]) (h' := h) (sg1 rfl rfl rfl) ?_
      obtain rfl := Option.some.inj hf
      exact Ex.iret rfl rfl (fun c0 => by cases c0) hs
  rw [if_neg n10] at hf
  rcases Classical.em (y1 = 33) with n11 | n11
  · rw [if_pos n11] at hf
    refine Ex.swt (t := 578) rfl rfl (by rw [n11]; exact Or.inr ⟨by decide, by decide, _, rfl, by decide⟩) ?_
    refine Ex.seg 1 (pc' := 580) (lc' := [some (.ref 67), some (.int y1), some (.int y2), some (.int y3), some (.int z0)]) (st' := [.int z0]) (h' := h) (sg1 rfl rfl rfl) ?_
    refine Ex.ifc rfl rfl (fun (c0 : ¬ (z0 = 0)) => ?_) (fun (c0 : ¬ ¬ (z0 = 0)) => ?_)
    · rw [if_neg c0] at hf
      refine Ex.seg 2 (pc' := 587) (lc' := [some (.ref 67), some (.int y1), some (.int y2), some (.int y3), some (.int z0)]) (st' := [.int 5, .ref 67]) (h' := h) (sg1 rfl rfl (sg1 rfl rfl rfl)) ?_
      obtain ⟨q52, e_q52, hf⟩ := bnd hf
      refine Ex.callV (a := 67) (As := [.int 5]) (r := []) (v := none) (h' := q52) rfl rfl (by decide) rfl (Nat.le_of_ble_eq_true rfl) rfl (E_308 (Nat.le_trans (by decide) hd) e_q52) rfl ?_
      refine Ex.seg 2 (pc' := 593) (lc' := [some (.ref 67), some (.int y1), some (.int y2), some (.int y3), some (.int z0)]) (st' := [.int 19, .ref 67]) (h' := q52) (sg1 rfl rfl (sg1 rfl rfl rfl)) ?_
      obtain ⟨q53, e_q53, hf⟩ := bnd hf
      refine Ex.callV (a := 67) (As := [.int 19]) (r := []) (v := none) (h' := q53) rfl rfl (by decide) rfl (Nat.le_of_ble_eq_true rfl) rfl (E_309 (Nat.le_trans (by decide) hd) e_q53) rfl ?_
      refine Ex.seg 1 (pc' := 597) (lc' := [some (.ref 67), some (.int y1), some (.int y2), some (.int y3), some (.int z0)]) (st' := [.int 0]) (h' := q53) (sg1 rfl rfl rfl) ?_
      obtain rfl := Option.some.inj hf
      exact Ex.iret rfl rfl (fun c0 => by cases c0) hs
    · rw [if_pos (Classical.not_not.mp c0)] at hf
      refine Ex.seg 1 (pc' := 584) (lc' := [some (.ref 67), some (.int y1), some (.int y2), some (.int y3), some (.int z0)]) (st' := [.int 1]) (h' := h) (sg1 rfl rfl rfl) ?_
      obtain rfl := Option.some.inj hf
      exact Ex.iret rfl rfl (fun c0 => by cases c0) hs
  rw [if_neg n11] at hf
  refine Ex.swt (t := 598) rfl rfl (sw_dflt (by decide) (by decide) (fun k hk he => ?_)) ?_
  · have hk : k < 33 := hk
    rcases (show k = 0 ∨ k = 1 ∨ k = 2 ∨ k = 3 ∨ k = 4 ∨ k = 5 ∨ k = 6 ∨ k = 7 ∨ k = 8 ∨ k = 9 ∨ k = 10 ∨ k = 11 ∨ k = 12 ∨ k = 13 ∨ k = 14 ∨ k = 15 ∨ k = 16 ∨ k = 17 ∨ k = 18 ∨ k = 19 ∨ k = 20 ∨ k = 21 ∨ k = 22 ∨ k = 23 ∨ k = 24 ∨ k = 25 ∨ k = 26 ∨ k = 27 ∨ k = 28 ∨ k = 29 ∨ k = 30 ∨ k = 31 ∨ k = 32 by omega) with rfl | rfl | rfl | rfl | rfl | rfl | rfl | rfl | rfl | rfl | rfl | rfl | rfl | rfl | rfl | rfl | rfl | rfl | rfl | rfl | rfl | rfl | rfl | rfl | rfl | rfl | rfl | rfl | rfl | rfl | rfl | rfl | rfl
    · exact absurd (Int32.toInt_inj.mp (he.symm.trans (by decide : (_ : Int) = Int32.toInt 1))) n1
    · exact absurd (Int32.toInt_inj.mp (he.symm.trans (by decide : (_ : Int) = Int32.toInt 2))) n2
    · exact absurd (Int32.toInt_inj.mp (he.symm.trans (by decide : (_ : Int) = Int32.toInt 3))) n3
    · rfl
    · rfl
    · rfl
    · rfl
    · rfl
    · rfl
    · rfl
    · rfl
    · rfl
    · rfl
    · rfl
    · rfl
    · rfl
    · rfl
    · rfl
    · exact absurd (Int32.toInt_inj.mp (he.symm.trans (by decide : (_ : Int) = Int32.toInt 19))) n4
    · rfl
    · rfl
    · rfl
    · rfl
    · rfl
    · rfl
    · rfl
    · exact absurd (Int32.toInt_inj.mp (he.symm.trans (by decide : (_ : Int) = Int32.toInt 27))) n5
    · exact absurd (Int32.toInt_inj.mp (he.symm.trans (by decide : (_ : Int) = Int32.toInt 28))) n6
    · exact absurd (Int32.toInt_inj.mp (he.symm.trans (by decide : (_ : Int) = Int32.toInt 29))) n7
    · exact absurd (Int32.toInt_inj.mp (he.symm.trans (by decide : (_ : Int) = Int32.toInt 30))) n8
    · exact absurd (Int32.toInt_inj.mp (he.symm.trans (by decide : (_ : Int) = Int32.toInt 31))) n9
    · exact absurd (Int32.toInt_inj.mp (he.symm.trans (by decide : (_ : Int) = Int32.toInt 32))) n10
    · exact absurd (Int32.toInt_inj.mp (he.symm.trans (by decide : (_ : Int) = Int32.toInt 33))) n11
  exact Ex.weak (sm_le_s (sm_le_n (sm_le_n (sm_le_s (sm_le_s sm_le_nil))))) (B_335_598 hd  hf hs)
theorem B_335_0 {L : Nat} {xs : Nat → Int32} {d : Nat} (hd : 2 ≤ d) {res : Option Value × sm_H} {x1 : Int32} {x2 : Int32} {x3 : Int32}  {h : sm_H} {r : (Int32 × sm_H)} (hf : F_335_0 x1 x2 x3 h = some r) (hs : (fun (r : Int32 × sm_H) => res = (some (.int r.1), r.2)) r) : Ex (P_G L xs) (RUN L xs d) (sm_lk P_t335) 0 0 [some (.ref 67), some (.int x1), some (.int x2), some (.int x3), none] [] h res := by
  unfold F_335_0 at hf
  refine Ex.seg 2 (pc' := 4) (lc' := [some (.ref 67), some (.int x1), some (.int x2), some (.int x3), none]) (st' := [.int (h.1 67 3)]) (h' := h) (sg1 rfl rfl (sg1 rfl rfl rfl)) ?_
  refine Ex.ifc rfl rfl (fun (c0 : ¬ ((h.1 67 3) = 0)) => ?_) (fun (c0 : ¬ ¬ ((h.1 67 3) = 0)) => ?_)
  · rw [if_neg c0] at hf
    refine Ex.seg 1 (pc' := 12) (lc' := [some (.ref 67), some (.int x1), some (.int x2), some (.int x3), none]) (st' := [.int 0]) (h' := h) (sg1 rfl rfl rfl) ?_
    exact Ex.weak (sm_le_s (sm_le_s (sm_le_s (sm_le_s (sm_le_s sm_le_nil))))) (B_335_12 hd  hf hs)
  · rw [if_pos (Classical.not_not.mp c0)] at hf
    refine Ex.seg 2 (pc' := 12) (lc' := [some (.ref 67), some (.int x1), some (.int x2), some (.int x3), none]) (st' := [.int 1]) (h' := h) (sg1 rfl rfl (sg1 rfl rfl rfl)) ?_
    exact Ex.weak (sm_le_s (sm_le_s (sm_le_s (sm_le_s (sm_le_s sm_le_nil))))) (B_335_12 hd  hf hs)
theorem E_335 {L : Nat} {xs : Nat → Int32} {d : Nat} (hd : 3 ≤ d) {x1 : Int32} {x2 : Int32} {x3 : Int32} {h : sm_H} {r : Int32 × sm_H} (hf : F_335 x1 x2 x3 h = some r) : RUN L xs d 335 [.ref 67, .int x1, .int x2, .int x3] h (some (.int r.1), r.2) := by
  obtain ⟨d, rfl⟩ : ∃ e, d = e + 1 := ⟨d - 1, by omega⟩
  exact ⟨Nat.le_of_ble_eq_true rfl, B_335_0 (by omega) hf rfl⟩
