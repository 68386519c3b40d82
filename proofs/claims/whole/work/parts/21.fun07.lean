theorem B_421_0 {L : Nat} {xs : Nat → Int32} {d : Nat} (hd : 1 ≤ d) {res : Option Value × sm_H}   {h : sm_H} {r : (Int32 × sm_H)} (hf : F_421_0  h = some r) (hs : (fun (r : Int32 × sm_H) => res = (some (.int r.1), r.2)) r) : Ex (P_G L xs) (RUN L xs d) (sm_lk P_t421) 3 0 [some (.ref 67)] [] h res := by
  unfold F_421_0 at hf
  refine Ex.seg 4 (pc' := 6) (lc' := [some (.ref 67)]) (st' := [.int (h.1 67 81), .int 4, .ref 67]) (h' := h) (sg1 rfl rfl (sg1 rfl rfl (sg1 rfl rfl (sg1 rfl rfl rfl)))) ?_
  obtain ⟨q1, e_q1, hf⟩ := bnd hf
  refine Ex.callV (a := 67) (As := [.int 4, .int (h.1 67 81)]) (r := []) (v := some (.int q1.1)) (h' := q1.2) rfl rfl (by decide) rfl (Nat.le_of_ble_eq_true rfl) rfl (E_413 (Nat.le_trans (by decide) hd) e_q1) rfl ?_
  rcases Classical.em (q1.1 = 0 ∨ q1.1 = 1) with c0 | c0
  · rw [if_pos c0] at hf
    obtain rfl := Option.some.inj hf
    exact Ex.iret rfl rfl (fun _ => c0) hs
  · rw [if_neg c0] at hf
    cases hf
theorem E_421 {L : Nat} {xs : Nat → Int32} {d : Nat} (hd : 2 ≤ d)  {h : sm_H} {r : Int32 × sm_H} (hf : F_421  h = some r) : RUN L xs d 421 [.ref 67] h (some (.int r.1), r.2) := by
  obtain ⟨d, rfl⟩ : ∃ e, d = e + 1 := ⟨d - 1, by omega⟩
  exact ⟨Nat.le_of_ble_eq_true rfl, B_421_0 (by omega) hf rfl⟩
theorem B_422_373 {L : Nat} {xs : Nat → Int32} {d : Nat} (hd : 1 ≤ d) {res : Option Value × sm_H}   {h : sm_H} {r : (Int32 × sm_H)} (hf : F_422_373  h = some r) (hs : (fun (r : Int32 × sm_H) => res = (some (.int r.1), r.2)) r) : Ex (P_G L xs) (RUN L xs d) (sm_lk P_t422) 0 373 [none, none, none, none, none] [] h res := by
  unfold F_422_373 at hf
  refine Ex.seg 1 (pc' := 374) (lc' := [none, none, none, none, none]) (st' := [.int (-1)]) (h' := h) (sg1 rfl rfl rfl) ?_
  obtain rfl := Option.some.inj hf
  exact Ex.iret rfl rfl (fun c0 => by cases c0) hs
theorem B_422_372 {L : Nat} {xs : Nat → Int32} {d : Nat} (hd : 1 ≤ d) {res : Option Value × sm_H} {z0 : Int32}  {h : sm_H} {r : (Int32 × sm_H)} (hf : F_422_372 z0 h = some r) (hs : (fun (r : Int32 × sm_H) => res = (some (.int r.1), r.2)) r) : Ex (P_G L xs) (RUN L xs d) (sm_lk P_t422) 0 372 [none, none, none, none, none] [.int z0] h res := by
  unfold F_422_372 at hf
  obtain rfl := Option.some.inj hf
  exact Ex.iret rfl rfl (fun c0 => by cases c0) hs
theorem B_422_345 {L : Nat} {xs : Nat → Int32} {d : Nat} (hd : 1 ≤ d) {res : Option Value × sm_H} {y4 : Int32}  {h : sm_H} {r : (Int32 × sm_H)} (hf : F_422_345 y4 h = some r) (hs : (fun (r : Int32 × sm_H) => res = (some (.int r.1), r.2)) r) : Ex (P_G L xs) (RUN L xs d) (sm_lk P_t422) 0 345 [some (.ref 67), none, none, none, some (.int y4)] [] h res := by
  unfold F_422_345 at hf
  refine Ex.seg 7 (pc' := 357) (lc' := [some (.ref 67), none, none, none, some (.int y4)]) (st' := [.int (h.1 67 6), .int ((y4 - 48) + 10)]) (h' := h) (sg1 rfl rfl (sg1 rfl rfl (sg1 rfl rfl (sg1 rfl rfl (sg1 rfl rfl (sg1 rfl rfl (sg1 rfl rfl rfl))))))) ?_
  refine Ex.icmp rfl rfl (fun (c0 : (h.1 67 6) ≤ ((y4 - 48) + 10)) => ?_) (fun (c0 : ¬ ((h.1 67 6) ≤ ((y4 - 48) + 10))) => ?_)
  · rw [if_pos c0] at hf
    refine Ex.seg 1 (pc' := 372) (lc' := [some (.ref 67), none, none, none, some (.int y4)]) (st' := [.int (-1)]) (h' := h) (sg1 rfl rfl rfl) ?_
    exact Ex.weak (sm_le_n (sm_le_s (sm_le_s (sm_le_s (sm_le_n sm_le_nil))))) (B_422_372 hd  hf hs)
  · rw [if_neg c0] at hf
    refine Ex.seg 6 (pc' := 372) (lc' := [some (.ref 67), none, none, none, some (.int y4)]) (st' := [.int ((30 + y4) - 48)]) (h' := h) (sg1 rfl rfl (sg1 rfl rfl (sg1 rfl rfl (sg1 rfl rfl (sg1 rfl rfl (sg1 rfl rfl rfl)))))) ?_
    exact Ex.weak (sm_le_n (sm_le_s (sm_le_s (sm_le_s (sm_le_n sm_le_nil))))) (B_422_372 hd  hf hs)
theorem B_422_316 {L : Nat} {xs : Nat → Int32} {d : Nat} (hd : 1 ≤ d) {res : Option Value × sm_H} {y1 : Int64} {y3 : Int32} {y4 : Int32}  {h : sm_H} {r : (Int32 × sm_H)} (hf : F_422_316 y1 y3 y4 h = some r) (hs : (fun (r : Int32 × sm_H) => res = (some (.int r.1), r.2)) r) : Ex (P_G L xs) (RUN L xs d) (sm_lk P_t422) 0 316 [some (.ref 67), some (.long y1), none, some (.int y3), some (.int y4)] [] h res := by
  unfold F_422_316 at hf
  refine Ex.seg 3 (pc' := 321) (lc' := [some (.ref 67), some (.long y1), none, some (.int y3), some (.int y4)]) (st' := [.int (lg_cmp y1 16777216)]) (h' := h) (sg1 rfl rfl (sg1 rfl rfl (sg1 rfl rfl rfl))) ?_
  refine Ex.ifc rfl rfl (fun (c0 : 0 ≤ (lg_cmp y1 16777216)) => ?_) (fun (c0 : ¬ (0 ≤ (lg_cmp y1 16777216))) => ?_)
  · rw [if_pos c0] at hf
    exact Ex.weak (sm_le_n (sm_le_n (sm_le_s (sm_le_n (sm_le_n sm_le_nil))))) (B_422_373 hd  hf hs)
  · rw [if_neg c0] at hf
    refine Ex.seg 2 (pc' := 328) (lc' := [some (.ref 67), some (.long y1), none, some (.int y3), some (.int y4)]) (st' := [.int 27441, .int y3]) (h' := h) (sg1 rfl rfl (sg1 rfl rfl rfl)) ?_
    refine Ex.icmp rfl rfl (fun (c0 : ¬ (y3 = 27441)) => ?_) (fun (c0 : ¬ ¬ (y3 = 27441)) => ?_)
    · rw [if_neg c0] at hf
      exact Ex.weak (sm_le_n (sm_le_n (sm_le_s (sm_le_n (sm_le_n sm_le_nil))))) (B_422_373 hd  hf hs)
    · rw [if_pos (Classical.not_not.mp c0)] at hf
      refine Ex.seg 2 (pc' := 335) (lc' := [some (.ref 67), some (.long y1), none, some (.int y3), some (.int y4)]) (st' := [.int 48, .int y4]) (h' := h) (sg1 rfl rfl (sg1 rfl rfl rfl)) ?_
      refine Ex.icmp rfl rfl (fun (c0 : y4 = 48) => ?_) (fun (c0 : ¬ (y4 = 48)) => ?_)
      · rw [if_pos c0] at hf
        exact Ex.weak (sm_le_s (sm_le_n (sm_le_s (sm_le_n (sm_le_s sm_le_nil))))) (B_422_345 hd  hf hs)
      · rw [if_neg c0] at hf
        refine Ex.seg 2 (pc' := 342) (lc' := [some (.ref 67), some (.long y1), none, some (.int y3), some (.int y4)]) (st' := [.int 49, .int y4]) (h' := h) (sg1 rfl rfl (sg1 rfl rfl rfl)) ?_
        refine Ex.icmp rfl rfl (fun (c0 : ¬ (y4 = 49)) => ?_) (fun (c0 : ¬ ¬ (y4 = 49)) => ?_)
        · rw [if_neg c0] at hf
          exact Ex.weak (sm_le_n (sm_le_n (sm_le_s (sm_le_n (sm_le_n sm_le_nil))))) (B_422_373 hd  hf hs)
        · rw [if_pos (Classical.not_not.mp c0)] at hf
          exact Ex.weak (sm_le_s (sm_le_n (sm_le_s (sm_le_n (sm_le_s sm_le_nil))))) (B_422_345 hd  hf hs)
theorem B_422_315 {L : Nat} {xs : Nat → Int32} {d : Nat} (hd : 1 ≤ d) {res : Option Value × sm_H} {z0 : Int32}  {h : sm_H} {r : (Int32 × sm_H)} (hf : F_422_315 z0 h = some r) (hs : (fun (r : Int32 × sm_H) => res = (some (.int r.1), r.2)) r) : Ex (P_G L xs) (RUN L xs d) (sm_lk P_t422) 0 315 [none, none, none, none, none] [.int z0] h res := by
  unfold F_422_315 at hf
  obtain rfl := Option.some.inj hf
  exact Ex.iret rfl rfl (fun c0 => by cases c0) hs
theorem B_422_269 {L : Nat} {xs : Nat → Int32} {d : Nat} (hd : 1 ≤ d) {res : Option Value × sm_H} {y1 : Int64} {y3 : Int32} {y4 : Int32}  {h : sm_H} {r : (Int32 × sm_H)} (hf : F_422_269 y1 y3 y4 h = some r) (hs : (fun (r : Int32 × sm_H) => res = (some (.int r.1), r.2)) r) : Ex (P_G L xs) (RUN L xs d) (sm_lk P_t422) 0 269 [some (.ref 67), some (.long y1), none, some (.int y3), some (.int y4)] [] h res := by
  unfold F_422_269 at hf
  refine Ex.seg 3 (pc' := 274) (lc' := [some (.ref 67), some (.long y1), none, some (.int y3), some (.int y4)]) (st' := [.int (lg_cmp y1 65536)]) (h' := h) (sg1 rfl rfl (sg1 rfl rfl (sg1 rfl rfl rfl))) ?_
  refine Ex.ifc rfl rfl (fun (c0 : 0 ≤ (lg_cmp y1 65536)) => ?_) (fun (c0 : ¬ (0 ≤ (lg_cmp y1 65536))) => ?_)
  · rw [if_pos c0] at hf
    exact Ex.weak (sm_le_s (sm_le_s (sm_le_s (sm_le_s (sm_le_s sm_le_nil))))) (B_422_316 hd  hf hs)
  · rw [if_neg c0] at hf
    refine Ex.seg 2 (pc' := 280) (lc' := [some (.ref 67), some (.long y1), none, some (.int y3), some (.int y4)]) (st' := [.int 107, .int y3]) (h' := h) (sg1 rfl rfl (sg1 rfl rfl rfl)) ?_
    refine Ex.icmp rfl rfl (fun (c0 : ¬ (y3 = 107)) => ?_) (fun (c0 : ¬ ¬ (y3 = 107)) => ?_)
    · rw [if_neg c0] at hf
      exact Ex.weak (sm_le_s (sm_le_s (sm_le_s (sm_le_s (sm_le_s sm_le_nil))))) (B_422_316 hd  hf hs)
    · rw [if_pos (Classical.not_not.mp c0)] at hf
      refine Ex.seg 1 (pc' := 285) (lc' := [some (.ref 67), some (.long y1), none, some (.int y3), some (.int y4)]) (st' := [.int y4]) (h' := h) (sg1 rfl rfl rfl) ?_
      obtain ⟨q1, e_q1, hf⟩ := bnd hf
      refine Ex.callS (As := [.int y4]) (r := []) (v := some (.int q1.1)) (h' := q1.2) rfl rfl rfl rfl (Nat.le_of_ble_eq_true rfl) (E_416 (Nat.le_trans (by decide) hd) e_q1) rfl ?_
      refine Ex.ifc rfl rfl (fun (c0 : q1.1 = 0) => ?_) (fun (c0 : ¬ (q1.1 = 0)) => ?_)
      · rw [if_pos c0] at hf
        exact Ex.weak (sm_le_s (sm_le_s (sm_le_s (sm_le_s (sm_le_s sm_le_nil))))) (B_422_316 hd  hf hs)
      · rw [if_neg c0] at hf
        refine Ex.seg 5 (pc' := 300) (lc' := [some (.ref 67), some (.long y1), none, some (.int y3), some (.int y4)]) (st' := [.int (q1.2.1 67 6), .int (y4 - 48)]) (h' := q1.2) (sg1 rfl rfl (sg1 rfl rfl (sg1 rfl rfl (sg1 rfl rfl (sg1 rfl rfl rfl))))) ?_
        refine Ex.icmp rfl rfl (fun (c0 : (q1.2.1 67 6) ≤ (y4 - 48)) => ?_) (fun (c0 : ¬ ((q1.2.1 67 6) ≤ (y4 - 48))) => ?_)
        · rw [if_pos c0] at hf
          refine Ex.seg 1 (pc' := 315) (lc' := [some (.ref 67), some (.long y1), none, some (.int y3), some (.int y4)]) (st' := [.int (-1)]) (h' := q1.2) (sg1 rfl rfl rfl) ?_
          exact Ex.weak (sm_le_n (sm_le_n (sm_le_s (sm_le_n (sm_le_n sm_le_nil))))) (B_422_315 hd  hf hs)
        · rw [if_neg c0] at hf
          refine Ex.seg 6 (pc' := 315) (lc' := [some (.ref 67), some (.long y1), none, some (.int y3), some (.int y4)]) (st' := [.int ((20 + y4) - 48)]) (h' := q1.2) (sg1 rfl rfl (sg1 rfl rfl (sg1 rfl rfl (sg1 rfl rfl (sg1 rfl rfl (sg1 rfl rfl rfl)))))) ?_
          exact Ex.weak (sm_le_n (sm_le_n (sm_le_s (sm_le_n (sm_le_n sm_le_nil))))) (B_422_315 hd  hf hs)
theorem B_422_268 {L : Nat} {xs : Nat → Int32} {d : Nat} (hd : 1 ≤ d) {res : Option Value × sm_H} {z0 : Int32}  {h : sm_H} {r : (Int32 × sm_H)} (hf : F_422_268 z0 h = some r) (hs : (fun (r : Int32 × sm_H) => res = (some (.int r.1), r.2)) r) : Ex (P_G L xs) (RUN L xs d) (sm_lk P_t422) 0 268 [none, none, none, none, none] [.int z0] h res := by
  unfold F_422_268 at hf
  obtain rfl := Option.some.inj hf
  exact Ex.iret rfl rfl (fun c0 => by cases c0) hs
theorem B_422_217 {L : Nat} {xs : Nat → Int32} {d : Nat} (hd : 1 ≤ d) {res : Option Value × sm_H} {y1 : Int64} {y3 : Int32} {y4 : Int32}  {h : sm_H} {r : (Int32 × sm_H)} (hf : F_422_217 y1 y3 y4 h = some r) (hs : (fun (r : Int32 × sm_H) => res = (some (.int r.1), r.2)) r) : Ex (P_G L xs) (RUN L xs d) (sm_lk P_t422) 0 217 [some (.ref 67), some (.long y1), none, some (.int y3), some (.int y4)] [] h res := by
  unfold F_422_217 at hf
  refine Ex.seg 3 (pc' := 222) (lc' := [some (.ref 67), some (.long y1), none, some (.int y3), some (.int y4)]) (st' := [.int (lg_cmp y1 65536)]) (h' := h) (sg1 rfl rfl (sg1 rfl rfl (sg1 rfl rfl rfl))) ?_
  refine Ex.ifc rfl rfl (fun (c0 : 0 ≤ (lg_cmp y1 65536)) => ?_) (fun (c0 : ¬ (0 ≤ (lg_cmp y1 65536))) => ?_)
  · rw [if_pos c0] at hf
    exact Ex.weak (sm_le_s (sm_le_s (sm_le_s (sm_le_s (sm_le_s sm_le_nil))))) (B_422_269 hd  hf hs)
  · rw [if_neg c0] at hf
    refine Ex.seg 2 (pc' := 228) (lc' := [some (.ref 67), some (.long y1), none, some (.int y3), some (.int y4)]) (st' := [.int 120, .int y3]) (h' := h) (sg1 rfl rfl (sg1 rfl rfl rfl)) ?_
    refine Ex.icmp rfl rfl (fun (c0 : ¬ (y3 = 120)) => ?_) (fun (c0 : ¬ ¬ (y3 = 120)) => ?_)
    · rw [if_neg c0] at hf
      exact Ex.weak (sm_le_s (sm_le_s (sm_le_s (sm_le_s (sm_le_s sm_le_nil))))) (B_422_269 hd  hf hs)
    · rw [if_pos (Classical.not_not.mp c0)] at hf
      refine Ex.seg 2 (pc' := 235) (lc' := [some (.ref 67), some (.long y1), none, some (.int y3), some (.int y4)]) (st' := [.int 105, .int y4]) (h' := h) (sg1 rfl rfl (sg1 rfl rfl rfl)) ?_
      refine Ex.icmp rfl rfl (fun (c0 : ¬ (y4 = 105)) => ?_) (fun (c0 : ¬ ¬ (y4 = 105)) => ?_)
      · rw [if_neg c0] at hf
        refine Ex.seg 2 (pc' := 247) (lc' := [some (.ref 67), some (.long y1), none, some (.int y3), some (.int y4)]) (st' := [.int 106, .int y4]) (h' := h) (sg1 rfl rfl (sg1 rfl rfl rfl)) ?_
        refine Ex.icmp rfl rfl (fun (c0 : ¬ (y4 = 106)) => ?_) (fun (c0 : ¬ ¬ (y4 = 106)) => ?_)
        · rw [if_neg c0] at hf
          refine Ex.seg 2 (pc' := 259) (lc' := [some (.ref 67), some (.long y1), none, some (.int y3), some (.int y4)]) (st' := [.int 111, .int y4]) (h' := h) (sg1 rfl rfl (sg1 rfl rfl rfl)) ?_
          refine Ex.icmp rfl rfl (fun (c0 : ¬ (y4 = 111)) => ?_) (fun (c0 : ¬ ¬ (y4 = 111)) => ?_)
          · rw [if_neg c0] at hf
            refine Ex.seg 1 (pc' := 268) (lc' := [some (.ref 67), some (.long y1), none, some (.int y3), some (.int y4)]) (st' := [.int (-1)]) (h' := h) (sg1 rfl rfl rfl) ?_
            exact Ex.weak (sm_le_n (sm_le_n (sm_le_s (sm_le_n (sm_le_n sm_le_nil))))) (B_422_268 hd  hf hs)
          · rw [if_pos (Classical.not_not.mp c0)] at hf
            refine Ex.seg 2 (pc' := 268) (lc' := [some (.ref 67), some (.long y1), none, some (.int y3), some (.int y4)]) (st' := [.int 17]) (h' := h) (sg1 rfl rfl (sg1 rfl rfl rfl)) ?_
            exact Ex.weak (sm_le_n (sm_le_n (sm_le_s (sm_le_n (sm_le_n sm_le_nil))))) (B_422_268 hd  hf hs)
        · rw [if_pos (Classical.not_not.mp c0)] at hf
          refine Ex.seg 2 (pc' := 268) (lc' := [some (.ref 67), some (.long y1), none, some (.int y3), some (.int y4)]) (st' := [.int 16]) (h' := h) (sg1 rfl rfl (sg1 rfl rfl rfl)) ?_
          exact Ex.weak (sm_le_n (sm_le_n (sm_le_s (sm_le_n (sm_le_n sm_le_nil))))) (B_422_268 hd  hf hs)
      · rw [if_pos (Classical.not_not.mp c0)] at hf
        refine Ex.seg 2 (pc' := 268) (lc' := [some (.ref 67), some (.long y1), none, some (.int y3), some (.int y4)]) (st' := [.int 15]) (h' := h) (sg1 rfl rfl (sg1 rfl rfl rfl)) ?_
        exact Ex.weak (sm_le_n (sm_le_n (sm_le_s (sm_le_n (sm_le_n sm_le_nil))))) (B_422_268 hd  hf hs)
theorem B_422_216 {L : Nat} {xs : Nat → Int32} {d : Nat} (hd : 1 ≤ d) {res : Option Value × sm_H} {z0 : Int32}  {h : sm_H} {r : (Int32 × sm_H)} (hf : F_422_216 z0 h = some r) (hs : (fun (r : Int32 × sm_H) => res = (some (.int r.1), r.2)) r) : Ex (P_G L xs) (RUN L xs d) (sm_lk P_t422) 0 216 [none, none, none, none, none] [.int z0] h res := by
  unfold F_422_216 at hf
  obtain rfl := Option.some.inj hf
  exact Ex.iret rfl rfl (fun c0 => by cases c0) hs
theorem B_422_0 {L : Nat} {xs : Nat → Int32} {d : Nat} (hd : 1 ≤ d) {res : Option Value × sm_H} {x1 : Int64}  {h : sm_H} {r : (Int32 × sm_H)} (hf : F_422_0 x1 h = some r) (hs : (fun (r : Int32 × sm_H) => res = (some (.int r.1), r.2)) r) : Ex (P_G L xs) (RUN L xs d) (sm_lk P_t422) 0 0 [some (.ref 67), some (.long x1), none, none, none] [] h res := by
  unfold F_422_0 at hf
  refine Ex.seg 3 (pc' := 5) (lc' := [some (.ref 67), some (.long x1), none, none, none]) (st' := [.int (lg_cmp x1 118)]) (h' := h) (sg1 rfl rfl (sg1 rfl rfl (sg1 rfl rfl rfl))) ?_
  refine Ex.ifc rfl rfl (fun (c0 : ¬ ((lg_cmp x1 118) = 0)) => ?_) (fun (c0 : ¬ ¬ ((lg_cmp x1 118) = 0)) => ?_)
  · rw [if_neg c0] at hf
    refine Ex.seg 3 (pc' := 15) (lc' := [some (.ref 67), some (.long x1), none, none, none]) (st' := [.int (lg_cmp x1 122)]) (h' := h) (sg1 rfl rfl (sg1 rfl rfl (sg1 rfl rfl rfl))) ?_
    refine Ex.ifc rfl rfl (fun (c0 : ¬ ((lg_cmp x1 122) = 0)) => ?_) (fun (c0 : ¬ ¬ ((lg_cmp x1 122) = 0)) => ?_)
    · rw [if_neg c0] at hf
      refine Ex.seg 3 (pc' := 25) (lc' := [some (.ref 67), some (.long x1), none, none, none]) (st' := [.int (lg_cmp x1 98)]) (h' := h) (sg1 rfl rfl (sg1 rfl rfl (sg1 rfl rfl rfl))) ?_
      refine Ex.ifc rfl rfl (fun (c0 : ¬ ((lg_cmp x1 98) = 0)) => ?_) (fun (c0 : ¬ ¬ ((lg_cmp x1 98) = 0)) => ?_)
      · rw [if_neg c0] at hf
        refine Ex.seg 3 (pc' := 35) (lc' := [some (.ref 67), some (.long x1), none, none, none]) (st' := [.int (lg_cmp x1 115)]) (h' := h) (sg1 rfl rfl (sg1 rfl rfl (sg1 rfl rfl rfl))) ?_
        refine Ex.ifc rfl rfl (fun (c0 : ¬ ((lg_cmp x1 115) = 0)) => ?_) (fun (c0 : ¬ ¬ ((lg_cmp x1 115) = 0)) => ?_)
        · rw [if_neg c0] at hf
          refine Ex.seg 3 (pc' := 45) (lc' := [some (.ref 67), some (.long x1), none, none, none]) (st' := [.int (lg_cmp x1 99)]) (h' := h) (sg1 rfl rfl (sg1 rfl rfl (sg1 rfl rfl rfl))) ?_
          refine Ex.ifc rfl rfl (fun (c0 : ¬ ((lg_cmp x1 99) = 0)) => ?_) (fun (c0 : ¬ ¬ ((lg_cmp x1 99) = 0)) => ?_)
          · rw [if_neg c0] at hf
            refine Ex.seg 3 (pc' := 55) (lc' := [some (.ref 67), some (.long x1), none, none, none]) (st' := [.int (lg_cmp x1 105)]) (h' := h) (sg1 rfl rfl (sg1 rfl rfl (sg1 rfl rfl rfl))) ?_
            refine Ex.ifc rfl rfl (fun (c0 : ¬ ((lg_cmp x1 105) = 0)) => ?_) (fun (c0 : ¬ ¬ ((lg_cmp x1 105) = 0)) => ?_)
            · rw [if_neg c0] at hf
              refine Ex.seg 3 (pc' := 65) (lc' := [some (.ref 67), some (.long x1), none, none, none]) (st' := [.int (lg_cmp x1 106)]) (h' := h) (sg1 rfl rfl (sg1 rfl rfl (sg1 rfl rfl rfl))) ?_
              refine Ex.ifc rfl rfl (fun (c0 : ¬ ((lg_cmp x1 106) = 0)) => ?_) (fun (c0 : ¬ ¬ ((lg_cmp x1 106) = 0)) => ?_)
              · rw [if_neg c0] at hf
                refine Ex.seg 3 (pc' := 76) (lc' := [some (.ref 67), some (.long x1), none, none, none]) (st' := [.int (lg_cmp x1 111)]) (h' := h) (sg1 rfl rfl (sg1 rfl rfl (sg1 rfl rfl rfl))) ?_
                refine Ex.ifc rfl rfl (fun (c0 : ¬ ((lg_cmp x1 111) = 0)) => ?_) (fun (c0 : ¬ ¬ ((lg_cmp x1 111) = 0)) => ?_)
                · rw [if_neg c0] at hf
                  refine Ex.seg 3 (pc' := 87) (lc' := [some (.ref 67), some (.long x1), none, none, none]) (st' := [.int (lg_cmp x1 110)]) (h' := h) (sg1 rfl rfl (sg1 rfl rfl (sg1 rfl rfl rfl))) ?_
                  refine Ex.ifc rfl rfl (fun (c0 : ¬ ((lg_cmp x1 110) = 0)) => ?_) (fun (c0 : ¬ ¬ ((lg_cmp x1 110) = 0)) => ?_)
                  · rw [if_neg c0] at hf
                    refine Ex.seg 3 (pc' := 98) (lc' := [some (.ref 67), some (.long x1), none, none, none]) (st' := [.int (lg_cmp x1 104)]) (h' := h) (sg1 rfl rfl (sg1 rfl rfl (sg1 rfl rfl rfl))) ?_
                    refine Ex.ifc rfl rfl (fun (c0 : ¬ ((lg_cmp x1 104) = 0)) => ?_) (fun (c0 : ¬ ¬ ((lg_cmp x1 104) = 0)) => ?_)
                    · rw [if_neg c0] at hf
                      refine Ex.seg 3 (pc' := 109) (lc' := [some (.ref 67), some (.long x1), none, none, none]) (st' := [.int (lg_cmp x1 101)]) (h' := h) (sg1 rfl rfl (sg1 rfl rfl (sg1 rfl rfl rfl))) ?_
                      refine Ex.ifc rfl rfl (fun (c0 : ¬ ((lg_cmp x1 101) = 0)) => ?_) (fun (c0 : ¬ ¬ ((lg_cmp x1 101) = 0)) => ?_)
                      · rw [if_neg c0] at hf
                        refine Ex.seg 5 (pc' := 121) (lc' := [some (.ref 67), some (.long x1), none, some (.int (Int64.toInt32 (x1 >>> (Int32.toInt64 8 &&& 63)))), none]) (st' := []) (h' := h) (sg1 rfl rfl (sg1 rfl rfl (sg1 rfl rfl (sg1 rfl rfl (sg1 rfl rfl rfl))))) ?_
                        obtain ⟨v2, e_v2, hf⟩ := bnd hf
                        rw [Option.some.inj e_v2]
                        refine Ex.seg 5 (pc' := 129) (lc' := [some (.ref 67), some (.long x1), none, some (.int v2), some (.int (Int64.toInt32 (x1 &&& 255)))]) (st' := []) (h' := h) (sg1 rfl rfl (sg1 rfl rfl (sg1 rfl rfl (sg1 rfl rfl (sg1 rfl rfl rfl))))) ?_
                        obtain ⟨v3, e_v3, hf⟩ := bnd hf
                        rw [Option.some.inj e_v3]
                        refine Ex.seg 3 (pc' := 134) (lc' := [some (.ref 67), some (.long x1), none, some (.int v2), some (.int v3)]) (st' := [.int (lg_cmp x1 65536)]) (h' := h) (sg1 rfl rfl (sg1 rfl rfl (sg1 rfl rfl rfl))) ?_
                        refine Ex.ifc rfl rfl (fun (c0 : 0 ≤ (lg_cmp x1 65536)) => ?_) (fun (c0 : ¬ (0 ≤ (lg_cmp x1 65536))) => ?_)
                        · rw [if_pos c0] at hf
                          exact Ex.weak (sm_le_s (sm_le_s (sm_le_s (sm_le_s (sm_le_s sm_le_nil))))) (B_422_217 hd  hf hs)
                        · rw [if_neg c0] at hf
                          refine Ex.seg 2 (pc' := 140) (lc' := [some (.ref 67), some (.long x1), none, some (.int v2), some (.int v3)]) (st' := [.int 111, .int v2]) (h' := h) (sg1 rfl rfl (sg1 rfl rfl rfl)) ?_
                          refine Ex.icmp rfl rfl (fun (c0 : ¬ (v2 = 111)) => ?_) (fun (c0 : ¬ ¬ (v2 = 111)) => ?_)
                          · rw [if_neg c0] at hf
                            exact Ex.weak (sm_le_s (sm_le_s (sm_le_s (sm_le_s (sm_le_s sm_le_nil))))) (B_422_217 hd  hf hs)
                          · rw [if_pos (Classical.not_not.mp c0)] at hf
                            refine Ex.seg 2 (pc' := 147) (lc' := [some (.ref 67), some (.long x1), none, some (.int v2), some (.int v3)]) (st' := [.int 122, .int v3]) (h' := h) (sg1 rfl rfl (sg1 rfl rfl rfl)) ?_
                            refine Ex.icmp rfl rfl (fun (c0 : ¬ (v3 = 122)) => ?_) (fun (c0 : ¬ ¬ (v3 = 122)) => ?_)
                            · rw [if_neg c0] at hf
                              refine Ex.seg 2 (pc' := 159) (lc' := [some (.ref 67), some (.long x1), none, some (.int v2), some (.int v3)]) (st' := [.int 98, .int v3]) (h' := h) (sg1 rfl rfl (sg1 rfl rfl rfl)) ?_
                              refine Ex.icmp rfl rfl (fun (c0 : ¬ (v3 = 98)) => ?_) (fun (c0 : ¬ ¬ (v3 = 98)) => ?_)
                              · rw [if_neg c0] at hf
                                refine Ex.seg 2 (pc' := 171) (lc' := [some (.ref 67), some (.long x1), none, some (.int v2), some (.int v3)]) (st' := [.int 115, .int v3]) (h' := h) (sg1 rfl rfl (sg1 rfl rfl rfl)) ?_
                                refine Ex.icmp rfl rfl (fun (c0 : ¬ (v3 = 115)) => ?_) (fun (c0 : ¬ ¬ (v3 = 115)) => ?_)
                                · rw [if_neg c0] at hf
                                  refine Ex.seg 2 (pc' := 183) (lc' := [some (.ref 67), some (.long x1), none, some (.int v2), some (.int v3)]) (st' := [.int 99, .int v3]) (h' := h) (sg1 rfl rfl (sg1 rfl rfl rfl)) ?_
                                  refine Ex.icmp rfl rfl (fun (c0 : ¬ (v3 = 99)) => ?_) (fun (c0 : ¬ ¬ (v3 = 99)) => ?_)
                                  · rw [if_neg c0] at hf
                                    refine Ex.seg 2 (pc' := 195) (lc' := [some (.ref 67), some (.long x1), none, some (.int v2), some (.int v3)]) (st' := [.int 105, .int v3]) (h' := h) (sg1 rfl rfl (sg1 rfl rfl rfl)) ?_
                                    refine Ex.icmp rfl rfl (fun (c0 : ¬ (v3 = 105)) => ?_) (fun (c0 : ¬ ¬ (v3 = 105)) => ?_)
                                    · rw [if_neg c0] at hf
                                      refine Ex.seg 2 (pc' := 207) (lc' := [some (.ref 67), some (.long x1), none, some (.int v2), some (.int v3)]) (st' := [.int 106, .int v3]) (h' := h) (sg1 rfl rfl (sg1 rfl rfl rfl)) ?_
                                      refine Ex.icmp rfl rfl (fun (c0 : ¬ (v3 = 106)) => ?_) (fun (c0 : ¬ ¬ (v3 = 106)) => ?_)
                                      · rw [if_neg c0] at hf
                                        refine Ex.seg 1 (pc' := 216) (lc' := [some (.ref 67), some (.long x1), none, some (.int v2), some (.int v3)]) (st' := [.int (-1)]) (h' := h) (sg1 rfl rfl rfl) ?_
                                        exact Ex.weak (sm_le_n (sm_le_n (sm_le_s (sm_le_n (sm_le_n sm_le_nil))))) (B_422_216 hd  hf hs)
                                      · rw [if_pos (Classical.not_not.mp c0)] at hf
                                        refine Ex.seg 2 (pc' := 216) (lc' := [some (.ref 67), some (.long x1), none, some (.int v2), some (.int v3)]) (st' := [.int 14]) (h' := h) (sg1 rfl rfl (sg1 rfl rfl rfl)) ?_
                                        exact Ex.weak (sm_le_n (sm_le_n (sm_le_s (sm_le_n (sm_le_n sm_le_nil))))) (B_422_216 hd  hf hs)
                                    · rw [if_pos (Classical.not_not.mp c0)] at hf
                                      refine Ex.seg 2 (pc' := 216) (lc' := [some (.ref 67), some (.long x1), none, some (.int v2), some (.int v3)]) (st' := [.int 13]) (h' := h) (sg1 rfl rfl (sg1 rfl rfl rfl)) ?_
                                      exact Ex.weak (sm_le_n (sm_le_n (sm_le_s (sm_le_n (sm_le_n sm_le_nil))))) (B_422_216 hd  hf hs)
                                  · rw [if_pos (Classical.not_not.mp c0)] at hf
                                    refine Ex.seg 2 (pc' := 216) (lc' := [some (.ref 67), some (.long x1), none, some (.int v2), some (.int v3)]) (st' := [.int 12]) (h' := h) (sg1 rfl rfl (sg1 rfl rfl rfl)) ?_
                                    exact Ex.weak (sm_le_n (sm_le_n (sm_le_s (sm_le_n (sm_le_n sm_le_nil))))) (B_422_216 hd  hf hs)
                                · rw [if_pos (Classical.not_not.mp c0)] at hf
                                  refine Ex.seg 2 (pc' := 216) (lc' := [some (.ref 67), some (.long x1), none, some (.int v2), some (.int v3)]) (st' := [.int 11]) (h' := h) (sg1 rfl rfl (sg1 rfl rfl rfl)) ?_
                                  exact Ex.weak (sm_le_n (sm_le_n (sm_le_s (sm_le_n (sm_le_n sm_le_nil))))) (B_422_216 hd  hf hs)
                              · rw [if_pos (Classical.not_not.mp c0)] at hf
                                refine Ex.seg 2 (pc' := 216) (lc' := [some (.ref 67), some (.long x1), none, some (.int v2), some (.int v3)]) (st' := [.int 10]) (h' := h) (sg1 rfl rfl (sg1 rfl rfl rfl)) ?_
                                exact Ex.weak (sm_le_n (sm_le_n (sm_le_s (sm_le_n (sm_le_n sm_le_nil))))) (B_422_216 hd  hf hs)
                            · rw [if_pos (Classical.not_not.mp c0)] at hf
                              refine Ex.seg 2 (pc' := 216) (lc' := [some (.ref 67), some (.long x1), none, some (.int v2), some (.int v3)]) (st' := [.int 9]) (h' := h) (sg1 rfl rfl (sg1 rfl rfl rfl)) ?_
                              exact Ex.weak (sm_le_n (sm_le_n (sm_le_s (sm_le_n (sm_le_n sm_le_nil))))) (B_422_216 hd  hf hs)
                      · rw [if_pos (Classical.not_not.mp c0)] at hf
                        refine Ex.seg 1 (pc' := 114) (lc' := [some (.ref 67), some (.long x1), none, none, none]) (st' := [.int 19]) (h' := h) (sg1 rfl rfl rfl) ?_
                        obtain rfl := Option.some.inj hf
                        exact Ex.iret rfl rfl (fun c0 => by cases c0) hs
                    · rw [if_pos (Classical.not_not.mp c0)] at hf
                      refine Ex.seg 1 (pc' := 103) (lc' := [some (.ref 67), some (.long x1), none, none, none]) (st' := [.int 18]) (h' := h) (sg1 rfl rfl rfl) ?_
                      obtain rfl := Option.some.inj hf
                      exact Ex.iret rfl rfl (fun c0 => by cases c0) hs
                  · rw [if_pos (Classical.not_not.mp c0)] at hf
                    refine Ex.seg 1 (pc' := 92) (lc' := [some (.ref 67), some (.long x1), none, none, none]) (st' := [.int 8]) (h' := h) (sg1 rfl rfl rfl) ?_
                    obtain rfl := Option.some.inj hf
                    exact Ex.iret rfl rfl (fun c0 => by cases c0) hs
                · rw [if_pos (Classical.not_not.mp c0)] at hf
                  refine Ex.seg 1 (pc' := 81) (lc' := [some (.ref 67), some (.long x1), none, none, none]) (st' := [.int 7]) (h' := h) (sg1 rfl rfl rfl) ?_
                  obtain rfl := Option.some.inj hf
                  exact Ex.iret rfl rfl (fun c0 => by cases c0) hs
              · rw [if_pos (Classical.not_not.mp c0)] at hf
                refine Ex.seg 1 (pc' := 70) (lc' := [some (.ref 67), some (.long x1), none, none, none]) (st' := [.int 6]) (h' := h) (sg1 rfl rfl rfl) ?_
                obtain rfl := Option.some.inj hf
                exact Ex.iret rfl rfl (fun c0 => by cases c0) hs
            · rw [if_pos (Classical.not_not.mp c0)] at hf
              refine Ex.seg 1 (pc' := 59) (lc' := [some (.ref 67), some (.long x1), none, none, none]) (st' := [.int 5]) (h' := h) (sg1 rfl rfl rfl) ?_
              obtain rfl := Option.some.inj hf
              exact Ex.iret rfl rfl (fun c0 => by cases c0) hs
          · rw [if_pos (Classical.not_not.mp c0)] at hf
            refine Ex.seg 1 (pc' := 49) (lc' := [some (.ref 67), some (.long x1), none, none, none]) (st' := [.int 4]) (h' := h) (sg1 rfl rfl rfl) ?_
            obtain rfl := Option.some.inj hf
            exact Ex.iret rfl rfl (fun c0 => by cases c0) hs
        · rw [if_pos (Classical.not_not.mp c0)] at hf
          refine Ex.seg 1 (pc' := 39) (lc' := [some (.ref 67), some (.long x1), none, none, none]) (st' := [.int 3]) (h' := h) (sg1 rfl rfl rfl) ?_
          obtain rfl := Option.some.inj hf
          exact Ex.iret rfl rfl (fun c0 => by cases c0) hs
      · rw [if_pos (Classical.not_not.mp c0)] at hf
        refine Ex.seg 1 (pc' := 29) (lc' := [some (.ref 67), some (.long x1), none, none, none]) (st' := [.int 2]) (h' := h) (sg1 rfl rfl rfl) ?_
        obtain rfl := Option.some.inj hf
        exact Ex.iret rfl rfl (fun c0 => by cases c0) hs
    · rw [if_pos (Classical.not_not.mp c0)] at hf
      refine Ex.seg 1 (pc' := 19) (lc' := [some (.ref 67), some (.long x1), none, none, none]) (st' := [.int 1]) (h' := h) (sg1 rfl rfl rfl) ?_
      obtain rfl := Option.some.inj hf
      exact Ex.iret rfl rfl (fun c0 => by cases c0) hs
  · rw [if_pos (Classical.not_not.mp c0)] at hf
    refine Ex.seg 1 (pc' := 9) (lc' := [some (.ref 67), some (.long x1), none, none, none]) (st' := [.int 0]) (h' := h) (sg1 rfl rfl rfl) ?_
    obtain rfl := Option.some.inj hf
    exact Ex.iret rfl rfl (fun c0 => by cases c0) hs
theorem E_422 {L : Nat} {xs : Nat → Int32} {d : Nat} (hd : 2 ≤ d) {x1 : Int64} {h : sm_H} {r : Int32 × sm_H} (hf : F_422 x1 h = some r) : RUN L xs d 422 [.ref 67, .long x1] h (some (.int r.1), r.2) := by
  obtain ⟨d, rfl⟩ : ∃ e, d = e + 1 := ⟨d - 1, by omega⟩
  exact ⟨Nat.le_of_ble_eq_true rfl, B_422_0 (by omega) hf rfl⟩
theorem B_425_0 {L : Nat} {xs : Nat → Int32} {d : Nat} (hd : 1 ≤ d) {res : Option Value × sm_H}   {h : sm_H} {r : (Int32 × sm_H)} (hf : F_425_0  h = some r) (hs : (fun (r : Int32 × sm_H) => res = (some (.int r.1), r.2)) r) : Ex (P_G L xs) (RUN L xs d) (sm_lk P_t425) 3 0 [some (.ref 67)] [] h res := by
  unfold F_425_0 at hf
  refine Ex.seg 3 (pc' := 6) (lc' := [some (.ref 67)]) (st' := [.int 20, .int (h.1 67 86)]) (h' := h) (sg1 rfl rfl (sg1 rfl rfl (sg1 rfl rfl rfl))) ?_
  refine Ex.icmp rfl rfl (fun (c0 : ¬ ((h.1 67 86) = 20)) => ?_) (fun (c0 : ¬ ¬ ((h.1 67 86) = 20)) => ?_)
  · rw [if_neg c0] at hf
    refine Ex.seg 6 (pc' := 29) (lc' := [some (.ref 67)]) (st' := []) (h' := (sm_wI h 67 86 ((h.1 67 86) + 1))) (sg1 rfl rfl (sg1 rfl rfl (sg1 rfl rfl (sg1 rfl rfl (sg1 rfl rfl (sg1 rfl rfl rfl)))))) ?_
    obtain ⟨h1, e_h1, hf⟩ := bnd hf
    rw [Option.some.inj e_h1]
    refine Ex.seg 1 (pc' := 30) (lc' := [some (.ref 67)]) (st' := [.ref 67]) (h' := h1) (sg1 rfl rfl rfl) ?_
    obtain ⟨q2, e_q2, hf⟩ := bnd hf
    refine Ex.callV (a := 67) (As := []) (r := []) (v := none) (h' := q2) rfl rfl (by decide) rfl (Nat.le_of_ble_eq_true rfl) rfl (E_420 (Nat.le_trans (by decide) hd) e_q2) rfl ?_
    refine Ex.seg 1 (pc' := 34) (lc' := [some (.ref 67)]) (st' := [.int 1]) (h' := q2) (sg1 rfl rfl rfl) ?_
    obtain rfl := Option.some.inj hf
    exact Ex.iret rfl rfl (fun _ => by decide) hs
  · rw [if_pos (Classical.not_not.mp c0)] at hf
    refine Ex.seg 4 (pc' := 15) (lc' := [some (.ref 67)]) (st' := [.int (h.1 67 81), .int 5, .ref 67]) (h' := h) (sg1 rfl rfl (sg1 rfl rfl (sg1 rfl rfl (sg1 rfl rfl rfl)))) ?_
    obtain ⟨q3, e_q3, hf⟩ := bnd hf
    refine Ex.callV (a := 67) (As := [.int 5, .int (h.1 67 81)]) (r := []) (v := some (.int q3.1)) (h' := q3.2) rfl rfl (by decide) rfl (Nat.le_of_ble_eq_true rfl) rfl (E_413 (Nat.le_trans (by decide) hd) e_q3) rfl ?_
    rcases Classical.em (q3.1 = 0 ∨ q3.1 = 1) with c0 | c0
    · rw [if_pos c0] at hf
      obtain rfl := Option.some.inj hf
      exact Ex.iret rfl rfl (fun _ => c0) hs
    · rw [if_neg c0] at hf
      cases hf
theorem E_425 {L : Nat} {xs : Nat → Int32} {d : Nat} (hd : 2 ≤ d)  {h : sm_H} {r : Int32 × sm_H} (hf : F_425  h = some r) : RUN L xs d 425 [.ref 67] h (some (.int r.1), r.2) := by
  obtain ⟨d, rfl⟩ : ∃ e, d = e + 1 := ⟨d - 1, by omega⟩
  exact ⟨Nat.le_of_ble_eq_true rfl, B_425_0 (by omega) hf rfl⟩
theorem B_428_68 {L : Nat} {xs : Nat → Int32} {d : Nat} (hd : 2 ≤ d) {res : Option Value × sm_H} {y2 : Int32}  {h : sm_H} {r : (Int32 × sm_H)} (hf : F_428_68 y2 h = some r) (hs : (fun (r : Int32 × sm_H) => res = (some (.int r.1), r.2)) r) : Ex (P_G L xs) (RUN L xs d) (sm_lk P_t428) 0 68 [none, none, some (.int y2)] [] h res := by
  unfold F_428_68 at hf
  refine Ex.seg 1 (pc' := 69) (lc' := [none, none, some (.int y2)]) (st' := [.int y2]) (h' := h) (sg1 rfl rfl rfl) ?_
  obtain rfl := Option.some.inj hf
  exact Ex.iret rfl rfl (fun c0 => by cases c0) hs
theorem B_428_47 {L : Nat} {xs : Nat → Int32} {d : Nat} (hd : 2 ≤ d) {res : Option Value × sm_H}   {h : sm_H} {r : (Int32 × sm_H)} (hf : F_428_47  h = some r) (hs : (fun (r : Int32 × sm_H) => res = (some (.int r.1), r.2)) r) : Ex (P_G L xs) (RUN L xs d) (sm_lk P_t428) 0 47 [some (.ref 67), none, none] [] h res := by
  unfold F_428_47 at hf
  refine Ex.seg 1 (pc' := 48) (lc' := [some (.ref 67), none, none]) (st' := [.ref 67]) (h' := h) (sg1 rfl rfl rfl) ?_
  obtain ⟨q1, e_q1, hf⟩ := bnd hf
  refine Ex.callV (a := 67) (As := []) (r := []) (v := some (.int q1.1)) (h' := q1.2) rfl rfl (by decide) rfl (Nat.le_of_ble_eq_true rfl) rfl (E_302 (Nat.le_trans (by decide) hd) e_q1) rfl ?_
  refine Ex.seg 3 (pc' := 54) (lc' := [some (.ref 67), none, some (.int q1.1)]) (st' := [.int (-1), .int q1.1]) (h' := q1.2) (sg1 rfl rfl (sg1 rfl rfl (sg1 rfl rfl rfl))) ?_
  refine Ex.icmp rfl rfl (fun (c0 : ¬ (q1.1 = (-1))) => ?_) (fun (c0 : ¬ ¬ (q1.1 = (-1))) => ?_)
  · rw [if_neg c0] at hf
    exact Ex.weak (sm_le_n (sm_le_s (sm_le_s sm_le_nil))) (B_428_68 hd  hf hs)
  · rw [if_pos (Classical.not_not.mp c0)] at hf
    refine Ex.seg 4 (pc' := 64) (lc' := [some (.ref 67), none, some (.int q1.1)]) (st' := [.int (q1.2.1 67 106), .int 8, .ref 67]) (h' := q1.2) (sg1 rfl rfl (sg1 rfl rfl (sg1 rfl rfl (sg1 rfl rfl rfl)))) ?_
    obtain ⟨q2, e_q2, hf⟩ := bnd hf
    refine Ex.callV (a := 67) (As := [.int 8, .int (q1.2.1 67 106)]) (r := []) (v := some (.int q2.1)) (h' := q2.2) rfl rfl (by decide) rfl (Nat.le_of_ble_eq_true rfl) rfl (E_413 (Nat.le_trans (by decide) hd) e_q2) rfl ?_
    refine Ex.seg 1 (pc' := 68) (lc' := [some (.ref 67), none, some (.int q1.1)]) (st' := []) (h' := q2.2) (sg1 rfl rfl rfl) ?_
    exact Ex.weak (sm_le_n (sm_le_s (sm_le_s sm_le_nil))) (B_428_68 hd  hf hs)
theorem B_428_15B {L : Nat} {xs : Nat → Int32} {d : Nat} (hd : 2 ≤ d) {res : Option Value × sm_H} {S1 : (Int32 × sm_H) → Prop} (hS1 : ∀ s, S1 s → Ex (P_G L xs) (RUN L xs d) (sm_lk P_t428) 0 15 [some (.ref 67), none, some (.int s.1)] [] s.2 res) {s : (Int32 × sm_H)}  {r : ((Int32 × sm_H) ⊕ (Int32 × sm_H))} (hf : F_428_15B s = some r) (hs : (Sum.elim S1 (fun (r : Int32 × sm_H) => res = (some (.int r.1), r.2))) r) : Ex (P_G L xs) (RUN L xs d) (sm_lk P_t428) 0 15 [some (.ref 67), none, some (.int s.1)] [] s.2 res := by
  unfold F_428_15B at hf
  refine Ex.seg 2 (pc' := 19) (lc' := [some (.ref 67), none, some (.int s.1)]) (st' := [.int 400, .int s.1]) (h' := s.2) (sg1 rfl rfl (sg1 rfl rfl rfl)) ?_
  refine Ex.icmp rfl rfl (fun (c0 : 400 ≤ s.1) => ?_) (fun (c0 : ¬ (400 ≤ s.1)) => ?_)
  · rw [if_pos c0] at hf
    obtain ⟨r0, hf0, rfl⟩ := Option.map_eq_some_iff.mp hf
    exact Ex.weak (sm_le_s (sm_le_s (sm_le_n sm_le_nil))) (B_428_47 hd  hf0 hs)
  · rw [if_neg c0] at hf
    refine Ex.seg 3 (pc' := 28) (lc' := [some (.ref 67), none, some (.int s.1)]) (st' := [.int 11, .int (s.2.1 67 21)]) (h' := s.2) (sg1 rfl rfl (sg1 rfl rfl (sg1 rfl rfl rfl))) ?_
    refine Ex.icmp rfl rfl (fun (c0 : 11 ≤ (s.2.1 67 21)) => ?_) (fun (c0 : ¬ (11 ≤ (s.2.1 67 21))) => ?_)
    · rw [if_pos c0] at hf
      obtain ⟨r0, hf0, rfl⟩ := Option.map_eq_some_iff.mp hf
      exact Ex.weak (sm_le_s (sm_le_s (sm_le_n sm_le_nil))) (B_428_47 hd  hf0 hs)
    · rw [if_neg c0] at hf
      refine Ex.seg 4 (pc' := 37) (lc' := [some (.ref 67), none, some (.int s.1)]) (st' := [.int s.1, .ref 118, .ref 67]) (h' := s.2) (sg1 rfl rfl (sg1 rfl rfl (sg1 rfl rfl (sg1 rfl rfl rfl)))) ?_
      obtain ⟨v3, e_v3, hf⟩ := bnd hf
      refine Ex.iald e_v3 rfl rfl ?_
      obtain ⟨q4, e_q4, hf⟩ := bnd hf
      refine Ex.callV (a := 67) (As := [.int v3]) (r := []) (v := none) (h' := q4) rfl rfl (by decide) rfl (Nat.le_of_ble_eq_true rfl) rfl (E_309 (Nat.le_trans (by decide) hd) e_q4) rfl ?_
      refine Ex.seg 1 (pc' := 44) (lc' := [some (.ref 67), none, some (.int (s.1 + 1))]) (st' := []) (h' := q4) (sg1 rfl rfl rfl) ?_
      obtain ⟨v5, e_v5, hf⟩ := bnd hf
      rw [Option.some.inj e_v5]
      refine Ex.seg 1 (pc' := 15) (lc' := [some (.ref 67), none, some (.int v5)]) (st' := []) (h' := q4) (sg1 rfl rfl rfl) ?_
      obtain rfl := Option.some.inj hf
      exact Ex.weak (sm_le_s (sm_le_s (sm_le_s sm_le_nil))) (hS1 _ hs)
theorem B_428_15 {L : Nat} {xs : Nat → Int32} {d : Nat} (hd : 2 ≤ d) {res : Option Value × sm_H} {y2 : Int32}  {h : sm_H} {r : (Int32 × sm_H)} (hf : F_428_15 y2 h = some r) (hs : (fun (r : Int32 × sm_H) => res = (some (.int r.1), r.2)) r) : Ex (P_G L xs) (RUN L xs d) (sm_lk P_t428) 0 15 [some (.ref 67), none, some (.int y2)] [] h res := by
  unfold F_428_15 at hf
  exact lp_ok (P := fun (s : (Int32 × sm_H)) => Ex (P_G L xs) (RUN L xs d) (sm_lk P_t428) 0 15 [some (.ref 67), none, some (.int s.1)] [] s.2 res) (S := (fun (r : Int32 × sm_H) => res = (some (.int r.1), r.2))) (fun s x hx hsx => by
    intros
    exact B_428_15B hd  (fun _ q => q) hx hsx) 1000000 _ r hf hs
theorem B_428_0 {L : Nat} {xs : Nat → Int32} {d : Nat} (hd : 2 ≤ d) {res : Option Value × sm_H} {x1 : Int32}  {h : sm_H} {r : (Int32 × sm_H)} (hf : F_428_0 x1 h = some r) (hs : (fun (r : Int32 × sm_H) => res = (some (.int r.1), r.2)) r) : Ex (P_G L xs) (RUN L xs d) (sm_lk P_t428) 0 0 [some (.ref 67), some (.int x1), none] [] h res := by
  unfold F_428_0 at hf
  refine Ex.seg 3 (pc' := 5) (lc' := [some (.ref 67), some (.int x1), none]) (st' := []) (h' := (sm_wI h 67 20 x1)) (sg1 rfl rfl (sg1 rfl rfl (sg1 rfl rfl rfl))) ?_
  obtain ⟨h6, e_h6, hf⟩ := bnd hf
  rw [Option.some.inj e_h6]
  refine Ex.seg 3 (pc' := 10) (lc' := [some (.ref 67), some (.int x1), none]) (st' := []) (h' := (sm_wI h6 67 21 0)) (sg1 rfl rfl (sg1 rfl rfl (sg1 rfl rfl rfl))) ?_
  obtain ⟨h7, e_h7, hf⟩ := bnd hf
  rw [Option.some.inj e_h7]
  refine Ex.seg 3 (pc' := 15) (lc' := [some (.ref 67), some (.int x1), some (.int (h7.1 67 94))]) (st' := []) (h' := h7) (sg1 rfl rfl (sg1 rfl rfl (sg1 rfl rfl rfl))) ?_
  obtain ⟨v8, e_v8, hf⟩ := bnd hf
  rw [Option.some.inj e_v8]
  exact Ex.weak (sm_le_s (sm_le_n (sm_le_s sm_le_nil))) (B_428_15 hd  hf hs)
theorem E_428 {L : Nat} {xs : Nat → Int32} {d : Nat} (hd : 3 ≤ d) {x1 : Int32} {h : sm_H} {r : Int32 × sm_H} (hf : F_428 x1 h = some r) : RUN L xs d 428 [.ref 67, .int x1] h (some (.int r.1), r.2) := by
  obtain ⟨d, rfl⟩ : ∃ e, d = e + 1 := ⟨d - 1, by omega⟩
  exact ⟨Nat.le_of_ble_eq_true rfl, B_428_0 (by omega) hf rfl⟩
theorem B_429_50 {L : Nat} {xs : Nat → Int32} {d : Nat} (hd : 7 ≤ d) {res : Option Value × sm_H} {y6 : Int32}  {h : sm_H} {r : (Int32 × sm_H)} (hf : F_429_50 y6 h = some r) (hs : (fun (r : Int32 × sm_H) => res = (some (.int r.1), r.2)) r) : Ex (P_G L xs) (RUN L xs d) (sm_lk P_t429) 0 50 [none, none, none, none, none, none, some (.int y6)] [] h res := by
  unfold F_429_50 at hf
  refine Ex.seg 1 (pc' := 52) (lc' := [none, none, none, none, none, none, some (.int y6)]) (st' := [.int y6]) (h' := h) (sg1 rfl rfl rfl) ?_
  obtain rfl := Option.some.inj hf
  exact Ex.iret rfl rfl (fun c0 => by cases c0) hs
theorem B_429_42 {L : Nat} {xs : Nat → Int32} {d : Nat} (hd : 7 ≤ d) {res : Option Value × sm_H} {y6 : Int32} {z1 : Int32}  {h : sm_H} {r : (Int32 × sm_H)} (hf : F_429_42 y6 z1 h = some r) (hs : (fun (r : Int32 × sm_H) => res = (some (.int r.1), r.2)) r) : Ex (P_G L xs) (RUN L xs d) (sm_lk P_t429) 0 42 [some (.ref 67), none, none, none, none, none, some (.int y6)] [.int z1, .ref 67] h res := by
  unfold F_429_42 at hf
  refine Ex.seg 2 (pc' := 46) (lc' := [some (.ref 67), none, none, none, none, none, some (.int y6)]) (st' := [.int (h.1 67 106), .int z1, .ref 67]) (h' := h) (sg1 rfl rfl (sg1 rfl rfl rfl)) ?_
  obtain ⟨q1, e_q1, hf⟩ := bnd hf
  refine Ex.callV (a := 67) (As := [.int z1, .int (h.1 67 106)]) (r := []) (v := some (.int q1.1)) (h' := q1.2) rfl rfl (by decide) rfl (Nat.le_of_ble_eq_true rfl) rfl (E_413 (Nat.le_trans (by decide) hd) e_q1) rfl ?_
  refine Ex.seg 1 (pc' := 50) (lc' := [some (.ref 67), none, none, none, none, none, some (.int y6)]) (st' := []) (h' := q1.2) (sg1 rfl rfl rfl) ?_
  exact Ex.weak (sm_le_n (sm_le_s (sm_le_s (sm_le_s (sm_le_s (sm_le_s (sm_le_s sm_le_nil))))))) (B_429_50 hd  hf hs)
theorem B_429_0 {L : Nat} {xs : Nat → Int32} {d : Nat} (hd : 7 ≤ d) {res : Option Value × sm_H} {x1 : Int32} {x2 : Int32} {x3 : Int32} {x4 : Int64}  {h : sm_H} {r : (Int32 × sm_H)} (hf : F_429_0 x1 x2 x3 x4 h = some r) (hs : (fun (r : Int32 × sm_H) => res = (some (.int r.1), r.2)) r) : Ex (P_G L xs) (RUN L xs d) (sm_lk P_t429) 0 0 [some (.ref 67), some (.int x1), some (.int x2), some (.int x3), some (.long x4), none, none] [] h res := by
  unfold F_429_0 at hf
  refine Ex.seg 2 (pc' := 4) (lc' := [some (.ref 67), some (.int x1), some (.int x2), some (.int x3), some (.long x4), none, none]) (st' := [.int (h.1 67 77)]) (h' := h) (sg1 rfl rfl (sg1 rfl rfl rfl)) ?_
  refine Ex.ifc rfl rfl (fun (c0 : (h.1 67 77) = 0) => ?_) (fun (c0 : ¬ ((h.1 67 77) = 0)) => ?_)
  · rw [if_pos c0] at hf
    refine Ex.seg 5 (pc' := 15) (lc' := [some (.ref 67), some (.int x1), some (.int x2), some (.int x3), some (.long x4), none, none]) (st' := [.long x4, .int x3, .int x2, .int x1, .ref 67]) (h' := h) (sg1 rfl rfl (sg1 rfl rfl (sg1 rfl rfl (sg1 rfl rfl (sg1 rfl rfl rfl))))) ?_
    obtain ⟨q2, e_q2, hf⟩ := bnd hf
    refine Ex.callV (a := 67) (As := [.int x1, .int x2, .int x3, .long x4]) (r := []) (v := some (.int q2.1)) (h' := q2.2) rfl rfl (by decide) rfl (Nat.le_of_ble_eq_true rfl) rfl (E_341 (Nat.le_trans (by decide) hd) e_q2) rfl ?_
    refine Ex.seg 3 (pc' := 23) (lc' := [some (.ref 67), some (.int x1), some (.int x2), some (.int x3), some (.long x4), none, some (.int q2.1)]) (st' := [.int (-1), .int q2.1]) (h' := q2.2) (sg1 rfl rfl (sg1 rfl rfl (sg1 rfl rfl rfl))) ?_
    refine Ex.icmp rfl rfl (fun (c0 : ¬ (q2.1 = (-1))) => ?_) (fun (c0 : ¬ ¬ (q2.1 = (-1))) => ?_)
    · rw [if_neg c0] at hf
      exact Ex.weak (sm_le_n (sm_le_n (sm_le_n (sm_le_n (sm_le_n (sm_le_s (sm_le_s sm_le_nil))))))) (B_429_50 hd  hf hs)
    · rw [if_pos (Classical.not_not.mp c0)] at hf
      refine Ex.seg 4 (pc' := 32) (lc' := [some (.ref 67), some (.int x1), some (.int x2), some (.int x3), some (.long x4), none, some (.int q2.1)]) (st' := [.int 3, .int (q2.2.1 67 19), .ref 67]) (h' := q2.2) (sg1 rfl rfl (sg1 rfl rfl (sg1 rfl rfl (sg1 rfl rfl rfl)))) ?_
      refine Ex.icmp rfl rfl (fun (c0 : (q2.2.1 67 19) ≤ 3) => ?_) (fun (c0 : ¬ ((q2.2.1 67 19) ≤ 3)) => ?_)
      · rw [if_pos c0] at hf
        refine Ex.seg 1 (pc' := 42) (lc' := [some (.ref 67), some (.int x1), some (.int x2), some (.int x3), some (.long x4), none, some (.int q2.1)]) (st' := [.int 7, .ref 67]) (h' := q2.2) (sg1 rfl rfl rfl) ?_
        exact Ex.weak (sm_le_s (sm_le_n (sm_le_n (sm_le_n (sm_le_n (sm_le_s (sm_le_s sm_le_nil))))))) (B_429_42 hd  hf hs)
      · rw [if_neg c0] at hf
        refine Ex.seg 2 (pc' := 42) (lc' := [some (.ref 67), some (.int x1), some (.int x2), some (.int x3), some (.long x4), none, some (.int q2.1)]) (st' := [.int 8, .ref 67]) (h' := q2.2) (sg1 rfl rfl (sg1 rfl rfl rfl)) ?_
        exact Ex.weak (sm_le_s (sm_le_n (sm_le_n (sm_le_n (sm_le_n (sm_le_s (sm_le_s sm_le_nil))))))) (B_429_42 hd  hf hs)
  · rw [if_neg c0] at hf
    refine Ex.seg 1 (pc' := 8) (lc' := [some (.ref 67), some (.int x1), some (.int x2), some (.int x3), some (.long x4), none, none]) (st' := [.int (-1)]) (h' := h) (sg1 rfl rfl rfl) ?_
    obtain rfl := Option.some.inj hf
    exact Ex.iret rfl rfl (fun c0 => by cases c0) hs
theorem E_429 {L : Nat} {xs : Nat → Int32} {d : Nat} (hd : 8 ≤ d) {x1 : Int32} {x2 : Int32} {x3 : Int32} {x4 : Int64} {h : sm_H} {r : Int32 × sm_H} (hf : F_429 x1 x2 x3 x4 h = some r) : RUN L xs d 429 [.ref 67, .int x1, .int x2, .int x3, .long x4] h (some (.int r.1), r.2) := by
  obtain ⟨d, rfl⟩ : ∃ e, d = e + 1 := ⟨d - 1, by omega⟩
  exact ⟨Nat.le_of_ble_eq_true rfl, B_429_0 (by omega) hf rfl⟩
theorem B_430_0 {L : Nat} {xs : Nat → Int32} {d : Nat} (hd : 8 ≤ d) {res : Option Value × sm_H} {x1 : Int32} {x2 : Int32} {x3 : Int32} {x4 : Int64}  {h : sm_H} {r : (Int32 × sm_H)} (hf : F_430_0 x1 x2 x3 x4 h = some r) (hs : (fun (r : Int32 × sm_H) => res = (some (.int r.1), r.2)) r) : Ex (P_G L xs) (RUN L xs d) (sm_lk P_t430) 0 0 [some (.ref 67), some (.int x1), some (.int x2), some (.int x3), some (.long x4), none] [] h res := by
  unfold F_430_0 at hf
  refine Ex.seg 3 (pc' := 5) (lc' := [some (.ref 67), some (.int x1), some (.int x2), some (.int x3), some (.long x4), none]) (st' := []) (h' := (sm_wI h 67 3 0)) (sg1 rfl rfl (sg1 rfl rfl (sg1 rfl rfl rfl))) ?_
  obtain ⟨h1, e_h1, hf⟩ := bnd hf
  rw [Option.some.inj e_h1]
  refine Ex.seg 5 (pc' := 11) (lc' := [some (.ref 67), some (.int x1), some (.int x2), some (.int x3), some (.long x4), none]) (st' := [.long x4, .int x3, .int x2, .int x1, .ref 67]) (h' := h1) (sg1 rfl rfl (sg1 rfl rfl (sg1 rfl rfl (sg1 rfl rfl (sg1 rfl rfl rfl))))) ?_
  obtain ⟨q2, e_q2, hf⟩ := bnd hf
  refine Ex.callV (a := 67) (As := [.int x1, .int x2, .int x3, .long x4]) (r := []) (v := some (.int q2.1)) (h' := q2.2) rfl rfl (by decide) rfl (Nat.le_of_ble_eq_true rfl) rfl (E_429 (Nat.le_trans (by decide) hd) e_q2) rfl ?_
  obtain rfl := Option.some.inj hf
  exact Ex.iret rfl rfl (fun c0 => by cases c0) hs
theorem E_430 {L : Nat} {xs : Nat → Int32} {d : Nat} (hd : 9 ≤ d) {x1 : Int32} {x2 : Int32} {x3 : Int32} {x4 : Int64} {h : sm_H} {r : Int32 × sm_H} (hf : F_430 x1 x2 x3 x4 h = some r) : RUN L xs d 430 [.ref 67, .int x1, .int x2, .int x3, .long x4] h (some (.int r.1), r.2) := by
  obtain ⟨d, rfl⟩ : ∃ e, d = e + 1 := ⟨d - 1, by omega⟩
  exact ⟨Nat.le_of_ble_eq_true rfl, B_430_0 (by omega) hf rfl⟩
theorem B_431_0 {L : Nat} {xs : Nat → Int32} {d : Nat} (hd : 8 ≤ d) {res : Option Value × sm_H} {x1 : Int32} {x2 : Int32} {x3 : Int32} {x4 : Int32}  {h : sm_H} {r : (Int32 × sm_H)} (hf : F_431_0 x1 x2 x3 x4 h = some r) (hs : (fun (r : Int32 × sm_H) => res = (some (.int r.1), r.2)) r) : Ex (P_G L xs) (RUN L xs d) (sm_lk P_t431) 0 0 [some (.ref 67), some (.int x1), some (.int x2), some (.int x3), some (.int x4)] [] h res := by
  unfold F_431_0 at hf
  refine Ex.seg 2 (pc' := 3) (lc' := [some (.ref 67), some (.int x1), some (.int x2), some (.int x3), some (.int x4)]) (st' := [.int (-1), .int x4]) (h' := h) (sg1 rfl rfl (sg1 rfl rfl rfl)) ?_
  refine Ex.icmp rfl rfl (fun (c0 : ¬ (x4 = (-1))) => ?_) (fun (c0 : ¬ ¬ (x4 = (-1))) => ?_)
  · rw [if_neg c0] at hf
    refine Ex.seg 4 (pc' := 15) (lc' := [some (.ref 67), some (.int x1), some (.int x2), some (.int x3), some (.int x4)]) (st' := [.int x4, .int 0, .ref 69]) (h' := h) (sg1 rfl rfl (sg1 rfl rfl (sg1 rfl rfl (sg1 rfl rfl rfl)))) ?_
    obtain ⟨h1, e_h1, hf⟩ := bnd hf
    refine Ex.iast e_h1 rfl rfl ?_
    refine Ex.seg 3 (pc' := 21) (lc' := [some (.ref 67), some (.int x1), some (.int x2), some (.int x3), some (.int x4)]) (st' := []) (h' := (sm_wI h1 67 3 1)) (sg1 rfl rfl (sg1 rfl rfl (sg1 rfl rfl rfl))) ?_
    obtain ⟨h2, e_h2, hf⟩ := bnd hf
    rw [Option.some.inj e_h2]
    refine Ex.seg 5 (pc' := 26) (lc' := [some (.ref 67), some (.int x1), some (.int x2), some (.int x3), some (.int x4)]) (st' := [.long 0, .int x3, .int x2, .int x1, .ref 67]) (h' := h2) (sg1 rfl rfl (sg1 rfl rfl (sg1 rfl rfl (sg1 rfl rfl (sg1 rfl rfl rfl))))) ?_
    obtain ⟨q3, e_q3, hf⟩ := bnd hf
    refine Ex.callV (a := 67) (As := [.int x1, .int x2, .int x3, .long 0]) (r := []) (v := some (.int q3.1)) (h' := q3.2) rfl rfl (by decide) rfl (Nat.le_of_ble_eq_true rfl) rfl (E_429 (Nat.le_trans (by decide) hd) e_q3) rfl ?_
    obtain rfl := Option.some.inj hf
    exact Ex.iret rfl rfl (fun c0 => by cases c0) hs
  · rw [if_pos (Classical.not_not.mp c0)] at hf
    refine Ex.seg 1 (pc' := 7) (lc' := [some (.ref 67), some (.int x1), some (.int x2), some (.int x3), some (.int x4)]) (st' := [.int (-1)]) (h' := h) (sg1 rfl rfl rfl) ?_
    obtain rfl := Option.some.inj hf
    exact Ex.iret rfl rfl (fun c0 => by cases c0) hs
theorem E_431 {L : Nat} {xs : Nat → Int32} {d : Nat} (hd : 9 ≤ d) {x1 : Int32} {x2 : Int32} {x3 : Int32} {x4 : Int32} {h : sm_H} {r : Int32 × sm_H} (hf : F_431 x1 x2 x3 x4 h = some r) : RUN L xs d 431 [.ref 67, .int x1, .int x2, .int x3, .int x4] h (some (.int r.1), r.2) := by
  obtain ⟨d, rfl⟩ : ∃ e, d = e + 1 := ⟨d - 1, by omega⟩
  exact ⟨Nat.le_of_ble_eq_true rfl, B_431_0 (by omega) hf rfl⟩
theorem B_432_11 {L : Nat} {xs : Nat → Int32} {d : Nat} (hd : 8 ≤ d) {res : Option Value × sm_H}   {h : sm_H} {r : (Int32 × sm_H)} (hf : F_432_11  h = some r) (hs : (fun (r : Int32 × sm_H) => res = (some (.int r.1), r.2)) r) : Ex (P_G L xs) (RUN L xs d) (sm_lk P_t432) 0 11 [none, none, none, none, none] [] h res := by
  unfold F_432_11 at hf
  refine Ex.seg 1 (pc' := 12) (lc' := [none, none, none, none, none]) (st' := [.int (-1)]) (h' := h) (sg1 rfl rfl rfl) ?_
  obtain rfl := Option.some.inj hf
  exact Ex.iret rfl rfl (fun c0 => by cases c0) hs
theorem B_432_0 {L : Nat} {xs : Nat → Int32} {d : Nat} (hd : 8 ≤ d) {res : Option Value × sm_H} {x1 : Int32} {x2 : Int32} {x3 : Int32} {x4 : Int32}  {h : sm_H} {r : (Int32 × sm_H)} (hf : F_432_0 x1 x2 x3 x4 h = some r) (hs : (fun (r : Int32 × sm_H) => res = (some (.int r.1), r.2)) r) : Ex (P_G L xs) (RUN L xs d) (sm_lk P_t432) 0 0 [some (.ref 67), some (.int x1), some (.int x2), some (.int x3), some (.int x4)] [] h res := by
  unfold F_432_0 at hf
  refine Ex.seg 2 (pc' := 2) (lc' := [some (.ref 67), some (.int x1), some (.int x2), some (.int x3), some (.int x4)]) (st' := [.int (-1), .int x3]) (h' := h) (sg1 rfl rfl (sg1 rfl rfl rfl)) ?_
  refine Ex.icmp rfl rfl (fun (c0 : x3 = (-1)) => ?_) (fun (c0 : ¬ (x3 = (-1))) => ?_)
  · rw [if_pos c0] at hf
    exact Ex.weak (sm_le_n (sm_le_n (sm_le_n (sm_le_n (sm_le_n sm_le_nil))))) (B_432_11 hd  hf hs)
  · rw [if_neg c0] at hf
    refine Ex.seg 2 (pc' := 8) (lc' := [some (.ref 67), some (.int x1), some (.int x2), some (.int x3), some (.int x4)]) (st' := [.int (-1), .int x4]) (h' := h) (sg1 rfl rfl (sg1 rfl rfl rfl)) ?_
    refine Ex.icmp rfl rfl (fun (c0 : ¬ (x4 = (-1))) => ?_) (fun (c0 : ¬ ¬ (x4 = (-1))) => ?_)
    · rw [if_neg c0] at hf
      refine Ex.seg 4 (pc' := 19) (lc' := [some (.ref 67), some (.int x1), some (.int x2), some (.int x3), some (.int x4)]) (st' := [.int x3, .int 0, .ref 69]) (h' := h) (sg1 rfl rfl (sg1 rfl rfl (sg1 rfl rfl (sg1 rfl rfl rfl)))) ?_
      obtain ⟨h1, e_h1, hf⟩ := bnd hf
      refine Ex.iast e_h1 rfl rfl ?_
      refine Ex.seg 4 (pc' := 27) (lc' := [some (.ref 67), some (.int x1), some (.int x2), some (.int x3), some (.int x4)]) (st' := [.int x4, .int 1, .ref 69]) (h' := h1) (sg1 rfl rfl (sg1 rfl rfl (sg1 rfl rfl (sg1 rfl rfl rfl)))) ?_
      obtain ⟨h2, e_h2, hf⟩ := bnd hf
      refine Ex.iast e_h2 rfl rfl ?_
      refine Ex.seg 3 (pc' := 33) (lc' := [some (.ref 67), some (.int x1), some (.int x2), some (.int x3), some (.int x4)]) (st' := []) (h' := (sm_wI h2 67 3 2)) (sg1 rfl rfl (sg1 rfl rfl (sg1 rfl rfl rfl))) ?_
      obtain ⟨h3, e_h3, hf⟩ := bnd hf
      rw [Option.some.inj e_h3]
      refine Ex.seg 5 (pc' := 38) (lc' := [some (.ref 67), some (.int x1), some (.int x2), some (.int x3), some (.int x4)]) (st' := [.long 0, .int 0, .int x2, .int x1, .ref 67]) (h' := h3) (sg1 rfl rfl (sg1 rfl rfl (sg1 rfl rfl (sg1 rfl rfl (sg1 rfl rfl rfl))))) ?_
      obtain ⟨q4, e_q4, hf⟩ := bnd hf
      refine Ex.callV (a := 67) (As := [.int x1, .int x2, .int 0, .long 0]) (r := []) (v := some (.int q4.1)) (h' := q4.2) rfl rfl (by decide) rfl (Nat.le_of_ble_eq_true rfl) rfl (E_429 (Nat.le_trans (by decide) hd) e_q4) rfl ?_
      obtain rfl := Option.some.inj hf
      exact Ex.iret rfl rfl (fun c0 => by cases c0) hs
    · rw [if_pos (Classical.not_not.mp c0)] at hf
      exact Ex.weak (sm_le_n (sm_le_n (sm_le_n (sm_le_n (sm_le_n sm_le_nil))))) (B_432_11 hd  hf hs)
theorem E_432 {L : Nat} {xs : Nat → Int32} {d : Nat} (hd : 9 ≤ d) {x1 : Int32} {x2 : Int32} {x3 : Int32} {x4 : Int32} {h : sm_H} {r : Int32 × sm_H} (hf : F_432 x1 x2 x3 x4 h = some r) : RUN L xs d 432 [.ref 67, .int x1, .int x2, .int x3, .int x4] h (some (.int r.1), r.2) := by
  obtain ⟨d, rfl⟩ : ∃ e, d = e + 1 := ⟨d - 1, by omega⟩
  exact ⟨Nat.le_of_ble_eq_true rfl, B_432_0 (by omega) hf rfl⟩
theorem B_433_77 {L : Nat} {xs : Nat → Int32} {d : Nat} (hd : 9 ≤ d) {res : Option Value × sm_H} {z0 : Int32}  {h : sm_H} {r : (Int32 × sm_H)} (hf : F_433_77 z0 h = some r) (hs : (fun (r : Int32 × sm_H) => res = (some (.int r.1), r.2)) r) : Ex (P_G L xs) (RUN L xs d) (sm_lk P_t433) 0 77 [none, none, none, none] [.int z0] h res := by
  unfold F_433_77 at hf
  obtain rfl := Option.some.inj hf
  exact Ex.iret rfl rfl (fun c0 => by cases c0) hs
theorem B_433_12 {L : Nat} {xs : Nat → Int32} {d : Nat} (hd : 9 ≤ d) {res : Option Value × sm_H}   {h : sm_H} {r : (Int32 × sm_H)} (hf : F_433_12  h = some r) (hs : (fun (r : Int32 × sm_H) => res = (some (.int r.1), r.2)) r) : Ex (P_G L xs) (RUN L xs d) (sm_lk P_t433) 0 12 [none, none, none, none] [] h res := by
  unfold F_433_12 at hf
  refine Ex.seg 1 (pc' := 13) (lc' := [none, none, none, none]) (st' := [.int (-1)]) (h' := h) (sg1 rfl rfl rfl) ?_
  obtain rfl := Option.some.inj hf
  exact Ex.iret rfl rfl (fun c0 => by cases c0) hs
theorem B_433_0 {L : Nat} {xs : Nat → Int32} {d : Nat} (hd : 9 ≤ d) {res : Option Value × sm_H} {x1 : Int32} {x2 : Int32}  {h : sm_H} {r : (Int32 × sm_H)} (hf : F_433_0 x1 x2 h = some r) (hs : (fun (r : Int32 × sm_H) => res = (some (.int r.1), r.2)) r) : Ex (P_G L xs) (RUN L xs d) (sm_lk P_t433) 0 0 [some (.ref 67), some (.int x1), some (.int x2), none] [] h res := by
  unfold F_433_0 at hf
  refine Ex.seg 2 (pc' := 4) (lc' := [some (.ref 67), some (.int x1), some (.int x2), none]) (st' := [.int (h.1 67 77)]) (h' := h) (sg1 rfl rfl (sg1 rfl rfl rfl)) ?_
  refine Ex.ifc rfl rfl (fun (c0 : ¬ ((h.1 67 77) = 0)) => ?_) (fun (c0 : ¬ ¬ ((h.1 67 77) = 0)) => ?_)
  · rw [if_neg c0] at hf
    exact Ex.weak (sm_le_n (sm_le_n (sm_le_n (sm_le_s sm_le_nil)))) (B_433_12 hd  hf hs)
  · rw [if_pos (Classical.not_not.mp c0)] at hf
    refine Ex.seg 2 (pc' := 9) (lc' := [some (.ref 67), some (.int x1), some (.int x2), none]) (st' := [.int (-1), .int x1]) (h' := h) (sg1 rfl rfl (sg1 rfl rfl rfl)) ?_
    refine Ex.icmp rfl rfl (fun (c0 : ¬ (x1 = (-1))) => ?_) (fun (c0 : ¬ ¬ (x1 = (-1))) => ?_)
    · rw [if_neg c0] at hf
      refine Ex.seg 2 (pc' := 16) (lc' := [some (.ref 67), some (.int x1), some (.int x2), none]) (st' := [.int x1, .ref 67]) (h' := h) (sg1 rfl rfl (sg1 rfl rfl rfl)) ?_
      obtain ⟨q1, e_q1, hf⟩ := bnd hf
      refine Ex.callV (a := 67) (As := [.int x1]) (r := []) (v := some (.int q1.1)) (h' := q1.2) rfl rfl (by decide) rfl (Nat.le_of_ble_eq_true rfl) rfl (E_307 (Nat.le_trans (by decide) hd) e_q1) rfl ?_
      refine Ex.seg 1 (pc' := 20) (lc' := [some (.ref 67), some (.int x1), some (.int x2), none]) (st' := [.int x2, .int q1.1]) (h' := q1.2) (sg1 rfl rfl rfl) ?_
      refine Ex.icmp rfl rfl (fun (c0 : ¬ (q1.1 = x2)) => ?_) (fun (c0 : ¬ ¬ (q1.1 = x2)) => ?_)
      · rw [if_neg c0] at hf
        refine Ex.seg 3 (pc' := 28) (lc' := [some (.ref 67), some (.int x1), some (.int x2), none]) (st' := [.int x1, .ref 67, .ref 67]) (h' := q1.2) (sg1 rfl rfl (sg1 rfl rfl (sg1 rfl rfl rfl))) ?_
        obtain ⟨q2, e_q2, hf⟩ := bnd hf
        refine Ex.callV (a := 67) (As := [.int x1]) (r := [.ref 67]) (v := some (.int q2.1)) (h' := q2.2) rfl rfl (by decide) rfl (Nat.le_of_ble_eq_true rfl) rfl (E_307 (Nat.le_trans (by decide) hd) e_q2) rfl ?_
        refine Ex.seg 3 (pc' := 34) (lc' := [some (.ref 67), some (.int x1), some (.int x2), none]) (st' := [.int 1, .int 0, .int x2, .int q2.1, .ref 67]) (h' := q2.2) (sg1 rfl rfl (sg1 rfl rfl (sg1 rfl rfl rfl))) ?_
        obtain ⟨q3, e_q3, hf⟩ := bnd hf
        refine Ex.callV (a := 67) (As := [.int q2.1, .int x2, .int 0, .int 1]) (r := []) (v := some (.int q3.1)) (h' := q3.2) rfl rfl (by decide) rfl (Nat.le_of_ble_eq_true rfl) rfl (E_297 (Nat.le_trans (by decide) hd) e_q3) rfl ?_
        refine Ex.ifc rfl rfl (fun (c0 : ¬ (q3.1 = 0)) => ?_) (fun (c0 : ¬ ¬ (q3.1 = 0)) => ?_)
        · rw [if_neg c0] at hf
          refine Ex.seg 2 (pc' := 55) (lc' := [some (.ref 67), some (.int x1), some (.int x2), none]) (st' := [.int x2, .ref 67]) (h' := q3.2) (sg1 rfl rfl (sg1 rfl rfl rfl)) ?_
          obtain ⟨q4, e_q4, hf⟩ := bnd hf
          refine Ex.callV (a := 67) (As := [.int x2]) (r := []) (v := some (.int q4.1)) (h' := q4.2) rfl rfl (by decide) rfl (Nat.le_of_ble_eq_true rfl) rfl (E_428 (Nat.le_trans (by decide) hd) e_q4) rfl ?_
          refine Ex.seg 3 (pc' := 61) (lc' := [some (.ref 67), some (.int x1), some (.int x2), some (.int q4.1)]) (st' := [.int (-1), .int q4.1]) (h' := q4.2) (sg1 rfl rfl (sg1 rfl rfl (sg1 rfl rfl rfl))) ?_
          refine Ex.icmp rfl rfl (fun (c0 : ¬ (q4.1 = (-1))) => ?_) (fun (c0 : ¬ ¬ (q4.1 = (-1))) => ?_)
          · rw [if_neg c0] at hf
            refine Ex.seg 5 (pc' := 74) (lc' := [some (.ref 67), some (.int x1), some (.int x2), some (.int q4.1)]) (st' := [.int x1, .int q4.1, .int 0, .int 12, .ref 67]) (h' := q4.2) (sg1 rfl rfl (sg1 rfl rfl (sg1 rfl rfl (sg1 rfl rfl (sg1 rfl rfl rfl))))) ?_
            obtain ⟨q5, e_q5, hf⟩ := bnd hf
            refine Ex.callV (a := 67) (As := [.int 12, .int 0, .int q4.1, .int x1]) (r := []) (v := some (.int q5.1)) (h' := q5.2) rfl rfl (by decide) rfl (Nat.le_of_ble_eq_true rfl) rfl (E_431 (Nat.le_trans (by decide) hd) e_q5) rfl ?_
            exact Ex.weak (sm_le_n (sm_le_n (sm_le_n (sm_le_n sm_le_nil)))) (B_433_77 hd  hf hs)
          · rw [if_pos (Classical.not_not.mp c0)] at hf
            refine Ex.seg 2 (pc' := 77) (lc' := [some (.ref 67), some (.int x1), some (.int x2), some (.int q4.1)]) (st' := [.int (-1)]) (h' := q4.2) (sg1 rfl rfl (sg1 rfl rfl rfl)) ?_
            exact Ex.weak (sm_le_n (sm_le_n (sm_le_n (sm_le_n sm_le_nil)))) (B_433_77 hd  hf hs)
        · rw [if_pos (Classical.not_not.mp c0)] at hf
          refine Ex.seg 4 (pc' := 47) (lc' := [some (.ref 67), some (.int x1), some (.int x2), none]) (st' := [.int (q3.2.1 67 106), .int 7, .ref 67]) (h' := q3.2) (sg1 rfl rfl (sg1 rfl rfl (sg1 rfl rfl (sg1 rfl rfl rfl)))) ?_
          obtain ⟨q6, e_q6, hf⟩ := bnd hf
          refine Ex.callV (a := 67) (As := [.int 7, .int (q3.2.1 67 106)]) (r := []) (v := some (.int q6.1)) (h' := q6.2) rfl rfl (by decide) rfl (Nat.le_of_ble_eq_true rfl) rfl (E_413 (Nat.le_trans (by decide) hd) e_q6) rfl ?_
          refine Ex.seg 2 (pc' := 52) (lc' := [some (.ref 67), some (.int x1), some (.int x2), none]) (st' := [.int (-1)]) (h' := q6.2) (sg1 rfl rfl (sg1 rfl rfl rfl)) ?_
          obtain rfl := Option.some.inj hf
          exact Ex.iret rfl rfl (fun c0 => by cases c0) hs
      · rw [if_pos (Classical.not_not.mp c0)] at hf
        refine Ex.seg 1 (pc' := 24) (lc' := [some (.ref 67), some (.int x1), some (.int x2), none]) (st' := [.int x1]) (h' := q1.2) (sg1 rfl rfl rfl) ?_
        obtain rfl := Option.some.inj hf
        exact Ex.iret rfl rfl (fun c0 => by cases c0) hs
    · rw [if_pos (Classical.not_not.mp c0)] at hf
      exact Ex.weak (sm_le_n (sm_le_n (sm_le_n (sm_le_s sm_le_nil)))) (B_433_12 hd  hf hs)
theorem E_433 {L : Nat} {xs : Nat → Int32} {d : Nat} (hd : 10 ≤ d) {x1 : Int32} {x2 : Int32} {h : sm_H} {r : Int32 × sm_H} (hf : F_433 x1 x2 h = some r) : RUN L xs d 433 [.ref 67, .int x1, .int x2] h (some (.int r.1), r.2) := by
  obtain ⟨d, rfl⟩ : ∃ e, d = e + 1 := ⟨d - 1, by omega⟩
  exact ⟨Nat.le_of_ble_eq_true rfl, B_433_0 (by omega) hf rfl⟩
theorem B_434_84 {L : Nat} {xs : Nat → Int32} {d : Nat} (hd : 9 ≤ d) {res : Option Value × sm_H} {y4 : Int32}  {h : sm_H} {r : (Int32 × sm_H)} (hf : F_434_84 y4 h = some r) (hs : (fun (r : Int32 × sm_H) => res = (some (.int r.1), r.2)) r) : Ex (P_G L xs) (RUN L xs d) (sm_lk P_t434) 0 84 [none, none, none, none, some (.int y4), none] [] h res := by
  unfold F_434_84 at hf
  refine Ex.seg 1 (pc' := 86) (lc' := [none, none, none, none, some (.int y4), none]) (st' := [.int y4]) (h' := h) (sg1 rfl rfl rfl) ?_
  obtain rfl := Option.some.inj hf
  exact Ex.iret rfl rfl (fun c0 => by cases c0) hs
theorem B_434_48B {L : Nat} {xs : Nat → Int32} {d : Nat} (hd : 9 ≤ d) {res : Option Value × sm_H} {S1 : (Int32 × Int32 × sm_H) → Prop} (hS1 : ∀ s, S1 s → Ex (P_G L xs) (RUN L xs d) (sm_lk P_t434) 0 48 [some (.ref 67), none, none, none, some (.int s.1), some (.int s.2.1)] [] s.2.2 res) {s : (Int32 × Int32 × sm_H)}  {r : ((Int32 × Int32 × sm_H) ⊕ (Int32 × sm_H))} (hf : F_434_48B s = some r) (hs : (Sum.elim S1 (fun (r : Int32 × sm_H) => res = (some (.int r.1), r.2))) r) : Ex (P_G L xs) (RUN L xs d) (sm_lk P_t434) 0 48 [some (.ref 67), none, none, none, some (.int s.1), some (.int s.2.1)] [] s.2.2 res := by
  unfold F_434_48B at hf
  refine Ex.seg 1 (pc' := 50) (lc' := [some (.ref 67), none, none, none, some (.int s.1), some (.int s.2.1)]) (st' := [.int s.2.1]) (h' := s.2.2) (sg1 rfl rfl rfl) ?_
  refine Ex.ifc rfl rfl (fun (c0 : s.2.1 < 0) => ?_) (fun (c0 : ¬ (s.2.1 < 0)) => ?_)
  · rw [if_pos c0] at hf
    obtain ⟨r0, hf0, rfl⟩ := Option.map_eq_some_iff.mp hf
    exact Ex.weak (sm_le_n (sm_le_s (sm_le_s (sm_le_s (sm_le_s (sm_le_n sm_le_nil)))))) (B_434_84 hd  hf0 hs)
  · rw [if_neg c0] at hf
    refine Ex.seg 2 (pc' := 56) (lc' := [some (.ref 67), none, none, none, some (.int s.1), some (.int s.2.1)]) (st' := [.int (-1), .int s.1]) (h' := s.2.2) (sg1 rfl rfl (sg1 rfl rfl rfl)) ?_
    refine Ex.icmp rfl rfl (fun (c0 : s.1 = (-1)) => ?_) (fun (c0 : ¬ (s.1 = (-1))) => ?_)
    · rw [if_pos c0] at hf
      obtain ⟨r0, hf0, rfl⟩ := Option.map_eq_some_iff.mp hf
      exact Ex.weak (sm_le_n (sm_le_s (sm_le_s (sm_le_s (sm_le_s (sm_le_n sm_le_nil)))))) (B_434_84 hd  hf0 hs)
    · rw [if_neg c0] at hf
      refine Ex.seg 7 (pc' := 72) (lc' := [some (.ref 67), none, none, none, some (.int s.1), some (.int s.2.1)]) (st' := [.int s.2.1, .ref 127, .int s.1, .int s.2.1, .int 8, .ref 67]) (h' := s.2.2) (sg1 rfl rfl (sg1 rfl rfl (sg1 rfl rfl (sg1 rfl rfl (sg1 rfl rfl (sg1 rfl rfl (sg1 rfl rfl rfl))))))) ?_
      obtain ⟨v1, e_v1, hf⟩ := bnd hf
      refine Ex.iald e_v1 rfl rfl ?_
      obtain ⟨q2, e_q2, hf⟩ := bnd hf
      refine Ex.callV (a := 67) (As := [.int 8, .int s.2.1, .int s.1, .int v1]) (r := []) (v := some (.int q2.1)) (h' := q2.2) rfl rfl (by decide) rfl (Nat.le_of_ble_eq_true rfl) rfl (E_432 (Nat.le_trans (by decide) hd) e_q2) rfl ?_
      refine Ex.seg 2 (pc' := 81) (lc' := [some (.ref 67), none, none, none, some (.int q2.1), some (.int (s.2.1 + (-1)))]) (st' := []) (h' := q2.2) (sg1 rfl rfl (sg1 rfl rfl rfl)) ?_
      obtain ⟨v3, e_v3, hf⟩ := bnd hf
      rw [Option.some.inj e_v3]
      refine Ex.seg 1 (pc' := 48) (lc' := [some (.ref 67), none, none, none, some (.int q2.1), some (.int v3)]) (st' := []) (h' := q2.2) (sg1 rfl rfl rfl) ?_
      obtain rfl := Option.some.inj hf
      exact Ex.weak (sm_le_s (sm_le_s (sm_le_s (sm_le_s (sm_le_s (sm_le_s sm_le_nil)))))) (hS1 _ hs)
theorem B_434_48 {L : Nat} {xs : Nat → Int32} {d : Nat} (hd : 9 ≤ d) {res : Option Value × sm_H} {y4 : Int32} {y5 : Int32}  {h : sm_H} {r : (Int32 × sm_H)} (hf : F_434_48 y4 y5 h = some r) (hs : (fun (r : Int32 × sm_H) => res = (some (.int r.1), r.2)) r) : Ex (P_G L xs) (RUN L xs d) (sm_lk P_t434) 0 48 [some (.ref 67), none, none, none, some (.int y4), some (.int y5)] [] h res := by
  unfold F_434_48 at hf
  exact lp_ok (P := fun (s : (Int32 × Int32 × sm_H)) => Ex (P_G L xs) (RUN L xs d) (sm_lk P_t434) 0 48 [some (.ref 67), none, none, none, some (.int s.1), some (.int s.2.1)] [] s.2.2 res) (S := (fun (r : Int32 × sm_H) => res = (some (.int r.1), r.2))) (fun s x hx hsx => by
    intros
    exact B_434_48B hd  (fun _ q => q) hx hsx) 1000000 _ r hf hs
theorem B_434_41 {L : Nat} {xs : Nat → Int32} {d : Nat} (hd : 9 ≤ d) {res : Option Value × sm_H} {y2 : Int32} {z0 : Int32}  {h : sm_H} {r : (Int32 × sm_H)} (hf : F_434_41 y2 z0 h = some r) (hs : (fun (r : Int32 × sm_H) => res = (some (.int r.1), r.2)) r) : Ex (P_G L xs) (RUN L xs d) (sm_lk P_t434) 0 41 [some (.ref 67), none, some (.int y2), none, none, none] [.int z0] h res := by
  unfold F_434_41 at hf
  refine Ex.seg 5 (pc' := 48) (lc' := [some (.ref 67), none, some (.int y2), none, some (.int z0), some (.int (y2 - 1))]) (st' := []) (h' := h) (sg1 rfl rfl (sg1 rfl rfl (sg1 rfl rfl (sg1 rfl rfl (sg1 rfl rfl rfl))))) ?_
  obtain ⟨v4, e_v4, hf⟩ := bnd hf
  rw [Option.some.inj e_v4]
  exact Ex.weak (sm_le_s (sm_le_s (sm_le_n (sm_le_s (sm_le_s (sm_le_s sm_le_nil)))))) (B_434_48 hd  hf hs)
theorem B_434_12 {L : Nat} {xs : Nat → Int32} {d : Nat} (hd : 9 ≤ d) {res : Option Value × sm_H}   {h : sm_H} {r : (Int32 × sm_H)} (hf : F_434_12  h = some r) (hs : (fun (r : Int32 × sm_H) => res = (some (.int r.1), r.2)) r) : Ex (P_G L xs) (RUN L xs d) (sm_lk P_t434) 0 12 [none, none, none, none, none, none] [] h res := by
  unfold F_434_12 at hf
  refine Ex.seg 1 (pc' := 13) (lc' := [none, none, none, none, none, none]) (st' := [.int (-1)]) (h' := h) (sg1 rfl rfl rfl) ?_
  obtain rfl := Option.some.inj hf
  exact Ex.iret rfl rfl (fun c0 => by cases c0) hs
theorem B_434_0 {L : Nat} {xs : Nat → Int32} {d : Nat} (hd : 9 ≤ d) {res : Option Value × sm_H} {x1 : Int32} {x2 : Int32}  {h : sm_H} {r : (Int32 × sm_H)} (hf : F_434_0 x1 x2 h = some r) (hs : (fun (r : Int32 × sm_H) => res = (some (.int r.1), r.2)) r) : Ex (P_G L xs) (RUN L xs d) (sm_lk P_t434) 0 0 [some (.ref 67), some (.int x1), some (.int x2), none, none, none] [] h res := by
  unfold F_434_0 at hf
  refine Ex.seg 2 (pc' := 2) (lc' := [some (.ref 67), some (.int x1), some (.int x2), none, none, none]) (st' := [.int (-1), .int x1]) (h' := h) (sg1 rfl rfl (sg1 rfl rfl rfl)) ?_
  refine Ex.icmp rfl rfl (fun (c0 : x1 = (-1)) => ?_) (fun (c0 : ¬ (x1 = (-1))) => ?_)
  · rw [if_pos c0] at hf
    exact Ex.weak (sm_le_n (sm_le_n (sm_le_n (sm_le_s (sm_le_s (sm_le_s sm_le_nil)))))) (B_434_12 hd  hf hs)
  · rw [if_neg c0] at hf
    refine Ex.seg 2 (pc' := 9) (lc' := [some (.ref 67), some (.int x1), some (.int x2), none, none, none]) (st' := [.int (h.1 67 77)]) (h' := h) (sg1 rfl rfl (sg1 rfl rfl rfl)) ?_
    refine Ex.ifc rfl rfl (fun (c0 : (h.1 67 77) = 0) => ?_) (fun (c0 : ¬ ((h.1 67 77) = 0)) => ?_)
    · rw [if_pos c0] at hf
      refine Ex.seg 3 (pc' := 17) (lc' := [some (.ref 67), some (.int x1), some (.int x2), none, none, none]) (st' := [.int x1, .ref 67, .ref 67]) (h' := h) (sg1 rfl rfl (sg1 rfl rfl (sg1 rfl rfl rfl))) ?_
      obtain ⟨q5, e_q5, hf⟩ := bnd hf
      refine Ex.callV (a := 67) (As := [.int x1]) (r := [.ref 67]) (v := some (.int q5.1)) (h' := q5.2) rfl rfl (by decide) rfl (Nat.le_of_ble_eq_true rfl) rfl (E_307 (Nat.le_trans (by decide) hd) e_q5) rfl ?_
      obtain ⟨q6, e_q6, hf⟩ := bnd hf
      refine Ex.callV (a := 67) (As := [.int q5.1]) (r := []) (v := some (.int q6.1)) (h' := q6.2) rfl rfl (by decide) rfl (Nat.le_of_ble_eq_true rfl) rfl (E_428 (Nat.le_trans (by decide) hd) e_q6) rfl ?_
      refine Ex.seg 3 (pc' := 26) (lc' := [some (.ref 67), some (.int x1), some (.int x2), some (.int q6.1), none, none]) (st' := [.int (-1), .int q6.1]) (h' := q6.2) (sg1 rfl rfl (sg1 rfl rfl (sg1 rfl rfl rfl))) ?_
      refine Ex.icmp rfl rfl (fun (c0 : ¬ (q6.1 = (-1))) => ?_) (fun (c0 : ¬ ¬ (q6.1 = (-1))) => ?_)
      · rw [if_neg c0] at hf
        refine Ex.seg 5 (pc' := 38) (lc' := [some (.ref 67), some (.int x1), some (.int x2), some (.int q6.1), none, none]) (st' := [.int x1, .int q6.1, .int x2, .int 4, .ref 67]) (h' := q6.2) (sg1 rfl rfl (sg1 rfl rfl (sg1 rfl rfl (sg1 rfl rfl (sg1 rfl rfl rfl))))) ?_
        obtain ⟨q7, e_q7, hf⟩ := bnd hf
        refine Ex.callV (a := 67) (As := [.int 4, .int x2, .int q6.1, .int x1]) (r := []) (v := some (.int q7.1)) (h' := q7.2) rfl rfl (by decide) rfl (Nat.le_of_ble_eq_true rfl) rfl (E_431 (Nat.le_trans (by decide) hd) e_q7) rfl ?_
        exact Ex.weak (sm_le_s (sm_le_n (sm_le_s (sm_le_n (sm_le_s (sm_le_s sm_le_nil)))))) (B_434_41 hd  hf hs)
      · rw [if_pos (Classical.not_not.mp c0)] at hf
        refine Ex.seg 2 (pc' := 41) (lc' := [some (.ref 67), some (.int x1), some (.int x2), some (.int q6.1), none, none]) (st' := [.int (-1)]) (h' := q6.2) (sg1 rfl rfl (sg1 rfl rfl rfl)) ?_
        exact Ex.weak (sm_le_s (sm_le_n (sm_le_s (sm_le_n (sm_le_s (sm_le_s sm_le_nil)))))) (B_434_41 hd  hf hs)
    · rw [if_neg c0] at hf
      exact Ex.weak (sm_le_n (sm_le_n (sm_le_n (sm_le_s (sm_le_s (sm_le_s sm_le_nil)))))) (B_434_12 hd  hf hs)
theorem E_434 {L : Nat} {xs : Nat → Int32} {d : Nat} (hd : 10 ≤ d) {x1 : Int32} {x2 : Int32} {h : sm_H} {r : Int32 × sm_H} (hf : F_434 x1 x2 h = some r) : RUN L xs d 434 [.ref 67, .int x1, .int x2] h (some (.int r.1), r.2) := by
  obtain ⟨d, rfl⟩ : ∃ e, d = e + 1 := ⟨d - 1, by omega⟩
  exact ⟨Nat.le_of_ble_eq_true rfl, B_434_0 (by omega) hf rfl⟩
theorem B_435_0 {L : Nat} {xs : Nat → Int32} {d : Nat} (hd : 10 ≤ d) {res : Option Value × sm_H} {x1 : Int32}  {h : sm_H} {r : (Int32 × sm_H)} (hf : F_435_0 x1 h = some r) (hs : (fun (r : Int32 × sm_H) => res = (some (.int r.1), r.2)) r) : Ex (P_G L xs) (RUN L xs d) (sm_lk P_t435) 0 0 [some (.ref 67), some (.int x1)] [] h res := by
  unfold F_435_0 at hf
  refine Ex.seg 3 (pc' := 3) (lc' := [some (.ref 67), some (.int x1)]) (st' := [.int 0, .int x1, .ref 67]) (h' := h) (sg1 rfl rfl (sg1 rfl rfl (sg1 rfl rfl rfl))) ?_
  obtain ⟨q1, e_q1, hf⟩ := bnd hf
  refine Ex.callV (a := 67) (As := [.int x1, .int 0]) (r := []) (v := some (.int q1.1)) (h' := q1.2) rfl rfl (by decide) rfl (Nat.le_of_ble_eq_true rfl) rfl (E_434 (Nat.le_trans (by decide) hd) e_q1) rfl ?_
  obtain rfl := Option.some.inj hf
  exact Ex.iret rfl rfl (fun c0 => by cases c0) hs
theorem E_435 {L : Nat} {xs : Nat → Int32} {d : Nat} (hd : 11 ≤ d) {x1 : Int32} {h : sm_H} {r : Int32 × sm_H} (hf : F_435 x1 h = some r) : RUN L xs d 435 [.ref 67, .int x1] h (some (.int r.1), r.2) := by
  obtain ⟨d, rfl⟩ : ∃ e, d = e + 1 := ⟨d - 1, by omega⟩
  exact ⟨Nat.le_of_ble_eq_true rfl, B_435_0 (by omega) hf rfl⟩
theorem B_436_22 {L : Nat} {xs : Nat → Int32} {d : Nat} (hd : 10 ≤ d) {res : Option Value × sm_H} {z0 : Int32}  {h : sm_H} {r : (Int32 × sm_H)} (hf : F_436_22 z0 h = some r) (hs : (fun (r : Int32 × sm_H) => res = (some (.int r.1), r.2)) r) : Ex (P_G L xs) (RUN L xs d) (sm_lk P_t436) 0 22 [none, none, none] [.int z0] h res := by
  unfold F_436_22 at hf
  obtain rfl := Option.some.inj hf
  exact Ex.iret rfl rfl (fun c0 => by cases c0) hs
theorem B_436_0 {L : Nat} {xs : Nat → Int32} {d : Nat} (hd : 10 ≤ d) {res : Option Value × sm_H} {x1 : Int32} {x2 : Int32}  {h : sm_H} {r : (Int32 × sm_H)} (hf : F_436_0 x1 x2 h = some r) (hs : (fun (r : Int32 × sm_H) => res = (some (.int r.1), r.2)) r) : Ex (P_G L xs) (RUN L xs d) (sm_lk P_t436) 0 0 [some (.ref 67), some (.int x1), some (.int x2)] [] h res := by
  unfold F_436_0 at hf
  refine Ex.seg 4 (pc' := 6) (lc' := [some (.ref 67), some (.int x1), some (.int x2)]) (st' := [.int x2, .int 0, .ref 127]) (h' := h) (sg1 rfl rfl (sg1 rfl rfl (sg1 rfl rfl (sg1 rfl rfl rfl)))) ?_
  obtain ⟨h1, e_h1, hf⟩ := bnd hf
  refine Ex.iast e_h1 rfl rfl ?_
  refine Ex.seg 2 (pc' := 9) (lc' := [some (.ref 67), some (.int x1), some (.int x2)]) (st' := [.int (-1), .int x2]) (h' := h1) (sg1 rfl rfl (sg1 rfl rfl rfl)) ?_
  refine Ex.icmp rfl rfl (fun (c0 : ¬ (x2 = (-1))) => ?_) (fun (c0 : ¬ ¬ (x2 = (-1))) => ?_)
  · rw [if_neg c0] at hf
    refine Ex.seg 3 (pc' := 19) (lc' := [some (.ref 67), some (.int x1), some (.int x2)]) (st' := [.int 1, .int x1, .ref 67]) (h' := h1) (sg1 rfl rfl (sg1 rfl rfl (sg1 rfl rfl rfl))) ?_
    obtain ⟨q2, e_q2, hf⟩ := bnd hf
    refine Ex.callV (a := 67) (As := [.int x1, .int 1]) (r := []) (v := some (.int q2.1)) (h' := q2.2) rfl rfl (by decide) rfl (Nat.le_of_ble_eq_true rfl) rfl (E_434 (Nat.le_trans (by decide) hd) e_q2) rfl ?_
    exact Ex.weak (sm_le_n (sm_le_n (sm_le_n sm_le_nil))) (B_436_22 hd  hf hs)
  · rw [if_pos (Classical.not_not.mp c0)] at hf
    refine Ex.seg 2 (pc' := 22) (lc' := [some (.ref 67), some (.int x1), some (.int x2)]) (st' := [.int (-1)]) (h' := h1) (sg1 rfl rfl (sg1 rfl rfl rfl)) ?_
    exact Ex.weak (sm_le_n (sm_le_n (sm_le_n sm_le_nil))) (B_436_22 hd  hf hs)
theorem E_436 {L : Nat} {xs : Nat → Int32} {d : Nat} (hd : 11 ≤ d) {x1 : Int32} {x2 : Int32} {h : sm_H} {r : Int32 × sm_H} (hf : F_436 x1 x2 h = some r) : RUN L xs d 436 [.ref 67, .int x1, .int x2] h (some (.int r.1), r.2) := by
  obtain ⟨d, rfl⟩ : ∃ e, d = e + 1 := ⟨d - 1, by omega⟩
  exact ⟨Nat.le_of_ble_eq_true rfl, B_436_0 (by omega) hf rfl⟩
theorem B_437_34 {L : Nat} {xs : Nat → Int32} {d : Nat} (hd : 10 ≤ d) {res : Option Value × sm_H} {z0 : Int32}  {h : sm_H} {r : (Int32 × sm_H)} (hf : F_437_34 z0 h = some r) (hs : (fun (r : Int32 × sm_H) => res = (some (.int r.1), r.2)) r) : Ex (P_G L xs) (RUN L xs d) (sm_lk P_t437) 0 34 [none, none, none, none] [.int z0] h res := by
  unfold F_437_34 at hf
  obtain rfl := Option.some.inj hf
  exact Ex.iret rfl rfl (fun c0 => by cases c0) hs
theorem B_437_24 {L : Nat} {xs : Nat → Int32} {d : Nat} (hd : 10 ≤ d) {res : Option Value × sm_H}   {h : sm_H} {r : (Int32 × sm_H)} (hf : F_437_24  h = some r) (hs : (fun (r : Int32 × sm_H) => res = (some (.int r.1), r.2)) r) : Ex (P_G L xs) (RUN L xs d) (sm_lk P_t437) 0 24 [none, none, none, none] [] h res := by
  unfold F_437_24 at hf
  refine Ex.seg 2 (pc' := 34) (lc' := [none, none, none, none]) (st' := [.int (-1)]) (h' := h) (sg1 rfl rfl (sg1 rfl rfl rfl)) ?_
  exact Ex.weak (sm_le_s (sm_le_s (sm_le_s (sm_le_s sm_le_nil)))) (B_437_34 hd  hf hs)
theorem B_437_0 {L : Nat} {xs : Nat → Int32} {d : Nat} (hd : 10 ≤ d) {res : Option Value × sm_H} {x1 : Int32} {x2 : Int32} {x3 : Int32}  {h : sm_H} {r : (Int32 × sm_H)} (hf : F_437_0 x1 x2 x3 h = some r) (hs : (fun (r : Int32 × sm_H) => res = (some (.int r.1), r.2)) r) : Ex (P_G L xs) (RUN L xs d) (sm_lk P_t437) 0 0 [some (.ref 67), some (.int x1), some (.int x2), some (.int x3)] [] h res := by
  unfold F_437_0 at hf
  refine Ex.seg 4 (pc' := 6) (lc' := [some (.ref 67), some (.int x1), some (.int x2), some (.int x3)]) (st' := [.int x2, .int 0, .ref 127]) (h' := h) (sg1 rfl rfl (sg1 rfl rfl (sg1 rfl rfl (sg1 rfl rfl rfl)))) ?_
  obtain ⟨h1, e_h1, hf⟩ := bnd hf
  refine Ex.iast e_h1 rfl rfl ?_
  refine Ex.seg 4 (pc' := 13) (lc' := [some (.ref 67), some (.int x1), some (.int x2), some (.int x3)]) (st' := [.int x3, .int 1, .ref 127]) (h' := h1) (sg1 rfl rfl (sg1 rfl rfl (sg1 rfl rfl (sg1 rfl rfl rfl)))) ?_
  obtain ⟨h2, e_h2, hf⟩ := bnd hf
  refine Ex.iast e_h2 rfl rfl ?_
  refine Ex.seg 2 (pc' := 16) (lc' := [some (.ref 67), some (.int x1), some (.int x2), some (.int x3)]) (st' := [.int (-1), .int x2]) (h' := h2) (sg1 rfl rfl (sg1 rfl rfl rfl)) ?_
  refine Ex.icmp rfl rfl (fun (c0 : x2 = (-1)) => ?_) (fun (c0 : ¬ (x2 = (-1))) => ?_)
  · rw [if_pos c0] at hf
    exact Ex.weak (sm_le_n (sm_le_n (sm_le_n (sm_le_n sm_le_nil)))) (B_437_24 hd  hf hs)
  · rw [if_neg c0] at hf
    refine Ex.seg 2 (pc' := 21) (lc' := [some (.ref 67), some (.int x1), some (.int x2), some (.int x3)]) (st' := [.int (-1), .int x3]) (h' := h2) (sg1 rfl rfl (sg1 rfl rfl rfl)) ?_
    refine Ex.icmp rfl rfl (fun (c0 : ¬ (x3 = (-1))) => ?_) (fun (c0 : ¬ ¬ (x3 = (-1))) => ?_)
    · rw [if_neg c0] at hf
      refine Ex.seg 3 (pc' := 31) (lc' := [some (.ref 67), some (.int x1), some (.int x2), some (.int x3)]) (st' := [.int 2, .int x1, .ref 67]) (h' := h2) (sg1 rfl rfl (sg1 rfl rfl (sg1 rfl rfl rfl))) ?_
      obtain ⟨q3, e_q3, hf⟩ := bnd hf
      refine Ex.callV (a := 67) (As := [.int x1, .int 2]) (r := []) (v := some (.int q3.1)) (h' := q3.2) rfl rfl (by decide) rfl (Nat.le_of_ble_eq_true rfl) rfl (E_434 (Nat.le_trans (by decide) hd) e_q3) rfl ?_
      exact Ex.weak (sm_le_n (sm_le_n (sm_le_n (sm_le_n sm_le_nil)))) (B_437_34 hd  hf hs)
    · rw [if_pos (Classical.not_not.mp c0)] at hf
      exact Ex.weak (sm_le_n (sm_le_n (sm_le_n (sm_le_n sm_le_nil)))) (B_437_24 hd  hf hs)
theorem E_437 {L : Nat} {xs : Nat → Int32} {d : Nat} (hd : 11 ≤ d) {x1 : Int32} {x2 : Int32} {x3 : Int32} {h : sm_H} {r : Int32 × sm_H} (hf : F_437 x1 x2 x3 h = some r) : RUN L xs d 437 [.ref 67, .int x1, .int x2, .int x3] h (some (.int r.1), r.2) := by
  obtain ⟨d, rfl⟩ : ∃ e, d = e + 1 := ⟨d - 1, by omega⟩
  exact ⟨Nat.le_of_ble_eq_true rfl, B_437_0 (by omega) hf rfl⟩
theorem B_438_48 {L : Nat} {xs : Nat → Int32} {d : Nat} (hd : 10 ≤ d) {res : Option Value × sm_H} {z0 : Int32}  {h : sm_H} {r : (Int32 × sm_H)} (hf : F_438_48 z0 h = some r) (hs : (fun (r : Int32 × sm_H) => res = (some (.int r.1), r.2)) r) : Ex (P_G L xs) (RUN L xs d) (sm_lk P_t438) 0 48 [none, none, none, none, none] [.int z0] h res := by
  unfold F_438_48 at hf
  obtain rfl := Option.some.inj hf
  exact Ex.iret rfl rfl (fun c0 => by cases c0) hs
theorem B_438_38 {L : Nat} {xs : Nat → Int32} {d : Nat} (hd : 10 ≤ d) {res : Option Value × sm_H}   {h : sm_H} {r : (Int32 × sm_H)} (hf : F_438_38  h = some r) (hs : (fun (r : Int32 × sm_H) => res = (some (.int r.1), r.2)) r) : Ex (P_G L xs) (RUN L xs d) (sm_lk P_t438) 0 38 [none, none, none, none, none] [] h res := by
  unfold F_438_38 at hf
  refine Ex.seg 2 (pc' := 48) (lc' := [none, none, none, none, none]) (st' := [.int (-1)]) (h' := h) (sg1 rfl rfl (sg1 rfl rfl rfl)) ?_
  exact Ex.weak (sm_le_s (sm_le_s (sm_le_s (sm_le_s (sm_le_s sm_le_nil))))) (B_438_48 hd  hf hs)
theorem B_438_0 {L : Nat} {xs : Nat → Int32} {d : Nat} (hd : 10 ≤ d) {res : Option Value × sm_H} {x1 : Int32} {x2 : Int32} {x3 : Int32} {x4 : Int32}  {h : sm_H} {r : (Int32 × sm_H)} (hf : F_438_0 x1 x2 x3 x4 h = some r) (hs : (fun (r : Int32 × sm_H) => res = (some (.int r.1), r.2)) r) : Ex (P_G L xs) (RUN L xs d) (sm_lk P_t438) 0 0 [some (.ref 67), some (.int x1), some (.int x2), some (.int x3), some (.int x4)] [] h res := by
  unfold F_438_0 at hf
  refine Ex.seg 4 (pc' := 6) (lc' := [some (.ref 67), some (.int x1), some (.int x2), some (.int x3), some (.int x4)]) (st' := [.int x2, .int 0, .ref 127]) (h' := h) (sg1 rfl rfl (sg1 rfl rfl (sg1 rfl rfl (sg1 rfl rfl rfl)))) ?_
  obtain ⟨h1, e_h1, hf⟩ := bnd hf
  refine Ex.iast e_h1 rfl rfl ?_
  refine Ex.seg 4 (pc' := 13) (lc' := [some (.ref 67), some (.int x1), some (.int x2), some (.int x3), some (.int x4)]) (st' := [.int x3, .int 1, .ref 127]) (h' := h1) (sg1 rfl rfl (sg1 rfl rfl (sg1 rfl rfl (sg1 rfl rfl rfl)))) ?_
  obtain ⟨h2, e_h2, hf⟩ := bnd hf
  refine Ex.iast e_h2 rfl rfl ?_
  refine Ex.seg 4 (pc' := 21) (lc' := [some (.ref 67), some (.int x1), some (.int x2), some (.int x3), some (.int x4)]) (st' := [.int x4, .int 2, .ref 127]) (h' := h2) (sg1 rfl rfl (sg1 rfl rfl (sg1 rfl rfl (sg1 rfl rfl rfl)))) ?_
  obtain ⟨h3, e_h3, hf⟩ := bnd hf
  refine Ex.iast e_h3 rfl rfl ?_
  refine Ex.seg 2 (pc' := 24) (lc' := [some (.ref 67), some (.int x1), some (.int x2), some (.int x3), some (.int x4)]) (st' := [.int (-1), .int x2]) (h' := h3) (sg1 rfl rfl (sg1 rfl rfl rfl)) ?_
  refine Ex.icmp rfl rfl (fun (c0 : x2 = (-1)) => ?_) (fun (c0 : ¬ (x2 = (-1))) => ?_)
  · rw [if_pos c0] at hf
    exact Ex.weak (sm_le_n (sm_le_n (sm_le_n (sm_le_n (sm_le_n sm_le_nil))))) (B_438_38 hd  hf hs)
  · rw [if_neg c0] at hf
    refine Ex.seg 2 (pc' := 29) (lc' := [some (.ref 67), some (.int x1), some (.int x2), some (.int x3), some (.int x4)]) (st' := [.int (-1), .int x3]) (h' := h3) (sg1 rfl rfl (sg1 rfl rfl rfl)) ?_
    refine Ex.icmp rfl rfl (fun (c0 : x3 = (-1)) => ?_) (fun (c0 : ¬ (x3 = (-1))) => ?_)
    · rw [if_pos c0] at hf
      exact Ex.weak (sm_le_n (sm_le_n (sm_le_n (sm_le_n (sm_le_n sm_le_nil))))) (B_438_38 hd  hf hs)
    · rw [if_neg c0] at hf
      refine Ex.seg 2 (pc' := 35) (lc' := [some (.ref 67), some (.int x1), some (.int x2), some (.int x3), some (.int x4)]) (st' := [.int (-1), .int x4]) (h' := h3) (sg1 rfl rfl (sg1 rfl rfl rfl)) ?_
      refine Ex.icmp rfl rfl (fun (c0 : ¬ (x4 = (-1))) => ?_) (fun (c0 : ¬ ¬ (x4 = (-1))) => ?_)
      · rw [if_neg c0] at hf
        refine Ex.seg 3 (pc' := 45) (lc' := [some (.ref 67), some (.int x1), some (.int x2), some (.int x3), some (.int x4)]) (st' := [.int 3, .int x1, .ref 67]) (h' := h3) (sg1 rfl rfl (sg1 rfl rfl (sg1 rfl rfl rfl))) ?_
        obtain ⟨q4, e_q4, hf⟩ := bnd hf
        refine Ex.callV (a := 67) (As := [.int x1, .int 3]) (r := []) (v := some (.int q4.1)) (h' := q4.2) rfl rfl (by decide) rfl (Nat.le_of_ble_eq_true rfl) rfl (E_434 (Nat.le_trans (by decide) hd) e_q4) rfl ?_
        exact Ex.weak (sm_le_n (sm_le_n (sm_le_n (sm_le_n (sm_le_n sm_le_nil))))) (B_438_48 hd  hf hs)
      · rw [if_pos (Classical.not_not.mp c0)] at hf
        exact Ex.weak (sm_le_n (sm_le_n (sm_le_n (sm_le_n (sm_le_n sm_le_nil))))) (B_438_38 hd  hf hs)
theorem E_438 {L : Nat} {xs : Nat → Int32} {d : Nat} (hd : 11 ≤ d) {x1 : Int32} {x2 : Int32} {x3 : Int32} {x4 : Int32} {h : sm_H} {r : Int32 × sm_H} (hf : F_438 x1 x2 x3 x4 h = some r) : RUN L xs d 438 [.ref 67, .int x1, .int x2, .int x3, .int x4] h (some (.int r.1), r.2) := by
  obtain ⟨d, rfl⟩ : ∃ e, d = e + 1 := ⟨d - 1, by omega⟩
  exact ⟨Nat.le_of_ble_eq_true rfl, B_438_0 (by omega) hf rfl⟩
theorem B_439_98 {L : Nat} {xs : Nat → Int32} {d : Nat} (hd : 0 ≤ d) {res : Option Value × sm_H} {z0 : Int64}  {h : sm_H} {r : (Int64 × sm_H)} (hf : F_439_98 z0 h = some r) (hs : (fun (r : Int64 × sm_H) => res = (some (.long r.1), r.2)) r) : Ex (P_G L xs) (RUN L xs d) (sm_lk P_t439) 0 98 [none, none, none, none, none, none, none] [.long z0] h res := by
  unfold F_439_98 at hf
  obtain rfl := Option.some.inj hf
  exact Ex.lret rfl rfl hs
theorem B_439_77 {L : Nat} {xs : Nat → Int32} {d : Nat} (hd : 0 ≤ d) {res : Option Value × sm_H} {y4 : Int32} {z0 : Int64}  {h : sm_H} {r : (Int64 × sm_H)} (hf : F_439_77 y4 z0 h = some r) (hs : (fun (r : Int64 × sm_H) => res = (some (.long r.1), r.2)) r) : Ex (P_G L xs) (RUN L xs d) (sm_lk P_t439) 0 77 [none, none, none, none, some (.int y4), none, none] [.long z0] h res := by
  unfold F_439_77 at hf
  refine Ex.seg 2 (pc' := 81) (lc' := [none, none, none, none, some (.int y4), some (.long z0), none]) (st' := [.int y4]) (h' := h) (sg1 rfl rfl (sg1 rfl rfl rfl)) ?_
  refine Ex.ifc rfl rfl (fun (c0 : ¬ (y4 = 0)) => ?_) (fun (c0 : ¬ ¬ (y4 = 0)) => ?_)
  · rw [if_neg c0] at hf
    refine Ex.seg 6 (pc' := 98) (lc' := [none, none, none, none, some (.int y4), some (.long z0), none]) (st' := [.long ((z0 <<< (Int32.toInt64 8 &&& 63)) ||| (Int32.toInt64 y4))]) (h' := h) (sg1 rfl rfl (sg1 rfl rfl (sg1 rfl rfl (sg1 rfl rfl (sg1 rfl rfl (sg1 rfl rfl rfl)))))) ?_
    exact Ex.weak (sm_le_s (sm_le_s (sm_le_s (sm_le_s (sm_le_n (sm_le_n (sm_le_s sm_le_nil))))))) (B_439_98 hd  hf hs)
  · rw [if_pos (Classical.not_not.mp c0)] at hf
    refine Ex.seg 2 (pc' := 98) (lc' := [none, none, none, none, some (.int y4), some (.long z0), none]) (st' := [.long z0]) (h' := h) (sg1 rfl rfl (sg1 rfl rfl rfl)) ?_
    exact Ex.weak (sm_le_s (sm_le_s (sm_le_s (sm_le_s (sm_le_n (sm_le_n (sm_le_s sm_le_nil))))))) (B_439_98 hd  hf hs)
theorem B_439_58 {L : Nat} {xs : Nat → Int32} {d : Nat} (hd : 0 ≤ d) {res : Option Value × sm_H} {y3 : Int32} {y4 : Int32} {z0 : Int64}  {h : sm_H} {r : (Int64 × sm_H)} (hf : F_439_58 y3 y4 z0 h = some r) (hs : (fun (r : Int64 × sm_H) => res = (some (.long r.1), r.2)) r) : Ex (P_G L xs) (RUN L xs d) (sm_lk P_t439) 0 58 [none, none, none, some (.int y3), some (.int y4), none, none] [.long z0] h res := by
  unfold F_439_58 at hf
  refine Ex.seg 2 (pc' := 61) (lc' := [none, none, none, some (.int y3), some (.int y4), some (.long z0), none]) (st' := [.int y3]) (h' := h) (sg1 rfl rfl (sg1 rfl rfl rfl)) ?_
  refine Ex.ifc rfl rfl (fun (c0 : ¬ (y3 = 0)) => ?_) (fun (c0 : ¬ ¬ (y3 = 0)) => ?_)
  · rw [if_neg c0] at hf
    refine Ex.seg 6 (pc' := 77) (lc' := [none, none, none, some (.int y3), some (.int y4), some (.long z0), none]) (st' := [.long ((z0 <<< (Int32.toInt64 8 &&& 63)) ||| (Int32.toInt64 y3))]) (h' := h) (sg1 rfl rfl (sg1 rfl rfl (sg1 rfl rfl (sg1 rfl rfl (sg1 rfl rfl (sg1 rfl rfl rfl)))))) ?_
    exact Ex.weak (sm_le_s (sm_le_s (sm_le_s (sm_le_n (sm_le_s (sm_le_n (sm_le_s sm_le_nil))))))) (B_439_77 hd  hf hs)
  · rw [if_pos (Classical.not_not.mp c0)] at hf
    refine Ex.seg 2 (pc' := 77) (lc' := [none, none, none, some (.int y3), some (.int y4), some (.long z0), none]) (st' := [.long z0]) (h' := h) (sg1 rfl rfl (sg1 rfl rfl rfl)) ?_
    exact Ex.weak (sm_le_s (sm_le_s (sm_le_s (sm_le_n (sm_le_s (sm_le_n (sm_le_s sm_le_nil))))))) (B_439_77 hd  hf hs)
theorem B_439_39 {L : Nat} {xs : Nat → Int32} {d : Nat} (hd : 0 ≤ d) {res : Option Value × sm_H} {y2 : Int32} {y3 : Int32} {y4 : Int32} {z0 : Int64}  {h : sm_H} {r : (Int64 × sm_H)} (hf : F_439_39 y2 y3 y4 z0 h = some r) (hs : (fun (r : Int64 × sm_H) => res = (some (.long r.1), r.2)) r) : Ex (P_G L xs) (RUN L xs d) (sm_lk P_t439) 0 39 [none, none, some (.int y2), some (.int y3), some (.int y4), none, none] [.long z0] h res := by
  unfold F_439_39 at hf
  refine Ex.seg 2 (pc' := 42) (lc' := [none, none, some (.int y2), some (.int y3), some (.int y4), some (.long z0), none]) (st' := [.int y2]) (h' := h) (sg1 rfl rfl (sg1 rfl rfl rfl)) ?_
  refine Ex.ifc rfl rfl (fun (c0 : ¬ (y2 = 0)) => ?_) (fun (c0 : ¬ ¬ (y2 = 0)) => ?_)
  · rw [if_neg c0] at hf
    refine Ex.seg 6 (pc' := 58) (lc' := [none, none, some (.int y2), some (.int y3), some (.int y4), some (.long z0), none]) (st' := [.long ((z0 <<< (Int32.toInt64 8 &&& 63)) ||| (Int32.toInt64 y2))]) (h' := h) (sg1 rfl rfl (sg1 rfl rfl (sg1 rfl rfl (sg1 rfl rfl (sg1 rfl rfl (sg1 rfl rfl rfl)))))) ?_
    exact Ex.weak (sm_le_s (sm_le_s (sm_le_n (sm_le_s (sm_le_s (sm_le_n (sm_le_s sm_le_nil))))))) (B_439_58 hd  hf hs)
  · rw [if_pos (Classical.not_not.mp c0)] at hf
    refine Ex.seg 2 (pc' := 58) (lc' := [none, none, some (.int y2), some (.int y3), some (.int y4), some (.long z0), none]) (st' := [.long z0]) (h' := h) (sg1 rfl rfl (sg1 rfl rfl rfl)) ?_
    exact Ex.weak (sm_le_s (sm_le_s (sm_le_n (sm_le_s (sm_le_s (sm_le_n (sm_le_s sm_le_nil))))))) (B_439_58 hd  hf hs)
theorem B_439_20 {L : Nat} {xs : Nat → Int32} {d : Nat} (hd : 0 ≤ d) {res : Option Value × sm_H} {y1 : Int32} {y2 : Int32} {y3 : Int32} {y4 : Int32} {z0 : Int64}  {h : sm_H} {r : (Int64 × sm_H)} (hf : F_439_20 y1 y2 y3 y4 z0 h = some r) (hs : (fun (r : Int64 × sm_H) => res = (some (.long r.1), r.2)) r) : Ex (P_G L xs) (RUN L xs d) (sm_lk P_t439) 0 20 [none, some (.int y1), some (.int y2), some (.int y3), some (.int y4), none, none] [.long z0] h res := by
  unfold F_439_20 at hf
  refine Ex.seg 2 (pc' := 23) (lc' := [none, some (.int y1), some (.int y2), some (.int y3), some (.int y4), some (.long z0), none]) (st' := [.int y1]) (h' := h) (sg1 rfl rfl (sg1 rfl rfl rfl)) ?_
  refine Ex.ifc rfl rfl (fun (c0 : ¬ (y1 = 0)) => ?_) (fun (c0 : ¬ ¬ (y1 = 0)) => ?_)
  · rw [if_neg c0] at hf
    refine Ex.seg 6 (pc' := 39) (lc' := [none, some (.int y1), some (.int y2), some (.int y3), some (.int y4), some (.long z0), none]) (st' := [.long ((z0 <<< (Int32.toInt64 8 &&& 63)) ||| (Int32.toInt64 y1))]) (h' := h) (sg1 rfl rfl (sg1 rfl rfl (sg1 rfl rfl (sg1 rfl rfl (sg1 rfl rfl (sg1 rfl rfl rfl)))))) ?_
    exact Ex.weak (sm_le_s (sm_le_n (sm_le_s (sm_le_s (sm_le_s (sm_le_n (sm_le_s sm_le_nil))))))) (B_439_39 hd  hf hs)
  · rw [if_pos (Classical.not_not.mp c0)] at hf
    refine Ex.seg 2 (pc' := 39) (lc' := [none, some (.int y1), some (.int y2), some (.int y3), some (.int y4), some (.long z0), none]) (st' := [.long z0]) (h' := h) (sg1 rfl rfl (sg1 rfl rfl rfl)) ?_
    exact Ex.weak (sm_le_s (sm_le_n (sm_le_s (sm_le_s (sm_le_s (sm_le_n (sm_le_s sm_le_nil))))))) (B_439_39 hd  hf hs)
theorem B_439_0 {L : Nat} {xs : Nat → Int32} {d : Nat} (hd : 0 ≤ d) {res : Option Value × sm_H} {x0 : Int32} {x1 : Int32} {x2 : Int32} {x3 : Int32} {x4 : Int32}  {h : sm_H} {r : (Int64 × sm_H)} (hf : F_439_0 x0 x1 x2 x3 x4 h = some r) (hs : (fun (r : Int64 × sm_H) => res = (some (.long r.1), r.2)) r) : Ex (P_G L xs) (RUN L xs d) (sm_lk P_t439) 0 0 [some (.int x0), some (.int x1), some (.int x2), some (.int x3), some (.int x4), none, none] [] h res := by
  unfold F_439_0 at hf
  refine Ex.seg 3 (pc' := 4) (lc' := [some (.int x0), some (.int x1), some (.int x2), some (.int x3), some (.int x4), some (.long 0), none]) (st' := [.int x0]) (h' := h) (sg1 rfl rfl (sg1 rfl rfl (sg1 rfl rfl rfl))) ?_
  refine Ex.ifc rfl rfl (fun (c0 : ¬ (x0 = 0)) => ?_) (fun (c0 : ¬ ¬ (x0 = 0)) => ?_)
  · rw [if_neg c0] at hf
    refine Ex.seg 6 (pc' := 20) (lc' := [some (.int x0), some (.int x1), some (.int x2), some (.int x3), some (.int x4), some (.long 0), none]) (st' := [.long ((0 <<< (Int32.toInt64 8 &&& 63)) ||| (Int32.toInt64 x0))]) (h' := h) (sg1 rfl rfl (sg1 rfl rfl (sg1 rfl rfl (sg1 rfl rfl (sg1 rfl rfl (sg1 rfl rfl rfl)))))) ?_
    exact Ex.weak (sm_le_n (sm_le_s (sm_le_s (sm_le_s (sm_le_s (sm_le_n (sm_le_s sm_le_nil))))))) (B_439_20 hd  hf hs)
  · rw [if_pos (Classical.not_not.mp c0)] at hf
    refine Ex.seg 2 (pc' := 20) (lc' := [some (.int x0), some (.int x1), some (.int x2), some (.int x3), some (.int x4), some (.long 0), none]) (st' := [.long 0]) (h' := h) (sg1 rfl rfl (sg1 rfl rfl rfl)) ?_
    exact Ex.weak (sm_le_n (sm_le_s (sm_le_s (sm_le_s (sm_le_s (sm_le_n (sm_le_s sm_le_nil))))))) (B_439_20 hd  hf hs)
theorem E_439 {L : Nat} {xs : Nat → Int32} {d : Nat} (hd : 1 ≤ d) {x0 : Int32} {x1 : Int32} {x2 : Int32} {x3 : Int32} {x4 : Int32} {h : sm_H} {r : Int64 × sm_H} (hf : F_439 x0 x1 x2 x3 x4 h = some r) : RUN L xs d 439 [.int x0, .int x1, .int x2, .int x3, .int x4] h (some (.long r.1), r.2) := by
  obtain ⟨d, rfl⟩ : ∃ e, d = e + 1 := ⟨d - 1, by omega⟩
  exact ⟨Nat.le_of_ble_eq_true rfl, B_439_0 (by omega) hf rfl⟩
theorem B_441_109 {L : Nat} {xs : Nat → Int32} {d : Nat} (hd : 0 ≤ d) {res : Option Value × sm_H} {z0 : Int32}  {h : sm_H} {r : (Int32 × sm_H)} (hf : F_441_109 z0 h = some r) (hs : (fun (r : Int32 × sm_H) => res = (some (.int r.1), r.2)) r) : Ex (P_G L xs) (RUN L xs d) (sm_lk P_t441) 0 109 [none, none] [.int z0] h res := by
  unfold F_441_109 at hf
  obtain rfl := Option.some.inj hf
  exact Ex.iret rfl rfl (fun c0 => by cases c0) hs
theorem B_441_0 {L : Nat} {xs : Nat → Int32} {d : Nat} (hd : 0 ≤ d) {res : Option Value × sm_H} {x0 : Int64}  {h : sm_H} {r : (Int32 × sm_H)} (hf : F_441_0 x0 h = some r) (hs : (fun (r : Int32 × sm_H) => res = (some (.int r.1), r.2)) r) : Ex (P_G L xs) (RUN L xs d) (sm_lk P_t441) 0 0 [some (.long x0), none] [] h res := by
  unfold F_441_0 at hf
  refine Ex.seg 3 (pc' := 5) (lc' := [some (.long x0), none]) (st' := [.int (lg_cmp x0 43)]) (h' := h) (sg1 rfl rfl (sg1 rfl rfl (sg1 rfl rfl rfl))) ?_
  refine Ex.ifc rfl rfl (fun (c0 : ¬ ((lg_cmp x0 43) = 0)) => ?_) (fun (c0 : ¬ ¬ ((lg_cmp x0 43) = 0)) => ?_)
  · rw [if_neg c0] at hf
    refine Ex.seg 3 (pc' := 15) (lc' := [some (.long x0), none]) (st' := [.int (lg_cmp x0 45)]) (h' := h) (sg1 rfl rfl (sg1 rfl rfl (sg1 rfl rfl rfl))) ?_
    refine Ex.ifc rfl rfl (fun (c0 : ¬ ((lg_cmp x0 45) = 0)) => ?_) (fun (c0 : ¬ ¬ ((lg_cmp x0 45) = 0)) => ?_)
    · rw [if_neg c0] at hf
      refine Ex.seg 3 (pc' := 25) (lc' := [some (.long x0), none]) (st' := [.int (lg_cmp x0 42)]) (h' := h) (sg1 rfl rfl (sg1 rfl rfl (sg1 rfl rfl rfl))) ?_
      refine Ex.ifc rfl rfl (fun (c0 : ¬ ((lg_cmp x0 42) = 0)) => ?_) (fun (c0 : ¬ ¬ ((lg_cmp x0 42) = 0)) => ?_)
      · rw [if_neg c0] at hf
        refine Ex.seg 3 (pc' := 35) (lc' := [some (.long x0), none]) (st' := [.int (lg_cmp x0 47)]) (h' := h) (sg1 rfl rfl (sg1 rfl rfl (sg1 rfl rfl rfl))) ?_
        refine Ex.ifc rfl rfl (fun (c0 : ¬ ((lg_cmp x0 47) = 0)) => ?_) (fun (c0 : ¬ ¬ ((lg_cmp x0 47) = 0)) => ?_)
        · rw [if_neg c0] at hf
          refine Ex.seg 3 (pc' := 45) (lc' := [some (.long x0), none]) (st' := [.int (lg_cmp x0 37)]) (h' := h) (sg1 rfl rfl (sg1 rfl rfl (sg1 rfl rfl rfl))) ?_
          refine Ex.ifc rfl rfl (fun (c0 : ¬ ((lg_cmp x0 37) = 0)) => ?_) (fun (c0 : ¬ ¬ ((lg_cmp x0 37) = 0)) => ?_)
          · rw [if_neg c0] at hf
            refine Ex.seg 3 (pc' := 55) (lc' := [some (.long x0), none]) (st' := [.int (lg_cmp x0 38)]) (h' := h) (sg1 rfl rfl (sg1 rfl rfl (sg1 rfl rfl rfl))) ?_
            refine Ex.ifc rfl rfl (fun (c0 : ¬ ((lg_cmp x0 38) = 0)) => ?_) (fun (c0 : ¬ ¬ ((lg_cmp x0 38) = 0)) => ?_)
            · rw [if_neg c0] at hf
              refine Ex.seg 3 (pc' := 65) (lc' := [some (.long x0), none]) (st' := [.int (lg_cmp x0 124)]) (h' := h) (sg1 rfl rfl (sg1 rfl rfl (sg1 rfl rfl rfl))) ?_
              refine Ex.ifc rfl rfl (fun (c0 : ¬ ((lg_cmp x0 124) = 0)) => ?_) (fun (c0 : ¬ ¬ ((lg_cmp x0 124) = 0)) => ?_)
              · rw [if_neg c0] at hf
                refine Ex.seg 3 (pc' := 76) (lc' := [some (.long x0), none]) (st' := [.int (lg_cmp x0 94)]) (h' := h) (sg1 rfl rfl (sg1 rfl rfl (sg1 rfl rfl rfl))) ?_
                refine Ex.ifc rfl rfl (fun (c0 : ¬ ((lg_cmp x0 94) = 0)) => ?_) (fun (c0 : ¬ ¬ ((lg_cmp x0 94) = 0)) => ?_)
                · rw [if_neg c0] at hf
                  refine Ex.seg 3 (pc' := 87) (lc' := [some (.long x0), none]) (st' := [.int (lg_cmp x0 60)]) (h' := h) (sg1 rfl rfl (sg1 rfl rfl (sg1 rfl rfl rfl))) ?_
                  refine Ex.ifc rfl rfl (fun (c0 : ¬ ((lg_cmp x0 60) = 0)) => ?_) (fun (c0 : ¬ ¬ ((lg_cmp x0 60) = 0)) => ?_)
                  · rw [if_neg c0] at hf
                    refine Ex.seg 3 (pc' := 100) (lc' := [some (.long x0), none]) (st' := [.int (lg_cmp x0 61)]) (h' := h) (sg1 rfl rfl (sg1 rfl rfl (sg1 rfl rfl rfl))) ?_
                    refine Ex.ifc rfl rfl (fun (c0 : ¬ ((lg_cmp x0 61) = 0)) => ?_) (fun (c0 : ¬ ¬ ((lg_cmp x0 61) = 0)) => ?_)
                    · rw [if_neg c0] at hf
                      refine Ex.seg 1 (pc' := 109) (lc' := [some (.long x0), none]) (st' := [.int (-1)]) (h' := h) (sg1 rfl rfl rfl) ?_
                      exact Ex.weak (sm_le_n (sm_le_s sm_le_nil)) (B_441_109 hd  hf hs)
                    · rw [if_pos (Classical.not_not.mp c0)] at hf
                      refine Ex.seg 2 (pc' := 109) (lc' := [some (.long x0), none]) (st' := [.int 12]) (h' := h) (sg1 rfl rfl (sg1 rfl rfl rfl)) ?_
                      exact Ex.weak (sm_le_n (sm_le_s sm_le_nil)) (B_441_109 hd  hf hs)
                  · rw [if_pos (Classical.not_not.mp c0)] at hf
                    refine Ex.seg 2 (pc' := 109) (lc' := [some (.long x0), none]) (st' := [.int 11]) (h' := h) (sg1 rfl rfl (sg1 rfl rfl rfl)) ?_
                    exact Ex.weak (sm_le_n (sm_le_s sm_le_nil)) (B_441_109 hd  hf hs)
                · rw [if_pos (Classical.not_not.mp c0)] at hf
                  refine Ex.seg 1 (pc' := 81) (lc' := [some (.long x0), none]) (st' := [.int 7]) (h' := h) (sg1 rfl rfl rfl) ?_
                  obtain rfl := Option.some.inj hf
                  exact Ex.iret rfl rfl (fun c0 => by cases c0) hs
              · rw [if_pos (Classical.not_not.mp c0)] at hf
                refine Ex.seg 1 (pc' := 70) (lc' := [some (.long x0), none]) (st' := [.int 6]) (h' := h) (sg1 rfl rfl rfl) ?_
                obtain rfl := Option.some.inj hf
                exact Ex.iret rfl rfl (fun c0 => by cases c0) hs
            · rw [if_pos (Classical.not_not.mp c0)] at hf
              refine Ex.seg 1 (pc' := 59) (lc' := [some (.long x0), none]) (st' := [.int 5]) (h' := h) (sg1 rfl rfl rfl) ?_
              obtain rfl := Option.some.inj hf
              exact Ex.iret rfl rfl (fun c0 => by cases c0) hs
          · rw [if_pos (Classical.not_not.mp c0)] at hf
            refine Ex.seg 1 (pc' := 49) (lc' := [some (.long x0), none]) (st' := [.int 4]) (h' := h) (sg1 rfl rfl rfl) ?_
            obtain rfl := Option.some.inj hf
            exact Ex.iret rfl rfl (fun c0 => by cases c0) hs
        · rw [if_pos (Classical.not_not.mp c0)] at hf
          refine Ex.seg 1 (pc' := 39) (lc' := [some (.long x0), none]) (st' := [.int 3]) (h' := h) (sg1 rfl rfl rfl) ?_
          obtain rfl := Option.some.inj hf
          exact Ex.iret rfl rfl (fun c0 => by cases c0) hs
      · rw [if_pos (Classical.not_not.mp c0)] at hf
        refine Ex.seg 1 (pc' := 29) (lc' := [some (.long x0), none]) (st' := [.int 2]) (h' := h) (sg1 rfl rfl rfl) ?_
        obtain rfl := Option.some.inj hf
        exact Ex.iret rfl rfl (fun c0 => by cases c0) hs
    · rw [if_pos (Classical.not_not.mp c0)] at hf
      refine Ex.seg 1 (pc' := 19) (lc' := [some (.long x0), none]) (st' := [.int 1]) (h' := h) (sg1 rfl rfl rfl) ?_
      obtain rfl := Option.some.inj hf
      exact Ex.iret rfl rfl (fun c0 => by cases c0) hs
  · rw [if_pos (Classical.not_not.mp c0)] at hf
    refine Ex.seg 1 (pc' := 9) (lc' := [some (.long x0), none]) (st' := [.int 0]) (h' := h) (sg1 rfl rfl rfl) ?_
    obtain rfl := Option.some.inj hf
    exact Ex.iret rfl rfl (fun c0 => by cases c0) hs
theorem E_441 {L : Nat} {xs : Nat → Int32} {d : Nat} (hd : 1 ≤ d) {x0 : Int64} {h : sm_H} {r : Int32 × sm_H} (hf : F_441 x0 h = some r) : RUN L xs d 441 [.long x0] h (some (.int r.1), r.2) := by
  obtain ⟨d, rfl⟩ : ∃ e, d = e + 1 := ⟨d - 1, by omega⟩
  exact ⟨Nat.le_of_ble_eq_true rfl, B_441_0 (by omega) hf rfl⟩
theorem B_442_96 {L : Nat} {xs : Nat → Int32} {d : Nat} (hd : 0 ≤ d) {res : Option Value × sm_H}   {h : sm_H} {r : (Int32 × sm_H)} (hf : F_442_96  h = some r) (hs : (fun (r : Int32 × sm_H) => res = (some (.int r.1), r.2)) r) : Ex (P_G L xs) (RUN L xs d) (sm_lk P_t442) 0 96 [none] [] h res := by
  unfold F_442_96 at hf
  refine Ex.seg 1 (pc' := 97) (lc' := [none]) (st' := [.int (-1)]) (h' := h) (sg1 rfl rfl rfl) ?_
  obtain rfl := Option.some.inj hf
  exact Ex.iret rfl rfl (fun c0 => by cases c0) hs
theorem B_442_92 {L : Nat} {xs : Nat → Int32} {d : Nat} (hd : 0 ≤ d) {res : Option Value × sm_H}   {h : sm_H} {r : (Int32 × sm_H)} (hf : F_442_92  h = some r) (hs : (fun (r : Int32 × sm_H) => res = (some (.int r.1), r.2)) r) : Ex (P_G L xs) (RUN L xs d) (sm_lk P_t442) 0 92 [none] [] h res := by
  unfold F_442_92 at hf
  refine Ex.seg 1 (pc' := 93) (lc' := [none]) (st' := [.int 3]) (h' := h) (sg1 rfl rfl rfl) ?_
  obtain rfl := Option.some.inj hf
  exact Ex.iret rfl rfl (fun c0 => by cases c0) hs
theorem B_442_90 {L : Nat} {xs : Nat → Int32} {d : Nat} (hd : 0 ≤ d) {res : Option Value × sm_H}   {h : sm_H} {r : (Int32 × sm_H)} (hf : F_442_90  h = some r) (hs : (fun (r : Int32 × sm_H) => res = (some (.int r.1), r.2)) r) : Ex (P_G L xs) (RUN L xs d) (sm_lk P_t442) 0 90 [none] [] h res := by
  unfold F_442_90 at hf
  refine Ex.seg 1 (pc' := 91) (lc' := [none]) (st' := [.int 2]) (h' := h) (sg1 rfl rfl rfl) ?_
  obtain rfl := Option.some.inj hf
  exact Ex.iret rfl rfl (fun c0 => by cases c0) hs
theorem B_442_88 {L : Nat} {xs : Nat → Int32} {d : Nat} (hd : 0 ≤ d) {res : Option Value × sm_H}   {h : sm_H} {r : (Int32 × sm_H)} (hf : F_442_88  h = some r) (hs : (fun (r : Int32 × sm_H) => res = (some (.int r.1), r.2)) r) : Ex (P_G L xs) (RUN L xs d) (sm_lk P_t442) 0 88 [none] [] h res := by
  unfold F_442_88 at hf
  refine Ex.seg 1 (pc' := 89) (lc' := [none]) (st' := [.int 1]) (h' := h) (sg1 rfl rfl rfl) ?_
  obtain rfl := Option.some.inj hf
  exact Ex.iret rfl rfl (fun c0 => by cases c0) hs
theorem B_442_0 {L : Nat} {xs : Nat → Int32} {d : Nat} (hd : 0 ≤ d) {res : Option Value × sm_H} {x0 : Int32}  {h : sm_H} {r : (Int32 × sm_H)} (hf : F_442_0 x0 h = some r) (hs : (fun (r : Int32 × sm_H) => res = (some (.int r.1), r.2)) r) : Ex (P_G L xs) (RUN L xs d) (sm_lk P_t442) 0 0 [some (.int x0)] [] h res := by
  unfold F_442_0 at hf
  refine Ex.seg 1 (pc' := 1) (lc' := [some (.int x0)]) (st' := [.int x0]) (h' := h) (sg1 rfl rfl rfl) ?_
  rcases Classical.em (x0 = 0) with n1 | n1
  · rw [if_pos n1] at hf
    refine Ex.swt (t := 88) rfl rfl (by rw [n1]; exact Or.inr ⟨by decide, by decide, _, rfl, by decide⟩) ?_
    exact Ex.weak (sm_le_n sm_le_nil) (B_442_88 hd  hf hs)
  rw [if_neg n1] at hf
  rcases Classical.em (x0 = 1) with n2 | n2
  · rw [if_pos n2] at hf
    refine Ex.swt (t := 90) rfl rfl (by rw [n2]; exact Or.inr ⟨by decide, by decide, _, rfl, by decide⟩) ?_
    exact Ex.weak (sm_le_n sm_le_nil) (B_442_90 hd  hf hs)
  rw [if_neg n2] at hf
  rcases Classical.em (x0 = 2) with n3 | n3
  · rw [if_pos n3] at hf
    refine Ex.swt (t := 92) rfl rfl (by rw [n3]; exact Or.inr ⟨by decide, by decide, _, rfl, by decide⟩) ?_
    exact Ex.weak (sm_le_n sm_le_nil) (B_442_92 hd  hf hs)
  rw [if_neg n3] at hf
  rcases Classical.em (x0 = 4) with n4 | n4
  · rw [if_pos n4] at hf
    refine Ex.swt (t := 90) rfl rfl (by rw [n4]; exact Or.inr ⟨by decide, by decide, _, rfl, by decide⟩) ?_
    exact Ex.weak (sm_le_n sm_le_nil) (B_442_90 hd  hf hs)
  rw [if_neg n4] at hf
  rcases Classical.em (x0 = 7) with n5 | n5
  · rw [if_pos n5] at hf
    refine Ex.swt (t := 88) rfl rfl (by rw [n5]; exact Or.inr ⟨by decide, by decide, _, rfl, by decide⟩) ?_
    exact Ex.weak (sm_le_n sm_le_nil) (B_442_88 hd  hf hs)
  rw [if_neg n5] at hf
  rcases Classical.em (x0 = 8) with n6 | n6
  · rw [if_pos n6] at hf
    refine Ex.swt (t := 88) rfl rfl (by rw [n6]; exact Or.inr ⟨by decide, by decide, _, rfl, by decide⟩) ?_
    exact Ex.weak (sm_le_n sm_le_nil) (B_442_88 hd  hf hs)
  rw [if_neg n6] at hf
  rcases Classical.em (x0 = 9) with n7 | n7
  · rw [if_pos n7] at hf
    refine Ex.swt (t := 94) rfl rfl (by rw [n7]; exact Or.inr ⟨by decide, by decide, _, rfl, by decide⟩) ?_
    refine Ex.seg 1 (pc' := 95) (lc' := [some (.int x0)]) (st' := [.int 0]) (h' := h) (sg1 rfl rfl rfl) ?_
    obtain rfl := Option.some.inj hf
    exact Ex.iret rfl rfl (fun c0 => by cases c0) hs
  rw [if_neg n7] at hf
  rcases Classical.em (x0 = 10) with n8 | n8
  · rw [if_pos n8] at hf
    refine Ex.swt (t := 88) rfl rfl (by rw [n8]; exact Or.inr ⟨by decide, by decide, _, rfl, by decide⟩) ?_
    exact Ex.weak (sm_le_n sm_le_nil) (B_442_88 hd  hf hs)
  rw [if_neg n8] at hf
  rcases Classical.em (x0 = 11) with n9 | n9
  · rw [if_pos n9] at hf
    refine Ex.swt (t := 88) rfl rfl (by rw [n9]; exact Or.inr ⟨by decide, by decide, _, rfl, by decide⟩) ?_
    exact Ex.weak (sm_le_n sm_le_nil) (B_442_88 hd  hf hs)
  rw [if_neg n9] at hf
  rcases Classical.em (x0 = 12) with n10 | n10
  · rw [if_pos n10] at hf
    refine Ex.swt (t := 90) rfl rfl (by rw [n10]; exact Or.inr ⟨by decide, by decide, _, rfl, by decide⟩) ?_
    exact Ex.weak (sm_le_n sm_le_nil) (B_442_90 hd  hf hs)
  rw [if_neg n10] at hf
  rcases Classical.em (x0 = 13) with n11 | n11
  · rw [if_pos n11] at hf
    refine Ex.swt (t := 92) rfl rfl (by rw [n11]; exact Or.inr ⟨by decide, by decide, _, rfl, by decide⟩) ?_
    exact Ex.weak (sm_le_n sm_le_nil) (B_442_92 hd  hf hs)
  rw [if_neg n11] at hf
  rcases Classical.em (x0 = 14) with n12 | n12
  · rw [if_pos n12] at hf
    refine Ex.swt (t := 88) rfl rfl (by rw [n12]; exact Or.inr ⟨by decide, by decide, _, rfl, by decide⟩) ?_
    exact Ex.weak (sm_le_n sm_le_nil) (B_442_88 hd  hf hs)
  rw [if_neg n12] at hf
  rcases Classical.em (x0 = 15) with n13 | n13
  · rw [if_pos n13] at hf
    refine Ex.swt (t := 90) rfl rfl (by rw [n13]; exact Or.inr ⟨by decide, by decide, _, rfl, by decide⟩) ?_
    exact Ex.weak (sm_le_n sm_le_nil) (B_442_90 hd  hf hs)
  rw [if_neg n13] at hf
  rcases Classical.em (x0 = 16) with n14 | n14
  · rw [if_pos n14] at hf
    refine Ex.swt (t := 88) rfl rfl (by rw [n14]; exact Or.inr ⟨by decide, by decide, _, rfl, by decide⟩) ?_
    exact Ex.weak (sm_le_n sm_le_nil) (B_442_88 hd  hf hs)
  rw [if_neg n14] at hf
  rcases Classical.em (x0 = 17) with n15 | n15
  · rw [if_pos n15] at hf
    refine Ex.swt (t := 88) rfl rfl (by rw [n15]; exact Or.inr ⟨by decide, by decide, _, rfl, by decide⟩) ?_
    exact Ex.weak (sm_le_n sm_le_nil) (B_442_88 hd  hf hs)
  rw [if_neg n15] at hf
  refine Ex.swt (t := 96) rfl rfl (sw_dflt (by decide) (by decide) (fun k hk he => ?_)) ?_
  · have hk : k < 18 := hk
    rcases (show k = 0 ∨ k = 1 ∨ k = 2 ∨ k = 3 ∨ k = 4 ∨ k = 5 ∨ k = 6 ∨ k = 7 ∨ k = 8 ∨ k = 9 ∨ k = 10 ∨ k = 11 ∨ k = 12 ∨ k = 13 ∨ k = 14 ∨ k = 15 ∨ k = 16 ∨ k = 17 by omega) with rfl | rfl | rfl | rfl | rfl | rfl | rfl | rfl | rfl | rfl | rfl | rfl | rfl | rfl | rfl | rfl | rfl | rfl
    · exact absurd (Int32.toInt_inj.mp (he.symm.trans (by decide : (_ : Int) = Int32.toInt 0))) n1
    · exact absurd (Int32.toInt_inj.mp (he.symm.trans (by decide : (_ : Int) = Int32.toInt 1))) n2
    · exact absurd (Int32.toInt_inj.mp (he.symm.trans (by decide : (_ : Int) = Int32.toInt 2))) n3
    · rfl
    · exact absurd (Int32.toInt_inj.mp (he.symm.trans (by decide : (_ : Int) = Int32.toInt 4))) n4
    · rfl
    · rfl
    · exact absurd (Int32.toInt_inj.mp (he.symm.trans (by decide : (_ : Int) = Int32.toInt 7))) n5
    · exact absurd (Int32.toInt_inj.mp (he.symm.trans (by decide : (_ : Int) = Int32.toInt 8))) n6
    · exact absurd (Int32.toInt_inj.mp (he.symm.trans (by decide : (_ : Int) = Int32.toInt 9))) n7
    · exact absurd (Int32.toInt_inj.mp (he.symm.trans (by decide : (_ : Int) = Int32.toInt 10))) n8
    · exact absurd (Int32.toInt_inj.mp (he.symm.trans (by decide : (_ : Int) = Int32.toInt 11))) n9
    · exact absurd (Int32.toInt_inj.mp (he.symm.trans (by decide : (_ : Int) = Int32.toInt 12))) n10
    · exact absurd (Int32.toInt_inj.mp (he.symm.trans (by decide : (_ : Int) = Int32.toInt 13))) n11
    · exact absurd (Int32.toInt_inj.mp (he.symm.trans (by decide : (_ : Int) = Int32.toInt 14))) n12
    · exact absurd (Int32.toInt_inj.mp (he.symm.trans (by decide : (_ : Int) = Int32.toInt 15))) n13
    · exact absurd (Int32.toInt_inj.mp (he.symm.trans (by decide : (_ : Int) = Int32.toInt 16))) n14
    · exact absurd (Int32.toInt_inj.mp (he.symm.trans (by decide : (_ : Int) = Int32.toInt 17))) n15
  exact Ex.weak (sm_le_n sm_le_nil) (B_442_96 hd  hf hs)
theorem E_442 {L : Nat} {xs : Nat → Int32} {d : Nat} (hd : 1 ≤ d) {x0 : Int32} {h : sm_H} {r : Int32 × sm_H} (hf : F_442 x0 h = some r) : RUN L xs d 442 [.int x0] h (some (.int r.1), r.2) := by
  obtain ⟨d, rfl⟩ : ∃ e, d = e + 1 := ⟨d - 1, by omega⟩
  exact ⟨Nat.le_of_ble_eq_true rfl, B_442_0 (by omega) hf rfl⟩
theorem B_443_2B {L : Nat} {xs : Nat → Int32} {d : Nat} (hd : 0 ≤ d) {res : Option Value × sm_H} {S1 : (Int64 × Int32 × sm_H) → Prop} (hS1 : ∀ s, S1 s → Ex (P_G L xs) (RUN L xs d) (sm_lk P_t443) 0 2 [some (.ref 67), some (.long s.1), none, some (.int s.2.1)] [] s.2.2 res) {s : (Int64 × Int32 × sm_H)}  {r : ((Int64 × Int32 × sm_H) ⊕ (Int32 × sm_H))} (hf : F_443_2B s = some r) (hs : (Sum.elim S1 (fun (r : Int32 × sm_H) => res = (some (.int r.1), r.2))) r) : Ex (P_G L xs) (RUN L xs d) (sm_lk P_t443) 0 2 [some (.ref 67), some (.long s.1), none, some (.int s.2.1)] [] s.2.2 res := by
  unfold F_443_2B at hf
  refine Ex.seg 3 (pc' := 7) (lc' := [some (.ref 67), some (.long s.1), none, some (.int s.2.1)]) (st' := [.int (s.2.2.1 67 91), .int s.2.1]) (h' := s.2.2) (sg1 rfl rfl (sg1 rfl rfl (sg1 rfl rfl rfl))) ?_
  refine Ex.icmp rfl rfl (fun (c0 : (s.2.2.1 67 91) ≤ s.2.1) => ?_) (fun (c0 : ¬ ((s.2.2.1 67 91) ≤ s.2.1)) => ?_)
  · rw [if_pos c0] at hf
    refine Ex.seg 1 (pc' := 30) (lc' := [some (.ref 67), some (.long s.1), none, some (.int s.2.1)]) (st' := [.int (-1)]) (h' := s.2.2) (sg1 rfl rfl rfl) ?_
    obtain rfl := Option.some.inj hf
    exact Ex.iret rfl rfl (fun c0 => by cases c0) hs
  · rw [if_neg c0] at hf
    refine Ex.seg 3 (pc' := 15) (lc' := [some (.ref 67), some (.long s.1), none, some (.int s.2.1)]) (st' := [.int s.2.1, .ref 113]) (h' := s.2.2) (sg1 rfl rfl (sg1 rfl rfl (sg1 rfl rfl rfl))) ?_
    obtain ⟨v1, e_v1, hf⟩ := bnd hf
    refine Ex.lald e_v1 rfl rfl ?_
    refine Ex.seg 2 (pc' := 18) (lc' := [some (.ref 67), some (.long s.1), none, some (.int s.2.1)]) (st' := [.int (lg_cmp v1 s.1)]) (h' := s.2.2) (sg1 rfl rfl (sg1 rfl rfl rfl)) ?_
    refine Ex.ifc rfl rfl (fun (c0 : ¬ ((lg_cmp v1 s.1) = 0)) => ?_) (fun (c0 : ¬ ¬ ((lg_cmp v1 s.1) = 0)) => ?_)
    · rw [if_neg c0] at hf
      refine Ex.seg 1 (pc' := 26) (lc' := [some (.ref 67), some (.long s.1), none, some (.int (s.2.1 + 1))]) (st' := []) (h' := s.2.2) (sg1 rfl rfl rfl) ?_
      obtain ⟨v2, e_v2, hf⟩ := bnd hf
      rw [Option.some.inj e_v2]
      refine Ex.seg 1 (pc' := 2) (lc' := [some (.ref 67), some (.long s.1), none, some (.int v2)]) (st' := []) (h' := s.2.2) (sg1 rfl rfl rfl) ?_
      obtain rfl := Option.some.inj hf
      exact Ex.weak (sm_le_s (sm_le_s (sm_le_s (sm_le_s sm_le_nil)))) (hS1 _ hs)
    · rw [if_pos (Classical.not_not.mp c0)] at hf
      refine Ex.seg 1 (pc' := 22) (lc' := [some (.ref 67), some (.long s.1), none, some (.int s.2.1)]) (st' := [.int s.2.1]) (h' := s.2.2) (sg1 rfl rfl rfl) ?_
      obtain rfl := Option.some.inj hf
      exact Ex.iret rfl rfl (fun c0 => by cases c0) hs
theorem B_443_2 {L : Nat} {xs : Nat → Int32} {d : Nat} (hd : 0 ≤ d) {res : Option Value × sm_H} {y1 : Int64} {y3 : Int32}  {h : sm_H} {r : (Int32 × sm_H)} (hf : F_443_2 y1 y3 h = some r) (hs : (fun (r : Int32 × sm_H) => res = (some (.int r.1), r.2)) r) : Ex (P_G L xs) (RUN L xs d) (sm_lk P_t443) 0 2 [some (.ref 67), some (.long y1), none, some (.int y3)] [] h res := by
  unfold F_443_2 at hf
  exact lp_ok (P := fun (s : (Int64 × Int32 × sm_H)) => Ex (P_G L xs) (RUN L xs d) (sm_lk P_t443) 0 2 [some (.ref 67), some (.long s.1), none, some (.int s.2.1)] [] s.2.2 res) (S := (fun (r : Int32 × sm_H) => res = (some (.int r.1), r.2))) (fun s x hx hsx => by
    intros
    exact B_443_2B hd  (fun _ q => q) hx hsx) 1000000 _ r hf hs
theorem B_443_0 {L : Nat} {xs : Nat → Int32} {d : Nat} (hd : 0 ≤ d) {res : Option Value × sm_H} {x1 : Int64}  {h : sm_H} {r : (Int32 × sm_H)} (hf : F_443_0 x1 h = some r) (hs : (fun (r : Int32 × sm_H) => res = (some (.int r.1), r.2)) r) : Ex (P_G L xs) (RUN L xs d) (sm_lk P_t443) 0 0 [some (.ref 67), some (.long x1), none, none] [] h res := by
  unfold F_443_0 at hf
  refine Ex.seg 2 (pc' := 2) (lc' := [some (.ref 67), some (.long x1), none, some (.int 0)]) (st' := []) (h' := h) (sg1 rfl rfl (sg1 rfl rfl rfl)) ?_
  exact Ex.weak (sm_le_s (sm_le_s (sm_le_s (sm_le_s sm_le_nil)))) (B_443_2 hd  hf hs)
theorem E_443 {L : Nat} {xs : Nat → Int32} {d : Nat} (hd : 1 ≤ d) {x1 : Int64} {h : sm_H} {r : Int32 × sm_H} (hf : F_443 x1 h = some r) : RUN L xs d 443 [.ref 67, .long x1] h (some (.int r.1), r.2) := by
  obtain ⟨d, rfl⟩ : ∃ e, d = e + 1 := ⟨d - 1, by omega⟩
  exact ⟨Nat.le_of_ble_eq_true rfl, B_443_0 (by omega) hf rfl⟩
theorem B_444_0 {L : Nat} {xs : Nat → Int32} {d : Nat} (hd : 0 ≤ d) {res : Option Value × sm_H} {x1 : Int64} {x3 : Int32}  {h : sm_H} {r : (sm_H)} (hf : F_444_0 x1 x3 h = some r) (hs : (fun (r : sm_H) => res = (none, r)) r) : Ex (P_G L xs) (RUN L xs d) (sm_lk P_t444) 0 0 [some (.ref 67), some (.long x1), none, some (.int x3)] [] h res := by
  unfold F_444_0 at hf
  refine Ex.seg 6 (pc' := 10) (lc' := [some (.ref 67), some (.long x1), none, some (.int x3)]) (st' := []) (h' := (sm_wI h 67 94 ((h.1 67 94) - 1))) (sg1 rfl rfl (sg1 rfl rfl (sg1 rfl rfl (sg1 rfl rfl (sg1 rfl rfl (sg1 rfl rfl rfl)))))) ?_
  obtain ⟨h1, e_h1, hf⟩ := bnd hf
  rw [Option.some.inj e_h1]
  refine Ex.seg 5 (pc' := 19) (lc' := [some (.ref 67), some (.long x1), none, some (.int x3)]) (st' := [.long x1, .int (h1.1 67 94), .ref 117]) (h' := h1) (sg1 rfl rfl (sg1 rfl rfl (sg1 rfl rfl (sg1 rfl rfl (sg1 rfl rfl rfl))))) ?_
  obtain ⟨h2, e_h2, hf⟩ := bnd hf
  refine Ex.last e_h2 rfl rfl ?_
  refine Ex.seg 5 (pc' := 29) (lc' := [some (.ref 67), some (.long x1), none, some (.int x3)]) (st' := [.int x3, .int (h2.1 67 94), .ref 118]) (h' := h2) (sg1 rfl rfl (sg1 rfl rfl (sg1 rfl rfl (sg1 rfl rfl (sg1 rfl rfl rfl))))) ?_
  obtain ⟨h3, e_h3, hf⟩ := bnd hf
  refine Ex.iast e_h3 rfl rfl ?_
  obtain rfl := Option.some.inj hf
  exact Ex.vret rfl rfl hs
theorem E_444 {L : Nat} {xs : Nat → Int32} {d : Nat} (hd : 1 ≤ d) {x1 : Int64} {x3 : Int32} {h : sm_H} {r : sm_H} (hf : F_444 x1 x3 h = some r) : RUN L xs d 444 [.ref 67, .long x1, .int x3] h (none, r) := by
  obtain ⟨d, rfl⟩ : ∃ e, d = e + 1 := ⟨d - 1, by omega⟩
  exact ⟨Nat.le_of_ble_eq_true rfl, B_444_0 (by omega) hf rfl⟩
theorem B_445_0 {L : Nat} {xs : Nat → Int32} {d : Nat} (hd : 0 ≤ d) {res : Option Value × sm_H} {x1 : Int32} {x2 : Int32}  {h : sm_H} {r : (sm_H)} (hf : F_445_0 x1 x2 h = some r) (hs : (fun (r : sm_H) => res = (none, r)) r) : Ex (P_G L xs) (RUN L xs d) (sm_lk P_t445) 0 0 [some (.ref 67), some (.int x1), some (.int x2)] [] h res := by
  unfold F_445_0 at hf
  refine Ex.seg 5 (pc' := 9) (lc' := [some (.ref 67), some (.int x1), some (.int x2)]) (st' := [.int x1, .int (h.1 67 102), .ref 119]) (h' := h) (sg1 rfl rfl (sg1 rfl rfl (sg1 rfl rfl (sg1 rfl rfl (sg1 rfl rfl rfl))))) ?_
  obtain ⟨h1, e_h1, hf⟩ := bnd hf
  refine Ex.iast e_h1 rfl rfl ?_
  refine Ex.seg 5 (pc' := 19) (lc' := [some (.ref 67), some (.int x1), some (.int x2)]) (st' := [.int x2, .int (h1.1 67 102), .ref 120]) (h' := h1) (sg1 rfl rfl (sg1 rfl rfl (sg1 rfl rfl (sg1 rfl rfl (sg1 rfl rfl rfl))))) ?_
  obtain ⟨h2, e_h2, hf⟩ := bnd hf
  refine Ex.iast e_h2 rfl rfl ?_
  refine Ex.seg 5 (pc' := 29) (lc' := [some (.ref 67), some (.int x1), some (.int x2)]) (st' := [.int 0, .int (h2.1 67 102), .ref 121]) (h' := h2) (sg1 rfl rfl (sg1 rfl rfl (sg1 rfl rfl (sg1 rfl rfl (sg1 rfl rfl rfl))))) ?_
  obtain ⟨h3, e_h3, hf⟩ := bnd hf
  refine Ex.iast e_h3 rfl rfl ?_
  refine Ex.seg 6 (pc' := 42) (lc' := [some (.ref 67), some (.int x1), some (.int x2)]) (st' := [.int (h3.1 67 94), .int (h3.1 67 102), .ref 123]) (h' := h3) (sg1 rfl rfl (sg1 rfl rfl (sg1 rfl rfl (sg1 rfl rfl (sg1 rfl rfl (sg1 rfl rfl rfl)))))) ?_
  obtain ⟨h4, e_h4, hf⟩ := bnd hf
  refine Ex.iast e_h4 rfl rfl ?_
  refine Ex.seg 5 (pc' := 52) (lc' := [some (.ref 67), some (.int x1), some (.int x2)]) (st' := [.int 0, .int (h4.1 67 102), .ref 124]) (h' := h4) (sg1 rfl rfl (sg1 rfl rfl (sg1 rfl rfl (sg1 rfl rfl (sg1 rfl rfl rfl))))) ?_
  obtain ⟨h5, e_h5, hf⟩ := bnd hf
  refine Ex.iast e_h5 rfl rfl ?_
  refine Ex.seg 5 (pc' := 62) (lc' := [some (.ref 67), some (.int x1), some (.int x2)]) (st' := [.int 0, .int (h5.1 67 102), .ref 122]) (h' := h5) (sg1 rfl rfl (sg1 rfl rfl (sg1 rfl rfl (sg1 rfl rfl (sg1 rfl rfl rfl))))) ?_
  obtain ⟨h6, e_h6, hf⟩ := bnd hf
  refine Ex.iast e_h6 rfl rfl ?_
  refine Ex.seg 6 (pc' := 73) (lc' := [some (.ref 67), some (.int x1), some (.int x2)]) (st' := []) (h' := (sm_wI h6 67 102 ((h6.1 67 102) + 1))) (sg1 rfl rfl (sg1 rfl rfl (sg1 rfl rfl (sg1 rfl rfl (sg1 rfl rfl (sg1 rfl rfl rfl)))))) ?_
  obtain ⟨h7, e_h7, hf⟩ := bnd hf
  rw [Option.some.inj e_h7]
  obtain rfl := Option.some.inj hf
  exact Ex.vret rfl rfl hs
theorem E_445 {L : Nat} {xs : Nat → Int32} {d : Nat} (hd : 1 ≤ d) {x1 : Int32} {x2 : Int32} {h : sm_H} {r : sm_H} (hf : F_445 x1 x2 h = some r) : RUN L xs d 445 [.ref 67, .int x1, .int x2] h (none, r) := by
  obtain ⟨d, rfl⟩ : ∃ e, d = e + 1 := ⟨d - 1, by omega⟩
  exact ⟨Nat.le_of_ble_eq_true rfl, B_445_0 (by omega) hf rfl⟩
theorem B_447_42 {L : Nat} {xs : Nat → Int32} {d : Nat} (hd : 0 ≤ d) {res : Option Value × sm_H} {y2 : Int32}  {h : sm_H} {r : (Int32 × sm_H)} (hf : F_447_42 y2 h = some r) (hs : (fun (r : Int32 × sm_H) => res = (some (.int r.1), r.2)) r) : Ex (P_G L xs) (RUN L xs d) (sm_lk P_t447) 3 42 [some (.ref 67), none, some (.int y2)] [] h res := by
  unfold F_447_42 at hf
  refine Ex.seg 4 (pc' := 48) (lc' := [some (.ref 67), none, some (.int y2)]) (st' := [.int y2, .ref 124, .int y2, .ref 124]) (h' := h) (sg1 rfl rfl (sg1 rfl rfl (sg1 rfl rfl (sg1 rfl rfl rfl)))) ?_
  obtain ⟨v1, e_v1, hf⟩ := bnd hf
  refine Ex.iald e_v1 rfl rfl ?_
  refine Ex.seg 2 (pc' := 51) (lc' := [some (.ref 67), none, some (.int y2)]) (st' := [.int (v1 + 1), .int y2, .ref 124]) (h' := h) (sg1 rfl rfl (sg1 rfl rfl rfl)) ?_
  obtain ⟨h2, e_h2, hf⟩ := bnd hf
  refine Ex.iast e_h2 rfl rfl ?_
  refine Ex.seg 1 (pc' := 53) (lc' := [some (.ref 67), none, some (.int y2)]) (st' := [.int 1]) (h' := h2) (sg1 rfl rfl rfl) ?_
  obtain rfl := Option.some.inj hf
  exact Ex.iret rfl rfl (fun _ => by decide) hs
theorem B_447_0 {L : Nat} {xs : Nat → Int32} {d : Nat} (hd : 0 ≤ d) {res : Option Value × sm_H} {x1 : Int32}  {h : sm_H} {r : (Int32 × sm_H)} (hf : F_447_0 x1 h = some r) (hs : (fun (r : Int32 × sm_H) => res = (some (.int r.1), r.2)) r) : Ex (P_G L xs) (RUN L xs d) (sm_lk P_t447) 3 0 [some (.ref 67), some (.int x1), none] [] h res := by
  unfold F_447_0 at hf
  refine Ex.seg 5 (pc' := 7) (lc' := [some (.ref 67), some (.int x1), some (.int ((h.1 67 102) - 1))]) (st' := []) (h' := h) (sg1 rfl rfl (sg1 rfl rfl (sg1 rfl rfl (sg1 rfl rfl (sg1 rfl rfl rfl))))) ?_
  obtain ⟨v3, e_v3, hf⟩ := bnd hf
  rw [Option.some.inj e_v3]
  refine Ex.seg 2 (pc' := 9) (lc' := [some (.ref 67), some (.int x1), some (.int v3)]) (st' := [.int (-1), .int x1]) (h' := h) (sg1 rfl rfl (sg1 rfl rfl rfl)) ?_
  refine Ex.icmp rfl rfl (fun (c0 : ¬ (x1 = (-1))) => ?_) (fun (c0 : ¬ ¬ (x1 = (-1))) => ?_)
  · rw [if_neg c0] at hf
    refine Ex.seg 3 (pc' := 19) (lc' := [some (.ref 67), some (.int x1), some (.int v3)]) (st' := [.int v3, .ref 124]) (h' := h) (sg1 rfl rfl (sg1 rfl rfl (sg1 rfl rfl rfl))) ?_
    obtain ⟨v4, e_v4, hf⟩ := bnd hf
    refine Ex.iald e_v4 rfl rfl ?_
    refine Ex.seg 1 (pc' := 22) (lc' := [some (.ref 67), some (.int x1), some (.int v3)]) (st' := [.int 20, .int v4]) (h' := h) (sg1 rfl rfl rfl) ?_
    refine Ex.icmp rfl rfl (fun (c0 : 20 ≤ v4) => ?_) (fun (c0 : ¬ (20 ≤ v4)) => ?_)
    · rw [if_pos c0] at hf
      exact Ex.weak (sm_le_s (sm_le_n (sm_le_s sm_le_nil))) (B_447_42 hd  hf hs)
    · rw [if_neg c0] at hf
      refine Ex.seg 8 (pc' := 38) (lc' := [some (.ref 67), some (.int x1), some (.int v3)]) (st' := [.int v3, .ref 124, .int (20 * v3), .ref 125]) (h' := h) (sg1 rfl rfl (sg1 rfl rfl (sg1 rfl rfl (sg1 rfl rfl (sg1 rfl rfl (sg1 rfl rfl (sg1 rfl rfl (sg1 rfl rfl rfl)))))))) ?_
      obtain ⟨v5, e_v5, hf⟩ := bnd hf
      refine Ex.iald e_v5 rfl rfl ?_
      refine Ex.seg 2 (pc' := 41) (lc' := [some (.ref 67), some (.int x1), some (.int v3)]) (st' := [.int x1, .int ((20 * v3) + v5), .ref 125]) (h' := h) (sg1 rfl rfl (sg1 rfl rfl rfl)) ?_
      obtain ⟨h6, e_h6, hf⟩ := bnd hf
      refine Ex.iast e_h6 rfl rfl ?_
      exact Ex.weak (sm_le_s (sm_le_n (sm_le_s sm_le_nil))) (B_447_42 hd  hf hs)
  · rw [if_pos (Classical.not_not.mp c0)] at hf
    refine Ex.seg 1 (pc' := 13) (lc' := [some (.ref 67), some (.int x1), some (.int v3)]) (st' := [.int 0]) (h' := h) (sg1 rfl rfl rfl) ?_
    obtain rfl := Option.some.inj hf
    exact Ex.iret rfl rfl (fun _ => by decide) hs
theorem E_447 {L : Nat} {xs : Nat → Int32} {d : Nat} (hd : 1 ≤ d) {x1 : Int32} {h : sm_H} {r : Int32 × sm_H} (hf : F_447 x1 h = some r) : RUN L xs d 447 [.ref 67, .int x1] h (some (.int r.1), r.2) := by
  obtain ⟨d, rfl⟩ : ∃ e, d = e + 1 := ⟨d - 1, by omega⟩
  exact ⟨Nat.le_of_ble_eq_true rfl, B_447_0 (by omega) hf rfl⟩
theorem B_449_0 {L : Nat} {xs : Nat → Int32} {d : Nat} (hd : 0 ≤ d) {res : Option Value × sm_H} {x1 : Int32}  {h : sm_H} {r : (Int32 × sm_H)} (hf : F_449_0 x1 h = some r) (hs : (fun (r : Int32 × sm_H) => res = (some (.int r.1), r.2)) r) : Ex (P_G L xs) (RUN L xs d) (sm_lk P_t449) 0 0 [some (.ref 67), some (.int x1)] [] h res := by
  unfold F_449_0 at hf
  refine Ex.seg 10 (pc' := 15) (lc' := [some (.ref 67), some (.int x1)]) (st' := [.int ((20 * ((h.1 67 102) - 1)) + x1), .ref 125]) (h' := h) (sg1 rfl rfl (sg1 rfl rfl (sg1 rfl rfl (sg1 rfl rfl (sg1 rfl rfl (sg1 rfl rfl (sg1 rfl rfl (sg1 rfl rfl (sg1 rfl rfl (sg1 rfl rfl rfl)))))))))) ?_
  obtain ⟨v1, e_v1, hf⟩ := bnd hf
  refine Ex.iald e_v1 rfl rfl ?_
  obtain rfl := Option.some.inj hf
  exact Ex.iret rfl rfl (fun c0 => by cases c0) hs
theorem E_449 {L : Nat} {xs : Nat → Int32} {d : Nat} (hd : 1 ≤ d) {x1 : Int32} {h : sm_H} {r : Int32 × sm_H} (hf : F_449 x1 h = some r) : RUN L xs d 449 [.ref 67, .int x1] h (some (.int r.1), r.2) := by
  obtain ⟨d, rfl⟩ : ∃ e, d = e + 1 := ⟨d - 1, by omega⟩
  exact ⟨Nat.le_of_ble_eq_true rfl, B_449_0 (by omega) hf rfl⟩
theorem B_452_30 {L : Nat} {xs : Nat → Int32} {d : Nat} (hd : 1 ≤ d) {res : Option Value × sm_H} {z0 : Int32}  {h : sm_H} {r : (Int32 × sm_H)} (hf : F_452_30 z0 h = some r) (hs : (fun (r : Int32 × sm_H) => res = (some (.int r.1), r.2)) r) : Ex (P_G L xs) (RUN L xs d) (sm_lk P_t452) 3 30 [none, none, none] [.int z0] h res := by
  unfold F_452_30 at hf
  rcases Classical.em (z0 = 0 ∨ z0 = 1) with c0 | c0
  · rw [if_pos c0] at hf
    obtain rfl := Option.some.inj hf
    exact Ex.iret rfl rfl (fun _ => c0) hs
  · rw [if_neg c0] at hf
    cases hf
theorem B_452_0 {L : Nat} {xs : Nat → Int32} {d : Nat} (hd : 1 ≤ d) {res : Option Value × sm_H} {x1 : Int32} {x2 : Int32}  {h : sm_H} {r : (Int32 × sm_H)} (hf : F_452_0 x1 x2 h = some r) (hs : (fun (r : Int32 × sm_H) => res = (some (.int r.1), r.2)) r) : Ex (P_G L xs) (RUN L xs d) (sm_lk P_t452) 3 0 [some (.ref 67), some (.int x1), some (.int x2)] [] h res := by
  unfold F_452_0 at hf
  refine Ex.seg 2 (pc' := 2) (lc' := [some (.ref 67), some (.int x1), some (.int x2)]) (st' := [.int x2, .ref 67]) (h' := h) (sg1 rfl rfl (sg1 rfl rfl rfl)) ?_
  obtain ⟨q1, e_q1, hf⟩ := bnd hf
  refine Ex.callV (a := 67) (As := [.int x2]) (r := []) (v := some (.int q1.1)) (h' := q1.2) rfl rfl (by decide) rfl (Nat.le_of_ble_eq_true rfl) rfl (E_307 (Nat.le_trans (by decide) hd) e_q1) rfl ?_
  refine Ex.ifc rfl rfl (fun (c0 : q1.1 = 0) => ?_) (fun (c0 : ¬ (q1.1 = 0)) => ?_)
  · rw [if_pos c0] at hf
    refine Ex.seg 5 (pc' := 18) (lc' := [some (.ref 67), some (.int x1), some (.int x2)]) (st' := [.int x1, .ref 120, .int 7, .ref 67]) (h' := q1.2) (sg1 rfl rfl (sg1 rfl rfl (sg1 rfl rfl (sg1 rfl rfl (sg1 rfl rfl rfl))))) ?_
    obtain ⟨v2, e_v2, hf⟩ := bnd hf
    refine Ex.iald e_v2 rfl rfl ?_
    obtain ⟨q3, e_q3, hf⟩ := bnd hf
    refine Ex.callV (a := 67) (As := [.int 7, .int v2]) (r := []) (v := some (.int q3.1)) (h' := q3.2) rfl rfl (by decide) rfl (Nat.le_of_ble_eq_true rfl) rfl (E_413 (Nat.le_trans (by decide) hd) e_q3) rfl ?_
    refine Ex.ifc rfl rfl (fun (c0 : ¬ (q3.1 = 0)) => ?_) (fun (c0 : ¬ ¬ (q3.1 = 0)) => ?_)
    · rw [if_neg c0] at hf
      refine Ex.seg 1 (pc' := 30) (lc' := [some (.ref 67), some (.int x1), some (.int x2)]) (st' := [.int 0]) (h' := q3.2) (sg1 rfl rfl rfl) ?_
      exact Ex.weak (sm_le_n (sm_le_n (sm_le_n sm_le_nil))) (B_452_30 hd  hf hs)
    · rw [if_pos (Classical.not_not.mp c0)] at hf
      refine Ex.seg 2 (pc' := 30) (lc' := [some (.ref 67), some (.int x1), some (.int x2)]) (st' := [.int 1]) (h' := q3.2) (sg1 rfl rfl (sg1 rfl rfl rfl)) ?_
      exact Ex.weak (sm_le_n (sm_le_n (sm_le_n sm_le_nil))) (B_452_30 hd  hf hs)
  · rw [if_neg c0] at hf
    refine Ex.seg 1 (pc' := 9) (lc' := [some (.ref 67), some (.int x1), some (.int x2)]) (st' := [.int 0]) (h' := q1.2) (sg1 rfl rfl rfl) ?_
    obtain rfl := Option.some.inj hf
    exact Ex.iret rfl rfl (fun _ => by decide) hs
theorem E_452 {L : Nat} {xs : Nat → Int32} {d : Nat} (hd : 2 ≤ d) {x1 : Int32} {x2 : Int32} {h : sm_H} {r : Int32 × sm_H} (hf : F_452 x1 x2 h = some r) : RUN L xs d 452 [.ref 67, .int x1, .int x2] h (some (.int r.1), r.2) := by
  obtain ⟨d, rfl⟩ : ∃ e, d = e + 1 := ⟨d - 1, by omega⟩
  exact ⟨Nat.le_of_ble_eq_true rfl, B_452_0 (by omega) hf rfl⟩
theorem B_458_22 {L : Nat} {xs : Nat → Int32} {d : Nat} (hd : 1 ≤ d) {res : Option Value × sm_H} {z0 : Int32}  {h : sm_H} {r : (Int32 × sm_H)} (hf : F_458_22 z0 h = some r) (hs : (fun (r : Int32 × sm_H) => res = (some (.int r.1), r.2)) r) : Ex (P_G L xs) (RUN L xs d) (sm_lk P_t458) 3 22 [none, none] [.int z0] h res := by
  unfold F_458_22 at hf
  rcases Classical.em (z0 = 0 ∨ z0 = 1) with c0 | c0
  · rw [if_pos c0] at hf
    obtain rfl := Option.some.inj hf
    exact Ex.iret rfl rfl (fun _ => c0) hs
  · rw [if_neg c0] at hf
    cases hf
theorem B_458_17 {L : Nat} {xs : Nat → Int32} {d : Nat} (hd : 1 ≤ d) {res : Option Value × sm_H}   {h : sm_H} {r : (Int32 × sm_H)} (hf : F_458_17  h = some r) (hs : (fun (r : Int32 × sm_H) => res = (some (.int r.1), r.2)) r) : Ex (P_G L xs) (RUN L xs d) (sm_lk P_t458) 3 17 [none, none] [] h res := by
  unfold F_458_17 at hf
  refine Ex.seg 2 (pc' := 22) (lc' := [none, none]) (st' := [.int 1]) (h' := h) (sg1 rfl rfl (sg1 rfl rfl rfl)) ?_
  exact Ex.weak (sm_le_s (sm_le_s sm_le_nil)) (B_458_22 hd  hf hs)
theorem B_458_0 {L : Nat} {xs : Nat → Int32} {d : Nat} (hd : 1 ≤ d) {res : Option Value × sm_H} {x1 : Int32}  {h : sm_H} {r : (Int32 × sm_H)} (hf : F_458_0 x1 h = some r) (hs : (fun (r : Int32 × sm_H) => res = (some (.int r.1), r.2)) r) : Ex (P_G L xs) (RUN L xs d) (sm_lk P_t458) 3 0 [some (.ref 67), some (.int x1)] [] h res := by
  unfold F_458_0 at hf
  refine Ex.seg 1 (pc' := 1) (lc' := [some (.ref 67), some (.int x1)]) (st' := [.int x1]) (h' := h) (sg1 rfl rfl rfl) ?_
  refine Ex.ifc rfl rfl (fun (c0 : ¬ (x1 = 0)) => ?_) (fun (c0 : ¬ ¬ (x1 = 0)) => ?_)
  · rw [if_neg c0] at hf
    exact Ex.weak (sm_le_n (sm_le_n sm_le_nil)) (B_458_17 hd  hf hs)
  · rw [if_pos (Classical.not_not.mp c0)] at hf
    refine Ex.seg 4 (pc' := 11) (lc' := [some (.ref 67), some (.int x1)]) (st' := [.int (h.1 67 106), .int 7, .ref 67]) (h' := h) (sg1 rfl rfl (sg1 rfl rfl (sg1 rfl rfl (sg1 rfl rfl rfl)))) ?_
    obtain ⟨q1, e_q1, hf⟩ := bnd hf
    refine Ex.callV (a := 67) (As := [.int 7, .int (h.1 67 106)]) (r := []) (v := some (.int q1.1)) (h' := q1.2) rfl rfl (by decide) rfl (Nat.le_of_ble_eq_true rfl) rfl (E_413 (Nat.le_trans (by decide) hd) e_q1) rfl ?_
    refine Ex.ifc rfl rfl (fun (c0 : q1.1 = 0) => ?_) (fun (c0 : ¬ (q1.1 = 0)) => ?_)
    · rw [if_pos c0] at hf
      refine Ex.seg 1 (pc' := 22) (lc' := [some (.ref 67), some (.int x1)]) (st' := [.int 0]) (h' := q1.2) (sg1 rfl rfl rfl) ?_
      exact Ex.weak (sm_le_n (sm_le_n sm_le_nil)) (B_458_22 hd  hf hs)
    · rw [if_neg c0] at hf
      exact Ex.weak (sm_le_n (sm_le_n sm_le_nil)) (B_458_17 hd  hf hs)
theorem E_458 {L : Nat} {xs : Nat → Int32} {d : Nat} (hd : 2 ≤ d) {x1 : Int32} {h : sm_H} {r : Int32 × sm_H} (hf : F_458 x1 h = some r) : RUN L xs d 458 [.ref 67, .int x1] h (some (.int r.1), r.2) := by
  obtain ⟨d, rfl⟩ : ∃ e, d = e + 1 := ⟨d - 1, by omega⟩
  exact ⟨Nat.le_of_ble_eq_true rfl, B_458_0 (by omega) hf rfl⟩
theorem B_459_26 {L : Nat} {xs : Nat → Int32} {d : Nat} (hd : 1 ≤ d) {res : Option Value × sm_H} {z0 : Int32}  {h : sm_H} {r : (Int32 × sm_H)} (hf : F_459_26 z0 h = some r) (hs : (fun (r : Int32 × sm_H) => res = (some (.int r.1), r.2)) r) : Ex (P_G L xs) (RUN L xs d) (sm_lk P_t459) 0 26 [none, none] [.int z0] h res := by
  unfold F_459_26 at hf
  obtain rfl := Option.some.inj hf
  exact Ex.iret rfl rfl (fun c0 => by cases c0) hs
theorem B_459_20 {L : Nat} {xs : Nat → Int32} {d : Nat} (hd : 1 ≤ d) {res : Option Value × sm_H}   {h : sm_H} {r : (Int32 × sm_H)} (hf : F_459_20  h = some r) (hs : (fun (r : Int32 × sm_H) => res = (some (.int r.1), r.2)) r) : Ex (P_G L xs) (RUN L xs d) (sm_lk P_t459) 0 20 [none, none] [] h res := by
  unfold F_459_20 at hf
  refine Ex.seg 2 (pc' := 26) (lc' := [none, none]) (st' := [.int 6]) (h' := h) (sg1 rfl rfl (sg1 rfl rfl rfl)) ?_
  exact Ex.weak (sm_le_s (sm_le_s sm_le_nil)) (B_459_26 hd  hf hs)
theorem B_459_0 {L : Nat} {xs : Nat → Int32} {d : Nat} (hd : 1 ≤ d) {res : Option Value × sm_H} {x1 : Int32}  {h : sm_H} {r : (Int32 × sm_H)} (hf : F_459_0 x1 h = some r) (hs : (fun (r : Int32 × sm_H) => res = (some (.int r.1), r.2)) r) : Ex (P_G L xs) (RUN L xs d) (sm_lk P_t459) 0 0 [some (.ref 67), some (.int x1)] [] h res := by
  unfold F_459_0 at hf
  refine Ex.seg 2 (pc' := 2) (lc' := [some (.ref 67), some (.int x1)]) (st' := [.int x1, .ref 67]) (h' := h) (sg1 rfl rfl (sg1 rfl rfl rfl)) ?_
  obtain ⟨q1, e_q1, hf⟩ := bnd hf
  refine Ex.callV (a := 67) (As := [.int x1]) (r := []) (v := some (.int q1.1)) (h' := q1.2) rfl rfl (by decide) rfl (Nat.le_of_ble_eq_true rfl) rfl (E_307 (Nat.le_trans (by decide) hd) e_q1) rfl ?_
  refine Ex.seg 1 (pc' := 7) (lc' := [some (.ref 67), some (.int x1)]) (st' := [.int 6, .int q1.1]) (h' := q1.2) (sg1 rfl rfl rfl) ?_
  refine Ex.icmp rfl rfl (fun (c0 : q1.1 = 6) => ?_) (fun (c0 : ¬ (q1.1 = 6)) => ?_)
  · rw [if_pos c0] at hf
    exact Ex.weak (sm_le_n (sm_le_n sm_le_nil)) (B_459_20 hd  hf hs)
  · rw [if_neg c0] at hf
    refine Ex.seg 2 (pc' := 12) (lc' := [some (.ref 67), some (.int x1)]) (st' := [.int x1, .ref 67]) (h' := q1.2) (sg1 rfl rfl (sg1 rfl rfl rfl)) ?_
    obtain ⟨q2, e_q2, hf⟩ := bnd hf
    refine Ex.callV (a := 67) (As := [.int x1]) (r := []) (v := some (.int q2.1)) (h' := q2.2) rfl rfl (by decide) rfl (Nat.le_of_ble_eq_true rfl) rfl (E_307 (Nat.le_trans (by decide) hd) e_q2) rfl ?_
    refine Ex.seg 1 (pc' := 17) (lc' := [some (.ref 67), some (.int x1)]) (st' := [.int 14, .int q2.1]) (h' := q2.2) (sg1 rfl rfl rfl) ?_
    refine Ex.icmp rfl rfl (fun (c0 : ¬ (q2.1 = 14)) => ?_) (fun (c0 : ¬ ¬ (q2.1 = 14)) => ?_)
    · rw [if_neg c0] at hf
      refine Ex.seg 1 (pc' := 26) (lc' := [some (.ref 67), some (.int x1)]) (st' := [.int 5]) (h' := q2.2) (sg1 rfl rfl rfl) ?_
      exact Ex.weak (sm_le_n (sm_le_n sm_le_nil)) (B_459_26 hd  hf hs)
    · rw [if_pos (Classical.not_not.mp c0)] at hf
      exact Ex.weak (sm_le_n (sm_le_n sm_le_nil)) (B_459_20 hd  hf hs)
theorem E_459 {L : Nat} {xs : Nat → Int32} {d : Nat} (hd : 2 ≤ d) {x1 : Int32} {h : sm_H} {r : Int32 × sm_H} (hf : F_459 x1 h = some r) : RUN L xs d 459 [.ref 67, .int x1] h (some (.int r.1), r.2) := by
  obtain ⟨d, rfl⟩ : ∃ e, d = e + 1 := ⟨d - 1, by omega⟩
  exact ⟨Nat.le_of_ble_eq_true rfl, B_459_0 (by omega) hf rfl⟩
theorem B_461_131 {L : Nat} {xs : Nat → Int32} {d : Nat} (hd : 10 ≤ d) {res : Option Value × sm_H}   {h : sm_H} {r : (Int32 × sm_H)} (hf : F_461_131  h = some r) (hs : (fun (r : Int32 × sm_H) => res = (some (.int r.1), r.2)) r) : Ex (P_G L xs) (RUN L xs d) (sm_lk P_t461) 0 131 [none, none, none, none, none, none, none] [] h res := by
  unfold F_461_131 at hf
  refine Ex.seg 1 (pc' := 132) (lc' := [none, none, none, none, none, none, none]) (st' := [.int (-1)]) (h' := h) (sg1 rfl rfl rfl) ?_
  obtain rfl := Option.some.inj hf
  exact Ex.iret rfl rfl (fun c0 => by cases c0) hs
theorem B_461_106 {L : Nat} {xs : Nat → Int32} {d : Nat} (hd : 10 ≤ d) {res : Option Value × sm_H} {y4 : Int32} {y5 : Int32} {y6 : Int32}  {h : sm_H} {r : (Int32 × sm_H)} (hf : F_461_106 y4 y5 y6 h = some r) (hs : (fun (r : Int32 × sm_H) => res = (some (.int r.1), r.2)) r) : Ex (P_G L xs) (RUN L xs d) (sm_lk P_t461) 0 106 [some (.ref 67), none, none, none, some (.int y4), some (.int y5), some (.int y6)] [] h res := by
  unfold F_461_106 at hf
  refine Ex.seg 2 (pc' := 109) (lc' := [some (.ref 67), none, none, none, some (.int y4), some (.int y5), some (.int y6)]) (st' := [.int (-1), .int y4]) (h' := h) (sg1 rfl rfl (sg1 rfl rfl rfl)) ?_
  refine Ex.icmp rfl rfl (fun (c0 : y4 = (-1)) => ?_) (fun (c0 : ¬ (y4 = (-1))) => ?_)
  · rw [if_pos c0] at hf
    exact Ex.weak (sm_le_n (sm_le_s (sm_le_s (sm_le_s (sm_le_n (sm_le_n (sm_le_n sm_le_nil))))))) (B_461_131 hd  hf hs)
  · rw [if_neg c0] at hf
    refine Ex.seg 2 (pc' := 115) (lc' := [some (.ref 67), none, none, none, some (.int y4), some (.int y5), some (.int y6)]) (st' := [.int (-1), .int y5]) (h' := h) (sg1 rfl rfl (sg1 rfl rfl rfl)) ?_
    refine Ex.icmp rfl rfl (fun (c0 : y5 = (-1)) => ?_) (fun (c0 : ¬ (y5 = (-1))) => ?_)
    · rw [if_pos c0] at hf
      exact Ex.weak (sm_le_n (sm_le_s (sm_le_s (sm_le_s (sm_le_n (sm_le_n (sm_le_n sm_le_nil))))))) (B_461_131 hd  hf hs)
    · rw [if_neg c0] at hf
      refine Ex.seg 2 (pc' := 121) (lc' := [some (.ref 67), none, none, none, some (.int y4), some (.int y5), some (.int y6)]) (st' := [.int (-1), .int y6]) (h' := h) (sg1 rfl rfl (sg1 rfl rfl rfl)) ?_
      refine Ex.icmp rfl rfl (fun (c0 : y6 = (-1)) => ?_) (fun (c0 : ¬ (y6 = (-1))) => ?_)
      · rw [if_pos c0] at hf
        exact Ex.weak (sm_le_n (sm_le_s (sm_le_s (sm_le_s (sm_le_n (sm_le_n (sm_le_n sm_le_nil))))))) (B_461_131 hd  hf hs)
      · rw [if_neg c0] at hf
        refine Ex.seg 2 (pc' := 128) (lc' := [some (.ref 67), none, none, none, some (.int y4), some (.int y5), some (.int y6)]) (st' := [.int (h.1 67 77)]) (h' := h) (sg1 rfl rfl (sg1 rfl rfl rfl)) ?_
        refine Ex.ifc rfl rfl (fun (c0 : (h.1 67 77) = 0) => ?_) (fun (c0 : ¬ ((h.1 67 77) = 0)) => ?_)
        · rw [if_pos c0] at hf
          refine Ex.seg 4 (pc' := 140) (lc' := [some (.ref 67), none, none, none, some (.int y4), some (.int y5), some (.int y6)]) (st' := [.int y4, .int 0, .ref 69]) (h' := h) (sg1 rfl rfl (sg1 rfl rfl (sg1 rfl rfl (sg1 rfl rfl rfl)))) ?_
          obtain ⟨h1, e_h1, hf⟩ := bnd hf
          refine Ex.iast e_h1 rfl rfl ?_
          refine Ex.seg 4 (pc' := 148) (lc' := [some (.ref 67), none, none, none, some (.int y4), some (.int y5), some (.int y6)]) (st' := [.int y5, .int 1, .ref 69]) (h' := h1) (sg1 rfl rfl (sg1 rfl rfl (sg1 rfl rfl (sg1 rfl rfl rfl)))) ?_
          obtain ⟨h2, e_h2, hf⟩ := bnd hf
          refine Ex.iast e_h2 rfl rfl ?_
          refine Ex.seg 4 (pc' := 156) (lc' := [some (.ref 67), none, none, none, some (.int y4), some (.int y5), some (.int y6)]) (st' := [.int y6, .int 2, .ref 69]) (h' := h2) (sg1 rfl rfl (sg1 rfl rfl (sg1 rfl rfl (sg1 rfl rfl rfl)))) ?_
          obtain ⟨h3, e_h3, hf⟩ := bnd hf
          refine Ex.iast e_h3 rfl rfl ?_
          refine Ex.seg 3 (pc' := 162) (lc' := [some (.ref 67), none, none, none, some (.int y4), some (.int y5), some (.int y6)]) (st' := []) (h' := (sm_wI h3 67 3 3)) (sg1 rfl rfl (sg1 rfl rfl (sg1 rfl rfl rfl))) ?_
          obtain ⟨h4, e_h4, hf⟩ := bnd hf
          rw [Option.some.inj e_h4]
          refine Ex.seg 5 (pc' := 168) (lc' := [some (.ref 67), none, none, none, some (.int y4), some (.int y5), some (.int y6)]) (st' := [.long 0, .int 0, .int 0, .int 14, .ref 67]) (h' := h4) (sg1 rfl rfl (sg1 rfl rfl (sg1 rfl rfl (sg1 rfl rfl (sg1 rfl rfl rfl))))) ?_
          obtain ⟨q5, e_q5, hf⟩ := bnd hf
          refine Ex.callV (a := 67) (As := [.int 14, .int 0, .int 0, .long 0]) (r := []) (v := some (.int q5.1)) (h' := q5.2) rfl rfl (by decide) rfl (Nat.le_of_ble_eq_true rfl) rfl (E_429 (Nat.le_trans (by decide) hd) e_q5) rfl ?_
          obtain rfl := Option.some.inj hf
          exact Ex.iret rfl rfl (fun c0 => by cases c0) hs
        · rw [if_neg c0] at hf
          exact Ex.weak (sm_le_n (sm_le_s (sm_le_s (sm_le_s (sm_le_n (sm_le_n (sm_le_n sm_le_nil))))))) (B_461_131 hd  hf hs)
theorem B_461_0 {L : Nat} {xs : Nat → Int32} {d : Nat} (hd : 10 ≤ d) {res : Option Value × sm_H} {x1 : Int32} {x2 : Int32} {x3 : Int32}  {h : sm_H} {r : (Int32 × sm_H)} (hf : F_461_0 x1 x2 x3 h = some r) (hs : (fun (r : Int32 × sm_H) => res = (some (.int r.1), r.2)) r) : Ex (P_G L xs) (RUN L xs d) (sm_lk P_t461) 0 0 [some (.ref 67), some (.int x1), some (.int x2), some (.int x3), none, none, none] [] h res := by
  unfold F_461_0 at hf
  refine Ex.seg 3 (pc' := 3) (lc' := [some (.ref 67), some (.int x1), some (.int x2), some (.int x3), none, none, none]) (st' := [.int 1, .int x1, .ref 67]) (h' := h) (sg1 rfl rfl (sg1 rfl rfl (sg1 rfl rfl rfl))) ?_
  obtain ⟨q6, e_q6, hf⟩ := bnd hf
  refine Ex.callV (a := 67) (As := [.int x1, .int 1]) (r := []) (v := some (.int q6.1)) (h' := q6.2) rfl rfl (by decide) rfl (Nat.le_of_ble_eq_true rfl) rfl (E_433 (Nat.le_trans (by decide) hd) e_q6) rfl ?_
  refine Ex.seg 7 (pc' := 16) (lc' := [some (.ref 67), some (.int x1), some (.int x2), some (.int x3), some (.int q6.1), some (.int x2), some (.int x3)]) (st' := [.int x2, .ref 67]) (h' := q6.2) (sg1 rfl rfl (sg1 rfl rfl (sg1 rfl rfl (sg1 rfl rfl (sg1 rfl rfl (sg1 rfl rfl (sg1 rfl rfl rfl))))))) ?_
  obtain ⟨q7, e_q7, hf⟩ := bnd hf
  refine Ex.callV (a := 67) (As := [.int x2]) (r := []) (v := some (.int q7.1)) (h' := q7.2) rfl rfl (by decide) rfl (Nat.le_of_ble_eq_true rfl) rfl (E_307 (Nat.le_trans (by decide) hd) e_q7) rfl ?_
  refine Ex.seg 2 (pc' := 21) (lc' := [some (.ref 67), some (.int x1), some (.int x2), some (.int x3), some (.int q6.1), some (.int x2), some (.int x3)]) (st' := [.int x3, .ref 67, .int q7.1]) (h' := q7.2) (sg1 rfl rfl (sg1 rfl rfl rfl)) ?_
  obtain ⟨q8, e_q8, hf⟩ := bnd hf
  refine Ex.callV (a := 67) (As := [.int x3]) (r := [.int q7.1]) (v := some (.int q8.1)) (h' := q8.2) rfl rfl (by decide) rfl (Nat.le_of_ble_eq_true rfl) rfl (E_307 (Nat.le_trans (by decide) hd) e_q8) rfl ?_
  refine Ex.icmp rfl rfl (fun (c0 : q7.1 = q8.1) => ?_) (fun (c0 : ¬ (q7.1 = q8.1)) => ?_)
  · rw [if_pos c0] at hf
    exact Ex.weak (sm_le_s (sm_le_n (sm_le_n (sm_le_n (sm_le_s (sm_le_s (sm_le_s sm_le_nil))))))) (B_461_106 hd  hf hs)
  · rw [if_neg c0] at hf
    refine Ex.seg 3 (pc' := 30) (lc' := [some (.ref 67), some (.int x1), some (.int x2), some (.int x3), some (.int q6.1), some (.int x2), some (.int x3)]) (st' := [.int x3, .ref 67, .ref 67]) (h' := q8.2) (sg1 rfl rfl (sg1 rfl rfl (sg1 rfl rfl rfl))) ?_
    obtain ⟨q9, e_q9, hf⟩ := bnd hf
    refine Ex.callV (a := 67) (As := [.int x3]) (r := [.ref 67]) (v := some (.int q9.1)) (h' := q9.2) rfl rfl (by decide) rfl (Nat.le_of_ble_eq_true rfl) rfl (E_307 (Nat.le_trans (by decide) hd) e_q9) rfl ?_
    refine Ex.seg 2 (pc' := 35) (lc' := [some (.ref 67), some (.int x1), some (.int x2), some (.int x3), some (.int q6.1), some (.int x2), some (.int x3)]) (st' := [.int x2, .ref 67, .int q9.1, .ref 67]) (h' := q9.2) (sg1 rfl rfl (sg1 rfl rfl rfl)) ?_
    obtain ⟨q10, e_q10, hf⟩ := bnd hf
    refine Ex.callV (a := 67) (As := [.int x2]) (r := [.int q9.1, .ref 67]) (v := some (.int q10.1)) (h' := q10.2) rfl rfl (by decide) rfl (Nat.le_of_ble_eq_true rfl) rfl (E_307 (Nat.le_trans (by decide) hd) e_q10) rfl ?_
    refine Ex.seg 2 (pc' := 40) (lc' := [some (.ref 67), some (.int x1), some (.int x2), some (.int x3), some (.int q6.1), some (.int x2), some (.int x3)]) (st' := [.int 0, .int 0, .int q10.1, .int q9.1, .ref 67]) (h' := q10.2) (sg1 rfl rfl (sg1 rfl rfl rfl)) ?_
    obtain ⟨q11, e_q11, hf⟩ := bnd hf
    refine Ex.callV (a := 67) (As := [.int q9.1, .int q10.1, .int 0, .int 0]) (r := []) (v := some (.int q11.1)) (h' := q11.2) rfl rfl (by decide) rfl (Nat.le_of_ble_eq_true rfl) rfl (E_297 (Nat.le_trans (by decide) hd) e_q11) rfl ?_
    refine Ex.ifc rfl rfl (fun (c0 : q11.1 = 0) => ?_) (fun (c0 : ¬ (q11.1 = 0)) => ?_)
    · rw [if_pos c0] at hf
      refine Ex.seg 3 (pc' := 64) (lc' := [some (.ref 67), some (.int x1), some (.int x2), some (.int x3), some (.int q6.1), some (.int x2), some (.int x3)]) (st' := [.int x2, .ref 67, .ref 67]) (h' := q11.2) (sg1 rfl rfl (sg1 rfl rfl (sg1 rfl rfl rfl))) ?_
      obtain ⟨q12, e_q12, hf⟩ := bnd hf
      refine Ex.callV (a := 67) (As := [.int x2]) (r := [.ref 67]) (v := some (.int q12.1)) (h' := q12.2) rfl rfl (by decide) rfl (Nat.le_of_ble_eq_true rfl) rfl (E_307 (Nat.le_trans (by decide) hd) e_q12) rfl ?_
      refine Ex.seg 2 (pc' := 69) (lc' := [some (.ref 67), some (.int x1), some (.int x2), some (.int x3), some (.int q6.1), some (.int x2), some (.int x3)]) (st' := [.int x3, .ref 67, .int q12.1, .ref 67]) (h' := q12.2) (sg1 rfl rfl (sg1 rfl rfl rfl)) ?_
      obtain ⟨q13, e_q13, hf⟩ := bnd hf
      refine Ex.callV (a := 67) (As := [.int x3]) (r := [.int q12.1, .ref 67]) (v := some (.int q13.1)) (h' := q13.2) rfl rfl (by decide) rfl (Nat.le_of_ble_eq_true rfl) rfl (E_307 (Nat.le_trans (by decide) hd) e_q13) rfl ?_
      refine Ex.seg 2 (pc' := 74) (lc' := [some (.ref 67), some (.int x1), some (.int x2), some (.int x3), some (.int q6.1), some (.int x2), some (.int x3)]) (st' := [.int 0, .int 0, .int q13.1, .int q12.1, .ref 67]) (h' := q13.2) (sg1 rfl rfl (sg1 rfl rfl rfl)) ?_
      obtain ⟨q14, e_q14, hf⟩ := bnd hf
      refine Ex.callV (a := 67) (As := [.int q12.1, .int q13.1, .int 0, .int 0]) (r := []) (v := some (.int q14.1)) (h' := q14.2) rfl rfl (by decide) rfl (Nat.le_of_ble_eq_true rfl) rfl (E_297 (Nat.le_trans (by decide) hd) e_q14) rfl ?_
      refine Ex.ifc rfl rfl (fun (c0 : q14.1 = 0) => ?_) (fun (c0 : ¬ (q14.1 = 0)) => ?_)
      · rw [if_pos c0] at hf
        refine Ex.seg 4 (pc' := 102) (lc' := [some (.ref 67), some (.int x1), some (.int x2), some (.int x3), some (.int q6.1), some (.int x2), some (.int x3)]) (st' := [.int (q14.2.1 67 106), .int 7, .ref 67]) (h' := q14.2) (sg1 rfl rfl (sg1 rfl rfl (sg1 rfl rfl (sg1 rfl rfl rfl)))) ?_
        obtain ⟨q15, e_q15, hf⟩ := bnd hf
        refine Ex.callV (a := 67) (As := [.int 7, .int (q14.2.1 67 106)]) (r := []) (v := some (.int q15.1)) (h' := q15.2) rfl rfl (by decide) rfl (Nat.le_of_ble_eq_true rfl) rfl (E_413 (Nat.le_trans (by decide) hd) e_q15) rfl ?_
        refine Ex.seg 1 (pc' := 106) (lc' := [some (.ref 67), some (.int x1), some (.int x2), some (.int x3), some (.int q6.1), some (.int x2), some (.int x3)]) (st' := []) (h' := q15.2) (sg1 rfl rfl rfl) ?_
        exact Ex.weak (sm_le_s (sm_le_n (sm_le_n (sm_le_n (sm_le_s (sm_le_s (sm_le_s sm_le_nil))))))) (B_461_106 hd  hf hs)
      · rw [if_neg c0] at hf
        refine Ex.seg 4 (pc' := 84) (lc' := [some (.ref 67), some (.int x1), some (.int x2), some (.int x3), some (.int q6.1), some (.int x2), some (.int x3)]) (st' := [.int x3, .ref 67, .int x2, .ref 67]) (h' := q14.2) (sg1 rfl rfl (sg1 rfl rfl (sg1 rfl rfl (sg1 rfl rfl rfl)))) ?_
        obtain ⟨q16, e_q16, hf⟩ := bnd hf
        refine Ex.callV (a := 67) (As := [.int x3]) (r := [.int x2, .ref 67]) (v := some (.int q16.1)) (h' := q16.2) rfl rfl (by decide) rfl (Nat.le_of_ble_eq_true rfl) rfl (E_307 (Nat.le_trans (by decide) hd) e_q16) rfl ?_
        obtain ⟨q17, e_q17, hf⟩ := bnd hf
        refine Ex.callV (a := 67) (As := [.int x2, .int q16.1]) (r := []) (v := some (.int q17.1)) (h' := q17.2) rfl rfl (by decide) rfl (Nat.le_of_ble_eq_true rfl) rfl (E_433 (Nat.le_trans (by decide) hd) e_q17) rfl ?_
        refine Ex.seg 2 (pc' := 106) (lc' := [some (.ref 67), some (.int x1), some (.int x2), some (.int x3), some (.int q6.1), some (.int q17.1), some (.int x3)]) (st' := []) (h' := q17.2) (sg1 rfl rfl (sg1 rfl rfl rfl)) ?_
        exact Ex.weak (sm_le_s (sm_le_n (sm_le_n (sm_le_n (sm_le_s (sm_le_s (sm_le_s sm_le_nil))))))) (B_461_106 hd  hf hs)
    · rw [if_neg c0] at hf
      refine Ex.seg 4 (pc' := 50) (lc' := [some (.ref 67), some (.int x1), some (.int x2), some (.int x3), some (.int q6.1), some (.int x2), some (.int x3)]) (st' := [.int x2, .ref 67, .int x3, .ref 67]) (h' := q11.2) (sg1 rfl rfl (sg1 rfl rfl (sg1 rfl rfl (sg1 rfl rfl rfl)))) ?_
      obtain ⟨q18, e_q18, hf⟩ := bnd hf
      refine Ex.callV (a := 67) (As := [.int x2]) (r := [.int x3, .ref 67]) (v := some (.int q18.1)) (h' := q18.2) rfl rfl (by decide) rfl (Nat.le_of_ble_eq_true rfl) rfl (E_307 (Nat.le_trans (by decide) hd) e_q18) rfl ?_
      obtain ⟨q19, e_q19, hf⟩ := bnd hf
      refine Ex.callV (a := 67) (As := [.int x3, .int q18.1]) (r := []) (v := some (.int q19.1)) (h' := q19.2) rfl rfl (by decide) rfl (Nat.le_of_ble_eq_true rfl) rfl (E_433 (Nat.le_trans (by decide) hd) e_q19) rfl ?_
      refine Ex.seg 2 (pc' := 106) (lc' := [some (.ref 67), some (.int x1), some (.int x2), some (.int x3), some (.int q6.1), some (.int x2), some (.int q19.1)]) (st' := []) (h' := q19.2) (sg1 rfl rfl (sg1 rfl rfl rfl)) ?_
      exact Ex.weak (sm_le_s (sm_le_n (sm_le_n (sm_le_n (sm_le_s (sm_le_s (sm_le_s sm_le_nil))))))) (B_461_106 hd  hf hs)
theorem E_461 {L : Nat} {xs : Nat → Int32} {d : Nat} (hd : 11 ≤ d) {x1 : Int32} {x2 : Int32} {x3 : Int32} {h : sm_H} {r : Int32 × sm_H} (hf : F_461 x1 x2 x3 h = some r) : RUN L xs d 461 [.ref 67, .int x1, .int x2, .int x3] h (some (.int r.1), r.2) := by
  obtain ⟨d, rfl⟩ : ∃ e, d = e + 1 := ⟨d - 1, by omega⟩
  exact ⟨Nat.le_of_ble_eq_true rfl, B_461_0 (by omega) hf rfl⟩
