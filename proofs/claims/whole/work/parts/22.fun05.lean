theorem B_149_13 {L : Nat} {xs : Nat → Int32} {d : Nat} (hd : 2 ≤ d) {res : Option Value × sm_H}   {h : sm_H} {r : (Int32 × sm_H)} (hf : F_149_13  h = some r) (hs : (fun (r : Int32 × sm_H) => res = (some (.int r.1), r.2)) r) : Ex (P_G L xs) (RUN L xs d) (sm_lk P_t149) 0 13 [none, none, none, none] [] h res := by
  unfold F_149_13 at hf
  refine Ex.seg 1 (pc' := 14) (lc' := [none, none, none, none]) (st' := [.int (-1)]) (h' := h) (sg1 rfl rfl rfl) ?_
  obtain rfl := Option.some.inj hf
  exact Ex.iret rfl rfl (fun c0 => by cases c0) hs
theorem B_149_0 {L : Nat} {xs : Nat → Int32} {d : Nat} (hd : 2 ≤ d) {res : Option Value × sm_H} {x1 : Int64} {x3 : Int32}  {h : sm_H} {r : (Int32 × sm_H)} (hf : F_149_0 x1 x3 h = some r) (hs : (fun (r : Int32 × sm_H) => res = (some (.int r.1), r.2)) r) : Ex (P_G L xs) (RUN L xs d) (sm_lk P_t149) 0 0 [some (.ref 21), some (.long x1), none, some (.int x3)] [] h res := by
  unfold F_149_0 at hf
  refine Ex.seg 1 (pc' := 1) (lc' := [some (.ref 21), some (.long x1), none, some (.int x3)]) (st' := [.int x3]) (h' := h) (sg1 rfl rfl rfl) ?_
  refine Ex.ifc rfl rfl (fun (c0 : x3 = 0) => ?_) (fun (c0 : ¬ (x3 = 0)) => ?_)
  · rw [if_pos c0] at hf
    exact Ex.weak (sm_le_n (sm_le_n (sm_le_s (sm_le_n sm_le_nil)))) (B_149_13 hd  hf hs)
  · rw [if_neg c0] at hf
    refine Ex.seg 3 (pc' := 10) (lc' := [some (.ref 21), some (.long x1), none, some (.int x3)]) (st' := [.int 100, .int (h.1 21 6)]) (h' := h) (sg1 rfl rfl (sg1 rfl rfl (sg1 rfl rfl rfl))) ?_
    refine Ex.icmp rfl rfl (fun (c0 : (h.1 21 6) < 100) => ?_) (fun (c0 : ¬ ((h.1 21 6) < 100)) => ?_)
    · rw [if_pos c0] at hf
      refine Ex.seg 6 (pc' := 25) (lc' := [some (.ref 21), some (.long x1), none, some (.int x3)]) (st' := [.int x3, .long x1, .int (h.1 21 6), .ref 29]) (h' := h) (sg1 rfl rfl (sg1 rfl rfl (sg1 rfl rfl (sg1 rfl rfl (sg1 rfl rfl (sg1 rfl rfl rfl)))))) ?_
      obtain ⟨q1, e_q1, hf⟩ := bnd hf
      refine Ex.callV (a := 29) (As := [.int (h.1 21 6), .long x1, .int x3]) (r := []) (v := none) (h' := q1) rfl rfl (by decide) rfl (Nat.le_of_ble_eq_true rfl) rfl (E_221 (Nat.le_trans (by decide) hd) e_q1) rfl ?_
      refine Ex.seg 6 (pc' := 38) (lc' := [some (.ref 21), some (.long x1), none, some (.int x3)]) (st' := []) (h' := (sm_wI q1 21 6 ((q1.1 21 6) + 1))) (sg1 rfl rfl (sg1 rfl rfl (sg1 rfl rfl (sg1 rfl rfl (sg1 rfl rfl (sg1 rfl rfl rfl)))))) ?_
      obtain ⟨h2, e_h2, hf⟩ := bnd hf
      rw [Option.some.inj e_h2]
      refine Ex.seg 4 (pc' := 44) (lc' := [some (.ref 21), some (.long x1), none, some (.int x3)]) (st' := [.int ((h2.1 21 6) - 1)]) (h' := h2) (sg1 rfl rfl (sg1 rfl rfl (sg1 rfl rfl (sg1 rfl rfl rfl)))) ?_
      obtain rfl := Option.some.inj hf
      exact Ex.iret rfl rfl (fun c0 => by cases c0) hs
    · rw [if_neg c0] at hf
      exact Ex.weak (sm_le_n (sm_le_n (sm_le_s (sm_le_n sm_le_nil)))) (B_149_13 hd  hf hs)
theorem E_149 {L : Nat} {xs : Nat → Int32} {d : Nat} (hd : 3 ≤ d) {x1 : Int64} {x3 : Int32} {h : sm_H} {r : Int32 × sm_H} (hf : F_149 x1 x3 h = some r) : RUN L xs d 149 [.ref 21, .long x1, .int x3] h (some (.int r.1), r.2) := by
  obtain ⟨d, rfl⟩ : ∃ e, d = e + 1 := ⟨d - 1, by omega⟩
  exact ⟨Nat.le_of_ble_eq_true rfl, B_149_0 (by omega) hf rfl⟩
theorem B_150_29 {L : Nat} {xs : Nat → Int32} {d : Nat} (hd : 1 ≤ d) {res : Option Value × sm_H} {z0 : Int64}  {h : sm_H} {r : (Int64 × sm_H)} (hf : F_150_29 z0 h = some r) (hs : (fun (r : Int64 × sm_H) => res = (some (.long r.1), r.2)) r) : Ex (P_G L xs) (RUN L xs d) (sm_lk P_t150) 0 29 [none, none, none] [.long z0] h res := by
  unfold F_150_29 at hf
  obtain rfl := Option.some.inj hf
  exact Ex.lret rfl rfl hs
theorem B_150_28 {L : Nat} {xs : Nat → Int32} {d : Nat} (hd : 1 ≤ d) {res : Option Value × sm_H}   {h : sm_H} {r : (Int64 × sm_H)} (hf : F_150_28  h = some r) (hs : (fun (r : Int64 × sm_H) => res = (some (.long r.1), r.2)) r) : Ex (P_G L xs) (RUN L xs d) (sm_lk P_t150) 0 28 [none, none, none] [] h res := by
  unfold F_150_28 at hf
  refine Ex.seg 1 (pc' := 29) (lc' := [none, none, none]) (st' := [.long 0]) (h' := h) (sg1 rfl rfl rfl) ?_
  exact Ex.weak (sm_le_s (sm_le_s (sm_le_s sm_le_nil))) (B_150_29 hd  hf hs)
theorem B_150_0 {L : Nat} {xs : Nat → Int32} {d : Nat} (hd : 1 ≤ d) {res : Option Value × sm_H} {x1 : Int64}  {h : sm_H} {r : (Int64 × sm_H)} (hf : F_150_0 x1 h = some r) (hs : (fun (r : Int64 × sm_H) => res = (some (.long r.1), r.2)) r) : Ex (P_G L xs) (RUN L xs d) (sm_lk P_t150) 0 0 [some (.ref 21), some (.long x1), none] [] h res := by
  unfold F_150_0 at hf
  refine Ex.seg 3 (pc' := 3) (lc' := [some (.ref 21), some (.long x1), none]) (st' := [.int (lg_cmp x1 0)]) (h' := h) (sg1 rfl rfl (sg1 rfl rfl (sg1 rfl rfl rfl))) ?_
  refine Ex.ifc rfl rfl (fun (c0 : (lg_cmp x1 0) < 0) => ?_) (fun (c0 : ¬ ((lg_cmp x1 0) < 0)) => ?_)
  · rw [if_pos c0] at hf
    exact Ex.weak (sm_le_n (sm_le_n (sm_le_s sm_le_nil))) (B_150_28 hd  hf hs)
  · rw [if_neg c0] at hf
    refine Ex.seg 5 (pc' := 13) (lc' := [some (.ref 21), some (.long x1), none]) (st' := [.int (lg_cmp x1 (Int32.toInt64 (h.1 21 6)))]) (h' := h) (sg1 rfl rfl (sg1 rfl rfl (sg1 rfl rfl (sg1 rfl rfl (sg1 rfl rfl rfl))))) ?_
    refine Ex.ifc rfl rfl (fun (c0 : 0 ≤ (lg_cmp x1 (Int32.toInt64 (h.1 21 6)))) => ?_) (fun (c0 : ¬ (0 ≤ (lg_cmp x1 (Int32.toInt64 (h.1 21 6))))) => ?_)
    · rw [if_pos c0] at hf
      exact Ex.weak (sm_le_n (sm_le_n (sm_le_s sm_le_nil))) (B_150_28 hd  hf hs)
    · rw [if_neg c0] at hf
      refine Ex.seg 4 (pc' := 22) (lc' := [some (.ref 21), some (.long x1), none]) (st' := [.int (Int64.toInt32 x1), .ref 29]) (h' := h) (sg1 rfl rfl (sg1 rfl rfl (sg1 rfl rfl (sg1 rfl rfl rfl)))) ?_
      obtain ⟨q1, e_q1, hf⟩ := bnd hf
      refine Ex.callV (a := 29) (As := [.int (Int64.toInt32 x1)]) (r := []) (v := some (.long q1.1)) (h' := q1.2) rfl rfl (by decide) rfl (Nat.le_of_ble_eq_true rfl) rfl (E_218 (Nat.le_trans (by decide) hd) e_q1) rfl ?_
      refine Ex.seg 1 (pc' := 29) (lc' := [some (.ref 21), some (.long x1), none]) (st' := [.long q1.1]) (h' := q1.2) (sg1 rfl rfl rfl) ?_
      exact Ex.weak (sm_le_n (sm_le_n (sm_le_s sm_le_nil))) (B_150_29 hd  hf hs)
theorem E_150 {L : Nat} {xs : Nat → Int32} {d : Nat} (hd : 2 ≤ d) {x1 : Int64} {h : sm_H} {r : Int64 × sm_H} (hf : F_150 x1 h = some r) : RUN L xs d 150 [.ref 21, .long x1] h (some (.long r.1), r.2) := by
  obtain ⟨d, rfl⟩ : ∃ e, d = e + 1 := ⟨d - 1, by omega⟩
  exact ⟨Nat.le_of_ble_eq_true rfl, B_150_0 (by omega) hf rfl⟩
theorem B_151_29 {L : Nat} {xs : Nat → Int32} {d : Nat} (hd : 1 ≤ d) {res : Option Value × sm_H} {z0 : Int32}  {h : sm_H} {r : (Int32 × sm_H)} (hf : F_151_29 z0 h = some r) (hs : (fun (r : Int32 × sm_H) => res = (some (.int r.1), r.2)) r) : Ex (P_G L xs) (RUN L xs d) (sm_lk P_t151) 0 29 [none, none, none] [.int z0] h res := by
  unfold F_151_29 at hf
  obtain rfl := Option.some.inj hf
  exact Ex.iret rfl rfl (fun c0 => by cases c0) hs
theorem B_151_28 {L : Nat} {xs : Nat → Int32} {d : Nat} (hd : 1 ≤ d) {res : Option Value × sm_H}   {h : sm_H} {r : (Int32 × sm_H)} (hf : F_151_28  h = some r) (hs : (fun (r : Int32 × sm_H) => res = (some (.int r.1), r.2)) r) : Ex (P_G L xs) (RUN L xs d) (sm_lk P_t151) 0 28 [none, none, none] [] h res := by
  unfold F_151_28 at hf
  refine Ex.seg 1 (pc' := 29) (lc' := [none, none, none]) (st' := [.int 0]) (h' := h) (sg1 rfl rfl rfl) ?_
  exact Ex.weak (sm_le_s (sm_le_s (sm_le_s sm_le_nil))) (B_151_29 hd  hf hs)
theorem B_151_0 {L : Nat} {xs : Nat → Int32} {d : Nat} (hd : 1 ≤ d) {res : Option Value × sm_H} {x1 : Int64}  {h : sm_H} {r : (Int32 × sm_H)} (hf : F_151_0 x1 h = some r) (hs : (fun (r : Int32 × sm_H) => res = (some (.int r.1), r.2)) r) : Ex (P_G L xs) (RUN L xs d) (sm_lk P_t151) 0 0 [some (.ref 21), some (.long x1), none] [] h res := by
  unfold F_151_0 at hf
  refine Ex.seg 3 (pc' := 3) (lc' := [some (.ref 21), some (.long x1), none]) (st' := [.int (lg_cmp x1 0)]) (h' := h) (sg1 rfl rfl (sg1 rfl rfl (sg1 rfl rfl rfl))) ?_
  refine Ex.ifc rfl rfl (fun (c0 : (lg_cmp x1 0) < 0) => ?_) (fun (c0 : ¬ ((lg_cmp x1 0) < 0)) => ?_)
  · rw [if_pos c0] at hf
    exact Ex.weak (sm_le_n (sm_le_n (sm_le_s sm_le_nil))) (B_151_28 hd  hf hs)
  · rw [if_neg c0] at hf
    refine Ex.seg 5 (pc' := 13) (lc' := [some (.ref 21), some (.long x1), none]) (st' := [.int (lg_cmp x1 (Int32.toInt64 (h.1 21 6)))]) (h' := h) (sg1 rfl rfl (sg1 rfl rfl (sg1 rfl rfl (sg1 rfl rfl (sg1 rfl rfl rfl))))) ?_
    refine Ex.ifc rfl rfl (fun (c0 : 0 ≤ (lg_cmp x1 (Int32.toInt64 (h.1 21 6)))) => ?_) (fun (c0 : ¬ (0 ≤ (lg_cmp x1 (Int32.toInt64 (h.1 21 6))))) => ?_)
    · rw [if_pos c0] at hf
      exact Ex.weak (sm_le_n (sm_le_n (sm_le_s sm_le_nil))) (B_151_28 hd  hf hs)
    · rw [if_neg c0] at hf
      refine Ex.seg 4 (pc' := 22) (lc' := [some (.ref 21), some (.long x1), none]) (st' := [.int (Int64.toInt32 x1), .ref 29]) (h' := h) (sg1 rfl rfl (sg1 rfl rfl (sg1 rfl rfl (sg1 rfl rfl rfl)))) ?_
      obtain ⟨q1, e_q1, hf⟩ := bnd hf
      refine Ex.callV (a := 29) (As := [.int (Int64.toInt32 x1)]) (r := []) (v := some (.int q1.1)) (h' := q1.2) rfl rfl (by decide) rfl (Nat.le_of_ble_eq_true rfl) rfl (E_219 (Nat.le_trans (by decide) hd) e_q1) rfl ?_
      refine Ex.seg 1 (pc' := 29) (lc' := [some (.ref 21), some (.long x1), none]) (st' := [.int q1.1]) (h' := q1.2) (sg1 rfl rfl rfl) ?_
      exact Ex.weak (sm_le_n (sm_le_n (sm_le_s sm_le_nil))) (B_151_29 hd  hf hs)
theorem E_151 {L : Nat} {xs : Nat → Int32} {d : Nat} (hd : 2 ≤ d) {x1 : Int64} {h : sm_H} {r : Int32 × sm_H} (hf : F_151 x1 h = some r) : RUN L xs d 151 [.ref 21, .long x1] h (some (.int r.1), r.2) := by
  obtain ⟨d, rfl⟩ : ∃ e, d = e + 1 := ⟨d - 1, by omega⟩
  exact ⟨Nat.le_of_ble_eq_true rfl, B_151_0 (by omega) hf rfl⟩
theorem B_152_84 {L : Nat} {xs : Nat → Int32} {d : Nat} (hd : 1 ≤ d) {res : Option Value × sm_H} {z0 : Int32}  {h : sm_H} {r : (Int32 × sm_H)} (hf : F_152_84 z0 h = some r) (hs : (fun (r : Int32 × sm_H) => res = (some (.int r.1), r.2)) r) : Ex (P_G L xs) (RUN L xs d) (sm_lk P_t152) 0 84 [none, none, none, none] [.int z0] h res := by
  unfold F_152_84 at hf
  obtain rfl := Option.some.inj hf
  exact Ex.iret rfl rfl (fun c0 => by cases c0) hs
theorem B_152_57 {L : Nat} {xs : Nat → Int32} {d : Nat} (hd : 1 ≤ d) {res : Option Value × sm_H}   {h : sm_H} {r : (Int32 × sm_H)} (hf : F_152_57  h = some r) (hs : (fun (r : Int32 × sm_H) => res = (some (.int r.1), r.2)) r) : Ex (P_G L xs) (RUN L xs d) (sm_lk P_t152) 0 57 [none, none, none, none] [] h res := by
  unfold F_152_57 at hf
  refine Ex.seg 1 (pc' := 58) (lc' := [none, none, none, none]) (st' := [.int 1]) (h' := h) (sg1 rfl rfl rfl) ?_
  obtain rfl := Option.some.inj hf
  exact Ex.iret rfl rfl (fun c0 => by cases c0) hs
theorem B_152_30 {L : Nat} {xs : Nat → Int32} {d : Nat} (hd : 1 ≤ d) {res : Option Value × sm_H} {z0 : Int32}  {h : sm_H} {r : (Int32 × sm_H)} (hf : F_152_30 z0 h = some r) (hs : (fun (r : Int32 × sm_H) => res = (some (.int r.1), r.2)) r) : Ex (P_G L xs) (RUN L xs d) (sm_lk P_t152) 0 30 [none, none, none, none] [.int z0] h res := by
  unfold F_152_30 at hf
  obtain rfl := Option.some.inj hf
  exact Ex.iret rfl rfl (fun c0 => by cases c0) hs
theorem B_152_0 {L : Nat} {xs : Nat → Int32} {d : Nat} (hd : 1 ≤ d) {res : Option Value × sm_H} {x1 : Int32} {x2 : Int64}  {h : sm_H} {r : (Int32 × sm_H)} (hf : F_152_0 x1 x2 h = some r) (hs : (fun (r : Int32 × sm_H) => res = (some (.int r.1), r.2)) r) : Ex (P_G L xs) (RUN L xs d) (sm_lk P_t152) 0 0 [some (.ref 21), some (.int x1), some (.long x2), none] [] h res := by
  unfold F_152_0 at hf
  refine Ex.seg 3 (pc' := 5) (lc' := [some (.ref 21), some (.int x1), some (.long x2), none]) (st' := [.int x1, .ref 1]) (h' := h) (sg1 rfl rfl (sg1 rfl rfl (sg1 rfl rfl rfl))) ?_
  obtain ⟨q1, e_q1, hf⟩ := bnd hf
  refine Ex.callV (a := 1) (As := [.int x1]) (r := []) (v := some (.int q1.1)) (h' := q1.2) rfl rfl (by decide) rfl (Nat.le_of_ble_eq_true rfl) rfl (E_56 (Nat.le_trans (by decide) hd) e_q1) rfl ?_
  refine Ex.ifc rfl rfl (fun (c0 : q1.1 = 0) => ?_) (fun (c0 : ¬ (q1.1 = 0)) => ?_)
  · rw [if_pos c0] at hf
    refine Ex.seg 3 (pc' := 36) (lc' := [some (.ref 21), some (.int x1), some (.long x2), none]) (st' := [.int (lg_cmp x2 (-1))]) (h' := q1.2) (sg1 rfl rfl (sg1 rfl rfl (sg1 rfl rfl rfl))) ?_
    refine Ex.ifc rfl rfl (fun (c0 : ¬ ((lg_cmp x2 (-1)) = 0)) => ?_) (fun (c0 : ¬ ¬ ((lg_cmp x2 (-1)) = 0)) => ?_)
    · rw [if_neg c0] at hf
      refine Ex.seg 3 (pc' := 44) (lc' := [some (.ref 21), some (.int x1), some (.long x2), none]) (st' := [.int (lg_cmp x2 0)]) (h' := q1.2) (sg1 rfl rfl (sg1 rfl rfl (sg1 rfl rfl rfl))) ?_
      refine Ex.ifc rfl rfl (fun (c0 : (lg_cmp x2 0) < 0) => ?_) (fun (c0 : ¬ ((lg_cmp x2 0) < 0)) => ?_)
      · rw [if_pos c0] at hf
        exact Ex.weak (sm_le_n (sm_le_n (sm_le_n (sm_le_s sm_le_nil)))) (B_152_57 hd  hf hs)
      · rw [if_neg c0] at hf
        refine Ex.seg 5 (pc' := 54) (lc' := [some (.ref 21), some (.int x1), some (.long x2), none]) (st' := [.int (lg_cmp x2 (Int32.toInt64 (q1.2.1 21 6)))]) (h' := q1.2) (sg1 rfl rfl (sg1 rfl rfl (sg1 rfl rfl (sg1 rfl rfl (sg1 rfl rfl rfl))))) ?_
        refine Ex.ifc rfl rfl (fun (c0 : (lg_cmp x2 (Int32.toInt64 (q1.2.1 21 6))) < 0) => ?_) (fun (c0 : ¬ ((lg_cmp x2 (Int32.toInt64 (q1.2.1 21 6))) < 0)) => ?_)
        · rw [if_pos c0] at hf
          refine Ex.seg 6 (pc' := 69) (lc' := [some (.ref 21), some (.int x1), some (.long x2), none]) (st' := [.int (Int64.toInt32 x2), .ref 29, .ref 1]) (h' := q1.2) (sg1 rfl rfl (sg1 rfl rfl (sg1 rfl rfl (sg1 rfl rfl (sg1 rfl rfl (sg1 rfl rfl rfl)))))) ?_
          obtain ⟨q2, e_q2, hf⟩ := bnd hf
          refine Ex.callV (a := 29) (As := [.int (Int64.toInt32 x2)]) (r := [.ref 1]) (v := some (.int q2.1)) (h' := q2.2) rfl rfl (by decide) rfl (Nat.le_of_ble_eq_true rfl) rfl (E_219 (Nat.le_trans (by decide) hd) e_q2) rfl ?_
          refine Ex.seg 1 (pc' := 73) (lc' := [some (.ref 21), some (.int x1), some (.long x2), none]) (st' := [.int x1, .int q2.1, .ref 1]) (h' := q2.2) (sg1 rfl rfl rfl) ?_
          obtain ⟨q3, e_q3, hf⟩ := bnd hf
          refine Ex.callV (a := 1) (As := [.int q2.1, .int x1]) (r := []) (v := some (.int q3.1)) (h' := q3.2) rfl rfl (by decide) rfl (Nat.le_of_ble_eq_true rfl) rfl (E_60 (Nat.le_trans (by decide) hd) e_q3) rfl ?_
          refine Ex.ifc rfl rfl (fun (c0 : q3.1 = 0) => ?_) (fun (c0 : ¬ (q3.1 = 0)) => ?_)
          · rw [if_pos c0] at hf
            refine Ex.seg 1 (pc' := 84) (lc' := [some (.ref 21), some (.int x1), some (.long x2), none]) (st' := [.int 3]) (h' := q3.2) (sg1 rfl rfl rfl) ?_
            exact Ex.weak (sm_le_n (sm_le_n (sm_le_n (sm_le_s sm_le_nil)))) (B_152_84 hd  hf hs)
          · rw [if_neg c0] at hf
            refine Ex.seg 2 (pc' := 84) (lc' := [some (.ref 21), some (.int x1), some (.long x2), none]) (st' := [.int 0]) (h' := q3.2) (sg1 rfl rfl (sg1 rfl rfl rfl)) ?_
            exact Ex.weak (sm_le_n (sm_le_n (sm_le_n (sm_le_s sm_le_nil)))) (B_152_84 hd  hf hs)
        · rw [if_neg c0] at hf
          exact Ex.weak (sm_le_n (sm_le_n (sm_le_n (sm_le_s sm_le_nil)))) (B_152_57 hd  hf hs)
    · rw [if_pos (Classical.not_not.mp c0)] at hf
      refine Ex.seg 1 (pc' := 40) (lc' := [some (.ref 21), some (.int x1), some (.long x2), none]) (st' := [.int 0]) (h' := q1.2) (sg1 rfl rfl rfl) ?_
      obtain rfl := Option.some.inj hf
      exact Ex.iret rfl rfl (fun c0 => by cases c0) hs
  · rw [if_neg c0] at hf
    refine Ex.seg 4 (pc' := 17) (lc' := [some (.ref 21), some (.int x1), some (.long x2), none]) (st' := [.int x1, .long x2, .ref 1]) (h' := q1.2) (sg1 rfl rfl (sg1 rfl rfl (sg1 rfl rfl (sg1 rfl rfl rfl)))) ?_
    obtain ⟨q4, e_q4, hf⟩ := bnd hf
    refine Ex.callV (a := 1) (As := [.long x2, .int x1]) (r := []) (v := some (.long q4.1)) (h' := q4.2) rfl rfl (by decide) rfl (Nat.le_of_ble_eq_true rfl) rfl (E_68 (Nat.le_trans (by decide) hd) e_q4) rfl ?_
    refine Ex.seg 2 (pc' := 22) (lc' := [some (.ref 21), some (.int x1), some (.long x2), none]) (st' := [.int (lg_cmp q4.1 x2)]) (h' := q4.2) (sg1 rfl rfl (sg1 rfl rfl rfl)) ?_
    refine Ex.ifc rfl rfl (fun (c0 : ¬ ((lg_cmp q4.1 x2) = 0)) => ?_) (fun (c0 : ¬ ¬ ((lg_cmp q4.1 x2) = 0)) => ?_)
    · rw [if_neg c0] at hf
      refine Ex.seg 1 (pc' := 30) (lc' := [some (.ref 21), some (.int x1), some (.long x2), none]) (st' := [.int 2]) (h' := q4.2) (sg1 rfl rfl rfl) ?_
      exact Ex.weak (sm_le_n (sm_le_n (sm_le_n (sm_le_s sm_le_nil)))) (B_152_30 hd  hf hs)
    · rw [if_pos (Classical.not_not.mp c0)] at hf
      refine Ex.seg 2 (pc' := 30) (lc' := [some (.ref 21), some (.int x1), some (.long x2), none]) (st' := [.int 0]) (h' := q4.2) (sg1 rfl rfl (sg1 rfl rfl rfl)) ?_
      exact Ex.weak (sm_le_n (sm_le_n (sm_le_n (sm_le_s sm_le_nil)))) (B_152_30 hd  hf hs)
theorem E_152 {L : Nat} {xs : Nat → Int32} {d : Nat} (hd : 2 ≤ d) {x1 : Int32} {x2 : Int64} {h : sm_H} {r : Int32 × sm_H} (hf : F_152 x1 x2 h = some r) : RUN L xs d 152 [.ref 21, .int x1, .long x2] h (some (.int r.1), r.2) := by
  obtain ⟨d, rfl⟩ : ∃ e, d = e + 1 := ⟨d - 1, by omega⟩
  exact ⟨Nat.le_of_ble_eq_true rfl, B_152_0 (by omega) hf rfl⟩
theorem B_153_20 {L : Nat} {xs : Nat → Int32} {d : Nat} (hd : 2 ≤ d) {res : Option Value × sm_H} {z0 : Int64}  {h : sm_H} {r : (Int64 × sm_H)} (hf : F_153_20 z0 h = some r) (hs : (fun (r : Int64 × sm_H) => res = (some (.long r.1), r.2)) r) : Ex (P_G L xs) (RUN L xs d) (sm_lk P_t153) 0 20 [none, none, none, none] [.long z0] h res := by
  unfold F_153_20 at hf
  obtain rfl := Option.some.inj hf
  exact Ex.lret rfl rfl hs
theorem B_153_0 {L : Nat} {xs : Nat → Int32} {d : Nat} (hd : 2 ≤ d) {res : Option Value × sm_H} {x1 : Int32} {x2 : Int64}  {h : sm_H} {r : (Int64 × sm_H)} (hf : F_153_0 x1 x2 h = some r) (hs : (fun (r : Int64 × sm_H) => res = (some (.long r.1), r.2)) r) : Ex (P_G L xs) (RUN L xs d) (sm_lk P_t153) 0 0 [some (.ref 21), some (.int x1), some (.long x2), none] [] h res := by
  unfold F_153_0 at hf
  refine Ex.seg 3 (pc' := 5) (lc' := [some (.ref 21), some (.int x1), some (.long x2), none]) (st' := [.int x1, .ref 1]) (h' := h) (sg1 rfl rfl (sg1 rfl rfl (sg1 rfl rfl rfl))) ?_
  obtain ⟨q1, e_q1, hf⟩ := bnd hf
  refine Ex.callV (a := 1) (As := [.int x1]) (r := []) (v := some (.int q1.1)) (h' := q1.2) rfl rfl (by decide) rfl (Nat.le_of_ble_eq_true rfl) rfl (E_56 (Nat.le_trans (by decide) hd) e_q1) rfl ?_
  refine Ex.ifc rfl rfl (fun (c0 : q1.1 = 0) => ?_) (fun (c0 : ¬ (q1.1 = 0)) => ?_)
  · rw [if_pos c0] at hf
    refine Ex.seg 2 (pc' := 17) (lc' := [some (.ref 21), some (.int x1), some (.long x2), none]) (st' := [.long x2, .ref 21]) (h' := q1.2) (sg1 rfl rfl (sg1 rfl rfl rfl)) ?_
    obtain ⟨q2, e_q2, hf⟩ := bnd hf
    refine Ex.callV (a := 21) (As := [.long x2]) (r := []) (v := some (.long q2.1)) (h' := q2.2) rfl rfl (by decide) rfl (Nat.le_of_ble_eq_true rfl) rfl (E_150 (Nat.le_trans (by decide) hd) e_q2) rfl ?_
    exact Ex.weak (sm_le_n (sm_le_n (sm_le_n (sm_le_s sm_le_nil)))) (B_153_20 hd  hf hs)
  · rw [if_neg c0] at hf
    refine Ex.seg 2 (pc' := 20) (lc' := [some (.ref 21), some (.int x1), some (.long x2), none]) (st' := [.long x2]) (h' := q1.2) (sg1 rfl rfl (sg1 rfl rfl rfl)) ?_
    exact Ex.weak (sm_le_n (sm_le_n (sm_le_n (sm_le_s sm_le_nil)))) (B_153_20 hd  hf hs)
theorem E_153 {L : Nat} {xs : Nat → Int32} {d : Nat} (hd : 3 ≤ d) {x1 : Int32} {x2 : Int64} {h : sm_H} {r : Int64 × sm_H} (hf : F_153 x1 x2 h = some r) : RUN L xs d 153 [.ref 21, .int x1, .long x2] h (some (.long r.1), r.2) := by
  obtain ⟨d, rfl⟩ : ∃ e, d = e + 1 := ⟨d - 1, by omega⟩
  exact ⟨Nat.le_of_ble_eq_true rfl, B_153_0 (by omega) hf rfl⟩
theorem B_154_20 {L : Nat} {xs : Nat → Int32} {d : Nat} (hd : 2 ≤ d) {res : Option Value × sm_H} {z0 : Int32}  {h : sm_H} {r : (Int32 × sm_H)} (hf : F_154_20 z0 h = some r) (hs : (fun (r : Int32 × sm_H) => res = (some (.int r.1), r.2)) r) : Ex (P_G L xs) (RUN L xs d) (sm_lk P_t154) 0 20 [none, none, none, none] [.int z0] h res := by
  unfold F_154_20 at hf
  obtain rfl := Option.some.inj hf
  exact Ex.iret rfl rfl (fun c0 => by cases c0) hs
theorem B_154_0 {L : Nat} {xs : Nat → Int32} {d : Nat} (hd : 2 ≤ d) {res : Option Value × sm_H} {x1 : Int32} {x2 : Int64}  {h : sm_H} {r : (Int32 × sm_H)} (hf : F_154_0 x1 x2 h = some r) (hs : (fun (r : Int32 × sm_H) => res = (some (.int r.1), r.2)) r) : Ex (P_G L xs) (RUN L xs d) (sm_lk P_t154) 0 0 [some (.ref 21), some (.int x1), some (.long x2), none] [] h res := by
  unfold F_154_0 at hf
  refine Ex.seg 3 (pc' := 5) (lc' := [some (.ref 21), some (.int x1), some (.long x2), none]) (st' := [.int x1, .ref 1]) (h' := h) (sg1 rfl rfl (sg1 rfl rfl (sg1 rfl rfl rfl))) ?_
  obtain ⟨q1, e_q1, hf⟩ := bnd hf
  refine Ex.callV (a := 1) (As := [.int x1]) (r := []) (v := some (.int q1.1)) (h' := q1.2) rfl rfl (by decide) rfl (Nat.le_of_ble_eq_true rfl) rfl (E_56 (Nat.le_trans (by decide) hd) e_q1) rfl ?_
  refine Ex.ifc rfl rfl (fun (c0 : q1.1 = 0) => ?_) (fun (c0 : ¬ (q1.1 = 0)) => ?_)
  · rw [if_pos c0] at hf
    refine Ex.seg 2 (pc' := 17) (lc' := [some (.ref 21), some (.int x1), some (.long x2), none]) (st' := [.long x2, .ref 21]) (h' := q1.2) (sg1 rfl rfl (sg1 rfl rfl rfl)) ?_
    obtain ⟨q2, e_q2, hf⟩ := bnd hf
    refine Ex.callV (a := 21) (As := [.long x2]) (r := []) (v := some (.int q2.1)) (h' := q2.2) rfl rfl (by decide) rfl (Nat.le_of_ble_eq_true rfl) rfl (E_151 (Nat.le_trans (by decide) hd) e_q2) rfl ?_
    exact Ex.weak (sm_le_n (sm_le_n (sm_le_n (sm_le_s sm_le_nil)))) (B_154_20 hd  hf hs)
  · rw [if_neg c0] at hf
    refine Ex.seg 2 (pc' := 20) (lc' := [some (.ref 21), some (.int x1), some (.long x2), none]) (st' := [.int 0]) (h' := q1.2) (sg1 rfl rfl (sg1 rfl rfl rfl)) ?_
    exact Ex.weak (sm_le_n (sm_le_n (sm_le_n (sm_le_s sm_le_nil)))) (B_154_20 hd  hf hs)
theorem E_154 {L : Nat} {xs : Nat → Int32} {d : Nat} (hd : 3 ≤ d) {x1 : Int32} {x2 : Int64} {h : sm_H} {r : Int32 × sm_H} (hf : F_154 x1 x2 h = some r) : RUN L xs d 154 [.ref 21, .int x1, .long x2] h (some (.int r.1), r.2) := by
  obtain ⟨d, rfl⟩ : ∃ e, d = e + 1 := ⟨d - 1, by omega⟩
  exact ⟨Nat.le_of_ble_eq_true rfl, B_154_0 (by omega) hf rfl⟩
theorem B_165_70 {L : Nat} {xs : Nat → Int32} {d : Nat} (hd : 1 ≤ d) {res : Option Value × sm_H} {z0 : Int32}  {h : sm_H} {r : (Int32 × sm_H)} (hf : F_165_70 z0 h = some r) (hs : (fun (r : Int32 × sm_H) => res = (some (.int r.1), r.2)) r) : Ex (P_G L xs) (RUN L xs d) (sm_lk P_t165) 0 70 [none, none, none, none, none, none, none, none] [.int z0] h res := by
  unfold F_165_70 at hf
  obtain rfl := Option.some.inj hf
  exact Ex.iret rfl rfl (fun c0 => by cases c0) hs
theorem B_165_39 {L : Nat} {xs : Nat → Int32} {d : Nat} (hd : 1 ≤ d) {res : Option Value × sm_H} {S1 : (Int64 × Int64 × Int32 × sm_H) → Prop} (hS1 : ∀ s, S1 s → Ex (P_G L xs) (RUN L xs d) (sm_lk P_t165) 0 6 [some (.ref 55), some (.long s.1), none, some (.long s.2.1), none, some (.int s.2.2.1), none, none] [] s.2.2.2 res) {y1 : Int64} {y5 : Int32} {z0 : Int64}  {h : sm_H} {r : ((Int64 × Int64 × Int32 × sm_H) ⊕ (Int32 × sm_H))} (hf : F_165_39 y1 y5 z0 h = some r) (hs : (Sum.elim S1 (fun (r : Int32 × sm_H) => res = (some (.int r.1), r.2))) r) : Ex (P_G L xs) (RUN L xs d) (sm_lk P_t165) 0 39 [some (.ref 55), some (.long y1), none, none, none, some (.int y5), none, none] [.long z0] h res := by
  unfold F_165_39 at hf
  refine Ex.seg 2 (pc' := 43) (lc' := [some (.ref 55), some (.long y1), none, some (.long z0), none, some (.int (y5 + (-8))), none, none]) (st' := []) (h' := h) (sg1 rfl rfl (sg1 rfl rfl rfl)) ?_
  obtain ⟨v1, e_v1, hf⟩ := bnd hf
  rw [Option.some.inj e_v1]
  refine Ex.seg 1 (pc' := 6) (lc' := [some (.ref 55), some (.long y1), none, some (.long z0), none, some (.int v1), none, none]) (st' := []) (h' := h) (sg1 rfl rfl rfl) ?_
  obtain rfl := Option.some.inj hf
  exact Ex.weak (sm_le_s (sm_le_s (sm_le_s (sm_le_s (sm_le_s (sm_le_s (sm_le_s (sm_le_s sm_le_nil)))))))) (hS1 _ hs)
theorem B_165_6B {L : Nat} {xs : Nat → Int32} {d : Nat} (hd : 1 ≤ d) {res : Option Value × sm_H} {S1 : (Int64 × Int64 × Int32 × sm_H) → Prop} (hS1 : ∀ s, S1 s → Ex (P_G L xs) (RUN L xs d) (sm_lk P_t165) 0 6 [some (.ref 55), some (.long s.1), none, some (.long s.2.1), none, some (.int s.2.2.1), none, none] [] s.2.2.2 res) {s : (Int64 × Int64 × Int32 × sm_H)}  {r : ((Int64 × Int64 × Int32 × sm_H) ⊕ (Int32 × sm_H))} (hf : F_165_6B s = some r) (hs : (Sum.elim S1 (fun (r : Int32 × sm_H) => res = (some (.int r.1), r.2))) r) : Ex (P_G L xs) (RUN L xs d) (sm_lk P_t165) 0 6 [some (.ref 55), some (.long s.1), none, some (.long s.2.1), none, some (.int s.2.2.1), none, none] [] s.2.2.2 res := by
  unfold F_165_6B at hf
  refine Ex.seg 1 (pc' := 8) (lc' := [some (.ref 55), some (.long s.1), none, some (.long s.2.1), none, some (.int s.2.2.1), none, none]) (st' := [.int s.2.2.1]) (h' := s.2.2.2) (sg1 rfl rfl rfl) ?_
  refine Ex.ifc rfl rfl (fun (c0 : s.2.2.1 < 0) => ?_) (fun (c0 : ¬ (s.2.2.1 < 0)) => ?_)
  · rw [if_pos c0] at hf
    refine Ex.seg 2 (pc' := 48) (lc' := [some (.ref 55), some (.long s.1), none, some (.long s.2.1), none, some (.int s.2.2.1), none, none]) (st' := [.long s.2.1, .ref 55]) (h' := s.2.2.2) (sg1 rfl rfl (sg1 rfl rfl rfl)) ?_
    obtain ⟨q2, e_q2, hf⟩ := bnd hf
    refine Ex.callV (a := 55) (As := [.long s.2.1]) (r := []) (v := some (.int q2.1)) (h' := q2.2) rfl rfl (by decide) rfl (Nat.le_of_ble_eq_true rfl) rfl (E_166 (Nat.le_trans (by decide) hd) e_q2) rfl ?_
    refine Ex.seg 3 (pc' := 56) (lc' := [some (.ref 55), some (.long s.1), none, some (.long s.2.1), none, some (.int q2.1), none, none]) (st' := [.int (-1), .int q2.1]) (h' := q2.2) (sg1 rfl rfl (sg1 rfl rfl (sg1 rfl rfl rfl))) ?_
    refine Ex.icmp rfl rfl (fun (c0 : ¬ (q2.1 = (-1))) => ?_) (fun (c0 : ¬ ¬ (q2.1 = (-1))) => ?_)
    · rw [if_neg c0] at hf
      refine Ex.seg 3 (pc' := 69) (lc' := [some (.ref 55), some (.long s.1), none, some (.long s.2.1), none, some (.int q2.1), none, none]) (st' := [.int q2.1, .ref 63]) (h' := q2.2) (sg1 rfl rfl (sg1 rfl rfl (sg1 rfl rfl rfl))) ?_
      obtain ⟨v3, e_v3, hf⟩ := bnd hf
      refine Ex.iald e_v3 rfl rfl ?_
      obtain ⟨r0, hf0, rfl⟩ := Option.map_eq_some_iff.mp hf
      exact Ex.weak (sm_le_n (sm_le_n (sm_le_s (sm_le_n (sm_le_s (sm_le_n (sm_le_s (sm_le_s sm_le_nil)))))))) (B_165_70 hd  hf0 hs)
    · rw [if_pos (Classical.not_not.mp c0)] at hf
      refine Ex.seg 2 (pc' := 70) (lc' := [some (.ref 55), some (.long s.1), none, some (.long s.2.1), none, some (.int q2.1), none, none]) (st' := [.int (-1)]) (h' := q2.2) (sg1 rfl rfl (sg1 rfl rfl rfl)) ?_
      obtain ⟨r0, hf0, rfl⟩ := Option.map_eq_some_iff.mp hf
      exact Ex.weak (sm_le_n (sm_le_n (sm_le_s (sm_le_n (sm_le_s (sm_le_n (sm_le_s (sm_le_s sm_le_nil)))))))) (B_165_70 hd  hf0 hs)
  · rw [if_neg c0] at hf
    refine Ex.seg 6 (pc' := 21) (lc' := [some (.ref 55), some (.long s.1), none, some (.long s.2.1), none, some (.int s.2.2.1), some (.long ((Int64.toUInt64 s.1 >>> ((Int32.toInt64 s.2.2.1).toUInt64 &&& Int64.toUInt64 63)).toInt64 &&& 255)), none]) (st' := []) (h' := s.2.2.2) (sg1 rfl rfl (sg1 rfl rfl (sg1 rfl rfl (sg1 rfl rfl (sg1 rfl rfl (sg1 rfl rfl rfl)))))) ?_
    obtain ⟨v4, e_v4, hf⟩ := bnd hf
    rw [Option.some.inj e_v4]
    refine Ex.seg 3 (pc' := 25) (lc' := [some (.ref 55), some (.long s.1), none, some (.long s.2.1), none, some (.int s.2.2.1), some (.long v4), none]) (st' := [.int (lg_cmp v4 0)]) (h' := s.2.2.2) (sg1 rfl rfl (sg1 rfl rfl (sg1 rfl rfl rfl))) ?_
    refine Ex.ifc rfl rfl (fun (c0 : ¬ ((lg_cmp v4 0) = 0)) => ?_) (fun (c0 : ¬ ¬ ((lg_cmp v4 0) = 0)) => ?_)
    · rw [if_neg c0] at hf
      refine Ex.seg 5 (pc' := 39) (lc' := [some (.ref 55), some (.long s.1), none, some (.long s.2.1), none, some (.int s.2.2.1), some (.long v4), none]) (st' := [.long ((s.2.1 <<< (Int32.toInt64 8 &&& 63)) ||| v4)]) (h' := s.2.2.2) (sg1 rfl rfl (sg1 rfl rfl (sg1 rfl rfl (sg1 rfl rfl (sg1 rfl rfl rfl))))) ?_
      exact Ex.weak (sm_le_s (sm_le_s (sm_le_s (sm_le_n (sm_le_s (sm_le_s (sm_le_n (sm_le_s sm_le_nil)))))))) (B_165_39 hd hS1 hf hs)
    · rw [if_pos (Classical.not_not.mp c0)] at hf
      refine Ex.seg 2 (pc' := 39) (lc' := [some (.ref 55), some (.long s.1), none, some (.long s.2.1), none, some (.int s.2.2.1), some (.long v4), none]) (st' := [.long s.2.1]) (h' := s.2.2.2) (sg1 rfl rfl (sg1 rfl rfl rfl)) ?_
      exact Ex.weak (sm_le_s (sm_le_s (sm_le_s (sm_le_n (sm_le_s (sm_le_s (sm_le_n (sm_le_s sm_le_nil)))))))) (B_165_39 hd hS1 hf hs)
theorem B_165_6 {L : Nat} {xs : Nat → Int32} {d : Nat} (hd : 1 ≤ d) {res : Option Value × sm_H} {y1 : Int64} {y3 : Int64} {y5 : Int32}  {h : sm_H} {r : (Int32 × sm_H)} (hf : F_165_6 y1 y3 y5 h = some r) (hs : (fun (r : Int32 × sm_H) => res = (some (.int r.1), r.2)) r) : Ex (P_G L xs) (RUN L xs d) (sm_lk P_t165) 0 6 [some (.ref 55), some (.long y1), none, some (.long y3), none, some (.int y5), none, none] [] h res := by
  unfold F_165_6 at hf
  exact lp_ok (P := fun (s : (Int64 × Int64 × Int32 × sm_H)) => Ex (P_G L xs) (RUN L xs d) (sm_lk P_t165) 0 6 [some (.ref 55), some (.long s.1), none, some (.long s.2.1), none, some (.int s.2.2.1), none, none] [] s.2.2.2 res) (S := (fun (r : Int32 × sm_H) => res = (some (.int r.1), r.2))) (fun s x hx hsx => by
    intros
    exact B_165_6B hd  (fun _ q => q) hx hsx) 1000000 _ r hf hs
theorem B_165_0 {L : Nat} {xs : Nat → Int32} {d : Nat} (hd : 1 ≤ d) {res : Option Value × sm_H} {x1 : Int64}  {h : sm_H} {r : (Int32 × sm_H)} (hf : F_165_0 x1 h = some r) (hs : (fun (r : Int32 × sm_H) => res = (some (.int r.1), r.2)) r) : Ex (P_G L xs) (RUN L xs d) (sm_lk P_t165) 0 0 [some (.ref 55), some (.long x1), none, none, none, none, none, none] [] h res := by
  unfold F_165_0 at hf
  refine Ex.seg 4 (pc' := 6) (lc' := [some (.ref 55), some (.long x1), none, some (.long 0), none, some (.int 56), none, none]) (st' := []) (h' := h) (sg1 rfl rfl (sg1 rfl rfl (sg1 rfl rfl (sg1 rfl rfl rfl)))) ?_
  exact Ex.weak (sm_le_s (sm_le_s (sm_le_s (sm_le_s (sm_le_s (sm_le_s (sm_le_s (sm_le_s sm_le_nil)))))))) (B_165_6 hd  hf hs)
theorem E_165 {L : Nat} {xs : Nat → Int32} {d : Nat} (hd : 2 ≤ d) {x1 : Int64} {h : sm_H} {r : Int32 × sm_H} (hf : F_165 x1 h = some r) : RUN L xs d 165 [.ref 55, .long x1] h (some (.int r.1), r.2) := by
  obtain ⟨d, rfl⟩ : ∃ e, d = e + 1 := ⟨d - 1, by omega⟩
  exact ⟨Nat.le_of_ble_eq_true rfl, B_165_0 (by omega) hf rfl⟩
theorem B_170_0 {L : Nat} {xs : Nat → Int32} {d : Nat} (hd : 1 ≤ d) {res : Option Value × sm_H} {x1 : Int32}  {h : sm_H} {r : (Int32 × sm_H)} (hf : F_170_0 x1 h = some r) (hs : (fun (r : Int32 × sm_H) => res = (some (.int r.1), r.2)) r) : Ex (P_G L xs) (RUN L xs d) (sm_lk P_t170) 0 0 [some (.ref 55), some (.int x1)] [] h res := by
  unfold F_170_0 at hf
  refine Ex.seg 4 (pc' := 6) (lc' := [some (.ref 55), some (.int x1)]) (st' := [.ref 52, .int x1, .ref 55]) (h' := h) (sg1 rfl rfl (sg1 rfl rfl (sg1 rfl rfl (sg1 rfl rfl rfl)))) ?_
  obtain ⟨q1, e_q1, hf⟩ := bnd hf
  refine Ex.callV (a := 52) (As := []) (r := [.int x1, .ref 55]) (v := some (.int q1.1)) (h' := q1.2) rfl rfl (by decide) rfl (Nat.le_of_ble_eq_true rfl) rfl (E_243 (Nat.le_trans (by decide) hd) e_q1) rfl ?_
  obtain ⟨q2, e_q2, hf⟩ := bnd hf
  refine Ex.callV (a := 55) (As := [.int x1, .int q1.1]) (r := []) (v := some (.int q2.1)) (h' := q2.2) rfl rfl (by decide) rfl (Nat.le_of_ble_eq_true rfl) rfl (E_169 (Nat.le_trans (by decide) hd) e_q2) rfl ?_
  obtain rfl := Option.some.inj hf
  exact Ex.iret rfl rfl (fun c0 => by cases c0) hs
theorem E_170 {L : Nat} {xs : Nat → Int32} {d : Nat} (hd : 2 ≤ d) {x1 : Int32} {h : sm_H} {r : Int32 × sm_H} (hf : F_170 x1 h = some r) : RUN L xs d 170 [.ref 55, .int x1] h (some (.int r.1), r.2) := by
  obtain ⟨d, rfl⟩ : ∃ e, d = e + 1 := ⟨d - 1, by omega⟩
  exact ⟨Nat.le_of_ble_eq_true rfl, B_170_0 (by omega) hf rfl⟩
theorem B_173_37 {L : Nat} {xs : Nat → Int32} {d : Nat} (hd : 2 ≤ d) {res : Option Value × sm_H} {z0 : Int32}  {h : sm_H} {r : (Int32 × sm_H)} (hf : F_173_37 z0 h = some r) (hs : (fun (r : Int32 × sm_H) => res = (some (.int r.1), r.2)) r) : Ex (P_G L xs) (RUN L xs d) (sm_lk P_t173) 3 37 [none] [.int z0] h res := by
  unfold F_173_37 at hf
  rcases Classical.em (z0 = 0 ∨ z0 = 1) with c0 | c0
  · rw [if_pos c0] at hf
    obtain rfl := Option.some.inj hf
    exact Ex.iret rfl rfl (fun _ => c0) hs
  · rw [if_neg c0] at hf
    cases hf
theorem B_173_15 {L : Nat} {xs : Nat → Int32} {d : Nat} (hd : 2 ≤ d) {res : Option Value × sm_H}   {h : sm_H} {r : (Int32 × sm_H)} (hf : F_173_15  h = some r) (hs : (fun (r : Int32 × sm_H) => res = (some (.int r.1), r.2)) r) : Ex (P_G L xs) (RUN L xs d) (sm_lk P_t173) 3 15 [some (.ref 55)] [] h res := by
  unfold F_173_15 at hf
  refine Ex.seg 6 (pc' := 25) (lc' := [some (.ref 55)]) (st' := []) (h' := (sm_wI h 55 16 ((h.1 55 16) + 1))) (sg1 rfl rfl (sg1 rfl rfl (sg1 rfl rfl (sg1 rfl rfl (sg1 rfl rfl (sg1 rfl rfl rfl)))))) ?_
  obtain ⟨h1, e_h1, hf⟩ := bnd hf
  rw [Option.some.inj e_h1]
  refine Ex.seg 2 (pc' := 29) (lc' := [some (.ref 55)]) (st' := [.int (h1.1 55 17)]) (h' := h1) (sg1 rfl rfl (sg1 rfl rfl rfl)) ?_
  refine Ex.ifc rfl rfl (fun (c0 : ¬ ((h1.1 55 17) = 0)) => ?_) (fun (c0 : ¬ ¬ ((h1.1 55 17) = 0)) => ?_)
  · rw [if_neg c0] at hf
    refine Ex.seg 1 (pc' := 37) (lc' := [some (.ref 55)]) (st' := [.int 0]) (h' := h1) (sg1 rfl rfl rfl) ?_
    exact Ex.weak (sm_le_n sm_le_nil) (B_173_37 hd  hf hs)
  · rw [if_pos (Classical.not_not.mp c0)] at hf
    refine Ex.seg 2 (pc' := 37) (lc' := [some (.ref 55)]) (st' := [.int 1]) (h' := h1) (sg1 rfl rfl (sg1 rfl rfl rfl)) ?_
    exact Ex.weak (sm_le_n sm_le_nil) (B_173_37 hd  hf hs)
theorem B_173_0 {L : Nat} {xs : Nat → Int32} {d : Nat} (hd : 2 ≤ d) {res : Option Value × sm_H}   {h : sm_H} {r : (Int32 × sm_H)} (hf : F_173_0  h = some r) (hs : (fun (r : Int32 × sm_H) => res = (some (.int r.1), r.2)) r) : Ex (P_G L xs) (RUN L xs d) (sm_lk P_t173) 3 0 [some (.ref 55)] [] h res := by
  unfold F_173_0 at hf
  refine Ex.seg 3 (pc' := 6) (lc' := [some (.ref 55)]) (st' := [.int 20, .int (h.1 55 16)]) (h' := h) (sg1 rfl rfl (sg1 rfl rfl (sg1 rfl rfl rfl))) ?_
  refine Ex.icmp rfl rfl (fun (c0 : (h.1 55 16) < 20) => ?_) (fun (c0 : ¬ ((h.1 55 16) < 20)) => ?_)
  · rw [if_pos c0] at hf
    exact Ex.weak (sm_le_s sm_le_nil) (B_173_15 hd  hf hs)
  · rw [if_neg c0] at hf
    refine Ex.seg 2 (pc' := 11) (lc' := [some (.ref 55)]) (st' := [.int 5, .ref 55]) (h' := h) (sg1 rfl rfl (sg1 rfl rfl rfl)) ?_
    obtain ⟨q2, e_q2, hf⟩ := bnd hf
    refine Ex.callV (a := 55) (As := [.int 5]) (r := []) (v := some (.int q2.1)) (h' := q2.2) rfl rfl (by decide) rfl (Nat.le_of_ble_eq_true rfl) rfl (E_170 (Nat.le_trans (by decide) hd) e_q2) rfl ?_
    refine Ex.seg 1 (pc' := 15) (lc' := [some (.ref 55)]) (st' := []) (h' := q2.2) (sg1 rfl rfl rfl) ?_
    exact Ex.weak (sm_le_s sm_le_nil) (B_173_15 hd  hf hs)
theorem E_173 {L : Nat} {xs : Nat → Int32} {d : Nat} (hd : 3 ≤ d)  {h : sm_H} {r : Int32 × sm_H} (hf : F_173  h = some r) : RUN L xs d 173 [.ref 55] h (some (.int r.1), r.2) := by
  obtain ⟨d, rfl⟩ : ∃ e, d = e + 1 := ⟨d - 1, by omega⟩
  exact ⟨Nat.le_of_ble_eq_true rfl, B_173_0 (by omega) hf rfl⟩
theorem B_231_43 {L : Nat} {xs : Nat → Int32} {d : Nat} (hd : 1 ≤ d) {res : Option Value × sm_H} {S1 : (Int32 × Int32 × sm_H) → Prop} (hS1 : ∀ s, S1 s → Ex (P_G L xs) (RUN L xs d) (sm_lk P_t231) 0 2 [some (.ref 5), some (.int s.1), some (.int s.2.1)] [] s.2.2 res) {y1 : Int32} {y2 : Int32}  {h : sm_H} {r : ((Int32 × Int32 × sm_H) ⊕ (Int32 × sm_H))} (hf : F_231_43 y1 y2 h = some r) (hs : (Sum.elim S1 (fun (r : Int32 × sm_H) => res = (some (.int r.1), r.2))) r) : Ex (P_G L xs) (RUN L xs d) (sm_lk P_t231) 0 43 [some (.ref 5), some (.int y1), some (.int y2)] [] h res := by
  unfold F_231_43 at hf
  refine Ex.seg 1 (pc' := 46) (lc' := [some (.ref 5), some (.int y1), some (.int (y2 + 1))]) (st' := []) (h' := h) (sg1 rfl rfl rfl) ?_
  obtain ⟨v1, e_v1, hf⟩ := bnd hf
  rw [Option.some.inj e_v1]
  refine Ex.seg 1 (pc' := 2) (lc' := [some (.ref 5), some (.int y1), some (.int v1)]) (st' := []) (h' := h) (sg1 rfl rfl rfl) ?_
  obtain rfl := Option.some.inj hf
  exact Ex.weak (sm_le_s (sm_le_s (sm_le_s sm_le_nil))) (hS1 _ hs)
theorem B_231_2B {L : Nat} {xs : Nat → Int32} {d : Nat} (hd : 1 ≤ d) {res : Option Value × sm_H} {S1 : (Int32 × Int32 × sm_H) → Prop} (hS1 : ∀ s, S1 s → Ex (P_G L xs) (RUN L xs d) (sm_lk P_t231) 0 2 [some (.ref 5), some (.int s.1), some (.int s.2.1)] [] s.2.2 res) {s : (Int32 × Int32 × sm_H)}  {r : ((Int32 × Int32 × sm_H) ⊕ (Int32 × sm_H))} (hf : F_231_2B s = some r) (hs : (Sum.elim S1 (fun (r : Int32 × sm_H) => res = (some (.int r.1), r.2))) r) : Ex (P_G L xs) (RUN L xs d) (sm_lk P_t231) 0 2 [some (.ref 5), some (.int s.1), some (.int s.2.1)] [] s.2.2 res := by
  unfold F_231_2B at hf
  refine Ex.seg 3 (pc' := 7) (lc' := [some (.ref 5), some (.int s.1), some (.int s.2.1)]) (st' := [.int (s.2.2.1 5 4), .int s.2.1]) (h' := s.2.2) (sg1 rfl rfl (sg1 rfl rfl (sg1 rfl rfl rfl))) ?_
  refine Ex.icmp rfl rfl (fun (c0 : (s.2.2.1 5 4) ≤ s.2.1) => ?_) (fun (c0 : ¬ ((s.2.2.1 5 4) ≤ s.2.1)) => ?_)
  · rw [if_pos c0] at hf
    refine Ex.seg 1 (pc' := 50) (lc' := [some (.ref 5), some (.int s.1), some (.int s.2.1)]) (st' := [.int (-1)]) (h' := s.2.2) (sg1 rfl rfl rfl) ?_
    obtain rfl := Option.some.inj hf
    exact Ex.iret rfl rfl (fun c0 => by cases c0) hs
  · rw [if_neg c0] at hf
    refine Ex.seg 3 (pc' := 15) (lc' := [some (.ref 5), some (.int s.1), some (.int s.2.1)]) (st' := [.int s.2.1, .ref 6]) (h' := s.2.2) (sg1 rfl rfl (sg1 rfl rfl (sg1 rfl rfl rfl))) ?_
    obtain ⟨v2, e_v2, hf⟩ := bnd hf
    refine Ex.iald e_v2 rfl rfl ?_
    refine Ex.seg 1 (pc' := 17) (lc' := [some (.ref 5), some (.int s.1), some (.int s.2.1)]) (st' := [.int s.1, .int v2]) (h' := s.2.2) (sg1 rfl rfl rfl) ?_
    refine Ex.icmp rfl rfl (fun (c0 : ¬ (v2 = s.1)) => ?_) (fun (c0 : ¬ ¬ (v2 = s.1)) => ?_)
    · rw [if_neg c0] at hf
      exact Ex.weak (sm_le_s (sm_le_s (sm_le_s sm_le_nil))) (B_231_43 hd hS1 hf hs)
    · rw [if_pos (Classical.not_not.mp c0)] at hf
      refine Ex.seg 3 (pc' := 25) (lc' := [some (.ref 5), some (.int s.1), some (.int s.2.1)]) (st' := [.int s.2.1, .ref 7]) (h' := s.2.2) (sg1 rfl rfl (sg1 rfl rfl (sg1 rfl rfl rfl))) ?_
      obtain ⟨v3, e_v3, hf⟩ := bnd hf
      refine Ex.iald e_v3 rfl rfl ?_
      refine Ex.seg 2 (pc' := 30) (lc' := [some (.ref 5), some (.int s.1), some (.int s.2.1)]) (st' := [.int (s.2.2.1 5 6), .int v3]) (h' := s.2.2) (sg1 rfl rfl (sg1 rfl rfl rfl)) ?_
      refine Ex.icmp rfl rfl (fun (c0 : ¬ (v3 = (s.2.2.1 5 6))) => ?_) (fun (c0 : ¬ ¬ (v3 = (s.2.2.1 5 6))) => ?_)
      · rw [if_neg c0] at hf
        exact Ex.weak (sm_le_s (sm_le_s (sm_le_s sm_le_nil))) (B_231_43 hd hS1 hf hs)
      · rw [if_pos (Classical.not_not.mp c0)] at hf
        refine Ex.seg 2 (pc' := 35) (lc' := [some (.ref 5), some (.int s.1), some (.int s.2.1)]) (st' := [.int s.2.1, .ref 5]) (h' := s.2.2) (sg1 rfl rfl (sg1 rfl rfl rfl)) ?_
        obtain ⟨q4, e_q4, hf⟩ := bnd hf
        refine Ex.callV (a := 5) (As := [.int s.2.1]) (r := []) (v := some (.int q4.1)) (h' := q4.2) rfl rfl (by decide) rfl (Nat.le_of_ble_eq_true rfl) rfl (E_232 (Nat.le_trans (by decide) hd) e_q4) rfl ?_
        refine Ex.ifc rfl rfl (fun (c0 : q4.1 = 0) => ?_) (fun (c0 : ¬ (q4.1 = 0)) => ?_)
        · rw [if_pos c0] at hf
          exact Ex.weak (sm_le_s (sm_le_s (sm_le_s sm_le_nil))) (B_231_43 hd hS1 hf hs)
        · rw [if_neg c0] at hf
          refine Ex.seg 1 (pc' := 42) (lc' := [some (.ref 5), some (.int s.1), some (.int s.2.1)]) (st' := [.int s.2.1]) (h' := q4.2) (sg1 rfl rfl rfl) ?_
          obtain rfl := Option.some.inj hf
          exact Ex.iret rfl rfl (fun c0 => by cases c0) hs
theorem B_231_2 {L : Nat} {xs : Nat → Int32} {d : Nat} (hd : 1 ≤ d) {res : Option Value × sm_H} {y1 : Int32} {y2 : Int32}  {h : sm_H} {r : (Int32 × sm_H)} (hf : F_231_2 y1 y2 h = some r) (hs : (fun (r : Int32 × sm_H) => res = (some (.int r.1), r.2)) r) : Ex (P_G L xs) (RUN L xs d) (sm_lk P_t231) 0 2 [some (.ref 5), some (.int y1), some (.int y2)] [] h res := by
  unfold F_231_2 at hf
  exact lp_ok (P := fun (s : (Int32 × Int32 × sm_H)) => Ex (P_G L xs) (RUN L xs d) (sm_lk P_t231) 0 2 [some (.ref 5), some (.int s.1), some (.int s.2.1)] [] s.2.2 res) (S := (fun (r : Int32 × sm_H) => res = (some (.int r.1), r.2))) (fun s x hx hsx => by
    intros
    exact B_231_2B hd  (fun _ q => q) hx hsx) 1000000 _ r hf hs
theorem B_231_0 {L : Nat} {xs : Nat → Int32} {d : Nat} (hd : 1 ≤ d) {res : Option Value × sm_H} {x1 : Int32}  {h : sm_H} {r : (Int32 × sm_H)} (hf : F_231_0 x1 h = some r) (hs : (fun (r : Int32 × sm_H) => res = (some (.int r.1), r.2)) r) : Ex (P_G L xs) (RUN L xs d) (sm_lk P_t231) 0 0 [some (.ref 5), some (.int x1), none] [] h res := by
  unfold F_231_0 at hf
  refine Ex.seg 2 (pc' := 2) (lc' := [some (.ref 5), some (.int x1), some (.int 0)]) (st' := []) (h' := h) (sg1 rfl rfl (sg1 rfl rfl rfl)) ?_
  exact Ex.weak (sm_le_s (sm_le_s (sm_le_s sm_le_nil))) (B_231_2 hd  hf hs)
theorem E_231 {L : Nat} {xs : Nat → Int32} {d : Nat} (hd : 2 ≤ d) {x1 : Int32} {h : sm_H} {r : Int32 × sm_H} (hf : F_231 x1 h = some r) : RUN L xs d 231 [.ref 5, .int x1] h (some (.int r.1), r.2) := by
  obtain ⟨d, rfl⟩ : ∃ e, d = e + 1 := ⟨d - 1, by omega⟩
  exact ⟨Nat.le_of_ble_eq_true rfl, B_231_0 (by omega) hf rfl⟩
theorem B_233_33 {L : Nat} {xs : Nat → Int32} {d : Nat} (hd : 2 ≤ d) {res : Option Value × sm_H} {z0 : Int32}  {h : sm_H} {r : (Int32 × sm_H)} (hf : F_233_33 z0 h = some r) (hs : (fun (r : Int32 × sm_H) => res = (some (.int r.1), r.2)) r) : Ex (P_G L xs) (RUN L xs d) (sm_lk P_t233) 3 33 [none, none] [.int z0] h res := by
  unfold F_233_33 at hf
  rcases Classical.em (z0 = 0 ∨ z0 = 1) with c0 | c0
  · rw [if_pos c0] at hf
    obtain rfl := Option.some.inj hf
    exact Ex.iret rfl rfl (fun _ => c0) hs
  · rw [if_neg c0] at hf
    cases hf
theorem B_233_32 {L : Nat} {xs : Nat → Int32} {d : Nat} (hd : 2 ≤ d) {res : Option Value × sm_H}   {h : sm_H} {r : (Int32 × sm_H)} (hf : F_233_32  h = some r) (hs : (fun (r : Int32 × sm_H) => res = (some (.int r.1), r.2)) r) : Ex (P_G L xs) (RUN L xs d) (sm_lk P_t233) 3 32 [none, none] [] h res := by
  unfold F_233_32 at hf
  refine Ex.seg 1 (pc' := 33) (lc' := [none, none]) (st' := [.int 0]) (h' := h) (sg1 rfl rfl rfl) ?_
  exact Ex.weak (sm_le_s (sm_le_s sm_le_nil)) (B_233_33 hd  hf hs)
theorem B_233_28 {L : Nat} {xs : Nat → Int32} {d : Nat} (hd : 2 ≤ d) {res : Option Value × sm_H}   {h : sm_H} {r : (Int32 × sm_H)} (hf : F_233_28  h = some r) (hs : (fun (r : Int32 × sm_H) => res = (some (.int r.1), r.2)) r) : Ex (P_G L xs) (RUN L xs d) (sm_lk P_t233) 3 28 [none, none] [] h res := by
  unfold F_233_28 at hf
  refine Ex.seg 2 (pc' := 33) (lc' := [none, none]) (st' := [.int 1]) (h' := h) (sg1 rfl rfl (sg1 rfl rfl rfl)) ?_
  exact Ex.weak (sm_le_s (sm_le_s sm_le_nil)) (B_233_33 hd  hf hs)
theorem B_233_0 {L : Nat} {xs : Nat → Int32} {d : Nat} (hd : 2 ≤ d) {res : Option Value × sm_H} {x1 : Int32}  {h : sm_H} {r : (Int32 × sm_H)} (hf : F_233_0 x1 h = some r) (hs : (fun (r : Int32 × sm_H) => res = (some (.int r.1), r.2)) r) : Ex (P_G L xs) (RUN L xs d) (sm_lk P_t233) 3 0 [some (.ref 5), some (.int x1)] [] h res := by
  unfold F_233_0 at hf
  refine Ex.seg 3 (pc' := 6) (lc' := [some (.ref 5), some (.int x1)]) (st' := [.int 10, .int (h.1 5 6)]) (h' := h) (sg1 rfl rfl (sg1 rfl rfl (sg1 rfl rfl rfl))) ?_
  refine Ex.icmp rfl rfl (fun (c0 : 10 < (h.1 5 6)) => ?_) (fun (c0 : ¬ (10 < (h.1 5 6))) => ?_)
  · rw [if_pos c0] at hf
    exact Ex.weak (sm_le_n (sm_le_n sm_le_nil)) (B_233_32 hd  hf hs)
  · rw [if_neg c0] at hf
    refine Ex.seg 3 (pc' := 16) (lc' := [some (.ref 5), some (.int x1)]) (st' := [.int 300, .int (h.1 5 4)]) (h' := h) (sg1 rfl rfl (sg1 rfl rfl (sg1 rfl rfl rfl))) ?_
    refine Ex.icmp rfl rfl (fun (c0 : (h.1 5 4) < 300) => ?_) (fun (c0 : ¬ ((h.1 5 4) < 300)) => ?_)
    · rw [if_pos c0] at hf
      exact Ex.weak (sm_le_n (sm_le_n sm_le_nil)) (B_233_28 hd  hf hs)
    · rw [if_neg c0] at hf
      refine Ex.seg 2 (pc' := 21) (lc' := [some (.ref 5), some (.int x1)]) (st' := [.int x1, .ref 5]) (h' := h) (sg1 rfl rfl (sg1 rfl rfl rfl)) ?_
      obtain ⟨q1, e_q1, hf⟩ := bnd hf
      refine Ex.callV (a := 5) (As := [.int x1]) (r := []) (v := some (.int q1.1)) (h' := q1.2) rfl rfl (by decide) rfl (Nat.le_of_ble_eq_true rfl) rfl (E_231 (Nat.le_trans (by decide) hd) e_q1) rfl ?_
      refine Ex.seg 1 (pc' := 25) (lc' := [some (.ref 5), some (.int x1)]) (st' := [.int (-1), .int q1.1]) (h' := q1.2) (sg1 rfl rfl rfl) ?_
      refine Ex.icmp rfl rfl (fun (c0 : q1.1 = (-1)) => ?_) (fun (c0 : ¬ (q1.1 = (-1))) => ?_)
      · rw [if_pos c0] at hf
        exact Ex.weak (sm_le_n (sm_le_n sm_le_nil)) (B_233_32 hd  hf hs)
      · rw [if_neg c0] at hf
        exact Ex.weak (sm_le_n (sm_le_n sm_le_nil)) (B_233_28 hd  hf hs)
theorem E_233 {L : Nat} {xs : Nat → Int32} {d : Nat} (hd : 3 ≤ d) {x1 : Int32} {h : sm_H} {r : Int32 × sm_H} (hf : F_233 x1 h = some r) : RUN L xs d 233 [.ref 5, .int x1] h (some (.int r.1), r.2) := by
  obtain ⟨d, rfl⟩ : ∃ e, d = e + 1 := ⟨d - 1, by omega⟩
  exact ⟨Nat.le_of_ble_eq_true rfl, B_233_0 (by omega) hf rfl⟩
theorem B_234_43 {L : Nat} {xs : Nat → Int32} {d : Nat} (hd : 2 ≤ d) {res : Option Value × sm_H} {y2 : Int32}  {h : sm_H} {r : (Int32 × sm_H)} (hf : F_234_43 y2 h = some r) (hs : (fun (r : Int32 × sm_H) => res = (some (.int r.1), r.2)) r) : Ex (P_G L xs) (RUN L xs d) (sm_lk P_t234) 0 43 [none, none, some (.int y2)] [] h res := by
  unfold F_234_43 at hf
  refine Ex.seg 1 (pc' := 44) (lc' := [none, none, some (.int y2)]) (st' := [.int y2]) (h' := h) (sg1 rfl rfl rfl) ?_
  obtain rfl := Option.some.inj hf
  exact Ex.iret rfl rfl (fun c0 => by cases c0) hs
theorem B_234_18 {L : Nat} {xs : Nat → Int32} {d : Nat} (hd : 2 ≤ d) {res : Option Value × sm_H} {y1 : Int32} {z0 : Int32}  {h : sm_H} {r : (Int32 × sm_H)} (hf : F_234_18 y1 z0 h = some r) (hs : (fun (r : Int32 × sm_H) => res = (some (.int r.1), r.2)) r) : Ex (P_G L xs) (RUN L xs d) (sm_lk P_t234) 0 18 [some (.ref 5), some (.int y1), none] [.int z0] h res := by
  unfold F_234_18 at hf
  refine Ex.seg 3 (pc' := 21) (lc' := [some (.ref 5), some (.int y1), some (.int z0)]) (st' := [.int (-1), .int z0]) (h' := h) (sg1 rfl rfl (sg1 rfl rfl (sg1 rfl rfl rfl))) ?_
  refine Ex.icmp rfl rfl (fun (c0 : ¬ (z0 = (-1))) => ?_) (fun (c0 : ¬ ¬ (z0 = (-1))) => ?_)
  · rw [if_neg c0] at hf
    exact Ex.weak (sm_le_n (sm_le_n (sm_le_s sm_le_nil))) (B_234_43 hd  hf hs)
  · rw [if_pos (Classical.not_not.mp c0)] at hf
    refine Ex.seg 3 (pc' := 30) (lc' := [some (.ref 5), some (.int y1), some (.int z0)]) (st' := [.int 10, .int (h.1 5 6)]) (h' := h) (sg1 rfl rfl (sg1 rfl rfl (sg1 rfl rfl rfl))) ?_
    refine Ex.icmp rfl rfl (fun (c0 : 10 < (h.1 5 6)) => ?_) (fun (c0 : ¬ (10 < (h.1 5 6))) => ?_)
    · rw [if_pos c0] at hf
      exact Ex.weak (sm_le_n (sm_le_n (sm_le_s sm_le_nil))) (B_234_43 hd  hf hs)
    · rw [if_neg c0] at hf
      refine Ex.seg 3 (pc' := 40) (lc' := [some (.ref 5), some (.int y1), some (.int z0)]) (st' := [.int 300, .int (h.1 5 4)]) (h' := h) (sg1 rfl rfl (sg1 rfl rfl (sg1 rfl rfl rfl))) ?_
      refine Ex.icmp rfl rfl (fun (c0 : (h.1 5 4) < 300) => ?_) (fun (c0 : ¬ ((h.1 5 4) < 300)) => ?_)
      · rw [if_pos c0] at hf
        refine Ex.seg 5 (pc' := 54) (lc' := [some (.ref 5), some (.int y1), some (.int z0)]) (st' := [.int y1, .int (h.1 5 4), .ref 6]) (h' := h) (sg1 rfl rfl (sg1 rfl rfl (sg1 rfl rfl (sg1 rfl rfl (sg1 rfl rfl rfl))))) ?_
        obtain ⟨h1, e_h1, hf⟩ := bnd hf
        refine Ex.iast e_h1 rfl rfl ?_
        refine Ex.seg 6 (pc' := 67) (lc' := [some (.ref 5), some (.int y1), some (.int z0)]) (st' := [.int (h1.1 5 6), .int (h1.1 5 4), .ref 7]) (h' := h1) (sg1 rfl rfl (sg1 rfl rfl (sg1 rfl rfl (sg1 rfl rfl (sg1 rfl rfl (sg1 rfl rfl rfl)))))) ?_
        obtain ⟨h2, e_h2, hf⟩ := bnd hf
        refine Ex.iast e_h2 rfl rfl ?_
        refine Ex.seg 11 (pc' := 88) (lc' := [some (.ref 5), some (.int y1), some (.int z0)]) (st' := [.int (h2.1 5 6), .int ((h2.1 5 4) * 10), .ref 8, .int 0, .ref 9]) (h' := h2) (sg1 rfl rfl (sg1 rfl rfl (sg1 rfl rfl (sg1 rfl rfl (sg1 rfl rfl (sg1 rfl rfl (sg1 rfl rfl (sg1 rfl rfl (sg1 rfl rfl (sg1 rfl rfl (sg1 rfl rfl rfl))))))))))) ?_
        obtain ⟨h3, e_h3, hf⟩ := bnd hf
        refine Ex.cpI e_h3 rfl rfl rfl (Nat.le_of_ble_eq_true rfl) ?_
        refine Ex.seg 6 (pc' := 101) (lc' := [some (.ref 5), some (.int y1), some (.int z0)]) (st' := []) (h' := (sm_wI h3 5 4 ((h3.1 5 4) + 1))) (sg1 rfl rfl (sg1 rfl rfl (sg1 rfl rfl (sg1 rfl rfl (sg1 rfl rfl (sg1 rfl rfl rfl)))))) ?_
        obtain ⟨h4, e_h4, hf⟩ := bnd hf
        rw [Option.some.inj e_h4]
        refine Ex.seg 4 (pc' := 107) (lc' := [some (.ref 5), some (.int y1), some (.int z0)]) (st' := [.int ((h4.1 5 4) - 1)]) (h' := h4) (sg1 rfl rfl (sg1 rfl rfl (sg1 rfl rfl (sg1 rfl rfl rfl)))) ?_
        obtain rfl := Option.some.inj hf
        exact Ex.iret rfl rfl (fun c0 => by cases c0) hs
      · rw [if_neg c0] at hf
        exact Ex.weak (sm_le_n (sm_le_n (sm_le_s sm_le_nil))) (B_234_43 hd  hf hs)
theorem B_234_0 {L : Nat} {xs : Nat → Int32} {d : Nat} (hd : 2 ≤ d) {res : Option Value × sm_H} {x1 : Int32}  {h : sm_H} {r : (Int32 × sm_H)} (hf : F_234_0 x1 h = some r) (hs : (fun (r : Int32 × sm_H) => res = (some (.int r.1), r.2)) r) : Ex (P_G L xs) (RUN L xs d) (sm_lk P_t234) 0 0 [some (.ref 5), some (.int x1), none] [] h res := by
  unfold F_234_0 at hf
  refine Ex.seg 3 (pc' := 6) (lc' := [some (.ref 5), some (.int x1), none]) (st' := [.int 10, .int (h.1 5 6)]) (h' := h) (sg1 rfl rfl (sg1 rfl rfl (sg1 rfl rfl rfl))) ?_
  refine Ex.icmp rfl rfl (fun (c0 : 10 < (h.1 5 6)) => ?_) (fun (c0 : ¬ (10 < (h.1 5 6))) => ?_)
  · rw [if_pos c0] at hf
    refine Ex.seg 1 (pc' := 18) (lc' := [some (.ref 5), some (.int x1), none]) (st' := [.int (-1)]) (h' := h) (sg1 rfl rfl rfl) ?_
    exact Ex.weak (sm_le_s (sm_le_s (sm_le_s sm_le_nil))) (B_234_18 hd  hf hs)
  · rw [if_neg c0] at hf
    refine Ex.seg 2 (pc' := 11) (lc' := [some (.ref 5), some (.int x1), none]) (st' := [.int x1, .ref 5]) (h' := h) (sg1 rfl rfl (sg1 rfl rfl rfl)) ?_
    obtain ⟨q5, e_q5, hf⟩ := bnd hf
    refine Ex.callV (a := 5) (As := [.int x1]) (r := []) (v := some (.int q5.1)) (h' := q5.2) rfl rfl (by decide) rfl (Nat.le_of_ble_eq_true rfl) rfl (E_231 (Nat.le_trans (by decide) hd) e_q5) rfl ?_
    refine Ex.seg 1 (pc' := 18) (lc' := [some (.ref 5), some (.int x1), none]) (st' := [.int q5.1]) (h' := q5.2) (sg1 rfl rfl rfl) ?_
    exact Ex.weak (sm_le_s (sm_le_s (sm_le_s sm_le_nil))) (B_234_18 hd  hf hs)
theorem E_234 {L : Nat} {xs : Nat → Int32} {d : Nat} (hd : 3 ≤ d) {x1 : Int32} {h : sm_H} {r : Int32 × sm_H} (hf : F_234 x1 h = some r) : RUN L xs d 234 [.ref 5, .int x1] h (some (.int r.1), r.2) := by
  obtain ⟨d, rfl⟩ : ∃ e, d = e + 1 := ⟨d - 1, by omega⟩
  exact ⟨Nat.le_of_ble_eq_true rfl, B_234_0 (by omega) hf rfl⟩
theorem B_236_112 {L : Nat} {xs : Nat → Int32} {d : Nat} (hd : 2 ≤ d) {res : Option Value × sm_H} {z0 : Int32}  {h : sm_H} {r : (Int32 × sm_H)} (hf : F_236_112 z0 h = some r) (hs : (fun (r : Int32 × sm_H) => res = (some (.int r.1), r.2)) r) : Ex (P_G L xs) (RUN L xs d) (sm_lk P_t236) 3 112 [none, none, none, none, none, none] [.int z0] h res := by
  unfold F_236_112 at hf
  rcases Classical.em (z0 = 0 ∨ z0 = 1) with c0 | c0
  · rw [if_pos c0] at hf
    obtain rfl := Option.some.inj hf
    exact Ex.iret rfl rfl (fun _ => c0) hs
  · rw [if_neg c0] at hf
    cases hf
theorem B_236_107 {L : Nat} {xs : Nat → Int32} {d : Nat} (hd : 2 ≤ d) {res : Option Value × sm_H}   {h : sm_H} {r : (Int32 × sm_H)} (hf : F_236_107  h = some r) (hs : (fun (r : Int32 × sm_H) => res = (some (.int r.1), r.2)) r) : Ex (P_G L xs) (RUN L xs d) (sm_lk P_t236) 3 107 [none, none, none, none, none, none] [] h res := by
  unfold F_236_107 at hf
  refine Ex.seg 2 (pc' := 112) (lc' := [none, none, none, none, none, none]) (st' := [.int 1]) (h' := h) (sg1 rfl rfl (sg1 rfl rfl rfl)) ?_
  exact Ex.weak (sm_le_s (sm_le_s (sm_le_s (sm_le_s (sm_le_s (sm_le_s sm_le_nil)))))) (B_236_112 hd  hf hs)
theorem B_236_68 {L : Nat} {xs : Nat → Int32} {d : Nat} (hd : 2 ≤ d) {res : Option Value × sm_H} {y1 : Int32} {y2 : Int32} {y3 : Int32}  {h : sm_H} {r : (Int32 × sm_H)} (hf : F_236_68 y1 y2 y3 h = some r) (hs : (fun (r : Int32 × sm_H) => res = (some (.int r.1), r.2)) r) : Ex (P_G L xs) (RUN L xs d) (sm_lk P_t236) 3 68 [some (.ref 5), some (.int y1), some (.int y2), some (.int y3), none, none] [] h res := by
  unfold F_236_68 at hf
  refine Ex.seg 2 (pc' := 70) (lc' := [some (.ref 5), some (.int y1), some (.int y2), some (.int y3), none, none]) (st' := [.int y1, .ref 5]) (h' := h) (sg1 rfl rfl (sg1 rfl rfl rfl)) ?_
  obtain ⟨q1, e_q1, hf⟩ := bnd hf
  refine Ex.callV (a := 5) (As := [.int y1]) (r := []) (v := some (.int q1.1)) (h' := q1.2) rfl rfl (by decide) rfl (Nat.le_of_ble_eq_true rfl) rfl (E_225 (Nat.le_trans (by decide) hd) e_q1) rfl ?_
  refine Ex.seg 3 (pc' := 77) (lc' := [some (.ref 5), some (.int y1), some (.int y2), some (.int y3), some (.int q1.1), none]) (st' := [.int y2, .ref 5]) (h' := q1.2) (sg1 rfl rfl (sg1 rfl rfl (sg1 rfl rfl rfl))) ?_
  obtain ⟨q2, e_q2, hf⟩ := bnd hf
  refine Ex.callV (a := 5) (As := [.int y2]) (r := []) (v := some (.int q2.1)) (h' := q2.2) rfl rfl (by decide) rfl (Nat.le_of_ble_eq_true rfl) rfl (E_225 (Nat.le_trans (by decide) hd) e_q2) rfl ?_
  refine Ex.seg 2 (pc' := 84) (lc' := [some (.ref 5), some (.int y1), some (.int y2), some (.int y3), some (.int q1.1), some (.int q2.1)]) (st' := [.int q1.1]) (h' := q2.2) (sg1 rfl rfl (sg1 rfl rfl rfl)) ?_
  refine Ex.ifc rfl rfl (fun (c0 : q1.1 = 0) => ?_) (fun (c0 : ¬ (q1.1 = 0)) => ?_)
  · rw [if_pos c0] at hf
    exact Ex.weak (sm_le_n (sm_le_n (sm_le_n (sm_le_n (sm_le_n (sm_le_n sm_le_nil)))))) (B_236_107 hd  hf hs)
  · rw [if_neg c0] at hf
    refine Ex.seg 1 (pc' := 89) (lc' := [some (.ref 5), some (.int y1), some (.int y2), some (.int y3), some (.int q1.1), some (.int q2.1)]) (st' := [.int q2.1]) (h' := q2.2) (sg1 rfl rfl rfl) ?_
    refine Ex.ifc rfl rfl (fun (c0 : q2.1 = 0) => ?_) (fun (c0 : ¬ (q2.1 = 0)) => ?_)
    · rw [if_pos c0] at hf
      exact Ex.weak (sm_le_n (sm_le_n (sm_le_n (sm_le_n (sm_le_n (sm_le_n sm_le_nil)))))) (B_236_107 hd  hf hs)
    · rw [if_neg c0] at hf
      refine Ex.seg 5 (pc' := 101) (lc' := [some (.ref 5), some (.int y1), some (.int y2), some (.int y3), some (.int q1.1), some (.int q2.1)]) (st' := [.int y3, .int q2.1, .int q1.1, .ref 1]) (h' := q2.2) (sg1 rfl rfl (sg1 rfl rfl (sg1 rfl rfl (sg1 rfl rfl (sg1 rfl rfl rfl))))) ?_
      obtain ⟨q3, e_q3, hf⟩ := bnd hf
      refine Ex.callV (a := 1) (As := [.int q1.1, .int q2.1, .int y3]) (r := []) (v := some (.int q3.1)) (h' := q3.2) rfl rfl (by decide) rfl (Nat.le_of_ble_eq_true rfl) rfl (E_64 (Nat.le_trans (by decide) hd) e_q3) rfl ?_
      refine Ex.ifc rfl rfl (fun (c0 : q3.1 = 0) => ?_) (fun (c0 : ¬ (q3.1 = 0)) => ?_)
      · rw [if_pos c0] at hf
        refine Ex.seg 1 (pc' := 112) (lc' := [some (.ref 5), some (.int y1), some (.int y2), some (.int y3), some (.int q1.1), some (.int q2.1)]) (st' := [.int 0]) (h' := q3.2) (sg1 rfl rfl rfl) ?_
        exact Ex.weak (sm_le_n (sm_le_n (sm_le_n (sm_le_n (sm_le_n (sm_le_n sm_le_nil)))))) (B_236_112 hd  hf hs)
      · rw [if_neg c0] at hf
        exact Ex.weak (sm_le_n (sm_le_n (sm_le_n (sm_le_n (sm_le_n (sm_le_n sm_le_nil)))))) (B_236_107 hd  hf hs)
theorem B_236_18B {L : Nat} {xs : Nat → Int32} {d : Nat} (hd : 2 ≤ d) {res : Option Value × sm_H} {S1 : (Int32 × Int32 × Int32 × Int32 × sm_H) → Prop} (hS1 : ∀ s, S1 s → Ex (P_G L xs) (RUN L xs d) (sm_lk P_t236) 3 18 [some (.ref 5), some (.int s.1), some (.int s.2.1), some (.int s.2.2.1), some (.int s.2.2.2.1), none] [] s.2.2.2.2 res) {s : (Int32 × Int32 × Int32 × Int32 × sm_H)}  {r : ((Int32 × Int32 × Int32 × Int32 × sm_H) ⊕ (Int32 × sm_H))} (hf : F_236_18B s = some r) (hs : (Sum.elim S1 (fun (r : Int32 × sm_H) => res = (some (.int r.1), r.2))) r) : Ex (P_G L xs) (RUN L xs d) (sm_lk P_t236) 3 18 [some (.ref 5), some (.int s.1), some (.int s.2.1), some (.int s.2.2.1), some (.int s.2.2.2.1), none] [] s.2.2.2.2 res := by
  unfold F_236_18B at hf
  refine Ex.seg 3 (pc' := 22) (lc' := [some (.ref 5), some (.int s.1), some (.int s.2.1), some (.int s.2.2.1), some (.int s.2.2.2.1), none]) (st' := [.int s.1, .ref 5, .int s.2.2.2.1]) (h' := s.2.2.2.2) (sg1 rfl rfl (sg1 rfl rfl (sg1 rfl rfl rfl))) ?_
  obtain ⟨q4, e_q4, hf⟩ := bnd hf
  refine Ex.callV (a := 5) (As := [.int s.1]) (r := [.int s.2.2.2.1]) (v := some (.int q4.1)) (h' := q4.2) rfl rfl (by decide) rfl (Nat.le_of_ble_eq_true rfl) rfl (E_226 (Nat.le_trans (by decide) hd) e_q4) rfl ?_
  refine Ex.icmp rfl rfl (fun (c0 : q4.1 ≤ s.2.2.2.1) => ?_) (fun (c0 : ¬ (q4.1 ≤ s.2.2.2.1)) => ?_)
  · rw [if_pos c0] at hf
    obtain ⟨r0, hf0, rfl⟩ := Option.map_eq_some_iff.mp hf
    exact Ex.weak (sm_le_s (sm_le_s (sm_le_s (sm_le_s (sm_le_n (sm_le_s sm_le_nil)))))) (B_236_68 hd  hf0 hs)
  · rw [if_neg c0] at hf
    refine Ex.seg 2 (pc' := 32) (lc' := [some (.ref 5), some (.int s.1), some (.int s.2.1), some (.int s.2.2.1), some (.int s.2.2.2.1), none]) (st' := [.int 10, .int s.2.2.2.1]) (h' := q4.2) (sg1 rfl rfl (sg1 rfl rfl rfl)) ?_
    refine Ex.icmp rfl rfl (fun (c0 : 10 ≤ s.2.2.2.1) => ?_) (fun (c0 : ¬ (10 ≤ s.2.2.2.1)) => ?_)
    · rw [if_pos c0] at hf
      obtain ⟨r0, hf0, rfl⟩ := Option.map_eq_some_iff.mp hf
      exact Ex.weak (sm_le_s (sm_le_s (sm_le_s (sm_le_s (sm_le_n (sm_le_s sm_le_nil)))))) (B_236_68 hd  hf0 hs)
    · rw [if_neg c0] at hf
      refine Ex.seg 5 (pc' := 43) (lc' := [some (.ref 5), some (.int s.1), some (.int s.2.1), some (.int s.2.2.1), some (.int s.2.2.2.1), none]) (st' := [.int s.2.2.2.1, .int s.2.1, .ref 5, .ref 1]) (h' := q4.2) (sg1 rfl rfl (sg1 rfl rfl (sg1 rfl rfl (sg1 rfl rfl (sg1 rfl rfl rfl))))) ?_
      obtain ⟨q5, e_q5, hf⟩ := bnd hf
      refine Ex.callV (a := 5) (As := [.int s.2.1, .int s.2.2.2.1]) (r := [.ref 1]) (v := some (.int q5.1)) (h' := q5.2) rfl rfl (by decide) rfl (Nat.le_of_ble_eq_true rfl) rfl (E_227 (Nat.le_trans (by decide) hd) e_q5) rfl ?_
      refine Ex.seg 3 (pc' := 50) (lc' := [some (.ref 5), some (.int s.1), some (.int s.2.1), some (.int s.2.2.1), some (.int s.2.2.2.1), none]) (st' := [.int s.2.2.2.1, .int s.1, .ref 5, .int q5.1, .ref 1]) (h' := q5.2) (sg1 rfl rfl (sg1 rfl rfl (sg1 rfl rfl rfl))) ?_
      obtain ⟨q6, e_q6, hf⟩ := bnd hf
      refine Ex.callV (a := 5) (As := [.int s.1, .int s.2.2.2.1]) (r := [.int q5.1, .ref 1]) (v := some (.int q6.1)) (h' := q6.2) rfl rfl (by decide) rfl (Nat.le_of_ble_eq_true rfl) rfl (E_227 (Nat.le_trans (by decide) hd) e_q6) rfl ?_
      refine Ex.seg 1 (pc' := 54) (lc' := [some (.ref 5), some (.int s.1), some (.int s.2.1), some (.int s.2.2.1), some (.int s.2.2.2.1), none]) (st' := [.int s.2.2.1, .int q6.1, .int q5.1, .ref 1]) (h' := q6.2) (sg1 rfl rfl rfl) ?_
      obtain ⟨q7, e_q7, hf⟩ := bnd hf
      refine Ex.callV (a := 1) (As := [.int q5.1, .int q6.1, .int s.2.2.1]) (r := []) (v := some (.int q7.1)) (h' := q7.2) rfl rfl (by decide) rfl (Nat.le_of_ble_eq_true rfl) rfl (E_64 (Nat.le_trans (by decide) hd) e_q7) rfl ?_
      refine Ex.ifc rfl rfl (fun (c0 : ¬ (q7.1 = 0)) => ?_) (fun (c0 : ¬ ¬ (q7.1 = 0)) => ?_)
      · rw [if_neg c0] at hf
        refine Ex.seg 1 (pc' := 65) (lc' := [some (.ref 5), some (.int s.1), some (.int s.2.1), some (.int s.2.2.1), some (.int (s.2.2.2.1 + 1)), none]) (st' := []) (h' := q7.2) (sg1 rfl rfl rfl) ?_
        obtain ⟨v8, e_v8, hf⟩ := bnd hf
        rw [Option.some.inj e_v8]
        refine Ex.seg 1 (pc' := 18) (lc' := [some (.ref 5), some (.int s.1), some (.int s.2.1), some (.int s.2.2.1), some (.int v8), none]) (st' := []) (h' := q7.2) (sg1 rfl rfl rfl) ?_
        obtain rfl := Option.some.inj hf
        exact Ex.weak (sm_le_s (sm_le_s (sm_le_s (sm_le_s (sm_le_s (sm_le_s sm_le_nil)))))) (hS1 _ hs)
      · rw [if_pos (Classical.not_not.mp c0)] at hf
        refine Ex.seg 1 (pc' := 61) (lc' := [some (.ref 5), some (.int s.1), some (.int s.2.1), some (.int s.2.2.1), some (.int s.2.2.2.1), none]) (st' := [.int 0]) (h' := q7.2) (sg1 rfl rfl rfl) ?_
        obtain rfl := Option.some.inj hf
        exact Ex.iret rfl rfl (fun _ => by decide) hs
theorem B_236_18 {L : Nat} {xs : Nat → Int32} {d : Nat} (hd : 2 ≤ d) {res : Option Value × sm_H} {y1 : Int32} {y2 : Int32} {y3 : Int32} {y4 : Int32}  {h : sm_H} {r : (Int32 × sm_H)} (hf : F_236_18 y1 y2 y3 y4 h = some r) (hs : (fun (r : Int32 × sm_H) => res = (some (.int r.1), r.2)) r) : Ex (P_G L xs) (RUN L xs d) (sm_lk P_t236) 3 18 [some (.ref 5), some (.int y1), some (.int y2), some (.int y3), some (.int y4), none] [] h res := by
  unfold F_236_18 at hf
  exact lp_ok (P := fun (s : (Int32 × Int32 × Int32 × Int32 × sm_H)) => Ex (P_G L xs) (RUN L xs d) (sm_lk P_t236) 3 18 [some (.ref 5), some (.int s.1), some (.int s.2.1), some (.int s.2.2.1), some (.int s.2.2.2.1), none] [] s.2.2.2.2 res) (S := (fun (r : Int32 × sm_H) => res = (some (.int r.1), r.2))) (fun s x hx hsx => by
    intros
    exact B_236_18B hd  (fun _ q => q) hx hsx) 1000000 _ r hf hs
theorem B_236_0 {L : Nat} {xs : Nat → Int32} {d : Nat} (hd : 2 ≤ d) {res : Option Value × sm_H} {x1 : Int32} {x2 : Int32} {x3 : Int32}  {h : sm_H} {r : (Int32 × sm_H)} (hf : F_236_0 x1 x2 x3 h = some r) (hs : (fun (r : Int32 × sm_H) => res = (some (.int r.1), r.2)) r) : Ex (P_G L xs) (RUN L xs d) (sm_lk P_t236) 3 0 [some (.ref 5), some (.int x1), some (.int x2), some (.int x3), none, none] [] h res := by
  unfold F_236_0 at hf
  refine Ex.seg 2 (pc' := 2) (lc' := [some (.ref 5), some (.int x1), some (.int x2), some (.int x3), none, none]) (st' := [.int x1, .ref 5]) (h' := h) (sg1 rfl rfl (sg1 rfl rfl rfl)) ?_
  obtain ⟨q9, e_q9, hf⟩ := bnd hf
  refine Ex.callV (a := 5) (As := [.int x1]) (r := []) (v := some (.int q9.1)) (h' := q9.2) rfl rfl (by decide) rfl (Nat.le_of_ble_eq_true rfl) rfl (E_226 (Nat.le_trans (by decide) hd) e_q9) rfl ?_
  refine Ex.seg 2 (pc' := 7) (lc' := [some (.ref 5), some (.int x1), some (.int x2), some (.int x3), none, none]) (st' := [.int x2, .ref 5, .int q9.1]) (h' := q9.2) (sg1 rfl rfl (sg1 rfl rfl rfl)) ?_
  obtain ⟨q10, e_q10, hf⟩ := bnd hf
  refine Ex.callV (a := 5) (As := [.int x2]) (r := [.int q9.1]) (v := some (.int q10.1)) (h' := q10.2) rfl rfl (by decide) rfl (Nat.le_of_ble_eq_true rfl) rfl (E_226 (Nat.le_trans (by decide) hd) e_q10) rfl ?_
  refine Ex.icmp rfl rfl (fun (c0 : q9.1 = q10.1) => ?_) (fun (c0 : ¬ (q9.1 = q10.1)) => ?_)
  · rw [if_pos c0] at hf
    refine Ex.seg 2 (pc' := 18) (lc' := [some (.ref 5), some (.int x1), some (.int x2), some (.int x3), some (.int 0), none]) (st' := []) (h' := q10.2) (sg1 rfl rfl (sg1 rfl rfl rfl)) ?_
    exact Ex.weak (sm_le_s (sm_le_s (sm_le_s (sm_le_s (sm_le_s (sm_le_s sm_le_nil)))))) (B_236_18 hd  hf hs)
  · rw [if_neg c0] at hf
    refine Ex.seg 1 (pc' := 14) (lc' := [some (.ref 5), some (.int x1), some (.int x2), some (.int x3), none, none]) (st' := [.int 0]) (h' := q10.2) (sg1 rfl rfl rfl) ?_
    obtain rfl := Option.some.inj hf
    exact Ex.iret rfl rfl (fun _ => by decide) hs
theorem E_236 {L : Nat} {xs : Nat → Int32} {d : Nat} (hd : 3 ≤ d) {x1 : Int32} {x2 : Int32} {x3 : Int32} {h : sm_H} {r : Int32 × sm_H} (hf : F_236 x1 x2 x3 h = some r) : RUN L xs d 236 [.ref 5, .int x1, .int x2, .int x3] h (some (.int r.1), r.2) := by
  obtain ⟨d, rfl⟩ : ∃ e, d = e + 1 := ⟨d - 1, by omega⟩
  exact ⟨Nat.le_of_ble_eq_true rfl, B_236_0 (by omega) hf rfl⟩
theorem B_249_145 {L : Nat} {xs : Nat → Int32} {d : Nat} (hd : 1 ≤ d) {res : Option Value × sm_H}   {h : sm_H} {r : (Int32 × sm_H)} (hf : F_249_145  h = some r) (hs : (fun (r : Int32 × sm_H) => res = (some (.int r.1), r.2)) r) : Ex (P_G L xs) (RUN L xs d) (sm_lk P_t249) 0 145 [some (.ref 52), none] [] h res := by
  unfold F_249_145 at hf
  refine Ex.seg 2 (pc' := 149) (lc' := [some (.ref 52), none]) (st' := [.int (h.1 52 4)]) (h' := h) (sg1 rfl rfl (sg1 rfl rfl rfl)) ?_
  obtain rfl := Option.some.inj hf
  exact Ex.iret rfl rfl (fun c0 => by cases c0) hs
theorem B_249_142 {L : Nat} {xs : Nat → Int32} {d : Nat} (hd : 1 ≤ d) {res : Option Value × sm_H} {z1 : Int32}  {h : sm_H} {r : (Int32 × sm_H)} (hf : F_249_142 z1 h = some r) (hs : (fun (r : Int32 × sm_H) => res = (some (.int r.1), r.2)) r) : Ex (P_G L xs) (RUN L xs d) (sm_lk P_t249) 0 142 [some (.ref 52), none] [.int z1, .ref 52] h res := by
  unfold F_249_142 at hf
  refine Ex.seg 1 (pc' := 145) (lc' := [some (.ref 52), none]) (st' := []) (h' := (sm_wI h 52 4 z1)) (sg1 rfl rfl rfl) ?_
  obtain ⟨h1, e_h1, hf⟩ := bnd hf
  rw [Option.some.inj e_h1]
  exact Ex.weak (sm_le_s (sm_le_s sm_le_nil)) (B_249_145 hd  hf hs)
theorem B_249_87 {L : Nat} {xs : Nat → Int32} {d : Nat} (hd : 1 ≤ d) {res : Option Value × sm_H} {y1 : Int32}  {h : sm_H} {r : (Int32 × sm_H)} (hf : F_249_87 y1 h = some r) (hs : (fun (r : Int32 × sm_H) => res = (some (.int r.1), r.2)) r) : Ex (P_G L xs) (RUN L xs d) (sm_lk P_t249) 0 87 [some (.ref 52), some (.int y1)] [] h res := by
  unfold F_249_87 at hf
  refine Ex.seg 2 (pc' := 89) (lc' := [some (.ref 52), some (.int y1)]) (st' := [.int y1, .ref 52]) (h' := h) (sg1 rfl rfl (sg1 rfl rfl rfl)) ?_
  obtain ⟨q2, e_q2, hf⟩ := bnd hf
  refine Ex.callV (a := 52) (As := [.int y1]) (r := []) (v := some (.int q2.1)) (h' := q2.2) rfl rfl (by decide) rfl (Nat.le_of_ble_eq_true rfl) rfl (E_252 (Nat.le_trans (by decide) hd) e_q2) rfl ?_
  refine Ex.ifc rfl rfl (fun (c0 : q2.1 = 0) => ?_) (fun (c0 : ¬ (q2.1 = 0)) => ?_)
  · rw [if_pos c0] at hf
    refine Ex.seg 6 (pc' := 116) (lc' := [some (.ref 52), some (.int y1)]) (st' := []) (h' := (sm_wI q2.2 52 3 ((q2.2.1 52 3) + 1))) (sg1 rfl rfl (sg1 rfl rfl (sg1 rfl rfl (sg1 rfl rfl (sg1 rfl rfl (sg1 rfl rfl rfl)))))) ?_
    obtain ⟨h3, e_h3, hf⟩ := bnd hf
    rw [Option.some.inj e_h3]
    refine Ex.seg 3 (pc' := 120) (lc' := [some (.ref 52), some (.int y1)]) (st' := [.int 40, .int y1, .ref 52]) (h' := h3) (sg1 rfl rfl (sg1 rfl rfl (sg1 rfl rfl rfl))) ?_
    refine Ex.icmp rfl rfl (fun (c0 : ¬ (y1 = 40)) => ?_) (fun (c0 : ¬ ¬ (y1 = 40)) => ?_)
    · rw [if_neg c0] at hf
      refine Ex.seg 2 (pc' := 130) (lc' := [some (.ref 52), some (.int y1)]) (st' := [.int 41, .int y1, .ref 52]) (h' := h3) (sg1 rfl rfl (sg1 rfl rfl rfl)) ?_
      refine Ex.icmp rfl rfl (fun (c0 : ¬ (y1 = 41)) => ?_) (fun (c0 : ¬ ¬ (y1 = 41)) => ?_)
      · rw [if_neg c0] at hf
        refine Ex.seg 2 (pc' := 139) (lc' := [some (.ref 52), some (.int y1)]) (st' := [.int y1, .ref 52, .ref 52]) (h' := h3) (sg1 rfl rfl (sg1 rfl rfl rfl)) ?_
        obtain ⟨q4, e_q4, hf⟩ := bnd hf
        refine Ex.callV (a := 52) (As := [.int y1]) (r := [.ref 52]) (v := some (.int q4.1)) (h' := q4.2) rfl rfl (by decide) rfl (Nat.le_of_ble_eq_true rfl) rfl (E_254 (Nat.le_trans (by decide) hd) e_q4) rfl ?_
        exact Ex.weak (sm_le_s (sm_le_n sm_le_nil)) (B_249_142 hd  hf hs)
      · rw [if_pos (Classical.not_not.mp c0)] at hf
        refine Ex.seg 2 (pc' := 142) (lc' := [some (.ref 52), some (.int y1)]) (st' := [.int 2, .ref 52]) (h' := h3) (sg1 rfl rfl (sg1 rfl rfl rfl)) ?_
        exact Ex.weak (sm_le_s (sm_le_n sm_le_nil)) (B_249_142 hd  hf hs)
    · rw [if_pos (Classical.not_not.mp c0)] at hf
      refine Ex.seg 2 (pc' := 142) (lc' := [some (.ref 52), some (.int y1)]) (st' := [.int 1, .ref 52]) (h' := h3) (sg1 rfl rfl (sg1 rfl rfl rfl)) ?_
      exact Ex.weak (sm_le_s (sm_le_n sm_le_nil)) (B_249_142 hd  hf hs)
  · rw [if_neg c0] at hf
    refine Ex.seg 2 (pc' := 97) (lc' := [some (.ref 52), some (.int y1)]) (st' := [.ref 52, .ref 52]) (h' := q2.2) (sg1 rfl rfl (sg1 rfl rfl rfl)) ?_
    obtain ⟨q5, e_q5, hf⟩ := bnd hf
    refine Ex.callV (a := 52) (As := []) (r := [.ref 52]) (v := some (.int q5.1)) (h' := q5.2) rfl rfl (by decide) rfl (Nat.le_of_ble_eq_true rfl) rfl (E_255 (Nat.le_trans (by decide) hd) e_q5) rfl ?_
    refine Ex.seg 1 (pc' := 103) (lc' := [some (.ref 52), some (.int y1)]) (st' := []) (h' := (sm_wI q5.2 52 4 q5.1)) (sg1 rfl rfl rfl) ?_
    obtain ⟨h6, e_h6, hf⟩ := bnd hf
    rw [Option.some.inj e_h6]
    refine Ex.seg 1 (pc' := 145) (lc' := [some (.ref 52), some (.int y1)]) (st' := []) (h' := h6) (sg1 rfl rfl rfl) ?_
    exact Ex.weak (sm_le_s (sm_le_n sm_le_nil)) (B_249_145 hd  hf hs)
theorem B_249_78 {L : Nat} {xs : Nat → Int32} {d : Nat} (hd : 1 ≤ d) {res : Option Value × sm_H} {z2 : Int32}  {h : sm_H} {r : (Int32 × sm_H)} (hf : F_249_78 z2 h = some r) (hs : (fun (r : Int32 × sm_H) => res = (some (.int r.1), r.2)) r) : Ex (P_G L xs) (RUN L xs d) (sm_lk P_t249) 0 78 [some (.ref 52), none] [.int z2, .ref 52, .ref 52] h res := by
  unfold F_249_78 at hf
  obtain ⟨q7, e_q7, hf⟩ := bnd hf
  refine Ex.callV (a := 52) (As := [.int z2]) (r := [.ref 52]) (v := some (.int q7.1)) (h' := q7.2) rfl rfl (by decide) rfl (Nat.le_of_ble_eq_true rfl) rfl (E_256 (Nat.le_trans (by decide) hd) e_q7) rfl ?_
  refine Ex.seg 1 (pc' := 84) (lc' := [some (.ref 52), none]) (st' := []) (h' := (sm_wI q7.2 52 4 q7.1)) (sg1 rfl rfl rfl) ?_
  obtain ⟨h8, e_h8, hf⟩ := bnd hf
  rw [Option.some.inj e_h8]
  refine Ex.seg 1 (pc' := 145) (lc' := [some (.ref 52), none]) (st' := []) (h' := h8) (sg1 rfl rfl rfl) ?_
  exact Ex.weak (sm_le_s (sm_le_s sm_le_nil)) (B_249_145 hd  hf hs)
theorem B_249_65 {L : Nat} {xs : Nat → Int32} {d : Nat} (hd : 1 ≤ d) {res : Option Value × sm_H} {y1 : Int32}  {h : sm_H} {r : (Int32 × sm_H)} (hf : F_249_65 y1 h = some r) (hs : (fun (r : Int32 × sm_H) => res = (some (.int r.1), r.2)) r) : Ex (P_G L xs) (RUN L xs d) (sm_lk P_t249) 0 65 [some (.ref 52), some (.int y1)] [] h res := by
  unfold F_249_65 at hf
  refine Ex.seg 4 (pc' := 70) (lc' := [some (.ref 52), some (.int y1)]) (st' := [.int 45, .int y1, .ref 52, .ref 52]) (h' := h) (sg1 rfl rfl (sg1 rfl rfl (sg1 rfl rfl (sg1 rfl rfl rfl)))) ?_
  refine Ex.icmp rfl rfl (fun (c0 : ¬ (y1 = 45)) => ?_) (fun (c0 : ¬ ¬ (y1 = 45)) => ?_)
  · rw [if_neg c0] at hf
    refine Ex.seg 1 (pc' := 78) (lc' := [some (.ref 52), some (.int y1)]) (st' := [.int 0, .ref 52, .ref 52]) (h' := h) (sg1 rfl rfl rfl) ?_
    exact Ex.weak (sm_le_s (sm_le_n sm_le_nil)) (B_249_78 hd  hf hs)
  · rw [if_pos (Classical.not_not.mp c0)] at hf
    refine Ex.seg 2 (pc' := 78) (lc' := [some (.ref 52), some (.int y1)]) (st' := [.int 1, .ref 52, .ref 52]) (h' := h) (sg1 rfl rfl (sg1 rfl rfl rfl)) ?_
    exact Ex.weak (sm_le_s (sm_le_n sm_le_nil)) (B_249_78 hd  hf hs)
theorem B_249_0 {L : Nat} {xs : Nat → Int32} {d : Nat} (hd : 1 ≤ d) {res : Option Value × sm_H}   {h : sm_H} {r : (Int32 × sm_H)} (hf : F_249_0  h = some r) (hs : (fun (r : Int32 × sm_H) => res = (some (.int r.1), r.2)) r) : Ex (P_G L xs) (RUN L xs d) (sm_lk P_t249) 0 0 [some (.ref 52), none] [] h res := by
  unfold F_249_0 at hf
  refine Ex.seg 1 (pc' := 1) (lc' := [some (.ref 52), none]) (st' := [.ref 52]) (h' := h) (sg1 rfl rfl rfl) ?_
  obtain ⟨q9, e_q9, hf⟩ := bnd hf
  refine Ex.callV (a := 52) (As := []) (r := []) (v := none) (h' := q9) rfl rfl (by decide) rfl (Nat.le_of_ble_eq_true rfl) rfl (E_253 (Nat.le_trans (by decide) hd) e_q9) rfl ?_
  refine Ex.seg 4 (pc' := 12) (lc' := [some (.ref 52), none]) (st' := []) (h' := (sm_wI q9 52 5 (q9.1 52 3))) (sg1 rfl rfl (sg1 rfl rfl (sg1 rfl rfl (sg1 rfl rfl rfl)))) ?_
  obtain ⟨h10, e_h10, hf⟩ := bnd hf
  rw [Option.some.inj e_h10]
  refine Ex.seg 3 (pc' := 17) (lc' := [some (.ref 52), none]) (st' := [.int (h10.1 52 3), .ref 52]) (h' := h10) (sg1 rfl rfl (sg1 rfl rfl (sg1 rfl rfl rfl))) ?_
  obtain ⟨q11, e_q11, hf⟩ := bnd hf
  refine Ex.callV (a := 52) (As := [.int (h10.1 52 3)]) (r := []) (v := some (.int q11.1)) (h' := q11.2) rfl rfl (by decide) rfl (Nat.le_of_ble_eq_true rfl) rfl (E_250 (Nat.le_trans (by decide) hd) e_q11) rfl ?_
  refine Ex.seg 3 (pc' := 23) (lc' := [some (.ref 52), some (.int q11.1)]) (st' := [.int (-1), .int q11.1]) (h' := q11.2) (sg1 rfl rfl (sg1 rfl rfl (sg1 rfl rfl rfl))) ?_
  refine Ex.icmp rfl rfl (fun (c0 : ¬ (q11.1 = (-1))) => ?_) (fun (c0 : ¬ ¬ (q11.1 = (-1))) => ?_)
  · rw [if_neg c0] at hf
    refine Ex.seg 2 (pc' := 36) (lc' := [some (.ref 52), some (.int q11.1)]) (st' := [.int q11.1, .ref 52]) (h' := q11.2) (sg1 rfl rfl (sg1 rfl rfl rfl)) ?_
    obtain ⟨q12, e_q12, hf⟩ := bnd hf
    refine Ex.callV (a := 52) (As := [.int q11.1]) (r := []) (v := some (.int q12.1)) (h' := q12.2) rfl rfl (by decide) rfl (Nat.le_of_ble_eq_true rfl) rfl (E_251 (Nat.le_trans (by decide) hd) e_q12) rfl ?_
    refine Ex.ifc rfl rfl (fun (c0 : ¬ (q12.1 = 0)) => ?_) (fun (c0 : ¬ ¬ (q12.1 = 0)) => ?_)
    · rw [if_neg c0] at hf
      exact Ex.weak (sm_le_s (sm_le_s sm_le_nil)) (B_249_65 hd  hf hs)
    · rw [if_pos (Classical.not_not.mp c0)] at hf
      refine Ex.seg 2 (pc' := 45) (lc' := [some (.ref 52), some (.int q11.1)]) (st' := [.int 45, .int q11.1]) (h' := q12.2) (sg1 rfl rfl (sg1 rfl rfl rfl)) ?_
      refine Ex.icmp rfl rfl (fun (c0 : ¬ (q11.1 = 45)) => ?_) (fun (c0 : ¬ ¬ (q11.1 = 45)) => ?_)
      · rw [if_neg c0] at hf
        exact Ex.weak (sm_le_s (sm_le_s sm_le_nil)) (B_249_87 hd  hf hs)
      · rw [if_pos (Classical.not_not.mp c0)] at hf
        refine Ex.seg 6 (pc' := 56) (lc' := [some (.ref 52), some (.int q11.1)]) (st' := [.int ((q12.2.1 52 3) + 1), .ref 52, .ref 52]) (h' := q12.2) (sg1 rfl rfl (sg1 rfl rfl (sg1 rfl rfl (sg1 rfl rfl (sg1 rfl rfl (sg1 rfl rfl rfl)))))) ?_
        obtain ⟨q13, e_q13, hf⟩ := bnd hf
        refine Ex.callV (a := 52) (As := [.int ((q12.2.1 52 3) + 1)]) (r := [.ref 52]) (v := some (.int q13.1)) (h' := q13.2) rfl rfl (by decide) rfl (Nat.le_of_ble_eq_true rfl) rfl (E_250 (Nat.le_trans (by decide) hd) e_q13) rfl ?_
        obtain ⟨q14, e_q14, hf⟩ := bnd hf
        refine Ex.callV (a := 52) (As := [.int q13.1]) (r := []) (v := some (.int q14.1)) (h' := q14.2) rfl rfl (by decide) rfl (Nat.le_of_ble_eq_true rfl) rfl (E_251 (Nat.le_trans (by decide) hd) e_q14) rfl ?_
        refine Ex.ifc rfl rfl (fun (c0 : q14.1 = 0) => ?_) (fun (c0 : ¬ (q14.1 = 0)) => ?_)
        · rw [if_pos c0] at hf
          exact Ex.weak (sm_le_s (sm_le_s sm_le_nil)) (B_249_87 hd  hf hs)
        · rw [if_neg c0] at hf
          exact Ex.weak (sm_le_s (sm_le_s sm_le_nil)) (B_249_65 hd  hf hs)
  · rw [if_pos (Classical.not_not.mp c0)] at hf
    refine Ex.seg 3 (pc' := 31) (lc' := [some (.ref 52), some (.int q11.1)]) (st' := []) (h' := (sm_wI q11.2 52 4 0)) (sg1 rfl rfl (sg1 rfl rfl (sg1 rfl rfl rfl))) ?_
    obtain ⟨h15, e_h15, hf⟩ := bnd hf
    rw [Option.some.inj e_h15]
    refine Ex.seg 1 (pc' := 145) (lc' := [some (.ref 52), some (.int q11.1)]) (st' := []) (h' := h15) (sg1 rfl rfl rfl) ?_
    exact Ex.weak (sm_le_s (sm_le_n sm_le_nil)) (B_249_145 hd  hf hs)
theorem E_249 {L : Nat} {xs : Nat → Int32} {d : Nat} (hd : 2 ≤ d)  {h : sm_H} {r : Int32 × sm_H} (hf : F_249  h = some r) : RUN L xs d 249 [.ref 52] h (some (.int r.1), r.2) := by
  obtain ⟨d, rfl⟩ : ∃ e, d = e + 1 := ⟨d - 1, by omega⟩
  exact ⟨Nat.le_of_ble_eq_true rfl, B_249_0 (by omega) hf rfl⟩
theorem B_259_0 {L : Nat} {xs : Nat → Int32} {d : Nat} (hd : 2 ≤ d) {res : Option Value × sm_H} {x1 : Int32} {x2 : Int32}  {h : sm_H} {r : (Int32 × sm_H)} (hf : F_259_0 x1 x2 h = some r) (hs : (fun (r : Int32 × sm_H) => res = (some (.int r.1), r.2)) r) : Ex (P_G L xs) (RUN L xs d) (sm_lk P_t259) 0 0 [some (.ref 0), some (.int x1), some (.int x2)] [] h res := by
  unfold F_259_0 at hf
  refine Ex.seg 4 (pc' := 6) (lc' := [some (.ref 0), some (.int x1), some (.int x2)]) (st' := [.int x2, .int x1, .ref 1]) (h' := h) (sg1 rfl rfl (sg1 rfl rfl (sg1 rfl rfl (sg1 rfl rfl rfl)))) ?_
  obtain ⟨q1, e_q1, hf⟩ := bnd hf
  refine Ex.callV (a := 1) (As := [.int x1, .int x2]) (r := []) (v := some (.int q1.1)) (h' := q1.2) rfl rfl (by decide) rfl (Nat.le_of_ble_eq_true rfl) rfl (E_52 (Nat.le_trans (by decide) hd) e_q1) rfl ?_
  obtain rfl := Option.some.inj hf
  exact Ex.iret rfl rfl (fun c0 => by cases c0) hs
theorem E_259 {L : Nat} {xs : Nat → Int32} {d : Nat} (hd : 3 ≤ d) {x1 : Int32} {x2 : Int32} {h : sm_H} {r : Int32 × sm_H} (hf : F_259 x1 x2 h = some r) : RUN L xs d 259 [.ref 0, .int x1, .int x2] h (some (.int r.1), r.2) := by
  obtain ⟨d, rfl⟩ : ∃ e, d = e + 1 := ⟨d - 1, by omega⟩
  exact ⟨Nat.le_of_ble_eq_true rfl, B_259_0 (by omega) hf rfl⟩
theorem B_260_29 {L : Nat} {xs : Nat → Int32} {d : Nat} (hd : 3 ≤ d) {res : Option Value × sm_H} {y2 : Int32}  {h : sm_H} {r : (Int32 × sm_H)} (hf : F_260_29 y2 h = some r) (hs : (fun (r : Int32 × sm_H) => res = (some (.int r.1), r.2)) r) : Ex (P_G L xs) (RUN L xs d) (sm_lk P_t260) 0 29 [some (.ref 0), none, some (.int y2)] [] h res := by
  unfold F_260_29 at hf
  refine Ex.seg 2 (pc' := 33) (lc' := [some (.ref 0), none, some (.int y2)]) (st' := [.ref 64]) (h' := h) (sg1 rfl rfl (sg1 rfl rfl rfl)) ?_
  obtain ⟨q1, e_q1, hf⟩ := bnd hf
  refine Ex.callV (a := 64) (As := []) (r := []) (v := none) (h' := q1) rfl rfl (by decide) rfl (Nat.le_of_ble_eq_true rfl) rfl (E_138 (Nat.le_trans (by decide) hd) e_q1) rfl ?_
  refine Ex.seg 1 (pc' := 37) (lc' := [some (.ref 0), none, some (.int y2)]) (st' := [.int y2]) (h' := q1) (sg1 rfl rfl rfl) ?_
  obtain rfl := Option.some.inj hf
  exact Ex.iret rfl rfl (fun c0 => by cases c0) hs
theorem B_260_0 {L : Nat} {xs : Nat → Int32} {d : Nat} (hd : 3 ≤ d) {res : Option Value × sm_H} {x1 : Int32}  {h : sm_H} {r : (Int32 × sm_H)} (hf : F_260_0 x1 h = some r) (hs : (fun (r : Int32 × sm_H) => res = (some (.int r.1), r.2)) r) : Ex (P_G L xs) (RUN L xs d) (sm_lk P_t260) 0 0 [some (.ref 0), some (.int x1), none] [] h res := by
  unfold F_260_0 at hf
  refine Ex.seg 5 (pc' := 7) (lc' := [some (.ref 0), some (.int x1), some (.int (-1))]) (st' := [.int x1, .ref 1]) (h' := h) (sg1 rfl rfl (sg1 rfl rfl (sg1 rfl rfl (sg1 rfl rfl (sg1 rfl rfl rfl))))) ?_
  obtain ⟨q2, e_q2, hf⟩ := bnd hf
  refine Ex.callV (a := 1) (As := [.int x1]) (r := []) (v := some (.int q2.1)) (h' := q2.2) rfl rfl (by decide) rfl (Nat.le_of_ble_eq_true rfl) rfl (E_53 (Nat.le_trans (by decide) hd) e_q2) rfl ?_
  refine Ex.ifc rfl rfl (fun (c0 : q2.1 = 0) => ?_) (fun (c0 : ¬ (q2.1 = 0)) => ?_)
  · rw [if_pos c0] at hf
    exact Ex.weak (sm_le_s (sm_le_n (sm_le_s sm_le_nil))) (B_260_29 hd  hf hs)
  · rw [if_neg c0] at hf
    refine Ex.seg 1 (pc' := 14) (lc' := [some (.ref 0), some (.int x1), some (.int (-1))]) (st' := [.ref 0]) (h' := q2.2) (sg1 rfl rfl rfl) ?_
    obtain ⟨q3, e_q3, hf⟩ := bnd hf
    refine Ex.callV (a := 0) (As := []) (r := []) (v := some (.int q3.1)) (h' := q3.2) rfl rfl (by decide) rfl (Nat.le_of_ble_eq_true rfl) rfl (E_261 (Nat.le_trans (by decide) hd) e_q3) rfl ?_
    refine Ex.ifc rfl rfl (fun (c0 : q3.1 = 0) => ?_) (fun (c0 : ¬ (q3.1 = 0)) => ?_)
    · rw [if_pos c0] at hf
      exact Ex.weak (sm_le_s (sm_le_n (sm_le_s sm_le_nil))) (B_260_29 hd  hf hs)
    · rw [if_neg c0] at hf
      refine Ex.seg 3 (pc' := 25) (lc' := [some (.ref 0), some (.int x1), some (.int (-1))]) (st' := [.int x1, .ref 5]) (h' := q3.2) (sg1 rfl rfl (sg1 rfl rfl (sg1 rfl rfl rfl))) ?_
      obtain ⟨q4, e_q4, hf⟩ := bnd hf
      refine Ex.callV (a := 5) (As := [.int x1]) (r := []) (v := some (.int q4.1)) (h' := q4.2) rfl rfl (by decide) rfl (Nat.le_of_ble_eq_true rfl) rfl (E_234 (Nat.le_trans (by decide) hd) e_q4) rfl ?_
      refine Ex.seg 1 (pc' := 29) (lc' := [some (.ref 0), some (.int x1), some (.int q4.1)]) (st' := []) (h' := q4.2) (sg1 rfl rfl rfl) ?_
      exact Ex.weak (sm_le_s (sm_le_n (sm_le_s sm_le_nil))) (B_260_29 hd  hf hs)
theorem E_260 {L : Nat} {xs : Nat → Int32} {d : Nat} (hd : 4 ≤ d) {x1 : Int32} {h : sm_H} {r : Int32 × sm_H} (hf : F_260 x1 h = some r) : RUN L xs d 260 [.ref 0, .int x1] h (some (.int r.1), r.2) := by
  obtain ⟨d, rfl⟩ : ∃ e, d = e + 1 := ⟨d - 1, by omega⟩
  exact ⟨Nat.le_of_ble_eq_true rfl, B_260_0 (by omega) hf rfl⟩
theorem B_267_0 {L : Nat} {xs : Nat → Int32} {d : Nat} (hd : 3 ≤ d) {res : Option Value × sm_H} {x1 : Int32} {x2 : Int32} {x3 : Int32} {x4 : Int32} {x5 : Int32}  {h : sm_H} {r : (Int32 × sm_H)} (hf : F_267_0 x1 x2 x3 x4 x5 h = some r) (hs : (fun (r : Int32 × sm_H) => res = (some (.int r.1), r.2)) r) : Ex (P_G L xs) (RUN L xs d) (sm_lk P_t267) 0 0 [some (.ref 0), some (.int x1), some (.int x2), some (.int x3), some (.int x4), some (.int x5)] [] h res := by
  unfold F_267_0 at hf
  refine Ex.seg 8 (pc' := 12) (lc' := [some (.ref 0), some (.int x1), some (.int x2), some (.int x3), some (.int x4), some (.int x5)]) (st' := [.int x5, .int x4, .int x3, .int x2, .int x1, .ref 38, .ref 0]) (h' := h) (sg1 rfl rfl (sg1 rfl rfl (sg1 rfl rfl (sg1 rfl rfl (sg1 rfl rfl (sg1 rfl rfl (sg1 rfl rfl (sg1 rfl rfl rfl)))))))) ?_
  obtain ⟨q1, e_q1, hf⟩ := bnd hf
  refine Ex.callV (a := 38) (As := [.int x1, .int x2, .int x3, .int x4, .int x5]) (r := [.ref 0]) (v := some (.int q1.1)) (h' := q1.2) rfl rfl (by decide) rfl (Nat.le_of_ble_eq_true rfl) rfl (E_114 (Nat.le_trans (by decide) hd) e_q1) rfl ?_
  obtain ⟨q2, e_q2, hf⟩ := bnd hf
  refine Ex.callV (a := 0) (As := [.int q1.1]) (r := []) (v := some (.int q2.1)) (h' := q2.2) rfl rfl (by decide) rfl (Nat.le_of_ble_eq_true rfl) rfl (E_264 (Nat.le_trans (by decide) hd) e_q2) rfl ?_
  obtain rfl := Option.some.inj hf
  exact Ex.iret rfl rfl (fun c0 => by cases c0) hs
theorem E_267 {L : Nat} {xs : Nat → Int32} {d : Nat} (hd : 4 ≤ d) {x1 : Int32} {x2 : Int32} {x3 : Int32} {x4 : Int32} {x5 : Int32} {h : sm_H} {r : Int32 × sm_H} (hf : F_267 x1 x2 x3 x4 x5 h = some r) : RUN L xs d 267 [.ref 0, .int x1, .int x2, .int x3, .int x4, .int x5] h (some (.int r.1), r.2) := by
  obtain ⟨d, rfl⟩ : ∃ e, d = e + 1 := ⟨d - 1, by omega⟩
  exact ⟨Nat.le_of_ble_eq_true rfl, B_267_0 (by omega) hf rfl⟩
theorem B_278_0 {L : Nat} {xs : Nat → Int32} {d : Nat} (hd : 2 ≤ d) {res : Option Value × sm_H}   {h : sm_H} {r : (Int64 × sm_H)} (hf : F_278_0  h = some r) (hs : (fun (r : Int64 × sm_H) => res = (some (.long r.1), r.2)) r) : Ex (P_G L xs) (RUN L xs d) (sm_lk P_t278) 0 0 [some (.ref 0)] [] h res := by
  unfold F_278_0 at hf
  refine Ex.seg 4 (pc' := 8) (lc' := [some (.ref 0)]) (st' := [.ref 49, .ref 21]) (h' := h) (sg1 rfl rfl (sg1 rfl rfl (sg1 rfl rfl (sg1 rfl rfl rfl)))) ?_
  obtain ⟨q1, e_q1, hf⟩ := bnd hf
  refine Ex.callV (a := 49) (As := []) (r := [.ref 21]) (v := some (.long q1.1)) (h' := q1.2) rfl rfl (by decide) rfl (Nat.le_of_ble_eq_true rfl) rfl (E_70 (Nat.le_trans (by decide) hd) e_q1) rfl ?_
  refine Ex.seg 2 (pc' := 15) (lc' := [some (.ref 0)]) (st' := [.ref 49, .long q1.1, .ref 21]) (h' := q1.2) (sg1 rfl rfl (sg1 rfl rfl rfl)) ?_
  obtain ⟨q2, e_q2, hf⟩ := bnd hf
  refine Ex.callV (a := 49) (As := []) (r := [.long q1.1, .ref 21]) (v := some (.int q2.1)) (h' := q2.2) rfl rfl (by decide) rfl (Nat.le_of_ble_eq_true rfl) rfl (E_71 (Nat.le_trans (by decide) hd) e_q2) rfl ?_
  obtain ⟨q3, e_q3, hf⟩ := bnd hf
  refine Ex.callV (a := 21) (As := [.long q1.1, .int q2.1]) (r := []) (v := some (.long q3.1)) (h' := q3.2) rfl rfl (by decide) rfl (Nat.le_of_ble_eq_true rfl) rfl (E_148 (Nat.le_trans (by decide) hd) e_q3) rfl ?_
  obtain rfl := Option.some.inj hf
  exact Ex.lret rfl rfl hs
theorem E_278 {L : Nat} {xs : Nat → Int32} {d : Nat} (hd : 3 ≤ d)  {h : sm_H} {r : Int64 × sm_H} (hf : F_278  h = some r) : RUN L xs d 278 [.ref 0] h (some (.long r.1), r.2) := by
  obtain ⟨d, rfl⟩ : ∃ e, d = e + 1 := ⟨d - 1, by omega⟩
  exact ⟨Nat.le_of_ble_eq_true rfl, B_278_0 (by omega) hf rfl⟩
theorem B_279_0 {L : Nat} {xs : Nat → Int32} {d : Nat} (hd : 3 ≤ d) {res : Option Value × sm_H}   {h : sm_H} {r : (Int32 × sm_H)} (hf : F_279_0  h = some r) (hs : (fun (r : Int32 × sm_H) => res = (some (.int r.1), r.2)) r) : Ex (P_G L xs) (RUN L xs d) (sm_lk P_t279) 0 0 [some (.ref 0)] [] h res := by
  unfold F_279_0 at hf
  refine Ex.seg 4 (pc' := 8) (lc' := [some (.ref 0)]) (st' := [.ref 49, .ref 21]) (h' := h) (sg1 rfl rfl (sg1 rfl rfl (sg1 rfl rfl (sg1 rfl rfl rfl)))) ?_
  obtain ⟨q1, e_q1, hf⟩ := bnd hf
  refine Ex.callV (a := 49) (As := []) (r := [.ref 21]) (v := some (.long q1.1)) (h' := q1.2) rfl rfl (by decide) rfl (Nat.le_of_ble_eq_true rfl) rfl (E_70 (Nat.le_trans (by decide) hd) e_q1) rfl ?_
  refine Ex.seg 2 (pc' := 15) (lc' := [some (.ref 0)]) (st' := [.ref 49, .long q1.1, .ref 21]) (h' := q1.2) (sg1 rfl rfl (sg1 rfl rfl rfl)) ?_
  obtain ⟨q2, e_q2, hf⟩ := bnd hf
  refine Ex.callV (a := 49) (As := []) (r := [.long q1.1, .ref 21]) (v := some (.int q2.1)) (h' := q2.2) rfl rfl (by decide) rfl (Nat.le_of_ble_eq_true rfl) rfl (E_71 (Nat.le_trans (by decide) hd) e_q2) rfl ?_
  obtain ⟨q3, e_q3, hf⟩ := bnd hf
  refine Ex.callV (a := 21) (As := [.long q1.1, .int q2.1]) (r := []) (v := some (.int q3.1)) (h' := q3.2) rfl rfl (by decide) rfl (Nat.le_of_ble_eq_true rfl) rfl (E_149 (Nat.le_trans (by decide) hd) e_q3) rfl ?_
  obtain rfl := Option.some.inj hf
  exact Ex.iret rfl rfl (fun c0 => by cases c0) hs
theorem E_279 {L : Nat} {xs : Nat → Int32} {d : Nat} (hd : 4 ≤ d)  {h : sm_H} {r : Int32 × sm_H} (hf : F_279  h = some r) : RUN L xs d 279 [.ref 0] h (some (.int r.1), r.2) := by
  obtain ⟨d, rfl⟩ : ∃ e, d = e + 1 := ⟨d - 1, by omega⟩
  exact ⟨Nat.le_of_ble_eq_true rfl, B_279_0 (by omega) hf rfl⟩
theorem B_280_49 {L : Nat} {xs : Nat → Int32} {d : Nat} (hd : 2 ≤ d) {res : Option Value × sm_H} {z0 : Int64}  {h : sm_H} {r : (Int64 × sm_H)} (hf : F_280_49 z0 h = some r) (hs : (fun (r : Int64 × sm_H) => res = (some (.long r.1), r.2)) r) : Ex (P_G L xs) (RUN L xs d) (sm_lk P_t280) 0 49 [none, none, none] [.long z0] h res := by
  unfold F_280_49 at hf
  obtain rfl := Option.some.inj hf
  exact Ex.lret rfl rfl hs
theorem B_280_0 {L : Nat} {xs : Nat → Int32} {d : Nat} (hd : 2 ≤ d) {res : Option Value × sm_H} {x1 : Int32} {x2 : Int32}  {h : sm_H} {r : (Int64 × sm_H)} (hf : F_280_0 x1 x2 h = some r) (hs : (fun (r : Int64 × sm_H) => res = (some (.long r.1), r.2)) r) : Ex (P_G L xs) (RUN L xs d) (sm_lk P_t280) 0 0 [some (.ref 0), some (.int x1), some (.int x2)] [] h res := by
  unfold F_280_0 at hf
  refine Ex.seg 1 (pc' := 1) (lc' := [some (.ref 0), some (.int x1), some (.int x2)]) (st' := [.int x2]) (h' := h) (sg1 rfl rfl rfl) ?_
  refine Ex.ifc rfl rfl (fun (c0 : ¬ (x2 = 0)) => ?_) (fun (c0 : ¬ ¬ (x2 = 0)) => ?_)
  · rw [if_neg c0] at hf
    refine Ex.seg 2 (pc' := 17) (lc' := [some (.ref 0), some (.int x1), some (.int x2)]) (st' := [.int 1, .int x2]) (h' := h) (sg1 rfl rfl (sg1 rfl rfl rfl)) ?_
    refine Ex.icmp rfl rfl (fun (c0 : ¬ (x2 = 1)) => ?_) (fun (c0 : ¬ ¬ (x2 = 1)) => ?_)
    · rw [if_neg c0] at hf
      refine Ex.seg 1 (pc' := 49) (lc' := [some (.ref 0), some (.int x1), some (.int x2)]) (st' := [.long 0]) (h' := h) (sg1 rfl rfl rfl) ?_
      exact Ex.weak (sm_le_n (sm_le_n (sm_le_n sm_le_nil))) (B_280_49 hd  hf hs)
    · rw [if_pos (Classical.not_not.mp c0)] at hf
      refine Ex.seg 6 (pc' := 30) (lc' := [some (.ref 0), some (.int x1), some (.int x2)]) (st' := [.long (Int32.toInt64 x1), .ref 21, .ref 21]) (h' := h) (sg1 rfl rfl (sg1 rfl rfl (sg1 rfl rfl (sg1 rfl rfl (sg1 rfl rfl (sg1 rfl rfl rfl)))))) ?_
      obtain ⟨q1, e_q1, hf⟩ := bnd hf
      refine Ex.callV (a := 21) (As := [.long (Int32.toInt64 x1)]) (r := [.ref 21]) (v := some (.long q1.1)) (h' := q1.2) rfl rfl (by decide) rfl (Nat.le_of_ble_eq_true rfl) rfl (E_150 (Nat.le_trans (by decide) hd) e_q1) rfl ?_
      refine Ex.seg 4 (pc' := 39) (lc' := [some (.ref 0), some (.int x1), some (.int x2)]) (st' := [.long (Int32.toInt64 x1), .ref 21, .long q1.1, .ref 21]) (h' := q1.2) (sg1 rfl rfl (sg1 rfl rfl (sg1 rfl rfl (sg1 rfl rfl rfl)))) ?_
      obtain ⟨q2, e_q2, hf⟩ := bnd hf
      refine Ex.callV (a := 21) (As := [.long (Int32.toInt64 x1)]) (r := [.long q1.1, .ref 21]) (v := some (.int q2.1)) (h' := q2.2) rfl rfl (by decide) rfl (Nat.le_of_ble_eq_true rfl) rfl (E_151 (Nat.le_trans (by decide) hd) e_q2) rfl ?_
      obtain ⟨q3, e_q3, hf⟩ := bnd hf
      refine Ex.callV (a := 21) (As := [.long q1.1, .int q2.1]) (r := []) (v := some (.long q3.1)) (h' := q3.2) rfl rfl (by decide) rfl (Nat.le_of_ble_eq_true rfl) rfl (E_148 (Nat.le_trans (by decide) hd) e_q3) rfl ?_
      refine Ex.seg 1 (pc' := 49) (lc' := [some (.ref 0), some (.int x1), some (.int x2)]) (st' := [.long q3.1]) (h' := q3.2) (sg1 rfl rfl rfl) ?_
      exact Ex.weak (sm_le_n (sm_le_n (sm_le_n sm_le_nil))) (B_280_49 hd  hf hs)
  · rw [if_pos (Classical.not_not.mp c0)] at hf
    refine Ex.seg 4 (pc' := 10) (lc' := [some (.ref 0), some (.int x1), some (.int x2)]) (st' := [.long (Int32.toInt64 x1), .ref 21]) (h' := h) (sg1 rfl rfl (sg1 rfl rfl (sg1 rfl rfl (sg1 rfl rfl rfl)))) ?_
    obtain ⟨q4, e_q4, hf⟩ := bnd hf
    refine Ex.callV (a := 21) (As := [.long (Int32.toInt64 x1)]) (r := []) (v := some (.int q4.1)) (h' := q4.2) rfl rfl (by decide) rfl (Nat.le_of_ble_eq_true rfl) rfl (E_151 (Nat.le_trans (by decide) hd) e_q4) rfl ?_
    refine Ex.seg 1 (pc' := 14) (lc' := [some (.ref 0), some (.int x1), some (.int x2)]) (st' := [.long (Int32.toInt64 q4.1)]) (h' := q4.2) (sg1 rfl rfl rfl) ?_
    obtain rfl := Option.some.inj hf
    exact Ex.lret rfl rfl hs
theorem E_280 {L : Nat} {xs : Nat → Int32} {d : Nat} (hd : 3 ≤ d) {x1 : Int32} {x2 : Int32} {h : sm_H} {r : Int64 × sm_H} (hf : F_280 x1 x2 h = some r) : RUN L xs d 280 [.ref 0, .int x1, .int x2] h (some (.long r.1), r.2) := by
  obtain ⟨d, rfl⟩ : ∃ e, d = e + 1 := ⟨d - 1, by omega⟩
  exact ⟨Nat.le_of_ble_eq_true rfl, B_280_0 (by omega) hf rfl⟩
theorem B_281_112 {L : Nat} {xs : Nat → Int32} {d : Nat} (hd : 2 ≤ d) {res : Option Value × sm_H} {z0 : Int64}  {h : sm_H} {r : (Int64 × sm_H)} (hf : F_281_112 z0 h = some r) (hs : (fun (r : Int64 × sm_H) => res = (some (.long r.1), r.2)) r) : Ex (P_G L xs) (RUN L xs d) (sm_lk P_t281) 0 112 [none, none, none, none, none, none] [.long z0] h res := by
  unfold F_281_112 at hf
  obtain rfl := Option.some.inj hf
  exact Ex.lret rfl rfl hs
theorem B_281_0 {L : Nat} {xs : Nat → Int32} {d : Nat} (hd : 2 ≤ d) {res : Option Value × sm_H} {x1 : Int32} {x2 : Int32} {x3 : Int32}  {h : sm_H} {r : (Int64 × sm_H)} (hf : F_281_0 x1 x2 x3 h = some r) (hs : (fun (r : Int64 × sm_H) => res = (some (.long r.1), r.2)) r) : Ex (P_G L xs) (RUN L xs d) (sm_lk P_t281) 0 0 [some (.ref 0), some (.int x1), some (.int x2), some (.int x3), none, none] [] h res := by
  unfold F_281_0 at hf
  refine Ex.seg 4 (pc' := 6) (lc' := [some (.ref 0), some (.int x1), some (.int x2), some (.int x3), none, none]) (st' := [.long (Int32.toInt64 x1), .ref 21]) (h' := h) (sg1 rfl rfl (sg1 rfl rfl (sg1 rfl rfl (sg1 rfl rfl rfl)))) ?_
  obtain ⟨q1, e_q1, hf⟩ := bnd hf
  refine Ex.callV (a := 21) (As := [.long (Int32.toInt64 x1)]) (r := []) (v := some (.int q1.1)) (h' := q1.2) rfl rfl (by decide) rfl (Nat.le_of_ble_eq_true rfl) rfl (E_151 (Nat.le_trans (by decide) hd) e_q1) rfl ?_
  refine Ex.seg 4 (pc' := 17) (lc' := [some (.ref 0), some (.int x1), some (.int x2), some (.int x3), some (.int q1.1), none]) (st' := [.int q1.1, .ref 1]) (h' := q1.2) (sg1 rfl rfl (sg1 rfl rfl (sg1 rfl rfl (sg1 rfl rfl rfl)))) ?_
  obtain ⟨q2, e_q2, hf⟩ := bnd hf
  refine Ex.callV (a := 1) (As := [.int q1.1]) (r := []) (v := some (.int q2.1)) (h' := q2.2) rfl rfl (by decide) rfl (Nat.le_of_ble_eq_true rfl) rfl (E_59 (Nat.le_trans (by decide) hd) e_q2) rfl ?_
  refine Ex.ifc rfl rfl (fun (c0 : ¬ (q2.1 = 0)) => ?_) (fun (c0 : ¬ ¬ (q2.1 = 0)) => ?_)
  · rw [if_neg c0] at hf
    refine Ex.seg 6 (pc' := 35) (lc' := [some (.ref 0), some (.int x1), some (.int x2), some (.int x3), some (.int q1.1), none]) (st' := [.long (Int32.toInt64 x1), .ref 21, .ref 21]) (h' := q2.2) (sg1 rfl rfl (sg1 rfl rfl (sg1 rfl rfl (sg1 rfl rfl (sg1 rfl rfl (sg1 rfl rfl rfl)))))) ?_
    obtain ⟨q3, e_q3, hf⟩ := bnd hf
    refine Ex.callV (a := 21) (As := [.long (Int32.toInt64 x1)]) (r := [.ref 21]) (v := some (.long q3.1)) (h' := q3.2) rfl rfl (by decide) rfl (Nat.le_of_ble_eq_true rfl) rfl (E_150 (Nat.le_trans (by decide) hd) e_q3) rfl ?_
    obtain ⟨q4, e_q4, hf⟩ := bnd hf
    refine Ex.callV (a := 21) (As := [.long q3.1]) (r := []) (v := some (.ref q4.1)) (h' := q4.2) rfl rfl (by decide) rfl (Nat.le_of_ble_eq_true rfl) rfl (E_147 (Nat.le_trans (by decide) hd) e_q4) rfl ?_
    refine Ex.seg 3 (pc' := 46) (lc' := [some (.ref 0), some (.int x1), some (.int x2), some (.int x3), some (.int q1.1), some (.ref q4.1)]) (st' := [.int x2, .ref q4.1]) (h' := q4.2) (sg1 rfl rfl (sg1 rfl rfl (sg1 rfl rfl rfl))) ?_
    have g6 : sm_is G0 q4.2 q4.1 8 = true := Classical.byContradiction (fun z => by rw [if_pos z] at hf; cases hf)
    rw [if_neg (fun z => z g6)] at hf
    obtain ⟨q5, e_q5, hf⟩ := bnd hf
    refine Ex.callV (a := q4.1) (As := [.int x2]) (r := []) (v := some (.int q5.1)) (h' := q5.2) rfl rfl (by decide) rfl (Nat.le_of_ble_eq_true rfl) g6 (E_217 (Nat.le_trans (by decide) hd) e_q5) rfl ?_
    refine Ex.ifc rfl rfl (fun (c0 : ¬ (q5.1 = 0)) => ?_) (fun (c0 : ¬ ¬ (q5.1 = 0)) => ?_)
    · rw [if_neg c0] at hf
      refine Ex.seg 1 (pc' := 55) (lc' := [some (.ref 0), some (.int x1), some (.int x2), some (.int x3), some (.int q1.1), some (.ref q4.1)]) (st' := [.int x3]) (h' := q5.2) (sg1 rfl rfl rfl) ?_
      refine Ex.ifc rfl rfl (fun (c0 : ¬ (x3 = 0)) => ?_) (fun (c0 : ¬ ¬ (x3 = 0)) => ?_)
      · rw [if_neg c0] at hf
        refine Ex.seg 2 (pc' := 80) (lc' := [some (.ref 0), some (.int x1), some (.int x2), some (.int x3), some (.int q1.1), some (.ref q4.1)]) (st' := [.int 1, .int x3]) (h' := q5.2) (sg1 rfl rfl (sg1 rfl rfl rfl)) ?_
        refine Ex.icmp rfl rfl (fun (c0 : x3 = 1) => ?_) (fun (c0 : ¬ (x3 = 1)) => ?_)
        · rw [if_pos c0] at hf
          refine Ex.seg 2 (pc' := 89) (lc' := [some (.ref 0), some (.int x1), some (.int x2), some (.int x3), some (.int q1.1), some (.ref q4.1)]) (st' := [.int 17, .int q1.1]) (h' := q5.2) (sg1 rfl rfl (sg1 rfl rfl rfl)) ?_
          refine Ex.icmp rfl rfl (fun (c0 : ¬ (q1.1 = 17)) => ?_) (fun (c0 : ¬ ¬ (q1.1 = 17)) => ?_)
          · rw [if_neg c0] at hf
            refine Ex.seg 3 (pc' := 108) (lc' := [some (.ref 0), some (.int x1), some (.int x2), some (.int x3), some (.int q1.1), some (.ref q4.1)]) (st' := [.int q1.1, .ref 1]) (h' := q5.2) (sg1 rfl rfl (sg1 rfl rfl (sg1 rfl rfl rfl))) ?_
            obtain ⟨q7, e_q7, hf⟩ := bnd hf
            refine Ex.callV (a := 1) (As := [.int q1.1]) (r := []) (v := some (.int q7.1)) (h' := q7.2) rfl rfl (by decide) rfl (Nat.le_of_ble_eq_true rfl) rfl (E_63 (Nat.le_trans (by decide) hd) e_q7) rfl ?_
            refine Ex.seg 1 (pc' := 112) (lc' := [some (.ref 0), some (.int x1), some (.int x2), some (.int x3), some (.int q1.1), some (.ref q4.1)]) (st' := [.long (Int32.toInt64 q7.1)]) (h' := q7.2) (sg1 rfl rfl rfl) ?_
            exact Ex.weak (sm_le_n (sm_le_n (sm_le_n (sm_le_n (sm_le_n (sm_le_n sm_le_nil)))))) (B_281_112 hd  hf hs)
          · rw [if_pos (Classical.not_not.mp c0)] at hf
            refine Ex.seg 2 (pc' := 95) (lc' := [some (.ref 0), some (.int x1), some (.int x2), some (.int x3), some (.int q1.1), some (.ref q4.1)]) (st' := [.int x2, .ref q4.1]) (h' := q5.2) (sg1 rfl rfl (sg1 rfl rfl rfl)) ?_
            have g9 : sm_is G0 q5.2 q4.1 8 = true := Classical.byContradiction (fun z => by rw [if_pos z] at hf; cases hf)
            rw [if_neg (fun z => z g9)] at hf
            obtain ⟨q8, e_q8, hf⟩ := bnd hf
            refine Ex.callV (a := q4.1) (As := [.int x2]) (r := []) (v := some (.int q8.1)) (h' := q8.2) rfl rfl (by decide) rfl (Nat.le_of_ble_eq_true rfl) g9 (E_219 (Nat.le_trans (by decide) hd) e_q8) rfl ?_
            refine Ex.seg 2 (pc' := 112) (lc' := [some (.ref 0), some (.int x1), some (.int x2), some (.int x3), some (.int q1.1), some (.ref q4.1)]) (st' := [.long (Int32.toInt64 q8.1)]) (h' := q8.2) (sg1 rfl rfl (sg1 rfl rfl rfl)) ?_
            exact Ex.weak (sm_le_n (sm_le_n (sm_le_n (sm_le_n (sm_le_n (sm_le_n sm_le_nil)))))) (B_281_112 hd  hf hs)
        · rw [if_neg c0] at hf
          refine Ex.seg 1 (pc' := 84) (lc' := [some (.ref 0), some (.int x1), some (.int x2), some (.int x3), some (.int q1.1), some (.ref q4.1)]) (st' := [.long 0]) (h' := q5.2) (sg1 rfl rfl rfl) ?_
          obtain rfl := Option.some.inj hf
          exact Ex.lret rfl rfl hs
      · rw [if_pos (Classical.not_not.mp c0)] at hf
        refine Ex.seg 4 (pc' := 65) (lc' := [some (.ref 0), some (.int x1), some (.int x2), some (.int x3), some (.int q1.1), some (.ref q4.1)]) (st' := [.int x2, .ref q4.1, .ref 21]) (h' := q5.2) (sg1 rfl rfl (sg1 rfl rfl (sg1 rfl rfl (sg1 rfl rfl rfl)))) ?_
        have g11 : sm_is G0 q5.2 q4.1 8 = true := Classical.byContradiction (fun z => by rw [if_pos z] at hf; cases hf)
        rw [if_neg (fun z => z g11)] at hf
        obtain ⟨q10, e_q10, hf⟩ := bnd hf
        refine Ex.callV (a := q4.1) (As := [.int x2]) (r := [.ref 21]) (v := some (.long q10.1)) (h' := q10.2) rfl rfl (by decide) rfl (Nat.le_of_ble_eq_true rfl) g11 (E_218 (Nat.le_trans (by decide) hd) e_q10) rfl ?_
        refine Ex.seg 2 (pc' := 71) (lc' := [some (.ref 0), some (.int x1), some (.int x2), some (.int x3), some (.int q1.1), some (.ref q4.1)]) (st' := [.int x2, .ref q4.1, .long q10.1, .ref 21]) (h' := q10.2) (sg1 rfl rfl (sg1 rfl rfl rfl)) ?_
        have g13 : sm_is G0 q10.2 q4.1 8 = true := Classical.byContradiction (fun z => by rw [if_pos z] at hf; cases hf)
        rw [if_neg (fun z => z g13)] at hf
        obtain ⟨q12, e_q12, hf⟩ := bnd hf
        refine Ex.callV (a := q4.1) (As := [.int x2]) (r := [.long q10.1, .ref 21]) (v := some (.int q12.1)) (h' := q12.2) rfl rfl (by decide) rfl (Nat.le_of_ble_eq_true rfl) g13 (E_219 (Nat.le_trans (by decide) hd) e_q12) rfl ?_
        obtain ⟨q14, e_q14, hf⟩ := bnd hf
        refine Ex.callV (a := 21) (As := [.long q10.1, .int q12.1]) (r := []) (v := some (.long q14.1)) (h' := q14.2) rfl rfl (by decide) rfl (Nat.le_of_ble_eq_true rfl) rfl (E_148 (Nat.le_trans (by decide) hd) e_q14) rfl ?_
        obtain rfl := Option.some.inj hf
        exact Ex.lret rfl rfl hs
    · rw [if_pos (Classical.not_not.mp c0)] at hf
      refine Ex.seg 1 (pc' := 53) (lc' := [some (.ref 0), some (.int x1), some (.int x2), some (.int x3), some (.int q1.1), some (.ref q4.1)]) (st' := [.long 0]) (h' := q5.2) (sg1 rfl rfl rfl) ?_
      obtain rfl := Option.some.inj hf
      exact Ex.lret rfl rfl hs
  · rw [if_pos (Classical.not_not.mp c0)] at hf
    refine Ex.seg 1 (pc' := 24) (lc' := [some (.ref 0), some (.int x1), some (.int x2), some (.int x3), some (.int q1.1), none]) (st' := [.long 0]) (h' := q2.2) (sg1 rfl rfl rfl) ?_
    obtain rfl := Option.some.inj hf
    exact Ex.lret rfl rfl hs
theorem E_281 {L : Nat} {xs : Nat → Int32} {d : Nat} (hd : 3 ≤ d) {x1 : Int32} {x2 : Int32} {x3 : Int32} {h : sm_H} {r : Int64 × sm_H} (hf : F_281 x1 x2 x3 h = some r) : RUN L xs d 281 [.ref 0, .int x1, .int x2, .int x3] h (some (.long r.1), r.2) := by
  obtain ⟨d, rfl⟩ : ∃ e, d = e + 1 := ⟨d - 1, by omega⟩
  exact ⟨Nat.le_of_ble_eq_true rfl, B_281_0 (by omega) hf rfl⟩
theorem B_286_0 {L : Nat} {xs : Nat → Int32} {d : Nat} (hd : 2 ≤ d) {res : Option Value × sm_H} {x1 : Int64}  {h : sm_H} {r : (Int32 × sm_H)} (hf : F_286_0 x1 h = some r) (hs : (fun (r : Int32 × sm_H) => res = (some (.int r.1), r.2)) r) : Ex (P_G L xs) (RUN L xs d) (sm_lk P_t286) 0 0 [some (.ref 0), some (.long x1), none] [] h res := by
  unfold F_286_0 at hf
  refine Ex.seg 3 (pc' := 5) (lc' := [some (.ref 0), some (.long x1), none]) (st' := [.long x1, .ref 55]) (h' := h) (sg1 rfl rfl (sg1 rfl rfl (sg1 rfl rfl rfl))) ?_
  obtain ⟨q1, e_q1, hf⟩ := bnd hf
  refine Ex.callV (a := 55) (As := [.long x1]) (r := []) (v := some (.int q1.1)) (h' := q1.2) rfl rfl (by decide) rfl (Nat.le_of_ble_eq_true rfl) rfl (E_165 (Nat.le_trans (by decide) hd) e_q1) rfl ?_
  obtain rfl := Option.some.inj hf
  exact Ex.iret rfl rfl (fun c0 => by cases c0) hs
theorem E_286 {L : Nat} {xs : Nat → Int32} {d : Nat} (hd : 3 ≤ d) {x1 : Int64} {h : sm_H} {r : Int32 × sm_H} (hf : F_286 x1 h = some r) : RUN L xs d 286 [.ref 0, .long x1] h (some (.int r.1), r.2) := by
  obtain ⟨d, rfl⟩ : ∃ e, d = e + 1 := ⟨d - 1, by omega⟩
  exact ⟨Nat.le_of_ble_eq_true rfl, B_286_0 (by omega) hf rfl⟩
theorem B_287_0 {L : Nat} {xs : Nat → Int32} {d : Nat} (hd : 2 ≤ d) {res : Option Value × sm_H} {x1 : Int32} {x2 : Int32} {x3 : Int32}  {h : sm_H} {r : (Int32 × sm_H)} (hf : F_287_0 x1 x2 x3 h = some r) (hs : (fun (r : Int32 × sm_H) => res = (some (.int r.1), r.2)) r) : Ex (P_G L xs) (RUN L xs d) (sm_lk P_t287) 3 0 [some (.ref 0), some (.int x1), some (.int x2), some (.int x3)] [] h res := by
  unfold F_287_0 at hf
  refine Ex.seg 5 (pc' := 7) (lc' := [some (.ref 0), some (.int x1), some (.int x2), some (.int x3)]) (st' := [.int x3, .int x2, .int x1, .ref 1]) (h' := h) (sg1 rfl rfl (sg1 rfl rfl (sg1 rfl rfl (sg1 rfl rfl (sg1 rfl rfl rfl))))) ?_
  obtain ⟨q1, e_q1, hf⟩ := bnd hf
  refine Ex.callV (a := 1) (As := [.int x1, .int x2, .int x3]) (r := []) (v := some (.int q1.1)) (h' := q1.2) rfl rfl (by decide) rfl (Nat.le_of_ble_eq_true rfl) rfl (E_64 (Nat.le_trans (by decide) hd) e_q1) rfl ?_
  rcases Classical.em (q1.1 = 0 ∨ q1.1 = 1) with c0 | c0
  · rw [if_pos c0] at hf
    obtain rfl := Option.some.inj hf
    exact Ex.iret rfl rfl (fun _ => c0) hs
  · rw [if_neg c0] at hf
    cases hf
theorem E_287 {L : Nat} {xs : Nat → Int32} {d : Nat} (hd : 3 ≤ d) {x1 : Int32} {x2 : Int32} {x3 : Int32} {h : sm_H} {r : Int32 × sm_H} (hf : F_287 x1 x2 x3 h = some r) : RUN L xs d 287 [.ref 0, .int x1, .int x2, .int x3] h (some (.int r.1), r.2) := by
  obtain ⟨d, rfl⟩ : ∃ e, d = e + 1 := ⟨d - 1, by omega⟩
  exact ⟨Nat.le_of_ble_eq_true rfl, B_287_0 (by omega) hf rfl⟩
theorem B_7_172 {L : Nat} {xs : Nat → Int32} {d : Nat} (hd : 2 ≤ d) {res : Option Value × sm_H} {z0 : Int32}  {h : sm_H} {r : (Int32 × sm_H)} (hf : F_7_172 z0 h = some r) (hs : (fun (r : Int32 × sm_H) => res = (some (.int r.1), r.2)) r) : Ex (P_G L xs) (RUN L xs d) (sm_lk P_t7) 3 172 [none] [.int z0] h res := by
  unfold F_7_172 at hf
  rcases Classical.em (z0 = 0 ∨ z0 = 1) with c0 | c0
  · rw [if_pos c0] at hf
    obtain rfl := Option.some.inj hf
    exact Ex.iret rfl rfl (fun _ => c0) hs
  · rw [if_neg c0] at hf
    cases hf
theorem B_7_167 {L : Nat} {xs : Nat → Int32} {d : Nat} (hd : 2 ≤ d) {res : Option Value × sm_H}   {h : sm_H} {r : (Int32 × sm_H)} (hf : F_7_167  h = some r) (hs : (fun (r : Int32 × sm_H) => res = (some (.int r.1), r.2)) r) : Ex (P_G L xs) (RUN L xs d) (sm_lk P_t7) 3 167 [none] [] h res := by
  unfold F_7_167 at hf
  refine Ex.seg 2 (pc' := 172) (lc' := [none]) (st' := [.int 1]) (h' := h) (sg1 rfl rfl (sg1 rfl rfl rfl)) ?_
  exact Ex.weak (sm_le_s sm_le_nil) (B_7_172 hd  hf hs)
theorem B_7_140 {L : Nat} {xs : Nat → Int32} {d : Nat} (hd : 2 ≤ d) {res : Option Value × sm_H} {z0 : Int32}  {h : sm_H} {r : (Int32 × sm_H)} (hf : F_7_140 z0 h = some r) (hs : (fun (r : Int32 × sm_H) => res = (some (.int r.1), r.2)) r) : Ex (P_G L xs) (RUN L xs d) (sm_lk P_t7) 3 140 [none] [.int z0] h res := by
  unfold F_7_140 at hf
  rcases Classical.em (z0 = 0 ∨ z0 = 1) with c0 | c0
  · rw [if_pos c0] at hf
    obtain rfl := Option.some.inj hf
    exact Ex.iret rfl rfl (fun _ => c0) hs
  · rw [if_neg c0] at hf
    cases hf
theorem B_7_135 {L : Nat} {xs : Nat → Int32} {d : Nat} (hd : 2 ≤ d) {res : Option Value × sm_H}   {h : sm_H} {r : (Int32 × sm_H)} (hf : F_7_135  h = some r) (hs : (fun (r : Int32 × sm_H) => res = (some (.int r.1), r.2)) r) : Ex (P_G L xs) (RUN L xs d) (sm_lk P_t7) 3 135 [none] [] h res := by
  unfold F_7_135 at hf
  refine Ex.seg 2 (pc' := 140) (lc' := [none]) (st' := [.int 1]) (h' := h) (sg1 rfl rfl (sg1 rfl rfl rfl)) ?_
  exact Ex.weak (sm_le_s sm_le_nil) (B_7_140 hd  hf hs)
theorem B_7_107 {L : Nat} {xs : Nat → Int32} {d : Nat} (hd : 2 ≤ d) {res : Option Value × sm_H} {z0 : Int32}  {h : sm_H} {r : (Int32 × sm_H)} (hf : F_7_107 z0 h = some r) (hs : (fun (r : Int32 × sm_H) => res = (some (.int r.1), r.2)) r) : Ex (P_G L xs) (RUN L xs d) (sm_lk P_t7) 3 107 [none] [.int z0] h res := by
  unfold F_7_107 at hf
  rcases Classical.em (z0 = 0 ∨ z0 = 1) with c0 | c0
  · rw [if_pos c0] at hf
    obtain rfl := Option.some.inj hf
    exact Ex.iret rfl rfl (fun _ => c0) hs
  · rw [if_neg c0] at hf
    cases hf
theorem B_7_102 {L : Nat} {xs : Nat → Int32} {d : Nat} (hd : 2 ≤ d) {res : Option Value × sm_H}   {h : sm_H} {r : (Int32 × sm_H)} (hf : F_7_102  h = some r) (hs : (fun (r : Int32 × sm_H) => res = (some (.int r.1), r.2)) r) : Ex (P_G L xs) (RUN L xs d) (sm_lk P_t7) 3 102 [none] [] h res := by
  unfold F_7_102 at hf
  refine Ex.seg 2 (pc' := 107) (lc' := [none]) (st' := [.int 1]) (h' := h) (sg1 rfl rfl (sg1 rfl rfl rfl)) ?_
  exact Ex.weak (sm_le_s sm_le_nil) (B_7_107 hd  hf hs)
theorem B_7_50 {L : Nat} {xs : Nat → Int32} {d : Nat} (hd : 2 ≤ d) {res : Option Value × sm_H} {z0 : Int32}  {h : sm_H} {r : (Int32 × sm_H)} (hf : F_7_50 z0 h = some r) (hs : (fun (r : Int32 × sm_H) => res = (some (.int r.1), r.2)) r) : Ex (P_G L xs) (RUN L xs d) (sm_lk P_t7) 3 50 [none] [.int z0] h res := by
  unfold F_7_50 at hf
  rcases Classical.em (z0 = 0 ∨ z0 = 1) with c0 | c0
  · rw [if_pos c0] at hf
    obtain rfl := Option.some.inj hf
    exact Ex.iret rfl rfl (fun _ => c0) hs
  · rw [if_neg c0] at hf
    cases hf
theorem B_7_45 {L : Nat} {xs : Nat → Int32} {d : Nat} (hd : 2 ≤ d) {res : Option Value × sm_H}   {h : sm_H} {r : (Int32 × sm_H)} (hf : F_7_45  h = some r) (hs : (fun (r : Int32 × sm_H) => res = (some (.int r.1), r.2)) r) : Ex (P_G L xs) (RUN L xs d) (sm_lk P_t7) 3 45 [none] [] h res := by
  unfold F_7_45 at hf
  refine Ex.seg 2 (pc' := 50) (lc' := [none]) (st' := [.int 1]) (h' := h) (sg1 rfl rfl (sg1 rfl rfl rfl)) ?_
  exact Ex.weak (sm_le_s sm_le_nil) (B_7_50 hd  hf hs)
theorem B_7_0 {L : Nat} {xs : Nat → Int32} {d : Nat} (hd : 2 ≤ d) {res : Option Value × sm_H}   {h : sm_H} {r : (Int32 × sm_H)} (hf : F_7_0  h = some r) (hs : (fun (r : Int32 × sm_H) => res = (some (.int r.1), r.2)) r) : Ex (P_G L xs) (RUN L xs d) (sm_lk P_t7) 3 0 [some (.ref 34)] [] h res := by
  unfold F_7_0 at hf
  refine Ex.seg 3 (pc' := 5) (lc' := [some (.ref 34)]) (st' := [.int 5, .int (h.1 34 7)]) (h' := h) (sg1 rfl rfl (sg1 rfl rfl (sg1 rfl rfl rfl))) ?_
  refine Ex.icmp rfl rfl (fun (c0 : ¬ ((h.1 34 7) = 5)) => ?_) (fun (c0 : ¬ ¬ ((h.1 34 7) = 5)) => ?_)
  · rw [if_neg c0] at hf
    refine Ex.seg 3 (pc' := 57) (lc' := [some (.ref 34)]) (st' := [.int 18, .int (h.1 34 7)]) (h' := h) (sg1 rfl rfl (sg1 rfl rfl (sg1 rfl rfl rfl))) ?_
    refine Ex.icmp rfl rfl (fun (c0 : ¬ ((h.1 34 7) = 18)) => ?_) (fun (c0 : ¬ ¬ ((h.1 34 7) = 18)) => ?_)
    · rw [if_neg c0] at hf
      refine Ex.seg 3 (pc' := 114) (lc' := [some (.ref 34)]) (st' := [.int 17, .int (h.1 34 7)]) (h' := h) (sg1 rfl rfl (sg1 rfl rfl (sg1 rfl rfl rfl))) ?_
      refine Ex.icmp rfl rfl (fun (c0 : ¬ ((h.1 34 7) = 17)) => ?_) (fun (c0 : ¬ ¬ ((h.1 34 7) = 17)) => ?_)
      · rw [if_neg c0] at hf
        refine Ex.seg 1 (pc' := 142) (lc' := [some (.ref 34)]) (st' := [.ref 34]) (h' := h) (sg1 rfl rfl rfl) ?_
        obtain ⟨b1, e_b1, hf⟩ := bnd hf
        refine Ex.getR (c := 0) (k := 11) rfl e_b1 rfl rfl ?_
        have g3 : sm_is G0 h b1 5 = true := Classical.byContradiction (fun z => by rw [if_pos z] at hf; cases hf)
        rw [if_neg (fun z => z g3)] at hf
        obtain ⟨q2, e_q2, hf⟩ := bnd hf
        refine Ex.callV (a := b1) (As := []) (r := []) (v := some (.int q2.1)) (h' := q2.2) rfl rfl (by decide) rfl (Nat.le_of_ble_eq_true rfl) g3 (E_136 (Nat.le_trans (by decide) hd) e_q2) rfl ?_
        refine Ex.seg 3 (pc' := 155) (lc' := [some (.ref 34)]) (st' := [.int (q2.2.1 34 7), .ref 1000001, .int q2.1]) (h' := q2.2) (sg1 rfl rfl (sg1 rfl rfl (sg1 rfl rfl rfl))) ?_
        obtain ⟨v4, e_v4, hf⟩ := bnd hf
        refine Ex.iald e_v4 rfl rfl ?_
        refine Ex.icmp rfl rfl (fun (c0 : ¬ (q2.1 = v4)) => ?_) (fun (c0 : ¬ ¬ (q2.1 = v4)) => ?_)
        · rw [if_neg c0] at hf
          exact Ex.weak (sm_le_n sm_le_nil) (B_7_167 hd  hf hs)
        · rw [if_pos (Classical.not_not.mp c0)] at hf
          refine Ex.seg 2 (pc' := 161) (lc' := [some (.ref 34)]) (st' := [.int 0, .ref 34]) (h' := q2.2) (sg1 rfl rfl (sg1 rfl rfl rfl)) ?_
          obtain ⟨q5, e_q5, hf⟩ := bnd hf
          refine Ex.callV (a := 34) (As := [.int 0]) (r := []) (v := some (.int q5.1)) (h' := q5.2) rfl rfl (by decide) rfl (Nat.le_of_ble_eq_true rfl) rfl (E_8 (Nat.le_trans (by decide) hd) e_q5) rfl ?_
          refine Ex.ifc rfl rfl (fun (c0 : q5.1 = 0) => ?_) (fun (c0 : ¬ (q5.1 = 0)) => ?_)
          · rw [if_pos c0] at hf
            refine Ex.seg 1 (pc' := 172) (lc' := [some (.ref 34)]) (st' := [.int 0]) (h' := q5.2) (sg1 rfl rfl rfl) ?_
            exact Ex.weak (sm_le_n sm_le_nil) (B_7_172 hd  hf hs)
          · rw [if_neg c0] at hf
            exact Ex.weak (sm_le_n sm_le_nil) (B_7_167 hd  hf hs)
      · rw [if_pos (Classical.not_not.mp c0)] at hf
        refine Ex.seg 1 (pc' := 118) (lc' := [some (.ref 34)]) (st' := [.ref 34]) (h' := h) (sg1 rfl rfl rfl) ?_
        obtain ⟨b6, e_b6, hf⟩ := bnd hf
        refine Ex.getR (c := 0) (k := 11) rfl e_b6 rfl rfl ?_
        have g8 : sm_is G0 h b6 5 = true := Classical.byContradiction (fun z => by rw [if_pos z] at hf; cases hf)
        rw [if_neg (fun z => z g8)] at hf
        obtain ⟨q7, e_q7, hf⟩ := bnd hf
        refine Ex.callV (a := b6) (As := []) (r := []) (v := some (.int q7.1)) (h' := q7.2) rfl rfl (by decide) rfl (Nat.le_of_ble_eq_true rfl) g8 (E_136 (Nat.le_trans (by decide) hd) e_q7) rfl ?_
        refine Ex.ifc rfl rfl (fun (c0 : q7.1 = 0) => ?_) (fun (c0 : ¬ (q7.1 = 0)) => ?_)
        · rw [if_pos c0] at hf
          exact Ex.weak (sm_le_n sm_le_nil) (B_7_135 hd  hf hs)
        · rw [if_neg c0] at hf
          refine Ex.seg 2 (pc' := 129) (lc' := [some (.ref 34)]) (st' := [.int 0, .ref 34]) (h' := q7.2) (sg1 rfl rfl (sg1 rfl rfl rfl)) ?_
          obtain ⟨q9, e_q9, hf⟩ := bnd hf
          refine Ex.callV (a := 34) (As := [.int 0]) (r := []) (v := some (.int q9.1)) (h' := q9.2) rfl rfl (by decide) rfl (Nat.le_of_ble_eq_true rfl) rfl (E_8 (Nat.le_trans (by decide) hd) e_q9) rfl ?_
          refine Ex.ifc rfl rfl (fun (c0 : q9.1 = 0) => ?_) (fun (c0 : ¬ (q9.1 = 0)) => ?_)
          · rw [if_pos c0] at hf
            refine Ex.seg 1 (pc' := 140) (lc' := [some (.ref 34)]) (st' := [.int 0]) (h' := q9.2) (sg1 rfl rfl rfl) ?_
            exact Ex.weak (sm_le_n sm_le_nil) (B_7_140 hd  hf hs)
          · rw [if_neg c0] at hf
            exact Ex.weak (sm_le_n sm_le_nil) (B_7_135 hd  hf hs)
    · rw [if_pos (Classical.not_not.mp c0)] at hf
      refine Ex.seg 1 (pc' := 61) (lc' := [some (.ref 34)]) (st' := [.ref 34]) (h' := h) (sg1 rfl rfl rfl) ?_
      obtain ⟨b10, e_b10, hf⟩ := bnd hf
      refine Ex.getR (c := 0) (k := 11) rfl e_b10 rfl rfl ?_
      have g12 : sm_is G0 h b10 5 = true := Classical.byContradiction (fun z => by rw [if_pos z] at hf; cases hf)
      rw [if_neg (fun z => z g12)] at hf
      obtain ⟨q11, e_q11, hf⟩ := bnd hf
      refine Ex.callV (a := b10) (As := []) (r := []) (v := some (.int q11.1)) (h' := q11.2) rfl rfl (by decide) rfl (Nat.le_of_ble_eq_true rfl) g12 (E_136 (Nat.le_trans (by decide) hd) e_q11) rfl ?_
      refine Ex.ifc rfl rfl (fun (c0 : q11.1 = 0) => ?_) (fun (c0 : ¬ (q11.1 = 0)) => ?_)
      · rw [if_pos c0] at hf
        exact Ex.weak (sm_le_n sm_le_nil) (B_7_102 hd  hf hs)
      · rw [if_neg c0] at hf
        refine Ex.seg 1 (pc' := 71) (lc' := [some (.ref 34)]) (st' := [.ref 34]) (h' := q11.2) (sg1 rfl rfl rfl) ?_
        obtain ⟨b13, e_b13, hf⟩ := bnd hf
        refine Ex.getR (c := 0) (k := 11) rfl e_b13 rfl rfl ?_
        have g15 : sm_is G0 q11.2 b13 5 = true := Classical.byContradiction (fun z => by rw [if_pos z] at hf; cases hf)
        rw [if_neg (fun z => z g15)] at hf
        obtain ⟨q14, e_q14, hf⟩ := bnd hf
        refine Ex.callV (a := b13) (As := []) (r := []) (v := some (.int q14.1)) (h' := q14.2) rfl rfl (by decide) rfl (Nat.le_of_ble_eq_true rfl) g15 (E_136 (Nat.le_trans (by decide) hd) e_q14) rfl ?_
        refine Ex.seg 1 (pc' := 78) (lc' := [some (.ref 34)]) (st' := [.int 4, .int q14.1]) (h' := q14.2) (sg1 rfl rfl rfl) ?_
        rcases Classical.em ((4 : Int32) = 0) with c0 | c0
        · rw [if_pos c0] at hf
          cases hf
        rw [if_neg c0] at hf
        refine Ex.irem c0 rfl rfl ?_
        refine Ex.ifc rfl rfl (fun (c0 : ¬ ((q14.1 - q14.1 / 4 * 4) = 0)) => ?_) (fun (c0 : ¬ ¬ ((q14.1 - q14.1 / 4 * 4) = 0)) => ?_)
        · rw [if_neg c0] at hf
          exact Ex.weak (sm_le_n sm_le_nil) (B_7_102 hd  hf hs)
        · rw [if_pos (Classical.not_not.mp c0)] at hf
          refine Ex.seg 1 (pc' := 83) (lc' := [some (.ref 34)]) (st' := [.ref 34]) (h' := q14.2) (sg1 rfl rfl rfl) ?_
          obtain ⟨b16, e_b16, hf⟩ := bnd hf
          refine Ex.getR (c := 0) (k := 11) rfl e_b16 rfl rfl ?_
          have g18 : sm_is G0 q14.2 b16 5 = true := Classical.byContradiction (fun z => by rw [if_pos z] at hf; cases hf)
          rw [if_neg (fun z => z g18)] at hf
          obtain ⟨q17, e_q17, hf⟩ := bnd hf
          refine Ex.callV (a := b16) (As := []) (r := []) (v := some (.int q17.1)) (h' := q17.2) rfl rfl (by decide) rfl (Nat.le_of_ble_eq_true rfl) g18 (E_136 (Nat.le_trans (by decide) hd) e_q17) rfl ?_
          refine Ex.seg 1 (pc' := 91) (lc' := [some (.ref 34)]) (st' := [.int 16, .int q17.1]) (h' := q17.2) (sg1 rfl rfl rfl) ?_
          refine Ex.icmp rfl rfl (fun (c0 : 16 < q17.1) => ?_) (fun (c0 : ¬ (16 < q17.1)) => ?_)
          · rw [if_pos c0] at hf
            exact Ex.weak (sm_le_n sm_le_nil) (B_7_102 hd  hf hs)
          · rw [if_neg c0] at hf
            refine Ex.seg 2 (pc' := 96) (lc' := [some (.ref 34)]) (st' := [.int 1, .ref 34]) (h' := q17.2) (sg1 rfl rfl (sg1 rfl rfl rfl)) ?_
            obtain ⟨q19, e_q19, hf⟩ := bnd hf
            refine Ex.callV (a := 34) (As := [.int 1]) (r := []) (v := some (.int q19.1)) (h' := q19.2) rfl rfl (by decide) rfl (Nat.le_of_ble_eq_true rfl) rfl (E_8 (Nat.le_trans (by decide) hd) e_q19) rfl ?_
            refine Ex.ifc rfl rfl (fun (c0 : q19.1 = 0) => ?_) (fun (c0 : ¬ (q19.1 = 0)) => ?_)
            · rw [if_pos c0] at hf
              refine Ex.seg 1 (pc' := 107) (lc' := [some (.ref 34)]) (st' := [.int 0]) (h' := q19.2) (sg1 rfl rfl rfl) ?_
              exact Ex.weak (sm_le_n sm_le_nil) (B_7_107 hd  hf hs)
            · rw [if_neg c0] at hf
              exact Ex.weak (sm_le_n sm_le_nil) (B_7_102 hd  hf hs)
  · rw [if_pos (Classical.not_not.mp c0)] at hf
    refine Ex.seg 4 (pc' := 16) (lc' := [some (.ref 34)]) (st' := [.int (h.1 34 12), .ref 10]) (h' := h) (sg1 rfl rfl (sg1 rfl rfl (sg1 rfl rfl (sg1 rfl rfl rfl)))) ?_
    obtain ⟨q20, e_q20, hf⟩ := bnd hf
    refine Ex.callV (a := 10) (As := [.int (h.1 34 12)]) (r := []) (v := some (.int q20.1)) (h' := q20.2) rfl rfl (by decide) rfl (Nat.le_of_ble_eq_true rfl) rfl (E_36 (Nat.le_trans (by decide) hd) e_q20) rfl ?_
    refine Ex.ifc rfl rfl (fun (c0 : q20.1 = 0) => ?_) (fun (c0 : ¬ (q20.1 = 0)) => ?_)
    · rw [if_pos c0] at hf
      exact Ex.weak (sm_le_n sm_le_nil) (B_7_45 hd  hf hs)
    · rw [if_neg c0] at hf
      refine Ex.seg 1 (pc' := 23) (lc' := [some (.ref 34)]) (st' := [.ref 34]) (h' := q20.2) (sg1 rfl rfl rfl) ?_
      obtain ⟨b21, e_b21, hf⟩ := bnd hf
      refine Ex.getR (c := 0) (k := 11) rfl e_b21 rfl rfl ?_
      have g23 : sm_is G0 q20.2 b21 5 = true := Classical.byContradiction (fun z => by rw [if_pos z] at hf; cases hf)
      rw [if_neg (fun z => z g23)] at hf
      obtain ⟨q22, e_q22, hf⟩ := bnd hf
      refine Ex.callV (a := b21) (As := []) (r := []) (v := some (.int q22.1)) (h' := q22.2) rfl rfl (by decide) rfl (Nat.le_of_ble_eq_true rfl) g23 (E_136 (Nat.le_trans (by decide) hd) e_q22) rfl ?_
      refine Ex.seg 5 (pc' := 38) (lc' := [some (.ref 34)]) (st' := [.int (q22.2.1 34 12), .ref 10, .int 1, .int q22.1]) (h' := q22.2) (sg1 rfl rfl (sg1 rfl rfl (sg1 rfl rfl (sg1 rfl rfl (sg1 rfl rfl rfl))))) ?_
      obtain ⟨q24, e_q24, hf⟩ := bnd hf
      refine Ex.callV (a := 10) (As := [.int (q22.2.1 34 12)]) (r := [.int 1, .int q22.1]) (v := some (.int q24.1)) (h' := q24.2) rfl rfl (by decide) rfl (Nat.le_of_ble_eq_true rfl) rfl (E_45 (Nat.le_trans (by decide) hd) e_q24) rfl ?_
      refine Ex.seg 1 (pc' := 42) (lc' := [some (.ref 34)]) (st' := [.int (1 + q24.1), .int q22.1]) (h' := q24.2) (sg1 rfl rfl rfl) ?_
      refine Ex.icmp rfl rfl (fun (c0 : q22.1 = (1 + q24.1)) => ?_) (fun (c0 : ¬ (q22.1 = (1 + q24.1))) => ?_)
      · rw [if_pos c0] at hf
        refine Ex.seg 1 (pc' := 50) (lc' := [some (.ref 34)]) (st' := [.int 0]) (h' := q24.2) (sg1 rfl rfl rfl) ?_
        exact Ex.weak (sm_le_n sm_le_nil) (B_7_50 hd  hf hs)
      · rw [if_neg c0] at hf
        exact Ex.weak (sm_le_n sm_le_nil) (B_7_45 hd  hf hs)
theorem E_7 {L : Nat} {xs : Nat → Int32} {d : Nat} (hd : 3 ≤ d)  {h : sm_H} {r : Int32 × sm_H} (hf : F_7  h = some r) : RUN L xs d 7 [.ref 34] h (some (.int r.1), r.2) := by
  obtain ⟨d, rfl⟩ : ∃ e, d = e + 1 := ⟨d - 1, by omega⟩
  exact ⟨Nat.le_of_ble_eq_true rfl, B_7_0 (by omega) hf rfl⟩
theorem B_10_37 {L : Nat} {xs : Nat → Int32} {d : Nat} (hd : 2 ≤ d) {res : Option Value × sm_H} {z0 : Int32}  {h : sm_H} {r : (Int32 × sm_H)} (hf : F_10_37 z0 h = some r) (hs : (fun (r : Int32 × sm_H) => res = (some (.int r.1), r.2)) r) : Ex (P_G L xs) (RUN L xs d) (sm_lk P_t10) 0 37 [none, none] [.int z0] h res := by
  unfold F_10_37 at hf
  obtain rfl := Option.some.inj hf
  exact Ex.iret rfl rfl (fun c0 => by cases c0) hs
theorem B_10_0 {L : Nat} {xs : Nat → Int32} {d : Nat} (hd : 2 ≤ d) {res : Option Value × sm_H}   {h : sm_H} {r : (Int32 × sm_H)} (hf : F_10_0  h = some r) (hs : (fun (r : Int32 × sm_H) => res = (some (.int r.1), r.2)) r) : Ex (P_G L xs) (RUN L xs d) (sm_lk P_t10) 0 0 [some (.ref 34), none] [] h res := by
  unfold F_10_0 at hf
  refine Ex.seg 6 (pc' := 12) (lc' := [some (.ref 34), none]) (st' := [.int (h.1 34 8), .int (h.1 34 12), .ref 10]) (h' := h) (sg1 rfl rfl (sg1 rfl rfl (sg1 rfl rfl (sg1 rfl rfl (sg1 rfl rfl (sg1 rfl rfl rfl)))))) ?_
  obtain ⟨q1, e_q1, hf⟩ := bnd hf
  refine Ex.callV (a := 10) (As := [.int (h.1 34 12), .int (h.1 34 8)]) (r := []) (v := some (.int q1.1)) (h' := q1.2) rfl rfl (by decide) rfl (Nat.le_of_ble_eq_true rfl) rfl (E_46 (Nat.le_trans (by decide) hd) e_q1) rfl ?_
  refine Ex.seg 3 (pc' := 18) (lc' := [some (.ref 34), some (.int q1.1)]) (st' := [.int (-1), .int q1.1]) (h' := q1.2) (sg1 rfl rfl (sg1 rfl rfl (sg1 rfl rfl rfl))) ?_
  refine Ex.icmp rfl rfl (fun (c0 : ¬ (q1.1 = (-1))) => ?_) (fun (c0 : ¬ ¬ (q1.1 = (-1))) => ?_)
  · rw [if_neg c0] at hf
    refine Ex.seg 5 (pc' := 34) (lc' := [some (.ref 34), some (.int q1.1)]) (st' := [.long (q1.2.2.1 34 10), .int q1.1, .ref 21]) (h' := q1.2) (sg1 rfl rfl (sg1 rfl rfl (sg1 rfl rfl (sg1 rfl rfl (sg1 rfl rfl rfl))))) ?_
    obtain ⟨q2, e_q2, hf⟩ := bnd hf
    refine Ex.callV (a := 21) (As := [.int q1.1, .long (q1.2.2.1 34 10)]) (r := []) (v := some (.int q2.1)) (h' := q2.2) rfl rfl (by decide) rfl (Nat.le_of_ble_eq_true rfl) rfl (E_152 (Nat.le_trans (by decide) hd) e_q2) rfl ?_
    exact Ex.weak (sm_le_n (sm_le_n sm_le_nil)) (B_10_37 hd  hf hs)
  · rw [if_pos (Classical.not_not.mp c0)] at hf
    refine Ex.seg 2 (pc' := 37) (lc' := [some (.ref 34), some (.int q1.1)]) (st' := [.int 2]) (h' := q1.2) (sg1 rfl rfl (sg1 rfl rfl rfl)) ?_
    exact Ex.weak (sm_le_n (sm_le_n sm_le_nil)) (B_10_37 hd  hf hs)
theorem E_10 {L : Nat} {xs : Nat → Int32} {d : Nat} (hd : 3 ≤ d)  {h : sm_H} {r : Int32 × sm_H} (hf : F_10  h = some r) : RUN L xs d 10 [.ref 34] h (some (.int r.1), r.2) := by
  obtain ⟨d, rfl⟩ : ∃ e, d = e + 1 := ⟨d - 1, by omega⟩
  exact ⟨Nat.le_of_ble_eq_true rfl, B_10_0 (by omega) hf rfl⟩
theorem B_11_214 {L : Nat} {xs : Nat → Int32} {d : Nat} (hd : 3 ≤ d) {res : Option Value × sm_H}   {h : sm_H} {r : (Int32 × sm_H)} (hf : F_11_214  h = some r) (hs : (fun (r : Int32 × sm_H) => res = (some (.int r.1), r.2)) r) : Ex (P_G L xs) (RUN L xs d) (sm_lk P_t11) 3 214 [none, none] [] h res := by
  unfold F_11_214 at hf
  refine Ex.seg 1 (pc' := 215) (lc' := [none, none]) (st' := [.int 0]) (h' := h) (sg1 rfl rfl rfl) ?_
  obtain rfl := Option.some.inj hf
  exact Ex.iret rfl rfl (fun _ => by decide) hs
theorem B_11_213 {L : Nat} {xs : Nat → Int32} {d : Nat} (hd : 3 ≤ d) {res : Option Value × sm_H} {z0 : Int32}  {h : sm_H} {r : (Int32 × sm_H)} (hf : F_11_213 z0 h = some r) (hs : (fun (r : Int32 × sm_H) => res = (some (.int r.1), r.2)) r) : Ex (P_G L xs) (RUN L xs d) (sm_lk P_t11) 3 213 [none, none] [.int z0] h res := by
  unfold F_11_213 at hf
  rcases Classical.em (z0 = 0 ∨ z0 = 1) with c0 | c0
  · rw [if_pos c0] at hf
    obtain rfl := Option.some.inj hf
    exact Ex.iret rfl rfl (fun _ => c0) hs
  · rw [if_neg c0] at hf
    cases hf
theorem B_11_208 {L : Nat} {xs : Nat → Int32} {d : Nat} (hd : 3 ≤ d) {res : Option Value × sm_H}   {h : sm_H} {r : (Int32 × sm_H)} (hf : F_11_208  h = some r) (hs : (fun (r : Int32 × sm_H) => res = (some (.int r.1), r.2)) r) : Ex (P_G L xs) (RUN L xs d) (sm_lk P_t11) 3 208 [none, none] [] h res := by
  unfold F_11_208 at hf
  refine Ex.seg 2 (pc' := 213) (lc' := [none, none]) (st' := [.int 1]) (h' := h) (sg1 rfl rfl (sg1 rfl rfl rfl)) ?_
  exact Ex.weak (sm_le_s (sm_le_s sm_le_nil)) (B_11_213 hd  hf hs)
theorem B_11_191 {L : Nat} {xs : Nat → Int32} {d : Nat} (hd : 3 ≤ d) {res : Option Value × sm_H} {z0 : Int32}  {h : sm_H} {r : (Int32 × sm_H)} (hf : F_11_191 z0 h = some r) (hs : (fun (r : Int32 × sm_H) => res = (some (.int r.1), r.2)) r) : Ex (P_G L xs) (RUN L xs d) (sm_lk P_t11) 3 191 [none, none] [.int z0] h res := by
  unfold F_11_191 at hf
  rcases Classical.em (z0 = 0 ∨ z0 = 1) with c0 | c0
  · rw [if_pos c0] at hf
    obtain rfl := Option.some.inj hf
    exact Ex.iret rfl rfl (fun _ => c0) hs
  · rw [if_neg c0] at hf
    cases hf
theorem B_11_186 {L : Nat} {xs : Nat → Int32} {d : Nat} (hd : 3 ≤ d) {res : Option Value × sm_H}   {h : sm_H} {r : (Int32 × sm_H)} (hf : F_11_186  h = some r) (hs : (fun (r : Int32 × sm_H) => res = (some (.int r.1), r.2)) r) : Ex (P_G L xs) (RUN L xs d) (sm_lk P_t11) 3 186 [none, none] [] h res := by
  unfold F_11_186 at hf
  refine Ex.seg 2 (pc' := 191) (lc' := [none, none]) (st' := [.int 1]) (h' := h) (sg1 rfl rfl (sg1 rfl rfl rfl)) ?_
  exact Ex.weak (sm_le_s (sm_le_s sm_le_nil)) (B_11_191 hd  hf hs)
theorem B_11_170 {L : Nat} {xs : Nat → Int32} {d : Nat} (hd : 3 ≤ d) {res : Option Value × sm_H} {z0 : Int32}  {h : sm_H} {r : (Int32 × sm_H)} (hf : F_11_170 z0 h = some r) (hs : (fun (r : Int32 × sm_H) => res = (some (.int r.1), r.2)) r) : Ex (P_G L xs) (RUN L xs d) (sm_lk P_t11) 3 170 [none, none] [.int z0] h res := by
  unfold F_11_170 at hf
  rcases Classical.em (z0 = 0 ∨ z0 = 1) with c0 | c0
  · rw [if_pos c0] at hf
    obtain rfl := Option.some.inj hf
    exact Ex.iret rfl rfl (fun _ => c0) hs
  · rw [if_neg c0] at hf
    cases hf
theorem B_11_165 {L : Nat} {xs : Nat → Int32} {d : Nat} (hd : 3 ≤ d) {res : Option Value × sm_H}   {h : sm_H} {r : (Int32 × sm_H)} (hf : F_11_165  h = some r) (hs : (fun (r : Int32 × sm_H) => res = (some (.int r.1), r.2)) r) : Ex (P_G L xs) (RUN L xs d) (sm_lk P_t11) 3 165 [none, none] [] h res := by
  unfold F_11_165 at hf
  refine Ex.seg 2 (pc' := 170) (lc' := [none, none]) (st' := [.int 1]) (h' := h) (sg1 rfl rfl (sg1 rfl rfl rfl)) ?_
  exact Ex.weak (sm_le_s (sm_le_s sm_le_nil)) (B_11_170 hd  hf hs)
theorem B_11_145 {L : Nat} {xs : Nat → Int32} {d : Nat} (hd : 3 ≤ d) {res : Option Value × sm_H} {y1 : Int32}  {h : sm_H} {r : (Int32 × sm_H)} (hf : F_11_145 y1 h = some r) (hs : (fun (r : Int32 × sm_H) => res = (some (.int r.1), r.2)) r) : Ex (P_G L xs) (RUN L xs d) (sm_lk P_t11) 3 145 [some (.ref 34), some (.int y1)] [] h res := by
  unfold F_11_145 at hf
  refine Ex.seg 2 (pc' := 149) (lc' := [some (.ref 34), some (.int y1)]) (st' := [.int (h.1 34 8)]) (h' := h) (sg1 rfl rfl (sg1 rfl rfl rfl)) ?_
  refine Ex.ifc rfl rfl (fun (c0 : (h.1 34 8) < 0) => ?_) (fun (c0 : ¬ ((h.1 34 8) < 0)) => ?_)
  · rw [if_pos c0] at hf
    exact Ex.weak (sm_le_n (sm_le_n sm_le_nil)) (B_11_165 hd  hf hs)
  · rw [if_neg c0] at hf
    refine Ex.seg 4 (pc' := 158) (lc' := [some (.ref 34), some (.int y1)]) (st' := [.ref 34, .int y1, .int (h.1 34 8)]) (h' := h) (sg1 rfl rfl (sg1 rfl rfl (sg1 rfl rfl (sg1 rfl rfl rfl)))) ?_
    obtain ⟨q1, e_q1, hf⟩ := bnd hf
    refine Ex.callV (a := 34) (As := []) (r := [.int y1, .int (h.1 34 8)]) (v := some (.int q1.1)) (h' := q1.2) rfl rfl (by decide) rfl (Nat.le_of_ble_eq_true rfl) rfl (E_12 (Nat.le_trans (by decide) hd) e_q1) rfl ?_
    refine Ex.seg 1 (pc' := 162) (lc' := [some (.ref 34), some (.int y1)]) (st' := [.int (y1 - q1.1), .int (h.1 34 8)]) (h' := q1.2) (sg1 rfl rfl rfl) ?_
    refine Ex.icmp rfl rfl (fun (c0 : (h.1 34 8) ≤ (y1 - q1.1)) => ?_) (fun (c0 : ¬ ((h.1 34 8) ≤ (y1 - q1.1))) => ?_)
    · rw [if_pos c0] at hf
      refine Ex.seg 1 (pc' := 170) (lc' := [some (.ref 34), some (.int y1)]) (st' := [.int 0]) (h' := q1.2) (sg1 rfl rfl rfl) ?_
      exact Ex.weak (sm_le_n (sm_le_n sm_le_nil)) (B_11_170 hd  hf hs)
    · rw [if_neg c0] at hf
      exact Ex.weak (sm_le_n (sm_le_n sm_le_nil)) (B_11_165 hd  hf hs)
theorem B_11_144 {L : Nat} {xs : Nat → Int32} {d : Nat} (hd : 3 ≤ d) {res : Option Value × sm_H} {z0 : Int32}  {h : sm_H} {r : (Int32 × sm_H)} (hf : F_11_144 z0 h = some r) (hs : (fun (r : Int32 × sm_H) => res = (some (.int r.1), r.2)) r) : Ex (P_G L xs) (RUN L xs d) (sm_lk P_t11) 3 144 [none, none] [.int z0] h res := by
  unfold F_11_144 at hf
  rcases Classical.em (z0 = 0 ∨ z0 = 1) with c0 | c0
  · rw [if_pos c0] at hf
    obtain rfl := Option.some.inj hf
    exact Ex.iret rfl rfl (fun _ => c0) hs
  · rw [if_neg c0] at hf
    cases hf
theorem B_11_125 {L : Nat} {xs : Nat → Int32} {d : Nat} (hd : 3 ≤ d) {res : Option Value × sm_H} {z0 : Int32}  {h : sm_H} {r : (Int32 × sm_H)} (hf : F_11_125 z0 h = some r) (hs : (fun (r : Int32 × sm_H) => res = (some (.int r.1), r.2)) r) : Ex (P_G L xs) (RUN L xs d) (sm_lk P_t11) 3 125 [none, none] [.int z0] h res := by
  unfold F_11_125 at hf
  rcases Classical.em (z0 = 0 ∨ z0 = 1) with c0 | c0
  · rw [if_pos c0] at hf
    obtain rfl := Option.some.inj hf
    exact Ex.iret rfl rfl (fun _ => c0) hs
  · rw [if_neg c0] at hf
    cases hf
theorem B_11_120 {L : Nat} {xs : Nat → Int32} {d : Nat} (hd : 3 ≤ d) {res : Option Value × sm_H}   {h : sm_H} {r : (Int32 × sm_H)} (hf : F_11_120  h = some r) (hs : (fun (r : Int32 × sm_H) => res = (some (.int r.1), r.2)) r) : Ex (P_G L xs) (RUN L xs d) (sm_lk P_t11) 3 120 [none, none] [] h res := by
  unfold F_11_120 at hf
  refine Ex.seg 2 (pc' := 125) (lc' := [none, none]) (st' := [.int 1]) (h' := h) (sg1 rfl rfl (sg1 rfl rfl rfl)) ?_
  exact Ex.weak (sm_le_s (sm_le_s sm_le_nil)) (B_11_125 hd  hf hs)
theorem B_11_104 {L : Nat} {xs : Nat → Int32} {d : Nat} (hd : 3 ≤ d) {res : Option Value × sm_H} {z0 : Int32}  {h : sm_H} {r : (Int32 × sm_H)} (hf : F_11_104 z0 h = some r) (hs : (fun (r : Int32 × sm_H) => res = (some (.int r.1), r.2)) r) : Ex (P_G L xs) (RUN L xs d) (sm_lk P_t11) 3 104 [none, none] [.int z0] h res := by
  unfold F_11_104 at hf
  rcases Classical.em (z0 = 0 ∨ z0 = 1) with c0 | c0
  · rw [if_pos c0] at hf
    obtain rfl := Option.some.inj hf
    exact Ex.iret rfl rfl (fun _ => c0) hs
  · rw [if_neg c0] at hf
    cases hf
theorem B_11_0 {L : Nat} {xs : Nat → Int32} {d : Nat} (hd : 3 ≤ d) {res : Option Value × sm_H}   {h : sm_H} {r : (Int32 × sm_H)} (hf : F_11_0  h = some r) (hs : (fun (r : Int32 × sm_H) => res = (some (.int r.1), r.2)) r) : Ex (P_G L xs) (RUN L xs d) (sm_lk P_t11) 3 0 [some (.ref 34), none] [] h res := by
  unfold F_11_0 at hf
  refine Ex.seg 4 (pc' := 8) (lc' := [some (.ref 34), none]) (st' := [.int (h.1 34 12), .ref 10]) (h' := h) (sg1 rfl rfl (sg1 rfl rfl (sg1 rfl rfl (sg1 rfl rfl rfl)))) ?_
  obtain ⟨q2, e_q2, hf⟩ := bnd hf
  refine Ex.callV (a := 10) (As := [.int (h.1 34 12)]) (r := []) (v := some (.int q2.1)) (h' := q2.2) rfl rfl (by decide) rfl (Nat.le_of_ble_eq_true rfl) rfl (E_45 (Nat.le_trans (by decide) hd) e_q2) rfl ?_
  refine Ex.seg 3 (pc' := 16) (lc' := [some (.ref 34), some (.int q2.1)]) (st' := [.int (q2.2.1 34 7)]) (h' := q2.2) (sg1 rfl rfl (sg1 rfl rfl (sg1 rfl rfl rfl))) ?_
  rcases Classical.em ((q2.2.1 34 7) = 0) with n1 | n1
  · rw [if_pos n1] at hf
    refine Ex.swt (t := 80) rfl rfl (by rw [n1]; exact Or.inr ⟨by decide, by decide, _, rfl, by decide⟩) ?_
    refine Ex.seg 6 (pc' := 92) (lc' := [some (.ref 34), some (.int q2.1)]) (st' := [.long (q2.2.2.1 34 10), .int (q2.2.1 34 8), .ref 21]) (h' := q2.2) (sg1 rfl rfl (sg1 rfl rfl (sg1 rfl rfl (sg1 rfl rfl (sg1 rfl rfl (sg1 rfl rfl rfl)))))) ?_
    obtain ⟨q3, e_q3, hf⟩ := bnd hf
    refine Ex.callV (a := 21) (As := [.int (q2.2.1 34 8), .long (q2.2.2.1 34 10)]) (r := []) (v := some (.int q3.1)) (h' := q3.2) rfl rfl (by decide) rfl (Nat.le_of_ble_eq_true rfl) rfl (E_152 (Nat.le_trans (by decide) hd) e_q3) rfl ?_
    refine Ex.seg 1 (pc' := 96) (lc' := [some (.ref 34), some (.int q2.1)]) (st' := [.int 2, .int q3.1]) (h' := q3.2) (sg1 rfl rfl rfl) ?_
    refine Ex.icmp rfl rfl (fun (c0 : ¬ (q3.1 = 2)) => ?_) (fun (c0 : ¬ ¬ (q3.1 = 2)) => ?_)
    · rw [if_neg c0] at hf
      refine Ex.seg 1 (pc' := 104) (lc' := [some (.ref 34), some (.int q2.1)]) (st' := [.int 0]) (h' := q3.2) (sg1 rfl rfl rfl) ?_
      exact Ex.weak (sm_le_n (sm_le_n sm_le_nil)) (B_11_104 hd  hf hs)
    · rw [if_pos (Classical.not_not.mp c0)] at hf
      refine Ex.seg 2 (pc' := 104) (lc' := [some (.ref 34), some (.int q2.1)]) (st' := [.int 1]) (h' := q3.2) (sg1 rfl rfl (sg1 rfl rfl rfl)) ?_
      exact Ex.weak (sm_le_n (sm_le_n sm_le_nil)) (B_11_104 hd  hf hs)
  rw [if_neg n1] at hf
  rcases Classical.em ((q2.2.1 34 7) = 4) with n2 | n2
  · rw [if_pos n2] at hf
    refine Ex.swt (t := 105) rfl rfl (by rw [n2]; exact Or.inr ⟨by decide, by decide, _, rfl, by decide⟩) ?_
    refine Ex.seg 2 (pc' := 109) (lc' := [some (.ref 34), some (.int q2.1)]) (st' := [.int (q2.2.1 34 8)]) (h' := q2.2) (sg1 rfl rfl (sg1 rfl rfl rfl)) ?_
    refine Ex.ifc rfl rfl (fun (c0 : (q2.2.1 34 8) < 0) => ?_) (fun (c0 : ¬ ((q2.2.1 34 8) < 0)) => ?_)
    · rw [if_pos c0] at hf
      exact Ex.weak (sm_le_n (sm_le_n sm_le_nil)) (B_11_120 hd  hf hs)
    · rw [if_neg c0] at hf
      refine Ex.seg 3 (pc' := 117) (lc' := [some (.ref 34), some (.int q2.1)]) (st' := [.int q2.1, .int (q2.2.1 34 8)]) (h' := q2.2) (sg1 rfl rfl (sg1 rfl rfl (sg1 rfl rfl rfl))) ?_
      refine Ex.icmp rfl rfl (fun (c0 : (q2.2.1 34 8) ≤ q2.1) => ?_) (fun (c0 : ¬ ((q2.2.1 34 8) ≤ q2.1)) => ?_)
      · rw [if_pos c0] at hf
        refine Ex.seg 1 (pc' := 125) (lc' := [some (.ref 34), some (.int q2.1)]) (st' := [.int 0]) (h' := q2.2) (sg1 rfl rfl rfl) ?_
        exact Ex.weak (sm_le_n (sm_le_n sm_le_nil)) (B_11_125 hd  hf hs)
      · rw [if_neg c0] at hf
        exact Ex.weak (sm_le_n (sm_le_n sm_le_nil)) (B_11_120 hd  hf hs)
  rw [if_neg n2] at hf
  rcases Classical.em ((q2.2.1 34 7) = 5) with n3 | n3
  · rw [if_pos n3] at hf
    refine Ex.swt (t := 126) rfl rfl (by rw [n3]; exact Or.inr ⟨by decide, by decide, _, rfl, by decide⟩) ?_
    refine Ex.seg 1 (pc' := 127) (lc' := [some (.ref 34), some (.int q2.1)]) (st' := [.ref 34]) (h' := q2.2) (sg1 rfl rfl rfl) ?_
    obtain ⟨q4, e_q4, hf⟩ := bnd hf
    refine Ex.callV (a := 34) (As := []) (r := []) (v := some (.int q4.1)) (h' := q4.2) rfl rfl (by decide) rfl (Nat.le_of_ble_eq_true rfl) rfl (E_13 (Nat.le_trans (by decide) hd) e_q4) rfl ?_
    rcases Classical.em (q4.1 = 0 ∨ q4.1 = 1) with c0 | c0
    · rw [if_pos c0] at hf
      obtain rfl := Option.some.inj hf
      exact Ex.iret rfl rfl (fun _ => c0) hs
    · rw [if_neg c0] at hf
      cases hf
  rw [if_neg n3] at hf
  rcases Classical.em ((q2.2.1 34 7) = 6) with n4 | n4
  · rw [if_pos n4] at hf
    refine Ex.swt (t := 131) rfl rfl (by rw [n4]; exact Or.inr ⟨by decide, by decide, _, rfl, by decide⟩) ?_
    refine Ex.seg 1 (pc' := 132) (lc' := [some (.ref 34), some (.int q2.1)]) (st' := [.ref 34]) (h' := q2.2) (sg1 rfl rfl rfl) ?_
    obtain ⟨q5, e_q5, hf⟩ := bnd hf
    refine Ex.callV (a := 34) (As := []) (r := []) (v := some (.int q5.1)) (h' := q5.2) rfl rfl (by decide) rfl (Nat.le_of_ble_eq_true rfl) rfl (E_10 (Nat.le_trans (by decide) hd) e_q5) rfl ?_
    refine Ex.seg 1 (pc' := 136) (lc' := [some (.ref 34), some (.int q2.1)]) (st' := [.int 2, .int q5.1]) (h' := q5.2) (sg1 rfl rfl rfl) ?_
    refine Ex.icmp rfl rfl (fun (c0 : ¬ (q5.1 = 2)) => ?_) (fun (c0 : ¬ ¬ (q5.1 = 2)) => ?_)
    · rw [if_neg c0] at hf
      refine Ex.seg 1 (pc' := 144) (lc' := [some (.ref 34), some (.int q2.1)]) (st' := [.int 0]) (h' := q5.2) (sg1 rfl rfl rfl) ?_
      exact Ex.weak (sm_le_n (sm_le_n sm_le_nil)) (B_11_144 hd  hf hs)
    · rw [if_pos (Classical.not_not.mp c0)] at hf
      refine Ex.seg 2 (pc' := 144) (lc' := [some (.ref 34), some (.int q2.1)]) (st' := [.int 1]) (h' := q5.2) (sg1 rfl rfl (sg1 rfl rfl rfl)) ?_
      exact Ex.weak (sm_le_n (sm_le_n sm_le_nil)) (B_11_144 hd  hf hs)
  rw [if_neg n4] at hf
  rcases Classical.em ((q2.2.1 34 7) = 7) with n5 | n5
  · rw [if_pos n5] at hf
    refine Ex.swt (t := 145) rfl rfl (by rw [n5]; exact Or.inr ⟨by decide, by decide, _, rfl, by decide⟩) ?_
    exact Ex.weak (sm_le_s (sm_le_s sm_le_nil)) (B_11_145 hd  hf hs)
  rw [if_neg n5] at hf
  rcases Classical.em ((q2.2.1 34 7) = 8) with n6 | n6
  · rw [if_pos n6] at hf
    refine Ex.swt (t := 145) rfl rfl (by rw [n6]; exact Or.inr ⟨by decide, by decide, _, rfl, by decide⟩) ?_
    exact Ex.weak (sm_le_s (sm_le_s sm_le_nil)) (B_11_145 hd  hf hs)
  rw [if_neg n6] at hf
  rcases Classical.em ((q2.2.1 34 7) = 10) with n7 | n7
  · rw [if_pos n7] at hf
    refine Ex.swt (t := 171) rfl rfl (by rw [n7]; exact Or.inr ⟨by decide, by decide, _, rfl, by decide⟩) ?_
    refine Ex.seg 2 (pc' := 175) (lc' := [some (.ref 34), some (.int q2.1)]) (st' := [.int (q2.2.1 34 9)]) (h' := q2.2) (sg1 rfl rfl (sg1 rfl rfl rfl)) ?_
    refine Ex.ifc rfl rfl (fun (c0 : (q2.2.1 34 9) < 0) => ?_) (fun (c0 : ¬ ((q2.2.1 34 9) < 0)) => ?_)
    · rw [if_pos c0] at hf
      exact Ex.weak (sm_le_n (sm_le_n sm_le_nil)) (B_11_186 hd  hf hs)
    · rw [if_neg c0] at hf
      refine Ex.seg 3 (pc' := 183) (lc' := [some (.ref 34), some (.int q2.1)]) (st' := [.int q2.1, .int (q2.2.1 34 9)]) (h' := q2.2) (sg1 rfl rfl (sg1 rfl rfl (sg1 rfl rfl rfl))) ?_
      refine Ex.icmp rfl rfl (fun (c0 : (q2.2.1 34 9) ≤ q2.1) => ?_) (fun (c0 : ¬ ((q2.2.1 34 9) ≤ q2.1)) => ?_)
      · rw [if_pos c0] at hf
        refine Ex.seg 1 (pc' := 191) (lc' := [some (.ref 34), some (.int q2.1)]) (st' := [.int 0]) (h' := q2.2) (sg1 rfl rfl rfl) ?_
        exact Ex.weak (sm_le_n (sm_le_n sm_le_nil)) (B_11_191 hd  hf hs)
      · rw [if_neg c0] at hf
        exact Ex.weak (sm_le_n (sm_le_n sm_le_nil)) (B_11_186 hd  hf hs)
  rw [if_neg n7] at hf
  rcases Classical.em ((q2.2.1 34 7) = 11) with n8 | n8
  · rw [if_pos n8] at hf
    refine Ex.swt (t := 192) rfl rfl (by rw [n8]; exact Or.inr ⟨by decide, by decide, _, rfl, by decide⟩) ?_
    refine Ex.seg 2 (pc' := 196) (lc' := [some (.ref 34), some (.int q2.1)]) (st' := [.int (q2.2.1 34 9)]) (h' := q2.2) (sg1 rfl rfl (sg1 rfl rfl rfl)) ?_
    refine Ex.ifc rfl rfl (fun (c0 : (q2.2.1 34 9) < 0) => ?_) (fun (c0 : ¬ ((q2.2.1 34 9) < 0)) => ?_)
    · rw [if_pos c0] at hf
      exact Ex.weak (sm_le_n (sm_le_n sm_le_nil)) (B_11_208 hd  hf hs)
    · rw [if_neg c0] at hf
      refine Ex.seg 3 (pc' := 205) (lc' := [some (.ref 34), some (.int q2.1)]) (st' := [.int 10, .int (q2.2.1 34 9)]) (h' := q2.2) (sg1 rfl rfl (sg1 rfl rfl (sg1 rfl rfl rfl))) ?_
      refine Ex.icmp rfl rfl (fun (c0 : (q2.2.1 34 9) ≤ 10) => ?_) (fun (c0 : ¬ ((q2.2.1 34 9) ≤ 10)) => ?_)
      · rw [if_pos c0] at hf
        refine Ex.seg 1 (pc' := 213) (lc' := [some (.ref 34), some (.int q2.1)]) (st' := [.int 0]) (h' := q2.2) (sg1 rfl rfl rfl) ?_
        exact Ex.weak (sm_le_n (sm_le_n sm_le_nil)) (B_11_213 hd  hf hs)
      · rw [if_neg c0] at hf
        exact Ex.weak (sm_le_n (sm_le_n sm_le_nil)) (B_11_208 hd  hf hs)
  rw [if_neg n8] at hf
  refine Ex.swt (t := 214) rfl rfl (sw_dflt (by decide) (by decide) (fun k hk he => ?_)) ?_
  · have hk : k < 12 := hk
    rcases (show k = 0 ∨ k = 1 ∨ k = 2 ∨ k = 3 ∨ k = 4 ∨ k = 5 ∨ k = 6 ∨ k = 7 ∨ k = 8 ∨ k = 9 ∨ k = 10 ∨ k = 11 by omega) with rfl | rfl | rfl | rfl | rfl | rfl | rfl | rfl | rfl | rfl | rfl | rfl
    · exact absurd (Int32.toInt_inj.mp (he.symm.trans (by decide : (_ : Int) = Int32.toInt 0))) n1
    · rfl
    · rfl
    · rfl
    · exact absurd (Int32.toInt_inj.mp (he.symm.trans (by decide : (_ : Int) = Int32.toInt 4))) n2
    · exact absurd (Int32.toInt_inj.mp (he.symm.trans (by decide : (_ : Int) = Int32.toInt 5))) n3
    · exact absurd (Int32.toInt_inj.mp (he.symm.trans (by decide : (_ : Int) = Int32.toInt 6))) n4
    · exact absurd (Int32.toInt_inj.mp (he.symm.trans (by decide : (_ : Int) = Int32.toInt 7))) n5
    · exact absurd (Int32.toInt_inj.mp (he.symm.trans (by decide : (_ : Int) = Int32.toInt 8))) n6
    · rfl
    · exact absurd (Int32.toInt_inj.mp (he.symm.trans (by decide : (_ : Int) = Int32.toInt 10))) n7
    · exact absurd (Int32.toInt_inj.mp (he.symm.trans (by decide : (_ : Int) = Int32.toInt 11))) n8
  exact Ex.weak (sm_le_n (sm_le_n sm_le_nil)) (B_11_214 hd  hf hs)
theorem E_11 {L : Nat} {xs : Nat → Int32} {d : Nat} (hd : 4 ≤ d)  {h : sm_H} {r : Int32 × sm_H} (hf : F_11  h = some r) : RUN L xs d 11 [.ref 34] h (some (.int r.1), r.2) := by
  obtain ⟨d, rfl⟩ : ∃ e, d = e + 1 := ⟨d - 1, by omega⟩
  exact ⟨Nat.le_of_ble_eq_true rfl, B_11_0 (by omega) hf rfl⟩
