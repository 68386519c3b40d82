theorem B_355_91 {L : Nat} {xs : Nat → Int32} {d : Nat} (hd : 3 ≤ d) {res : Option Value × sm_H}   {h : sm_H} {r : (sm_H)} (hf : F_355_91  h = some r) (hs : (fun (r : sm_H) => res = (none, r)) r) : Ex (P_G L xs) (RUN L xs d) (sm_lk P_t355) 0 91 [none, none, none, none, none, none, none, none, none] [] h res := by
  unfold F_355_91 at hf
  obtain rfl := Option.some.inj hf
  exact Ex.vret rfl rfl hs
theorem B_355_88 {L : Nat} {xs : Nat → Int32} {d : Nat} (hd : 3 ≤ d) {res : Option Value × sm_H} {z1 : Int32} {z2 : Int64}  {h : sm_H} {r : (sm_H)} (hf : F_355_88 z1 z2 h = some r) (hs : (fun (r : sm_H) => res = (none, r)) r) : Ex (P_G L xs) (RUN L xs d) (sm_lk P_t355) 0 88 [none, none, none, none, none, none, none, none, none] [.long z2, .int z1, .ref 67] h res := by
  unfold F_355_88 at hf
  obtain ⟨q1, e_q1, hf⟩ := bnd hf
  refine Ex.callV (a := 67) (As := [.int z1, .long z2]) (r := []) (v := none) (h' := q1) rfl rfl (by decide) rfl (Nat.le_of_ble_eq_true rfl) rfl (E_345 (Nat.le_trans (by decide) hd) e_q1) rfl ?_
  exact Ex.weak (sm_le_s (sm_le_s (sm_le_s (sm_le_s (sm_le_s (sm_le_s (sm_le_s (sm_le_s (sm_le_s sm_le_nil))))))))) (B_355_91 hd  hf hs)
theorem B_355_48 {L : Nat} {xs : Nat → Int32} {d : Nat} (hd : 3 ≤ d) {res : Option Value × sm_H} {y1 : Int32} {y2 : Int32} {y3 : Int64} {y5 : Int64} {z0 : Int32} {z1 : Int32}  {h : sm_H} {r : (sm_H)} (hf : F_355_48 y1 y2 y3 y5 z0 z1 h = some r) (hs : (fun (r : sm_H) => res = (none, r)) r) : Ex (P_G L xs) (RUN L xs d) (sm_lk P_t355) 0 48 [some (.ref 67), some (.int y1), some (.int y2), some (.long y3), none, some (.long y5), none, none, none] [.int z1, .int z0] h res := by
  unfold F_355_48 at hf
  refine Ex.seg 2 (pc' := 51) (lc' := [some (.ref 67), some (.int y1), some (.int y2), some (.long y3), none, some (.long y5), none, none, none]) (st' := [.long y5, .long y3, .int z1, .int z0]) (h' := h) (sg1 rfl rfl (sg1 rfl rfl rfl)) ?_
  obtain ⟨q2, e_q2, hf⟩ := bnd hf
  refine Ex.callS (As := [.int z0, .int z1, .long y3, .long y5]) (r := []) (v := some (.long q2.1)) (h' := q2.2) rfl rfl rfl rfl (Nat.le_of_ble_eq_true rfl) (E_354 (Nat.le_trans (by decide) hd) e_q2) rfl ?_
  refine Ex.seg 3 (pc' := 59) (lc' := [some (.ref 67), some (.int y1), some (.int y2), some (.long y3), none, some (.long y5), none, some (.long q2.1), none]) (st' := [.int 10, .int y1]) (h' := q2.2) (sg1 rfl rfl (sg1 rfl rfl (sg1 rfl rfl rfl))) ?_
  refine Ex.icmp rfl rfl (fun (c0 : y1 ≤ 10) => ?_) (fun (c0 : ¬ (y1 ≤ 10)) => ?_)
  · rw [if_pos c0] at hf
    refine Ex.seg 4 (pc' := 76) (lc' := [some (.ref 67), some (.int y1), some (.int y2), some (.long y3), none, some (.long y5), none, some (.long q2.1), none]) (st' := [.int 5, .int y2, .int y2, .ref 67]) (h' := q2.2) (sg1 rfl rfl (sg1 rfl rfl (sg1 rfl rfl (sg1 rfl rfl rfl)))) ?_
    refine Ex.icmp rfl rfl (fun (c0 : ¬ (y2 = 5)) => ?_) (fun (c0 : ¬ ¬ (y2 = 5)) => ?_)
    · rw [if_neg c0] at hf
      refine Ex.seg 1 (pc' := 88) (lc' := [some (.ref 67), some (.int y1), some (.int y2), some (.long y3), none, some (.long y5), none, some (.long q2.1), none]) (st' := [.long q2.1, .int y2, .ref 67]) (h' := q2.2) (sg1 rfl rfl rfl) ?_
      exact Ex.weak (sm_le_n (sm_le_n (sm_le_n (sm_le_n (sm_le_s (sm_le_n (sm_le_s (sm_le_n (sm_le_s sm_le_nil))))))))) (B_355_88 hd  hf hs)
    · rw [if_pos (Classical.not_not.mp c0)] at hf
      refine Ex.seg 4 (pc' := 88) (lc' := [some (.ref 67), some (.int y1), some (.int y2), some (.long y3), none, some (.long y5), none, some (.long q2.1), none]) (st' := [.long (Int32.toInt64 (Int64.toInt32 q2.1)), .int y2, .ref 67]) (h' := q2.2) (sg1 rfl rfl (sg1 rfl rfl (sg1 rfl rfl (sg1 rfl rfl rfl)))) ?_
      exact Ex.weak (sm_le_n (sm_le_n (sm_le_n (sm_le_n (sm_le_s (sm_le_n (sm_le_s (sm_le_n (sm_le_s sm_le_nil))))))))) (B_355_88 hd  hf hs)
  · rw [if_neg c0] at hf
    refine Ex.seg 3 (pc' := 66) (lc' := [some (.ref 67), some (.int y1), some (.int y2), some (.long y3), none, some (.long y5), none, some (.long q2.1), none]) (st' := [.long q2.1, .int 1, .ref 67]) (h' := q2.2) (sg1 rfl rfl (sg1 rfl rfl (sg1 rfl rfl rfl))) ?_
    obtain ⟨q3, e_q3, hf⟩ := bnd hf
    refine Ex.callV (a := 67) (As := [.int 1, .long q2.1]) (r := []) (v := none) (h' := q3) rfl rfl (by decide) rfl (Nat.le_of_ble_eq_true rfl) rfl (E_345 (Nat.le_trans (by decide) hd) e_q3) rfl ?_
    refine Ex.seg 1 (pc' := 91) (lc' := [some (.ref 67), some (.int y1), some (.int y2), some (.long y3), none, some (.long y5), none, some (.long q2.1), none]) (st' := []) (h' := q3) (sg1 rfl rfl rfl) ?_
    exact Ex.weak (sm_le_n (sm_le_n (sm_le_n (sm_le_n (sm_le_s (sm_le_n (sm_le_s (sm_le_n (sm_le_s sm_le_nil))))))))) (B_355_91 hd  hf hs)
theorem B_355_36 {L : Nat} {xs : Nat → Int32} {d : Nat} (hd : 3 ≤ d) {res : Option Value × sm_H} {y1 : Int32} {y2 : Int32} {y3 : Int64} {y5 : Int64}  {h : sm_H} {r : (sm_H)} (hf : F_355_36 y1 y2 y3 y5 h = some r) (hs : (fun (r : sm_H) => res = (none, r)) r) : Ex (P_G L xs) (RUN L xs d) (sm_lk P_t355) 0 36 [some (.ref 67), some (.int y1), some (.int y2), some (.long y3), none, some (.long y5), none, none, none] [] h res := by
  unfold F_355_36 at hf
  refine Ex.seg 3 (pc' := 40) (lc' := [some (.ref 67), some (.int y1), some (.int y2), some (.long y3), none, some (.long y5), none, none, none]) (st' := [.int 6, .int y2, .int y1]) (h' := h) (sg1 rfl rfl (sg1 rfl rfl (sg1 rfl rfl rfl))) ?_
  refine Ex.icmp rfl rfl (fun (c0 : ¬ (y2 = 6)) => ?_) (fun (c0 : ¬ ¬ (y2 = 6)) => ?_)
  · rw [if_neg c0] at hf
    refine Ex.seg 1 (pc' := 48) (lc' := [some (.ref 67), some (.int y1), some (.int y2), some (.long y3), none, some (.long y5), none, none, none]) (st' := [.int 0, .int y1]) (h' := h) (sg1 rfl rfl rfl) ?_
    exact Ex.weak (sm_le_s (sm_le_s (sm_le_s (sm_le_s (sm_le_s (sm_le_s (sm_le_s (sm_le_s (sm_le_s sm_le_nil))))))))) (B_355_48 hd  hf hs)
  · rw [if_pos (Classical.not_not.mp c0)] at hf
    refine Ex.seg 2 (pc' := 48) (lc' := [some (.ref 67), some (.int y1), some (.int y2), some (.long y3), none, some (.long y5), none, none, none]) (st' := [.int 1, .int y1]) (h' := h) (sg1 rfl rfl (sg1 rfl rfl rfl)) ?_
    exact Ex.weak (sm_le_s (sm_le_s (sm_le_s (sm_le_s (sm_le_s (sm_le_s (sm_le_s (sm_le_s (sm_le_s sm_le_nil))))))))) (B_355_48 hd  hf hs)
theorem B_355_30 {L : Nat} {xs : Nat → Int32} {d : Nat} (hd : 3 ≤ d) {res : Option Value × sm_H}   {h : sm_H} {r : (sm_H)} (hf : F_355_30  h = some r) (hs : (fun (r : sm_H) => res = (none, r)) r) : Ex (P_G L xs) (RUN L xs d) (sm_lk P_t355) 0 30 [some (.ref 67), none, none, none, none, none, none, none, none] [] h res := by
  unfold F_355_30 at hf
  refine Ex.seg 2 (pc' := 32) (lc' := [some (.ref 67), none, none, none, none, none, none, none, none]) (st' := [.int 3, .ref 67]) (h' := h) (sg1 rfl rfl (sg1 rfl rfl rfl)) ?_
  obtain ⟨q4, e_q4, hf⟩ := bnd hf
  refine Ex.callV (a := 67) (As := [.int 3]) (r := []) (v := none) (h' := q4) rfl rfl (by decide) rfl (Nat.le_of_ble_eq_true rfl) rfl (E_348 (Nat.le_trans (by decide) hd) e_q4) rfl ?_
  obtain rfl := Option.some.inj hf
  exact Ex.vret rfl rfl hs
theorem B_355_0 {L : Nat} {xs : Nat → Int32} {d : Nat} (hd : 3 ≤ d) {res : Option Value × sm_H} {x1 : Int32} {x2 : Int32}  {h : sm_H} {r : (sm_H)} (hf : F_355_0 x1 x2 h = some r) (hs : (fun (r : sm_H) => res = (none, r)) r) : Ex (P_G L xs) (RUN L xs d) (sm_lk P_t355) 0 0 [some (.ref 67), some (.int x1), some (.int x2), none, none, none, none, none, none] [] h res := by
  unfold F_355_0 at hf
  refine Ex.seg 2 (pc' := 2) (lc' := [some (.ref 67), some (.int x1), some (.int x2), none, none, none, none, none, none]) (st' := [.int 0, .ref 67]) (h' := h) (sg1 rfl rfl (sg1 rfl rfl rfl)) ?_
  obtain ⟨q5, e_q5, hf⟩ := bnd hf
  refine Ex.callV (a := 67) (As := [.int 0]) (r := []) (v := some (.long q5.1)) (h' := q5.2) rfl rfl (by decide) rfl (Nat.le_of_ble_eq_true rfl) rfl (E_352 (Nat.le_trans (by decide) hd) e_q5) rfl ?_
  refine Ex.seg 3 (pc' := 8) (lc' := [some (.ref 67), some (.int x1), some (.int x2), some (.long q5.1), none, none, none, none, none]) (st' := [.int 1, .ref 67]) (h' := q5.2) (sg1 rfl rfl (sg1 rfl rfl (sg1 rfl rfl rfl))) ?_
  obtain ⟨q6, e_q6, hf⟩ := bnd hf
  refine Ex.callV (a := 67) (As := [.int 1]) (r := []) (v := some (.long q6.1)) (h' := q6.2) rfl rfl (by decide) rfl (Nat.le_of_ble_eq_true rfl) rfl (E_352 (Nat.le_trans (by decide) hd) e_q6) rfl ?_
  refine Ex.seg 4 (pc' := 17) (lc' := [some (.ref 67), some (.int x1), some (.int x2), some (.long q5.1), none, some (.long q6.1), none, none, none]) (st' := [.int (lg_cmp q6.1 0)]) (h' := q6.2) (sg1 rfl rfl (sg1 rfl rfl (sg1 rfl rfl (sg1 rfl rfl rfl)))) ?_
  refine Ex.ifc rfl rfl (fun (c0 : ¬ ((lg_cmp q6.1 0) = 0)) => ?_) (fun (c0 : ¬ ¬ ((lg_cmp q6.1 0) = 0)) => ?_)
  · rw [if_neg c0] at hf
    exact Ex.weak (sm_le_s (sm_le_s (sm_le_s (sm_le_s (sm_le_s (sm_le_s (sm_le_s (sm_le_s (sm_le_s sm_le_nil))))))))) (B_355_36 hd  hf hs)
  · rw [if_pos (Classical.not_not.mp c0)] at hf
    refine Ex.seg 2 (pc' := 22) (lc' := [some (.ref 67), some (.int x1), some (.int x2), some (.long q5.1), none, some (.long q6.1), none, none, none]) (st' := [.int 3, .int x1]) (h' := q6.2) (sg1 rfl rfl (sg1 rfl rfl rfl)) ?_
    refine Ex.icmp rfl rfl (fun (c0 : x1 = 3) => ?_) (fun (c0 : ¬ (x1 = 3)) => ?_)
    · rw [if_pos c0] at hf
      exact Ex.weak (sm_le_s (sm_le_n (sm_le_n (sm_le_n (sm_le_s (sm_le_n (sm_le_s (sm_le_s (sm_le_s sm_le_nil))))))))) (B_355_30 hd  hf hs)
    · rw [if_neg c0] at hf
      refine Ex.seg 2 (pc' := 27) (lc' := [some (.ref 67), some (.int x1), some (.int x2), some (.long q5.1), none, some (.long q6.1), none, none, none]) (st' := [.int 4, .int x1]) (h' := q6.2) (sg1 rfl rfl (sg1 rfl rfl rfl)) ?_
      refine Ex.icmp rfl rfl (fun (c0 : ¬ (x1 = 4)) => ?_) (fun (c0 : ¬ ¬ (x1 = 4)) => ?_)
      · rw [if_neg c0] at hf
        exact Ex.weak (sm_le_s (sm_le_s (sm_le_s (sm_le_s (sm_le_s (sm_le_s (sm_le_s (sm_le_s (sm_le_s sm_le_nil))))))))) (B_355_36 hd  hf hs)
      · rw [if_pos (Classical.not_not.mp c0)] at hf
        exact Ex.weak (sm_le_s (sm_le_n (sm_le_n (sm_le_n (sm_le_s (sm_le_n (sm_le_s (sm_le_s (sm_le_s sm_le_nil))))))))) (B_355_30 hd  hf hs)
theorem E_355 {L : Nat} {xs : Nat → Int32} {d : Nat} (hd : 4 ≤ d) {x1 : Int32} {x2 : Int32} {h : sm_H} {r : sm_H} (hf : F_355 x1 x2 h = some r) : RUN L xs d 355 [.ref 67, .int x1, .int x2] h (none, r) := by
  obtain ⟨d, rfl⟩ : ∃ e, d = e + 1 := ⟨d - 1, by omega⟩
  exact ⟨Nat.le_of_ble_eq_true rfl, B_355_0 (by omega) hf rfl⟩
theorem B_356_19B {L : Nat} {xs : Nat → Int32} {d : Nat} (hd : 3 ≤ d) {res : Option Value × sm_H} {S1 : (Int32 × Int32 × Int32 × Int32 × Int32 × sm_H) → Prop} (hS1 : ∀ s, S1 s → Ex (P_G L xs) (RUN L xs d) (sm_lk P_t356) 3 19 [some (.ref 67), some (.int s.1), some (.int s.2.1), some (.int s.2.2.1), none, some (.int s.2.2.2.1), some (.int s.2.2.2.2.1), none] [] s.2.2.2.2.2 res) {s : (Int32 × Int32 × Int32 × Int32 × Int32 × sm_H)}  {r : ((Int32 × Int32 × Int32 × Int32 × Int32 × sm_H) ⊕ (Int32 × sm_H))} (hf : F_356_19B s = some r) (hs : (Sum.elim S1 (fun (r : Int32 × sm_H) => res = (some (.int r.1), r.2))) r) : Ex (P_G L xs) (RUN L xs d) (sm_lk P_t356) 3 19 [some (.ref 67), some (.int s.1), some (.int s.2.1), some (.int s.2.2.1), none, some (.int s.2.2.2.1), some (.int s.2.2.2.2.1), none] [] s.2.2.2.2.2 res := by
  unfold F_356_19B at hf
  refine Ex.seg 3 (pc' := 23) (lc' := [some (.ref 67), some (.int s.1), some (.int s.2.1), some (.int s.2.2.1), none, some (.int s.2.2.2.1), some (.int s.2.2.2.2.1), none]) (st' := [.int s.1, .ref 67, .int s.2.2.2.2.1]) (h' := s.2.2.2.2.2) (sg1 rfl rfl (sg1 rfl rfl (sg1 rfl rfl rfl))) ?_
  obtain ⟨q1, e_q1, hf⟩ := bnd hf
  refine Ex.callV (a := 67) (As := [.int s.1]) (r := [.int s.2.2.2.2.1]) (v := some (.int q1.1)) (h' := q1.2) rfl rfl (by decide) rfl (Nat.le_of_ble_eq_true rfl) rfl (E_305 (Nat.le_trans (by decide) hd) e_q1) rfl ?_
  refine Ex.icmp rfl rfl (fun (c0 : q1.1 ≤ s.2.2.2.2.1) => ?_) (fun (c0 : ¬ (q1.1 ≤ s.2.2.2.2.1)) => ?_)
  · rw [if_pos c0] at hf
    refine Ex.seg 1 (pc' := 107) (lc' := [some (.ref 67), some (.int s.1), some (.int s.2.1), some (.int s.2.2.1), none, some (.int s.2.2.2.1), some (.int s.2.2.2.2.1), none]) (st' := [.int 1]) (h' := q1.2) (sg1 rfl rfl rfl) ?_
    obtain rfl := Option.some.inj hf
    exact Ex.iret rfl rfl (fun _ => by decide) hs
  · rw [if_neg c0] at hf
    refine Ex.seg 8 (pc' := 41) (lc' := [some (.ref 67), some (.int s.1), some (.int s.2.1), some (.int s.2.2.1), none, some (.int s.2.2.2.1), some (.int s.2.2.2.2.1), none]) (st' := [.int ((10 * s.2.1) + s.2.2.2.2.1), .ref 74, .ref 67]) (h' := q1.2) (sg1 rfl rfl (sg1 rfl rfl (sg1 rfl rfl (sg1 rfl rfl (sg1 rfl rfl (sg1 rfl rfl (sg1 rfl rfl (sg1 rfl rfl rfl)))))))) ?_
    obtain ⟨v2, e_v2, hf⟩ := bnd hf
    refine Ex.iald e_v2 rfl rfl ?_
    refine Ex.seg 3 (pc' := 46) (lc' := [some (.ref 67), some (.int s.1), some (.int s.2.1), some (.int s.2.2.1), none, some (.int s.2.2.2.1), some (.int s.2.2.2.2.1), none]) (st' := [.int s.2.2.2.2.1, .int s.1, .ref 67, .int v2, .ref 67]) (h' := q1.2) (sg1 rfl rfl (sg1 rfl rfl (sg1 rfl rfl rfl))) ?_
    obtain ⟨q3, e_q3, hf⟩ := bnd hf
    refine Ex.callV (a := 67) (As := [.int s.1, .int s.2.2.2.2.1]) (r := [.int v2, .ref 67]) (v := some (.int q3.1)) (h' := q3.2) rfl rfl (by decide) rfl (Nat.le_of_ble_eq_true rfl) rfl (E_306 (Nat.le_trans (by decide) hd) e_q3) rfl ?_
    refine Ex.seg 5 (pc' := 58) (lc' := [some (.ref 67), some (.int s.1), some (.int s.2.1), some (.int s.2.2.1), none, some (.int s.2.2.2.1), some (.int s.2.2.2.2.1), none]) (st' := [.int (s.2.2.2.1 + s.2.2.2.2.1), .ref 108, .int q3.1, .int v2, .ref 67]) (h' := q3.2) (sg1 rfl rfl (sg1 rfl rfl (sg1 rfl rfl (sg1 rfl rfl (sg1 rfl rfl rfl))))) ?_
    obtain ⟨v4, e_v4, hf⟩ := bnd hf
    refine Ex.iald e_v4 rfl rfl ?_
    refine Ex.seg 5 (pc' := 68) (lc' := [some (.ref 67), some (.int s.1), some (.int s.2.1), some (.int s.2.2.1), none, some (.int s.2.2.2.1), some (.int s.2.2.2.2.1), none]) (st' := [.int (s.2.2.2.1 + s.2.2.2.2.1), .ref 109, .int v4, .int q3.1, .int v2, .ref 67]) (h' := q3.2) (sg1 rfl rfl (sg1 rfl rfl (sg1 rfl rfl (sg1 rfl rfl (sg1 rfl rfl rfl))))) ?_
    obtain ⟨v5, e_v5, hf⟩ := bnd hf
    refine Ex.lald e_v5 rfl rfl ?_
    refine Ex.seg 1 (pc' := 70) (lc' := [some (.ref 67), some (.int s.1), some (.int s.2.1), some (.int s.2.2.1), none, some (.int s.2.2.2.1), some (.int s.2.2.2.2.1), none]) (st' := [.int s.2.2.1, .long v5, .int v4, .int q3.1, .int v2, .ref 67]) (h' := q3.2) (sg1 rfl rfl rfl) ?_
    obtain ⟨q6, e_q6, hf⟩ := bnd hf
    refine Ex.callV (a := 67) (As := [.int v2, .int q3.1, .int v4, .long v5, .int s.2.2.1]) (r := []) (v := some (.int q6.1)) (h' := q6.2) rfl rfl (by decide) rfl (Nat.le_of_ble_eq_true rfl) rfl (E_300 (Nat.le_trans (by decide) hd) e_q6) rfl ?_
    refine Ex.seg 2 (pc' := 77) (lc' := [some (.ref 67), some (.int s.1), some (.int s.2.1), some (.int s.2.2.1), none, some (.int s.2.2.2.1), some (.int s.2.2.2.2.1), some (.int q6.1)]) (st' := [.int q6.1]) (h' := q6.2) (sg1 rfl rfl (sg1 rfl rfl rfl)) ?_
    refine Ex.ifc rfl rfl (fun (c0 : q6.1 = 0) => ?_) (fun (c0 : ¬ (q6.1 = 0)) => ?_)
    · rw [if_pos c0] at hf
      refine Ex.seg 5 (pc' := 97) (lc' := [some (.ref 67), some (.int s.1), some (.int s.2.1), some (.int s.2.2.1), none, some (.int s.2.2.2.1), some (.int s.2.2.2.2.1), some (.int q6.1)]) (st' := [.long (q6.2.2.1 67 49), .int (q6.2.1 67 48), .ref 67]) (h' := q6.2) (sg1 rfl rfl (sg1 rfl rfl (sg1 rfl rfl (sg1 rfl rfl (sg1 rfl rfl rfl))))) ?_
      obtain ⟨q7, e_q7, hf⟩ := bnd hf
      refine Ex.callV (a := 67) (As := [.int (q6.2.1 67 48), .long (q6.2.2.1 67 49)]) (r := []) (v := none) (h' := q7) rfl rfl (by decide) rfl (Nat.le_of_ble_eq_true rfl) rfl (E_342 (Nat.le_trans (by decide) hd) e_q7) rfl ?_
      refine Ex.seg 1 (pc' := 103) (lc' := [some (.ref 67), some (.int s.1), some (.int s.2.1), some (.int s.2.2.1), none, some (.int s.2.2.2.1), some (.int (s.2.2.2.2.1 + 1)), some (.int q6.1)]) (st' := []) (h' := q7) (sg1 rfl rfl rfl) ?_
      obtain ⟨v8, e_v8, hf⟩ := bnd hf
      rw [Option.some.inj e_v8]
      refine Ex.seg 1 (pc' := 19) (lc' := [some (.ref 67), some (.int s.1), some (.int s.2.1), some (.int s.2.2.1), none, some (.int s.2.2.2.1), some (.int v8), some (.int q6.1)]) (st' := []) (h' := q7) (sg1 rfl rfl rfl) ?_
      obtain rfl := Option.some.inj hf
      exact Ex.weak (sm_le_s (sm_le_s (sm_le_s (sm_le_s (sm_le_s (sm_le_s (sm_le_s (sm_le_n sm_le_nil)))))))) (hS1 _ hs)
    · rw [if_neg c0] at hf
      refine Ex.seg 2 (pc' := 83) (lc' := [some (.ref 67), some (.int s.1), some (.int s.2.1), some (.int s.2.2.1), none, some (.int s.2.2.2.1), some (.int s.2.2.2.2.1), some (.int q6.1)]) (st' := [.int q6.1, .ref 67]) (h' := q6.2) (sg1 rfl rfl (sg1 rfl rfl rfl)) ?_
      obtain ⟨q9, e_q9, hf⟩ := bnd hf
      refine Ex.callV (a := 67) (As := [.int q6.1]) (r := []) (v := none) (h' := q9) rfl rfl (by decide) rfl (Nat.le_of_ble_eq_true rfl) rfl (E_348 (Nat.le_trans (by decide) hd) e_q9) rfl ?_
      refine Ex.seg 1 (pc' := 87) (lc' := [some (.ref 67), some (.int s.1), some (.int s.2.1), some (.int s.2.2.1), none, some (.int s.2.2.2.1), some (.int s.2.2.2.2.1), some (.int q6.1)]) (st' := [.int 0]) (h' := q9) (sg1 rfl rfl rfl) ?_
      obtain rfl := Option.some.inj hf
      exact Ex.iret rfl rfl (fun _ => by decide) hs
theorem B_356_19 {L : Nat} {xs : Nat → Int32} {d : Nat} (hd : 3 ≤ d) {res : Option Value × sm_H} {y1 : Int32} {y2 : Int32} {y3 : Int32} {y5 : Int32} {y6 : Int32}  {h : sm_H} {r : (Int32 × sm_H)} (hf : F_356_19 y1 y2 y3 y5 y6 h = some r) (hs : (fun (r : Int32 × sm_H) => res = (some (.int r.1), r.2)) r) : Ex (P_G L xs) (RUN L xs d) (sm_lk P_t356) 3 19 [some (.ref 67), some (.int y1), some (.int y2), some (.int y3), none, some (.int y5), some (.int y6), none] [] h res := by
  unfold F_356_19 at hf
  exact lp_ok (P := fun (s : (Int32 × Int32 × Int32 × Int32 × Int32 × sm_H)) => Ex (P_G L xs) (RUN L xs d) (sm_lk P_t356) 3 19 [some (.ref 67), some (.int s.1), some (.int s.2.1), some (.int s.2.2.1), none, some (.int s.2.2.2.1), some (.int s.2.2.2.2.1), none] [] s.2.2.2.2.2 res) (S := (fun (r : Int32 × sm_H) => res = (some (.int r.1), r.2))) (fun s x hx hsx => by
    intros
    exact B_356_19B hd  (fun _ q => q) hx hsx) 1000000 _ r hf hs
theorem B_356_0 {L : Nat} {xs : Nat → Int32} {d : Nat} (hd : 3 ≤ d) {res : Option Value × sm_H} {x1 : Int32} {x2 : Int32} {x3 : Int32} {x4 : Int32}  {h : sm_H} {r : (Int32 × sm_H)} (hf : F_356_0 x1 x2 x3 x4 h = some r) (hs : (fun (r : Int32 × sm_H) => res = (some (.int r.1), r.2)) r) : Ex (P_G L xs) (RUN L xs d) (sm_lk P_t356) 3 0 [some (.ref 67), some (.int x1), some (.int x2), some (.int x3), some (.int x4), none, none, none] [] h res := by
  unfold F_356_0 at hf
  refine Ex.seg 6 (pc' := 10) (lc' := [some (.ref 67), some (.int x1), some (.int x2), some (.int x3), some (.int x4), none, none, none]) (st' := [.int ((h.1 67 56) - 1), .ref 105]) (h' := h) (sg1 rfl rfl (sg1 rfl rfl (sg1 rfl rfl (sg1 rfl rfl (sg1 rfl rfl (sg1 rfl rfl rfl)))))) ?_
  obtain ⟨v10, e_v10, hf⟩ := bnd hf
  refine Ex.iald e_v10 rfl rfl ?_
  refine Ex.seg 3 (pc' := 16) (lc' := [some (.ref 67), some (.int x1), some (.int x2), some (.int x3), some (.int x4), some (.int (v10 + x4)), none, none]) (st' := []) (h' := h) (sg1 rfl rfl (sg1 rfl rfl (sg1 rfl rfl rfl))) ?_
  obtain ⟨v11, e_v11, hf⟩ := bnd hf
  rw [Option.some.inj e_v11]
  refine Ex.seg 2 (pc' := 19) (lc' := [some (.ref 67), some (.int x1), some (.int x2), some (.int x3), some (.int x4), some (.int v11), some (.int 0), none]) (st' := []) (h' := h) (sg1 rfl rfl (sg1 rfl rfl rfl)) ?_
  exact Ex.weak (sm_le_s (sm_le_s (sm_le_s (sm_le_s (sm_le_n (sm_le_s (sm_le_s (sm_le_s sm_le_nil)))))))) (B_356_19 hd  hf hs)
theorem E_356 {L : Nat} {xs : Nat → Int32} {d : Nat} (hd : 4 ≤ d) {x1 : Int32} {x2 : Int32} {x3 : Int32} {x4 : Int32} {h : sm_H} {r : Int32 × sm_H} (hf : F_356 x1 x2 x3 x4 h = some r) : RUN L xs d 356 [.ref 67, .int x1, .int x2, .int x3, .int x4] h (some (.int r.1), r.2) := by
  obtain ⟨d, rfl⟩ : ∃ e, d = e + 1 := ⟨d - 1, by omega⟩
  exact ⟨Nat.le_of_ble_eq_true rfl, B_356_0 (by omega) hf rfl⟩
theorem B_357_18 {L : Nat} {xs : Nat → Int32} {d : Nat} (hd : 0 ≤ d) {res : Option Value × sm_H}   {h : sm_H} {r : (Int32 × sm_H)} (hf : F_357_18  h = some r) (hs : (fun (r : Int32 × sm_H) => res = (some (.int r.1), r.2)) r) : Ex (P_G L xs) (RUN L xs d) (sm_lk P_t357) 3 18 [some (.ref 67), none] [] h res := by
  unfold F_357_18 at hf
  refine Ex.seg 3 (pc' := 23) (lc' := [some (.ref 67), none]) (st' := []) (h' := (sm_wI h 67 64 4)) (sg1 rfl rfl (sg1 rfl rfl (sg1 rfl rfl rfl))) ?_
  obtain ⟨h1, e_h1, hf⟩ := bnd hf
  rw [Option.some.inj e_h1]
  refine Ex.seg 1 (pc' := 24) (lc' := [some (.ref 67), none]) (st' := [.int 1]) (h' := h1) (sg1 rfl rfl rfl) ?_
  obtain rfl := Option.some.inj hf
  exact Ex.iret rfl rfl (fun _ => by decide) hs
theorem B_357_0 {L : Nat} {xs : Nat → Int32} {d : Nat} (hd : 0 ≤ d) {res : Option Value × sm_H} {x1 : Int32}  {h : sm_H} {r : (Int32 × sm_H)} (hf : F_357_0 x1 h = some r) (hs : (fun (r : Int32 × sm_H) => res = (some (.int r.1), r.2)) r) : Ex (P_G L xs) (RUN L xs d) (sm_lk P_t357) 3 0 [some (.ref 67), some (.int x1)] [] h res := by
  unfold F_357_0 at hf
  refine Ex.seg 3 (pc' := 7) (lc' := [some (.ref 67), some (.int x1)]) (st' := [.int 1000, .int (h.1 67 45)]) (h' := h) (sg1 rfl rfl (sg1 rfl rfl (sg1 rfl rfl rfl))) ?_
  refine Ex.icmp rfl rfl (fun (c0 : 1000 ≤ (h.1 67 45)) => ?_) (fun (c0 : ¬ (1000 ≤ (h.1 67 45))) => ?_)
  · rw [if_pos c0] at hf
    exact Ex.weak (sm_le_s (sm_le_n sm_le_nil)) (B_357_18 hd  hf hs)
  · rw [if_neg c0] at hf
    refine Ex.seg 2 (pc' := 13) (lc' := [some (.ref 67), some (.int x1)]) (st' := [.int 100, .int x1]) (h' := h) (sg1 rfl rfl (sg1 rfl rfl rfl)) ?_
    refine Ex.icmp rfl rfl (fun (c0 : 100 < x1) => ?_) (fun (c0 : ¬ (100 < x1)) => ?_)
    · rw [if_pos c0] at hf
      exact Ex.weak (sm_le_s (sm_le_n sm_le_nil)) (B_357_18 hd  hf hs)
    · rw [if_neg c0] at hf
      refine Ex.seg 1 (pc' := 17) (lc' := [some (.ref 67), some (.int x1)]) (st' := [.int 0]) (h' := h) (sg1 rfl rfl rfl) ?_
      obtain rfl := Option.some.inj hf
      exact Ex.iret rfl rfl (fun _ => by decide) hs
theorem E_357 {L : Nat} {xs : Nat → Int32} {d : Nat} (hd : 1 ≤ d) {x1 : Int32} {h : sm_H} {r : Int32 × sm_H} (hf : F_357 x1 h = some r) : RUN L xs d 357 [.ref 67, .int x1] h (some (.int r.1), r.2) := by
  obtain ⟨d, rfl⟩ : ∃ e, d = e + 1 := ⟨d - 1, by omega⟩
  exact ⟨Nat.le_of_ble_eq_true rfl, B_357_0 (by omega) hf rfl⟩
theorem B_358_0 {L : Nat} {xs : Nat → Int32} {d : Nat} (hd : 0 ≤ d) {res : Option Value × sm_H} {x1 : Int32} {x2 : Int32}  {h : sm_H} {r : (Int32 × sm_H)} (hf : F_358_0 x1 x2 h = some r) (hs : (fun (r : Int32 × sm_H) => res = (some (.int r.1), r.2)) r) : Ex (P_G L xs) (RUN L xs d) (sm_lk P_t358) 0 0 [some (.ref 67), some (.int x1), some (.int x2)] [] h res := by
  unfold F_358_0 at hf
  refine Ex.seg 5 (pc' := 9) (lc' := [some (.ref 67), some (.int x1), some (.int x2)]) (st' := [.int x1, .int (h.1 67 45), .ref 96]) (h' := h) (sg1 rfl rfl (sg1 rfl rfl (sg1 rfl rfl (sg1 rfl rfl (sg1 rfl rfl rfl))))) ?_
  obtain ⟨h1, e_h1, hf⟩ := bnd hf
  refine Ex.iast e_h1 rfl rfl ?_
  refine Ex.seg 5 (pc' := 19) (lc' := [some (.ref 67), some (.int x1), some (.int x2)]) (st' := [.int x2, .int (h1.1 67 45), .ref 97]) (h' := h1) (sg1 rfl rfl (sg1 rfl rfl (sg1 rfl rfl (sg1 rfl rfl (sg1 rfl rfl rfl))))) ?_
  obtain ⟨h2, e_h2, hf⟩ := bnd hf
  refine Ex.iast e_h2 rfl rfl ?_
  refine Ex.seg 6 (pc' := 30) (lc' := [some (.ref 67), some (.int x1), some (.int x2)]) (st' := []) (h' := (sm_wI h2 67 45 ((h2.1 67 45) + 1))) (sg1 rfl rfl (sg1 rfl rfl (sg1 rfl rfl (sg1 rfl rfl (sg1 rfl rfl (sg1 rfl rfl rfl)))))) ?_
  obtain ⟨h3, e_h3, hf⟩ := bnd hf
  rw [Option.some.inj e_h3]
  refine Ex.seg 4 (pc' := 36) (lc' := [some (.ref 67), some (.int x1), some (.int x2)]) (st' := [.int ((h3.1 67 45) - 1)]) (h' := h3) (sg1 rfl rfl (sg1 rfl rfl (sg1 rfl rfl (sg1 rfl rfl rfl)))) ?_
  obtain rfl := Option.some.inj hf
  exact Ex.iret rfl rfl (fun c0 => by cases c0) hs
theorem E_358 {L : Nat} {xs : Nat → Int32} {d : Nat} (hd : 1 ≤ d) {x1 : Int32} {x2 : Int32} {h : sm_H} {r : Int32 × sm_H} (hf : F_358 x1 x2 h = some r) : RUN L xs d 358 [.ref 67, .int x1, .int x2] h (some (.int r.1), r.2) := by
  obtain ⟨d, rfl⟩ : ∃ e, d = e + 1 := ⟨d - 1, by omega⟩
  exact ⟨Nat.le_of_ble_eq_true rfl, B_358_0 (by omega) hf rfl⟩
theorem B_359_62B {L : Nat} {xs : Nat → Int32} {d : Nat} (hd : 3 ≤ d) {res : Option Value × sm_H} {S1 : (Int32 × Int64 × Int32 × Int32 × sm_H) → Prop} (hS1 : ∀ s, S1 s → Ex (P_G L xs) (RUN L xs d) (sm_lk P_t359) 0 62 [some (.ref 67), some (.int s.1), some (.long s.2.1), none, some (.int s.2.2.1), some (.int s.2.2.2.1)] [] s.2.2.2.2 res) {s : (Int32 × Int64 × Int32 × Int32 × sm_H)}  {r : ((Int32 × Int64 × Int32 × Int32 × sm_H) ⊕ (sm_H))} (hf : F_359_62B s = some r) (hs : (Sum.elim S1 (fun (r : sm_H) => res = (none, r))) r) : Ex (P_G L xs) (RUN L xs d) (sm_lk P_t359) 0 62 [some (.ref 67), some (.int s.1), some (.long s.2.1), none, some (.int s.2.2.1), some (.int s.2.2.2.1)] [] s.2.2.2.2 res := by
  unfold F_359_62B at hf
  refine Ex.seg 4 (pc' := 67) (lc' := [some (.ref 67), some (.int s.1), some (.long s.2.1), none, some (.int s.2.2.1), some (.int s.2.2.2.1)]) (st' := [.int (lg_cmp (Int32.toInt64 s.2.2.2.1) s.2.1)]) (h' := s.2.2.2.2) (sg1 rfl rfl (sg1 rfl rfl (sg1 rfl rfl (sg1 rfl rfl rfl)))) ?_
  refine Ex.ifc rfl rfl (fun (c0 : 0 ≤ (lg_cmp (Int32.toInt64 s.2.2.2.1) s.2.1)) => ?_) (fun (c0 : ¬ (0 ≤ (lg_cmp (Int32.toInt64 s.2.2.2.1) s.2.1))) => ?_)
  · rw [if_pos c0] at hf
    refine Ex.seg 4 (pc' := 115) (lc' := [some (.ref 67), some (.int s.1), some (.long s.2.1), none, some (.int s.2.2.1), some (.int s.2.2.2.1)]) (st' := [.long (Int32.toInt64 s.2.2.1), .int s.1, .ref 67]) (h' := s.2.2.2.2) (sg1 rfl rfl (sg1 rfl rfl (sg1 rfl rfl (sg1 rfl rfl rfl)))) ?_
    obtain ⟨q1, e_q1, hf⟩ := bnd hf
    refine Ex.callV (a := 67) (As := [.int s.1, .long (Int32.toInt64 s.2.2.1)]) (r := []) (v := none) (h' := q1) rfl rfl (by decide) rfl (Nat.le_of_ble_eq_true rfl) rfl (E_345 (Nat.le_trans (by decide) hd) e_q1) rfl ?_
    obtain rfl := Option.some.inj hf
    exact Ex.vret rfl rfl hs
  · rw [if_neg c0] at hf
    refine Ex.seg 9 (pc' := 86) (lc' := [some (.ref 67), some (.int s.1), some (.long s.2.1), none, some (.int s.2.2.1), some (.int s.2.2.2.1)]) (st' := [.int (s.2.2.2.2.1 67 48), .int ((100 * s.2.2.1) + s.2.2.2.1), .ref 98]) (h' := s.2.2.2.2) (sg1 rfl rfl (sg1 rfl rfl (sg1 rfl rfl (sg1 rfl rfl (sg1 rfl rfl (sg1 rfl rfl (sg1 rfl rfl (sg1 rfl rfl (sg1 rfl rfl rfl))))))))) ?_
    obtain ⟨h2, e_h2, hf⟩ := bnd hf
    refine Ex.iast e_h2 rfl rfl ?_
    refine Ex.seg 9 (pc' := 103) (lc' := [some (.ref 67), some (.int s.1), some (.long s.2.1), none, some (.int s.2.2.1), some (.int s.2.2.2.1)]) (st' := [.long (h2.2.1 67 49), .int ((100 * s.2.2.1) + s.2.2.2.1), .ref 99]) (h' := h2) (sg1 rfl rfl (sg1 rfl rfl (sg1 rfl rfl (sg1 rfl rfl (sg1 rfl rfl (sg1 rfl rfl (sg1 rfl rfl (sg1 rfl rfl (sg1 rfl rfl rfl))))))))) ?_
    obtain ⟨h3, e_h3, hf⟩ := bnd hf
    refine Ex.last e_h3 rfl rfl ?_
    refine Ex.seg 1 (pc' := 107) (lc' := [some (.ref 67), some (.int s.1), some (.long s.2.1), none, some (.int s.2.2.1), some (.int (s.2.2.2.1 + 1))]) (st' := []) (h' := h3) (sg1 rfl rfl rfl) ?_
    obtain ⟨v4, e_v4, hf⟩ := bnd hf
    rw [Option.some.inj e_v4]
    refine Ex.seg 1 (pc' := 62) (lc' := [some (.ref 67), some (.int s.1), some (.long s.2.1), none, some (.int s.2.2.1), some (.int v4)]) (st' := []) (h' := h3) (sg1 rfl rfl rfl) ?_
    obtain rfl := Option.some.inj hf
    exact Ex.weak (sm_le_s (sm_le_s (sm_le_s (sm_le_s (sm_le_s (sm_le_s sm_le_nil)))))) (hS1 _ hs)
theorem B_359_62 {L : Nat} {xs : Nat → Int32} {d : Nat} (hd : 3 ≤ d) {res : Option Value × sm_H} {y1 : Int32} {y2 : Int64} {y4 : Int32} {y5 : Int32}  {h : sm_H} {r : (sm_H)} (hf : F_359_62 y1 y2 y4 y5 h = some r) (hs : (fun (r : sm_H) => res = (none, r)) r) : Ex (P_G L xs) (RUN L xs d) (sm_lk P_t359) 0 62 [some (.ref 67), some (.int y1), some (.long y2), none, some (.int y4), some (.int y5)] [] h res := by
  unfold F_359_62 at hf
  exact lp_ok (P := fun (s : (Int32 × Int64 × Int32 × Int32 × sm_H)) => Ex (P_G L xs) (RUN L xs d) (sm_lk P_t359) 0 62 [some (.ref 67), some (.int s.1), some (.long s.2.1), none, some (.int s.2.2.1), some (.int s.2.2.2.1)] [] s.2.2.2.2 res) (S := (fun (r : sm_H) => res = (none, r))) (fun s x hx hsx => by
    intros
    exact B_359_62B hd  (fun _ q => q) hx hsx) 1000000 _ r hf hs
theorem B_359_0 {L : Nat} {xs : Nat → Int32} {d : Nat} (hd : 3 ≤ d) {res : Option Value × sm_H} {x1 : Int32}  {h : sm_H} {r : (sm_H)} (hf : F_359_0 x1 h = some r) (hs : (fun (r : sm_H) => res = (none, r)) r) : Ex (P_G L xs) (RUN L xs d) (sm_lk P_t359) 0 0 [some (.ref 67), some (.int x1), none, none, none, none] [] h res := by
  unfold F_359_0 at hf
  refine Ex.seg 2 (pc' := 2) (lc' := [some (.ref 67), some (.int x1), none, none, none, none]) (st' := [.int 0, .ref 67]) (h' := h) (sg1 rfl rfl (sg1 rfl rfl rfl)) ?_
  obtain ⟨q5, e_q5, hf⟩ := bnd hf
  refine Ex.callV (a := 67) (As := [.int 0]) (r := []) (v := some (.long q5.1)) (h' := q5.2) rfl rfl (by decide) rfl (Nat.le_of_ble_eq_true rfl) rfl (E_352 (Nat.le_trans (by decide) hd) e_q5) rfl ?_
  refine Ex.seg 4 (pc' := 9) (lc' := [some (.ref 67), some (.int x1), some (.long q5.1), none, none, none]) (st' := [.int (lg_cmp q5.1 0)]) (h' := q5.2) (sg1 rfl rfl (sg1 rfl rfl (sg1 rfl rfl (sg1 rfl rfl rfl)))) ?_
  refine Ex.ifc rfl rfl (fun (c0 : 0 ≤ (lg_cmp q5.1 0)) => ?_) (fun (c0 : ¬ (0 ≤ (lg_cmp q5.1 0))) => ?_)
  · rw [if_pos c0] at hf
    refine Ex.seg 3 (pc' := 23) (lc' := [some (.ref 67), some (.int x1), some (.long q5.1), none, none, none]) (st' := [.int (lg_cmp q5.1 100)]) (h' := q5.2) (sg1 rfl rfl (sg1 rfl rfl (sg1 rfl rfl rfl))) ?_
    refine Ex.ifc rfl rfl (fun (c0 : (lg_cmp q5.1 100) ≤ 0) => ?_) (fun (c0 : ¬ ((lg_cmp q5.1 100) ≤ 0)) => ?_)
    · rw [if_pos c0] at hf
      refine Ex.seg 3 (pc' := 35) (lc' := [some (.ref 67), some (.int x1), some (.long q5.1), none, none, none]) (st' := [.int (Int64.toInt32 q5.1), .ref 67]) (h' := q5.2) (sg1 rfl rfl (sg1 rfl rfl (sg1 rfl rfl rfl))) ?_
      obtain ⟨q6, e_q6, hf⟩ := bnd hf
      refine Ex.callV (a := 67) (As := [.int (Int64.toInt32 q5.1)]) (r := []) (v := some (.int q6.1)) (h' := q6.2) rfl rfl (by decide) rfl (Nat.le_of_ble_eq_true rfl) rfl (E_357 (Nat.le_trans (by decide) hd) e_q6) rfl ?_
      refine Ex.ifc rfl rfl (fun (c0 : q6.1 = 0) => ?_) (fun (c0 : ¬ (q6.1 = 0)) => ?_)
      · rw [if_pos c0] at hf
        refine Ex.seg 4 (pc' := 46) (lc' := [some (.ref 67), some (.int x1), some (.long q5.1), none, none, none]) (st' := [.int (Int64.toInt32 q5.1), .int x1, .ref 67]) (h' := q6.2) (sg1 rfl rfl (sg1 rfl rfl (sg1 rfl rfl (sg1 rfl rfl rfl)))) ?_
        obtain ⟨q7, e_q7, hf⟩ := bnd hf
        refine Ex.callV (a := 67) (As := [.int x1, .int (Int64.toInt32 q5.1)]) (r := []) (v := some (.int q7.1)) (h' := q7.2) rfl rfl (by decide) rfl (Nat.le_of_ble_eq_true rfl) rfl (E_358 (Nat.le_trans (by decide) hd) e_q7) rfl ?_
        refine Ex.seg 3 (pc' := 53) (lc' := [some (.ref 67), some (.int x1), some (.long q5.1), none, some (.int q7.1), none]) (st' := [.int x1, .ref 67]) (h' := q7.2) (sg1 rfl rfl (sg1 rfl rfl (sg1 rfl rfl rfl))) ?_
        obtain ⟨q8, e_q8, hf⟩ := bnd hf
        refine Ex.callS (As := [.int x1]) (r := [.ref 67]) (v := some (.int q8.1)) (h' := q8.2) rfl rfl rfl rfl (Nat.le_of_ble_eq_true rfl) (E_294 (Nat.le_trans (by decide) hd) e_q8) rfl ?_
        obtain ⟨q9, e_q9, hf⟩ := bnd hf
        refine Ex.callV (a := 67) (As := [.int q8.1]) (r := []) (v := none) (h' := q9) rfl rfl (by decide) rfl (Nat.le_of_ble_eq_true rfl) rfl (E_299 (Nat.le_trans (by decide) hd) e_q9) rfl ?_
        refine Ex.seg 2 (pc' := 62) (lc' := [some (.ref 67), some (.int x1), some (.long q5.1), none, some (.int q7.1), some (.int 0)]) (st' := []) (h' := q9) (sg1 rfl rfl (sg1 rfl rfl rfl)) ?_
        exact Ex.weak (sm_le_s (sm_le_s (sm_le_s (sm_le_s (sm_le_s (sm_le_s sm_le_nil)))))) (B_359_62 hd  hf hs)
      · rw [if_neg c0] at hf
        obtain rfl := Option.some.inj hf
        exact Ex.vret rfl rfl hs
    · rw [if_neg c0] at hf
      refine Ex.seg 3 (pc' := 31) (lc' := [some (.ref 67), some (.int x1), some (.long q5.1), none, none, none]) (st' := []) (h' := (sm_wI q5.2 67 64 4)) (sg1 rfl rfl (sg1 rfl rfl (sg1 rfl rfl rfl))) ?_
      obtain ⟨h10, e_h10, hf⟩ := bnd hf
      rw [Option.some.inj e_h10]
      obtain rfl := Option.some.inj hf
      exact Ex.vret rfl rfl hs
  · rw [if_neg c0] at hf
    refine Ex.seg 2 (pc' := 14) (lc' := [some (.ref 67), some (.int x1), some (.long q5.1), none, none, none]) (st' := [.int 4, .ref 67]) (h' := q5.2) (sg1 rfl rfl (sg1 rfl rfl rfl)) ?_
    obtain ⟨q11, e_q11, hf⟩ := bnd hf
    refine Ex.callV (a := 67) (As := [.int 4]) (r := []) (v := none) (h' := q11) rfl rfl (by decide) rfl (Nat.le_of_ble_eq_true rfl) rfl (E_348 (Nat.le_trans (by decide) hd) e_q11) rfl ?_
    obtain rfl := Option.some.inj hf
    exact Ex.vret rfl rfl hs
theorem E_359 {L : Nat} {xs : Nat → Int32} {d : Nat} (hd : 4 ≤ d) {x1 : Int32} {h : sm_H} {r : sm_H} (hf : F_359 x1 h = some r) : RUN L xs d 359 [.ref 67, .int x1] h (none, r) := by
  obtain ⟨d, rfl⟩ : ∃ e, d = e + 1 := ⟨d - 1, by omega⟩
  exact ⟨Nat.le_of_ble_eq_true rfl, B_359_0 (by omega) hf rfl⟩
theorem B_360_253 {L : Nat} {xs : Nat → Int32} {d : Nat} (hd : 3 ≤ d) {res : Option Value × sm_H}   {h : sm_H} {r : (sm_H)} (hf : F_360_253  h = some r) (hs : (fun (r : sm_H) => res = (none, r)) r) : Ex (P_G L xs) (RUN L xs d) (sm_lk P_t360) 0 253 [none, none, none, none, none, none, none, none, none, none, none, none, none] [] h res := by
  unfold F_360_253 at hf
  obtain rfl := Option.some.inj hf
  exact Ex.vret rfl rfl hs
theorem B_360_239 {L : Nat} {xs : Nat → Int32} {d : Nat} (hd : 3 ≤ d) {res : Option Value × sm_H} {z1 : Int32} {z2 : Int64}  {h : sm_H} {r : (sm_H)} (hf : F_360_239 z1 z2 h = some r) (hs : (fun (r : sm_H) => res = (none, r)) r) : Ex (P_G L xs) (RUN L xs d) (sm_lk P_t360) 0 239 [none, none, none, none, none, none, none, none, none, none, none, none, none] [.long z2, .int z1, .ref 67] h res := by
  unfold F_360_239 at hf
  obtain ⟨q1, e_q1, hf⟩ := bnd hf
  refine Ex.callV (a := 67) (As := [.int z1, .long z2]) (r := []) (v := none) (h' := q1) rfl rfl (by decide) rfl (Nat.le_of_ble_eq_true rfl) rfl (E_345 (Nat.le_trans (by decide) hd) e_q1) rfl ?_
  refine Ex.seg 1 (pc' := 253) (lc' := [none, none, none, none, none, none, none, none, none, none, none, none, none]) (st' := []) (h' := q1) (sg1 rfl rfl rfl) ?_
  exact Ex.weak (sm_le_s (sm_le_s (sm_le_s (sm_le_s (sm_le_s (sm_le_s (sm_le_s (sm_le_s (sm_le_s (sm_le_s (sm_le_s (sm_le_s (sm_le_s sm_le_nil))))))))))))) (B_360_253 hd  hf hs)
theorem B_360_207 {L : Nat} {xs : Nat → Int32} {d : Nat} (hd : 3 ≤ d) {res : Option Value × sm_H} {y1 : Int32} {y6 : Int32} {y7 : Int64} {y12 : Int32}  {h : sm_H} {r : (sm_H)} (hf : F_360_207 y1 y6 y7 y12 h = some r) (hs : (fun (r : sm_H) => res = (none, r)) r) : Ex (P_G L xs) (RUN L xs d) (sm_lk P_t360) 0 207 [some (.ref 67), some (.int y1), none, none, none, none, some (.int y6), some (.long y7), none, none, none, none, some (.int y12)] [] h res := by
  unfold F_360_207 at hf
  refine Ex.seg 2 (pc' := 210) (lc' := [some (.ref 67), some (.int y1), none, none, none, none, some (.int y6), some (.long y7), none, none, none, none, some (.int y12)]) (st' := [.int 23, .int y1]) (h' := h) (sg1 rfl rfl (sg1 rfl rfl rfl)) ?_
  refine Ex.icmp rfl rfl (fun (c0 : ¬ (y1 = 23)) => ?_) (fun (c0 : ¬ ¬ (y1 = 23)) => ?_)
  · rw [if_neg c0] at hf
    refine Ex.seg 2 (pc' := 224) (lc' := [some (.ref 67), some (.int y1), none, none, none, none, some (.int y6), some (.long y7), none, none, none, none, some (.int y12)]) (st' := [.int 25, .int y1]) (h' := h) (sg1 rfl rfl (sg1 rfl rfl rfl)) ?_
    refine Ex.icmp rfl rfl (fun (c0 : ¬ (y1 = 25)) => ?_) (fun (c0 : ¬ ¬ (y1 = 25)) => ?_)
    · rw [if_neg c0] at hf
      refine Ex.seg 3 (pc' := 250) (lc' := [some (.ref 67), some (.int y1), none, none, none, none, some (.int y6), some (.long y7), none, none, none, none, some (.int y12)]) (st' := [.long y7, .int y6, .ref 67]) (h' := h) (sg1 rfl rfl (sg1 rfl rfl (sg1 rfl rfl rfl))) ?_
      obtain ⟨q2, e_q2, hf⟩ := bnd hf
      refine Ex.callV (a := 67) (As := [.int y6, .long y7]) (r := []) (v := none) (h' := q2) rfl rfl (by decide) rfl (Nat.le_of_ble_eq_true rfl) rfl (E_345 (Nat.le_trans (by decide) hd) e_q2) rfl ?_
      exact Ex.weak (sm_le_n (sm_le_n (sm_le_s (sm_le_s (sm_le_s (sm_le_s (sm_le_n (sm_le_n (sm_le_s (sm_le_s (sm_le_s (sm_le_s (sm_le_n sm_le_nil))))))))))))) (B_360_253 hd  hf hs)
    · rw [if_pos (Classical.not_not.mp c0)] at hf
      refine Ex.seg 3 (pc' := 231) (lc' := [some (.ref 67), some (.int y1), none, none, none, none, some (.int y6), some (.long y7), none, none, none, none, some (.int y12)]) (st' := [.int y12, .int 1, .ref 67]) (h' := h) (sg1 rfl rfl (sg1 rfl rfl (sg1 rfl rfl rfl))) ?_
      refine Ex.ifc rfl rfl (fun (c0 : y12 = 0) => ?_) (fun (c0 : ¬ (y12 = 0)) => ?_)
      · rw [if_pos c0] at hf
        refine Ex.seg 1 (pc' := 239) (lc' := [some (.ref 67), some (.int y1), none, none, none, none, some (.int y6), some (.long y7), none, none, none, none, some (.int y12)]) (st' := [.long 0, .int 1, .ref 67]) (h' := h) (sg1 rfl rfl rfl) ?_
        exact Ex.weak (sm_le_n (sm_le_n (sm_le_s (sm_le_s (sm_le_s (sm_le_s (sm_le_n (sm_le_n (sm_le_s (sm_le_s (sm_le_s (sm_le_s (sm_le_n sm_le_nil))))))))))))) (B_360_239 hd  hf hs)
      · rw [if_neg c0] at hf
        refine Ex.seg 2 (pc' := 239) (lc' := [some (.ref 67), some (.int y1), none, none, none, none, some (.int y6), some (.long y7), none, none, none, none, some (.int y12)]) (st' := [.long 1, .int 1, .ref 67]) (h' := h) (sg1 rfl rfl (sg1 rfl rfl rfl)) ?_
        exact Ex.weak (sm_le_n (sm_le_n (sm_le_s (sm_le_s (sm_le_s (sm_le_s (sm_le_n (sm_le_n (sm_le_s (sm_le_s (sm_le_s (sm_le_s (sm_le_n sm_le_nil))))))))))))) (B_360_239 hd  hf hs)
  · rw [if_pos (Classical.not_not.mp c0)] at hf
    refine Ex.seg 2 (pc' := 215) (lc' := [some (.ref 67), some (.int y1), none, none, none, none, some (.int y6), some (.long y7), none, none, none, none, some (.int y12)]) (st' := [.int 0, .ref 67]) (h' := h) (sg1 rfl rfl (sg1 rfl rfl rfl)) ?_
    obtain ⟨q3, e_q3, hf⟩ := bnd hf
    refine Ex.callV (a := 67) (As := [.int 0]) (r := []) (v := none) (h' := q3) rfl rfl (by decide) rfl (Nat.le_of_ble_eq_true rfl) rfl (E_346 (Nat.le_trans (by decide) hd) e_q3) rfl ?_
    refine Ex.seg 1 (pc' := 253) (lc' := [some (.ref 67), some (.int y1), none, none, none, none, some (.int y6), some (.long y7), none, none, none, none, some (.int y12)]) (st' := []) (h' := q3) (sg1 rfl rfl rfl) ?_
    exact Ex.weak (sm_le_n (sm_le_n (sm_le_s (sm_le_s (sm_le_s (sm_le_s (sm_le_n (sm_le_n (sm_le_s (sm_le_s (sm_le_s (sm_le_s (sm_le_n sm_le_nil))))))))))))) (B_360_253 hd  hf hs)
theorem B_360_168 {L : Nat} {xs : Nat → Int32} {d : Nat} (hd : 3 ≤ d) {res : Option Value × sm_H} {y1 : Int32} {y2 : Int32} {y3 : Int32} {y6 : Int32} {y7 : Int64} {y9 : Int32} {y10 : Int64} {y12 : Int32}  {h : sm_H} {r : (sm_H)} (hf : F_360_168 y1 y2 y3 y6 y7 y9 y10 y12 h = some r) (hs : (fun (r : sm_H) => res = (none, r)) r) : Ex (P_G L xs) (RUN L xs d) (sm_lk P_t360) 0 168 [some (.ref 67), some (.int y1), some (.int y2), some (.int y3), none, none, some (.int y6), some (.long y7), none, some (.int y9), some (.long y10), none, some (.int y12)] [] h res := by
  unfold F_360_168 at hf
  refine Ex.seg 1 (pc' := 169) (lc' := [some (.ref 67), some (.int y1), some (.int y2), some (.int y3), none, none, some (.int y6), some (.long y7), none, some (.int y9), some (.long y10), none, some (.int y12)]) (st' := [.int y3]) (h' := h) (sg1 rfl rfl rfl) ?_
  refine Ex.ifc rfl rfl (fun (c0 : y3 = 0) => ?_) (fun (c0 : ¬ (y3 = 0)) => ?_)
  · rw [if_pos c0] at hf
    refine Ex.seg 4 (pc' := 198) (lc' := [some (.ref 67), some (.int y1), some (.int y2), some (.int y3), none, none, some (.int y6), some (.long y7), none, some (.int y9), some (.long y10), none, some (.int y12)]) (st' := [.int y9, .int y2, .ref 98]) (h' := h) (sg1 rfl rfl (sg1 rfl rfl (sg1 rfl rfl (sg1 rfl rfl rfl)))) ?_
    obtain ⟨h4, e_h4, hf⟩ := bnd hf
    refine Ex.iast e_h4 rfl rfl ?_
    refine Ex.seg 4 (pc' := 206) (lc' := [some (.ref 67), some (.int y1), some (.int y2), some (.int y3), none, none, some (.int y6), some (.long y7), none, some (.int y9), some (.long y10), none, some (.int y12)]) (st' := [.long y10, .int y2, .ref 99]) (h' := h4) (sg1 rfl rfl (sg1 rfl rfl (sg1 rfl rfl (sg1 rfl rfl rfl)))) ?_
    obtain ⟨h5, e_h5, hf⟩ := bnd hf
    refine Ex.last e_h5 rfl rfl ?_
    exact Ex.weak (sm_le_s (sm_le_s (sm_le_n (sm_le_n (sm_le_s (sm_le_s (sm_le_s (sm_le_s (sm_le_s (sm_le_n (sm_le_n (sm_le_s (sm_le_s sm_le_nil))))))))))))) (B_360_207 hd  hf hs)
  · rw [if_neg c0] at hf
    refine Ex.seg 4 (pc' := 179) (lc' := [some (.ref 67), some (.int y1), some (.int y2), some (.int y3), none, none, some (.int y6), some (.long y7), none, some (.int y9), some (.long y10), none, some (.int y12)]) (st' := [.int y9, .int y2, .ref 100]) (h' := h) (sg1 rfl rfl (sg1 rfl rfl (sg1 rfl rfl (sg1 rfl rfl rfl)))) ?_
    obtain ⟨h6, e_h6, hf⟩ := bnd hf
    refine Ex.iast e_h6 rfl rfl ?_
    refine Ex.seg 4 (pc' := 187) (lc' := [some (.ref 67), some (.int y1), some (.int y2), some (.int y3), none, none, some (.int y6), some (.long y7), none, some (.int y9), some (.long y10), none, some (.int y12)]) (st' := [.long y10, .int y2, .ref 101]) (h' := h6) (sg1 rfl rfl (sg1 rfl rfl (sg1 rfl rfl (sg1 rfl rfl rfl)))) ?_
    obtain ⟨h7, e_h7, hf⟩ := bnd hf
    refine Ex.last e_h7 rfl rfl ?_
    refine Ex.seg 1 (pc' := 207) (lc' := [some (.ref 67), some (.int y1), some (.int y2), some (.int y3), none, none, some (.int y6), some (.long y7), none, some (.int y9), some (.long y10), none, some (.int y12)]) (st' := []) (h' := h7) (sg1 rfl rfl rfl) ?_
    exact Ex.weak (sm_le_s (sm_le_s (sm_le_n (sm_le_n (sm_le_s (sm_le_s (sm_le_s (sm_le_s (sm_le_s (sm_le_n (sm_le_n (sm_le_s (sm_le_s sm_le_nil))))))))))))) (B_360_207 hd  hf hs)
theorem B_360_157 {L : Nat} {xs : Nat → Int32} {d : Nat} (hd : 3 ≤ d) {res : Option Value × sm_H} {y1 : Int32} {y2 : Int32} {y3 : Int32} {y6 : Int32} {y7 : Int64} {y9 : Int32} {y10 : Int64} {y12 : Int32}  {h : sm_H} {r : (sm_H)} (hf : F_360_157 y1 y2 y3 y6 y7 y9 y10 y12 h = some r) (hs : (fun (r : sm_H) => res = (none, r)) r) : Ex (P_G L xs) (RUN L xs d) (sm_lk P_t360) 0 157 [some (.ref 67), some (.int y1), some (.int y2), some (.int y3), none, none, some (.int y6), some (.long y7), none, some (.int y9), some (.long y10), none, some (.int y12)] [] h res := by
  unfold F_360_157 at hf
  refine Ex.seg 2 (pc' := 160) (lc' := [some (.ref 67), some (.int y1), some (.int y2), some (.int y3), none, none, some (.int y6), some (.long y7), none, some (.int y9), some (.long y10), none, some (.int y12)]) (st' := [.int 25, .int y1]) (h' := h) (sg1 rfl rfl (sg1 rfl rfl rfl)) ?_
  refine Ex.icmp rfl rfl (fun (c0 : ¬ (y1 = 25)) => ?_) (fun (c0 : ¬ ¬ (y1 = 25)) => ?_)
  · rw [if_neg c0] at hf
    exact Ex.weak (sm_le_s (sm_le_s (sm_le_s (sm_le_s (sm_le_s (sm_le_s (sm_le_s (sm_le_s (sm_le_s (sm_le_s (sm_le_s (sm_le_s (sm_le_s sm_le_nil))))))))))))) (B_360_168 hd  hf hs)
  · rw [if_pos (Classical.not_not.mp c0)] at hf
    refine Ex.seg 1 (pc' := 165) (lc' := [some (.ref 67), some (.int y1), some (.int y2), some (.int y3), none, none, some (.int y6), some (.long y7), none, some (.int y9), some (.long y10), none, some (.int y12)]) (st' := [.int y12]) (h' := h) (sg1 rfl rfl rfl) ?_
    refine Ex.ifc rfl rfl (fun (c0 : y12 = 0) => ?_) (fun (c0 : ¬ (y12 = 0)) => ?_)
    · rw [if_pos c0] at hf
      exact Ex.weak (sm_le_s (sm_le_s (sm_le_n (sm_le_n (sm_le_s (sm_le_s (sm_le_s (sm_le_s (sm_le_s (sm_le_n (sm_le_n (sm_le_s (sm_le_s sm_le_nil))))))))))))) (B_360_207 hd  hf hs)
    · rw [if_neg c0] at hf
      exact Ex.weak (sm_le_s (sm_le_s (sm_le_s (sm_le_s (sm_le_s (sm_le_s (sm_le_s (sm_le_s (sm_le_s (sm_le_s (sm_le_s (sm_le_s (sm_le_s sm_le_nil))))))))))))) (B_360_168 hd  hf hs)
theorem B_360_139 {L : Nat} {xs : Nat → Int32} {d : Nat} (hd : 3 ≤ d) {res : Option Value × sm_H} {y1 : Int32} {y2 : Int32} {y3 : Int32} {y4 : Int32} {y6 : Int32} {y7 : Int64} {y9 : Int32} {y10 : Int64} {y12 : Int32}  {h : sm_H} {r : (sm_H)} (hf : F_360_139 y1 y2 y3 y4 y6 y7 y9 y10 y12 h = some r) (hs : (fun (r : sm_H) => res = (none, r)) r) : Ex (P_G L xs) (RUN L xs d) (sm_lk P_t360) 0 139 [some (.ref 67), some (.int y1), some (.int y2), some (.int y3), some (.int y4), none, some (.int y6), some (.long y7), none, some (.int y9), some (.long y10), none, some (.int y12)] [] h res := by
  unfold F_360_139 at hf
  refine Ex.seg 2 (pc' := 142) (lc' := [some (.ref 67), some (.int y1), some (.int y2), some (.int y3), some (.int y4), none, some (.int y6), some (.long y7), none, some (.int y9), some (.long y10), none, some (.int y12)]) (st' := [.int 26, .int y1]) (h' := h) (sg1 rfl rfl (sg1 rfl rfl rfl)) ?_
  refine Ex.icmp rfl rfl (fun (c0 : ¬ (y1 = 26)) => ?_) (fun (c0 : ¬ ¬ (y1 = 26)) => ?_)
  · rw [if_neg c0] at hf
    exact Ex.weak (sm_le_s (sm_le_s (sm_le_s (sm_le_s (sm_le_n (sm_le_s (sm_le_s (sm_le_s (sm_le_s (sm_le_s (sm_le_s (sm_le_s (sm_le_s sm_le_nil))))))))))))) (B_360_157 hd  hf hs)
  · rw [if_pos (Classical.not_not.mp c0)] at hf
    refine Ex.seg 4 (pc' := 152) (lc' := [some (.ref 67), some (.int y1), some (.int y2), some (.int y3), some (.int y4), none, some (.int y6), some (.long y7), none, some (.int y9), some (.long y10), none, some (.int y12)]) (st' := [.long (y10 + y7), .int y4]) (h' := h) (sg1 rfl rfl (sg1 rfl rfl (sg1 rfl rfl (sg1 rfl rfl rfl)))) ?_
    obtain ⟨q8, e_q8, hf⟩ := bnd hf
    refine Ex.callS (As := [.int y4, .long (y10 + y7)]) (r := []) (v := some (.long q8.1)) (h' := q8.2) rfl rfl rfl rfl (Nat.le_of_ble_eq_true rfl) (E_298 (Nat.le_trans (by decide) hd) e_q8) rfl ?_
    refine Ex.seg 1 (pc' := 157) (lc' := [some (.ref 67), some (.int y1), some (.int y2), some (.int y3), some (.int y4), none, some (.int y6), some (.long y7), none, some (.int y9), some (.long q8.1), none, some (.int y12)]) (st' := []) (h' := q8.2) (sg1 rfl rfl rfl) ?_
    exact Ex.weak (sm_le_s (sm_le_s (sm_le_s (sm_le_s (sm_le_n (sm_le_s (sm_le_s (sm_le_s (sm_le_s (sm_le_s (sm_le_s (sm_le_s (sm_le_s sm_le_nil))))))))))))) (B_360_157 hd  hf hs)
theorem B_360_111 {L : Nat} {xs : Nat → Int32} {d : Nat} (hd : 3 ≤ d) {res : Option Value × sm_H} {y1 : Int32} {y2 : Int32} {y3 : Int32} {y4 : Int32} {y5 : Int32} {y6 : Int32} {y7 : Int64} {y9 : Int32} {y10 : Int64} {z0 : Int32}  {h : sm_H} {r : (sm_H)} (hf : F_360_111 y1 y2 y3 y4 y5 y6 y7 y9 y10 z0 h = some r) (hs : (fun (r : sm_H) => res = (none, r)) r) : Ex (P_G L xs) (RUN L xs d) (sm_lk P_t360) 0 111 [some (.ref 67), some (.int y1), some (.int y2), some (.int y3), some (.int y4), some (.int y5), some (.int y6), some (.long y7), none, some (.int y9), some (.long y10), none, none] [.int z0] h res := by
  unfold F_360_111 at hf
  refine Ex.seg 3 (pc' := 116) (lc' := [some (.ref 67), some (.int y1), some (.int y2), some (.int y3), some (.int y4), some (.int y5), some (.int y6), some (.long y7), none, some (.int y9), some (.long y10), none, some (.int z0)]) (st' := [.int 25, .int y1]) (h' := h) (sg1 rfl rfl (sg1 rfl rfl (sg1 rfl rfl rfl))) ?_
  refine Ex.icmp rfl rfl (fun (c0 : ¬ (y1 = 25)) => ?_) (fun (c0 : ¬ ¬ (y1 = 25)) => ?_)
  · rw [if_neg c0] at hf
    exact Ex.weak (sm_le_s (sm_le_s (sm_le_s (sm_le_s (sm_le_s (sm_le_n (sm_le_s (sm_le_s (sm_le_s (sm_le_s (sm_le_s (sm_le_s (sm_le_s sm_le_nil))))))))))))) (B_360_139 hd  hf hs)
  · rw [if_pos (Classical.not_not.mp c0)] at hf
    refine Ex.seg 4 (pc' := 124) (lc' := [some (.ref 67), some (.int y1), some (.int y2), some (.int y3), some (.int y4), some (.int y5), some (.int y6), some (.long y7), none, some (.int y9), some (.long y10), none, some (.int z0)]) (st' := [.int (y5 + 1), .ref 67]) (h' := h) (sg1 rfl rfl (sg1 rfl rfl (sg1 rfl rfl (sg1 rfl rfl rfl)))) ?_
    obtain ⟨q9, e_q9, hf⟩ := bnd hf
    refine Ex.callV (a := 67) (As := [.int (y5 + 1)]) (r := []) (v := some (.int q9.1)) (h' := q9.2) rfl rfl (by decide) rfl (Nat.le_of_ble_eq_true rfl) rfl (E_351 (Nat.le_trans (by decide) hd) e_q9) rfl ?_
    refine Ex.seg 5 (pc' := 134) (lc' := [some (.ref 67), some (.int y1), some (.int y2), some (.int y3), some (.int y4), some (.int y5), some (.int y6), some (.long y7), none, some (.int q9.1), some (.long y10), none, some (.int z0)]) (st' := [.int (y5 + 1), .ref 67]) (h' := q9.2) (sg1 rfl rfl (sg1 rfl rfl (sg1 rfl rfl (sg1 rfl rfl (sg1 rfl rfl rfl))))) ?_
    obtain ⟨q10, e_q10, hf⟩ := bnd hf
    refine Ex.callV (a := 67) (As := [.int (y5 + 1)]) (r := []) (v := some (.long q10.1)) (h' := q10.2) rfl rfl (by decide) rfl (Nat.le_of_ble_eq_true rfl) rfl (E_352 (Nat.le_trans (by decide) hd) e_q10) rfl ?_
    refine Ex.seg 1 (pc' := 139) (lc' := [some (.ref 67), some (.int y1), some (.int y2), some (.int y3), some (.int y4), some (.int y5), some (.int y6), some (.long y7), none, some (.int q9.1), some (.long q10.1), none, some (.int z0)]) (st' := []) (h' := q10.2) (sg1 rfl rfl rfl) ?_
    exact Ex.weak (sm_le_s (sm_le_s (sm_le_s (sm_le_s (sm_le_s (sm_le_n (sm_le_s (sm_le_s (sm_le_s (sm_le_s (sm_le_s (sm_le_s (sm_le_s sm_le_nil))))))))))))) (B_360_139 hd  hf hs)
theorem B_360_106 {L : Nat} {xs : Nat → Int32} {d : Nat} (hd : 3 ≤ d) {res : Option Value × sm_H} {y1 : Int32} {y2 : Int32} {y3 : Int32} {y4 : Int32} {y5 : Int32} {y6 : Int32} {y7 : Int64} {y9 : Int32} {y10 : Int64}  {h : sm_H} {r : (sm_H)} (hf : F_360_106 y1 y2 y3 y4 y5 y6 y7 y9 y10 h = some r) (hs : (fun (r : sm_H) => res = (none, r)) r) : Ex (P_G L xs) (RUN L xs d) (sm_lk P_t360) 0 106 [some (.ref 67), some (.int y1), some (.int y2), some (.int y3), some (.int y4), some (.int y5), some (.int y6), some (.long y7), none, some (.int y9), some (.long y10), none, none] [] h res := by
  unfold F_360_106 at hf
  refine Ex.seg 2 (pc' := 111) (lc' := [some (.ref 67), some (.int y1), some (.int y2), some (.int y3), some (.int y4), some (.int y5), some (.int y6), some (.long y7), none, some (.int y9), some (.long y10), none, none]) (st' := [.int 1]) (h' := h) (sg1 rfl rfl (sg1 rfl rfl rfl)) ?_
  exact Ex.weak (sm_le_s (sm_le_s (sm_le_s (sm_le_s (sm_le_s (sm_le_s (sm_le_s (sm_le_s (sm_le_s (sm_le_s (sm_le_s (sm_le_s (sm_le_s sm_le_nil))))))))))))) (B_360_111 hd  hf hs)
theorem B_360_110 {L : Nat} {xs : Nat → Int32} {d : Nat} (hd : 3 ≤ d) {res : Option Value × sm_H} {y1 : Int32} {y2 : Int32} {y3 : Int32} {y4 : Int32} {y5 : Int32} {y6 : Int32} {y7 : Int64} {y9 : Int32} {y10 : Int64}  {h : sm_H} {r : (sm_H)} (hf : F_360_110 y1 y2 y3 y4 y5 y6 y7 y9 y10 h = some r) (hs : (fun (r : sm_H) => res = (none, r)) r) : Ex (P_G L xs) (RUN L xs d) (sm_lk P_t360) 0 110 [some (.ref 67), some (.int y1), some (.int y2), some (.int y3), some (.int y4), some (.int y5), some (.int y6), some (.long y7), none, some (.int y9), some (.long y10), none, none] [] h res := by
  unfold F_360_110 at hf
  refine Ex.seg 1 (pc' := 111) (lc' := [some (.ref 67), some (.int y1), some (.int y2), some (.int y3), some (.int y4), some (.int y5), some (.int y6), some (.long y7), none, some (.int y9), some (.long y10), none, none]) (st' := [.int 0]) (h' := h) (sg1 rfl rfl rfl) ?_
  exact Ex.weak (sm_le_s (sm_le_s (sm_le_s (sm_le_s (sm_le_s (sm_le_s (sm_le_s (sm_le_s (sm_le_s (sm_le_s (sm_le_s (sm_le_s (sm_le_s sm_le_nil))))))))))))) (B_360_111 hd  hf hs)
theorem B_360_88 {L : Nat} {xs : Nat → Int32} {d : Nat} (hd : 3 ≤ d) {res : Option Value × sm_H} {y1 : Int32} {y2 : Int32} {y3 : Int32} {y4 : Int32} {y5 : Int32} {y6 : Int32} {y7 : Int64} {y9 : Int32} {y10 : Int64}  {h : sm_H} {r : (sm_H)} (hf : F_360_88 y1 y2 y3 y4 y5 y6 y7 y9 y10 h = some r) (hs : (fun (r : sm_H) => res = (none, r)) r) : Ex (P_G L xs) (RUN L xs d) (sm_lk P_t360) 0 88 [some (.ref 67), some (.int y1), some (.int y2), some (.int y3), some (.int y4), some (.int y5), some (.int y6), some (.long y7), none, some (.int y9), some (.long y10), none, none] [] h res := by
  unfold F_360_88 at hf
  refine Ex.seg 1 (pc' := 90) (lc' := [some (.ref 67), some (.int y1), some (.int y2), some (.int y3), some (.int y4), some (.int y5), some (.int y6), some (.long y7), none, some (.int y9), some (.long y10), none, none]) (st' := [.int y4]) (h' := h) (sg1 rfl rfl rfl) ?_
  obtain ⟨q11, e_q11, hf⟩ := bnd hf
  refine Ex.callS (As := [.int y4]) (r := []) (v := some (.int q11.1)) (h' := q11.2) rfl rfl rfl rfl (Nat.le_of_ble_eq_true rfl) (E_291 (Nat.le_trans (by decide) hd) e_q11) rfl ?_
  refine Ex.ifc rfl rfl (fun (c0 : q11.1 = 0) => ?_) (fun (c0 : ¬ (q11.1 = 0)) => ?_)
  · rw [if_pos c0] at hf
    exact Ex.weak (sm_le_s (sm_le_s (sm_le_s (sm_le_s (sm_le_s (sm_le_s (sm_le_s (sm_le_s (sm_le_s (sm_le_s (sm_le_s (sm_le_s (sm_le_s sm_le_nil))))))))))))) (B_360_110 hd  hf hs)
  · rw [if_neg c0] at hf
    refine Ex.seg 1 (pc' := 98) (lc' := [some (.ref 67), some (.int y1), some (.int y2), some (.int y3), some (.int y4), some (.int y5), some (.int y6), some (.long y7), none, some (.int y9), some (.long y10), none, none]) (st' := [.int y9]) (h' := q11.2) (sg1 rfl rfl rfl) ?_
    refine Ex.ifc rfl rfl (fun (c0 : ¬ (y9 = 0)) => ?_) (fun (c0 : ¬ ¬ (y9 = 0)) => ?_)
    · rw [if_neg c0] at hf
      exact Ex.weak (sm_le_s (sm_le_s (sm_le_s (sm_le_s (sm_le_s (sm_le_s (sm_le_s (sm_le_s (sm_le_s (sm_le_s (sm_le_s (sm_le_s (sm_le_s sm_le_nil))))))))))))) (B_360_110 hd  hf hs)
    · rw [if_pos (Classical.not_not.mp c0)] at hf
      refine Ex.seg 1 (pc' := 103) (lc' := [some (.ref 67), some (.int y1), some (.int y2), some (.int y3), some (.int y4), some (.int y5), some (.int y6), some (.long y7), none, some (.int y9), some (.long y10), none, none]) (st' := [.int y6]) (h' := q11.2) (sg1 rfl rfl rfl) ?_
      refine Ex.ifc rfl rfl (fun (c0 : ¬ (y6 = 0)) => ?_) (fun (c0 : ¬ ¬ (y6 = 0)) => ?_)
      · rw [if_neg c0] at hf
        exact Ex.weak (sm_le_s (sm_le_s (sm_le_s (sm_le_s (sm_le_s (sm_le_s (sm_le_s (sm_le_s (sm_le_s (sm_le_s (sm_le_s (sm_le_s (sm_le_s sm_le_nil))))))))))))) (B_360_110 hd  hf hs)
      · rw [if_pos (Classical.not_not.mp c0)] at hf
        exact Ex.weak (sm_le_s (sm_le_s (sm_le_s (sm_le_s (sm_le_s (sm_le_s (sm_le_s (sm_le_s (sm_le_s (sm_le_s (sm_le_s (sm_le_s (sm_le_s sm_le_nil))))))))))))) (B_360_106 hd  hf hs)
theorem B_360_40 {L : Nat} {xs : Nat → Int32} {d : Nat} (hd : 3 ≤ d) {res : Option Value × sm_H} {y1 : Int32} {y2 : Int32} {y3 : Int32} {y4 : Int32} {y5 : Int32} {y6 : Int32} {z0 : Int64}  {h : sm_H} {r : (sm_H)} (hf : F_360_40 y1 y2 y3 y4 y5 y6 z0 h = some r) (hs : (fun (r : sm_H) => res = (none, r)) r) : Ex (P_G L xs) (RUN L xs d) (sm_lk P_t360) 0 40 [some (.ref 67), some (.int y1), some (.int y2), some (.int y3), some (.int y4), some (.int y5), some (.int y6), none, none, none, none, none, none] [.long z0] h res := by
  unfold F_360_40 at hf
  refine Ex.seg 3 (pc' := 45) (lc' := [some (.ref 67), some (.int y1), some (.int y2), some (.int y3), some (.int y4), some (.int y5), some (.int y6), some (.long z0), none, none, none, none, none]) (st' := [.int 22, .int y1]) (h' := h) (sg1 rfl rfl (sg1 rfl rfl (sg1 rfl rfl rfl))) ?_
  refine Ex.icmp rfl rfl (fun (c0 : ¬ (y1 = 22)) => ?_) (fun (c0 : ¬ ¬ (y1 = 22)) => ?_)
  · rw [if_neg c0] at hf
    refine Ex.seg 2 (pc' := 60) (lc' := [some (.ref 67), some (.int y1), some (.int y2), some (.int y3), some (.int y4), some (.int y5), some (.int y6), some (.long z0), none, none, none, none, none]) (st' := [.int y5, .ref 67]) (h' := h) (sg1 rfl rfl (sg1 rfl rfl rfl)) ?_
    obtain ⟨q12, e_q12, hf⟩ := bnd hf
    refine Ex.callV (a := 67) (As := [.int y5]) (r := []) (v := some (.int q12.1)) (h' := q12.2) rfl rfl (by decide) rfl (Nat.le_of_ble_eq_true rfl) rfl (E_351 (Nat.le_trans (by decide) hd) e_q12) rfl ?_
    refine Ex.seg 3 (pc' := 68) (lc' := [some (.ref 67), some (.int y1), some (.int y2), some (.int y3), some (.int y4), some (.int y5), some (.int y6), some (.long z0), none, some (.int q12.1), none, none, none]) (st' := [.int y5, .ref 67]) (h' := q12.2) (sg1 rfl rfl (sg1 rfl rfl (sg1 rfl rfl rfl))) ?_
    obtain ⟨q13, e_q13, hf⟩ := bnd hf
    refine Ex.callV (a := 67) (As := [.int y5]) (r := []) (v := some (.long q13.1)) (h' := q13.2) rfl rfl (by decide) rfl (Nat.le_of_ble_eq_true rfl) rfl (E_352 (Nat.le_trans (by decide) hd) e_q13) rfl ?_
    refine Ex.seg 3 (pc' := 77) (lc' := [some (.ref 67), some (.int y1), some (.int y2), some (.int y3), some (.int y4), some (.int y5), some (.int y6), some (.long z0), none, some (.int q12.1), some (.long q13.1), none, none]) (st' := [.int y6, .int q12.1]) (h' := q13.2) (sg1 rfl rfl (sg1 rfl rfl (sg1 rfl rfl rfl))) ?_
    refine Ex.icmp rfl rfl (fun (c0 : ¬ (q12.1 = y6)) => ?_) (fun (c0 : ¬ ¬ (q12.1 = y6)) => ?_)
    · rw [if_neg c0] at hf
      exact Ex.weak (sm_le_s (sm_le_s (sm_le_s (sm_le_s (sm_le_s (sm_le_s (sm_le_s (sm_le_s (sm_le_s (sm_le_s (sm_le_s (sm_le_s (sm_le_s sm_le_nil))))))))))))) (B_360_88 hd  hf hs)
    · rw [if_pos (Classical.not_not.mp c0)] at hf
      refine Ex.seg 3 (pc' := 85) (lc' := [some (.ref 67), some (.int y1), some (.int y2), some (.int y3), some (.int y4), some (.int y5), some (.int y6), some (.long z0), none, some (.int q12.1), some (.long q13.1), none, none]) (st' := [.int (lg_cmp q13.1 z0)]) (h' := q13.2) (sg1 rfl rfl (sg1 rfl rfl (sg1 rfl rfl rfl))) ?_
      refine Ex.ifc rfl rfl (fun (c0 : (lg_cmp q13.1 z0) = 0) => ?_) (fun (c0 : ¬ ((lg_cmp q13.1 z0) = 0)) => ?_)
      · rw [if_pos c0] at hf
        exact Ex.weak (sm_le_s (sm_le_s (sm_le_s (sm_le_s (sm_le_s (sm_le_s (sm_le_s (sm_le_s (sm_le_s (sm_le_s (sm_le_s (sm_le_s (sm_le_s sm_le_nil))))))))))))) (B_360_106 hd  hf hs)
      · rw [if_neg c0] at hf
        exact Ex.weak (sm_le_s (sm_le_s (sm_le_s (sm_le_s (sm_le_s (sm_le_s (sm_le_s (sm_le_s (sm_le_s (sm_le_s (sm_le_s (sm_le_s (sm_le_s sm_le_nil))))))))))))) (B_360_88 hd  hf hs)
  · rw [if_pos (Classical.not_not.mp c0)] at hf
    refine Ex.seg 3 (pc' := 53) (lc' := [some (.ref 67), some (.int y1), some (.int y2), some (.int y3), some (.int y4), some (.int y5), some (.int y6), some (.long z0), none, none, none, none, none]) (st' := [.long z0, .int y6, .ref 67]) (h' := h) (sg1 rfl rfl (sg1 rfl rfl (sg1 rfl rfl rfl))) ?_
    obtain ⟨q14, e_q14, hf⟩ := bnd hf
    refine Ex.callV (a := 67) (As := [.int y6, .long z0]) (r := []) (v := none) (h' := q14) rfl rfl (by decide) rfl (Nat.le_of_ble_eq_true rfl) rfl (E_345 (Nat.le_trans (by decide) hd) e_q14) rfl ?_
    obtain rfl := Option.some.inj hf
    exact Ex.vret rfl rfl hs
theorem B_360_19 {L : Nat} {xs : Nat → Int32} {d : Nat} (hd : 3 ≤ d) {res : Option Value × sm_H} {y1 : Int32} {y2 : Int32} {y3 : Int32} {y4 : Int32} {y5 : Int32} {z0 : Int32}  {h : sm_H} {r : (sm_H)} (hf : F_360_19 y1 y2 y3 y4 y5 z0 h = some r) (hs : (fun (r : sm_H) => res = (none, r)) r) : Ex (P_G L xs) (RUN L xs d) (sm_lk P_t360) 0 19 [some (.ref 67), some (.int y1), some (.int y2), some (.int y3), some (.int y4), some (.int y5), none, none, none, none, none, none, none] [.int z0] h res := by
  unfold F_360_19 at hf
  refine Ex.seg 2 (pc' := 22) (lc' := [some (.ref 67), some (.int y1), some (.int y2), some (.int y3), some (.int y4), some (.int y5), some (.int z0), none, none, none, none, none, none]) (st' := [.int y3]) (h' := h) (sg1 rfl rfl (sg1 rfl rfl rfl)) ?_
  refine Ex.ifc rfl rfl (fun (c0 : y3 = 0) => ?_) (fun (c0 : ¬ (y3 = 0)) => ?_)
  · rw [if_pos c0] at hf
    refine Ex.seg 3 (pc' := 39) (lc' := [some (.ref 67), some (.int y1), some (.int y2), some (.int y3), some (.int y4), some (.int y5), some (.int z0), none, none, none, none, none, none]) (st' := [.int y2, .ref 99]) (h' := h) (sg1 rfl rfl (sg1 rfl rfl (sg1 rfl rfl rfl))) ?_
    obtain ⟨v15, e_v15, hf⟩ := bnd hf
    refine Ex.lald e_v15 rfl rfl ?_
    exact Ex.weak (sm_le_s (sm_le_s (sm_le_s (sm_le_s (sm_le_s (sm_le_s (sm_le_s (sm_le_s (sm_le_s (sm_le_s (sm_le_s (sm_le_s (sm_le_s sm_le_nil))))))))))))) (B_360_40 hd  hf hs)
  · rw [if_neg c0] at hf
    refine Ex.seg 3 (pc' := 30) (lc' := [some (.ref 67), some (.int y1), some (.int y2), some (.int y3), some (.int y4), some (.int y5), some (.int z0), none, none, none, none, none, none]) (st' := [.int y2, .ref 101]) (h' := h) (sg1 rfl rfl (sg1 rfl rfl (sg1 rfl rfl rfl))) ?_
    obtain ⟨v16, e_v16, hf⟩ := bnd hf
    refine Ex.lald e_v16 rfl rfl ?_
    refine Ex.seg 1 (pc' := 40) (lc' := [some (.ref 67), some (.int y1), some (.int y2), some (.int y3), some (.int y4), some (.int y5), some (.int z0), none, none, none, none, none, none]) (st' := [.long v16]) (h' := h) (sg1 rfl rfl rfl) ?_
    exact Ex.weak (sm_le_s (sm_le_s (sm_le_s (sm_le_s (sm_le_s (sm_le_s (sm_le_s (sm_le_s (sm_le_s (sm_le_s (sm_le_s (sm_le_s (sm_le_s sm_le_nil))))))))))))) (B_360_40 hd  hf hs)
theorem B_360_0 {L : Nat} {xs : Nat → Int32} {d : Nat} (hd : 3 ≤ d) {res : Option Value × sm_H} {x1 : Int32} {x2 : Int32} {x3 : Int32} {x4 : Int32} {x5 : Int32}  {h : sm_H} {r : (sm_H)} (hf : F_360_0 x1 x2 x3 x4 x5 h = some r) (hs : (fun (r : sm_H) => res = (none, r)) r) : Ex (P_G L xs) (RUN L xs d) (sm_lk P_t360) 0 0 [some (.ref 67), some (.int x1), some (.int x2), some (.int x3), some (.int x4), some (.int x5), none, none, none, none, none, none, none] [] h res := by
  unfold F_360_0 at hf
  refine Ex.seg 1 (pc' := 1) (lc' := [some (.ref 67), some (.int x1), some (.int x2), some (.int x3), some (.int x4), some (.int x5), none, none, none, none, none, none, none]) (st' := [.int x3]) (h' := h) (sg1 rfl rfl rfl) ?_
  refine Ex.ifc rfl rfl (fun (c0 : x3 = 0) => ?_) (fun (c0 : ¬ (x3 = 0)) => ?_)
  · rw [if_pos c0] at hf
    refine Ex.seg 3 (pc' := 18) (lc' := [some (.ref 67), some (.int x1), some (.int x2), some (.int x3), some (.int x4), some (.int x5), none, none, none, none, none, none, none]) (st' := [.int x2, .ref 98]) (h' := h) (sg1 rfl rfl (sg1 rfl rfl (sg1 rfl rfl rfl))) ?_
    obtain ⟨v17, e_v17, hf⟩ := bnd hf
    refine Ex.iald e_v17 rfl rfl ?_
    exact Ex.weak (sm_le_s (sm_le_s (sm_le_s (sm_le_s (sm_le_s (sm_le_s (sm_le_s (sm_le_s (sm_le_s (sm_le_s (sm_le_s (sm_le_s (sm_le_s sm_le_nil))))))))))))) (B_360_19 hd  hf hs)
  · rw [if_neg c0] at hf
    refine Ex.seg 3 (pc' := 9) (lc' := [some (.ref 67), some (.int x1), some (.int x2), some (.int x3), some (.int x4), some (.int x5), none, none, none, none, none, none, none]) (st' := [.int x2, .ref 100]) (h' := h) (sg1 rfl rfl (sg1 rfl rfl (sg1 rfl rfl rfl))) ?_
    obtain ⟨v18, e_v18, hf⟩ := bnd hf
    refine Ex.iald e_v18 rfl rfl ?_
    refine Ex.seg 1 (pc' := 19) (lc' := [some (.ref 67), some (.int x1), some (.int x2), some (.int x3), some (.int x4), some (.int x5), none, none, none, none, none, none, none]) (st' := [.int v18]) (h' := h) (sg1 rfl rfl rfl) ?_
    exact Ex.weak (sm_le_s (sm_le_s (sm_le_s (sm_le_s (sm_le_s (sm_le_s (sm_le_s (sm_le_s (sm_le_s (sm_le_s (sm_le_s (sm_le_s (sm_le_s sm_le_nil))))))))))))) (B_360_19 hd  hf hs)
theorem E_360 {L : Nat} {xs : Nat → Int32} {d : Nat} (hd : 4 ≤ d) {x1 : Int32} {x2 : Int32} {x3 : Int32} {x4 : Int32} {x5 : Int32} {h : sm_H} {r : sm_H} (hf : F_360 x1 x2 x3 x4 x5 h = some r) : RUN L xs d 360 [.ref 67, .int x1, .int x2, .int x3, .int x4, .int x5] h (none, r) := by
  obtain ⟨d, rfl⟩ : ∃ e, d = e + 1 := ⟨d - 1, by omega⟩
  exact ⟨Nat.le_of_ble_eq_true rfl, B_360_0 (by omega) hf rfl⟩
theorem B_361_67 {L : Nat} {xs : Nat → Int32} {d : Nat} (hd : 4 ≤ d) {res : Option Value × sm_H}   {h : sm_H} {r : (sm_H)} (hf : F_361_67  h = some r) (hs : (fun (r : sm_H) => res = (none, r)) r) : Ex (P_G L xs) (RUN L xs d) (sm_lk P_t361) 0 67 [some (.ref 67), none, none, none, none, none] [] h res := by
  unfold F_361_67 at hf
  refine Ex.seg 2 (pc' := 70) (lc' := [some (.ref 67), none, none, none, none, none]) (st' := [.int 6, .ref 67]) (h' := h) (sg1 rfl rfl (sg1 rfl rfl rfl)) ?_
  obtain ⟨q1, e_q1, hf⟩ := bnd hf
  refine Ex.callV (a := 67) (As := [.int 6]) (r := []) (v := none) (h' := q1) rfl rfl (by decide) rfl (Nat.le_of_ble_eq_true rfl) rfl (E_348 (Nat.le_trans (by decide) hd) e_q1) rfl ?_
  obtain rfl := Option.some.inj hf
  exact Ex.vret rfl rfl hs
theorem B_361_0 {L : Nat} {xs : Nat → Int32} {d : Nat} (hd : 4 ≤ d) {res : Option Value × sm_H} {x1 : Int32} {x2 : Int32}  {h : sm_H} {r : (sm_H)} (hf : F_361_0 x1 x2 h = some r) (hs : (fun (r : sm_H) => res = (none, r)) r) : Ex (P_G L xs) (RUN L xs d) (sm_lk P_t361) 0 0 [some (.ref 67), some (.int x1), some (.int x2), none, none, none] [] h res := by
  unfold F_361_0 at hf
  refine Ex.seg 2 (pc' := 2) (lc' := [some (.ref 67), some (.int x1), some (.int x2), none, none, none]) (st' := [.int 0, .ref 67]) (h' := h) (sg1 rfl rfl (sg1 rfl rfl rfl)) ?_
  obtain ⟨q2, e_q2, hf⟩ := bnd hf
  refine Ex.callV (a := 67) (As := [.int 0]) (r := []) (v := some (.int q2.1)) (h' := q2.2) rfl rfl (by decide) rfl (Nat.le_of_ble_eq_true rfl) rfl (E_351 (Nat.le_trans (by decide) hd) e_q2) rfl ?_
  refine Ex.ifc rfl rfl (fun (c0 : ¬ (q2.1 = 0)) => ?_) (fun (c0 : ¬ ¬ (q2.1 = 0)) => ?_)
  · rw [if_neg c0] at hf
    refine Ex.seg 2 (pc' := 16) (lc' := [some (.ref 67), some (.int x1), some (.int x2), none, none, none]) (st' := [.int 0, .ref 67]) (h' := q2.2) (sg1 rfl rfl (sg1 rfl rfl rfl)) ?_
    obtain ⟨q3, e_q3, hf⟩ := bnd hf
    refine Ex.callV (a := 67) (As := [.int 0]) (r := []) (v := some (.long q3.1)) (h' := q3.2) rfl rfl (by decide) rfl (Nat.le_of_ble_eq_true rfl) rfl (E_352 (Nat.le_trans (by decide) hd) e_q3) rfl ?_
    refine Ex.seg 2 (pc' := 21) (lc' := [some (.ref 67), some (.int x1), some (.int x2), some (.int (Int64.toInt32 q3.1)), none, none]) (st' := []) (h' := q3.2) (sg1 rfl rfl (sg1 rfl rfl rfl)) ?_
    obtain ⟨v4, e_v4, hf⟩ := bnd hf
    rw [Option.some.inj e_v4]
    refine Ex.seg 2 (pc' := 24) (lc' := [some (.ref 67), some (.int x1), some (.int x2), some (.int v4), none, none]) (st' := [.int 21, .int x1]) (h' := q3.2) (sg1 rfl rfl (sg1 rfl rfl rfl)) ?_
    refine Ex.icmp rfl rfl (fun (c0 : ¬ (x1 = 21)) => ?_) (fun (c0 : ¬ ¬ (x1 = 21)) => ?_)
    · rw [if_neg c0] at hf
      refine Ex.seg 2 (pc' := 42) (lc' := [some (.ref 67), some (.int x1), some (.int x2), some (.int v4), none, none]) (st' := [.int 1, .ref 67]) (h' := q3.2) (sg1 rfl rfl (sg1 rfl rfl rfl)) ?_
      obtain ⟨q5, e_q5, hf⟩ := bnd hf
      refine Ex.callV (a := 67) (As := [.int 1]) (r := []) (v := some (.long q5.1)) (h' := q5.2) rfl rfl (by decide) rfl (Nat.le_of_ble_eq_true rfl) rfl (E_352 (Nat.le_trans (by decide) hd) e_q5) rfl ?_
      refine Ex.seg 4 (pc' := 51) (lc' := [some (.ref 67), some (.int x1), some (.int x2), some (.int v4), some (.long q5.1), none]) (st' := [.int (lg_cmp q5.1 0)]) (h' := q5.2) (sg1 rfl rfl (sg1 rfl rfl (sg1 rfl rfl (sg1 rfl rfl rfl)))) ?_
      refine Ex.ifc rfl rfl (fun (c0 : (lg_cmp q5.1 0) < 0) => ?_) (fun (c0 : ¬ ((lg_cmp q5.1 0) < 0)) => ?_)
      · rw [if_pos c0] at hf
        exact Ex.weak (sm_le_s (sm_le_n (sm_le_n (sm_le_n (sm_le_n (sm_le_s sm_le_nil)))))) (B_361_67 hd  hf hs)
      · rw [if_neg c0] at hf
        refine Ex.seg 4 (pc' := 61) (lc' := [some (.ref 67), some (.int x1), some (.int x2), some (.int v4), some (.long q5.1), none]) (st' := [.int v4, .ref 97, .long q5.1]) (h' := q5.2) (sg1 rfl rfl (sg1 rfl rfl (sg1 rfl rfl (sg1 rfl rfl rfl)))) ?_
        obtain ⟨v6, e_v6, hf⟩ := bnd hf
        refine Ex.iald e_v6 rfl rfl ?_
        refine Ex.seg 2 (pc' := 64) (lc' := [some (.ref 67), some (.int x1), some (.int x2), some (.int v4), some (.long q5.1), none]) (st' := [.int (lg_cmp q5.1 (Int32.toInt64 v6))]) (h' := q5.2) (sg1 rfl rfl (sg1 rfl rfl rfl)) ?_
        refine Ex.ifc rfl rfl (fun (c0 : (lg_cmp q5.1 (Int32.toInt64 v6)) < 0) => ?_) (fun (c0 : ¬ ((lg_cmp q5.1 (Int32.toInt64 v6)) < 0)) => ?_)
        · rw [if_pos c0] at hf
          refine Ex.seg 10 (pc' := 86) (lc' := [some (.ref 67), some (.int x1), some (.int x2), some (.int v4), some (.long q5.1), none]) (st' := [.int x2, .int 0, .int ((100 * v4) + (Int64.toInt32 q5.1)), .int x1, .ref 67]) (h' := q5.2) (sg1 rfl rfl (sg1 rfl rfl (sg1 rfl rfl (sg1 rfl rfl (sg1 rfl rfl (sg1 rfl rfl (sg1 rfl rfl (sg1 rfl rfl (sg1 rfl rfl (sg1 rfl rfl rfl)))))))))) ?_
          obtain ⟨q7, e_q7, hf⟩ := bnd hf
          refine Ex.callS (As := [.int x2]) (r := [.int 0, .int ((100 * v4) + (Int64.toInt32 q5.1)), .int x1, .ref 67]) (v := some (.int q7.1)) (h' := q7.2) rfl rfl rfl rfl (Nat.le_of_ble_eq_true rfl) (E_294 (Nat.le_trans (by decide) hd) e_q7) rfl ?_
          refine Ex.seg 1 (pc' := 90) (lc' := [some (.ref 67), some (.int x1), some (.int x2), some (.int v4), some (.long q5.1), none]) (st' := [.int 2, .int q7.1, .int 0, .int ((100 * v4) + (Int64.toInt32 q5.1)), .int x1, .ref 67]) (h' := q7.2) (sg1 rfl rfl rfl) ?_
          obtain ⟨q8, e_q8, hf⟩ := bnd hf
          refine Ex.callV (a := 67) (As := [.int x1, .int ((100 * v4) + (Int64.toInt32 q5.1)), .int 0, .int q7.1, .int 2]) (r := []) (v := none) (h' := q8) rfl rfl (by decide) rfl (Nat.le_of_ble_eq_true rfl) rfl (E_360 (Nat.le_trans (by decide) hd) e_q8) rfl ?_
          obtain rfl := Option.some.inj hf
          exact Ex.vret rfl rfl hs
        · rw [if_neg c0] at hf
          exact Ex.weak (sm_le_s (sm_le_n (sm_le_n (sm_le_n (sm_le_n (sm_le_s sm_le_nil)))))) (B_361_67 hd  hf hs)
    · rw [if_pos (Classical.not_not.mp c0)] at hf
      refine Ex.seg 5 (pc' := 34) (lc' := [some (.ref 67), some (.int x1), some (.int x2), some (.int v4), none, none]) (st' := [.int v4, .ref 97, .int 5, .ref 67]) (h' := q3.2) (sg1 rfl rfl (sg1 rfl rfl (sg1 rfl rfl (sg1 rfl rfl (sg1 rfl rfl rfl))))) ?_
      obtain ⟨v9, e_v9, hf⟩ := bnd hf
      refine Ex.iald e_v9 rfl rfl ?_
      refine Ex.seg 1 (pc' := 36) (lc' := [some (.ref 67), some (.int x1), some (.int x2), some (.int v4), none, none]) (st' := [.long (Int32.toInt64 v9), .int 5, .ref 67]) (h' := q3.2) (sg1 rfl rfl rfl) ?_
      obtain ⟨q10, e_q10, hf⟩ := bnd hf
      refine Ex.callV (a := 67) (As := [.int 5, .long (Int32.toInt64 v9)]) (r := []) (v := none) (h' := q10) rfl rfl (by decide) rfl (Nat.le_of_ble_eq_true rfl) rfl (E_345 (Nat.le_trans (by decide) hd) e_q10) rfl ?_
      obtain rfl := Option.some.inj hf
      exact Ex.vret rfl rfl hs
  · rw [if_pos (Classical.not_not.mp c0)] at hf
    refine Ex.seg 2 (pc' := 10) (lc' := [some (.ref 67), some (.int x1), some (.int x2), none, none, none]) (st' := [.int 1, .ref 67]) (h' := q2.2) (sg1 rfl rfl (sg1 rfl rfl rfl)) ?_
    obtain ⟨q11, e_q11, hf⟩ := bnd hf
    refine Ex.callV (a := 67) (As := [.int 1]) (r := []) (v := none) (h' := q11) rfl rfl (by decide) rfl (Nat.le_of_ble_eq_true rfl) rfl (E_348 (Nat.le_trans (by decide) hd) e_q11) rfl ?_
    obtain rfl := Option.some.inj hf
    exact Ex.vret rfl rfl hs
theorem E_361 {L : Nat} {xs : Nat → Int32} {d : Nat} (hd : 5 ≤ d) {x1 : Int32} {x2 : Int32} {h : sm_H} {r : sm_H} (hf : F_361 x1 x2 h = some r) : RUN L xs d 361 [.ref 67, .int x1, .int x2] h (none, r) := by
  obtain ⟨d, rfl⟩ : ∃ e, d = e + 1 := ⟨d - 1, by omega⟩
  exact ⟨Nat.le_of_ble_eq_true rfl, B_361_0 (by omega) hf rfl⟩
theorem B_362_53 {L : Nat} {xs : Nat → Int32} {d : Nat} (hd : 4 ≤ d) {res : Option Value × sm_H} {y1 : Int32} {y2 : Int32} {y3 : Int32} {y4 : Int32} {z0 : Int32}  {h : sm_H} {r : (sm_H)} (hf : F_362_53 y1 y2 y3 y4 z0 h = some r) (hs : (fun (r : sm_H) => res = (none, r)) r) : Ex (P_G L xs) (RUN L xs d) (sm_lk P_t362) 0 53 [some (.ref 67), some (.int y1), some (.int y2), some (.int y3), some (.int y4), none] [.int z0] h res := by
  unfold F_362_53 at hf
  refine Ex.seg 12 (pc' := 70) (lc' := [some (.ref 67), some (.int y1), some (.int y2), some (.int y3), some (.int y4), some (.int z0)]) (st' := [.int y1, .ref 88, .int y3, .int z0, .int ((22 + y2) - 4), .ref 67]) (h' := h) (sg1 rfl rfl (sg1 rfl rfl (sg1 rfl rfl (sg1 rfl rfl (sg1 rfl rfl (sg1 rfl rfl (sg1 rfl rfl (sg1 rfl rfl (sg1 rfl rfl (sg1 rfl rfl (sg1 rfl rfl (sg1 rfl rfl rfl)))))))))))) ?_
  obtain ⟨v1, e_v1, hf⟩ := bnd hf
  refine Ex.iald e_v1 rfl rfl ?_
  refine Ex.seg 1 (pc' := 73) (lc' := [some (.ref 67), some (.int y1), some (.int y2), some (.int y3), some (.int y4), some (.int z0)]) (st' := [.int y4, .int v1, .int y3, .int z0, .int ((22 + y2) - 4), .ref 67]) (h' := h) (sg1 rfl rfl rfl) ?_
  obtain ⟨q2, e_q2, hf⟩ := bnd hf
  refine Ex.callV (a := 67) (As := [.int ((22 + y2) - 4), .int z0, .int y3, .int v1, .int y4]) (r := []) (v := none) (h' := q2) rfl rfl (by decide) rfl (Nat.le_of_ble_eq_true rfl) rfl (E_360 (Nat.le_trans (by decide) hd) e_q2) rfl ?_
  obtain rfl := Option.some.inj hf
  exact Ex.vret rfl rfl hs
theorem B_362_29 {L : Nat} {xs : Nat → Int32} {d : Nat} (hd : 4 ≤ d) {res : Option Value × sm_H} {y1 : Int32} {y2 : Int32} {y3 : Int32} {y4 : Int32}  {h : sm_H} {r : (sm_H)} (hf : F_362_29 y1 y2 y3 y4 h = some r) (hs : (fun (r : sm_H) => res = (none, r)) r) : Ex (P_G L xs) (RUN L xs d) (sm_lk P_t362) 0 29 [some (.ref 67), some (.int y1), some (.int y2), some (.int y3), some (.int y4), none] [] h res := by
  unfold F_362_29 at hf
  refine Ex.seg 1 (pc' := 30) (lc' := [some (.ref 67), some (.int y1), some (.int y2), some (.int y3), some (.int y4), none]) (st' := [.int y3]) (h' := h) (sg1 rfl rfl rfl) ?_
  refine Ex.ifc rfl rfl (fun (c0 : y3 = 0) => ?_) (fun (c0 : ¬ (y3 = 0)) => ?_)
  · rw [if_pos c0] at hf
    refine Ex.seg 3 (pc' := 41) (lc' := [some (.ref 67), some (.int y1), some (.int y2), some (.int y3), some (.int y4), none]) (st' := [.int 0, .ref 67, .int 100]) (h' := h) (sg1 rfl rfl (sg1 rfl rfl (sg1 rfl rfl rfl))) ?_
    obtain ⟨q3, e_q3, hf⟩ := bnd hf
    refine Ex.callV (a := 67) (As := [.int 0]) (r := [.int 100]) (v := some (.long q3.1)) (h' := q3.2) rfl rfl (by decide) rfl (Nat.le_of_ble_eq_true rfl) rfl (E_352 (Nat.le_trans (by decide) hd) e_q3) rfl ?_
    refine Ex.seg 5 (pc' := 51) (lc' := [some (.ref 67), some (.int y1), some (.int y2), some (.int y3), some (.int y4), none]) (st' := [.int y1, .ref 91, .int (100 * (Int64.toInt32 q3.1))]) (h' := q3.2) (sg1 rfl rfl (sg1 rfl rfl (sg1 rfl rfl (sg1 rfl rfl (sg1 rfl rfl rfl))))) ?_
    obtain ⟨v4, e_v4, hf⟩ := bnd hf
    refine Ex.iald e_v4 rfl rfl ?_
    refine Ex.seg 1 (pc' := 53) (lc' := [some (.ref 67), some (.int y1), some (.int y2), some (.int y3), some (.int y4), none]) (st' := [.int ((100 * (Int64.toInt32 q3.1)) + v4)]) (h' := q3.2) (sg1 rfl rfl rfl) ?_
    exact Ex.weak (sm_le_s (sm_le_s (sm_le_s (sm_le_s (sm_le_s (sm_le_s sm_le_nil)))))) (B_362_53 hd  hf hs)
  · rw [if_neg c0] at hf
    refine Ex.seg 2 (pc' := 53) (lc' := [some (.ref 67), some (.int y1), some (.int y2), some (.int y3), some (.int y4), none]) (st' := [.int y1]) (h' := h) (sg1 rfl rfl (sg1 rfl rfl rfl)) ?_
    exact Ex.weak (sm_le_s (sm_le_s (sm_le_s (sm_le_s (sm_le_s (sm_le_s sm_le_nil)))))) (B_362_53 hd  hf hs)
theorem B_362_9 {L : Nat} {xs : Nat → Int32} {d : Nat} (hd : 4 ≤ d) {res : Option Value × sm_H} {y1 : Int32} {y2 : Int32} {y3 : Int32} {z0 : Int32}  {h : sm_H} {r : (sm_H)} (hf : F_362_9 y1 y2 y3 z0 h = some r) (hs : (fun (r : sm_H) => res = (none, r)) r) : Ex (P_G L xs) (RUN L xs d) (sm_lk P_t362) 0 9 [some (.ref 67), some (.int y1), some (.int y2), some (.int y3), none, none] [.int z0] h res := by
  unfold F_362_9 at hf
  refine Ex.seg 2 (pc' := 12) (lc' := [some (.ref 67), some (.int y1), some (.int y2), some (.int y3), some (.int z0), none]) (st' := [.int y3]) (h' := h) (sg1 rfl rfl (sg1 rfl rfl rfl)) ?_
  refine Ex.ifc rfl rfl (fun (c0 : ¬ (y3 = 0)) => ?_) (fun (c0 : ¬ ¬ (y3 = 0)) => ?_)
  · rw [if_neg c0] at hf
    exact Ex.weak (sm_le_s (sm_le_s (sm_le_s (sm_le_s (sm_le_s (sm_le_s sm_le_nil)))))) (B_362_29 hd  hf hs)
  · rw [if_pos (Classical.not_not.mp c0)] at hf
    refine Ex.seg 2 (pc' := 17) (lc' := [some (.ref 67), some (.int y1), some (.int y2), some (.int y3), some (.int z0), none]) (st' := [.int 0, .ref 67]) (h' := h) (sg1 rfl rfl (sg1 rfl rfl rfl)) ?_
    obtain ⟨q5, e_q5, hf⟩ := bnd hf
    refine Ex.callV (a := 67) (As := [.int 0]) (r := []) (v := some (.int q5.1)) (h' := q5.2) rfl rfl (by decide) rfl (Nat.le_of_ble_eq_true rfl) rfl (E_351 (Nat.le_trans (by decide) hd) e_q5) rfl ?_
    refine Ex.ifc rfl rfl (fun (c0 : ¬ (q5.1 = 0)) => ?_) (fun (c0 : ¬ ¬ (q5.1 = 0)) => ?_)
    · rw [if_neg c0] at hf
      exact Ex.weak (sm_le_s (sm_le_s (sm_le_s (sm_le_s (sm_le_s (sm_le_s sm_le_nil)))))) (B_362_29 hd  hf hs)
    · rw [if_pos (Classical.not_not.mp c0)] at hf
      refine Ex.seg 2 (pc' := 25) (lc' := [some (.ref 67), some (.int y1), some (.int y2), some (.int y3), some (.int z0), none]) (st' := [.int 1, .ref 67]) (h' := q5.2) (sg1 rfl rfl (sg1 rfl rfl rfl)) ?_
      obtain ⟨q6, e_q6, hf⟩ := bnd hf
      refine Ex.callV (a := 67) (As := [.int 1]) (r := []) (v := none) (h' := q6) rfl rfl (by decide) rfl (Nat.le_of_ble_eq_true rfl) rfl (E_348 (Nat.le_trans (by decide) hd) e_q6) rfl ?_
      obtain rfl := Option.some.inj hf
      exact Ex.vret rfl rfl hs
theorem B_362_0 {L : Nat} {xs : Nat → Int32} {d : Nat} (hd : 4 ≤ d) {res : Option Value × sm_H} {x1 : Int32} {x2 : Int32} {x3 : Int32}  {h : sm_H} {r : (sm_H)} (hf : F_362_0 x1 x2 x3 h = some r) (hs : (fun (r : sm_H) => res = (none, r)) r) : Ex (P_G L xs) (RUN L xs d) (sm_lk P_t362) 0 0 [some (.ref 67), some (.int x1), some (.int x2), some (.int x3), none, none] [] h res := by
  unfold F_362_0 at hf
  refine Ex.seg 1 (pc' := 1) (lc' := [some (.ref 67), some (.int x1), some (.int x2), some (.int x3), none, none]) (st' := [.int x3]) (h' := h) (sg1 rfl rfl rfl) ?_
  refine Ex.ifc rfl rfl (fun (c0 : x3 = 0) => ?_) (fun (c0 : ¬ (x3 = 0)) => ?_)
  · rw [if_pos c0] at hf
    refine Ex.seg 1 (pc' := 9) (lc' := [some (.ref 67), some (.int x1), some (.int x2), some (.int x3), none, none]) (st' := [.int 1]) (h' := h) (sg1 rfl rfl rfl) ?_
    exact Ex.weak (sm_le_s (sm_le_s (sm_le_s (sm_le_s (sm_le_s (sm_le_s sm_le_nil)))))) (B_362_9 hd  hf hs)
  · rw [if_neg c0] at hf
    refine Ex.seg 2 (pc' := 9) (lc' := [some (.ref 67), some (.int x1), some (.int x2), some (.int x3), none, none]) (st' := [.int 0]) (h' := h) (sg1 rfl rfl (sg1 rfl rfl rfl)) ?_
    exact Ex.weak (sm_le_s (sm_le_s (sm_le_s (sm_le_s (sm_le_s (sm_le_s sm_le_nil)))))) (B_362_9 hd  hf hs)
theorem E_362 {L : Nat} {xs : Nat → Int32} {d : Nat} (hd : 5 ≤ d) {x1 : Int32} {x2 : Int32} {x3 : Int32} {h : sm_H} {r : sm_H} (hf : F_362 x1 x2 x3 h = some r) : RUN L xs d 362 [.ref 67, .int x1, .int x2, .int x3] h (none, r) := by
  obtain ⟨d, rfl⟩ : ∃ e, d = e + 1 := ⟨d - 1, by omega⟩
  exact ⟨Nat.le_of_ble_eq_true rfl, B_362_0 (by omega) hf rfl⟩
theorem B_364_46 {L : Nat} {xs : Nat → Int32} {d : Nat} (hd : 0 ≤ d) {res : Option Value × sm_H} {z0 : Int32}  {h : sm_H} {r : (Int32 × sm_H)} (hf : F_364_46 z0 h = some r) (hs : (fun (r : Int32 × sm_H) => res = (some (.int r.1), r.2)) r) : Ex (P_G L xs) (RUN L xs d) (sm_lk P_t364) 3 46 [none, none] [.int z0] h res := by
  unfold F_364_46 at hf
  rcases Classical.em (z0 = 0 ∨ z0 = 1) with c0 | c0
  · rw [if_pos c0] at hf
    obtain rfl := Option.some.inj hf
    exact Ex.iret rfl rfl (fun _ => c0) hs
  · rw [if_neg c0] at hf
    cases hf
theorem B_364_45 {L : Nat} {xs : Nat → Int32} {d : Nat} (hd : 0 ≤ d) {res : Option Value × sm_H}   {h : sm_H} {r : (Int32 × sm_H)} (hf : F_364_45  h = some r) (hs : (fun (r : Int32 × sm_H) => res = (some (.int r.1), r.2)) r) : Ex (P_G L xs) (RUN L xs d) (sm_lk P_t364) 3 45 [none, none] [] h res := by
  unfold F_364_45 at hf
  refine Ex.seg 1 (pc' := 46) (lc' := [none, none]) (st' := [.int 0]) (h' := h) (sg1 rfl rfl rfl) ?_
  exact Ex.weak (sm_le_s (sm_le_s sm_le_nil)) (B_364_46 hd  hf hs)
theorem B_364_0 {L : Nat} {xs : Nat → Int32} {d : Nat} (hd : 0 ≤ d) {res : Option Value × sm_H} {x1 : Int32}  {h : sm_H} {r : (Int32 × sm_H)} (hf : F_364_0 x1 h = some r) (hs : (fun (r : Int32 × sm_H) => res = (some (.int r.1), r.2)) r) : Ex (P_G L xs) (RUN L xs d) (sm_lk P_t364) 3 0 [some (.ref 67), some (.int x1)] [] h res := by
  unfold F_364_0 at hf
  refine Ex.seg 3 (pc' := 5) (lc' := [some (.ref 67), some (.int x1)]) (st' := [.int x1, .ref 87]) (h' := h) (sg1 rfl rfl (sg1 rfl rfl (sg1 rfl rfl rfl))) ?_
  obtain ⟨v1, e_v1, hf⟩ := bnd hf
  refine Ex.zald e_v1 rfl rfl ?_
  refine Ex.ifc rfl rfl (fun (c0 : ¬ (v1 = 0)) => ?_) (fun (c0 : ¬ ¬ (v1 = 0)) => ?_)
  · rw [if_neg c0] at hf
    exact Ex.weak (sm_le_n (sm_le_n sm_le_nil)) (B_364_45 hd  hf hs)
  · rw [if_pos (Classical.not_not.mp c0)] at hf
    refine Ex.seg 3 (pc' := 14) (lc' := [some (.ref 67), some (.int x1)]) (st' := [.int x1, .ref 86]) (h' := h) (sg1 rfl rfl (sg1 rfl rfl (sg1 rfl rfl rfl))) ?_
    obtain ⟨v2, e_v2, hf⟩ := bnd hf
    refine Ex.zald e_v2 rfl rfl ?_
    refine Ex.ifc rfl rfl (fun (c0 : ¬ (v2 = 0)) => ?_) (fun (c0 : ¬ ¬ (v2 = 0)) => ?_)
    · rw [if_neg c0] at hf
      exact Ex.weak (sm_le_n (sm_le_n sm_le_nil)) (B_364_45 hd  hf hs)
    · rw [if_pos (Classical.not_not.mp c0)] at hf
      refine Ex.seg 3 (pc' := 23) (lc' := [some (.ref 67), some (.int x1)]) (st' := [.int x1, .ref 84]) (h' := h) (sg1 rfl rfl (sg1 rfl rfl (sg1 rfl rfl rfl))) ?_
      obtain ⟨v3, e_v3, hf⟩ := bnd hf
      refine Ex.iald e_v3 rfl rfl ?_
      refine Ex.ifc rfl rfl (fun (c0 : ¬ (v3 = 0)) => ?_) (fun (c0 : ¬ ¬ (v3 = 0)) => ?_)
      · rw [if_neg c0] at hf
        exact Ex.weak (sm_le_n (sm_le_n sm_le_nil)) (B_364_45 hd  hf hs)
      · rw [if_pos (Classical.not_not.mp c0)] at hf
        refine Ex.seg 5 (pc' := 36) (lc' := [some (.ref 67), some (.int x1)]) (st' := [.int x1, .ref 89, .ref 72]) (h' := h) (sg1 rfl rfl (sg1 rfl rfl (sg1 rfl rfl (sg1 rfl rfl (sg1 rfl rfl rfl))))) ?_
        obtain ⟨v4, e_v4, hf⟩ := bnd hf
        refine Ex.iald e_v4 rfl rfl ?_
        obtain ⟨v5, e_v5, hf⟩ := bnd hf
        refine Ex.iald e_v5 rfl rfl ?_
        refine Ex.ifc rfl rfl (fun (c0 : ¬ (v5 = 0)) => ?_) (fun (c0 : ¬ ¬ (v5 = 0)) => ?_)
        · rw [if_neg c0] at hf
          exact Ex.weak (sm_le_n (sm_le_n sm_le_nil)) (B_364_45 hd  hf hs)
        · rw [if_pos (Classical.not_not.mp c0)] at hf
          refine Ex.seg 2 (pc' := 46) (lc' := [some (.ref 67), some (.int x1)]) (st' := [.int 1]) (h' := h) (sg1 rfl rfl (sg1 rfl rfl rfl)) ?_
          exact Ex.weak (sm_le_n (sm_le_n sm_le_nil)) (B_364_46 hd  hf hs)
theorem E_364 {L : Nat} {xs : Nat → Int32} {d : Nat} (hd : 1 ≤ d) {x1 : Int32} {h : sm_H} {r : Int32 × sm_H} (hf : F_364 x1 h = some r) : RUN L xs d 364 [.ref 67, .int x1] h (some (.int r.1), r.2) := by
  obtain ⟨d, rfl⟩ : ∃ e, d = e + 1 := ⟨d - 1, by omega⟩
  exact ⟨Nat.le_of_ble_eq_true rfl, B_364_0 (by omega) hf rfl⟩
theorem B_365_120 {L : Nat} {xs : Nat → Int32} {d : Nat} (hd : 4 ≤ d) {res : Option Value × sm_H}   {h : sm_H} {r : (sm_H)} (hf : F_365_120  h = some r) (hs : (fun (r : sm_H) => res = (none, r)) r) : Ex (P_G L xs) (RUN L xs d) (sm_lk P_t365) 0 120 [none, none, none, none, none] [] h res := by
  unfold F_365_120 at hf
  obtain rfl := Option.some.inj hf
  exact Ex.vret rfl rfl hs
theorem B_365_82 {L : Nat} {xs : Nat → Int32} {d : Nat} (hd : 4 ≤ d) {res : Option Value × sm_H}   {h : sm_H} {r : (sm_H)} (hf : F_365_82  h = some r) (hs : (fun (r : sm_H) => res = (none, r)) r) : Ex (P_G L xs) (RUN L xs d) (sm_lk P_t365) 0 82 [some (.ref 67), none, none, none, none] [] h res := by
  unfold F_365_82 at hf
  refine Ex.seg 2 (pc' := 84) (lc' := [some (.ref 67), none, none, none, none]) (st' := [.int 5, .ref 67]) (h' := h) (sg1 rfl rfl (sg1 rfl rfl rfl)) ?_
  obtain ⟨q1, e_q1, hf⟩ := bnd hf
  refine Ex.callV (a := 67) (As := [.int 5]) (r := []) (v := none) (h' := q1) rfl rfl (by decide) rfl (Nat.le_of_ble_eq_true rfl) rfl (E_348 (Nat.le_trans (by decide) hd) e_q1) rfl ?_
  refine Ex.seg 1 (pc' := 120) (lc' := [some (.ref 67), none, none, none, none]) (st' := []) (h' := q1) (sg1 rfl rfl rfl) ?_
  exact Ex.weak (sm_le_n (sm_le_s (sm_le_s (sm_le_s (sm_le_s sm_le_nil))))) (B_365_120 hd  hf hs)
theorem B_365_0 {L : Nat} {xs : Nat → Int32} {d : Nat} (hd : 4 ≤ d) {res : Option Value × sm_H} {x1 : Int32} {x2 : Int32}  {h : sm_H} {r : (sm_H)} (hf : F_365_0 x1 x2 h = some r) (hs : (fun (r : sm_H) => res = (none, r)) r) : Ex (P_G L xs) (RUN L xs d) (sm_lk P_t365) 0 0 [some (.ref 67), some (.int x1), some (.int x2), none, none] [] h res := by
  unfold F_365_0 at hf
  refine Ex.seg 2 (pc' := 2) (lc' := [some (.ref 67), some (.int x1), some (.int x2), none, none]) (st' := [.int 0, .ref 67]) (h' := h) (sg1 rfl rfl (sg1 rfl rfl rfl)) ?_
  obtain ⟨q2, e_q2, hf⟩ := bnd hf
  refine Ex.callV (a := 67) (As := [.int 0]) (r := []) (v := some (.int q2.1)) (h' := q2.2) rfl rfl (by decide) rfl (Nat.le_of_ble_eq_true rfl) rfl (E_351 (Nat.le_trans (by decide) hd) e_q2) rfl ?_
  refine Ex.ifc rfl rfl (fun (c0 : ¬ (q2.1 = 0)) => ?_) (fun (c0 : ¬ ¬ (q2.1 = 0)) => ?_)
  · rw [if_neg c0] at hf
    refine Ex.seg 2 (pc' := 16) (lc' := [some (.ref 67), some (.int x1), some (.int x2), none, none]) (st' := [.int 0, .ref 67]) (h' := q2.2) (sg1 rfl rfl (sg1 rfl rfl rfl)) ?_
    obtain ⟨q3, e_q3, hf⟩ := bnd hf
    refine Ex.callV (a := 67) (As := [.int 0]) (r := []) (v := some (.long q3.1)) (h' := q3.2) rfl rfl (by decide) rfl (Nat.le_of_ble_eq_true rfl) rfl (E_352 (Nat.le_trans (by decide) hd) e_q3) rfl ?_
    refine Ex.seg 2 (pc' := 21) (lc' := [some (.ref 67), some (.int x1), some (.int x2), some (.int (Int64.toInt32 q3.1)), none]) (st' := []) (h' := q3.2) (sg1 rfl rfl (sg1 rfl rfl rfl)) ?_
    obtain ⟨v4, e_v4, hf⟩ := bnd hf
    rw [Option.some.inj e_v4]
    refine Ex.seg 6 (pc' := 31) (lc' := [some (.ref 67), some (.int x1), some (.int x2), some (.int v4), none]) (st' := [.int ((q3.2.1 67 56) - 1), .ref 105]) (h' := q3.2) (sg1 rfl rfl (sg1 rfl rfl (sg1 rfl rfl (sg1 rfl rfl (sg1 rfl rfl (sg1 rfl rfl rfl)))))) ?_
    obtain ⟨v5, e_v5, hf⟩ := bnd hf
    refine Ex.iald e_v5 rfl rfl ?_
    refine Ex.seg 3 (pc' := 36) (lc' := [some (.ref 67), some (.int x1), some (.int x2), some (.int v4), some (.int (v5 + 1))]) (st' := []) (h' := q3.2) (sg1 rfl rfl (sg1 rfl rfl (sg1 rfl rfl rfl))) ?_
    obtain ⟨v6, e_v6, hf⟩ := bnd hf
    rw [Option.some.inj e_v6]
    refine Ex.seg 3 (pc' := 41) (lc' := [some (.ref 67), some (.int x1), some (.int x2), some (.int v4), some (.int v6)]) (st' := [.int v4, .ref 76]) (h' := q3.2) (sg1 rfl rfl (sg1 rfl rfl (sg1 rfl rfl rfl))) ?_
    obtain ⟨v7, e_v7, hf⟩ := bnd hf
    refine Ex.iald e_v7 rfl rfl ?_
    refine Ex.seg 1 (pc' := 43) (lc' := [some (.ref 67), some (.int x1), some (.int x2), some (.int v4), some (.int v6)]) (st' := [.int x1, .int v7]) (h' := q3.2) (sg1 rfl rfl rfl) ?_
    refine Ex.icmp rfl rfl (fun (c0 : ¬ (v7 = x1)) => ?_) (fun (c0 : ¬ ¬ (v7 = x1)) => ?_)
    · rw [if_neg c0] at hf
      refine Ex.seg 1 (pc' := 69) (lc' := [some (.ref 67), some (.int x1), some (.int x2), some (.int v4), some (.int v6)]) (st' := [.int x2]) (h' := q3.2) (sg1 rfl rfl rfl) ?_
      refine Ex.ifc rfl rfl (fun (c0 : x2 = 0) => ?_) (fun (c0 : ¬ (x2 = 0)) => ?_)
      · rw [if_pos c0] at hf
        exact Ex.weak (sm_le_s (sm_le_n (sm_le_n (sm_le_n (sm_le_n sm_le_nil))))) (B_365_82 hd  hf hs)
      · rw [if_neg c0] at hf
        refine Ex.seg 4 (pc' := 76) (lc' := [some (.ref 67), some (.int x1), some (.int x2), some (.int v4), some (.int v6)]) (st' := [.int 0, .int x1, .int v4, .ref 67]) (h' := q3.2) (sg1 rfl rfl (sg1 rfl rfl (sg1 rfl rfl (sg1 rfl rfl rfl)))) ?_
        obtain ⟨q8, e_q8, hf⟩ := bnd hf
        refine Ex.callV (a := 67) (As := [.int v4, .int x1, .int 0]) (r := []) (v := some (.int q8.1)) (h' := q8.2) rfl rfl (by decide) rfl (Nat.le_of_ble_eq_true rfl) rfl (E_326 (Nat.le_trans (by decide) hd) e_q8) rfl ?_
        refine Ex.ifc rfl rfl (fun (c0 : ¬ (q8.1 = 0)) => ?_) (fun (c0 : ¬ ¬ (q8.1 = 0)) => ?_)
        · rw [if_neg c0] at hf
          refine Ex.seg 5 (pc' := 95) (lc' := [some (.ref 67), some (.int x1), some (.int x2), some (.int v4), some (.int v6)]) (st' := [.int 1, .int 0, .int x1, .int v4, .ref 67]) (h' := q8.2) (sg1 rfl rfl (sg1 rfl rfl (sg1 rfl rfl (sg1 rfl rfl (sg1 rfl rfl rfl))))) ?_
          obtain ⟨q9, e_q9, hf⟩ := bnd hf
          refine Ex.callV (a := 67) (As := [.int v4, .int x1, .int 0, .int 1]) (r := []) (v := some (.int q9.1)) (h' := q9.2) rfl rfl (by decide) rfl (Nat.le_of_ble_eq_true rfl) rfl (E_356 (Nat.le_trans (by decide) hd) e_q9) rfl ?_
          refine Ex.ifc rfl rfl (fun (c0 : q9.1 = 0) => ?_) (fun (c0 : ¬ (q9.1 = 0)) => ?_)
          · rw [if_pos c0] at hf
            exact Ex.weak (sm_le_n (sm_le_n (sm_le_n (sm_le_n (sm_le_n sm_le_nil))))) (B_365_120 hd  hf hs)
          · rw [if_neg c0] at hf
            refine Ex.seg 7 (pc' := 112) (lc' := [some (.ref 67), some (.int x1), some (.int x2), some (.int v4), some (.int v6)]) (st' := [.int v4, .int ((q9.2.1 67 56) - 1), .ref 106]) (h' := q9.2) (sg1 rfl rfl (sg1 rfl rfl (sg1 rfl rfl (sg1 rfl rfl (sg1 rfl rfl (sg1 rfl rfl (sg1 rfl rfl rfl))))))) ?_
            obtain ⟨h10, e_h10, hf⟩ := bnd hf
            refine Ex.iast e_h10 rfl rfl ?_
            refine Ex.seg 3 (pc' := 117) (lc' := [some (.ref 67), some (.int x1), some (.int x2), some (.int v4), some (.int v6)]) (st' := [.int 12, .int v4, .ref 67]) (h' := h10) (sg1 rfl rfl (sg1 rfl rfl (sg1 rfl rfl rfl))) ?_
            obtain ⟨q11, e_q11, hf⟩ := bnd hf
            refine Ex.callV (a := 67) (As := [.int v4, .int 12]) (r := []) (v := none) (h' := q11) rfl rfl (by decide) rfl (Nat.le_of_ble_eq_true rfl) rfl (E_350 (Nat.le_trans (by decide) hd) e_q11) rfl ?_
            exact Ex.weak (sm_le_n (sm_le_n (sm_le_n (sm_le_n (sm_le_n sm_le_nil))))) (B_365_120 hd  hf hs)
        · rw [if_pos (Classical.not_not.mp c0)] at hf
          exact Ex.weak (sm_le_s (sm_le_n (sm_le_n (sm_le_n (sm_le_n sm_le_nil))))) (B_365_82 hd  hf hs)
    · rw [if_pos (Classical.not_not.mp c0)] at hf
      refine Ex.seg 5 (pc' := 53) (lc' := [some (.ref 67), some (.int x1), some (.int x2), some (.int v4), some (.int v6)]) (st' := [.int v4, .ref 67, .int v6, .int v6, .ref 67]) (h' := q3.2) (sg1 rfl rfl (sg1 rfl rfl (sg1 rfl rfl (sg1 rfl rfl (sg1 rfl rfl rfl))))) ?_
      obtain ⟨q12, e_q12, hf⟩ := bnd hf
      refine Ex.callV (a := 67) (As := [.int v4]) (r := [.int v6, .int v6, .ref 67]) (v := some (.int q12.1)) (h' := q12.2) rfl rfl (by decide) rfl (Nat.le_of_ble_eq_true rfl) rfl (E_305 (Nat.le_trans (by decide) hd) e_q12) rfl ?_
      refine Ex.seg 1 (pc' := 57) (lc' := [some (.ref 67), some (.int x1), some (.int x2), some (.int v4), some (.int v6)]) (st' := [.int (v6 + q12.1), .int v6, .ref 67]) (h' := q12.2) (sg1 rfl rfl rfl) ?_
      obtain ⟨q13, e_q13, hf⟩ := bnd hf
      refine Ex.callV (a := 67) (As := [.int v6, .int (v6 + q12.1)]) (r := []) (v := none) (h' := q13) rfl rfl (by decide) rfl (Nat.le_of_ble_eq_true rfl) rfl (E_343 (Nat.le_trans (by decide) hd) e_q13) rfl ?_
      refine Ex.seg 2 (pc' := 62) (lc' := [some (.ref 67), some (.int x1), some (.int x2), some (.int v4), some (.int v6)]) (st' := [.int v4, .ref 67]) (h' := q13) (sg1 rfl rfl (sg1 rfl rfl rfl)) ?_
      obtain ⟨q14, e_q14, hf⟩ := bnd hf
      refine Ex.callV (a := 67) (As := [.int v4]) (r := []) (v := none) (h' := q14) rfl rfl (by decide) rfl (Nat.le_of_ble_eq_true rfl) rfl (E_349 (Nat.le_trans (by decide) hd) e_q14) rfl ?_
      refine Ex.seg 1 (pc' := 120) (lc' := [some (.ref 67), some (.int x1), some (.int x2), some (.int v4), some (.int v6)]) (st' := []) (h' := q14) (sg1 rfl rfl rfl) ?_
      exact Ex.weak (sm_le_n (sm_le_n (sm_le_n (sm_le_n (sm_le_n sm_le_nil))))) (B_365_120 hd  hf hs)
  · rw [if_pos (Classical.not_not.mp c0)] at hf
    refine Ex.seg 2 (pc' := 10) (lc' := [some (.ref 67), some (.int x1), some (.int x2), none, none]) (st' := [.int 1, .ref 67]) (h' := q2.2) (sg1 rfl rfl (sg1 rfl rfl rfl)) ?_
    obtain ⟨q15, e_q15, hf⟩ := bnd hf
    refine Ex.callV (a := 67) (As := [.int 1]) (r := []) (v := none) (h' := q15) rfl rfl (by decide) rfl (Nat.le_of_ble_eq_true rfl) rfl (E_348 (Nat.le_trans (by decide) hd) e_q15) rfl ?_
    obtain rfl := Option.some.inj hf
    exact Ex.vret rfl rfl hs
theorem E_365 {L : Nat} {xs : Nat → Int32} {d : Nat} (hd : 5 ≤ d) {x1 : Int32} {x2 : Int32} {h : sm_H} {r : sm_H} (hf : F_365 x1 x2 h = some r) : RUN L xs d 365 [.ref 67, .int x1, .int x2] h (none, r) := by
  obtain ⟨d, rfl⟩ : ∃ e, d = e + 1 := ⟨d - 1, by omega⟩
  exact ⟨Nat.le_of_ble_eq_true rfl, B_365_0 (by omega) hf rfl⟩
theorem B_366_105B {L : Nat} {xs : Nat → Int32} {d : Nat} (hd : 3 ≤ d) {res : Option Value × sm_H} {S1 : (Int32 × Int32 × Int32 × Int32 × sm_H) → Prop} (hS1 : ∀ s, S1 s → Ex (P_G L xs) (RUN L xs d) (sm_lk P_t366) 0 105 [some (.ref 67), some (.int s.1), some (.int s.2.1), none, none, none, some (.int s.2.2.1), some (.int s.2.2.2.1)] [] s.2.2.2.2 res) {s : (Int32 × Int32 × Int32 × Int32 × sm_H)}  {r : ((Int32 × Int32 × Int32 × Int32 × sm_H) ⊕ (sm_H))} (hf : F_366_105B s = some r) (hs : (Sum.elim S1 (fun (r : sm_H) => res = (none, r))) r) : Ex (P_G L xs) (RUN L xs d) (sm_lk P_t366) 0 105 [some (.ref 67), some (.int s.1), some (.int s.2.1), none, none, none, some (.int s.2.2.1), some (.int s.2.2.2.1)] [] s.2.2.2.2 res := by
  unfold F_366_105B at hf
  refine Ex.seg 2 (pc' := 108) (lc' := [some (.ref 67), some (.int s.1), some (.int s.2.1), none, none, none, some (.int s.2.2.1), some (.int s.2.2.2.1)]) (st' := [.int s.2.1, .int s.2.2.2.1]) (h' := s.2.2.2.2) (sg1 rfl rfl (sg1 rfl rfl rfl)) ?_
  refine Ex.icmp rfl rfl (fun (c0 : s.2.1 ≤ s.2.2.2.1) => ?_) (fun (c0 : ¬ (s.2.1 ≤ s.2.2.2.1)) => ?_)
  · rw [if_pos c0] at hf
    refine Ex.seg 2 (pc' := 149) (lc' := [some (.ref 67), some (.int s.1), some (.int s.2.1), none, none, none, some (.int s.2.2.1), some (.int s.2.2.2.1)]) (st' := [.int s.1, .ref 67]) (h' := s.2.2.2.2) (sg1 rfl rfl (sg1 rfl rfl rfl)) ?_
    obtain ⟨q1, e_q1, hf⟩ := bnd hf
    refine Ex.callV (a := 67) (As := [.int s.1]) (r := []) (v := none) (h' := q1) rfl rfl (by decide) rfl (Nat.le_of_ble_eq_true rfl) rfl (E_349 (Nat.le_trans (by decide) hd) e_q1) rfl ?_
    obtain rfl := Option.some.inj hf
    exact Ex.vret rfl rfl hs
  · rw [if_neg c0] at hf
    refine Ex.seg 8 (pc' := 124) (lc' := [some (.ref 67), some (.int s.1), some (.int s.2.1), none, none, none, some (.int s.2.2.1), some (.int s.2.2.2.1)]) (st' := [.int ((100 * s.2.2.1) + s.2.2.2.1), .ref 98, .ref 67]) (h' := s.2.2.2.2) (sg1 rfl rfl (sg1 rfl rfl (sg1 rfl rfl (sg1 rfl rfl (sg1 rfl rfl (sg1 rfl rfl (sg1 rfl rfl (sg1 rfl rfl rfl)))))))) ?_
    obtain ⟨v2, e_v2, hf⟩ := bnd hf
    refine Ex.iald e_v2 rfl rfl ?_
    refine Ex.seg 7 (pc' := 137) (lc' := [some (.ref 67), some (.int s.1), some (.int s.2.1), none, none, none, some (.int s.2.2.1), some (.int s.2.2.2.1)]) (st' := [.int ((100 * s.2.2.1) + s.2.2.2.1), .ref 99, .int v2, .ref 67]) (h' := s.2.2.2.2) (sg1 rfl rfl (sg1 rfl rfl (sg1 rfl rfl (sg1 rfl rfl (sg1 rfl rfl (sg1 rfl rfl (sg1 rfl rfl rfl))))))) ?_
    obtain ⟨v3, e_v3, hf⟩ := bnd hf
    refine Ex.lald e_v3 rfl rfl ?_
    obtain ⟨q4, e_q4, hf⟩ := bnd hf
    refine Ex.callV (a := 67) (As := [.int v2, .long v3]) (r := []) (v := none) (h' := q4) rfl rfl (by decide) rfl (Nat.le_of_ble_eq_true rfl) rfl (E_342 (Nat.le_trans (by decide) hd) e_q4) rfl ?_
    refine Ex.seg 1 (pc' := 144) (lc' := [some (.ref 67), some (.int s.1), some (.int s.2.1), none, none, none, some (.int s.2.2.1), some (.int (s.2.2.2.1 + 1))]) (st' := []) (h' := q4) (sg1 rfl rfl rfl) ?_
    obtain ⟨v5, e_v5, hf⟩ := bnd hf
    rw [Option.some.inj e_v5]
    refine Ex.seg 1 (pc' := 105) (lc' := [some (.ref 67), some (.int s.1), some (.int s.2.1), none, none, none, some (.int s.2.2.1), some (.int v5)]) (st' := []) (h' := q4) (sg1 rfl rfl rfl) ?_
    obtain rfl := Option.some.inj hf
    exact Ex.weak (sm_le_s (sm_le_s (sm_le_s (sm_le_s (sm_le_s (sm_le_s (sm_le_s (sm_le_s sm_le_nil)))))))) (hS1 _ hs)
theorem B_366_105 {L : Nat} {xs : Nat → Int32} {d : Nat} (hd : 3 ≤ d) {res : Option Value × sm_H} {y1 : Int32} {y2 : Int32} {y6 : Int32} {y7 : Int32}  {h : sm_H} {r : (sm_H)} (hf : F_366_105 y1 y2 y6 y7 h = some r) (hs : (fun (r : sm_H) => res = (none, r)) r) : Ex (P_G L xs) (RUN L xs d) (sm_lk P_t366) 0 105 [some (.ref 67), some (.int y1), some (.int y2), none, none, none, some (.int y6), some (.int y7)] [] h res := by
  unfold F_366_105 at hf
  exact lp_ok (P := fun (s : (Int32 × Int32 × Int32 × Int32 × sm_H)) => Ex (P_G L xs) (RUN L xs d) (sm_lk P_t366) 0 105 [some (.ref 67), some (.int s.1), some (.int s.2.1), none, none, none, some (.int s.2.2.1), some (.int s.2.2.2.1)] [] s.2.2.2.2 res) (S := (fun (r : sm_H) => res = (none, r))) (fun s x hx hsx => by
    intros
    exact B_366_105B hd  (fun _ q => q) hx hsx) 1000000 _ r hf hs
theorem B_366_90 {L : Nat} {xs : Nat → Int32} {d : Nat} (hd : 3 ≤ d) {res : Option Value × sm_H} {y1 : Int32} {y2 : Int32} {y3 : Int32} {y5 : Int32} {y6 : Int32}  {h : sm_H} {r : (sm_H)} (hf : F_366_90 y1 y2 y3 y5 y6 h = some r) (hs : (fun (r : sm_H) => res = (none, r)) r) : Ex (P_G L xs) (RUN L xs d) (sm_lk P_t366) 0 90 [some (.ref 67), some (.int y1), some (.int y2), some (.int y3), none, some (.int y5), some (.int y6), none] [] h res := by
  unfold F_366_90 at hf
  refine Ex.seg 4 (pc' := 96) (lc' := [some (.ref 67), some (.int y1), some (.int y2), some (.int y3), none, some (.int y5), some (.int y6), none]) (st' := [.int y3, .ref 105, .ref 67]) (h' := h) (sg1 rfl rfl (sg1 rfl rfl (sg1 rfl rfl (sg1 rfl rfl rfl)))) ?_
  obtain ⟨v6, e_v6, hf⟩ := bnd hf
  refine Ex.iald e_v6 rfl rfl ?_
  refine Ex.seg 1 (pc' := 99) (lc' := [some (.ref 67), some (.int y1), some (.int y2), some (.int y3), none, some (.int y5), some (.int y6), none]) (st' := [.int y5, .int v6, .ref 67]) (h' := h) (sg1 rfl rfl rfl) ?_
  obtain ⟨q7, e_q7, hf⟩ := bnd hf
  refine Ex.callV (a := 67) (As := [.int v6, .int y5]) (r := []) (v := none) (h' := q7) rfl rfl (by decide) rfl (Nat.le_of_ble_eq_true rfl) rfl (E_343 (Nat.le_trans (by decide) hd) e_q7) rfl ?_
  refine Ex.seg 2 (pc' := 105) (lc' := [some (.ref 67), some (.int y1), some (.int y2), some (.int y3), none, some (.int y5), some (.int y6), some (.int 0)]) (st' := []) (h' := q7) (sg1 rfl rfl (sg1 rfl rfl rfl)) ?_
  exact Ex.weak (sm_le_s (sm_le_s (sm_le_s (sm_le_n (sm_le_s (sm_le_n (sm_le_s (sm_le_s sm_le_nil)))))))) (B_366_105 hd  hf hs)
theorem B_366_52 {L : Nat} {xs : Nat → Int32} {d : Nat} (hd : 3 ≤ d) {res : Option Value × sm_H} {y1 : Int32} {y2 : Int32} {y3 : Int32} {y5 : Int32}  {h : sm_H} {r : (sm_H)} (hf : F_366_52 y1 y2 y3 y5 h = some r) (hs : (fun (r : sm_H) => res = (none, r)) r) : Ex (P_G L xs) (RUN L xs d) (sm_lk P_t366) 0 52 [some (.ref 67), some (.int y1), some (.int y2), some (.int y3), none, some (.int y5), none, none] [] h res := by
  unfold F_366_52 at hf
  refine Ex.seg 3 (pc' := 58) (lc' := [some (.ref 67), some (.int y1), some (.int y2), some (.int y3), none, some (.int y5), none, none]) (st' := [.int y5, .ref 109]) (h' := h) (sg1 rfl rfl (sg1 rfl rfl (sg1 rfl rfl rfl))) ?_
  obtain ⟨v8, e_v8, hf⟩ := bnd hf
  refine Ex.lald e_v8 rfl rfl ?_
  refine Ex.seg 2 (pc' := 62) (lc' := [some (.ref 67), some (.int y1), some (.int y2), some (.int y3), none, some (.int y5), some (.int (Int64.toInt32 v8)), none]) (st' := []) (h' := h) (sg1 rfl rfl (sg1 rfl rfl rfl)) ?_
  obtain ⟨v9, e_v9, hf⟩ := bnd hf
  rw [Option.some.inj e_v9]
  refine Ex.seg 3 (pc' := 68) (lc' := [some (.ref 67), some (.int y1), some (.int y2), some (.int y3), none, some (.int y5), some (.int v9), none]) (st' := [.int y5, .ref 108]) (h' := h) (sg1 rfl rfl (sg1 rfl rfl (sg1 rfl rfl rfl))) ?_
  obtain ⟨v10, e_v10, hf⟩ := bnd hf
  refine Ex.iald e_v10 rfl rfl ?_
  refine Ex.ifc rfl rfl (fun (c0 : v10 = 0) => ?_) (fun (c0 : ¬ (v10 = 0)) => ?_)
  · rw [if_pos c0] at hf
    exact Ex.weak (sm_le_s (sm_le_s (sm_le_s (sm_le_s (sm_le_s (sm_le_s (sm_le_s (sm_le_s sm_le_nil)))))))) (B_366_90 hd  hf hs)
  · rw [if_neg c0] at hf
    refine Ex.seg 3 (pc' := 78) (lc' := [some (.ref 67), some (.int y1), some (.int y2), some (.int y3), none, some (.int y5), some (.int v9), none]) (st' := [.int v9, .ref 97]) (h' := h) (sg1 rfl rfl (sg1 rfl rfl (sg1 rfl rfl rfl))) ?_
    obtain ⟨v11, e_v11, hf⟩ := bnd hf
    refine Ex.iald e_v11 rfl rfl ?_
    refine Ex.seg 1 (pc' := 80) (lc' := [some (.ref 67), some (.int y1), some (.int y2), some (.int y3), none, some (.int y5), some (.int v9), none]) (st' := [.int y2, .int v11]) (h' := h) (sg1 rfl rfl rfl) ?_
    refine Ex.icmp rfl rfl (fun (c0 : v11 = y2) => ?_) (fun (c0 : ¬ (v11 = y2)) => ?_)
    · rw [if_pos c0] at hf
      exact Ex.weak (sm_le_s (sm_le_s (sm_le_s (sm_le_s (sm_le_s (sm_le_s (sm_le_s (sm_le_s sm_le_nil)))))))) (B_366_90 hd  hf hs)
    · rw [if_neg c0] at hf
      refine Ex.seg 2 (pc' := 86) (lc' := [some (.ref 67), some (.int y1), some (.int y2), some (.int y3), none, some (.int y5), some (.int v9), none]) (st' := [.int 7, .ref 67]) (h' := h) (sg1 rfl rfl (sg1 rfl rfl rfl)) ?_
      obtain ⟨q12, e_q12, hf⟩ := bnd hf
      refine Ex.callV (a := 67) (As := [.int 7]) (r := []) (v := none) (h' := q12) rfl rfl (by decide) rfl (Nat.le_of_ble_eq_true rfl) rfl (E_348 (Nat.le_trans (by decide) hd) e_q12) rfl ?_
      obtain rfl := Option.some.inj hf
      exact Ex.vret rfl rfl hs
theorem B_366_0 {L : Nat} {xs : Nat → Int32} {d : Nat} (hd : 3 ≤ d) {res : Option Value × sm_H} {x1 : Int32} {x2 : Int32}  {h : sm_H} {r : (sm_H)} (hf : F_366_0 x1 x2 h = some r) (hs : (fun (r : sm_H) => res = (none, r)) r) : Ex (P_G L xs) (RUN L xs d) (sm_lk P_t366) 0 0 [some (.ref 67), some (.int x1), some (.int x2), none, none, none, none, none] [] h res := by
  unfold F_366_0 at hf
  refine Ex.seg 5 (pc' := 7) (lc' := [some (.ref 67), some (.int x1), some (.int x2), some (.int ((h.1 67 56) - 1)), none, none, none, none]) (st' := []) (h' := h) (sg1 rfl rfl (sg1 rfl rfl (sg1 rfl rfl (sg1 rfl rfl (sg1 rfl rfl rfl))))) ?_
  obtain ⟨v13, e_v13, hf⟩ := bnd hf
  rw [Option.some.inj e_v13]
  refine Ex.seg 4 (pc' := 13) (lc' := [some (.ref 67), some (.int x1), some (.int x2), some (.int v13), none, none, none, none]) (st' := [.int v13, .ref 103, .ref 67]) (h' := h) (sg1 rfl rfl (sg1 rfl rfl (sg1 rfl rfl (sg1 rfl rfl rfl)))) ?_
  obtain ⟨v14, e_v14, hf⟩ := bnd hf
  refine Ex.iald e_v14 rfl rfl ?_
  obtain ⟨q15, e_q15, hf⟩ := bnd hf
  refine Ex.callV (a := 67) (As := [.int v14]) (r := []) (v := some (.int q15.1)) (h' := q15.2) rfl rfl (by decide) rfl (Nat.le_of_ble_eq_true rfl) rfl (E_305 (Nat.le_trans (by decide) hd) e_q15) rfl ?_
  refine Ex.seg 4 (pc' := 24) (lc' := [some (.ref 67), some (.int x1), some (.int x2), some (.int v13), some (.int q15.1), none, none, none]) (st' := [.int v13, .ref 105]) (h' := q15.2) (sg1 rfl rfl (sg1 rfl rfl (sg1 rfl rfl (sg1 rfl rfl rfl)))) ?_
  obtain ⟨v16, e_v16, hf⟩ := bnd hf
  refine Ex.iald e_v16 rfl rfl ?_
  refine Ex.seg 5 (pc' := 32) (lc' := [some (.ref 67), some (.int x1), some (.int x2), some (.int v13), some (.int q15.1), some (.int ((v16 + q15.1) - 1)), none, none]) (st' := []) (h' := q15.2) (sg1 rfl rfl (sg1 rfl rfl (sg1 rfl rfl (sg1 rfl rfl (sg1 rfl rfl rfl))))) ?_
  obtain ⟨v17, e_v17, hf⟩ := bnd hf
  rw [Option.some.inj e_v17]
  refine Ex.seg 3 (pc' := 38) (lc' := [some (.ref 67), some (.int x1), some (.int x2), some (.int v13), some (.int q15.1), some (.int v17), none, none]) (st' := [.int v17, .ref 108]) (h' := q15.2) (sg1 rfl rfl (sg1 rfl rfl (sg1 rfl rfl rfl))) ?_
  obtain ⟨v18, e_v18, hf⟩ := bnd hf
  refine Ex.iald e_v18 rfl rfl ?_
  refine Ex.ifc rfl rfl (fun (c0 : ¬ (v18 = 0)) => ?_) (fun (c0 : ¬ ¬ (v18 = 0)) => ?_)
  · rw [if_neg c0] at hf
    exact Ex.weak (sm_le_s (sm_le_s (sm_le_s (sm_le_s (sm_le_n (sm_le_s (sm_le_s (sm_le_s sm_le_nil)))))))) (B_366_52 hd  hf hs)
  · rw [if_pos (Classical.not_not.mp c0)] at hf
    refine Ex.seg 1 (pc' := 43) (lc' := [some (.ref 67), some (.int x1), some (.int x2), some (.int v13), some (.int q15.1), some (.int v17), none, none]) (st' := [.int x2]) (h' := q15.2) (sg1 rfl rfl rfl) ?_
    refine Ex.ifc rfl rfl (fun (c0 : x2 ≤ 0) => ?_) (fun (c0 : ¬ (x2 ≤ 0)) => ?_)
    · rw [if_pos c0] at hf
      exact Ex.weak (sm_le_s (sm_le_s (sm_le_s (sm_le_s (sm_le_n (sm_le_s (sm_le_s (sm_le_s sm_le_nil)))))))) (B_366_52 hd  hf hs)
    · rw [if_neg c0] at hf
      refine Ex.seg 2 (pc' := 48) (lc' := [some (.ref 67), some (.int x1), some (.int x2), some (.int v13), some (.int q15.1), some (.int v17), none, none]) (st' := [.int 1, .ref 67]) (h' := q15.2) (sg1 rfl rfl (sg1 rfl rfl rfl)) ?_
      obtain ⟨q19, e_q19, hf⟩ := bnd hf
      refine Ex.callV (a := 67) (As := [.int 1]) (r := []) (v := none) (h' := q19) rfl rfl (by decide) rfl (Nat.le_of_ble_eq_true rfl) rfl (E_348 (Nat.le_trans (by decide) hd) e_q19) rfl ?_
      obtain rfl := Option.some.inj hf
      exact Ex.vret rfl rfl hs
theorem E_366 {L : Nat} {xs : Nat → Int32} {d : Nat} (hd : 4 ≤ d) {x1 : Int32} {x2 : Int32} {h : sm_H} {r : sm_H} (hf : F_366 x1 x2 h = some r) : RUN L xs d 366 [.ref 67, .int x1, .int x2] h (none, r) := by
  obtain ⟨d, rfl⟩ : ∃ e, d = e + 1 := ⟨d - 1, by omega⟩
  exact ⟨Nat.le_of_ble_eq_true rfl, B_366_0 (by omega) hf rfl⟩
theorem B_367_54B {L : Nat} {xs : Nat → Int32} {d : Nat} (hd : 3 ≤ d) {res : Option Value × sm_H} {S1 : (Int32 × Int32 × Int32 × Int32 × Int32 × Int32 × Int32 × sm_H) → Prop} (hS1 : ∀ s, S1 s → Ex (P_G L xs) (RUN L xs d) (sm_lk P_t367) 0 54 [some (.ref 67), some (.int s.1), some (.int s.2.1), some (.int s.2.2.1), some (.int s.2.2.2.1), some (.int s.2.2.2.2.1), some (.int s.2.2.2.2.2.1), some (.int s.2.2.2.2.2.2.1)] [] s.2.2.2.2.2.2.2 res) {s : (Int32 × Int32 × Int32 × Int32 × Int32 × Int32 × Int32 × sm_H)}  {r : ((Int32 × Int32 × Int32 × Int32 × Int32 × Int32 × Int32 × sm_H) ⊕ (sm_H))} (hf : F_367_54B s = some r) (hs : (Sum.elim S1 (fun (r : sm_H) => res = (none, r))) r) : Ex (P_G L xs) (RUN L xs d) (sm_lk P_t367) 0 54 [some (.ref 67), some (.int s.1), some (.int s.2.1), some (.int s.2.2.1), some (.int s.2.2.2.1), some (.int s.2.2.2.2.1), some (.int s.2.2.2.2.2.1), some (.int s.2.2.2.2.2.2.1)] [] s.2.2.2.2.2.2.2 res := by
  unfold F_367_54B at hf
  refine Ex.seg 2 (pc' := 57) (lc' := [some (.ref 67), some (.int s.1), some (.int s.2.1), some (.int s.2.2.1), some (.int s.2.2.2.1), some (.int s.2.2.2.2.1), some (.int s.2.2.2.2.2.1), some (.int s.2.2.2.2.2.2.1)]) (st' := [.int s.2.1, .int s.2.2.2.2.2.2.1]) (h' := s.2.2.2.2.2.2.2) (sg1 rfl rfl (sg1 rfl rfl rfl)) ?_
  refine Ex.icmp rfl rfl (fun (c0 : s.2.1 ≤ s.2.2.2.2.2.2.1) => ?_) (fun (c0 : ¬ (s.2.1 ≤ s.2.2.2.2.2.2.1)) => ?_)
  · rw [if_pos c0] at hf
    refine Ex.seg 4 (pc' := 136) (lc' := [some (.ref 67), some (.int s.1), some (.int s.2.1), some (.int s.2.2.1), some (.int s.2.2.2.1), some (.int s.2.2.2.2.1), some (.int s.2.2.2.2.2.1), some (.int s.2.2.2.2.2.2.1)]) (st' := [.int s.2.2.1, .ref 105, .ref 67]) (h' := s.2.2.2.2.2.2.2) (sg1 rfl rfl (sg1 rfl rfl (sg1 rfl rfl (sg1 rfl rfl rfl)))) ?_
    obtain ⟨v1, e_v1, hf⟩ := bnd hf
    refine Ex.iald e_v1 rfl rfl ?_
    refine Ex.seg 3 (pc' := 142) (lc' := [some (.ref 67), some (.int s.1), some (.int s.2.1), some (.int s.2.2.1), some (.int s.2.2.2.1), some (.int s.2.2.2.2.1), some (.int s.2.2.2.2.2.1), some (.int s.2.2.2.2.2.2.1)]) (st' := [.int s.2.2.1, .ref 105, .int v1, .ref 67]) (h' := s.2.2.2.2.2.2.2) (sg1 rfl rfl (sg1 rfl rfl (sg1 rfl rfl rfl))) ?_
    obtain ⟨v2, e_v2, hf⟩ := bnd hf
    refine Ex.iald e_v2 rfl rfl ?_
    refine Ex.seg 4 (pc' := 148) (lc' := [some (.ref 67), some (.int s.1), some (.int s.2.1), some (.int s.2.2.1), some (.int s.2.2.2.1), some (.int s.2.2.2.2.1), some (.int s.2.2.2.2.2.1), some (.int s.2.2.2.2.2.2.1)]) (st' := [.int ((v2 + s.2.2.2.1) - s.2.1), .int v1, .ref 67]) (h' := s.2.2.2.2.2.2.2) (sg1 rfl rfl (sg1 rfl rfl (sg1 rfl rfl (sg1 rfl rfl rfl)))) ?_
    obtain ⟨q3, e_q3, hf⟩ := bnd hf
    refine Ex.callV (a := 67) (As := [.int v1, .int ((v2 + s.2.2.2.1) - s.2.1)]) (r := []) (v := none) (h' := q3) rfl rfl (by decide) rfl (Nat.le_of_ble_eq_true rfl) rfl (E_343 (Nat.le_trans (by decide) hd) e_q3) rfl ?_
    refine Ex.seg 4 (pc' := 157) (lc' := [some (.ref 67), some (.int s.1), some (.int s.2.1), some (.int s.2.2.1), some (.int s.2.2.2.1), some (.int s.2.2.2.2.1), some (.int s.2.2.2.2.2.1), some (.int s.2.2.2.2.2.2.1)]) (st' := [.long (Int32.toInt64 s.2.2.2.2.2.1), .int s.2.2.2.2.1, .ref 67]) (h' := q3) (sg1 rfl rfl (sg1 rfl rfl (sg1 rfl rfl (sg1 rfl rfl rfl)))) ?_
    obtain ⟨q4, e_q4, hf⟩ := bnd hf
    refine Ex.callV (a := 67) (As := [.int s.2.2.2.2.1, .long (Int32.toInt64 s.2.2.2.2.2.1)]) (r := []) (v := none) (h' := q4) rfl rfl (by decide) rfl (Nat.le_of_ble_eq_true rfl) rfl (E_342 (Nat.le_trans (by decide) hd) e_q4) rfl ?_
    refine Ex.seg 2 (pc' := 162) (lc' := [some (.ref 67), some (.int s.1), some (.int s.2.1), some (.int s.2.2.1), some (.int s.2.2.2.1), some (.int s.2.2.2.2.1), some (.int s.2.2.2.2.2.1), some (.int s.2.2.2.2.2.2.1)]) (st' := [.int s.1, .ref 67]) (h' := q4) (sg1 rfl rfl (sg1 rfl rfl rfl)) ?_
    obtain ⟨q5, e_q5, hf⟩ := bnd hf
    refine Ex.callV (a := 67) (As := [.int s.1]) (r := []) (v := none) (h' := q5) rfl rfl (by decide) rfl (Nat.le_of_ble_eq_true rfl) rfl (E_349 (Nat.le_trans (by decide) hd) e_q5) rfl ?_
    obtain rfl := Option.some.inj hf
    exact Ex.vret rfl rfl hs
  · rw [if_neg c0] at hf
    refine Ex.seg 12 (pc' := 81) (lc' := [some (.ref 67), some (.int s.1), some (.int s.2.1), some (.int s.2.2.1), some (.int s.2.2.2.1), some (.int s.2.2.2.2.1), some (.int s.2.2.2.2.2.1), some (.int s.2.2.2.2.2.2.1)]) (st' := [.int s.2.2.1, .ref 105, .ref 108, .int ((100 * s.2.2.2.2.2.1) + s.2.2.2.2.2.2.1), .ref 98]) (h' := s.2.2.2.2.2.2.2) (sg1 rfl rfl (sg1 rfl rfl (sg1 rfl rfl (sg1 rfl rfl (sg1 rfl rfl (sg1 rfl rfl (sg1 rfl rfl (sg1 rfl rfl (sg1 rfl rfl (sg1 rfl rfl (sg1 rfl rfl (sg1 rfl rfl rfl)))))))))))) ?_
    obtain ⟨v6, e_v6, hf⟩ := bnd hf
    refine Ex.iald e_v6 rfl rfl ?_
    refine Ex.seg 6 (pc' := 90) (lc' := [some (.ref 67), some (.int s.1), some (.int s.2.1), some (.int s.2.2.1), some (.int s.2.2.2.1), some (.int s.2.2.2.2.1), some (.int s.2.2.2.2.2.1), some (.int s.2.2.2.2.2.2.1)]) (st' := [.int (((v6 + s.2.2.2.1) - s.2.1) + s.2.2.2.2.2.2.1), .ref 108, .int ((100 * s.2.2.2.2.2.1) + s.2.2.2.2.2.2.1), .ref 98]) (h' := s.2.2.2.2.2.2.2) (sg1 rfl rfl (sg1 rfl rfl (sg1 rfl rfl (sg1 rfl rfl (sg1 rfl rfl (sg1 rfl rfl rfl)))))) ?_
    obtain ⟨v7, e_v7, hf⟩ := bnd hf
    refine Ex.iald e_v7 rfl rfl ?_
    obtain ⟨h8, e_h8, hf⟩ := bnd hf
    refine Ex.iast e_h8 rfl rfl ?_
    refine Ex.seg 12 (pc' := 113) (lc' := [some (.ref 67), some (.int s.1), some (.int s.2.1), some (.int s.2.2.1), some (.int s.2.2.2.1), some (.int s.2.2.2.2.1), some (.int s.2.2.2.2.2.1), some (.int s.2.2.2.2.2.2.1)]) (st' := [.int s.2.2.1, .ref 105, .ref 109, .int ((100 * s.2.2.2.2.2.1) + s.2.2.2.2.2.2.1), .ref 99]) (h' := h8) (sg1 rfl rfl (sg1 rfl rfl (sg1 rfl rfl (sg1 rfl rfl (sg1 rfl rfl (sg1 rfl rfl (sg1 rfl rfl (sg1 rfl rfl (sg1 rfl rfl (sg1 rfl rfl (sg1 rfl rfl (sg1 rfl rfl rfl)))))))))))) ?_
    obtain ⟨v9, e_v9, hf⟩ := bnd hf
    refine Ex.iald e_v9 rfl rfl ?_
    refine Ex.seg 6 (pc' := 122) (lc' := [some (.ref 67), some (.int s.1), some (.int s.2.1), some (.int s.2.2.1), some (.int s.2.2.2.1), some (.int s.2.2.2.2.1), some (.int s.2.2.2.2.2.1), some (.int s.2.2.2.2.2.2.1)]) (st' := [.int (((v9 + s.2.2.2.1) - s.2.1) + s.2.2.2.2.2.2.1), .ref 109, .int ((100 * s.2.2.2.2.2.1) + s.2.2.2.2.2.2.1), .ref 99]) (h' := h8) (sg1 rfl rfl (sg1 rfl rfl (sg1 rfl rfl (sg1 rfl rfl (sg1 rfl rfl (sg1 rfl rfl rfl)))))) ?_
    obtain ⟨v10, e_v10, hf⟩ := bnd hf
    refine Ex.lald e_v10 rfl rfl ?_
    obtain ⟨h11, e_h11, hf⟩ := bnd hf
    refine Ex.last e_h11 rfl rfl ?_
    refine Ex.seg 1 (pc' := 127) (lc' := [some (.ref 67), some (.int s.1), some (.int s.2.1), some (.int s.2.2.1), some (.int s.2.2.2.1), some (.int s.2.2.2.2.1), some (.int s.2.2.2.2.2.1), some (.int (s.2.2.2.2.2.2.1 + 1))]) (st' := []) (h' := h11) (sg1 rfl rfl rfl) ?_
    obtain ⟨v12, e_v12, hf⟩ := bnd hf
    rw [Option.some.inj e_v12]
    refine Ex.seg 1 (pc' := 54) (lc' := [some (.ref 67), some (.int s.1), some (.int s.2.1), some (.int s.2.2.1), some (.int s.2.2.2.1), some (.int s.2.2.2.2.1), some (.int s.2.2.2.2.2.1), some (.int v12)]) (st' := []) (h' := h11) (sg1 rfl rfl rfl) ?_
    obtain rfl := Option.some.inj hf
    exact Ex.weak (sm_le_s (sm_le_s (sm_le_s (sm_le_s (sm_le_s (sm_le_s (sm_le_s (sm_le_s sm_le_nil)))))))) (hS1 _ hs)
theorem B_367_54 {L : Nat} {xs : Nat → Int32} {d : Nat} (hd : 3 ≤ d) {res : Option Value × sm_H} {y1 : Int32} {y2 : Int32} {y3 : Int32} {y4 : Int32} {y5 : Int32} {y6 : Int32} {y7 : Int32}  {h : sm_H} {r : (sm_H)} (hf : F_367_54 y1 y2 y3 y4 y5 y6 y7 h = some r) (hs : (fun (r : sm_H) => res = (none, r)) r) : Ex (P_G L xs) (RUN L xs d) (sm_lk P_t367) 0 54 [some (.ref 67), some (.int y1), some (.int y2), some (.int y3), some (.int y4), some (.int y5), some (.int y6), some (.int y7)] [] h res := by
  unfold F_367_54 at hf
  exact lp_ok (P := fun (s : (Int32 × Int32 × Int32 × Int32 × Int32 × Int32 × Int32 × sm_H)) => Ex (P_G L xs) (RUN L xs d) (sm_lk P_t367) 0 54 [some (.ref 67), some (.int s.1), some (.int s.2.1), some (.int s.2.2.1), some (.int s.2.2.2.1), some (.int s.2.2.2.2.1), some (.int s.2.2.2.2.2.1), some (.int s.2.2.2.2.2.2.1)] [] s.2.2.2.2.2.2.2 res) (S := (fun (r : sm_H) => res = (none, r))) (fun s x hx hsx => by
    intros
    exact B_367_54B hd  (fun _ q => q) hx hsx) 1000000 _ r hf hs
theorem B_367_0 {L : Nat} {xs : Nat → Int32} {d : Nat} (hd : 3 ≤ d) {res : Option Value × sm_H} {x1 : Int32} {x2 : Int32}  {h : sm_H} {r : (sm_H)} (hf : F_367_0 x1 x2 h = some r) (hs : (fun (r : sm_H) => res = (none, r)) r) : Ex (P_G L xs) (RUN L xs d) (sm_lk P_t367) 0 0 [some (.ref 67), some (.int x1), some (.int x2), none, none, none, none, none] [] h res := by
  unfold F_367_0 at hf
  refine Ex.seg 5 (pc' := 7) (lc' := [some (.ref 67), some (.int x1), some (.int x2), some (.int ((h.1 67 56) - 1)), none, none, none, none]) (st' := []) (h' := h) (sg1 rfl rfl (sg1 rfl rfl (sg1 rfl rfl (sg1 rfl rfl (sg1 rfl rfl rfl))))) ?_
  obtain ⟨v13, e_v13, hf⟩ := bnd hf
  rw [Option.some.inj e_v13]
  refine Ex.seg 4 (pc' := 13) (lc' := [some (.ref 67), some (.int x1), some (.int x2), some (.int v13), none, none, none, none]) (st' := [.int v13, .ref 103, .ref 67]) (h' := h) (sg1 rfl rfl (sg1 rfl rfl (sg1 rfl rfl (sg1 rfl rfl rfl)))) ?_
  obtain ⟨v14, e_v14, hf⟩ := bnd hf
  refine Ex.iald e_v14 rfl rfl ?_
  obtain ⟨q15, e_q15, hf⟩ := bnd hf
  refine Ex.callV (a := 67) (As := [.int v14]) (r := []) (v := some (.int q15.1)) (h' := q15.2) rfl rfl (by decide) rfl (Nat.le_of_ble_eq_true rfl) rfl (E_305 (Nat.le_trans (by decide) hd) e_q15) rfl ?_
  refine Ex.seg 3 (pc' := 21) (lc' := [some (.ref 67), some (.int x1), some (.int x2), some (.int v13), some (.int q15.1), none, none, none]) (st' := [.int x2, .ref 67]) (h' := q15.2) (sg1 rfl rfl (sg1 rfl rfl (sg1 rfl rfl rfl))) ?_
  obtain ⟨q16, e_q16, hf⟩ := bnd hf
  refine Ex.callV (a := 67) (As := [.int x2]) (r := []) (v := some (.int q16.1)) (h' := q16.2) rfl rfl (by decide) rfl (Nat.le_of_ble_eq_true rfl) rfl (E_357 (Nat.le_trans (by decide) hd) e_q16) rfl ?_
  refine Ex.ifc rfl rfl (fun (c0 : q16.1 = 0) => ?_) (fun (c0 : ¬ (q16.1 = 0)) => ?_)
  · rw [if_pos c0] at hf
    refine Ex.seg 4 (pc' := 32) (lc' := [some (.ref 67), some (.int x1), some (.int x2), some (.int v13), some (.int q15.1), none, none, none]) (st' := [.int x1, .ref 67, .int x1, .ref 67]) (h' := q16.2) (sg1 rfl rfl (sg1 rfl rfl (sg1 rfl rfl (sg1 rfl rfl rfl)))) ?_
    obtain ⟨q17, e_q17, hf⟩ := bnd hf
    refine Ex.callV (a := 67) (As := [.int x1]) (r := [.int x1, .ref 67]) (v := some (.int q17.1)) (h' := q17.2) rfl rfl (by decide) rfl (Nat.le_of_ble_eq_true rfl) rfl (E_305 (Nat.le_trans (by decide) hd) e_q17) rfl ?_
    refine Ex.seg 2 (pc' := 37) (lc' := [some (.ref 67), some (.int x1), some (.int x2), some (.int v13), some (.int q15.1), none, none, none]) (st' := [.int (q17.1 - 1), .int x1, .ref 67]) (h' := q17.2) (sg1 rfl rfl (sg1 rfl rfl rfl)) ?_
    obtain ⟨q18, e_q18, hf⟩ := bnd hf
    refine Ex.callV (a := 67) (As := [.int x1, .int (q17.1 - 1)]) (r := []) (v := some (.int q18.1)) (h' := q18.2) rfl rfl (by decide) rfl (Nat.le_of_ble_eq_true rfl) rfl (E_306 (Nat.le_trans (by decide) hd) e_q18) rfl ?_
    refine Ex.seg 4 (pc' := 46) (lc' := [some (.ref 67), some (.int x1), some (.int x2), some (.int v13), some (.int q15.1), some (.int q18.1), none, none]) (st' := [.int x2, .int q18.1, .ref 67]) (h' := q18.2) (sg1 rfl rfl (sg1 rfl rfl (sg1 rfl rfl (sg1 rfl rfl rfl)))) ?_
    obtain ⟨q19, e_q19, hf⟩ := bnd hf
    refine Ex.callV (a := 67) (As := [.int q18.1, .int x2]) (r := []) (v := some (.int q19.1)) (h' := q19.2) rfl rfl (by decide) rfl (Nat.le_of_ble_eq_true rfl) rfl (E_358 (Nat.le_trans (by decide) hd) e_q19) rfl ?_
    refine Ex.seg 3 (pc' := 54) (lc' := [some (.ref 67), some (.int x1), some (.int x2), some (.int v13), some (.int q15.1), some (.int q18.1), some (.int q19.1), some (.int 0)]) (st' := []) (h' := q19.2) (sg1 rfl rfl (sg1 rfl rfl (sg1 rfl rfl rfl))) ?_
    exact Ex.weak (sm_le_s (sm_le_s (sm_le_s (sm_le_s (sm_le_s (sm_le_s (sm_le_s (sm_le_s sm_le_nil)))))))) (B_367_54 hd  hf hs)
  · rw [if_neg c0] at hf
    obtain rfl := Option.some.inj hf
    exact Ex.vret rfl rfl hs
theorem E_367 {L : Nat} {xs : Nat → Int32} {d : Nat} (hd : 4 ≤ d) {x1 : Int32} {x2 : Int32} {h : sm_H} {r : sm_H} (hf : F_367 x1 x2 h = some r) : RUN L xs d 367 [.ref 67, .int x1, .int x2] h (none, r) := by
  obtain ⟨d, rfl⟩ : ∃ e, d = e + 1 := ⟨d - 1, by omega⟩
  exact ⟨Nat.le_of_ble_eq_true rfl, B_367_0 (by omega) hf rfl⟩
theorem B_368_0 {L : Nat} {xs : Nat → Int32} {d : Nat} (hd : 3 ≤ d) {res : Option Value × sm_H} {x1 : Int32}  {h : sm_H} {r : (sm_H)} (hf : F_368_0 x1 h = some r) (hs : (fun (r : sm_H) => res = (none, r)) r) : Ex (P_G L xs) (RUN L xs d) (sm_lk P_t368) 0 0 [some (.ref 67), some (.int x1)] [] h res := by
  unfold F_368_0 at hf
  refine Ex.seg 2 (pc' := 2) (lc' := [some (.ref 67), some (.int x1)]) (st' := [.int 0, .ref 67]) (h' := h) (sg1 rfl rfl (sg1 rfl rfl rfl)) ?_
  obtain ⟨q1, e_q1, hf⟩ := bnd hf
  refine Ex.callV (a := 67) (As := [.int 0]) (r := []) (v := some (.int q1.1)) (h' := q1.2) rfl rfl (by decide) rfl (Nat.le_of_ble_eq_true rfl) rfl (E_351 (Nat.le_trans (by decide) hd) e_q1) rfl ?_
  refine Ex.ifc rfl rfl (fun (c0 : ¬ (q1.1 = 0)) => ?_) (fun (c0 : ¬ ¬ (q1.1 = 0)) => ?_)
  · rw [if_neg c0] at hf
    refine Ex.seg 7 (pc' := 25) (lc' := [some (.ref 67), some (.int x1)]) (st' := [.int ((q1.2.1 67 56) - 1), .ref 105, .ref 67]) (h' := q1.2) (sg1 rfl rfl (sg1 rfl rfl (sg1 rfl rfl (sg1 rfl rfl (sg1 rfl rfl (sg1 rfl rfl (sg1 rfl rfl rfl))))))) ?_
    obtain ⟨v2, e_v2, hf⟩ := bnd hf
    refine Ex.iald e_v2 rfl rfl ?_
    refine Ex.seg 6 (pc' := 36) (lc' := [some (.ref 67), some (.int x1)]) (st' := [.int ((q1.2.1 67 56) - 1), .ref 105, .int v2, .ref 67]) (h' := q1.2) (sg1 rfl rfl (sg1 rfl rfl (sg1 rfl rfl (sg1 rfl rfl (sg1 rfl rfl (sg1 rfl rfl rfl)))))) ?_
    obtain ⟨v3, e_v3, hf⟩ := bnd hf
    refine Ex.iald e_v3 rfl rfl ?_
    refine Ex.seg 7 (pc' := 48) (lc' := [some (.ref 67), some (.int x1)]) (st' := [.int ((q1.2.1 67 56) - 1), .ref 103, .ref 67, .int v3, .int v2, .ref 67]) (h' := q1.2) (sg1 rfl rfl (sg1 rfl rfl (sg1 rfl rfl (sg1 rfl rfl (sg1 rfl rfl (sg1 rfl rfl (sg1 rfl rfl rfl))))))) ?_
    obtain ⟨v4, e_v4, hf⟩ := bnd hf
    refine Ex.iald e_v4 rfl rfl ?_
    obtain ⟨q5, e_q5, hf⟩ := bnd hf
    refine Ex.callV (a := 67) (As := [.int v4]) (r := [.int v3, .int v2, .ref 67]) (v := some (.int q5.1)) (h' := q5.2) rfl rfl (by decide) rfl (Nat.le_of_ble_eq_true rfl) rfl (E_305 (Nat.le_trans (by decide) hd) e_q5) rfl ?_
    refine Ex.seg 1 (pc' := 53) (lc' := [some (.ref 67), some (.int x1)]) (st' := [.int (v3 + q5.1), .int v2, .ref 67]) (h' := q5.2) (sg1 rfl rfl rfl) ?_
    obtain ⟨q6, e_q6, hf⟩ := bnd hf
    refine Ex.callV (a := 67) (As := [.int v2, .int (v3 + q5.1)]) (r := []) (v := none) (h' := q6) rfl rfl (by decide) rfl (Nat.le_of_ble_eq_true rfl) rfl (E_343 (Nat.le_trans (by decide) hd) e_q6) rfl ?_
    refine Ex.seg 2 (pc' := 58) (lc' := [some (.ref 67), some (.int x1)]) (st' := [.int x1, .ref 67]) (h' := q6) (sg1 rfl rfl (sg1 rfl rfl rfl)) ?_
    obtain ⟨q7, e_q7, hf⟩ := bnd hf
    refine Ex.callV (a := 67) (As := [.int x1]) (r := []) (v := none) (h' := q7) rfl rfl (by decide) rfl (Nat.le_of_ble_eq_true rfl) rfl (E_349 (Nat.le_trans (by decide) hd) e_q7) rfl ?_
    obtain rfl := Option.some.inj hf
    exact Ex.vret rfl rfl hs
  · rw [if_pos (Classical.not_not.mp c0)] at hf
    refine Ex.seg 2 (pc' := 10) (lc' := [some (.ref 67), some (.int x1)]) (st' := [.int 1, .ref 67]) (h' := q1.2) (sg1 rfl rfl (sg1 rfl rfl rfl)) ?_
    obtain ⟨q8, e_q8, hf⟩ := bnd hf
    refine Ex.callV (a := 67) (As := [.int 1]) (r := []) (v := none) (h' := q8) rfl rfl (by decide) rfl (Nat.le_of_ble_eq_true rfl) rfl (E_348 (Nat.le_trans (by decide) hd) e_q8) rfl ?_
    obtain rfl := Option.some.inj hf
    exact Ex.vret rfl rfl hs
theorem E_368 {L : Nat} {xs : Nat → Int32} {d : Nat} (hd : 4 ≤ d) {x1 : Int32} {h : sm_H} {r : sm_H} (hf : F_368 x1 h = some r) : RUN L xs d 368 [.ref 67, .int x1] h (none, r) := by
  obtain ⟨d, rfl⟩ : ∃ e, d = e + 1 := ⟨d - 1, by omega⟩
  exact ⟨Nat.le_of_ble_eq_true rfl, B_368_0 (by omega) hf rfl⟩
theorem B_369_119 {L : Nat} {xs : Nat → Int32} {d : Nat} (hd : 3 ≤ d) {res : Option Value × sm_H} {S1 : (Int32 × Int32 × Int32 × Int32 × sm_H) → Prop} (hS1 : ∀ s, S1 s → Ex (P_G L xs) (RUN L xs d) (sm_lk P_t369) 0 34 [some (.ref 67), some (.int s.1), some (.int s.2.1), some (.int s.2.2.1), some (.int s.2.2.2.1)] [] s.2.2.2.2 res) {y1 : Int32} {y2 : Int32} {y3 : Int32} {y4 : Int32}  {h : sm_H} {r : ((Int32 × Int32 × Int32 × Int32 × sm_H) ⊕ (sm_H))} (hf : F_369_119 y1 y2 y3 y4 h = some r) (hs : (Sum.elim S1 (fun (r : sm_H) => res = (none, r))) r) : Ex (P_G L xs) (RUN L xs d) (sm_lk P_t369) 0 119 [some (.ref 67), some (.int y1), some (.int y2), some (.int y3), some (.int y4)] [] h res := by
  unfold F_369_119 at hf
  refine Ex.seg 1 (pc' := 122) (lc' := [some (.ref 67), some (.int y1), some (.int y2), some (.int y3), some (.int (y4 + 1))]) (st' := []) (h' := h) (sg1 rfl rfl rfl) ?_
  obtain ⟨v1, e_v1, hf⟩ := bnd hf
  rw [Option.some.inj e_v1]
  refine Ex.seg 1 (pc' := 34) (lc' := [some (.ref 67), some (.int y1), some (.int y2), some (.int y3), some (.int v1)]) (st' := []) (h' := h) (sg1 rfl rfl rfl) ?_
  obtain rfl := Option.some.inj hf
  exact Ex.weak (sm_le_s (sm_le_s (sm_le_s (sm_le_s (sm_le_s sm_le_nil))))) (hS1 _ hs)
theorem B_369_34B {L : Nat} {xs : Nat → Int32} {d : Nat} (hd : 3 ≤ d) {res : Option Value × sm_H} {S1 : (Int32 × Int32 × Int32 × Int32 × sm_H) → Prop} (hS1 : ∀ s, S1 s → Ex (P_G L xs) (RUN L xs d) (sm_lk P_t369) 0 34 [some (.ref 67), some (.int s.1), some (.int s.2.1), some (.int s.2.2.1), some (.int s.2.2.2.1)] [] s.2.2.2.2 res) {s : (Int32 × Int32 × Int32 × Int32 × sm_H)}  {r : ((Int32 × Int32 × Int32 × Int32 × sm_H) ⊕ (sm_H))} (hf : F_369_34B s = some r) (hs : (Sum.elim S1 (fun (r : sm_H) => res = (none, r))) r) : Ex (P_G L xs) (RUN L xs d) (sm_lk P_t369) 0 34 [some (.ref 67), some (.int s.1), some (.int s.2.1), some (.int s.2.2.1), some (.int s.2.2.2.1)] [] s.2.2.2.2 res := by
  unfold F_369_34B at hf
  refine Ex.seg 3 (pc' := 40) (lc' := [some (.ref 67), some (.int s.1), some (.int s.2.1), some (.int s.2.2.1), some (.int s.2.2.2.1)]) (st' := [.int (s.2.2.2.2.1 67 32), .int s.2.2.2.1]) (h' := s.2.2.2.2) (sg1 rfl rfl (sg1 rfl rfl (sg1 rfl rfl rfl))) ?_
  refine Ex.icmp rfl rfl (fun (c0 : (s.2.2.2.2.1 67 32) ≤ s.2.2.2.1) => ?_) (fun (c0 : ¬ ((s.2.2.2.2.1 67 32) ≤ s.2.2.2.1)) => ?_)
  · rw [if_pos c0] at hf
    refine Ex.seg 4 (pc' := 131) (lc' := [some (.ref 67), some (.int s.1), some (.int s.2.1), some (.int s.2.2.1), some (.int s.2.2.2.1)]) (st' := [.int s.2.2.1, .int s.2.1, .ref 106]) (h' := s.2.2.2.2) (sg1 rfl rfl (sg1 rfl rfl (sg1 rfl rfl (sg1 rfl rfl rfl)))) ?_
    obtain ⟨h2, e_h2, hf⟩ := bnd hf
    refine Ex.iast e_h2 rfl rfl ?_
    refine Ex.seg 4 (pc' := 138) (lc' := [some (.ref 67), some (.int s.1), some (.int s.2.1), some (.int s.2.2.1), some (.int s.2.2.2.1)]) (st' := [.int s.1, .ref 83, .ref 67]) (h' := h2) (sg1 rfl rfl (sg1 rfl rfl (sg1 rfl rfl (sg1 rfl rfl rfl)))) ?_
    obtain ⟨v3, e_v3, hf⟩ := bnd hf
    refine Ex.iald e_v3 rfl rfl ?_
    refine Ex.seg 2 (pc' := 141) (lc' := [some (.ref 67), some (.int s.1), some (.int s.2.1), some (.int s.2.2.1), some (.int s.2.2.2.1)]) (st' := [.long (Int32.toInt64 s.2.2.1), .int v3, .ref 67]) (h' := h2) (sg1 rfl rfl (sg1 rfl rfl rfl)) ?_
    obtain ⟨q4, e_q4, hf⟩ := bnd hf
    refine Ex.callV (a := 67) (As := [.int v3, .long (Int32.toInt64 s.2.2.1)]) (r := []) (v := none) (h' := q4) rfl rfl (by decide) rfl (Nat.le_of_ble_eq_true rfl) rfl (E_342 (Nat.le_trans (by decide) hd) e_q4) rfl ?_
    refine Ex.seg 4 (pc' := 150) (lc' := [some (.ref 67), some (.int s.1), some (.int s.2.1), some (.int s.2.2.1), some (.int s.2.2.2.1)]) (st' := [.int s.2.1, .ref 105, .ref 67]) (h' := q4) (sg1 rfl rfl (sg1 rfl rfl (sg1 rfl rfl (sg1 rfl rfl rfl)))) ?_
    obtain ⟨v5, e_v5, hf⟩ := bnd hf
    refine Ex.iald e_v5 rfl rfl ?_
    refine Ex.seg 3 (pc' := 156) (lc' := [some (.ref 67), some (.int s.1), some (.int s.2.1), some (.int s.2.2.1), some (.int s.2.2.2.1)]) (st' := [.int s.2.1, .ref 105, .int v5, .ref 67]) (h' := q4) (sg1 rfl rfl (sg1 rfl rfl (sg1 rfl rfl rfl))) ?_
    obtain ⟨v6, e_v6, hf⟩ := bnd hf
    refine Ex.iald e_v6 rfl rfl ?_
    refine Ex.seg 4 (pc' := 163) (lc' := [some (.ref 67), some (.int s.1), some (.int s.2.1), some (.int s.2.2.1), some (.int s.2.2.2.1)]) (st' := [.int s.2.1, .ref 103, .ref 67, .int v6, .int v5, .ref 67]) (h' := q4) (sg1 rfl rfl (sg1 rfl rfl (sg1 rfl rfl (sg1 rfl rfl rfl)))) ?_
    obtain ⟨v7, e_v7, hf⟩ := bnd hf
    refine Ex.iald e_v7 rfl rfl ?_
    obtain ⟨q8, e_q8, hf⟩ := bnd hf
    refine Ex.callV (a := 67) (As := [.int v7]) (r := [.int v6, .int v5, .ref 67]) (v := some (.int q8.1)) (h' := q8.2) rfl rfl (by decide) rfl (Nat.le_of_ble_eq_true rfl) rfl (E_305 (Nat.le_trans (by decide) hd) e_q8) rfl ?_
    refine Ex.seg 1 (pc' := 168) (lc' := [some (.ref 67), some (.int s.1), some (.int s.2.1), some (.int s.2.2.1), some (.int s.2.2.2.1)]) (st' := [.int (v6 + q8.1), .int v5, .ref 67]) (h' := q8.2) (sg1 rfl rfl rfl) ?_
    obtain ⟨q9, e_q9, hf⟩ := bnd hf
    refine Ex.callV (a := 67) (As := [.int v5, .int (v6 + q8.1)]) (r := []) (v := none) (h' := q9) rfl rfl (by decide) rfl (Nat.le_of_ble_eq_true rfl) rfl (E_343 (Nat.le_trans (by decide) hd) e_q9) rfl ?_
    refine Ex.seg 4 (pc' := 177) (lc' := [some (.ref 67), some (.int s.1), some (.int s.2.1), some (.int s.2.2.1), some (.int s.2.2.2.1)]) (st' := [.int s.1, .ref 90, .ref 67]) (h' := q9) (sg1 rfl rfl (sg1 rfl rfl (sg1 rfl rfl (sg1 rfl rfl rfl)))) ?_
    obtain ⟨v10, e_v10, hf⟩ := bnd hf
    refine Ex.iald e_v10 rfl rfl ?_
    refine Ex.seg 1 (pc' := 180) (lc' := [some (.ref 67), some (.int s.1), some (.int s.2.1), some (.int s.2.2.1), some (.int s.2.2.2.1)]) (st' := [.int 14, .int v10, .ref 67]) (h' := q9) (sg1 rfl rfl rfl) ?_
    obtain ⟨q11, e_q11, hf⟩ := bnd hf
    refine Ex.callV (a := 67) (As := [.int v10, .int 14]) (r := []) (v := none) (h' := q11) rfl rfl (by decide) rfl (Nat.le_of_ble_eq_true rfl) rfl (E_350 (Nat.le_trans (by decide) hd) e_q11) rfl ?_
    obtain rfl := Option.some.inj hf
    exact Ex.vret rfl rfl hs
  · rw [if_neg c0] at hf
    refine Ex.seg 3 (pc' := 49) (lc' := [some (.ref 67), some (.int s.1), some (.int s.2.1), some (.int s.2.2.1), some (.int s.2.2.2.1)]) (st' := [.int s.2.2.2.1, .ref 87]) (h' := s.2.2.2.2) (sg1 rfl rfl (sg1 rfl rfl (sg1 rfl rfl rfl))) ?_
    obtain ⟨v12, e_v12, hf⟩ := bnd hf
    refine Ex.zald e_v12 rfl rfl ?_
    refine Ex.ifc rfl rfl (fun (c0 : v12 = 0) => ?_) (fun (c0 : ¬ (v12 = 0)) => ?_)
    · rw [if_pos c0] at hf
      exact Ex.weak (sm_le_s (sm_le_s (sm_le_s (sm_le_s (sm_le_s sm_le_nil))))) (B_369_119 hd hS1 hf hs)
    · rw [if_neg c0] at hf
      refine Ex.seg 3 (pc' := 59) (lc' := [some (.ref 67), some (.int s.1), some (.int s.2.1), some (.int s.2.2.1), some (.int s.2.2.2.1)]) (st' := [.int s.2.2.2.1, .ref 86]) (h' := s.2.2.2.2) (sg1 rfl rfl (sg1 rfl rfl (sg1 rfl rfl rfl))) ?_
      obtain ⟨v13, e_v13, hf⟩ := bnd hf
      refine Ex.zald e_v13 rfl rfl ?_
      refine Ex.ifc rfl rfl (fun (c0 : v13 = 0) => ?_) (fun (c0 : ¬ (v13 = 0)) => ?_)
      · rw [if_pos c0] at hf
        refine Ex.seg 4 (pc' := 73) (lc' := [some (.ref 67), some (.int s.1), some (.int s.2.1), some (.int s.2.2.1), some (.int s.2.2.2.1)]) (st' := [.int s.2.2.2.1, .ref 88, .ref 67]) (h' := s.2.2.2.2) (sg1 rfl rfl (sg1 rfl rfl (sg1 rfl rfl (sg1 rfl rfl rfl)))) ?_
        obtain ⟨v14, e_v14, hf⟩ := bnd hf
        refine Ex.iald e_v14 rfl rfl ?_
        obtain ⟨q15, e_q15, hf⟩ := bnd hf
        refine Ex.callV (a := 67) (As := [.int v14]) (r := []) (v := none) (h' := q15) rfl rfl (by decide) rfl (Nat.le_of_ble_eq_true rfl) rfl (E_299 (Nat.le_trans (by decide) hd) e_q15) rfl ?_
        refine Ex.seg 8 (pc' := 91) (lc' := [some (.ref 67), some (.int s.1), some (.int s.2.1), some (.int s.2.2.1), some (.int s.2.2.2.1)]) (st' := [.int s.2.2.2.1, .ref 91, .int (100 * s.2.2.1), .ref 98]) (h' := q15) (sg1 rfl rfl (sg1 rfl rfl (sg1 rfl rfl (sg1 rfl rfl (sg1 rfl rfl (sg1 rfl rfl (sg1 rfl rfl (sg1 rfl rfl rfl)))))))) ?_
        obtain ⟨v16, e_v16, hf⟩ := bnd hf
        refine Ex.iald e_v16 rfl rfl ?_
        refine Ex.seg 3 (pc' := 97) (lc' := [some (.ref 67), some (.int s.1), some (.int s.2.1), some (.int s.2.2.1), some (.int s.2.2.2.1)]) (st' := [.int (q15.1 67 48), .int ((100 * s.2.2.1) + v16), .ref 98]) (h' := q15) (sg1 rfl rfl (sg1 rfl rfl (sg1 rfl rfl rfl))) ?_
        obtain ⟨h17, e_h17, hf⟩ := bnd hf
        refine Ex.iast e_h17 rfl rfl ?_
        refine Ex.seg 8 (pc' := 112) (lc' := [some (.ref 67), some (.int s.1), some (.int s.2.1), some (.int s.2.2.1), some (.int s.2.2.2.1)]) (st' := [.int s.2.2.2.1, .ref 91, .int (100 * s.2.2.1), .ref 99]) (h' := h17) (sg1 rfl rfl (sg1 rfl rfl (sg1 rfl rfl (sg1 rfl rfl (sg1 rfl rfl (sg1 rfl rfl (sg1 rfl rfl (sg1 rfl rfl rfl)))))))) ?_
        obtain ⟨v18, e_v18, hf⟩ := bnd hf
        refine Ex.iald e_v18 rfl rfl ?_
        refine Ex.seg 3 (pc' := 118) (lc' := [some (.ref 67), some (.int s.1), some (.int s.2.1), some (.int s.2.2.1), some (.int s.2.2.2.1)]) (st' := [.long (h17.2.1 67 49), .int ((100 * s.2.2.1) + v18), .ref 99]) (h' := h17) (sg1 rfl rfl (sg1 rfl rfl (sg1 rfl rfl rfl))) ?_
        obtain ⟨h19, e_h19, hf⟩ := bnd hf
        refine Ex.last e_h19 rfl rfl ?_
        exact Ex.weak (sm_le_s (sm_le_s (sm_le_s (sm_le_s (sm_le_s sm_le_nil))))) (B_369_119 hd hS1 hf hs)
      · rw [if_neg c0] at hf
        refine Ex.seg 1 (pc' := 119) (lc' := [some (.ref 67), some (.int s.1), some (.int s.2.1), some (.int s.2.2.1), some (.int s.2.2.2.1)]) (st' := []) (h' := s.2.2.2.2) (sg1 rfl rfl rfl) ?_
        exact Ex.weak (sm_le_s (sm_le_s (sm_le_s (sm_le_s (sm_le_s sm_le_nil))))) (B_369_119 hd hS1 hf hs)
theorem B_369_34 {L : Nat} {xs : Nat → Int32} {d : Nat} (hd : 3 ≤ d) {res : Option Value × sm_H} {y1 : Int32} {y2 : Int32} {y3 : Int32} {y4 : Int32}  {h : sm_H} {r : (sm_H)} (hf : F_369_34 y1 y2 y3 y4 h = some r) (hs : (fun (r : sm_H) => res = (none, r)) r) : Ex (P_G L xs) (RUN L xs d) (sm_lk P_t369) 0 34 [some (.ref 67), some (.int y1), some (.int y2), some (.int y3), some (.int y4)] [] h res := by
  unfold F_369_34 at hf
  exact lp_ok (P := fun (s : (Int32 × Int32 × Int32 × Int32 × sm_H)) => Ex (P_G L xs) (RUN L xs d) (sm_lk P_t369) 0 34 [some (.ref 67), some (.int s.1), some (.int s.2.1), some (.int s.2.2.1), some (.int s.2.2.2.1)] [] s.2.2.2.2 res) (S := (fun (r : sm_H) => res = (none, r))) (fun s x hx hsx => by
    intros
    exact B_369_34B hd  (fun _ q => q) hx hsx) 1000000 _ r hf hs
theorem B_369_0 {L : Nat} {xs : Nat → Int32} {d : Nat} (hd : 3 ≤ d) {res : Option Value × sm_H} {x1 : Int32}  {h : sm_H} {r : (sm_H)} (hf : F_369_0 x1 h = some r) (hs : (fun (r : sm_H) => res = (none, r)) r) : Ex (P_G L xs) (RUN L xs d) (sm_lk P_t369) 0 0 [some (.ref 67), some (.int x1), none, none, none] [] h res := by
  unfold F_369_0 at hf
  refine Ex.seg 2 (pc' := 2) (lc' := [some (.ref 67), some (.int x1), none, none, none]) (st' := [.int 0, .ref 67]) (h' := h) (sg1 rfl rfl (sg1 rfl rfl rfl)) ?_
  obtain ⟨q20, e_q20, hf⟩ := bnd hf
  refine Ex.callV (a := 67) (As := [.int 0]) (r := []) (v := some (.int q20.1)) (h' := q20.2) rfl rfl (by decide) rfl (Nat.le_of_ble_eq_true rfl) rfl (E_357 (Nat.le_trans (by decide) hd) e_q20) rfl ?_
  refine Ex.ifc rfl rfl (fun (c0 : q20.1 = 0) => ?_) (fun (c0 : ¬ (q20.1 = 0)) => ?_)
  · rw [if_pos c0] at hf
    refine Ex.seg 5 (pc' := 16) (lc' := [some (.ref 67), some (.int x1), some (.int ((q20.2.1 67 56) - 1)), none, none]) (st' := []) (h' := q20.2) (sg1 rfl rfl (sg1 rfl rfl (sg1 rfl rfl (sg1 rfl rfl (sg1 rfl rfl rfl))))) ?_
    obtain ⟨v21, e_v21, hf⟩ := bnd hf
    rw [Option.some.inj e_v21]
    refine Ex.seg 4 (pc' := 22) (lc' := [some (.ref 67), some (.int x1), some (.int v21), none, none]) (st' := [.int x1, .ref 83, .ref 67]) (h' := q20.2) (sg1 rfl rfl (sg1 rfl rfl (sg1 rfl rfl (sg1 rfl rfl rfl)))) ?_
    obtain ⟨v22, e_v22, hf⟩ := bnd hf
    refine Ex.iald e_v22 rfl rfl ?_
    refine Ex.seg 2 (pc' := 27) (lc' := [some (.ref 67), some (.int x1), some (.int v21), none, none]) (st' := [.int (q20.2.1 67 33), .int v22, .ref 67]) (h' := q20.2) (sg1 rfl rfl (sg1 rfl rfl rfl)) ?_
    obtain ⟨q23, e_q23, hf⟩ := bnd hf
    refine Ex.callV (a := 67) (As := [.int v22, .int (q20.2.1 67 33)]) (r := []) (v := some (.int q23.1)) (h' := q23.2) rfl rfl (by decide) rfl (Nat.le_of_ble_eq_true rfl) rfl (E_358 (Nat.le_trans (by decide) hd) e_q23) rfl ?_
    refine Ex.seg 3 (pc' := 34) (lc' := [some (.ref 67), some (.int x1), some (.int v21), some (.int q23.1), some (.int 0)]) (st' := []) (h' := q23.2) (sg1 rfl rfl (sg1 rfl rfl (sg1 rfl rfl rfl))) ?_
    exact Ex.weak (sm_le_s (sm_le_s (sm_le_s (sm_le_s (sm_le_s sm_le_nil))))) (B_369_34 hd  hf hs)
  · rw [if_neg c0] at hf
    obtain rfl := Option.some.inj hf
    exact Ex.vret rfl rfl hs
theorem E_369 {L : Nat} {xs : Nat → Int32} {d : Nat} (hd : 4 ≤ d) {x1 : Int32} {h : sm_H} {r : sm_H} (hf : F_369 x1 h = some r) : RUN L xs d 369 [.ref 67, .int x1] h (none, r) := by
  obtain ⟨d, rfl⟩ : ∃ e, d = e + 1 := ⟨d - 1, by omega⟩
  exact ⟨Nat.le_of_ble_eq_true rfl, B_369_0 (by omega) hf rfl⟩
