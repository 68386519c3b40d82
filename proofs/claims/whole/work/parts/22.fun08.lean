theorem B_119_108 {L : Nat} {xs : Nat → Int32} {d : Nat} (hd : 4 ≤ d) {res : Option Value × sm_H}   {h : sm_H} {r : (Int32 × sm_H)} (hf : F_119_108  h = some r) (hs : (fun (r : Int32 × sm_H) => res = (some (.int r.1), r.2)) r) : Ex (P_G L xs) (RUN L xs d) (sm_lk P_t119) 0 108 [none, none, none, none, none, none, none, none] [] h res := by
  unfold F_119_108 at hf
  refine Ex.seg 1 (pc' := 109) (lc' := [none, none, none, none, none, none, none, none]) (st' := [.int (-1)]) (h' := h) (sg1 rfl rfl rfl) ?_
  obtain rfl := Option.some.inj hf
  exact Ex.iret rfl rfl (fun c0 => by cases c0) hs
theorem B_119_100 {L : Nat} {xs : Nat → Int32} {d : Nat} (hd : 4 ≤ d) {res : Option Value × sm_H} {S1 : (Int32 × Int32 × Int32 × Int32 × Int32 × sm_H) → Prop} (hS1 : ∀ s, S1 s → Ex (P_G L xs) (RUN L xs d) (sm_lk P_t119) 0 6 [some (.ref 38), none, some (.int s.1), some (.int s.2.1), some (.int s.2.2.1), some (.int s.2.2.2.1), some (.int s.2.2.2.2.1), none] [] s.2.2.2.2.2 res) {y2 : Int32} {y3 : Int32} {y4 : Int32} {y6 : Int32} {z0 : Int32}  {h : sm_H} {r : ((Int32 × Int32 × Int32 × Int32 × Int32 × sm_H) ⊕ (Int32 × sm_H))} (hf : F_119_100 y2 y3 y4 y6 z0 h = some r) (hs : (Sum.elim S1 (fun (r : Int32 × sm_H) => res = (some (.int r.1), r.2))) r) : Ex (P_G L xs) (RUN L xs d) (sm_lk P_t119) 0 100 [some (.ref 38), none, some (.int y2), some (.int y3), some (.int y4), none, some (.int y6), none] [.int z0] h res := by
  unfold F_119_100 at hf
  refine Ex.seg 2 (pc' := 105) (lc' := [some (.ref 38), none, some (.int y2), some (.int y3), some (.int y4), some (.int z0), some (.int (y6 + 1)), none]) (st' := []) (h' := h) (sg1 rfl rfl (sg1 rfl rfl rfl)) ?_
  obtain ⟨v1, e_v1, hf⟩ := bnd hf
  rw [Option.some.inj e_v1]
  refine Ex.seg 1 (pc' := 6) (lc' := [some (.ref 38), none, some (.int y2), some (.int y3), some (.int y4), some (.int z0), some (.int v1), none]) (st' := []) (h' := h) (sg1 rfl rfl rfl) ?_
  obtain rfl := Option.some.inj hf
  exact Ex.weak (sm_le_s (sm_le_s (sm_le_s (sm_le_s (sm_le_s (sm_le_s (sm_le_s (sm_le_s sm_le_nil)))))))) (hS1 _ hs)
theorem B_119_75 {L : Nat} {xs : Nat → Int32} {d : Nat} (hd : 4 ≤ d) {res : Option Value × sm_H} {S1 : (Int32 × Int32 × Int32 × Int32 × Int32 × sm_H) → Prop} (hS1 : ∀ s, S1 s → Ex (P_G L xs) (RUN L xs d) (sm_lk P_t119) 0 6 [some (.ref 38), none, some (.int s.1), some (.int s.2.1), some (.int s.2.2.1), some (.int s.2.2.2.1), some (.int s.2.2.2.2.1), none] [] s.2.2.2.2.2 res) {S2 : (Int32 × Int32 × Int32 × Int32 × Int32 × Int32 × sm_H) → Prop} (hS2 : ∀ s, S2 s → Ex (P_G L xs) (RUN L xs d) (sm_lk P_t119) 0 28 [some (.ref 38), none, some (.int s.1), some (.int s.2.1), some (.int s.2.2.1), some (.int s.2.2.2.1), some (.int s.2.2.2.2.1), some (.int s.2.2.2.2.2.1)] [] s.2.2.2.2.2.2 res) {y2 : Int32} {y3 : Int32} {y4 : Int32} {y5 : Int32} {y6 : Int32} {y7 : Int32}  {h : sm_H} {r : ((Int32 × Int32 × Int32 × Int32 × Int32 × Int32 × sm_H) ⊕ ((Int32 × Int32 × Int32 × Int32 × Int32 × sm_H) ⊕ (Int32 × sm_H)))} (hf : F_119_75 y2 y3 y4 y5 y6 y7 h = some r) (hs : (Sum.elim S2 (Sum.elim S1 (fun (r : Int32 × sm_H) => res = (some (.int r.1), r.2)))) r) : Ex (P_G L xs) (RUN L xs d) (sm_lk P_t119) 0 75 [some (.ref 38), none, some (.int y2), some (.int y3), some (.int y4), some (.int y5), some (.int y6), some (.int y7)] [] h res := by
  unfold F_119_75 at hf
  refine Ex.seg 1 (pc' := 78) (lc' := [some (.ref 38), none, some (.int y2), some (.int y3), some (.int y4), some (.int y5), some (.int y6), some (.int (y7 + 1))]) (st' := []) (h' := h) (sg1 rfl rfl rfl) ?_
  obtain ⟨v2, e_v2, hf⟩ := bnd hf
  rw [Option.some.inj e_v2]
  refine Ex.seg 1 (pc' := 28) (lc' := [some (.ref 38), none, some (.int y2), some (.int y3), some (.int y4), some (.int y5), some (.int y6), some (.int v2)]) (st' := []) (h' := h) (sg1 rfl rfl rfl) ?_
  obtain rfl := Option.some.inj hf
  exact Ex.weak (sm_le_s (sm_le_s (sm_le_s (sm_le_s (sm_le_s (sm_le_s (sm_le_s (sm_le_s sm_le_nil)))))))) (hS2 _ hs)
theorem B_119_28B {L : Nat} {xs : Nat → Int32} {d : Nat} (hd : 4 ≤ d) {res : Option Value × sm_H} {S1 : (Int32 × Int32 × Int32 × Int32 × Int32 × sm_H) → Prop} (hS1 : ∀ s, S1 s → Ex (P_G L xs) (RUN L xs d) (sm_lk P_t119) 0 6 [some (.ref 38), none, some (.int s.1), some (.int s.2.1), some (.int s.2.2.1), some (.int s.2.2.2.1), some (.int s.2.2.2.2.1), none] [] s.2.2.2.2.2 res) {S2 : (Int32 × Int32 × Int32 × Int32 × Int32 × Int32 × sm_H) → Prop} (hS2 : ∀ s, S2 s → Ex (P_G L xs) (RUN L xs d) (sm_lk P_t119) 0 28 [some (.ref 38), none, some (.int s.1), some (.int s.2.1), some (.int s.2.2.1), some (.int s.2.2.2.1), some (.int s.2.2.2.2.1), some (.int s.2.2.2.2.2.1)] [] s.2.2.2.2.2.2 res) {s : (Int32 × Int32 × Int32 × Int32 × Int32 × Int32 × sm_H)}  {r : ((Int32 × Int32 × Int32 × Int32 × Int32 × Int32 × sm_H) ⊕ ((Int32 × Int32 × Int32 × Int32 × Int32 × sm_H) ⊕ (Int32 × sm_H)))} (hf : F_119_28B s = some r) (hs : (Sum.elim S2 (Sum.elim S1 (fun (r : Int32 × sm_H) => res = (some (.int r.1), r.2)))) r) : Ex (P_G L xs) (RUN L xs d) (sm_lk P_t119) 0 28 [some (.ref 38), none, some (.int s.1), some (.int s.2.1), some (.int s.2.2.1), some (.int s.2.2.2.1), some (.int s.2.2.2.2.1), some (.int s.2.2.2.2.2.1)] [] s.2.2.2.2.2.2 res := by
  unfold F_119_28B at hf
  refine Ex.seg 3 (pc' := 34) (lc' := [some (.ref 38), none, some (.int s.1), some (.int s.2.1), some (.int s.2.2.1), some (.int s.2.2.2.1), some (.int s.2.2.2.2.1), some (.int s.2.2.2.2.2.1)]) (st' := [.int (s.2.2.2.2.2.2.1 38 13), .int s.2.2.2.2.2.1]) (h' := s.2.2.2.2.2.2) (sg1 rfl rfl (sg1 rfl rfl (sg1 rfl rfl rfl))) ?_
  refine Ex.icmp rfl rfl (fun (c0 : (s.2.2.2.2.2.2.1 38 13) ≤ s.2.2.2.2.2.1) => ?_) (fun (c0 : ¬ ((s.2.2.2.2.2.2.1 38 13) ≤ s.2.2.2.2.2.1)) => ?_)
  · rw [if_pos c0] at hf
    refine Ex.seg 2 (pc' := 84) (lc' := [some (.ref 38), none, some (.int s.1), some (.int s.2.1), some (.int s.2.2.1), some (.int s.2.2.2.1), some (.int s.2.2.2.2.1), some (.int s.2.2.2.2.2.1)]) (st' := [.int 3, .int s.2.2.1]) (h' := s.2.2.2.2.2.2) (sg1 rfl rfl (sg1 rfl rfl rfl)) ?_
    refine Ex.icmp rfl rfl (fun (c0 : ¬ (s.2.2.1 = 3)) => ?_) (fun (c0 : ¬ ¬ (s.2.2.1 = 3)) => ?_)
    · rw [if_neg c0] at hf
      refine Ex.seg 3 (pc' := 97) (lc' := [some (.ref 38), none, some (.int s.1), some (.int s.2.1), some (.int s.2.2.1), some (.int s.2.2.2.1), some (.int s.2.2.2.2.1), some (.int s.2.2.2.2.2.1)]) (st' := [.int s.2.2.2.1, .ref 1]) (h' := s.2.2.2.2.2.2) (sg1 rfl rfl (sg1 rfl rfl (sg1 rfl rfl rfl))) ?_
      obtain ⟨q3, e_q3, hf⟩ := bnd hf
      refine Ex.callV (a := 1) (As := [.int s.2.2.2.1]) (r := []) (v := some (.int q3.1)) (h' := q3.2) rfl rfl (by decide) rfl (Nat.le_of_ble_eq_true rfl) rfl (E_61 (Nat.le_trans (by decide) hd) e_q3) rfl ?_
      obtain ⟨r0, hf0, rfl⟩ := Option.map_eq_some_iff.mp hf
      exact Ex.weak (sm_le_s (sm_le_s (sm_le_s (sm_le_s (sm_le_s (sm_le_n (sm_le_s (sm_le_n sm_le_nil)))))))) (B_119_100 hd hS1 hf0 hs)
    · rw [if_pos (Classical.not_not.mp c0)] at hf
      refine Ex.seg 2 (pc' := 100) (lc' := [some (.ref 38), none, some (.int s.1), some (.int s.2.1), some (.int s.2.2.1), some (.int s.2.2.2.1), some (.int s.2.2.2.2.1), some (.int s.2.2.2.2.2.1)]) (st' := [.int (-1)]) (h' := s.2.2.2.2.2.2) (sg1 rfl rfl (sg1 rfl rfl rfl)) ?_
      obtain ⟨r0, hf0, rfl⟩ := Option.map_eq_some_iff.mp hf
      exact Ex.weak (sm_le_s (sm_le_s (sm_le_s (sm_le_s (sm_le_s (sm_le_n (sm_le_s (sm_le_n sm_le_nil)))))))) (B_119_100 hd hS1 hf0 hs)
  · rw [if_neg c0] at hf
    refine Ex.seg 3 (pc' := 43) (lc' := [some (.ref 38), none, some (.int s.1), some (.int s.2.1), some (.int s.2.2.1), some (.int s.2.2.2.1), some (.int s.2.2.2.2.1), some (.int s.2.2.2.2.2.1)]) (st' := [.int s.2.2.2.2.2.1, .ref 39]) (h' := s.2.2.2.2.2.2) (sg1 rfl rfl (sg1 rfl rfl (sg1 rfl rfl rfl))) ?_
    obtain ⟨v4, e_v4, hf⟩ := bnd hf
    refine Ex.iald e_v4 rfl rfl ?_
    refine Ex.seg 1 (pc' := 46) (lc' := [some (.ref 38), none, some (.int s.1), some (.int s.2.1), some (.int s.2.2.1), some (.int s.2.2.2.1), some (.int s.2.2.2.2.1), some (.int s.2.2.2.2.2.1)]) (st' := [.int s.2.2.2.1, .int v4]) (h' := s.2.2.2.2.2.2) (sg1 rfl rfl rfl) ?_
    refine Ex.icmp rfl rfl (fun (c0 : ¬ (v4 = s.2.2.2.1)) => ?_) (fun (c0 : ¬ ¬ (v4 = s.2.2.2.1)) => ?_)
    · rw [if_neg c0] at hf
      exact Ex.weak (sm_le_s (sm_le_s (sm_le_s (sm_le_s (sm_le_s (sm_le_s (sm_le_s (sm_le_s sm_le_nil)))))))) (B_119_75 hd hS1 hS2 hf hs)
    · rw [if_pos (Classical.not_not.mp c0)] at hf
      refine Ex.seg 3 (pc' := 55) (lc' := [some (.ref 38), none, some (.int s.1), some (.int s.2.1), some (.int s.2.2.1), some (.int s.2.2.2.1), some (.int s.2.2.2.2.1), some (.int s.2.2.2.2.2.1)]) (st' := [.int s.2.2.2.2.2.1, .ref 40]) (h' := s.2.2.2.2.2.2) (sg1 rfl rfl (sg1 rfl rfl (sg1 rfl rfl rfl))) ?_
      obtain ⟨v5, e_v5, hf⟩ := bnd hf
      refine Ex.iald e_v5 rfl rfl ?_
      refine Ex.seg 1 (pc' := 57) (lc' := [some (.ref 38), none, some (.int s.1), some (.int s.2.1), some (.int s.2.2.1), some (.int s.2.2.2.1), some (.int s.2.2.2.2.1), some (.int s.2.2.2.2.2.1)]) (st' := [.int s.1, .int v5]) (h' := s.2.2.2.2.2.2) (sg1 rfl rfl rfl) ?_
      refine Ex.icmp rfl rfl (fun (c0 : ¬ (v5 = s.1)) => ?_) (fun (c0 : ¬ ¬ (v5 = s.1)) => ?_)
      · rw [if_neg c0] at hf
        exact Ex.weak (sm_le_s (sm_le_s (sm_le_s (sm_le_s (sm_le_s (sm_le_s (sm_le_s (sm_le_s sm_le_nil)))))))) (B_119_75 hd hS1 hS2 hf hs)
      · rw [if_pos (Classical.not_not.mp c0)] at hf
        refine Ex.seg 4 (pc' := 66) (lc' := [some (.ref 38), none, some (.int s.1), some (.int s.2.1), some (.int s.2.2.1), some (.int s.2.2.2.1), some (.int s.2.2.2.2.1), some (.int s.2.2.2.2.2.1)]) (st' := [.int s.2.2.1, .int s.2.1, .int s.2.2.2.2.2.1, .ref 38]) (h' := s.2.2.2.2.2.2) (sg1 rfl rfl (sg1 rfl rfl (sg1 rfl rfl (sg1 rfl rfl rfl)))) ?_
        obtain ⟨q6, e_q6, hf⟩ := bnd hf
        refine Ex.callV (a := 38) (As := [.int s.2.2.2.2.2.1, .int s.2.1, .int s.2.2.1]) (r := []) (v := some (.int q6.1)) (h' := q6.2) rfl rfl (by decide) rfl (Nat.le_of_ble_eq_true rfl) rfl (E_120 (Nat.le_trans (by decide) hd) e_q6) rfl ?_
        refine Ex.ifc rfl rfl (fun (c0 : q6.1 = 0) => ?_) (fun (c0 : ¬ (q6.1 = 0)) => ?_)
        · rw [if_pos c0] at hf
          exact Ex.weak (sm_le_s (sm_le_s (sm_le_s (sm_le_s (sm_le_s (sm_le_s (sm_le_s (sm_le_s sm_le_nil)))))))) (B_119_75 hd hS1 hS2 hf hs)
        · rw [if_neg c0] at hf
          refine Ex.seg 1 (pc' := 74) (lc' := [some (.ref 38), none, some (.int s.1), some (.int s.2.1), some (.int s.2.2.1), some (.int s.2.2.2.1), some (.int s.2.2.2.2.1), some (.int s.2.2.2.2.2.1)]) (st' := [.int s.2.2.2.2.2.1]) (h' := q6.2) (sg1 rfl rfl rfl) ?_
          obtain rfl := Option.some.inj hf
          exact Ex.iret rfl rfl (fun c0 => by cases c0) hs
theorem B_119_28 {L : Nat} {xs : Nat → Int32} {d : Nat} (hd : 4 ≤ d) {res : Option Value × sm_H} {S1 : (Int32 × Int32 × Int32 × Int32 × Int32 × sm_H) → Prop} (hS1 : ∀ s, S1 s → Ex (P_G L xs) (RUN L xs d) (sm_lk P_t119) 0 6 [some (.ref 38), none, some (.int s.1), some (.int s.2.1), some (.int s.2.2.1), some (.int s.2.2.2.1), some (.int s.2.2.2.2.1), none] [] s.2.2.2.2.2 res) {y2 : Int32} {y3 : Int32} {y4 : Int32} {y5 : Int32} {y6 : Int32} {y7 : Int32}  {h : sm_H} {r : ((Int32 × Int32 × Int32 × Int32 × Int32 × sm_H) ⊕ (Int32 × sm_H))} (hf : F_119_28 y2 y3 y4 y5 y6 y7 h = some r) (hs : (Sum.elim S1 (fun (r : Int32 × sm_H) => res = (some (.int r.1), r.2))) r) : Ex (P_G L xs) (RUN L xs d) (sm_lk P_t119) 0 28 [some (.ref 38), none, some (.int y2), some (.int y3), some (.int y4), some (.int y5), some (.int y6), some (.int y7)] [] h res := by
  unfold F_119_28 at hf
  exact lp_ok (P := fun (s : (Int32 × Int32 × Int32 × Int32 × Int32 × Int32 × sm_H)) => Ex (P_G L xs) (RUN L xs d) (sm_lk P_t119) 0 28 [some (.ref 38), none, some (.int s.1), some (.int s.2.1), some (.int s.2.2.1), some (.int s.2.2.2.1), some (.int s.2.2.2.2.1), some (.int s.2.2.2.2.2.1)] [] s.2.2.2.2.2.2 res) (S := (Sum.elim S1 (fun (r : Int32 × sm_H) => res = (some (.int r.1), r.2)))) (fun s x hx hsx => by
    intros
    exact B_119_28B hd hS1 (fun _ q => q) hx hsx) 1000000 _ r hf hs
theorem B_119_6B {L : Nat} {xs : Nat → Int32} {d : Nat} (hd : 4 ≤ d) {res : Option Value × sm_H} {S1 : (Int32 × Int32 × Int32 × Int32 × Int32 × sm_H) → Prop} (hS1 : ∀ s, S1 s → Ex (P_G L xs) (RUN L xs d) (sm_lk P_t119) 0 6 [some (.ref 38), none, some (.int s.1), some (.int s.2.1), some (.int s.2.2.1), some (.int s.2.2.2.1), some (.int s.2.2.2.2.1), none] [] s.2.2.2.2.2 res) {s : (Int32 × Int32 × Int32 × Int32 × Int32 × sm_H)}  {r : ((Int32 × Int32 × Int32 × Int32 × Int32 × sm_H) ⊕ (Int32 × sm_H))} (hf : F_119_6B s = some r) (hs : (Sum.elim S1 (fun (r : Int32 × sm_H) => res = (some (.int r.1), r.2))) r) : Ex (P_G L xs) (RUN L xs d) (sm_lk P_t119) 0 6 [some (.ref 38), none, some (.int s.1), some (.int s.2.1), some (.int s.2.2.1), some (.int s.2.2.2.1), some (.int s.2.2.2.2.1), none] [] s.2.2.2.2.2 res := by
  unfold F_119_6B at hf
  refine Ex.seg 2 (pc' := 10) (lc' := [some (.ref 38), none, some (.int s.1), some (.int s.2.1), some (.int s.2.2.1), some (.int s.2.2.2.1), some (.int s.2.2.2.2.1), none]) (st' := [.int 32, .int s.2.2.2.2.1]) (h' := s.2.2.2.2.2) (sg1 rfl rfl (sg1 rfl rfl rfl)) ?_
  refine Ex.icmp rfl rfl (fun (c0 : 32 ≤ s.2.2.2.2.1) => ?_) (fun (c0 : ¬ (32 ≤ s.2.2.2.2.1)) => ?_)
  · rw [if_pos c0] at hf
    obtain ⟨r0, hf0, rfl⟩ := Option.map_eq_some_iff.mp hf
    exact Ex.weak (sm_le_n (sm_le_s (sm_le_n (sm_le_n (sm_le_n (sm_le_n (sm_le_n (sm_le_s sm_le_nil)))))))) (B_119_108 hd  hf0 hs)
  · rw [if_neg c0] at hf
    refine Ex.seg 3 (pc' := 19) (lc' := [some (.ref 38), none, some (.int s.1), some (.int s.2.1), some (.int s.2.2.1), some (.int s.2.2.2.1), some (.int s.2.2.2.2.1), none]) (st' := [.int s.2.2.2.1, .ref 1]) (h' := s.2.2.2.2.2) (sg1 rfl rfl (sg1 rfl rfl (sg1 rfl rfl rfl))) ?_
    obtain ⟨q7, e_q7, hf⟩ := bnd hf
    refine Ex.callV (a := 1) (As := [.int s.2.2.2.1]) (r := []) (v := some (.int q7.1)) (h' := q7.2) rfl rfl (by decide) rfl (Nat.le_of_ble_eq_true rfl) rfl (E_55 (Nat.le_trans (by decide) hd) e_q7) rfl ?_
    refine Ex.ifc rfl rfl (fun (c0 : q7.1 = 0) => ?_) (fun (c0 : ¬ (q7.1 = 0)) => ?_)
    · rw [if_pos c0] at hf
      obtain ⟨r0, hf0, rfl⟩ := Option.map_eq_some_iff.mp hf
      exact Ex.weak (sm_le_n (sm_le_s (sm_le_n (sm_le_n (sm_le_n (sm_le_n (sm_le_n (sm_le_s sm_le_nil)))))))) (B_119_108 hd  hf0 hs)
    · rw [if_neg c0] at hf
      refine Ex.seg 2 (pc' := 28) (lc' := [some (.ref 38), none, some (.int s.1), some (.int s.2.1), some (.int s.2.2.1), some (.int s.2.2.2.1), some (.int s.2.2.2.2.1), some (.int 0)]) (st' := []) (h' := q7.2) (sg1 rfl rfl (sg1 rfl rfl rfl)) ?_
      exact Ex.weak (sm_le_s (sm_le_s (sm_le_s (sm_le_s (sm_le_s (sm_le_s (sm_le_s (sm_le_s sm_le_nil)))))))) (B_119_28 hd hS1 hf hs)
theorem B_119_6 {L : Nat} {xs : Nat → Int32} {d : Nat} (hd : 4 ≤ d) {res : Option Value × sm_H} {y2 : Int32} {y3 : Int32} {y4 : Int32} {y5 : Int32} {y6 : Int32}  {h : sm_H} {r : (Int32 × sm_H)} (hf : F_119_6 y2 y3 y4 y5 y6 h = some r) (hs : (fun (r : Int32 × sm_H) => res = (some (.int r.1), r.2)) r) : Ex (P_G L xs) (RUN L xs d) (sm_lk P_t119) 0 6 [some (.ref 38), none, some (.int y2), some (.int y3), some (.int y4), some (.int y5), some (.int y6), none] [] h res := by
  unfold F_119_6 at hf
  exact lp_ok (P := fun (s : (Int32 × Int32 × Int32 × Int32 × Int32 × sm_H)) => Ex (P_G L xs) (RUN L xs d) (sm_lk P_t119) 0 6 [some (.ref 38), none, some (.int s.1), some (.int s.2.1), some (.int s.2.2.1), some (.int s.2.2.2.1), some (.int s.2.2.2.2.1), none] [] s.2.2.2.2.2 res) (S := (fun (r : Int32 × sm_H) => res = (some (.int r.1), r.2))) (fun s x hx hsx => by
    intros
    exact B_119_6B hd  (fun _ q => q) hx hsx) 1000000 _ r hf hs
theorem B_119_0 {L : Nat} {xs : Nat → Int32} {d : Nat} (hd : 4 ≤ d) {res : Option Value × sm_H} {x1 : Int32} {x2 : Int32} {x3 : Int32} {x4 : Int32}  {h : sm_H} {r : (Int32 × sm_H)} (hf : F_119_0 x1 x2 x3 x4 h = some r) (hs : (fun (r : Int32 × sm_H) => res = (some (.int r.1), r.2)) r) : Ex (P_G L xs) (RUN L xs d) (sm_lk P_t119) 0 0 [some (.ref 38), some (.int x1), some (.int x2), some (.int x3), some (.int x4), none, none, none] [] h res := by
  unfold F_119_0 at hf
  refine Ex.seg 4 (pc' := 6) (lc' := [some (.ref 38), some (.int x1), some (.int x2), some (.int x3), some (.int x4), some (.int x1), some (.int 0), none]) (st' := []) (h' := h) (sg1 rfl rfl (sg1 rfl rfl (sg1 rfl rfl (sg1 rfl rfl rfl)))) ?_
  exact Ex.weak (sm_le_s (sm_le_n (sm_le_s (sm_le_s (sm_le_s (sm_le_s (sm_le_s (sm_le_s sm_le_nil)))))))) (B_119_6 hd  hf hs)
theorem E_119 {L : Nat} {xs : Nat → Int32} {d : Nat} (hd : 5 ≤ d) {x1 : Int32} {x2 : Int32} {x3 : Int32} {x4 : Int32} {h : sm_H} {r : Int32 × sm_H} (hf : F_119 x1 x2 x3 x4 h = some r) : RUN L xs d 119 [.ref 38, .int x1, .int x2, .int x3, .int x4] h (some (.int r.1), r.2) := by
  obtain ⟨d, rfl⟩ : ∃ e, d = e + 1 := ⟨d - 1, by omega⟩
  exact ⟨Nat.le_of_ble_eq_true rfl, B_119_0 (by omega) hf rfl⟩
theorem B_126_0 {L : Nat} {xs : Nat → Int32} {d : Nat} (hd : 4 ≤ d) {res : Option Value × sm_H} {x1 : Int32} {x2 : Int32} {x3 : Int32} {x4 : Int32}  {h : sm_H} {r : (Int32 × sm_H)} (hf : F_126_0 x1 x2 x3 x4 h = some r) (hs : (fun (r : Int32 × sm_H) => res = (some (.int r.1), r.2)) r) : Ex (P_G L xs) (RUN L xs d) (sm_lk P_t126) 0 0 [some (.ref 38), some (.int x1), some (.int x2), some (.int x3), some (.int x4)] [] h res := by
  unfold F_126_0 at hf
  refine Ex.seg 9 (pc' := 14) (lc' := [some (.ref 38), some (.int x1), some (.int x2), some (.int x3), some (.int x4)]) (st' := [.int x4, .ref 47, .long 0, .int x3, .int x2, .int x1, .ref 34]) (h' := h) (sg1 rfl rfl (sg1 rfl rfl (sg1 rfl rfl (sg1 rfl rfl (sg1 rfl rfl (sg1 rfl rfl (sg1 rfl rfl (sg1 rfl rfl (sg1 rfl rfl rfl))))))))) ?_
  obtain ⟨q1, e_q1, hf⟩ := bnd hf
  refine Ex.callV (a := 34) (As := [.int x1, .int x2, .int x3, .long 0, .ref 47, .int x4]) (r := []) (v := some (.int q1.1)) (h' := q1.2) rfl rfl (by decide) rfl (Nat.le_of_ble_eq_true rfl) rfl (E_6 (Nat.le_trans (by decide) hd) e_q1) rfl ?_
  obtain rfl := Option.some.inj hf
  exact Ex.iret rfl rfl (fun c0 => by cases c0) hs
theorem E_126 {L : Nat} {xs : Nat → Int32} {d : Nat} (hd : 5 ≤ d) {x1 : Int32} {x2 : Int32} {x3 : Int32} {x4 : Int32} {h : sm_H} {r : Int32 × sm_H} (hf : F_126 x1 x2 x3 x4 h = some r) : RUN L xs d 126 [.ref 38, .int x1, .int x2, .int x3, .int x4] h (some (.int r.1), r.2) := by
  obtain ⟨d, rfl⟩ : ∃ e, d = e + 1 := ⟨d - 1, by omega⟩
  exact ⟨Nat.le_of_ble_eq_true rfl, B_126_0 (by omega) hf rfl⟩
theorem B_127_30 {L : Nat} {xs : Nat → Int32} {d : Nat} (hd : 4 ≤ d) {res : Option Value × sm_H} {y2 : Int32} {y3 : Int32} {y4 : Int32}  {h : sm_H} {r : (Int32 × sm_H)} (hf : F_127_30 y2 y3 y4 h = some r) (hs : (fun (r : Int32 × sm_H) => res = (some (.int r.1), r.2)) r) : Ex (P_G L xs) (RUN L xs d) (sm_lk P_t127) 0 30 [some (.ref 38), none, some (.int y2), some (.int y3), some (.int y4), none] [] h res := by
  unfold F_127_30 at hf
  refine Ex.seg 4 (pc' := 36) (lc' := [some (.ref 38), none, some (.int y2), some (.int y3), some (.int y4), none]) (st' := [.int y2, .ref 38, .ref 34]) (h' := h) (sg1 rfl rfl (sg1 rfl rfl (sg1 rfl rfl (sg1 rfl rfl rfl)))) ?_
  obtain ⟨q1, e_q1, hf⟩ := bnd hf
  refine Ex.callV (a := 38) (As := [.int y2]) (r := [.ref 34]) (v := some (.int q1.1)) (h' := q1.2) rfl rfl (by decide) rfl (Nat.le_of_ble_eq_true rfl) rfl (E_128 (Nat.le_trans (by decide) hd) e_q1) rfl ?_
  refine Ex.seg 1 (pc' := 40) (lc' := [some (.ref 38), none, some (.int y2), some (.int y3), some (.int y4), none]) (st' := [.int y3, .int q1.1, .ref 34]) (h' := q1.2) (sg1 rfl rfl rfl) ?_
  obtain ⟨q2, e_q2, hf⟩ := bnd hf
  refine Ex.callV (a := 34) (As := [.int q1.1, .int y3]) (r := []) (v := some (.int q2.1)) (h' := q2.2) rfl rfl (by decide) rfl (Nat.le_of_ble_eq_true rfl) rfl (E_33 (Nat.le_trans (by decide) hd) e_q2) rfl ?_
  refine Ex.seg 11 (pc' := 62) (lc' := [some (.ref 38), none, some (.int y2), some (.int y3), some (.int y4), some (.int q2.1)]) (st' := [.int q2.1, .ref 47, .long (Int32.toInt64 y4), .int y3, .int y2, .int 35, .ref 34]) (h' := q2.2) (sg1 rfl rfl (sg1 rfl rfl (sg1 rfl rfl (sg1 rfl rfl (sg1 rfl rfl (sg1 rfl rfl (sg1 rfl rfl (sg1 rfl rfl (sg1 rfl rfl (sg1 rfl rfl (sg1 rfl rfl rfl))))))))))) ?_
  obtain ⟨q3, e_q3, hf⟩ := bnd hf
  refine Ex.callV (a := 34) (As := [.int 35, .int y2, .int y3, .long (Int32.toInt64 y4), .ref 47, .int q2.1]) (r := []) (v := some (.int q3.1)) (h' := q3.2) rfl rfl (by decide) rfl (Nat.le_of_ble_eq_true rfl) rfl (E_6 (Nat.le_trans (by decide) hd) e_q3) rfl ?_
  obtain rfl := Option.some.inj hf
  exact Ex.iret rfl rfl (fun c0 => by cases c0) hs
theorem B_127_14 {L : Nat} {xs : Nat → Int32} {d : Nat} (hd : 4 ≤ d) {res : Option Value × sm_H} {y2 : Int32} {y3 : Int32} {z0 : Int32}  {h : sm_H} {r : (Int32 × sm_H)} (hf : F_127_14 y2 y3 z0 h = some r) (hs : (fun (r : Int32 × sm_H) => res = (some (.int r.1), r.2)) r) : Ex (P_G L xs) (RUN L xs d) (sm_lk P_t127) 0 14 [some (.ref 38), none, some (.int y2), some (.int y3), none, none] [.int z0] h res := by
  unfold F_127_14 at hf
  refine Ex.seg 2 (pc' := 18) (lc' := [some (.ref 38), none, some (.int y2), some (.int y3), some (.int z0), none]) (st' := [.int z0]) (h' := h) (sg1 rfl rfl (sg1 rfl rfl rfl)) ?_
  refine Ex.ifc rfl rfl (fun (c0 : z0 = 0) => ?_) (fun (c0 : ¬ (z0 = 0)) => ?_)
  · rw [if_pos c0] at hf
    exact Ex.weak (sm_le_s (sm_le_s (sm_le_s (sm_le_s (sm_le_s (sm_le_s sm_le_nil)))))) (B_127_30 hd  hf hs)
  · rw [if_neg c0] at hf
    refine Ex.seg 3 (pc' := 27) (lc' := [some (.ref 38), none, some (.int y2), some (.int y3), some (.int z0), none]) (st' := [.int z0, .ref 5]) (h' := h) (sg1 rfl rfl (sg1 rfl rfl (sg1 rfl rfl rfl))) ?_
    obtain ⟨q4, e_q4, hf⟩ := bnd hf
    refine Ex.callV (a := 5) (As := [.int z0]) (r := []) (v := none) (h' := q4) rfl rfl (by decide) rfl (Nat.le_of_ble_eq_true rfl) rfl (E_229 (Nat.le_trans (by decide) hd) e_q4) rfl ?_
    exact Ex.weak (sm_le_s (sm_le_s (sm_le_s (sm_le_s (sm_le_s (sm_le_s sm_le_nil)))))) (B_127_30 hd  hf hs)
theorem B_127_0 {L : Nat} {xs : Nat → Int32} {d : Nat} (hd : 4 ≤ d) {res : Option Value × sm_H} {x1 : Int32} {x2 : Int32} {x3 : Int32}  {h : sm_H} {r : (Int32 × sm_H)} (hf : F_127_0 x1 x2 x3 h = some r) (hs : (fun (r : Int32 × sm_H) => res = (some (.int r.1), r.2)) r) : Ex (P_G L xs) (RUN L xs d) (sm_lk P_t127) 0 0 [some (.ref 38), some (.int x1), some (.int x2), some (.int x3), none, none] [] h res := by
  unfold F_127_0 at hf
  refine Ex.seg 3 (pc' := 5) (lc' := [some (.ref 38), some (.int x1), some (.int x2), some (.int x3), none, none]) (st' := [.int x2, .ref 42]) (h' := h) (sg1 rfl rfl (sg1 rfl rfl (sg1 rfl rfl rfl))) ?_
  obtain ⟨v5, e_v5, hf⟩ := bnd hf
  refine Ex.zald e_v5 rfl rfl ?_
  refine Ex.ifc rfl rfl (fun (c0 : v5 = 0) => ?_) (fun (c0 : ¬ (v5 = 0)) => ?_)
  · rw [if_pos c0] at hf
    refine Ex.seg 1 (pc' := 14) (lc' := [some (.ref 38), some (.int x1), some (.int x2), some (.int x3), none, none]) (st' := [.int x1]) (h' := h) (sg1 rfl rfl rfl) ?_
    exact Ex.weak (sm_le_s (sm_le_n (sm_le_s (sm_le_s (sm_le_s (sm_le_s sm_le_nil)))))) (B_127_14 hd  hf hs)
  · rw [if_neg c0] at hf
    refine Ex.seg 2 (pc' := 14) (lc' := [some (.ref 38), some (.int x1), some (.int x2), some (.int x3), none, none]) (st' := [.int 0]) (h' := h) (sg1 rfl rfl (sg1 rfl rfl rfl)) ?_
    exact Ex.weak (sm_le_s (sm_le_n (sm_le_s (sm_le_s (sm_le_s (sm_le_s sm_le_nil)))))) (B_127_14 hd  hf hs)
theorem E_127 {L : Nat} {xs : Nat → Int32} {d : Nat} (hd : 5 ≤ d) {x1 : Int32} {x2 : Int32} {x3 : Int32} {h : sm_H} {r : Int32 × sm_H} (hf : F_127 x1 x2 x3 h = some r) : RUN L xs d 127 [.ref 38, .int x1, .int x2, .int x3] h (some (.int r.1), r.2) := by
  obtain ⟨d, rfl⟩ : ∃ e, d = e + 1 := ⟨d - 1, by omega⟩
  exact ⟨Nat.le_of_ble_eq_true rfl, B_127_0 (by omega) hf rfl⟩
theorem B_178_76 {L : Nat} {xs : Nat → Int32} {d : Nat} (hd : 5 ≤ d) {res : Option Value × sm_H}   {h : sm_H} {r : (Int32 × sm_H)} (hf : F_178_76  h = some r) (hs : (fun (r : Int32 × sm_H) => res = (some (.int r.1), r.2)) r) : Ex (P_G L xs) (RUN L xs d) (sm_lk P_t178) 3 76 [none, none, none] [] h res := by
  unfold F_178_76 at hf
  refine Ex.seg 1 (pc' := 77) (lc' := [none, none, none]) (st' := [.int 0]) (h' := h) (sg1 rfl rfl rfl) ?_
  obtain rfl := Option.some.inj hf
  exact Ex.iret rfl rfl (fun _ => by decide) hs
theorem B_178_55 {L : Nat} {xs : Nat → Int32} {d : Nat} (hd : 5 ≤ d) {res : Option Value × sm_H} {S1 : (Int32 × sm_H) → Prop} (hS1 : ∀ s, S1 s → Ex (P_G L xs) (RUN L xs d) (sm_lk P_t178) 3 16 [some (.ref 55), some (.int s.1), none] [] s.2 res) {y1 : Int32}  {h : sm_H} {r : ((Int32 × sm_H) ⊕ (Int32 × sm_H))} (hf : F_178_55 y1 h = some r) (hs : (Sum.elim S1 (fun (r : Int32 × sm_H) => res = (some (.int r.1), r.2))) r) : Ex (P_G L xs) (RUN L xs d) (sm_lk P_t178) 3 55 [some (.ref 55), some (.int y1), none] [] h res := by
  unfold F_178_55 at hf
  refine Ex.seg 2 (pc' := 59) (lc' := [some (.ref 55), some (.int y1), none]) (st' := [.int (h.1 55 17)]) (h' := h) (sg1 rfl rfl (sg1 rfl rfl rfl)) ?_
  refine Ex.ifc rfl rfl (fun (c0 : ¬ ((h.1 55 17) = 0)) => ?_) (fun (c0 : ¬ ¬ ((h.1 55 17) = 0)) => ?_)
  · rw [if_neg c0] at hf
    obtain ⟨r0, hf0, rfl⟩ := Option.map_eq_some_iff.mp hf
    exact Ex.weak (sm_le_n (sm_le_n (sm_le_s sm_le_nil))) (B_178_76 hd  hf0 hs)
  · rw [if_pos (Classical.not_not.mp c0)] at hf
    refine Ex.seg 1 (pc' := 63) (lc' := [some (.ref 55), some (.int y1), none]) (st' := [.ref 55]) (h' := h) (sg1 rfl rfl rfl) ?_
    obtain ⟨q1, e_q1, hf⟩ := bnd hf
    refine Ex.callV (a := 55) (As := []) (r := []) (v := some (.int q1.1)) (h' := q1.2) rfl rfl (by decide) rfl (Nat.le_of_ble_eq_true rfl) rfl (E_173 (Nat.le_trans (by decide) hd) e_q1) rfl ?_
    refine Ex.ifc rfl rfl (fun (c0 : q1.1 = 0) => ?_) (fun (c0 : ¬ (q1.1 = 0)) => ?_)
    · rw [if_pos c0] at hf
      obtain ⟨r0, hf0, rfl⟩ := Option.map_eq_some_iff.mp hf
      exact Ex.weak (sm_le_n (sm_le_n (sm_le_s sm_le_nil))) (B_178_76 hd  hf0 hs)
    · rw [if_neg c0] at hf
      refine Ex.seg 1 (pc' := 70) (lc' := [some (.ref 55), some (.int y1), none]) (st' := [.ref 55]) (h' := q1.2) (sg1 rfl rfl rfl) ?_
      obtain ⟨q2, e_q2, hf⟩ := bnd hf
      refine Ex.callV (a := 55) (As := []) (r := []) (v := some (.int q2.1)) (h' := q2.2) rfl rfl (by decide) rfl (Nat.le_of_ble_eq_true rfl) rfl (E_179 (Nat.le_trans (by decide) hd) e_q2) rfl ?_
      refine Ex.ifc rfl rfl (fun (c0 : ¬ (q2.1 = 0)) => ?_) (fun (c0 : ¬ ¬ (q2.1 = 0)) => ?_)
      · rw [if_neg c0] at hf
        refine Ex.seg 1 (pc' := 81) (lc' := [some (.ref 55), some (.int (y1 + 1)), none]) (st' := []) (h' := q2.2) (sg1 rfl rfl rfl) ?_
        obtain ⟨v3, e_v3, hf⟩ := bnd hf
        rw [Option.some.inj e_v3]
        refine Ex.seg 1 (pc' := 16) (lc' := [some (.ref 55), some (.int v3), none]) (st' := []) (h' := q2.2) (sg1 rfl rfl rfl) ?_
        obtain rfl := Option.some.inj hf
        exact Ex.weak (sm_le_s (sm_le_s (sm_le_s sm_le_nil))) (hS1 _ hs)
      · rw [if_pos (Classical.not_not.mp c0)] at hf
        obtain ⟨r0, hf0, rfl⟩ := Option.map_eq_some_iff.mp hf
        exact Ex.weak (sm_le_n (sm_le_n (sm_le_s sm_le_nil))) (B_178_76 hd  hf0 hs)
theorem B_178_16B {L : Nat} {xs : Nat → Int32} {d : Nat} (hd : 5 ≤ d) {res : Option Value × sm_H} {S1 : (Int32 × sm_H) → Prop} (hS1 : ∀ s, S1 s → Ex (P_G L xs) (RUN L xs d) (sm_lk P_t178) 3 16 [some (.ref 55), some (.int s.1), none] [] s.2 res) {s : (Int32 × sm_H)}  {r : ((Int32 × sm_H) ⊕ (Int32 × sm_H))} (hf : F_178_16B s = some r) (hs : (Sum.elim S1 (fun (r : Int32 × sm_H) => res = (some (.int r.1), r.2))) r) : Ex (P_G L xs) (RUN L xs d) (sm_lk P_t178) 3 16 [some (.ref 55), some (.int s.1), none] [] s.2 res := by
  unfold F_178_16B at hf
  refine Ex.seg 2 (pc' := 19) (lc' := [some (.ref 55), some (.int s.1), none]) (st' := [.int 6, .int s.1]) (h' := s.2) (sg1 rfl rfl (sg1 rfl rfl rfl)) ?_
  refine Ex.icmp rfl rfl (fun (c0 : 6 < s.1) => ?_) (fun (c0 : ¬ (6 < s.1)) => ?_)
  · rw [if_pos c0] at hf
    refine Ex.seg 1 (pc' := 85) (lc' := [some (.ref 55), some (.int s.1), none]) (st' := [.int 0]) (h' := s.2) (sg1 rfl rfl rfl) ?_
    obtain rfl := Option.some.inj hf
    exact Ex.iret rfl rfl (fun _ => by decide) hs
  · rw [if_neg c0] at hf
    refine Ex.seg 1 (pc' := 23) (lc' := [some (.ref 55), some (.int s.1), none]) (st' := [.ref 55]) (h' := s.2) (sg1 rfl rfl rfl) ?_
    obtain ⟨q4, e_q4, hf⟩ := bnd hf
    refine Ex.callV (a := 55) (As := []) (r := []) (v := some (.int q4.1)) (h' := q4.2) rfl rfl (by decide) rfl (Nat.le_of_ble_eq_true rfl) rfl (E_171 (Nat.le_trans (by decide) hd) e_q4) rfl ?_
    refine Ex.seg 3 (pc' := 29) (lc' := [some (.ref 55), some (.int s.1), some (.int q4.1)]) (st' := [.int 2, .int q4.1]) (h' := q4.2) (sg1 rfl rfl (sg1 rfl rfl (sg1 rfl rfl rfl))) ?_
    refine Ex.icmp rfl rfl (fun (c0 : ¬ (q4.1 = 2)) => ?_) (fun (c0 : ¬ ¬ (q4.1 = 2)) => ?_)
    · rw [if_neg c0] at hf
      refine Ex.seg 2 (pc' := 46) (lc' := [some (.ref 55), some (.int s.1), some (.int q4.1)]) (st' := [.int 1, .int q4.1]) (h' := q4.2) (sg1 rfl rfl (sg1 rfl rfl rfl)) ?_
      refine Ex.icmp rfl rfl (fun (c0 : q4.1 = 1) => ?_) (fun (c0 : ¬ (q4.1 = 1)) => ?_)
      · rw [if_pos c0] at hf
        exact Ex.weak (sm_le_s (sm_le_s (sm_le_n sm_le_nil))) (B_178_55 hd hS1 hf hs)
      · rw [if_neg c0] at hf
        refine Ex.seg 2 (pc' := 51) (lc' := [some (.ref 55), some (.int s.1), some (.int q4.1)]) (st' := [.int 4, .ref 55]) (h' := q4.2) (sg1 rfl rfl (sg1 rfl rfl rfl)) ?_
        obtain ⟨q5, e_q5, hf⟩ := bnd hf
        refine Ex.callV (a := 55) (As := [.int 4]) (r := []) (v := some (.int q5.1)) (h' := q5.2) rfl rfl (by decide) rfl (Nat.le_of_ble_eq_true rfl) rfl (E_170 (Nat.le_trans (by decide) hd) e_q5) rfl ?_
        refine Ex.seg 1 (pc' := 55) (lc' := [some (.ref 55), some (.int s.1), some (.int q4.1)]) (st' := []) (h' := q5.2) (sg1 rfl rfl rfl) ?_
        exact Ex.weak (sm_le_s (sm_le_s (sm_le_n sm_le_nil))) (B_178_55 hd hS1 hf hs)
    · rw [if_pos (Classical.not_not.mp c0)] at hf
      refine Ex.seg 6 (pc' := 42) (lc' := [some (.ref 55), some (.int s.1), some (.int q4.1)]) (st' := []) (h' := (sm_wI q4.2 55 16 ((q4.2.1 55 16) - 1))) (sg1 rfl rfl (sg1 rfl rfl (sg1 rfl rfl (sg1 rfl rfl (sg1 rfl rfl (sg1 rfl rfl rfl)))))) ?_
      obtain ⟨h6, e_h6, hf⟩ := bnd hf
      rw [Option.some.inj e_h6]
      refine Ex.seg 1 (pc' := 43) (lc' := [some (.ref 55), some (.int s.1), some (.int q4.1)]) (st' := [.int 1]) (h' := h6) (sg1 rfl rfl rfl) ?_
      obtain rfl := Option.some.inj hf
      exact Ex.iret rfl rfl (fun _ => by decide) hs
theorem B_178_16 {L : Nat} {xs : Nat → Int32} {d : Nat} (hd : 5 ≤ d) {res : Option Value × sm_H} {y1 : Int32}  {h : sm_H} {r : (Int32 × sm_H)} (hf : F_178_16 y1 h = some r) (hs : (fun (r : Int32 × sm_H) => res = (some (.int r.1), r.2)) r) : Ex (P_G L xs) (RUN L xs d) (sm_lk P_t178) 3 16 [some (.ref 55), some (.int y1), none] [] h res := by
  unfold F_178_16 at hf
  exact lp_ok (P := fun (s : (Int32 × sm_H)) => Ex (P_G L xs) (RUN L xs d) (sm_lk P_t178) 3 16 [some (.ref 55), some (.int s.1), none] [] s.2 res) (S := (fun (r : Int32 × sm_H) => res = (some (.int r.1), r.2))) (fun s x hx hsx => by
    intros
    exact B_178_16B hd  (fun _ q => q) hx hsx) 1000000 _ r hf hs
theorem B_178_0 {L : Nat} {xs : Nat → Int32} {d : Nat} (hd : 5 ≤ d) {res : Option Value × sm_H}   {h : sm_H} {r : (Int32 × sm_H)} (hf : F_178_0  h = some r) (hs : (fun (r : Int32 × sm_H) => res = (some (.int r.1), r.2)) r) : Ex (P_G L xs) (RUN L xs d) (sm_lk P_t178) 3 0 [some (.ref 55), none, none] [] h res := by
  unfold F_178_0 at hf
  refine Ex.seg 3 (pc' := 5) (lc' := [some (.ref 55), none, none]) (st' := []) (h' := (sm_wI h 55 9 0)) (sg1 rfl rfl (sg1 rfl rfl (sg1 rfl rfl rfl))) ?_
  obtain ⟨h7, e_h7, hf⟩ := bnd hf
  rw [Option.some.inj e_h7]
  refine Ex.seg 1 (pc' := 6) (lc' := [some (.ref 55), none, none]) (st' := [.ref 55]) (h' := h7) (sg1 rfl rfl rfl) ?_
  obtain ⟨q8, e_q8, hf⟩ := bnd hf
  refine Ex.callV (a := 55) (As := []) (r := []) (v := some (.int q8.1)) (h' := q8.2) rfl rfl (by decide) rfl (Nat.le_of_ble_eq_true rfl) rfl (E_174 (Nat.le_trans (by decide) hd) e_q8) rfl ?_
  refine Ex.ifc rfl rfl (fun (c0 : ¬ (q8.1 = 0)) => ?_) (fun (c0 : ¬ ¬ (q8.1 = 0)) => ?_)
  · rw [if_neg c0] at hf
    refine Ex.seg 2 (pc' := 16) (lc' := [some (.ref 55), some (.int 0), none]) (st' := []) (h' := q8.2) (sg1 rfl rfl (sg1 rfl rfl rfl)) ?_
    exact Ex.weak (sm_le_s (sm_le_s (sm_le_s sm_le_nil))) (B_178_16 hd  hf hs)
  · rw [if_pos (Classical.not_not.mp c0)] at hf
    refine Ex.seg 1 (pc' := 13) (lc' := [some (.ref 55), none, none]) (st' := [.int 0]) (h' := q8.2) (sg1 rfl rfl rfl) ?_
    obtain rfl := Option.some.inj hf
    exact Ex.iret rfl rfl (fun _ => by decide) hs
theorem E_178 {L : Nat} {xs : Nat → Int32} {d : Nat} (hd : 6 ≤ d)  {h : sm_H} {r : Int32 × sm_H} (hf : F_178  h = some r) : RUN L xs d 178 [.ref 55] h (some (.int r.1), r.2) := by
  obtain ⟨d, rfl⟩ : ∃ e, d = e + 1 := ⟨d - 1, by omega⟩
  exact ⟨Nat.le_of_ble_eq_true rfl, B_178_0 (by omega) hf rfl⟩
theorem B_5_135 {L : Nat} {xs : Nat → Int32} {d : Nat} (hd : 4 ≤ d) {res : Option Value × sm_H}   {h : sm_H} {r : (Int32 × sm_H)} (hf : F_5_135  h = some r) (hs : (fun (r : Int32 × sm_H) => res = (some (.int r.1), r.2)) r) : Ex (P_G L xs) (RUN L xs d) (sm_lk P_t5) 0 135 [none, none, none, none, none, none, none, none] [] h res := by
  unfold F_5_135 at hf
  refine Ex.seg 1 (pc' := 136) (lc' := [none, none, none, none, none, none, none, none]) (st' := [.int (-1)]) (h' := h) (sg1 rfl rfl rfl) ?_
  obtain rfl := Option.some.inj hf
  exact Ex.iret rfl rfl (fun c0 => by cases c0) hs
theorem B_5_82 {L : Nat} {xs : Nat → Int32} {d : Nat} (hd : 4 ≤ d) {res : Option Value × sm_H} {y6 : Nat} {z1 : Int64}  {h : sm_H} {r : (Int32 × sm_H)} (hf : F_5_82 y6 z1 h = some r) (hs : (fun (r : Int32 × sm_H) => res = (some (.int r.1), r.2)) r) : Ex (P_G L xs) (RUN L xs d) (sm_lk P_t5) 0 82 [some (.ref 34), none, none, none, none, none, some (.ref y6), none] [.long z1, .ref 34] h res := by
  unfold F_5_82 at hf
  refine Ex.seg 1 (pc' := 85) (lc' := [some (.ref 34), none, none, none, none, none, some (.ref y6), none]) (st' := []) (h' := (sm_wJ h 34 10 z1)) (sg1 rfl rfl rfl) ?_
  obtain ⟨h1, e_h1, hf⟩ := bnd hf
  rw [Option.some.inj e_h1]
  refine Ex.seg 3 (pc' := 91) (lc' := [some (.ref 34), none, none, none, none, none, some (.ref y6), none]) (st' := []) (h' := (sm_wR h1 34 11 (some y6))) (sg1 rfl rfl (sg1 rfl rfl (sg1 rfl rfl rfl))) ?_
  obtain ⟨h2, e_h2, hf⟩ := bnd hf
  rw [Option.some.inj e_h2]
  refine Ex.seg 3 (pc' := 95) (lc' := [some (.ref 34), none, none, none, none, none, some (.ref y6), none]) (st' := [.int 0, .ref y6, .ref 34]) (h' := h2) (sg1 rfl rfl (sg1 rfl rfl (sg1 rfl rfl rfl))) ?_
  have g4 : sm_is G0 h2 y6 5 = true := Classical.byContradiction (fun z => by rw [if_pos z] at hf; cases hf)
  rw [if_neg (fun z => z g4)] at hf
  obtain ⟨q3, e_q3, hf⟩ := bnd hf
  refine Ex.callV (a := y6) (As := [.int 0]) (r := [.ref 34]) (v := some (.int q3.1)) (h' := q3.2) rfl rfl (by decide) rfl (Nat.le_of_ble_eq_true rfl) g4 (E_137 (Nat.le_trans (by decide) hd) e_q3) rfl ?_
  refine Ex.seg 1 (pc' := 101) (lc' := [some (.ref 34), none, none, none, none, none, some (.ref y6), none]) (st' := []) (h' := (sm_wI q3.2 34 12 q3.1)) (sg1 rfl rfl rfl) ?_
  obtain ⟨h5, e_h5, hf⟩ := bnd hf
  rw [Option.some.inj e_h5]
  refine Ex.seg 3 (pc' := 105) (lc' := [some (.ref 34), none, none, none, none, none, some (.ref y6), none]) (st' := [.int 1, .ref y6, .ref 34]) (h' := h5) (sg1 rfl rfl (sg1 rfl rfl (sg1 rfl rfl rfl))) ?_
  have g7 : sm_is G0 h5 y6 5 = true := Classical.byContradiction (fun z => by rw [if_pos z] at hf; cases hf)
  rw [if_neg (fun z => z g7)] at hf
  obtain ⟨q6, e_q6, hf⟩ := bnd hf
  refine Ex.callV (a := y6) (As := [.int 1]) (r := [.ref 34]) (v := some (.int q6.1)) (h' := q6.2) rfl rfl (by decide) rfl (Nat.le_of_ble_eq_true rfl) g7 (E_137 (Nat.le_trans (by decide) hd) e_q6) rfl ?_
  refine Ex.seg 1 (pc' := 111) (lc' := [some (.ref 34), none, none, none, none, none, some (.ref y6), none]) (st' := []) (h' := (sm_wI q6.2 34 13 q6.1)) (sg1 rfl rfl rfl) ?_
  obtain ⟨h8, e_h8, hf⟩ := bnd hf
  rw [Option.some.inj e_h8]
  refine Ex.seg 3 (pc' := 115) (lc' := [some (.ref 34), none, none, none, none, none, some (.ref y6), none]) (st' := [.int 2, .ref y6, .ref 34]) (h' := h8) (sg1 rfl rfl (sg1 rfl rfl (sg1 rfl rfl rfl))) ?_
  have g10 : sm_is G0 h8 y6 5 = true := Classical.byContradiction (fun z => by rw [if_pos z] at hf; cases hf)
  rw [if_neg (fun z => z g10)] at hf
  obtain ⟨q9, e_q9, hf⟩ := bnd hf
  refine Ex.callV (a := y6) (As := [.int 2]) (r := [.ref 34]) (v := some (.int q9.1)) (h' := q9.2) rfl rfl (by decide) rfl (Nat.le_of_ble_eq_true rfl) g10 (E_137 (Nat.le_trans (by decide) hd) e_q9) rfl ?_
  refine Ex.seg 1 (pc' := 121) (lc' := [some (.ref 34), none, none, none, none, none, some (.ref y6), none]) (st' := []) (h' := (sm_wI q9.2 34 14 q9.1)) (sg1 rfl rfl rfl) ?_
  obtain ⟨h11, e_h11, hf⟩ := bnd hf
  rw [Option.some.inj e_h11]
  refine Ex.seg 1 (pc' := 122) (lc' := [some (.ref 34), none, none, none, none, none, some (.ref y6), none]) (st' := [.ref 34]) (h' := h11) (sg1 rfl rfl rfl) ?_
  obtain ⟨q12, e_q12, hf⟩ := bnd hf
  refine Ex.callV (a := 34) (As := []) (r := []) (v := some (.int q12.1)) (h' := q12.2) rfl rfl (by decide) rfl (Nat.le_of_ble_eq_true rfl) rfl (E_7 (Nat.le_trans (by decide) hd) e_q12) rfl ?_
  refine Ex.ifc rfl rfl (fun (c0 : ¬ (q12.1 = 0)) => ?_) (fun (c0 : ¬ ¬ (q12.1 = 0)) => ?_)
  · rw [if_neg c0] at hf
    exact Ex.weak (sm_le_n (sm_le_s (sm_le_s (sm_le_s (sm_le_s (sm_le_s (sm_le_n (sm_le_s sm_le_nil)))))))) (B_5_135 hd  hf hs)
  · rw [if_pos (Classical.not_not.mp c0)] at hf
    refine Ex.seg 1 (pc' := 129) (lc' := [some (.ref 34), none, none, none, none, none, some (.ref y6), none]) (st' := [.ref 34]) (h' := q12.2) (sg1 rfl rfl rfl) ?_
    obtain ⟨q13, e_q13, hf⟩ := bnd hf
    refine Ex.callV (a := 34) (As := []) (r := []) (v := some (.int q13.1)) (h' := q13.2) rfl rfl (by decide) rfl (Nat.le_of_ble_eq_true rfl) rfl (E_9 (Nat.le_trans (by decide) hd) e_q13) rfl ?_
    refine Ex.ifc rfl rfl (fun (c0 : q13.1 = 0) => ?_) (fun (c0 : ¬ (q13.1 = 0)) => ?_)
    · rw [if_pos c0] at hf
      refine Ex.seg 1 (pc' := 138) (lc' := [some (.ref 34), none, none, none, none, none, some (.ref y6), none]) (st' := [.ref 34]) (h' := q13.2) (sg1 rfl rfl rfl) ?_
      obtain ⟨q14, e_q14, hf⟩ := bnd hf
      refine Ex.callV (a := 34) (As := []) (r := []) (v := some (.int q14.1)) (h' := q14.2) rfl rfl (by decide) rfl (Nat.le_of_ble_eq_true rfl) rfl (E_11 (Nat.le_trans (by decide) hd) e_q14) rfl ?_
      refine Ex.ifc rfl rfl (fun (c0 : q14.1 = 0) => ?_) (fun (c0 : ¬ (q14.1 = 0)) => ?_)
      · rw [if_pos c0] at hf
        refine Ex.seg 1 (pc' := 148) (lc' := [some (.ref 34), none, none, none, none, none, some (.ref y6), none]) (st' := [.ref 34]) (h' := q14.2) (sg1 rfl rfl rfl) ?_
        obtain ⟨q15, e_q15, hf⟩ := bnd hf
        refine Ex.callV (a := 34) (As := []) (r := []) (v := some (.int q15.1)) (h' := q15.2) rfl rfl (by decide) rfl (Nat.le_of_ble_eq_true rfl) rfl (E_14 (Nat.le_trans (by decide) hd) e_q15) rfl ?_
        refine Ex.ifc rfl rfl (fun (c0 : q15.1 = 0) => ?_) (fun (c0 : ¬ (q15.1 = 0)) => ?_)
        · rw [if_pos c0] at hf
          refine Ex.seg 1 (pc' := 158) (lc' := [some (.ref 34), none, none, none, none, none, some (.ref y6), none]) (st' := [.ref 34]) (h' := q15.2) (sg1 rfl rfl rfl) ?_
          obtain ⟨q16, e_q16, hf⟩ := bnd hf
          refine Ex.callV (a := 34) (As := []) (r := []) (v := some (.int q16.1)) (h' := q16.2) rfl rfl (by decide) rfl (Nat.le_of_ble_eq_true rfl) rfl (E_26 (Nat.le_trans (by decide) hd) e_q16) rfl ?_
          refine Ex.seg 3 (pc' := 166) (lc' := [some (.ref 34), none, none, none, none, none, some (.ref y6), some (.int q16.1)]) (st' := [.int (-1), .int q16.1]) (h' := q16.2) (sg1 rfl rfl (sg1 rfl rfl (sg1 rfl rfl rfl))) ?_
          refine Ex.icmp rfl rfl (fun (c0 : q16.1 = (-1)) => ?_) (fun (c0 : ¬ (q16.1 = (-1))) => ?_)
          · rw [if_pos c0] at hf
            refine Ex.seg 10 (pc' := 190) (lc' := [some (.ref 34), none, none, none, none, none, some (.ref y6), some (.int q16.1)]) (st' := [.ref 34, .long (q16.2.2.1 34 10), .int (q16.2.1 34 9), .int (q16.2.1 34 8), .int (q16.2.1 34 7), .ref 34]) (h' := q16.2) (sg1 rfl rfl (sg1 rfl rfl (sg1 rfl rfl (sg1 rfl rfl (sg1 rfl rfl (sg1 rfl rfl (sg1 rfl rfl (sg1 rfl rfl (sg1 rfl rfl (sg1 rfl rfl rfl)))))))))) ?_
            obtain ⟨b17, e_b17, hf⟩ := bnd hf
            refine Ex.getR (c := 0) (k := 11) rfl e_b17 rfl rfl ?_
            refine Ex.seg 1 (pc' := 194) (lc' := [some (.ref 34), none, none, none, none, none, some (.ref y6), some (.int q16.1)]) (st' := [.ref 34, .ref b17, .long (q16.2.2.1 34 10), .int (q16.2.1 34 9), .int (q16.2.1 34 8), .int (q16.2.1 34 7), .ref 34]) (h' := q16.2) (sg1 rfl rfl rfl) ?_
            obtain ⟨q18, e_q18, hf⟩ := bnd hf
            refine Ex.callV (a := 34) (As := []) (r := [.ref b17, .long (q16.2.2.1 34 10), .int (q16.2.1 34 9), .int (q16.2.1 34 8), .int (q16.2.1 34 7), .ref 34]) (v := some (.int q18.1)) (h' := q18.2) rfl rfl (by decide) rfl (Nat.le_of_ble_eq_true rfl) rfl (E_29 (Nat.le_trans (by decide) hd) e_q18) rfl ?_
            obtain ⟨q19, e_q19, hf⟩ := bnd hf
            refine Ex.callV (a := 34) (As := [.int (q16.2.1 34 7), .int (q16.2.1 34 8), .int (q16.2.1 34 9), .long (q16.2.2.1 34 10), .ref b17, .int q18.1]) (r := []) (v := some (.int q19.1)) (h' := q19.2) rfl rfl (by decide) rfl (Nat.le_of_ble_eq_true rfl) rfl (E_6 (Nat.le_trans (by decide) hd) e_q19) rfl ?_
            obtain rfl := Option.some.inj hf
            exact Ex.iret rfl rfl (fun c0 => by cases c0) hs
          · rw [if_neg c0] at hf
            refine Ex.seg 1 (pc' := 171) (lc' := [some (.ref 34), none, none, none, none, none, some (.ref y6), some (.int q16.1)]) (st' := [.int q16.1]) (h' := q16.2) (sg1 rfl rfl rfl) ?_
            obtain rfl := Option.some.inj hf
            exact Ex.iret rfl rfl (fun c0 => by cases c0) hs
        · rw [if_neg c0] at hf
          refine Ex.seg 1 (pc' := 156) (lc' := [some (.ref 34), none, none, none, none, none, some (.ref y6), none]) (st' := [.int (-3)]) (h' := q15.2) (sg1 rfl rfl rfl) ?_
          obtain rfl := Option.some.inj hf
          exact Ex.iret rfl rfl (fun c0 => by cases c0) hs
      · rw [if_neg c0] at hf
        refine Ex.seg 1 (pc' := 146) (lc' := [some (.ref 34), none, none, none, none, none, some (.ref y6), none]) (st' := [.int (-2)]) (h' := q14.2) (sg1 rfl rfl rfl) ?_
        obtain rfl := Option.some.inj hf
        exact Ex.iret rfl rfl (fun c0 => by cases c0) hs
    · rw [if_neg c0] at hf
      exact Ex.weak (sm_le_n (sm_le_s (sm_le_s (sm_le_s (sm_le_s (sm_le_s (sm_le_n (sm_le_s sm_le_nil)))))))) (B_5_135 hd  hf hs)
theorem B_5_62 {L : Nat} {xs : Nat → Int32} {d : Nat} (hd : 4 ≤ d) {res : Option Value × sm_H} {y1 : Int32} {y4 : Int64} {y6 : Nat} {z1 : Int32}  {h : sm_H} {r : (Int32 × sm_H)} (hf : F_5_62 y1 y4 y6 z1 h = some r) (hs : (fun (r : Int32 × sm_H) => res = (some (.int r.1), r.2)) r) : Ex (P_G L xs) (RUN L xs d) (sm_lk P_t5) 0 62 [some (.ref 34), some (.int y1), none, none, some (.long y4), none, some (.ref y6), none] [.int z1, .ref 34] h res := by
  unfold F_5_62 at hf
  refine Ex.seg 1 (pc' := 65) (lc' := [some (.ref 34), some (.int y1), none, none, some (.long y4), none, some (.ref y6), none]) (st' := []) (h' := (sm_wI h 34 9 z1)) (sg1 rfl rfl rfl) ?_
  obtain ⟨h20, e_h20, hf⟩ := bnd hf
  rw [Option.some.inj e_h20]
  refine Ex.seg 3 (pc' := 70) (lc' := [some (.ref 34), some (.int y1), none, none, some (.long y4), none, some (.ref y6), none]) (st' := [.int y1, .ref 1000000, .ref 34]) (h' := h20) (sg1 rfl rfl (sg1 rfl rfl (sg1 rfl rfl rfl))) ?_
  obtain ⟨v21, e_v21, hf⟩ := bnd hf
  refine Ex.iald e_v21 rfl rfl ?_
  refine Ex.seg 2 (pc' := 73) (lc' := [some (.ref 34), some (.int y1), none, none, some (.long y4), none, some (.ref y6), none]) (st' := [.int (v21 &&& 4), .ref 34]) (h' := h20) (sg1 rfl rfl (sg1 rfl rfl rfl)) ?_
  refine Ex.ifc rfl rfl (fun (c0 : (v21 &&& 4) = 0) => ?_) (fun (c0 : ¬ ((v21 &&& 4) = 0)) => ?_)
  · rw [if_pos c0] at hf
    refine Ex.seg 1 (pc' := 82) (lc' := [some (.ref 34), some (.int y1), none, none, some (.long y4), none, some (.ref y6), none]) (st' := [.long 0, .ref 34]) (h' := h20) (sg1 rfl rfl rfl) ?_
    exact Ex.weak (sm_le_s (sm_le_n (sm_le_s (sm_le_s (sm_le_n (sm_le_s (sm_le_s (sm_le_s sm_le_nil)))))))) (B_5_82 hd  hf hs)
  · rw [if_neg c0] at hf
    refine Ex.seg 2 (pc' := 82) (lc' := [some (.ref 34), some (.int y1), none, none, some (.long y4), none, some (.ref y6), none]) (st' := [.long y4, .ref 34]) (h' := h20) (sg1 rfl rfl (sg1 rfl rfl rfl)) ?_
    exact Ex.weak (sm_le_s (sm_le_n (sm_le_s (sm_le_s (sm_le_n (sm_le_s (sm_le_s (sm_le_s sm_le_nil)))))))) (B_5_82 hd  hf hs)
theorem B_5_43 {L : Nat} {xs : Nat → Int32} {d : Nat} (hd : 4 ≤ d) {res : Option Value × sm_H} {y1 : Int32} {y3 : Int32} {y4 : Int64} {y6 : Nat} {z1 : Int32}  {h : sm_H} {r : (Int32 × sm_H)} (hf : F_5_43 y1 y3 y4 y6 z1 h = some r) (hs : (fun (r : Int32 × sm_H) => res = (some (.int r.1), r.2)) r) : Ex (P_G L xs) (RUN L xs d) (sm_lk P_t5) 0 43 [some (.ref 34), some (.int y1), none, some (.int y3), some (.long y4), none, some (.ref y6), none] [.int z1, .ref 34] h res := by
  unfold F_5_43 at hf
  refine Ex.seg 1 (pc' := 46) (lc' := [some (.ref 34), some (.int y1), none, some (.int y3), some (.long y4), none, some (.ref y6), none]) (st' := []) (h' := (sm_wI h 34 8 z1)) (sg1 rfl rfl rfl) ?_
  obtain ⟨h22, e_h22, hf⟩ := bnd hf
  rw [Option.some.inj e_h22]
  refine Ex.seg 3 (pc' := 51) (lc' := [some (.ref 34), some (.int y1), none, some (.int y3), some (.long y4), none, some (.ref y6), none]) (st' := [.int y1, .ref 1000000, .ref 34]) (h' := h22) (sg1 rfl rfl (sg1 rfl rfl (sg1 rfl rfl rfl))) ?_
  obtain ⟨v23, e_v23, hf⟩ := bnd hf
  refine Ex.iald e_v23 rfl rfl ?_
  refine Ex.seg 2 (pc' := 54) (lc' := [some (.ref 34), some (.int y1), none, some (.int y3), some (.long y4), none, some (.ref y6), none]) (st' := [.int (v23 &&& 2), .ref 34]) (h' := h22) (sg1 rfl rfl (sg1 rfl rfl rfl)) ?_
  refine Ex.ifc rfl rfl (fun (c0 : (v23 &&& 2) = 0) => ?_) (fun (c0 : ¬ ((v23 &&& 2) = 0)) => ?_)
  · rw [if_pos c0] at hf
    refine Ex.seg 1 (pc' := 62) (lc' := [some (.ref 34), some (.int y1), none, some (.int y3), some (.long y4), none, some (.ref y6), none]) (st' := [.int 0, .ref 34]) (h' := h22) (sg1 rfl rfl rfl) ?_
    exact Ex.weak (sm_le_s (sm_le_s (sm_le_s (sm_le_n (sm_le_s (sm_le_s (sm_le_s (sm_le_s sm_le_nil)))))))) (B_5_62 hd  hf hs)
  · rw [if_neg c0] at hf
    refine Ex.seg 2 (pc' := 62) (lc' := [some (.ref 34), some (.int y1), none, some (.int y3), some (.long y4), none, some (.ref y6), none]) (st' := [.int y3, .ref 34]) (h' := h22) (sg1 rfl rfl (sg1 rfl rfl rfl)) ?_
    exact Ex.weak (sm_le_s (sm_le_s (sm_le_s (sm_le_n (sm_le_s (sm_le_s (sm_le_s (sm_le_s sm_le_nil)))))))) (B_5_62 hd  hf hs)
theorem B_5_20 {L : Nat} {xs : Nat → Int32} {d : Nat} (hd : 4 ≤ d) {res : Option Value × sm_H}   {h : sm_H} {r : (Int32 × sm_H)} (hf : F_5_20  h = some r) (hs : (fun (r : Int32 × sm_H) => res = (some (.int r.1), r.2)) r) : Ex (P_G L xs) (RUN L xs d) (sm_lk P_t5) 0 20 [none, none, none, none, none, none, none, none] [] h res := by
  unfold F_5_20 at hf
  refine Ex.seg 1 (pc' := 21) (lc' := [none, none, none, none, none, none, none, none]) (st' := [.int (-1)]) (h' := h) (sg1 rfl rfl rfl) ?_
  obtain rfl := Option.some.inj hf
  exact Ex.iret rfl rfl (fun c0 => by cases c0) hs
theorem B_5_0 {L : Nat} {xs : Nat → Int32} {d : Nat} (hd : 4 ≤ d) {res : Option Value × sm_H} {x1 : Int32} {x2 : Int32} {x3 : Int32} {x4 : Int64} {x6 : Nat}  {h : sm_H} {r : (Int32 × sm_H)} (hf : F_5_0 x1 x2 x3 x4 x6 h = some r) (hs : (fun (r : Int32 × sm_H) => res = (some (.int r.1), r.2)) r) : Ex (P_G L xs) (RUN L xs d) (sm_lk P_t5) 0 0 [some (.ref 34), some (.int x1), some (.int x2), some (.int x3), some (.long x4), none, some (.ref x6), none] [] h res := by
  unfold F_5_0 at hf
  refine Ex.seg 1 (pc' := 1) (lc' := [some (.ref 34), some (.int x1), some (.int x2), some (.int x3), some (.long x4), none, some (.ref x6), none]) (st' := [.int x1]) (h' := h) (sg1 rfl rfl rfl) ?_
  refine Ex.ifc rfl rfl (fun (c0 : x1 < 0) => ?_) (fun (c0 : ¬ (x1 < 0)) => ?_)
  · rw [if_pos c0] at hf
    exact Ex.weak (sm_le_n (sm_le_n (sm_le_n (sm_le_n (sm_le_n (sm_le_s (sm_le_n (sm_le_s sm_le_nil)))))))) (B_5_20 hd  hf hs)
  · rw [if_neg c0] at hf
    refine Ex.seg 2 (pc' := 8) (lc' := [some (.ref 34), some (.int x1), some (.int x2), some (.int x3), some (.long x4), none, some (.ref x6), none]) (st' := [.ref 1000000, .int x1]) (h' := h) (sg1 rfl rfl (sg1 rfl rfl rfl)) ?_
    obtain ⟨v24, e_v24, hf⟩ := bnd hf
    refine Ex.alen e_v24 rfl rfl ?_
    refine Ex.icmp rfl rfl (fun (c0 : v24 ≤ x1) => ?_) (fun (c0 : ¬ (v24 ≤ x1)) => ?_)
    · rw [if_pos c0] at hf
      exact Ex.weak (sm_le_n (sm_le_n (sm_le_n (sm_le_n (sm_le_n (sm_le_s (sm_le_n (sm_le_s sm_le_nil)))))))) (B_5_20 hd  hf hs)
    · rw [if_neg c0] at hf
      refine Ex.seg 2 (pc' := 16) (lc' := [some (.ref 34), some (.int x1), some (.int x2), some (.int x3), some (.long x4), none, some (.ref x6), none]) (st' := [.ref 1000001, .int x1]) (h' := h) (sg1 rfl rfl (sg1 rfl rfl rfl)) ?_
      obtain ⟨v25, e_v25, hf⟩ := bnd hf
      refine Ex.alen e_v25 rfl rfl ?_
      refine Ex.icmp rfl rfl (fun (c0 : x1 < v25) => ?_) (fun (c0 : ¬ (x1 < v25)) => ?_)
      · rw [if_pos c0] at hf
        refine Ex.seg 3 (pc' := 27) (lc' := [some (.ref 34), some (.int x1), some (.int x2), some (.int x3), some (.long x4), none, some (.ref x6), none]) (st' := []) (h' := (sm_wI h 34 7 x1)) (sg1 rfl rfl (sg1 rfl rfl (sg1 rfl rfl rfl))) ?_
        obtain ⟨h26, e_h26, hf⟩ := bnd hf
        rw [Option.some.inj e_h26]
        refine Ex.seg 3 (pc' := 32) (lc' := [some (.ref 34), some (.int x1), some (.int x2), some (.int x3), some (.long x4), none, some (.ref x6), none]) (st' := [.int x1, .ref 1000000, .ref 34]) (h' := h26) (sg1 rfl rfl (sg1 rfl rfl (sg1 rfl rfl rfl))) ?_
        obtain ⟨v27, e_v27, hf⟩ := bnd hf
        refine Ex.iald e_v27 rfl rfl ?_
        refine Ex.seg 2 (pc' := 35) (lc' := [some (.ref 34), some (.int x1), some (.int x2), some (.int x3), some (.long x4), none, some (.ref x6), none]) (st' := [.int (v27 &&& 1), .ref 34]) (h' := h26) (sg1 rfl rfl (sg1 rfl rfl rfl)) ?_
        refine Ex.ifc rfl rfl (fun (c0 : (v27 &&& 1) = 0) => ?_) (fun (c0 : ¬ ((v27 &&& 1) = 0)) => ?_)
        · rw [if_pos c0] at hf
          refine Ex.seg 1 (pc' := 43) (lc' := [some (.ref 34), some (.int x1), some (.int x2), some (.int x3), some (.long x4), none, some (.ref x6), none]) (st' := [.int 0, .ref 34]) (h' := h26) (sg1 rfl rfl rfl) ?_
          exact Ex.weak (sm_le_s (sm_le_s (sm_le_n (sm_le_s (sm_le_s (sm_le_s (sm_le_s (sm_le_s sm_le_nil)))))))) (B_5_43 hd  hf hs)
        · rw [if_neg c0] at hf
          refine Ex.seg 2 (pc' := 43) (lc' := [some (.ref 34), some (.int x1), some (.int x2), some (.int x3), some (.long x4), none, some (.ref x6), none]) (st' := [.int x2, .ref 34]) (h' := h26) (sg1 rfl rfl (sg1 rfl rfl rfl)) ?_
          exact Ex.weak (sm_le_s (sm_le_s (sm_le_n (sm_le_s (sm_le_s (sm_le_s (sm_le_s (sm_le_s sm_le_nil)))))))) (B_5_43 hd  hf hs)
      · rw [if_neg c0] at hf
        exact Ex.weak (sm_le_n (sm_le_n (sm_le_n (sm_le_n (sm_le_n (sm_le_s (sm_le_n (sm_le_s sm_le_nil)))))))) (B_5_20 hd  hf hs)
theorem E_5 {L : Nat} {xs : Nat → Int32} {d : Nat} (hd : 5 ≤ d) {x1 : Int32} {x2 : Int32} {x3 : Int32} {x4 : Int64} {x6 : Nat} {h : sm_H} {r : Int32 × sm_H} (hf : F_5 x1 x2 x3 x4 x6 h = some r) : RUN L xs d 5 [.ref 34, .int x1, .int x2, .int x3, .long x4, .ref x6] h (some (.int r.1), r.2) := by
  obtain ⟨d, rfl⟩ : ∃ e, d = e + 1 := ⟨d - 1, by omega⟩
  exact ⟨Nat.le_of_ble_eq_true rfl, B_5_0 (by omega) hf rfl⟩
theorem B_124_0 {L : Nat} {xs : Nat → Int32} {d : Nat} (hd : 5 ≤ d) {res : Option Value × sm_H} {x1 : Int32} {x2 : Int32} {x3 : Int32} {x4 : Int32}  {h : sm_H} {r : (Int32 × sm_H)} (hf : F_124_0 x1 x2 x3 x4 h = some r) (hs : (fun (r : Int32 × sm_H) => res = (some (.int r.1), r.2)) r) : Ex (P_G L xs) (RUN L xs d) (sm_lk P_t124) 0 0 [some (.ref 38), some (.int x1), some (.int x2), some (.int x3), some (.int x4)] [] h res := by
  unfold F_124_0 at hf
  refine Ex.seg 2 (pc' := 4) (lc' := [some (.ref 38), some (.int x1), some (.int x2), some (.int x3), some (.int x4)]) (st' := [.ref 5]) (h' := h) (sg1 rfl rfl (sg1 rfl rfl rfl)) ?_
  obtain ⟨q1, e_q1, hf⟩ := bnd hf
  refine Ex.callV (a := 5) (As := []) (r := []) (v := none) (h' := q1) rfl rfl (by decide) rfl (Nat.le_of_ble_eq_true rfl) rfl (E_228 (Nat.le_trans (by decide) hd) e_q1) rfl ?_
  refine Ex.seg 1 (pc' := 9) (lc' := [some (.ref 38), some (.int x1), some (.int x2), some (.int x3), some (.int x4)]) (st' := [.int x4]) (h' := q1) (sg1 rfl rfl rfl) ?_
  rcases Classical.em (x4 = 0) with n1 | n1
  · rw [if_pos n1] at hf
    refine Ex.swt (t := 40) rfl rfl (by rw [n1]; exact Or.inr ⟨by decide, by decide, _, rfl, by decide⟩) ?_
    refine Ex.seg 3 (pc' := 45) (lc' := [some (.ref 38), some (.int x1), some (.int x2), some (.int x3), some (.int x4)]) (st' := [.int x3, .ref 44]) (h' := q1) (sg1 rfl rfl (sg1 rfl rfl (sg1 rfl rfl rfl))) ?_
    obtain ⟨v2, e_v2, hf⟩ := bnd hf
    refine Ex.iald e_v2 rfl rfl ?_
    obtain rfl := Option.some.inj hf
    exact Ex.iret rfl rfl (fun c0 => by cases c0) hs
  rw [if_neg n1] at hf
  rcases Classical.em (x4 = 1) with n2 | n2
  · rw [if_pos n2] at hf
    refine Ex.swt (t := 47) rfl rfl (by rw [n2]; exact Or.inr ⟨by decide, by decide, _, rfl, by decide⟩) ?_
    refine Ex.seg 3 (pc' := 52) (lc' := [some (.ref 38), some (.int x1), some (.int x2), some (.int x3), some (.int x4)]) (st' := [.int x2, .ref 5]) (h' := q1) (sg1 rfl rfl (sg1 rfl rfl (sg1 rfl rfl rfl))) ?_
    obtain ⟨q3, e_q3, hf⟩ := bnd hf
    refine Ex.callV (a := 5) (As := [.int x2]) (r := []) (v := none) (h' := q3) rfl rfl (by decide) rfl (Nat.le_of_ble_eq_true rfl) rfl (E_229 (Nat.le_trans (by decide) hd) e_q3) rfl ?_
    refine Ex.seg 6 (pc' := 62) (lc' := [some (.ref 38), some (.int x1), some (.int x2), some (.int x3), some (.int x4)]) (st' := [.int x3, .ref 38, .int x2, .int x3, .int 36, .ref 38]) (h' := q3) (sg1 rfl rfl (sg1 rfl rfl (sg1 rfl rfl (sg1 rfl rfl (sg1 rfl rfl (sg1 rfl rfl rfl)))))) ?_
    obtain ⟨q4, e_q4, hf⟩ := bnd hf
    refine Ex.callV (a := 38) (As := [.int x3]) (r := [.int x2, .int x3, .int 36, .ref 38]) (v := some (.int q4.1)) (h' := q4.2) rfl rfl (by decide) rfl (Nat.le_of_ble_eq_true rfl) rfl (E_125 (Nat.le_trans (by decide) hd) e_q4) rfl ?_
    obtain ⟨q5, e_q5, hf⟩ := bnd hf
    refine Ex.callV (a := 38) (As := [.int 36, .int x3, .int x2, .int q4.1]) (r := []) (v := some (.int q5.1)) (h' := q5.2) rfl rfl (by decide) rfl (Nat.le_of_ble_eq_true rfl) rfl (E_126 (Nat.le_trans (by decide) hd) e_q5) rfl ?_
    obtain rfl := Option.some.inj hf
    exact Ex.iret rfl rfl (fun c0 => by cases c0) hs
  rw [if_neg n2] at hf
  rcases Classical.em (x4 = 2) with n3 | n3
  · rw [if_pos n3] at hf
    refine Ex.swt (t := 69) rfl rfl (by rw [n3]; exact Or.inr ⟨by decide, by decide, _, rfl, by decide⟩) ?_
    refine Ex.seg 3 (pc' := 74) (lc' := [some (.ref 38), some (.int x1), some (.int x2), some (.int x3), some (.int x4)]) (st' := [.int x1, .ref 5]) (h' := q1) (sg1 rfl rfl (sg1 rfl rfl (sg1 rfl rfl rfl))) ?_
    obtain ⟨q6, e_q6, hf⟩ := bnd hf
    refine Ex.callV (a := 5) (As := [.int x1]) (r := []) (v := none) (h' := q6) rfl rfl (by decide) rfl (Nat.le_of_ble_eq_true rfl) rfl (E_229 (Nat.le_trans (by decide) hd) e_q6) rfl ?_
    refine Ex.seg 6 (pc' := 84) (lc' := [some (.ref 38), some (.int x1), some (.int x2), some (.int x3), some (.int x4)]) (st' := [.int x3, .ref 38, .int x1, .int x3, .int 37, .ref 38]) (h' := q6) (sg1 rfl rfl (sg1 rfl rfl (sg1 rfl rfl (sg1 rfl rfl (sg1 rfl rfl (sg1 rfl rfl rfl)))))) ?_
    obtain ⟨q7, e_q7, hf⟩ := bnd hf
    refine Ex.callV (a := 38) (As := [.int x3]) (r := [.int x1, .int x3, .int 37, .ref 38]) (v := some (.int q7.1)) (h' := q7.2) rfl rfl (by decide) rfl (Nat.le_of_ble_eq_true rfl) rfl (E_125 (Nat.le_trans (by decide) hd) e_q7) rfl ?_
    obtain ⟨q8, e_q8, hf⟩ := bnd hf
    refine Ex.callV (a := 38) (As := [.int 37, .int x3, .int x1, .int q7.1]) (r := []) (v := some (.int q8.1)) (h' := q8.2) rfl rfl (by decide) rfl (Nat.le_of_ble_eq_true rfl) rfl (E_126 (Nat.le_trans (by decide) hd) e_q8) rfl ?_
    obtain rfl := Option.some.inj hf
    exact Ex.iret rfl rfl (fun c0 => by cases c0) hs
  rw [if_neg n3] at hf
  rcases Classical.em (x4 = 3) with n4 | n4
  · rw [if_pos n4] at hf
    refine Ex.swt (t := 91) rfl rfl (by rw [n4]; exact Or.inr ⟨by decide, by decide, _, rfl, by decide⟩) ?_
    refine Ex.seg 2 (pc' := 93) (lc' := [some (.ref 38), some (.int x1), some (.int x2), some (.int x3), some (.int x4)]) (st' := [.int x3, .ref 38]) (h' := q1) (sg1 rfl rfl (sg1 rfl rfl rfl)) ?_
    obtain ⟨q9, e_q9, hf⟩ := bnd hf
    refine Ex.callV (a := 38) (As := [.int x3]) (r := []) (v := some (.int q9.1)) (h' := q9.2) rfl rfl (by decide) rfl (Nat.le_of_ble_eq_true rfl) rfl (E_125 (Nat.le_trans (by decide) hd) e_q9) rfl ?_
    refine Ex.seg 6 (pc' := 103) (lc' := [some (.ref 38), some (.int x1), some (.int x2), some (.int x3), some (.int x4)]) (st' := [.int x2, .int 0, .int x3, .int 38, .ref 38]) (h' := q9.2) (sg1 rfl rfl (sg1 rfl rfl (sg1 rfl rfl (sg1 rfl rfl (sg1 rfl rfl (sg1 rfl rfl rfl)))))) ?_
    obtain ⟨q10, e_q10, hf⟩ := bnd hf
    refine Ex.callV (a := 38) (As := [.int 38, .int x3, .int 0, .int x2]) (r := []) (v := some (.int q10.1)) (h' := q10.2) rfl rfl (by decide) rfl (Nat.le_of_ble_eq_true rfl) rfl (E_126 (Nat.le_trans (by decide) hd) e_q10) rfl ?_
    obtain rfl := Option.some.inj hf
    exact Ex.iret rfl rfl (fun c0 => by cases c0) hs
  rw [if_neg n4] at hf
  refine Ex.swt (t := 107) rfl rfl (sw_dflt (by decide) (by decide) (fun k hk he => ?_)) ?_
  · have hk : k < 4 := hk
    rcases (show k = 0 ∨ k = 1 ∨ k = 2 ∨ k = 3 by omega) with rfl | rfl | rfl | rfl
    · exact absurd (Int32.toInt_inj.mp (he.symm.trans (by decide : (_ : Int) = Int32.toInt 0))) n1
    · exact absurd (Int32.toInt_inj.mp (he.symm.trans (by decide : (_ : Int) = Int32.toInt 1))) n2
    · exact absurd (Int32.toInt_inj.mp (he.symm.trans (by decide : (_ : Int) = Int32.toInt 2))) n3
    · exact absurd (Int32.toInt_inj.mp (he.symm.trans (by decide : (_ : Int) = Int32.toInt 3))) n4
  refine Ex.seg 4 (pc' := 112) (lc' := [some (.ref 38), some (.int x1), some (.int x2), some (.int x3), some (.int x4)]) (st' := [.int x4, .int x3, .int x2, .ref 38]) (h' := q1) (sg1 rfl rfl (sg1 rfl rfl (sg1 rfl rfl (sg1 rfl rfl rfl)))) ?_
  obtain ⟨q11, e_q11, hf⟩ := bnd hf
  refine Ex.callV (a := 38) (As := [.int x2, .int x3, .int x4]) (r := []) (v := some (.int q11.1)) (h' := q11.2) rfl rfl (by decide) rfl (Nat.le_of_ble_eq_true rfl) rfl (E_127 (Nat.le_trans (by decide) hd) e_q11) rfl ?_
  obtain rfl := Option.some.inj hf
  exact Ex.iret rfl rfl (fun c0 => by cases c0) hs
theorem E_124 {L : Nat} {xs : Nat → Int32} {d : Nat} (hd : 6 ≤ d) {x1 : Int32} {x2 : Int32} {x3 : Int32} {x4 : Int32} {h : sm_H} {r : Int32 × sm_H} (hf : F_124 x1 x2 x3 x4 h = some r) : RUN L xs d 124 [.ref 38, .int x1, .int x2, .int x3, .int x4] h (some (.int r.1), r.2) := by
  obtain ⟨d, rfl⟩ : ∃ e, d = e + 1 := ⟨d - 1, by omega⟩
  exact ⟨Nat.le_of_ble_eq_true rfl, B_124_0 (by omega) hf rfl⟩
theorem B_180_102 {L : Nat} {xs : Nat → Int32} {d : Nat} (hd : 5 ≤ d) {res : Option Value × sm_H} {y2 : Int32}  {h : sm_H} {r : (Int32 × sm_H)} (hf : F_180_102 y2 h = some r) (hs : (fun (r : Int32 × sm_H) => res = (some (.int r.1), r.2)) r) : Ex (P_G L xs) (RUN L xs d) (sm_lk P_t180) 0 102 [some (.ref 55), none, some (.int y2), none, none, none, none] [] h res := by
  unfold F_180_102 at hf
  refine Ex.seg 3 (pc' := 106) (lc' := [some (.ref 55), none, some (.int y2), none, none, none, none]) (st' := [.int y2, .int 8, .ref 55]) (h' := h) (sg1 rfl rfl (sg1 rfl rfl (sg1 rfl rfl rfl))) ?_
  obtain ⟨q1, e_q1, hf⟩ := bnd hf
  refine Ex.callV (a := 55) (As := [.int 8, .int y2]) (r := []) (v := some (.int q1.1)) (h' := q1.2) rfl rfl (by decide) rfl (Nat.le_of_ble_eq_true rfl) rfl (E_169 (Nat.le_trans (by decide) hd) e_q1) rfl ?_
  obtain rfl := Option.some.inj hf
  exact Ex.iret rfl rfl (fun c0 => by cases c0) hs
theorem B_180_86 {L : Nat} {xs : Nat → Int32} {d : Nat} (hd : 5 ≤ d) {res : Option Value × sm_H} {y2 : Int32} {y5 : Int32} {z0 : Int32}  {h : sm_H} {r : (Int32 × sm_H)} (hf : F_180_86 y2 y5 z0 h = some r) (hs : (fun (r : Int32 × sm_H) => res = (some (.int r.1), r.2)) r) : Ex (P_G L xs) (RUN L xs d) (sm_lk P_t180) 0 86 [some (.ref 55), none, some (.int y2), none, none, some (.int y5), none] [.int z0] h res := by
  unfold F_180_86 at hf
  refine Ex.seg 2 (pc' := 90) (lc' := [some (.ref 55), none, some (.int y2), none, none, some (.int y5), some (.int z0)]) (st' := [.int z0]) (h' := h) (sg1 rfl rfl (sg1 rfl rfl rfl)) ?_
  refine Ex.ifc rfl rfl (fun (c0 : z0 < 0) => ?_) (fun (c0 : ¬ (z0 < 0)) => ?_)
  · rw [if_pos c0] at hf
    exact Ex.weak (sm_le_s (sm_le_s (sm_le_s (sm_le_s (sm_le_s (sm_le_n (sm_le_n sm_le_nil))))))) (B_180_102 hd  hf hs)
  · rw [if_neg c0] at hf
    refine Ex.seg 3 (pc' := 99) (lc' := [some (.ref 55), none, some (.int y2), none, none, some (.int y5), some (.int z0)]) (st' := [.int 60, .int (h.1 55 15)]) (h' := h) (sg1 rfl rfl (sg1 rfl rfl (sg1 rfl rfl rfl))) ?_
    refine Ex.icmp rfl rfl (fun (c0 : (h.1 55 15) < 60) => ?_) (fun (c0 : ¬ ((h.1 55 15) < 60)) => ?_)
    · rw [if_pos c0] at hf
      refine Ex.seg 5 (pc' := 120) (lc' := [some (.ref 55), none, some (.int y2), none, none, some (.int y5), some (.int z0)]) (st' := [.int z0, .int (h.1 55 15), .ref 63]) (h' := h) (sg1 rfl rfl (sg1 rfl rfl (sg1 rfl rfl (sg1 rfl rfl (sg1 rfl rfl rfl))))) ?_
      obtain ⟨h2, e_h2, hf⟩ := bnd hf
      refine Ex.iast e_h2 rfl rfl ?_
      refine Ex.seg 6 (pc' := 131) (lc' := [some (.ref 55), none, some (.int y2), none, none, some (.int y5), some (.int z0)]) (st' := []) (h' := (sm_wI h2 55 15 ((h2.1 55 15) + 1))) (sg1 rfl rfl (sg1 rfl rfl (sg1 rfl rfl (sg1 rfl rfl (sg1 rfl rfl (sg1 rfl rfl rfl)))))) ?_
      obtain ⟨h3, e_h3, hf⟩ := bnd hf
      rw [Option.some.inj e_h3]
      refine Ex.seg 1 (pc' := 133) (lc' := [some (.ref 55), none, some (.int y2), none, none, some (.int y5), some (.int z0)]) (st' := [.int y5]) (h' := h3) (sg1 rfl rfl rfl) ?_
      obtain rfl := Option.some.inj hf
      exact Ex.iret rfl rfl (fun c0 => by cases c0) hs
    · rw [if_neg c0] at hf
      exact Ex.weak (sm_le_s (sm_le_s (sm_le_s (sm_le_s (sm_le_s (sm_le_n (sm_le_n sm_le_nil))))))) (B_180_102 hd  hf hs)
theorem B_180_57 {L : Nat} {xs : Nat → Int32} {d : Nat} (hd : 5 ≤ d) {res : Option Value × sm_H} {y2 : Int32} {z0 : Int32}  {h : sm_H} {r : (Int32 × sm_H)} (hf : F_180_57 y2 z0 h = some r) (hs : (fun (r : Int32 × sm_H) => res = (some (.int r.1), r.2)) r) : Ex (P_G L xs) (RUN L xs d) (sm_lk P_t180) 0 57 [some (.ref 55), none, some (.int y2), none, none, none, none] [.int z0] h res := by
  unfold F_180_57 at hf
  refine Ex.seg 3 (pc' := 62) (lc' := [some (.ref 55), none, some (.int y2), none, none, some (.int z0), none]) (st' := [.int (-1), .int z0]) (h' := h) (sg1 rfl rfl (sg1 rfl rfl (sg1 rfl rfl rfl))) ?_
  refine Ex.icmp rfl rfl (fun (c0 : ¬ (z0 = (-1))) => ?_) (fun (c0 : ¬ ¬ (z0 = (-1))) => ?_)
  · rw [if_neg c0] at hf
    refine Ex.seg 8 (pc' := 83) (lc' := [some (.ref 55), none, some (.int y2), none, none, some (.int z0), none]) (st' := [.ref 56, .long 0, .int 0, .int z0, .int 29, .ref 34]) (h' := h) (sg1 rfl rfl (sg1 rfl rfl (sg1 rfl rfl (sg1 rfl rfl (sg1 rfl rfl (sg1 rfl rfl (sg1 rfl rfl (sg1 rfl rfl rfl)))))))) ?_
    obtain ⟨q4, e_q4, hf⟩ := bnd hf
    refine Ex.callV (a := 34) (As := [.int 29, .int z0, .int 0, .long 0, .ref 56]) (r := []) (v := some (.int q4.1)) (h' := q4.2) rfl rfl (by decide) rfl (Nat.le_of_ble_eq_true rfl) rfl (E_5 (Nat.le_trans (by decide) hd) e_q4) rfl ?_
    exact Ex.weak (sm_le_s (sm_le_s (sm_le_s (sm_le_s (sm_le_s (sm_le_s (sm_le_s sm_le_nil))))))) (B_180_86 hd  hf hs)
  · rw [if_pos (Classical.not_not.mp c0)] at hf
    refine Ex.seg 2 (pc' := 86) (lc' := [some (.ref 55), none, some (.int y2), none, none, some (.int z0), none]) (st' := [.int (-1)]) (h' := h) (sg1 rfl rfl (sg1 rfl rfl rfl)) ?_
    exact Ex.weak (sm_le_s (sm_le_s (sm_le_s (sm_le_s (sm_le_s (sm_le_s (sm_le_s sm_le_nil))))))) (B_180_86 hd  hf hs)
theorem B_180_0 {L : Nat} {xs : Nat → Int32} {d : Nat} (hd : 5 ≤ d) {res : Option Value × sm_H} {x1 : Int32} {x2 : Int32}  {h : sm_H} {r : (Int32 × sm_H)} (hf : F_180_0 x1 x2 h = some r) (hs : (fun (r : Int32 × sm_H) => res = (some (.int r.1), r.2)) r) : Ex (P_G L xs) (RUN L xs d) (sm_lk P_t180) 0 0 [some (.ref 55), some (.int x1), some (.int x2), none, none, none, none] [] h res := by
  unfold F_180_0 at hf
  refine Ex.seg 3 (pc' := 3) (lc' := [some (.ref 55), some (.int x1), some (.int x2), none, none, none, none]) (st' := [.int x2, .int x1, .ref 55]) (h' := h) (sg1 rfl rfl (sg1 rfl rfl (sg1 rfl rfl rfl))) ?_
  obtain ⟨q5, e_q5, hf⟩ := bnd hf
  refine Ex.callV (a := 55) (As := [.int x1, .int x2]) (r := []) (v := some (.int q5.1)) (h' := q5.2) rfl rfl (by decide) rfl (Nat.le_of_ble_eq_true rfl) rfl (E_185 (Nat.le_trans (by decide) hd) e_q5) rfl ?_
  refine Ex.seg 3 (pc' := 9) (lc' := [some (.ref 55), some (.int x1), some (.int x2), some (.int q5.1), none, none, none]) (st' := [.int (-1), .int q5.1]) (h' := q5.2) (sg1 rfl rfl (sg1 rfl rfl (sg1 rfl rfl rfl))) ?_
  refine Ex.icmp rfl rfl (fun (c0 : ¬ (q5.1 = (-1))) => ?_) (fun (c0 : ¬ ¬ (q5.1 = (-1))) => ?_)
  · rw [if_neg c0] at hf
    refine Ex.seg 2 (pc' := 18) (lc' := [some (.ref 55), some (.int x1), some (.int x2), some (.int q5.1), none, none, none]) (st' := [.ref 56]) (h' := q5.2) (sg1 rfl rfl (sg1 rfl rfl rfl)) ?_
    obtain ⟨q6, e_q6, hf⟩ := bnd hf
    refine Ex.callV (a := 56) (As := []) (r := []) (v := none) (h' := q6) rfl rfl (by decide) rfl (Nat.le_of_ble_eq_true rfl) rfl (E_138 (Nat.le_trans (by decide) hd) e_q6) rfl ?_
    refine Ex.seg 8 (pc' := 34) (lc' := [some (.ref 55), some (.int x1), some (.int x2), some (.int q5.1), none, none, none]) (st' := [.ref 56, .long 0, .int q5.1, .int 0, .int 34, .ref 34]) (h' := q6) (sg1 rfl rfl (sg1 rfl rfl (sg1 rfl rfl (sg1 rfl rfl (sg1 rfl rfl (sg1 rfl rfl (sg1 rfl rfl (sg1 rfl rfl rfl)))))))) ?_
    obtain ⟨q7, e_q7, hf⟩ := bnd hf
    refine Ex.callV (a := 34) (As := [.int 34, .int 0, .int q5.1, .long 0, .ref 56]) (r := []) (v := some (.int q7.1)) (h' := q7.2) rfl rfl (by decide) rfl (Nat.le_of_ble_eq_true rfl) rfl (E_5 (Nat.le_trans (by decide) hd) e_q7) rfl ?_
    refine Ex.seg 2 (pc' := 41) (lc' := [some (.ref 55), some (.int x1), some (.int x2), some (.int q5.1), some (.int q7.1), none, none]) (st' := [.int q7.1]) (h' := q7.2) (sg1 rfl rfl (sg1 rfl rfl rfl)) ?_
    refine Ex.ifc rfl rfl (fun (c0 : 0 ≤ q7.1) => ?_) (fun (c0 : ¬ (0 ≤ q7.1)) => ?_)
    · rw [if_pos c0] at hf
      refine Ex.seg 3 (pc' := 54) (lc' := [some (.ref 55), some (.int x1), some (.int x2), some (.int q5.1), some (.int q7.1), none, none]) (st' := [.int q7.1, .ref 21]) (h' := q7.2) (sg1 rfl rfl (sg1 rfl rfl (sg1 rfl rfl rfl))) ?_
      obtain ⟨q8, e_q8, hf⟩ := bnd hf
      refine Ex.callV (a := 21) (As := [.int q7.1]) (r := []) (v := some (.int q8.1)) (h' := q8.2) rfl rfl (by decide) rfl (Nat.le_of_ble_eq_true rfl) rfl (E_155 (Nat.le_trans (by decide) hd) e_q8) rfl ?_
      exact Ex.weak (sm_le_s (sm_le_n (sm_le_s (sm_le_n (sm_le_n (sm_le_s (sm_le_s sm_le_nil))))))) (B_180_57 hd  hf hs)
    · rw [if_neg c0] at hf
      refine Ex.seg 2 (pc' := 57) (lc' := [some (.ref 55), some (.int x1), some (.int x2), some (.int q5.1), some (.int q7.1), none, none]) (st' := [.int (-1)]) (h' := q7.2) (sg1 rfl rfl (sg1 rfl rfl rfl)) ?_
      exact Ex.weak (sm_le_s (sm_le_n (sm_le_s (sm_le_n (sm_le_n (sm_le_s (sm_le_s sm_le_nil))))))) (B_180_57 hd  hf hs)
  · rw [if_pos (Classical.not_not.mp c0)] at hf
    refine Ex.seg 1 (pc' := 13) (lc' := [some (.ref 55), some (.int x1), some (.int x2), some (.int q5.1), none, none, none]) (st' := [.int (-1)]) (h' := q5.2) (sg1 rfl rfl rfl) ?_
    obtain rfl := Option.some.inj hf
    exact Ex.iret rfl rfl (fun c0 => by cases c0) hs
theorem E_180 {L : Nat} {xs : Nat → Int32} {d : Nat} (hd : 6 ≤ d) {x1 : Int32} {x2 : Int32} {h : sm_H} {r : Int32 × sm_H} (hf : F_180 x1 x2 h = some r) : RUN L xs d 180 [.ref 55, .int x1, .int x2] h (some (.int r.1), r.2) := by
  obtain ⟨d, rfl⟩ : ∃ e, d = e + 1 := ⟨d - 1, by omega⟩
  exact ⟨Nat.le_of_ble_eq_true rfl, B_180_0 (by omega) hf rfl⟩
theorem B_186_108 {L : Nat} {xs : Nat → Int32} {d : Nat} (hd : 5 ≤ d) {res : Option Value × sm_H} {z0 : Int32}  {h : sm_H} {r : (Int32 × sm_H)} (hf : F_186_108 z0 h = some r) (hs : (fun (r : Int32 × sm_H) => res = (some (.int r.1), r.2)) r) : Ex (P_G L xs) (RUN L xs d) (sm_lk P_t186) 0 108 [none, none, none, none, none, none, none, none] [.int z0] h res := by
  unfold F_186_108 at hf
  obtain rfl := Option.some.inj hf
  exact Ex.iret rfl rfl (fun c0 => by cases c0) hs
theorem B_186_36 {L : Nat} {xs : Nat → Int32} {d : Nat} (hd : 5 ≤ d) {res : Option Value × sm_H} {y1 : Int32} {y2 : Int32} {y3 : Int32} {y4 : Int32} {z1 : Int32} {z2 : Int32} {z3 : Int32}  {h : sm_H} {r : (Int32 × sm_H)} (hf : F_186_36 y1 y2 y3 y4 z1 z2 z3 h = some r) (hs : (fun (r : Int32 × sm_H) => res = (some (.int r.1), r.2)) r) : Ex (P_G L xs) (RUN L xs d) (sm_lk P_t186) 0 36 [some (.ref 55), some (.int y1), some (.int y2), some (.int y3), some (.int y4), none, none, none] [.int z3, .int z2, .int z1, .ref 1] h res := by
  unfold F_186_36 at hf
  obtain ⟨q1, e_q1, hf⟩ := bnd hf
  refine Ex.callV (a := 1) (As := [.int z1, .int z2, .int z3]) (r := []) (v := some (.int q1.1)) (h' := q1.2) rfl rfl (by decide) rfl (Nat.le_of_ble_eq_true rfl) rfl (E_65 (Nat.le_trans (by decide) hd) e_q1) rfl ?_
  refine Ex.ifc rfl rfl (fun (c0 : ¬ (q1.1 = 0)) => ?_) (fun (c0 : ¬ ¬ (q1.1 = 0)) => ?_)
  · rw [if_neg c0] at hf
    refine Ex.seg 3 (pc' := 55) (lc' := [some (.ref 55), some (.int y1), some (.int y2), some (.int y3), some (.int y4), none, none, none]) (st' := [.int y4, .int y3, .ref 55]) (h' := q1.2) (sg1 rfl rfl (sg1 rfl rfl (sg1 rfl rfl rfl))) ?_
    obtain ⟨q2, e_q2, hf⟩ := bnd hf
    refine Ex.callV (a := 55) (As := [.int y3, .int y4]) (r := []) (v := some (.int q2.1)) (h' := q2.2) rfl rfl (by decide) rfl (Nat.le_of_ble_eq_true rfl) rfl (E_185 (Nat.le_trans (by decide) hd) e_q2) rfl ?_
    refine Ex.seg 3 (pc' := 63) (lc' := [some (.ref 55), some (.int y1), some (.int y2), some (.int y3), some (.int y4), none, some (.int q2.1), none]) (st' := [.int (-1), .int q2.1]) (h' := q2.2) (sg1 rfl rfl (sg1 rfl rfl (sg1 rfl rfl rfl))) ?_
    refine Ex.icmp rfl rfl (fun (c0 : ¬ (q2.1 = (-1))) => ?_) (fun (c0 : ¬ ¬ (q2.1 = (-1))) => ?_)
    · rw [if_neg c0] at hf
      refine Ex.seg 9 (pc' := 82) (lc' := [some (.ref 55), some (.int y1), some (.int y2), some (.int y3), some (.int y4), none, some (.int q2.1), none]) (st' := [.int y2, .ref 56, .long 0, .int q2.1, .int 0, .int y1, .ref 34]) (h' := q2.2) (sg1 rfl rfl (sg1 rfl rfl (sg1 rfl rfl (sg1 rfl rfl (sg1 rfl rfl (sg1 rfl rfl (sg1 rfl rfl (sg1 rfl rfl (sg1 rfl rfl rfl))))))))) ?_
      obtain ⟨q3, e_q3, hf⟩ := bnd hf
      refine Ex.callV (a := 56) (As := [.int y2]) (r := [.long 0, .int q2.1, .int 0, .int y1, .ref 34]) (v := some (.ref q3.1)) (h' := q3.2) rfl rfl (by decide) rfl (Nat.le_of_ble_eq_true rfl) rfl (E_140 (Nat.le_trans (by decide) hd) e_q3) rfl ?_
      obtain ⟨q4, e_q4, hf⟩ := bnd hf
      refine Ex.callV (a := 34) (As := [.int y1, .int 0, .int q2.1, .long 0, .ref q3.1]) (r := []) (v := some (.int q4.1)) (h' := q4.2) rfl rfl (by decide) rfl (Nat.le_of_ble_eq_true rfl) rfl (E_5 (Nat.le_trans (by decide) hd) e_q4) rfl ?_
      refine Ex.seg 2 (pc' := 92) (lc' := [some (.ref 55), some (.int y1), some (.int y2), some (.int y3), some (.int y4), none, some (.int q2.1), some (.int q4.1)]) (st' := [.int q4.1]) (h' := q4.2) (sg1 rfl rfl (sg1 rfl rfl rfl)) ?_
      refine Ex.ifc rfl rfl (fun (c0 : 0 ≤ q4.1) => ?_) (fun (c0 : ¬ (0 ≤ q4.1)) => ?_)
      · rw [if_pos c0] at hf
        refine Ex.seg 1 (pc' := 108) (lc' := [some (.ref 55), some (.int y1), some (.int y2), some (.int y3), some (.int y4), none, some (.int q2.1), some (.int q4.1)]) (st' := [.int q4.1]) (h' := q4.2) (sg1 rfl rfl rfl) ?_
        exact Ex.weak (sm_le_n (sm_le_n (sm_le_n (sm_le_n (sm_le_n (sm_le_s (sm_le_n (sm_le_n sm_le_nil)))))))) (B_186_108 hd  hf hs)
      · rw [if_neg c0] at hf
        refine Ex.seg 3 (pc' := 100) (lc' := [some (.ref 55), some (.int y1), some (.int y2), some (.int y3), some (.int y4), none, some (.int q2.1), some (.int q4.1)]) (st' := [.int y4, .int 8, .ref 55]) (h' := q4.2) (sg1 rfl rfl (sg1 rfl rfl (sg1 rfl rfl rfl))) ?_
        obtain ⟨q5, e_q5, hf⟩ := bnd hf
        refine Ex.callV (a := 55) (As := [.int 8, .int y4]) (r := []) (v := some (.int q5.1)) (h' := q5.2) rfl rfl (by decide) rfl (Nat.le_of_ble_eq_true rfl) rfl (E_169 (Nat.le_trans (by decide) hd) e_q5) rfl ?_
        refine Ex.seg 1 (pc' := 108) (lc' := [some (.ref 55), some (.int y1), some (.int y2), some (.int y3), some (.int y4), none, some (.int q2.1), some (.int q4.1)]) (st' := [.int q5.1]) (h' := q5.2) (sg1 rfl rfl rfl) ?_
        exact Ex.weak (sm_le_n (sm_le_n (sm_le_n (sm_le_n (sm_le_n (sm_le_s (sm_le_n (sm_le_n sm_le_nil)))))))) (B_186_108 hd  hf hs)
    · rw [if_pos (Classical.not_not.mp c0)] at hf
      refine Ex.seg 1 (pc' := 67) (lc' := [some (.ref 55), some (.int y1), some (.int y2), some (.int y3), some (.int y4), none, some (.int q2.1), none]) (st' := [.int (-1)]) (h' := q2.2) (sg1 rfl rfl rfl) ?_
      obtain rfl := Option.some.inj hf
      exact Ex.iret rfl rfl (fun c0 => by cases c0) hs
  · rw [if_pos (Classical.not_not.mp c0)] at hf
    refine Ex.seg 3 (pc' := 47) (lc' := [some (.ref 55), some (.int y1), some (.int y2), some (.int y3), some (.int y4), none, none, none]) (st' := [.int y4, .int 7, .ref 55]) (h' := q1.2) (sg1 rfl rfl (sg1 rfl rfl (sg1 rfl rfl rfl))) ?_
    obtain ⟨q6, e_q6, hf⟩ := bnd hf
    refine Ex.callV (a := 55) (As := [.int 7, .int y4]) (r := []) (v := some (.int q6.1)) (h' := q6.2) rfl rfl (by decide) rfl (Nat.le_of_ble_eq_true rfl) rfl (E_169 (Nat.le_trans (by decide) hd) e_q6) rfl ?_
    obtain rfl := Option.some.inj hf
    exact Ex.iret rfl rfl (fun c0 => by cases c0) hs
theorem B_186_0 {L : Nat} {xs : Nat → Int32} {d : Nat} (hd : 5 ≤ d) {res : Option Value × sm_H} {x1 : Int32} {x2 : Int32} {x3 : Int32} {x4 : Int32}  {h : sm_H} {r : (Int32 × sm_H)} (hf : F_186_0 x1 x2 x3 x4 h = some r) (hs : (fun (r : Int32 × sm_H) => res = (some (.int r.1), r.2)) r) : Ex (P_G L xs) (RUN L xs d) (sm_lk P_t186) 0 0 [some (.ref 55), some (.int x1), some (.int x2), some (.int x3), some (.int x4), none, none, none] [] h res := by
  unfold F_186_0 at hf
  refine Ex.seg 3 (pc' := 5) (lc' := [some (.ref 55), some (.int x1), some (.int x2), some (.int x3), some (.int x4), none, none, none]) (st' := [.int x2, .ref 10]) (h' := h) (sg1 rfl rfl (sg1 rfl rfl (sg1 rfl rfl rfl))) ?_
  obtain ⟨q7, e_q7, hf⟩ := bnd hf
  refine Ex.callV (a := 10) (As := [.int x2]) (r := []) (v := some (.int q7.1)) (h' := q7.2) rfl rfl (by decide) rfl (Nat.le_of_ble_eq_true rfl) rfl (E_44 (Nat.le_trans (by decide) hd) e_q7) rfl ?_
  refine Ex.seg 3 (pc' := 13) (lc' := [some (.ref 55), some (.int x1), some (.int x2), some (.int x3), some (.int x4), some (.int q7.1), none, none]) (st' := [.int x3, .int q7.1]) (h' := q7.2) (sg1 rfl rfl (sg1 rfl rfl (sg1 rfl rfl rfl))) ?_
  refine Ex.icmp rfl rfl (fun (c0 : ¬ (q7.1 = x3)) => ?_) (fun (c0 : ¬ ¬ (q7.1 = x3)) => ?_)
  · rw [if_neg c0] at hf
    refine Ex.seg 6 (pc' := 28) (lc' := [some (.ref 55), some (.int x1), some (.int x2), some (.int x3), some (.int x4), some (.int q7.1), none, none]) (st' := [.int 13, .int x1, .int x3, .int q7.1, .ref 1]) (h' := q7.2) (sg1 rfl rfl (sg1 rfl rfl (sg1 rfl rfl (sg1 rfl rfl (sg1 rfl rfl (sg1 rfl rfl rfl)))))) ?_
    refine Ex.icmp rfl rfl (fun (c0 : ¬ (x1 = 13)) => ?_) (fun (c0 : ¬ ¬ (x1 = 13)) => ?_)
    · rw [if_neg c0] at hf
      refine Ex.seg 1 (pc' := 36) (lc' := [some (.ref 55), some (.int x1), some (.int x2), some (.int x3), some (.int x4), some (.int q7.1), none, none]) (st' := [.int 0, .int x3, .int q7.1, .ref 1]) (h' := q7.2) (sg1 rfl rfl rfl) ?_
      exact Ex.weak (sm_le_s (sm_le_s (sm_le_s (sm_le_s (sm_le_s (sm_le_n (sm_le_s (sm_le_s sm_le_nil)))))))) (B_186_36 hd  hf hs)
    · rw [if_pos (Classical.not_not.mp c0)] at hf
      refine Ex.seg 2 (pc' := 36) (lc' := [some (.ref 55), some (.int x1), some (.int x2), some (.int x3), some (.int x4), some (.int q7.1), none, none]) (st' := [.int 1, .int x3, .int q7.1, .ref 1]) (h' := q7.2) (sg1 rfl rfl (sg1 rfl rfl rfl)) ?_
      exact Ex.weak (sm_le_s (sm_le_s (sm_le_s (sm_le_s (sm_le_s (sm_le_n (sm_le_s (sm_le_s sm_le_nil)))))))) (B_186_36 hd  hf hs)
  · rw [if_pos (Classical.not_not.mp c0)] at hf
    refine Ex.seg 1 (pc' := 17) (lc' := [some (.ref 55), some (.int x1), some (.int x2), some (.int x3), some (.int x4), some (.int q7.1), none, none]) (st' := [.int x2]) (h' := q7.2) (sg1 rfl rfl rfl) ?_
    obtain rfl := Option.some.inj hf
    exact Ex.iret rfl rfl (fun c0 => by cases c0) hs
theorem E_186 {L : Nat} {xs : Nat → Int32} {d : Nat} (hd : 6 ≤ d) {x1 : Int32} {x2 : Int32} {x3 : Int32} {x4 : Int32} {h : sm_H} {r : Int32 × sm_H} (hf : F_186 x1 x2 x3 x4 h = some r) : RUN L xs d 186 [.ref 55, .int x1, .int x2, .int x3, .int x4] h (some (.int r.1), r.2) := by
  obtain ⟨d, rfl⟩ : ∃ e, d = e + 1 := ⟨d - 1, by omega⟩
  exact ⟨Nat.le_of_ble_eq_true rfl, B_186_0 (by omega) hf rfl⟩
theorem B_190_40 {L : Nat} {xs : Nat → Int32} {d : Nat} (hd : 6 ≤ d) {res : Option Value × sm_H}   {h : sm_H} {r : (Int32 × sm_H)} (hf : F_190_40  h = some r) (hs : (fun (r : Int32 × sm_H) => res = (some (.int r.1), r.2)) r) : Ex (P_G L xs) (RUN L xs d) (sm_lk P_t190) 3 40 [none, none, none, none, none] [] h res := by
  unfold F_190_40 at hf
  refine Ex.seg 1 (pc' := 41) (lc' := [none, none, none, none, none]) (st' := [.int 0]) (h' := h) (sg1 rfl rfl rfl) ?_
  obtain rfl := Option.some.inj hf
  exact Ex.iret rfl rfl (fun _ => by decide) hs
theorem B_190_0 {L : Nat} {xs : Nat → Int32} {d : Nat} (hd : 6 ≤ d) {res : Option Value × sm_H} {x1 : Int32} {x2 : Int32} {x3 : Int32}  {h : sm_H} {r : (Int32 × sm_H)} (hf : F_190_0 x1 x2 x3 h = some r) (hs : (fun (r : Int32 × sm_H) => res = (some (.int r.1), r.2)) r) : Ex (P_G L xs) (RUN L xs d) (sm_lk P_t190) 3 0 [some (.ref 55), some (.int x1), some (.int x2), some (.int x3), none] [] h res := by
  unfold F_190_0 at hf
  refine Ex.seg 4 (pc' := 5) (lc' := [some (.ref 55), some (.int x1), some (.int x2), some (.int x3), none]) (st' := [.int x1, .ref 55, .int 12, .ref 55]) (h' := h) (sg1 rfl rfl (sg1 rfl rfl (sg1 rfl rfl (sg1 rfl rfl rfl)))) ?_
  obtain ⟨q1, e_q1, hf⟩ := bnd hf
  refine Ex.callV (a := 55) (As := [.int x1]) (r := [.int 12, .ref 55]) (v := some (.int q1.1)) (h' := q1.2) rfl rfl (by decide) rfl (Nat.le_of_ble_eq_true rfl) rfl (E_187 (Nat.le_trans (by decide) hd) e_q1) rfl ?_
  refine Ex.seg 2 (pc' := 10) (lc' := [some (.ref 55), some (.int x1), some (.int x2), some (.int x3), none]) (st' := [.int x3, .int x2, .int q1.1, .int 12, .ref 55]) (h' := q1.2) (sg1 rfl rfl (sg1 rfl rfl rfl)) ?_
  obtain ⟨q2, e_q2, hf⟩ := bnd hf
  refine Ex.callV (a := 55) (As := [.int 12, .int q1.1, .int x2, .int x3]) (r := []) (v := some (.int q2.1)) (h' := q2.2) rfl rfl (by decide) rfl (Nat.le_of_ble_eq_true rfl) rfl (E_186 (Nat.le_trans (by decide) hd) e_q2) rfl ?_
  refine Ex.seg 3 (pc' := 18) (lc' := [some (.ref 55), some (.int x1), some (.int x2), some (.int x3), some (.int q2.1)]) (st' := [.int (-1), .int q2.1]) (h' := q2.2) (sg1 rfl rfl (sg1 rfl rfl (sg1 rfl rfl rfl))) ?_
  refine Ex.icmp rfl rfl (fun (c0 : q2.1 = (-1)) => ?_) (fun (c0 : ¬ (q2.1 = (-1))) => ?_)
  · rw [if_pos c0] at hf
    exact Ex.weak (sm_le_n (sm_le_n (sm_le_n (sm_le_n (sm_le_n sm_le_nil))))) (B_190_40 hd  hf hs)
  · rw [if_neg c0] at hf
    refine Ex.seg 1 (pc' := 22) (lc' := [some (.ref 55), some (.int x1), some (.int x2), some (.int x3), some (.int q2.1)]) (st' := [.int x1]) (h' := q2.2) (sg1 rfl rfl rfl) ?_
    refine Ex.ifc rfl rfl (fun (c0 : x1 < 0) => ?_) (fun (c0 : ¬ (x1 < 0)) => ?_)
    · rw [if_pos c0] at hf
      exact Ex.weak (sm_le_n (sm_le_n (sm_le_n (sm_le_n (sm_le_n sm_le_nil))))) (B_190_40 hd  hf hs)
    · rw [if_neg c0] at hf
      refine Ex.seg 3 (pc' := 30) (lc' := [some (.ref 55), some (.int x1), some (.int x2), some (.int x3), some (.int q2.1)]) (st' := [.int (q2.2.1 55 12), .int x1]) (h' := q2.2) (sg1 rfl rfl (sg1 rfl rfl (sg1 rfl rfl rfl))) ?_
      refine Ex.icmp rfl rfl (fun (c0 : (q2.2.1 55 12) ≤ x1) => ?_) (fun (c0 : ¬ ((q2.2.1 55 12) ≤ x1)) => ?_)
      · rw [if_pos c0] at hf
        exact Ex.weak (sm_le_n (sm_le_n (sm_le_n (sm_le_n (sm_le_n sm_le_nil))))) (B_190_40 hd  hf hs)
      · rw [if_neg c0] at hf
        refine Ex.seg 2 (pc' := 37) (lc' := [some (.ref 55), some (.int x1), some (.int x2), some (.int x3), some (.int q2.1)]) (st' := [.int 200, .int x1]) (h' := q2.2) (sg1 rfl rfl (sg1 rfl rfl rfl)) ?_
        refine Ex.icmp rfl rfl (fun (c0 : x1 < 200) => ?_) (fun (c0 : ¬ (x1 < 200)) => ?_)
        · rw [if_pos c0] at hf
          refine Ex.seg 4 (pc' := 49) (lc' := [some (.ref 55), some (.int x1), some (.int x2), some (.int x3), some (.int q2.1)]) (st' := [.int q2.1, .int x1, .ref 60]) (h' := q2.2) (sg1 rfl rfl (sg1 rfl rfl (sg1 rfl rfl (sg1 rfl rfl rfl)))) ?_
          obtain ⟨h3, e_h3, hf⟩ := bnd hf
          refine Ex.iast e_h3 rfl rfl ?_
          refine Ex.seg 1 (pc' := 51) (lc' := [some (.ref 55), some (.int x1), some (.int x2), some (.int x3), some (.int q2.1)]) (st' := [.int 1]) (h' := h3) (sg1 rfl rfl rfl) ?_
          obtain rfl := Option.some.inj hf
          exact Ex.iret rfl rfl (fun _ => by decide) hs
        · rw [if_neg c0] at hf
          exact Ex.weak (sm_le_n (sm_le_n (sm_le_n (sm_le_n (sm_le_n sm_le_nil))))) (B_190_40 hd  hf hs)
theorem E_190 {L : Nat} {xs : Nat → Int32} {d : Nat} (hd : 7 ≤ d) {x1 : Int32} {x2 : Int32} {x3 : Int32} {h : sm_H} {r : Int32 × sm_H} (hf : F_190 x1 x2 x3 h = some r) : RUN L xs d 190 [.ref 55, .int x1, .int x2, .int x3] h (some (.int r.1), r.2) := by
  obtain ⟨d, rfl⟩ : ∃ e, d = e + 1 := ⟨d - 1, by omega⟩
  exact ⟨Nat.le_of_ble_eq_true rfl, B_190_0 (by omega) hf rfl⟩
theorem B_192_130 {L : Nat} {xs : Nat → Int32} {d : Nat} (hd : 5 ≤ d) {res : Option Value × sm_H} {z0 : Int32}  {h : sm_H} {r : (Int32 × sm_H)} (hf : F_192_130 z0 h = some r) (hs : (fun (r : Int32 × sm_H) => res = (some (.int r.1), r.2)) r) : Ex (P_G L xs) (RUN L xs d) (sm_lk P_t192) 0 130 [none, none, none, none, none, none, none, none] [.int z0] h res := by
  unfold F_192_130 at hf
  obtain rfl := Option.some.inj hf
  exact Ex.iret rfl rfl (fun c0 => by cases c0) hs
theorem B_192_112 {L : Nat} {xs : Nat → Int32} {d : Nat} (hd : 5 ≤ d) {res : Option Value × sm_H} {y4 : Int32} {y6 : Int32}  {h : sm_H} {r : (Int32 × sm_H)} (hf : F_192_112 y4 y6 h = some r) (hs : (fun (r : Int32 × sm_H) => res = (some (.int r.1), r.2)) r) : Ex (P_G L xs) (RUN L xs d) (sm_lk P_t192) 0 112 [some (.ref 55), none, none, none, some (.int y4), none, some (.int y6), none] [] h res := by
  unfold F_192_112 at hf
  refine Ex.seg 1 (pc' := 114) (lc' := [some (.ref 55), none, none, none, some (.int y4), none, some (.int y6), none]) (st' := [.int y6]) (h' := h) (sg1 rfl rfl rfl) ?_
  refine Ex.ifc rfl rfl (fun (c0 : 0 ≤ y6) => ?_) (fun (c0 : ¬ (0 ≤ y6)) => ?_)
  · rw [if_pos c0] at hf
    refine Ex.seg 1 (pc' := 130) (lc' := [some (.ref 55), none, none, none, some (.int y4), none, some (.int y6), none]) (st' := [.int y6]) (h' := h) (sg1 rfl rfl rfl) ?_
    exact Ex.weak (sm_le_n (sm_le_s (sm_le_s (sm_le_s (sm_le_n (sm_le_s (sm_le_n (sm_le_s sm_le_nil)))))))) (B_192_130 hd  hf hs)
  · rw [if_neg c0] at hf
    refine Ex.seg 3 (pc' := 122) (lc' := [some (.ref 55), none, none, none, some (.int y4), none, some (.int y6), none]) (st' := [.int y4, .int 8, .ref 55]) (h' := h) (sg1 rfl rfl (sg1 rfl rfl (sg1 rfl rfl rfl))) ?_
    obtain ⟨q1, e_q1, hf⟩ := bnd hf
    refine Ex.callV (a := 55) (As := [.int 8, .int y4]) (r := []) (v := some (.int q1.1)) (h' := q1.2) rfl rfl (by decide) rfl (Nat.le_of_ble_eq_true rfl) rfl (E_169 (Nat.le_trans (by decide) hd) e_q1) rfl ?_
    refine Ex.seg 1 (pc' := 130) (lc' := [some (.ref 55), none, none, none, some (.int y4), none, some (.int y6), none]) (st' := [.int q1.1]) (h' := q1.2) (sg1 rfl rfl rfl) ?_
    exact Ex.weak (sm_le_n (sm_le_s (sm_le_s (sm_le_s (sm_le_n (sm_le_s (sm_le_n (sm_le_s sm_le_nil)))))))) (B_192_130 hd  hf hs)
theorem B_192_64B {L : Nat} {xs : Nat → Int32} {d : Nat} (hd : 5 ≤ d) {res : Option Value × sm_H} {S1 : (Int32 × Int32 × Int32 × Int32 × sm_H) → Prop} (hS1 : ∀ s, S1 s → Ex (P_G L xs) (RUN L xs d) (sm_lk P_t192) 0 64 [some (.ref 55), none, some (.int s.1), none, some (.int s.2.1), none, some (.int s.2.2.1), some (.int s.2.2.2.1)] [] s.2.2.2.2 res) {s : (Int32 × Int32 × Int32 × Int32 × sm_H)}  {r : ((Int32 × Int32 × Int32 × Int32 × sm_H) ⊕ (Int32 × sm_H))} (hf : F_192_64B s = some r) (hs : (Sum.elim S1 (fun (r : Int32 × sm_H) => res = (some (.int r.1), r.2))) r) : Ex (P_G L xs) (RUN L xs d) (sm_lk P_t192) 0 64 [some (.ref 55), none, some (.int s.1), none, some (.int s.2.1), none, some (.int s.2.2.1), some (.int s.2.2.2.1)] [] s.2.2.2.2 res := by
  unfold F_192_64B at hf
  refine Ex.seg 1 (pc' := 66) (lc' := [some (.ref 55), none, some (.int s.1), none, some (.int s.2.1), none, some (.int s.2.2.1), some (.int s.2.2.2.1)]) (st' := [.int s.2.2.2.1]) (h' := s.2.2.2.2) (sg1 rfl rfl rfl) ?_
  refine Ex.ifc rfl rfl (fun (c0 : s.2.2.2.1 < 0) => ?_) (fun (c0 : ¬ (s.2.2.2.1 < 0)) => ?_)
  · rw [if_pos c0] at hf
    obtain ⟨r0, hf0, rfl⟩ := Option.map_eq_some_iff.mp hf
    exact Ex.weak (sm_le_s (sm_le_s (sm_le_n (sm_le_s (sm_le_s (sm_le_s (sm_le_s (sm_le_n sm_le_nil)))))))) (B_192_112 hd  hf0 hs)
  · rw [if_neg c0] at hf
    refine Ex.seg 1 (pc' := 71) (lc' := [some (.ref 55), none, some (.int s.1), none, some (.int s.2.1), none, some (.int s.2.2.1), some (.int s.2.2.2.1)]) (st' := [.int s.2.2.1]) (h' := s.2.2.2.2) (sg1 rfl rfl rfl) ?_
    refine Ex.ifc rfl rfl (fun (c0 : s.2.2.1 < 0) => ?_) (fun (c0 : ¬ (s.2.2.1 < 0)) => ?_)
    · rw [if_pos c0] at hf
      obtain ⟨r0, hf0, rfl⟩ := Option.map_eq_some_iff.mp hf
      exact Ex.weak (sm_le_s (sm_le_s (sm_le_n (sm_le_s (sm_le_s (sm_le_s (sm_le_s (sm_le_n sm_le_nil)))))))) (B_192_112 hd  hf0 hs)
    · rw [if_neg c0] at hf
      refine Ex.seg 13 (pc' := 95) (lc' := [some (.ref 55), none, some (.int s.1), none, some (.int s.2.1), none, some (.int s.2.2.1), some (.int s.2.2.2.1)]) (st' := [.int (s.1 + s.2.2.2.1), .ref 55, .int s.2.2.1, .ref 56, .long 0, .int 0, .int s.2.2.2.1, .int 8, .ref 34]) (h' := s.2.2.2.2) (sg1 rfl rfl (sg1 rfl rfl (sg1 rfl rfl (sg1 rfl rfl (sg1 rfl rfl (sg1 rfl rfl (sg1 rfl rfl (sg1 rfl rfl (sg1 rfl rfl (sg1 rfl rfl (sg1 rfl rfl (sg1 rfl rfl (sg1 rfl rfl rfl))))))))))))) ?_
      obtain ⟨q2, e_q2, hf⟩ := bnd hf
      refine Ex.callV (a := 55) (As := [.int (s.1 + s.2.2.2.1)]) (r := [.int s.2.2.1, .ref 56, .long 0, .int 0, .int s.2.2.2.1, .int 8, .ref 34]) (v := some (.int q2.1)) (h' := q2.2) rfl rfl (by decide) rfl (Nat.le_of_ble_eq_true rfl) rfl (E_187 (Nat.le_trans (by decide) hd) e_q2) rfl ?_
      obtain ⟨q3, e_q3, hf⟩ := bnd hf
      refine Ex.callV (a := 56) (As := [.int s.2.2.1, .int q2.1]) (r := [.long 0, .int 0, .int s.2.2.2.1, .int 8, .ref 34]) (v := some (.ref q3.1)) (h' := q3.2) rfl rfl (by decide) rfl (Nat.le_of_ble_eq_true rfl) rfl (E_141 (Nat.le_trans (by decide) hd) e_q3) rfl ?_
      obtain ⟨q4, e_q4, hf⟩ := bnd hf
      refine Ex.callV (a := 34) (As := [.int 8, .int s.2.2.2.1, .int 0, .long 0, .ref q3.1]) (r := []) (v := some (.int q4.1)) (h' := q4.2) rfl rfl (by decide) rfl (Nat.le_of_ble_eq_true rfl) rfl (E_5 (Nat.le_trans (by decide) hd) e_q4) rfl ?_
      refine Ex.seg 2 (pc' := 109) (lc' := [some (.ref 55), none, some (.int s.1), none, some (.int s.2.1), none, some (.int q4.1), some (.int (s.2.2.2.1 + (-1)))]) (st' := []) (h' := q4.2) (sg1 rfl rfl (sg1 rfl rfl rfl)) ?_
      obtain ⟨v5, e_v5, hf⟩ := bnd hf
      rw [Option.some.inj e_v5]
      refine Ex.seg 1 (pc' := 64) (lc' := [some (.ref 55), none, some (.int s.1), none, some (.int s.2.1), none, some (.int q4.1), some (.int v5)]) (st' := []) (h' := q4.2) (sg1 rfl rfl rfl) ?_
      obtain rfl := Option.some.inj hf
      exact Ex.weak (sm_le_s (sm_le_s (sm_le_s (sm_le_s (sm_le_s (sm_le_s (sm_le_s (sm_le_s sm_le_nil)))))))) (hS1 _ hs)
theorem B_192_64 {L : Nat} {xs : Nat → Int32} {d : Nat} (hd : 5 ≤ d) {res : Option Value × sm_H} {y2 : Int32} {y4 : Int32} {y6 : Int32} {y7 : Int32}  {h : sm_H} {r : (Int32 × sm_H)} (hf : F_192_64 y2 y4 y6 y7 h = some r) (hs : (fun (r : Int32 × sm_H) => res = (some (.int r.1), r.2)) r) : Ex (P_G L xs) (RUN L xs d) (sm_lk P_t192) 0 64 [some (.ref 55), none, some (.int y2), none, some (.int y4), none, some (.int y6), some (.int y7)] [] h res := by
  unfold F_192_64 at hf
  exact lp_ok (P := fun (s : (Int32 × Int32 × Int32 × Int32 × sm_H)) => Ex (P_G L xs) (RUN L xs d) (sm_lk P_t192) 0 64 [some (.ref 55), none, some (.int s.1), none, some (.int s.2.1), none, some (.int s.2.2.1), some (.int s.2.2.2.1)] [] s.2.2.2.2 res) (S := (fun (r : Int32 × sm_H) => res = (some (.int r.1), r.2))) (fun s x hx hsx => by
    intros
    exact B_192_64B hd  (fun _ q => q) hx hsx) 1000000 _ r hf hs
theorem B_192_0 {L : Nat} {xs : Nat → Int32} {d : Nat} (hd : 5 ≤ d) {res : Option Value × sm_H} {x1 : Int32} {x2 : Int32} {x3 : Int32} {x4 : Int32}  {h : sm_H} {r : (Int32 × sm_H)} (hf : F_192_0 x1 x2 x3 x4 h = some r) (hs : (fun (r : Int32 × sm_H) => res = (some (.int r.1), r.2)) r) : Ex (P_G L xs) (RUN L xs d) (sm_lk P_t192) 0 0 [some (.ref 55), some (.int x1), some (.int x2), some (.int x3), some (.int x4), none, none, none] [] h res := by
  unfold F_192_0 at hf
  refine Ex.seg 1 (pc' := 1) (lc' := [some (.ref 55), some (.int x1), some (.int x2), some (.int x3), some (.int x4), none, none, none]) (st' := [.int x1]) (h' := h) (sg1 rfl rfl rfl) ?_
  refine Ex.ifc rfl rfl (fun (c0 : 0 ≤ x1) => ?_) (fun (c0 : ¬ (0 ≤ x1)) => ?_)
  · rw [if_pos c0] at hf
    refine Ex.seg 4 (pc' := 19) (lc' := [some (.ref 55), some (.int x1), some (.int x2), some (.int x3), some (.int x4), none, none, none]) (st' := [.int x1, .ref 10, .ref 55]) (h' := h) (sg1 rfl rfl (sg1 rfl rfl (sg1 rfl rfl (sg1 rfl rfl rfl)))) ?_
    obtain ⟨q6, e_q6, hf⟩ := bnd hf
    refine Ex.callV (a := 10) (As := [.int x1]) (r := [.ref 55]) (v := some (.int q6.1)) (h' := q6.2) rfl rfl (by decide) rfl (Nat.le_of_ble_eq_true rfl) rfl (E_44 (Nat.le_trans (by decide) hd) e_q6) rfl ?_
    refine Ex.seg 1 (pc' := 24) (lc' := [some (.ref 55), some (.int x1), some (.int x2), some (.int x3), some (.int x4), none, none, none]) (st' := [.int x4, .int q6.1, .ref 55]) (h' := q6.2) (sg1 rfl rfl rfl) ?_
    obtain ⟨q7, e_q7, hf⟩ := bnd hf
    refine Ex.callV (a := 55) (As := [.int q6.1, .int x4]) (r := []) (v := some (.int q7.1)) (h' := q7.2) rfl rfl (by decide) rfl (Nat.le_of_ble_eq_true rfl) rfl (E_185 (Nat.le_trans (by decide) hd) e_q7) rfl ?_
    refine Ex.seg 3 (pc' := 32) (lc' := [some (.ref 55), some (.int x1), some (.int x2), some (.int x3), some (.int x4), some (.int q7.1), none, none]) (st' := [.int (-1), .int q7.1]) (h' := q7.2) (sg1 rfl rfl (sg1 rfl rfl (sg1 rfl rfl rfl))) ?_
    refine Ex.icmp rfl rfl (fun (c0 : ¬ (q7.1 = (-1))) => ?_) (fun (c0 : ¬ ¬ (q7.1 = (-1))) => ?_)
    · rw [if_neg c0] at hf
      refine Ex.seg 9 (pc' := 51) (lc' := [some (.ref 55), some (.int x1), some (.int x2), some (.int x3), some (.int x4), some (.int q7.1), none, none]) (st' := [.int x1, .ref 56, .long 0, .int q7.1, .int x3, .int 4, .ref 34]) (h' := q7.2) (sg1 rfl rfl (sg1 rfl rfl (sg1 rfl rfl (sg1 rfl rfl (sg1 rfl rfl (sg1 rfl rfl (sg1 rfl rfl (sg1 rfl rfl (sg1 rfl rfl rfl))))))))) ?_
      obtain ⟨q8, e_q8, hf⟩ := bnd hf
      refine Ex.callV (a := 56) (As := [.int x1]) (r := [.long 0, .int q7.1, .int x3, .int 4, .ref 34]) (v := some (.ref q8.1)) (h' := q8.2) rfl rfl (by decide) rfl (Nat.le_of_ble_eq_true rfl) rfl (E_140 (Nat.le_trans (by decide) hd) e_q8) rfl ?_
      obtain ⟨q9, e_q9, hf⟩ := bnd hf
      refine Ex.callV (a := 34) (As := [.int 4, .int x3, .int q7.1, .long 0, .ref q8.1]) (r := []) (v := some (.int q9.1)) (h' := q9.2) rfl rfl (by decide) rfl (Nat.le_of_ble_eq_true rfl) rfl (E_5 (Nat.le_trans (by decide) hd) e_q9) rfl ?_
      refine Ex.seg 5 (pc' := 64) (lc' := [some (.ref 55), some (.int x1), some (.int x2), some (.int x3), some (.int x4), some (.int q7.1), some (.int q9.1), some (.int (x3 - 1))]) (st' := []) (h' := q9.2) (sg1 rfl rfl (sg1 rfl rfl (sg1 rfl rfl (sg1 rfl rfl (sg1 rfl rfl rfl))))) ?_
      obtain ⟨v10, e_v10, hf⟩ := bnd hf
      rw [Option.some.inj e_v10]
      exact Ex.weak (sm_le_s (sm_le_n (sm_le_s (sm_le_n (sm_le_s (sm_le_n (sm_le_s (sm_le_s sm_le_nil)))))))) (B_192_64 hd  hf hs)
    · rw [if_pos (Classical.not_not.mp c0)] at hf
      refine Ex.seg 1 (pc' := 36) (lc' := [some (.ref 55), some (.int x1), some (.int x2), some (.int x3), some (.int x4), some (.int q7.1), none, none]) (st' := [.int (-1)]) (h' := q7.2) (sg1 rfl rfl rfl) ?_
      obtain rfl := Option.some.inj hf
      exact Ex.iret rfl rfl (fun c0 => by cases c0) hs
  · rw [if_neg c0] at hf
    refine Ex.seg 3 (pc' := 9) (lc' := [some (.ref 55), some (.int x1), some (.int x2), some (.int x3), some (.int x4), none, none, none]) (st' := [.int x4, .int 8, .ref 55]) (h' := h) (sg1 rfl rfl (sg1 rfl rfl (sg1 rfl rfl rfl))) ?_
    obtain ⟨q11, e_q11, hf⟩ := bnd hf
    refine Ex.callV (a := 55) (As := [.int 8, .int x4]) (r := []) (v := some (.int q11.1)) (h' := q11.2) rfl rfl (by decide) rfl (Nat.le_of_ble_eq_true rfl) rfl (E_169 (Nat.le_trans (by decide) hd) e_q11) rfl ?_
    obtain rfl := Option.some.inj hf
    exact Ex.iret rfl rfl (fun c0 => by cases c0) hs
theorem E_192 {L : Nat} {xs : Nat → Int32} {d : Nat} (hd : 6 ≤ d) {x1 : Int32} {x2 : Int32} {x3 : Int32} {x4 : Int32} {h : sm_H} {r : Int32 × sm_H} (hf : F_192 x1 x2 x3 x4 h = some r) : RUN L xs d 192 [.ref 55, .int x1, .int x2, .int x3, .int x4] h (some (.int r.1), r.2) := by
  obtain ⟨d, rfl⟩ : ∃ e, d = e + 1 := ⟨d - 1, by omega⟩
  exact ⟨Nat.le_of_ble_eq_true rfl, B_192_0 (by omega) hf rfl⟩
theorem B_195_131 {L : Nat} {xs : Nat → Int32} {d : Nat} (hd : 5 ≤ d) {res : Option Value × sm_H} {z0 : Int32}  {h : sm_H} {r : (Int32 × sm_H)} (hf : F_195_131 z0 h = some r) (hs : (fun (r : Int32 × sm_H) => res = (some (.int r.1), r.2)) r) : Ex (P_G L xs) (RUN L xs d) (sm_lk P_t195) 0 131 [none, none, none, none, none, none, none] [.int z0] h res := by
  unfold F_195_131 at hf
  obtain rfl := Option.some.inj hf
  exact Ex.iret rfl rfl (fun c0 => by cases c0) hs
theorem B_195_23 {L : Nat} {xs : Nat → Int32} {d : Nat} (hd : 5 ≤ d) {res : Option Value × sm_H}   {h : sm_H} {r : (Int32 × sm_H)} (hf : F_195_23  h = some r) (hs : (fun (r : Int32 × sm_H) => res = (some (.int r.1), r.2)) r) : Ex (P_G L xs) (RUN L xs d) (sm_lk P_t195) 0 23 [some (.ref 55), none, none, none, none, none, none] [] h res := by
  unfold F_195_23 at hf
  refine Ex.seg 2 (pc' := 26) (lc' := [some (.ref 55), none, none, none, none, none, none]) (st' := [.int 6, .ref 55]) (h' := h) (sg1 rfl rfl (sg1 rfl rfl rfl)) ?_
  obtain ⟨q1, e_q1, hf⟩ := bnd hf
  refine Ex.callV (a := 55) (As := [.int 6]) (r := []) (v := some (.int q1.1)) (h' := q1.2) rfl rfl (by decide) rfl (Nat.le_of_ble_eq_true rfl) rfl (E_170 (Nat.le_trans (by decide) hd) e_q1) rfl ?_
  obtain rfl := Option.some.inj hf
  exact Ex.iret rfl rfl (fun c0 => by cases c0) hs
theorem B_195_0 {L : Nat} {xs : Nat → Int32} {d : Nat} (hd : 5 ≤ d) {res : Option Value × sm_H} {x1 : Int32}  {h : sm_H} {r : (Int32 × sm_H)} (hf : F_195_0 x1 h = some r) (hs : (fun (r : Int32 × sm_H) => res = (some (.int r.1), r.2)) r) : Ex (P_G L xs) (RUN L xs d) (sm_lk P_t195) 0 0 [some (.ref 55), some (.int x1), none, none, none, none, none] [] h res := by
  unfold F_195_0 at hf
  refine Ex.seg 3 (pc' := 5) (lc' := [some (.ref 55), some (.int x1), none, none, none, none, none]) (st' := [.ref 52, .ref 55]) (h' := h) (sg1 rfl rfl (sg1 rfl rfl (sg1 rfl rfl rfl))) ?_
  obtain ⟨q2, e_q2, hf⟩ := bnd hf
  refine Ex.callV (a := 52) (As := []) (r := [.ref 55]) (v := some (.long q2.1)) (h' := q2.2) rfl rfl (by decide) rfl (Nat.le_of_ble_eq_true rfl) rfl (E_248 (Nat.le_trans (by decide) hd) e_q2) rfl ?_
  obtain ⟨q3, e_q3, hf⟩ := bnd hf
  refine Ex.callV (a := 55) (As := [.long q2.1]) (r := []) (v := some (.int q3.1)) (h' := q3.2) rfl rfl (by decide) rfl (Nat.le_of_ble_eq_true rfl) rfl (E_181 (Nat.le_trans (by decide) hd) e_q3) rfl ?_
  refine Ex.seg 3 (pc' := 14) (lc' := [some (.ref 55), some (.int x1), some (.int q3.1), none, none, none, none]) (st' := [.int (-1), .int q3.1]) (h' := q3.2) (sg1 rfl rfl (sg1 rfl rfl (sg1 rfl rfl rfl))) ?_
  refine Ex.icmp rfl rfl (fun (c0 : q3.1 = (-1)) => ?_) (fun (c0 : ¬ (q3.1 = (-1))) => ?_)
  · rw [if_pos c0] at hf
    exact Ex.weak (sm_le_s (sm_le_n (sm_le_n (sm_le_s (sm_le_s (sm_le_s (sm_le_s sm_le_nil))))))) (B_195_23 hd  hf hs)
  · rw [if_neg c0] at hf
    refine Ex.seg 2 (pc' := 20) (lc' := [some (.ref 55), some (.int x1), some (.int q3.1), none, none, none, none]) (st' := [.int 16, .int q3.1]) (h' := q3.2) (sg1 rfl rfl (sg1 rfl rfl rfl)) ?_
    refine Ex.icmp rfl rfl (fun (c0 : q3.1 < 16) => ?_) (fun (c0 : ¬ (q3.1 < 16)) => ?_)
    · rw [if_pos c0] at hf
      refine Ex.seg 3 (pc' := 35) (lc' := [some (.ref 55), some (.int x1), some (.int q3.1), none, none, none, none]) (st' := [.int q3.1, .ref 59]) (h' := q3.2) (sg1 rfl rfl (sg1 rfl rfl (sg1 rfl rfl rfl))) ?_
      obtain ⟨v4, e_v4, hf⟩ := bnd hf
      refine Ex.iald e_v4 rfl rfl ?_
      refine Ex.seg 3 (pc' := 41) (lc' := [some (.ref 55), some (.int x1), some (.int q3.1), some (.int v4), none, none, none]) (st' := [.ref 56]) (h' := q3.2) (sg1 rfl rfl (sg1 rfl rfl (sg1 rfl rfl rfl))) ?_
      obtain ⟨q5, e_q5, hf⟩ := bnd hf
      refine Ex.callV (a := 56) (As := []) (r := []) (v := none) (h' := q5) rfl rfl (by decide) rfl (Nat.le_of_ble_eq_true rfl) rfl (E_138 (Nat.le_trans (by decide) hd) e_q5) rfl ?_
      refine Ex.seg 8 (pc' := 56) (lc' := [some (.ref 55), some (.int x1), some (.int q3.1), some (.int v4), none, none, none]) (st' := [.ref 56, .long 0, .int 0, .int v4, .int 2, .ref 34]) (h' := q5) (sg1 rfl rfl (sg1 rfl rfl (sg1 rfl rfl (sg1 rfl rfl (sg1 rfl rfl (sg1 rfl rfl (sg1 rfl rfl (sg1 rfl rfl rfl)))))))) ?_
      obtain ⟨q6, e_q6, hf⟩ := bnd hf
      refine Ex.callV (a := 34) (As := [.int 2, .int v4, .int 0, .long 0, .ref 56]) (r := []) (v := some (.int q6.1)) (h' := q6.2) rfl rfl (by decide) rfl (Nat.le_of_ble_eq_true rfl) rfl (E_5 (Nat.le_trans (by decide) hd) e_q6) rfl ?_
      refine Ex.seg 2 (pc' := 63) (lc' := [some (.ref 55), some (.int x1), some (.int q3.1), some (.int v4), some (.int q6.1), none, none]) (st' := [.int q6.1]) (h' := q6.2) (sg1 rfl rfl (sg1 rfl rfl rfl)) ?_
      refine Ex.ifc rfl rfl (fun (c0 : 0 ≤ q6.1) => ?_) (fun (c0 : ¬ (0 ≤ q6.1)) => ?_)
      · rw [if_pos c0] at hf
        refine Ex.seg 3 (pc' := 77) (lc' := [some (.ref 55), some (.int x1), some (.int q3.1), some (.int v4), some (.int q6.1), none, none]) (st' := [.int x1, .int v4, .ref 55]) (h' := q6.2) (sg1 rfl rfl (sg1 rfl rfl (sg1 rfl rfl rfl))) ?_
        obtain ⟨q7, e_q7, hf⟩ := bnd hf
        refine Ex.callV (a := 55) (As := [.int v4, .int x1]) (r := []) (v := some (.int q7.1)) (h' := q7.2) rfl rfl (by decide) rfl (Nat.le_of_ble_eq_true rfl) rfl (E_185 (Nat.le_trans (by decide) hd) e_q7) rfl ?_
        refine Ex.seg 3 (pc' := 85) (lc' := [some (.ref 55), some (.int x1), some (.int q3.1), some (.int v4), some (.int q6.1), some (.int q7.1), none]) (st' := [.int (-1), .int q7.1]) (h' := q7.2) (sg1 rfl rfl (sg1 rfl rfl (sg1 rfl rfl rfl))) ?_
        refine Ex.icmp rfl rfl (fun (c0 : ¬ (q7.1 = (-1))) => ?_) (fun (c0 : ¬ ¬ (q7.1 = (-1))) => ?_)
        · rw [if_neg c0] at hf
          refine Ex.seg 10 (pc' := 106) (lc' := [some (.ref 55), some (.int x1), some (.int q3.1), some (.int v4), some (.int q6.1), some (.int q7.1), none]) (st' := [.int q3.1, .int q6.1, .ref 56, .long 0, .int q7.1, .int 0, .int 5, .ref 34]) (h' := q7.2) (sg1 rfl rfl (sg1 rfl rfl (sg1 rfl rfl (sg1 rfl rfl (sg1 rfl rfl (sg1 rfl rfl (sg1 rfl rfl (sg1 rfl rfl (sg1 rfl rfl (sg1 rfl rfl rfl)))))))))) ?_
          obtain ⟨q8, e_q8, hf⟩ := bnd hf
          refine Ex.callV (a := 56) (As := [.int q6.1, .int q3.1]) (r := [.long 0, .int q7.1, .int 0, .int 5, .ref 34]) (v := some (.ref q8.1)) (h' := q8.2) rfl rfl (by decide) rfl (Nat.le_of_ble_eq_true rfl) rfl (E_141 (Nat.le_trans (by decide) hd) e_q8) rfl ?_
          obtain ⟨q9, e_q9, hf⟩ := bnd hf
          refine Ex.callV (a := 34) (As := [.int 5, .int 0, .int q7.1, .long 0, .ref q8.1]) (r := []) (v := some (.int q9.1)) (h' := q9.2) rfl rfl (by decide) rfl (Nat.le_of_ble_eq_true rfl) rfl (E_5 (Nat.le_trans (by decide) hd) e_q9) rfl ?_
          refine Ex.seg 2 (pc' := 116) (lc' := [some (.ref 55), some (.int x1), some (.int q3.1), some (.int v4), some (.int q6.1), some (.int q7.1), some (.int q9.1)]) (st' := [.int q9.1]) (h' := q9.2) (sg1 rfl rfl (sg1 rfl rfl rfl)) ?_
          refine Ex.ifc rfl rfl (fun (c0 : 0 ≤ q9.1) => ?_) (fun (c0 : ¬ (0 ≤ q9.1)) => ?_)
          · rw [if_pos c0] at hf
            refine Ex.seg 1 (pc' := 131) (lc' := [some (.ref 55), some (.int x1), some (.int q3.1), some (.int v4), some (.int q6.1), some (.int q7.1), some (.int q9.1)]) (st' := [.int q9.1]) (h' := q9.2) (sg1 rfl rfl rfl) ?_
            exact Ex.weak (sm_le_n (sm_le_n (sm_le_n (sm_le_n (sm_le_n (sm_le_n (sm_le_n sm_le_nil))))))) (B_195_131 hd  hf hs)
          · rw [if_neg c0] at hf
            refine Ex.seg 3 (pc' := 123) (lc' := [some (.ref 55), some (.int x1), some (.int q3.1), some (.int v4), some (.int q6.1), some (.int q7.1), some (.int q9.1)]) (st' := [.int x1, .int 8, .ref 55]) (h' := q9.2) (sg1 rfl rfl (sg1 rfl rfl (sg1 rfl rfl rfl))) ?_
            obtain ⟨q10, e_q10, hf⟩ := bnd hf
            refine Ex.callV (a := 55) (As := [.int 8, .int x1]) (r := []) (v := some (.int q10.1)) (h' := q10.2) rfl rfl (by decide) rfl (Nat.le_of_ble_eq_true rfl) rfl (E_169 (Nat.le_trans (by decide) hd) e_q10) rfl ?_
            refine Ex.seg 1 (pc' := 131) (lc' := [some (.ref 55), some (.int x1), some (.int q3.1), some (.int v4), some (.int q6.1), some (.int q7.1), some (.int q9.1)]) (st' := [.int q10.1]) (h' := q10.2) (sg1 rfl rfl rfl) ?_
            exact Ex.weak (sm_le_n (sm_le_n (sm_le_n (sm_le_n (sm_le_n (sm_le_n (sm_le_n sm_le_nil))))))) (B_195_131 hd  hf hs)
        · rw [if_pos (Classical.not_not.mp c0)] at hf
          refine Ex.seg 1 (pc' := 89) (lc' := [some (.ref 55), some (.int x1), some (.int q3.1), some (.int v4), some (.int q6.1), some (.int q7.1), none]) (st' := [.int (-1)]) (h' := q7.2) (sg1 rfl rfl rfl) ?_
          obtain rfl := Option.some.inj hf
          exact Ex.iret rfl rfl (fun c0 => by cases c0) hs
      · rw [if_neg c0] at hf
        refine Ex.seg 3 (pc' := 70) (lc' := [some (.ref 55), some (.int x1), some (.int q3.1), some (.int v4), some (.int q6.1), none, none]) (st' := [.int x1, .int 8, .ref 55]) (h' := q6.2) (sg1 rfl rfl (sg1 rfl rfl (sg1 rfl rfl rfl))) ?_
        obtain ⟨q11, e_q11, hf⟩ := bnd hf
        refine Ex.callV (a := 55) (As := [.int 8, .int x1]) (r := []) (v := some (.int q11.1)) (h' := q11.2) rfl rfl (by decide) rfl (Nat.le_of_ble_eq_true rfl) rfl (E_169 (Nat.le_trans (by decide) hd) e_q11) rfl ?_
        obtain rfl := Option.some.inj hf
        exact Ex.iret rfl rfl (fun c0 => by cases c0) hs
    · rw [if_neg c0] at hf
      exact Ex.weak (sm_le_s (sm_le_n (sm_le_n (sm_le_s (sm_le_s (sm_le_s (sm_le_s sm_le_nil))))))) (B_195_23 hd  hf hs)
theorem E_195 {L : Nat} {xs : Nat → Int32} {d : Nat} (hd : 6 ≤ d) {x1 : Int32} {h : sm_H} {r : Int32 × sm_H} (hf : F_195 x1 h = some r) : RUN L xs d 195 [.ref 55, .int x1] h (some (.int r.1), r.2) := by
  obtain ⟨d, rfl⟩ : ∃ e, d = e + 1 := ⟨d - 1, by omega⟩
  exact ⟨Nat.le_of_ble_eq_true rfl, B_195_0 (by omega) hf rfl⟩
theorem B_205_188 {L : Nat} {xs : Nat → Int32} {d : Nat} (hd : 7 ≤ d) {res : Option Value × sm_H} {z0 : Int32}  {h : sm_H} {r : (Int32 × sm_H)} (hf : F_205_188 z0 h = some r) (hs : (fun (r : Int32 × sm_H) => res = (some (.int r.1), r.2)) r) : Ex (P_G L xs) (RUN L xs d) (sm_lk P_t205) 0 188 [none, none, none, none, none, none, none] [.int z0] h res := by
  unfold F_205_188 at hf
  obtain rfl := Option.some.inj hf
  exact Ex.iret rfl rfl (fun c0 => by cases c0) hs
theorem B_205_109 {L : Nat} {xs : Nat → Int32} {d : Nat} (hd : 7 ≤ d) {res : Option Value × sm_H} {y1 : Int32} {y2 : Int32} {z1 : Int32} {z2 : Int32}  {h : sm_H} {r : (Int32 × sm_H)} (hf : F_205_109 y1 y2 z1 z2 h = some r) (hs : (fun (r : Int32 × sm_H) => res = (some (.int r.1), r.2)) r) : Ex (P_G L xs) (RUN L xs d) (sm_lk P_t205) 0 109 [some (.ref 55), some (.int y1), some (.int y2), none, none, none, none] [.int z2, .int z1, .ref 55] h res := by
  unfold F_205_109 at hf
  refine Ex.seg 1 (pc' := 110) (lc' := [some (.ref 55), some (.int y1), some (.int y2), none, none, none, none]) (st' := [.int y2, .int z2, .int z1, .ref 55]) (h' := h) (sg1 rfl rfl rfl) ?_
  obtain ⟨q1, e_q1, hf⟩ := bnd hf
  refine Ex.callV (a := 55) (As := [.int z1, .int z2, .int y2]) (r := []) (v := some (.int q1.1)) (h' := q1.2) rfl rfl (by decide) rfl (Nat.le_of_ble_eq_true rfl) rfl (E_190 (Nat.le_trans (by decide) hd) e_q1) rfl ?_
  refine Ex.ifc rfl rfl (fun (c0 : ¬ (q1.1 = 0)) => ?_) (fun (c0 : ¬ ¬ (q1.1 = 0)) => ?_)
  · rw [if_neg c0] at hf
    refine Ex.seg 4 (pc' := 124) (lc' := [some (.ref 55), some (.int y1), some (.int y2), none, none, none, none]) (st' := [.int y1, .ref 55, .ref 56]) (h' := q1.2) (sg1 rfl rfl (sg1 rfl rfl (sg1 rfl rfl (sg1 rfl rfl rfl)))) ?_
    obtain ⟨q2, e_q2, hf⟩ := bnd hf
    refine Ex.callV (a := 55) (As := [.int y1]) (r := [.ref 56]) (v := some (.int q2.1)) (h' := q2.2) rfl rfl (by decide) rfl (Nat.le_of_ble_eq_true rfl) rfl (E_187 (Nat.le_trans (by decide) hd) e_q2) rfl ?_
    refine Ex.seg 4 (pc' := 131) (lc' := [some (.ref 55), some (.int y1), some (.int y2), none, none, none, none]) (st' := [.int (y1 + 1), .ref 55, .int q2.1, .ref 56]) (h' := q2.2) (sg1 rfl rfl (sg1 rfl rfl (sg1 rfl rfl (sg1 rfl rfl rfl)))) ?_
    obtain ⟨q3, e_q3, hf⟩ := bnd hf
    refine Ex.callV (a := 55) (As := [.int (y1 + 1)]) (r := [.int q2.1, .ref 56]) (v := some (.int q3.1)) (h' := q3.2) rfl rfl (by decide) rfl (Nat.le_of_ble_eq_true rfl) rfl (E_187 (Nat.le_trans (by decide) hd) e_q3) rfl ?_
    obtain ⟨q4, e_q4, hf⟩ := bnd hf
    refine Ex.callV (a := 56) (As := [.int q2.1, .int q3.1]) (r := []) (v := some (.ref q4.1)) (h' := q4.2) rfl rfl (by decide) rfl (Nat.le_of_ble_eq_true rfl) rfl (E_141 (Nat.le_trans (by decide) hd) e_q4) rfl ?_
    refine Ex.seg 7 (pc' := 146) (lc' := [some (.ref 55), some (.int y1), some (.int y2), none, none, none, none]) (st' := [.int (y1 + 2), .ref 55, .ref 56]) (h' := q4.2) (sg1 rfl rfl (sg1 rfl rfl (sg1 rfl rfl (sg1 rfl rfl (sg1 rfl rfl (sg1 rfl rfl (sg1 rfl rfl rfl))))))) ?_
    obtain ⟨q5, e_q5, hf⟩ := bnd hf
    refine Ex.callV (a := 55) (As := [.int (y1 + 2)]) (r := [.ref 56]) (v := some (.int q5.1)) (h' := q5.2) rfl rfl (by decide) rfl (Nat.le_of_ble_eq_true rfl) rfl (E_187 (Nat.le_trans (by decide) hd) e_q5) rfl ?_
    obtain ⟨q6, e_q6, hf⟩ := bnd hf
    refine Ex.callV (a := 56) (As := [.int q5.1]) (r := []) (v := some (.int q6.1)) (h' := q6.2) rfl rfl (by decide) rfl (Nat.le_of_ble_eq_true rfl) rfl (E_139 (Nat.le_trans (by decide) hd) e_q6) rfl ?_
    refine Ex.seg 9 (pc' := 166) (lc' := [some (.ref 55), some (.int y1), some (.int y2), none, none, none, none]) (st' := [.ref 56, .long 0, .int 0, .int 0, .int 14, .ref 34]) (h' := q6.2) (sg1 rfl rfl (sg1 rfl rfl (sg1 rfl rfl (sg1 rfl rfl (sg1 rfl rfl (sg1 rfl rfl (sg1 rfl rfl (sg1 rfl rfl (sg1 rfl rfl rfl))))))))) ?_
    obtain ⟨q7, e_q7, hf⟩ := bnd hf
    refine Ex.callV (a := 34) (As := [.int 14, .int 0, .int 0, .long 0, .ref 56]) (r := []) (v := some (.int q7.1)) (h' := q7.2) rfl rfl (by decide) rfl (Nat.le_of_ble_eq_true rfl) rfl (E_5 (Nat.le_trans (by decide) hd) e_q7) rfl ?_
    refine Ex.seg 2 (pc' := 173) (lc' := [some (.ref 55), some (.int y1), some (.int y2), none, none, none, some (.int q7.1)]) (st' := [.int q7.1]) (h' := q7.2) (sg1 rfl rfl (sg1 rfl rfl rfl)) ?_
    refine Ex.ifc rfl rfl (fun (c0 : 0 ≤ q7.1) => ?_) (fun (c0 : ¬ (0 ≤ q7.1)) => ?_)
    · rw [if_pos c0] at hf
      refine Ex.seg 1 (pc' := 188) (lc' := [some (.ref 55), some (.int y1), some (.int y2), none, none, none, some (.int q7.1)]) (st' := [.int q7.1]) (h' := q7.2) (sg1 rfl rfl rfl) ?_
      exact Ex.weak (sm_le_n (sm_le_n (sm_le_n (sm_le_s (sm_le_s (sm_le_s (sm_le_n sm_le_nil))))))) (B_205_188 hd  hf hs)
    · rw [if_neg c0] at hf
      refine Ex.seg 3 (pc' := 180) (lc' := [some (.ref 55), some (.int y1), some (.int y2), none, none, none, some (.int q7.1)]) (st' := [.int y2, .int 8, .ref 55]) (h' := q7.2) (sg1 rfl rfl (sg1 rfl rfl (sg1 rfl rfl rfl))) ?_
      obtain ⟨q8, e_q8, hf⟩ := bnd hf
      refine Ex.callV (a := 55) (As := [.int 8, .int y2]) (r := []) (v := some (.int q8.1)) (h' := q8.2) rfl rfl (by decide) rfl (Nat.le_of_ble_eq_true rfl) rfl (E_169 (Nat.le_trans (by decide) hd) e_q8) rfl ?_
      refine Ex.seg 1 (pc' := 188) (lc' := [some (.ref 55), some (.int y1), some (.int y2), none, none, none, some (.int q7.1)]) (st' := [.int q8.1]) (h' := q8.2) (sg1 rfl rfl rfl) ?_
      exact Ex.weak (sm_le_n (sm_le_n (sm_le_n (sm_le_s (sm_le_s (sm_le_s (sm_le_n sm_le_nil))))))) (B_205_188 hd  hf hs)
  · rw [if_pos (Classical.not_not.mp c0)] at hf
    refine Ex.seg 1 (pc' := 117) (lc' := [some (.ref 55), some (.int y1), some (.int y2), none, none, none, none]) (st' := [.int (-1)]) (h' := q1.2) (sg1 rfl rfl rfl) ?_
    obtain rfl := Option.some.inj hf
    exact Ex.iret rfl rfl (fun c0 => by cases c0) hs
theorem B_205_98 {L : Nat} {xs : Nat → Int32} {d : Nat} (hd : 7 ≤ d) {res : Option Value × sm_H} {y1 : Int32} {y2 : Int32} {y3 : Int32} {y4 : Int32} {y5 : Int32} {z1 : Int32}  {h : sm_H} {r : (Int32 × sm_H)} (hf : F_205_98 y1 y2 y3 y4 y5 z1 h = some r) (hs : (fun (r : Int32 × sm_H) => res = (some (.int r.1), r.2)) r) : Ex (P_G L xs) (RUN L xs d) (sm_lk P_t205) 0 98 [some (.ref 55), some (.int y1), some (.int y2), some (.int y3), some (.int y4), some (.int y5), none] [.int z1, .ref 55] h res := by
  unfold F_205_98 at hf
  refine Ex.seg 1 (pc' := 100) (lc' := [some (.ref 55), some (.int y1), some (.int y2), some (.int y3), some (.int y4), some (.int y5), none]) (st' := [.int y5, .int z1, .ref 55]) (h' := h) (sg1 rfl rfl rfl) ?_
  refine Ex.ifc rfl rfl (fun (c0 : y5 = 0) => ?_) (fun (c0 : ¬ (y5 = 0)) => ?_)
  · rw [if_pos c0] at hf
    refine Ex.seg 1 (pc' := 109) (lc' := [some (.ref 55), some (.int y1), some (.int y2), some (.int y3), some (.int y4), some (.int y5), none]) (st' := [.int y4, .int z1, .ref 55]) (h' := h) (sg1 rfl rfl rfl) ?_
    exact Ex.weak (sm_le_s (sm_le_s (sm_le_s (sm_le_n (sm_le_n (sm_le_n (sm_le_s sm_le_nil))))))) (B_205_109 hd  hf hs)
  · rw [if_neg c0] at hf
    refine Ex.seg 2 (pc' := 109) (lc' := [some (.ref 55), some (.int y1), some (.int y2), some (.int y3), some (.int y4), some (.int y5), none]) (st' := [.int y3, .int z1, .ref 55]) (h' := h) (sg1 rfl rfl (sg1 rfl rfl rfl)) ?_
    exact Ex.weak (sm_le_s (sm_le_s (sm_le_s (sm_le_n (sm_le_n (sm_le_n (sm_le_s sm_le_nil))))))) (B_205_109 hd  hf hs)
theorem B_205_83 {L : Nat} {xs : Nat → Int32} {d : Nat} (hd : 7 ≤ d) {res : Option Value × sm_H} {y1 : Int32} {y2 : Int32} {y3 : Int32} {y4 : Int32} {y5 : Int32}  {h : sm_H} {r : (Int32 × sm_H)} (hf : F_205_83 y1 y2 y3 y4 y5 h = some r) (hs : (fun (r : Int32 × sm_H) => res = (some (.int r.1), r.2)) r) : Ex (P_G L xs) (RUN L xs d) (sm_lk P_t205) 0 83 [some (.ref 55), some (.int y1), some (.int y2), some (.int y3), some (.int y4), some (.int y5), none] [] h res := by
  unfold F_205_83 at hf
  refine Ex.seg 2 (pc' := 86) (lc' := [some (.ref 55), some (.int y1), some (.int y2), some (.int y3), some (.int y4), some (.int y5), none]) (st' := [.int y5, .ref 55]) (h' := h) (sg1 rfl rfl (sg1 rfl rfl rfl)) ?_
  refine Ex.ifc rfl rfl (fun (c0 : y5 = 0) => ?_) (fun (c0 : ¬ (y5 = 0)) => ?_)
  · rw [if_pos c0] at hf
    refine Ex.seg 3 (pc' := 98) (lc' := [some (.ref 55), some (.int y1), some (.int y2), some (.int y3), some (.int y4), some (.int y5), none]) (st' := [.int (y1 + 1), .ref 55]) (h' := h) (sg1 rfl rfl (sg1 rfl rfl (sg1 rfl rfl rfl))) ?_
    exact Ex.weak (sm_le_s (sm_le_s (sm_le_s (sm_le_s (sm_le_s (sm_le_s (sm_le_s sm_le_nil))))))) (B_205_98 hd  hf hs)
  · rw [if_neg c0] at hf
    refine Ex.seg 4 (pc' := 98) (lc' := [some (.ref 55), some (.int y1), some (.int y2), some (.int y3), some (.int y4), some (.int y5), none]) (st' := [.int (y1 + 2), .ref 55]) (h' := h) (sg1 rfl rfl (sg1 rfl rfl (sg1 rfl rfl (sg1 rfl rfl rfl)))) ?_
    exact Ex.weak (sm_le_s (sm_le_s (sm_le_s (sm_le_s (sm_le_s (sm_le_s (sm_le_s sm_le_nil))))))) (B_205_98 hd  hf hs)
theorem B_205_54 {L : Nat} {xs : Nat → Int32} {d : Nat} (hd : 7 ≤ d) {res : Option Value × sm_H} {y1 : Int32} {y2 : Int32} {y3 : Int32} {y4 : Int32} {z0 : Int32}  {h : sm_H} {r : (Int32 × sm_H)} (hf : F_205_54 y1 y2 y3 y4 z0 h = some r) (hs : (fun (r : Int32 × sm_H) => res = (some (.int r.1), r.2)) r) : Ex (P_G L xs) (RUN L xs d) (sm_lk P_t205) 0 54 [some (.ref 55), some (.int y1), some (.int y2), some (.int y3), some (.int y4), none, none] [.int z0] h res := by
  unfold F_205_54 at hf
  refine Ex.seg 2 (pc' := 58) (lc' := [some (.ref 55), some (.int y1), some (.int y2), some (.int y3), some (.int y4), some (.int z0), none]) (st' := [.int z0]) (h' := h) (sg1 rfl rfl (sg1 rfl rfl rfl)) ?_
  refine Ex.ifc rfl rfl (fun (c0 : ¬ (z0 = 0)) => ?_) (fun (c0 : ¬ ¬ (z0 = 0)) => ?_)
  · rw [if_neg c0] at hf
    exact Ex.weak (sm_le_s (sm_le_s (sm_le_s (sm_le_s (sm_le_s (sm_le_s (sm_le_s sm_le_nil))))))) (B_205_83 hd  hf hs)
  · rw [if_pos (Classical.not_not.mp c0)] at hf
    refine Ex.seg 5 (pc' := 69) (lc' := [some (.ref 55), some (.int y1), some (.int y2), some (.int y3), some (.int y4), some (.int z0), none]) (st' := [.int 0, .int y4, .int y3, .ref 1]) (h' := h) (sg1 rfl rfl (sg1 rfl rfl (sg1 rfl rfl (sg1 rfl rfl (sg1 rfl rfl rfl))))) ?_
    obtain ⟨q9, e_q9, hf⟩ := bnd hf
    refine Ex.callV (a := 1) (As := [.int y3, .int y4, .int 0]) (r := []) (v := some (.int q9.1)) (h' := q9.2) rfl rfl (by decide) rfl (Nat.le_of_ble_eq_true rfl) rfl (E_64 (Nat.le_trans (by decide) hd) e_q9) rfl ?_
    refine Ex.ifc rfl rfl (fun (c0 : ¬ (q9.1 = 0)) => ?_) (fun (c0 : ¬ ¬ (q9.1 = 0)) => ?_)
    · rw [if_neg c0] at hf
      exact Ex.weak (sm_le_s (sm_le_s (sm_le_s (sm_le_s (sm_le_s (sm_le_s (sm_le_s sm_le_nil))))))) (B_205_83 hd  hf hs)
    · rw [if_pos (Classical.not_not.mp c0)] at hf
      refine Ex.seg 3 (pc' := 79) (lc' := [some (.ref 55), some (.int y1), some (.int y2), some (.int y3), some (.int y4), some (.int z0), none]) (st' := [.int y2, .int 7, .ref 55]) (h' := q9.2) (sg1 rfl rfl (sg1 rfl rfl (sg1 rfl rfl rfl))) ?_
      obtain ⟨q10, e_q10, hf⟩ := bnd hf
      refine Ex.callV (a := 55) (As := [.int 7, .int y2]) (r := []) (v := some (.int q10.1)) (h' := q10.2) rfl rfl (by decide) rfl (Nat.le_of_ble_eq_true rfl) rfl (E_169 (Nat.le_trans (by decide) hd) e_q10) rfl ?_
      obtain rfl := Option.some.inj hf
      exact Ex.iret rfl rfl (fun c0 => by cases c0) hs
theorem B_205_49 {L : Nat} {xs : Nat → Int32} {d : Nat} (hd : 7 ≤ d) {res : Option Value × sm_H} {y1 : Int32} {y2 : Int32} {y3 : Int32} {y4 : Int32}  {h : sm_H} {r : (Int32 × sm_H)} (hf : F_205_49 y1 y2 y3 y4 h = some r) (hs : (fun (r : Int32 × sm_H) => res = (some (.int r.1), r.2)) r) : Ex (P_G L xs) (RUN L xs d) (sm_lk P_t205) 0 49 [some (.ref 55), some (.int y1), some (.int y2), some (.int y3), some (.int y4), none, none] [] h res := by
  unfold F_205_49 at hf
  refine Ex.seg 2 (pc' := 54) (lc' := [some (.ref 55), some (.int y1), some (.int y2), some (.int y3), some (.int y4), none, none]) (st' := [.int 1]) (h' := h) (sg1 rfl rfl (sg1 rfl rfl rfl)) ?_
  exact Ex.weak (sm_le_s (sm_le_s (sm_le_s (sm_le_s (sm_le_s (sm_le_s (sm_le_s sm_le_nil))))))) (B_205_54 hd  hf hs)
theorem B_205_0 {L : Nat} {xs : Nat → Int32} {d : Nat} (hd : 7 ≤ d) {res : Option Value × sm_H} {x1 : Int32} {x2 : Int32}  {h : sm_H} {r : (Int32 × sm_H)} (hf : F_205_0 x1 x2 h = some r) (hs : (fun (r : Int32 × sm_H) => res = (some (.int r.1), r.2)) r) : Ex (P_G L xs) (RUN L xs d) (sm_lk P_t205) 0 0 [some (.ref 55), some (.int x1), some (.int x2), none, none, none, none] [] h res := by
  unfold F_205_0 at hf
  refine Ex.seg 4 (pc' := 4) (lc' := [some (.ref 55), some (.int x1), some (.int x2), none, none, none, none]) (st' := [.int x2, .int 1, .int x1, .ref 55]) (h' := h) (sg1 rfl rfl (sg1 rfl rfl (sg1 rfl rfl (sg1 rfl rfl rfl)))) ?_
  obtain ⟨q11, e_q11, hf⟩ := bnd hf
  refine Ex.callV (a := 55) (As := [.int x1, .int 1, .int x2]) (r := []) (v := some (.int q11.1)) (h' := q11.2) rfl rfl (by decide) rfl (Nat.le_of_ble_eq_true rfl) rfl (E_190 (Nat.le_trans (by decide) hd) e_q11) rfl ?_
  refine Ex.ifc rfl rfl (fun (c0 : ¬ (q11.1 = 0)) => ?_) (fun (c0 : ¬ ¬ (q11.1 = 0)) => ?_)
  · rw [if_neg c0] at hf
    refine Ex.seg 4 (pc' := 16) (lc' := [some (.ref 55), some (.int x1), some (.int x2), none, none, none, none]) (st' := [.int (x1 + 1), .ref 55]) (h' := q11.2) (sg1 rfl rfl (sg1 rfl rfl (sg1 rfl rfl (sg1 rfl rfl rfl)))) ?_
    obtain ⟨q12, e_q12, hf⟩ := bnd hf
    refine Ex.callV (a := 55) (As := [.int (x1 + 1)]) (r := []) (v := some (.int q12.1)) (h' := q12.2) rfl rfl (by decide) rfl (Nat.le_of_ble_eq_true rfl) rfl (E_189 (Nat.le_trans (by decide) hd) e_q12) rfl ?_
    refine Ex.seg 5 (pc' := 24) (lc' := [some (.ref 55), some (.int x1), some (.int x2), some (.int q12.1), none, none, none]) (st' := [.int (x1 + 2), .ref 55]) (h' := q12.2) (sg1 rfl rfl (sg1 rfl rfl (sg1 rfl rfl (sg1 rfl rfl (sg1 rfl rfl rfl))))) ?_
    obtain ⟨q13, e_q13, hf⟩ := bnd hf
    refine Ex.callV (a := 55) (As := [.int (x1 + 2)]) (r := []) (v := some (.int q13.1)) (h' := q13.2) rfl rfl (by decide) rfl (Nat.le_of_ble_eq_true rfl) rfl (E_189 (Nat.le_trans (by decide) hd) e_q13) rfl ?_
    refine Ex.seg 3 (pc' := 32) (lc' := [some (.ref 55), some (.int x1), some (.int x2), some (.int q12.1), some (.int q13.1), none, none]) (st' := [.int q13.1, .int q12.1]) (h' := q13.2) (sg1 rfl rfl (sg1 rfl rfl (sg1 rfl rfl rfl))) ?_
    refine Ex.icmp rfl rfl (fun (c0 : q12.1 = q13.1) => ?_) (fun (c0 : ¬ (q12.1 = q13.1)) => ?_)
    · rw [if_pos c0] at hf
      exact Ex.weak (sm_le_s (sm_le_s (sm_le_s (sm_le_s (sm_le_s (sm_le_s (sm_le_s sm_le_nil))))))) (B_205_49 hd  hf hs)
    · rw [if_neg c0] at hf
      refine Ex.seg 5 (pc' := 43) (lc' := [some (.ref 55), some (.int x1), some (.int x2), some (.int q12.1), some (.int q13.1), none, none]) (st' := [.int 0, .int q12.1, .int q13.1, .ref 1]) (h' := q13.2) (sg1 rfl rfl (sg1 rfl rfl (sg1 rfl rfl (sg1 rfl rfl (sg1 rfl rfl rfl))))) ?_
      obtain ⟨q14, e_q14, hf⟩ := bnd hf
      refine Ex.callV (a := 1) (As := [.int q13.1, .int q12.1, .int 0]) (r := []) (v := some (.int q14.1)) (h' := q14.2) rfl rfl (by decide) rfl (Nat.le_of_ble_eq_true rfl) rfl (E_64 (Nat.le_trans (by decide) hd) e_q14) rfl ?_
      refine Ex.ifc rfl rfl (fun (c0 : q14.1 = 0) => ?_) (fun (c0 : ¬ (q14.1 = 0)) => ?_)
      · rw [if_pos c0] at hf
        refine Ex.seg 1 (pc' := 54) (lc' := [some (.ref 55), some (.int x1), some (.int x2), some (.int q12.1), some (.int q13.1), none, none]) (st' := [.int 0]) (h' := q14.2) (sg1 rfl rfl rfl) ?_
        exact Ex.weak (sm_le_s (sm_le_s (sm_le_s (sm_le_s (sm_le_s (sm_le_s (sm_le_s sm_le_nil))))))) (B_205_54 hd  hf hs)
      · rw [if_neg c0] at hf
        exact Ex.weak (sm_le_s (sm_le_s (sm_le_s (sm_le_s (sm_le_s (sm_le_s (sm_le_s sm_le_nil))))))) (B_205_49 hd  hf hs)
  · rw [if_pos (Classical.not_not.mp c0)] at hf
    refine Ex.seg 1 (pc' := 11) (lc' := [some (.ref 55), some (.int x1), some (.int x2), none, none, none, none]) (st' := [.int (-1)]) (h' := q11.2) (sg1 rfl rfl rfl) ?_
    obtain rfl := Option.some.inj hf
    exact Ex.iret rfl rfl (fun c0 => by cases c0) hs
theorem E_205 {L : Nat} {xs : Nat → Int32} {d : Nat} (hd : 8 ≤ d) {x1 : Int32} {x2 : Int32} {h : sm_H} {r : Int32 × sm_H} (hf : F_205 x1 x2 h = some r) : RUN L xs d 205 [.ref 55, .int x1, .int x2] h (some (.int r.1), r.2) := by
  obtain ⟨d, rfl⟩ : ∃ e, d = e + 1 := ⟨d - 1, by omega⟩
  exact ⟨Nat.le_of_ble_eq_true rfl, B_205_0 (by omega) hf rfl⟩
theorem B_206_40 {L : Nat} {xs : Nat → Int32} {d : Nat} (hd : 5 ≤ d) {res : Option Value × sm_H} {z0 : Int32}  {h : sm_H} {r : (Int32 × sm_H)} (hf : F_206_40 z0 h = some r) (hs : (fun (r : Int32 × sm_H) => res = (some (.int r.1), r.2)) r) : Ex (P_G L xs) (RUN L xs d) (sm_lk P_t206) 0 40 [none, none, none, none, none] [.int z0] h res := by
  unfold F_206_40 at hf
  obtain rfl := Option.some.inj hf
  exact Ex.iret rfl rfl (fun c0 => by cases c0) hs
theorem B_206_0 {L : Nat} {xs : Nat → Int32} {d : Nat} (hd : 5 ≤ d) {res : Option Value × sm_H} {x1 : Int32} {x2 : Int32} {x3 : Int32}  {h : sm_H} {r : (Int32 × sm_H)} (hf : F_206_0 x1 x2 x3 h = some r) (hs : (fun (r : Int32 × sm_H) => res = (some (.int r.1), r.2)) r) : Ex (P_G L xs) (RUN L xs d) (sm_lk P_t206) 0 0 [some (.ref 55), some (.int x1), some (.int x2), some (.int x3), none] [] h res := by
  unfold F_206_0 at hf
  refine Ex.seg 10 (pc' := 15) (lc' := [some (.ref 55), some (.int x1), some (.int x2), some (.int x3), none]) (st' := [.int x2, .int x1, .ref 56, .long 0, .int 0, .int 0, .int 8, .ref 34]) (h' := h) (sg1 rfl rfl (sg1 rfl rfl (sg1 rfl rfl (sg1 rfl rfl (sg1 rfl rfl (sg1 rfl rfl (sg1 rfl rfl (sg1 rfl rfl (sg1 rfl rfl (sg1 rfl rfl rfl)))))))))) ?_
  obtain ⟨q1, e_q1, hf⟩ := bnd hf
  refine Ex.callV (a := 56) (As := [.int x1, .int x2]) (r := [.long 0, .int 0, .int 0, .int 8, .ref 34]) (v := some (.ref q1.1)) (h' := q1.2) rfl rfl (by decide) rfl (Nat.le_of_ble_eq_true rfl) rfl (E_141 (Nat.le_trans (by decide) hd) e_q1) rfl ?_
  obtain ⟨q2, e_q2, hf⟩ := bnd hf
  refine Ex.callV (a := 34) (As := [.int 8, .int 0, .int 0, .long 0, .ref q1.1]) (r := []) (v := some (.int q2.1)) (h' := q2.2) rfl rfl (by decide) rfl (Nat.le_of_ble_eq_true rfl) rfl (E_5 (Nat.le_trans (by decide) hd) e_q2) rfl ?_
  refine Ex.seg 2 (pc' := 25) (lc' := [some (.ref 55), some (.int x1), some (.int x2), some (.int x3), some (.int q2.1)]) (st' := [.int q2.1]) (h' := q2.2) (sg1 rfl rfl (sg1 rfl rfl rfl)) ?_
  refine Ex.ifc rfl rfl (fun (c0 : 0 ≤ q2.1) => ?_) (fun (c0 : ¬ (0 ≤ q2.1)) => ?_)
  · rw [if_pos c0] at hf
    refine Ex.seg 1 (pc' := 40) (lc' := [some (.ref 55), some (.int x1), some (.int x2), some (.int x3), some (.int q2.1)]) (st' := [.int q2.1]) (h' := q2.2) (sg1 rfl rfl rfl) ?_
    exact Ex.weak (sm_le_n (sm_le_n (sm_le_n (sm_le_n (sm_le_n sm_le_nil))))) (B_206_40 hd  hf hs)
  · rw [if_neg c0] at hf
    refine Ex.seg 3 (pc' := 32) (lc' := [some (.ref 55), some (.int x1), some (.int x2), some (.int x3), some (.int q2.1)]) (st' := [.int x3, .int 8, .ref 55]) (h' := q2.2) (sg1 rfl rfl (sg1 rfl rfl (sg1 rfl rfl rfl))) ?_
    obtain ⟨q3, e_q3, hf⟩ := bnd hf
    refine Ex.callV (a := 55) (As := [.int 8, .int x3]) (r := []) (v := some (.int q3.1)) (h' := q3.2) rfl rfl (by decide) rfl (Nat.le_of_ble_eq_true rfl) rfl (E_169 (Nat.le_trans (by decide) hd) e_q3) rfl ?_
    refine Ex.seg 1 (pc' := 40) (lc' := [some (.ref 55), some (.int x1), some (.int x2), some (.int x3), some (.int q2.1)]) (st' := [.int q3.1]) (h' := q3.2) (sg1 rfl rfl rfl) ?_
    exact Ex.weak (sm_le_n (sm_le_n (sm_le_n (sm_le_n (sm_le_n sm_le_nil))))) (B_206_40 hd  hf hs)
theorem E_206 {L : Nat} {xs : Nat → Int32} {d : Nat} (hd : 6 ≤ d) {x1 : Int32} {x2 : Int32} {x3 : Int32} {h : sm_H} {r : Int32 × sm_H} (hf : F_206 x1 x2 x3 h = some r) : RUN L xs d 206 [.ref 55, .int x1, .int x2, .int x3] h (some (.int r.1), r.2) := by
  obtain ⟨d, rfl⟩ : ∃ e, d = e + 1 := ⟨d - 1, by omega⟩
  exact ⟨Nat.le_of_ble_eq_true rfl, B_206_0 (by omega) hf rfl⟩
theorem B_263_0 {L : Nat} {xs : Nat → Int32} {d : Nat} (hd : 5 ≤ d) {res : Option Value × sm_H} {x1 : Int32} {x2 : Int32} {x3 : Int32} {x4 : Int64}  {h : sm_H} {r : (Int32 × sm_H)} (hf : F_263_0 x1 x2 x3 x4 h = some r) (hs : (fun (r : Int32 × sm_H) => res = (some (.int r.1), r.2)) r) : Ex (P_G L xs) (RUN L xs d) (sm_lk P_t263) 0 0 [some (.ref 0), some (.int x1), some (.int x2), some (.int x3), some (.long x4), none, none] [] h res := by
  unfold F_263_0 at hf
  refine Ex.seg 9 (pc' := 14) (lc' := [some (.ref 0), some (.int x1), some (.int x2), some (.int x3), some (.long x4), none, none]) (st' := [.ref 64, .long x4, .int x3, .int x2, .int x1, .ref 34, .ref 0]) (h' := h) (sg1 rfl rfl (sg1 rfl rfl (sg1 rfl rfl (sg1 rfl rfl (sg1 rfl rfl (sg1 rfl rfl (sg1 rfl rfl (sg1 rfl rfl (sg1 rfl rfl rfl))))))))) ?_
  obtain ⟨q1, e_q1, hf⟩ := bnd hf
  refine Ex.callV (a := 34) (As := [.int x1, .int x2, .int x3, .long x4, .ref 64]) (r := [.ref 0]) (v := some (.int q1.1)) (h' := q1.2) rfl rfl (by decide) rfl (Nat.le_of_ble_eq_true rfl) rfl (E_5 (Nat.le_trans (by decide) hd) e_q1) rfl ?_
  obtain ⟨q2, e_q2, hf⟩ := bnd hf
  refine Ex.callV (a := 0) (As := [.int q1.1]) (r := []) (v := some (.int q2.1)) (h' := q2.2) rfl rfl (by decide) rfl (Nat.le_of_ble_eq_true rfl) rfl (E_264 (Nat.le_trans (by decide) hd) e_q2) rfl ?_
  refine Ex.seg 3 (pc' := 26) (lc' := [some (.ref 0), some (.int x1), some (.int x2), some (.int x3), some (.long x4), none, some (.int q2.1)]) (st' := [.ref 64]) (h' := q2.2) (sg1 rfl rfl (sg1 rfl rfl (sg1 rfl rfl rfl))) ?_
  obtain ⟨q3, e_q3, hf⟩ := bnd hf
  refine Ex.callV (a := 64) (As := []) (r := []) (v := none) (h' := q3) rfl rfl (by decide) rfl (Nat.le_of_ble_eq_true rfl) rfl (E_138 (Nat.le_trans (by decide) hd) e_q3) rfl ?_
  refine Ex.seg 1 (pc' := 31) (lc' := [some (.ref 0), some (.int x1), some (.int x2), some (.int x3), some (.long x4), none, some (.int q2.1)]) (st' := [.int q2.1]) (h' := q3) (sg1 rfl rfl rfl) ?_
  obtain rfl := Option.some.inj hf
  exact Ex.iret rfl rfl (fun c0 => by cases c0) hs
theorem E_263 {L : Nat} {xs : Nat → Int32} {d : Nat} (hd : 6 ≤ d) {x1 : Int32} {x2 : Int32} {x3 : Int32} {x4 : Int64} {h : sm_H} {r : Int32 × sm_H} (hf : F_263 x1 x2 x3 x4 h = some r) : RUN L xs d 263 [.ref 0, .int x1, .int x2, .int x3, .long x4] h (some (.int r.1), r.2) := by
  obtain ⟨d, rfl⟩ : ∃ e, d = e + 1 := ⟨d - 1, by omega⟩
  exact ⟨Nat.le_of_ble_eq_true rfl, B_263_0 (by omega) hf rfl⟩
theorem B_118_144 {L : Nat} {xs : Nat → Int32} {d : Nat} (hd : 6 ≤ d) {res : Option Value × sm_H} {y1 : Int32} {y2 : Int32} {y5 : Int32} {y6 : Int32}  {h : sm_H} {r : (Int32 × sm_H)} (hf : F_118_144 y1 y2 y5 y6 h = some r) (hs : (fun (r : Int32 × sm_H) => res = (some (.int r.1), r.2)) r) : Ex (P_G L xs) (RUN L xs d) (sm_lk P_t118) 0 144 [some (.ref 38), some (.int y1), some (.int y2), none, none, some (.int y5), some (.int y6)] [] h res := by
  unfold F_118_144 at hf
  refine Ex.seg 5 (pc' := 151) (lc' := [some (.ref 38), some (.int y1), some (.int y2), none, none, some (.int y5), some (.int y6)]) (st' := [.int y5, .int y6, .int y2, .int y1, .ref 38]) (h' := h) (sg1 rfl rfl (sg1 rfl rfl (sg1 rfl rfl (sg1 rfl rfl (sg1 rfl rfl rfl))))) ?_
  obtain ⟨q1, e_q1, hf⟩ := bnd hf
  refine Ex.callV (a := 38) (As := [.int y1, .int y2, .int y6, .int y5]) (r := []) (v := some (.int q1.1)) (h' := q1.2) rfl rfl (by decide) rfl (Nat.le_of_ble_eq_true rfl) rfl (E_124 (Nat.le_trans (by decide) hd) e_q1) rfl ?_
  obtain rfl := Option.some.inj hf
  exact Ex.iret rfl rfl (fun c0 => by cases c0) hs
theorem B_118_141 {L : Nat} {xs : Nat → Int32} {d : Nat} (hd : 6 ≤ d) {res : Option Value × sm_H}   {h : sm_H} {r : (Int32 × sm_H)} (hf : F_118_141  h = some r) (hs : (fun (r : Int32 × sm_H) => res = (some (.int r.1), r.2)) r) : Ex (P_G L xs) (RUN L xs d) (sm_lk P_t118) 0 141 [none, none, none, none, none, none, none] [] h res := by
  unfold F_118_141 at hf
  refine Ex.seg 1 (pc' := 143) (lc' := [none, none, none, none, none, none, none]) (st' := [.int (-7)]) (h' := h) (sg1 rfl rfl rfl) ?_
  obtain rfl := Option.some.inj hf
  exact Ex.iret rfl rfl (fun c0 => by cases c0) hs
theorem B_118_113 {L : Nat} {xs : Nat → Int32} {d : Nat} (hd : 6 ≤ d) {res : Option Value × sm_H} {y1 : Int32} {y2 : Int32} {y5 : Int32} {y6 : Int32}  {h : sm_H} {r : (Int32 × sm_H)} (hf : F_118_113 y1 y2 y5 y6 h = some r) (hs : (fun (r : Int32 × sm_H) => res = (some (.int r.1), r.2)) r) : Ex (P_G L xs) (RUN L xs d) (sm_lk P_t118) 0 113 [some (.ref 38), some (.int y1), some (.int y2), none, none, some (.int y5), some (.int y6)] [] h res := by
  unfold F_118_113 at hf
  refine Ex.seg 3 (pc' := 117) (lc' := [some (.ref 38), some (.int y1), some (.int y2), none, none, some (.int y5), some (.int y6)]) (st' := [.int y6, .int y1, .ref 38]) (h' := h) (sg1 rfl rfl (sg1 rfl rfl (sg1 rfl rfl rfl))) ?_
  obtain ⟨q2, e_q2, hf⟩ := bnd hf
  refine Ex.callV (a := 38) (As := [.int y1, .int y6]) (r := []) (v := some (.int q2.1)) (h' := q2.2) rfl rfl (by decide) rfl (Nat.le_of_ble_eq_true rfl) rfl (E_123 (Nat.le_trans (by decide) hd) e_q2) rfl ?_
  refine Ex.ifc rfl rfl (fun (c0 : q2.1 = 0) => ?_) (fun (c0 : ¬ (q2.1 = 0)) => ?_)
  · rw [if_pos c0] at hf
    exact Ex.weak (sm_le_n (sm_le_n (sm_le_n (sm_le_s (sm_le_s (sm_le_n (sm_le_n sm_le_nil))))))) (B_118_141 hd  hf hs)
  · rw [if_neg c0] at hf
    refine Ex.seg 2 (pc' := 126) (lc' := [some (.ref 38), some (.int y1), some (.int y2), none, none, some (.int y5), some (.int y6)]) (st' := [.int 2, .int y5]) (h' := q2.2) (sg1 rfl rfl (sg1 rfl rfl rfl)) ?_
    refine Ex.icmp rfl rfl (fun (c0 : ¬ (y5 = 2)) => ?_) (fun (c0 : ¬ ¬ (y5 = 2)) => ?_)
    · rw [if_neg c0] at hf
      exact Ex.weak (sm_le_s (sm_le_s (sm_le_s (sm_le_s (sm_le_s (sm_le_s (sm_le_s sm_le_nil))))))) (B_118_144 hd  hf hs)
    · rw [if_pos (Classical.not_not.mp c0)] at hf
      refine Ex.seg 4 (pc' := 135) (lc' := [some (.ref 38), some (.int y1), some (.int y2), none, none, some (.int y5), some (.int y6)]) (st' := [.int y2, .int y1, .ref 1]) (h' := q2.2) (sg1 rfl rfl (sg1 rfl rfl (sg1 rfl rfl (sg1 rfl rfl rfl)))) ?_
      obtain ⟨q3, e_q3, hf⟩ := bnd hf
      refine Ex.callV (a := 1) (As := [.int y1, .int y2]) (r := []) (v := some (.int q3.1)) (h' := q3.2) rfl rfl (by decide) rfl (Nat.le_of_ble_eq_true rfl) rfl (E_60 (Nat.le_trans (by decide) hd) e_q3) rfl ?_
      refine Ex.ifc rfl rfl (fun (c0 : ¬ (q3.1 = 0)) => ?_) (fun (c0 : ¬ ¬ (q3.1 = 0)) => ?_)
      · rw [if_neg c0] at hf
        exact Ex.weak (sm_le_s (sm_le_s (sm_le_s (sm_le_s (sm_le_s (sm_le_s (sm_le_s sm_le_nil))))))) (B_118_144 hd  hf hs)
      · rw [if_pos (Classical.not_not.mp c0)] at hf
        exact Ex.weak (sm_le_n (sm_le_n (sm_le_n (sm_le_s (sm_le_s (sm_le_n (sm_le_n sm_le_nil))))))) (B_118_141 hd  hf hs)
theorem B_118_66 {L : Nat} {xs : Nat → Int32} {d : Nat} (hd : 6 ≤ d) {res : Option Value × sm_H}   {h : sm_H} {r : (Int32 × sm_H)} (hf : F_118_66  h = some r) (hs : (fun (r : Int32 × sm_H) => res = (some (.int r.1), r.2)) r) : Ex (P_G L xs) (RUN L xs d) (sm_lk P_t118) 0 66 [none, none, none, none, none, none, none] [] h res := by
  unfold F_118_66 at hf
  refine Ex.seg 1 (pc' := 68) (lc' := [none, none, none, none, none, none, none]) (st' := [.int (-2)]) (h' := h) (sg1 rfl rfl rfl) ?_
  obtain rfl := Option.some.inj hf
  exact Ex.iret rfl rfl (fun c0 => by cases c0) hs
theorem B_118_56 {L : Nat} {xs : Nat → Int32} {d : Nat} (hd : 6 ≤ d) {res : Option Value × sm_H} {y1 : Int32} {y2 : Int32} {y3 : Int32} {y4 : Int32} {y5 : Int32}  {h : sm_H} {r : (Int32 × sm_H)} (hf : F_118_56 y1 y2 y3 y4 y5 h = some r) (hs : (fun (r : Int32 × sm_H) => res = (some (.int r.1), r.2)) r) : Ex (P_G L xs) (RUN L xs d) (sm_lk P_t118) 0 56 [some (.ref 38), some (.int y1), some (.int y2), some (.int y3), some (.int y4), some (.int y5), none] [] h res := by
  unfold F_118_56 at hf
  refine Ex.seg 1 (pc' := 57) (lc' := [some (.ref 38), some (.int y1), some (.int y2), some (.int y3), some (.int y4), some (.int y5), none]) (st' := [.int y3]) (h' := h) (sg1 rfl rfl rfl) ?_
  refine Ex.ifc rfl rfl (fun (c0 : y3 < 0) => ?_) (fun (c0 : ¬ (y3 < 0)) => ?_)
  · rw [if_pos c0] at hf
    exact Ex.weak (sm_le_n (sm_le_n (sm_le_n (sm_le_n (sm_le_n (sm_le_n (sm_le_s sm_le_nil))))))) (B_118_66 hd  hf hs)
  · rw [if_neg c0] at hf
    refine Ex.seg 2 (pc' := 63) (lc' := [some (.ref 38), some (.int y1), some (.int y2), some (.int y3), some (.int y4), some (.int y5), none]) (st' := [.int 99, .int y3]) (h' := h) (sg1 rfl rfl (sg1 rfl rfl rfl)) ?_
    refine Ex.icmp rfl rfl (fun (c0 : y3 ≤ 99) => ?_) (fun (c0 : ¬ (y3 ≤ 99)) => ?_)
    · rw [if_pos c0] at hf
      refine Ex.seg 5 (pc' := 76) (lc' := [some (.ref 38), some (.int y1), some (.int y2), some (.int y3), some (.int y4), some (.int y5), none]) (st' := [.int y5, .int y4, .int y3, .int y2, .ref 38]) (h' := h) (sg1 rfl rfl (sg1 rfl rfl (sg1 rfl rfl (sg1 rfl rfl (sg1 rfl rfl rfl))))) ?_
      obtain ⟨q4, e_q4, hf⟩ := bnd hf
      refine Ex.callV (a := 38) (As := [.int y2, .int y3, .int y4, .int y5]) (r := []) (v := some (.int q4.1)) (h' := q4.2) rfl rfl (by decide) rfl (Nat.le_of_ble_eq_true rfl) rfl (E_119 (Nat.le_trans (by decide) hd) e_q4) rfl ?_
      refine Ex.seg 3 (pc' := 84) (lc' := [some (.ref 38), some (.int y1), some (.int y2), some (.int y3), some (.int y4), some (.int y5), some (.int q4.1)]) (st' := [.int (-1), .int q4.1]) (h' := q4.2) (sg1 rfl rfl (sg1 rfl rfl (sg1 rfl rfl rfl))) ?_
      refine Ex.icmp rfl rfl (fun (c0 : ¬ (q4.1 = (-1))) => ?_) (fun (c0 : ¬ ¬ (q4.1 = (-1))) => ?_)
      · rw [if_neg c0] at hf
        refine Ex.seg 2 (pc' := 94) (lc' := [some (.ref 38), some (.int y1), some (.int y2), some (.int y3), some (.int y4), some (.int y5), some (.int q4.1)]) (st' := [.int 8, .int y5]) (h' := q4.2) (sg1 rfl rfl (sg1 rfl rfl rfl)) ?_
        refine Ex.icmp rfl rfl (fun (c0 : ¬ (y5 = 8)) => ?_) (fun (c0 : ¬ ¬ (y5 = 8)) => ?_)
        · rw [if_neg c0] at hf
          exact Ex.weak (sm_le_s (sm_le_s (sm_le_s (sm_le_n (sm_le_n (sm_le_s (sm_le_s sm_le_nil))))))) (B_118_113 hd  hf hs)
        · rw [if_pos (Classical.not_not.mp c0)] at hf
          refine Ex.seg 3 (pc' := 101) (lc' := [some (.ref 38), some (.int y1), some (.int y2), some (.int y3), some (.int y4), some (.int y5), some (.int q4.1)]) (st' := [.int q4.1, .ref 38, .ref 38]) (h' := q4.2) (sg1 rfl rfl (sg1 rfl rfl (sg1 rfl rfl rfl))) ?_
          obtain ⟨q5, e_q5, hf⟩ := bnd hf
          refine Ex.callV (a := 38) (As := [.int q4.1]) (r := [.ref 38]) (v := some (.int q5.1)) (h' := q5.2) rfl rfl (by decide) rfl (Nat.le_of_ble_eq_true rfl) rfl (E_128 (Nat.le_trans (by decide) hd) e_q5) rfl ?_
          obtain ⟨q6, e_q6, hf⟩ := bnd hf
          refine Ex.callV (a := 38) (As := [.int q5.1]) (r := []) (v := some (.int q6.1)) (h' := q6.2) rfl rfl (by decide) rfl (Nat.le_of_ble_eq_true rfl) rfl (E_122 (Nat.le_trans (by decide) hd) e_q6) rfl ?_
          refine Ex.ifc rfl rfl (fun (c0 : ¬ (q6.1 = 0)) => ?_) (fun (c0 : ¬ ¬ (q6.1 = 0)) => ?_)
          · rw [if_neg c0] at hf
            exact Ex.weak (sm_le_s (sm_le_s (sm_le_s (sm_le_n (sm_le_n (sm_le_s (sm_le_s sm_le_nil))))))) (B_118_113 hd  hf hs)
          · rw [if_pos (Classical.not_not.mp c0)] at hf
            refine Ex.seg 1 (pc' := 112) (lc' := [some (.ref 38), some (.int y1), some (.int y2), some (.int y3), some (.int y4), some (.int y5), some (.int q4.1)]) (st' := [.int (-3)]) (h' := q6.2) (sg1 rfl rfl rfl) ?_
            obtain rfl := Option.some.inj hf
            exact Ex.iret rfl rfl (fun c0 => by cases c0) hs
      · rw [if_pos (Classical.not_not.mp c0)] at hf
        refine Ex.seg 1 (pc' := 89) (lc' := [some (.ref 38), some (.int y1), some (.int y2), some (.int y3), some (.int y4), some (.int y5), some (.int q4.1)]) (st' := [.int (-6)]) (h' := q4.2) (sg1 rfl rfl rfl) ?_
        obtain rfl := Option.some.inj hf
        exact Ex.iret rfl rfl (fun c0 => by cases c0) hs
    · rw [if_neg c0] at hf
      exact Ex.weak (sm_le_n (sm_le_n (sm_le_n (sm_le_n (sm_le_n (sm_le_n (sm_le_s sm_le_nil))))))) (B_118_66 hd  hf hs)
theorem B_118_34 {L : Nat} {xs : Nat → Int32} {d : Nat} (hd : 6 ≤ d) {res : Option Value × sm_H}   {h : sm_H} {r : (Int32 × sm_H)} (hf : F_118_34  h = some r) (hs : (fun (r : Int32 × sm_H) => res = (some (.int r.1), r.2)) r) : Ex (P_G L xs) (RUN L xs d) (sm_lk P_t118) 0 34 [none, none, none, none, none, none, none] [] h res := by
  unfold F_118_34 at hf
  refine Ex.seg 1 (pc' := 35) (lc' := [none, none, none, none, none, none, none]) (st' := [.int (-1)]) (h' := h) (sg1 rfl rfl rfl) ?_
  obtain rfl := Option.some.inj hf
  exact Ex.iret rfl rfl (fun c0 => by cases c0) hs
theorem B_118_0 {L : Nat} {xs : Nat → Int32} {d : Nat} (hd : 6 ≤ d) {res : Option Value × sm_H} {x1 : Int32} {x2 : Int32} {x3 : Int32} {x4 : Int32} {x5 : Int32}  {h : sm_H} {r : (Int32 × sm_H)} (hf : F_118_0 x1 x2 x3 x4 x5 h = some r) (hs : (fun (r : Int32 × sm_H) => res = (some (.int r.1), r.2)) r) : Ex (P_G L xs) (RUN L xs d) (sm_lk P_t118) 0 0 [some (.ref 38), some (.int x1), some (.int x2), some (.int x3), some (.int x4), some (.int x5), none] [] h res := by
  unfold F_118_0 at hf
  refine Ex.seg 3 (pc' := 5) (lc' := [some (.ref 38), some (.int x1), some (.int x2), some (.int x3), some (.int x4), some (.int x5), none]) (st' := [.int x1, .ref 1]) (h' := h) (sg1 rfl rfl (sg1 rfl rfl (sg1 rfl rfl rfl))) ?_
  obtain ⟨q7, e_q7, hf⟩ := bnd hf
  refine Ex.callV (a := 1) (As := [.int x1]) (r := []) (v := some (.int q7.1)) (h' := q7.2) rfl rfl (by decide) rfl (Nat.le_of_ble_eq_true rfl) rfl (E_55 (Nat.le_trans (by decide) hd) e_q7) rfl ?_
  refine Ex.ifc rfl rfl (fun (c0 : q7.1 = 0) => ?_) (fun (c0 : ¬ (q7.1 = 0)) => ?_)
  · rw [if_pos c0] at hf
    exact Ex.weak (sm_le_n (sm_le_n (sm_le_n (sm_le_n (sm_le_n (sm_le_n (sm_le_s sm_le_nil))))))) (B_118_34 hd  hf hs)
  · rw [if_neg c0] at hf
    refine Ex.seg 3 (pc' := 16) (lc' := [some (.ref 38), some (.int x1), some (.int x2), some (.int x3), some (.int x4), some (.int x5), none]) (st' := [.int x2, .ref 1]) (h' := q7.2) (sg1 rfl rfl (sg1 rfl rfl (sg1 rfl rfl rfl))) ?_
    obtain ⟨q8, e_q8, hf⟩ := bnd hf
    refine Ex.callV (a := 1) (As := [.int x2]) (r := []) (v := some (.int q8.1)) (h' := q8.2) rfl rfl (by decide) rfl (Nat.le_of_ble_eq_true rfl) rfl (E_55 (Nat.le_trans (by decide) hd) e_q8) rfl ?_
    refine Ex.ifc rfl rfl (fun (c0 : q8.1 = 0) => ?_) (fun (c0 : ¬ (q8.1 = 0)) => ?_)
    · rw [if_pos c0] at hf
      exact Ex.weak (sm_le_n (sm_le_n (sm_le_n (sm_le_n (sm_le_n (sm_le_n (sm_le_s sm_le_nil))))))) (B_118_34 hd  hf hs)
    · rw [if_neg c0] at hf
      refine Ex.seg 1 (pc' := 24) (lc' := [some (.ref 38), some (.int x1), some (.int x2), some (.int x3), some (.int x4), some (.int x5), none]) (st' := [.int x5]) (h' := q8.2) (sg1 rfl rfl rfl) ?_
      refine Ex.ifc rfl rfl (fun (c0 : x5 < 0) => ?_) (fun (c0 : ¬ (x5 < 0)) => ?_)
      · rw [if_pos c0] at hf
        exact Ex.weak (sm_le_n (sm_le_n (sm_le_n (sm_le_n (sm_le_n (sm_le_n (sm_le_s sm_le_nil))))))) (B_118_34 hd  hf hs)
      · rw [if_neg c0] at hf
        refine Ex.seg 2 (pc' := 31) (lc' := [some (.ref 38), some (.int x1), some (.int x2), some (.int x3), some (.int x4), some (.int x5), none]) (st' := [.int 8, .int x5]) (h' := q8.2) (sg1 rfl rfl (sg1 rfl rfl rfl)) ?_
        refine Ex.icmp rfl rfl (fun (c0 : x5 ≤ 8) => ?_) (fun (c0 : ¬ (x5 ≤ 8)) => ?_)
        · rw [if_pos c0] at hf
          refine Ex.seg 2 (pc' := 39) (lc' := [some (.ref 38), some (.int x1), some (.int x2), some (.int x3), some (.int x4), some (.int x5), none]) (st' := [.int 4, .int x5]) (h' := q8.2) (sg1 rfl rfl (sg1 rfl rfl rfl)) ?_
          refine Ex.icmp rfl rfl (fun (c0 : 4 ≤ x5) => ?_) (fun (c0 : ¬ (4 ≤ x5)) => ?_)
          · rw [if_pos c0] at hf
            exact Ex.weak (sm_le_s (sm_le_s (sm_le_s (sm_le_s (sm_le_s (sm_le_s (sm_le_s sm_le_nil))))))) (B_118_56 hd  hf hs)
          · rw [if_neg c0] at hf
            refine Ex.seg 3 (pc' := 48) (lc' := [some (.ref 38), some (.int x1), some (.int x2), some (.int x3), some (.int x4), some (.int x5), none]) (st' := [.int x4, .ref 5]) (h' := q8.2) (sg1 rfl rfl (sg1 rfl rfl (sg1 rfl rfl rfl))) ?_
            obtain ⟨q9, e_q9, hf⟩ := bnd hf
            refine Ex.callV (a := 5) (As := [.int x4]) (r := []) (v := some (.int q9.1)) (h' := q9.2) rfl rfl (by decide) rfl (Nat.le_of_ble_eq_true rfl) rfl (E_224 (Nat.le_trans (by decide) hd) e_q9) rfl ?_
            refine Ex.ifc rfl rfl (fun (c0 : ¬ (q9.1 = 0)) => ?_) (fun (c0 : ¬ ¬ (q9.1 = 0)) => ?_)
            · rw [if_neg c0] at hf
              exact Ex.weak (sm_le_s (sm_le_s (sm_le_s (sm_le_s (sm_le_s (sm_le_s (sm_le_s sm_le_nil))))))) (B_118_56 hd  hf hs)
            · rw [if_pos (Classical.not_not.mp c0)] at hf
              refine Ex.seg 1 (pc' := 55) (lc' := [some (.ref 38), some (.int x1), some (.int x2), some (.int x3), some (.int x4), some (.int x5), none]) (st' := [.int (-1)]) (h' := q9.2) (sg1 rfl rfl rfl) ?_
              obtain rfl := Option.some.inj hf
              exact Ex.iret rfl rfl (fun c0 => by cases c0) hs
        · rw [if_neg c0] at hf
          exact Ex.weak (sm_le_n (sm_le_n (sm_le_n (sm_le_n (sm_le_n (sm_le_n (sm_le_s sm_le_nil))))))) (B_118_34 hd  hf hs)
theorem E_118 {L : Nat} {xs : Nat → Int32} {d : Nat} (hd : 7 ≤ d) {x1 : Int32} {x2 : Int32} {x3 : Int32} {x4 : Int32} {x5 : Int32} {h : sm_H} {r : Int32 × sm_H} (hf : F_118 x1 x2 x3 x4 x5 h = some r) : RUN L xs d 118 [.ref 38, .int x1, .int x2, .int x3, .int x4, .int x5] h (some (.int r.1), r.2) := by
  obtain ⟨d, rfl⟩ : ∃ e, d = e + 1 := ⟨d - 1, by omega⟩
  exact ⟨Nat.le_of_ble_eq_true rfl, B_118_0 (by omega) hf rfl⟩
