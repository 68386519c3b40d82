theorem B_22_200 {L : Nat} {xs : Nat → Int32} {d : Nat} (hd : 2 ≤ d) {res : Option Value × sm_H} {z0 : Int32}  {h : sm_H} {r : (Int32 × sm_H)} (hf : F_22_200 z0 h = some r) (hs : (fun (r : Int32 × sm_H) => res = (some (.int r.1), r.2)) r) : Ex (P_G L xs) (RUN L xs d) (sm_lk P_t22) 3 200 [none, none, none, none, none, none, none] [.int z0] h res := by
  unfold F_22_200 at hf
  rcases Classical.em (z0 = 0 ∨ z0 = 1) with c0 | c0
  · rw [if_pos c0] at hf
    obtain rfl := Option.some.inj hf
    exact Ex.iret rfl rfl (fun _ => c0) hs
  · rw [if_neg c0] at hf
    cases hf
theorem B_22_102 {L : Nat} {xs : Nat → Int32} {d : Nat} (hd : 2 ≤ d) {res : Option Value × sm_H}   {h : sm_H} {r : (Int32 × sm_H)} (hf : F_22_102  h = some r) (hs : (fun (r : Int32 × sm_H) => res = (some (.int r.1), r.2)) r) : Ex (P_G L xs) (RUN L xs d) (sm_lk P_t22) 3 102 [none, none, none, none, none, none, none] [] h res := by
  unfold F_22_102 at hf
  refine Ex.seg 1 (pc' := 103) (lc' := [none, none, none, none, none, none, none]) (st' := [.int 1]) (h' := h) (sg1 rfl rfl rfl) ?_
  obtain rfl := Option.some.inj hf
  exact Ex.iret rfl rfl (fun _ => by decide) hs
theorem B_22_185 {L : Nat} {xs : Nat → Int32} {d : Nat} (hd : 2 ≤ d) {res : Option Value × sm_H} {S1 : (Int32 × Int32 × sm_H) → Prop} (hS1 : ∀ s, S1 s → Ex (P_G L xs) (RUN L xs d) (sm_lk P_t22) 3 8 [some (.ref 34), some (.int s.1), some (.int s.2.1), none, none, none, none] [] s.2.2 res) {y1 : Int32} {y2 : Int32}  {h : sm_H} {r : ((Int32 × Int32 × sm_H) ⊕ (Int32 × sm_H))} (hf : F_22_185 y1 y2 h = some r) (hs : (Sum.elim S1 (fun (r : Int32 × sm_H) => res = (some (.int r.1), r.2))) r) : Ex (P_G L xs) (RUN L xs d) (sm_lk P_t22) 3 185 [some (.ref 34), some (.int y1), some (.int y2), none, none, none, none] [] h res := by
  unfold F_22_185 at hf
  refine Ex.seg 1 (pc' := 188) (lc' := [some (.ref 34), some (.int y1), some (.int (y2 + 4)), none, none, none, none]) (st' := []) (h' := h) (sg1 rfl rfl rfl) ?_
  obtain ⟨v1, e_v1, hf⟩ := bnd hf
  rw [Option.some.inj e_v1]
  refine Ex.seg 1 (pc' := 8) (lc' := [some (.ref 34), some (.int y1), some (.int v1), none, none, none, none]) (st' := []) (h' := h) (sg1 rfl rfl rfl) ?_
  obtain rfl := Option.some.inj hf
  exact Ex.weak (sm_le_s (sm_le_s (sm_le_s (sm_le_s (sm_le_s (sm_le_s (sm_le_s sm_le_nil))))))) (hS1 _ hs)
theorem B_22_154 {L : Nat} {xs : Nat → Int32} {d : Nat} (hd : 2 ≤ d) {res : Option Value × sm_H} {S1 : (Int32 × Int32 × sm_H) → Prop} (hS1 : ∀ s, S1 s → Ex (P_G L xs) (RUN L xs d) (sm_lk P_t22) 3 8 [some (.ref 34), some (.int s.1), some (.int s.2.1), none, none, none, none] [] s.2.2 res) {y1 : Int32} {y2 : Int32} {y6 : Int32}  {h : sm_H} {r : ((Int32 × Int32 × sm_H) ⊕ (Int32 × sm_H))} (hf : F_22_154 y1 y2 y6 h = some r) (hs : (Sum.elim S1 (fun (r : Int32 × sm_H) => res = (some (.int r.1), r.2))) r) : Ex (P_G L xs) (RUN L xs d) (sm_lk P_t22) 3 154 [some (.ref 34), some (.int y1), some (.int y2), none, none, none, some (.int y6)] [] h res := by
  unfold F_22_154 at hf
  refine Ex.seg 2 (pc' := 157) (lc' := [some (.ref 34), some (.int y1), some (.int y2), none, none, none, some (.int y6)]) (st' := [.int (-1), .int y6]) (h' := h) (sg1 rfl rfl (sg1 rfl rfl rfl)) ?_
  refine Ex.icmp rfl rfl (fun (c0 : y6 = (-1)) => ?_) (fun (c0 : ¬ (y6 = (-1))) => ?_)
  · rw [if_pos c0] at hf
    exact Ex.weak (sm_le_s (sm_le_s (sm_le_s (sm_le_s (sm_le_s (sm_le_s (sm_le_n sm_le_nil))))))) (B_22_185 hd hS1 hf hs)
  · rw [if_neg c0] at hf
    refine Ex.seg 3 (pc' := 166) (lc' := [some (.ref 34), some (.int y1), some (.int y2), none, none, none, some (.int y6)]) (st' := [.int y6, .ref 10]) (h' := h) (sg1 rfl rfl (sg1 rfl rfl (sg1 rfl rfl rfl))) ?_
    obtain ⟨q2, e_q2, hf⟩ := bnd hf
    refine Ex.callV (a := 10) (As := [.int y6]) (r := []) (v := some (.int q2.1)) (h' := q2.2) rfl rfl (by decide) rfl (Nat.le_of_ble_eq_true rfl) rfl (E_44 (Nat.le_trans (by decide) hd) e_q2) rfl ?_
    refine Ex.seg 4 (pc' := 177) (lc' := [some (.ref 34), some (.int y1), some (.int y2), none, none, none, some (.int y6)]) (st' := [.int (q2.2.1 34 9), .ref 5, .int q2.1]) (h' := q2.2) (sg1 rfl rfl (sg1 rfl rfl (sg1 rfl rfl (sg1 rfl rfl rfl)))) ?_
    obtain ⟨q3, e_q3, hf⟩ := bnd hf
    refine Ex.callV (a := 5) (As := [.int (q2.2.1 34 9)]) (r := [.int q2.1]) (v := some (.int q3.1)) (h' := q3.2) rfl rfl (by decide) rfl (Nat.le_of_ble_eq_true rfl) rfl (E_225 (Nat.le_trans (by decide) hd) e_q3) rfl ?_
    refine Ex.icmp rfl rfl (fun (c0 : q2.1 = q3.1) => ?_) (fun (c0 : ¬ (q2.1 = q3.1)) => ?_)
    · rw [if_pos c0] at hf
      exact Ex.weak (sm_le_s (sm_le_s (sm_le_s (sm_le_s (sm_le_s (sm_le_s (sm_le_n sm_le_nil))))))) (B_22_185 hd hS1 hf hs)
    · rw [if_neg c0] at hf
      refine Ex.seg 1 (pc' := 184) (lc' := [some (.ref 34), some (.int y1), some (.int y2), none, none, none, some (.int y6)]) (st' := [.int 1]) (h' := q3.2) (sg1 rfl rfl rfl) ?_
      obtain rfl := Option.some.inj hf
      exact Ex.iret rfl rfl (fun _ => by decide) hs
theorem B_22_131 {L : Nat} {xs : Nat → Int32} {d : Nat} (hd : 2 ≤ d) {res : Option Value × sm_H}   {h : sm_H} {r : (Int32 × sm_H)} (hf : F_22_131  h = some r) (hs : (fun (r : Int32 × sm_H) => res = (some (.int r.1), r.2)) r) : Ex (P_G L xs) (RUN L xs d) (sm_lk P_t22) 3 131 [none, none, none, none, none, none, none] [] h res := by
  unfold F_22_131 at hf
  refine Ex.seg 1 (pc' := 132) (lc' := [none, none, none, none, none, none, none]) (st' := [.int 1]) (h' := h) (sg1 rfl rfl rfl) ?_
  obtain rfl := Option.some.inj hf
  exact Ex.iret rfl rfl (fun _ => by decide) hs
theorem B_22_92 {L : Nat} {xs : Nat → Int32} {d : Nat} (hd : 2 ≤ d) {res : Option Value × sm_H} {S1 : (Int32 × Int32 × sm_H) → Prop} (hS1 : ∀ s, S1 s → Ex (P_G L xs) (RUN L xs d) (sm_lk P_t22) 3 8 [some (.ref 34), some (.int s.1), some (.int s.2.1), none, none, none, none] [] s.2.2 res) {y1 : Int32} {y2 : Int32} {y3 : Int32} {y4 : Int32} {y5 : Int32} {y6 : Int32}  {h : sm_H} {r : ((Int32 × Int32 × sm_H) ⊕ (Int32 × sm_H))} (hf : F_22_92 y1 y2 y3 y4 y5 y6 h = some r) (hs : (Sum.elim S1 (fun (r : Int32 × sm_H) => res = (some (.int r.1), r.2))) r) : Ex (P_G L xs) (RUN L xs d) (sm_lk P_t22) 3 92 [some (.ref 34), some (.int y1), some (.int y2), some (.int y3), some (.int y4), some (.int y5), some (.int y6)] [] h res := by
  unfold F_22_92 at hf
  refine Ex.seg 3 (pc' := 96) (lc' := [some (.ref 34), some (.int y1), some (.int y2), some (.int y3), some (.int y4), some (.int y5), some (.int y6)]) (st' := [.int y4, .int y3, .ref 34]) (h' := h) (sg1 rfl rfl (sg1 rfl rfl (sg1 rfl rfl rfl))) ?_
  obtain ⟨q4, e_q4, hf⟩ := bnd hf
  refine Ex.callV (a := 34) (As := [.int y3, .int y4]) (r := []) (v := some (.int q4.1)) (h' := q4.2) rfl rfl (by decide) rfl (Nat.le_of_ble_eq_true rfl) rfl (E_24 (Nat.le_trans (by decide) hd) e_q4) rfl ?_
  refine Ex.ifc rfl rfl (fun (c0 : q4.1 = 0) => ?_) (fun (c0 : ¬ (q4.1 = 0)) => ?_)
  · rw [if_pos c0] at hf
    refine Ex.seg 2 (pc' := 107) (lc' := [some (.ref 34), some (.int y1), some (.int y2), some (.int y3), some (.int y4), some (.int y5), some (.int y6)]) (st' := [.int y4, .ref 34]) (h' := q4.2) (sg1 rfl rfl (sg1 rfl rfl rfl)) ?_
    obtain ⟨q5, e_q5, hf⟩ := bnd hf
    refine Ex.callV (a := 34) (As := [.int y4]) (r := []) (v := some (.int q5.1)) (h' := q5.2) rfl rfl (by decide) rfl (Nat.le_of_ble_eq_true rfl) rfl (E_25 (Nat.le_trans (by decide) hd) e_q5) rfl ?_
    refine Ex.ifc rfl rfl (fun (c0 : ¬ (q5.1 = 0)) => ?_) (fun (c0 : ¬ ¬ (q5.1 = 0)) => ?_)
    · rw [if_neg c0] at hf
      obtain ⟨r0, hf0, rfl⟩ := Option.map_eq_some_iff.mp hf
      exact Ex.weak (sm_le_n (sm_le_n (sm_le_n (sm_le_n (sm_le_n (sm_le_n (sm_le_n sm_le_nil))))))) (B_22_131 hd  hf0 hs)
    · rw [if_pos (Classical.not_not.mp c0)] at hf
      refine Ex.seg 2 (pc' := 116) (lc' := [some (.ref 34), some (.int y1), some (.int y2), some (.int y3), some (.int y4), some (.int y5), some (.int y6)]) (st' := [.int y5, .ref 34]) (h' := q5.2) (sg1 rfl rfl (sg1 rfl rfl rfl)) ?_
      obtain ⟨q6, e_q6, hf⟩ := bnd hf
      refine Ex.callV (a := 34) (As := [.int y5]) (r := []) (v := some (.int q6.1)) (h' := q6.2) rfl rfl (by decide) rfl (Nat.le_of_ble_eq_true rfl) rfl (E_25 (Nat.le_trans (by decide) hd) e_q6) rfl ?_
      refine Ex.ifc rfl rfl (fun (c0 : ¬ (q6.1 = 0)) => ?_) (fun (c0 : ¬ ¬ (q6.1 = 0)) => ?_)
      · rw [if_neg c0] at hf
        obtain ⟨r0, hf0, rfl⟩ := Option.map_eq_some_iff.mp hf
        exact Ex.weak (sm_le_n (sm_le_n (sm_le_n (sm_le_n (sm_le_n (sm_le_n (sm_le_n sm_le_nil))))))) (B_22_131 hd  hf0 hs)
      · rw [if_pos (Classical.not_not.mp c0)] at hf
        refine Ex.seg 2 (pc' := 125) (lc' := [some (.ref 34), some (.int y1), some (.int y2), some (.int y3), some (.int y4), some (.int y5), some (.int y6)]) (st' := [.int y6, .ref 34]) (h' := q6.2) (sg1 rfl rfl (sg1 rfl rfl rfl)) ?_
        obtain ⟨q7, e_q7, hf⟩ := bnd hf
        refine Ex.callV (a := 34) (As := [.int y6]) (r := []) (v := some (.int q7.1)) (h' := q7.2) rfl rfl (by decide) rfl (Nat.le_of_ble_eq_true rfl) rfl (E_25 (Nat.le_trans (by decide) hd) e_q7) rfl ?_
        refine Ex.ifc rfl rfl (fun (c0 : q7.1 = 0) => ?_) (fun (c0 : ¬ (q7.1 = 0)) => ?_)
        · rw [if_pos c0] at hf
          refine Ex.seg 2 (pc' := 136) (lc' := [some (.ref 34), some (.int y1), some (.int y2), some (.int y3), some (.int y4), some (.int y5), some (.int y6)]) (st' := [.int (-1), .int y5]) (h' := q7.2) (sg1 rfl rfl (sg1 rfl rfl rfl)) ?_
          refine Ex.icmp rfl rfl (fun (c0 : y5 = (-1)) => ?_) (fun (c0 : ¬ (y5 = (-1))) => ?_)
          · rw [if_pos c0] at hf
            exact Ex.weak (sm_le_s (sm_le_s (sm_le_s (sm_le_n (sm_le_n (sm_le_n (sm_le_s sm_le_nil))))))) (B_22_154 hd hS1 hf hs)
          · rw [if_neg c0] at hf
            refine Ex.seg 3 (pc' := 145) (lc' := [some (.ref 34), some (.int y1), some (.int y2), some (.int y3), some (.int y4), some (.int y5), some (.int y6)]) (st' := [.int y5, .ref 10]) (h' := q7.2) (sg1 rfl rfl (sg1 rfl rfl (sg1 rfl rfl rfl))) ?_
            obtain ⟨q8, e_q8, hf⟩ := bnd hf
            refine Ex.callV (a := 10) (As := [.int y5]) (r := []) (v := some (.int q8.1)) (h' := q8.2) rfl rfl (by decide) rfl (Nat.le_of_ble_eq_true rfl) rfl (E_44 (Nat.le_trans (by decide) hd) e_q8) rfl ?_
            refine Ex.seg 1 (pc' := 149) (lc' := [some (.ref 34), some (.int y1), some (.int y2), some (.int y3), some (.int y4), some (.int y5), some (.int y6)]) (st' := [.int 1, .int q8.1]) (h' := q8.2) (sg1 rfl rfl rfl) ?_
            refine Ex.icmp rfl rfl (fun (c0 : q8.1 = 1) => ?_) (fun (c0 : ¬ (q8.1 = 1)) => ?_)
            · rw [if_pos c0] at hf
              exact Ex.weak (sm_le_s (sm_le_s (sm_le_s (sm_le_n (sm_le_n (sm_le_n (sm_le_s sm_le_nil))))))) (B_22_154 hd hS1 hf hs)
            · rw [if_neg c0] at hf
              refine Ex.seg 1 (pc' := 153) (lc' := [some (.ref 34), some (.int y1), some (.int y2), some (.int y3), some (.int y4), some (.int y5), some (.int y6)]) (st' := [.int 1]) (h' := q8.2) (sg1 rfl rfl rfl) ?_
              obtain rfl := Option.some.inj hf
              exact Ex.iret rfl rfl (fun _ => by decide) hs
        · rw [if_neg c0] at hf
          obtain ⟨r0, hf0, rfl⟩ := Option.map_eq_some_iff.mp hf
          exact Ex.weak (sm_le_n (sm_le_n (sm_le_n (sm_le_n (sm_le_n (sm_le_n (sm_le_n sm_le_nil))))))) (B_22_131 hd  hf0 hs)
  · rw [if_neg c0] at hf
    obtain ⟨r0, hf0, rfl⟩ := Option.map_eq_some_iff.mp hf
    exact Ex.weak (sm_le_n (sm_le_n (sm_le_n (sm_le_n (sm_le_n (sm_le_n (sm_le_n sm_le_nil))))))) (B_22_102 hd  hf0 hs)
theorem B_22_79 {L : Nat} {xs : Nat → Int32} {d : Nat} (hd : 2 ≤ d) {res : Option Value × sm_H} {S1 : (Int32 × Int32 × sm_H) → Prop} (hS1 : ∀ s, S1 s → Ex (P_G L xs) (RUN L xs d) (sm_lk P_t22) 3 8 [some (.ref 34), some (.int s.1), some (.int s.2.1), none, none, none, none] [] s.2.2 res) {y2 : Int32} {y3 : Int32} {y4 : Int32} {y5 : Int32} {y6 : Int32} {z0 : Int32}  {h : sm_H} {r : ((Int32 × Int32 × sm_H) ⊕ (Int32 × sm_H))} (hf : F_22_79 y2 y3 y4 y5 y6 z0 h = some r) (hs : (Sum.elim S1 (fun (r : Int32 × sm_H) => res = (some (.int r.1), r.2))) r) : Ex (P_G L xs) (RUN L xs d) (sm_lk P_t22) 3 79 [some (.ref 34), none, some (.int y2), some (.int y3), some (.int y4), some (.int y5), some (.int y6)] [.int z0] h res := by
  unfold F_22_79 at hf
  refine Ex.seg 3 (pc' := 83) (lc' := [some (.ref 34), some (.int z0), some (.int y2), some (.int y3), some (.int y4), some (.int y5), some (.int y6)]) (st' := [.int (-1), .int y6]) (h' := h) (sg1 rfl rfl (sg1 rfl rfl (sg1 rfl rfl rfl))) ?_
  refine Ex.icmp rfl rfl (fun (c0 : y6 = (-1)) => ?_) (fun (c0 : ¬ (y6 = (-1))) => ?_)
  · rw [if_pos c0] at hf
    exact Ex.weak (sm_le_s (sm_le_s (sm_le_s (sm_le_s (sm_le_s (sm_le_s (sm_le_s sm_le_nil))))))) (B_22_92 hd hS1 hf hs)
  · rw [if_neg c0] at hf
    refine Ex.seg 2 (pc' := 89) (lc' := [some (.ref 34), some (.int z0), some (.int y2), some (.int y3), some (.int y4), some (.int y5), some (.int y6)]) (st' := [.int (-1), .int y5]) (h' := h) (sg1 rfl rfl (sg1 rfl rfl rfl)) ?_
    refine Ex.icmp rfl rfl (fun (c0 : y5 = (-1)) => ?_) (fun (c0 : ¬ (y5 = (-1))) => ?_)
    · rw [if_pos c0] at hf
      obtain ⟨r0, hf0, rfl⟩ := Option.map_eq_some_iff.mp hf
      exact Ex.weak (sm_le_n (sm_le_n (sm_le_n (sm_le_n (sm_le_n (sm_le_n (sm_le_n sm_le_nil))))))) (B_22_102 hd  hf0 hs)
    · rw [if_neg c0] at hf
      exact Ex.weak (sm_le_s (sm_le_s (sm_le_s (sm_le_s (sm_le_s (sm_le_s (sm_le_s sm_le_nil))))))) (B_22_92 hd hS1 hf hs)
theorem B_22_74 {L : Nat} {xs : Nat → Int32} {d : Nat} (hd : 2 ≤ d) {res : Option Value × sm_H} {S1 : (Int32 × Int32 × sm_H) → Prop} (hS1 : ∀ s, S1 s → Ex (P_G L xs) (RUN L xs d) (sm_lk P_t22) 3 8 [some (.ref 34), some (.int s.1), some (.int s.2.1), none, none, none, none] [] s.2.2 res) {y2 : Int32} {y3 : Int32} {y4 : Int32} {y5 : Int32} {y6 : Int32}  {h : sm_H} {r : ((Int32 × Int32 × sm_H) ⊕ (Int32 × sm_H))} (hf : F_22_74 y2 y3 y4 y5 y6 h = some r) (hs : (Sum.elim S1 (fun (r : Int32 × sm_H) => res = (some (.int r.1), r.2))) r) : Ex (P_G L xs) (RUN L xs d) (sm_lk P_t22) 3 74 [some (.ref 34), none, some (.int y2), some (.int y3), some (.int y4), some (.int y5), some (.int y6)] [] h res := by
  unfold F_22_74 at hf
  refine Ex.seg 2 (pc' := 79) (lc' := [some (.ref 34), none, some (.int y2), some (.int y3), some (.int y4), some (.int y5), some (.int y6)]) (st' := [.int 1]) (h' := h) (sg1 rfl rfl (sg1 rfl rfl rfl)) ?_
  exact Ex.weak (sm_le_s (sm_le_s (sm_le_s (sm_le_s (sm_le_s (sm_le_s (sm_le_s sm_le_nil))))))) (B_22_79 hd hS1 hf hs)
theorem B_22_8B {L : Nat} {xs : Nat → Int32} {d : Nat} (hd : 2 ≤ d) {res : Option Value × sm_H} {S1 : (Int32 × Int32 × sm_H) → Prop} (hS1 : ∀ s, S1 s → Ex (P_G L xs) (RUN L xs d) (sm_lk P_t22) 3 8 [some (.ref 34), some (.int s.1), some (.int s.2.1), none, none, none, none] [] s.2.2 res) {s : (Int32 × Int32 × sm_H)}  {r : ((Int32 × Int32 × sm_H) ⊕ (Int32 × sm_H))} (hf : F_22_8B s = some r) (hs : (Sum.elim S1 (fun (r : Int32 × sm_H) => res = (some (.int r.1), r.2))) r) : Ex (P_G L xs) (RUN L xs d) (sm_lk P_t22) 3 8 [some (.ref 34), some (.int s.1), some (.int s.2.1), none, none, none, none] [] s.2.2 res := by
  unfold F_22_8B at hf
  refine Ex.seg 2 (pc' := 10) (lc' := [some (.ref 34), some (.int s.1), some (.int s.2.1), none, none, none, none]) (st' := [.ref 34, .int s.2.1]) (h' := s.2.2) (sg1 rfl rfl (sg1 rfl rfl rfl)) ?_
  obtain ⟨b9, e_b9, hf⟩ := bnd hf
  refine Ex.getR (c := 0) (k := 11) rfl e_b9 rfl rfl ?_
  have g11 : sm_is G0 s.2.2 b9 5 = true := Classical.byContradiction (fun z => by rw [if_pos z] at hf; cases hf)
  rw [if_neg (fun z => z g11)] at hf
  obtain ⟨q10, e_q10, hf⟩ := bnd hf
  refine Ex.callV (a := b9) (As := []) (r := [.int s.2.1]) (v := some (.int q10.1)) (h' := q10.2) rfl rfl (by decide) rfl (Nat.le_of_ble_eq_true rfl) g11 (E_136 (Nat.le_trans (by decide) hd) e_q10) rfl ?_
  refine Ex.icmp rfl rfl (fun (c0 : q10.1 ≤ s.2.1) => ?_) (fun (c0 : ¬ (q10.1 ≤ s.2.1)) => ?_)
  · rw [if_pos c0] at hf
    refine Ex.seg 1 (pc' := 192) (lc' := [some (.ref 34), some (.int s.1), some (.int s.2.1), none, none, none, none]) (st' := [.int s.1]) (h' := q10.2) (sg1 rfl rfl rfl) ?_
    refine Ex.ifc rfl rfl (fun (c0 : ¬ (s.1 = 0)) => ?_) (fun (c0 : ¬ ¬ (s.1 = 0)) => ?_)
    · rw [if_neg c0] at hf
      refine Ex.seg 1 (pc' := 200) (lc' := [some (.ref 34), some (.int s.1), some (.int s.2.1), none, none, none, none]) (st' := [.int 0]) (h' := q10.2) (sg1 rfl rfl rfl) ?_
      obtain ⟨r0, hf0, rfl⟩ := Option.map_eq_some_iff.mp hf
      exact Ex.weak (sm_le_n (sm_le_n (sm_le_n (sm_le_s (sm_le_s (sm_le_s (sm_le_s sm_le_nil))))))) (B_22_200 hd  hf0 hs)
    · rw [if_pos (Classical.not_not.mp c0)] at hf
      refine Ex.seg 2 (pc' := 200) (lc' := [some (.ref 34), some (.int s.1), some (.int s.2.1), none, none, none, none]) (st' := [.int 1]) (h' := q10.2) (sg1 rfl rfl (sg1 rfl rfl rfl)) ?_
      obtain ⟨r0, hf0, rfl⟩ := Option.map_eq_some_iff.mp hf
      exact Ex.weak (sm_le_n (sm_le_n (sm_le_n (sm_le_s (sm_le_s (sm_le_s (sm_le_s sm_le_nil))))))) (B_22_200 hd  hf0 hs)
  · rw [if_neg c0] at hf
    refine Ex.seg 1 (pc' := 20) (lc' := [some (.ref 34), some (.int s.1), some (.int s.2.1), none, none, none, none]) (st' := [.ref 34]) (h' := q10.2) (sg1 rfl rfl rfl) ?_
    obtain ⟨b12, e_b12, hf⟩ := bnd hf
    refine Ex.getR (c := 0) (k := 11) rfl e_b12 rfl rfl ?_
    refine Ex.seg 1 (pc' := 24) (lc' := [some (.ref 34), some (.int s.1), some (.int s.2.1), none, none, none, none]) (st' := [.int s.2.1, .ref b12]) (h' := q10.2) (sg1 rfl rfl rfl) ?_
    have g14 : sm_is G0 q10.2 b12 5 = true := Classical.byContradiction (fun z => by rw [if_pos z] at hf; cases hf)
    rw [if_neg (fun z => z g14)] at hf
    obtain ⟨q13, e_q13, hf⟩ := bnd hf
    refine Ex.callV (a := b12) (As := [.int s.2.1]) (r := []) (v := some (.int q13.1)) (h' := q13.2) rfl rfl (by decide) rfl (Nat.le_of_ble_eq_true rfl) g14 (E_137 (Nat.le_trans (by decide) hd) e_q13) rfl ?_
    refine Ex.seg 2 (pc' := 29) (lc' := [some (.ref 34), some (.int s.1), some (.int s.2.1), some (.int q13.1), none, none, none]) (st' := [.ref 34]) (h' := q13.2) (sg1 rfl rfl (sg1 rfl rfl rfl)) ?_
    obtain ⟨b15, e_b15, hf⟩ := bnd hf
    refine Ex.getR (c := 0) (k := 11) rfl e_b15 rfl rfl ?_
    refine Ex.seg 3 (pc' := 35) (lc' := [some (.ref 34), some (.int s.1), some (.int s.2.1), some (.int q13.1), none, none, none]) (st' := [.int (s.2.1 + 1), .ref b15]) (h' := q13.2) (sg1 rfl rfl (sg1 rfl rfl (sg1 rfl rfl rfl))) ?_
    have g17 : sm_is G0 q13.2 b15 5 = true := Classical.byContradiction (fun z => by rw [if_pos z] at hf; cases hf)
    rw [if_neg (fun z => z g17)] at hf
    obtain ⟨q16, e_q16, hf⟩ := bnd hf
    refine Ex.callV (a := b15) (As := [.int (s.2.1 + 1)]) (r := []) (v := some (.int q16.1)) (h' := q16.2) rfl rfl (by decide) rfl (Nat.le_of_ble_eq_true rfl) g17 (E_137 (Nat.le_trans (by decide) hd) e_q16) rfl ?_
    refine Ex.seg 2 (pc' := 41) (lc' := [some (.ref 34), some (.int s.1), some (.int s.2.1), some (.int q13.1), some (.int q16.1), none, none]) (st' := [.ref 34]) (h' := q16.2) (sg1 rfl rfl (sg1 rfl rfl rfl)) ?_
    obtain ⟨b18, e_b18, hf⟩ := bnd hf
    refine Ex.getR (c := 0) (k := 11) rfl e_b18 rfl rfl ?_
    refine Ex.seg 3 (pc' := 47) (lc' := [some (.ref 34), some (.int s.1), some (.int s.2.1), some (.int q13.1), some (.int q16.1), none, none]) (st' := [.int (s.2.1 + 2), .ref b18]) (h' := q16.2) (sg1 rfl rfl (sg1 rfl rfl (sg1 rfl rfl rfl))) ?_
    have g20 : sm_is G0 q16.2 b18 5 = true := Classical.byContradiction (fun z => by rw [if_pos z] at hf; cases hf)
    rw [if_neg (fun z => z g20)] at hf
    obtain ⟨q19, e_q19, hf⟩ := bnd hf
    refine Ex.callV (a := b18) (As := [.int (s.2.1 + 2)]) (r := []) (v := some (.int q19.1)) (h' := q19.2) rfl rfl (by decide) rfl (Nat.le_of_ble_eq_true rfl) g20 (E_137 (Nat.le_trans (by decide) hd) e_q19) rfl ?_
    refine Ex.seg 2 (pc' := 53) (lc' := [some (.ref 34), some (.int s.1), some (.int s.2.1), some (.int q13.1), some (.int q16.1), some (.int q19.1), none]) (st' := [.ref 34]) (h' := q19.2) (sg1 rfl rfl (sg1 rfl rfl rfl)) ?_
    obtain ⟨b21, e_b21, hf⟩ := bnd hf
    refine Ex.getR (c := 0) (k := 11) rfl e_b21 rfl rfl ?_
    refine Ex.seg 3 (pc' := 59) (lc' := [some (.ref 34), some (.int s.1), some (.int s.2.1), some (.int q13.1), some (.int q16.1), some (.int q19.1), none]) (st' := [.int (s.2.1 + 3), .ref b21]) (h' := q19.2) (sg1 rfl rfl (sg1 rfl rfl (sg1 rfl rfl rfl))) ?_
    have g23 : sm_is G0 q19.2 b21 5 = true := Classical.byContradiction (fun z => by rw [if_pos z] at hf; cases hf)
    rw [if_neg (fun z => z g23)] at hf
    obtain ⟨q22, e_q22, hf⟩ := bnd hf
    refine Ex.callV (a := b21) (As := [.int (s.2.1 + 3)]) (r := []) (v := some (.int q22.1)) (h' := q22.2) rfl rfl (by decide) rfl (Nat.le_of_ble_eq_true rfl) g23 (E_137 (Nat.le_trans (by decide) hd) e_q22) rfl ?_
    refine Ex.seg 2 (pc' := 65) (lc' := [some (.ref 34), some (.int s.1), some (.int s.2.1), some (.int q13.1), some (.int q16.1), some (.int q19.1), some (.int q22.1)]) (st' := [.int s.1]) (h' := q22.2) (sg1 rfl rfl (sg1 rfl rfl rfl)) ?_
    refine Ex.ifc rfl rfl (fun (c0 : ¬ (s.1 = 0)) => ?_) (fun (c0 : ¬ ¬ (s.1 = 0)) => ?_)
    · rw [if_neg c0] at hf
      exact Ex.weak (sm_le_s (sm_le_n (sm_le_s (sm_le_s (sm_le_s (sm_le_s (sm_le_s sm_le_nil))))))) (B_22_74 hd hS1 hf hs)
    · rw [if_pos (Classical.not_not.mp c0)] at hf
      refine Ex.seg 2 (pc' := 71) (lc' := [some (.ref 34), some (.int s.1), some (.int s.2.1), some (.int q13.1), some (.int q16.1), some (.int q19.1), some (.int q22.1)]) (st' := [.int (-1), .int q19.1]) (h' := q22.2) (sg1 rfl rfl (sg1 rfl rfl rfl)) ?_
      refine Ex.icmp rfl rfl (fun (c0 : q19.1 = (-1)) => ?_) (fun (c0 : ¬ (q19.1 = (-1))) => ?_)
      · rw [if_pos c0] at hf
        refine Ex.seg 1 (pc' := 79) (lc' := [some (.ref 34), some (.int s.1), some (.int s.2.1), some (.int q13.1), some (.int q16.1), some (.int q19.1), some (.int q22.1)]) (st' := [.int 0]) (h' := q22.2) (sg1 rfl rfl rfl) ?_
        exact Ex.weak (sm_le_s (sm_le_n (sm_le_s (sm_le_s (sm_le_s (sm_le_s (sm_le_s sm_le_nil))))))) (B_22_79 hd hS1 hf hs)
      · rw [if_neg c0] at hf
        exact Ex.weak (sm_le_s (sm_le_n (sm_le_s (sm_le_s (sm_le_s (sm_le_s (sm_le_s sm_le_nil))))))) (B_22_74 hd hS1 hf hs)
theorem B_22_8 {L : Nat} {xs : Nat → Int32} {d : Nat} (hd : 2 ≤ d) {res : Option Value × sm_H} {y1 : Int32} {y2 : Int32}  {h : sm_H} {r : (Int32 × sm_H)} (hf : F_22_8 y1 y2 h = some r) (hs : (fun (r : Int32 × sm_H) => res = (some (.int r.1), r.2)) r) : Ex (P_G L xs) (RUN L xs d) (sm_lk P_t22) 3 8 [some (.ref 34), some (.int y1), some (.int y2), none, none, none, none] [] h res := by
  unfold F_22_8 at hf
  exact lp_ok (P := fun (s : (Int32 × Int32 × sm_H)) => Ex (P_G L xs) (RUN L xs d) (sm_lk P_t22) 3 8 [some (.ref 34), some (.int s.1), some (.int s.2.1), none, none, none, none] [] s.2.2 res) (S := (fun (r : Int32 × sm_H) => res = (some (.int r.1), r.2))) (fun s x hx hsx => by
    intros
    exact B_22_8B hd  (fun _ q => q) hx hsx) 1000000 _ r hf hs
theorem B_22_0 {L : Nat} {xs : Nat → Int32} {d : Nat} (hd : 2 ≤ d) {res : Option Value × sm_H}   {h : sm_H} {r : (Int32 × sm_H)} (hf : F_22_0  h = some r) (hs : (fun (r : Int32 × sm_H) => res = (some (.int r.1), r.2)) r) : Ex (P_G L xs) (RUN L xs d) (sm_lk P_t22) 3 0 [some (.ref 34), none, none, none, none, none, none] [] h res := by
  unfold F_22_0 at hf
  refine Ex.seg 3 (pc' := 3) (lc' := [some (.ref 34), some (.int 0), none, none, none, none, none]) (st' := [.ref 34]) (h' := h) (sg1 rfl rfl (sg1 rfl rfl (sg1 rfl rfl rfl))) ?_
  obtain ⟨q24, e_q24, hf⟩ := bnd hf
  refine Ex.callV (a := 34) (As := []) (r := []) (v := none) (h' := q24) rfl rfl (by decide) rfl (Nat.le_of_ble_eq_true rfl) rfl (E_23 (Nat.le_trans (by decide) hd) e_q24) rfl ?_
  refine Ex.seg 2 (pc' := 8) (lc' := [some (.ref 34), some (.int 0), some (.int 0), none, none, none, none]) (st' := []) (h' := q24) (sg1 rfl rfl (sg1 rfl rfl rfl)) ?_
  exact Ex.weak (sm_le_s (sm_le_s (sm_le_s (sm_le_s (sm_le_s (sm_le_s (sm_le_s sm_le_nil))))))) (B_22_8 hd  hf hs)
theorem E_22 {L : Nat} {xs : Nat → Int32} {d : Nat} (hd : 3 ≤ d)  {h : sm_H} {r : Int32 × sm_H} (hf : F_22  h = some r) : RUN L xs d 22 [.ref 34] h (some (.int r.1), r.2) := by
  obtain ⟨d, rfl⟩ : ∃ e, d = e + 1 := ⟨d - 1, by omega⟩
  exact ⟨Nat.le_of_ble_eq_true rfl, B_22_0 (by omega) hf rfl⟩
theorem B_26_172 {L : Nat} {xs : Nat → Int32} {d : Nat} (hd : 3 ≤ d) {res : Option Value × sm_H}   {h : sm_H} {r : (Int32 × sm_H)} (hf : F_26_172  h = some r) (hs : (fun (r : Int32 × sm_H) => res = (some (.int r.1), r.2)) r) : Ex (P_G L xs) (RUN L xs d) (sm_lk P_t26) 0 172 [none] [] h res := by
  unfold F_26_172 at hf
  refine Ex.seg 1 (pc' := 173) (lc' := [none]) (st' := [.int (-1)]) (h' := h) (sg1 rfl rfl rfl) ?_
  obtain rfl := Option.some.inj hf
  exact Ex.iret rfl rfl (fun c0 => by cases c0) hs
theorem B_26_171 {L : Nat} {xs : Nat → Int32} {d : Nat} (hd : 3 ≤ d) {res : Option Value × sm_H} {z0 : Int32}  {h : sm_H} {r : (Int32 × sm_H)} (hf : F_26_171 z0 h = some r) (hs : (fun (r : Int32 × sm_H) => res = (some (.int r.1), r.2)) r) : Ex (P_G L xs) (RUN L xs d) (sm_lk P_t26) 0 171 [none] [.int z0] h res := by
  unfold F_26_171 at hf
  obtain rfl := Option.some.inj hf
  exact Ex.iret rfl rfl (fun c0 => by cases c0) hs
theorem B_26_148 {L : Nat} {xs : Nat → Int32} {d : Nat} (hd : 3 ≤ d) {res : Option Value × sm_H}   {h : sm_H} {r : (Int32 × sm_H)} (hf : F_26_148  h = some r) (hs : (fun (r : Int32 × sm_H) => res = (some (.int r.1), r.2)) r) : Ex (P_G L xs) (RUN L xs d) (sm_lk P_t26) 0 148 [some (.ref 34)] [] h res := by
  unfold F_26_148 at hf
  refine Ex.seg 4 (pc' := 156) (lc' := [some (.ref 34)]) (st' := [.int (h.1 34 13), .ref 10]) (h' := h) (sg1 rfl rfl (sg1 rfl rfl (sg1 rfl rfl (sg1 rfl rfl rfl)))) ?_
  obtain ⟨q1, e_q1, hf⟩ := bnd hf
  refine Ex.callV (a := 10) (As := [.int (h.1 34 13)]) (r := []) (v := some (.int q1.1)) (h' := q1.2) rfl rfl (by decide) rfl (Nat.le_of_ble_eq_true rfl) rfl (E_37 (Nat.le_trans (by decide) hd) e_q1) rfl ?_
  refine Ex.seg 1 (pc' := 160) (lc' := [some (.ref 34)]) (st' := [.int 2, .int q1.1]) (h' := q1.2) (sg1 rfl rfl rfl) ?_
  refine Ex.icmp rfl rfl (fun (c0 : ¬ (q1.1 = 2)) => ?_) (fun (c0 : ¬ ¬ (q1.1 = 2)) => ?_)
  · rw [if_neg c0] at hf
    refine Ex.seg 1 (pc' := 171) (lc' := [some (.ref 34)]) (st' := [.int (-1)]) (h' := q1.2) (sg1 rfl rfl rfl) ?_
    exact Ex.weak (sm_le_n sm_le_nil) (B_26_171 hd  hf hs)
  · rw [if_pos (Classical.not_not.mp c0)] at hf
    refine Ex.seg 3 (pc' := 171) (lc' := [some (.ref 34)]) (st' := [.int (q1.2.1 34 12)]) (h' := q1.2) (sg1 rfl rfl (sg1 rfl rfl (sg1 rfl rfl rfl))) ?_
    exact Ex.weak (sm_le_n sm_le_nil) (B_26_171 hd  hf hs)
theorem B_26_147 {L : Nat} {xs : Nat → Int32} {d : Nat} (hd : 3 ≤ d) {res : Option Value × sm_H} {z0 : Int32}  {h : sm_H} {r : (Int32 × sm_H)} (hf : F_26_147 z0 h = some r) (hs : (fun (r : Int32 × sm_H) => res = (some (.int r.1), r.2)) r) : Ex (P_G L xs) (RUN L xs d) (sm_lk P_t26) 0 147 [none] [.int z0] h res := by
  unfold F_26_147 at hf
  obtain rfl := Option.some.inj hf
  exact Ex.iret rfl rfl (fun c0 => by cases c0) hs
theorem B_26_121 {L : Nat} {xs : Nat → Int32} {d : Nat} (hd : 3 ≤ d) {res : Option Value × sm_H}   {h : sm_H} {r : (Int32 × sm_H)} (hf : F_26_121  h = some r) (hs : (fun (r : Int32 × sm_H) => res = (some (.int r.1), r.2)) r) : Ex (P_G L xs) (RUN L xs d) (sm_lk P_t26) 0 121 [some (.ref 34)] [] h res := by
  unfold F_26_121 at hf
  refine Ex.seg 6 (pc' := 133) (lc' := [some (.ref 34)]) (st' := [.int (h.1 34 12), .ref 10, .int (h.1 34 9)]) (h' := h) (sg1 rfl rfl (sg1 rfl rfl (sg1 rfl rfl (sg1 rfl rfl (sg1 rfl rfl (sg1 rfl rfl rfl)))))) ?_
  obtain ⟨q2, e_q2, hf⟩ := bnd hf
  refine Ex.callV (a := 10) (As := [.int (h.1 34 12)]) (r := [.int (h.1 34 9)]) (v := some (.int q2.1)) (h' := q2.2) rfl rfl (by decide) rfl (Nat.le_of_ble_eq_true rfl) rfl (E_41 (Nat.le_trans (by decide) hd) e_q2) rfl ?_
  refine Ex.icmp rfl rfl (fun (c0 : ¬ ((h.1 34 9) = q2.1)) => ?_) (fun (c0 : ¬ ¬ ((h.1 34 9) = q2.1)) => ?_)
  · rw [if_neg c0] at hf
    refine Ex.seg 1 (pc' := 147) (lc' := [some (.ref 34)]) (st' := [.int (-1)]) (h' := q2.2) (sg1 rfl rfl rfl) ?_
    exact Ex.weak (sm_le_n sm_le_nil) (B_26_147 hd  hf hs)
  · rw [if_pos (Classical.not_not.mp c0)] at hf
    refine Ex.seg 3 (pc' := 147) (lc' := [some (.ref 34)]) (st' := [.int (q2.2.1 34 12)]) (h' := q2.2) (sg1 rfl rfl (sg1 rfl rfl (sg1 rfl rfl rfl))) ?_
    exact Ex.weak (sm_le_n sm_le_nil) (B_26_147 hd  hf hs)
theorem B_26_120 {L : Nat} {xs : Nat → Int32} {d : Nat} (hd : 3 ≤ d) {res : Option Value × sm_H} {z0 : Int32}  {h : sm_H} {r : (Int32 × sm_H)} (hf : F_26_120 z0 h = some r) (hs : (fun (r : Int32 × sm_H) => res = (some (.int r.1), r.2)) r) : Ex (P_G L xs) (RUN L xs d) (sm_lk P_t26) 0 120 [none] [.int z0] h res := by
  unfold F_26_120 at hf
  obtain rfl := Option.some.inj hf
  exact Ex.iret rfl rfl (fun c0 => by cases c0) hs
theorem B_26_119 {L : Nat} {xs : Nat → Int32} {d : Nat} (hd : 3 ≤ d) {res : Option Value × sm_H}   {h : sm_H} {r : (Int32 × sm_H)} (hf : F_26_119  h = some r) (hs : (fun (r : Int32 × sm_H) => res = (some (.int r.1), r.2)) r) : Ex (P_G L xs) (RUN L xs d) (sm_lk P_t26) 0 119 [none] [] h res := by
  unfold F_26_119 at hf
  refine Ex.seg 1 (pc' := 120) (lc' := [none]) (st' := [.int (-1)]) (h' := h) (sg1 rfl rfl rfl) ?_
  exact Ex.weak (sm_le_s sm_le_nil) (B_26_120 hd  hf hs)
theorem B_26_82 {L : Nat} {xs : Nat → Int32} {d : Nat} (hd : 3 ≤ d) {res : Option Value × sm_H} {z0 : Int32}  {h : sm_H} {r : (Int32 × sm_H)} (hf : F_26_82 z0 h = some r) (hs : (fun (r : Int32 × sm_H) => res = (some (.int r.1), r.2)) r) : Ex (P_G L xs) (RUN L xs d) (sm_lk P_t26) 0 82 [none] [.int z0] h res := by
  unfold F_26_82 at hf
  obtain rfl := Option.some.inj hf
  exact Ex.iret rfl rfl (fun c0 => by cases c0) hs
theorem B_26_0 {L : Nat} {xs : Nat → Int32} {d : Nat} (hd : 3 ≤ d) {res : Option Value × sm_H}   {h : sm_H} {r : (Int32 × sm_H)} (hf : F_26_0  h = some r) (hs : (fun (r : Int32 × sm_H) => res = (some (.int r.1), r.2)) r) : Ex (P_G L xs) (RUN L xs d) (sm_lk P_t26) 0 0 [some (.ref 34)] [] h res := by
  unfold F_26_0 at hf
  refine Ex.seg 2 (pc' := 4) (lc' := [some (.ref 34)]) (st' := [.int (h.1 34 7)]) (h' := h) (sg1 rfl rfl (sg1 rfl rfl rfl)) ?_
  rcases Classical.em ((h.1 34 7) = 4) with n1 | n1
  · rw [if_pos n1] at hf
    refine Ex.swt (t := 60) rfl rfl (by rw [n1]; exact Or.inr ⟨by decide, by decide, _, rfl, by decide⟩) ?_
    refine Ex.seg 4 (pc' := 68) (lc' := [some (.ref 34)]) (st' := [.int (h.1 34 9), .ref 5]) (h' := h) (sg1 rfl rfl (sg1 rfl rfl (sg1 rfl rfl (sg1 rfl rfl rfl)))) ?_
    obtain ⟨q3, e_q3, hf⟩ := bnd hf
    refine Ex.callV (a := 5) (As := [.int (h.1 34 9)]) (r := []) (v := some (.int q3.1)) (h' := q3.2) rfl rfl (by decide) rfl (Nat.le_of_ble_eq_true rfl) rfl (E_226 (Nat.le_trans (by decide) hd) e_q3) rfl ?_
    refine Ex.ifc rfl rfl (fun (c0 : ¬ (q3.1 = 0)) => ?_) (fun (c0 : ¬ ¬ (q3.1 = 0)) => ?_)
    · rw [if_neg c0] at hf
      refine Ex.seg 1 (pc' := 82) (lc' := [some (.ref 34)]) (st' := [.int (-1)]) (h' := q3.2) (sg1 rfl rfl rfl) ?_
      exact Ex.weak (sm_le_n sm_le_nil) (B_26_82 hd  hf hs)
    · rw [if_pos (Classical.not_not.mp c0)] at hf
      refine Ex.seg 3 (pc' := 82) (lc' := [some (.ref 34)]) (st' := [.int (q3.2.1 34 12)]) (h' := q3.2) (sg1 rfl rfl (sg1 rfl rfl (sg1 rfl rfl rfl))) ?_
      exact Ex.weak (sm_le_n sm_le_nil) (B_26_82 hd  hf hs)
  rw [if_neg n1] at hf
  rcases Classical.em ((h.1 34 7) = 5) with n2 | n2
  · rw [if_pos n2] at hf
    refine Ex.swt (t := 83) rfl rfl (by rw [n2]; exact Or.inr ⟨by decide, by decide, _, rfl, by decide⟩) ?_
    refine Ex.seg 1 (pc' := 84) (lc' := [some (.ref 34)]) (st' := [.ref 34]) (h' := h) (sg1 rfl rfl rfl) ?_
    obtain ⟨q4, e_q4, hf⟩ := bnd hf
    refine Ex.callV (a := 34) (As := []) (r := []) (v := none) (h' := q4) rfl rfl (by decide) rfl (Nat.le_of_ble_eq_true rfl) rfl (E_27 (Nat.le_trans (by decide) hd) e_q4) rfl ?_
    refine Ex.seg 6 (pc' := 99) (lc' := [some (.ref 34)]) (st' := [.int (q4.1 34 12), .ref 10, .int (q4.1 34 9)]) (h' := q4) (sg1 rfl rfl (sg1 rfl rfl (sg1 rfl rfl (sg1 rfl rfl (sg1 rfl rfl (sg1 rfl rfl rfl)))))) ?_
    obtain ⟨q5, e_q5, hf⟩ := bnd hf
    refine Ex.callV (a := 10) (As := [.int (q4.1 34 12)]) (r := [.int (q4.1 34 9)]) (v := some (.int q5.1)) (h' := q5.2) rfl rfl (by decide) rfl (Nat.le_of_ble_eq_true rfl) rfl (E_41 (Nat.le_trans (by decide) hd) e_q5) rfl ?_
    refine Ex.icmp rfl rfl (fun (c0 : ¬ ((q4.1 34 9) = q5.1)) => ?_) (fun (c0 : ¬ ¬ ((q4.1 34 9) = q5.1)) => ?_)
    · rw [if_neg c0] at hf
      exact Ex.weak (sm_le_n sm_le_nil) (B_26_119 hd  hf hs)
    · rw [if_pos (Classical.not_not.mp c0)] at hf
      refine Ex.seg 1 (pc' := 106) (lc' := [some (.ref 34)]) (st' := [.ref 34]) (h' := q5.2) (sg1 rfl rfl rfl) ?_
      obtain ⟨q6, e_q6, hf⟩ := bnd hf
      refine Ex.callV (a := 34) (As := []) (r := []) (v := some (.int q6.1)) (h' := q6.2) rfl rfl (by decide) rfl (Nat.le_of_ble_eq_true rfl) rfl (E_28 (Nat.le_trans (by decide) hd) e_q6) rfl ?_
      refine Ex.ifc rfl rfl (fun (c0 : q6.1 = 0) => ?_) (fun (c0 : ¬ (q6.1 = 0)) => ?_)
      · rw [if_pos c0] at hf
        exact Ex.weak (sm_le_n sm_le_nil) (B_26_119 hd  hf hs)
      · rw [if_neg c0] at hf
        refine Ex.seg 3 (pc' := 120) (lc' := [some (.ref 34)]) (st' := [.int (q6.2.1 34 12)]) (h' := q6.2) (sg1 rfl rfl (sg1 rfl rfl (sg1 rfl rfl rfl))) ?_
        exact Ex.weak (sm_le_n sm_le_nil) (B_26_120 hd  hf hs)
  rw [if_neg n2] at hf
  rcases Classical.em ((h.1 34 7) = 7) with n3 | n3
  · rw [if_pos n3] at hf
    refine Ex.swt (t := 148) rfl rfl (by rw [n3]; exact Or.inr ⟨by decide, by decide, _, rfl, by decide⟩) ?_
    exact Ex.weak (sm_le_s sm_le_nil) (B_26_148 hd  hf hs)
  rw [if_neg n3] at hf
  rcases Classical.em ((h.1 34 7) = 9) with n4 | n4
  · rw [if_pos n4] at hf
    refine Ex.swt (t := 148) rfl rfl (by rw [n4]; exact Or.inr ⟨by decide, by decide, _, rfl, by decide⟩) ?_
    exact Ex.weak (sm_le_s sm_le_nil) (B_26_148 hd  hf hs)
  rw [if_neg n4] at hf
  rcases Classical.em ((h.1 34 7) = 12) with n5 | n5
  · rw [if_pos n5] at hf
    refine Ex.swt (t := 121) rfl rfl (by rw [n5]; exact Or.inr ⟨by decide, by decide, _, rfl, by decide⟩) ?_
    exact Ex.weak (sm_le_s sm_le_nil) (B_26_121 hd  hf hs)
  rw [if_neg n5] at hf
  rcases Classical.em ((h.1 34 7) = 13) with n6 | n6
  · rw [if_pos n6] at hf
    refine Ex.swt (t := 121) rfl rfl (by rw [n6]; exact Or.inr ⟨by decide, by decide, _, rfl, by decide⟩) ?_
    exact Ex.weak (sm_le_s sm_le_nil) (B_26_121 hd  hf hs)
  rw [if_neg n6] at hf
  refine Ex.swt (t := 172) rfl rfl (sw_dflt (by decide) (by decide) (fun k hk he => ?_)) ?_
  · have hk : k < 10 := hk
    rcases (show k = 0 ∨ k = 1 ∨ k = 2 ∨ k = 3 ∨ k = 4 ∨ k = 5 ∨ k = 6 ∨ k = 7 ∨ k = 8 ∨ k = 9 by omega) with rfl | rfl | rfl | rfl | rfl | rfl | rfl | rfl | rfl | rfl
    · exact absurd (Int32.toInt_inj.mp (he.symm.trans (by decide : (_ : Int) = Int32.toInt 4))) n1
    · exact absurd (Int32.toInt_inj.mp (he.symm.trans (by decide : (_ : Int) = Int32.toInt 5))) n2
    · rfl
    · exact absurd (Int32.toInt_inj.mp (he.symm.trans (by decide : (_ : Int) = Int32.toInt 7))) n3
    · rfl
    · exact absurd (Int32.toInt_inj.mp (he.symm.trans (by decide : (_ : Int) = Int32.toInt 9))) n4
    · rfl
    · rfl
    · exact absurd (Int32.toInt_inj.mp (he.symm.trans (by decide : (_ : Int) = Int32.toInt 12))) n5
    · exact absurd (Int32.toInt_inj.mp (he.symm.trans (by decide : (_ : Int) = Int32.toInt 13))) n6
  exact Ex.weak (sm_le_n sm_le_nil) (B_26_172 hd  hf hs)
theorem E_26 {L : Nat} {xs : Nat → Int32} {d : Nat} (hd : 4 ≤ d)  {h : sm_H} {r : Int32 × sm_H} (hf : F_26  h = some r) : RUN L xs d 26 [.ref 34] h (some (.int r.1), r.2) := by
  obtain ⟨d, rfl⟩ : ∃ e, d = e + 1 := ⟨d - 1, by omega⟩
  exact ⟨Nat.le_of_ble_eq_true rfl, B_26_0 (by omega) hf rfl⟩
theorem B_32_304 {L : Nat} {xs : Nat → Int32} {d : Nat} (hd : 2 ≤ d) {res : Option Value × sm_H}   {h : sm_H} {r : (Int32 × sm_H)} (hf : F_32_304  h = some r) (hs : (fun (r : Int32 × sm_H) => res = (some (.int r.1), r.2)) r) : Ex (P_G L xs) (RUN L xs d) (sm_lk P_t32) 0 304 [some (.ref 34)] [] h res := by
  unfold F_32_304 at hf
  refine Ex.seg 4 (pc' := 312) (lc' := [some (.ref 34)]) (st' := [.int (h.1 34 8), .ref 5]) (h' := h) (sg1 rfl rfl (sg1 rfl rfl (sg1 rfl rfl (sg1 rfl rfl rfl)))) ?_
  obtain ⟨q1, e_q1, hf⟩ := bnd hf
  refine Ex.callV (a := 5) (As := [.int (h.1 34 8)]) (r := []) (v := none) (h' := q1) rfl rfl (by decide) rfl (Nat.le_of_ble_eq_true rfl) rfl (E_229 (Nat.le_trans (by decide) hd) e_q1) rfl ?_
  refine Ex.seg 3 (pc' := 320) (lc' := [some (.ref 34)]) (st' := [.int 5, .ref 5]) (h' := q1) (sg1 rfl rfl (sg1 rfl rfl (sg1 rfl rfl rfl))) ?_
  obtain ⟨q2, e_q2, hf⟩ := bnd hf
  refine Ex.callV (a := 5) (As := [.int 5]) (r := []) (v := none) (h' := q2) rfl rfl (by decide) rfl (Nat.le_of_ble_eq_true rfl) rfl (E_229 (Nat.le_trans (by decide) hd) e_q2) rfl ?_
  refine Ex.seg 5 (pc' := 332) (lc' := [some (.ref 34)]) (st' := [.int (q2.1 34 8), .ref 1, .ref 34]) (h' := q2) (sg1 rfl rfl (sg1 rfl rfl (sg1 rfl rfl (sg1 rfl rfl (sg1 rfl rfl rfl))))) ?_
  obtain ⟨q3, e_q3, hf⟩ := bnd hf
  refine Ex.callV (a := 1) (As := [.int (q2.1 34 8)]) (r := [.ref 34]) (v := some (.int q3.1)) (h' := q3.2) rfl rfl (by decide) rfl (Nat.le_of_ble_eq_true rfl) rfl (E_63 (Nat.le_trans (by decide) hd) e_q3) rfl ?_
  refine Ex.seg 6 (pc' := 344) (lc' := [some (.ref 34)]) (st' := [.int (((q3.2.1 34 7) - 22) + 4), .int q3.1, .ref 34]) (h' := q3.2) (sg1 rfl rfl (sg1 rfl rfl (sg1 rfl rfl (sg1 rfl rfl (sg1 rfl rfl (sg1 rfl rfl rfl)))))) ?_
  obtain ⟨q4, e_q4, hf⟩ := bnd hf
  refine Ex.callV (a := 34) (As := [.int q3.1, .int (((q3.2.1 34 7) - 22) + 4)]) (r := []) (v := some (.int q4.1)) (h' := q4.2) rfl rfl (by decide) rfl (Nat.le_of_ble_eq_true rfl) rfl (E_33 (Nat.le_trans (by decide) hd) e_q4) rfl ?_
  obtain rfl := Option.some.inj hf
  exact Ex.iret rfl rfl (fun c0 => by cases c0) hs
theorem B_32_219 {L : Nat} {xs : Nat → Int32} {d : Nat} (hd : 2 ≤ d) {res : Option Value × sm_H} {z0 : Int32}  {h : sm_H} {r : (Int32 × sm_H)} (hf : F_32_219 z0 h = some r) (hs : (fun (r : Int32 × sm_H) => res = (some (.int r.1), r.2)) r) : Ex (P_G L xs) (RUN L xs d) (sm_lk P_t32) 0 219 [none] [.int z0] h res := by
  unfold F_32_219 at hf
  obtain rfl := Option.some.inj hf
  exact Ex.iret rfl rfl (fun c0 => by cases c0) hs
theorem B_32_0 {L : Nat} {xs : Nat → Int32} {d : Nat} (hd : 2 ≤ d) {res : Option Value × sm_H}   {h : sm_H} {r : (Int32 × sm_H)} (hf : F_32_0  h = some r) (hs : (fun (r : Int32 × sm_H) => res = (some (.int r.1), r.2)) r) : Ex (P_G L xs) (RUN L xs d) (sm_lk P_t32) 0 0 [some (.ref 34)] [] h res := by
  unfold F_32_0 at hf
  refine Ex.seg 2 (pc' := 4) (lc' := [some (.ref 34)]) (st' := [.int (h.1 34 7)]) (h' := h) (sg1 rfl rfl (sg1 rfl rfl rfl)) ?_
  rcases Classical.em ((h.1 34 7) = 0) with n1 | n1
  · rw [if_pos n1] at hf
    refine Ex.swt (t := 156) rfl rfl (by rw [n1]; exact Or.inr ⟨by decide, by decide, _, rfl, by decide⟩) ?_
    refine Ex.seg 2 (pc' := 160) (lc' := [some (.ref 34)]) (st' := [.int (h.1 34 8)]) (h' := h) (sg1 rfl rfl (sg1 rfl rfl rfl)) ?_
    obtain rfl := Option.some.inj hf
    exact Ex.iret rfl rfl (fun c0 => by cases c0) hs
  rw [if_neg n1] at hf
  rcases Classical.em ((h.1 34 7) = 1) with n2 | n2
  · rw [if_pos n2] at hf
    refine Ex.swt (t := 161) rfl rfl (by rw [n2]; exact Or.inr ⟨by decide, by decide, _, rfl, by decide⟩) ?_
    refine Ex.seg 1 (pc' := 163) (lc' := [some (.ref 34)]) (st' := [.int 18]) (h' := h) (sg1 rfl rfl rfl) ?_
    obtain rfl := Option.some.inj hf
    exact Ex.iret rfl rfl (fun c0 => by cases c0) hs
  rw [if_neg n2] at hf
  rcases Classical.em ((h.1 34 7) = 2) with n3 | n3
  · rw [if_pos n3] at hf
    refine Ex.swt (t := 164) rfl rfl (by rw [n3]; exact Or.inr ⟨by decide, by decide, _, rfl, by decide⟩) ?_
    refine Ex.seg 4 (pc' := 172) (lc' := [some (.ref 34)]) (st' := [.int (h.1 34 8), .ref 5]) (h' := h) (sg1 rfl rfl (sg1 rfl rfl (sg1 rfl rfl (sg1 rfl rfl rfl)))) ?_
    obtain ⟨q5, e_q5, hf⟩ := bnd hf
    refine Ex.callV (a := 5) (As := [.int (h.1 34 8)]) (r := []) (v := none) (h' := q5) rfl rfl (by decide) rfl (Nat.le_of_ble_eq_true rfl) rfl (E_229 (Nat.le_trans (by decide) hd) e_q5) rfl ?_
    refine Ex.seg 2 (pc' := 179) (lc' := [some (.ref 34)]) (st' := [.int (q5.1 34 8)]) (h' := q5) (sg1 rfl rfl (sg1 rfl rfl rfl)) ?_
    obtain rfl := Option.some.inj hf
    exact Ex.iret rfl rfl (fun c0 => by cases c0) hs
  rw [if_neg n3] at hf
  rcases Classical.em ((h.1 34 7) = 3) with n4 | n4
  · rw [if_pos n4] at hf
    refine Ex.swt (t := 180) rfl rfl (by rw [n4]; exact Or.inr ⟨by decide, by decide, _, rfl, by decide⟩) ?_
    refine Ex.seg 4 (pc' := 188) (lc' := [some (.ref 34)]) (st' := [.int (h.1 34 9), .ref 5]) (h' := h) (sg1 rfl rfl (sg1 rfl rfl (sg1 rfl rfl (sg1 rfl rfl rfl)))) ?_
    obtain ⟨q6, e_q6, hf⟩ := bnd hf
    refine Ex.callV (a := 5) (As := [.int (h.1 34 9)]) (r := []) (v := none) (h' := q6) rfl rfl (by decide) rfl (Nat.le_of_ble_eq_true rfl) rfl (E_229 (Nat.le_trans (by decide) hd) e_q6) rfl ?_
    refine Ex.seg 4 (pc' := 199) (lc' := [some (.ref 34)]) (st' := [.int (q6.1 34 9), .ref 5]) (h' := q6) (sg1 rfl rfl (sg1 rfl rfl (sg1 rfl rfl (sg1 rfl rfl rfl)))) ?_
    obtain ⟨q7, e_q7, hf⟩ := bnd hf
    refine Ex.callV (a := 5) (As := [.int (q6.1 34 9)]) (r := []) (v := none) (h' := q7) rfl rfl (by decide) rfl (Nat.le_of_ble_eq_true rfl) rfl (E_229 (Nat.le_trans (by decide) hd) e_q7) rfl ?_
    refine Ex.seg 3 (pc' := 208) (lc' := [some (.ref 34)]) (st' := [.int 11, .int (q7.1 34 8)]) (h' := q7) (sg1 rfl rfl (sg1 rfl rfl (sg1 rfl rfl rfl))) ?_
    refine Ex.icmp rfl rfl (fun (c0 : (q7.1 34 8) < 11) => ?_) (fun (c0 : ¬ ((q7.1 34 8) < 11)) => ?_)
    · rw [if_pos c0] at hf
      refine Ex.seg 2 (pc' := 219) (lc' := [some (.ref 34)]) (st' := [.int (q7.1 34 9)]) (h' := q7) (sg1 rfl rfl (sg1 rfl rfl rfl)) ?_
      exact Ex.weak (sm_le_n sm_le_nil) (B_32_219 hd  hf hs)
    · rw [if_neg c0] at hf
      refine Ex.seg 2 (pc' := 219) (lc' := [some (.ref 34)]) (st' := [.int 1]) (h' := q7) (sg1 rfl rfl (sg1 rfl rfl rfl)) ?_
      exact Ex.weak (sm_le_n sm_le_nil) (B_32_219 hd  hf hs)
  rw [if_neg n4] at hf
  rcases Classical.em ((h.1 34 7) = 19) with n5 | n5
  · rw [if_pos n5] at hf
    refine Ex.swt (t := 220) rfl rfl (by rw [n5]; exact Or.inr ⟨by decide, by decide, _, rfl, by decide⟩) ?_
    refine Ex.seg 4 (pc' := 228) (lc' := [some (.ref 34)]) (st' := [.int (h.1 34 9), .ref 5]) (h' := h) (sg1 rfl rfl (sg1 rfl rfl (sg1 rfl rfl (sg1 rfl rfl rfl)))) ?_
    obtain ⟨q8, e_q8, hf⟩ := bnd hf
    refine Ex.callV (a := 5) (As := [.int (h.1 34 9)]) (r := []) (v := none) (h' := q8) rfl rfl (by decide) rfl (Nat.le_of_ble_eq_true rfl) rfl (E_229 (Nat.le_trans (by decide) hd) e_q8) rfl ?_
    refine Ex.seg 2 (pc' := 235) (lc' := [some (.ref 34)]) (st' := [.int (q8.1 34 8)]) (h' := q8) (sg1 rfl rfl (sg1 rfl rfl rfl)) ?_
    obtain rfl := Option.some.inj hf
    exact Ex.iret rfl rfl (fun c0 => by cases c0) hs
  rw [if_neg n5] at hf
  rcases Classical.em ((h.1 34 7) = 20) with n6 | n6
  · rw [if_pos n6] at hf
    refine Ex.swt (t := 236) rfl rfl (by rw [n6]; exact Or.inr ⟨by decide, by decide, _, rfl, by decide⟩) ?_
    refine Ex.seg 3 (pc' := 241) (lc' := [some (.ref 34)]) (st' := [.int 5, .ref 5]) (h' := h) (sg1 rfl rfl (sg1 rfl rfl (sg1 rfl rfl rfl))) ?_
    obtain ⟨q9, e_q9, hf⟩ := bnd hf
    refine Ex.callV (a := 5) (As := [.int 5]) (r := []) (v := none) (h' := q9) rfl rfl (by decide) rfl (Nat.le_of_ble_eq_true rfl) rfl (E_229 (Nat.le_trans (by decide) hd) e_q9) rfl ?_
    refine Ex.seg 2 (pc' := 248) (lc' := [some (.ref 34)]) (st' := [.int (q9.1 34 8)]) (h' := q9) (sg1 rfl rfl (sg1 rfl rfl rfl)) ?_
    obtain rfl := Option.some.inj hf
    exact Ex.iret rfl rfl (fun c0 => by cases c0) hs
  rw [if_neg n6] at hf
  rcases Classical.em ((h.1 34 7) = 21) with n7 | n7
  · rw [if_pos n7] at hf
    refine Ex.swt (t := 249) rfl rfl (by rw [n7]; exact Or.inr ⟨by decide, by decide, _, rfl, by decide⟩) ?_
    refine Ex.seg 4 (pc' := 257) (lc' := [some (.ref 34)]) (st' := [.int (h.1 34 8), .ref 5]) (h' := h) (sg1 rfl rfl (sg1 rfl rfl (sg1 rfl rfl (sg1 rfl rfl rfl)))) ?_
    obtain ⟨q10, e_q10, hf⟩ := bnd hf
    refine Ex.callV (a := 5) (As := [.int (h.1 34 8)]) (r := []) (v := none) (h' := q10) rfl rfl (by decide) rfl (Nat.le_of_ble_eq_true rfl) rfl (E_229 (Nat.le_trans (by decide) hd) e_q10) rfl ?_
    refine Ex.seg 1 (pc' := 261) (lc' := [some (.ref 34)]) (st' := [.int 5]) (h' := q10) (sg1 rfl rfl rfl) ?_
    obtain rfl := Option.some.inj hf
    exact Ex.iret rfl rfl (fun c0 => by cases c0) hs
  rw [if_neg n7] at hf
  rcases Classical.em ((h.1 34 7) = 31) with n8 | n8
  · rw [if_pos n8] at hf
    refine Ex.swt (t := 262) rfl rfl (by rw [n8]; exact Or.inr ⟨by decide, by decide, _, rfl, by decide⟩) ?_
    refine Ex.seg 3 (pc' := 268) (lc' := [some (.ref 34)]) (st' := [.int 7, .ref 5]) (h' := h) (sg1 rfl rfl (sg1 rfl rfl (sg1 rfl rfl rfl))) ?_
    obtain ⟨q11, e_q11, hf⟩ := bnd hf
    refine Ex.callV (a := 5) (As := [.int 7]) (r := []) (v := none) (h' := q11) rfl rfl (by decide) rfl (Nat.le_of_ble_eq_true rfl) rfl (E_229 (Nat.le_trans (by decide) hd) e_q11) rfl ?_
    refine Ex.seg 1 (pc' := 272) (lc' := [some (.ref 34)]) (st' := [.int 1]) (h' := q11) (sg1 rfl rfl rfl) ?_
    obtain rfl := Option.some.inj hf
    exact Ex.iret rfl rfl (fun c0 => by cases c0) hs
  rw [if_neg n8] at hf
  rcases Classical.em ((h.1 34 7) = 32) with n9 | n9
  · rw [if_pos n9] at hf
    refine Ex.swt (t := 273) rfl rfl (by rw [n9]; exact Or.inr ⟨by decide, by decide, _, rfl, by decide⟩) ?_
    refine Ex.seg 3 (pc' := 279) (lc' := [some (.ref 34)]) (st' := [.int 7, .ref 5]) (h' := h) (sg1 rfl rfl (sg1 rfl rfl (sg1 rfl rfl rfl))) ?_
    obtain ⟨q12, e_q12, hf⟩ := bnd hf
    refine Ex.callV (a := 5) (As := [.int 7]) (r := []) (v := none) (h' := q12) rfl rfl (by decide) rfl (Nat.le_of_ble_eq_true rfl) rfl (E_229 (Nat.le_trans (by decide) hd) e_q12) rfl ?_
    refine Ex.seg 3 (pc' := 288) (lc' := [some (.ref 34)]) (st' := [.int 7, .ref 5]) (h' := q12) (sg1 rfl rfl (sg1 rfl rfl (sg1 rfl rfl rfl))) ?_
    obtain ⟨q13, e_q13, hf⟩ := bnd hf
    refine Ex.callV (a := 5) (As := [.int 7]) (r := []) (v := none) (h' := q13) rfl rfl (by decide) rfl (Nat.le_of_ble_eq_true rfl) rfl (E_229 (Nat.le_trans (by decide) hd) e_q13) rfl ?_
    refine Ex.seg 1 (pc' := 292) (lc' := [some (.ref 34)]) (st' := [.int 1]) (h' := q13) (sg1 rfl rfl rfl) ?_
    obtain rfl := Option.some.inj hf
    exact Ex.iret rfl rfl (fun c0 => by cases c0) hs
  rw [if_neg n9] at hf
  rcases Classical.em ((h.1 34 7) = 33) with n10 | n10
  · rw [if_pos n10] at hf
    refine Ex.swt (t := 293) rfl rfl (by rw [n10]; exact Or.inr ⟨by decide, by decide, _, rfl, by decide⟩) ?_
    refine Ex.seg 3 (pc' := 299) (lc' := [some (.ref 34)]) (st' := [.int 19, .ref 5]) (h' := h) (sg1 rfl rfl (sg1 rfl rfl (sg1 rfl rfl rfl))) ?_
    obtain ⟨q14, e_q14, hf⟩ := bnd hf
    refine Ex.callV (a := 5) (As := [.int 19]) (r := []) (v := none) (h' := q14) rfl rfl (by decide) rfl (Nat.le_of_ble_eq_true rfl) rfl (E_229 (Nat.le_trans (by decide) hd) e_q14) rfl ?_
    refine Ex.seg 1 (pc' := 303) (lc' := [some (.ref 34)]) (st' := [.int 5]) (h' := q14) (sg1 rfl rfl rfl) ?_
    obtain rfl := Option.some.inj hf
    exact Ex.iret rfl rfl (fun c0 => by cases c0) hs
  rw [if_neg n10] at hf
  refine Ex.swt (t := 304) rfl rfl (sw_dflt (by decide) (by decide) (fun k hk he => ?_)) ?_
  · have hk : k < 34 := hk
    rcases (show k = 0 ∨ k = 1 ∨ k = 2 ∨ k = 3 ∨ k = 4 ∨ k = 5 ∨ k = 6 ∨ k = 7 ∨ k = 8 ∨ k = 9 ∨ k = 10 ∨ k = 11 ∨ k = 12 ∨ k = 13 ∨ k = 14 ∨ k = 15 ∨ k = 16 ∨ k = 17 ∨ k = 18 ∨ k = 19 ∨ k = 20 ∨ k = 21 ∨ k = 22 ∨ k = 23 ∨ k = 24 ∨ k = 25 ∨ k = 26 ∨ k = 27 ∨ k = 28 ∨ k = 29 ∨ k = 30 ∨ k = 31 ∨ k = 32 ∨ k = 33 by omega) with rfl | rfl | rfl | rfl | rfl | rfl | rfl | rfl | rfl | rfl | rfl | rfl | rfl | rfl | rfl | rfl | rfl | rfl | rfl | rfl | rfl | rfl | rfl | rfl | rfl | rfl | rfl | rfl | rfl | rfl | rfl | rfl | rfl | rfl
    · exact absurd (Int32.toInt_inj.mp (he.symm.trans (by decide : (_ : Int) = Int32.toInt 0))) n1
    · exact absurd (Int32.toInt_inj.mp (he.symm.trans (by decide : (_ : Int) = Int32.toInt 1))) n2
    · exact absurd (Int32.toInt_inj.mp (he.symm.trans (by decide : (_ : Int) = Int32.toInt 2))) n3
    · exact absurd (Int32.toInt_inj.mp (he.symm.trans (by decide : (_ : Int) = Int32.toInt 3))) n4
    · rfl
    · rfl
    · rfl
    · rfl
    · rfl
    · rfl
    · rfl
    · rfl
    · rfl
    · rfl
    · rfl
    · rfl
    · rfl
    · rfl
    · rfl
    · exact absurd (Int32.toInt_inj.mp (he.symm.trans (by decide : (_ : Int) = Int32.toInt 19))) n5
    · exact absurd (Int32.toInt_inj.mp (he.symm.trans (by decide : (_ : Int) = Int32.toInt 20))) n6
    · exact absurd (Int32.toInt_inj.mp (he.symm.trans (by decide : (_ : Int) = Int32.toInt 21))) n7
    · rfl
    · rfl
    · rfl
    · rfl
    · rfl
    · rfl
    · rfl
    · rfl
    · rfl
    · exact absurd (Int32.toInt_inj.mp (he.symm.trans (by decide : (_ : Int) = Int32.toInt 31))) n8
    · exact absurd (Int32.toInt_inj.mp (he.symm.trans (by decide : (_ : Int) = Int32.toInt 32))) n9
    · exact absurd (Int32.toInt_inj.mp (he.symm.trans (by decide : (_ : Int) = Int32.toInt 33))) n10
  exact Ex.weak (sm_le_s sm_le_nil) (B_32_304 hd  hf hs)
theorem E_32 {L : Nat} {xs : Nat → Int32} {d : Nat} (hd : 3 ≤ d)  {h : sm_H} {r : Int32 × sm_H} (hf : F_32  h = some r) : RUN L xs d 32 [.ref 34] h (some (.int r.1), r.2) := by
  obtain ⟨d, rfl⟩ : ∃ e, d = e + 1 := ⟨d - 1, by omega⟩
  exact ⟨Nat.le_of_ble_eq_true rfl, B_32_0 (by omega) hf rfl⟩
theorem B_48_72 {L : Nat} {xs : Nat → Int32} {d : Nat} (hd : 2 ≤ d) {res : Option Value × sm_H} {S1 : (Int32 × Int32 × Int32 × Int64 × Nat × Int32 × sm_H) → Prop} (hS1 : ∀ s, S1 s → Ex (P_G L xs) (RUN L xs d) (sm_lk P_t48) 0 3 [some (.ref 10), some (.int s.1), some (.int s.2.1), some (.int s.2.2.1), some (.long s.2.2.2.1), none, some (.ref s.2.2.2.2.1), some (.int s.2.2.2.2.2.1)] [] s.2.2.2.2.2.2 res) {y1 : Int32} {y2 : Int32} {y3 : Int32} {y4 : Int64} {y6 : Nat} {y7 : Int32}  {h : sm_H} {r : ((Int32 × Int32 × Int32 × Int64 × Nat × Int32 × sm_H) ⊕ (Int32 × sm_H))} (hf : F_48_72 y1 y2 y3 y4 y6 y7 h = some r) (hs : (Sum.elim S1 (fun (r : Int32 × sm_H) => res = (some (.int r.1), r.2))) r) : Ex (P_G L xs) (RUN L xs d) (sm_lk P_t48) 0 72 [some (.ref 10), some (.int y1), some (.int y2), some (.int y3), some (.long y4), none, some (.ref y6), some (.int y7)] [] h res := by
  unfold F_48_72 at hf
  refine Ex.seg 1 (pc' := 75) (lc' := [some (.ref 10), some (.int y1), some (.int y2), some (.int y3), some (.long y4), none, some (.ref y6), some (.int (y7 + 1))]) (st' := []) (h' := h) (sg1 rfl rfl rfl) ?_
  obtain ⟨v1, e_v1, hf⟩ := bnd hf
  rw [Option.some.inj e_v1]
  refine Ex.seg 1 (pc' := 3) (lc' := [some (.ref 10), some (.int y1), some (.int y2), some (.int y3), some (.long y4), none, some (.ref y6), some (.int v1)]) (st' := []) (h' := h) (sg1 rfl rfl rfl) ?_
  obtain rfl := Option.some.inj hf
  exact Ex.weak (sm_le_s (sm_le_s (sm_le_s (sm_le_s (sm_le_s (sm_le_s (sm_le_s (sm_le_s sm_le_nil)))))))) (hS1 _ hs)
theorem B_48_3B {L : Nat} {xs : Nat → Int32} {d : Nat} (hd : 2 ≤ d) {res : Option Value × sm_H} {S1 : (Int32 × Int32 × Int32 × Int64 × Nat × Int32 × sm_H) → Prop} (hS1 : ∀ s, S1 s → Ex (P_G L xs) (RUN L xs d) (sm_lk P_t48) 0 3 [some (.ref 10), some (.int s.1), some (.int s.2.1), some (.int s.2.2.1), some (.long s.2.2.2.1), none, some (.ref s.2.2.2.2.1), some (.int s.2.2.2.2.2.1)] [] s.2.2.2.2.2.2 res) {s : (Int32 × Int32 × Int32 × Int64 × Nat × Int32 × sm_H)}  {r : ((Int32 × Int32 × Int32 × Int64 × Nat × Int32 × sm_H) ⊕ (Int32 × sm_H))} (hf : F_48_3B s = some r) (hs : (Sum.elim S1 (fun (r : Int32 × sm_H) => res = (some (.int r.1), r.2))) r) : Ex (P_G L xs) (RUN L xs d) (sm_lk P_t48) 0 3 [some (.ref 10), some (.int s.1), some (.int s.2.1), some (.int s.2.2.1), some (.long s.2.2.2.1), none, some (.ref s.2.2.2.2.1), some (.int s.2.2.2.2.2.1)] [] s.2.2.2.2.2.2 res := by
  unfold F_48_3B at hf
  refine Ex.seg 3 (pc' := 9) (lc' := [some (.ref 10), some (.int s.1), some (.int s.2.1), some (.int s.2.2.1), some (.long s.2.2.2.1), none, some (.ref s.2.2.2.2.1), some (.int s.2.2.2.2.2.1)]) (st' := [.int (s.2.2.2.2.2.2.1 10 11), .int s.2.2.2.2.2.1]) (h' := s.2.2.2.2.2.2) (sg1 rfl rfl (sg1 rfl rfl (sg1 rfl rfl rfl))) ?_
  refine Ex.icmp rfl rfl (fun (c0 : (s.2.2.2.2.2.2.1 10 11) ≤ s.2.2.2.2.2.1) => ?_) (fun (c0 : ¬ ((s.2.2.2.2.2.2.1 10 11) ≤ s.2.2.2.2.2.1)) => ?_)
  · rw [if_pos c0] at hf
    refine Ex.seg 1 (pc' := 79) (lc' := [some (.ref 10), some (.int s.1), some (.int s.2.1), some (.int s.2.2.1), some (.long s.2.2.2.1), none, some (.ref s.2.2.2.2.1), some (.int s.2.2.2.2.2.1)]) (st' := [.int (-1)]) (h' := s.2.2.2.2.2.2) (sg1 rfl rfl rfl) ?_
    obtain rfl := Option.some.inj hf
    exact Ex.iret rfl rfl (fun c0 => by cases c0) hs
  · rw [if_neg c0] at hf
    refine Ex.seg 3 (pc' := 18) (lc' := [some (.ref 10), some (.int s.1), some (.int s.2.1), some (.int s.2.2.1), some (.long s.2.2.2.1), none, some (.ref s.2.2.2.2.1), some (.int s.2.2.2.2.2.1)]) (st' := [.int s.2.2.2.2.2.1, .ref 11]) (h' := s.2.2.2.2.2.2) (sg1 rfl rfl (sg1 rfl rfl (sg1 rfl rfl rfl))) ?_
    obtain ⟨v2, e_v2, hf⟩ := bnd hf
    refine Ex.iald e_v2 rfl rfl ?_
    refine Ex.seg 1 (pc' := 20) (lc' := [some (.ref 10), some (.int s.1), some (.int s.2.1), some (.int s.2.2.1), some (.long s.2.2.2.1), none, some (.ref s.2.2.2.2.1), some (.int s.2.2.2.2.2.1)]) (st' := [.int s.1, .int v2]) (h' := s.2.2.2.2.2.2) (sg1 rfl rfl rfl) ?_
    refine Ex.icmp rfl rfl (fun (c0 : ¬ (v2 = s.1)) => ?_) (fun (c0 : ¬ ¬ (v2 = s.1)) => ?_)
    · rw [if_neg c0] at hf
      exact Ex.weak (sm_le_s (sm_le_s (sm_le_s (sm_le_s (sm_le_s (sm_le_s (sm_le_s (sm_le_s sm_le_nil)))))))) (B_48_72 hd hS1 hf hs)
    · rw [if_pos (Classical.not_not.mp c0)] at hf
      refine Ex.seg 3 (pc' := 29) (lc' := [some (.ref 10), some (.int s.1), some (.int s.2.1), some (.int s.2.2.1), some (.long s.2.2.2.1), none, some (.ref s.2.2.2.2.1), some (.int s.2.2.2.2.2.1)]) (st' := [.int s.2.2.2.2.2.1, .ref 12]) (h' := s.2.2.2.2.2.2) (sg1 rfl rfl (sg1 rfl rfl (sg1 rfl rfl rfl))) ?_
      obtain ⟨v3, e_v3, hf⟩ := bnd hf
      refine Ex.iald e_v3 rfl rfl ?_
      refine Ex.seg 1 (pc' := 31) (lc' := [some (.ref 10), some (.int s.1), some (.int s.2.1), some (.int s.2.2.1), some (.long s.2.2.2.1), none, some (.ref s.2.2.2.2.1), some (.int s.2.2.2.2.2.1)]) (st' := [.int s.2.1, .int v3]) (h' := s.2.2.2.2.2.2) (sg1 rfl rfl rfl) ?_
      refine Ex.icmp rfl rfl (fun (c0 : ¬ (v3 = s.2.1)) => ?_) (fun (c0 : ¬ ¬ (v3 = s.2.1)) => ?_)
      · rw [if_neg c0] at hf
        exact Ex.weak (sm_le_s (sm_le_s (sm_le_s (sm_le_s (sm_le_s (sm_le_s (sm_le_s (sm_le_s sm_le_nil)))))))) (B_48_72 hd hS1 hf hs)
      · rw [if_pos (Classical.not_not.mp c0)] at hf
        refine Ex.seg 3 (pc' := 40) (lc' := [some (.ref 10), some (.int s.1), some (.int s.2.1), some (.int s.2.2.1), some (.long s.2.2.2.1), none, some (.ref s.2.2.2.2.1), some (.int s.2.2.2.2.2.1)]) (st' := [.int s.2.2.2.2.2.1, .ref 13]) (h' := s.2.2.2.2.2.2) (sg1 rfl rfl (sg1 rfl rfl (sg1 rfl rfl rfl))) ?_
        obtain ⟨v4, e_v4, hf⟩ := bnd hf
        refine Ex.iald e_v4 rfl rfl ?_
        refine Ex.seg 1 (pc' := 42) (lc' := [some (.ref 10), some (.int s.1), some (.int s.2.1), some (.int s.2.2.1), some (.long s.2.2.2.1), none, some (.ref s.2.2.2.2.1), some (.int s.2.2.2.2.2.1)]) (st' := [.int s.2.2.1, .int v4]) (h' := s.2.2.2.2.2.2) (sg1 rfl rfl rfl) ?_
        refine Ex.icmp rfl rfl (fun (c0 : ¬ (v4 = s.2.2.1)) => ?_) (fun (c0 : ¬ ¬ (v4 = s.2.2.1)) => ?_)
        · rw [if_neg c0] at hf
          exact Ex.weak (sm_le_s (sm_le_s (sm_le_s (sm_le_s (sm_le_s (sm_le_s (sm_le_s (sm_le_s sm_le_nil)))))))) (B_48_72 hd hS1 hf hs)
        · rw [if_pos (Classical.not_not.mp c0)] at hf
          refine Ex.seg 3 (pc' := 51) (lc' := [some (.ref 10), some (.int s.1), some (.int s.2.1), some (.int s.2.2.1), some (.long s.2.2.2.1), none, some (.ref s.2.2.2.2.1), some (.int s.2.2.2.2.2.1)]) (st' := [.int s.2.2.2.2.2.1, .ref 14]) (h' := s.2.2.2.2.2.2) (sg1 rfl rfl (sg1 rfl rfl (sg1 rfl rfl rfl))) ?_
          obtain ⟨v5, e_v5, hf⟩ := bnd hf
          refine Ex.lald e_v5 rfl rfl ?_
          refine Ex.seg 2 (pc' := 55) (lc' := [some (.ref 10), some (.int s.1), some (.int s.2.1), some (.int s.2.2.1), some (.long s.2.2.2.1), none, some (.ref s.2.2.2.2.1), some (.int s.2.2.2.2.2.1)]) (st' := [.int (lg_cmp v5 s.2.2.2.1)]) (h' := s.2.2.2.2.2.2) (sg1 rfl rfl (sg1 rfl rfl rfl)) ?_
          refine Ex.ifc rfl rfl (fun (c0 : ¬ ((lg_cmp v5 s.2.2.2.1) = 0)) => ?_) (fun (c0 : ¬ ¬ ((lg_cmp v5 s.2.2.2.1) = 0)) => ?_)
          · rw [if_neg c0] at hf
            exact Ex.weak (sm_le_s (sm_le_s (sm_le_s (sm_le_s (sm_le_s (sm_le_s (sm_le_s (sm_le_s sm_le_nil)))))))) (B_48_72 hd hS1 hf hs)
          · rw [if_pos (Classical.not_not.mp c0)] at hf
            refine Ex.seg 3 (pc' := 63) (lc' := [some (.ref 10), some (.int s.1), some (.int s.2.1), some (.int s.2.2.1), some (.long s.2.2.2.1), none, some (.ref s.2.2.2.2.1), some (.int s.2.2.2.2.2.1)]) (st' := [.ref s.2.2.2.2.1, .int s.2.2.2.2.2.1, .ref 10]) (h' := s.2.2.2.2.2.2) (sg1 rfl rfl (sg1 rfl rfl (sg1 rfl rfl rfl))) ?_
            obtain ⟨q6, e_q6, hf⟩ := bnd hf
            refine Ex.callV (a := 10) (As := [.int s.2.2.2.2.2.1, .ref s.2.2.2.2.1]) (r := []) (v := some (.int q6.1)) (h' := q6.2) rfl rfl (by decide) rfl (Nat.le_of_ble_eq_true rfl) rfl (E_49 (Nat.le_trans (by decide) hd) e_q6) rfl ?_
            refine Ex.ifc rfl rfl (fun (c0 : q6.1 = 0) => ?_) (fun (c0 : ¬ (q6.1 = 0)) => ?_)
            · rw [if_pos c0] at hf
              exact Ex.weak (sm_le_s (sm_le_s (sm_le_s (sm_le_s (sm_le_s (sm_le_s (sm_le_s (sm_le_s sm_le_nil)))))))) (B_48_72 hd hS1 hf hs)
            · rw [if_neg c0] at hf
              refine Ex.seg 1 (pc' := 71) (lc' := [some (.ref 10), some (.int s.1), some (.int s.2.1), some (.int s.2.2.1), some (.long s.2.2.2.1), none, some (.ref s.2.2.2.2.1), some (.int s.2.2.2.2.2.1)]) (st' := [.int s.2.2.2.2.2.1]) (h' := q6.2) (sg1 rfl rfl rfl) ?_
              obtain rfl := Option.some.inj hf
              exact Ex.iret rfl rfl (fun c0 => by cases c0) hs
theorem B_48_3 {L : Nat} {xs : Nat → Int32} {d : Nat} (hd : 2 ≤ d) {res : Option Value × sm_H} {y1 : Int32} {y2 : Int32} {y3 : Int32} {y4 : Int64} {y6 : Nat} {y7 : Int32}  {h : sm_H} {r : (Int32 × sm_H)} (hf : F_48_3 y1 y2 y3 y4 y6 y7 h = some r) (hs : (fun (r : Int32 × sm_H) => res = (some (.int r.1), r.2)) r) : Ex (P_G L xs) (RUN L xs d) (sm_lk P_t48) 0 3 [some (.ref 10), some (.int y1), some (.int y2), some (.int y3), some (.long y4), none, some (.ref y6), some (.int y7)] [] h res := by
  unfold F_48_3 at hf
  exact lp_ok (P := fun (s : (Int32 × Int32 × Int32 × Int64 × Nat × Int32 × sm_H)) => Ex (P_G L xs) (RUN L xs d) (sm_lk P_t48) 0 3 [some (.ref 10), some (.int s.1), some (.int s.2.1), some (.int s.2.2.1), some (.long s.2.2.2.1), none, some (.ref s.2.2.2.2.1), some (.int s.2.2.2.2.2.1)] [] s.2.2.2.2.2.2 res) (S := (fun (r : Int32 × sm_H) => res = (some (.int r.1), r.2))) (fun s x hx hsx => by
    intros
    exact B_48_3B hd  (fun _ q => q) hx hsx) 1000000 _ r hf hs
theorem B_48_0 {L : Nat} {xs : Nat → Int32} {d : Nat} (hd : 2 ≤ d) {res : Option Value × sm_H} {x1 : Int32} {x2 : Int32} {x3 : Int32} {x4 : Int64} {x6 : Nat}  {h : sm_H} {r : (Int32 × sm_H)} (hf : F_48_0 x1 x2 x3 x4 x6 h = some r) (hs : (fun (r : Int32 × sm_H) => res = (some (.int r.1), r.2)) r) : Ex (P_G L xs) (RUN L xs d) (sm_lk P_t48) 0 0 [some (.ref 10), some (.int x1), some (.int x2), some (.int x3), some (.long x4), none, some (.ref x6), none] [] h res := by
  unfold F_48_0 at hf
  refine Ex.seg 2 (pc' := 3) (lc' := [some (.ref 10), some (.int x1), some (.int x2), some (.int x3), some (.long x4), none, some (.ref x6), some (.int 0)]) (st' := []) (h' := h) (sg1 rfl rfl (sg1 rfl rfl rfl)) ?_
  exact Ex.weak (sm_le_s (sm_le_s (sm_le_s (sm_le_s (sm_le_s (sm_le_s (sm_le_s (sm_le_s sm_le_nil)))))))) (B_48_3 hd  hf hs)
theorem E_48 {L : Nat} {xs : Nat → Int32} {d : Nat} (hd : 3 ≤ d) {x1 : Int32} {x2 : Int32} {x3 : Int32} {x4 : Int64} {x6 : Nat} {h : sm_H} {r : Int32 × sm_H} (hf : F_48 x1 x2 x3 x4 x6 h = some r) : RUN L xs d 48 [.ref 10, .int x1, .int x2, .int x3, .long x4, .ref x6] h (some (.int r.1), r.2) := by
  obtain ⟨d, rfl⟩ : ∃ e, d = e + 1 := ⟨d - 1, by omega⟩
  exact ⟨Nat.le_of_ble_eq_true rfl, B_48_0 (by omega) hf rfl⟩
theorem B_73_0 {L : Nat} {xs : Nat → Int32} {d : Nat} (hd : 3 ≤ d) {res : Option Value × sm_H} {x1 : Int32} {x2 : Int32} {x3 : Int64}  {h : sm_H} {r : (sm_H)} (hf : F_73_0 x1 x2 x3 h = some r) (hs : (fun (r : sm_H) => res = (none, r)) r) : Ex (P_G L xs) (RUN L xs d) (sm_lk P_t73) 0 0 [some (.ref 49), some (.int x1), some (.int x2), some (.long x3), none] [] h res := by
  unfold F_73_0 at hf
  refine Ex.seg 7 (pc' := 9) (lc' := [some (.ref 49), some (.int x1), some (.int x2), some (.long x3), none]) (st' := [.long x3, .int x2, .ref 21, .int x1, .int 0, .ref 49]) (h' := h) (sg1 rfl rfl (sg1 rfl rfl (sg1 rfl rfl (sg1 rfl rfl (sg1 rfl rfl (sg1 rfl rfl (sg1 rfl rfl rfl))))))) ?_
  obtain ⟨q1, e_q1, hf⟩ := bnd hf
  refine Ex.callV (a := 21) (As := [.int x2, .long x3]) (r := [.int x1, .int 0, .ref 49]) (v := some (.long q1.1)) (h' := q1.2) rfl rfl (by decide) rfl (Nat.le_of_ble_eq_true rfl) rfl (E_153 (Nat.le_trans (by decide) hd) e_q1) rfl ?_
  refine Ex.seg 4 (pc' := 18) (lc' := [some (.ref 49), some (.int x1), some (.int x2), some (.long x3), none]) (st' := [.long x3, .int x2, .ref 21, .long q1.1, .int x1, .int 0, .ref 49]) (h' := q1.2) (sg1 rfl rfl (sg1 rfl rfl (sg1 rfl rfl (sg1 rfl rfl rfl)))) ?_
  obtain ⟨q2, e_q2, hf⟩ := bnd hf
  refine Ex.callV (a := 21) (As := [.int x2, .long x3]) (r := [.long q1.1, .int x1, .int 0, .ref 49]) (v := some (.int q2.1)) (h' := q2.2) rfl rfl (by decide) rfl (Nat.le_of_ble_eq_true rfl) rfl (E_154 (Nat.le_trans (by decide) hd) e_q2) rfl ?_
  obtain ⟨q3, e_q3, hf⟩ := bnd hf
  refine Ex.callV (a := 49) (As := [.int 0, .int x1, .long q1.1, .int q2.1]) (r := []) (v := none) (h' := q3) rfl rfl (by decide) rfl (Nat.le_of_ble_eq_true rfl) rfl (E_79 (Nat.le_trans (by decide) hd) e_q3) rfl ?_
  obtain rfl := Option.some.inj hf
  exact Ex.vret rfl rfl hs
theorem E_73 {L : Nat} {xs : Nat → Int32} {d : Nat} (hd : 4 ≤ d) {x1 : Int32} {x2 : Int32} {x3 : Int64} {h : sm_H} {r : sm_H} (hf : F_73 x1 x2 x3 h = some r) : RUN L xs d 73 [.ref 49, .int x1, .int x2, .long x3] h (none, r) := by
  obtain ⟨d, rfl⟩ : ∃ e, d = e + 1 := ⟨d - 1, by omega⟩
  exact ⟨Nat.le_of_ble_eq_true rfl, B_73_0 (by omega) hf rfl⟩
theorem B_90_127 {L : Nat} {xs : Nat → Int32} {d : Nat} (hd : 3 ≤ d) {res : Option Value × sm_H} {z0 : Int32}  {h : sm_H} {r : (Int32 × sm_H)} (hf : F_90_127 z0 h = some r) (hs : (fun (r : Int32 × sm_H) => res = (some (.int r.1), r.2)) r) : Ex (P_G L xs) (RUN L xs d) (sm_lk P_t90) 0 127 [none, none, none, none] [.int z0] h res := by
  unfold F_90_127 at hf
  obtain rfl := Option.some.inj hf
  exact Ex.iret rfl rfl (fun c0 => by cases c0) hs
theorem B_90_122 {L : Nat} {xs : Nat → Int32} {d : Nat} (hd : 3 ≤ d) {res : Option Value × sm_H}   {h : sm_H} {r : (Int32 × sm_H)} (hf : F_90_122  h = some r) (hs : (fun (r : Int32 × sm_H) => res = (some (.int r.1), r.2)) r) : Ex (P_G L xs) (RUN L xs d) (sm_lk P_t90) 0 122 [none, none, none, none] [] h res := by
  unfold F_90_122 at hf
  refine Ex.seg 2 (pc' := 127) (lc' := [none, none, none, none]) (st' := [.int 0]) (h' := h) (sg1 rfl rfl (sg1 rfl rfl rfl)) ?_
  exact Ex.weak (sm_le_s (sm_le_s (sm_le_s (sm_le_s sm_le_nil)))) (B_90_127 hd  hf hs)
theorem B_90_80 {L : Nat} {xs : Nat → Int32} {d : Nat} (hd : 3 ≤ d) {res : Option Value × sm_H}   {h : sm_H} {r : (Int32 × sm_H)} (hf : F_90_80  h = some r) (hs : (fun (r : Int32 × sm_H) => res = (some (.int r.1), r.2)) r) : Ex (P_G L xs) (RUN L xs d) (sm_lk P_t90) 0 80 [none, none, none, none] [] h res := by
  unfold F_90_80 at hf
  refine Ex.seg 1 (pc' := 81) (lc' := [none, none, none, none]) (st' := [.int 0]) (h' := h) (sg1 rfl rfl rfl) ?_
  obtain rfl := Option.some.inj hf
  exact Ex.iret rfl rfl (fun c0 => by cases c0) hs
theorem B_90_8 {L : Nat} {xs : Nat → Int32} {d : Nat} (hd : 3 ≤ d) {res : Option Value × sm_H}   {h : sm_H} {r : (Int32 × sm_H)} (hf : F_90_8  h = some r) (hs : (fun (r : Int32 × sm_H) => res = (some (.int r.1), r.2)) r) : Ex (P_G L xs) (RUN L xs d) (sm_lk P_t90) 0 8 [some (.ref 49), none, none, none] [] h res := by
  unfold F_90_8 at hf
  refine Ex.seg 3 (pc' := 11) (lc' := [some (.ref 49), none, none, none]) (st' := [.int 0, .long 0, .ref 49]) (h' := h) (sg1 rfl rfl (sg1 rfl rfl (sg1 rfl rfl rfl))) ?_
  obtain ⟨q1, e_q1, hf⟩ := bnd hf
  refine Ex.callV (a := 49) (As := [.long 0, .int 0]) (r := []) (v := some (.int q1.1)) (h' := q1.2) rfl rfl (by decide) rfl (Nat.le_of_ble_eq_true rfl) rfl (E_75 (Nat.le_trans (by decide) hd) e_q1) rfl ?_
  refine Ex.seg 2 (pc' := 16) (lc' := [some (.ref 49), none, none, none]) (st' := [.int 0]) (h' := q1.2) (sg1 rfl rfl (sg1 rfl rfl rfl)) ?_
  obtain rfl := Option.some.inj hf
  exact Ex.iret rfl rfl (fun c0 => by cases c0) hs
theorem B_90_0 {L : Nat} {xs : Nat → Int32} {d : Nat} (hd : 3 ≤ d) {res : Option Value × sm_H} {x1 : Int32} {x2 : Int32} {x3 : Int32}  {h : sm_H} {r : (Int32 × sm_H)} (hf : F_90_0 x1 x2 x3 h = some r) (hs : (fun (r : Int32 × sm_H) => res = (some (.int r.1), r.2)) r) : Ex (P_G L xs) (RUN L xs d) (sm_lk P_t90) 0 0 [some (.ref 49), some (.int x1), some (.int x2), some (.int x3)] [] h res := by
  unfold F_90_0 at hf
  refine Ex.seg 1 (pc' := 1) (lc' := [some (.ref 49), some (.int x1), some (.int x2), some (.int x3)]) (st' := [.int x1]) (h' := h) (sg1 rfl rfl rfl) ?_
  refine Ex.ifc rfl rfl (fun (c0 : x1 = 0) => ?_) (fun (c0 : ¬ (x1 = 0)) => ?_)
  · rw [if_pos c0] at hf
    exact Ex.weak (sm_le_s (sm_le_n (sm_le_n (sm_le_n sm_le_nil)))) (B_90_8 hd  hf hs)
  · rw [if_neg c0] at hf
    refine Ex.seg 1 (pc' := 5) (lc' := [some (.ref 49), some (.int x1), some (.int x2), some (.int x3)]) (st' := [.int x2]) (h' := h) (sg1 rfl rfl rfl) ?_
    refine Ex.ifc rfl rfl (fun (c0 : ¬ (x2 = 0)) => ?_) (fun (c0 : ¬ ¬ (x2 = 0)) => ?_)
    · rw [if_neg c0] at hf
      refine Ex.seg 2 (pc' := 19) (lc' := [some (.ref 49), some (.int x1), some (.int x2), some (.int x3)]) (st' := [.int x2, .int x1]) (h' := h) (sg1 rfl rfl (sg1 rfl rfl rfl)) ?_
      refine Ex.icmp rfl rfl (fun (c0 : ¬ (x1 = x2)) => ?_) (fun (c0 : ¬ ¬ (x1 = x2)) => ?_)
      · rw [if_neg c0] at hf
        refine Ex.seg 3 (pc' := 29) (lc' := [some (.ref 49), some (.int x1), some (.int x2), some (.int x3)]) (st' := [.int x1, .ref 1]) (h' := h) (sg1 rfl rfl (sg1 rfl rfl (sg1 rfl rfl rfl))) ?_
        obtain ⟨q2, e_q2, hf⟩ := bnd hf
        refine Ex.callV (a := 1) (As := [.int x1]) (r := []) (v := some (.int q2.1)) (h' := q2.2) rfl rfl (by decide) rfl (Nat.le_of_ble_eq_true rfl) rfl (E_56 (Nat.le_trans (by decide) hd) e_q2) rfl ?_
        refine Ex.ifc rfl rfl (fun (c0 : q2.1 = 0) => ?_) (fun (c0 : ¬ (q2.1 = 0)) => ?_)
        · rw [if_pos c0] at hf
          refine Ex.seg 3 (pc' := 87) (lc' := [some (.ref 49), some (.int x1), some (.int x2), some (.int x3)]) (st' := [.int x2, .ref 1]) (h' := q2.2) (sg1 rfl rfl (sg1 rfl rfl (sg1 rfl rfl rfl))) ?_
          obtain ⟨q3, e_q3, hf⟩ := bnd hf
          refine Ex.callV (a := 1) (As := [.int x2]) (r := []) (v := some (.int q3.1)) (h' := q3.2) rfl rfl (by decide) rfl (Nat.le_of_ble_eq_true rfl) rfl (E_56 (Nat.le_trans (by decide) hd) e_q3) rfl ?_
          refine Ex.ifc rfl rfl (fun (c0 : q3.1 = 0) => ?_) (fun (c0 : ¬ (q3.1 = 0)) => ?_)
          · rw [if_pos c0] at hf
            refine Ex.seg 2 (pc' := 104) (lc' := [some (.ref 49), some (.int x1), some (.int x2), some (.int x3)]) (st' := [.int (q3.2.1 49 10)]) (h' := q3.2) (sg1 rfl rfl (sg1 rfl rfl rfl)) ?_
            refine Ex.ifc rfl rfl (fun (c0 : (q3.2.1 49 10) = 0) => ?_) (fun (c0 : ¬ ((q3.2.1 49 10) = 0)) => ?_)
            · rw [if_pos c0] at hf
              exact Ex.weak (sm_le_n (sm_le_n (sm_le_n (sm_le_n sm_le_nil)))) (B_90_122 hd  hf hs)
            · rw [if_neg c0] at hf
              refine Ex.seg 5 (pc' := 116) (lc' := [some (.ref 49), some (.int x1), some (.int x2), some (.int x3)]) (st' := [.int x2, .int (q3.2.1 49 10), .ref 1]) (h' := q3.2) (sg1 rfl rfl (sg1 rfl rfl (sg1 rfl rfl (sg1 rfl rfl (sg1 rfl rfl rfl))))) ?_
              obtain ⟨q4, e_q4, hf⟩ := bnd hf
              refine Ex.callV (a := 1) (As := [.int (q3.2.1 49 10), .int x2]) (r := []) (v := some (.int q4.1)) (h' := q4.2) rfl rfl (by decide) rfl (Nat.le_of_ble_eq_true rfl) rfl (E_60 (Nat.le_trans (by decide) hd) e_q4) rfl ?_
              refine Ex.ifc rfl rfl (fun (c0 : q4.1 = 0) => ?_) (fun (c0 : ¬ (q4.1 = 0)) => ?_)
              · rw [if_pos c0] at hf
                refine Ex.seg 1 (pc' := 127) (lc' := [some (.ref 49), some (.int x1), some (.int x2), some (.int x3)]) (st' := [.int 2]) (h' := q4.2) (sg1 rfl rfl rfl) ?_
                exact Ex.weak (sm_le_n (sm_le_n (sm_le_n (sm_le_n sm_le_nil)))) (B_90_127 hd  hf hs)
              · rw [if_neg c0] at hf
                exact Ex.weak (sm_le_n (sm_le_n (sm_le_n (sm_le_n sm_le_nil)))) (B_90_122 hd  hf hs)
          · rw [if_neg c0] at hf
            refine Ex.seg 3 (pc' := 96) (lc' := [some (.ref 49), some (.int x1), some (.int x2), some (.int x3)]) (st' := [.int x3, .int x2, .ref 49]) (h' := q3.2) (sg1 rfl rfl (sg1 rfl rfl (sg1 rfl rfl rfl))) ?_
            obtain ⟨q5, e_q5, hf⟩ := bnd hf
            refine Ex.callV (a := 49) (As := [.int x2, .int x3]) (r := []) (v := some (.int q5.1)) (h' := q5.2) rfl rfl (by decide) rfl (Nat.le_of_ble_eq_true rfl) rfl (E_91 (Nat.le_trans (by decide) hd) e_q5) rfl ?_
            obtain rfl := Option.some.inj hf
            exact Ex.iret rfl rfl (fun c0 => by cases c0) hs
        · rw [if_neg c0] at hf
          refine Ex.seg 3 (pc' := 40) (lc' := [some (.ref 49), some (.int x1), some (.int x2), some (.int x3)]) (st' := [.int x2, .ref 1]) (h' := q2.2) (sg1 rfl rfl (sg1 rfl rfl (sg1 rfl rfl rfl))) ?_
          obtain ⟨q6, e_q6, hf⟩ := bnd hf
          refine Ex.callV (a := 1) (As := [.int x2]) (r := []) (v := some (.int q6.1)) (h' := q6.2) rfl rfl (by decide) rfl (Nat.le_of_ble_eq_true rfl) rfl (E_56 (Nat.le_trans (by decide) hd) e_q6) rfl ?_
          refine Ex.ifc rfl rfl (fun (c0 : q6.1 = 0) => ?_) (fun (c0 : ¬ (q6.1 = 0)) => ?_)
          · rw [if_pos c0] at hf
            refine Ex.seg 6 (pc' := 76) (lc' := [some (.ref 49), some (.int x1), some (.int x2), some (.int x3)]) (st' := [.int (x1 + 8), .long (q6.2.2.1 49 9), .ref 49]) (h' := q6.2) (sg1 rfl rfl (sg1 rfl rfl (sg1 rfl rfl (sg1 rfl rfl (sg1 rfl rfl (sg1 rfl rfl rfl)))))) ?_
            obtain ⟨q7, e_q7, hf⟩ := bnd hf
            refine Ex.callV (a := 49) (As := [.long (q6.2.2.1 49 9), .int (x1 + 8)]) (r := []) (v := some (.int q7.1)) (h' := q7.2) rfl rfl (by decide) rfl (Nat.le_of_ble_eq_true rfl) rfl (E_75 (Nat.le_trans (by decide) hd) e_q7) rfl ?_
            refine Ex.seg 1 (pc' := 80) (lc' := [some (.ref 49), some (.int x1), some (.int x2), some (.int x3)]) (st' := []) (h' := q7.2) (sg1 rfl rfl rfl) ?_
            exact Ex.weak (sm_le_n (sm_le_n (sm_le_n (sm_le_n sm_le_nil)))) (B_90_80 hd  hf hs)
          · rw [if_neg c0] at hf
            refine Ex.seg 6 (pc' := 56) (lc' := [some (.ref 49), some (.int x1), some (.int x2), some (.int x3)]) (st' := [.int x2, .long (q6.2.2.1 49 9), .ref 1, .ref 49]) (h' := q6.2) (sg1 rfl rfl (sg1 rfl rfl (sg1 rfl rfl (sg1 rfl rfl (sg1 rfl rfl (sg1 rfl rfl rfl)))))) ?_
            obtain ⟨q8, e_q8, hf⟩ := bnd hf
            refine Ex.callV (a := 1) (As := [.long (q6.2.2.1 49 9), .int x2]) (r := [.ref 49]) (v := some (.long q8.1)) (h' := q8.2) rfl rfl (by decide) rfl (Nat.le_of_ble_eq_true rfl) rfl (E_68 (Nat.le_trans (by decide) hd) e_q8) rfl ?_
            refine Ex.seg 1 (pc' := 60) (lc' := [some (.ref 49), some (.int x1), some (.int x2), some (.int x3)]) (st' := [.int 0, .long q8.1, .ref 49]) (h' := q8.2) (sg1 rfl rfl rfl) ?_
            obtain ⟨q9, e_q9, hf⟩ := bnd hf
            refine Ex.callV (a := 49) (As := [.long q8.1, .int 0]) (r := []) (v := some (.int q9.1)) (h' := q9.2) rfl rfl (by decide) rfl (Nat.le_of_ble_eq_true rfl) rfl (E_75 (Nat.le_trans (by decide) hd) e_q9) rfl ?_
            refine Ex.seg 2 (pc' := 80) (lc' := [some (.ref 49), some (.int x1), some (.int x2), some (.int x3)]) (st' := []) (h' := q9.2) (sg1 rfl rfl (sg1 rfl rfl rfl)) ?_
            exact Ex.weak (sm_le_n (sm_le_n (sm_le_n (sm_le_n sm_le_nil)))) (B_90_80 hd  hf hs)
      · rw [if_pos (Classical.not_not.mp c0)] at hf
        refine Ex.seg 1 (pc' := 23) (lc' := [some (.ref 49), some (.int x1), some (.int x2), some (.int x3)]) (st' := [.int 0]) (h' := h) (sg1 rfl rfl rfl) ?_
        obtain rfl := Option.some.inj hf
        exact Ex.iret rfl rfl (fun c0 => by cases c0) hs
    · rw [if_pos (Classical.not_not.mp c0)] at hf
      exact Ex.weak (sm_le_s (sm_le_n (sm_le_n (sm_le_n sm_le_nil)))) (B_90_8 hd  hf hs)
theorem E_90 {L : Nat} {xs : Nat → Int32} {d : Nat} (hd : 4 ≤ d) {x1 : Int32} {x2 : Int32} {x3 : Int32} {h : sm_H} {r : Int32 × sm_H} (hf : F_90 x1 x2 x3 h = some r) : RUN L xs d 90 [.ref 49, .int x1, .int x2, .int x3] h (some (.int r.1), r.2) := by
  obtain ⟨d, rfl⟩ : ∃ e, d = e + 1 := ⟨d - 1, by omega⟩
  exact ⟨Nat.le_of_ble_eq_true rfl, B_90_0 (by omega) hf rfl⟩
theorem B_99_106 {L : Nat} {xs : Nat → Int32} {d : Nat} (hd : 3 ≤ d) {res : Option Value × sm_H} {z0 : Int32}  {h : sm_H} {r : (Int32 × sm_H)} (hf : F_99_106 z0 h = some r) (hs : (fun (r : Int32 × sm_H) => res = (some (.int r.1), r.2)) r) : Ex (P_G L xs) (RUN L xs d) (sm_lk P_t99) 0 106 [none, none, none, none, none, none, none] [.int z0] h res := by
  unfold F_99_106 at hf
  obtain rfl := Option.some.inj hf
  exact Ex.iret rfl rfl (fun c0 => by cases c0) hs
theorem B_99_100 {L : Nat} {xs : Nat → Int32} {d : Nat} (hd : 3 ≤ d) {res : Option Value × sm_H} {y3 : Int32}  {h : sm_H} {r : (Int32 × sm_H)} (hf : F_99_100 y3 h = some r) (hs : (fun (r : Int32 × sm_H) => res = (some (.int r.1), r.2)) r) : Ex (P_G L xs) (RUN L xs d) (sm_lk P_t99) 0 100 [none, none, none, some (.int y3), none, none, none] [] h res := by
  unfold F_99_100 at hf
  refine Ex.seg 2 (pc' := 106) (lc' := [none, none, none, some (.int y3), none, none, none]) (st' := [.int y3]) (h' := h) (sg1 rfl rfl (sg1 rfl rfl rfl)) ?_
  exact Ex.weak (sm_le_s (sm_le_s (sm_le_s (sm_le_n (sm_le_s (sm_le_s (sm_le_s sm_le_nil))))))) (B_99_106 hd  hf hs)
theorem B_99_88 {L : Nat} {xs : Nat → Int32} {d : Nat} (hd : 3 ≤ d) {res : Option Value × sm_H} {y3 : Int32} {y5 : Int32} {z0 : Int32}  {h : sm_H} {r : (Int32 × sm_H)} (hf : F_99_88 y3 y5 z0 h = some r) (hs : (fun (r : Int32 × sm_H) => res = (some (.int r.1), r.2)) r) : Ex (P_G L xs) (RUN L xs d) (sm_lk P_t99) 0 88 [none, none, none, some (.int y3), none, some (.int y5), none] [.int z0] h res := by
  unfold F_99_88 at hf
  refine Ex.seg 2 (pc' := 92) (lc' := [none, none, none, some (.int y3), none, some (.int y5), some (.int z0)]) (st' := [.int y5]) (h' := h) (sg1 rfl rfl (sg1 rfl rfl rfl)) ?_
  refine Ex.ifc rfl rfl (fun (c0 : ¬ (y5 = 0)) => ?_) (fun (c0 : ¬ ¬ (y5 = 0)) => ?_)
  · rw [if_neg c0] at hf
    exact Ex.weak (sm_le_s (sm_le_s (sm_le_s (sm_le_s (sm_le_s (sm_le_n (sm_le_n sm_le_nil))))))) (B_99_100 hd  hf hs)
  · rw [if_pos (Classical.not_not.mp c0)] at hf
    refine Ex.seg 1 (pc' := 97) (lc' := [none, none, none, some (.int y3), none, some (.int y5), some (.int z0)]) (st' := [.int z0]) (h' := h) (sg1 rfl rfl rfl) ?_
    refine Ex.ifc rfl rfl (fun (c0 : z0 = 0) => ?_) (fun (c0 : ¬ (z0 = 0)) => ?_)
    · rw [if_pos c0] at hf
      refine Ex.seg 1 (pc' := 106) (lc' := [none, none, none, some (.int y3), none, some (.int y5), some (.int z0)]) (st' := [.int (-5)]) (h' := h) (sg1 rfl rfl rfl) ?_
      exact Ex.weak (sm_le_s (sm_le_s (sm_le_s (sm_le_n (sm_le_s (sm_le_n (sm_le_n sm_le_nil))))))) (B_99_106 hd  hf hs)
    · rw [if_neg c0] at hf
      exact Ex.weak (sm_le_s (sm_le_s (sm_le_s (sm_le_s (sm_le_s (sm_le_n (sm_le_n sm_le_nil))))))) (B_99_100 hd  hf hs)
theorem B_99_87 {L : Nat} {xs : Nat → Int32} {d : Nat} (hd : 3 ≤ d) {res : Option Value × sm_H} {y3 : Int32} {y5 : Int32}  {h : sm_H} {r : (Int32 × sm_H)} (hf : F_99_87 y3 y5 h = some r) (hs : (fun (r : Int32 × sm_H) => res = (some (.int r.1), r.2)) r) : Ex (P_G L xs) (RUN L xs d) (sm_lk P_t99) 0 87 [none, none, none, some (.int y3), none, some (.int y5), none] [] h res := by
  unfold F_99_87 at hf
  refine Ex.seg 1 (pc' := 88) (lc' := [none, none, none, some (.int y3), none, some (.int y5), none]) (st' := [.int 0]) (h' := h) (sg1 rfl rfl rfl) ?_
  exact Ex.weak (sm_le_s (sm_le_s (sm_le_s (sm_le_s (sm_le_s (sm_le_s (sm_le_s sm_le_nil))))))) (B_99_88 hd  hf hs)
theorem B_99_47 {L : Nat} {xs : Nat → Int32} {d : Nat} (hd : 3 ≤ d) {res : Option Value × sm_H} {y1 : Int32} {y3 : Int32} {y4 : Int32} {z0 : Int32}  {h : sm_H} {r : (Int32 × sm_H)} (hf : F_99_47 y1 y3 y4 z0 h = some r) (hs : (fun (r : Int32 × sm_H) => res = (some (.int r.1), r.2)) r) : Ex (P_G L xs) (RUN L xs d) (sm_lk P_t99) 0 47 [some (.ref 49), some (.int y1), none, some (.int y3), some (.int y4), none, none] [.int z0] h res := by
  unfold F_99_47 at hf
  refine Ex.seg 4 (pc' := 54) (lc' := [some (.ref 49), some (.int y1), none, some (.int y3), some (.int y4), some (.int z0), none]) (st' := [.int y1, .ref 10]) (h' := h) (sg1 rfl rfl (sg1 rfl rfl (sg1 rfl rfl (sg1 rfl rfl rfl)))) ?_
  obtain ⟨q1, e_q1, hf⟩ := bnd hf
  refine Ex.callV (a := 10) (As := [.int y1]) (r := []) (v := some (.int q1.1)) (h' := q1.2) rfl rfl (by decide) rfl (Nat.le_of_ble_eq_true rfl) rfl (E_37 (Nat.le_trans (by decide) hd) e_q1) rfl ?_
  refine Ex.seg 1 (pc' := 59) (lc' := [some (.ref 49), some (.int y1), none, some (.int y3), some (.int y4), some (.int z0), none]) (st' := [.int 28, .int q1.1]) (h' := q1.2) (sg1 rfl rfl rfl) ?_
  refine Ex.icmp rfl rfl (fun (c0 : ¬ (q1.1 = 28)) => ?_) (fun (c0 : ¬ ¬ (q1.1 = 28)) => ?_)
  · rw [if_neg c0] at hf
    exact Ex.weak (sm_le_n (sm_le_n (sm_le_s (sm_le_s (sm_le_n (sm_le_s (sm_le_s sm_le_nil))))))) (B_99_87 hd  hf hs)
  · rw [if_pos (Classical.not_not.mp c0)] at hf
    refine Ex.seg 5 (pc' := 71) (lc' := [some (.ref 49), some (.int y1), none, some (.int y3), some (.int y4), some (.int z0), none]) (st' := [.int y3, .ref 10, .ref 5]) (h' := q1.2) (sg1 rfl rfl (sg1 rfl rfl (sg1 rfl rfl (sg1 rfl rfl (sg1 rfl rfl rfl))))) ?_
    obtain ⟨q2, e_q2, hf⟩ := bnd hf
    refine Ex.callV (a := 10) (As := [.int y3]) (r := [.ref 5]) (v := some (.int q2.1)) (h' := q2.2) rfl rfl (by decide) rfl (Nat.le_of_ble_eq_true rfl) rfl (E_41 (Nat.le_trans (by decide) hd) e_q2) rfl ?_
    refine Ex.seg 2 (pc' := 77) (lc' := [some (.ref 49), some (.int y1), none, some (.int y3), some (.int y4), some (.int z0), none]) (st' := [.int 0, .int y4, .int q2.1, .ref 5]) (h' := q2.2) (sg1 rfl rfl (sg1 rfl rfl rfl)) ?_
    obtain ⟨q3, e_q3, hf⟩ := bnd hf
    refine Ex.callV (a := 5) (As := [.int q2.1, .int y4, .int 0]) (r := []) (v := some (.int q3.1)) (h' := q3.2) rfl rfl (by decide) rfl (Nat.le_of_ble_eq_true rfl) rfl (E_236 (Nat.le_trans (by decide) hd) e_q3) rfl ?_
    refine Ex.ifc rfl rfl (fun (c0 : q3.1 = 0) => ?_) (fun (c0 : ¬ (q3.1 = 0)) => ?_)
    · rw [if_pos c0] at hf
      exact Ex.weak (sm_le_n (sm_le_n (sm_le_s (sm_le_s (sm_le_n (sm_le_s (sm_le_s sm_le_nil))))))) (B_99_87 hd  hf hs)
    · rw [if_neg c0] at hf
      refine Ex.seg 2 (pc' := 88) (lc' := [some (.ref 49), some (.int y1), none, some (.int y3), some (.int y4), some (.int z0), none]) (st' := [.int 1]) (h' := q3.2) (sg1 rfl rfl (sg1 rfl rfl rfl)) ?_
      exact Ex.weak (sm_le_n (sm_le_n (sm_le_s (sm_le_s (sm_le_n (sm_le_s (sm_le_s sm_le_nil))))))) (B_99_88 hd  hf hs)
theorem B_99_0 {L : Nat} {xs : Nat → Int32} {d : Nat} (hd : 3 ≤ d) {res : Option Value × sm_H} {x1 : Int32} {x2 : Int32}  {h : sm_H} {r : (Int32 × sm_H)} (hf : F_99_0 x1 x2 h = some r) (hs : (fun (r : Int32 × sm_H) => res = (some (.int r.1), r.2)) r) : Ex (P_G L xs) (RUN L xs d) (sm_lk P_t99) 0 0 [some (.ref 49), some (.int x1), some (.int x2), none, none, none, none] [] h res := by
  unfold F_99_0 at hf
  refine Ex.seg 3 (pc' := 3) (lc' := [some (.ref 49), some (.int x1), some (.int x2), none, none, none, none]) (st' := [.int 0, .int x2, .ref 49]) (h' := h) (sg1 rfl rfl (sg1 rfl rfl (sg1 rfl rfl rfl))) ?_
  obtain ⟨q4, e_q4, hf⟩ := bnd hf
  refine Ex.callV (a := 49) (As := [.int x2, .int 0]) (r := []) (v := some (.int q4.1)) (h' := q4.2) rfl rfl (by decide) rfl (Nat.le_of_ble_eq_true rfl) rfl (E_78 (Nat.le_trans (by decide) hd) e_q4) rfl ?_
  refine Ex.ifc rfl rfl (fun (c0 : ¬ (q4.1 = 0)) => ?_) (fun (c0 : ¬ ¬ (q4.1 = 0)) => ?_)
  · rw [if_neg c0] at hf
    refine Ex.seg 3 (pc' := 14) (lc' := [some (.ref 49), some (.int x1), some (.int x2), none, none, none, none]) (st' := [.int 0, .int x2, .ref 49]) (h' := q4.2) (sg1 rfl rfl (sg1 rfl rfl (sg1 rfl rfl rfl))) ?_
    obtain ⟨q5, e_q5, hf⟩ := bnd hf
    refine Ex.callV (a := 49) (As := [.int x2, .int 0]) (r := []) (v := some (.long q5.1)) (h' := q5.2) rfl rfl (by decide) rfl (Nat.le_of_ble_eq_true rfl) rfl (E_77 (Nat.le_trans (by decide) hd) e_q5) rfl ?_
    refine Ex.seg 2 (pc' := 19) (lc' := [some (.ref 49), some (.int x1), some (.int x2), some (.int (Int64.toInt32 q5.1)), none, none, none]) (st' := []) (h' := q5.2) (sg1 rfl rfl (sg1 rfl rfl rfl)) ?_
    obtain ⟨v6, e_v6, hf⟩ := bnd hf
    rw [Option.some.inj e_v6]
    refine Ex.seg 3 (pc' := 24) (lc' := [some (.ref 49), some (.int x1), some (.int x2), some (.int v6), none, none, none]) (st' := [.int x1, .ref 10]) (h' := q5.2) (sg1 rfl rfl (sg1 rfl rfl (sg1 rfl rfl rfl))) ?_
    obtain ⟨q7, e_q7, hf⟩ := bnd hf
    refine Ex.callV (a := 10) (As := [.int x1]) (r := []) (v := some (.int q7.1)) (h' := q7.2) rfl rfl (by decide) rfl (Nat.le_of_ble_eq_true rfl) rfl (E_39 (Nat.le_trans (by decide) hd) e_q7) rfl ?_
    refine Ex.seg 4 (pc' := 34) (lc' := [some (.ref 49), some (.int x1), some (.int x2), some (.int v6), some (.int q7.1), none, none]) (st' := [.int v6, .ref 10]) (h' := q7.2) (sg1 rfl rfl (sg1 rfl rfl (sg1 rfl rfl (sg1 rfl rfl rfl)))) ?_
    obtain ⟨q8, e_q8, hf⟩ := bnd hf
    refine Ex.callV (a := 10) (As := [.int v6]) (r := []) (v := some (.int q8.1)) (h' := q8.2) rfl rfl (by decide) rfl (Nat.le_of_ble_eq_true rfl) rfl (E_41 (Nat.le_trans (by decide) hd) e_q8) rfl ?_
    refine Ex.seg 1 (pc' := 39) (lc' := [some (.ref 49), some (.int x1), some (.int x2), some (.int v6), some (.int q7.1), none, none]) (st' := [.int q7.1, .int q8.1]) (h' := q8.2) (sg1 rfl rfl rfl) ?_
    refine Ex.icmp rfl rfl (fun (c0 : ¬ (q8.1 = q7.1)) => ?_) (fun (c0 : ¬ ¬ (q8.1 = q7.1)) => ?_)
    · rw [if_neg c0] at hf
      refine Ex.seg 1 (pc' := 47) (lc' := [some (.ref 49), some (.int x1), some (.int x2), some (.int v6), some (.int q7.1), none, none]) (st' := [.int 0]) (h' := q8.2) (sg1 rfl rfl rfl) ?_
      exact Ex.weak (sm_le_s (sm_le_s (sm_le_n (sm_le_s (sm_le_s (sm_le_s (sm_le_s sm_le_nil))))))) (B_99_47 hd  hf hs)
    · rw [if_pos (Classical.not_not.mp c0)] at hf
      refine Ex.seg 2 (pc' := 47) (lc' := [some (.ref 49), some (.int x1), some (.int x2), some (.int v6), some (.int q7.1), none, none]) (st' := [.int 1]) (h' := q8.2) (sg1 rfl rfl (sg1 rfl rfl rfl)) ?_
      exact Ex.weak (sm_le_s (sm_le_s (sm_le_n (sm_le_s (sm_le_s (sm_le_s (sm_le_s sm_le_nil))))))) (B_99_47 hd  hf hs)
  · rw [if_pos (Classical.not_not.mp c0)] at hf
    refine Ex.seg 1 (pc' := 10) (lc' := [some (.ref 49), some (.int x1), some (.int x2), none, none, none, none]) (st' := [.int (-1)]) (h' := q4.2) (sg1 rfl rfl rfl) ?_
    obtain rfl := Option.some.inj hf
    exact Ex.iret rfl rfl (fun c0 => by cases c0) hs
theorem E_99 {L : Nat} {xs : Nat → Int32} {d : Nat} (hd : 4 ≤ d) {x1 : Int32} {x2 : Int32} {h : sm_H} {r : Int32 × sm_H} (hf : F_99 x1 x2 h = some r) : RUN L xs d 99 [.ref 49, .int x1, .int x2] h (some (.int r.1), r.2) := by
  obtain ⟨d, rfl⟩ : ∃ e, d = e + 1 := ⟨d - 1, by omega⟩
  exact ⟨Nat.le_of_ble_eq_true rfl, B_99_0 (by omega) hf rfl⟩
theorem B_108_0 {L : Nat} {xs : Nat → Int32} {d : Nat} (hd : 3 ≤ d) {res : Option Value × sm_H} {x1 : Int32} {x2 : Int32}  {h : sm_H} {r : (Int32 × sm_H)} (hf : F_108_0 x1 x2 h = some r) (hs : (fun (r : Int32 × sm_H) => res = (some (.int r.1), r.2)) r) : Ex (P_G L xs) (RUN L xs d) (sm_lk P_t108) 0 0 [some (.ref 49), some (.int x1), some (.int x2), none, none, none] [] h res := by
  unfold F_108_0 at hf
  refine Ex.seg 3 (pc' := 3) (lc' := [some (.ref 49), some (.int x1), some (.int x2), none, none, none]) (st' := [.int 0, .int x2, .ref 49]) (h' := h) (sg1 rfl rfl (sg1 rfl rfl (sg1 rfl rfl rfl))) ?_
  obtain ⟨q1, e_q1, hf⟩ := bnd hf
  refine Ex.callV (a := 49) (As := [.int x2, .int 0]) (r := []) (v := some (.int q1.1)) (h' := q1.2) rfl rfl (by decide) rfl (Nat.le_of_ble_eq_true rfl) rfl (E_78 (Nat.le_trans (by decide) hd) e_q1) rfl ?_
  refine Ex.ifc rfl rfl (fun (c0 : ¬ (q1.1 = 0)) => ?_) (fun (c0 : ¬ ¬ (q1.1 = 0)) => ?_)
  · rw [if_neg c0] at hf
    refine Ex.seg 5 (pc' := 22) (lc' := [some (.ref 49), some (.int x1), some (.int x2), none, none, none]) (st' := [.int 0, .int x2, .ref 49, .ref 21]) (h' := q1.2) (sg1 rfl rfl (sg1 rfl rfl (sg1 rfl rfl (sg1 rfl rfl (sg1 rfl rfl rfl))))) ?_
    obtain ⟨q2, e_q2, hf⟩ := bnd hf
    refine Ex.callV (a := 49) (As := [.int x2, .int 0]) (r := [.ref 21]) (v := some (.long q2.1)) (h' := q2.2) rfl rfl (by decide) rfl (Nat.le_of_ble_eq_true rfl) rfl (E_77 (Nat.le_trans (by decide) hd) e_q2) rfl ?_
    obtain ⟨q3, e_q3, hf⟩ := bnd hf
    refine Ex.callV (a := 21) (As := [.long q2.1]) (r := []) (v := some (.ref q3.1)) (h' := q3.2) rfl rfl (by decide) rfl (Nat.le_of_ble_eq_true rfl) rfl (E_147 (Nat.le_trans (by decide) hd) e_q3) rfl ?_
    refine Ex.seg 4 (pc' := 32) (lc' := [some (.ref 49), some (.int x1), some (.int x2), some (.ref q3.1), none, none]) (st' := [.int 1, .int x2, .ref 49]) (h' := q3.2) (sg1 rfl rfl (sg1 rfl rfl (sg1 rfl rfl (sg1 rfl rfl rfl)))) ?_
    obtain ⟨q4, e_q4, hf⟩ := bnd hf
    refine Ex.callV (a := 49) (As := [.int x2, .int 1]) (r := []) (v := some (.long q4.1)) (h' := q4.2) rfl rfl (by decide) rfl (Nat.le_of_ble_eq_true rfl) rfl (E_77 (Nat.le_trans (by decide) hd) e_q4) rfl ?_
    refine Ex.seg 2 (pc' := 38) (lc' := [some (.ref 49), some (.int x1), some (.int x2), some (.ref q3.1), some (.int (Int64.toInt32 q4.1)), none]) (st' := []) (h' := q4.2) (sg1 rfl rfl (sg1 rfl rfl rfl)) ?_
    obtain ⟨v5, e_v5, hf⟩ := bnd hf
    rw [Option.some.inj e_v5]
    refine Ex.seg 2 (pc' := 41) (lc' := [some (.ref 49), some (.int x1), some (.int x2), some (.ref q3.1), some (.int v5), none]) (st' := [.int v5, .ref q3.1]) (h' := q4.2) (sg1 rfl rfl (sg1 rfl rfl rfl)) ?_
    have g7 : sm_is G0 q4.2 q3.1 8 = true := Classical.byContradiction (fun z => by rw [if_pos z] at hf; cases hf)
    rw [if_neg (fun z => z g7)] at hf
    obtain ⟨q6, e_q6, hf⟩ := bnd hf
    refine Ex.callV (a := q3.1) (As := [.int v5]) (r := []) (v := some (.int q6.1)) (h' := q6.2) rfl rfl (by decide) rfl (Nat.le_of_ble_eq_true rfl) g7 (E_217 (Nat.le_trans (by decide) hd) e_q6) rfl ?_
    refine Ex.ifc rfl rfl (fun (c0 : ¬ (q6.1 = 0)) => ?_) (fun (c0 : ¬ ¬ (q6.1 = 0)) => ?_)
    · rw [if_neg c0] at hf
      refine Ex.seg 3 (pc' := 59) (lc' := [some (.ref 49), some (.int x1), some (.int x2), some (.ref q3.1), some (.int v5), none]) (st' := [.int x1, .ref 10]) (h' := q6.2) (sg1 rfl rfl (sg1 rfl rfl (sg1 rfl rfl rfl))) ?_
      obtain ⟨q8, e_q8, hf⟩ := bnd hf
      refine Ex.callV (a := 10) (As := [.int x1]) (r := []) (v := some (.int q8.1)) (h' := q8.2) rfl rfl (by decide) rfl (Nat.le_of_ble_eq_true rfl) rfl (E_37 (Nat.le_trans (by decide) hd) e_q8) rfl ?_
      refine Ex.seg 5 (pc' := 69) (lc' := [some (.ref 49), some (.int x1), some (.int x2), some (.ref q3.1), some (.int v5), some (.int ((q8.1 - 22) + 4))]) (st' := []) (h' := q8.2) (sg1 rfl rfl (sg1 rfl rfl (sg1 rfl rfl (sg1 rfl rfl (sg1 rfl rfl rfl))))) ?_
      obtain ⟨v9, e_v9, hf⟩ := bnd hf
      rw [Option.some.inj e_v9]
      refine Ex.seg 9 (pc' := 84) (lc' := [some (.ref 49), some (.int x1), some (.int x2), some (.ref q3.1), some (.int v5), some (.int v9)]) (st' := [.int x1, .ref 10, .ref 1, .int v9, .int v5, .ref q3.1, .ref 49]) (h' := q8.2) (sg1 rfl rfl (sg1 rfl rfl (sg1 rfl rfl (sg1 rfl rfl (sg1 rfl rfl (sg1 rfl rfl (sg1 rfl rfl (sg1 rfl rfl (sg1 rfl rfl rfl))))))))) ?_
      obtain ⟨q10, e_q10, hf⟩ := bnd hf
      refine Ex.callV (a := 10) (As := [.int x1]) (r := [.ref 1, .int v9, .int v5, .ref q3.1, .ref 49]) (v := some (.int q10.1)) (h' := q10.2) rfl rfl (by decide) rfl (Nat.le_of_ble_eq_true rfl) rfl (E_38 (Nat.le_trans (by decide) hd) e_q10) rfl ?_
      obtain ⟨q11, e_q11, hf⟩ := bnd hf
      refine Ex.callV (a := 1) (As := [.int q10.1]) (r := [.int v9, .int v5, .ref q3.1, .ref 49]) (v := some (.int q11.1)) (h' := q11.2) rfl rfl (by decide) rfl (Nat.le_of_ble_eq_true rfl) rfl (E_63 (Nat.le_trans (by decide) hd) e_q11) rfl ?_
      refine Ex.seg 2 (pc' := 92) (lc' := [some (.ref 49), some (.int x1), some (.int x2), some (.ref q3.1), some (.int v5), some (.int v9)]) (st' := [.int 2, .int x2, .int q11.1, .int v9, .int v5, .ref q3.1, .ref 49]) (h' := q11.2) (sg1 rfl rfl (sg1 rfl rfl rfl)) ?_
      obtain ⟨q12, e_q12, hf⟩ := bnd hf
      refine Ex.callV (a := 49) (As := [.ref q3.1, .int v5, .int v9, .int q11.1, .int x2, .int 2]) (r := []) (v := some (.int q12.1)) (h' := q12.2) rfl rfl (by decide) rfl (Nat.le_of_ble_eq_true rfl) rfl (E_110 (Nat.le_trans (by decide) hd) e_q12) rfl ?_
      obtain rfl := Option.some.inj hf
      exact Ex.iret rfl rfl (fun c0 => by cases c0) hs
    · rw [if_pos (Classical.not_not.mp c0)] at hf
      refine Ex.seg 2 (pc' := 50) (lc' := [some (.ref 49), some (.int x1), some (.int x2), some (.ref q3.1), some (.int v5), none]) (st' := [.int 6, .ref 49]) (h' := q6.2) (sg1 rfl rfl (sg1 rfl rfl rfl)) ?_
      obtain ⟨q13, e_q13, hf⟩ := bnd hf
      refine Ex.callV (a := 49) (As := [.int 6]) (r := []) (v := some (.int q13.1)) (h' := q13.2) rfl rfl (by decide) rfl (Nat.le_of_ble_eq_true rfl) rfl (E_76 (Nat.le_trans (by decide) hd) e_q13) rfl ?_
      obtain rfl := Option.some.inj hf
      exact Ex.iret rfl rfl (fun c0 => by cases c0) hs
  · rw [if_pos (Classical.not_not.mp c0)] at hf
    refine Ex.seg 2 (pc' := 11) (lc' := [some (.ref 49), some (.int x1), some (.int x2), none, none, none]) (st' := [.int 1, .ref 49]) (h' := q1.2) (sg1 rfl rfl (sg1 rfl rfl rfl)) ?_
    obtain ⟨q14, e_q14, hf⟩ := bnd hf
    refine Ex.callV (a := 49) (As := [.int 1]) (r := []) (v := some (.int q14.1)) (h' := q14.2) rfl rfl (by decide) rfl (Nat.le_of_ble_eq_true rfl) rfl (E_76 (Nat.le_trans (by decide) hd) e_q14) rfl ?_
    obtain rfl := Option.some.inj hf
    exact Ex.iret rfl rfl (fun c0 => by cases c0) hs
theorem E_108 {L : Nat} {xs : Nat → Int32} {d : Nat} (hd : 4 ≤ d) {x1 : Int32} {x2 : Int32} {h : sm_H} {r : Int32 × sm_H} (hf : F_108 x1 x2 h = some r) : RUN L xs d 108 [.ref 49, .int x1, .int x2] h (some (.int r.1), r.2) := by
  obtain ⟨d, rfl⟩ : ∃ e, d = e + 1 := ⟨d - 1, by omega⟩
  exact ⟨Nat.le_of_ble_eq_true rfl, B_108_0 (by omega) hf rfl⟩
theorem B_109_0 {L : Nat} {xs : Nat → Int32} {d : Nat} (hd : 3 ≤ d) {res : Option Value × sm_H} {x1 : Int32} {x2 : Int32}  {h : sm_H} {r : (Int32 × sm_H)} (hf : F_109_0 x1 x2 h = some r) (hs : (fun (r : Int32 × sm_H) => res = (some (.int r.1), r.2)) r) : Ex (P_G L xs) (RUN L xs d) (sm_lk P_t109) 0 0 [some (.ref 49), some (.int x1), some (.int x2), none, none, none] [] h res := by
  unfold F_109_0 at hf
  refine Ex.seg 3 (pc' := 5) (lc' := [some (.ref 49), some (.int x1), some (.int x2), none, none, none]) (st' := [.int x1, .ref 10]) (h' := h) (sg1 rfl rfl (sg1 rfl rfl (sg1 rfl rfl rfl))) ?_
  obtain ⟨q1, e_q1, hf⟩ := bnd hf
  refine Ex.callV (a := 10) (As := [.int x1]) (r := []) (v := some (.int q1.1)) (h' := q1.2) rfl rfl (by decide) rfl (Nat.le_of_ble_eq_true rfl) rfl (E_38 (Nat.le_trans (by decide) hd) e_q1) rfl ?_
  refine Ex.seg 4 (pc' := 14) (lc' := [some (.ref 49), some (.int x1), some (.int x2), some (.int q1.1), none, none]) (st' := [.int x1, .ref 10]) (h' := q1.2) (sg1 rfl rfl (sg1 rfl rfl (sg1 rfl rfl (sg1 rfl rfl rfl)))) ?_
  obtain ⟨q2, e_q2, hf⟩ := bnd hf
  refine Ex.callV (a := 10) (As := [.int x1]) (r := []) (v := some (.int q2.1)) (h' := q2.2) rfl rfl (by decide) rfl (Nat.le_of_ble_eq_true rfl) rfl (E_39 (Nat.le_trans (by decide) hd) e_q2) rfl ?_
  refine Ex.seg 4 (pc' := 24) (lc' := [some (.ref 49), some (.int x1), some (.int x2), some (.int q1.1), some (.int q2.1), none]) (st' := [.int q1.1, .ref 38]) (h' := q2.2) (sg1 rfl rfl (sg1 rfl rfl (sg1 rfl rfl (sg1 rfl rfl rfl)))) ?_
  obtain ⟨q3, e_q3, hf⟩ := bnd hf
  refine Ex.callV (a := 38) (As := [.int q1.1]) (r := []) (v := some (.int q3.1)) (h' := q3.2) rfl rfl (by decide) rfl (Nat.le_of_ble_eq_true rfl) rfl (E_129 (Nat.le_trans (by decide) hd) e_q3) rfl ?_
  refine Ex.seg 4 (pc' := 34) (lc' := [some (.ref 49), some (.int x1), some (.int x2), some (.int q1.1), some (.int q2.1), some (.int q3.1)]) (st' := [.int q1.1, .ref 38]) (h' := q3.2) (sg1 rfl rfl (sg1 rfl rfl (sg1 rfl rfl (sg1 rfl rfl rfl)))) ?_
  obtain ⟨q4, e_q4, hf⟩ := bnd hf
  refine Ex.callV (a := 38) (As := [.int q1.1]) (r := []) (v := some (.int q4.1)) (h' := q4.2) rfl rfl (by decide) rfl (Nat.le_of_ble_eq_true rfl) rfl (E_130 (Nat.le_trans (by decide) hd) e_q4) rfl ?_
  refine Ex.ifc rfl rfl (fun (c0 : q4.1 = 0) => ?_) (fun (c0 : ¬ (q4.1 = 0)) => ?_)
  · rw [if_pos c0] at hf
    refine Ex.seg 3 (pc' := 69) (lc' := [some (.ref 49), some (.int x1), some (.int x2), some (.int q1.1), some (.int q2.1), some (.int q3.1)]) (st' := [.int 0, .int x2, .ref 49]) (h' := q4.2) (sg1 rfl rfl (sg1 rfl rfl (sg1 rfl rfl rfl))) ?_
    obtain ⟨q5, e_q5, hf⟩ := bnd hf
    refine Ex.callV (a := 49) (As := [.int x2, .int 0]) (r := []) (v := some (.int q5.1)) (h' := q5.2) rfl rfl (by decide) rfl (Nat.le_of_ble_eq_true rfl) rfl (E_78 (Nat.le_trans (by decide) hd) e_q5) rfl ?_
    refine Ex.ifc rfl rfl (fun (c0 : ¬ (q5.1 = 0)) => ?_) (fun (c0 : ¬ ¬ (q5.1 = 0)) => ?_)
    · rw [if_neg c0] at hf
      refine Ex.seg 6 (pc' := 89) (lc' := [some (.ref 49), some (.int x1), some (.int x2), some (.int q1.1), some (.int q2.1), some (.int q3.1)]) (st' := [.int 0, .int x2, .ref 49, .ref 21, .ref 49]) (h' := q5.2) (sg1 rfl rfl (sg1 rfl rfl (sg1 rfl rfl (sg1 rfl rfl (sg1 rfl rfl (sg1 rfl rfl rfl)))))) ?_
      obtain ⟨q6, e_q6, hf⟩ := bnd hf
      refine Ex.callV (a := 49) (As := [.int x2, .int 0]) (r := [.ref 21, .ref 49]) (v := some (.long q6.1)) (h' := q6.2) rfl rfl (by decide) rfl (Nat.le_of_ble_eq_true rfl) rfl (E_77 (Nat.le_trans (by decide) hd) e_q6) rfl ?_
      obtain ⟨q7, e_q7, hf⟩ := bnd hf
      refine Ex.callV (a := 21) (As := [.long q6.1]) (r := [.ref 49]) (v := some (.ref q7.1)) (h' := q7.2) rfl rfl (by decide) rfl (Nat.le_of_ble_eq_true rfl) rfl (E_147 (Nat.le_trans (by decide) hd) e_q7) rfl ?_
      refine Ex.seg 5 (pc' := 104) (lc' := [some (.ref 49), some (.int x1), some (.int x2), some (.int q1.1), some (.int q2.1), some (.int q3.1)]) (st' := [.int q1.1, .ref 38, .int q2.1, .int q3.1, .ref q7.1, .ref 49]) (h' := q7.2) (sg1 rfl rfl (sg1 rfl rfl (sg1 rfl rfl (sg1 rfl rfl (sg1 rfl rfl rfl))))) ?_
      obtain ⟨q8, e_q8, hf⟩ := bnd hf
      refine Ex.callV (a := 38) (As := [.int q1.1]) (r := [.int q2.1, .int q3.1, .ref q7.1, .ref 49]) (v := some (.int q8.1)) (h' := q8.2) rfl rfl (by decide) rfl (Nat.le_of_ble_eq_true rfl) rfl (E_128 (Nat.le_trans (by decide) hd) e_q8) rfl ?_
      refine Ex.seg 2 (pc' := 109) (lc' := [some (.ref 49), some (.int x1), some (.int x2), some (.int q1.1), some (.int q2.1), some (.int q3.1)]) (st' := [.int 1, .int x2, .int q8.1, .int q2.1, .int q3.1, .ref q7.1, .ref 49]) (h' := q8.2) (sg1 rfl rfl (sg1 rfl rfl rfl)) ?_
      obtain ⟨q9, e_q9, hf⟩ := bnd hf
      refine Ex.callV (a := 49) (As := [.ref q7.1, .int q3.1, .int q2.1, .int q8.1, .int x2, .int 1]) (r := []) (v := some (.int q9.1)) (h' := q9.2) rfl rfl (by decide) rfl (Nat.le_of_ble_eq_true rfl) rfl (E_110 (Nat.le_trans (by decide) hd) e_q9) rfl ?_
      obtain rfl := Option.some.inj hf
      exact Ex.iret rfl rfl (fun c0 => by cases c0) hs
    · rw [if_pos (Classical.not_not.mp c0)] at hf
      refine Ex.seg 2 (pc' := 77) (lc' := [some (.ref 49), some (.int x1), some (.int x2), some (.int q1.1), some (.int q2.1), some (.int q3.1)]) (st' := [.int 1, .ref 49]) (h' := q5.2) (sg1 rfl rfl (sg1 rfl rfl rfl)) ?_
      obtain ⟨q10, e_q10, hf⟩ := bnd hf
      refine Ex.callV (a := 49) (As := [.int 1]) (r := []) (v := some (.int q10.1)) (h' := q10.2) rfl rfl (by decide) rfl (Nat.le_of_ble_eq_true rfl) rfl (E_76 (Nat.le_trans (by decide) hd) e_q10) rfl ?_
      obtain rfl := Option.some.inj hf
      exact Ex.iret rfl rfl (fun c0 => by cases c0) hs
  · rw [if_neg c0] at hf
    refine Ex.seg 3 (pc' := 45) (lc' := [some (.ref 49), some (.int x1), some (.int x2), some (.int q1.1), some (.int q2.1), some (.int q3.1)]) (st' := [.ref 21, .ref 49]) (h' := q4.2) (sg1 rfl rfl (sg1 rfl rfl (sg1 rfl rfl rfl))) ?_
    obtain ⟨q11, e_q11, hf⟩ := bnd hf
    refine Ex.callV (a := 21) (As := []) (r := [.ref 49]) (v := some (.ref q11.1)) (h' := q11.2) rfl rfl (by decide) rfl (Nat.le_of_ble_eq_true rfl) rfl (E_145 (Nat.le_trans (by decide) hd) e_q11) rfl ?_
    refine Ex.seg 5 (pc' := 57) (lc' := [some (.ref 49), some (.int x1), some (.int x2), some (.int q1.1), some (.int q2.1), some (.int q3.1)]) (st' := [.int q1.1, .ref 38, .int q2.1, .int q3.1, .ref q11.1, .ref 49]) (h' := q11.2) (sg1 rfl rfl (sg1 rfl rfl (sg1 rfl rfl (sg1 rfl rfl (sg1 rfl rfl rfl))))) ?_
    obtain ⟨q12, e_q12, hf⟩ := bnd hf
    refine Ex.callV (a := 38) (As := [.int q1.1]) (r := [.int q2.1, .int q3.1, .ref q11.1, .ref 49]) (v := some (.int q12.1)) (h' := q12.2) rfl rfl (by decide) rfl (Nat.le_of_ble_eq_true rfl) rfl (E_128 (Nat.le_trans (by decide) hd) e_q12) rfl ?_
    refine Ex.seg 2 (pc' := 62) (lc' := [some (.ref 49), some (.int x1), some (.int x2), some (.int q1.1), some (.int q2.1), some (.int q3.1)]) (st' := [.int 0, .int x2, .int q12.1, .int q2.1, .int q3.1, .ref q11.1, .ref 49]) (h' := q12.2) (sg1 rfl rfl (sg1 rfl rfl rfl)) ?_
    obtain ⟨q13, e_q13, hf⟩ := bnd hf
    refine Ex.callV (a := 49) (As := [.ref q11.1, .int q3.1, .int q2.1, .int q12.1, .int x2, .int 0]) (r := []) (v := some (.int q13.1)) (h' := q13.2) rfl rfl (by decide) rfl (Nat.le_of_ble_eq_true rfl) rfl (E_110 (Nat.le_trans (by decide) hd) e_q13) rfl ?_
    obtain rfl := Option.some.inj hf
    exact Ex.iret rfl rfl (fun c0 => by cases c0) hs
theorem E_109 {L : Nat} {xs : Nat → Int32} {d : Nat} (hd : 4 ≤ d) {x1 : Int32} {x2 : Int32} {h : sm_H} {r : Int32 × sm_H} (hf : F_109 x1 x2 h = some r) : RUN L xs d 109 [.ref 49, .int x1, .int x2] h (some (.int r.1), r.2) := by
  obtain ⟨d, rfl⟩ : ∃ e, d = e + 1 := ⟨d - 1, by omega⟩
  exact ⟨Nat.le_of_ble_eq_true rfl, B_109_0 (by omega) hf rfl⟩
theorem B_115_87 {L : Nat} {xs : Nat → Int32} {d : Nat} (hd : 3 ≤ d) {res : Option Value × sm_H} {y1 : Int32} {y2 : Int32} {y3 : Int32} {y4 : Int32} {y5 : Int32} {z1 : Int32} {z2 : Int32}  {h : sm_H} {r : (Int32 × sm_H)} (hf : F_115_87 y1 y2 y3 y4 y5 z1 z2 h = some r) (hs : (fun (r : Int32 × sm_H) => res = (some (.int r.1), r.2)) r) : Ex (P_G L xs) (RUN L xs d) (sm_lk P_t115) 0 87 [some (.ref 38), some (.int y1), some (.int y2), some (.int y3), some (.int y4), some (.int y5)] [.int z2, .int z1, .ref 5] h res := by
  unfold F_115_87 at hf
  refine Ex.seg 3 (pc' := 92) (lc' := [some (.ref 38), some (.int y1), some (.int y2), some (.int y3), some (.int y4), some (.int y5)]) (st' := [.int y3, .ref 10, .int z2, .int z1, .ref 5]) (h' := h) (sg1 rfl rfl (sg1 rfl rfl (sg1 rfl rfl rfl))) ?_
  obtain ⟨q1, e_q1, hf⟩ := bnd hf
  refine Ex.callV (a := 10) (As := [.int y3]) (r := [.int z2, .int z1, .ref 5]) (v := some (.int q1.1)) (h' := q1.2) rfl rfl (by decide) rfl (Nat.le_of_ble_eq_true rfl) rfl (E_45 (Nat.le_trans (by decide) hd) e_q1) rfl ?_
  obtain ⟨q2, e_q2, hf⟩ := bnd hf
  refine Ex.callV (a := 5) (As := [.int z1, .int z2, .int q1.1]) (r := []) (v := none) (h' := q2) rfl rfl (by decide) rfl (Nat.le_of_ble_eq_true rfl) rfl (E_230 (Nat.le_trans (by decide) hd) e_q2) rfl ?_
  refine Ex.seg 5 (pc' := 107) (lc' := [some (.ref 38), some (.int y1), some (.int y2), some (.int y3), some (.int y4), some (.int y5)]) (st' := [.int y3, .ref 10, .ref 5]) (h' := q2) (sg1 rfl rfl (sg1 rfl rfl (sg1 rfl rfl (sg1 rfl rfl (sg1 rfl rfl rfl))))) ?_
  obtain ⟨q3, e_q3, hf⟩ := bnd hf
  refine Ex.callV (a := 10) (As := [.int y3]) (r := [.ref 5]) (v := some (.int q3.1)) (h' := q3.2) rfl rfl (by decide) rfl (Nat.le_of_ble_eq_true rfl) rfl (E_44 (Nat.le_trans (by decide) hd) e_q3) rfl ?_
  obtain ⟨q4, e_q4, hf⟩ := bnd hf
  refine Ex.callV (a := 5) (As := [.int q3.1]) (r := []) (v := some (.int q4.1)) (h' := q4.2) rfl rfl (by decide) rfl (Nat.le_of_ble_eq_true rfl) rfl (E_233 (Nat.le_trans (by decide) hd) e_q4) rfl ?_
  refine Ex.ifc rfl rfl (fun (c0 : ¬ (q4.1 = 0)) => ?_) (fun (c0 : ¬ ¬ (q4.1 = 0)) => ?_)
  · rw [if_neg c0] at hf
    refine Ex.seg 3 (pc' := 125) (lc' := [some (.ref 38), some (.int y1), some (.int y2), some (.int y3), some (.int y4), some (.int y5)]) (st' := [.int 100, .int (q4.2.1 38 13)]) (h' := q4.2) (sg1 rfl rfl (sg1 rfl rfl (sg1 rfl rfl rfl))) ?_
    refine Ex.icmp rfl rfl (fun (c0 : (q4.2.1 38 13) < 100) => ?_) (fun (c0 : ¬ ((q4.2.1 38 13) < 100)) => ?_)
    · rw [if_pos c0] at hf
      refine Ex.seg 5 (pc' := 140) (lc' := [some (.ref 38), some (.int y1), some (.int y2), some (.int y3), some (.int y4), some (.int y5)]) (st' := [.int 0, .int (q4.2.1 38 13), .ref 43]) (h' := q4.2) (sg1 rfl rfl (sg1 rfl rfl (sg1 rfl rfl (sg1 rfl rfl (sg1 rfl rfl rfl))))) ?_
      obtain ⟨h5, e_h5, hf⟩ := bnd hf
      refine Ex.iast e_h5 rfl rfl ?_
      refine Ex.seg 5 (pc' := 150) (lc' := [some (.ref 38), some (.int y1), some (.int y2), some (.int y3), some (.int y4), some (.int y5)]) (st' := [.int y3, .int (h5.1 38 13), .ref 44]) (h' := h5) (sg1 rfl rfl (sg1 rfl rfl (sg1 rfl rfl (sg1 rfl rfl (sg1 rfl rfl rfl))))) ?_
      obtain ⟨h6, e_h6, hf⟩ := bnd hf
      refine Ex.iast e_h6 rfl rfl ?_
      refine Ex.seg 9 (pc' := 168) (lc' := [some (.ref 38), some (.int y1), some (.int y2), some (.int y3), some (.int y4), some (.int y5)]) (st' := [.int y3, .ref 10, .ref 5, .int (h6.1 38 13), .ref 45]) (h' := h6) (sg1 rfl rfl (sg1 rfl rfl (sg1 rfl rfl (sg1 rfl rfl (sg1 rfl rfl (sg1 rfl rfl (sg1 rfl rfl (sg1 rfl rfl (sg1 rfl rfl rfl))))))))) ?_
      obtain ⟨q7, e_q7, hf⟩ := bnd hf
      refine Ex.callV (a := 10) (As := [.int y3]) (r := [.ref 5, .int (h6.1 38 13), .ref 45]) (v := some (.int q7.1)) (h' := q7.2) rfl rfl (by decide) rfl (Nat.le_of_ble_eq_true rfl) rfl (E_44 (Nat.le_trans (by decide) hd) e_q7) rfl ?_
      obtain ⟨q8, e_q8, hf⟩ := bnd hf
      refine Ex.callV (a := 5) (As := [.int q7.1]) (r := [.int (h6.1 38 13), .ref 45]) (v := some (.int q8.1)) (h' := q8.2) rfl rfl (by decide) rfl (Nat.le_of_ble_eq_true rfl) rfl (E_234 (Nat.le_trans (by decide) hd) e_q8) rfl ?_
      obtain ⟨h9, e_h9, hf⟩ := bnd hf
      refine Ex.iast e_h9 rfl rfl ?_
      refine Ex.seg 5 (pc' := 184) (lc' := [some (.ref 38), some (.int y1), some (.int y2), some (.int y3), some (.int y4), some (.int y5)]) (st' := [.int (-1), .int (h9.1 38 13), .ref 46]) (h' := h9) (sg1 rfl rfl (sg1 rfl rfl (sg1 rfl rfl (sg1 rfl rfl (sg1 rfl rfl rfl))))) ?_
      obtain ⟨h10, e_h10, hf⟩ := bnd hf
      refine Ex.iast e_h10 rfl rfl ?_
      refine Ex.seg 5 (pc' := 192) (lc' := [some (.ref 38), some (.int y1), some (.int y2), some (.int y3), some (.int y4), some (.int y5)]) (st' := [.int y5, .int y4, .int y2, .int y1, .ref 38]) (h' := h10) (sg1 rfl rfl (sg1 rfl rfl (sg1 rfl rfl (sg1 rfl rfl (sg1 rfl rfl rfl))))) ?_
      obtain ⟨q11, e_q11, hf⟩ := bnd hf
      refine Ex.callV (a := 38) (As := [.int y1, .int y2, .int y4, .int y5]) (r := []) (v := some (.int q11.1)) (h' := q11.2) rfl rfl (by decide) rfl (Nat.le_of_ble_eq_true rfl) rfl (E_117 (Nat.le_trans (by decide) hd) e_q11) rfl ?_
      obtain rfl := Option.some.inj hf
      exact Ex.iret rfl rfl (fun c0 => by cases c0) hs
    · rw [if_neg c0] at hf
      refine Ex.seg 1 (pc' := 130) (lc' := [some (.ref 38), some (.int y1), some (.int y2), some (.int y3), some (.int y4), some (.int y5)]) (st' := [.int (-5)]) (h' := q4.2) (sg1 rfl rfl rfl) ?_
      obtain rfl := Option.some.inj hf
      exact Ex.iret rfl rfl (fun c0 => by cases c0) hs
  · rw [if_pos (Classical.not_not.mp c0)] at hf
    refine Ex.seg 1 (pc' := 118) (lc' := [some (.ref 38), some (.int y1), some (.int y2), some (.int y3), some (.int y4), some (.int y5)]) (st' := [.int (-4)]) (h' := q4.2) (sg1 rfl rfl rfl) ?_
    obtain rfl := Option.some.inj hf
    exact Ex.iret rfl rfl (fun c0 => by cases c0) hs
theorem B_115_58 {L : Nat} {xs : Nat → Int32} {d : Nat} (hd : 3 ≤ d) {res : Option Value × sm_H} {y1 : Int32} {y2 : Int32} {y3 : Int32} {y4 : Int32} {y5 : Int32}  {h : sm_H} {r : (Int32 × sm_H)} (hf : F_115_58 y1 y2 y3 y4 y5 h = some r) (hs : (fun (r : Int32 × sm_H) => res = (some (.int r.1), r.2)) r) : Ex (P_G L xs) (RUN L xs d) (sm_lk P_t115) 0 58 [some (.ref 38), some (.int y1), some (.int y2), some (.int y3), some (.int y4), some (.int y5)] [] h res := by
  unfold F_115_58 at hf
  refine Ex.seg 2 (pc' := 62) (lc' := [some (.ref 38), some (.int y1), some (.int y2), some (.int y3), some (.int y4), some (.int y5)]) (st' := [.ref 5]) (h' := h) (sg1 rfl rfl (sg1 rfl rfl rfl)) ?_
  obtain ⟨q12, e_q12, hf⟩ := bnd hf
  refine Ex.callV (a := 5) (As := []) (r := []) (v := none) (h' := q12) rfl rfl (by decide) rfl (Nat.le_of_ble_eq_true rfl) rfl (E_228 (Nat.le_trans (by decide) hd) e_q12) rfl ?_
  refine Ex.seg 5 (pc' := 74) (lc' := [some (.ref 38), some (.int y1), some (.int y2), some (.int y3), some (.int y4), some (.int y5)]) (st' := [.int y3, .ref 10, .ref 5]) (h' := q12) (sg1 rfl rfl (sg1 rfl rfl (sg1 rfl rfl (sg1 rfl rfl (sg1 rfl rfl rfl))))) ?_
  obtain ⟨q13, e_q13, hf⟩ := bnd hf
  refine Ex.callV (a := 10) (As := [.int y3]) (r := [.ref 5]) (v := some (.int q13.1)) (h' := q13.2) rfl rfl (by decide) rfl (Nat.le_of_ble_eq_true rfl) rfl (E_41 (Nat.le_trans (by decide) hd) e_q13) rfl ?_
  refine Ex.seg 1 (pc' := 79) (lc' := [some (.ref 38), some (.int y1), some (.int y2), some (.int y3), some (.int y4), some (.int y5)]) (st' := [.int y4, .int q13.1, .ref 5]) (h' := q13.2) (sg1 rfl rfl rfl) ?_
  refine Ex.ifc rfl rfl (fun (c0 : y4 = 0) => ?_) (fun (c0 : ¬ (y4 = 0)) => ?_)
  · rw [if_pos c0] at hf
    refine Ex.seg 1 (pc' := 87) (lc' := [some (.ref 38), some (.int y1), some (.int y2), some (.int y3), some (.int y4), some (.int y5)]) (st' := [.int 1, .int q13.1, .ref 5]) (h' := q13.2) (sg1 rfl rfl rfl) ?_
    exact Ex.weak (sm_le_s (sm_le_s (sm_le_s (sm_le_s (sm_le_s (sm_le_s sm_le_nil)))))) (B_115_87 hd  hf hs)
  · rw [if_neg c0] at hf
    refine Ex.seg 2 (pc' := 87) (lc' := [some (.ref 38), some (.int y1), some (.int y2), some (.int y3), some (.int y4), some (.int y5)]) (st' := [.int 0, .int q13.1, .ref 5]) (h' := q13.2) (sg1 rfl rfl (sg1 rfl rfl rfl)) ?_
    exact Ex.weak (sm_le_s (sm_le_s (sm_le_s (sm_le_s (sm_le_s (sm_le_s sm_le_nil)))))) (B_115_87 hd  hf hs)
theorem B_115_22 {L : Nat} {xs : Nat → Int32} {d : Nat} (hd : 3 ≤ d) {res : Option Value × sm_H}   {h : sm_H} {r : (Int32 × sm_H)} (hf : F_115_22  h = some r) (hs : (fun (r : Int32 × sm_H) => res = (some (.int r.1), r.2)) r) : Ex (P_G L xs) (RUN L xs d) (sm_lk P_t115) 0 22 [none, none, none, none, none, none] [] h res := by
  unfold F_115_22 at hf
  refine Ex.seg 1 (pc' := 23) (lc' := [none, none, none, none, none, none]) (st' := [.int (-1)]) (h' := h) (sg1 rfl rfl rfl) ?_
  obtain rfl := Option.some.inj hf
  exact Ex.iret rfl rfl (fun c0 => by cases c0) hs
theorem B_115_0 {L : Nat} {xs : Nat → Int32} {d : Nat} (hd : 3 ≤ d) {res : Option Value × sm_H} {x1 : Int32} {x2 : Int32} {x3 : Int32} {x4 : Int32} {x5 : Int32}  {h : sm_H} {r : (Int32 × sm_H)} (hf : F_115_0 x1 x2 x3 x4 x5 h = some r) (hs : (fun (r : Int32 × sm_H) => res = (some (.int r.1), r.2)) r) : Ex (P_G L xs) (RUN L xs d) (sm_lk P_t115) 0 0 [some (.ref 38), some (.int x1), some (.int x2), some (.int x3), some (.int x4), some (.int x5)] [] h res := by
  unfold F_115_0 at hf
  refine Ex.seg 3 (pc' := 5) (lc' := [some (.ref 38), some (.int x1), some (.int x2), some (.int x3), some (.int x4), some (.int x5)]) (st' := [.int x1, .ref 1]) (h' := h) (sg1 rfl rfl (sg1 rfl rfl (sg1 rfl rfl rfl))) ?_
  obtain ⟨q14, e_q14, hf⟩ := bnd hf
  refine Ex.callV (a := 1) (As := [.int x1]) (r := []) (v := some (.int q14.1)) (h' := q14.2) rfl rfl (by decide) rfl (Nat.le_of_ble_eq_true rfl) rfl (E_55 (Nat.le_trans (by decide) hd) e_q14) rfl ?_
  refine Ex.ifc rfl rfl (fun (c0 : q14.1 = 0) => ?_) (fun (c0 : ¬ (q14.1 = 0)) => ?_)
  · rw [if_pos c0] at hf
    exact Ex.weak (sm_le_n (sm_le_n (sm_le_n (sm_le_n (sm_le_n (sm_le_n sm_le_nil)))))) (B_115_22 hd  hf hs)
  · rw [if_neg c0] at hf
    refine Ex.seg 3 (pc' := 16) (lc' := [some (.ref 38), some (.int x1), some (.int x2), some (.int x3), some (.int x4), some (.int x5)]) (st' := [.int x3, .ref 10]) (h' := q14.2) (sg1 rfl rfl (sg1 rfl rfl (sg1 rfl rfl rfl))) ?_
    obtain ⟨q15, e_q15, hf⟩ := bnd hf
    refine Ex.callV (a := 10) (As := [.int x3]) (r := []) (v := some (.int q15.1)) (h' := q15.2) rfl rfl (by decide) rfl (Nat.le_of_ble_eq_true rfl) rfl (E_36 (Nat.le_trans (by decide) hd) e_q15) rfl ?_
    refine Ex.ifc rfl rfl (fun (c0 : ¬ (q15.1 = 0)) => ?_) (fun (c0 : ¬ ¬ (q15.1 = 0)) => ?_)
    · rw [if_neg c0] at hf
      refine Ex.seg 3 (pc' := 28) (lc' := [some (.ref 38), some (.int x1), some (.int x2), some (.int x3), some (.int x4), some (.int x5)]) (st' := [.int x5, .int x2, .ref 38]) (h' := q15.2) (sg1 rfl rfl (sg1 rfl rfl (sg1 rfl rfl rfl))) ?_
      obtain ⟨q16, e_q16, hf⟩ := bnd hf
      refine Ex.callV (a := 38) (As := [.int x2, .int x5]) (r := []) (v := some (.int q16.1)) (h' := q16.2) rfl rfl (by decide) rfl (Nat.le_of_ble_eq_true rfl) rfl (E_116 (Nat.le_trans (by decide) hd) e_q16) rfl ?_
      refine Ex.ifc rfl rfl (fun (c0 : q16.1 = 0) => ?_) (fun (c0 : ¬ (q16.1 = 0)) => ?_)
      · rw [if_pos c0] at hf
        refine Ex.seg 1 (pc' := 39) (lc' := [some (.ref 38), some (.int x1), some (.int x2), some (.int x3), some (.int x4), some (.int x5)]) (st' := [.int x4]) (h' := q16.2) (sg1 rfl rfl rfl) ?_
        refine Ex.ifc rfl rfl (fun (c0 : ¬ (x4 = 0)) => ?_) (fun (c0 : ¬ ¬ (x4 = 0)) => ?_)
        · rw [if_neg c0] at hf
          exact Ex.weak (sm_le_s (sm_le_s (sm_le_s (sm_le_s (sm_le_s (sm_le_s sm_le_nil)))))) (B_115_58 hd  hf hs)
        · rw [if_pos (Classical.not_not.mp c0)] at hf
          refine Ex.seg 4 (pc' := 48) (lc' := [some (.ref 38), some (.int x1), some (.int x2), some (.int x3), some (.int x4), some (.int x5)]) (st' := [.int 0, .int x3, .ref 10]) (h' := q16.2) (sg1 rfl rfl (sg1 rfl rfl (sg1 rfl rfl (sg1 rfl rfl rfl)))) ?_
          obtain ⟨q17, e_q17, hf⟩ := bnd hf
          refine Ex.callV (a := 10) (As := [.int x3, .int 0]) (r := []) (v := some (.int q17.1)) (h' := q17.2) rfl rfl (by decide) rfl (Nat.le_of_ble_eq_true rfl) rfl (E_46 (Nat.le_trans (by decide) hd) e_q17) rfl ?_
          refine Ex.seg 1 (pc' := 52) (lc' := [some (.ref 38), some (.int x1), some (.int x2), some (.int x3), some (.int x4), some (.int x5)]) (st' := [.int x1, .int q17.1]) (h' := q17.2) (sg1 rfl rfl rfl) ?_
          refine Ex.icmp rfl rfl (fun (c0 : q17.1 = x1) => ?_) (fun (c0 : ¬ (q17.1 = x1)) => ?_)
          · rw [if_pos c0] at hf
            exact Ex.weak (sm_le_s (sm_le_s (sm_le_s (sm_le_s (sm_le_s (sm_le_s sm_le_nil)))))) (B_115_58 hd  hf hs)
          · rw [if_neg c0] at hf
            refine Ex.seg 1 (pc' := 57) (lc' := [some (.ref 38), some (.int x1), some (.int x2), some (.int x3), some (.int x4), some (.int x5)]) (st' := [.int (-3)]) (h' := q17.2) (sg1 rfl rfl rfl) ?_
            obtain rfl := Option.some.inj hf
            exact Ex.iret rfl rfl (fun c0 => by cases c0) hs
      · rw [if_neg c0] at hf
        refine Ex.seg 1 (pc' := 36) (lc' := [some (.ref 38), some (.int x1), some (.int x2), some (.int x3), some (.int x4), some (.int x5)]) (st' := [.int (-2)]) (h' := q16.2) (sg1 rfl rfl rfl) ?_
        obtain rfl := Option.some.inj hf
        exact Ex.iret rfl rfl (fun c0 => by cases c0) hs
    · rw [if_pos (Classical.not_not.mp c0)] at hf
      exact Ex.weak (sm_le_n (sm_le_n (sm_le_n (sm_le_n (sm_le_n (sm_le_n sm_le_nil)))))) (B_115_22 hd  hf hs)
theorem E_115 {L : Nat} {xs : Nat → Int32} {d : Nat} (hd : 4 ≤ d) {x1 : Int32} {x2 : Int32} {x3 : Int32} {x4 : Int32} {x5 : Int32} {h : sm_H} {r : Int32 × sm_H} (hf : F_115 x1 x2 x3 x4 x5 h = some r) : RUN L xs d 115 [.ref 38, .int x1, .int x2, .int x3, .int x4, .int x5] h (some (.int r.1), r.2) := by
  obtain ⟨d, rfl⟩ : ∃ e, d = e + 1 := ⟨d - 1, by omega⟩
  exact ⟨Nat.le_of_ble_eq_true rfl, B_115_0 (by omega) hf rfl⟩
theorem B_120_82 {L : Nat} {xs : Nat → Int32} {d : Nat} (hd : 3 ≤ d) {res : Option Value × sm_H} {z0 : Int32}  {h : sm_H} {r : (Int32 × sm_H)} (hf : F_120_82 z0 h = some r) (hs : (fun (r : Int32 × sm_H) => res = (some (.int r.1), r.2)) r) : Ex (P_G L xs) (RUN L xs d) (sm_lk P_t120) 3 82 [none, none, none, none] [.int z0] h res := by
  unfold F_120_82 at hf
  rcases Classical.em (z0 = 0 ∨ z0 = 1) with c0 | c0
  · rw [if_pos c0] at hf
    obtain rfl := Option.some.inj hf
    exact Ex.iret rfl rfl (fun _ => c0) hs
  · rw [if_neg c0] at hf
    cases hf
theorem B_120_81 {L : Nat} {xs : Nat → Int32} {d : Nat} (hd : 3 ≤ d) {res : Option Value × sm_H}   {h : sm_H} {r : (Int32 × sm_H)} (hf : F_120_81  h = some r) (hs : (fun (r : Int32 × sm_H) => res = (some (.int r.1), r.2)) r) : Ex (P_G L xs) (RUN L xs d) (sm_lk P_t120) 3 81 [none, none, none, none] [] h res := by
  unfold F_120_81 at hf
  refine Ex.seg 1 (pc' := 82) (lc' := [none, none, none, none]) (st' := [.int 0]) (h' := h) (sg1 rfl rfl rfl) ?_
  exact Ex.weak (sm_le_s (sm_le_s (sm_le_s (sm_le_s sm_le_nil)))) (B_120_82 hd  hf hs)
theorem B_120_74 {L : Nat} {xs : Nat → Int32} {d : Nat} (hd : 3 ≤ d) {res : Option Value × sm_H} {z0 : Int32} {z1 : Int32}  {h : sm_H} {r : (Int32 × sm_H)} (hf : F_120_74 z0 z1 h = some r) (hs : (fun (r : Int32 × sm_H) => res = (some (.int r.1), r.2)) r) : Ex (P_G L xs) (RUN L xs d) (sm_lk P_t120) 3 74 [none, none, none, none] [.int z1, .int z0] h res := by
  unfold F_120_74 at hf
  refine Ex.icmp rfl rfl (fun (c0 : ¬ (z0 = z1)) => ?_) (fun (c0 : ¬ ¬ (z0 = z1)) => ?_)
  · rw [if_neg c0] at hf
    exact Ex.weak (sm_le_s (sm_le_s (sm_le_s (sm_le_s sm_le_nil)))) (B_120_81 hd  hf hs)
  · rw [if_pos (Classical.not_not.mp c0)] at hf
    refine Ex.seg 2 (pc' := 82) (lc' := [none, none, none, none]) (st' := [.int 1]) (h' := h) (sg1 rfl rfl (sg1 rfl rfl rfl)) ?_
    exact Ex.weak (sm_le_s (sm_le_s (sm_le_s (sm_le_s sm_le_nil)))) (B_120_82 hd  hf hs)
theorem B_120_37 {L : Nat} {xs : Nat → Int32} {d : Nat} (hd : 3 ≤ d) {res : Option Value × sm_H}   {h : sm_H} {r : (Int32 × sm_H)} (hf : F_120_37  h = some r) (hs : (fun (r : Int32 × sm_H) => res = (some (.int r.1), r.2)) r) : Ex (P_G L xs) (RUN L xs d) (sm_lk P_t120) 3 37 [none, none, none, none] [] h res := by
  unfold F_120_37 at hf
  refine Ex.seg 1 (pc' := 38) (lc' := [none, none, none, none]) (st' := [.int 0]) (h' := h) (sg1 rfl rfl rfl) ?_
  obtain rfl := Option.some.inj hf
  exact Ex.iret rfl rfl (fun _ => by decide) hs
theorem B_120_18 {L : Nat} {xs : Nat → Int32} {d : Nat} (hd : 3 ≤ d) {res : Option Value × sm_H} {z0 : Int32}  {h : sm_H} {r : (Int32 × sm_H)} (hf : F_120_18 z0 h = some r) (hs : (fun (r : Int32 × sm_H) => res = (some (.int r.1), r.2)) r) : Ex (P_G L xs) (RUN L xs d) (sm_lk P_t120) 3 18 [none, none, none, none] [.int z0] h res := by
  unfold F_120_18 at hf
  rcases Classical.em (z0 = 0 ∨ z0 = 1) with c0 | c0
  · rw [if_pos c0] at hf
    obtain rfl := Option.some.inj hf
    exact Ex.iret rfl rfl (fun _ => c0) hs
  · rw [if_neg c0] at hf
    cases hf
theorem B_120_0 {L : Nat} {xs : Nat → Int32} {d : Nat} (hd : 3 ≤ d) {res : Option Value × sm_H} {x1 : Int32} {x2 : Int32} {x3 : Int32}  {h : sm_H} {r : (Int32 × sm_H)} (hf : F_120_0 x1 x2 x3 h = some r) (hs : (fun (r : Int32 × sm_H) => res = (some (.int r.1), r.2)) r) : Ex (P_G L xs) (RUN L xs d) (sm_lk P_t120) 3 0 [some (.ref 38), some (.int x1), some (.int x2), some (.int x3)] [] h res := by
  unfold F_120_0 at hf
  refine Ex.seg 2 (pc' := 2) (lc' := [some (.ref 38), some (.int x1), some (.int x2), some (.int x3)]) (st' := [.int 4, .int x3]) (h' := h) (sg1 rfl rfl (sg1 rfl rfl rfl)) ?_
  refine Ex.icmp rfl rfl (fun (c0 : x3 < 4) => ?_) (fun (c0 : ¬ (x3 < 4)) => ?_)
  · rw [if_pos c0] at hf
    refine Ex.seg 2 (pc' := 21) (lc' := [some (.ref 38), some (.int x1), some (.int x2), some (.int x3)]) (st' := [.int x1, .ref 38]) (h' := h) (sg1 rfl rfl (sg1 rfl rfl rfl)) ?_
    obtain ⟨q1, e_q1, hf⟩ := bnd hf
    refine Ex.callV (a := 38) (As := [.int x1]) (r := []) (v := some (.int q1.1)) (h' := q1.2) rfl rfl (by decide) rfl (Nat.le_of_ble_eq_true rfl) rfl (E_128 (Nat.le_trans (by decide) hd) e_q1) rfl ?_
    refine Ex.ifc rfl rfl (fun (c0 : ¬ (q1.1 = 0)) => ?_) (fun (c0 : ¬ ¬ (q1.1 = 0)) => ?_)
    · rw [if_neg c0] at hf
      exact Ex.weak (sm_le_n (sm_le_n (sm_le_n (sm_le_n sm_le_nil)))) (B_120_37 hd  hf hs)
    · rw [if_pos (Classical.not_not.mp c0)] at hf
      refine Ex.seg 3 (pc' := 32) (lc' := [some (.ref 38), some (.int x1), some (.int x2), some (.int x3)]) (st' := [.int x1, .ref 45]) (h' := q1.2) (sg1 rfl rfl (sg1 rfl rfl (sg1 rfl rfl rfl))) ?_
      obtain ⟨v2, e_v2, hf⟩ := bnd hf
      refine Ex.iald e_v2 rfl rfl ?_
      refine Ex.seg 1 (pc' := 34) (lc' := [some (.ref 38), some (.int x1), some (.int x2), some (.int x3)]) (st' := [.int x2, .int v2]) (h' := q1.2) (sg1 rfl rfl rfl) ?_
      refine Ex.icmp rfl rfl (fun (c0 : v2 = x2) => ?_) (fun (c0 : ¬ (v2 = x2)) => ?_)
      · rw [if_pos c0] at hf
        refine Ex.seg 1 (pc' := 40) (lc' := [some (.ref 38), some (.int x1), some (.int x2), some (.int x3)]) (st' := [.int x3]) (h' := q1.2) (sg1 rfl rfl rfl) ?_
        refine Ex.ifc rfl rfl (fun (c0 : ¬ (x3 = 0)) => ?_) (fun (c0 : ¬ ¬ (x3 = 0)) => ?_)
        · rw [if_neg c0] at hf
          refine Ex.seg 3 (pc' := 55) (lc' := [some (.ref 38), some (.int x1), some (.int x2), some (.int x3)]) (st' := [.int x1, .ref 42]) (h' := q1.2) (sg1 rfl rfl (sg1 rfl rfl (sg1 rfl rfl rfl))) ?_
          obtain ⟨v3, e_v3, hf⟩ := bnd hf
          refine Ex.zald e_v3 rfl rfl ?_
          refine Ex.ifc rfl rfl (fun (c0 : ¬ (v3 = 0)) => ?_) (fun (c0 : ¬ ¬ (v3 = 0)) => ?_)
          · rw [if_neg c0] at hf
            exact Ex.weak (sm_le_n (sm_le_n (sm_le_n (sm_le_n sm_le_nil)))) (B_120_81 hd  hf hs)
          · rw [if_pos (Classical.not_not.mp c0)] at hf
            refine Ex.seg 2 (pc' := 61) (lc' := [some (.ref 38), some (.int x1), some (.int x2), some (.int x3)]) (st' := [.int x1, .ref 38]) (h' := q1.2) (sg1 rfl rfl (sg1 rfl rfl rfl)) ?_
            obtain ⟨q4, e_q4, hf⟩ := bnd hf
            refine Ex.callV (a := 38) (As := [.int x1]) (r := []) (v := some (.int q4.1)) (h' := q4.2) rfl rfl (by decide) rfl (Nat.le_of_ble_eq_true rfl) rfl (E_121 (Nat.le_trans (by decide) hd) e_q4) rfl ?_
            refine Ex.seg 2 (pc' := 66) (lc' := [some (.ref 38), some (.int x1), some (.int x2), some (.int x3)]) (st' := [.int 3, .int x3, .int q4.1]) (h' := q4.2) (sg1 rfl rfl (sg1 rfl rfl rfl)) ?_
            refine Ex.icmp rfl rfl (fun (c0 : ¬ (x3 = 3)) => ?_) (fun (c0 : ¬ ¬ (x3 = 3)) => ?_)
            · rw [if_neg c0] at hf
              refine Ex.seg 1 (pc' := 74) (lc' := [some (.ref 38), some (.int x1), some (.int x2), some (.int x3)]) (st' := [.int 0, .int q4.1]) (h' := q4.2) (sg1 rfl rfl rfl) ?_
              exact Ex.weak (sm_le_n (sm_le_n (sm_le_n (sm_le_n sm_le_nil)))) (B_120_74 hd  hf hs)
            · rw [if_pos (Classical.not_not.mp c0)] at hf
              refine Ex.seg 2 (pc' := 74) (lc' := [some (.ref 38), some (.int x1), some (.int x2), some (.int x3)]) (st' := [.int 1, .int q4.1]) (h' := q4.2) (sg1 rfl rfl (sg1 rfl rfl rfl)) ?_
              exact Ex.weak (sm_le_n (sm_le_n (sm_le_n (sm_le_n sm_le_nil)))) (B_120_74 hd  hf hs)
        · rw [if_pos (Classical.not_not.mp c0)] at hf
          refine Ex.seg 3 (pc' := 48) (lc' := [some (.ref 38), some (.int x1), some (.int x2), some (.int x3)]) (st' := [.int x1, .ref 42]) (h' := q1.2) (sg1 rfl rfl (sg1 rfl rfl (sg1 rfl rfl rfl))) ?_
          obtain ⟨v5, e_v5, hf⟩ := bnd hf
          refine Ex.zald e_v5 rfl rfl ?_
          rcases Classical.em (v5 = 0 ∨ v5 = 1) with c0 | c0
          · rw [if_pos c0] at hf
            obtain rfl := Option.some.inj hf
            exact Ex.iret rfl rfl (fun _ => c0) hs
          · rw [if_neg c0] at hf
            cases hf
      · rw [if_neg c0] at hf
        exact Ex.weak (sm_le_n (sm_le_n (sm_le_n (sm_le_n sm_le_nil)))) (B_120_37 hd  hf hs)
  · rw [if_neg c0] at hf
    refine Ex.seg 2 (pc' := 7) (lc' := [some (.ref 38), some (.int x1), some (.int x2), some (.int x3)]) (st' := [.int x1, .ref 38]) (h' := h) (sg1 rfl rfl (sg1 rfl rfl rfl)) ?_
    obtain ⟨q6, e_q6, hf⟩ := bnd hf
    refine Ex.callV (a := 38) (As := [.int x1]) (r := []) (v := some (.int q6.1)) (h' := q6.2) rfl rfl (by decide) rfl (Nat.le_of_ble_eq_true rfl) rfl (E_128 (Nat.le_trans (by decide) hd) e_q6) rfl ?_
    refine Ex.ifc rfl rfl (fun (c0 : q6.1 = 0) => ?_) (fun (c0 : ¬ (q6.1 = 0)) => ?_)
    · rw [if_pos c0] at hf
      refine Ex.seg 1 (pc' := 18) (lc' := [some (.ref 38), some (.int x1), some (.int x2), some (.int x3)]) (st' := [.int 0]) (h' := q6.2) (sg1 rfl rfl rfl) ?_
      exact Ex.weak (sm_le_n (sm_le_n (sm_le_n (sm_le_n sm_le_nil)))) (B_120_18 hd  hf hs)
    · rw [if_neg c0] at hf
      refine Ex.seg 2 (pc' := 18) (lc' := [some (.ref 38), some (.int x1), some (.int x2), some (.int x3)]) (st' := [.int 1]) (h' := q6.2) (sg1 rfl rfl (sg1 rfl rfl rfl)) ?_
      exact Ex.weak (sm_le_n (sm_le_n (sm_le_n (sm_le_n sm_le_nil)))) (B_120_18 hd  hf hs)
theorem E_120 {L : Nat} {xs : Nat → Int32} {d : Nat} (hd : 4 ≤ d) {x1 : Int32} {x2 : Int32} {x3 : Int32} {h : sm_H} {r : Int32 × sm_H} (hf : F_120 x1 x2 x3 h = some r) : RUN L xs d 120 [.ref 38, .int x1, .int x2, .int x3] h (some (.int r.1), r.2) := by
  obtain ⟨d, rfl⟩ : ∃ e, d = e + 1 := ⟨d - 1, by omega⟩
  exact ⟨Nat.le_of_ble_eq_true rfl, B_120_0 (by omega) hf rfl⟩
theorem B_133_119 {L : Nat} {xs : Nat → Int32} {d : Nat} (hd : 4 ≤ d) {res : Option Value × sm_H} {S1 : (Int32 × Int32 × Int32 × Int32 × sm_H) → Prop} (hS1 : ∀ s, S1 s → Ex (P_G L xs) (RUN L xs d) (sm_lk P_t133) 0 28 [some (.ref 38), some (.int s.1), some (.int s.2.1), some (.int s.2.2.1), some (.int s.2.2.2.1), none] [] s.2.2.2.2 res) {y1 : Int32} {y2 : Int32} {y3 : Int32} {y4 : Int32}  {h : sm_H} {r : ((Int32 × Int32 × Int32 × Int32 × sm_H) ⊕ (Int32 × sm_H))} (hf : F_133_119 y1 y2 y3 y4 h = some r) (hs : (Sum.elim S1 (fun (r : Int32 × sm_H) => res = (some (.int r.1), r.2))) r) : Ex (P_G L xs) (RUN L xs d) (sm_lk P_t133) 0 119 [some (.ref 38), some (.int y1), some (.int y2), some (.int y3), some (.int y4), none] [] h res := by
  unfold F_133_119 at hf
  refine Ex.seg 1 (pc' := 122) (lc' := [some (.ref 38), some (.int y1), some (.int y2), some (.int y3), some (.int (y4 + 1)), none]) (st' := []) (h' := h) (sg1 rfl rfl rfl) ?_
  obtain ⟨v1, e_v1, hf⟩ := bnd hf
  rw [Option.some.inj e_v1]
  refine Ex.seg 1 (pc' := 28) (lc' := [some (.ref 38), some (.int y1), some (.int y2), some (.int y3), some (.int v1), none]) (st' := []) (h' := h) (sg1 rfl rfl rfl) ?_
  obtain rfl := Option.some.inj hf
  exact Ex.weak (sm_le_s (sm_le_s (sm_le_s (sm_le_s (sm_le_s (sm_le_s sm_le_nil)))))) (hS1 _ hs)
theorem B_133_81 {L : Nat} {xs : Nat → Int32} {d : Nat} (hd : 4 ≤ d) {res : Option Value × sm_H} {S1 : (Int32 × Int32 × Int32 × Int32 × sm_H) → Prop} (hS1 : ∀ s, S1 s → Ex (P_G L xs) (RUN L xs d) (sm_lk P_t133) 0 28 [some (.ref 38), some (.int s.1), some (.int s.2.1), some (.int s.2.2.1), some (.int s.2.2.2.1), none] [] s.2.2.2.2 res) {y1 : Int32} {y2 : Int32} {y3 : Int32} {y4 : Int32} {z0 : Int32}  {h : sm_H} {r : ((Int32 × Int32 × Int32 × Int32 × sm_H) ⊕ (Int32 × sm_H))} (hf : F_133_81 y1 y2 y3 y4 z0 h = some r) (hs : (Sum.elim S1 (fun (r : Int32 × sm_H) => res = (some (.int r.1), r.2))) r) : Ex (P_G L xs) (RUN L xs d) (sm_lk P_t133) 0 81 [some (.ref 38), some (.int y1), some (.int y2), some (.int y3), some (.int y4), none] [.int z0] h res := by
  unfold F_133_81 at hf
  refine Ex.seg 2 (pc' := 85) (lc' := [some (.ref 38), some (.int y1), some (.int y2), some (.int y3), some (.int y4), some (.int z0)]) (st' := [.int z0]) (h' := h) (sg1 rfl rfl (sg1 rfl rfl rfl)) ?_
  refine Ex.ifc rfl rfl (fun (c0 : z0 = 0) => ?_) (fun (c0 : ¬ (z0 = 0)) => ?_)
  · rw [if_pos c0] at hf
    exact Ex.weak (sm_le_s (sm_le_s (sm_le_s (sm_le_s (sm_le_s (sm_le_n sm_le_nil)))))) (B_133_119 hd hS1 hf hs)
  · rw [if_neg c0] at hf
    refine Ex.seg 6 (pc' := 99) (lc' := [some (.ref 38), some (.int y1), some (.int y2), some (.int y3), some (.int y4), some (.int z0)]) (st' := [.int y4, .ref 39, .int y2, .ref 1]) (h' := h) (sg1 rfl rfl (sg1 rfl rfl (sg1 rfl rfl (sg1 rfl rfl (sg1 rfl rfl (sg1 rfl rfl rfl)))))) ?_
    obtain ⟨v2, e_v2, hf⟩ := bnd hf
    refine Ex.iald e_v2 rfl rfl ?_
    obtain ⟨q3, e_q3, hf⟩ := bnd hf
    refine Ex.callV (a := 1) (As := [.int y2, .int v2]) (r := []) (v := some (.int q3.1)) (h' := q3.2) rfl rfl (by decide) rfl (Nat.le_of_ble_eq_true rfl) rfl (E_60 (Nat.le_trans (by decide) hd) e_q3) rfl ?_
    refine Ex.ifc rfl rfl (fun (c0 : q3.1 = 0) => ?_) (fun (c0 : ¬ (q3.1 = 0)) => ?_)
    · rw [if_pos c0] at hf
      exact Ex.weak (sm_le_s (sm_le_s (sm_le_s (sm_le_s (sm_le_s (sm_le_n sm_le_nil)))))) (B_133_119 hd hS1 hf hs)
    · rw [if_neg c0] at hf
      refine Ex.seg 3 (pc' := 110) (lc' := [some (.ref 38), some (.int y1), some (.int y2), some (.int y3), some (.int y4), some (.int z0)]) (st' := [.int y1, .int y4, .ref 38]) (h' := q3.2) (sg1 rfl rfl (sg1 rfl rfl (sg1 rfl rfl rfl))) ?_
      obtain ⟨q4, e_q4, hf⟩ := bnd hf
      refine Ex.callV (a := 38) (As := [.int y4, .int y1]) (r := []) (v := some (.int q4.1)) (h' := q4.2) rfl rfl (by decide) rfl (Nat.le_of_ble_eq_true rfl) rfl (E_134 (Nat.le_trans (by decide) hd) e_q4) rfl ?_
      refine Ex.ifc rfl rfl (fun (c0 : q4.1 = 0) => ?_) (fun (c0 : ¬ (q4.1 = 0)) => ?_)
      · rw [if_pos c0] at hf
        exact Ex.weak (sm_le_s (sm_le_s (sm_le_s (sm_le_s (sm_le_s (sm_le_n sm_le_nil)))))) (B_133_119 hd hS1 hf hs)
      · rw [if_neg c0] at hf
        refine Ex.seg 2 (pc' := 119) (lc' := [some (.ref 38), some (.int y1), some (.int y2), some (.int y4), some (.int y4), some (.int z0)]) (st' := []) (h' := q4.2) (sg1 rfl rfl (sg1 rfl rfl rfl)) ?_
        exact Ex.weak (sm_le_s (sm_le_s (sm_le_s (sm_le_s (sm_le_s (sm_le_n sm_le_nil)))))) (B_133_119 hd hS1 hf hs)
theorem B_133_80 {L : Nat} {xs : Nat → Int32} {d : Nat} (hd : 4 ≤ d) {res : Option Value × sm_H} {S1 : (Int32 × Int32 × Int32 × Int32 × sm_H) → Prop} (hS1 : ∀ s, S1 s → Ex (P_G L xs) (RUN L xs d) (sm_lk P_t133) 0 28 [some (.ref 38), some (.int s.1), some (.int s.2.1), some (.int s.2.2.1), some (.int s.2.2.2.1), none] [] s.2.2.2.2 res) {y1 : Int32} {y2 : Int32} {y3 : Int32} {y4 : Int32}  {h : sm_H} {r : ((Int32 × Int32 × Int32 × Int32 × sm_H) ⊕ (Int32 × sm_H))} (hf : F_133_80 y1 y2 y3 y4 h = some r) (hs : (Sum.elim S1 (fun (r : Int32 × sm_H) => res = (some (.int r.1), r.2))) r) : Ex (P_G L xs) (RUN L xs d) (sm_lk P_t133) 0 80 [some (.ref 38), some (.int y1), some (.int y2), some (.int y3), some (.int y4), none] [] h res := by
  unfold F_133_80 at hf
  refine Ex.seg 1 (pc' := 81) (lc' := [some (.ref 38), some (.int y1), some (.int y2), some (.int y3), some (.int y4), none]) (st' := [.int 0]) (h' := h) (sg1 rfl rfl rfl) ?_
  exact Ex.weak (sm_le_s (sm_le_s (sm_le_s (sm_le_s (sm_le_s (sm_le_s sm_le_nil)))))) (B_133_81 hd hS1 hf hs)
theorem B_133_28B {L : Nat} {xs : Nat → Int32} {d : Nat} (hd : 4 ≤ d) {res : Option Value × sm_H} {S1 : (Int32 × Int32 × Int32 × Int32 × sm_H) → Prop} (hS1 : ∀ s, S1 s → Ex (P_G L xs) (RUN L xs d) (sm_lk P_t133) 0 28 [some (.ref 38), some (.int s.1), some (.int s.2.1), some (.int s.2.2.1), some (.int s.2.2.2.1), none] [] s.2.2.2.2 res) {s : (Int32 × Int32 × Int32 × Int32 × sm_H)}  {r : ((Int32 × Int32 × Int32 × Int32 × sm_H) ⊕ (Int32 × sm_H))} (hf : F_133_28B s = some r) (hs : (Sum.elim S1 (fun (r : Int32 × sm_H) => res = (some (.int r.1), r.2))) r) : Ex (P_G L xs) (RUN L xs d) (sm_lk P_t133) 0 28 [some (.ref 38), some (.int s.1), some (.int s.2.1), some (.int s.2.2.1), some (.int s.2.2.2.1), none] [] s.2.2.2.2 res := by
  unfold F_133_28B at hf
  refine Ex.seg 3 (pc' := 34) (lc' := [some (.ref 38), some (.int s.1), some (.int s.2.1), some (.int s.2.2.1), some (.int s.2.2.2.1), none]) (st' := [.int (s.2.2.2.2.1 38 13), .int s.2.2.2.1]) (h' := s.2.2.2.2) (sg1 rfl rfl (sg1 rfl rfl (sg1 rfl rfl rfl))) ?_
  refine Ex.icmp rfl rfl (fun (c0 : (s.2.2.2.2.1 38 13) ≤ s.2.2.2.1) => ?_) (fun (c0 : ¬ ((s.2.2.2.2.1 38 13) ≤ s.2.2.2.1)) => ?_)
  · rw [if_pos c0] at hf
    refine Ex.seg 2 (pc' := 127) (lc' := [some (.ref 38), some (.int s.1), some (.int s.2.1), some (.int s.2.2.1), some (.int s.2.2.2.1), none]) (st' := [.int s.2.2.1, .ref 38]) (h' := s.2.2.2.2) (sg1 rfl rfl (sg1 rfl rfl rfl)) ?_
    obtain ⟨q5, e_q5, hf⟩ := bnd hf
    refine Ex.callV (a := 38) (As := [.int s.2.2.1]) (r := []) (v := some (.int q5.1)) (h' := q5.2) rfl rfl (by decide) rfl (Nat.le_of_ble_eq_true rfl) rfl (E_131 (Nat.le_trans (by decide) hd) e_q5) rfl ?_
    obtain rfl := Option.some.inj hf
    exact Ex.iret rfl rfl (fun c0 => by cases c0) hs
  · rw [if_neg c0] at hf
    refine Ex.seg 3 (pc' := 43) (lc' := [some (.ref 38), some (.int s.1), some (.int s.2.1), some (.int s.2.2.1), some (.int s.2.2.2.1), none]) (st' := [.int s.2.2.2.1, .ref 39]) (h' := s.2.2.2.2) (sg1 rfl rfl (sg1 rfl rfl (sg1 rfl rfl rfl))) ?_
    obtain ⟨v6, e_v6, hf⟩ := bnd hf
    refine Ex.iald e_v6 rfl rfl ?_
    refine Ex.seg 3 (pc' := 49) (lc' := [some (.ref 38), some (.int s.1), some (.int s.2.1), some (.int s.2.2.1), some (.int s.2.2.2.1), none]) (st' := [.int s.2.2.1, .ref 39, .int v6]) (h' := s.2.2.2.2) (sg1 rfl rfl (sg1 rfl rfl (sg1 rfl rfl rfl))) ?_
    obtain ⟨v7, e_v7, hf⟩ := bnd hf
    refine Ex.iald e_v7 rfl rfl ?_
    refine Ex.icmp rfl rfl (fun (c0 : v6 = v7) => ?_) (fun (c0 : ¬ (v6 = v7)) => ?_)
    · rw [if_pos c0] at hf
      exact Ex.weak (sm_le_s (sm_le_s (sm_le_s (sm_le_s (sm_le_s (sm_le_s sm_le_nil)))))) (B_133_80 hd hS1 hf hs)
    · rw [if_neg c0] at hf
      refine Ex.seg 5 (pc' := 63) (lc' := [some (.ref 38), some (.int s.1), some (.int s.2.1), some (.int s.2.2.1), some (.int s.2.2.2.1), none]) (st' := [.int s.2.2.2.1, .ref 39, .ref 1]) (h' := s.2.2.2.2) (sg1 rfl rfl (sg1 rfl rfl (sg1 rfl rfl (sg1 rfl rfl (sg1 rfl rfl rfl))))) ?_
      obtain ⟨v8, e_v8, hf⟩ := bnd hf
      refine Ex.iald e_v8 rfl rfl ?_
      refine Ex.seg 3 (pc' := 69) (lc' := [some (.ref 38), some (.int s.1), some (.int s.2.1), some (.int s.2.2.1), some (.int s.2.2.2.1), none]) (st' := [.int s.2.2.1, .ref 39, .int v8, .ref 1]) (h' := s.2.2.2.2) (sg1 rfl rfl (sg1 rfl rfl (sg1 rfl rfl rfl))) ?_
      obtain ⟨v9, e_v9, hf⟩ := bnd hf
      refine Ex.iald e_v9 rfl rfl ?_
      obtain ⟨q10, e_q10, hf⟩ := bnd hf
      refine Ex.callV (a := 1) (As := [.int v8, .int v9]) (r := []) (v := some (.int q10.1)) (h' := q10.2) rfl rfl (by decide) rfl (Nat.le_of_ble_eq_true rfl) rfl (E_60 (Nat.le_trans (by decide) hd) e_q10) rfl ?_
      refine Ex.ifc rfl rfl (fun (c0 : q10.1 = 0) => ?_) (fun (c0 : ¬ (q10.1 = 0)) => ?_)
      · rw [if_pos c0] at hf
        exact Ex.weak (sm_le_s (sm_le_s (sm_le_s (sm_le_s (sm_le_s (sm_le_s sm_le_nil)))))) (B_133_80 hd hS1 hf hs)
      · rw [if_neg c0] at hf
        refine Ex.seg 2 (pc' := 81) (lc' := [some (.ref 38), some (.int s.1), some (.int s.2.1), some (.int s.2.2.1), some (.int s.2.2.2.1), none]) (st' := [.int 1]) (h' := q10.2) (sg1 rfl rfl (sg1 rfl rfl rfl)) ?_
        exact Ex.weak (sm_le_s (sm_le_s (sm_le_s (sm_le_s (sm_le_s (sm_le_s sm_le_nil)))))) (B_133_81 hd hS1 hf hs)
theorem B_133_28 {L : Nat} {xs : Nat → Int32} {d : Nat} (hd : 4 ≤ d) {res : Option Value × sm_H} {y1 : Int32} {y2 : Int32} {y3 : Int32} {y4 : Int32}  {h : sm_H} {r : (Int32 × sm_H)} (hf : F_133_28 y1 y2 y3 y4 h = some r) (hs : (fun (r : Int32 × sm_H) => res = (some (.int r.1), r.2)) r) : Ex (P_G L xs) (RUN L xs d) (sm_lk P_t133) 0 28 [some (.ref 38), some (.int y1), some (.int y2), some (.int y3), some (.int y4), none] [] h res := by
  unfold F_133_28 at hf
  exact lp_ok (P := fun (s : (Int32 × Int32 × Int32 × Int32 × sm_H)) => Ex (P_G L xs) (RUN L xs d) (sm_lk P_t133) 0 28 [some (.ref 38), some (.int s.1), some (.int s.2.1), some (.int s.2.2.1), some (.int s.2.2.2.1), none] [] s.2.2.2.2 res) (S := (fun (r : Int32 × sm_H) => res = (some (.int r.1), r.2))) (fun s x hx hsx => by
    intros
    exact B_133_28B hd  (fun _ q => q) hx hsx) 1000000 _ r hf hs
theorem B_133_17 {L : Nat} {xs : Nat → Int32} {d : Nat} (hd : 4 ≤ d) {res : Option Value × sm_H} {y1 : Int32}  {h : sm_H} {r : (Int32 × sm_H)} (hf : F_133_17 y1 h = some r) (hs : (fun (r : Int32 × sm_H) => res = (some (.int r.1), r.2)) r) : Ex (P_G L xs) (RUN L xs d) (sm_lk P_t133) 0 17 [some (.ref 38), some (.int y1), none, none, none, none] [] h res := by
  unfold F_133_17 at hf
  refine Ex.seg 2 (pc' := 19) (lc' := [some (.ref 38), some (.int y1), none, none, none, none]) (st' := [.int y1, .ref 38]) (h' := h) (sg1 rfl rfl (sg1 rfl rfl rfl)) ?_
  obtain ⟨q11, e_q11, hf⟩ := bnd hf
  refine Ex.callV (a := 38) (As := [.int y1]) (r := []) (v := some (.int q11.1)) (h' := q11.2) rfl rfl (by decide) rfl (Nat.le_of_ble_eq_true rfl) rfl (E_131 (Nat.le_trans (by decide) hd) e_q11) rfl ?_
  obtain rfl := Option.some.inj hf
  exact Ex.iret rfl rfl (fun c0 => by cases c0) hs
theorem B_133_0 {L : Nat} {xs : Nat → Int32} {d : Nat} (hd : 4 ≤ d) {res : Option Value × sm_H} {x1 : Int32} {x2 : Int32}  {h : sm_H} {r : (Int32 × sm_H)} (hf : F_133_0 x1 x2 h = some r) (hs : (fun (r : Int32 × sm_H) => res = (some (.int r.1), r.2)) r) : Ex (P_G L xs) (RUN L xs d) (sm_lk P_t133) 0 0 [some (.ref 38), some (.int x1), some (.int x2), none, none, none] [] h res := by
  unfold F_133_0 at hf
  refine Ex.seg 2 (pc' := 2) (lc' := [some (.ref 38), some (.int x1), some (.int x2), none, none, none]) (st' := [.int x1, .ref 38]) (h' := h) (sg1 rfl rfl (sg1 rfl rfl rfl)) ?_
  obtain ⟨q12, e_q12, hf⟩ := bnd hf
  refine Ex.callV (a := 38) (As := [.int x1]) (r := []) (v := some (.int q12.1)) (h' := q12.2) rfl rfl (by decide) rfl (Nat.le_of_ble_eq_true rfl) rfl (E_113 (Nat.le_trans (by decide) hd) e_q12) rfl ?_
  refine Ex.ifc rfl rfl (fun (c0 : q12.1 = 0) => ?_) (fun (c0 : ¬ (q12.1 = 0)) => ?_)
  · rw [if_pos c0] at hf
    exact Ex.weak (sm_le_s (sm_le_s (sm_le_n (sm_le_s (sm_le_s (sm_le_s sm_le_nil)))))) (B_133_17 hd  hf hs)
  · rw [if_neg c0] at hf
    refine Ex.seg 3 (pc' := 13) (lc' := [some (.ref 38), some (.int x1), some (.int x2), none, none, none]) (st' := [.int x1, .ref 41]) (h' := q12.2) (sg1 rfl rfl (sg1 rfl rfl (sg1 rfl rfl rfl))) ?_
    obtain ⟨v13, e_v13, hf⟩ := bnd hf
    refine Ex.iald e_v13 rfl rfl ?_
    refine Ex.ifc rfl rfl (fun (c0 : ¬ (v13 = 0)) => ?_) (fun (c0 : ¬ ¬ (v13 = 0)) => ?_)
    · rw [if_neg c0] at hf
      refine Ex.seg 4 (pc' := 28) (lc' := [some (.ref 38), some (.int x1), some (.int x2), some (.int x1), some (.int 0), none]) (st' := []) (h' := q12.2) (sg1 rfl rfl (sg1 rfl rfl (sg1 rfl rfl (sg1 rfl rfl rfl)))) ?_
      exact Ex.weak (sm_le_s (sm_le_s (sm_le_s (sm_le_s (sm_le_s (sm_le_s sm_le_nil)))))) (B_133_28 hd  hf hs)
    · rw [if_pos (Classical.not_not.mp c0)] at hf
      exact Ex.weak (sm_le_s (sm_le_s (sm_le_n (sm_le_s (sm_le_s (sm_le_s sm_le_nil)))))) (B_133_17 hd  hf hs)
theorem E_133 {L : Nat} {xs : Nat → Int32} {d : Nat} (hd : 5 ≤ d) {x1 : Int32} {x2 : Int32} {h : sm_H} {r : Int32 × sm_H} (hf : F_133 x1 x2 h = some r) : RUN L xs d 133 [.ref 38, .int x1, .int x2] h (some (.int r.1), r.2) := by
  obtain ⟨d, rfl⟩ : ∃ e, d = e + 1 := ⟨d - 1, by omega⟩
  exact ⟨Nat.le_of_ble_eq_true rfl, B_133_0 (by omega) hf rfl⟩
