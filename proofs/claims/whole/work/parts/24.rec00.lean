theorem B_85_145 {L : Nat} {xs : Nat → Int32} {d : Nat} {M : Nat} {rec : Int32 → Int32 → sm_H → Option (Int32 × sm_H)} (hrec : ∀ d, M ≤ d → ∀ (x1 x2 : Int32) (h : sm_H) (q : Int32 × sm_H), rec x1 x2 h = some q → RUN L xs d 82 [.ref 49, .int x1, .int x2] h (some (.int q.1), q.2)) (hd : 2 + M ≤ d) {res : Option Value × sm_H} {y2 : Int32} {y3 : Int32} {y5 : Int32} {y8 : Int32} {z0 : Int32}  {h : sm_H} {r : (Int32 × sm_H)} (hf : F_85_145 rec y2 y3 y5 y8 z0 h = some r) (hs : (fun (r : Int32 × sm_H) => res = (some (.int r.1), r.2)) r) : Ex (P_G L xs) (RUN L xs d) (sm_lk P_t85) 0 145 [some (.ref 49), none, some (.int y2), some (.int y3), none, some (.int y5), none, none, some (.int y8), none] [.int z0] h res := by
  unfold F_85_145 at hf
  refine Ex.seg 10 (pc' := 161) (lc' := [some (.ref 49), none, some (.int y2), some (.int y3), none, some (.int y5), none, none, some (.int y8), some (.int z0)]) (st' := [.int y3, .ref 10, .int (y5 + y8), .int z0, .int y2, .ref 49]) (h' := h) (sg1 rfl rfl (sg1 rfl rfl (sg1 rfl rfl (sg1 rfl rfl (sg1 rfl rfl (sg1 rfl rfl (sg1 rfl rfl (sg1 rfl rfl (sg1 rfl rfl (sg1 rfl rfl rfl)))))))))) ?_
  obtain ⟨q1, e_q1, hf⟩ := bnd hf
  refine Ex.callV (a := 10) (As := [.int y3]) (r := [.int (y5 + y8), .int z0, .int y2, .ref 49]) (v := some (.int q1.1)) (h' := q1.2) rfl rfl (by decide) rfl (Nat.le_of_ble_eq_true rfl) rfl (E_45 (by omega) e_q1) rfl ?_
  refine Ex.seg 4 (pc' := 170) (lc' := [some (.ref 49), none, some (.int y2), some (.int y3), none, some (.int y5), none, none, some (.int y8), some (.int z0)]) (st' := [.int ((q1.1 - y5) - y8), .int (y5 + y8), .int z0, .int y2, .ref 49]) (h' := q1.2) (sg1 rfl rfl (sg1 rfl rfl (sg1 rfl rfl (sg1 rfl rfl rfl)))) ?_
  obtain ⟨q2, e_q2, hf⟩ := bnd hf
  refine Ex.callV (a := 49) (As := [.int y2, .int z0, .int (y5 + y8), .int ((q1.1 - y5) - y8)]) (r := []) (v := none) (h' := q2) rfl rfl (by decide) rfl (Nat.le_of_ble_eq_true rfl) rfl (E_80 (by omega) e_q2) rfl ?_
  refine Ex.seg 5 (pc' := 178) (lc' := [some (.ref 49), none, some (.int y2), some (.int y3), none, some (.int y5), none, none, some (.int y8), some (.int z0)]) (st' := [.int (y2 + 1), .int y3, .ref 49]) (h' := q2) (sg1 rfl rfl (sg1 rfl rfl (sg1 rfl rfl (sg1 rfl rfl (sg1 rfl rfl rfl))))) ?_
  obtain ⟨q3, e_q3, hf⟩ := bnd hf
  refine Ex.callV (a := 49) (As := [.int y3, .int (y2 + 1)]) (r := []) (v := some (.int q3.1)) (h' := q3.2) rfl rfl (by decide) rfl (Nat.le_of_ble_eq_true rfl) rfl (hrec d (by omega) _ _ _ _ e_q3) rfl ?_
  obtain rfl := Option.some.inj hf
  exact Ex.iret rfl rfl (fun c0 => by cases c0) hs
theorem B_85_122 {L : Nat} {xs : Nat → Int32} {d : Nat} {M : Nat} {rec : Int32 → Int32 → sm_H → Option (Int32 × sm_H)} (hrec : ∀ d, M ≤ d → ∀ (x1 x2 : Int32) (h : sm_H) (q : Int32 × sm_H), rec x1 x2 h = some q → RUN L xs d 82 [.ref 49, .int x1, .int x2] h (some (.int q.1), q.2)) (hd : 2 + M ≤ d) {res : Option Value × sm_H} {y1 : Int32} {y2 : Int32} {y3 : Int32} {y5 : Int32} {y6 : Int32} {y8 : Int32}  {h : sm_H} {r : (Int32 × sm_H)} (hf : F_85_122 rec y1 y2 y3 y5 y6 y8 h = some r) (hs : (fun (r : Int32 × sm_H) => res = (some (.int r.1), r.2)) r) : Ex (P_G L xs) (RUN L xs d) (sm_lk P_t85) 0 122 [some (.ref 49), some (.int y1), some (.int y2), some (.int y3), none, some (.int y5), some (.int y6), none, some (.int y8), none] [] h res := by
  unfold F_85_122 at hf
  refine Ex.seg 3 (pc' := 127) (lc' := [some (.ref 49), some (.int y1), some (.int y2), some (.int y3), none, some (.int y5), some (.int y6), none, some (.int y8), none]) (st' := [.int y1, .ref 10]) (h' := h) (sg1 rfl rfl (sg1 rfl rfl (sg1 rfl rfl rfl))) ?_
  obtain ⟨q4, e_q4, hf⟩ := bnd hf
  refine Ex.callV (a := 10) (As := [.int y1]) (r := []) (v := some (.int q4.1)) (h' := q4.2) rfl rfl (by decide) rfl (Nat.le_of_ble_eq_true rfl) rfl (E_37 (by omega) e_q4) rfl ?_
  refine Ex.seg 1 (pc' := 132) (lc' := [some (.ref 49), some (.int y1), some (.int y2), some (.int y3), none, some (.int y5), some (.int y6), none, some (.int y8), none]) (st' := [.int 8, .int q4.1]) (h' := q4.2) (sg1 rfl rfl rfl) ?_
  refine Ex.icmp rfl rfl (fun (c0 : ¬ (q4.1 = 8)) => ?_) (fun (c0 : ¬ ¬ (q4.1 = 8)) => ?_)
  · rw [if_neg c0] at hf
    refine Ex.seg 3 (pc' := 145) (lc' := [some (.ref 49), some (.int y1), some (.int y2), some (.int y3), none, some (.int y5), some (.int y6), none, some (.int y8), none]) (st' := [.int (y5 + y6)]) (h' := q4.2) (sg1 rfl rfl (sg1 rfl rfl (sg1 rfl rfl rfl))) ?_
    exact Ex.weak (sm_le_s (sm_le_n (sm_le_s (sm_le_s (sm_le_s (sm_le_s (sm_le_n (sm_le_s (sm_le_s (sm_le_s sm_le_nil)))))))))) (B_85_145 hrec hd  hf hs)
  · rw [if_pos (Classical.not_not.mp c0)] at hf
    refine Ex.seg 2 (pc' := 145) (lc' := [some (.ref 49), some (.int y1), some (.int y2), some (.int y3), none, some (.int y5), some (.int y6), none, some (.int y8), none]) (st' := [.int y5]) (h' := q4.2) (sg1 rfl rfl (sg1 rfl rfl rfl)) ?_
    exact Ex.weak (sm_le_s (sm_le_n (sm_le_s (sm_le_s (sm_le_s (sm_le_s (sm_le_n (sm_le_s (sm_le_s (sm_le_s sm_le_nil)))))))))) (B_85_145 hrec hd  hf hs)
theorem B_85_88 {L : Nat} {xs : Nat → Int32} {d : Nat} {M : Nat} {rec : Int32 → Int32 → sm_H → Option (Int32 × sm_H)} (hrec : ∀ d, M ≤ d → ∀ (x1 x2 : Int32) (h : sm_H) (q : Int32 × sm_H), rec x1 x2 h = some q → RUN L xs d 82 [.ref 49, .int x1, .int x2] h (some (.int q.1), q.2)) (hd : 2 + M ≤ d) {res : Option Value × sm_H} {y1 : Int32} {y2 : Int32} {y3 : Int32} {y5 : Int32} {y6 : Int32} {z0 : Int32}  {h : sm_H} {r : (Int32 × sm_H)} (hf : F_85_88 rec y1 y2 y3 y5 y6 z0 h = some r) (hs : (fun (r : Int32 × sm_H) => res = (some (.int r.1), r.2)) r) : Ex (P_G L xs) (RUN L xs d) (sm_lk P_t85) 0 88 [some (.ref 49), some (.int y1), some (.int y2), some (.int y3), none, some (.int y5), some (.int y6), none, none, none] [.int z0] h res := by
  unfold F_85_88 at hf
  refine Ex.seg 6 (pc' := 96) (lc' := [some (.ref 49), some (.int y1), some (.int y2), some (.int y3), none, some (.int y5), some (.int y6), none, some (.int z0), none]) (st' := [.int y5, .int 0, .int 0, .int y2, .ref 49]) (h' := h) (sg1 rfl rfl (sg1 rfl rfl (sg1 rfl rfl (sg1 rfl rfl (sg1 rfl rfl (sg1 rfl rfl rfl)))))) ?_
  obtain ⟨q5, e_q5, hf⟩ := bnd hf
  refine Ex.callV (a := 49) (As := [.int y2, .int 0, .int 0, .int y5]) (r := []) (v := none) (h' := q5) rfl rfl (by decide) rfl (Nat.le_of_ble_eq_true rfl) rfl (E_80 (by omega) e_q5) rfl ?_
  refine Ex.seg 2 (pc' := 102) (lc' := [some (.ref 49), some (.int y1), some (.int y2), some (.int y3), none, some (.int y5), some (.int y6), none, some (.int z0), none]) (st' := [.int 1, .int z0]) (h' := q5) (sg1 rfl rfl (sg1 rfl rfl rfl)) ?_
  refine Ex.icmp rfl rfl (fun (c0 : ¬ (z0 = 1)) => ?_) (fun (c0 : ¬ ¬ (z0 = 1)) => ?_)
  · rw [if_neg c0] at hf
    exact Ex.weak (sm_le_s (sm_le_s (sm_le_s (sm_le_s (sm_le_s (sm_le_s (sm_le_s (sm_le_s (sm_le_s (sm_le_s sm_le_nil)))))))))) (B_85_122 hrec hd  hf hs)
  · rw [if_pos (Classical.not_not.mp c0)] at hf
    refine Ex.seg 9 (pc' := 119) (lc' := [some (.ref 49), some (.int y1), some (.int y2), some (.int y3), none, some (.int y5), some (.int y6), none, some (.int z0), none]) (st' := [.int (q5.1 49 10), .long (q5.2.1 49 9), .int y5, .int (y2 + 1), .ref 49]) (h' := q5) (sg1 rfl rfl (sg1 rfl rfl (sg1 rfl rfl (sg1 rfl rfl (sg1 rfl rfl (sg1 rfl rfl (sg1 rfl rfl (sg1 rfl rfl (sg1 rfl rfl rfl))))))))) ?_
    obtain ⟨q6, e_q6, hf⟩ := bnd hf
    refine Ex.callV (a := 49) (As := [.int (y2 + 1), .int y5, .long (q5.2.1 49 9), .int (q5.1 49 10)]) (r := []) (v := none) (h' := q6) rfl rfl (by decide) rfl (Nat.le_of_ble_eq_true rfl) rfl (E_79 (by omega) e_q6) rfl ?_
    exact Ex.weak (sm_le_s (sm_le_s (sm_le_s (sm_le_s (sm_le_s (sm_le_s (sm_le_s (sm_le_s (sm_le_s (sm_le_s sm_le_nil)))))))))) (B_85_122 hrec hd  hf hs)
theorem B_85_0 {L : Nat} {xs : Nat → Int32} {d : Nat} {M : Nat} {rec : Int32 → Int32 → sm_H → Option (Int32 × sm_H)} (hrec : ∀ d, M ≤ d → ∀ (x1 x2 : Int32) (h : sm_H) (q : Int32 × sm_H), rec x1 x2 h = some q → RUN L xs d 82 [.ref 49, .int x1, .int x2] h (some (.int q.1), q.2)) (hd : 2 + M ≤ d) {res : Option Value × sm_H} {x1 : Int32} {x2 : Int32}  {h : sm_H} {r : (Int32 × sm_H)} (hf : F_85_0 rec x1 x2 h = some r) (hs : (fun (r : Int32 × sm_H) => res = (some (.int r.1), r.2)) r) : Ex (P_G L xs) (RUN L xs d) (sm_lk P_t85) 0 0 [some (.ref 49), some (.int x1), some (.int x2), none, none, none, none, none, none, none] [] h res := by
  unfold F_85_0 at hf
  refine Ex.seg 4 (pc' := 6) (lc' := [some (.ref 49), some (.int x1), some (.int x2), none, none, none, none, none, none, none]) (st' := [.int 0, .int x1, .ref 10]) (h' := h) (sg1 rfl rfl (sg1 rfl rfl (sg1 rfl rfl (sg1 rfl rfl rfl)))) ?_
  obtain ⟨q7, e_q7, hf⟩ := bnd hf
  refine Ex.callV (a := 10) (As := [.int x1, .int 0]) (r := []) (v := some (.int q7.1)) (h' := q7.2) rfl rfl (by decide) rfl (Nat.le_of_ble_eq_true rfl) rfl (E_43 (by omega) e_q7) rfl ?_
  refine Ex.seg 5 (pc' := 16) (lc' := [some (.ref 49), some (.int x1), some (.int x2), some (.int q7.1), none, none, none, none, none, none]) (st' := [.int 1, .int x1, .ref 10]) (h' := q7.2) (sg1 rfl rfl (sg1 rfl rfl (sg1 rfl rfl (sg1 rfl rfl (sg1 rfl rfl rfl))))) ?_
  obtain ⟨q8, e_q8, hf⟩ := bnd hf
  refine Ex.callV (a := 10) (As := [.int x1, .int 1]) (r := []) (v := some (.int q8.1)) (h' := q8.2) rfl rfl (by decide) rfl (Nat.le_of_ble_eq_true rfl) rfl (E_43 (by omega) e_q8) rfl ?_
  refine Ex.seg 4 (pc' := 26) (lc' := [some (.ref 49), some (.int x1), some (.int x2), some (.int q7.1), some (.int q8.1), none, none, none, none, none]) (st' := [.int x1, .ref 10]) (h' := q8.2) (sg1 rfl rfl (sg1 rfl rfl (sg1 rfl rfl (sg1 rfl rfl rfl)))) ?_
  obtain ⟨q9, e_q9, hf⟩ := bnd hf
  refine Ex.callV (a := 10) (As := [.int x1]) (r := []) (v := some (.int q9.1)) (h' := q9.2) rfl rfl (by decide) rfl (Nat.le_of_ble_eq_true rfl) rfl (E_38 (by omega) e_q9) rfl ?_
  refine Ex.seg 4 (pc' := 37) (lc' := [some (.ref 49), some (.int x1), some (.int x2), some (.int q7.1), some (.int q8.1), some (.int q9.1), none, none, none, none]) (st' := [.int q8.1, .ref 10]) (h' := q9.2) (sg1 rfl rfl (sg1 rfl rfl (sg1 rfl rfl (sg1 rfl rfl rfl)))) ?_
  obtain ⟨q10, e_q10, hf⟩ := bnd hf
  refine Ex.callV (a := 10) (As := [.int q8.1]) (r := []) (v := some (.int q10.1)) (h' := q10.2) rfl rfl (by decide) rfl (Nat.le_of_ble_eq_true rfl) rfl (E_45 (by omega) e_q10) rfl ?_
  refine Ex.seg 6 (pc' := 49) (lc' := [some (.ref 49), some (.int x1), some (.int x2), some (.int q7.1), some (.int q8.1), some (.int q9.1), some (.int q10.1), none, none, none]) (st' := [.int q10.1, .int 0, .int q9.1, .int x2, .ref 49]) (h' := q10.2) (sg1 rfl rfl (sg1 rfl rfl (sg1 rfl rfl (sg1 rfl rfl (sg1 rfl rfl (sg1 rfl rfl rfl)))))) ?_
  obtain ⟨q11, e_q11, hf⟩ := bnd hf
  refine Ex.callV (a := 49) (As := [.int x2, .int q9.1, .int 0, .int q10.1]) (r := []) (v := none) (h' := q11) rfl rfl (by decide) rfl (Nat.le_of_ble_eq_true rfl) rfl (E_80 (by omega) e_q11) rfl ?_
  refine Ex.seg 5 (pc' := 58) (lc' := [some (.ref 49), some (.int x1), some (.int x2), some (.int q7.1), some (.int q8.1), some (.int q9.1), some (.int q10.1), none, none, none]) (st' := [.int (x2 + 1), .int q8.1, .ref 49]) (h' := q11) (sg1 rfl rfl (sg1 rfl rfl (sg1 rfl rfl (sg1 rfl rfl (sg1 rfl rfl rfl))))) ?_
  obtain ⟨q12, e_q12, hf⟩ := bnd hf
  refine Ex.callV (a := 49) (As := [.int q8.1, .int (x2 + 1)]) (r := []) (v := some (.int q12.1)) (h' := q12.2) rfl rfl (by decide) rfl (Nat.le_of_ble_eq_true rfl) rfl (hrec d (by omega) _ _ _ _ e_q12) rfl ?_
  refine Ex.seg 2 (pc' := 65) (lc' := [some (.ref 49), some (.int x1), some (.int x2), some (.int q7.1), some (.int q8.1), some (.int q9.1), some (.int q10.1), some (.int q12.1), none, none]) (st' := [.int q12.1]) (h' := q12.2) (sg1 rfl rfl (sg1 rfl rfl rfl)) ?_
  refine Ex.ifc rfl rfl (fun (c0 : q12.1 = 0) => ?_) (fun (c0 : ¬ (q12.1 = 0)) => ?_)
  · rw [if_pos c0] at hf
    refine Ex.seg 3 (pc' := 77) (lc' := [some (.ref 49), some (.int x1), some (.int x2), some (.int q7.1), some (.int q8.1), some (.int q9.1), some (.int q10.1), some (.int q12.1), none, none]) (st' := [.int q8.1, .ref 10]) (h' := q12.2) (sg1 rfl rfl (sg1 rfl rfl (sg1 rfl rfl rfl))) ?_
    obtain ⟨q13, e_q13, hf⟩ := bnd hf
    refine Ex.callV (a := 10) (As := [.int q8.1]) (r := []) (v := some (.int q13.1)) (h' := q13.2) rfl rfl (by decide) rfl (Nat.le_of_ble_eq_true rfl) rfl (E_44 (by omega) e_q13) rfl ?_
    refine Ex.ifc rfl rfl (fun (c0 : ¬ (q13.1 = 0)) => ?_) (fun (c0 : ¬ ¬ (q13.1 = 0)) => ?_)
    · rw [if_neg c0] at hf
      refine Ex.seg 1 (pc' := 88) (lc' := [some (.ref 49), some (.int x1), some (.int x2), some (.int q7.1), some (.int q8.1), some (.int q9.1), some (.int q10.1), some (.int q12.1), none, none]) (st' := [.int 1]) (h' := q13.2) (sg1 rfl rfl rfl) ?_
      exact Ex.weak (sm_le_s (sm_le_s (sm_le_s (sm_le_s (sm_le_n (sm_le_s (sm_le_s (sm_le_n (sm_le_s (sm_le_s sm_le_nil)))))))))) (B_85_88 hrec hd  hf hs)
    · rw [if_pos (Classical.not_not.mp c0)] at hf
      refine Ex.seg 2 (pc' := 88) (lc' := [some (.ref 49), some (.int x1), some (.int x2), some (.int q7.1), some (.int q8.1), some (.int q9.1), some (.int q10.1), some (.int q12.1), none, none]) (st' := [.int 0]) (h' := q13.2) (sg1 rfl rfl (sg1 rfl rfl rfl)) ?_
      exact Ex.weak (sm_le_s (sm_le_s (sm_le_s (sm_le_s (sm_le_n (sm_le_s (sm_le_s (sm_le_n (sm_le_s (sm_le_s sm_le_nil)))))))))) (B_85_88 hrec hd  hf hs)
  · rw [if_neg c0] at hf
    refine Ex.seg 1 (pc' := 70) (lc' := [some (.ref 49), some (.int x1), some (.int x2), some (.int q7.1), some (.int q8.1), some (.int q9.1), some (.int q10.1), some (.int q12.1), none, none]) (st' := [.int q12.1]) (h' := q12.2) (sg1 rfl rfl rfl) ?_
    obtain rfl := Option.some.inj hf
    exact Ex.iret rfl rfl (fun c0 => by cases c0) hs
theorem E_85 {L : Nat} {xs : Nat → Int32} {d : Nat} {M : Nat} {rec : Int32 → Int32 → sm_H → Option (Int32 × sm_H)} (hrec : ∀ d, M ≤ d → ∀ (x1 x2 : Int32) (h : sm_H) (q : Int32 × sm_H), rec x1 x2 h = some q → RUN L xs d 82 [.ref 49, .int x1, .int x2] h (some (.int q.1), q.2)) (hd : 3 + M ≤ d) {x1 : Int32} {x2 : Int32} {h : sm_H} {r : Int32 × sm_H} (hf : F_85 rec x1 x2 h = some r) : RUN L xs d 85 [.ref 49, .int x1, .int x2] h (some (.int r.1), r.2) := by
  obtain ⟨d, rfl⟩ : ∃ e, d = e + 1 := ⟨d - 1, by omega⟩
  exact ⟨Nat.le_of_ble_eq_true rfl, B_85_0 hrec (by omega) hf rfl⟩
theorem B_86_0 {L : Nat} {xs : Nat → Int32} {d : Nat} {M : Nat} {rec : Int32 → Int32 → sm_H → Option (Int32 × sm_H)} (hrec : ∀ d, M ≤ d → ∀ (x1 x2 : Int32) (h : sm_H) (q : Int32 × sm_H), rec x1 x2 h = some q → RUN L xs d 82 [.ref 49, .int x1, .int x2] h (some (.int q.1), q.2)) (hd : 3 + M ≤ d) {res : Option Value × sm_H} {x1 : Int32} {x2 : Int32}  {h : sm_H} {r : (Int32 × sm_H)} (hf : F_86_0 rec x1 x2 h = some r) (hs : (fun (r : Int32 × sm_H) => res = (some (.int r.1), r.2)) r) : Ex (P_G L xs) (RUN L xs d) (sm_lk P_t86) 0 0 [some (.ref 49), some (.int x1), some (.int x2), none, none] [] h res := by
  unfold F_86_0 at hf
  refine Ex.seg 4 (pc' := 6) (lc' := [some (.ref 49), some (.int x1), some (.int x2), none, none]) (st' := [.int 0, .int x1, .ref 10]) (h' := h) (sg1 rfl rfl (sg1 rfl rfl (sg1 rfl rfl (sg1 rfl rfl rfl)))) ?_
  obtain ⟨q1, e_q1, hf⟩ := bnd hf
  refine Ex.callV (a := 10) (As := [.int x1, .int 0]) (r := []) (v := some (.int q1.1)) (h' := q1.2) rfl rfl (by decide) rfl (Nat.le_of_ble_eq_true rfl) rfl (E_43 (by omega) e_q1) rfl ?_
  refine Ex.seg 4 (pc' := 13) (lc' := [some (.ref 49), some (.int x1), some (.int x2), some (.int q1.1), none]) (st' := [.int q1.1, .int x2, .ref 49]) (h' := q1.2) (sg1 rfl rfl (sg1 rfl rfl (sg1 rfl rfl (sg1 rfl rfl rfl)))) ?_
  obtain ⟨q2, e_q2, hf⟩ := bnd hf
  refine Ex.callV (a := 49) (As := [.int x2, .int q1.1]) (r := []) (v := none) (h' := q2) rfl rfl (by decide) rfl (Nat.le_of_ble_eq_true rfl) rfl (E_81 (by omega) e_q2) rfl ?_
  refine Ex.seg 5 (pc' := 21) (lc' := [some (.ref 49), some (.int x1), some (.int x2), some (.int q1.1), none]) (st' := [.int (x2 + 1), .int q1.1, .ref 49]) (h' := q2) (sg1 rfl rfl (sg1 rfl rfl (sg1 rfl rfl (sg1 rfl rfl (sg1 rfl rfl rfl))))) ?_
  obtain ⟨q3, e_q3, hf⟩ := bnd hf
  refine Ex.callV (a := 49) (As := [.int q1.1, .int (x2 + 1)]) (r := []) (v := some (.int q3.1)) (h' := q3.2) rfl rfl (by decide) rfl (Nat.le_of_ble_eq_true rfl) rfl (hrec d (by omega) _ _ _ _ e_q3) rfl ?_
  refine Ex.seg 2 (pc' := 28) (lc' := [some (.ref 49), some (.int x1), some (.int x2), some (.int q1.1), some (.int q3.1)]) (st' := [.int q3.1]) (h' := q3.2) (sg1 rfl rfl (sg1 rfl rfl rfl)) ?_
  refine Ex.ifc rfl rfl (fun (c0 : q3.1 = 0) => ?_) (fun (c0 : ¬ (q3.1 = 0)) => ?_)
  · rw [if_pos c0] at hf
    refine Ex.seg 9 (pc' := 47) (lc' := [some (.ref 49), some (.int x1), some (.int x2), some (.int q1.1), some (.int q3.1)]) (st' := [.int (q3.2.1 49 10), .long (q3.2.2.1 49 9), .int 0, .int (x2 + 1), .ref 49]) (h' := q3.2) (sg1 rfl rfl (sg1 rfl rfl (sg1 rfl rfl (sg1 rfl rfl (sg1 rfl rfl (sg1 rfl rfl (sg1 rfl rfl (sg1 rfl rfl (sg1 rfl rfl rfl))))))))) ?_
    obtain ⟨q4, e_q4, hf⟩ := bnd hf
    refine Ex.callV (a := 49) (As := [.int (x2 + 1), .int 0, .long (q3.2.2.1 49 9), .int (q3.2.1 49 10)]) (r := []) (v := none) (h' := q4) rfl rfl (by decide) rfl (Nat.le_of_ble_eq_true rfl) rfl (E_79 (by omega) e_q4) rfl ?_
    refine Ex.seg 5 (pc' := 57) (lc' := [some (.ref 49), some (.int x1), some (.int x2), some (.int q1.1), some (.int q3.1)]) (st' := [.int 1, .int x1, .ref 10, .ref 49]) (h' := q4) (sg1 rfl rfl (sg1 rfl rfl (sg1 rfl rfl (sg1 rfl rfl (sg1 rfl rfl rfl))))) ?_
    obtain ⟨q5, e_q5, hf⟩ := bnd hf
    refine Ex.callV (a := 10) (As := [.int x1, .int 1]) (r := [.ref 49]) (v := some (.int q5.1)) (h' := q5.2) rfl rfl (by decide) rfl (Nat.le_of_ble_eq_true rfl) rfl (E_43 (by omega) e_q5) rfl ?_
    refine Ex.seg 3 (pc' := 63) (lc' := [some (.ref 49), some (.int x1), some (.int x2), some (.int q1.1), some (.int q3.1)]) (st' := [.int (x2 + 1), .int q5.1, .ref 49]) (h' := q5.2) (sg1 rfl rfl (sg1 rfl rfl (sg1 rfl rfl rfl))) ?_
    obtain ⟨q6, e_q6, hf⟩ := bnd hf
    refine Ex.callV (a := 49) (As := [.int q5.1, .int (x2 + 1)]) (r := []) (v := some (.int q6.1)) (h' := q6.2) rfl rfl (by decide) rfl (Nat.le_of_ble_eq_true rfl) rfl (hrec d (by omega) _ _ _ _ e_q6) rfl ?_
    obtain rfl := Option.some.inj hf
    exact Ex.iret rfl rfl (fun c0 => by cases c0) hs
  · rw [if_neg c0] at hf
    refine Ex.seg 1 (pc' := 33) (lc' := [some (.ref 49), some (.int x1), some (.int x2), some (.int q1.1), some (.int q3.1)]) (st' := [.int q3.1]) (h' := q3.2) (sg1 rfl rfl rfl) ?_
    obtain rfl := Option.some.inj hf
    exact Ex.iret rfl rfl (fun c0 => by cases c0) hs
theorem E_86 {L : Nat} {xs : Nat → Int32} {d : Nat} {M : Nat} {rec : Int32 → Int32 → sm_H → Option (Int32 × sm_H)} (hrec : ∀ d, M ≤ d → ∀ (x1 x2 : Int32) (h : sm_H) (q : Int32 × sm_H), rec x1 x2 h = some q → RUN L xs d 82 [.ref 49, .int x1, .int x2] h (some (.int q.1), q.2)) (hd : 4 + M ≤ d) {x1 : Int32} {x2 : Int32} {h : sm_H} {r : Int32 × sm_H} (hf : F_86 rec x1 x2 h = some r) : RUN L xs d 86 [.ref 49, .int x1, .int x2] h (some (.int r.1), r.2) := by
  obtain ⟨d, rfl⟩ : ∃ e, d = e + 1 := ⟨d - 1, by omega⟩
  exact ⟨Nat.le_of_ble_eq_true rfl, B_86_0 hrec (by omega) hf rfl⟩
theorem B_92_53 {L : Nat} {xs : Nat → Int32} {d : Nat} {M : Nat} {rec : Int32 → Int32 → sm_H → Option (Int32 × sm_H)} (hrec : ∀ d, M ≤ d → ∀ (x1 x2 : Int32) (h : sm_H) (q : Int32 × sm_H), rec x1 x2 h = some q → RUN L xs d 82 [.ref 49, .int x1, .int x2] h (some (.int q.1), q.2)) (hd : 3 + M ≤ d) {res : Option Value × sm_H} {y2 : Int32} {z1 : Int32} {z2 : Int32}  {h : sm_H} {r : (Int32 × sm_H)} (hf : F_92_53 rec y2 z1 z2 h = some r) (hs : (fun (r : Int32 × sm_H) => res = (some (.int r.1), r.2)) r) : Ex (P_G L xs) (RUN L xs d) (sm_lk P_t92) 0 53 [some (.ref 49), none, some (.int y2), none, none, none] [.int z2, .int z1, .ref 10] h res := by
  unfold F_92_53 at hf
  obtain ⟨q1, e_q1, hf⟩ := bnd hf
  refine Ex.callV (a := 10) (As := [.int z1, .int z2]) (r := []) (v := some (.int q1.1)) (h' := q1.2) rfl rfl (by decide) rfl (Nat.le_of_ble_eq_true rfl) rfl (E_43 (by omega) e_q1) rfl ?_
  refine Ex.seg 4 (pc' := 62) (lc' := [some (.ref 49), none, some (.int y2), none, none, some (.int q1.1)]) (st' := [.int q1.1, .int y2, .ref 49]) (h' := q1.2) (sg1 rfl rfl (sg1 rfl rfl (sg1 rfl rfl (sg1 rfl rfl rfl)))) ?_
  obtain ⟨q2, e_q2, hf⟩ := bnd hf
  refine Ex.callV (a := 49) (As := [.int y2, .int q1.1]) (r := []) (v := none) (h' := q2) rfl rfl (by decide) rfl (Nat.le_of_ble_eq_true rfl) rfl (E_81 (by omega) e_q2) rfl ?_
  refine Ex.seg 5 (pc' := 71) (lc' := [some (.ref 49), none, some (.int y2), none, none, some (.int q1.1)]) (st' := [.int (y2 + 1), .int q1.1, .ref 49]) (h' := q2) (sg1 rfl rfl (sg1 rfl rfl (sg1 rfl rfl (sg1 rfl rfl (sg1 rfl rfl rfl))))) ?_
  obtain ⟨q3, e_q3, hf⟩ := bnd hf
  refine Ex.callV (a := 49) (As := [.int q1.1, .int (y2 + 1)]) (r := []) (v := some (.int q3.1)) (h' := q3.2) rfl rfl (by decide) rfl (Nat.le_of_ble_eq_true rfl) rfl (hrec d (by omega) _ _ _ _ e_q3) rfl ?_
  obtain rfl := Option.some.inj hf
  exact Ex.iret rfl rfl (fun c0 => by cases c0) hs
theorem B_92_0 {L : Nat} {xs : Nat → Int32} {d : Nat} {M : Nat} {rec : Int32 → Int32 → sm_H → Option (Int32 × sm_H)} (hrec : ∀ d, M ≤ d → ∀ (x1 x2 : Int32) (h : sm_H) (q : Int32 × sm_H), rec x1 x2 h = some q → RUN L xs d 82 [.ref 49, .int x1, .int x2] h (some (.int q.1), q.2)) (hd : 3 + M ≤ d) {res : Option Value × sm_H} {x1 : Int32} {x2 : Int32}  {h : sm_H} {r : (Int32 × sm_H)} (hf : F_92_0 rec x1 x2 h = some r) (hs : (fun (r : Int32 × sm_H) => res = (some (.int r.1), r.2)) r) : Ex (P_G L xs) (RUN L xs d) (sm_lk P_t92) 0 0 [some (.ref 49), some (.int x1), some (.int x2), none, none, none] [] h res := by
  unfold F_92_0 at hf
  refine Ex.seg 4 (pc' := 6) (lc' := [some (.ref 49), some (.int x1), some (.int x2), none, none, none]) (st' := [.int 0, .int x1, .ref 10]) (h' := h) (sg1 rfl rfl (sg1 rfl rfl (sg1 rfl rfl (sg1 rfl rfl rfl)))) ?_
  obtain ⟨q4, e_q4, hf⟩ := bnd hf
  refine Ex.callV (a := 10) (As := [.int x1, .int 0]) (r := []) (v := some (.int q4.1)) (h' := q4.2) rfl rfl (by decide) rfl (Nat.le_of_ble_eq_true rfl) rfl (E_43 (by omega) e_q4) rfl ?_
  refine Ex.seg 4 (pc' := 13) (lc' := [some (.ref 49), some (.int x1), some (.int x2), some (.int q4.1), none, none]) (st' := [.int q4.1, .int x2, .ref 49]) (h' := q4.2) (sg1 rfl rfl (sg1 rfl rfl (sg1 rfl rfl (sg1 rfl rfl rfl)))) ?_
  obtain ⟨q5, e_q5, hf⟩ := bnd hf
  refine Ex.callV (a := 49) (As := [.int x2, .int q4.1]) (r := []) (v := none) (h' := q5) rfl rfl (by decide) rfl (Nat.le_of_ble_eq_true rfl) rfl (E_81 (by omega) e_q5) rfl ?_
  refine Ex.seg 5 (pc' := 21) (lc' := [some (.ref 49), some (.int x1), some (.int x2), some (.int q4.1), none, none]) (st' := [.int (x2 + 1), .int q4.1, .ref 49]) (h' := q5) (sg1 rfl rfl (sg1 rfl rfl (sg1 rfl rfl (sg1 rfl rfl (sg1 rfl rfl rfl))))) ?_
  obtain ⟨q6, e_q6, hf⟩ := bnd hf
  refine Ex.callV (a := 49) (As := [.int q4.1, .int (x2 + 1)]) (r := []) (v := some (.int q6.1)) (h' := q6.2) rfl rfl (by decide) rfl (Nat.le_of_ble_eq_true rfl) rfl (hrec d (by omega) _ _ _ _ e_q6) rfl ?_
  refine Ex.seg 2 (pc' := 28) (lc' := [some (.ref 49), some (.int x1), some (.int x2), some (.int q4.1), some (.int q6.1), none]) (st' := [.int q6.1]) (h' := q6.2) (sg1 rfl rfl (sg1 rfl rfl rfl)) ?_
  refine Ex.ifc rfl rfl (fun (c0 : q6.1 = 0) => ?_) (fun (c0 : ¬ (q6.1 = 0)) => ?_)
  · rw [if_pos c0] at hf
    refine Ex.seg 7 (pc' := 45) (lc' := [some (.ref 49), some (.int x1), some (.int x2), some (.int q4.1), some (.int q6.1), none]) (st' := [.int (lg_cmp (q6.2.2.1 49 9) 1), .int x1, .ref 10]) (h' := q6.2) (sg1 rfl rfl (sg1 rfl rfl (sg1 rfl rfl (sg1 rfl rfl (sg1 rfl rfl (sg1 rfl rfl (sg1 rfl rfl rfl))))))) ?_
    refine Ex.ifc rfl rfl (fun (c0 : ¬ ((lg_cmp (q6.2.2.1 49 9) 1) = 0)) => ?_) (fun (c0 : ¬ ¬ ((lg_cmp (q6.2.2.1 49 9) 1) = 0)) => ?_)
    · rw [if_neg c0] at hf
      refine Ex.seg 1 (pc' := 53) (lc' := [some (.ref 49), some (.int x1), some (.int x2), some (.int q4.1), some (.int q6.1), none]) (st' := [.int 2, .int x1, .ref 10]) (h' := q6.2) (sg1 rfl rfl rfl) ?_
      exact Ex.weak (sm_le_s (sm_le_n (sm_le_s (sm_le_n (sm_le_n (sm_le_s sm_le_nil)))))) (B_92_53 hrec hd  hf hs)
    · rw [if_pos (Classical.not_not.mp c0)] at hf
      refine Ex.seg 2 (pc' := 53) (lc' := [some (.ref 49), some (.int x1), some (.int x2), some (.int q4.1), some (.int q6.1), none]) (st' := [.int 1, .int x1, .ref 10]) (h' := q6.2) (sg1 rfl rfl (sg1 rfl rfl rfl)) ?_
      exact Ex.weak (sm_le_s (sm_le_n (sm_le_s (sm_le_n (sm_le_n (sm_le_s sm_le_nil)))))) (B_92_53 hrec hd  hf hs)
  · rw [if_neg c0] at hf
    refine Ex.seg 1 (pc' := 33) (lc' := [some (.ref 49), some (.int x1), some (.int x2), some (.int q4.1), some (.int q6.1), none]) (st' := [.int q6.1]) (h' := q6.2) (sg1 rfl rfl rfl) ?_
    obtain rfl := Option.some.inj hf
    exact Ex.iret rfl rfl (fun c0 => by cases c0) hs
theorem E_92 {L : Nat} {xs : Nat → Int32} {d : Nat} {M : Nat} {rec : Int32 → Int32 → sm_H → Option (Int32 × sm_H)} (hrec : ∀ d, M ≤ d → ∀ (x1 x2 : Int32) (h : sm_H) (q : Int32 × sm_H), rec x1 x2 h = some q → RUN L xs d 82 [.ref 49, .int x1, .int x2] h (some (.int q.1), q.2)) (hd : 4 + M ≤ d) {x1 : Int32} {x2 : Int32} {h : sm_H} {r : Int32 × sm_H} (hf : F_92 rec x1 x2 h = some r) : RUN L xs d 92 [.ref 49, .int x1, .int x2] h (some (.int r.1), r.2) := by
  obtain ⟨d, rfl⟩ : ∃ e, d = e + 1 := ⟨d - 1, by omega⟩
  exact ⟨Nat.le_of_ble_eq_true rfl, B_92_0 hrec (by omega) hf rfl⟩
theorem B_93_65 {L : Nat} {xs : Nat → Int32} {d : Nat} {M : Nat} {rec : Int32 → Int32 → sm_H → Option (Int32 × sm_H)} (hrec : ∀ d, M ≤ d → ∀ (x1 x2 : Int32) (h : sm_H) (q : Int32 × sm_H), rec x1 x2 h = some q → RUN L xs d 82 [.ref 49, .int x1, .int x2] h (some (.int q.1), q.2)) (hd : 3 + M ≤ d) {res : Option Value × sm_H} {y5 : Int32}  {h : sm_H} {r : (Int32 × sm_H)} (hf : F_93_65 rec y5 h = some r) (hs : (fun (r : Int32 × sm_H) => res = (some (.int r.1), r.2)) r) : Ex (P_G L xs) (RUN L xs d) (sm_lk P_t93) 0 65 [none, none, none, none, none, some (.int y5)] [] h res := by
  unfold F_93_65 at hf
  refine Ex.seg 1 (pc' := 67) (lc' := [none, none, none, none, none, some (.int y5)]) (st' := [.int y5]) (h' := h) (sg1 rfl rfl rfl) ?_
  obtain rfl := Option.some.inj hf
  exact Ex.iret rfl rfl (fun c0 => by cases c0) hs
theorem B_93_0 {L : Nat} {xs : Nat → Int32} {d : Nat} {M : Nat} {rec : Int32 → Int32 → sm_H → Option (Int32 × sm_H)} (hrec : ∀ d, M ≤ d → ∀ (x1 x2 : Int32) (h : sm_H) (q : Int32 × sm_H), rec x1 x2 h = some q → RUN L xs d 82 [.ref 49, .int x1, .int x2] h (some (.int q.1), q.2)) (hd : 3 + M ≤ d) {res : Option Value × sm_H} {x1 : Int32} {x2 : Int32}  {h : sm_H} {r : (Int32 × sm_H)} (hf : F_93_0 rec x1 x2 h = some r) (hs : (fun (r : Int32 × sm_H) => res = (some (.int r.1), r.2)) r) : Ex (P_G L xs) (RUN L xs d) (sm_lk P_t93) 0 0 [some (.ref 49), some (.int x1), some (.int x2), none, none, none] [] h res := by
  unfold F_93_0 at hf
  refine Ex.seg 4 (pc' := 6) (lc' := [some (.ref 49), some (.int x1), some (.int x2), none, none, none]) (st' := [.int 0, .int x1, .ref 10]) (h' := h) (sg1 rfl rfl (sg1 rfl rfl (sg1 rfl rfl (sg1 rfl rfl rfl)))) ?_
  obtain ⟨q1, e_q1, hf⟩ := bnd hf
  refine Ex.callV (a := 10) (As := [.int x1, .int 0]) (r := []) (v := some (.int q1.1)) (h' := q1.2) rfl rfl (by decide) rfl (Nat.le_of_ble_eq_true rfl) rfl (E_43 (by omega) e_q1) rfl ?_
  refine Ex.seg 5 (pc' := 16) (lc' := [some (.ref 49), some (.int x1), some (.int x2), some (.int q1.1), none, none]) (st' := [.int 1, .int x1, .ref 10]) (h' := q1.2) (sg1 rfl rfl (sg1 rfl rfl (sg1 rfl rfl (sg1 rfl rfl (sg1 rfl rfl rfl))))) ?_
  obtain ⟨q2, e_q2, hf⟩ := bnd hf
  refine Ex.callV (a := 10) (As := [.int x1, .int 1]) (r := []) (v := some (.int q2.1)) (h' := q2.2) rfl rfl (by decide) rfl (Nat.le_of_ble_eq_true rfl) rfl (E_43 (by omega) e_q2) rfl ?_
  refine Ex.seg 4 (pc' := 24) (lc' := [some (.ref 49), some (.int x1), some (.int x2), some (.int q1.1), some (.int q2.1), none]) (st' := [.int q1.1, .int x2, .ref 49]) (h' := q2.2) (sg1 rfl rfl (sg1 rfl rfl (sg1 rfl rfl (sg1 rfl rfl rfl)))) ?_
  obtain ⟨q3, e_q3, hf⟩ := bnd hf
  refine Ex.callV (a := 49) (As := [.int x2, .int q1.1]) (r := []) (v := none) (h' := q3) rfl rfl (by decide) rfl (Nat.le_of_ble_eq_true rfl) rfl (E_81 (by omega) e_q3) rfl ?_
  refine Ex.seg 5 (pc' := 32) (lc' := [some (.ref 49), some (.int x1), some (.int x2), some (.int q1.1), some (.int q2.1), none]) (st' := [.int (x2 + 1), .int q1.1, .ref 49]) (h' := q3) (sg1 rfl rfl (sg1 rfl rfl (sg1 rfl rfl (sg1 rfl rfl (sg1 rfl rfl rfl))))) ?_
  obtain ⟨q4, e_q4, hf⟩ := bnd hf
  refine Ex.callV (a := 49) (As := [.int q1.1, .int (x2 + 1)]) (r := []) (v := some (.int q4.1)) (h' := q4.2) rfl rfl (by decide) rfl (Nat.le_of_ble_eq_true rfl) rfl (hrec d (by omega) _ _ _ _ e_q4) rfl ?_
  refine Ex.seg 3 (pc' := 40) (lc' := [some (.ref 49), some (.int x1), some (.int x2), some (.int q1.1), some (.int q2.1), some (.int q4.1)]) (st' := [.int 1, .int q4.1]) (h' := q4.2) (sg1 rfl rfl (sg1 rfl rfl (sg1 rfl rfl rfl))) ?_
  refine Ex.icmp rfl rfl (fun (c0 : ¬ (q4.1 = 1)) => ?_) (fun (c0 : ¬ ¬ (q4.1 = 1)) => ?_)
  · rw [if_neg c0] at hf
    exact Ex.weak (sm_le_n (sm_le_n (sm_le_n (sm_le_n (sm_le_n (sm_le_s sm_le_nil)))))) (B_93_65 hrec hd  hf hs)
  · rw [if_pos (Classical.not_not.mp c0)] at hf
    refine Ex.seg 7 (pc' := 56) (lc' := [some (.ref 49), some (.int x1), some (.int x2), some (.int q1.1), some (.int q2.1), some (.int q4.1)]) (st' := [.int x1, .ref 10, .int (q4.2.1 49 10), .ref 1]) (h' := q4.2) (sg1 rfl rfl (sg1 rfl rfl (sg1 rfl rfl (sg1 rfl rfl (sg1 rfl rfl (sg1 rfl rfl (sg1 rfl rfl rfl))))))) ?_
    obtain ⟨q5, e_q5, hf⟩ := bnd hf
    refine Ex.callV (a := 10) (As := [.int x1]) (r := [.int (q4.2.1 49 10), .ref 1]) (v := some (.int q5.1)) (h' := q5.2) rfl rfl (by decide) rfl (Nat.le_of_ble_eq_true rfl) rfl (E_38 (by omega) e_q5) rfl ?_
    obtain ⟨q6, e_q6, hf⟩ := bnd hf
    refine Ex.callV (a := 1) (As := [.int (q4.2.1 49 10), .int q5.1]) (r := []) (v := some (.int q6.1)) (h' := q6.2) rfl rfl (by decide) rfl (Nat.le_of_ble_eq_true rfl) rfl (E_60 (by omega) e_q6) rfl ?_
    refine Ex.ifc rfl rfl (fun (c0 : ¬ (q6.1 = 0)) => ?_) (fun (c0 : ¬ ¬ (q6.1 = 0)) => ?_)
    · rw [if_neg c0] at hf
      refine Ex.seg 9 (pc' := 81) (lc' := [some (.ref 49), some (.int x1), some (.int x2), some (.int q1.1), some (.int q2.1), some (.int q4.1)]) (st' := [.int (q6.2.1 49 10), .long (q6.2.2.1 49 9), .int 0, .int (x2 + 1), .ref 49]) (h' := q6.2) (sg1 rfl rfl (sg1 rfl rfl (sg1 rfl rfl (sg1 rfl rfl (sg1 rfl rfl (sg1 rfl rfl (sg1 rfl rfl (sg1 rfl rfl (sg1 rfl rfl rfl))))))))) ?_
      obtain ⟨q7, e_q7, hf⟩ := bnd hf
      refine Ex.callV (a := 49) (As := [.int (x2 + 1), .int 0, .long (q6.2.2.1 49 9), .int (q6.2.1 49 10)]) (r := []) (v := none) (h' := q7) rfl rfl (by decide) rfl (Nat.le_of_ble_eq_true rfl) rfl (E_79 (by omega) e_q7) rfl ?_
      refine Ex.seg 7 (pc' := 94) (lc' := [some (.ref 49), some (.int x1), some (.int x2), some (.int q1.1), some (.int q2.1), some (.int q4.1)]) (st' := [.int q2.1, .ref 10, .int 1, .int 0, .int x2, .ref 49]) (h' := q7) (sg1 rfl rfl (sg1 rfl rfl (sg1 rfl rfl (sg1 rfl rfl (sg1 rfl rfl (sg1 rfl rfl (sg1 rfl rfl rfl))))))) ?_
      obtain ⟨q8, e_q8, hf⟩ := bnd hf
      refine Ex.callV (a := 10) (As := [.int q2.1]) (r := [.int 1, .int 0, .int x2, .ref 49]) (v := some (.int q8.1)) (h' := q8.2) rfl rfl (by decide) rfl (Nat.le_of_ble_eq_true rfl) rfl (E_45 (by omega) e_q8) rfl ?_
      refine Ex.seg 2 (pc' := 99) (lc' := [some (.ref 49), some (.int x1), some (.int x2), some (.int q1.1), some (.int q2.1), some (.int q4.1)]) (st' := [.int (q8.1 - 1), .int 1, .int 0, .int x2, .ref 49]) (h' := q8.2) (sg1 rfl rfl (sg1 rfl rfl rfl)) ?_
      obtain ⟨q9, e_q9, hf⟩ := bnd hf
      refine Ex.callV (a := 49) (As := [.int x2, .int 0, .int 1, .int (q8.1 - 1)]) (r := []) (v := none) (h' := q9) rfl rfl (by decide) rfl (Nat.le_of_ble_eq_true rfl) rfl (E_80 (by omega) e_q9) rfl ?_
      refine Ex.seg 5 (pc' := 108) (lc' := [some (.ref 49), some (.int x1), some (.int x2), some (.int q1.1), some (.int q2.1), some (.int q4.1)]) (st' := [.int (x2 + 1), .int q2.1, .ref 49]) (h' := q9) (sg1 rfl rfl (sg1 rfl rfl (sg1 rfl rfl (sg1 rfl rfl (sg1 rfl rfl rfl))))) ?_
      obtain ⟨q10, e_q10, hf⟩ := bnd hf
      refine Ex.callV (a := 49) (As := [.int q2.1, .int (x2 + 1)]) (r := []) (v := some (.int q10.1)) (h' := q10.2) rfl rfl (by decide) rfl (Nat.le_of_ble_eq_true rfl) rfl (hrec d (by omega) _ _ _ _ e_q10) rfl ?_
      obtain rfl := Option.some.inj hf
      exact Ex.iret rfl rfl (fun c0 => by cases c0) hs
    · rw [if_pos (Classical.not_not.mp c0)] at hf
      exact Ex.weak (sm_le_n (sm_le_n (sm_le_n (sm_le_n (sm_le_n (sm_le_s sm_le_nil)))))) (B_93_65 hrec hd  hf hs)
theorem E_93 {L : Nat} {xs : Nat → Int32} {d : Nat} {M : Nat} {rec : Int32 → Int32 → sm_H → Option (Int32 × sm_H)} (hrec : ∀ d, M ≤ d → ∀ (x1 x2 : Int32) (h : sm_H) (q : Int32 × sm_H), rec x1 x2 h = some q → RUN L xs d 82 [.ref 49, .int x1, .int x2] h (some (.int q.1), q.2)) (hd : 4 + M ≤ d) {x1 : Int32} {x2 : Int32} {h : sm_H} {r : Int32 × sm_H} (hf : F_93 rec x1 x2 h = some r) : RUN L xs d 93 [.ref 49, .int x1, .int x2] h (some (.int r.1), r.2) := by
  obtain ⟨d, rfl⟩ : ∃ e, d = e + 1 := ⟨d - 1, by omega⟩
  exact ⟨Nat.le_of_ble_eq_true rfl, B_93_0 hrec (by omega) hf rfl⟩
theorem B_94_209 {L : Nat} {xs : Nat → Int32} {d : Nat} {M : Nat} {rec : Int32 → Int32 → sm_H → Option (Int32 × sm_H)} (hrec : ∀ d, M ≤ d → ∀ (x1 x2 : Int32) (h : sm_H) (q : Int32 × sm_H), rec x1 x2 h = some q → RUN L xs d 82 [.ref 49, .int x1, .int x2] h (some (.int q.1), q.2)) (hd : 3 + M ≤ d) {res : Option Value × sm_H} {y11 : Int32}  {h : sm_H} {r : (Int32 × sm_H)} (hf : F_94_209 rec y11 h = some r) (hs : (fun (r : Int32 × sm_H) => res = (some (.int r.1), r.2)) r) : Ex (P_G L xs) (RUN L xs d) (sm_lk P_t94) 0 209 [none, none, none, none, none, none, none, none, none, none, none, some (.int y11)] [] h res := by
  unfold F_94_209 at hf
  refine Ex.seg 1 (pc' := 211) (lc' := [none, none, none, none, none, none, none, none, none, none, none, some (.int y11)]) (st' := [.int y11]) (h' := h) (sg1 rfl rfl rfl) ?_
  obtain rfl := Option.some.inj hf
  exact Ex.iret rfl rfl (fun c0 => by cases c0) hs
theorem B_94_157 {L : Nat} {xs : Nat → Int32} {d : Nat} {M : Nat} {rec : Int32 → Int32 → sm_H → Option (Int32 × sm_H)} (hrec : ∀ d, M ≤ d → ∀ (x1 x2 : Int32) (h : sm_H) (q : Int32 × sm_H), rec x1 x2 h = some q → RUN L xs d 82 [.ref 49, .int x1, .int x2] h (some (.int q.1), q.2)) (hd : 3 + M ≤ d) {res : Option Value × sm_H} {y2 : Int32} {y4 : Int32} {y6 : Int32} {y7 : Int64} {y9 : Int32} {y10 : Int32}  {h : sm_H} {r : (Int32 × sm_H)} (hf : F_94_157 rec y2 y4 y6 y7 y9 y10 h = some r) (hs : (fun (r : Int32 × sm_H) => res = (some (.int r.1), r.2)) r) : Ex (P_G L xs) (RUN L xs d) (sm_lk P_t94) 0 157 [some (.ref 49), none, some (.int y2), none, some (.int y4), none, some (.int y6), some (.long y7), none, some (.int y9), some (.int y10), none] [] h res := by
  unfold F_94_157 at hf
  refine Ex.seg 7 (pc' := 168) (lc' := [some (.ref 49), none, some (.int y2), none, some (.int y4), none, some (.int y6), some (.long y7), none, some (.int y9), some (.int y10), none]) (st' := [.int y4, .ref 10, .int y10, .int 0, .int y2, .ref 49]) (h' := h) (sg1 rfl rfl (sg1 rfl rfl (sg1 rfl rfl (sg1 rfl rfl (sg1 rfl rfl (sg1 rfl rfl (sg1 rfl rfl rfl))))))) ?_
  obtain ⟨q1, e_q1, hf⟩ := bnd hf
  refine Ex.callV (a := 10) (As := [.int y4]) (r := [.int y10, .int 0, .int y2, .ref 49]) (v := some (.int q1.1)) (h' := q1.2) rfl rfl (by decide) rfl (Nat.le_of_ble_eq_true rfl) rfl (E_45 (by omega) e_q1) rfl ?_
  refine Ex.seg 2 (pc' := 174) (lc' := [some (.ref 49), none, some (.int y2), none, some (.int y4), none, some (.int y6), some (.long y7), none, some (.int y9), some (.int y10), none]) (st' := [.int (q1.1 - y10), .int y10, .int 0, .int y2, .ref 49]) (h' := q1.2) (sg1 rfl rfl (sg1 rfl rfl rfl)) ?_
  obtain ⟨q2, e_q2, hf⟩ := bnd hf
  refine Ex.callV (a := 49) (As := [.int y2, .int 0, .int y10, .int (q1.1 - y10)]) (r := []) (v := none) (h' := q2) rfl rfl (by decide) rfl (Nat.le_of_ble_eq_true rfl) rfl (E_80 (by omega) e_q2) rfl ?_
  refine Ex.seg 5 (pc' := 183) (lc' := [some (.ref 49), none, some (.int y2), none, some (.int y4), none, some (.int y6), some (.long y7), none, some (.int y9), some (.int y10), none]) (st' := [.int (y2 + 1), .int y4, .ref 49]) (h' := q2) (sg1 rfl rfl (sg1 rfl rfl (sg1 rfl rfl (sg1 rfl rfl (sg1 rfl rfl rfl))))) ?_
  obtain ⟨q3, e_q3, hf⟩ := bnd hf
  refine Ex.callV (a := 49) (As := [.int y4, .int (y2 + 1)]) (r := []) (v := some (.int q3.1)) (h' := q3.2) rfl rfl (by decide) rfl (Nat.le_of_ble_eq_true rfl) rfl (hrec d (by omega) _ _ _ _ e_q3) rfl ?_
  refine Ex.seg 2 (pc' := 190) (lc' := [some (.ref 49), none, some (.int y2), none, some (.int y4), none, some (.int y6), some (.long y7), none, some (.int y9), some (.int y10), some (.int q3.1)]) (st' := [.int y6]) (h' := q3.2) (sg1 rfl rfl (sg1 rfl rfl rfl)) ?_
  refine Ex.ifc rfl rfl (fun (c0 : y6 = 0) => ?_) (fun (c0 : ¬ (y6 = 0)) => ?_)
  · rw [if_pos c0] at hf
    exact Ex.weak (sm_le_n (sm_le_s (sm_le_n (sm_le_s (sm_le_n (sm_le_s (sm_le_n (sm_le_n (sm_le_s (sm_le_n (sm_le_n (sm_le_s sm_le_nil)))))))))))) (B_94_209 hrec hd  hf hs)
  · rw [if_neg c0] at hf
    refine Ex.seg 1 (pc' := 195) (lc' := [some (.ref 49), none, some (.int y2), none, some (.int y4), none, some (.int y6), some (.long y7), none, some (.int y9), some (.int y10), some (.int q3.1)]) (st' := [.int q3.1]) (h' := q3.2) (sg1 rfl rfl rfl) ?_
    refine Ex.ifc rfl rfl (fun (c0 : ¬ (q3.1 = 0)) => ?_) (fun (c0 : ¬ ¬ (q3.1 = 0)) => ?_)
    · rw [if_neg c0] at hf
      exact Ex.weak (sm_le_n (sm_le_s (sm_le_n (sm_le_s (sm_le_n (sm_le_s (sm_le_n (sm_le_n (sm_le_s (sm_le_n (sm_le_n (sm_le_s sm_le_nil)))))))))))) (B_94_209 hrec hd  hf hs)
    · rw [if_pos (Classical.not_not.mp c0)] at hf
      refine Ex.seg 3 (pc' := 203) (lc' := [some (.ref 49), none, some (.int y2), none, some (.int y4), none, some (.int y6), some (.long y7), none, some (.int y9), some (.int y10), some (.int q3.1)]) (st' := [.int y9, .long y7, .ref 49]) (h' := q3.2) (sg1 rfl rfl (sg1 rfl rfl (sg1 rfl rfl rfl))) ?_
      obtain ⟨q4, e_q4, hf⟩ := bnd hf
      refine Ex.callV (a := 49) (As := [.long y7, .int y9]) (r := []) (v := some (.int q4.1)) (h' := q4.2) rfl rfl (by decide) rfl (Nat.le_of_ble_eq_true rfl) rfl (E_75 (by omega) e_q4) rfl ?_
      refine Ex.seg 2 (pc' := 208) (lc' := [some (.ref 49), none, some (.int y2), none, some (.int y4), none, some (.int y6), some (.long y7), none, some (.int y9), some (.int y10), some (.int q3.1)]) (st' := [.int 1]) (h' := q4.2) (sg1 rfl rfl (sg1 rfl rfl rfl)) ?_
      obtain rfl := Option.some.inj hf
      exact Ex.iret rfl rfl (fun c0 => by cases c0) hs
theorem B_94_151 {L : Nat} {xs : Nat → Int32} {d : Nat} {M : Nat} {rec : Int32 → Int32 → sm_H → Option (Int32 × sm_H)} (hrec : ∀ d, M ≤ d → ∀ (x1 x2 : Int32) (h : sm_H) (q : Int32 × sm_H), rec x1 x2 h = some q → RUN L xs d 82 [.ref 49, .int x1, .int x2] h (some (.int q.1), q.2)) (hd : 3 + M ≤ d) {res : Option Value × sm_H} {y2 : Int32} {y4 : Int32} {y6 : Int32} {y7 : Int64} {y9 : Int32} {z1 : Int32} {z2 : Int32} {z3 : Int64} {z4 : Int32}  {h : sm_H} {r : (Int32 × sm_H)} (hf : F_94_151 rec y2 y4 y6 y7 y9 z1 z2 z3 z4 h = some r) (hs : (fun (r : Int32 × sm_H) => res = (some (.int r.1), r.2)) r) : Ex (P_G L xs) (RUN L xs d) (sm_lk P_t94) 0 151 [some (.ref 49), none, some (.int y2), none, some (.int y4), none, some (.int y6), some (.long y7), none, some (.int y9), none, none] [.int z4, .long z3, .int z2, .int z1, .ref 49] h res := by
  unfold F_94_151 at hf
  obtain ⟨q5, e_q5, hf⟩ := bnd hf
  refine Ex.callV (a := 49) (As := [.int z1, .int z2, .long z3, .int z4]) (r := []) (v := none) (h' := q5) rfl rfl (by decide) rfl (Nat.le_of_ble_eq_true rfl) rfl (E_79 (by omega) e_q5) rfl ?_
  refine Ex.seg 2 (pc' := 157) (lc' := [some (.ref 49), none, some (.int y2), none, some (.int y4), none, some (.int y6), some (.long y7), none, some (.int y9), some (.int 2), none]) (st' := []) (h' := q5) (sg1 rfl rfl (sg1 rfl rfl rfl)) ?_
  exact Ex.weak (sm_le_s (sm_le_s (sm_le_s (sm_le_s (sm_le_s (sm_le_s (sm_le_s (sm_le_s (sm_le_s (sm_le_s (sm_le_s (sm_le_s sm_le_nil)))))))))))) (B_94_157 hrec hd  hf hs)
theorem B_94_138 {L : Nat} {xs : Nat → Int32} {d : Nat} {M : Nat} {rec : Int32 → Int32 → sm_H → Option (Int32 × sm_H)} (hrec : ∀ d, M ≤ d → ∀ (x1 x2 : Int32) (h : sm_H) (q : Int32 × sm_H), rec x1 x2 h = some q → RUN L xs d 82 [.ref 49, .int x1, .int x2] h (some (.int q.1), q.2)) (hd : 3 + M ≤ d) {res : Option Value × sm_H} {y2 : Int32} {y4 : Int32} {y6 : Int32} {y7 : Int64} {y9 : Int32} {z1 : Int32} {z2 : Int32} {z3 : Int64}  {h : sm_H} {r : (Int32 × sm_H)} (hf : F_94_138 rec y2 y4 y6 y7 y9 z1 z2 z3 h = some r) (hs : (fun (r : Int32 × sm_H) => res = (some (.int r.1), r.2)) r) : Ex (P_G L xs) (RUN L xs d) (sm_lk P_t94) 0 138 [some (.ref 49), none, some (.int y2), none, some (.int y4), none, some (.int y6), some (.long y7), none, some (.int y9), none, none] [.long z3, .int z2, .int z1, .ref 49] h res := by
  unfold F_94_138 at hf
  refine Ex.seg 1 (pc' := 140) (lc' := [some (.ref 49), none, some (.int y2), none, some (.int y4), none, some (.int y6), some (.long y7), none, some (.int y9), none, none]) (st' := [.int y6, .long z3, .int z2, .int z1, .ref 49]) (h' := h) (sg1 rfl rfl rfl) ?_
  refine Ex.ifc rfl rfl (fun (c0 : y6 = 0) => ?_) (fun (c0 : ¬ (y6 = 0)) => ?_)
  · rw [if_pos c0] at hf
    refine Ex.seg 2 (pc' := 151) (lc' := [some (.ref 49), none, some (.int y2), none, some (.int y4), none, some (.int y6), some (.long y7), none, some (.int y9), none, none]) (st' := [.int (h.1 49 10), .long z3, .int z2, .int z1, .ref 49]) (h' := h) (sg1 rfl rfl (sg1 rfl rfl rfl)) ?_
    exact Ex.weak (sm_le_s (sm_le_s (sm_le_s (sm_le_s (sm_le_s (sm_le_s (sm_le_s (sm_le_s (sm_le_s (sm_le_s (sm_le_s (sm_le_s sm_le_nil)))))))))))) (B_94_151 hrec hd  hf hs)
  · rw [if_neg c0] at hf
    refine Ex.seg 2 (pc' := 151) (lc' := [some (.ref 49), none, some (.int y2), none, some (.int y4), none, some (.int y6), some (.long y7), none, some (.int y9), none, none]) (st' := [.int 0, .long z3, .int z2, .int z1, .ref 49]) (h' := h) (sg1 rfl rfl (sg1 rfl rfl rfl)) ?_
    exact Ex.weak (sm_le_s (sm_le_s (sm_le_s (sm_le_s (sm_le_s (sm_le_s (sm_le_s (sm_le_s (sm_le_s (sm_le_s (sm_le_s (sm_le_s sm_le_nil)))))))))))) (B_94_151 hrec hd  hf hs)
theorem B_94_92 {L : Nat} {xs : Nat → Int32} {d : Nat} {M : Nat} {rec : Int32 → Int32 → sm_H → Option (Int32 × sm_H)} (hrec : ∀ d, M ≤ d → ∀ (x1 x2 : Int32) (h : sm_H) (q : Int32 × sm_H), rec x1 x2 h = some q → RUN L xs d 82 [.ref 49, .int x1, .int x2] h (some (.int q.1), q.2)) (hd : 3 + M ≤ d) {res : Option Value × sm_H} {y2 : Int32} {y3 : Int32} {y4 : Int32} {y6 : Int32} {y7 : Int64} {z0 : Int32}  {h : sm_H} {r : (Int32 × sm_H)} (hf : F_94_92 rec y2 y3 y4 y6 y7 z0 h = some r) (hs : (fun (r : Int32 × sm_H) => res = (some (.int r.1), r.2)) r) : Ex (P_G L xs) (RUN L xs d) (sm_lk P_t94) 0 92 [some (.ref 49), none, some (.int y2), some (.int y3), some (.int y4), none, some (.int y6), some (.long y7), none, none, none, none] [.int z0] h res := by
  unfold F_94_92 at hf
  refine Ex.seg 10 (pc' := 106) (lc' := [some (.ref 49), none, some (.int y2), some (.int y3), some (.int y4), none, some (.int y6), some (.long y7), none, some (.int z0), some (.int 1), none]) (st' := [.int z0, .long y7, .int 0, .int (y2 + 1), .ref 49]) (h' := h) (sg1 rfl rfl (sg1 rfl rfl (sg1 rfl rfl (sg1 rfl rfl (sg1 rfl rfl (sg1 rfl rfl (sg1 rfl rfl (sg1 rfl rfl (sg1 rfl rfl (sg1 rfl rfl rfl)))))))))) ?_
  obtain ⟨q6, e_q6, hf⟩ := bnd hf
  refine Ex.callV (a := 49) (As := [.int (y2 + 1), .int 0, .long y7, .int z0]) (r := []) (v := none) (h' := q6) rfl rfl (by decide) rfl (Nat.le_of_ble_eq_true rfl) rfl (E_79 (by omega) e_q6) rfl ?_
  refine Ex.seg 3 (pc' := 114) (lc' := [some (.ref 49), none, some (.int y2), some (.int y3), some (.int y4), none, some (.int y6), some (.long y7), none, some (.int z0), some (.int 1), none]) (st' := [.int y3, .ref 10]) (h' := q6) (sg1 rfl rfl (sg1 rfl rfl (sg1 rfl rfl rfl))) ?_
  obtain ⟨q7, e_q7, hf⟩ := bnd hf
  refine Ex.callV (a := 10) (As := [.int y3]) (r := []) (v := some (.int q7.1)) (h' := q7.2) rfl rfl (by decide) rfl (Nat.le_of_ble_eq_true rfl) rfl (E_44 (by omega) e_q7) rfl ?_
  refine Ex.ifc rfl rfl (fun (c0 : q7.1 = 0) => ?_) (fun (c0 : ¬ (q7.1 = 0)) => ?_)
  · rw [if_pos c0] at hf
    exact Ex.weak (sm_le_s (sm_le_s (sm_le_s (sm_le_n (sm_le_s (sm_le_s (sm_le_s (sm_le_s (sm_le_s (sm_le_s (sm_le_s (sm_le_s sm_le_nil)))))))))))) (B_94_157 hrec hd  hf hs)
  · rw [if_neg c0] at hf
    refine Ex.seg 6 (pc' := 127) (lc' := [some (.ref 49), none, some (.int y2), some (.int y3), some (.int y4), none, some (.int y6), some (.long y7), none, some (.int z0), some (.int 1), none]) (st' := [.int y6, .int 1, .int (y2 + 1), .ref 49]) (h' := q7.2) (sg1 rfl rfl (sg1 rfl rfl (sg1 rfl rfl (sg1 rfl rfl (sg1 rfl rfl (sg1 rfl rfl rfl)))))) ?_
    refine Ex.ifc rfl rfl (fun (c0 : y6 = 0) => ?_) (fun (c0 : ¬ (y6 = 0)) => ?_)
    · rw [if_pos c0] at hf
      refine Ex.seg 2 (pc' := 138) (lc' := [some (.ref 49), none, some (.int y2), some (.int y3), some (.int y4), none, some (.int y6), some (.long y7), none, some (.int z0), some (.int 1), none]) (st' := [.long (q7.2.2.1 49 9), .int 1, .int (y2 + 1), .ref 49]) (h' := q7.2) (sg1 rfl rfl (sg1 rfl rfl rfl)) ?_
      exact Ex.weak (sm_le_s (sm_le_s (sm_le_s (sm_le_n (sm_le_s (sm_le_s (sm_le_s (sm_le_s (sm_le_s (sm_le_s (sm_le_n (sm_le_s sm_le_nil)))))))))))) (B_94_138 hrec hd  hf hs)
    · rw [if_neg c0] at hf
      refine Ex.seg 2 (pc' := 138) (lc' := [some (.ref 49), none, some (.int y2), some (.int y3), some (.int y4), none, some (.int y6), some (.long y7), none, some (.int z0), some (.int 1), none]) (st' := [.long 0, .int 1, .int (y2 + 1), .ref 49]) (h' := q7.2) (sg1 rfl rfl (sg1 rfl rfl rfl)) ?_
      exact Ex.weak (sm_le_s (sm_le_s (sm_le_s (sm_le_n (sm_le_s (sm_le_s (sm_le_s (sm_le_s (sm_le_s (sm_le_s (sm_le_n (sm_le_s sm_le_nil)))))))))))) (B_94_138 hrec hd  hf hs)
theorem B_94_77 {L : Nat} {xs : Nat → Int32} {d : Nat} {M : Nat} {rec : Int32 → Int32 → sm_H → Option (Int32 × sm_H)} (hrec : ∀ d, M ≤ d → ∀ (x1 x2 : Int32) (h : sm_H) (q : Int32 × sm_H), rec x1 x2 h = some q → RUN L xs d 82 [.ref 49, .int x1, .int x2] h (some (.int q.1), q.2)) (hd : 3 + M ≤ d) {res : Option Value × sm_H} {y2 : Int32} {y3 : Int32} {y4 : Int32} {y6 : Int32} {z0 : Int64}  {h : sm_H} {r : (Int32 × sm_H)} (hf : F_94_77 rec y2 y3 y4 y6 z0 h = some r) (hs : (fun (r : Int32 × sm_H) => res = (some (.int r.1), r.2)) r) : Ex (P_G L xs) (RUN L xs d) (sm_lk P_t94) 0 77 [some (.ref 49), none, some (.int y2), some (.int y3), some (.int y4), none, some (.int y6), none, none, none, none, none] [.long z0] h res := by
  unfold F_94_77 at hf
  refine Ex.seg 2 (pc' := 81) (lc' := [some (.ref 49), none, some (.int y2), some (.int y3), some (.int y4), none, some (.int y6), some (.long z0), none, none, none, none]) (st' := [.int y6]) (h' := h) (sg1 rfl rfl (sg1 rfl rfl rfl)) ?_
  refine Ex.ifc rfl rfl (fun (c0 : y6 = 0) => ?_) (fun (c0 : ¬ (y6 = 0)) => ?_)
  · rw [if_pos c0] at hf
    refine Ex.seg 1 (pc' := 92) (lc' := [some (.ref 49), none, some (.int y2), some (.int y3), some (.int y4), none, some (.int y6), some (.long z0), none, none, none, none]) (st' := [.int 0]) (h' := h) (sg1 rfl rfl rfl) ?_
    exact Ex.weak (sm_le_s (sm_le_s (sm_le_s (sm_le_s (sm_le_s (sm_le_s (sm_le_s (sm_le_s (sm_le_s (sm_le_s (sm_le_s (sm_le_s sm_le_nil)))))))))))) (B_94_92 hrec hd  hf hs)
  · rw [if_neg c0] at hf
    refine Ex.seg 3 (pc' := 92) (lc' := [some (.ref 49), none, some (.int y2), some (.int y3), some (.int y4), none, some (.int y6), some (.long z0), none, none, none, none]) (st' := [.int (h.1 49 10)]) (h' := h) (sg1 rfl rfl (sg1 rfl rfl (sg1 rfl rfl rfl))) ?_
    exact Ex.weak (sm_le_s (sm_le_s (sm_le_s (sm_le_s (sm_le_s (sm_le_s (sm_le_s (sm_le_s (sm_le_s (sm_le_s (sm_le_s (sm_le_s sm_le_nil)))))))))))) (B_94_92 hrec hd  hf hs)
theorem B_94_62 {L : Nat} {xs : Nat → Int32} {d : Nat} {M : Nat} {rec : Int32 → Int32 → sm_H → Option (Int32 × sm_H)} (hrec : ∀ d, M ≤ d → ∀ (x1 x2 : Int32) (h : sm_H) (q : Int32 × sm_H), rec x1 x2 h = some q → RUN L xs d 82 [.ref 49, .int x1, .int x2] h (some (.int q.1), q.2)) (hd : 3 + M ≤ d) {res : Option Value × sm_H} {y2 : Int32} {y3 : Int32} {y4 : Int32} {z0 : Int32}  {h : sm_H} {r : (Int32 × sm_H)} (hf : F_94_62 rec y2 y3 y4 z0 h = some r) (hs : (fun (r : Int32 × sm_H) => res = (some (.int r.1), r.2)) r) : Ex (P_G L xs) (RUN L xs d) (sm_lk P_t94) 0 62 [some (.ref 49), none, some (.int y2), some (.int y3), some (.int y4), none, none, none, none, none, none, none] [.int z0] h res := by
  unfold F_94_62 at hf
  refine Ex.seg 2 (pc' := 66) (lc' := [some (.ref 49), none, some (.int y2), some (.int y3), some (.int y4), none, some (.int z0), none, none, none, none, none]) (st' := [.int z0]) (h' := h) (sg1 rfl rfl (sg1 rfl rfl rfl)) ?_
  refine Ex.ifc rfl rfl (fun (c0 : z0 = 0) => ?_) (fun (c0 : ¬ (z0 = 0)) => ?_)
  · rw [if_pos c0] at hf
    refine Ex.seg 1 (pc' := 77) (lc' := [some (.ref 49), none, some (.int y2), some (.int y3), some (.int y4), none, some (.int z0), none, none, none, none, none]) (st' := [.long 0]) (h' := h) (sg1 rfl rfl rfl) ?_
    exact Ex.weak (sm_le_s (sm_le_s (sm_le_s (sm_le_s (sm_le_s (sm_le_s (sm_le_s (sm_le_s (sm_le_s (sm_le_s (sm_le_s (sm_le_s sm_le_nil)))))))))))) (B_94_77 hrec hd  hf hs)
  · rw [if_neg c0] at hf
    refine Ex.seg 3 (pc' := 77) (lc' := [some (.ref 49), none, some (.int y2), some (.int y3), some (.int y4), none, some (.int z0), none, none, none, none, none]) (st' := [.long (h.2.1 49 9)]) (h' := h) (sg1 rfl rfl (sg1 rfl rfl (sg1 rfl rfl rfl))) ?_
    exact Ex.weak (sm_le_s (sm_le_s (sm_le_s (sm_le_s (sm_le_s (sm_le_s (sm_le_s (sm_le_s (sm_le_s (sm_le_s (sm_le_s (sm_le_s sm_le_nil)))))))))))) (B_94_77 hrec hd  hf hs)
theorem B_94_51 {L : Nat} {xs : Nat → Int32} {d : Nat} {M : Nat} {rec : Int32 → Int32 → sm_H → Option (Int32 × sm_H)} (hrec : ∀ d, M ≤ d → ∀ (x1 x2 : Int32) (h : sm_H) (q : Int32 × sm_H), rec x1 x2 h = some q → RUN L xs d 82 [.ref 49, .int x1, .int x2] h (some (.int q.1), q.2)) (hd : 3 + M ≤ d) {res : Option Value × sm_H} {y2 : Int32} {y3 : Int32} {y4 : Int32} {y5 : Int32}  {h : sm_H} {r : (Int32 × sm_H)} (hf : F_94_51 rec y2 y3 y4 y5 h = some r) (hs : (fun (r : Int32 × sm_H) => res = (some (.int r.1), r.2)) r) : Ex (P_G L xs) (RUN L xs d) (sm_lk P_t94) 0 51 [some (.ref 49), none, some (.int y2), some (.int y3), some (.int y4), some (.int y5), none, none, none, none, none, none] [] h res := by
  unfold F_94_51 at hf
  refine Ex.seg 2 (pc' := 54) (lc' := [some (.ref 49), none, some (.int y2), some (.int y3), some (.int y4), some (.int y5), none, none, none, none, none, none]) (st' := [.int 1, .int y5]) (h' := h) (sg1 rfl rfl (sg1 rfl rfl rfl)) ?_
  refine Ex.icmp rfl rfl (fun (c0 : ¬ (y5 = 1)) => ?_) (fun (c0 : ¬ ¬ (y5 = 1)) => ?_)
  · rw [if_neg c0] at hf
    refine Ex.seg 1 (pc' := 62) (lc' := [some (.ref 49), none, some (.int y2), some (.int y3), some (.int y4), some (.int y5), none, none, none, none, none, none]) (st' := [.int 0]) (h' := h) (sg1 rfl rfl rfl) ?_
    exact Ex.weak (sm_le_s (sm_le_s (sm_le_s (sm_le_s (sm_le_s (sm_le_n (sm_le_s (sm_le_s (sm_le_s (sm_le_s (sm_le_s (sm_le_s sm_le_nil)))))))))))) (B_94_62 hrec hd  hf hs)
  · rw [if_pos (Classical.not_not.mp c0)] at hf
    refine Ex.seg 2 (pc' := 62) (lc' := [some (.ref 49), none, some (.int y2), some (.int y3), some (.int y4), some (.int y5), none, none, none, none, none, none]) (st' := [.int 1]) (h' := h) (sg1 rfl rfl (sg1 rfl rfl rfl)) ?_
    exact Ex.weak (sm_le_s (sm_le_s (sm_le_s (sm_le_s (sm_le_s (sm_le_n (sm_le_s (sm_le_s (sm_le_s (sm_le_s (sm_le_s (sm_le_s sm_le_nil)))))))))))) (B_94_62 hrec hd  hf hs)
theorem B_94_0 {L : Nat} {xs : Nat → Int32} {d : Nat} {M : Nat} {rec : Int32 → Int32 → sm_H → Option (Int32 × sm_H)} (hrec : ∀ d, M ≤ d → ∀ (x1 x2 : Int32) (h : sm_H) (q : Int32 × sm_H), rec x1 x2 h = some q → RUN L xs d 82 [.ref 49, .int x1, .int x2] h (some (.int q.1), q.2)) (hd : 3 + M ≤ d) {res : Option Value × sm_H} {x1 : Int32} {x2 : Int32}  {h : sm_H} {r : (Int32 × sm_H)} (hf : F_94_0 rec x1 x2 h = some r) (hs : (fun (r : Int32 × sm_H) => res = (some (.int r.1), r.2)) r) : Ex (P_G L xs) (RUN L xs d) (sm_lk P_t94) 0 0 [some (.ref 49), some (.int x1), some (.int x2), none, none, none, none, none, none, none, none, none] [] h res := by
  unfold F_94_0 at hf
  refine Ex.seg 4 (pc' := 6) (lc' := [some (.ref 49), some (.int x1), some (.int x2), none, none, none, none, none, none, none, none, none]) (st' := [.int 0, .int x1, .ref 10]) (h' := h) (sg1 rfl rfl (sg1 rfl rfl (sg1 rfl rfl (sg1 rfl rfl rfl)))) ?_
  obtain ⟨q8, e_q8, hf⟩ := bnd hf
  refine Ex.callV (a := 10) (As := [.int x1, .int 0]) (r := []) (v := some (.int q8.1)) (h' := q8.2) rfl rfl (by decide) rfl (Nat.le_of_ble_eq_true rfl) rfl (E_43 (by omega) e_q8) rfl ?_
  refine Ex.seg 5 (pc' := 16) (lc' := [some (.ref 49), some (.int x1), some (.int x2), some (.int q8.1), none, none, none, none, none, none, none, none]) (st' := [.int 1, .int x1, .ref 10]) (h' := q8.2) (sg1 rfl rfl (sg1 rfl rfl (sg1 rfl rfl (sg1 rfl rfl (sg1 rfl rfl rfl))))) ?_
  obtain ⟨q9, e_q9, hf⟩ := bnd hf
  refine Ex.callV (a := 10) (As := [.int x1, .int 1]) (r := []) (v := some (.int q9.1)) (h' := q9.2) rfl rfl (by decide) rfl (Nat.le_of_ble_eq_true rfl) rfl (E_43 (by omega) e_q9) rfl ?_
  refine Ex.seg 4 (pc' := 24) (lc' := [some (.ref 49), some (.int x1), some (.int x2), some (.int q8.1), some (.int q9.1), none, none, none, none, none, none, none]) (st' := [.int q8.1, .int x2, .ref 49]) (h' := q9.2) (sg1 rfl rfl (sg1 rfl rfl (sg1 rfl rfl (sg1 rfl rfl rfl)))) ?_
  obtain ⟨q10, e_q10, hf⟩ := bnd hf
  refine Ex.callV (a := 49) (As := [.int x2, .int q8.1]) (r := []) (v := none) (h' := q10) rfl rfl (by decide) rfl (Nat.le_of_ble_eq_true rfl) rfl (E_81 (by omega) e_q10) rfl ?_
  refine Ex.seg 5 (pc' := 32) (lc' := [some (.ref 49), some (.int x1), some (.int x2), some (.int q8.1), some (.int q9.1), none, none, none, none, none, none, none]) (st' := [.int (x2 + 1), .int q8.1, .ref 49]) (h' := q10) (sg1 rfl rfl (sg1 rfl rfl (sg1 rfl rfl (sg1 rfl rfl (sg1 rfl rfl rfl))))) ?_
  obtain ⟨q11, e_q11, hf⟩ := bnd hf
  refine Ex.callV (a := 49) (As := [.int q8.1, .int (x2 + 1)]) (r := []) (v := some (.int q11.1)) (h' := q11.2) rfl rfl (by decide) rfl (Nat.le_of_ble_eq_true rfl) rfl (hrec d (by omega) _ _ _ _ e_q11) rfl ?_
  refine Ex.seg 2 (pc' := 39) (lc' := [some (.ref 49), some (.int x1), some (.int x2), some (.int q8.1), some (.int q9.1), some (.int q11.1), none, none, none, none, none, none]) (st' := [.int q11.1]) (h' := q11.2) (sg1 rfl rfl (sg1 rfl rfl rfl)) ?_
  refine Ex.ifc rfl rfl (fun (c0 : q11.1 = 0) => ?_) (fun (c0 : ¬ (q11.1 = 0)) => ?_)
  · rw [if_pos c0] at hf
    exact Ex.weak (sm_le_s (sm_le_n (sm_le_s (sm_le_s (sm_le_s (sm_le_s (sm_le_s (sm_le_s (sm_le_s (sm_le_s (sm_le_s (sm_le_s sm_le_nil)))))))))))) (B_94_51 hrec hd  hf hs)
  · rw [if_neg c0] at hf
    refine Ex.seg 2 (pc' := 45) (lc' := [some (.ref 49), some (.int x1), some (.int x2), some (.int q8.1), some (.int q9.1), some (.int q11.1), none, none, none, none, none, none]) (st' := [.int 1, .int q11.1]) (h' := q11.2) (sg1 rfl rfl (sg1 rfl rfl rfl)) ?_
    refine Ex.icmp rfl rfl (fun (c0 : q11.1 = 1) => ?_) (fun (c0 : ¬ (q11.1 = 1)) => ?_)
    · rw [if_pos c0] at hf
      exact Ex.weak (sm_le_s (sm_le_n (sm_le_s (sm_le_s (sm_le_s (sm_le_s (sm_le_s (sm_le_s (sm_le_s (sm_le_s (sm_le_s (sm_le_s sm_le_nil)))))))))))) (B_94_51 hrec hd  hf hs)
    · rw [if_neg c0] at hf
      refine Ex.seg 1 (pc' := 50) (lc' := [some (.ref 49), some (.int x1), some (.int x2), some (.int q8.1), some (.int q9.1), some (.int q11.1), none, none, none, none, none, none]) (st' := [.int q11.1]) (h' := q11.2) (sg1 rfl rfl rfl) ?_
      obtain rfl := Option.some.inj hf
      exact Ex.iret rfl rfl (fun c0 => by cases c0) hs
theorem E_94 {L : Nat} {xs : Nat → Int32} {d : Nat} {M : Nat} {rec : Int32 → Int32 → sm_H → Option (Int32 × sm_H)} (hrec : ∀ d, M ≤ d → ∀ (x1 x2 : Int32) (h : sm_H) (q : Int32 × sm_H), rec x1 x2 h = some q → RUN L xs d 82 [.ref 49, .int x1, .int x2] h (some (.int q.1), q.2)) (hd : 4 + M ≤ d) {x1 : Int32} {x2 : Int32} {h : sm_H} {r : Int32 × sm_H} (hf : F_94 rec x1 x2 h = some r) : RUN L xs d 94 [.ref 49, .int x1, .int x2] h (some (.int r.1), r.2) := by
  obtain ⟨d, rfl⟩ : ∃ e, d = e + 1 := ⟨d - 1, by omega⟩
  exact ⟨Nat.le_of_ble_eq_true rfl, B_94_0 hrec (by omega) hf rfl⟩
theorem B_95_113 {L : Nat} {xs : Nat → Int32} {d : Nat} {M : Nat} {rec : Int32 → Int32 → sm_H → Option (Int32 × sm_H)} (hrec : ∀ d, M ≤ d → ∀ (x1 x2 : Int32) (h : sm_H) (q : Int32 × sm_H), rec x1 x2 h = some q → RUN L xs d 82 [.ref 49, .int x1, .int x2] h (some (.int q.1), q.2)) (hd : 3 + M ≤ d) {res : Option Value × sm_H} {S1 : (Int32 × Int32 × Int32 × Int32 × sm_H) → Prop} (hS1 : ∀ s, S1 s → Ex (P_G L xs) (RUN L xs d) (sm_lk P_t95) 0 5 [some (.ref 49), some (.int s.1), some (.int s.2.1), some (.int s.2.2.1), some (.int s.2.2.2.1), none, none] [] s.2.2.2.2 res) {y1 : Int32} {y2 : Int32} {y3 : Int32} {y4 : Int32}  {h : sm_H} {r : ((Int32 × Int32 × Int32 × Int32 × sm_H) ⊕ (Int32 × sm_H))} (hf : F_95_113 rec y1 y2 y3 y4 h = some r) (hs : (Sum.elim S1 (fun (r : Int32 × sm_H) => res = (some (.int r.1), r.2))) r) : Ex (P_G L xs) (RUN L xs d) (sm_lk P_t95) 0 113 [some (.ref 49), some (.int y1), some (.int y2), some (.int y3), some (.int y4), none, none] [] h res := by
  unfold F_95_113 at hf
  refine Ex.seg 1 (pc' := 116) (lc' := [some (.ref 49), some (.int y1), some (.int y2), some (.int y3), some (.int (y4 + 4)), none, none]) (st' := []) (h' := h) (sg1 rfl rfl rfl) ?_
  obtain ⟨v1, e_v1, hf⟩ := bnd hf
  rw [Option.some.inj e_v1]
  refine Ex.seg 1 (pc' := 5) (lc' := [some (.ref 49), some (.int y1), some (.int y2), some (.int y3), some (.int v1), none, none]) (st' := []) (h' := h) (sg1 rfl rfl rfl) ?_
  obtain rfl := Option.some.inj hf
  exact Ex.weak (sm_le_s (sm_le_s (sm_le_s (sm_le_s (sm_le_s (sm_le_s (sm_le_s sm_le_nil))))))) (hS1 _ hs)
theorem B_95_69 {L : Nat} {xs : Nat → Int32} {d : Nat} {M : Nat} {rec : Int32 → Int32 → sm_H → Option (Int32 × sm_H)} (hrec : ∀ d, M ≤ d → ∀ (x1 x2 : Int32) (h : sm_H) (q : Int32 × sm_H), rec x1 x2 h = some q → RUN L xs d 82 [.ref 49, .int x1, .int x2] h (some (.int q.1), q.2)) (hd : 3 + M ≤ d) {res : Option Value × sm_H} {S1 : (Int32 × Int32 × Int32 × Int32 × sm_H) → Prop} (hS1 : ∀ s, S1 s → Ex (P_G L xs) (RUN L xs d) (sm_lk P_t95) 0 5 [some (.ref 49), some (.int s.1), some (.int s.2.1), some (.int s.2.2.1), some (.int s.2.2.2.1), none, none] [] s.2.2.2.2 res) {y1 : Int32} {y2 : Int32} {y3 : Int32} {y4 : Int32} {y5 : Int32}  {h : sm_H} {r : ((Int32 × Int32 × Int32 × Int32 × sm_H) ⊕ (Int32 × sm_H))} (hf : F_95_69 rec y1 y2 y3 y4 y5 h = some r) (hs : (Sum.elim S1 (fun (r : Int32 × sm_H) => res = (some (.int r.1), r.2))) r) : Ex (P_G L xs) (RUN L xs d) (sm_lk P_t95) 0 69 [some (.ref 49), some (.int y1), some (.int y2), some (.int y3), some (.int y4), some (.int y5), none] [] h res := by
  unfold F_95_69 at hf
  refine Ex.seg 9 (pc' := 84) (lc' := [some (.ref 49), some (.int y1), some (.int y2), some (.int y3), some (.int y4), some (.int y5), none]) (st' := [.int (y4 + 1), .int y1, .ref 10, .int y5, .ref 10]) (h' := h) (sg1 rfl rfl (sg1 rfl rfl (sg1 rfl rfl (sg1 rfl rfl (sg1 rfl rfl (sg1 rfl rfl (sg1 rfl rfl (sg1 rfl rfl (sg1 rfl rfl rfl))))))))) ?_
  obtain ⟨q2, e_q2, hf⟩ := bnd hf
  refine Ex.callV (a := 10) (As := [.int y1, .int (y4 + 1)]) (r := [.int y5, .ref 10]) (v := some (.int q2.1)) (h' := q2.2) rfl rfl (by decide) rfl (Nat.le_of_ble_eq_true rfl) rfl (E_43 (by omega) e_q2) rfl ?_
  obtain ⟨q3, e_q3, hf⟩ := bnd hf
  refine Ex.callV (a := 10) (As := [.int y5, .int q2.1]) (r := []) (v := some (.int q3.1)) (h' := q3.2) rfl rfl (by decide) rfl (Nat.le_of_ble_eq_true rfl) rfl (E_47 (by omega) e_q3) rfl ?_
  refine Ex.ifc rfl rfl (fun (c0 : q3.1 = 0) => ?_) (fun (c0 : ¬ (q3.1 = 0)) => ?_)
  · rw [if_pos c0] at hf
    exact Ex.weak (sm_le_s (sm_le_s (sm_le_s (sm_le_s (sm_le_s (sm_le_n (sm_le_s sm_le_nil))))))) (B_95_113 hrec hd hS1 hf hs)
  · rw [if_neg c0] at hf
    refine Ex.seg 9 (pc' := 107) (lc' := [some (.ref 49), some (.int y1), some (.int y2), some (.int y3), some (.int y4), some (.int y5), none]) (st' := [.int (q3.2.1 49 10), .long (q3.2.2.1 49 9), .int (10 + y3), .int y2, .ref 49]) (h' := q3.2) (sg1 rfl rfl (sg1 rfl rfl (sg1 rfl rfl (sg1 rfl rfl (sg1 rfl rfl (sg1 rfl rfl (sg1 rfl rfl (sg1 rfl rfl (sg1 rfl rfl rfl))))))))) ?_
    obtain ⟨q4, e_q4, hf⟩ := bnd hf
    refine Ex.callV (a := 49) (As := [.int y2, .int (10 + y3), .long (q3.2.2.1 49 9), .int (q3.2.1 49 10)]) (r := []) (v := none) (h' := q4) rfl rfl (by decide) rfl (Nat.le_of_ble_eq_true rfl) rfl (E_79 (by omega) e_q4) rfl ?_
    refine Ex.seg 1 (pc' := 113) (lc' := [some (.ref 49), some (.int y1), some (.int y2), some (.int (y3 + 1)), some (.int y4), some (.int y5), none]) (st' := []) (h' := q4) (sg1 rfl rfl rfl) ?_
    obtain ⟨v5, e_v5, hf⟩ := bnd hf
    rw [Option.some.inj e_v5]
    exact Ex.weak (sm_le_s (sm_le_s (sm_le_s (sm_le_s (sm_le_s (sm_le_n (sm_le_s sm_le_nil))))))) (B_95_113 hrec hd hS1 hf hs)
theorem B_95_5B {L : Nat} {xs : Nat → Int32} {d : Nat} {M : Nat} {rec : Int32 → Int32 → sm_H → Option (Int32 × sm_H)} (hrec : ∀ d, M ≤ d → ∀ (x1 x2 : Int32) (h : sm_H) (q : Int32 × sm_H), rec x1 x2 h = some q → RUN L xs d 82 [.ref 49, .int x1, .int x2] h (some (.int q.1), q.2)) (hd : 3 + M ≤ d) {res : Option Value × sm_H} {S1 : (Int32 × Int32 × Int32 × Int32 × sm_H) → Prop} (hS1 : ∀ s, S1 s → Ex (P_G L xs) (RUN L xs d) (sm_lk P_t95) 0 5 [some (.ref 49), some (.int s.1), some (.int s.2.1), some (.int s.2.2.1), some (.int s.2.2.2.1), none, none] [] s.2.2.2.2 res) {s : (Int32 × Int32 × Int32 × Int32 × sm_H)}  {r : ((Int32 × Int32 × Int32 × Int32 × sm_H) ⊕ (Int32 × sm_H))} (hf : F_95_5B rec s = some r) (hs : (Sum.elim S1 (fun (r : Int32 × sm_H) => res = (some (.int r.1), r.2))) r) : Ex (P_G L xs) (RUN L xs d) (sm_lk P_t95) 0 5 [some (.ref 49), some (.int s.1), some (.int s.2.1), some (.int s.2.2.1), some (.int s.2.2.2.1), none, none] [] s.2.2.2.2 res := by
  unfold F_95_5B at hf
  refine Ex.seg 4 (pc' := 12) (lc' := [some (.ref 49), some (.int s.1), some (.int s.2.1), some (.int s.2.2.1), some (.int s.2.2.2.1), none, none]) (st' := [.int s.1, .ref 10, .int s.2.2.2.1]) (h' := s.2.2.2.2) (sg1 rfl rfl (sg1 rfl rfl (sg1 rfl rfl (sg1 rfl rfl rfl)))) ?_
  obtain ⟨q6, e_q6, hf⟩ := bnd hf
  refine Ex.callV (a := 10) (As := [.int s.1]) (r := [.int s.2.2.2.1]) (v := some (.int q6.1)) (h' := q6.2) rfl rfl (by decide) rfl (Nat.le_of_ble_eq_true rfl) rfl (E_42 (by omega) e_q6) rfl ?_
  refine Ex.icmp rfl rfl (fun (c0 : q6.1 ≤ s.2.2.2.1) => ?_) (fun (c0 : ¬ (q6.1 ≤ s.2.2.2.1)) => ?_)
  · rw [if_pos c0] at hf
    refine Ex.seg 1 (pc' := 120) (lc' := [some (.ref 49), some (.int s.1), some (.int s.2.1), some (.int s.2.2.1), some (.int s.2.2.2.1), none, none]) (st' := [.int 0]) (h' := q6.2) (sg1 rfl rfl rfl) ?_
    obtain rfl := Option.some.inj hf
    exact Ex.iret rfl rfl (fun c0 => by cases c0) hs
  · rw [if_neg c0] at hf
    refine Ex.seg 4 (pc' := 25) (lc' := [some (.ref 49), some (.int s.1), some (.int s.2.1), some (.int s.2.2.1), some (.int s.2.2.2.1), none, none]) (st' := [.int s.2.2.2.1, .int s.1, .ref 10]) (h' := q6.2) (sg1 rfl rfl (sg1 rfl rfl (sg1 rfl rfl (sg1 rfl rfl rfl)))) ?_
    obtain ⟨q7, e_q7, hf⟩ := bnd hf
    refine Ex.callV (a := 10) (As := [.int s.1, .int s.2.2.2.1]) (r := []) (v := some (.int q7.1)) (h' := q7.2) rfl rfl (by decide) rfl (Nat.le_of_ble_eq_true rfl) rfl (E_43 (by omega) e_q7) rfl ?_
    refine Ex.seg 4 (pc' := 33) (lc' := [some (.ref 49), some (.int s.1), some (.int s.2.1), some (.int s.2.2.1), some (.int s.2.2.2.1), some (.int q7.1), none]) (st' := [.int 0, .long 0, .ref 49]) (h' := q7.2) (sg1 rfl rfl (sg1 rfl rfl (sg1 rfl rfl (sg1 rfl rfl rfl)))) ?_
    obtain ⟨q8, e_q8, hf⟩ := bnd hf
    refine Ex.callV (a := 49) (As := [.long 0, .int 0]) (r := []) (v := some (.int q8.1)) (h' := q8.2) rfl rfl (by decide) rfl (Nat.le_of_ble_eq_true rfl) rfl (E_75 (by omega) e_q8) rfl ?_
    refine Ex.seg 3 (pc' := 40) (lc' := [some (.ref 49), some (.int s.1), some (.int s.2.1), some (.int s.2.2.1), some (.int s.2.2.2.1), some (.int q7.1), none]) (st' := [.int (-1), .int q7.1]) (h' := q8.2) (sg1 rfl rfl (sg1 rfl rfl (sg1 rfl rfl rfl))) ?_
    refine Ex.icmp rfl rfl (fun (c0 : q7.1 = (-1)) => ?_) (fun (c0 : ¬ (q7.1 = (-1))) => ?_)
    · rw [if_pos c0] at hf
      exact Ex.weak (sm_le_s (sm_le_s (sm_le_s (sm_le_s (sm_le_s (sm_le_s (sm_le_s sm_le_nil))))))) (B_95_69 hrec hd hS1 hf hs)
    · rw [if_neg c0] at hf
      refine Ex.seg 3 (pc' := 47) (lc' := [some (.ref 49), some (.int s.1), some (.int s.2.1), some (.int s.2.2.1), some (.int s.2.2.2.1), some (.int q7.1), none]) (st' := [.int q7.1, .int s.2.1, .ref 49]) (h' := q8.2) (sg1 rfl rfl (sg1 rfl rfl (sg1 rfl rfl rfl))) ?_
      obtain ⟨q9, e_q9, hf⟩ := bnd hf
      refine Ex.callV (a := 49) (As := [.int s.2.1, .int q7.1]) (r := []) (v := none) (h' := q9) rfl rfl (by decide) rfl (Nat.le_of_ble_eq_true rfl) rfl (E_81 (by omega) e_q9) rfl ?_
      refine Ex.seg 5 (pc' := 56) (lc' := [some (.ref 49), some (.int s.1), some (.int s.2.1), some (.int s.2.2.1), some (.int s.2.2.2.1), some (.int q7.1), none]) (st' := [.int (s.2.1 + 1), .int q7.1, .ref 49]) (h' := q9) (sg1 rfl rfl (sg1 rfl rfl (sg1 rfl rfl (sg1 rfl rfl (sg1 rfl rfl rfl))))) ?_
      obtain ⟨q10, e_q10, hf⟩ := bnd hf
      refine Ex.callV (a := 49) (As := [.int q7.1, .int (s.2.1 + 1)]) (r := []) (v := some (.int q10.1)) (h' := q10.2) rfl rfl (by decide) rfl (Nat.le_of_ble_eq_true rfl) rfl (hrec d (by omega) _ _ _ _ e_q10) rfl ?_
      refine Ex.seg 2 (pc' := 63) (lc' := [some (.ref 49), some (.int s.1), some (.int s.2.1), some (.int s.2.2.1), some (.int s.2.2.2.1), some (.int q7.1), some (.int q10.1)]) (st' := [.int q10.1]) (h' := q10.2) (sg1 rfl rfl (sg1 rfl rfl rfl)) ?_
      refine Ex.ifc rfl rfl (fun (c0 : q10.1 = 0) => ?_) (fun (c0 : ¬ (q10.1 = 0)) => ?_)
      · rw [if_pos c0] at hf
        exact Ex.weak (sm_le_s (sm_le_s (sm_le_s (sm_le_s (sm_le_s (sm_le_s (sm_le_n sm_le_nil))))))) (B_95_69 hrec hd hS1 hf hs)
      · rw [if_neg c0] at hf
        refine Ex.seg 1 (pc' := 68) (lc' := [some (.ref 49), some (.int s.1), some (.int s.2.1), some (.int s.2.2.1), some (.int s.2.2.2.1), some (.int q7.1), some (.int q10.1)]) (st' := [.int q10.1]) (h' := q10.2) (sg1 rfl rfl rfl) ?_
        obtain rfl := Option.some.inj hf
        exact Ex.iret rfl rfl (fun c0 => by cases c0) hs
theorem B_95_5 {L : Nat} {xs : Nat → Int32} {d : Nat} {M : Nat} {rec : Int32 → Int32 → sm_H → Option (Int32 × sm_H)} (hrec : ∀ d, M ≤ d → ∀ (x1 x2 : Int32) (h : sm_H) (q : Int32 × sm_H), rec x1 x2 h = some q → RUN L xs d 82 [.ref 49, .int x1, .int x2] h (some (.int q.1), q.2)) (hd : 3 + M ≤ d) {res : Option Value × sm_H} {y1 : Int32} {y2 : Int32} {y3 : Int32} {y4 : Int32}  {h : sm_H} {r : (Int32 × sm_H)} (hf : F_95_5 rec y1 y2 y3 y4 h = some r) (hs : (fun (r : Int32 × sm_H) => res = (some (.int r.1), r.2)) r) : Ex (P_G L xs) (RUN L xs d) (sm_lk P_t95) 0 5 [some (.ref 49), some (.int y1), some (.int y2), some (.int y3), some (.int y4), none, none] [] h res := by
  unfold F_95_5 at hf
  exact lp_ok (P := fun (s : (Int32 × Int32 × Int32 × Int32 × sm_H)) => Ex (P_G L xs) (RUN L xs d) (sm_lk P_t95) 0 5 [some (.ref 49), some (.int s.1), some (.int s.2.1), some (.int s.2.2.1), some (.int s.2.2.2.1), none, none] [] s.2.2.2.2 res) (S := (fun (r : Int32 × sm_H) => res = (some (.int r.1), r.2))) (fun s x hx hsx => by
    intros
    exact B_95_5B hrec hd  (fun _ q => q) hx hsx) 1000000 _ r hf hs
theorem B_95_0 {L : Nat} {xs : Nat → Int32} {d : Nat} {M : Nat} {rec : Int32 → Int32 → sm_H → Option (Int32 × sm_H)} (hrec : ∀ d, M ≤ d → ∀ (x1 x2 : Int32) (h : sm_H) (q : Int32 × sm_H), rec x1 x2 h = some q → RUN L xs d 82 [.ref 49, .int x1, .int x2] h (some (.int q.1), q.2)) (hd : 3 + M ≤ d) {res : Option Value × sm_H} {x1 : Int32} {x2 : Int32}  {h : sm_H} {r : (Int32 × sm_H)} (hf : F_95_0 rec x1 x2 h = some r) (hs : (fun (r : Int32 × sm_H) => res = (some (.int r.1), r.2)) r) : Ex (P_G L xs) (RUN L xs d) (sm_lk P_t95) 0 0 [some (.ref 49), some (.int x1), some (.int x2), none, none, none, none] [] h res := by
  unfold F_95_0 at hf
  refine Ex.seg 4 (pc' := 5) (lc' := [some (.ref 49), some (.int x1), some (.int x2), some (.int 0), some (.int 0), none, none]) (st' := []) (h' := h) (sg1 rfl rfl (sg1 rfl rfl (sg1 rfl rfl (sg1 rfl rfl rfl)))) ?_
  exact Ex.weak (sm_le_s (sm_le_s (sm_le_s (sm_le_s (sm_le_s (sm_le_s (sm_le_s sm_le_nil))))))) (B_95_5 hrec hd  hf hs)
theorem E_95 {L : Nat} {xs : Nat → Int32} {d : Nat} {M : Nat} {rec : Int32 → Int32 → sm_H → Option (Int32 × sm_H)} (hrec : ∀ d, M ≤ d → ∀ (x1 x2 : Int32) (h : sm_H) (q : Int32 × sm_H), rec x1 x2 h = some q → RUN L xs d 82 [.ref 49, .int x1, .int x2] h (some (.int q.1), q.2)) (hd : 4 + M ≤ d) {x1 : Int32} {x2 : Int32} {h : sm_H} {r : Int32 × sm_H} (hf : F_95 rec x1 x2 h = some r) : RUN L xs d 95 [.ref 49, .int x1, .int x2] h (some (.int r.1), r.2) := by
  obtain ⟨d, rfl⟩ : ∃ e, d = e + 1 := ⟨d - 1, by omega⟩
  exact ⟨Nat.le_of_ble_eq_true rfl, B_95_0 hrec (by omega) hf rfl⟩
theorem B_215_0 {L : Nat} {xs : Nat → Int32} {d : Nat} (hd : 0 ≤ d) {res : Option Value × sm_H} {o : Nat} {x1 : Int32}  {h : sm_H} {r : (sm_H)} (hf : F_215_0 o x1 h = some r) (hs : (fun (r : sm_H) => res = (none, r)) r) : Ex (P_G L xs) (RUN L xs d) (sm_lk P_t215) 0 0 [some (.ref o), some (.int x1), none] [] h res := by
  unfold F_215_0 at hf
  refine Ex.seg 1 (pc' := 1) (lc' := [some (.ref o), some (.int x1), none]) (st' := [.ref o]) (h' := h) (sg1 rfl rfl rfl) ?_
  refine Ex.oini rfl rfl rfl (Nat.le_of_ble_eq_true rfl) ?_
  refine Ex.seg 2 (pc' := 6) (lc' := [some (.ref o), some (.int x1), none]) (st' := [.int 0, .int x1]) (h' := h) (sg1 rfl rfl (sg1 rfl rfl rfl)) ?_
  refine Ex.mx rfl rfl rfl (Nat.le_of_ble_eq_true rfl) ?_
  refine Ex.seg 1 (pc' := 10) (lc' := [some (.ref o), some (.int x1), some (.int (if x1 < 0 then 0 else x1))]) (st' := []) (h' := h) (sg1 rfl rfl rfl) ?_
  obtain ⟨v1, e_v1, hf⟩ := bnd hf
  rw [Option.some.inj e_v1]
  refine Ex.seg 2 (pc' := 12) (lc' := [some (.ref o), some (.int x1), some (.int v1)]) (st' := [.int v1, .ref o]) (h' := h) (sg1 rfl rfl (sg1 rfl rfl rfl)) ?_
  rcases Classical.em (v1 < 0) with c0 | c0
  · rw [if_pos c0] at hf
    cases hf
  rw [if_neg c0] at hf
  obtain ⟨b2, e_b2, hf⟩ := bnd hf
  obtain ⟨h3, e_h3, hf⟩ := bnd hf
  refine Ex.nwa c0 rfl rfl ?_
  show Ex (P_G L xs) (RUN L xs d) (sm_lk P_t215) 0 14 [some (.ref o), some (.int x1), some (.int v1)] (.ref (131 + h.2.2.2.2.2.1) :: [.ref o]) (sm_mk G0 h 101 (Int32.toNatClampNeg v1)) res
  rw [Option.some.inj e_h3, Option.some.inj e_b2]
  rcases Classical.em (sm_is G0 h3 o 8 = true ∧ G0.2.2.2.1 o 0 = none) with g4 | g4
  · rw [if_pos g4] at hf
    obtain ⟨h5, e_h5, hf⟩ := bnd hf
    refine Ex.putR (c := 8) (k := 0) g4.1 g4.2 rfl rfl ?_
    rw [Option.some.inj e_h5]
    refine Ex.seg 2 (pc' := 19) (lc' := [some (.ref o), some (.int x1), some (.int v1)]) (st' := [.int v1, .ref o]) (h' := h5) (sg1 rfl rfl (sg1 rfl rfl rfl)) ?_
    rcases Classical.em (v1 < 0) with c0 | c0
    · rw [if_pos c0] at hf
      cases hf
    rw [if_neg c0] at hf
    obtain ⟨b6, e_b6, hf⟩ := bnd hf
    obtain ⟨h7, e_h7, hf⟩ := bnd hf
    refine Ex.nwa c0 rfl rfl ?_
    show Ex (P_G L xs) (RUN L xs d) (sm_lk P_t215) 0 21 [some (.ref o), some (.int x1), some (.int v1)] (.ref (131 + h5.2.2.2.2.2.1) :: [.ref o]) (sm_mk G0 h5 100 (Int32.toNatClampNeg v1)) res
    rw [Option.some.inj e_h7, Option.some.inj e_b6]
    rcases Classical.em (sm_is G0 h7 o 8 = true ∧ G0.2.2.2.1 o 1 = none) with g8 | g8
    · rw [if_pos g8] at hf
      obtain ⟨h9, e_h9, hf⟩ := bnd hf
      refine Ex.putR (c := 8) (k := 1) g8.1 g8.2 rfl rfl ?_
      rw [Option.some.inj e_h9]
      obtain rfl := Option.some.inj hf
      exact Ex.vret rfl rfl hs
    · rw [if_neg g8] at hf
      cases hf
  · rw [if_neg g4] at hf
    cases hf
theorem E_215 {L : Nat} {xs : Nat → Int32} {d : Nat} (hd : 1 ≤ d) {o : Nat} {x1 : Int32} {h : sm_H} {r : sm_H} (hf : F_215 o x1 h = some r) : RUN L xs d 215 [.ref o, .int x1] h (none, r) := by
  obtain ⟨d, rfl⟩ : ∃ e, d = e + 1 := ⟨d - 1, by omega⟩
  exact ⟨Nat.le_of_ble_eq_true rfl, B_215_0 (by omega) hf rfl⟩
theorem B_87_161 {L : Nat} {xs : Nat → Int32} {d : Nat} {M : Nat} {rec : Int32 → Int32 → sm_H → Option (Int32 × sm_H)} (hrec : ∀ d, M ≤ d → ∀ (x1 x2 : Int32) (h : sm_H) (q : Int32 × sm_H), rec x1 x2 h = some q → RUN L xs d 82 [.ref 49, .int x1, .int x2] h (some (.int q.1), q.2)) (hd : 2 + M ≤ d) {res : Option Value × sm_H} {y2 : Int32} {y3 : Int32}  {h : sm_H} {r : (Int32 × sm_H)} (hf : F_87_161 rec y2 y3 h = some r) (hs : (fun (r : Int32 × sm_H) => res = (some (.int r.1), r.2)) r) : Ex (P_G L xs) (RUN L xs d) (sm_lk P_t87) 0 161 [some (.ref 49), none, some (.int y2), some (.int y3), none, none, none, none] [] h res := by
  unfold F_87_161 at hf
  refine Ex.seg 5 (pc' := 166) (lc' := [some (.ref 49), none, some (.int y2), some (.int y3), none, none, none, none]) (st' := [.int (y2 + 1), .int y3, .ref 49]) (h' := h) (sg1 rfl rfl (sg1 rfl rfl (sg1 rfl rfl (sg1 rfl rfl (sg1 rfl rfl rfl))))) ?_
  obtain ⟨q1, e_q1, hf⟩ := bnd hf
  refine Ex.callV (a := 49) (As := [.int y3, .int (y2 + 1)]) (r := []) (v := some (.int q1.1)) (h' := q1.2) rfl rfl (by decide) rfl (Nat.le_of_ble_eq_true rfl) rfl (hrec d (by omega) _ _ _ _ e_q1) rfl ?_
  obtain rfl := Option.some.inj hf
  exact Ex.iret rfl rfl (fun c0 => by cases c0) hs
theorem B_87_115B {L : Nat} {xs : Nat → Int32} {d : Nat} {M : Nat} {rec : Int32 → Int32 → sm_H → Option (Int32 × sm_H)} (hrec : ∀ d, M ≤ d → ∀ (x1 x2 : Int32) (h : sm_H) (q : Int32 × sm_H), rec x1 x2 h = some q → RUN L xs d 82 [.ref 49, .int x1, .int x2] h (some (.int q.1), q.2)) (hd : 2 + M ≤ d) {res : Option Value × sm_H} {S1 : (Int32 × Int32 × Int32 × Int32 × Nat × Int32 × sm_H) → Prop} (hS1 : ∀ s, S1 s → Ex (P_G L xs) (RUN L xs d) (sm_lk P_t87) 0 115 [some (.ref 49), none, some (.int s.1), some (.int s.2.1), some (.int s.2.2.1), some (.int s.2.2.2.1), some (.ref s.2.2.2.2.1), some (.int s.2.2.2.2.2.1)] [] s.2.2.2.2.2.2 res) {s : (Int32 × Int32 × Int32 × Int32 × Nat × Int32 × sm_H)}  {r : ((Int32 × Int32 × Int32 × Int32 × Nat × Int32 × sm_H) ⊕ (Int32 × sm_H))} (hf : F_87_115B rec s = some r) (hs : (Sum.elim S1 (fun (r : Int32 × sm_H) => res = (some (.int r.1), r.2))) r) : Ex (P_G L xs) (RUN L xs d) (sm_lk P_t87) 0 115 [some (.ref 49), none, some (.int s.1), some (.int s.2.1), some (.int s.2.2.1), some (.int s.2.2.2.1), some (.ref s.2.2.2.2.1), some (.int s.2.2.2.2.2.1)] [] s.2.2.2.2.2.2 res := by
  unfold F_87_115B at hf
  refine Ex.seg 2 (pc' := 119) (lc' := [some (.ref 49), none, some (.int s.1), some (.int s.2.1), some (.int s.2.2.1), some (.int s.2.2.2.1), some (.ref s.2.2.2.2.1), some (.int s.2.2.2.2.2.1)]) (st' := [.int s.2.2.1, .int s.2.2.2.2.2.1]) (h' := s.2.2.2.2.2.2) (sg1 rfl rfl (sg1 rfl rfl rfl)) ?_
  refine Ex.icmp rfl rfl (fun (c0 : s.2.2.1 ≤ s.2.2.2.2.2.1) => ?_) (fun (c0 : ¬ (s.2.2.1 ≤ s.2.2.2.2.2.1)) => ?_)
  · rw [if_pos c0] at hf
    obtain ⟨r0, hf0, rfl⟩ := Option.map_eq_some_iff.mp hf
    exact Ex.weak (sm_le_s (sm_le_s (sm_le_s (sm_le_s (sm_le_n (sm_le_n (sm_le_n (sm_le_n sm_le_nil)))))))) (B_87_161 hrec hd  hf0 hs)
  · rw [if_neg c0] at hf
    refine Ex.seg 2 (pc' := 126) (lc' := [some (.ref 49), none, some (.int s.1), some (.int s.2.1), some (.int s.2.2.1), some (.int s.2.2.2.1), some (.ref s.2.2.2.2.1), some (.int s.2.2.2.2.2.1)]) (st' := [.int 10, .int s.2.2.2.2.2.1]) (h' := s.2.2.2.2.2.2) (sg1 rfl rfl (sg1 rfl rfl rfl)) ?_
    refine Ex.icmp rfl rfl (fun (c0 : 10 ≤ s.2.2.2.2.2.1) => ?_) (fun (c0 : ¬ (10 ≤ s.2.2.2.2.2.1)) => ?_)
    · rw [if_pos c0] at hf
      obtain ⟨r0, hf0, rfl⟩ := Option.map_eq_some_iff.mp hf
      exact Ex.weak (sm_le_s (sm_le_s (sm_le_s (sm_le_s (sm_le_n (sm_le_n (sm_le_n (sm_le_n sm_le_nil)))))))) (B_87_161 hrec hd  hf0 hs)
    · rw [if_neg c0] at hf
      refine Ex.seg 9 (pc' := 142) (lc' := [some (.ref 49), none, some (.int s.1), some (.int s.2.1), some (.int s.2.2.1), some (.int s.2.2.2.1), some (.ref s.2.2.2.2.1), some (.int s.2.2.2.2.2.1)]) (st' := [.int s.2.2.2.2.2.1, .ref s.2.2.2.2.1, .int (s.2.2.2.1 + s.2.2.2.2.2.1), .int (s.1 + 1), .ref 49]) (h' := s.2.2.2.2.2.2) (sg1 rfl rfl (sg1 rfl rfl (sg1 rfl rfl (sg1 rfl rfl (sg1 rfl rfl (sg1 rfl rfl (sg1 rfl rfl (sg1 rfl rfl (sg1 rfl rfl rfl))))))))) ?_
      have g3 : sm_is G0 s.2.2.2.2.2.2 s.2.2.2.2.1 8 = true := Classical.byContradiction (fun z => by rw [if_pos z] at hf; cases hf)
      rw [if_neg (fun z => z g3)] at hf
      obtain ⟨q2, e_q2, hf⟩ := bnd hf
      refine Ex.callV (a := s.2.2.2.2.1) (As := [.int s.2.2.2.2.2.1]) (r := [.int (s.2.2.2.1 + s.2.2.2.2.2.1), .int (s.1 + 1), .ref 49]) (v := some (.long q2.1)) (h' := q2.2) rfl rfl (by decide) rfl (Nat.le_of_ble_eq_true rfl) g3 (E_218 (by omega) e_q2) rfl ?_
      refine Ex.seg 2 (pc' := 149) (lc' := [some (.ref 49), none, some (.int s.1), some (.int s.2.1), some (.int s.2.2.1), some (.int s.2.2.2.1), some (.ref s.2.2.2.2.1), some (.int s.2.2.2.2.2.1)]) (st' := [.int s.2.2.2.2.2.1, .ref s.2.2.2.2.1, .long q2.1, .int (s.2.2.2.1 + s.2.2.2.2.2.1), .int (s.1 + 1), .ref 49]) (h' := q2.2) (sg1 rfl rfl (sg1 rfl rfl rfl)) ?_
      have g5 : sm_is G0 q2.2 s.2.2.2.2.1 8 = true := Classical.byContradiction (fun z => by rw [if_pos z] at hf; cases hf)
      rw [if_neg (fun z => z g5)] at hf
      obtain ⟨q4, e_q4, hf⟩ := bnd hf
      refine Ex.callV (a := s.2.2.2.2.1) (As := [.int s.2.2.2.2.2.1]) (r := [.long q2.1, .int (s.2.2.2.1 + s.2.2.2.2.2.1), .int (s.1 + 1), .ref 49]) (v := some (.int q4.1)) (h' := q4.2) rfl rfl (by decide) rfl (Nat.le_of_ble_eq_true rfl) g5 (E_219 (by omega) e_q4) rfl ?_
      obtain ⟨q6, e_q6, hf⟩ := bnd hf
      refine Ex.callV (a := 49) (As := [.int (s.1 + 1), .int (s.2.2.2.1 + s.2.2.2.2.2.1), .long q2.1, .int q4.1]) (r := []) (v := none) (h' := q6) rfl rfl (by decide) rfl (Nat.le_of_ble_eq_true rfl) rfl (E_79 (by omega) e_q6) rfl ?_
      refine Ex.seg 1 (pc' := 158) (lc' := [some (.ref 49), none, some (.int s.1), some (.int s.2.1), some (.int s.2.2.1), some (.int s.2.2.2.1), some (.ref s.2.2.2.2.1), some (.int (s.2.2.2.2.2.1 + 1))]) (st' := []) (h' := q6) (sg1 rfl rfl rfl) ?_
      obtain ⟨v7, e_v7, hf⟩ := bnd hf
      rw [Option.some.inj e_v7]
      refine Ex.seg 1 (pc' := 115) (lc' := [some (.ref 49), none, some (.int s.1), some (.int s.2.1), some (.int s.2.2.1), some (.int s.2.2.2.1), some (.ref s.2.2.2.2.1), some (.int v7)]) (st' := []) (h' := q6) (sg1 rfl rfl rfl) ?_
      obtain rfl := Option.some.inj hf
      exact Ex.weak (sm_le_s (sm_le_s (sm_le_s (sm_le_s (sm_le_s (sm_le_s (sm_le_s (sm_le_s sm_le_nil)))))))) (hS1 _ hs)
theorem B_87_115 {L : Nat} {xs : Nat → Int32} {d : Nat} {M : Nat} {rec : Int32 → Int32 → sm_H → Option (Int32 × sm_H)} (hrec : ∀ d, M ≤ d → ∀ (x1 x2 : Int32) (h : sm_H) (q : Int32 × sm_H), rec x1 x2 h = some q → RUN L xs d 82 [.ref 49, .int x1, .int x2] h (some (.int q.1), q.2)) (hd : 2 + M ≤ d) {res : Option Value × sm_H} {y2 : Int32} {y3 : Int32} {y4 : Int32} {y5 : Int32} {y6 : Nat} {y7 : Int32}  {h : sm_H} {r : (Int32 × sm_H)} (hf : F_87_115 rec y2 y3 y4 y5 y6 y7 h = some r) (hs : (fun (r : Int32 × sm_H) => res = (some (.int r.1), r.2)) r) : Ex (P_G L xs) (RUN L xs d) (sm_lk P_t87) 0 115 [some (.ref 49), none, some (.int y2), some (.int y3), some (.int y4), some (.int y5), some (.ref y6), some (.int y7)] [] h res := by
  unfold F_87_115 at hf
  exact lp_ok (P := fun (s : (Int32 × Int32 × Int32 × Int32 × Nat × Int32 × sm_H)) => Ex (P_G L xs) (RUN L xs d) (sm_lk P_t87) 0 115 [some (.ref 49), none, some (.int s.1), some (.int s.2.1), some (.int s.2.2.1), some (.int s.2.2.2.1), some (.ref s.2.2.2.2.1), some (.int s.2.2.2.2.2.1)] [] s.2.2.2.2.2.2 res) (S := (fun (r : Int32 × sm_H) => res = (some (.int r.1), r.2))) (fun s x hx hsx => by
    intros
    exact B_87_115B hrec hd  (fun _ q => q) hx hsx) 1000000 _ r hf hs
theorem B_87_81 {L : Nat} {xs : Nat → Int32} {d : Nat} {M : Nat} {rec : Int32 → Int32 → sm_H → Option (Int32 × sm_H)} (hrec : ∀ d, M ≤ d → ∀ (x1 x2 : Int32) (h : sm_H) (q : Int32 × sm_H), rec x1 x2 h = some q → RUN L xs d 82 [.ref 49, .int x1, .int x2] h (some (.int q.1), q.2)) (hd : 2 + M ≤ d) {res : Option Value × sm_H} {y2 : Int32} {y3 : Int32} {y4 : Int32} {y5 : Int32} {z1 : Int64}  {h : sm_H} {r : (Int32 × sm_H)} (hf : F_87_81 rec y2 y3 y4 y5 z1 h = some r) (hs : (fun (r : Int32 × sm_H) => res = (some (.int r.1), r.2)) r) : Ex (P_G L xs) (RUN L xs d) (sm_lk P_t87) 0 81 [some (.ref 49), none, some (.int y2), some (.int y3), some (.int y4), some (.int y5), none, none] [.long z1, .ref 21] h res := by
  unfold F_87_81 at hf
  obtain ⟨q8, e_q8, hf⟩ := bnd hf
  refine Ex.callV (a := 21) (As := [.long z1]) (r := []) (v := some (.ref q8.1)) (h' := q8.2) rfl rfl (by decide) rfl (Nat.le_of_ble_eq_true rfl) rfl (E_147 (by omega) e_q8) rfl ?_
  refine Ex.seg 2 (pc' := 88) (lc' := [some (.ref 49), none, some (.int y2), some (.int y3), some (.int y4), some (.int y5), some (.ref q8.1), none]) (st' := [.ref q8.1]) (h' := q8.2) (sg1 rfl rfl (sg1 rfl rfl rfl)) ?_
  have g10 : sm_is G0 q8.2 q8.1 8 = true := Classical.byContradiction (fun z => by rw [if_pos z] at hf; cases hf)
  rw [if_neg (fun z => z g10)] at hf
  obtain ⟨q9, e_q9, hf⟩ := bnd hf
  refine Ex.callV (a := q8.1) (As := []) (r := []) (v := some (.int q9.1)) (h' := q9.2) rfl rfl (by decide) rfl (Nat.le_of_ble_eq_true rfl) g10 (E_216 (by omega) e_q9) rfl ?_
  refine Ex.seg 1 (pc' := 93) (lc' := [some (.ref 49), none, some (.int y2), some (.int y3), some (.int y4), some (.int y5), some (.ref q8.1), none]) (st' := [.int y4, .int q9.1]) (h' := q9.2) (sg1 rfl rfl rfl) ?_
  refine Ex.icmp rfl rfl (fun (c0 : q9.1 = y4) => ?_) (fun (c0 : ¬ (q9.1 = y4)) => ?_)
  · rw [if_pos c0] at hf
    refine Ex.seg 5 (pc' := 109) (lc' := [some (.ref 49), none, some (.int y2), some (.int y3), some (.int y4), some (.int y5), some (.ref q8.1), none]) (st' := [.int y5, .int 0, .int 0, .int y2, .ref 49]) (h' := q9.2) (sg1 rfl rfl (sg1 rfl rfl (sg1 rfl rfl (sg1 rfl rfl (sg1 rfl rfl rfl))))) ?_
    obtain ⟨q11, e_q11, hf⟩ := bnd hf
    refine Ex.callV (a := 49) (As := [.int y2, .int 0, .int 0, .int y5]) (r := []) (v := none) (h' := q11) rfl rfl (by decide) rfl (Nat.le_of_ble_eq_true rfl) rfl (E_80 (by omega) e_q11) rfl ?_
    refine Ex.seg 2 (pc' := 115) (lc' := [some (.ref 49), none, some (.int y2), some (.int y3), some (.int y4), some (.int y5), some (.ref q8.1), some (.int 0)]) (st' := []) (h' := q11) (sg1 rfl rfl (sg1 rfl rfl rfl)) ?_
    exact Ex.weak (sm_le_s (sm_le_s (sm_le_s (sm_le_s (sm_le_s (sm_le_s (sm_le_s (sm_le_s sm_le_nil)))))))) (B_87_115 hrec hd  hf hs)
  · rw [if_neg c0] at hf
    refine Ex.seg 2 (pc' := 99) (lc' := [some (.ref 49), none, some (.int y2), some (.int y3), some (.int y4), some (.int y5), some (.ref q8.1), none]) (st' := [.int 7, .ref 49]) (h' := q9.2) (sg1 rfl rfl (sg1 rfl rfl rfl)) ?_
    obtain ⟨q12, e_q12, hf⟩ := bnd hf
    refine Ex.callV (a := 49) (As := [.int 7]) (r := []) (v := some (.int q12.1)) (h' := q12.2) rfl rfl (by decide) rfl (Nat.le_of_ble_eq_true rfl) rfl (E_76 (by omega) e_q12) rfl ?_
    obtain rfl := Option.some.inj hf
    exact Ex.iret rfl rfl (fun c0 => by cases c0) hs
theorem B_87_54 {L : Nat} {xs : Nat → Int32} {d : Nat} {M : Nat} {rec : Int32 → Int32 → sm_H → Option (Int32 × sm_H)} (hrec : ∀ d, M ≤ d → ∀ (x1 x2 : Int32) (h : sm_H) (q : Int32 × sm_H), rec x1 x2 h = some q → RUN L xs d 82 [.ref 49, .int x1, .int x2] h (some (.int q.1), q.2)) (hd : 2 + M ≤ d) {res : Option Value × sm_H} {y2 : Int32} {y3 : Int32} {y4 : Int32} {y5 : Int32}  {h : sm_H} {r : (Int32 × sm_H)} (hf : F_87_54 rec y2 y3 y4 y5 h = some r) (hs : (fun (r : Int32 × sm_H) => res = (some (.int r.1), r.2)) r) : Ex (P_G L xs) (RUN L xs d) (sm_lk P_t87) 0 54 [some (.ref 49), none, some (.int y2), some (.int y3), some (.int y4), some (.int y5), none, none] [] h res := by
  unfold F_87_54 at hf
  refine Ex.seg 5 (pc' := 62) (lc' := [some (.ref 49), none, some (.int y2), some (.int y3), some (.int y4), some (.int y5), none, none]) (st' := [.int y5, .int y2, .ref 49, .ref 21]) (h' := h) (sg1 rfl rfl (sg1 rfl rfl (sg1 rfl rfl (sg1 rfl rfl (sg1 rfl rfl rfl))))) ?_
  obtain ⟨q13, e_q13, hf⟩ := bnd hf
  refine Ex.callV (a := 49) (As := [.int y2, .int y5]) (r := [.ref 21]) (v := some (.int q13.1)) (h' := q13.2) rfl rfl (by decide) rfl (Nat.le_of_ble_eq_true rfl) rfl (E_78 (by omega) e_q13) rfl ?_
  refine Ex.ifc rfl rfl (fun (c0 : ¬ (q13.1 = 0)) => ?_) (fun (c0 : ¬ ¬ (q13.1 = 0)) => ?_)
  · rw [if_neg c0] at hf
    refine Ex.seg 3 (pc' := 78) (lc' := [some (.ref 49), none, some (.int y2), some (.int y3), some (.int y4), some (.int y5), none, none]) (st' := [.int y5, .int y2, .ref 49, .ref 21]) (h' := q13.2) (sg1 rfl rfl (sg1 rfl rfl (sg1 rfl rfl rfl))) ?_
    obtain ⟨q14, e_q14, hf⟩ := bnd hf
    refine Ex.callV (a := 49) (As := [.int y2, .int y5]) (r := [.ref 21]) (v := some (.long q14.1)) (h' := q14.2) rfl rfl (by decide) rfl (Nat.le_of_ble_eq_true rfl) rfl (E_77 (by omega) e_q14) rfl ?_
    exact Ex.weak (sm_le_s (sm_le_s (sm_le_s (sm_le_s (sm_le_s (sm_le_s (sm_le_s (sm_le_s sm_le_nil)))))))) (B_87_81 hrec hd  hf hs)
  · rw [if_pos (Classical.not_not.mp c0)] at hf
    refine Ex.seg 2 (pc' := 81) (lc' := [some (.ref 49), none, some (.int y2), some (.int y3), some (.int y4), some (.int y5), none, none]) (st' := [.long (-1), .ref 21]) (h' := q13.2) (sg1 rfl rfl (sg1 rfl rfl rfl)) ?_
    exact Ex.weak (sm_le_s (sm_le_s (sm_le_s (sm_le_s (sm_le_s (sm_le_s (sm_le_s (sm_le_s sm_le_nil)))))))) (B_87_81 hrec hd  hf hs)
theorem B_87_0 {L : Nat} {xs : Nat → Int32} {d : Nat} {M : Nat} {rec : Int32 → Int32 → sm_H → Option (Int32 × sm_H)} (hrec : ∀ d, M ≤ d → ∀ (x1 x2 : Int32) (h : sm_H) (q : Int32 × sm_H), rec x1 x2 h = some q → RUN L xs d 82 [.ref 49, .int x1, .int x2] h (some (.int q.1), q.2)) (hd : 2 + M ≤ d) {res : Option Value × sm_H} {x1 : Int32} {x2 : Int32}  {h : sm_H} {r : (Int32 × sm_H)} (hf : F_87_0 rec x1 x2 h = some r) (hs : (fun (r : Int32 × sm_H) => res = (some (.int r.1), r.2)) r) : Ex (P_G L xs) (RUN L xs d) (sm_lk P_t87) 0 0 [some (.ref 49), some (.int x1), some (.int x2), none, none, none, none, none] [] h res := by
  unfold F_87_0 at hf
  refine Ex.seg 4 (pc' := 6) (lc' := [some (.ref 49), some (.int x1), some (.int x2), none, none, none, none, none]) (st' := [.int 0, .int x1, .ref 10]) (h' := h) (sg1 rfl rfl (sg1 rfl rfl (sg1 rfl rfl (sg1 rfl rfl rfl)))) ?_
  obtain ⟨q15, e_q15, hf⟩ := bnd hf
  refine Ex.callV (a := 10) (As := [.int x1, .int 0]) (r := []) (v := some (.int q15.1)) (h' := q15.2) rfl rfl (by decide) rfl (Nat.le_of_ble_eq_true rfl) rfl (E_43 (by omega) e_q15) rfl ?_
  refine Ex.seg 4 (pc' := 15) (lc' := [some (.ref 49), some (.int x1), some (.int x2), some (.int q15.1), none, none, none, none]) (st' := [.int x1, .ref 10]) (h' := q15.2) (sg1 rfl rfl (sg1 rfl rfl (sg1 rfl rfl (sg1 rfl rfl rfl)))) ?_
  obtain ⟨q16, e_q16, hf⟩ := bnd hf
  refine Ex.callV (a := 10) (As := [.int x1]) (r := []) (v := some (.int q16.1)) (h' := q16.2) rfl rfl (by decide) rfl (Nat.le_of_ble_eq_true rfl) rfl (E_39 (by omega) e_q16) rfl ?_
  refine Ex.seg 4 (pc' := 25) (lc' := [some (.ref 49), some (.int x1), some (.int x2), some (.int q15.1), some (.int q16.1), none, none, none]) (st' := [.int q15.1, .ref 10]) (h' := q16.2) (sg1 rfl rfl (sg1 rfl rfl (sg1 rfl rfl (sg1 rfl rfl rfl)))) ?_
  obtain ⟨q17, e_q17, hf⟩ := bnd hf
  refine Ex.callV (a := 10) (As := [.int q15.1]) (r := []) (v := some (.int q17.1)) (h' := q17.2) rfl rfl (by decide) rfl (Nat.le_of_ble_eq_true rfl) rfl (E_45 (by omega) e_q17) rfl ?_
  refine Ex.seg 3 (pc' := 33) (lc' := [some (.ref 49), some (.int x1), some (.int x2), some (.int q15.1), some (.int q16.1), some (.int (q17.1 - q16.1)), none, none]) (st' := []) (h' := q17.2) (sg1 rfl rfl (sg1 rfl rfl (sg1 rfl rfl rfl))) ?_
  obtain ⟨v18, e_v18, hf⟩ := bnd hf
  rw [Option.some.inj e_v18]
  refine Ex.seg 3 (pc' := 37) (lc' := [some (.ref 49), some (.int x1), some (.int x2), some (.int q15.1), some (.int q16.1), some (.int v18), none, none]) (st' := [.int v18, .int x2, .ref 49]) (h' := q17.2) (sg1 rfl rfl (sg1 rfl rfl (sg1 rfl rfl rfl))) ?_
  obtain ⟨q19, e_q19, hf⟩ := bnd hf
  refine Ex.callV (a := 49) (As := [.int x2, .int v18]) (r := []) (v := some (.int q19.1)) (h' := q19.2) rfl rfl (by decide) rfl (Nat.le_of_ble_eq_true rfl) rfl (E_78 (by omega) e_q19) rfl ?_
  refine Ex.ifc rfl rfl (fun (c0 : ¬ (q19.1 = 0)) => ?_) (fun (c0 : ¬ ¬ (q19.1 = 0)) => ?_)
  · rw [if_neg c0] at hf
    exact Ex.weak (sm_le_s (sm_le_n (sm_le_s (sm_le_s (sm_le_s (sm_le_s (sm_le_s (sm_le_s sm_le_nil)))))))) (B_87_54 hrec hd  hf hs)
  · rw [if_pos (Classical.not_not.mp c0)] at hf
    refine Ex.seg 1 (pc' := 45) (lc' := [some (.ref 49), some (.int x1), some (.int x2), some (.int q15.1), some (.int q16.1), some (.int v18), none, none]) (st' := [.int q16.1]) (h' := q19.2) (sg1 rfl rfl rfl) ?_
    refine Ex.ifc rfl rfl (fun (c0 : q16.1 = 0) => ?_) (fun (c0 : ¬ (q16.1 = 0)) => ?_)
    · rw [if_pos c0] at hf
      exact Ex.weak (sm_le_s (sm_le_n (sm_le_s (sm_le_s (sm_le_s (sm_le_s (sm_le_s (sm_le_s sm_le_nil)))))))) (B_87_54 hrec hd  hf hs)
    · rw [if_neg c0] at hf
      refine Ex.seg 2 (pc' := 50) (lc' := [some (.ref 49), some (.int x1), some (.int x2), some (.int q15.1), some (.int q16.1), some (.int v18), none, none]) (st' := [.int 1, .ref 49]) (h' := q19.2) (sg1 rfl rfl (sg1 rfl rfl rfl)) ?_
      obtain ⟨q20, e_q20, hf⟩ := bnd hf
      refine Ex.callV (a := 49) (As := [.int 1]) (r := []) (v := some (.int q20.1)) (h' := q20.2) rfl rfl (by decide) rfl (Nat.le_of_ble_eq_true rfl) rfl (E_76 (by omega) e_q20) rfl ?_
      obtain rfl := Option.some.inj hf
      exact Ex.iret rfl rfl (fun c0 => by cases c0) hs
theorem E_87 {L : Nat} {xs : Nat → Int32} {d : Nat} {M : Nat} {rec : Int32 → Int32 → sm_H → Option (Int32 × sm_H)} (hrec : ∀ d, M ≤ d → ∀ (x1 x2 : Int32) (h : sm_H) (q : Int32 × sm_H), rec x1 x2 h = some q → RUN L xs d 82 [.ref 49, .int x1, .int x2] h (some (.int q.1), q.2)) (hd : 3 + M ≤ d) {x1 : Int32} {x2 : Int32} {h : sm_H} {r : Int32 × sm_H} (hf : F_87 rec x1 x2 h = some r) : RUN L xs d 87 [.ref 49, .int x1, .int x2] h (some (.int r.1), r.2) := by
  obtain ⟨d, rfl⟩ : ∃ e, d = e + 1 := ⟨d - 1, by omega⟩
  exact ⟨Nat.le_of_ble_eq_true rfl, B_87_0 hrec (by omega) hf rfl⟩
theorem B_96_255 {L : Nat} {xs : Nat → Int32} {d : Nat} {M : Nat} {rec : Int32 → Int32 → sm_H → Option (Int32 × sm_H)} (hrec : ∀ d, M ≤ d → ∀ (x1 x2 : Int32) (h : sm_H) (q : Int32 × sm_H), rec x1 x2 h = some q → RUN L xs d 82 [.ref 49, .int x1, .int x2] h (some (.int q.1), q.2)) (hd : 3 + M ≤ d) {res : Option Value × sm_H} {S1 : (Int32 × Int32 × Int32 × Int32 × sm_H) → Prop} (hS1 : ∀ s, S1 s → Ex (P_G L xs) (RUN L xs d) (sm_lk P_t96) 0 9 [some (.ref 49), some (.int s.1), some (.int s.2.1), some (.int s.2.2.1), some (.int s.2.2.2.1), none, none, none, none, none, none, none] [] s.2.2.2.2 res) {S2 : (Int32 × Int32 × Int32 × Int32 × Int32 × Int32 × sm_H) → Prop} (hS2 : ∀ s, S2 s → Ex (P_G L xs) (RUN L xs d) (sm_lk P_t96) 0 23 [some (.ref 49), some (.int s.1), some (.int s.2.1), some (.int s.2.2.1), some (.int s.2.2.2.1), some (.int s.2.2.2.2.1), some (.int s.2.2.2.2.2.1), none, none, none, none, none] [] s.2.2.2.2.2.2 res) {y1 : Int32} {y2 : Int32} {y3 : Int32} {y4 : Int32} {y5 : Int32} {y6 : Int32}  {h : sm_H} {r : ((Int32 × Int32 × Int32 × Int32 × Int32 × Int32 × sm_H) ⊕ ((Int32 × Int32 × Int32 × Int32 × sm_H) ⊕ (Int32 × sm_H)))} (hf : F_96_255 rec y1 y2 y3 y4 y5 y6 h = some r) (hs : (Sum.elim S2 (Sum.elim S1 (fun (r : Int32 × sm_H) => res = (some (.int r.1), r.2)))) r) : Ex (P_G L xs) (RUN L xs d) (sm_lk P_t96) 0 255 [some (.ref 49), some (.int y1), some (.int y2), some (.int y3), some (.int y4), some (.int y5), some (.int y6), none, none, none, none, none] [] h res := by
  unfold F_96_255 at hf
  refine Ex.seg 1 (pc' := 258) (lc' := [some (.ref 49), some (.int y1), some (.int y2), some (.int y3), some (.int y4), some (.int y5), some (.int (y6 + 4)), none, none, none, none, none]) (st' := []) (h' := h) (sg1 rfl rfl rfl) ?_
  obtain ⟨v1, e_v1, hf⟩ := bnd hf
  rw [Option.some.inj e_v1]
  refine Ex.seg 1 (pc' := 23) (lc' := [some (.ref 49), some (.int y1), some (.int y2), some (.int y3), some (.int y4), some (.int y5), some (.int v1), none, none, none, none, none]) (st' := []) (h' := h) (sg1 rfl rfl rfl) ?_
  obtain rfl := Option.some.inj hf
  exact Ex.weak (sm_le_s (sm_le_s (sm_le_s (sm_le_s (sm_le_s (sm_le_s (sm_le_s (sm_le_s (sm_le_s (sm_le_s (sm_le_s (sm_le_s sm_le_nil)))))))))))) (hS2 _ hs)
theorem B_96_254 {L : Nat} {xs : Nat → Int32} {d : Nat} {M : Nat} {rec : Int32 → Int32 → sm_H → Option (Int32 × sm_H)} (hrec : ∀ d, M ≤ d → ∀ (x1 x2 : Int32) (h : sm_H) (q : Int32 × sm_H), rec x1 x2 h = some q → RUN L xs d 82 [.ref 49, .int x1, .int x2] h (some (.int q.1), q.2)) (hd : 3 + M ≤ d) {res : Option Value × sm_H} {z0 : Int32}  {h : sm_H} {r : (Int32 × sm_H)} (hf : F_96_254 rec z0 h = some r) (hs : (fun (r : Int32 × sm_H) => res = (some (.int r.1), r.2)) r) : Ex (P_G L xs) (RUN L xs d) (sm_lk P_t96) 0 254 [none, none, none, none, none, none, none, none, none, none, none, none] [.int z0] h res := by
  unfold F_96_254 at hf
  obtain rfl := Option.some.inj hf
  exact Ex.iret rfl rfl (fun c0 => by cases c0) hs
theorem B_96_161 {L : Nat} {xs : Nat → Int32} {d : Nat} {M : Nat} {rec : Int32 → Int32 → sm_H → Option (Int32 × sm_H)} (hrec : ∀ d, M ≤ d → ∀ (x1 x2 : Int32) (h : sm_H) (q : Int32 × sm_H), rec x1 x2 h = some q → RUN L xs d 82 [.ref 49, .int x1, .int x2] h (some (.int q.1), q.2)) (hd : 3 + M ≤ d) {res : Option Value × sm_H} {S1 : (Int32 × Int32 × Int32 × Int32 × sm_H) → Prop} (hS1 : ∀ s, S1 s → Ex (P_G L xs) (RUN L xs d) (sm_lk P_t96) 0 9 [some (.ref 49), some (.int s.1), some (.int s.2.1), some (.int s.2.2.1), some (.int s.2.2.2.1), none, none, none, none, none, none, none] [] s.2.2.2.2 res) {S2 : (Int32 × Int32 × Int32 × Int32 × Int32 × Int32 × sm_H) → Prop} (hS2 : ∀ s, S2 s → Ex (P_G L xs) (RUN L xs d) (sm_lk P_t96) 0 23 [some (.ref 49), some (.int s.1), some (.int s.2.1), some (.int s.2.2.1), some (.int s.2.2.2.1), some (.int s.2.2.2.2.1), some (.int s.2.2.2.2.2.1), none, none, none, none, none] [] s.2.2.2.2.2.2 res) {y1 : Int32} {y2 : Int32} {y3 : Int32} {y4 : Int32} {y6 : Int32} {y8 : Int32} {z0 : Int32} {z1 : Int32}  {h : sm_H} {r : ((Int32 × Int32 × Int32 × Int32 × Int32 × Int32 × sm_H) ⊕ ((Int32 × Int32 × Int32 × Int32 × sm_H) ⊕ (Int32 × sm_H)))} (hf : F_96_161 rec y1 y2 y3 y4 y6 y8 z0 z1 h = some r) (hs : (Sum.elim S2 (Sum.elim S1 (fun (r : Int32 × sm_H) => res = (some (.int r.1), r.2)))) r) : Ex (P_G L xs) (RUN L xs d) (sm_lk P_t96) 0 161 [some (.ref 49), some (.int y1), some (.int y2), some (.int y3), some (.int y4), none, some (.int y6), none, some (.int y8), none, none, none] [.int z1, .int z0] h res := by
  unfold F_96_161 at hf
  refine Ex.seg 2 (pc' := 164) (lc' := [some (.ref 49), some (.int y1), some (.int y2), some (.int y3), some (.int y4), some (.int (z0 + z1)), some (.int y6), none, some (.int y8), none, none, none]) (st' := []) (h' := h) (sg1 rfl rfl (sg1 rfl rfl rfl)) ?_
  obtain ⟨v2, e_v2, hf⟩ := bnd hf
  rw [Option.some.inj e_v2]
  refine Ex.seg 2 (pc' := 167) (lc' := [some (.ref 49), some (.int y1), some (.int y2), some (.int y3), some (.int y4), some (.int v2), some (.int y6), none, some (.int y8), none, none, none]) (st' := [.int (-1), .int y8]) (h' := h) (sg1 rfl rfl (sg1 rfl rfl rfl)) ?_
  refine Ex.icmp rfl rfl (fun (c0 : y8 = (-1)) => ?_) (fun (c0 : ¬ (y8 = (-1))) => ?_)
  · rw [if_pos c0] at hf
    exact Ex.weak (sm_le_s (sm_le_s (sm_le_s (sm_le_s (sm_le_s (sm_le_s (sm_le_s (sm_le_s (sm_le_n (sm_le_s (sm_le_s (sm_le_s sm_le_nil)))))))))))) (B_96_255 hrec hd hS1 hS2 hf hs)
  · rw [if_neg c0] at hf
    refine Ex.seg 4 (pc' := 175) (lc' := [some (.ref 49), some (.int y1), some (.int y2), some (.int y3), some (.int y4), some (.int v2), some (.int y6), none, some (.int y8), none, none, none]) (st' := [.int y2, .int y3, .int y8, .ref 49]) (h' := h) (sg1 rfl rfl (sg1 rfl rfl (sg1 rfl rfl (sg1 rfl rfl rfl)))) ?_
    obtain ⟨q3, e_q3, hf⟩ := bnd hf
    refine Ex.callV (a := 49) (As := [.int y8, .int y3, .int y2]) (r := []) (v := none) (h' := q3) rfl rfl (by decide) rfl (Nat.le_of_ble_eq_true rfl) rfl (E_98 (by omega) e_q3) rfl ?_
    refine Ex.seg 5 (pc' := 184) (lc' := [some (.ref 49), some (.int y1), some (.int y2), some (.int y3), some (.int y4), some (.int v2), some (.int y6), none, some (.int y8), none, none, none]) (st' := [.int (y2 + 1), .int y8, .ref 49]) (h' := q3) (sg1 rfl rfl (sg1 rfl rfl (sg1 rfl rfl (sg1 rfl rfl (sg1 rfl rfl rfl))))) ?_
    obtain ⟨q4, e_q4, hf⟩ := bnd hf
    refine Ex.callV (a := 49) (As := [.int y8, .int (y2 + 1)]) (r := []) (v := some (.int q4.1)) (h' := q4.2) rfl rfl (by decide) rfl (Nat.le_of_ble_eq_true rfl) rfl (hrec d (by omega) _ _ _ _ e_q4) rfl ?_
    refine Ex.seg 2 (pc' := 191) (lc' := [some (.ref 49), some (.int y1), some (.int y2), some (.int y3), some (.int y4), some (.int v2), some (.int y6), none, some (.int y8), none, some (.int q4.1), none]) (st' := [.int q4.1]) (h' := q4.2) (sg1 rfl rfl (sg1 rfl rfl rfl)) ?_
    refine Ex.ifc rfl rfl (fun (c0 : q4.1 = 0) => ?_) (fun (c0 : ¬ (q4.1 = 0)) => ?_)
    · rw [if_pos c0] at hf
      refine Ex.seg 4 (pc' := 203) (lc' := [some (.ref 49), some (.int y1), some (.int y2), some (.int y3), some (.int y4), some (.int v2), some (.int y6), none, some (.int y8), none, some (.int q4.1), none]) (st' := [.int (lg_cmp (q4.2.2.1 49 9) 0)]) (h' := q4.2) (sg1 rfl rfl (sg1 rfl rfl (sg1 rfl rfl (sg1 rfl rfl rfl)))) ?_
      refine Ex.ifc rfl rfl (fun (c0 : ¬ ((lg_cmp (q4.2.2.1 49 9) 0) = 0)) => ?_) (fun (c0 : ¬ ¬ ((lg_cmp (q4.2.2.1 49 9) 0) = 0)) => ?_)
      · rw [if_neg c0] at hf
        exact Ex.weak (sm_le_s (sm_le_s (sm_le_s (sm_le_s (sm_le_s (sm_le_s (sm_le_s (sm_le_s (sm_le_n (sm_le_s (sm_le_n (sm_le_s sm_le_nil)))))))))))) (B_96_255 hrec hd hS1 hS2 hf hs)
      · rw [if_pos (Classical.not_not.mp c0)] at hf
        refine Ex.seg 6 (pc' := 215) (lc' := [some (.ref 49), some (.int y1), some (.int y2), some (.int y3), some (.int y4), some (.int v2), some (.int y6), none, some (.int y8), none, some (.int q4.1), none]) (st' := [.int (y6 + 3), .int y1, .ref 10]) (h' := q4.2) (sg1 rfl rfl (sg1 rfl rfl (sg1 rfl rfl (sg1 rfl rfl (sg1 rfl rfl (sg1 rfl rfl rfl)))))) ?_
        obtain ⟨q5, e_q5, hf⟩ := bnd hf
        refine Ex.callV (a := 10) (As := [.int y1, .int (y6 + 3)]) (r := []) (v := some (.int q5.1)) (h' := q5.2) rfl rfl (by decide) rfl (Nat.le_of_ble_eq_true rfl) rfl (E_43 (by omega) e_q5) rfl ?_
        refine Ex.seg 4 (pc' := 223) (lc' := [some (.ref 49), some (.int y1), some (.int y2), some (.int y3), some (.int y4), some (.int v2), some (.int y6), none, some (.int y8), none, some (.int q4.1), some (.int q5.1)]) (st' := [.int 0, .long 0, .ref 49]) (h' := q5.2) (sg1 rfl rfl (sg1 rfl rfl (sg1 rfl rfl (sg1 rfl rfl rfl)))) ?_
        obtain ⟨q6, e_q6, hf⟩ := bnd hf
        refine Ex.callV (a := 49) (As := [.long 0, .int 0]) (r := []) (v := some (.int q6.1)) (h' := q6.2) rfl rfl (by decide) rfl (Nat.le_of_ble_eq_true rfl) rfl (E_75 (by omega) e_q6) rfl ?_
        refine Ex.seg 5 (pc' := 232) (lc' := [some (.ref 49), some (.int y1), some (.int y2), some (.int y3), some (.int y4), some (.int v2), some (.int y6), none, some (.int y8), none, some (.int q4.1), some (.int q5.1)]) (st' := [.int y2, .int y3, .int q5.1, .ref 49]) (h' := q6.2) (sg1 rfl rfl (sg1 rfl rfl (sg1 rfl rfl (sg1 rfl rfl (sg1 rfl rfl rfl))))) ?_
        obtain ⟨q7, e_q7, hf⟩ := bnd hf
        refine Ex.callV (a := 49) (As := [.int q5.1, .int y3, .int y2]) (r := []) (v := none) (h' := q7) rfl rfl (by decide) rfl (Nat.le_of_ble_eq_true rfl) rfl (E_98 (by omega) e_q7) rfl ?_
        refine Ex.seg 2 (pc' := 238) (lc' := [some (.ref 49), some (.int y1), some (.int y2), some (.int y3), some (.int y4), some (.int v2), some (.int y6), none, some (.int y8), none, some (.int q4.1), some (.int q5.1)]) (st' := [.int (-1), .int q5.1]) (h' := q7) (sg1 rfl rfl (sg1 rfl rfl rfl)) ?_
        refine Ex.icmp rfl rfl (fun (c0 : ¬ (q5.1 = (-1))) => ?_) (fun (c0 : ¬ ¬ (q5.1 = (-1))) => ?_)
        · rw [if_neg c0] at hf
          refine Ex.seg 5 (pc' := 251) (lc' := [some (.ref 49), some (.int y1), some (.int y2), some (.int y3), some (.int y4), some (.int v2), some (.int y6), none, some (.int y8), none, some (.int q4.1), some (.int q5.1)]) (st' := [.int (y2 + 1), .int q5.1, .ref 49]) (h' := q7) (sg1 rfl rfl (sg1 rfl rfl (sg1 rfl rfl (sg1 rfl rfl (sg1 rfl rfl rfl))))) ?_
          obtain ⟨q8, e_q8, hf⟩ := bnd hf
          refine Ex.callV (a := 49) (As := [.int q5.1, .int (y2 + 1)]) (r := []) (v := some (.int q8.1)) (h' := q8.2) rfl rfl (by decide) rfl (Nat.le_of_ble_eq_true rfl) rfl (hrec d (by omega) _ _ _ _ e_q8) rfl ?_
          obtain ⟨r0, hf0, rfl⟩ := Option.map_eq_some_iff.mp hf
          exact Ex.weak (sm_le_n (sm_le_n (sm_le_n (sm_le_n (sm_le_n (sm_le_n (sm_le_n (sm_le_s (sm_le_n (sm_le_s (sm_le_n (sm_le_n sm_le_nil)))))))))))) (B_96_254 hrec hd  hf0 hs)
        · rw [if_pos (Classical.not_not.mp c0)] at hf
          refine Ex.seg 2 (pc' := 254) (lc' := [some (.ref 49), some (.int y1), some (.int y2), some (.int y3), some (.int y4), some (.int v2), some (.int y6), none, some (.int y8), none, some (.int q4.1), some (.int q5.1)]) (st' := [.int 0]) (h' := q7) (sg1 rfl rfl (sg1 rfl rfl rfl)) ?_
          obtain ⟨r0, hf0, rfl⟩ := Option.map_eq_some_iff.mp hf
          exact Ex.weak (sm_le_n (sm_le_n (sm_le_n (sm_le_n (sm_le_n (sm_le_n (sm_le_n (sm_le_s (sm_le_n (sm_le_s (sm_le_n (sm_le_n sm_le_nil)))))))))))) (B_96_254 hrec hd  hf0 hs)
    · rw [if_neg c0] at hf
      refine Ex.seg 1 (pc' := 196) (lc' := [some (.ref 49), some (.int y1), some (.int y2), some (.int y3), some (.int y4), some (.int v2), some (.int y6), none, some (.int y8), none, some (.int q4.1), none]) (st' := [.int q4.1]) (h' := q4.2) (sg1 rfl rfl rfl) ?_
      obtain rfl := Option.some.inj hf
      exact Ex.iret rfl rfl (fun c0 => by cases c0) hs
theorem B_96_149 {L : Nat} {xs : Nat → Int32} {d : Nat} {M : Nat} {rec : Int32 → Int32 → sm_H → Option (Int32 × sm_H)} (hrec : ∀ d, M ≤ d → ∀ (x1 x2 : Int32) (h : sm_H) (q : Int32 × sm_H), rec x1 x2 h = some q → RUN L xs d 82 [.ref 49, .int x1, .int x2] h (some (.int q.1), q.2)) (hd : 3 + M ≤ d) {res : Option Value × sm_H} {S1 : (Int32 × Int32 × Int32 × Int32 × sm_H) → Prop} (hS1 : ∀ s, S1 s → Ex (P_G L xs) (RUN L xs d) (sm_lk P_t96) 0 9 [some (.ref 49), some (.int s.1), some (.int s.2.1), some (.int s.2.2.1), some (.int s.2.2.2.1), none, none, none, none, none, none, none] [] s.2.2.2.2 res) {S2 : (Int32 × Int32 × Int32 × Int32 × Int32 × Int32 × sm_H) → Prop} (hS2 : ∀ s, S2 s → Ex (P_G L xs) (RUN L xs d) (sm_lk P_t96) 0 23 [some (.ref 49), some (.int s.1), some (.int s.2.1), some (.int s.2.2.1), some (.int s.2.2.2.1), some (.int s.2.2.2.2.1), some (.int s.2.2.2.2.2.1), none, none, none, none, none] [] s.2.2.2.2.2.2 res) {y1 : Int32} {y2 : Int32} {y3 : Int32} {y4 : Int32} {y5 : Int32} {y6 : Int32} {y8 : Int32} {y9 : Int32}  {h : sm_H} {r : ((Int32 × Int32 × Int32 × Int32 × Int32 × Int32 × sm_H) ⊕ ((Int32 × Int32 × Int32 × Int32 × sm_H) ⊕ (Int32 × sm_H)))} (hf : F_96_149 rec y1 y2 y3 y4 y5 y6 y8 y9 h = some r) (hs : (Sum.elim S2 (Sum.elim S1 (fun (r : Int32 × sm_H) => res = (some (.int r.1), r.2)))) r) : Ex (P_G L xs) (RUN L xs d) (sm_lk P_t96) 0 149 [some (.ref 49), some (.int y1), some (.int y2), some (.int y3), some (.int y4), some (.int y5), some (.int y6), none, some (.int y8), some (.int y9), none, none] [] h res := by
  unfold F_96_149 at hf
  refine Ex.seg 2 (pc' := 153) (lc' := [some (.ref 49), some (.int y1), some (.int y2), some (.int y3), some (.int y4), some (.int y5), some (.int y6), none, some (.int y8), some (.int y9), none, none]) (st' := [.int y9, .int y5]) (h' := h) (sg1 rfl rfl (sg1 rfl rfl rfl)) ?_
  refine Ex.ifc rfl rfl (fun (c0 : y9 = 0) => ?_) (fun (c0 : ¬ (y9 = 0)) => ?_)
  · rw [if_pos c0] at hf
    refine Ex.seg 1 (pc' := 161) (lc' := [some (.ref 49), some (.int y1), some (.int y2), some (.int y3), some (.int y4), some (.int y5), some (.int y6), none, some (.int y8), some (.int y9), none, none]) (st' := [.int 0, .int y5]) (h' := h) (sg1 rfl rfl rfl) ?_
    exact Ex.weak (sm_le_s (sm_le_s (sm_le_s (sm_le_s (sm_le_s (sm_le_n (sm_le_s (sm_le_s (sm_le_s (sm_le_n (sm_le_s (sm_le_s sm_le_nil)))))))))))) (B_96_161 hrec hd hS1 hS2 hf hs)
  · rw [if_neg c0] at hf
    refine Ex.seg 2 (pc' := 161) (lc' := [some (.ref 49), some (.int y1), some (.int y2), some (.int y3), some (.int y4), some (.int y5), some (.int y6), none, some (.int y8), some (.int y9), none, none]) (st' := [.int 1, .int y5]) (h' := h) (sg1 rfl rfl (sg1 rfl rfl rfl)) ?_
    exact Ex.weak (sm_le_s (sm_le_s (sm_le_s (sm_le_s (sm_le_s (sm_le_n (sm_le_s (sm_le_s (sm_le_s (sm_le_n (sm_le_s (sm_le_s sm_le_nil)))))))))))) (B_96_161 hrec hd hS1 hS2 hf hs)
theorem B_96_91 {L : Nat} {xs : Nat → Int32} {d : Nat} {M : Nat} {rec : Int32 → Int32 → sm_H → Option (Int32 × sm_H)} (hrec : ∀ d, M ≤ d → ∀ (x1 x2 : Int32) (h : sm_H) (q : Int32 × sm_H), rec x1 x2 h = some q → RUN L xs d 82 [.ref 49, .int x1, .int x2] h (some (.int q.1), q.2)) (hd : 3 + M ≤ d) {res : Option Value × sm_H} {S1 : (Int32 × Int32 × Int32 × Int32 × sm_H) → Prop} (hS1 : ∀ s, S1 s → Ex (P_G L xs) (RUN L xs d) (sm_lk P_t96) 0 9 [some (.ref 49), some (.int s.1), some (.int s.2.1), some (.int s.2.2.1), some (.int s.2.2.2.1), none, none, none, none, none, none, none] [] s.2.2.2.2 res) {S2 : (Int32 × Int32 × Int32 × Int32 × Int32 × Int32 × sm_H) → Prop} (hS2 : ∀ s, S2 s → Ex (P_G L xs) (RUN L xs d) (sm_lk P_t96) 0 23 [some (.ref 49), some (.int s.1), some (.int s.2.1), some (.int s.2.2.1), some (.int s.2.2.2.1), some (.int s.2.2.2.2.1), some (.int s.2.2.2.2.2.1), none, none, none, none, none] [] s.2.2.2.2.2.2 res) {y1 : Int32} {y2 : Int32} {y3 : Int32} {y4 : Int32} {y5 : Int32} {y6 : Int32} {y7 : Int32} {y8 : Int32} {z0 : Int32}  {h : sm_H} {r : ((Int32 × Int32 × Int32 × Int32 × Int32 × Int32 × sm_H) ⊕ ((Int32 × Int32 × Int32 × Int32 × sm_H) ⊕ (Int32 × sm_H)))} (hf : F_96_91 rec y1 y2 y3 y4 y5 y6 y7 y8 z0 h = some r) (hs : (Sum.elim S2 (Sum.elim S1 (fun (r : Int32 × sm_H) => res = (some (.int r.1), r.2)))) r) : Ex (P_G L xs) (RUN L xs d) (sm_lk P_t96) 0 91 [some (.ref 49), some (.int y1), some (.int y2), some (.int y3), some (.int y4), some (.int y5), some (.int y6), some (.int y7), some (.int y8), none, none, none] [.int z0] h res := by
  unfold F_96_91 at hf
  refine Ex.seg 3 (pc' := 96) (lc' := [some (.ref 49), some (.int y1), some (.int y2), some (.int y3), some (.int y4), some (.int y5), some (.int y6), some (.int y7), some (.int y8), some (.int z0), none, none]) (st' := [.int (-1), .int y7]) (h' := h) (sg1 rfl rfl (sg1 rfl rfl (sg1 rfl rfl rfl))) ?_
  refine Ex.icmp rfl rfl (fun (c0 : y7 = (-1)) => ?_) (fun (c0 : ¬ (y7 = (-1))) => ?_)
  · rw [if_pos c0] at hf
    exact Ex.weak (sm_le_s (sm_le_s (sm_le_s (sm_le_s (sm_le_s (sm_le_s (sm_le_s (sm_le_n (sm_le_s (sm_le_s (sm_le_s (sm_le_s sm_le_nil)))))))))))) (B_96_149 hrec hd hS1 hS2 hf hs)
  · rw [if_neg c0] at hf
    refine Ex.seg 4 (pc' := 104) (lc' := [some (.ref 49), some (.int y1), some (.int y2), some (.int y3), some (.int y4), some (.int y5), some (.int y6), some (.int y7), some (.int y8), some (.int z0), none, none]) (st' := [.int y2, .int y3, .int y7, .ref 49]) (h' := h) (sg1 rfl rfl (sg1 rfl rfl (sg1 rfl rfl (sg1 rfl rfl rfl)))) ?_
    obtain ⟨q9, e_q9, hf⟩ := bnd hf
    refine Ex.callV (a := 49) (As := [.int y7, .int y3, .int y2]) (r := []) (v := none) (h' := q9) rfl rfl (by decide) rfl (Nat.le_of_ble_eq_true rfl) rfl (E_98 (by omega) e_q9) rfl ?_
    refine Ex.seg 5 (pc' := 113) (lc' := [some (.ref 49), some (.int y1), some (.int y2), some (.int y3), some (.int y4), some (.int y5), some (.int y6), some (.int y7), some (.int y8), some (.int z0), none, none]) (st' := [.int (y2 + 1), .int y7, .ref 49]) (h' := q9) (sg1 rfl rfl (sg1 rfl rfl (sg1 rfl rfl (sg1 rfl rfl (sg1 rfl rfl rfl))))) ?_
    obtain ⟨q10, e_q10, hf⟩ := bnd hf
    refine Ex.callV (a := 49) (As := [.int y7, .int (y2 + 1)]) (r := []) (v := some (.int q10.1)) (h' := q10.2) rfl rfl (by decide) rfl (Nat.le_of_ble_eq_true rfl) rfl (hrec d (by omega) _ _ _ _ e_q10) rfl ?_
    refine Ex.seg 2 (pc' := 120) (lc' := [some (.ref 49), some (.int y1), some (.int y2), some (.int y3), some (.int y4), some (.int y5), some (.int y6), some (.int y7), some (.int y8), some (.int z0), some (.int q10.1), none]) (st' := [.int q10.1]) (h' := q10.2) (sg1 rfl rfl (sg1 rfl rfl rfl)) ?_
    refine Ex.ifc rfl rfl (fun (c0 : q10.1 = 0) => ?_) (fun (c0 : ¬ (q10.1 = 0)) => ?_)
    · rw [if_pos c0] at hf
      refine Ex.seg 1 (pc' := 128) (lc' := [some (.ref 49), some (.int y1), some (.int y2), some (.int y3), some (.int y4), some (.int y5), some (.int y6), some (.int y7), some (.int y8), some (.int z0), some (.int q10.1), none]) (st' := [.int z0]) (h' := q10.2) (sg1 rfl rfl rfl) ?_
      refine Ex.ifc rfl rfl (fun (c0 : z0 = 0) => ?_) (fun (c0 : ¬ (z0 = 0)) => ?_)
      · rw [if_pos c0] at hf
        exact Ex.weak (sm_le_s (sm_le_s (sm_le_s (sm_le_s (sm_le_s (sm_le_s (sm_le_s (sm_le_n (sm_le_s (sm_le_s (sm_le_n (sm_le_s sm_le_nil)))))))))))) (B_96_149 hrec hd hS1 hS2 hf hs)
      · rw [if_neg c0] at hf
        refine Ex.seg 9 (pc' := 146) (lc' := [some (.ref 49), some (.int y1), some (.int y2), some (.int y3), some (.int y4), some (.int y5), some (.int y6), some (.int y7), some (.int y8), some (.int z0), some (.int q10.1), none]) (st' := [.int (q10.2.1 49 10), .long (q10.2.2.1 49 9), .int (10 + y5), .int y2, .ref 49]) (h' := q10.2) (sg1 rfl rfl (sg1 rfl rfl (sg1 rfl rfl (sg1 rfl rfl (sg1 rfl rfl (sg1 rfl rfl (sg1 rfl rfl (sg1 rfl rfl (sg1 rfl rfl rfl))))))))) ?_
        obtain ⟨q11, e_q11, hf⟩ := bnd hf
        refine Ex.callV (a := 49) (As := [.int y2, .int (10 + y5), .long (q10.2.2.1 49 9), .int (q10.2.1 49 10)]) (r := []) (v := none) (h' := q11) rfl rfl (by decide) rfl (Nat.le_of_ble_eq_true rfl) rfl (E_79 (by omega) e_q11) rfl ?_
        exact Ex.weak (sm_le_s (sm_le_s (sm_le_s (sm_le_s (sm_le_s (sm_le_s (sm_le_s (sm_le_n (sm_le_s (sm_le_s (sm_le_n (sm_le_s sm_le_nil)))))))))))) (B_96_149 hrec hd hS1 hS2 hf hs)
    · rw [if_neg c0] at hf
      refine Ex.seg 1 (pc' := 125) (lc' := [some (.ref 49), some (.int y1), some (.int y2), some (.int y3), some (.int y4), some (.int y5), some (.int y6), some (.int y7), some (.int y8), some (.int z0), some (.int q10.1), none]) (st' := [.int q10.1]) (h' := q10.2) (sg1 rfl rfl rfl) ?_
      obtain rfl := Option.some.inj hf
      exact Ex.iret rfl rfl (fun c0 => by cases c0) hs
theorem B_96_23B {L : Nat} {xs : Nat → Int32} {d : Nat} {M : Nat} {rec : Int32 → Int32 → sm_H → Option (Int32 × sm_H)} (hrec : ∀ d, M ≤ d → ∀ (x1 x2 : Int32) (h : sm_H) (q : Int32 × sm_H), rec x1 x2 h = some q → RUN L xs d 82 [.ref 49, .int x1, .int x2] h (some (.int q.1), q.2)) (hd : 3 + M ≤ d) {res : Option Value × sm_H} {S1 : (Int32 × Int32 × Int32 × Int32 × sm_H) → Prop} (hS1 : ∀ s, S1 s → Ex (P_G L xs) (RUN L xs d) (sm_lk P_t96) 0 9 [some (.ref 49), some (.int s.1), some (.int s.2.1), some (.int s.2.2.1), some (.int s.2.2.2.1), none, none, none, none, none, none, none] [] s.2.2.2.2 res) {S2 : (Int32 × Int32 × Int32 × Int32 × Int32 × Int32 × sm_H) → Prop} (hS2 : ∀ s, S2 s → Ex (P_G L xs) (RUN L xs d) (sm_lk P_t96) 0 23 [some (.ref 49), some (.int s.1), some (.int s.2.1), some (.int s.2.2.1), some (.int s.2.2.2.1), some (.int s.2.2.2.2.1), some (.int s.2.2.2.2.2.1), none, none, none, none, none] [] s.2.2.2.2.2.2 res) {s : (Int32 × Int32 × Int32 × Int32 × Int32 × Int32 × sm_H)}  {r : ((Int32 × Int32 × Int32 × Int32 × Int32 × Int32 × sm_H) ⊕ ((Int32 × Int32 × Int32 × Int32 × sm_H) ⊕ (Int32 × sm_H)))} (hf : F_96_23B rec s = some r) (hs : (Sum.elim S2 (Sum.elim S1 (fun (r : Int32 × sm_H) => res = (some (.int r.1), r.2)))) r) : Ex (P_G L xs) (RUN L xs d) (sm_lk P_t96) 0 23 [some (.ref 49), some (.int s.1), some (.int s.2.1), some (.int s.2.2.1), some (.int s.2.2.2.1), some (.int s.2.2.2.2.1), some (.int s.2.2.2.2.2.1), none, none, none, none, none] [] s.2.2.2.2.2.2 res := by
  unfold F_96_23B at hf
  refine Ex.seg 4 (pc' := 30) (lc' := [some (.ref 49), some (.int s.1), some (.int s.2.1), some (.int s.2.2.1), some (.int s.2.2.2.1), some (.int s.2.2.2.2.1), some (.int s.2.2.2.2.2.1), none, none, none, none, none]) (st' := [.int s.1, .ref 10, .int s.2.2.2.2.2.1]) (h' := s.2.2.2.2.2.2) (sg1 rfl rfl (sg1 rfl rfl (sg1 rfl rfl (sg1 rfl rfl rfl)))) ?_
  obtain ⟨q12, e_q12, hf⟩ := bnd hf
  refine Ex.callV (a := 10) (As := [.int s.1]) (r := [.int s.2.2.2.2.2.1]) (v := some (.int q12.1)) (h' := q12.2) rfl rfl (by decide) rfl (Nat.le_of_ble_eq_true rfl) rfl (E_42 (by omega) e_q12) rfl ?_
  refine Ex.icmp rfl rfl (fun (c0 : q12.1 ≤ s.2.2.2.2.2.1) => ?_) (fun (c0 : ¬ (q12.1 ≤ s.2.2.2.2.2.1)) => ?_)
  · rw [if_pos c0] at hf
    refine Ex.seg 1 (pc' := 264) (lc' := [some (.ref 49), some (.int s.1), some (.int s.2.1), some (.int s.2.2.1), some (.int (s.2.2.2.1 + 1)), some (.int s.2.2.2.2.1), some (.int s.2.2.2.2.2.1), none, none, none, none, none]) (st' := []) (h' := q12.2) (sg1 rfl rfl rfl) ?_
    obtain ⟨v13, e_v13, hf⟩ := bnd hf
    rw [Option.some.inj e_v13]
    refine Ex.seg 1 (pc' := 9) (lc' := [some (.ref 49), some (.int s.1), some (.int s.2.1), some (.int s.2.2.1), some (.int v13), some (.int s.2.2.2.2.1), some (.int s.2.2.2.2.2.1), none, none, none, none, none]) (st' := []) (h' := q12.2) (sg1 rfl rfl rfl) ?_
    obtain rfl := Option.some.inj hf
    exact Ex.weak (sm_le_s (sm_le_s (sm_le_s (sm_le_s (sm_le_s (sm_le_n (sm_le_n (sm_le_s (sm_le_s (sm_le_s (sm_le_s (sm_le_s sm_le_nil)))))))))))) (hS1 _ hs)
  · rw [if_neg c0] at hf
    refine Ex.seg 6 (pc' := 45) (lc' := [some (.ref 49), some (.int s.1), some (.int s.2.1), some (.int s.2.2.1), some (.int s.2.2.2.1), some (.int s.2.2.2.2.1), some (.int s.2.2.2.2.2.1), none, none, none, none, none]) (st' := [.int (s.2.2.2.2.2.1 + 1), .int s.1, .ref 10]) (h' := q12.2) (sg1 rfl rfl (sg1 rfl rfl (sg1 rfl rfl (sg1 rfl rfl (sg1 rfl rfl (sg1 rfl rfl rfl)))))) ?_
    obtain ⟨q14, e_q14, hf⟩ := bnd hf
    refine Ex.callV (a := 10) (As := [.int s.1, .int (s.2.2.2.2.2.1 + 1)]) (r := []) (v := some (.int q14.1)) (h' := q14.2) rfl rfl (by decide) rfl (Nat.le_of_ble_eq_true rfl) rfl (E_43 (by omega) e_q14) rfl ?_
    refine Ex.seg 7 (pc' := 59) (lc' := [some (.ref 49), some (.int s.1), some (.int s.2.1), some (.int s.2.2.1), some (.int s.2.2.2.1), some (.int s.2.2.2.2.1), some (.int s.2.2.2.2.2.1), some (.int q14.1), none, none, none, none]) (st' := [.int (s.2.2.2.2.2.1 + 2), .int s.1, .ref 10]) (h' := q14.2) (sg1 rfl rfl (sg1 rfl rfl (sg1 rfl rfl (sg1 rfl rfl (sg1 rfl rfl (sg1 rfl rfl (sg1 rfl rfl rfl))))))) ?_
    obtain ⟨q15, e_q15, hf⟩ := bnd hf
    refine Ex.callV (a := 10) (As := [.int s.1, .int (s.2.2.2.2.2.1 + 2)]) (r := []) (v := some (.int q15.1)) (h' := q15.2) rfl rfl (by decide) rfl (Nat.le_of_ble_eq_true rfl) rfl (E_43 (by omega) e_q15) rfl ?_
    refine Ex.seg 7 (pc' := 75) (lc' := [some (.ref 49), some (.int s.1), some (.int s.2.1), some (.int s.2.2.1), some (.int s.2.2.2.1), some (.int s.2.2.2.2.1), some (.int s.2.2.2.2.2.1), some (.int q14.1), some (.int q15.1), none, none, none]) (st' := [.int s.2.2.2.2.2.1, .int s.1, .ref 10, .ref 10]) (h' := q15.2) (sg1 rfl rfl (sg1 rfl rfl (sg1 rfl rfl (sg1 rfl rfl (sg1 rfl rfl (sg1 rfl rfl (sg1 rfl rfl rfl))))))) ?_
    obtain ⟨q16, e_q16, hf⟩ := bnd hf
    refine Ex.callV (a := 10) (As := [.int s.1, .int s.2.2.2.2.2.1]) (r := [.ref 10]) (v := some (.int q16.1)) (h' := q16.2) rfl rfl (by decide) rfl (Nat.le_of_ble_eq_true rfl) rfl (E_43 (by omega) e_q16) rfl ?_
    refine Ex.seg 1 (pc' := 80) (lc' := [some (.ref 49), some (.int s.1), some (.int s.2.1), some (.int s.2.2.1), some (.int s.2.2.2.1), some (.int s.2.2.2.2.1), some (.int s.2.2.2.2.2.1), some (.int q14.1), some (.int q15.1), none, none, none]) (st' := [.int q14.1, .int q16.1, .ref 10]) (h' := q16.2) (sg1 rfl rfl rfl) ?_
    obtain ⟨q17, e_q17, hf⟩ := bnd hf
    refine Ex.callV (a := 10) (As := [.int q16.1, .int q14.1]) (r := []) (v := some (.int q17.1)) (h' := q17.2) rfl rfl (by decide) rfl (Nat.le_of_ble_eq_true rfl) rfl (E_47 (by omega) e_q17) rfl ?_
    refine Ex.ifc rfl rfl (fun (c0 : q17.1 = 0) => ?_) (fun (c0 : ¬ (q17.1 = 0)) => ?_)
    · rw [if_pos c0] at hf
      refine Ex.seg 1 (pc' := 91) (lc' := [some (.ref 49), some (.int s.1), some (.int s.2.1), some (.int s.2.2.1), some (.int s.2.2.2.1), some (.int s.2.2.2.2.1), some (.int s.2.2.2.2.2.1), some (.int q14.1), some (.int q15.1), none, none, none]) (st' := [.int 0]) (h' := q17.2) (sg1 rfl rfl rfl) ?_
      exact Ex.weak (sm_le_s (sm_le_s (sm_le_s (sm_le_s (sm_le_s (sm_le_s (sm_le_s (sm_le_s (sm_le_s (sm_le_s (sm_le_s (sm_le_s sm_le_nil)))))))))))) (B_96_91 hrec hd hS1 hS2 hf hs)
    · rw [if_neg c0] at hf
      refine Ex.seg 2 (pc' := 91) (lc' := [some (.ref 49), some (.int s.1), some (.int s.2.1), some (.int s.2.2.1), some (.int s.2.2.2.1), some (.int s.2.2.2.2.1), some (.int s.2.2.2.2.2.1), some (.int q14.1), some (.int q15.1), none, none, none]) (st' := [.int 1]) (h' := q17.2) (sg1 rfl rfl (sg1 rfl rfl rfl)) ?_
      exact Ex.weak (sm_le_s (sm_le_s (sm_le_s (sm_le_s (sm_le_s (sm_le_s (sm_le_s (sm_le_s (sm_le_s (sm_le_s (sm_le_s (sm_le_s sm_le_nil)))))))))))) (B_96_91 hrec hd hS1 hS2 hf hs)
theorem B_96_23 {L : Nat} {xs : Nat → Int32} {d : Nat} {M : Nat} {rec : Int32 → Int32 → sm_H → Option (Int32 × sm_H)} (hrec : ∀ d, M ≤ d → ∀ (x1 x2 : Int32) (h : sm_H) (q : Int32 × sm_H), rec x1 x2 h = some q → RUN L xs d 82 [.ref 49, .int x1, .int x2] h (some (.int q.1), q.2)) (hd : 3 + M ≤ d) {res : Option Value × sm_H} {S1 : (Int32 × Int32 × Int32 × Int32 × sm_H) → Prop} (hS1 : ∀ s, S1 s → Ex (P_G L xs) (RUN L xs d) (sm_lk P_t96) 0 9 [some (.ref 49), some (.int s.1), some (.int s.2.1), some (.int s.2.2.1), some (.int s.2.2.2.1), none, none, none, none, none, none, none] [] s.2.2.2.2 res) {y1 : Int32} {y2 : Int32} {y3 : Int32} {y4 : Int32} {y5 : Int32} {y6 : Int32}  {h : sm_H} {r : ((Int32 × Int32 × Int32 × Int32 × sm_H) ⊕ (Int32 × sm_H))} (hf : F_96_23 rec y1 y2 y3 y4 y5 y6 h = some r) (hs : (Sum.elim S1 (fun (r : Int32 × sm_H) => res = (some (.int r.1), r.2))) r) : Ex (P_G L xs) (RUN L xs d) (sm_lk P_t96) 0 23 [some (.ref 49), some (.int y1), some (.int y2), some (.int y3), some (.int y4), some (.int y5), some (.int y6), none, none, none, none, none] [] h res := by
  unfold F_96_23 at hf
  exact lp_ok (P := fun (s : (Int32 × Int32 × Int32 × Int32 × Int32 × Int32 × sm_H)) => Ex (P_G L xs) (RUN L xs d) (sm_lk P_t96) 0 23 [some (.ref 49), some (.int s.1), some (.int s.2.1), some (.int s.2.2.1), some (.int s.2.2.2.1), some (.int s.2.2.2.2.1), some (.int s.2.2.2.2.2.1), none, none, none, none, none] [] s.2.2.2.2.2.2 res) (S := (Sum.elim S1 (fun (r : Int32 × sm_H) => res = (some (.int r.1), r.2)))) (fun s x hx hsx => by
    intros
    exact B_96_23B hrec hd hS1 (fun _ q => q) hx hsx) 1000000 _ r hf hs
theorem B_96_9B {L : Nat} {xs : Nat → Int32} {d : Nat} {M : Nat} {rec : Int32 → Int32 → sm_H → Option (Int32 × sm_H)} (hrec : ∀ d, M ≤ d → ∀ (x1 x2 : Int32) (h : sm_H) (q : Int32 × sm_H), rec x1 x2 h = some q → RUN L xs d 82 [.ref 49, .int x1, .int x2] h (some (.int q.1), q.2)) (hd : 3 + M ≤ d) {res : Option Value × sm_H} {S1 : (Int32 × Int32 × Int32 × Int32 × sm_H) → Prop} (hS1 : ∀ s, S1 s → Ex (P_G L xs) (RUN L xs d) (sm_lk P_t96) 0 9 [some (.ref 49), some (.int s.1), some (.int s.2.1), some (.int s.2.2.1), some (.int s.2.2.2.1), none, none, none, none, none, none, none] [] s.2.2.2.2 res) {s : (Int32 × Int32 × Int32 × Int32 × sm_H)}  {r : ((Int32 × Int32 × Int32 × Int32 × sm_H) ⊕ (Int32 × sm_H))} (hf : F_96_9B rec s = some r) (hs : (Sum.elim S1 (fun (r : Int32 × sm_H) => res = (some (.int r.1), r.2))) r) : Ex (P_G L xs) (RUN L xs d) (sm_lk P_t96) 0 9 [some (.ref 49), some (.int s.1), some (.int s.2.1), some (.int s.2.2.1), some (.int s.2.2.2.1), none, none, none, none, none, none, none] [] s.2.2.2.2 res := by
  unfold F_96_9B at hf
  refine Ex.seg 2 (pc' := 14) (lc' := [some (.ref 49), some (.int s.1), some (.int s.2.1), some (.int s.2.2.1), some (.int s.2.2.2.1), none, none, none, none, none, none, none]) (st' := [.int 10000, .int s.2.2.2.1]) (h' := s.2.2.2.2) (sg1 rfl rfl (sg1 rfl rfl rfl)) ?_
  refine Ex.icmp rfl rfl (fun (c0 : 10000 < s.2.2.2.1) => ?_) (fun (c0 : ¬ (10000 < s.2.2.2.1)) => ?_)
  · rw [if_pos c0] at hf
    refine Ex.seg 1 (pc' := 268) (lc' := [some (.ref 49), some (.int s.1), some (.int s.2.1), some (.int s.2.2.1), some (.int s.2.2.2.1), none, none, none, none, none, none, none]) (st' := [.int 2]) (h' := s.2.2.2.2) (sg1 rfl rfl rfl) ?_
    obtain rfl := Option.some.inj hf
    exact Ex.iret rfl rfl (fun c0 => by cases c0) hs
  · rw [if_neg c0] at hf
    refine Ex.seg 4 (pc' := 23) (lc' := [some (.ref 49), some (.int s.1), some (.int s.2.1), some (.int s.2.2.1), some (.int s.2.2.2.1), some (.int 0), some (.int 0), none, none, none, none, none]) (st' := []) (h' := s.2.2.2.2) (sg1 rfl rfl (sg1 rfl rfl (sg1 rfl rfl (sg1 rfl rfl rfl)))) ?_
    exact Ex.weak (sm_le_s (sm_le_s (sm_le_s (sm_le_s (sm_le_s (sm_le_s (sm_le_s (sm_le_s (sm_le_s (sm_le_s (sm_le_s (sm_le_s sm_le_nil)))))))))))) (B_96_23 hrec hd hS1 hf hs)
theorem B_96_9 {L : Nat} {xs : Nat → Int32} {d : Nat} {M : Nat} {rec : Int32 → Int32 → sm_H → Option (Int32 × sm_H)} (hrec : ∀ d, M ≤ d → ∀ (x1 x2 : Int32) (h : sm_H) (q : Int32 × sm_H), rec x1 x2 h = some q → RUN L xs d 82 [.ref 49, .int x1, .int x2] h (some (.int q.1), q.2)) (hd : 3 + M ≤ d) {res : Option Value × sm_H} {y1 : Int32} {y2 : Int32} {y3 : Int32} {y4 : Int32}  {h : sm_H} {r : (Int32 × sm_H)} (hf : F_96_9 rec y1 y2 y3 y4 h = some r) (hs : (fun (r : Int32 × sm_H) => res = (some (.int r.1), r.2)) r) : Ex (P_G L xs) (RUN L xs d) (sm_lk P_t96) 0 9 [some (.ref 49), some (.int y1), some (.int y2), some (.int y3), some (.int y4), none, none, none, none, none, none, none] [] h res := by
  unfold F_96_9 at hf
  exact lp_ok (P := fun (s : (Int32 × Int32 × Int32 × Int32 × sm_H)) => Ex (P_G L xs) (RUN L xs d) (sm_lk P_t96) 0 9 [some (.ref 49), some (.int s.1), some (.int s.2.1), some (.int s.2.2.1), some (.int s.2.2.2.1), none, none, none, none, none, none, none] [] s.2.2.2.2 res) (S := (fun (r : Int32 × sm_H) => res = (some (.int r.1), r.2))) (fun s x hx hsx => by
    intros
    exact B_96_9B hrec hd  (fun _ q => q) hx hsx) 1000000 _ r hf hs
theorem B_96_0 {L : Nat} {xs : Nat → Int32} {d : Nat} {M : Nat} {rec : Int32 → Int32 → sm_H → Option (Int32 × sm_H)} (hrec : ∀ d, M ≤ d → ∀ (x1 x2 : Int32) (h : sm_H) (q : Int32 × sm_H), rec x1 x2 h = some q → RUN L xs d 82 [.ref 49, .int x1, .int x2] h (some (.int q.1), q.2)) (hd : 3 + M ≤ d) {res : Option Value × sm_H} {x1 : Int32} {x2 : Int32}  {h : sm_H} {r : (Int32 × sm_H)} (hf : F_96_0 rec x1 x2 h = some r) (hs : (fun (r : Int32 × sm_H) => res = (some (.int r.1), r.2)) r) : Ex (P_G L xs) (RUN L xs d) (sm_lk P_t96) 0 0 [some (.ref 49), some (.int x1), some (.int x2), none, none, none, none, none, none, none, none, none] [] h res := by
  unfold F_96_0 at hf
  refine Ex.seg 2 (pc' := 2) (lc' := [some (.ref 49), some (.int x1), some (.int x2), none, none, none, none, none, none, none, none, none]) (st' := [.int x1, .ref 49]) (h' := h) (sg1 rfl rfl (sg1 rfl rfl rfl)) ?_
  obtain ⟨q18, e_q18, hf⟩ := bnd hf
  refine Ex.callV (a := 49) (As := [.int x1]) (r := []) (v := some (.int q18.1)) (h' := q18.2) rfl rfl (by decide) rfl (Nat.le_of_ble_eq_true rfl) rfl (E_97 (by omega) e_q18) rfl ?_
  refine Ex.seg 3 (pc' := 9) (lc' := [some (.ref 49), some (.int x1), some (.int x2), some (.int q18.1), some (.int 0), none, none, none, none, none, none, none]) (st' := []) (h' := q18.2) (sg1 rfl rfl (sg1 rfl rfl (sg1 rfl rfl rfl))) ?_
  exact Ex.weak (sm_le_s (sm_le_s (sm_le_s (sm_le_s (sm_le_s (sm_le_s (sm_le_s (sm_le_s (sm_le_s (sm_le_s (sm_le_s (sm_le_s sm_le_nil)))))))))))) (B_96_9 hrec hd  hf hs)
theorem E_96 {L : Nat} {xs : Nat → Int32} {d : Nat} {M : Nat} {rec : Int32 → Int32 → sm_H → Option (Int32 × sm_H)} (hrec : ∀ d, M ≤ d → ∀ (x1 x2 : Int32) (h : sm_H) (q : Int32 × sm_H), rec x1 x2 h = some q → RUN L xs d 82 [.ref 49, .int x1, .int x2] h (some (.int q.1), q.2)) (hd : 4 + M ≤ d) {x1 : Int32} {x2 : Int32} {h : sm_H} {r : Int32 × sm_H} (hf : F_96 rec x1 x2 h = some r) : RUN L xs d 96 [.ref 49, .int x1, .int x2] h (some (.int r.1), r.2) := by
  obtain ⟨d, rfl⟩ : ∃ e, d = e + 1 := ⟨d - 1, by omega⟩
  exact ⟨Nat.le_of_ble_eq_true rfl, B_96_0 hrec (by omega) hf rfl⟩
theorem B_146_20 {L : Nat} {xs : Nat → Int32} {d : Nat} (hd : 1 ≤ d) {res : Option Value × sm_H}   {h : sm_H} {r : (Int32 × sm_H)} (hf : F_146_20  h = some r) (hs : (fun (r : Int32 × sm_H) => res = (some (.int r.1), r.2)) r) : Ex (P_G L xs) (RUN L xs d) (sm_lk P_t146) 0 20 [none, none] [] h res := by
  unfold F_146_20 at hf
  refine Ex.seg 1 (pc' := 21) (lc' := [none, none]) (st' := [.int (-1)]) (h' := h) (sg1 rfl rfl rfl) ?_
  obtain rfl := Option.some.inj hf
  exact Ex.iret rfl rfl (fun c0 => by cases c0) hs
theorem B_146_0 {L : Nat} {xs : Nat → Int32} {d : Nat} (hd : 1 ≤ d) {res : Option Value × sm_H} {x1 : Int32}  {h : sm_H} {r : (Int32 × sm_H)} (hf : F_146_0 x1 h = some r) (hs : (fun (r : Int32 × sm_H) => res = (some (.int r.1), r.2)) r) : Ex (P_G L xs) (RUN L xs d) (sm_lk P_t146) 0 0 [some (.ref 21), some (.int x1)] [] h res := by
  unfold F_146_0 at hf
  refine Ex.seg 1 (pc' := 1) (lc' := [some (.ref 21), some (.int x1)]) (st' := [.int x1]) (h' := h) (sg1 rfl rfl rfl) ?_
  refine Ex.ifc rfl rfl (fun (c0 : x1 < 0) => ?_) (fun (c0 : ¬ (x1 < 0)) => ?_)
  · rw [if_pos c0] at hf
    exact Ex.weak (sm_le_n (sm_le_n sm_le_nil)) (B_146_20 hd  hf hs)
  · rw [if_neg c0] at hf
    refine Ex.seg 2 (pc' := 7) (lc' := [some (.ref 21), some (.int x1)]) (st' := [.int 100, .int x1]) (h' := h) (sg1 rfl rfl (sg1 rfl rfl rfl)) ?_
    refine Ex.icmp rfl rfl (fun (c0 : 100 < x1) => ?_) (fun (c0 : ¬ (100 < x1)) => ?_)
    · rw [if_pos c0] at hf
      exact Ex.weak (sm_le_n (sm_le_n sm_le_nil)) (B_146_20 hd  hf hs)
    · rw [if_neg c0] at hf
      refine Ex.seg 3 (pc' := 17) (lc' := [some (.ref 21), some (.int x1)]) (st' := [.int 1000, .int (h.1 21 2)]) (h' := h) (sg1 rfl rfl (sg1 rfl rfl (sg1 rfl rfl rfl))) ?_
      refine Ex.icmp rfl rfl (fun (c0 : (h.1 21 2) < 1000) => ?_) (fun (c0 : ¬ ((h.1 21 2) < 1000)) => ?_)
      · rw [if_pos c0] at hf
        refine Ex.seg 4 (pc' := 30) (lc' := [some (.ref 21), some (.int x1)]) (st' := [.int (h.1 21 2), .ref 22]) (h' := h) (sg1 rfl rfl (sg1 rfl rfl (sg1 rfl rfl (sg1 rfl rfl rfl)))) ?_
        obtain ⟨b1, e_b1, hf⟩ := bnd hf
        obtain ⟨h2, e_h2, hf⟩ := bnd hf
        refine Ex.nw rfl rfl ?_
        show Ex (P_G L xs) (RUN L xs d) (sm_lk P_t146) 0 33 [some (.ref 21), some (.int x1)] (.ref (131 + h.2.2.2.2.2.1) :: [.int (h.1 21 2), .ref 22]) (sm_mk G0 h 8 2) res
        rw [Option.some.inj e_h2, Option.some.inj e_b1]
        refine Ex.seg 2 (pc' := 35) (lc' := [some (.ref 21), some (.int x1)]) (st' := [.int x1, .ref b1, .ref b1, .int (h.1 21 2), .ref 22]) (h' := h2) (sg1 rfl rfl (sg1 rfl rfl rfl)) ?_
        obtain ⟨q3, e_q3, hf⟩ := bnd hf
        refine Ex.callI (a := b1) (As := [.int x1]) (r := [.ref b1, .int (h.1 21 2), .ref 22]) (h' := q3) rfl rfl (Or.inl rfl) rfl (Nat.le_of_ble_eq_true rfl) (E_215 (by omega) e_q3) rfl ?_
        obtain ⟨h4, e_h4, hf⟩ := bnd hf
        refine Ex.aast (i := (.aastore, 8, 0, 0, 0, .null)) e_h4 rfl rfl ?_
        refine Ex.seg 6 (pc' := 49) (lc' := [some (.ref 21), some (.int x1)]) (st' := []) (h' := (sm_wI h4 21 2 ((h4.1 21 2) + 1))) (sg1 rfl rfl (sg1 rfl rfl (sg1 rfl rfl (sg1 rfl rfl (sg1 rfl rfl (sg1 rfl rfl rfl)))))) ?_
        obtain ⟨h5, e_h5, hf⟩ := bnd hf
        rw [Option.some.inj e_h5]
        refine Ex.seg 4 (pc' := 55) (lc' := [some (.ref 21), some (.int x1)]) (st' := [.int ((h5.1 21 2) - 1)]) (h' := h5) (sg1 rfl rfl (sg1 rfl rfl (sg1 rfl rfl (sg1 rfl rfl rfl)))) ?_
        obtain rfl := Option.some.inj hf
        exact Ex.iret rfl rfl (fun c0 => by cases c0) hs
      · rw [if_neg c0] at hf
        exact Ex.weak (sm_le_n (sm_le_n sm_le_nil)) (B_146_20 hd  hf hs)
theorem E_146 {L : Nat} {xs : Nat → Int32} {d : Nat} (hd : 2 ≤ d) {x1 : Int32} {h : sm_H} {r : Int32 × sm_H} (hf : F_146 x1 h = some r) : RUN L xs d 146 [.ref 21, .int x1] h (some (.int r.1), r.2) := by
  obtain ⟨d, rfl⟩ : ∃ e, d = e + 1 := ⟨d - 1, by omega⟩
  exact ⟨Nat.le_of_ble_eq_true rfl, B_146_0 (by omega) hf rfl⟩
theorem B_83_334 {L : Nat} {xs : Nat → Int32} {d : Nat} {M : Nat} {rec : Int32 → Int32 → sm_H → Option (Int32 × sm_H)} (hrec : ∀ d, M ≤ d → ∀ (x1 x2 : Int32) (h : sm_H) (q : Int32 × sm_H), rec x1 x2 h = some q → RUN L xs d 82 [.ref 49, .int x1, .int x2] h (some (.int q.1), q.2)) (hd : 3 + M ≤ d) {res : Option Value × sm_H} {y2 : Int32} {y3 : Int32}  {h : sm_H} {r : (Int32 × sm_H)} (hf : F_83_334 rec y2 y3 h = some r) (hs : (fun (r : Int32 × sm_H) => res = (some (.int r.1), r.2)) r) : Ex (P_G L xs) (RUN L xs d) (sm_lk P_t83) 0 334 [some (.ref 49), none, some (.int y2), some (.int y3), none, none, none, none] [] h res := by
  unfold F_83_334 at hf
  refine Ex.seg 5 (pc' := 339) (lc' := [some (.ref 49), none, some (.int y2), some (.int y3), none, none, none, none]) (st' := [.int (y2 + 1), .int y3, .ref 49]) (h' := h) (sg1 rfl rfl (sg1 rfl rfl (sg1 rfl rfl (sg1 rfl rfl (sg1 rfl rfl rfl))))) ?_
  obtain ⟨q1, e_q1, hf⟩ := bnd hf
  refine Ex.callV (a := 49) (As := [.int y3, .int (y2 + 1)]) (r := []) (v := some (.int q1.1)) (h' := q1.2) rfl rfl (by decide) rfl (Nat.le_of_ble_eq_true rfl) rfl (hrec d (by omega) _ _ _ _ e_q1) rfl ?_
  obtain rfl := Option.some.inj hf
  exact Ex.iret rfl rfl (fun c0 => by cases c0) hs
theorem B_83_324 {L : Nat} {xs : Nat → Int32} {d : Nat} {M : Nat} {rec : Int32 → Int32 → sm_H → Option (Int32 × sm_H)} (hrec : ∀ d, M ≤ d → ∀ (x1 x2 : Int32) (h : sm_H) (q : Int32 × sm_H), rec x1 x2 h = some q → RUN L xs d 82 [.ref 49, .int x1, .int x2] h (some (.int q.1), q.2)) (hd : 3 + M ≤ d) {res : Option Value × sm_H} {y2 : Int32} {z1 : Int32} {z2 : Int32}  {h : sm_H} {r : (Int32 × sm_H)} (hf : F_83_324 rec y2 z1 z2 h = some r) (hs : (fun (r : Int32 × sm_H) => res = (some (.int r.1), r.2)) r) : Ex (P_G L xs) (RUN L xs d) (sm_lk P_t83) 0 324 [some (.ref 49), none, some (.int y2), none, none, none, none, none] [.int z2, .int z1, .ref 10] h res := by
  unfold F_83_324 at hf
  obtain ⟨q2, e_q2, hf⟩ := bnd hf
  refine Ex.callV (a := 10) (As := [.int z1, .int z2]) (r := []) (v := some (.int q2.1)) (h' := q2.2) rfl rfl (by decide) rfl (Nat.le_of_ble_eq_true rfl) rfl (E_43 (by omega) e_q2) rfl ?_
  refine Ex.seg 4 (pc' := 331) (lc' := [some (.ref 49), none, some (.int y2), some (.int q2.1), none, none, none, none]) (st' := [.int q2.1, .int y2, .ref 49]) (h' := q2.2) (sg1 rfl rfl (sg1 rfl rfl (sg1 rfl rfl (sg1 rfl rfl rfl)))) ?_
  obtain ⟨q3, e_q3, hf⟩ := bnd hf
  refine Ex.callV (a := 49) (As := [.int y2, .int q2.1]) (r := []) (v := none) (h' := q3) rfl rfl (by decide) rfl (Nat.le_of_ble_eq_true rfl) rfl (E_81 (by omega) e_q3) rfl ?_
  exact Ex.weak (sm_le_s (sm_le_s (sm_le_s (sm_le_s (sm_le_s (sm_le_s (sm_le_s (sm_le_s sm_le_nil)))))))) (B_83_334 hrec hd  hf hs)
theorem B_83_131B {L : Nat} {xs : Nat → Int32} {d : Nat} {M : Nat} {rec : Int32 → Int32 → sm_H → Option (Int32 × sm_H)} (hrec : ∀ d, M ≤ d → ∀ (x1 x2 : Int32) (h : sm_H) (q : Int32 × sm_H), rec x1 x2 h = some q → RUN L xs d 82 [.ref 49, .int x1, .int x2] h (some (.int q.1), q.2)) (hd : 3 + M ≤ d) {res : Option Value × sm_H} {S1 : (Int32 × Int32 × Int32 × Int32 × sm_H) → Prop} (hS1 : ∀ s, S1 s → Ex (P_G L xs) (RUN L xs d) (sm_lk P_t83) 0 131 [some (.ref 49), some (.int s.1), some (.int s.2.1), some (.int s.2.2.1), none, some (.int s.2.2.2.1), none, none] [] s.2.2.2.2 res) {s : (Int32 × Int32 × Int32 × Int32 × sm_H)}  {r : ((Int32 × Int32 × Int32 × Int32 × sm_H) ⊕ (Int32 × sm_H))} (hf : F_83_131B rec s = some r) (hs : (Sum.elim S1 (fun (r : Int32 × sm_H) => res = (some (.int r.1), r.2))) r) : Ex (P_G L xs) (RUN L xs d) (sm_lk P_t83) 0 131 [some (.ref 49), some (.int s.1), some (.int s.2.1), some (.int s.2.2.1), none, some (.int s.2.2.2.1), none, none] [] s.2.2.2.2 res := by
  unfold F_83_131B at hf
  refine Ex.seg 4 (pc' := 138) (lc' := [some (.ref 49), some (.int s.1), some (.int s.2.1), some (.int s.2.2.1), none, some (.int s.2.2.2.1), none, none]) (st' := [.int s.2.2.1, .ref 10, .int s.2.2.2.1]) (h' := s.2.2.2.2) (sg1 rfl rfl (sg1 rfl rfl (sg1 rfl rfl (sg1 rfl rfl rfl)))) ?_
  obtain ⟨q4, e_q4, hf⟩ := bnd hf
  refine Ex.callV (a := 10) (As := [.int s.2.2.1]) (r := [.int s.2.2.2.1]) (v := some (.int q4.1)) (h' := q4.2) rfl rfl (by decide) rfl (Nat.le_of_ble_eq_true rfl) rfl (E_45 (by omega) e_q4) rfl ?_
  refine Ex.icmp rfl rfl (fun (c0 : q4.1 ≤ s.2.2.2.1) => ?_) (fun (c0 : ¬ (q4.1 ≤ s.2.2.2.1)) => ?_)
  · rw [if_pos c0] at hf
    refine Ex.seg 1 (pc' := 334) (lc' := [some (.ref 49), some (.int s.1), some (.int s.2.1), some (.int s.2.2.1), none, some (.int s.2.2.2.1), none, none]) (st' := []) (h' := q4.2) (sg1 rfl rfl rfl) ?_
    obtain ⟨r0, hf0, rfl⟩ := Option.map_eq_some_iff.mp hf
    exact Ex.weak (sm_le_s (sm_le_n (sm_le_s (sm_le_s (sm_le_s (sm_le_n (sm_le_s (sm_le_s sm_le_nil)))))))) (B_83_334 hrec hd  hf0 hs)
  · rw [if_neg c0] at hf
    refine Ex.seg 8 (pc' := 155) (lc' := [some (.ref 49), some (.int s.1), some (.int s.2.1), some (.int s.2.2.1), none, some (.int s.2.2.2.1), none, none]) (st' := [.int (s.2.2.2.1 + 1), .int s.1, .ref 10, .int s.2.1, .ref 49]) (h' := q4.2) (sg1 rfl rfl (sg1 rfl rfl (sg1 rfl rfl (sg1 rfl rfl (sg1 rfl rfl (sg1 rfl rfl (sg1 rfl rfl (sg1 rfl rfl rfl)))))))) ?_
    obtain ⟨q5, e_q5, hf⟩ := bnd hf
    refine Ex.callV (a := 10) (As := [.int s.1, .int (s.2.2.2.1 + 1)]) (r := [.int s.2.1, .ref 49]) (v := some (.int q5.1)) (h' := q5.2) rfl rfl (by decide) rfl (Nat.le_of_ble_eq_true rfl) rfl (E_43 (by omega) e_q5) rfl ?_
    refine Ex.seg 2 (pc' := 161) (lc' := [some (.ref 49), some (.int s.1), some (.int s.2.1), some (.int s.2.2.1), none, some (.int s.2.2.2.1), none, none]) (st' := [.int 1, .int s.2.2.2.1, .int q5.1, .int s.2.1, .ref 49]) (h' := q5.2) (sg1 rfl rfl (sg1 rfl rfl rfl)) ?_
    obtain ⟨q6, e_q6, hf⟩ := bnd hf
    refine Ex.callV (a := 49) (As := [.int s.2.1, .int q5.1, .int s.2.2.2.1, .int 1]) (r := []) (v := none) (h' := q6) rfl rfl (by decide) rfl (Nat.le_of_ble_eq_true rfl) rfl (E_80 (by omega) e_q6) rfl ?_
    refine Ex.seg 1 (pc' := 167) (lc' := [some (.ref 49), some (.int s.1), some (.int s.2.1), some (.int s.2.2.1), none, some (.int (s.2.2.2.1 + 1)), none, none]) (st' := []) (h' := q6) (sg1 rfl rfl rfl) ?_
    obtain ⟨v7, e_v7, hf⟩ := bnd hf
    rw [Option.some.inj e_v7]
    refine Ex.seg 1 (pc' := 131) (lc' := [some (.ref 49), some (.int s.1), some (.int s.2.1), some (.int s.2.2.1), none, some (.int v7), none, none]) (st' := []) (h' := q6) (sg1 rfl rfl rfl) ?_
    obtain rfl := Option.some.inj hf
    exact Ex.weak (sm_le_s (sm_le_s (sm_le_s (sm_le_s (sm_le_s (sm_le_s (sm_le_s (sm_le_s sm_le_nil)))))))) (hS1 _ hs)
theorem B_83_131 {L : Nat} {xs : Nat → Int32} {d : Nat} {M : Nat} {rec : Int32 → Int32 → sm_H → Option (Int32 × sm_H)} (hrec : ∀ d, M ≤ d → ∀ (x1 x2 : Int32) (h : sm_H) (q : Int32 × sm_H), rec x1 x2 h = some q → RUN L xs d 82 [.ref 49, .int x1, .int x2] h (some (.int q.1), q.2)) (hd : 3 + M ≤ d) {res : Option Value × sm_H} {y1 : Int32} {y2 : Int32} {y3 : Int32} {y5 : Int32}  {h : sm_H} {r : (Int32 × sm_H)} (hf : F_83_131 rec y1 y2 y3 y5 h = some r) (hs : (fun (r : Int32 × sm_H) => res = (some (.int r.1), r.2)) r) : Ex (P_G L xs) (RUN L xs d) (sm_lk P_t83) 0 131 [some (.ref 49), some (.int y1), some (.int y2), some (.int y3), none, some (.int y5), none, none] [] h res := by
  unfold F_83_131 at hf
  exact lp_ok (P := fun (s : (Int32 × Int32 × Int32 × Int32 × sm_H)) => Ex (P_G L xs) (RUN L xs d) (sm_lk P_t83) 0 131 [some (.ref 49), some (.int s.1), some (.int s.2.1), some (.int s.2.2.1), none, some (.int s.2.2.2.1), none, none] [] s.2.2.2.2 res) (S := (fun (r : Int32 × sm_H) => res = (some (.int r.1), r.2))) (fun s x hx hsx => by
    intros
    exact B_83_131B hrec hd  (fun _ q => q) hx hsx) 1000000 _ r hf hs
theorem B_83_0 {L : Nat} {xs : Nat → Int32} {d : Nat} {M : Nat} {rec : Int32 → Int32 → sm_H → Option (Int32 × sm_H)} (hrec : ∀ d, M ≤ d → ∀ (x1 x2 : Int32) (h : sm_H) (q : Int32 × sm_H), rec x1 x2 h = some q → RUN L xs d 82 [.ref 49, .int x1, .int x2] h (some (.int q.1), q.2)) (hd : 3 + M ≤ d) {res : Option Value × sm_H} {x1 : Int32} {x2 : Int32}  {h : sm_H} {r : (Int32 × sm_H)} (hf : F_83_0 rec x1 x2 h = some r) (hs : (fun (r : Int32 × sm_H) => res = (some (.int r.1), r.2)) r) : Ex (P_G L xs) (RUN L xs d) (sm_lk P_t83) 0 0 [some (.ref 49), some (.int x1), some (.int x2), none, none, none, none, none] [] h res := by
  unfold F_83_0 at hf
  refine Ex.seg 4 (pc' := 6) (lc' := [some (.ref 49), some (.int x1), some (.int x2), none, none, none, none, none]) (st' := [.int 0, .int x1, .ref 10]) (h' := h) (sg1 rfl rfl (sg1 rfl rfl (sg1 rfl rfl (sg1 rfl rfl rfl)))) ?_
  obtain ⟨q8, e_q8, hf⟩ := bnd hf
  refine Ex.callV (a := 10) (As := [.int x1, .int 0]) (r := []) (v := some (.int q8.1)) (h' := q8.2) rfl rfl (by decide) rfl (Nat.le_of_ble_eq_true rfl) rfl (E_43 (by omega) e_q8) rfl ?_
  refine Ex.seg 4 (pc' := 15) (lc' := [some (.ref 49), some (.int x1), some (.int x2), some (.int q8.1), none, none, none, none]) (st' := [.int x1, .ref 10]) (h' := q8.2) (sg1 rfl rfl (sg1 rfl rfl (sg1 rfl rfl (sg1 rfl rfl rfl)))) ?_
  obtain ⟨q9, e_q9, hf⟩ := bnd hf
  refine Ex.callV (a := 10) (As := [.int x1]) (r := []) (v := some (.int q9.1)) (h' := q9.2) rfl rfl (by decide) rfl (Nat.le_of_ble_eq_true rfl) rfl (E_38 (by omega) e_q9) rfl ?_
  refine Ex.seg 4 (pc' := 25) (lc' := [some (.ref 49), some (.int x1), some (.int x2), some (.int q8.1), some (.int q9.1), none, none, none]) (st' := [.int x1, .ref 10]) (h' := q9.2) (sg1 rfl rfl (sg1 rfl rfl (sg1 rfl rfl (sg1 rfl rfl rfl)))) ?_
  obtain ⟨q10, e_q10, hf⟩ := bnd hf
  refine Ex.callV (a := 10) (As := [.int x1]) (r := []) (v := some (.int q10.1)) (h' := q10.2) rfl rfl (by decide) rfl (Nat.le_of_ble_eq_true rfl) rfl (E_37 (by omega) e_q10) rfl ?_
  rcases Classical.em (q10.1 = 4) with n1 | n1
  · rw [if_pos n1] at hf
    refine Ex.swl (t := 80) rfl rfl (by rw [n1]; exact ⟨by decide, by decide⟩) ?_
    refine Ex.seg 5 (pc' := 86) (lc' := [some (.ref 49), some (.int x1), some (.int x2), some (.int q8.1), some (.int q9.1), none, none, none]) (st' := [.int q9.1, .int 0, .int 0, .int x2, .ref 49]) (h' := q10.2) (sg1 rfl rfl (sg1 rfl rfl (sg1 rfl rfl (sg1 rfl rfl (sg1 rfl rfl rfl))))) ?_
    obtain ⟨q11, e_q11, hf⟩ := bnd hf
    refine Ex.callV (a := 49) (As := [.int x2, .int 0, .int 0, .int q9.1]) (r := []) (v := none) (h' := q11) rfl rfl (by decide) rfl (Nat.le_of_ble_eq_true rfl) rfl (E_80 (by omega) e_q11) rfl ?_
    refine Ex.seg 8 (pc' := 102) (lc' := [some (.ref 49), some (.int x1), some (.int x2), some (.int q8.1), some (.int q9.1), none, none, none]) (st' := [.int x1, .ref 10, .ref 5, .int q9.1, .int x2, .ref 49]) (h' := q11) (sg1 rfl rfl (sg1 rfl rfl (sg1 rfl rfl (sg1 rfl rfl (sg1 rfl rfl (sg1 rfl rfl (sg1 rfl rfl (sg1 rfl rfl rfl)))))))) ?_
    obtain ⟨q12, e_q12, hf⟩ := bnd hf
    refine Ex.callV (a := 10) (As := [.int x1]) (r := [.ref 5, .int q9.1, .int x2, .ref 49]) (v := some (.int q12.1)) (h' := q12.2) rfl rfl (by decide) rfl (Nat.le_of_ble_eq_true rfl) rfl (E_39 (by omega) e_q12) rfl ?_
    obtain ⟨q13, e_q13, hf⟩ := bnd hf
    refine Ex.callV (a := 5) (As := [.int q12.1]) (r := [.int q9.1, .int x2, .ref 49]) (v := some (.int q13.1)) (h' := q13.2) rfl rfl (by decide) rfl (Nat.le_of_ble_eq_true rfl) rfl (E_226 (by omega) e_q13) rfl ?_
    refine Ex.seg 5 (pc' := 116) (lc' := [some (.ref 49), some (.int x1), some (.int x2), some (.int q8.1), some (.int q9.1), none, none, none]) (st' := [.int q8.1, .ref 10, .int q9.1, .int (q9.1 + q13.1), .int x2, .ref 49]) (h' := q13.2) (sg1 rfl rfl (sg1 rfl rfl (sg1 rfl rfl (sg1 rfl rfl (sg1 rfl rfl rfl))))) ?_
    obtain ⟨q14, e_q14, hf⟩ := bnd hf
    refine Ex.callV (a := 10) (As := [.int q8.1]) (r := [.int q9.1, .int (q9.1 + q13.1), .int x2, .ref 49]) (v := some (.int q14.1)) (h' := q14.2) rfl rfl (by decide) rfl (Nat.le_of_ble_eq_true rfl) rfl (E_45 (by omega) e_q14) rfl ?_
    refine Ex.seg 2 (pc' := 122) (lc' := [some (.ref 49), some (.int x1), some (.int x2), some (.int q8.1), some (.int q9.1), none, none, none]) (st' := [.int (q14.1 - q9.1), .int q9.1, .int (q9.1 + q13.1), .int x2, .ref 49]) (h' := q14.2) (sg1 rfl rfl (sg1 rfl rfl rfl)) ?_
    obtain ⟨q15, e_q15, hf⟩ := bnd hf
    refine Ex.callV (a := 49) (As := [.int x2, .int (q9.1 + q13.1), .int q9.1, .int (q14.1 - q9.1)]) (r := []) (v := none) (h' := q15) rfl rfl (by decide) rfl (Nat.le_of_ble_eq_true rfl) rfl (E_80 (by omega) e_q15) rfl ?_
    refine Ex.seg 1 (pc' := 334) (lc' := [some (.ref 49), some (.int x1), some (.int x2), some (.int q8.1), some (.int q9.1), none, none, none]) (st' := []) (h' := q15) (sg1 rfl rfl rfl) ?_
    exact Ex.weak (sm_le_s (sm_le_n (sm_le_s (sm_le_s (sm_le_n (sm_le_s (sm_le_s (sm_le_s sm_le_nil)))))))) (B_83_334 hrec hd  hf hs)
  rw [if_neg n1] at hf
  rcases Classical.em (q10.1 = 5) with n2 | n2
  · rw [if_pos n2] at hf
    refine Ex.swl (t := 128) rfl rfl (by rw [n2]; exact ⟨by decide, by decide⟩) ?_
    refine Ex.seg 2 (pc' := 131) (lc' := [some (.ref 49), some (.int x1), some (.int x2), some (.int q8.1), some (.int q9.1), some (.int 0), none, none]) (st' := []) (h' := q10.2) (sg1 rfl rfl (sg1 rfl rfl rfl)) ?_
    exact Ex.weak (sm_le_s (sm_le_s (sm_le_s (sm_le_s (sm_le_n (sm_le_s (sm_le_s (sm_le_s sm_le_nil)))))))) (B_83_131 hrec hd  hf hs)
  rw [if_neg n2] at hf
  rcases Classical.em (q10.1 = 6) with n3 | n3
  · rw [if_pos n3] at hf
    refine Ex.swl (t := 173) rfl rfl (by rw [n3]; exact ⟨by decide, by decide⟩) ?_
    refine Ex.seg 4 (pc' := 180) (lc' := [some (.ref 49), some (.int x1), some (.int x2), some (.int q8.1), some (.int q9.1), none, none, none]) (st' := [.int q9.1, .int q8.1, .ref 10]) (h' := q10.2) (sg1 rfl rfl (sg1 rfl rfl (sg1 rfl rfl (sg1 rfl rfl rfl)))) ?_
    obtain ⟨q16, e_q16, hf⟩ := bnd hf
    refine Ex.callV (a := 10) (As := [.int q8.1, .int q9.1]) (r := []) (v := some (.int q16.1)) (h' := q16.2) rfl rfl (by decide) rfl (Nat.le_of_ble_eq_true rfl) rfl (E_46 (by omega) e_q16) rfl ?_
    refine Ex.seg 4 (pc' := 190) (lc' := [some (.ref 49), some (.int x1), some (.int x2), some (.int q8.1), some (.int q9.1), some (.int q16.1), none, none]) (st' := [.int x1, .ref 10]) (h' := q16.2) (sg1 rfl rfl (sg1 rfl rfl (sg1 rfl rfl (sg1 rfl rfl rfl)))) ?_
    obtain ⟨q17, e_q17, hf⟩ := bnd hf
    refine Ex.callV (a := 10) (As := [.int x1]) (r := []) (v := some (.long q17.1)) (h' := q17.2) rfl rfl (by decide) rfl (Nat.le_of_ble_eq_true rfl) rfl (E_40 (by omega) e_q17) rfl ?_
    refine Ex.seg 6 (pc' := 201) (lc' := [some (.ref 49), some (.int x1), some (.int x2), some (.int q8.1), some (.int q9.1), some (.int q16.1), some (.long q17.1), none]) (st' := [.int q9.1, .int 0, .int 0, .int x2, .ref 49]) (h' := q17.2) (sg1 rfl rfl (sg1 rfl rfl (sg1 rfl rfl (sg1 rfl rfl (sg1 rfl rfl (sg1 rfl rfl rfl)))))) ?_
    obtain ⟨q18, e_q18, hf⟩ := bnd hf
    refine Ex.callV (a := 49) (As := [.int x2, .int 0, .int 0, .int q9.1]) (r := []) (v := none) (h' := q18) rfl rfl (by decide) rfl (Nat.le_of_ble_eq_true rfl) rfl (E_80 (by omega) e_q18) rfl ?_
    refine Ex.seg 9 (pc' := 218) (lc' := [some (.ref 49), some (.int x1), some (.int x2), some (.int q8.1), some (.int q9.1), some (.int q16.1), some (.long q17.1), none]) (st' := [.long q17.1, .int q16.1, .ref 21, .int q9.1, .int (x2 + 1), .ref 49]) (h' := q18) (sg1 rfl rfl (sg1 rfl rfl (sg1 rfl rfl (sg1 rfl rfl (sg1 rfl rfl (sg1 rfl rfl (sg1 rfl rfl (sg1 rfl rfl (sg1 rfl rfl rfl))))))))) ?_
    obtain ⟨q19, e_q19, hf⟩ := bnd hf
    refine Ex.callV (a := 21) (As := [.int q16.1, .long q17.1]) (r := [.int q9.1, .int (x2 + 1), .ref 49]) (v := some (.long q19.1)) (h' := q19.2) rfl rfl (by decide) rfl (Nat.le_of_ble_eq_true rfl) rfl (E_153 (by omega) e_q19) rfl ?_
    refine Ex.seg 4 (pc' := 229) (lc' := [some (.ref 49), some (.int x1), some (.int x2), some (.int q8.1), some (.int q9.1), some (.int q16.1), some (.long q17.1), none]) (st' := [.long q17.1, .int q16.1, .ref 21, .long q19.1, .int q9.1, .int (x2 + 1), .ref 49]) (h' := q19.2) (sg1 rfl rfl (sg1 rfl rfl (sg1 rfl rfl (sg1 rfl rfl rfl)))) ?_
    obtain ⟨q20, e_q20, hf⟩ := bnd hf
    refine Ex.callV (a := 21) (As := [.int q16.1, .long q17.1]) (r := [.long q19.1, .int q9.1, .int (x2 + 1), .ref 49]) (v := some (.int q20.1)) (h' := q20.2) rfl rfl (by decide) rfl (Nat.le_of_ble_eq_true rfl) rfl (E_154 (by omega) e_q20) rfl ?_
    obtain ⟨q21, e_q21, hf⟩ := bnd hf
    refine Ex.callV (a := 49) (As := [.int (x2 + 1), .int q9.1, .long q19.1, .int q20.1]) (r := []) (v := none) (h' := q21) rfl rfl (by decide) rfl (Nat.le_of_ble_eq_true rfl) rfl (E_79 (by omega) e_q21) rfl ?_
    refine Ex.seg 9 (pc' := 248) (lc' := [some (.ref 49), some (.int x1), some (.int x2), some (.int q8.1), some (.int q9.1), some (.int q16.1), some (.long q17.1), none]) (st' := [.int q8.1, .ref 10, .int (q9.1 + 1), .int q9.1, .int x2, .ref 49]) (h' := q21) (sg1 rfl rfl (sg1 rfl rfl (sg1 rfl rfl (sg1 rfl rfl (sg1 rfl rfl (sg1 rfl rfl (sg1 rfl rfl (sg1 rfl rfl (sg1 rfl rfl rfl))))))))) ?_
    obtain ⟨q22, e_q22, hf⟩ := bnd hf
    refine Ex.callV (a := 10) (As := [.int q8.1]) (r := [.int (q9.1 + 1), .int q9.1, .int x2, .ref 49]) (v := some (.int q22.1)) (h' := q22.2) rfl rfl (by decide) rfl (Nat.le_of_ble_eq_true rfl) rfl (E_45 (by omega) e_q22) rfl ?_
    refine Ex.seg 4 (pc' := 256) (lc' := [some (.ref 49), some (.int x1), some (.int x2), some (.int q8.1), some (.int q9.1), some (.int q16.1), some (.long q17.1), none]) (st' := [.int ((q22.1 - q9.1) - 1), .int (q9.1 + 1), .int q9.1, .int x2, .ref 49]) (h' := q22.2) (sg1 rfl rfl (sg1 rfl rfl (sg1 rfl rfl (sg1 rfl rfl rfl)))) ?_
    obtain ⟨q23, e_q23, hf⟩ := bnd hf
    refine Ex.callV (a := 49) (As := [.int x2, .int q9.1, .int (q9.1 + 1), .int ((q22.1 - q9.1) - 1)]) (r := []) (v := none) (h' := q23) rfl rfl (by decide) rfl (Nat.le_of_ble_eq_true rfl) rfl (E_80 (by omega) e_q23) rfl ?_
    refine Ex.seg 1 (pc' := 334) (lc' := [some (.ref 49), some (.int x1), some (.int x2), some (.int q8.1), some (.int q9.1), some (.int q16.1), some (.long q17.1), none]) (st' := []) (h' := q23) (sg1 rfl rfl rfl) ?_
    exact Ex.weak (sm_le_s (sm_le_n (sm_le_s (sm_le_s (sm_le_n (sm_le_n (sm_le_n (sm_le_s sm_le_nil)))))))) (B_83_334 hrec hd  hf hs)
  rw [if_neg n3] at hf
  rcases Classical.em (q10.1 = 17) with n4 | n4
  · rw [if_pos n4] at hf
    refine Ex.swl (t := 262) rfl rfl (by rw [n4]; exact ⟨by decide, by decide⟩) ?_
    refine Ex.seg 5 (pc' := 267) (lc' := [some (.ref 49), some (.int x1), some (.int x2), some (.int q8.1), some (.int q9.1), none, none, none]) (st' := [.int 0, .int x2, .ref 49, .int x1, .ref 49]) (h' := q10.2) (sg1 rfl rfl (sg1 rfl rfl (sg1 rfl rfl (sg1 rfl rfl (sg1 rfl rfl rfl))))) ?_
    obtain ⟨q24, e_q24, hf⟩ := bnd hf
    refine Ex.callV (a := 49) (As := [.int x2, .int 0]) (r := [.int x1, .ref 49]) (v := some (.long q24.1)) (h' := q24.2) rfl rfl (by decide) rfl (Nat.le_of_ble_eq_true rfl) rfl (E_77 (by omega) e_q24) rfl ?_
    obtain ⟨q25, e_q25, hf⟩ := bnd hf
    refine Ex.callV (a := 49) (As := [.int x1, .long q24.1]) (r := []) (v := some (.int q25.1)) (h' := q25.2) rfl rfl (by decide) rfl (Nat.le_of_ble_eq_true rfl) rfl (E_84 (by omega) e_q25) rfl ?_
    refine Ex.seg 4 (pc' := 277) (lc' := [some (.ref 49), some (.int x1), some (.int x2), some (.int q25.1), some (.int q9.1), none, none, none]) (st' := [.int q25.1, .int x2, .ref 49]) (h' := q25.2) (sg1 rfl rfl (sg1 rfl rfl (sg1 rfl rfl (sg1 rfl rfl rfl)))) ?_
    obtain ⟨q26, e_q26, hf⟩ := bnd hf
    refine Ex.callV (a := 49) (As := [.int x2, .int q25.1]) (r := []) (v := none) (h' := q26) rfl rfl (by decide) rfl (Nat.le_of_ble_eq_true rfl) rfl (E_81 (by omega) e_q26) rfl ?_
    refine Ex.seg 1 (pc' := 334) (lc' := [some (.ref 49), some (.int x1), some (.int x2), some (.int q25.1), some (.int q9.1), none, none, none]) (st' := []) (h' := q26) (sg1 rfl rfl rfl) ?_
    exact Ex.weak (sm_le_s (sm_le_n (sm_le_s (sm_le_s (sm_le_n (sm_le_s (sm_le_s (sm_le_s sm_le_nil)))))))) (B_83_334 hrec hd  hf hs)
  rw [if_neg n4] at hf
  rcases Classical.em (q10.1 = 29) with n5 | n5
  · rw [if_pos n5] at hf
    refine Ex.swl (t := 283) rfl rfl (by rw [n5]; exact ⟨by decide, by decide⟩) ?_
    refine Ex.seg 3 (pc' := 289) (lc' := [some (.ref 49), some (.int x1), some (.int x2), some (.int q8.1), some (.int q9.1), none, none, none]) (st' := [.int q9.1, .ref 21]) (h' := q10.2) (sg1 rfl rfl (sg1 rfl rfl (sg1 rfl rfl rfl))) ?_
    obtain ⟨q27, e_q27, hf⟩ := bnd hf
    refine Ex.callV (a := 21) (As := [.int q9.1]) (r := []) (v := some (.int q27.1)) (h' := q27.2) rfl rfl (by decide) rfl (Nat.le_of_ble_eq_true rfl) rfl (E_157 (by omega) e_q27) rfl ?_
    refine Ex.seg 4 (pc' := 296) (lc' := [some (.ref 49), some (.int x1), some (.int x2), some (.int q27.1), some (.int q9.1), none, none, none]) (st' := [.int q27.1, .int x2, .ref 49]) (h' := q27.2) (sg1 rfl rfl (sg1 rfl rfl (sg1 rfl rfl (sg1 rfl rfl rfl)))) ?_
    obtain ⟨q28, e_q28, hf⟩ := bnd hf
    refine Ex.callV (a := 49) (As := [.int x2, .int q27.1]) (r := []) (v := none) (h' := q28) rfl rfl (by decide) rfl (Nat.le_of_ble_eq_true rfl) rfl (E_81 (by omega) e_q28) rfl ?_
    refine Ex.seg 1 (pc' := 334) (lc' := [some (.ref 49), some (.int x1), some (.int x2), some (.int q27.1), some (.int q9.1), none, none, none]) (st' := []) (h' := q28) (sg1 rfl rfl rfl) ?_
    exact Ex.weak (sm_le_s (sm_le_n (sm_le_s (sm_le_s (sm_le_n (sm_le_s (sm_le_s (sm_le_s sm_le_nil)))))))) (B_83_334 hrec hd  hf hs)
  rw [if_neg n5] at hf
  refine Ex.swl (t := 302) rfl rfl ?_ ?_
  · refine ⟨by decide, ?_⟩
    have m1 : ¬ Int32.toInt q10.1 = 4 := fun z => n1 (Int32.toInt_inj.mp (z.trans (by decide : (_ : Int) = Int32.toInt 4)))
    have m2 : ¬ Int32.toInt q10.1 = 5 := fun z => n2 (Int32.toInt_inj.mp (z.trans (by decide : (_ : Int) = Int32.toInt 5)))
    have m3 : ¬ Int32.toInt q10.1 = 6 := fun z => n3 (Int32.toInt_inj.mp (z.trans (by decide : (_ : Int) = Int32.toInt 6)))
    have m4 : ¬ Int32.toInt q10.1 = 17 := fun z => n4 (Int32.toInt_inj.mp (z.trans (by decide : (_ : Int) = Int32.toInt 17)))
    have m5 : ¬ Int32.toInt q10.1 = 29 := fun z => n5 (Int32.toInt_inj.mp (z.trans (by decide : (_ : Int) = Int32.toInt 29)))
    simp [Op.lookupswitch.offset]
    rw [if_neg (fun z => m1 z.symm), if_neg (fun z => m2 z.symm), if_neg (fun z => m3 z.symm), if_neg (fun z => m4 z.symm), if_neg (fun z => m5 z.symm)]
    all_goals decide
  refine Ex.seg 6 (pc' := 313) (lc' := [some (.ref 49), some (.int x1), some (.int x2), some (.int q8.1), some (.int q9.1), none, none, none]) (st' := [.int q9.1, .ref 21, .int x1, .ref 10]) (h' := q10.2) (sg1 rfl rfl (sg1 rfl rfl (sg1 rfl rfl (sg1 rfl rfl (sg1 rfl rfl (sg1 rfl rfl rfl)))))) ?_
  obtain ⟨q29, e_q29, hf⟩ := bnd hf
  refine Ex.callV (a := 21) (As := [.int q9.1]) (r := [.int x1, .ref 10]) (v := some (.int q29.1)) (h' := q29.2) rfl rfl (by decide) rfl (Nat.le_of_ble_eq_true rfl) rfl (E_161 (by omega) e_q29) rfl ?_
  refine Ex.ifc rfl rfl (fun (c0 : q29.1 = 0) => ?_) (fun (c0 : ¬ (q29.1 = 0)) => ?_)
  · rw [if_pos c0] at hf
    refine Ex.seg 1 (pc' := 324) (lc' := [some (.ref 49), some (.int x1), some (.int x2), some (.int q8.1), some (.int q9.1), none, none, none]) (st' := [.int 0, .int x1, .ref 10]) (h' := q29.2) (sg1 rfl rfl rfl) ?_
    exact Ex.weak (sm_le_s (sm_le_n (sm_le_s (sm_le_n (sm_le_n (sm_le_s (sm_le_s (sm_le_s sm_le_nil)))))))) (B_83_324 hrec hd  hf hs)
  · rw [if_neg c0] at hf
    refine Ex.seg 2 (pc' := 324) (lc' := [some (.ref 49), some (.int x1), some (.int x2), some (.int q8.1), some (.int q9.1), none, none, none]) (st' := [.int 1, .int x1, .ref 10]) (h' := q29.2) (sg1 rfl rfl (sg1 rfl rfl rfl)) ?_
    exact Ex.weak (sm_le_s (sm_le_n (sm_le_s (sm_le_n (sm_le_n (sm_le_s (sm_le_s (sm_le_s sm_le_nil)))))))) (B_83_324 hrec hd  hf hs)
theorem E_83 {L : Nat} {xs : Nat → Int32} {d : Nat} {M : Nat} {rec : Int32 → Int32 → sm_H → Option (Int32 × sm_H)} (hrec : ∀ d, M ≤ d → ∀ (x1 x2 : Int32) (h : sm_H) (q : Int32 × sm_H), rec x1 x2 h = some q → RUN L xs d 82 [.ref 49, .int x1, .int x2] h (some (.int q.1), q.2)) (hd : 4 + M ≤ d) {x1 : Int32} {x2 : Int32} {h : sm_H} {r : Int32 × sm_H} (hf : F_83 rec x1 x2 h = some r) : RUN L xs d 83 [.ref 49, .int x1, .int x2] h (some (.int r.1), r.2) := by
  obtain ⟨d, rfl⟩ : ∃ e, d = e + 1 := ⟨d - 1, by omega⟩
  exact ⟨Nat.le_of_ble_eq_true rfl, B_83_0 hrec (by omega) hf rfl⟩
