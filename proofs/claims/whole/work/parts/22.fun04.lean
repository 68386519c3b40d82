theorem B_30_0 {L : Nat} {xs : Nat → Int32} {d : Nat} (hd : 2 ≤ d) {res : Option Value × sm_H} {x1 : Int32} {x2 : Int32}  {h : sm_H} {r : (Int32 × sm_H)} (hf : F_30_0 x1 x2 h = some r) (hs : (fun (r : Int32 × sm_H) => res = (some (.int r.1), r.2)) r) : Ex (P_G L xs) (RUN L xs d) (sm_lk P_t30) 0 0 [some (.ref 34), some (.int x1), some (.int x2)] [] h res := by
  unfold F_30_0 at hf
  refine Ex.seg 6 (pc' := 12) (lc' := [some (.ref 34), some (.int x1), some (.int x2)]) (st' := [.int (h.1 34 12), .ref 10, .ref 5]) (h' := h) (sg1 rfl rfl (sg1 rfl rfl (sg1 rfl rfl (sg1 rfl rfl (sg1 rfl rfl (sg1 rfl rfl rfl)))))) ?_
  obtain ⟨q1, e_q1, hf⟩ := bnd hf
  refine Ex.callV (a := 10) (As := [.int (h.1 34 12)]) (r := [.ref 5]) (v := some (.int q1.1)) (h' := q1.2) rfl rfl (by decide) rfl (Nat.le_of_ble_eq_true rfl) rfl (E_41 (Nat.le_trans (by decide) hd) e_q1) rfl ?_
  refine Ex.seg 3 (pc' := 20) (lc' := [some (.ref 34), some (.int x1), some (.int x2)]) (st' := [.int (q1.2.1 34 8), .int 0, .int q1.1, .ref 5]) (h' := q1.2) (sg1 rfl rfl (sg1 rfl rfl (sg1 rfl rfl rfl))) ?_
  obtain ⟨q2, e_q2, hf⟩ := bnd hf
  refine Ex.callV (a := 5) (As := [.int q1.1, .int 0, .int (q1.2.1 34 8)]) (r := []) (v := none) (h' := q2) rfl rfl (by decide) rfl (Nat.le_of_ble_eq_true rfl) rfl (E_230 (Nat.le_trans (by decide) hd) e_q2) rfl ?_
  refine Ex.seg 7 (pc' := 34) (lc' := [some (.ref 34), some (.int x1), some (.int x2)]) (st' := [.int x1, .ref 5, .int 0, .int x1, .ref 5]) (h' := q2) (sg1 rfl rfl (sg1 rfl rfl (sg1 rfl rfl (sg1 rfl rfl (sg1 rfl rfl (sg1 rfl rfl (sg1 rfl rfl rfl))))))) ?_
  obtain ⟨q3, e_q3, hf⟩ := bnd hf
  refine Ex.callV (a := 5) (As := [.int x1]) (r := [.int 0, .int x1, .ref 5]) (v := some (.int q3.1)) (h' := q3.2) rfl rfl (by decide) rfl (Nat.le_of_ble_eq_true rfl) rfl (E_226 (Nat.le_trans (by decide) hd) e_q3) rfl ?_
  obtain ⟨q4, e_q4, hf⟩ := bnd hf
  refine Ex.callV (a := 5) (As := [.int x1, .int 0, .int q3.1]) (r := []) (v := none) (h' := q4) rfl rfl (by decide) rfl (Nat.le_of_ble_eq_true rfl) rfl (E_230 (Nat.le_trans (by decide) hd) e_q4) rfl ?_
  refine Ex.seg 6 (pc' := 52) (lc' := [some (.ref 34), some (.int x1), some (.int x2)]) (st' := [.int (q4.1 34 12), .ref 10, .ref 5]) (h' := q4) (sg1 rfl rfl (sg1 rfl rfl (sg1 rfl rfl (sg1 rfl rfl (sg1 rfl rfl (sg1 rfl rfl rfl)))))) ?_
  obtain ⟨q5, e_q5, hf⟩ := bnd hf
  refine Ex.callV (a := 10) (As := [.int (q4.1 34 12)]) (r := [.ref 5]) (v := some (.int q5.1)) (h' := q5.2) rfl rfl (by decide) rfl (Nat.le_of_ble_eq_true rfl) rfl (E_41 (Nat.le_trans (by decide) hd) e_q5) rfl ?_
  refine Ex.seg 5 (pc' := 64) (lc' := [some (.ref 34), some (.int x1), some (.int x2)]) (st' := [.int (q5.2.1 34 12), .ref 10, .int x2, .int q5.1, .ref 5]) (h' := q5.2) (sg1 rfl rfl (sg1 rfl rfl (sg1 rfl rfl (sg1 rfl rfl (sg1 rfl rfl rfl))))) ?_
  obtain ⟨q6, e_q6, hf⟩ := bnd hf
  refine Ex.callV (a := 10) (As := [.int (q5.2.1 34 12)]) (r := [.int x2, .int q5.1, .ref 5]) (v := some (.int q6.1)) (h' := q6.2) rfl rfl (by decide) rfl (Nat.le_of_ble_eq_true rfl) rfl (E_45 (Nat.le_trans (by decide) hd) e_q6) rfl ?_
  obtain ⟨q7, e_q7, hf⟩ := bnd hf
  refine Ex.callV (a := 5) (As := [.int q5.1, .int x2, .int q6.1]) (r := []) (v := none) (h' := q7) rfl rfl (by decide) rfl (Nat.le_of_ble_eq_true rfl) rfl (E_230 (Nat.le_trans (by decide) hd) e_q7) rfl ?_
  refine Ex.seg 4 (pc' := 78) (lc' := [some (.ref 34), some (.int x1), some (.int x2)]) (st' := [.int (q7.1 34 12), .ref 10]) (h' := q7) (sg1 rfl rfl (sg1 rfl rfl (sg1 rfl rfl (sg1 rfl rfl rfl)))) ?_
  obtain ⟨q8, e_q8, hf⟩ := bnd hf
  refine Ex.callV (a := 10) (As := [.int (q7.1 34 12)]) (r := []) (v := some (.int q8.1)) (h' := q8.2) rfl rfl (by decide) rfl (Nat.le_of_ble_eq_true rfl) rfl (E_44 (Nat.le_trans (by decide) hd) e_q8) rfl ?_
  obtain rfl := Option.some.inj hf
  exact Ex.iret rfl rfl (fun c0 => by cases c0) hs
theorem E_30 {L : Nat} {xs : Nat → Int32} {d : Nat} (hd : 3 ≤ d) {x1 : Int32} {x2 : Int32} {h : sm_H} {r : Int32 × sm_H} (hf : F_30 x1 x2 h = some r) : RUN L xs d 30 [.ref 34, .int x1, .int x2] h (some (.int r.1), r.2) := by
  obtain ⟨d, rfl⟩ : ∃ e, d = e + 1 := ⟨d - 1, by omega⟩
  exact ⟨Nat.le_of_ble_eq_true rfl, B_30_0 (by omega) hf rfl⟩
theorem B_31_0 {L : Nat} {xs : Nat → Int32} {d : Nat} (hd : 2 ≤ d) {res : Option Value × sm_H} {x1 : Int32}  {h : sm_H} {r : (Int32 × sm_H)} (hf : F_31_0 x1 h = some r) (hs : (fun (r : Int32 × sm_H) => res = (some (.int r.1), r.2)) r) : Ex (P_G L xs) (RUN L xs d) (sm_lk P_t31) 0 0 [some (.ref 34), some (.int x1)] [] h res := by
  unfold F_31_0 at hf
  refine Ex.seg 7 (pc' := 11) (lc' := [some (.ref 34), some (.int x1)]) (st' := [.int x1, .ref 5, .int 0, .int x1, .ref 5]) (h' := h) (sg1 rfl rfl (sg1 rfl rfl (sg1 rfl rfl (sg1 rfl rfl (sg1 rfl rfl (sg1 rfl rfl (sg1 rfl rfl rfl))))))) ?_
  obtain ⟨q1, e_q1, hf⟩ := bnd hf
  refine Ex.callV (a := 5) (As := [.int x1]) (r := [.int 0, .int x1, .ref 5]) (v := some (.int q1.1)) (h' := q1.2) rfl rfl (by decide) rfl (Nat.le_of_ble_eq_true rfl) rfl (E_226 (Nat.le_trans (by decide) hd) e_q1) rfl ?_
  obtain ⟨q2, e_q2, hf⟩ := bnd hf
  refine Ex.callV (a := 5) (As := [.int x1, .int 0, .int q1.1]) (r := []) (v := none) (h' := q2) rfl rfl (by decide) rfl (Nat.le_of_ble_eq_true rfl) rfl (E_230 (Nat.le_trans (by decide) hd) e_q2) rfl ?_
  refine Ex.seg 3 (pc' := 22) (lc' := [some (.ref 34), some (.int x1)]) (st' := [.int x1, .ref 5]) (h' := q2) (sg1 rfl rfl (sg1 rfl rfl (sg1 rfl rfl rfl))) ?_
  obtain ⟨q3, e_q3, hf⟩ := bnd hf
  refine Ex.callV (a := 5) (As := [.int x1]) (r := []) (v := some (.int q3.1)) (h' := q3.2) rfl rfl (by decide) rfl (Nat.le_of_ble_eq_true rfl) rfl (E_225 (Nat.le_trans (by decide) hd) e_q3) rfl ?_
  obtain rfl := Option.some.inj hf
  exact Ex.iret rfl rfl (fun c0 => by cases c0) hs
theorem E_31 {L : Nat} {xs : Nat → Int32} {d : Nat} (hd : 3 ≤ d) {x1 : Int32} {h : sm_H} {r : Int32 × sm_H} (hf : F_31 x1 h = some r) : RUN L xs d 31 [.ref 34, .int x1] h (some (.int r.1), r.2) := by
  obtain ⟨d, rfl⟩ : ∃ e, d = e + 1 := ⟨d - 1, by omega⟩
  exact ⟨Nat.le_of_ble_eq_true rfl, B_31_0 (by omega) hf rfl⟩
theorem B_33_39 {L : Nat} {xs : Nat → Int32} {d : Nat} (hd : 1 ≤ d) {res : Option Value × sm_H} {z0 : Int32}  {h : sm_H} {r : (Int32 × sm_H)} (hf : F_33_39 z0 h = some r) (hs : (fun (r : Int32 × sm_H) => res = (some (.int r.1), r.2)) r) : Ex (P_G L xs) (RUN L xs d) (sm_lk P_t33) 0 39 [none, none, none] [.int z0] h res := by
  unfold F_33_39 at hf
  obtain rfl := Option.some.inj hf
  exact Ex.iret rfl rfl (fun c0 => by cases c0) hs
theorem B_33_13 {L : Nat} {xs : Nat → Int32} {d : Nat} (hd : 1 ≤ d) {res : Option Value × sm_H} {y1 : Int32} {y2 : Int32}  {h : sm_H} {r : (Int32 × sm_H)} (hf : F_33_13 y1 y2 h = some r) (hs : (fun (r : Int32 × sm_H) => res = (some (.int r.1), r.2)) r) : Ex (P_G L xs) (RUN L xs d) (sm_lk P_t33) 0 13 [some (.ref 34), some (.int y1), some (.int y2)] [] h res := by
  unfold F_33_13 at hf
  refine Ex.seg 2 (pc' := 16) (lc' := [some (.ref 34), some (.int y1), some (.int y2)]) (st' := [.int 7, .int y2]) (h' := h) (sg1 rfl rfl (sg1 rfl rfl rfl)) ?_
  refine Ex.icmp rfl rfl (fun (c0 : ¬ (y2 = 7)) => ?_) (fun (c0 : ¬ ¬ (y2 = 7)) => ?_)
  · rw [if_neg c0] at hf
    refine Ex.seg 2 (pc' := 31) (lc' := [some (.ref 34), some (.int y1), some (.int y2)]) (st' := [.int 5, .int y2]) (h' := h) (sg1 rfl rfl (sg1 rfl rfl rfl)) ?_
    refine Ex.icmp rfl rfl (fun (c0 : ¬ (y2 = 5)) => ?_) (fun (c0 : ¬ ¬ (y2 = 5)) => ?_)
    · rw [if_neg c0] at hf
      refine Ex.seg 1 (pc' := 39) (lc' := [some (.ref 34), some (.int y1), some (.int y2)]) (st' := [.int y1]) (h' := h) (sg1 rfl rfl rfl) ?_
      exact Ex.weak (sm_le_n (sm_le_n (sm_le_n sm_le_nil))) (B_33_39 hd  hf hs)
    · rw [if_pos (Classical.not_not.mp c0)] at hf
      refine Ex.seg 2 (pc' := 39) (lc' := [some (.ref 34), some (.int y1), some (.int y2)]) (st' := [.int 0]) (h' := h) (sg1 rfl rfl (sg1 rfl rfl rfl)) ?_
      exact Ex.weak (sm_le_n (sm_le_n (sm_le_n sm_le_nil))) (B_33_39 hd  hf hs)
  · rw [if_pos (Classical.not_not.mp c0)] at hf
    refine Ex.seg 3 (pc' := 24) (lc' := [some (.ref 34), some (.int y1), some (.int y2)]) (st' := [.int y1, .ref 5]) (h' := h) (sg1 rfl rfl (sg1 rfl rfl (sg1 rfl rfl rfl))) ?_
    obtain ⟨q1, e_q1, hf⟩ := bnd hf
    refine Ex.callV (a := 5) (As := [.int y1]) (r := []) (v := none) (h' := q1) rfl rfl (by decide) rfl (Nat.le_of_ble_eq_true rfl) rfl (E_229 (Nat.le_trans (by decide) hd) e_q1) rfl ?_
    refine Ex.seg 1 (pc' := 28) (lc' := [some (.ref 34), some (.int y1), some (.int y2)]) (st' := [.int 1]) (h' := q1) (sg1 rfl rfl rfl) ?_
    obtain rfl := Option.some.inj hf
    exact Ex.iret rfl rfl (fun c0 => by cases c0) hs
theorem B_33_0 {L : Nat} {xs : Nat → Int32} {d : Nat} (hd : 1 ≤ d) {res : Option Value × sm_H} {x1 : Int32} {x2 : Int32}  {h : sm_H} {r : (Int32 × sm_H)} (hf : F_33_0 x1 x2 h = some r) (hs : (fun (r : Int32 × sm_H) => res = (some (.int r.1), r.2)) r) : Ex (P_G L xs) (RUN L xs d) (sm_lk P_t33) 0 0 [some (.ref 34), some (.int x1), some (.int x2)] [] h res := by
  unfold F_33_0 at hf
  refine Ex.seg 2 (pc' := 2) (lc' := [some (.ref 34), some (.int x1), some (.int x2)]) (st' := [.int 4, .int x2]) (h' := h) (sg1 rfl rfl (sg1 rfl rfl rfl)) ?_
  refine Ex.icmp rfl rfl (fun (c0 : x2 = 4) => ?_) (fun (c0 : ¬ (x2 = 4)) => ?_)
  · rw [if_pos c0] at hf
    exact Ex.weak (sm_le_s (sm_le_s (sm_le_s sm_le_nil))) (B_33_13 hd  hf hs)
  · rw [if_neg c0] at hf
    refine Ex.seg 3 (pc' := 10) (lc' := [some (.ref 34), some (.int x1), some (.int x2)]) (st' := [.int x1, .ref 5]) (h' := h) (sg1 rfl rfl (sg1 rfl rfl (sg1 rfl rfl rfl))) ?_
    obtain ⟨q2, e_q2, hf⟩ := bnd hf
    refine Ex.callV (a := 5) (As := [.int x1]) (r := []) (v := none) (h' := q2) rfl rfl (by decide) rfl (Nat.le_of_ble_eq_true rfl) rfl (E_229 (Nat.le_trans (by decide) hd) e_q2) rfl ?_
    exact Ex.weak (sm_le_s (sm_le_s (sm_le_s sm_le_nil))) (B_33_13 hd  hf hs)
theorem E_33 {L : Nat} {xs : Nat → Int32} {d : Nat} (hd : 2 ≤ d) {x1 : Int32} {x2 : Int32} {h : sm_H} {r : Int32 × sm_H} (hf : F_33 x1 x2 h = some r) : RUN L xs d 33 [.ref 34, .int x1, .int x2] h (some (.int r.1), r.2) := by
  obtain ⟨d, rfl⟩ : ∃ e, d = e + 1 := ⟨d - 1, by omega⟩
  exact ⟨Nat.le_of_ble_eq_true rfl, B_33_0 (by omega) hf rfl⟩
theorem B_49_17B {L : Nat} {xs : Nat → Int32} {d : Nat} (hd : 1 ≤ d) {res : Option Value × sm_H} {S1 : (Int32 × Nat × Int32 × sm_H) → Prop} (hS1 : ∀ s, S1 s → Ex (P_G L xs) (RUN L xs d) (sm_lk P_t49) 3 17 [some (.ref 10), some (.int s.1), some (.ref s.2.1), some (.int s.2.2.1)] [] s.2.2.2 res) {s : (Int32 × Nat × Int32 × sm_H)}  {r : ((Int32 × Nat × Int32 × sm_H) ⊕ (Int32 × sm_H))} (hf : F_49_17B s = some r) (hs : (Sum.elim S1 (fun (r : Int32 × sm_H) => res = (some (.int r.1), r.2))) r) : Ex (P_G L xs) (RUN L xs d) (sm_lk P_t49) 3 17 [some (.ref 10), some (.int s.1), some (.ref s.2.1), some (.int s.2.2.1)] [] s.2.2.2 res := by
  unfold F_49_17B at hf
  refine Ex.seg 2 (pc' := 19) (lc' := [some (.ref 10), some (.int s.1), some (.ref s.2.1), some (.int s.2.2.1)]) (st' := [.ref s.2.1, .int s.2.2.1]) (h' := s.2.2.2) (sg1 rfl rfl (sg1 rfl rfl rfl)) ?_
  have g2 : sm_is G0 s.2.2.2 s.2.1 5 = true := Classical.byContradiction (fun z => by rw [if_pos z] at hf; cases hf)
  rw [if_neg (fun z => z g2)] at hf
  obtain ⟨q1, e_q1, hf⟩ := bnd hf
  refine Ex.callV (a := s.2.1) (As := []) (r := [.int s.2.2.1]) (v := some (.int q1.1)) (h' := q1.2) rfl rfl (by decide) rfl (Nat.le_of_ble_eq_true rfl) g2 (E_136 (Nat.le_trans (by decide) hd) e_q1) rfl ?_
  refine Ex.icmp rfl rfl (fun (c0 : q1.1 ≤ s.2.2.1) => ?_) (fun (c0 : ¬ (q1.1 ≤ s.2.2.1)) => ?_)
  · rw [if_pos c0] at hf
    refine Ex.seg 1 (pc' := 48) (lc' := [some (.ref 10), some (.int s.1), some (.ref s.2.1), some (.int s.2.2.1)]) (st' := [.int 1]) (h' := q1.2) (sg1 rfl rfl rfl) ?_
    obtain rfl := Option.some.inj hf
    exact Ex.iret rfl rfl (fun _ => by decide) hs
  · rw [if_neg c0] at hf
    refine Ex.seg 3 (pc' := 28) (lc' := [some (.ref 10), some (.int s.1), some (.ref s.2.1), some (.int s.2.2.1)]) (st' := [.int s.2.2.1, .int s.1, .ref 10]) (h' := q1.2) (sg1 rfl rfl (sg1 rfl rfl (sg1 rfl rfl rfl))) ?_
    obtain ⟨q3, e_q3, hf⟩ := bnd hf
    refine Ex.callV (a := 10) (As := [.int s.1, .int s.2.2.1]) (r := []) (v := some (.int q3.1)) (h' := q3.2) rfl rfl (by decide) rfl (Nat.le_of_ble_eq_true rfl) rfl (E_43 (Nat.le_trans (by decide) hd) e_q3) rfl ?_
    refine Ex.seg 2 (pc' := 33) (lc' := [some (.ref 10), some (.int s.1), some (.ref s.2.1), some (.int s.2.2.1)]) (st' := [.int s.2.2.1, .ref s.2.1, .int q3.1]) (h' := q3.2) (sg1 rfl rfl (sg1 rfl rfl rfl)) ?_
    have g5 : sm_is G0 q3.2 s.2.1 5 = true := Classical.byContradiction (fun z => by rw [if_pos z] at hf; cases hf)
    rw [if_neg (fun z => z g5)] at hf
    obtain ⟨q4, e_q4, hf⟩ := bnd hf
    refine Ex.callV (a := s.2.1) (As := [.int s.2.2.1]) (r := [.int q3.1]) (v := some (.int q4.1)) (h' := q4.2) rfl rfl (by decide) rfl (Nat.le_of_ble_eq_true rfl) g5 (E_137 (Nat.le_trans (by decide) hd) e_q4) rfl ?_
    refine Ex.icmp rfl rfl (fun (c0 : q3.1 = q4.1) => ?_) (fun (c0 : ¬ (q3.1 = q4.1)) => ?_)
    · rw [if_pos c0] at hf
      refine Ex.seg 1 (pc' := 44) (lc' := [some (.ref 10), some (.int s.1), some (.ref s.2.1), some (.int (s.2.2.1 + 1))]) (st' := []) (h' := q4.2) (sg1 rfl rfl rfl) ?_
      obtain ⟨v6, e_v6, hf⟩ := bnd hf
      rw [Option.some.inj e_v6]
      refine Ex.seg 1 (pc' := 17) (lc' := [some (.ref 10), some (.int s.1), some (.ref s.2.1), some (.int v6)]) (st' := []) (h' := q4.2) (sg1 rfl rfl rfl) ?_
      obtain rfl := Option.some.inj hf
      exact Ex.weak (sm_le_s (sm_le_s (sm_le_s (sm_le_s sm_le_nil)))) (hS1 _ hs)
    · rw [if_neg c0] at hf
      refine Ex.seg 1 (pc' := 40) (lc' := [some (.ref 10), some (.int s.1), some (.ref s.2.1), some (.int s.2.2.1)]) (st' := [.int 0]) (h' := q4.2) (sg1 rfl rfl rfl) ?_
      obtain rfl := Option.some.inj hf
      exact Ex.iret rfl rfl (fun _ => by decide) hs
theorem B_49_17 {L : Nat} {xs : Nat → Int32} {d : Nat} (hd : 1 ≤ d) {res : Option Value × sm_H} {y1 : Int32} {y2 : Nat} {y3 : Int32}  {h : sm_H} {r : (Int32 × sm_H)} (hf : F_49_17 y1 y2 y3 h = some r) (hs : (fun (r : Int32 × sm_H) => res = (some (.int r.1), r.2)) r) : Ex (P_G L xs) (RUN L xs d) (sm_lk P_t49) 3 17 [some (.ref 10), some (.int y1), some (.ref y2), some (.int y3)] [] h res := by
  unfold F_49_17 at hf
  exact lp_ok (P := fun (s : (Int32 × Nat × Int32 × sm_H)) => Ex (P_G L xs) (RUN L xs d) (sm_lk P_t49) 3 17 [some (.ref 10), some (.int s.1), some (.ref s.2.1), some (.int s.2.2.1)] [] s.2.2.2 res) (S := (fun (r : Int32 × sm_H) => res = (some (.int r.1), r.2))) (fun s x hx hsx => by
    intros
    exact B_49_17B hd  (fun _ q => q) hx hsx) 1000000 _ r hf hs
theorem B_49_0 {L : Nat} {xs : Nat → Int32} {d : Nat} (hd : 1 ≤ d) {res : Option Value × sm_H} {x1 : Int32} {x2 : Nat}  {h : sm_H} {r : (Int32 × sm_H)} (hf : F_49_0 x1 x2 h = some r) (hs : (fun (r : Int32 × sm_H) => res = (some (.int r.1), r.2)) r) : Ex (P_G L xs) (RUN L xs d) (sm_lk P_t49) 3 0 [some (.ref 10), some (.int x1), some (.ref x2), none] [] h res := by
  unfold F_49_0 at hf
  refine Ex.seg 3 (pc' := 5) (lc' := [some (.ref 10), some (.int x1), some (.ref x2), none]) (st' := [.int x1, .ref 15]) (h' := h) (sg1 rfl rfl (sg1 rfl rfl (sg1 rfl rfl rfl))) ?_
  obtain ⟨v7, e_v7, hf⟩ := bnd hf
  refine Ex.iald e_v7 rfl rfl ?_
  refine Ex.seg 1 (pc' := 7) (lc' := [some (.ref 10), some (.int x1), some (.ref x2), none]) (st' := [.ref x2, .int v7]) (h' := h) (sg1 rfl rfl rfl) ?_
  have g9 : sm_is G0 h x2 5 = true := Classical.byContradiction (fun z => by rw [if_pos z] at hf; cases hf)
  rw [if_neg (fun z => z g9)] at hf
  obtain ⟨q8, e_q8, hf⟩ := bnd hf
  refine Ex.callV (a := x2) (As := []) (r := [.int v7]) (v := some (.int q8.1)) (h' := q8.2) rfl rfl (by decide) rfl (Nat.le_of_ble_eq_true rfl) g9 (E_136 (Nat.le_trans (by decide) hd) e_q8) rfl ?_
  refine Ex.icmp rfl rfl (fun (c0 : v7 = q8.1) => ?_) (fun (c0 : ¬ (v7 = q8.1)) => ?_)
  · rw [if_pos c0] at hf
    refine Ex.seg 2 (pc' := 17) (lc' := [some (.ref 10), some (.int x1), some (.ref x2), some (.int 0)]) (st' := []) (h' := q8.2) (sg1 rfl rfl (sg1 rfl rfl rfl)) ?_
    exact Ex.weak (sm_le_s (sm_le_s (sm_le_s (sm_le_s sm_le_nil)))) (B_49_17 hd  hf hs)
  · rw [if_neg c0] at hf
    refine Ex.seg 1 (pc' := 14) (lc' := [some (.ref 10), some (.int x1), some (.ref x2), none]) (st' := [.int 0]) (h' := q8.2) (sg1 rfl rfl rfl) ?_
    obtain rfl := Option.some.inj hf
    exact Ex.iret rfl rfl (fun _ => by decide) hs
theorem E_49 {L : Nat} {xs : Nat → Int32} {d : Nat} (hd : 2 ≤ d) {x1 : Int32} {x2 : Nat} {h : sm_H} {r : Int32 × sm_H} (hf : F_49 x1 x2 h = some r) : RUN L xs d 49 [.ref 10, .int x1, .ref x2] h (some (.int r.1), r.2) := by
  obtain ⟨d, rfl⟩ : ∃ e, d = e + 1 := ⟨d - 1, by omega⟩
  exact ⟨Nat.le_of_ble_eq_true rfl, B_49_0 (by omega) hf rfl⟩
theorem B_50_218 {L : Nat} {xs : Nat → Int32} {d : Nat} (hd : 1 ≤ d) {res : Option Value × sm_H}   {h : sm_H} {r : (Int32 × sm_H)} (hf : F_50_218  h = some r) (hs : (fun (r : Int32 × sm_H) => res = (some (.int r.1), r.2)) r) : Ex (P_G L xs) (RUN L xs d) (sm_lk P_t50) 0 218 [some (.ref 10), none, none, none, none, none, none, none, none] [] h res := by
  unfold F_50_218 at hf
  refine Ex.seg 6 (pc' := 228) (lc' := [some (.ref 10), none, none, none, none, none, none, none, none]) (st' := []) (h' := (sm_wI h 10 11 ((h.1 10 11) + 1))) (sg1 rfl rfl (sg1 rfl rfl (sg1 rfl rfl (sg1 rfl rfl (sg1 rfl rfl (sg1 rfl rfl rfl)))))) ?_
  obtain ⟨h1, e_h1, hf⟩ := bnd hf
  rw [Option.some.inj e_h1]
  refine Ex.seg 4 (pc' := 234) (lc' := [some (.ref 10), none, none, none, none, none, none, none, none]) (st' := [.int ((h1.1 10 11) - 1)]) (h' := h1) (sg1 rfl rfl (sg1 rfl rfl (sg1 rfl rfl (sg1 rfl rfl rfl)))) ?_
  obtain rfl := Option.some.inj hf
  exact Ex.iret rfl rfl (fun c0 => by cases c0) hs
theorem B_50_165B {L : Nat} {xs : Nat → Int32} {d : Nat} (hd : 1 ≤ d) {res : Option Value × sm_H} {S1 : (Int32 × Int32 × sm_H) → Prop} (hS1 : ∀ s, S1 s → Ex (P_G L xs) (RUN L xs d) (sm_lk P_t50) 0 165 [some (.ref 10), none, none, none, none, none, none, some (.int s.1), some (.int s.2.1)] [] s.2.2 res) {s : (Int32 × Int32 × sm_H)}  {r : ((Int32 × Int32 × sm_H) ⊕ (Int32 × sm_H))} (hf : F_50_165B s = some r) (hs : (Sum.elim S1 (fun (r : Int32 × sm_H) => res = (some (.int r.1), r.2))) r) : Ex (P_G L xs) (RUN L xs d) (sm_lk P_t50) 0 165 [some (.ref 10), none, none, none, none, none, none, some (.int s.1), some (.int s.2.1)] [] s.2.2 res := by
  unfold F_50_165B at hf
  refine Ex.seg 4 (pc' := 173) (lc' := [some (.ref 10), none, none, none, none, none, none, some (.int s.1), some (.int s.2.1)]) (st' := [.int s.1, .ref 5, .int s.2.1]) (h' := s.2.2) (sg1 rfl rfl (sg1 rfl rfl (sg1 rfl rfl (sg1 rfl rfl rfl)))) ?_
  obtain ⟨q2, e_q2, hf⟩ := bnd hf
  refine Ex.callV (a := 5) (As := [.int s.1]) (r := [.int s.2.1]) (v := some (.int q2.1)) (h' := q2.2) rfl rfl (by decide) rfl (Nat.le_of_ble_eq_true rfl) rfl (E_226 (Nat.le_trans (by decide) hd) e_q2) rfl ?_
  refine Ex.icmp rfl rfl (fun (c0 : q2.1 ≤ s.2.1) => ?_) (fun (c0 : ¬ (q2.1 ≤ s.2.1)) => ?_)
  · rw [if_pos c0] at hf
    obtain ⟨r0, hf0, rfl⟩ := Option.map_eq_some_iff.mp hf
    exact Ex.weak (sm_le_s (sm_le_s (sm_le_s (sm_le_s (sm_le_s (sm_le_s (sm_le_s (sm_le_n (sm_le_n sm_le_nil))))))))) (B_50_218 hd  hf0 hs)
  · rw [if_neg c0] at hf
    refine Ex.seg 2 (pc' := 183) (lc' := [some (.ref 10), none, none, none, none, none, none, some (.int s.1), some (.int s.2.1)]) (st' := [.int 10, .int s.2.1]) (h' := q2.2) (sg1 rfl rfl (sg1 rfl rfl rfl)) ?_
    refine Ex.icmp rfl rfl (fun (c0 : 10 ≤ s.2.1) => ?_) (fun (c0 : ¬ (10 ≤ s.2.1)) => ?_)
    · rw [if_pos c0] at hf
      obtain ⟨r0, hf0, rfl⟩ := Option.map_eq_some_iff.mp hf
      exact Ex.weak (sm_le_s (sm_le_s (sm_le_s (sm_le_s (sm_le_s (sm_le_s (sm_le_s (sm_le_n (sm_le_n sm_le_nil))))))))) (B_50_218 hd  hf0 hs)
    · rw [if_neg c0] at hf
      refine Ex.seg 12 (pc' := 208) (lc' := [some (.ref 10), none, none, none, none, none, none, some (.int s.1), some (.int s.2.1)]) (st' := [.int s.2.1, .int s.1, .ref 5, .int (((q2.2.1 10 11) * 10) + s.2.1), .ref 20]) (h' := q2.2) (sg1 rfl rfl (sg1 rfl rfl (sg1 rfl rfl (sg1 rfl rfl (sg1 rfl rfl (sg1 rfl rfl (sg1 rfl rfl (sg1 rfl rfl (sg1 rfl rfl (sg1 rfl rfl (sg1 rfl rfl (sg1 rfl rfl rfl)))))))))))) ?_
      obtain ⟨q3, e_q3, hf⟩ := bnd hf
      refine Ex.callV (a := 5) (As := [.int s.1, .int s.2.1]) (r := [.int (((q2.2.1 10 11) * 10) + s.2.1), .ref 20]) (v := some (.int q3.1)) (h' := q3.2) rfl rfl (by decide) rfl (Nat.le_of_ble_eq_true rfl) rfl (E_227 (Nat.le_trans (by decide) hd) e_q3) rfl ?_
      obtain ⟨h4, e_h4, hf⟩ := bnd hf
      refine Ex.iast e_h4 rfl rfl ?_
      refine Ex.seg 1 (pc' := 215) (lc' := [some (.ref 10), none, none, none, none, none, none, some (.int s.1), some (.int (s.2.1 + 1))]) (st' := []) (h' := h4) (sg1 rfl rfl rfl) ?_
      obtain ⟨v5, e_v5, hf⟩ := bnd hf
      rw [Option.some.inj e_v5]
      refine Ex.seg 1 (pc' := 165) (lc' := [some (.ref 10), none, none, none, none, none, none, some (.int s.1), some (.int v5)]) (st' := []) (h' := h4) (sg1 rfl rfl rfl) ?_
      obtain rfl := Option.some.inj hf
      exact Ex.weak (sm_le_s (sm_le_s (sm_le_s (sm_le_s (sm_le_s (sm_le_s (sm_le_s (sm_le_s (sm_le_s sm_le_nil))))))))) (hS1 _ hs)
theorem B_50_165 {L : Nat} {xs : Nat → Int32} {d : Nat} (hd : 1 ≤ d) {res : Option Value × sm_H} {y7 : Int32} {y8 : Int32}  {h : sm_H} {r : (Int32 × sm_H)} (hf : F_50_165 y7 y8 h = some r) (hs : (fun (r : Int32 × sm_H) => res = (some (.int r.1), r.2)) r) : Ex (P_G L xs) (RUN L xs d) (sm_lk P_t50) 0 165 [some (.ref 10), none, none, none, none, none, none, some (.int y7), some (.int y8)] [] h res := by
  unfold F_50_165 at hf
  exact lp_ok (P := fun (s : (Int32 × Int32 × sm_H)) => Ex (P_G L xs) (RUN L xs d) (sm_lk P_t50) 0 165 [some (.ref 10), none, none, none, none, none, none, some (.int s.1), some (.int s.2.1)] [] s.2.2 res) (S := (fun (r : Int32 × sm_H) => res = (some (.int r.1), r.2))) (fun s x hx hsx => by
    intros
    exact B_50_165B hd  (fun _ q => q) hx hsx) 1000000 _ r hf hs
theorem B_50_115 {L : Nat} {xs : Nat → Int32} {d : Nat} (hd : 1 ≤ d) {res : Option Value × sm_H} {y7 : Int32}  {h : sm_H} {r : (Int32 × sm_H)} (hf : F_50_115 y7 h = some r) (hs : (fun (r : Int32 × sm_H) => res = (some (.int r.1), r.2)) r) : Ex (P_G L xs) (RUN L xs d) (sm_lk P_t50) 0 115 [some (.ref 10), none, none, none, none, none, none, some (.int y7), none] [] h res := by
  unfold F_50_115 at hf
  refine Ex.seg 5 (pc' := 125) (lc' := [some (.ref 10), none, none, none, none, none, none, some (.int y7), none]) (st' := [.int y7, .int (h.1 10 11), .ref 17]) (h' := h) (sg1 rfl rfl (sg1 rfl rfl (sg1 rfl rfl (sg1 rfl rfl (sg1 rfl rfl rfl))))) ?_
  obtain ⟨h6, e_h6, hf⟩ := bnd hf
  refine Ex.iast e_h6 rfl rfl ?_
  refine Ex.seg 7 (pc' := 140) (lc' := [some (.ref 10), none, none, none, none, none, none, some (.int y7), none]) (st' := [.int y7, .ref 5, .int (h6.1 10 11), .ref 18]) (h' := h6) (sg1 rfl rfl (sg1 rfl rfl (sg1 rfl rfl (sg1 rfl rfl (sg1 rfl rfl (sg1 rfl rfl (sg1 rfl rfl rfl))))))) ?_
  obtain ⟨q7, e_q7, hf⟩ := bnd hf
  refine Ex.callV (a := 5) (As := [.int y7]) (r := [.int (h6.1 10 11), .ref 18]) (v := some (.int q7.1)) (h' := q7.2) rfl rfl (by decide) rfl (Nat.le_of_ble_eq_true rfl) rfl (E_225 (Nat.le_trans (by decide) hd) e_q7) rfl ?_
  obtain ⟨h8, e_h8, hf⟩ := bnd hf
  refine Ex.iast e_h8 rfl rfl ?_
  refine Ex.seg 7 (pc' := 158) (lc' := [some (.ref 10), none, none, none, none, none, none, some (.int y7), none]) (st' := [.int y7, .ref 5, .int (h8.1 10 11), .ref 19]) (h' := h8) (sg1 rfl rfl (sg1 rfl rfl (sg1 rfl rfl (sg1 rfl rfl (sg1 rfl rfl (sg1 rfl rfl (sg1 rfl rfl rfl))))))) ?_
  obtain ⟨q9, e_q9, hf⟩ := bnd hf
  refine Ex.callV (a := 5) (As := [.int y7]) (r := [.int (h8.1 10 11), .ref 19]) (v := some (.int q9.1)) (h' := q9.2) rfl rfl (by decide) rfl (Nat.le_of_ble_eq_true rfl) rfl (E_226 (Nat.le_trans (by decide) hd) e_q9) rfl ?_
  obtain ⟨h10, e_h10, hf⟩ := bnd hf
  refine Ex.iast e_h10 rfl rfl ?_
  refine Ex.seg 2 (pc' := 165) (lc' := [some (.ref 10), none, none, none, none, none, none, some (.int y7), some (.int 0)]) (st' := []) (h' := h10) (sg1 rfl rfl (sg1 rfl rfl rfl)) ?_
  exact Ex.weak (sm_le_s (sm_le_s (sm_le_s (sm_le_s (sm_le_s (sm_le_s (sm_le_s (sm_le_s (sm_le_s sm_le_nil))))))))) (B_50_165 hd  hf hs)
theorem B_50_70B {L : Nat} {xs : Nat → Int32} {d : Nat} (hd : 1 ≤ d) {res : Option Value × sm_H} {S1 : (Nat × Int32 × Int32 × sm_H) → Prop} (hS1 : ∀ s, S1 s → Ex (P_G L xs) (RUN L xs d) (sm_lk P_t50) 0 70 [some (.ref 10), none, none, none, none, none, some (.ref s.1), some (.int s.2.1), some (.int s.2.2.1)] [] s.2.2.2 res) {s : (Nat × Int32 × Int32 × sm_H)}  {r : ((Nat × Int32 × Int32 × sm_H) ⊕ (Int32 × sm_H))} (hf : F_50_70B s = some r) (hs : (Sum.elim S1 (fun (r : Int32 × sm_H) => res = (some (.int r.1), r.2))) r) : Ex (P_G L xs) (RUN L xs d) (sm_lk P_t50) 0 70 [some (.ref 10), none, none, none, none, none, some (.ref s.1), some (.int s.2.1), some (.int s.2.2.1)] [] s.2.2.2 res := by
  unfold F_50_70B at hf
  refine Ex.seg 2 (pc' := 74) (lc' := [some (.ref 10), none, none, none, none, none, some (.ref s.1), some (.int s.2.1), some (.int s.2.2.1)]) (st' := [.ref s.1, .int s.2.2.1]) (h' := s.2.2.2) (sg1 rfl rfl (sg1 rfl rfl rfl)) ?_
  have g12 : sm_is G0 s.2.2.2 s.1 5 = true := Classical.byContradiction (fun z => by rw [if_pos z] at hf; cases hf)
  rw [if_neg (fun z => z g12)] at hf
  obtain ⟨q11, e_q11, hf⟩ := bnd hf
  refine Ex.callV (a := s.1) (As := []) (r := [.int s.2.2.1]) (v := some (.int q11.1)) (h' := q11.2) rfl rfl (by decide) rfl (Nat.le_of_ble_eq_true rfl) g12 (E_136 (Nat.le_trans (by decide) hd) e_q11) rfl ?_
  refine Ex.icmp rfl rfl (fun (c0 : q11.1 ≤ s.2.2.1) => ?_) (fun (c0 : ¬ (q11.1 ≤ s.2.2.1)) => ?_)
  · rw [if_pos c0] at hf
    obtain ⟨r0, hf0, rfl⟩ := Option.map_eq_some_iff.mp hf
    exact Ex.weak (sm_le_s (sm_le_s (sm_le_s (sm_le_s (sm_le_s (sm_le_s (sm_le_n (sm_le_s (sm_le_n sm_le_nil))))))))) (B_50_115 hd  hf0 hs)
  · rw [if_neg c0] at hf
    refine Ex.seg 2 (pc' := 84) (lc' := [some (.ref 10), none, none, none, none, none, some (.ref s.1), some (.int s.2.1), some (.int s.2.2.1)]) (st' := [.int 20, .int s.2.2.1]) (h' := q11.2) (sg1 rfl rfl (sg1 rfl rfl rfl)) ?_
    refine Ex.icmp rfl rfl (fun (c0 : 20 ≤ s.2.2.1) => ?_) (fun (c0 : ¬ (20 ≤ s.2.2.1)) => ?_)
    · rw [if_pos c0] at hf
      obtain ⟨r0, hf0, rfl⟩ := Option.map_eq_some_iff.mp hf
      exact Ex.weak (sm_le_s (sm_le_s (sm_le_s (sm_le_s (sm_le_s (sm_le_s (sm_le_n (sm_le_s (sm_le_n sm_le_nil))))))))) (B_50_115 hd  hf0 hs)
    · rw [if_neg c0] at hf
      refine Ex.seg 10 (pc' := 105) (lc' := [some (.ref 10), none, none, none, none, none, some (.ref s.1), some (.int s.2.1), some (.int s.2.2.1)]) (st' := [.int s.2.2.1, .ref s.1, .int (((q11.2.1 10 11) * 20) + s.2.2.1), .ref 16]) (h' := q11.2) (sg1 rfl rfl (sg1 rfl rfl (sg1 rfl rfl (sg1 rfl rfl (sg1 rfl rfl (sg1 rfl rfl (sg1 rfl rfl (sg1 rfl rfl (sg1 rfl rfl (sg1 rfl rfl rfl)))))))))) ?_
      have g14 : sm_is G0 q11.2 s.1 5 = true := Classical.byContradiction (fun z => by rw [if_pos z] at hf; cases hf)
      rw [if_neg (fun z => z g14)] at hf
      obtain ⟨q13, e_q13, hf⟩ := bnd hf
      refine Ex.callV (a := s.1) (As := [.int s.2.2.1]) (r := [.int (((q11.2.1 10 11) * 20) + s.2.2.1), .ref 16]) (v := some (.int q13.1)) (h' := q13.2) rfl rfl (by decide) rfl (Nat.le_of_ble_eq_true rfl) g14 (E_137 (Nat.le_trans (by decide) hd) e_q13) rfl ?_
      obtain ⟨h15, e_h15, hf⟩ := bnd hf
      refine Ex.iast e_h15 rfl rfl ?_
      refine Ex.seg 1 (pc' := 112) (lc' := [some (.ref 10), none, none, none, none, none, some (.ref s.1), some (.int s.2.1), some (.int (s.2.2.1 + 1))]) (st' := []) (h' := h15) (sg1 rfl rfl rfl) ?_
      obtain ⟨v16, e_v16, hf⟩ := bnd hf
      rw [Option.some.inj e_v16]
      refine Ex.seg 1 (pc' := 70) (lc' := [some (.ref 10), none, none, none, none, none, some (.ref s.1), some (.int s.2.1), some (.int v16)]) (st' := []) (h' := h15) (sg1 rfl rfl rfl) ?_
      obtain rfl := Option.some.inj hf
      exact Ex.weak (sm_le_s (sm_le_s (sm_le_s (sm_le_s (sm_le_s (sm_le_s (sm_le_s (sm_le_s (sm_le_s sm_le_nil))))))))) (hS1 _ hs)
theorem B_50_70 {L : Nat} {xs : Nat → Int32} {d : Nat} (hd : 1 ≤ d) {res : Option Value × sm_H} {y6 : Nat} {y7 : Int32} {y8 : Int32}  {h : sm_H} {r : (Int32 × sm_H)} (hf : F_50_70 y6 y7 y8 h = some r) (hs : (fun (r : Int32 × sm_H) => res = (some (.int r.1), r.2)) r) : Ex (P_G L xs) (RUN L xs d) (sm_lk P_t50) 0 70 [some (.ref 10), none, none, none, none, none, some (.ref y6), some (.int y7), some (.int y8)] [] h res := by
  unfold F_50_70 at hf
  exact lp_ok (P := fun (s : (Nat × Int32 × Int32 × sm_H)) => Ex (P_G L xs) (RUN L xs d) (sm_lk P_t50) 0 70 [some (.ref 10), none, none, none, none, none, some (.ref s.1), some (.int s.2.1), some (.int s.2.2.1)] [] s.2.2.2 res) (S := (fun (r : Int32 × sm_H) => res = (some (.int r.1), r.2))) (fun s x hx hsx => by
    intros
    exact B_50_70B hd  (fun _ q => q) hx hsx) 1000000 _ r hf hs
theorem B_50_0 {L : Nat} {xs : Nat → Int32} {d : Nat} (hd : 1 ≤ d) {res : Option Value × sm_H} {x1 : Int32} {x2 : Int32} {x3 : Int32} {x4 : Int64} {x6 : Nat} {x7 : Int32}  {h : sm_H} {r : (Int32 × sm_H)} (hf : F_50_0 x1 x2 x3 x4 x6 x7 h = some r) (hs : (fun (r : Int32 × sm_H) => res = (some (.int r.1), r.2)) r) : Ex (P_G L xs) (RUN L xs d) (sm_lk P_t50) 0 0 [some (.ref 10), some (.int x1), some (.int x2), some (.int x3), some (.long x4), none, some (.ref x6), some (.int x7), none] [] h res := by
  unfold F_50_0 at hf
  refine Ex.seg 3 (pc' := 7) (lc' := [some (.ref 10), some (.int x1), some (.int x2), some (.int x3), some (.long x4), none, some (.ref x6), some (.int x7), none]) (st' := [.int 500, .int (h.1 10 11)]) (h' := h) (sg1 rfl rfl (sg1 rfl rfl (sg1 rfl rfl rfl))) ?_
  refine Ex.icmp rfl rfl (fun (c0 : (h.1 10 11) < 500) => ?_) (fun (c0 : ¬ ((h.1 10 11) < 500)) => ?_)
  · rw [if_pos c0] at hf
    refine Ex.seg 5 (pc' := 21) (lc' := [some (.ref 10), some (.int x1), some (.int x2), some (.int x3), some (.long x4), none, some (.ref x6), some (.int x7), none]) (st' := [.int x1, .int (h.1 10 11), .ref 11]) (h' := h) (sg1 rfl rfl (sg1 rfl rfl (sg1 rfl rfl (sg1 rfl rfl (sg1 rfl rfl rfl))))) ?_
    obtain ⟨h17, e_h17, hf⟩ := bnd hf
    refine Ex.iast e_h17 rfl rfl ?_
    refine Ex.seg 5 (pc' := 31) (lc' := [some (.ref 10), some (.int x1), some (.int x2), some (.int x3), some (.long x4), none, some (.ref x6), some (.int x7), none]) (st' := [.int x2, .int (h17.1 10 11), .ref 12]) (h' := h17) (sg1 rfl rfl (sg1 rfl rfl (sg1 rfl rfl (sg1 rfl rfl (sg1 rfl rfl rfl))))) ?_
    obtain ⟨h18, e_h18, hf⟩ := bnd hf
    refine Ex.iast e_h18 rfl rfl ?_
    refine Ex.seg 5 (pc' := 41) (lc' := [some (.ref 10), some (.int x1), some (.int x2), some (.int x3), some (.long x4), none, some (.ref x6), some (.int x7), none]) (st' := [.int x3, .int (h18.1 10 11), .ref 13]) (h' := h18) (sg1 rfl rfl (sg1 rfl rfl (sg1 rfl rfl (sg1 rfl rfl (sg1 rfl rfl rfl))))) ?_
    obtain ⟨h19, e_h19, hf⟩ := bnd hf
    refine Ex.iast e_h19 rfl rfl ?_
    refine Ex.seg 5 (pc' := 52) (lc' := [some (.ref 10), some (.int x1), some (.int x2), some (.int x3), some (.long x4), none, some (.ref x6), some (.int x7), none]) (st' := [.long x4, .int (h19.1 10 11), .ref 14]) (h' := h19) (sg1 rfl rfl (sg1 rfl rfl (sg1 rfl rfl (sg1 rfl rfl (sg1 rfl rfl rfl))))) ?_
    obtain ⟨h20, e_h20, hf⟩ := bnd hf
    refine Ex.last e_h20 rfl rfl ?_
    refine Ex.seg 5 (pc' := 63) (lc' := [some (.ref 10), some (.int x1), some (.int x2), some (.int x3), some (.long x4), none, some (.ref x6), some (.int x7), none]) (st' := [.ref x6, .int (h20.1 10 11), .ref 15]) (h' := h20) (sg1 rfl rfl (sg1 rfl rfl (sg1 rfl rfl (sg1 rfl rfl (sg1 rfl rfl rfl))))) ?_
    have g22 : sm_is G0 h20 x6 5 = true := Classical.byContradiction (fun z => by rw [if_pos z] at hf; cases hf)
    rw [if_neg (fun z => z g22)] at hf
    obtain ⟨q21, e_q21, hf⟩ := bnd hf
    refine Ex.callV (a := x6) (As := []) (r := [.int (h20.1 10 11), .ref 15]) (v := some (.int q21.1)) (h' := q21.2) rfl rfl (by decide) rfl (Nat.le_of_ble_eq_true rfl) g22 (E_136 (Nat.le_trans (by decide) hd) e_q21) rfl ?_
    obtain ⟨h23, e_h23, hf⟩ := bnd hf
    refine Ex.iast e_h23 rfl rfl ?_
    refine Ex.seg 2 (pc' := 70) (lc' := [some (.ref 10), some (.int x1), some (.int x2), some (.int x3), some (.long x4), none, some (.ref x6), some (.int x7), some (.int 0)]) (st' := []) (h' := h23) (sg1 rfl rfl (sg1 rfl rfl rfl)) ?_
    exact Ex.weak (sm_le_s (sm_le_n (sm_le_n (sm_le_n (sm_le_n (sm_le_s (sm_le_s (sm_le_s (sm_le_s sm_le_nil))))))))) (B_50_70 hd  hf hs)
  · rw [if_neg c0] at hf
    refine Ex.seg 1 (pc' := 11) (lc' := [some (.ref 10), some (.int x1), some (.int x2), some (.int x3), some (.long x4), none, some (.ref x6), some (.int x7), none]) (st' := [.int (-1)]) (h' := h) (sg1 rfl rfl rfl) ?_
    obtain rfl := Option.some.inj hf
    exact Ex.iret rfl rfl (fun c0 => by cases c0) hs
theorem E_50 {L : Nat} {xs : Nat → Int32} {d : Nat} (hd : 2 ≤ d) {x1 : Int32} {x2 : Int32} {x3 : Int32} {x4 : Int64} {x6 : Nat} {x7 : Int32} {h : sm_H} {r : Int32 × sm_H} (hf : F_50 x1 x2 x3 x4 x6 x7 h = some r) : RUN L xs d 50 [.ref 10, .int x1, .int x2, .int x3, .long x4, .ref x6, .int x7] h (some (.int r.1), r.2) := by
  obtain ⟨d, rfl⟩ : ∃ e, d = e + 1 := ⟨d - 1, by omega⟩
  exact ⟨Nat.le_of_ble_eq_true rfl, B_50_0 (by omega) hf rfl⟩
theorem B_52_39B {L : Nat} {xs : Nat → Int32} {d : Nat} (hd : 1 ≤ d) {res : Option Value × sm_H} {S1 : (Int32 × Int32 × Int32 × Int32 × sm_H) → Prop} (hS1 : ∀ s, S1 s → Ex (P_G L xs) (RUN L xs d) (sm_lk P_t52) 0 39 [some (.ref 1), some (.int s.1), some (.int s.2.1), some (.int s.2.2.1), some (.int s.2.2.2.1)] [] s.2.2.2.2 res) {s : (Int32 × Int32 × Int32 × Int32 × sm_H)}  {r : ((Int32 × Int32 × Int32 × Int32 × sm_H) ⊕ (Int32 × sm_H))} (hf : F_52_39B s = some r) (hs : (Sum.elim S1 (fun (r : Int32 × sm_H) => res = (some (.int r.1), r.2))) r) : Ex (P_G L xs) (RUN L xs d) (sm_lk P_t52) 0 39 [some (.ref 1), some (.int s.1), some (.int s.2.1), some (.int s.2.2.1), some (.int s.2.2.2.1)] [] s.2.2.2.2 res := by
  unfold F_52_39B at hf
  refine Ex.seg 2 (pc' := 43) (lc' := [some (.ref 1), some (.int s.1), some (.int s.2.1), some (.int s.2.2.1), some (.int s.2.2.2.1)]) (st' := [.int 32, .int s.2.2.2.1]) (h' := s.2.2.2.2) (sg1 rfl rfl (sg1 rfl rfl rfl)) ?_
  refine Ex.icmp rfl rfl (fun (c0 : 32 ≤ s.2.2.2.1) => ?_) (fun (c0 : ¬ (32 ≤ s.2.2.2.1)) => ?_)
  · rw [if_pos c0] at hf
    refine Ex.seg 8 (pc' := 87) (lc' := [some (.ref 1), some (.int s.1), some (.int s.2.1), some (.int s.2.2.1), some (.int s.2.2.2.1)]) (st' := [.int 1, .int ((s.2.2.1 * 32) + s.2.2.1), .ref 2]) (h' := s.2.2.2.2) (sg1 rfl rfl (sg1 rfl rfl (sg1 rfl rfl (sg1 rfl rfl (sg1 rfl rfl (sg1 rfl rfl (sg1 rfl rfl (sg1 rfl rfl rfl)))))))) ?_
    obtain ⟨h1, e_h1, hf⟩ := bnd hf
    refine Ex.zast e_h1 rfl rfl ?_
    refine Ex.seg 4 (pc' := 94) (lc' := [some (.ref 1), some (.int s.1), some (.int s.2.1), some (.int s.2.2.1), some (.int s.2.2.2.1)]) (st' := [.int s.1, .int s.2.2.1, .ref 3]) (h' := h1) (sg1 rfl rfl (sg1 rfl rfl (sg1 rfl rfl (sg1 rfl rfl rfl)))) ?_
    obtain ⟨h2, e_h2, hf⟩ := bnd hf
    refine Ex.iast e_h2 rfl rfl ?_
    refine Ex.seg 4 (pc' := 101) (lc' := [some (.ref 1), some (.int s.1), some (.int s.2.1), some (.int s.2.2.1), some (.int s.2.2.2.1)]) (st' := [.int s.2.1, .int s.2.2.1, .ref 4]) (h' := h2) (sg1 rfl rfl (sg1 rfl rfl (sg1 rfl rfl (sg1 rfl rfl rfl)))) ?_
    obtain ⟨h3, e_h3, hf⟩ := bnd hf
    refine Ex.iast e_h3 rfl rfl ?_
    refine Ex.seg 6 (pc' := 112) (lc' := [some (.ref 1), some (.int s.1), some (.int s.2.1), some (.int s.2.2.1), some (.int s.2.2.2.1)]) (st' := []) (h' := (sm_wI h3 1 3 ((h3.1 1 3) + 1))) (sg1 rfl rfl (sg1 rfl rfl (sg1 rfl rfl (sg1 rfl rfl (sg1 rfl rfl (sg1 rfl rfl rfl)))))) ?_
    obtain ⟨h4, e_h4, hf⟩ := bnd hf
    rw [Option.some.inj e_h4]
    refine Ex.seg 1 (pc' := 113) (lc' := [some (.ref 1), some (.int s.1), some (.int s.2.1), some (.int s.2.2.1), some (.int s.2.2.2.1)]) (st' := [.int s.2.2.1]) (h' := h4) (sg1 rfl rfl rfl) ?_
    obtain rfl := Option.some.inj hf
    exact Ex.iret rfl rfl (fun c0 => by cases c0) hs
  · rw [if_neg c0] at hf
    refine Ex.seg 14 (pc' := 68) (lc' := [some (.ref 1), some (.int s.1), some (.int s.2.1), some (.int s.2.2.1), some (.int s.2.2.2.1)]) (st' := [.int ((s.1 * 32) + s.2.2.2.1), .ref 2, .int ((s.2.2.1 * 32) + s.2.2.2.1), .ref 2]) (h' := s.2.2.2.2) (sg1 rfl rfl (sg1 rfl rfl (sg1 rfl rfl (sg1 rfl rfl (sg1 rfl rfl (sg1 rfl rfl (sg1 rfl rfl (sg1 rfl rfl (sg1 rfl rfl (sg1 rfl rfl (sg1 rfl rfl (sg1 rfl rfl (sg1 rfl rfl (sg1 rfl rfl rfl)))))))))))))) ?_
    obtain ⟨v5, e_v5, hf⟩ := bnd hf
    refine Ex.zald e_v5 rfl rfl ?_
    obtain ⟨h6, e_h6, hf⟩ := bnd hf
    refine Ex.zast e_h6 rfl rfl ?_
    refine Ex.seg 1 (pc' := 73) (lc' := [some (.ref 1), some (.int s.1), some (.int s.2.1), some (.int s.2.2.1), some (.int (s.2.2.2.1 + 1))]) (st' := []) (h' := h6) (sg1 rfl rfl rfl) ?_
    obtain ⟨v7, e_v7, hf⟩ := bnd hf
    rw [Option.some.inj e_v7]
    refine Ex.seg 1 (pc' := 39) (lc' := [some (.ref 1), some (.int s.1), some (.int s.2.1), some (.int s.2.2.1), some (.int v7)]) (st' := []) (h' := h6) (sg1 rfl rfl rfl) ?_
    obtain rfl := Option.some.inj hf
    exact Ex.weak (sm_le_s (sm_le_s (sm_le_s (sm_le_s (sm_le_s sm_le_nil))))) (hS1 _ hs)
theorem B_52_39 {L : Nat} {xs : Nat → Int32} {d : Nat} (hd : 1 ≤ d) {res : Option Value × sm_H} {y1 : Int32} {y2 : Int32} {y3 : Int32} {y4 : Int32}  {h : sm_H} {r : (Int32 × sm_H)} (hf : F_52_39 y1 y2 y3 y4 h = some r) (hs : (fun (r : Int32 × sm_H) => res = (some (.int r.1), r.2)) r) : Ex (P_G L xs) (RUN L xs d) (sm_lk P_t52) 0 39 [some (.ref 1), some (.int y1), some (.int y2), some (.int y3), some (.int y4)] [] h res := by
  unfold F_52_39 at hf
  exact lp_ok (P := fun (s : (Int32 × Int32 × Int32 × Int32 × sm_H)) => Ex (P_G L xs) (RUN L xs d) (sm_lk P_t52) 0 39 [some (.ref 1), some (.int s.1), some (.int s.2.1), some (.int s.2.2.1), some (.int s.2.2.2.1)] [] s.2.2.2.2 res) (S := (fun (r : Int32 × sm_H) => res = (some (.int r.1), r.2))) (fun s x hx hsx => by
    intros
    exact B_52_39B hd  (fun _ q => q) hx hsx) 1000000 _ r hf hs
theorem B_52_31 {L : Nat} {xs : Nat → Int32} {d : Nat} (hd : 1 ≤ d) {res : Option Value × sm_H} {y1 : Int32} {y2 : Int32}  {h : sm_H} {r : (Int32 × sm_H)} (hf : F_52_31 y1 y2 h = some r) (hs : (fun (r : Int32 × sm_H) => res = (some (.int r.1), r.2)) r) : Ex (P_G L xs) (RUN L xs d) (sm_lk P_t52) 0 31 [some (.ref 1), some (.int y1), some (.int y2), none, none] [] h res := by
  unfold F_52_31 at hf
  refine Ex.seg 3 (pc' := 36) (lc' := [some (.ref 1), some (.int y1), some (.int y2), some (.int (h.1 1 3)), none]) (st' := []) (h' := h) (sg1 rfl rfl (sg1 rfl rfl (sg1 rfl rfl rfl))) ?_
  obtain ⟨v8, e_v8, hf⟩ := bnd hf
  rw [Option.some.inj e_v8]
  refine Ex.seg 2 (pc' := 39) (lc' := [some (.ref 1), some (.int y1), some (.int y2), some (.int v8), some (.int 0)]) (st' := []) (h' := h) (sg1 rfl rfl (sg1 rfl rfl rfl)) ?_
  exact Ex.weak (sm_le_s (sm_le_s (sm_le_s (sm_le_s (sm_le_s sm_le_nil))))) (B_52_39 hd  hf hs)
theorem B_52_29 {L : Nat} {xs : Nat → Int32} {d : Nat} (hd : 1 ≤ d) {res : Option Value × sm_H}   {h : sm_H} {r : (Int32 × sm_H)} (hf : F_52_29  h = some r) (hs : (fun (r : Int32 × sm_H) => res = (some (.int r.1), r.2)) r) : Ex (P_G L xs) (RUN L xs d) (sm_lk P_t52) 0 29 [none, none, none, none, none] [] h res := by
  unfold F_52_29 at hf
  refine Ex.seg 1 (pc' := 30) (lc' := [none, none, none, none, none]) (st' := [.int (-1)]) (h' := h) (sg1 rfl rfl rfl) ?_
  obtain rfl := Option.some.inj hf
  exact Ex.iret rfl rfl (fun c0 => by cases c0) hs
theorem B_52_0 {L : Nat} {xs : Nat → Int32} {d : Nat} (hd : 1 ≤ d) {res : Option Value × sm_H} {x1 : Int32} {x2 : Int32}  {h : sm_H} {r : (Int32 × sm_H)} (hf : F_52_0 x1 x2 h = some r) (hs : (fun (r : Int32 × sm_H) => res = (some (.int r.1), r.2)) r) : Ex (P_G L xs) (RUN L xs d) (sm_lk P_t52) 0 0 [some (.ref 1), some (.int x1), some (.int x2), none, none] [] h res := by
  unfold F_52_0 at hf
  refine Ex.seg 3 (pc' := 6) (lc' := [some (.ref 1), some (.int x1), some (.int x2), none, none]) (st' := [.int 32, .int (h.1 1 3)]) (h' := h) (sg1 rfl rfl (sg1 rfl rfl (sg1 rfl rfl rfl))) ?_
  refine Ex.icmp rfl rfl (fun (c0 : 32 ≤ (h.1 1 3)) => ?_) (fun (c0 : ¬ (32 ≤ (h.1 1 3))) => ?_)
  · rw [if_pos c0] at hf
    exact Ex.weak (sm_le_n (sm_le_n (sm_le_n (sm_le_s (sm_le_s sm_le_nil))))) (B_52_29 hd  hf hs)
  · rw [if_neg c0] at hf
    refine Ex.seg 2 (pc' := 12) (lc' := [some (.ref 1), some (.int x1), some (.int x2), none, none]) (st' := [.int 7, .int x1]) (h' := h) (sg1 rfl rfl (sg1 rfl rfl rfl)) ?_
    refine Ex.icmp rfl rfl (fun (c0 : x1 = 7) => ?_) (fun (c0 : ¬ (x1 = 7)) => ?_)
    · rw [if_pos c0] at hf
      exact Ex.weak (sm_le_s (sm_le_s (sm_le_s (sm_le_s (sm_le_s sm_le_nil))))) (B_52_31 hd  hf hs)
    · rw [if_neg c0] at hf
      refine Ex.seg 2 (pc' := 18) (lc' := [some (.ref 1), some (.int x1), some (.int x2), none, none]) (st' := [.int 19, .int x1]) (h' := h) (sg1 rfl rfl (sg1 rfl rfl rfl)) ?_
      refine Ex.icmp rfl rfl (fun (c0 : x1 = 19) => ?_) (fun (c0 : ¬ (x1 = 19)) => ?_)
      · rw [if_pos c0] at hf
        exact Ex.weak (sm_le_s (sm_le_s (sm_le_s (sm_le_s (sm_le_s sm_le_nil))))) (B_52_31 hd  hf hs)
      · rw [if_neg c0] at hf
        refine Ex.seg 2 (pc' := 23) (lc' := [some (.ref 1), some (.int x1), some (.int x2), none, none]) (st' := [.int x1, .ref 1]) (h' := h) (sg1 rfl rfl (sg1 rfl rfl rfl)) ?_
        obtain ⟨q9, e_q9, hf⟩ := bnd hf
        refine Ex.callV (a := 1) (As := [.int x1]) (r := []) (v := some (.int q9.1)) (h' := q9.2) rfl rfl (by decide) rfl (Nat.le_of_ble_eq_true rfl) rfl (E_55 (Nat.le_trans (by decide) hd) e_q9) rfl ?_
        refine Ex.ifc rfl rfl (fun (c0 : ¬ (q9.1 = 0)) => ?_) (fun (c0 : ¬ ¬ (q9.1 = 0)) => ?_)
        · rw [if_neg c0] at hf
          exact Ex.weak (sm_le_s (sm_le_s (sm_le_s (sm_le_s (sm_le_s sm_le_nil))))) (B_52_31 hd  hf hs)
        · rw [if_pos (Classical.not_not.mp c0)] at hf
          exact Ex.weak (sm_le_n (sm_le_n (sm_le_n (sm_le_s (sm_le_s sm_le_nil))))) (B_52_29 hd  hf hs)
theorem E_52 {L : Nat} {xs : Nat → Int32} {d : Nat} (hd : 2 ≤ d) {x1 : Int32} {x2 : Int32} {h : sm_H} {r : Int32 × sm_H} (hf : F_52 x1 x2 h = some r) : RUN L xs d 52 [.ref 1, .int x1, .int x2] h (some (.int r.1), r.2) := by
  obtain ⟨d, rfl⟩ : ∃ e, d = e + 1 := ⟨d - 1, by omega⟩
  exact ⟨Nat.le_of_ble_eq_true rfl, B_52_0 (by omega) hf rfl⟩
theorem B_64_49 {L : Nat} {xs : Nat → Int32} {d : Nat} (hd : 1 ≤ d) {res : Option Value × sm_H}   {h : sm_H} {r : (Int32 × sm_H)} (hf : F_64_49  h = some r) (hs : (fun (r : Int32 × sm_H) => res = (some (.int r.1), r.2)) r) : Ex (P_G L xs) (RUN L xs d) (sm_lk P_t64) 3 49 [none, none, none, none] [] h res := by
  unfold F_64_49 at hf
  refine Ex.seg 1 (pc' := 50) (lc' := [none, none, none, none]) (st' := [.int 1]) (h' := h) (sg1 rfl rfl rfl) ?_
  obtain rfl := Option.some.inj hf
  exact Ex.iret rfl rfl (fun _ => by decide) hs
theorem B_64_164 {L : Nat} {xs : Nat → Int32} {d : Nat} (hd : 1 ≤ d) {res : Option Value × sm_H} {z0 : Int32}  {h : sm_H} {r : (Int32 × sm_H)} (hf : F_64_164 z0 h = some r) (hs : (fun (r : Int32 × sm_H) => res = (some (.int r.1), r.2)) r) : Ex (P_G L xs) (RUN L xs d) (sm_lk P_t64) 3 164 [none, none, none, none] [.int z0] h res := by
  unfold F_64_164 at hf
  rcases Classical.em (z0 = 0 ∨ z0 = 1) with c0 | c0
  · rw [if_pos c0] at hf
    obtain rfl := Option.some.inj hf
    exact Ex.iret rfl rfl (fun _ => c0) hs
  · rw [if_neg c0] at hf
    cases hf
theorem B_64_163 {L : Nat} {xs : Nat → Int32} {d : Nat} (hd : 1 ≤ d) {res : Option Value × sm_H}   {h : sm_H} {r : (Int32 × sm_H)} (hf : F_64_163  h = some r) (hs : (fun (r : Int32 × sm_H) => res = (some (.int r.1), r.2)) r) : Ex (P_G L xs) (RUN L xs d) (sm_lk P_t64) 3 163 [none, none, none, none] [] h res := by
  unfold F_64_163 at hf
  refine Ex.seg 1 (pc' := 164) (lc' := [none, none, none, none]) (st' := [.int 0]) (h' := h) (sg1 rfl rfl rfl) ?_
  exact Ex.weak (sm_le_s (sm_le_s (sm_le_s (sm_le_s sm_le_nil)))) (B_64_164 hd  hf hs)
theorem B_64_159 {L : Nat} {xs : Nat → Int32} {d : Nat} (hd : 1 ≤ d) {res : Option Value × sm_H}   {h : sm_H} {r : (Int32 × sm_H)} (hf : F_64_159  h = some r) (hs : (fun (r : Int32 × sm_H) => res = (some (.int r.1), r.2)) r) : Ex (P_G L xs) (RUN L xs d) (sm_lk P_t64) 3 159 [none, none, none, none] [] h res := by
  unfold F_64_159 at hf
  refine Ex.seg 2 (pc' := 164) (lc' := [none, none, none, none]) (st' := [.int 1]) (h' := h) (sg1 rfl rfl (sg1 rfl rfl rfl)) ?_
  exact Ex.weak (sm_le_s (sm_le_s (sm_le_s (sm_le_s sm_le_nil)))) (B_64_164 hd  hf hs)
theorem B_64_126 {L : Nat} {xs : Nat → Int32} {d : Nat} (hd : 1 ≤ d) {res : Option Value × sm_H} {z0 : Int32}  {h : sm_H} {r : (Int32 × sm_H)} (hf : F_64_126 z0 h = some r) (hs : (fun (r : Int32 × sm_H) => res = (some (.int r.1), r.2)) r) : Ex (P_G L xs) (RUN L xs d) (sm_lk P_t64) 3 126 [none, none, none, none] [.int z0] h res := by
  unfold F_64_126 at hf
  rcases Classical.em (z0 = 0 ∨ z0 = 1) with c0 | c0
  · rw [if_pos c0] at hf
    obtain rfl := Option.some.inj hf
    exact Ex.iret rfl rfl (fun _ => c0) hs
  · rw [if_neg c0] at hf
    cases hf
theorem B_64_121 {L : Nat} {xs : Nat → Int32} {d : Nat} (hd : 1 ≤ d) {res : Option Value × sm_H}   {h : sm_H} {r : (Int32 × sm_H)} (hf : F_64_121  h = some r) (hs : (fun (r : Int32 × sm_H) => res = (some (.int r.1), r.2)) r) : Ex (P_G L xs) (RUN L xs d) (sm_lk P_t64) 3 121 [none, none, none, none] [] h res := by
  unfold F_64_121 at hf
  refine Ex.seg 2 (pc' := 126) (lc' := [none, none, none, none]) (st' := [.int 1]) (h' := h) (sg1 rfl rfl (sg1 rfl rfl rfl)) ?_
  exact Ex.weak (sm_le_s (sm_le_s (sm_le_s (sm_le_s sm_le_nil)))) (B_64_126 hd  hf hs)
theorem B_64_82 {L : Nat} {xs : Nat → Int32} {d : Nat} (hd : 1 ≤ d) {res : Option Value × sm_H} {y1 : Int32} {y2 : Int32} {y3 : Int32}  {h : sm_H} {r : (Int32 × sm_H)} (hf : F_64_82 y1 y2 y3 h = some r) (hs : (fun (r : Int32 × sm_H) => res = (some (.int r.1), r.2)) r) : Ex (P_G L xs) (RUN L xs d) (sm_lk P_t64) 3 82 [some (.ref 1), some (.int y1), some (.int y2), some (.int y3)] [] h res := by
  unfold F_64_82 at hf
  refine Ex.seg 2 (pc' := 85) (lc' := [some (.ref 1), some (.int y1), some (.int y2), some (.int y3)]) (st' := [.int 6, .int y1]) (h' := h) (sg1 rfl rfl (sg1 rfl rfl rfl)) ?_
  refine Ex.icmp rfl rfl (fun (c0 : 6 < y1) => ?_) (fun (c0 : ¬ (6 < y1)) => ?_)
  · rw [if_pos c0] at hf
    refine Ex.seg 2 (pc' := 101) (lc' := [some (.ref 1), some (.int y1), some (.int y2), some (.int y3)]) (st' := [.int 8, .int y1]) (h' := h) (sg1 rfl rfl (sg1 rfl rfl rfl)) ?_
    refine Ex.icmp rfl rfl (fun (c0 : ¬ (y1 = 8)) => ?_) (fun (c0 : ¬ ¬ (y1 = 8)) => ?_)
    · rw [if_neg c0] at hf
      refine Ex.seg 2 (pc' := 129) (lc' := [some (.ref 1), some (.int y1), some (.int y2), some (.int y3)]) (st' := [.int y1, .ref 1]) (h' := h) (sg1 rfl rfl (sg1 rfl rfl rfl)) ?_
      obtain ⟨q1, e_q1, hf⟩ := bnd hf
      refine Ex.callV (a := 1) (As := [.int y1]) (r := []) (v := some (.int q1.1)) (h' := q1.2) rfl rfl (by decide) rfl (Nat.le_of_ble_eq_true rfl) rfl (E_58 (Nat.le_trans (by decide) hd) e_q1) rfl ?_
      refine Ex.ifc rfl rfl (fun (c0 : q1.1 = 0) => ?_) (fun (c0 : ¬ (q1.1 = 0)) => ?_)
      · rw [if_pos c0] at hf
        exact Ex.weak (sm_le_n (sm_le_n (sm_le_n (sm_le_n sm_le_nil)))) (B_64_163 hd  hf hs)
      · rw [if_neg c0] at hf
        refine Ex.seg 1 (pc' := 136) (lc' := [some (.ref 1), some (.int y1), some (.int y2), some (.int y3)]) (st' := [.int y3]) (h' := q1.2) (sg1 rfl rfl rfl) ?_
        refine Ex.ifc rfl rfl (fun (c0 : ¬ (y3 = 0)) => ?_) (fun (c0 : ¬ ¬ (y3 = 0)) => ?_)
        · rw [if_neg c0] at hf
          exact Ex.weak (sm_le_n (sm_le_n (sm_le_n (sm_le_n sm_le_nil)))) (B_64_159 hd  hf hs)
        · rw [if_pos (Classical.not_not.mp c0)] at hf
          refine Ex.seg 4 (pc' := 144) (lc' := [some (.ref 1), some (.int y1), some (.int y2), some (.int y3)]) (st' := [.int y2, .int (y1 - 8)]) (h' := q1.2) (sg1 rfl rfl (sg1 rfl rfl (sg1 rfl rfl (sg1 rfl rfl rfl)))) ?_
          refine Ex.icmp rfl rfl (fun (c0 : (y1 - 8) = y2) => ?_) (fun (c0 : ¬ ((y1 - 8) = y2)) => ?_)
          · rw [if_pos c0] at hf
            exact Ex.weak (sm_le_n (sm_le_n (sm_le_n (sm_le_n sm_le_nil)))) (B_64_159 hd  hf hs)
          · rw [if_neg c0] at hf
            refine Ex.seg 5 (pc' := 153) (lc' := [some (.ref 1), some (.int y1), some (.int y2), some (.int y3)]) (st' := [.int y2, .int (y1 - 8), .ref 1]) (h' := q1.2) (sg1 rfl rfl (sg1 rfl rfl (sg1 rfl rfl (sg1 rfl rfl (sg1 rfl rfl rfl))))) ?_
            obtain ⟨q2, e_q2, hf⟩ := bnd hf
            refine Ex.callV (a := 1) (As := [.int (y1 - 8), .int y2]) (r := []) (v := some (.int q2.1)) (h' := q2.2) rfl rfl (by decide) rfl (Nat.le_of_ble_eq_true rfl) rfl (E_67 (Nat.le_trans (by decide) hd) e_q2) rfl ?_
            refine Ex.ifc rfl rfl (fun (c0 : q2.1 = 0) => ?_) (fun (c0 : ¬ (q2.1 = 0)) => ?_)
            · rw [if_pos c0] at hf
              exact Ex.weak (sm_le_n (sm_le_n (sm_le_n (sm_le_n sm_le_nil)))) (B_64_163 hd  hf hs)
            · rw [if_neg c0] at hf
              exact Ex.weak (sm_le_n (sm_le_n (sm_le_n (sm_le_n sm_le_nil)))) (B_64_159 hd  hf hs)
    · rw [if_pos (Classical.not_not.mp c0)] at hf
      refine Ex.seg 1 (pc' := 105) (lc' := [some (.ref 1), some (.int y1), some (.int y2), some (.int y3)]) (st' := [.int y3]) (h' := h) (sg1 rfl rfl rfl) ?_
      refine Ex.ifc rfl rfl (fun (c0 : ¬ (y3 = 0)) => ?_) (fun (c0 : ¬ ¬ (y3 = 0)) => ?_)
      · rw [if_neg c0] at hf
        exact Ex.weak (sm_le_n (sm_le_n (sm_le_n (sm_le_n sm_le_nil)))) (B_64_121 hd  hf hs)
      · rw [if_pos (Classical.not_not.mp c0)] at hf
        refine Ex.seg 5 (pc' := 115) (lc' := [some (.ref 1), some (.int y1), some (.int y2), some (.int y3)]) (st' := [.int 8, .int (y2 + 8), .ref 1]) (h' := h) (sg1 rfl rfl (sg1 rfl rfl (sg1 rfl rfl (sg1 rfl rfl (sg1 rfl rfl rfl))))) ?_
        obtain ⟨q3, e_q3, hf⟩ := bnd hf
        refine Ex.callV (a := 1) (As := [.int (y2 + 8), .int 8]) (r := []) (v := some (.int q3.1)) (h' := q3.2) rfl rfl (by decide) rfl (Nat.le_of_ble_eq_true rfl) rfl (E_60 (Nat.le_trans (by decide) hd) e_q3) rfl ?_
        refine Ex.ifc rfl rfl (fun (c0 : q3.1 = 0) => ?_) (fun (c0 : ¬ (q3.1 = 0)) => ?_)
        · rw [if_pos c0] at hf
          refine Ex.seg 1 (pc' := 126) (lc' := [some (.ref 1), some (.int y1), some (.int y2), some (.int y3)]) (st' := [.int 0]) (h' := q3.2) (sg1 rfl rfl rfl) ?_
          exact Ex.weak (sm_le_n (sm_le_n (sm_le_n (sm_le_n sm_le_nil)))) (B_64_126 hd  hf hs)
        · rw [if_neg c0] at hf
          exact Ex.weak (sm_le_n (sm_le_n (sm_le_n (sm_le_n sm_le_nil)))) (B_64_121 hd  hf hs)
  · rw [if_neg c0] at hf
    refine Ex.seg 5 (pc' := 94) (lc' := [some (.ref 1), some (.int y1), some (.int y2), some (.int y3)]) (st' := [.int y2, .int (y1 + 8), .ref 1]) (h' := h) (sg1 rfl rfl (sg1 rfl rfl (sg1 rfl rfl (sg1 rfl rfl (sg1 rfl rfl rfl))))) ?_
    obtain ⟨q4, e_q4, hf⟩ := bnd hf
    refine Ex.callV (a := 1) (As := [.int (y1 + 8), .int y2]) (r := []) (v := some (.int q4.1)) (h' := q4.2) rfl rfl (by decide) rfl (Nat.le_of_ble_eq_true rfl) rfl (E_60 (Nat.le_trans (by decide) hd) e_q4) rfl ?_
    rcases Classical.em (q4.1 = 0 ∨ q4.1 = 1) with c0 | c0
    · rw [if_pos c0] at hf
      obtain rfl := Option.some.inj hf
      exact Ex.iret rfl rfl (fun _ => c0) hs
    · rw [if_neg c0] at hf
      cases hf
theorem B_64_81 {L : Nat} {xs : Nat → Int32} {d : Nat} (hd : 1 ≤ d) {res : Option Value × sm_H} {z0 : Int32}  {h : sm_H} {r : (Int32 × sm_H)} (hf : F_64_81 z0 h = some r) (hs : (fun (r : Int32 × sm_H) => res = (some (.int r.1), r.2)) r) : Ex (P_G L xs) (RUN L xs d) (sm_lk P_t64) 3 81 [none, none, none, none] [.int z0] h res := by
  unfold F_64_81 at hf
  rcases Classical.em (z0 = 0 ∨ z0 = 1) with c0 | c0
  · rw [if_pos c0] at hf
    obtain rfl := Option.some.inj hf
    exact Ex.iret rfl rfl (fun _ => c0) hs
  · rw [if_neg c0] at hf
    cases hf
theorem B_64_76 {L : Nat} {xs : Nat → Int32} {d : Nat} (hd : 1 ≤ d) {res : Option Value × sm_H}   {h : sm_H} {r : (Int32 × sm_H)} (hf : F_64_76  h = some r) (hs : (fun (r : Int32 × sm_H) => res = (some (.int r.1), r.2)) r) : Ex (P_G L xs) (RUN L xs d) (sm_lk P_t64) 3 76 [none, none, none, none] [] h res := by
  unfold F_64_76 at hf
  refine Ex.seg 2 (pc' := 81) (lc' := [none, none, none, none]) (st' := [.int 1]) (h' := h) (sg1 rfl rfl (sg1 rfl rfl rfl)) ?_
  exact Ex.weak (sm_le_s (sm_le_s (sm_le_s (sm_le_s sm_le_nil)))) (B_64_81 hd  hf hs)
theorem B_64_43 {L : Nat} {xs : Nat → Int32} {d : Nat} (hd : 1 ≤ d) {res : Option Value × sm_H} {y1 : Int32} {y2 : Int32} {y3 : Int32}  {h : sm_H} {r : (Int32 × sm_H)} (hf : F_64_43 y1 y2 y3 h = some r) (hs : (fun (r : Int32 × sm_H) => res = (some (.int r.1), r.2)) r) : Ex (P_G L xs) (RUN L xs d) (sm_lk P_t64) 3 43 [some (.ref 1), some (.int y1), some (.int y2), some (.int y3)] [] h res := by
  unfold F_64_43 at hf
  refine Ex.seg 2 (pc' := 46) (lc' := [some (.ref 1), some (.int y1), some (.int y2), some (.int y3)]) (st' := [.int 7, .int y1]) (h' := h) (sg1 rfl rfl (sg1 rfl rfl rfl)) ?_
  refine Ex.icmp rfl rfl (fun (c0 : ¬ (y1 = 7)) => ?_) (fun (c0 : ¬ ¬ (y1 = 7)) => ?_)
  · rw [if_neg c0] at hf
    refine Ex.seg 2 (pc' := 54) (lc' := [some (.ref 1), some (.int y1), some (.int y2), some (.int y3)]) (st' := [.int 6, .int y1]) (h' := h) (sg1 rfl rfl (sg1 rfl rfl rfl)) ?_
    refine Ex.icmp rfl rfl (fun (c0 : 6 < y1) => ?_) (fun (c0 : ¬ (6 < y1)) => ?_)
    · rw [if_pos c0] at hf
      exact Ex.weak (sm_le_s (sm_le_s (sm_le_s (sm_le_s sm_le_nil)))) (B_64_82 hd  hf hs)
    · rw [if_neg c0] at hf
      refine Ex.seg 2 (pc' := 60) (lc' := [some (.ref 1), some (.int y1), some (.int y2), some (.int y3)]) (st' := [.int 6, .int y2]) (h' := h) (sg1 rfl rfl (sg1 rfl rfl rfl)) ?_
      refine Ex.icmp rfl rfl (fun (c0 : 6 < y2) => ?_) (fun (c0 : ¬ (6 < y2)) => ?_)
      · rw [if_pos c0] at hf
        exact Ex.weak (sm_le_s (sm_le_s (sm_le_s (sm_le_s sm_le_nil)))) (B_64_82 hd  hf hs)
      · rw [if_neg c0] at hf
        refine Ex.seg 1 (pc' := 64) (lc' := [some (.ref 1), some (.int y1), some (.int y2), some (.int y3)]) (st' := [.int y3]) (h' := h) (sg1 rfl rfl rfl) ?_
        refine Ex.ifc rfl rfl (fun (c0 : ¬ (y3 = 0)) => ?_) (fun (c0 : ¬ ¬ (y3 = 0)) => ?_)
        · rw [if_neg c0] at hf
          exact Ex.weak (sm_le_n (sm_le_n (sm_le_n (sm_le_n sm_le_nil)))) (B_64_76 hd  hf hs)
        · rw [if_pos (Classical.not_not.mp c0)] at hf
          refine Ex.seg 3 (pc' := 70) (lc' := [some (.ref 1), some (.int y1), some (.int y2), some (.int y3)]) (st' := [.int y2, .int y1, .ref 1]) (h' := h) (sg1 rfl rfl (sg1 rfl rfl (sg1 rfl rfl rfl))) ?_
          obtain ⟨q5, e_q5, hf⟩ := bnd hf
          refine Ex.callV (a := 1) (As := [.int y1, .int y2]) (r := []) (v := some (.int q5.1)) (h' := q5.2) rfl rfl (by decide) rfl (Nat.le_of_ble_eq_true rfl) rfl (E_67 (Nat.le_trans (by decide) hd) e_q5) rfl ?_
          refine Ex.ifc rfl rfl (fun (c0 : q5.1 = 0) => ?_) (fun (c0 : ¬ (q5.1 = 0)) => ?_)
          · rw [if_pos c0] at hf
            refine Ex.seg 1 (pc' := 81) (lc' := [some (.ref 1), some (.int y1), some (.int y2), some (.int y3)]) (st' := [.int 0]) (h' := q5.2) (sg1 rfl rfl rfl) ?_
            exact Ex.weak (sm_le_n (sm_le_n (sm_le_n (sm_le_n sm_le_nil)))) (B_64_81 hd  hf hs)
          · rw [if_neg c0] at hf
            exact Ex.weak (sm_le_n (sm_le_n (sm_le_n (sm_le_n sm_le_nil)))) (B_64_76 hd  hf hs)
  · rw [if_pos (Classical.not_not.mp c0)] at hf
    exact Ex.weak (sm_le_n (sm_le_n (sm_le_n (sm_le_n sm_le_nil)))) (B_64_49 hd  hf hs)
theorem B_64_24 {L : Nat} {xs : Nat → Int32} {d : Nat} (hd : 1 ≤ d) {res : Option Value × sm_H}   {h : sm_H} {r : (Int32 × sm_H)} (hf : F_64_24  h = some r) (hs : (fun (r : Int32 × sm_H) => res = (some (.int r.1), r.2)) r) : Ex (P_G L xs) (RUN L xs d) (sm_lk P_t64) 3 24 [none, none, none, none] [] h res := by
  unfold F_64_24 at hf
  refine Ex.seg 1 (pc' := 25) (lc' := [none, none, none, none]) (st' := [.int 0]) (h' := h) (sg1 rfl rfl rfl) ?_
  obtain rfl := Option.some.inj hf
  exact Ex.iret rfl rfl (fun _ => by decide) hs
theorem B_64_0 {L : Nat} {xs : Nat → Int32} {d : Nat} (hd : 1 ≤ d) {res : Option Value × sm_H} {x1 : Int32} {x2 : Int32} {x3 : Int32}  {h : sm_H} {r : (Int32 × sm_H)} (hf : F_64_0 x1 x2 x3 h = some r) (hs : (fun (r : Int32 × sm_H) => res = (some (.int r.1), r.2)) r) : Ex (P_G L xs) (RUN L xs d) (sm_lk P_t64) 3 0 [some (.ref 1), some (.int x1), some (.int x2), some (.int x3)] [] h res := by
  unfold F_64_0 at hf
  refine Ex.seg 1 (pc' := 1) (lc' := [some (.ref 1), some (.int x1), some (.int x2), some (.int x3)]) (st' := [.int x1]) (h' := h) (sg1 rfl rfl rfl) ?_
  refine Ex.ifc rfl rfl (fun (c0 : x1 ≤ 0) => ?_) (fun (c0 : ¬ (x1 ≤ 0)) => ?_)
  · rw [if_pos c0] at hf
    exact Ex.weak (sm_le_n (sm_le_n (sm_le_n (sm_le_n sm_le_nil)))) (B_64_24 hd  hf hs)
  · rw [if_neg c0] at hf
    refine Ex.seg 3 (pc' := 9) (lc' := [some (.ref 1), some (.int x1), some (.int x2), some (.int x3)]) (st' := [.int (h.1 1 3), .int x1]) (h' := h) (sg1 rfl rfl (sg1 rfl rfl (sg1 rfl rfl rfl))) ?_
    refine Ex.icmp rfl rfl (fun (c0 : (h.1 1 3) ≤ x1) => ?_) (fun (c0 : ¬ ((h.1 1 3) ≤ x1)) => ?_)
    · rw [if_pos c0] at hf
      exact Ex.weak (sm_le_n (sm_le_n (sm_le_n (sm_le_n sm_le_nil)))) (B_64_24 hd  hf hs)
    · rw [if_neg c0] at hf
      refine Ex.seg 1 (pc' := 13) (lc' := [some (.ref 1), some (.int x1), some (.int x2), some (.int x3)]) (st' := [.int x2]) (h' := h) (sg1 rfl rfl rfl) ?_
      refine Ex.ifc rfl rfl (fun (c0 : x2 ≤ 0) => ?_) (fun (c0 : ¬ (x2 ≤ 0)) => ?_)
      · rw [if_pos c0] at hf
        exact Ex.weak (sm_le_n (sm_le_n (sm_le_n (sm_le_n sm_le_nil)))) (B_64_24 hd  hf hs)
      · rw [if_neg c0] at hf
        refine Ex.seg 3 (pc' := 21) (lc' := [some (.ref 1), some (.int x1), some (.int x2), some (.int x3)]) (st' := [.int (h.1 1 3), .int x2]) (h' := h) (sg1 rfl rfl (sg1 rfl rfl (sg1 rfl rfl rfl))) ?_
        refine Ex.icmp rfl rfl (fun (c0 : x2 < (h.1 1 3)) => ?_) (fun (c0 : ¬ (x2 < (h.1 1 3))) => ?_)
        · rw [if_pos c0] at hf
          refine Ex.seg 2 (pc' := 28) (lc' := [some (.ref 1), some (.int x1), some (.int x2), some (.int x3)]) (st' := [.int x2, .int x1]) (h' := h) (sg1 rfl rfl (sg1 rfl rfl rfl)) ?_
          refine Ex.icmp rfl rfl (fun (c0 : x1 = x2) => ?_) (fun (c0 : ¬ (x1 = x2)) => ?_)
          · rw [if_pos c0] at hf
            exact Ex.weak (sm_le_n (sm_le_n (sm_le_n (sm_le_n sm_le_nil)))) (B_64_49 hd  hf hs)
          · rw [if_neg c0] at hf
            refine Ex.seg 2 (pc' := 34) (lc' := [some (.ref 1), some (.int x1), some (.int x2), some (.int x3)]) (st' := [.int 7, .int x1]) (h' := h) (sg1 rfl rfl (sg1 rfl rfl rfl)) ?_
            refine Ex.icmp rfl rfl (fun (c0 : x1 < 7) => ?_) (fun (c0 : ¬ (x1 < 7)) => ?_)
            · rw [if_pos c0] at hf
              exact Ex.weak (sm_le_s (sm_le_s (sm_le_s (sm_le_s sm_le_nil)))) (B_64_43 hd  hf hs)
            · rw [if_neg c0] at hf
              refine Ex.seg 2 (pc' := 40) (lc' := [some (.ref 1), some (.int x1), some (.int x2), some (.int x3)]) (st' := [.int 7, .int x2]) (h' := h) (sg1 rfl rfl (sg1 rfl rfl rfl)) ?_
              refine Ex.icmp rfl rfl (fun (c0 : 7 ≤ x2) => ?_) (fun (c0 : ¬ (7 ≤ x2)) => ?_)
              · rw [if_pos c0] at hf
                exact Ex.weak (sm_le_n (sm_le_n (sm_le_n (sm_le_n sm_le_nil)))) (B_64_49 hd  hf hs)
              · rw [if_neg c0] at hf
                exact Ex.weak (sm_le_s (sm_le_s (sm_le_s (sm_le_s sm_le_nil)))) (B_64_43 hd  hf hs)
        · rw [if_neg c0] at hf
          exact Ex.weak (sm_le_n (sm_le_n (sm_le_n (sm_le_n sm_le_nil)))) (B_64_24 hd  hf hs)
theorem E_64 {L : Nat} {xs : Nat → Int32} {d : Nat} (hd : 2 ≤ d) {x1 : Int32} {x2 : Int32} {x3 : Int32} {h : sm_H} {r : Int32 × sm_H} (hf : F_64 x1 x2 x3 h = some r) : RUN L xs d 64 [.ref 1, .int x1, .int x2, .int x3] h (some (.int r.1), r.2) := by
  obtain ⟨d, rfl⟩ : ∃ e, d = e + 1 := ⟨d - 1, by omega⟩
  exact ⟨Nat.le_of_ble_eq_true rfl, B_64_0 (by omega) hf rfl⟩
theorem B_65_39 {L : Nat} {xs : Nat → Int32} {d : Nat} (hd : 2 ≤ d) {res : Option Value × sm_H} {z0 : Int32}  {h : sm_H} {r : (Int32 × sm_H)} (hf : F_65_39 z0 h = some r) (hs : (fun (r : Int32 × sm_H) => res = (some (.int r.1), r.2)) r) : Ex (P_G L xs) (RUN L xs d) (sm_lk P_t65) 3 39 [none, none, none, none] [.int z0] h res := by
  unfold F_65_39 at hf
  rcases Classical.em (z0 = 0 ∨ z0 = 1) with c0 | c0
  · rw [if_pos c0] at hf
    obtain rfl := Option.some.inj hf
    exact Ex.iret rfl rfl (fun _ => c0) hs
  · rw [if_neg c0] at hf
    cases hf
theorem B_65_34 {L : Nat} {xs : Nat → Int32} {d : Nat} (hd : 2 ≤ d) {res : Option Value × sm_H}   {h : sm_H} {r : (Int32 × sm_H)} (hf : F_65_34  h = some r) (hs : (fun (r : Int32 × sm_H) => res = (some (.int r.1), r.2)) r) : Ex (P_G L xs) (RUN L xs d) (sm_lk P_t65) 3 34 [none, none, none, none] [] h res := by
  unfold F_65_34 at hf
  refine Ex.seg 2 (pc' := 39) (lc' := [none, none, none, none]) (st' := [.int 1]) (h' := h) (sg1 rfl rfl (sg1 rfl rfl rfl)) ?_
  exact Ex.weak (sm_le_s (sm_le_s (sm_le_s (sm_le_s sm_le_nil)))) (B_65_39 hd  hf hs)
theorem B_65_24 {L : Nat} {xs : Nat → Int32} {d : Nat} (hd : 2 ≤ d) {res : Option Value × sm_H} {y1 : Int32} {y2 : Int32} {y3 : Int32}  {h : sm_H} {r : (Int32 × sm_H)} (hf : F_65_24 y1 y2 y3 h = some r) (hs : (fun (r : Int32 × sm_H) => res = (some (.int r.1), r.2)) r) : Ex (P_G L xs) (RUN L xs d) (sm_lk P_t65) 3 24 [some (.ref 1), some (.int y1), some (.int y2), some (.int y3)] [] h res := by
  unfold F_65_24 at hf
  refine Ex.seg 4 (pc' := 28) (lc' := [some (.ref 1), some (.int y1), some (.int y2), some (.int y3)]) (st' := [.int y3, .int y2, .int y1, .ref 1]) (h' := h) (sg1 rfl rfl (sg1 rfl rfl (sg1 rfl rfl (sg1 rfl rfl rfl)))) ?_
  obtain ⟨q1, e_q1, hf⟩ := bnd hf
  refine Ex.callV (a := 1) (As := [.int y1, .int y2, .int y3]) (r := []) (v := some (.int q1.1)) (h' := q1.2) rfl rfl (by decide) rfl (Nat.le_of_ble_eq_true rfl) rfl (E_64 (Nat.le_trans (by decide) hd) e_q1) rfl ?_
  refine Ex.ifc rfl rfl (fun (c0 : q1.1 = 0) => ?_) (fun (c0 : ¬ (q1.1 = 0)) => ?_)
  · rw [if_pos c0] at hf
    refine Ex.seg 1 (pc' := 39) (lc' := [some (.ref 1), some (.int y1), some (.int y2), some (.int y3)]) (st' := [.int 0]) (h' := q1.2) (sg1 rfl rfl rfl) ?_
    exact Ex.weak (sm_le_n (sm_le_n (sm_le_n (sm_le_n sm_le_nil)))) (B_65_39 hd  hf hs)
  · rw [if_neg c0] at hf
    exact Ex.weak (sm_le_n (sm_le_n (sm_le_n (sm_le_n sm_le_nil)))) (B_65_34 hd  hf hs)
theorem B_65_12 {L : Nat} {xs : Nat → Int32} {d : Nat} (hd : 2 ≤ d) {res : Option Value × sm_H} {y1 : Int32} {y2 : Int32} {y3 : Int32}  {h : sm_H} {r : (Int32 × sm_H)} (hf : F_65_12 y1 y2 y3 h = some r) (hs : (fun (r : Int32 × sm_H) => res = (some (.int r.1), r.2)) r) : Ex (P_G L xs) (RUN L xs d) (sm_lk P_t65) 3 12 [some (.ref 1), some (.int y1), some (.int y2), some (.int y3)] [] h res := by
  unfold F_65_12 at hf
  refine Ex.seg 1 (pc' := 13) (lc' := [some (.ref 1), some (.int y1), some (.int y2), some (.int y3)]) (st' := [.int y2]) (h' := h) (sg1 rfl rfl rfl) ?_
  refine Ex.ifc rfl rfl (fun (c0 : ¬ (y2 = 0)) => ?_) (fun (c0 : ¬ ¬ (y2 = 0)) => ?_)
  · rw [if_neg c0] at hf
    exact Ex.weak (sm_le_s (sm_le_s (sm_le_s (sm_le_s sm_le_nil)))) (B_65_24 hd  hf hs)
  · rw [if_pos (Classical.not_not.mp c0)] at hf
    refine Ex.seg 2 (pc' := 18) (lc' := [some (.ref 1), some (.int y1), some (.int y2), some (.int y3)]) (st' := [.int y1, .ref 1]) (h' := h) (sg1 rfl rfl (sg1 rfl rfl rfl)) ?_
    obtain ⟨q2, e_q2, hf⟩ := bnd hf
    refine Ex.callV (a := 1) (As := [.int y1]) (r := []) (v := some (.int q2.1)) (h' := q2.2) rfl rfl (by decide) rfl (Nat.le_of_ble_eq_true rfl) rfl (E_53 (Nat.le_trans (by decide) hd) e_q2) rfl ?_
    refine Ex.ifc rfl rfl (fun (c0 : ¬ (q2.1 = 0)) => ?_) (fun (c0 : ¬ ¬ (q2.1 = 0)) => ?_)
    · rw [if_neg c0] at hf
      exact Ex.weak (sm_le_n (sm_le_n (sm_le_n (sm_le_n sm_le_nil)))) (B_65_34 hd  hf hs)
    · rw [if_pos (Classical.not_not.mp c0)] at hf
      exact Ex.weak (sm_le_s (sm_le_s (sm_le_s (sm_le_s sm_le_nil)))) (B_65_24 hd  hf hs)
theorem B_65_0 {L : Nat} {xs : Nat → Int32} {d : Nat} (hd : 2 ≤ d) {res : Option Value × sm_H} {x1 : Int32} {x2 : Int32} {x3 : Int32}  {h : sm_H} {r : (Int32 × sm_H)} (hf : F_65_0 x1 x2 x3 h = some r) (hs : (fun (r : Int32 × sm_H) => res = (some (.int r.1), r.2)) r) : Ex (P_G L xs) (RUN L xs d) (sm_lk P_t65) 3 0 [some (.ref 1), some (.int x1), some (.int x2), some (.int x3)] [] h res := by
  unfold F_65_0 at hf
  refine Ex.seg 1 (pc' := 1) (lc' := [some (.ref 1), some (.int x1), some (.int x2), some (.int x3)]) (st' := [.int x1]) (h' := h) (sg1 rfl rfl rfl) ?_
  refine Ex.ifc rfl rfl (fun (c0 : ¬ (x1 = 0)) => ?_) (fun (c0 : ¬ ¬ (x1 = 0)) => ?_)
  · rw [if_neg c0] at hf
    exact Ex.weak (sm_le_s (sm_le_s (sm_le_s (sm_le_s sm_le_nil)))) (B_65_12 hd  hf hs)
  · rw [if_pos (Classical.not_not.mp c0)] at hf
    refine Ex.seg 2 (pc' := 6) (lc' := [some (.ref 1), some (.int x1), some (.int x2), some (.int x3)]) (st' := [.int x2, .ref 1]) (h' := h) (sg1 rfl rfl (sg1 rfl rfl rfl)) ?_
    obtain ⟨q3, e_q3, hf⟩ := bnd hf
    refine Ex.callV (a := 1) (As := [.int x2]) (r := []) (v := some (.int q3.1)) (h' := q3.2) rfl rfl (by decide) rfl (Nat.le_of_ble_eq_true rfl) rfl (E_53 (Nat.le_trans (by decide) hd) e_q3) rfl ?_
    refine Ex.ifc rfl rfl (fun (c0 : ¬ (q3.1 = 0)) => ?_) (fun (c0 : ¬ ¬ (q3.1 = 0)) => ?_)
    · rw [if_neg c0] at hf
      exact Ex.weak (sm_le_n (sm_le_n (sm_le_n (sm_le_n sm_le_nil)))) (B_65_34 hd  hf hs)
    · rw [if_pos (Classical.not_not.mp c0)] at hf
      exact Ex.weak (sm_le_s (sm_le_s (sm_le_s (sm_le_s sm_le_nil)))) (B_65_12 hd  hf hs)
theorem E_65 {L : Nat} {xs : Nat → Int32} {d : Nat} (hd : 3 ≤ d) {x1 : Int32} {x2 : Int32} {x3 : Int32} {h : sm_H} {r : Int32 × sm_H} (hf : F_65 x1 x2 x3 h = some r) : RUN L xs d 65 [.ref 1, .int x1, .int x2, .int x3] h (some (.int r.1), r.2) := by
  obtain ⟨d, rfl⟩ : ∃ e, d = e + 1 := ⟨d - 1, by omega⟩
  exact ⟨Nat.le_of_ble_eq_true rfl, B_65_0 (by omega) hf rfl⟩
theorem B_66_33 {L : Nat} {xs : Nat → Int32} {d : Nat} (hd : 1 ≤ d) {res : Option Value × sm_H} {z0 : Int32}  {h : sm_H} {r : (Int32 × sm_H)} (hf : F_66_33 z0 h = some r) (hs : (fun (r : Int32 × sm_H) => res = (some (.int r.1), r.2)) r) : Ex (P_G L xs) (RUN L xs d) (sm_lk P_t66) 3 33 [none, none, none] [.int z0] h res := by
  unfold F_66_33 at hf
  rcases Classical.em (z0 = 0 ∨ z0 = 1) with c0 | c0
  · rw [if_pos c0] at hf
    obtain rfl := Option.some.inj hf
    exact Ex.iret rfl rfl (fun _ => c0) hs
  · rw [if_neg c0] at hf
    cases hf
theorem B_66_32 {L : Nat} {xs : Nat → Int32} {d : Nat} (hd : 1 ≤ d) {res : Option Value × sm_H}   {h : sm_H} {r : (Int32 × sm_H)} (hf : F_66_32  h = some r) (hs : (fun (r : Int32 × sm_H) => res = (some (.int r.1), r.2)) r) : Ex (P_G L xs) (RUN L xs d) (sm_lk P_t66) 3 32 [none, none, none] [] h res := by
  unfold F_66_32 at hf
  refine Ex.seg 1 (pc' := 33) (lc' := [none, none, none]) (st' := [.int 0]) (h' := h) (sg1 rfl rfl rfl) ?_
  exact Ex.weak (sm_le_s (sm_le_s (sm_le_s sm_le_nil))) (B_66_33 hd  hf hs)
theorem B_66_28 {L : Nat} {xs : Nat → Int32} {d : Nat} (hd : 1 ≤ d) {res : Option Value × sm_H}   {h : sm_H} {r : (Int32 × sm_H)} (hf : F_66_28  h = some r) (hs : (fun (r : Int32 × sm_H) => res = (some (.int r.1), r.2)) r) : Ex (P_G L xs) (RUN L xs d) (sm_lk P_t66) 3 28 [none, none, none] [] h res := by
  unfold F_66_28 at hf
  refine Ex.seg 2 (pc' := 33) (lc' := [none, none, none]) (st' := [.int 1]) (h' := h) (sg1 rfl rfl (sg1 rfl rfl rfl)) ?_
  exact Ex.weak (sm_le_s (sm_le_s (sm_le_s sm_le_nil))) (B_66_33 hd  hf hs)
theorem B_66_0 {L : Nat} {xs : Nat → Int32} {d : Nat} (hd : 1 ≤ d) {res : Option Value × sm_H} {x1 : Int32} {x2 : Int32}  {h : sm_H} {r : (Int32 × sm_H)} (hf : F_66_0 x1 x2 h = some r) (hs : (fun (r : Int32 × sm_H) => res = (some (.int r.1), r.2)) r) : Ex (P_G L xs) (RUN L xs d) (sm_lk P_t66) 3 0 [some (.ref 1), some (.int x1), some (.int x2)] [] h res := by
  unfold F_66_0 at hf
  refine Ex.seg 2 (pc' := 2) (lc' := [some (.ref 1), some (.int x1), some (.int x2)]) (st' := [.int x1, .ref 1]) (h' := h) (sg1 rfl rfl (sg1 rfl rfl rfl)) ?_
  obtain ⟨q1, e_q1, hf⟩ := bnd hf
  refine Ex.callV (a := 1) (As := [.int x1]) (r := []) (v := some (.int q1.1)) (h' := q1.2) rfl rfl (by decide) rfl (Nat.le_of_ble_eq_true rfl) rfl (E_58 (Nat.le_trans (by decide) hd) e_q1) rfl ?_
  refine Ex.ifc rfl rfl (fun (c0 : q1.1 = 0) => ?_) (fun (c0 : ¬ (q1.1 = 0)) => ?_)
  · rw [if_pos c0] at hf
    exact Ex.weak (sm_le_n (sm_le_n (sm_le_n sm_le_nil))) (B_66_32 hd  hf hs)
  · rw [if_neg c0] at hf
    refine Ex.seg 4 (pc' := 13) (lc' := [some (.ref 1), some (.int x1), some (.int x2)]) (st' := [.int x2, .int (x1 - 8)]) (h' := q1.2) (sg1 rfl rfl (sg1 rfl rfl (sg1 rfl rfl (sg1 rfl rfl rfl)))) ?_
    refine Ex.icmp rfl rfl (fun (c0 : (x1 - 8) = x2) => ?_) (fun (c0 : ¬ ((x1 - 8) = x2)) => ?_)
    · rw [if_pos c0] at hf
      exact Ex.weak (sm_le_n (sm_le_n (sm_le_n sm_le_nil))) (B_66_28 hd  hf hs)
    · rw [if_neg c0] at hf
      refine Ex.seg 5 (pc' := 22) (lc' := [some (.ref 1), some (.int x1), some (.int x2)]) (st' := [.int x2, .int (x1 - 8), .ref 1]) (h' := q1.2) (sg1 rfl rfl (sg1 rfl rfl (sg1 rfl rfl (sg1 rfl rfl (sg1 rfl rfl rfl))))) ?_
      obtain ⟨q2, e_q2, hf⟩ := bnd hf
      refine Ex.callV (a := 1) (As := [.int (x1 - 8), .int x2]) (r := []) (v := some (.int q2.1)) (h' := q2.2) rfl rfl (by decide) rfl (Nat.le_of_ble_eq_true rfl) rfl (E_67 (Nat.le_trans (by decide) hd) e_q2) rfl ?_
      refine Ex.ifc rfl rfl (fun (c0 : q2.1 = 0) => ?_) (fun (c0 : ¬ (q2.1 = 0)) => ?_)
      · rw [if_pos c0] at hf
        exact Ex.weak (sm_le_n (sm_le_n (sm_le_n sm_le_nil))) (B_66_32 hd  hf hs)
      · rw [if_neg c0] at hf
        exact Ex.weak (sm_le_n (sm_le_n (sm_le_n sm_le_nil))) (B_66_28 hd  hf hs)
theorem E_66 {L : Nat} {xs : Nat → Int32} {d : Nat} (hd : 2 ≤ d) {x1 : Int32} {x2 : Int32} {h : sm_H} {r : Int32 × sm_H} (hf : F_66 x1 x2 h = some r) : RUN L xs d 66 [.ref 1, .int x1, .int x2] h (some (.int r.1), r.2) := by
  obtain ⟨d, rfl⟩ : ∃ e, d = e + 1 := ⟨d - 1, by omega⟩
  exact ⟨Nat.le_of_ble_eq_true rfl, B_66_0 (by omega) hf rfl⟩
theorem B_91_52 {L : Nat} {xs : Nat → Int32} {d : Nat} (hd : 2 ≤ d) {res : Option Value × sm_H} {y1 : Int32}  {h : sm_H} {r : (Int32 × sm_H)} (hf : F_91_52 y1 h = some r) (hs : (fun (r : Int32 × sm_H) => res = (some (.int r.1), r.2)) r) : Ex (P_G L xs) (RUN L xs d) (sm_lk P_t91) 0 52 [some (.ref 49), some (.int y1), none] [] h res := by
  unfold F_91_52 at hf
  refine Ex.seg 6 (pc' := 62) (lc' := [some (.ref 49), some (.int y1), none]) (st' := [.int y1, .long (h.2.1 49 9), .ref 1, .ref 49]) (h' := h) (sg1 rfl rfl (sg1 rfl rfl (sg1 rfl rfl (sg1 rfl rfl (sg1 rfl rfl (sg1 rfl rfl rfl)))))) ?_
  obtain ⟨q1, e_q1, hf⟩ := bnd hf
  refine Ex.callV (a := 1) (As := [.long (h.2.1 49 9), .int y1]) (r := [.ref 49]) (v := some (.long q1.1)) (h' := q1.2) rfl rfl (by decide) rfl (Nat.le_of_ble_eq_true rfl) rfl (E_68 (Nat.le_trans (by decide) hd) e_q1) rfl ?_
  refine Ex.seg 1 (pc' := 66) (lc' := [some (.ref 49), some (.int y1), none]) (st' := [.int 0, .long q1.1, .ref 49]) (h' := q1.2) (sg1 rfl rfl rfl) ?_
  obtain ⟨q2, e_q2, hf⟩ := bnd hf
  refine Ex.callV (a := 49) (As := [.long q1.1, .int 0]) (r := []) (v := some (.int q2.1)) (h' := q2.2) rfl rfl (by decide) rfl (Nat.le_of_ble_eq_true rfl) rfl (E_75 (Nat.le_trans (by decide) hd) e_q2) rfl ?_
  refine Ex.seg 2 (pc' := 71) (lc' := [some (.ref 49), some (.int y1), none]) (st' := [.int 0]) (h' := q2.2) (sg1 rfl rfl (sg1 rfl rfl rfl)) ?_
  obtain rfl := Option.some.inj hf
  exact Ex.iret rfl rfl (fun c0 => by cases c0) hs
theorem B_91_50 {L : Nat} {xs : Nat → Int32} {d : Nat} (hd : 2 ≤ d) {res : Option Value × sm_H}   {h : sm_H} {r : (Int32 × sm_H)} (hf : F_91_50  h = some r) (hs : (fun (r : Int32 × sm_H) => res = (some (.int r.1), r.2)) r) : Ex (P_G L xs) (RUN L xs d) (sm_lk P_t91) 0 50 [none, none, none] [] h res := by
  unfold F_91_50 at hf
  refine Ex.seg 1 (pc' := 51) (lc' := [none, none, none]) (st' := [.int 2]) (h' := h) (sg1 rfl rfl rfl) ?_
  obtain rfl := Option.some.inj hf
  exact Ex.iret rfl rfl (fun c0 => by cases c0) hs
theorem B_91_16 {L : Nat} {xs : Nat → Int32} {d : Nat} (hd : 2 ≤ d) {res : Option Value × sm_H} {z0 : Int32}  {h : sm_H} {r : (Int32 × sm_H)} (hf : F_91_16 z0 h = some r) (hs : (fun (r : Int32 × sm_H) => res = (some (.int r.1), r.2)) r) : Ex (P_G L xs) (RUN L xs d) (sm_lk P_t91) 0 16 [none, none, none] [.int z0] h res := by
  unfold F_91_16 at hf
  obtain rfl := Option.some.inj hf
  exact Ex.iret rfl rfl (fun c0 => by cases c0) hs
theorem B_91_0 {L : Nat} {xs : Nat → Int32} {d : Nat} (hd : 2 ≤ d) {res : Option Value × sm_H} {x1 : Int32} {x2 : Int32}  {h : sm_H} {r : (Int32 × sm_H)} (hf : F_91_0 x1 x2 h = some r) (hs : (fun (r : Int32 × sm_H) => res = (some (.int r.1), r.2)) r) : Ex (P_G L xs) (RUN L xs d) (sm_lk P_t91) 0 0 [some (.ref 49), some (.int x1), some (.int x2)] [] h res := by
  unfold F_91_0 at hf
  refine Ex.seg 2 (pc' := 4) (lc' := [some (.ref 49), some (.int x1), some (.int x2)]) (st' := [.int (h.1 49 10)]) (h' := h) (sg1 rfl rfl (sg1 rfl rfl rfl)) ?_
  refine Ex.ifc rfl rfl (fun (c0 : ¬ ((h.1 49 10) = 0)) => ?_) (fun (c0 : ¬ ¬ ((h.1 49 10) = 0)) => ?_)
  · rw [if_neg c0] at hf
    refine Ex.seg 4 (pc' := 25) (lc' := [some (.ref 49), some (.int x1), some (.int x2)]) (st' := [.int (h.1 49 10), .ref 1]) (h' := h) (sg1 rfl rfl (sg1 rfl rfl (sg1 rfl rfl (sg1 rfl rfl rfl)))) ?_
    obtain ⟨q3, e_q3, hf⟩ := bnd hf
    refine Ex.callV (a := 1) (As := [.int (h.1 49 10)]) (r := []) (v := some (.int q3.1)) (h' := q3.2) rfl rfl (by decide) rfl (Nat.le_of_ble_eq_true rfl) rfl (E_58 (Nat.le_trans (by decide) hd) e_q3) rfl ?_
    refine Ex.ifc rfl rfl (fun (c0 : q3.1 = 0) => ?_) (fun (c0 : ¬ (q3.1 = 0)) => ?_)
    · rw [if_pos c0] at hf
      exact Ex.weak (sm_le_n (sm_le_n (sm_le_n sm_le_nil))) (B_91_50 hd  hf hs)
    · rw [if_neg c0] at hf
      refine Ex.seg 1 (pc' := 32) (lc' := [some (.ref 49), some (.int x1), some (.int x2)]) (st' := [.int x2]) (h' := q3.2) (sg1 rfl rfl rfl) ?_
      refine Ex.ifc rfl rfl (fun (c0 : ¬ (x2 = 0)) => ?_) (fun (c0 : ¬ ¬ (x2 = 0)) => ?_)
      · rw [if_neg c0] at hf
        exact Ex.weak (sm_le_s (sm_le_s (sm_le_n sm_le_nil))) (B_91_52 hd  hf hs)
      · rw [if_pos (Classical.not_not.mp c0)] at hf
        refine Ex.seg 5 (pc' := 44) (lc' := [some (.ref 49), some (.int x1), some (.int x2)]) (st' := [.int x1, .int (q3.2.1 49 10), .ref 1]) (h' := q3.2) (sg1 rfl rfl (sg1 rfl rfl (sg1 rfl rfl (sg1 rfl rfl (sg1 rfl rfl rfl))))) ?_
        obtain ⟨q4, e_q4, hf⟩ := bnd hf
        refine Ex.callV (a := 1) (As := [.int (q3.2.1 49 10), .int x1]) (r := []) (v := some (.int q4.1)) (h' := q4.2) rfl rfl (by decide) rfl (Nat.le_of_ble_eq_true rfl) rfl (E_66 (Nat.le_trans (by decide) hd) e_q4) rfl ?_
        refine Ex.ifc rfl rfl (fun (c0 : ¬ (q4.1 = 0)) => ?_) (fun (c0 : ¬ ¬ (q4.1 = 0)) => ?_)
        · rw [if_neg c0] at hf
          exact Ex.weak (sm_le_s (sm_le_s (sm_le_n sm_le_nil))) (B_91_52 hd  hf hs)
        · rw [if_pos (Classical.not_not.mp c0)] at hf
          exact Ex.weak (sm_le_n (sm_le_n (sm_le_n sm_le_nil))) (B_91_50 hd  hf hs)
  · rw [if_pos (Classical.not_not.mp c0)] at hf
    refine Ex.seg 1 (pc' := 8) (lc' := [some (.ref 49), some (.int x1), some (.int x2)]) (st' := [.int x2]) (h' := h) (sg1 rfl rfl rfl) ?_
    refine Ex.ifc rfl rfl (fun (c0 : x2 = 0) => ?_) (fun (c0 : ¬ (x2 = 0)) => ?_)
    · rw [if_pos c0] at hf
      refine Ex.seg 1 (pc' := 16) (lc' := [some (.ref 49), some (.int x1), some (.int x2)]) (st' := [.int 1]) (h' := h) (sg1 rfl rfl rfl) ?_
      exact Ex.weak (sm_le_n (sm_le_n (sm_le_n sm_le_nil))) (B_91_16 hd  hf hs)
    · rw [if_neg c0] at hf
      refine Ex.seg 2 (pc' := 16) (lc' := [some (.ref 49), some (.int x1), some (.int x2)]) (st' := [.int 0]) (h' := h) (sg1 rfl rfl (sg1 rfl rfl rfl)) ?_
      exact Ex.weak (sm_le_n (sm_le_n (sm_le_n sm_le_nil))) (B_91_16 hd  hf hs)
theorem E_91 {L : Nat} {xs : Nat → Int32} {d : Nat} (hd : 3 ≤ d) {x1 : Int32} {x2 : Int32} {h : sm_H} {r : Int32 × sm_H} (hf : F_91 x1 x2 h = some r) : RUN L xs d 91 [.ref 49, .int x1, .int x2] h (some (.int r.1), r.2) := by
  obtain ⟨d, rfl⟩ : ∃ e, d = e + 1 := ⟨d - 1, by omega⟩
  exact ⟨Nat.le_of_ble_eq_true rfl, B_91_0 (by omega) hf rfl⟩
theorem B_104_114 {L : Nat} {xs : Nat → Int32} {d : Nat} (hd : 1 ≤ d) {res : Option Value × sm_H} {z1 : Int64}  {h : sm_H} {r : (Int32 × sm_H)} (hf : F_104_114 z1 h = some r) (hs : (fun (r : Int32 × sm_H) => res = (some (.int r.1), r.2)) r) : Ex (P_G L xs) (RUN L xs d) (sm_lk P_t104) 0 114 [none, none, none, none, none, none, none, none, none] [.long z1, .ref 49] h res := by
  unfold F_104_114 at hf
  refine Ex.seg 1 (pc' := 115) (lc' := [none, none, none, none, none, none, none, none, none]) (st' := [.int 0, .long z1, .ref 49]) (h' := h) (sg1 rfl rfl rfl) ?_
  obtain ⟨q1, e_q1, hf⟩ := bnd hf
  refine Ex.callV (a := 49) (As := [.long z1, .int 0]) (r := []) (v := some (.int q1.1)) (h' := q1.2) rfl rfl (by decide) rfl (Nat.le_of_ble_eq_true rfl) rfl (E_75 (Nat.le_trans (by decide) hd) e_q1) rfl ?_
  obtain rfl := Option.some.inj hf
  exact Ex.iret rfl rfl (fun c0 => by cases c0) hs
theorem B_104_98 {L : Nat} {xs : Nat → Int32} {d : Nat} (hd : 1 ≤ d) {res : Option Value × sm_H} {y2 : Int32} {z0 : Int64}  {h : sm_H} {r : (Int32 × sm_H)} (hf : F_104_98 y2 z0 h = some r) (hs : (fun (r : Int32 × sm_H) => res = (some (.int r.1), r.2)) r) : Ex (P_G L xs) (RUN L xs d) (sm_lk P_t104) 0 98 [some (.ref 49), none, some (.int y2), none, none, none, none, none, none] [.long z0] h res := by
  unfold F_104_98 at hf
  refine Ex.seg 3 (pc' := 102) (lc' := [some (.ref 49), none, some (.int y2), none, none, none, none, some (.long z0), none]) (st' := [.int y2, .ref 49]) (h' := h) (sg1 rfl rfl (sg1 rfl rfl (sg1 rfl rfl rfl))) ?_
  refine Ex.ifc rfl rfl (fun (c0 : y2 = 0) => ?_) (fun (c0 : ¬ (y2 = 0)) => ?_)
  · rw [if_pos c0] at hf
    refine Ex.seg 3 (pc' := 114) (lc' := [some (.ref 49), none, some (.int y2), none, none, none, none, some (.long z0), none]) (st' := [.long (Int32.toInt64 (Int64.toInt32 z0)), .ref 49]) (h' := h) (sg1 rfl rfl (sg1 rfl rfl (sg1 rfl rfl rfl))) ?_
    exact Ex.weak (sm_le_n (sm_le_s (sm_le_n (sm_le_s (sm_le_s (sm_le_s (sm_le_s (sm_le_n (sm_le_s sm_le_nil))))))))) (B_104_114 hd  hf hs)
  · rw [if_neg c0] at hf
    refine Ex.seg 2 (pc' := 114) (lc' := [some (.ref 49), none, some (.int y2), none, none, none, none, some (.long z0), none]) (st' := [.long z0, .ref 49]) (h' := h) (sg1 rfl rfl (sg1 rfl rfl rfl)) ?_
    exact Ex.weak (sm_le_n (sm_le_s (sm_le_n (sm_le_s (sm_le_s (sm_le_s (sm_le_s (sm_le_n (sm_le_s sm_le_nil))))))))) (B_104_114 hd  hf hs)
theorem B_104_71 {L : Nat} {xs : Nat → Int32} {d : Nat} (hd : 1 ≤ d) {res : Option Value × sm_H} {y1 : Int32} {y2 : Int32} {y3 : Int64} {y5 : Int64}  {h : sm_H} {r : (Int32 × sm_H)} (hf : F_104_71 y1 y2 y3 y5 h = some r) (hs : (fun (r : Int32 × sm_H) => res = (some (.int r.1), r.2)) r) : Ex (P_G L xs) (RUN L xs d) (sm_lk P_t104) 0 71 [some (.ref 49), some (.int y1), some (.int y2), some (.long y3), none, some (.long y5), none, none, none] [] h res := by
  unfold F_104_71 at hf
  refine Ex.seg 2 (pc' := 74) (lc' := [some (.ref 49), some (.int y1), some (.int y2), some (.long y3), none, some (.long y5), none, none, none]) (st' := [.int 8, .int y1]) (h' := h) (sg1 rfl rfl (sg1 rfl rfl rfl)) ?_
  refine Ex.icmp rfl rfl (fun (c0 : y1 < 8) => ?_) (fun (c0 : ¬ (y1 < 8)) => ?_)
  · rw [if_pos c0] at hf
    refine Ex.seg 4 (pc' := 95) (lc' := [some (.ref 49), some (.int y1), some (.int y2), some (.long y3), none, some (.long y5), none, none, none]) (st' := [.long y5, .long y3, .int y1, .ref 49]) (h' := h) (sg1 rfl rfl (sg1 rfl rfl (sg1 rfl rfl (sg1 rfl rfl rfl)))) ?_
    obtain ⟨q2, e_q2, hf⟩ := bnd hf
    refine Ex.callV (a := 49) (As := [.int y1, .long y3, .long y5]) (r := []) (v := some (.long q2.1)) (h' := q2.2) rfl rfl (by decide) rfl (Nat.le_of_ble_eq_true rfl) rfl (E_105 (Nat.le_trans (by decide) hd) e_q2) rfl ?_
    exact Ex.weak (sm_le_s (sm_le_n (sm_le_s (sm_le_n (sm_le_s (sm_le_n (sm_le_s (sm_le_s (sm_le_s sm_le_nil))))))))) (B_104_98 hd  hf hs)
  · rw [if_neg c0] at hf
    refine Ex.seg 6 (pc' := 84) (lc' := [some (.ref 49), some (.int y1), some (.int y2), some (.long y3), none, some (.long y5), none, none, none]) (st' := [.int (Int64.toInt32 y5), .long y3, .int y2, .int y1, .ref 49]) (h' := h) (sg1 rfl rfl (sg1 rfl rfl (sg1 rfl rfl (sg1 rfl rfl (sg1 rfl rfl (sg1 rfl rfl rfl)))))) ?_
    obtain ⟨q3, e_q3, hf⟩ := bnd hf
    refine Ex.callV (a := 49) (As := [.int y1, .int y2, .long y3, .int (Int64.toInt32 y5)]) (r := []) (v := some (.long q3.1)) (h' := q3.2) rfl rfl (by decide) rfl (Nat.le_of_ble_eq_true rfl) rfl (E_106 (Nat.le_trans (by decide) hd) e_q3) rfl ?_
    refine Ex.seg 1 (pc' := 98) (lc' := [some (.ref 49), some (.int y1), some (.int y2), some (.long y3), none, some (.long y5), none, none, none]) (st' := [.long q3.1]) (h' := q3.2) (sg1 rfl rfl rfl) ?_
    exact Ex.weak (sm_le_s (sm_le_n (sm_le_s (sm_le_n (sm_le_s (sm_le_n (sm_le_s (sm_le_s (sm_le_s sm_le_nil))))))))) (B_104_98 hd  hf hs)
theorem B_104_58 {L : Nat} {xs : Nat → Int32} {d : Nat} (hd : 1 ≤ d) {res : Option Value × sm_H} {y1 : Int32} {y2 : Int32} {y3 : Int64} {y5 : Int64}  {h : sm_H} {r : (Int32 × sm_H)} (hf : F_104_58 y1 y2 y3 y5 h = some r) (hs : (fun (r : Int32 × sm_H) => res = (some (.int r.1), r.2)) r) : Ex (P_G L xs) (RUN L xs d) (sm_lk P_t104) 0 58 [some (.ref 49), some (.int y1), some (.int y2), some (.long y3), none, some (.long y5), none, none, none] [] h res := by
  unfold F_104_58 at hf
  refine Ex.seg 3 (pc' := 62) (lc' := [some (.ref 49), some (.int y1), some (.int y2), some (.long y3), none, some (.long y5), none, none, none]) (st' := [.int (lg_cmp y5 0)]) (h' := h) (sg1 rfl rfl (sg1 rfl rfl (sg1 rfl rfl rfl))) ?_
  refine Ex.ifc rfl rfl (fun (c0 : ¬ ((lg_cmp y5 0) = 0)) => ?_) (fun (c0 : ¬ ¬ ((lg_cmp y5 0) = 0)) => ?_)
  · rw [if_neg c0] at hf
    exact Ex.weak (sm_le_s (sm_le_s (sm_le_s (sm_le_s (sm_le_s (sm_le_s (sm_le_s (sm_le_s (sm_le_s sm_le_nil))))))))) (B_104_71 hd  hf hs)
  · rw [if_pos (Classical.not_not.mp c0)] at hf
    refine Ex.seg 2 (pc' := 67) (lc' := [some (.ref 49), some (.int y1), some (.int y2), some (.long y3), none, some (.long y5), none, none, none]) (st' := [.int 3, .ref 49]) (h' := h) (sg1 rfl rfl (sg1 rfl rfl rfl)) ?_
    obtain ⟨q4, e_q4, hf⟩ := bnd hf
    refine Ex.callV (a := 49) (As := [.int 3]) (r := []) (v := some (.int q4.1)) (h' := q4.2) rfl rfl (by decide) rfl (Nat.le_of_ble_eq_true rfl) rfl (E_76 (Nat.le_trans (by decide) hd) e_q4) rfl ?_
    obtain rfl := Option.some.inj hf
    exact Ex.iret rfl rfl (fun c0 => by cases c0) hs
theorem B_104_43 {L : Nat} {xs : Nat → Int32} {d : Nat} (hd : 1 ≤ d) {res : Option Value × sm_H} {z1 : Int64}  {h : sm_H} {r : (Int32 × sm_H)} (hf : F_104_43 z1 h = some r) (hs : (fun (r : Int32 × sm_H) => res = (some (.int r.1), r.2)) r) : Ex (P_G L xs) (RUN L xs d) (sm_lk P_t104) 0 43 [none, none, none, none, none, none, none, none, none] [.long z1, .ref 49] h res := by
  unfold F_104_43 at hf
  refine Ex.seg 1 (pc' := 44) (lc' := [none, none, none, none, none, none, none, none, none]) (st' := [.int 0, .long z1, .ref 49]) (h' := h) (sg1 rfl rfl rfl) ?_
  obtain ⟨q5, e_q5, hf⟩ := bnd hf
  refine Ex.callV (a := 49) (As := [.long z1, .int 0]) (r := []) (v := some (.int q5.1)) (h' := q5.2) rfl rfl (by decide) rfl (Nat.le_of_ble_eq_true rfl) rfl (E_75 (Nat.le_trans (by decide) hd) e_q5) rfl ?_
  obtain rfl := Option.some.inj hf
  exact Ex.iret rfl rfl (fun c0 => by cases c0) hs
theorem B_104_19 {L : Nat} {xs : Nat → Int32} {d : Nat} (hd : 1 ≤ d) {res : Option Value × sm_H} {z1 : Int64}  {h : sm_H} {r : (Int32 × sm_H)} (hf : F_104_19 z1 h = some r) (hs : (fun (r : Int32 × sm_H) => res = (some (.int r.1), r.2)) r) : Ex (P_G L xs) (RUN L xs d) (sm_lk P_t104) 0 19 [none, none, none, none, none, none, none, none, none] [.long z1, .ref 49] h res := by
  unfold F_104_19 at hf
  refine Ex.seg 1 (pc' := 20) (lc' := [none, none, none, none, none, none, none, none, none]) (st' := [.int 0, .long z1, .ref 49]) (h' := h) (sg1 rfl rfl rfl) ?_
  obtain ⟨q6, e_q6, hf⟩ := bnd hf
  refine Ex.callV (a := 49) (As := [.long z1, .int 0]) (r := []) (v := some (.int q6.1)) (h' := q6.2) rfl rfl (by decide) rfl (Nat.le_of_ble_eq_true rfl) rfl (E_75 (Nat.le_trans (by decide) hd) e_q6) rfl ?_
  obtain rfl := Option.some.inj hf
  exact Ex.iret rfl rfl (fun c0 => by cases c0) hs
theorem B_104_0 {L : Nat} {xs : Nat → Int32} {d : Nat} (hd : 1 ≤ d) {res : Option Value × sm_H} {x1 : Int32} {x2 : Int32} {x3 : Int64} {x5 : Int64}  {h : sm_H} {r : (Int32 × sm_H)} (hf : F_104_0 x1 x2 x3 x5 h = some r) (hs : (fun (r : Int32 × sm_H) => res = (some (.int r.1), r.2)) r) : Ex (P_G L xs) (RUN L xs d) (sm_lk P_t104) 0 0 [some (.ref 49), some (.int x1), some (.int x2), some (.long x3), none, some (.long x5), none, none, none] [] h res := by
  unfold F_104_0 at hf
  refine Ex.seg 2 (pc' := 3) (lc' := [some (.ref 49), some (.int x1), some (.int x2), some (.long x3), none, some (.long x5), none, none, none]) (st' := [.int 11, .int x1]) (h' := h) (sg1 rfl rfl (sg1 rfl rfl rfl)) ?_
  refine Ex.icmp rfl rfl (fun (c0 : ¬ (x1 = 11)) => ?_) (fun (c0 : ¬ ¬ (x1 = 11)) => ?_)
  · rw [if_neg c0] at hf
    refine Ex.seg 2 (pc' := 27) (lc' := [some (.ref 49), some (.int x1), some (.int x2), some (.long x3), none, some (.long x5), none, none, none]) (st' := [.int 12, .int x1]) (h' := h) (sg1 rfl rfl (sg1 rfl rfl rfl)) ?_
    refine Ex.icmp rfl rfl (fun (c0 : ¬ (x1 = 12)) => ?_) (fun (c0 : ¬ ¬ (x1 = 12)) => ?_)
    · rw [if_neg c0] at hf
      refine Ex.seg 2 (pc' := 50) (lc' := [some (.ref 49), some (.int x1), some (.int x2), some (.long x3), none, some (.long x5), none, none, none]) (st' := [.int 3, .int x1]) (h' := h) (sg1 rfl rfl (sg1 rfl rfl rfl)) ?_
      refine Ex.icmp rfl rfl (fun (c0 : x1 = 3) => ?_) (fun (c0 : ¬ (x1 = 3)) => ?_)
      · rw [if_pos c0] at hf
        exact Ex.weak (sm_le_s (sm_le_s (sm_le_s (sm_le_s (sm_le_s (sm_le_s (sm_le_s (sm_le_s (sm_le_s sm_le_nil))))))))) (B_104_58 hd  hf hs)
      · rw [if_neg c0] at hf
        refine Ex.seg 2 (pc' := 55) (lc' := [some (.ref 49), some (.int x1), some (.int x2), some (.long x3), none, some (.long x5), none, none, none]) (st' := [.int 4, .int x1]) (h' := h) (sg1 rfl rfl (sg1 rfl rfl rfl)) ?_
        refine Ex.icmp rfl rfl (fun (c0 : ¬ (x1 = 4)) => ?_) (fun (c0 : ¬ ¬ (x1 = 4)) => ?_)
        · rw [if_neg c0] at hf
          exact Ex.weak (sm_le_s (sm_le_s (sm_le_s (sm_le_s (sm_le_s (sm_le_s (sm_le_s (sm_le_s (sm_le_s sm_le_nil))))))))) (B_104_71 hd  hf hs)
        · rw [if_pos (Classical.not_not.mp c0)] at hf
          exact Ex.weak (sm_le_s (sm_le_s (sm_le_s (sm_le_s (sm_le_s (sm_le_s (sm_le_s (sm_le_s (sm_le_s sm_le_nil))))))))) (B_104_58 hd  hf hs)
    · rw [if_pos (Classical.not_not.mp c0)] at hf
      refine Ex.seg 4 (pc' := 35) (lc' := [some (.ref 49), some (.int x1), some (.int x2), some (.long x3), none, some (.long x5), none, none, none]) (st' := [.int (lg_cmp x3 x5), .ref 49]) (h' := h) (sg1 rfl rfl (sg1 rfl rfl (sg1 rfl rfl (sg1 rfl rfl rfl)))) ?_
      refine Ex.ifc rfl rfl (fun (c0 : ¬ ((lg_cmp x3 x5) = 0)) => ?_) (fun (c0 : ¬ ¬ ((lg_cmp x3 x5) = 0)) => ?_)
      · rw [if_neg c0] at hf
        refine Ex.seg 1 (pc' := 43) (lc' := [some (.ref 49), some (.int x1), some (.int x2), some (.long x3), none, some (.long x5), none, none, none]) (st' := [.long 0, .ref 49]) (h' := h) (sg1 rfl rfl rfl) ?_
        exact Ex.weak (sm_le_n (sm_le_n (sm_le_n (sm_le_n (sm_le_s (sm_le_n (sm_le_s (sm_le_s (sm_le_s sm_le_nil))))))))) (B_104_43 hd  hf hs)
      · rw [if_pos (Classical.not_not.mp c0)] at hf
        refine Ex.seg 2 (pc' := 43) (lc' := [some (.ref 49), some (.int x1), some (.int x2), some (.long x3), none, some (.long x5), none, none, none]) (st' := [.long 1, .ref 49]) (h' := h) (sg1 rfl rfl (sg1 rfl rfl rfl)) ?_
        exact Ex.weak (sm_le_n (sm_le_n (sm_le_n (sm_le_n (sm_le_s (sm_le_n (sm_le_s (sm_le_s (sm_le_s sm_le_nil))))))))) (B_104_43 hd  hf hs)
  · rw [if_pos (Classical.not_not.mp c0)] at hf
    refine Ex.seg 4 (pc' := 11) (lc' := [some (.ref 49), some (.int x1), some (.int x2), some (.long x3), none, some (.long x5), none, none, none]) (st' := [.int (lg_cmp x3 x5), .ref 49]) (h' := h) (sg1 rfl rfl (sg1 rfl rfl (sg1 rfl rfl (sg1 rfl rfl rfl)))) ?_
    refine Ex.ifc rfl rfl (fun (c0 : 0 ≤ (lg_cmp x3 x5)) => ?_) (fun (c0 : ¬ (0 ≤ (lg_cmp x3 x5))) => ?_)
    · rw [if_pos c0] at hf
      refine Ex.seg 1 (pc' := 19) (lc' := [some (.ref 49), some (.int x1), some (.int x2), some (.long x3), none, some (.long x5), none, none, none]) (st' := [.long 0, .ref 49]) (h' := h) (sg1 rfl rfl rfl) ?_
      exact Ex.weak (sm_le_n (sm_le_n (sm_le_n (sm_le_n (sm_le_s (sm_le_n (sm_le_s (sm_le_s (sm_le_s sm_le_nil))))))))) (B_104_19 hd  hf hs)
    · rw [if_neg c0] at hf
      refine Ex.seg 2 (pc' := 19) (lc' := [some (.ref 49), some (.int x1), some (.int x2), some (.long x3), none, some (.long x5), none, none, none]) (st' := [.long 1, .ref 49]) (h' := h) (sg1 rfl rfl (sg1 rfl rfl rfl)) ?_
      exact Ex.weak (sm_le_n (sm_le_n (sm_le_n (sm_le_n (sm_le_s (sm_le_n (sm_le_s (sm_le_s (sm_le_s sm_le_nil))))))))) (B_104_19 hd  hf hs)
theorem E_104 {L : Nat} {xs : Nat → Int32} {d : Nat} (hd : 2 ≤ d) {x1 : Int32} {x2 : Int32} {x3 : Int64} {x5 : Int64} {h : sm_H} {r : Int32 × sm_H} (hf : F_104 x1 x2 x3 x5 h = some r) : RUN L xs d 104 [.ref 49, .int x1, .int x2, .long x3, .long x5] h (some (.int r.1), r.2) := by
  obtain ⟨d, rfl⟩ : ∃ e, d = e + 1 := ⟨d - 1, by omega⟩
  exact ⟨Nat.le_of_ble_eq_true rfl, B_104_0 (by omega) hf rfl⟩
theorem B_110_158 {L : Nat} {xs : Nat → Int32} {d : Nat} (hd : 2 ≤ d) {res : Option Value × sm_H} {z0 : Int32}  {h : sm_H} {r : (Int32 × sm_H)} (hf : F_110_158 z0 h = some r) (hs : (fun (r : Int32 × sm_H) => res = (some (.int r.1), r.2)) r) : Ex (P_G L xs) (RUN L xs d) (sm_lk P_t110) 0 158 [none, none, none, none, none, none, none, none, none, none, none] [.int z0] h res := by
  unfold F_110_158 at hf
  obtain rfl := Option.some.inj hf
  exact Ex.iret rfl rfl (fun c0 => by cases c0) hs
theorem B_110_143 {L : Nat} {xs : Nat → Int32} {d : Nat} (hd : 2 ≤ d) {res : Option Value × sm_H} {y3 : Int32}  {h : sm_H} {r : (Int32 × sm_H)} (hf : F_110_143 y3 h = some r) (hs : (fun (r : Int32 × sm_H) => res = (some (.int r.1), r.2)) r) : Ex (P_G L xs) (RUN L xs d) (sm_lk P_t110) 0 143 [some (.ref 49), none, none, some (.int y3), none, none, none, none, none, none, none] [] h res := by
  unfold F_110_143 at hf
  refine Ex.seg 2 (pc' := 145) (lc' := [some (.ref 49), none, none, some (.int y3), none, none, none, none, none, none, none]) (st' := [.int 5, .int y3]) (h' := h) (sg1 rfl rfl (sg1 rfl rfl rfl)) ?_
  refine Ex.icmp rfl rfl (fun (c0 : ¬ (y3 = 5)) => ?_) (fun (c0 : ¬ ¬ (y3 = 5)) => ?_)
  · rw [if_neg c0] at hf
    refine Ex.seg 1 (pc' := 158) (lc' := [some (.ref 49), none, none, some (.int y3), none, none, none, none, none, none, none]) (st' := [.int 0]) (h' := h) (sg1 rfl rfl rfl) ?_
    exact Ex.weak (sm_le_n (sm_le_s (sm_le_s (sm_le_n (sm_le_s (sm_le_s (sm_le_s (sm_le_s (sm_le_s (sm_le_s (sm_le_s sm_le_nil))))))))))) (B_110_158 hd  hf hs)
  · rw [if_pos (Classical.not_not.mp c0)] at hf
    refine Ex.seg 3 (pc' := 151) (lc' := [some (.ref 49), none, none, some (.int y3), none, none, none, none, none, none, none]) (st' := [.int 0, .long 0, .ref 49]) (h' := h) (sg1 rfl rfl (sg1 rfl rfl (sg1 rfl rfl rfl))) ?_
    obtain ⟨q1, e_q1, hf⟩ := bnd hf
    refine Ex.callV (a := 49) (As := [.long 0, .int 0]) (r := []) (v := some (.int q1.1)) (h' := q1.2) rfl rfl (by decide) rfl (Nat.le_of_ble_eq_true rfl) rfl (E_75 (Nat.le_trans (by decide) hd) e_q1) rfl ?_
    refine Ex.seg 1 (pc' := 158) (lc' := [some (.ref 49), none, none, some (.int y3), none, none, none, none, none, none, none]) (st' := [.int q1.1]) (h' := q1.2) (sg1 rfl rfl rfl) ?_
    exact Ex.weak (sm_le_n (sm_le_s (sm_le_s (sm_le_n (sm_le_s (sm_le_s (sm_le_s (sm_le_s (sm_le_s (sm_le_s (sm_le_s sm_le_nil))))))))))) (B_110_158 hd  hf hs)
theorem B_110_78 {L : Nat} {xs : Nat → Int32} {d : Nat} (hd : 2 ≤ d) {res : Option Value × sm_H} {z1 : Int64}  {h : sm_H} {r : (Int32 × sm_H)} (hf : F_110_78 z1 h = some r) (hs : (fun (r : Int32 × sm_H) => res = (some (.int r.1), r.2)) r) : Ex (P_G L xs) (RUN L xs d) (sm_lk P_t110) 0 78 [none, none, none, none, none, none, none, none, none, none, none] [.long z1, .ref 49] h res := by
  unfold F_110_78 at hf
  refine Ex.seg 1 (pc' := 79) (lc' := [none, none, none, none, none, none, none, none, none, none, none]) (st' := [.int 0, .long z1, .ref 49]) (h' := h) (sg1 rfl rfl rfl) ?_
  obtain ⟨q2, e_q2, hf⟩ := bnd hf
  refine Ex.callV (a := 49) (As := [.long z1, .int 0]) (r := []) (v := some (.int q2.1)) (h' := q2.2) rfl rfl (by decide) rfl (Nat.le_of_ble_eq_true rfl) rfl (E_75 (Nat.le_trans (by decide) hd) e_q2) rfl ?_
  obtain rfl := Option.some.inj hf
  exact Ex.iret rfl rfl (fun c0 => by cases c0) hs
theorem B_110_67 {L : Nat} {xs : Nat → Int32} {d : Nat} (hd : 2 ≤ d) {res : Option Value × sm_H} {y10 : Int32}  {h : sm_H} {r : (Int32 × sm_H)} (hf : F_110_67 y10 h = some r) (hs : (fun (r : Int32 × sm_H) => res = (some (.int r.1), r.2)) r) : Ex (P_G L xs) (RUN L xs d) (sm_lk P_t110) 0 67 [some (.ref 49), none, none, none, none, none, none, none, none, none, some (.int y10)] [] h res := by
  unfold F_110_67 at hf
  refine Ex.seg 2 (pc' := 70) (lc' := [some (.ref 49), none, none, none, none, none, none, none, none, none, some (.int y10)]) (st' := [.int y10, .ref 49]) (h' := h) (sg1 rfl rfl (sg1 rfl rfl rfl)) ?_
  refine Ex.ifc rfl rfl (fun (c0 : y10 = 0) => ?_) (fun (c0 : ¬ (y10 = 0)) => ?_)
  · rw [if_pos c0] at hf
    refine Ex.seg 1 (pc' := 78) (lc' := [some (.ref 49), none, none, none, none, none, none, none, none, none, some (.int y10)]) (st' := [.long 0, .ref 49]) (h' := h) (sg1 rfl rfl rfl) ?_
    exact Ex.weak (sm_le_n (sm_le_s (sm_le_s (sm_le_s (sm_le_s (sm_le_s (sm_le_s (sm_le_s (sm_le_s (sm_le_s (sm_le_n sm_le_nil))))))))))) (B_110_78 hd  hf hs)
  · rw [if_neg c0] at hf
    refine Ex.seg 2 (pc' := 78) (lc' := [some (.ref 49), none, none, none, none, none, none, none, none, none, some (.int y10)]) (st' := [.long 1, .ref 49]) (h' := h) (sg1 rfl rfl (sg1 rfl rfl rfl)) ?_
    exact Ex.weak (sm_le_n (sm_le_s (sm_le_s (sm_le_s (sm_le_s (sm_le_s (sm_le_s (sm_le_s (sm_le_s (sm_le_s (sm_le_n sm_le_nil))))))))))) (B_110_78 hd  hf hs)
theorem B_110_0 {L : Nat} {xs : Nat → Int32} {d : Nat} (hd : 2 ≤ d) {res : Option Value × sm_H} {x1 : Nat} {x2 : Int32} {x3 : Int32} {x4 : Int32} {x5 : Int32} {x6 : Int32}  {h : sm_H} {r : (Int32 × sm_H)} (hf : F_110_0 x1 x2 x3 x4 x5 x6 h = some r) (hs : (fun (r : Int32 × sm_H) => res = (some (.int r.1), r.2)) r) : Ex (P_G L xs) (RUN L xs d) (sm_lk P_t110) 0 0 [some (.ref 49), some (.ref x1), some (.int x2), some (.int x3), some (.int x4), some (.int x5), some (.int x6), none, none, none, none] [] h res := by
  unfold F_110_0 at hf
  refine Ex.seg 3 (pc' := 5) (lc' := [some (.ref 49), some (.ref x1), some (.int x2), some (.int x3), some (.int x4), some (.int x5), some (.int x6), none, none, none, none]) (st' := [.int x6, .int x5, .ref 49]) (h' := h) (sg1 rfl rfl (sg1 rfl rfl (sg1 rfl rfl rfl))) ?_
  obtain ⟨q3, e_q3, hf⟩ := bnd hf
  refine Ex.callV (a := 49) (As := [.int x5, .int x6]) (r := []) (v := some (.long q3.1)) (h' := q3.2) rfl rfl (by decide) rfl (Nat.le_of_ble_eq_true rfl) rfl (E_77 (Nat.le_trans (by decide) hd) e_q3) rfl ?_
  refine Ex.seg 4 (pc' := 15) (lc' := [some (.ref 49), some (.ref x1), some (.int x2), some (.int x3), some (.int x4), some (.int x5), some (.int x6), some (.long q3.1), none, none, none]) (st' := [.int x6, .int x5, .ref 49]) (h' := q3.2) (sg1 rfl rfl (sg1 rfl rfl (sg1 rfl rfl (sg1 rfl rfl rfl)))) ?_
  obtain ⟨q4, e_q4, hf⟩ := bnd hf
  refine Ex.callV (a := 49) (As := [.int x5, .int x6]) (r := []) (v := some (.int q4.1)) (h' := q4.2) rfl rfl (by decide) rfl (Nat.le_of_ble_eq_true rfl) rfl (E_78 (Nat.le_trans (by decide) hd) e_q4) rfl ?_
  refine Ex.seg 3 (pc' := 23) (lc' := [some (.ref 49), some (.ref x1), some (.int x2), some (.int x3), some (.int x4), some (.int x5), some (.int x6), some (.long q3.1), none, some (.int q4.1), none]) (st' := [.int 7, .int x3]) (h' := q4.2) (sg1 rfl rfl (sg1 rfl rfl (sg1 rfl rfl rfl))) ?_
  refine Ex.icmp rfl rfl (fun (c0 : ¬ (x3 = 7)) => ?_) (fun (c0 : ¬ ¬ (x3 = 7)) => ?_)
  · rw [if_neg c0] at hf
    refine Ex.seg 3 (pc' := 86) (lc' := [some (.ref 49), some (.ref x1), some (.int x2), some (.int x3), some (.int x4), some (.int x5), some (.int x6), some (.long q3.1), none, some (.int q4.1), none]) (st' := [.int x2, .ref x1, .ref 49]) (h' := q4.2) (sg1 rfl rfl (sg1 rfl rfl (sg1 rfl rfl rfl))) ?_
    have g6 : sm_is G0 q4.2 x1 8 = true := Classical.byContradiction (fun z => by rw [if_pos z] at hf; cases hf)
    rw [if_neg (fun z => z g6)] at hf
    obtain ⟨q5, e_q5, hf⟩ := bnd hf
    refine Ex.callV (a := x1) (As := [.int x2]) (r := [.ref 49]) (v := some (.long q5.1)) (h' := q5.2) rfl rfl (by decide) rfl (Nat.le_of_ble_eq_true rfl) g6 (E_218 (Nat.le_trans (by decide) hd) e_q5) rfl ?_
    refine Ex.seg 2 (pc' := 91) (lc' := [some (.ref 49), some (.ref x1), some (.int x2), some (.int x3), some (.int x4), some (.int x5), some (.int x6), some (.long q3.1), none, some (.int q4.1), none]) (st' := [.int x2, .ref x1, .long q5.1, .ref 49]) (h' := q5.2) (sg1 rfl rfl (sg1 rfl rfl rfl)) ?_
    have g8 : sm_is G0 q5.2 x1 8 = true := Classical.byContradiction (fun z => by rw [if_pos z] at hf; cases hf)
    rw [if_neg (fun z => z g8)] at hf
    obtain ⟨q7, e_q7, hf⟩ := bnd hf
    refine Ex.callV (a := x1) (As := [.int x2]) (r := [.long q5.1, .ref 49]) (v := some (.int q7.1)) (h' := q7.2) rfl rfl (by decide) rfl (Nat.le_of_ble_eq_true rfl) g8 (E_219 (Nat.le_trans (by decide) hd) e_q7) rfl ?_
    obtain ⟨q9, e_q9, hf⟩ := bnd hf
    refine Ex.callV (a := 49) (As := [.long q5.1, .int q7.1]) (r := []) (v := some (.int q9.1)) (h' := q9.2) rfl rfl (by decide) rfl (Nat.le_of_ble_eq_true rfl) rfl (E_75 (Nat.le_trans (by decide) hd) e_q9) rfl ?_
    refine Ex.seg 3 (pc' := 101) (lc' := [some (.ref 49), some (.ref x1), some (.int x2), some (.int x3), some (.int x4), some (.int x5), some (.int x6), some (.long q3.1), none, some (.int q4.1), none]) (st' := [.int 8, .int x3]) (h' := q9.2) (sg1 rfl rfl (sg1 rfl rfl (sg1 rfl rfl rfl))) ?_
    refine Ex.icmp rfl rfl (fun (c0 : ¬ (x3 = 8)) => ?_) (fun (c0 : ¬ ¬ (x3 = 8)) => ?_)
    · rw [if_neg c0] at hf
      refine Ex.seg 2 (pc' := 131) (lc' := [some (.ref 49), some (.ref x1), some (.int x2), some (.int x3), some (.int x4), some (.int x5), some (.int x6), some (.long q3.1), none, some (.int q4.1), none]) (st' := [.int 4, .int x3]) (h' := q9.2) (sg1 rfl rfl (sg1 rfl rfl rfl)) ?_
      refine Ex.icmp rfl rfl (fun (c0 : x3 = 4) => ?_) (fun (c0 : ¬ (x3 = 4)) => ?_)
      · rw [if_pos c0] at hf
        exact Ex.weak (sm_le_s (sm_le_n (sm_le_n (sm_le_s (sm_le_n (sm_le_n (sm_le_n (sm_le_n (sm_le_s (sm_le_n (sm_le_s sm_le_nil))))))))))) (B_110_143 hd  hf hs)
      · rw [if_neg c0] at hf
        refine Ex.seg 4 (pc' := 140) (lc' := [some (.ref 49), some (.ref x1), some (.int x2), some (.int x3), some (.int x4), some (.int x5), some (.int x6), some (.long q3.1), none, some (.int q4.1), none]) (st' := [.int q4.1, .long q3.1, .int x2, .ref x1]) (h' := q9.2) (sg1 rfl rfl (sg1 rfl rfl (sg1 rfl rfl (sg1 rfl rfl rfl)))) ?_
        have g11 : sm_is G0 q9.2 x1 8 = true := Classical.byContradiction (fun z => by rw [if_pos z] at hf; cases hf)
        rw [if_neg (fun z => z g11)] at hf
        obtain ⟨q10, e_q10, hf⟩ := bnd hf
        refine Ex.callV (a := x1) (As := [.int x2, .long q3.1, .int q4.1]) (r := []) (v := none) (h' := q10) rfl rfl (by decide) rfl (Nat.le_of_ble_eq_true rfl) g11 (E_221 (Nat.le_trans (by decide) hd) e_q10) rfl ?_
        exact Ex.weak (sm_le_s (sm_le_n (sm_le_n (sm_le_s (sm_le_n (sm_le_n (sm_le_n (sm_le_n (sm_le_s (sm_le_n (sm_le_s sm_le_nil))))))))))) (B_110_143 hd  hf hs)
    · rw [if_pos (Classical.not_not.mp c0)] at hf
      refine Ex.seg 9 (pc' := 119) (lc' := [some (.ref 49), some (.ref x1), some (.int x2), some (.int x3), some (.int x4), some (.int x5), some (.int x6), some (.long q3.1), none, some (.int q4.1), none]) (st' := [.int x4, .long ((q9.2.2.1 49 9) + q3.1), .ref 1, .int x2, .ref x1]) (h' := q9.2) (sg1 rfl rfl (sg1 rfl rfl (sg1 rfl rfl (sg1 rfl rfl (sg1 rfl rfl (sg1 rfl rfl (sg1 rfl rfl (sg1 rfl rfl (sg1 rfl rfl rfl))))))))) ?_
      obtain ⟨q12, e_q12, hf⟩ := bnd hf
      refine Ex.callV (a := 1) (As := [.long ((q9.2.2.1 49 9) + q3.1), .int x4]) (r := [.int x2, .ref x1]) (v := some (.long q12.1)) (h' := q12.2) rfl rfl (by decide) rfl (Nat.le_of_ble_eq_true rfl) rfl (E_68 (Nat.le_trans (by decide) hd) e_q12) rfl ?_
      refine Ex.seg 1 (pc' := 123) (lc' := [some (.ref 49), some (.ref x1), some (.int x2), some (.int x3), some (.int x4), some (.int x5), some (.int x6), some (.long q3.1), none, some (.int q4.1), none]) (st' := [.int 0, .long q12.1, .int x2, .ref x1]) (h' := q12.2) (sg1 rfl rfl rfl) ?_
      have g14 : sm_is G0 q12.2 x1 8 = true := Classical.byContradiction (fun z => by rw [if_pos z] at hf; cases hf)
      rw [if_neg (fun z => z g14)] at hf
      obtain ⟨q13, e_q13, hf⟩ := bnd hf
      refine Ex.callV (a := x1) (As := [.int x2, .long q12.1, .int 0]) (r := []) (v := none) (h' := q13) rfl rfl (by decide) rfl (Nat.le_of_ble_eq_true rfl) g14 (E_221 (Nat.le_trans (by decide) hd) e_q13) rfl ?_
      refine Ex.seg 1 (pc' := 143) (lc' := [some (.ref 49), some (.ref x1), some (.int x2), some (.int x3), some (.int x4), some (.int x5), some (.int x6), some (.long q3.1), none, some (.int q4.1), none]) (st' := []) (h' := q13) (sg1 rfl rfl rfl) ?_
      exact Ex.weak (sm_le_s (sm_le_n (sm_le_n (sm_le_s (sm_le_n (sm_le_n (sm_le_n (sm_le_n (sm_le_s (sm_le_n (sm_le_s sm_le_nil))))))))))) (B_110_143 hd  hf hs)
  · rw [if_pos (Classical.not_not.mp c0)] at hf
    refine Ex.seg 4 (pc' := 32) (lc' := [some (.ref 49), some (.ref x1), some (.int x2), some (.int x3), some (.int x4), some (.int x5), some (.int x6), some (.long q3.1), none, some (.int q4.1), none]) (st' := [.int q4.1, .long q3.1, .int x2, .ref x1]) (h' := q4.2) (sg1 rfl rfl (sg1 rfl rfl (sg1 rfl rfl (sg1 rfl rfl rfl)))) ?_
    have g16 : sm_is G0 q4.2 x1 8 = true := Classical.byContradiction (fun z => by rw [if_pos z] at hf; cases hf)
    rw [if_neg (fun z => z g16)] at hf
    obtain ⟨q15, e_q15, hf⟩ := bnd hf
    refine Ex.callV (a := x1) (As := [.int x2, .long q3.1, .int q4.1]) (r := []) (v := some (.int q15.1)) (h' := q15.2) rfl rfl (by decide) rfl (Nat.le_of_ble_eq_true rfl) g16 (E_220 (Nat.le_trans (by decide) hd) e_q15) rfl ?_
    refine Ex.seg 2 (pc' := 39) (lc' := [some (.ref 49), some (.ref x1), some (.int x2), some (.int x3), some (.int x4), some (.int x5), some (.int x6), some (.long q3.1), none, some (.int q4.1), some (.int q15.1)]) (st' := [.int q15.1]) (h' := q15.2) (sg1 rfl rfl (sg1 rfl rfl rfl)) ?_
    refine Ex.ifc rfl rfl (fun (c0 : q15.1 = 0) => ?_) (fun (c0 : ¬ (q15.1 = 0)) => ?_)
    · rw [if_pos c0] at hf
      exact Ex.weak (sm_le_s (sm_le_n (sm_le_n (sm_le_n (sm_le_n (sm_le_n (sm_le_n (sm_le_n (sm_le_s (sm_le_n (sm_le_s sm_le_nil))))))))))) (B_110_67 hd  hf hs)
    · rw [if_neg c0] at hf
      refine Ex.seg 7 (pc' := 51) (lc' := [some (.ref 49), some (.ref x1), some (.int x2), some (.int x3), some (.int x4), some (.int x5), some (.int x6), some (.long q3.1), none, some (.int q4.1), some (.int q15.1)]) (st' := [.int (x6 + 1), .int x5, .ref 49, .int x2, .ref x1]) (h' := q15.2) (sg1 rfl rfl (sg1 rfl rfl (sg1 rfl rfl (sg1 rfl rfl (sg1 rfl rfl (sg1 rfl rfl (sg1 rfl rfl rfl))))))) ?_
      obtain ⟨q17, e_q17, hf⟩ := bnd hf
      refine Ex.callV (a := 49) (As := [.int x5, .int (x6 + 1)]) (r := [.int x2, .ref x1]) (v := some (.long q17.1)) (h' := q17.2) rfl rfl (by decide) rfl (Nat.le_of_ble_eq_true rfl) rfl (E_77 (Nat.le_trans (by decide) hd) e_q17) rfl ?_
      refine Ex.seg 5 (pc' := 61) (lc' := [some (.ref 49), some (.ref x1), some (.int x2), some (.int x3), some (.int x4), some (.int x5), some (.int x6), some (.long q3.1), none, some (.int q4.1), some (.int q15.1)]) (st' := [.int (x6 + 1), .int x5, .ref 49, .long q17.1, .int x2, .ref x1]) (h' := q17.2) (sg1 rfl rfl (sg1 rfl rfl (sg1 rfl rfl (sg1 rfl rfl (sg1 rfl rfl rfl))))) ?_
      obtain ⟨q18, e_q18, hf⟩ := bnd hf
      refine Ex.callV (a := 49) (As := [.int x5, .int (x6 + 1)]) (r := [.long q17.1, .int x2, .ref x1]) (v := some (.int q18.1)) (h' := q18.2) rfl rfl (by decide) rfl (Nat.le_of_ble_eq_true rfl) rfl (E_78 (Nat.le_trans (by decide) hd) e_q18) rfl ?_
      have g20 : sm_is G0 q18.2 x1 8 = true := Classical.byContradiction (fun z => by rw [if_pos z] at hf; cases hf)
      rw [if_neg (fun z => z g20)] at hf
      obtain ⟨q19, e_q19, hf⟩ := bnd hf
      refine Ex.callV (a := x1) (As := [.int x2, .long q17.1, .int q18.1]) (r := []) (v := none) (h' := q19) rfl rfl (by decide) rfl (Nat.le_of_ble_eq_true rfl) g20 (E_221 (Nat.le_trans (by decide) hd) e_q19) rfl ?_
      exact Ex.weak (sm_le_s (sm_le_n (sm_le_n (sm_le_n (sm_le_n (sm_le_n (sm_le_n (sm_le_n (sm_le_s (sm_le_n (sm_le_s sm_le_nil))))))))))) (B_110_67 hd  hf hs)
theorem E_110 {L : Nat} {xs : Nat → Int32} {d : Nat} (hd : 3 ≤ d) {x1 : Nat} {x2 : Int32} {x3 : Int32} {x4 : Int32} {x5 : Int32} {x6 : Int32} {h : sm_H} {r : Int32 × sm_H} (hf : F_110 x1 x2 x3 x4 x5 x6 h = some r) : RUN L xs d 110 [.ref 49, .ref x1, .int x2, .int x3, .int x4, .int x5, .int x6] h (some (.int r.1), r.2) := by
  obtain ⟨d, rfl⟩ : ∃ e, d = e + 1 := ⟨d - 1, by omega⟩
  exact ⟨Nat.le_of_ble_eq_true rfl, B_110_0 (by omega) hf rfl⟩
theorem B_114_133 {L : Nat} {xs : Nat → Int32} {d : Nat} (hd : 2 ≤ d) {res : Option Value × sm_H} {y1 : Int32} {y2 : Int32} {y4 : Int32} {y5 : Int32} {z1 : Int32} {z2 : Int32}  {h : sm_H} {r : (Int32 × sm_H)} (hf : F_114_133 y1 y2 y4 y5 z1 z2 h = some r) (hs : (fun (r : Int32 × sm_H) => res = (some (.int r.1), r.2)) r) : Ex (P_G L xs) (RUN L xs d) (sm_lk P_t114) 0 133 [some (.ref 38), some (.int y1), some (.int y2), none, some (.int y4), some (.int y5)] [.int z2, .int z1, .ref 38] h res := by
  unfold F_114_133 at hf
  refine Ex.seg 2 (pc' := 137) (lc' := [some (.ref 38), some (.int y1), some (.int y2), none, some (.int y4), some (.int y5)]) (st' := []) (h' := (sm_wI h 38 14 (z1 + z2))) (sg1 rfl rfl (sg1 rfl rfl rfl)) ?_
  obtain ⟨h1, e_h1, hf⟩ := bnd hf
  rw [Option.some.inj e_h1]
  refine Ex.seg 5 (pc' := 144) (lc' := [some (.ref 38), some (.int y1), some (.int y2), none, some (.int y4), some (.int y5)]) (st' := [.int y5, .int y4, .int y2, .int y1, .ref 38]) (h' := h1) (sg1 rfl rfl (sg1 rfl rfl (sg1 rfl rfl (sg1 rfl rfl (sg1 rfl rfl rfl))))) ?_
  obtain ⟨q2, e_q2, hf⟩ := bnd hf
  refine Ex.callV (a := 38) (As := [.int y1, .int y2, .int y4, .int y5]) (r := []) (v := some (.int q2.1)) (h' := q2.2) rfl rfl (by decide) rfl (Nat.le_of_ble_eq_true rfl) rfl (E_117 (Nat.le_trans (by decide) hd) e_q2) rfl ?_
  obtain rfl := Option.some.inj hf
  exact Ex.iret rfl rfl (fun c0 => by cases c0) hs
theorem B_114_117 {L : Nat} {xs : Nat → Int32} {d : Nat} (hd : 2 ≤ d) {res : Option Value × sm_H} {y1 : Int32} {y2 : Int32} {y4 : Int32} {y5 : Int32} {z1 : Int32} {z2 : Int32}  {h : sm_H} {r : (Int32 × sm_H)} (hf : F_114_117 y1 y2 y4 y5 z1 z2 h = some r) (hs : (fun (r : Int32 × sm_H) => res = (some (.int r.1), r.2)) r) : Ex (P_G L xs) (RUN L xs d) (sm_lk P_t114) 0 117 [some (.ref 38), some (.int y1), some (.int y2), none, some (.int y4), some (.int y5)] [.int z2, .int z1, .ref 46] h res := by
  unfold F_114_117 at hf
  obtain ⟨h3, e_h3, hf⟩ := bnd hf
  refine Ex.iast e_h3 rfl rfl ?_
  refine Ex.seg 4 (pc' := 125) (lc' := [some (.ref 38), some (.int y1), some (.int y2), none, some (.int y4), some (.int y5)]) (st' := [.int y4, .int (h3.1 38 14), .ref 38]) (h' := h3) (sg1 rfl rfl (sg1 rfl rfl (sg1 rfl rfl (sg1 rfl rfl rfl)))) ?_
  refine Ex.ifc rfl rfl (fun (c0 : y4 = 0) => ?_) (fun (c0 : ¬ (y4 = 0)) => ?_)
  · rw [if_pos c0] at hf
    refine Ex.seg 1 (pc' := 133) (lc' := [some (.ref 38), some (.int y1), some (.int y2), none, some (.int y4), some (.int y5)]) (st' := [.int 1, .int (h3.1 38 14), .ref 38]) (h' := h3) (sg1 rfl rfl rfl) ?_
    exact Ex.weak (sm_le_s (sm_le_s (sm_le_s (sm_le_s (sm_le_s (sm_le_s sm_le_nil)))))) (B_114_133 hd  hf hs)
  · rw [if_neg c0] at hf
    refine Ex.seg 2 (pc' := 133) (lc' := [some (.ref 38), some (.int y1), some (.int y2), none, some (.int y4), some (.int y5)]) (st' := [.int 0, .int (h3.1 38 14), .ref 38]) (h' := h3) (sg1 rfl rfl (sg1 rfl rfl rfl)) ?_
    exact Ex.weak (sm_le_s (sm_le_s (sm_le_s (sm_le_s (sm_le_s (sm_le_s sm_le_nil)))))) (B_114_133 hd  hf hs)
theorem B_114_63 {L : Nat} {xs : Nat → Int32} {d : Nat} (hd : 2 ≤ d) {res : Option Value × sm_H} {y1 : Int32} {y2 : Int32} {y3 : Int32} {y4 : Int32} {y5 : Int32}  {h : sm_H} {r : (Int32 × sm_H)} (hf : F_114_63 y1 y2 y3 y4 y5 h = some r) (hs : (fun (r : Int32 × sm_H) => res = (some (.int r.1), r.2)) r) : Ex (P_G L xs) (RUN L xs d) (sm_lk P_t114) 0 63 [some (.ref 38), some (.int y1), some (.int y2), some (.int y3), some (.int y4), some (.int y5)] [] h res := by
  unfold F_114_63 at hf
  refine Ex.seg 5 (pc' := 72) (lc' := [some (.ref 38), some (.int y1), some (.int y2), some (.int y3), some (.int y4), some (.int y5)]) (st' := [.int y3, .int (h.1 38 13), .ref 43]) (h' := h) (sg1 rfl rfl (sg1 rfl rfl (sg1 rfl rfl (sg1 rfl rfl (sg1 rfl rfl rfl))))) ?_
  obtain ⟨h4, e_h4, hf⟩ := bnd hf
  refine Ex.iast e_h4 rfl rfl ?_
  refine Ex.seg 5 (pc' := 82) (lc' := [some (.ref 38), some (.int y1), some (.int y2), some (.int y3), some (.int y4), some (.int y5)]) (st' := [.int (-1), .int (h4.1 38 13), .ref 44]) (h' := h4) (sg1 rfl rfl (sg1 rfl rfl (sg1 rfl rfl (sg1 rfl rfl (sg1 rfl rfl rfl))))) ?_
  obtain ⟨h5, e_h5, hf⟩ := bnd hf
  refine Ex.iast e_h5 rfl rfl ?_
  refine Ex.seg 5 (pc' := 92) (lc' := [some (.ref 38), some (.int y1), some (.int y2), some (.int y3), some (.int y4), some (.int y5)]) (st' := [.int (-1), .int (h5.1 38 13), .ref 45]) (h' := h5) (sg1 rfl rfl (sg1 rfl rfl (sg1 rfl rfl (sg1 rfl rfl (sg1 rfl rfl rfl))))) ?_
  obtain ⟨h6, e_h6, hf⟩ := bnd hf
  refine Ex.iast e_h6 rfl rfl ?_
  refine Ex.seg 5 (pc' := 103) (lc' := [some (.ref 38), some (.int y1), some (.int y2), some (.int y3), some (.int y4), some (.int y5)]) (st' := [.int y4, .int (h6.1 38 13), .ref 46]) (h' := h6) (sg1 rfl rfl (sg1 rfl rfl (sg1 rfl rfl (sg1 rfl rfl (sg1 rfl rfl rfl))))) ?_
  refine Ex.ifc rfl rfl (fun (c0 : y4 = 0) => ?_) (fun (c0 : ¬ (y4 = 0)) => ?_)
  · rw [if_pos c0] at hf
    refine Ex.seg 2 (pc' := 117) (lc' := [some (.ref 38), some (.int y1), some (.int y2), some (.int y3), some (.int y4), some (.int y5)]) (st' := [.int (h6.1 38 14), .int (h6.1 38 13), .ref 46]) (h' := h6) (sg1 rfl rfl (sg1 rfl rfl rfl)) ?_
    exact Ex.weak (sm_le_s (sm_le_s (sm_le_s (sm_le_n (sm_le_s (sm_le_s sm_le_nil)))))) (B_114_117 hd  hf hs)
  · rw [if_neg c0] at hf
    refine Ex.seg 3 (pc' := 117) (lc' := [some (.ref 38), some (.int y1), some (.int y2), some (.int y3), some (.int y4), some (.int y5)]) (st' := [.int (h6.1 38 13), .int (h6.1 38 13), .ref 46]) (h' := h6) (sg1 rfl rfl (sg1 rfl rfl (sg1 rfl rfl rfl))) ?_
    exact Ex.weak (sm_le_s (sm_le_s (sm_le_s (sm_le_n (sm_le_s (sm_le_s sm_le_nil)))))) (B_114_117 hd  hf hs)
theorem B_114_60 {L : Nat} {xs : Nat → Int32} {d : Nat} (hd : 2 ≤ d) {res : Option Value × sm_H}   {h : sm_H} {r : (Int32 × sm_H)} (hf : F_114_60  h = some r) (hs : (fun (r : Int32 × sm_H) => res = (some (.int r.1), r.2)) r) : Ex (P_G L xs) (RUN L xs d) (sm_lk P_t114) 0 60 [none, none, none, none, none, none] [] h res := by
  unfold F_114_60 at hf
  refine Ex.seg 1 (pc' := 62) (lc' := [none, none, none, none, none, none]) (st' := [.int (-5)]) (h' := h) (sg1 rfl rfl rfl) ?_
  obtain rfl := Option.some.inj hf
  exact Ex.iret rfl rfl (fun c0 => by cases c0) hs
theorem B_114_22 {L : Nat} {xs : Nat → Int32} {d : Nat} (hd : 2 ≤ d) {res : Option Value × sm_H}   {h : sm_H} {r : (Int32 × sm_H)} (hf : F_114_22  h = some r) (hs : (fun (r : Int32 × sm_H) => res = (some (.int r.1), r.2)) r) : Ex (P_G L xs) (RUN L xs d) (sm_lk P_t114) 0 22 [none, none, none, none, none, none] [] h res := by
  unfold F_114_22 at hf
  refine Ex.seg 1 (pc' := 23) (lc' := [none, none, none, none, none, none]) (st' := [.int (-1)]) (h' := h) (sg1 rfl rfl rfl) ?_
  obtain rfl := Option.some.inj hf
  exact Ex.iret rfl rfl (fun c0 => by cases c0) hs
theorem B_114_0 {L : Nat} {xs : Nat → Int32} {d : Nat} (hd : 2 ≤ d) {res : Option Value × sm_H} {x1 : Int32} {x2 : Int32} {x3 : Int32} {x4 : Int32} {x5 : Int32}  {h : sm_H} {r : (Int32 × sm_H)} (hf : F_114_0 x1 x2 x3 x4 x5 h = some r) (hs : (fun (r : Int32 × sm_H) => res = (some (.int r.1), r.2)) r) : Ex (P_G L xs) (RUN L xs d) (sm_lk P_t114) 0 0 [some (.ref 38), some (.int x1), some (.int x2), some (.int x3), some (.int x4), some (.int x5)] [] h res := by
  unfold F_114_0 at hf
  refine Ex.seg 3 (pc' := 5) (lc' := [some (.ref 38), some (.int x1), some (.int x2), some (.int x3), some (.int x4), some (.int x5)]) (st' := [.int x1, .ref 1]) (h' := h) (sg1 rfl rfl (sg1 rfl rfl (sg1 rfl rfl rfl))) ?_
  obtain ⟨q7, e_q7, hf⟩ := bnd hf
  refine Ex.callV (a := 1) (As := [.int x1]) (r := []) (v := some (.int q7.1)) (h' := q7.2) rfl rfl (by decide) rfl (Nat.le_of_ble_eq_true rfl) rfl (E_55 (Nat.le_trans (by decide) hd) e_q7) rfl ?_
  refine Ex.ifc rfl rfl (fun (c0 : q7.1 = 0) => ?_) (fun (c0 : ¬ (q7.1 = 0)) => ?_)
  · rw [if_pos c0] at hf
    exact Ex.weak (sm_le_n (sm_le_n (sm_le_n (sm_le_n (sm_le_n (sm_le_n sm_le_nil)))))) (B_114_22 hd  hf hs)
  · rw [if_neg c0] at hf
    refine Ex.seg 3 (pc' := 16) (lc' := [some (.ref 38), some (.int x1), some (.int x2), some (.int x3), some (.int x4), some (.int x5)]) (st' := [.int x3, .ref 1]) (h' := q7.2) (sg1 rfl rfl (sg1 rfl rfl (sg1 rfl rfl rfl))) ?_
    obtain ⟨q8, e_q8, hf⟩ := bnd hf
    refine Ex.callV (a := 1) (As := [.int x3]) (r := []) (v := some (.int q8.1)) (h' := q8.2) rfl rfl (by decide) rfl (Nat.le_of_ble_eq_true rfl) rfl (E_54 (Nat.le_trans (by decide) hd) e_q8) rfl ?_
    refine Ex.ifc rfl rfl (fun (c0 : ¬ (q8.1 = 0)) => ?_) (fun (c0 : ¬ ¬ (q8.1 = 0)) => ?_)
    · rw [if_neg c0] at hf
      refine Ex.seg 3 (pc' := 28) (lc' := [some (.ref 38), some (.int x1), some (.int x2), some (.int x3), some (.int x4), some (.int x5)]) (st' := [.int x5, .int x2, .ref 38]) (h' := q8.2) (sg1 rfl rfl (sg1 rfl rfl (sg1 rfl rfl rfl))) ?_
      obtain ⟨q9, e_q9, hf⟩ := bnd hf
      refine Ex.callV (a := 38) (As := [.int x2, .int x5]) (r := []) (v := some (.int q9.1)) (h' := q9.2) rfl rfl (by decide) rfl (Nat.le_of_ble_eq_true rfl) rfl (E_116 (Nat.le_trans (by decide) hd) e_q9) rfl ?_
      refine Ex.ifc rfl rfl (fun (c0 : q9.1 = 0) => ?_) (fun (c0 : ¬ (q9.1 = 0)) => ?_)
      · rw [if_pos c0] at hf
        refine Ex.seg 3 (pc' := 43) (lc' := [some (.ref 38), some (.int x1), some (.int x2), some (.int x3), some (.int x4), some (.int x5)]) (st' := [.int 100, .int (q9.2.1 38 13)]) (h' := q9.2) (sg1 rfl rfl (sg1 rfl rfl (sg1 rfl rfl rfl))) ?_
        refine Ex.icmp rfl rfl (fun (c0 : 100 ≤ (q9.2.1 38 13)) => ?_) (fun (c0 : ¬ (100 ≤ (q9.2.1 38 13))) => ?_)
        · rw [if_pos c0] at hf
          exact Ex.weak (sm_le_n (sm_le_n (sm_le_n (sm_le_n (sm_le_n (sm_le_n sm_le_nil)))))) (B_114_60 hd  hf hs)
        · rw [if_neg c0] at hf
          refine Ex.seg 1 (pc' := 48) (lc' := [some (.ref 38), some (.int x1), some (.int x2), some (.int x3), some (.int x4), some (.int x5)]) (st' := [.int x4]) (h' := q9.2) (sg1 rfl rfl rfl) ?_
          refine Ex.ifc rfl rfl (fun (c0 : ¬ (x4 = 0)) => ?_) (fun (c0 : ¬ ¬ (x4 = 0)) => ?_)
          · rw [if_neg c0] at hf
            exact Ex.weak (sm_le_s (sm_le_s (sm_le_s (sm_le_s (sm_le_s (sm_le_s sm_le_nil)))))) (B_114_63 hd  hf hs)
          · rw [if_pos (Classical.not_not.mp c0)] at hf
            refine Ex.seg 3 (pc' := 57) (lc' := [some (.ref 38), some (.int x1), some (.int x2), some (.int x3), some (.int x4), some (.int x5)]) (st' := [.int 24, .int (q9.2.1 38 14)]) (h' := q9.2) (sg1 rfl rfl (sg1 rfl rfl (sg1 rfl rfl rfl))) ?_
            refine Ex.icmp rfl rfl (fun (c0 : (q9.2.1 38 14) < 24) => ?_) (fun (c0 : ¬ ((q9.2.1 38 14) < 24)) => ?_)
            · rw [if_pos c0] at hf
              exact Ex.weak (sm_le_s (sm_le_s (sm_le_s (sm_le_s (sm_le_s (sm_le_s sm_le_nil)))))) (B_114_63 hd  hf hs)
            · rw [if_neg c0] at hf
              exact Ex.weak (sm_le_n (sm_le_n (sm_le_n (sm_le_n (sm_le_n (sm_le_n sm_le_nil)))))) (B_114_60 hd  hf hs)
      · rw [if_neg c0] at hf
        refine Ex.seg 1 (pc' := 36) (lc' := [some (.ref 38), some (.int x1), some (.int x2), some (.int x3), some (.int x4), some (.int x5)]) (st' := [.int (-2)]) (h' := q9.2) (sg1 rfl rfl rfl) ?_
        obtain rfl := Option.some.inj hf
        exact Ex.iret rfl rfl (fun c0 => by cases c0) hs
    · rw [if_pos (Classical.not_not.mp c0)] at hf
      exact Ex.weak (sm_le_n (sm_le_n (sm_le_n (sm_le_n (sm_le_n (sm_le_n sm_le_nil)))))) (B_114_22 hd  hf hs)
theorem E_114 {L : Nat} {xs : Nat → Int32} {d : Nat} (hd : 3 ≤ d) {x1 : Int32} {x2 : Int32} {x3 : Int32} {x4 : Int32} {x5 : Int32} {h : sm_H} {r : Int32 × sm_H} (hf : F_114 x1 x2 x3 x4 x5 h = some r) : RUN L xs d 114 [.ref 38, .int x1, .int x2, .int x3, .int x4, .int x5] h (some (.int r.1), r.2) := by
  obtain ⟨d, rfl⟩ : ∃ e, d = e + 1 := ⟨d - 1, by omega⟩
  exact ⟨Nat.le_of_ble_eq_true rfl, B_114_0 (by omega) hf rfl⟩
theorem B_121_47 {L : Nat} {xs : Nat → Int32} {d : Nat} (hd : 2 ≤ d) {res : Option Value × sm_H} {z0 : Int32}  {h : sm_H} {r : (Int32 × sm_H)} (hf : F_121_47 z0 h = some r) (hs : (fun (r : Int32 × sm_H) => res = (some (.int r.1), r.2)) r) : Ex (P_G L xs) (RUN L xs d) (sm_lk P_t121) 3 47 [none, none] [.int z0] h res := by
  unfold F_121_47 at hf
  rcases Classical.em (z0 = 0 ∨ z0 = 1) with c0 | c0
  · rw [if_pos c0] at hf
    obtain rfl := Option.some.inj hf
    exact Ex.iret rfl rfl (fun _ => c0) hs
  · rw [if_neg c0] at hf
    cases hf
theorem B_121_46 {L : Nat} {xs : Nat → Int32} {d : Nat} (hd : 2 ≤ d) {res : Option Value × sm_H}   {h : sm_H} {r : (Int32 × sm_H)} (hf : F_121_46  h = some r) (hs : (fun (r : Int32 × sm_H) => res = (some (.int r.1), r.2)) r) : Ex (P_G L xs) (RUN L xs d) (sm_lk P_t121) 3 46 [none, none] [] h res := by
  unfold F_121_46 at hf
  refine Ex.seg 1 (pc' := 47) (lc' := [none, none]) (st' := [.int 0]) (h' := h) (sg1 rfl rfl rfl) ?_
  exact Ex.weak (sm_le_s (sm_le_s sm_le_nil)) (B_121_47 hd  hf hs)
theorem B_121_0 {L : Nat} {xs : Nat → Int32} {d : Nat} (hd : 2 ≤ d) {res : Option Value × sm_H} {x1 : Int32}  {h : sm_H} {r : (Int32 × sm_H)} (hf : F_121_0 x1 h = some r) (hs : (fun (r : Int32 × sm_H) => res = (some (.int r.1), r.2)) r) : Ex (P_G L xs) (RUN L xs d) (sm_lk P_t121) 3 0 [some (.ref 38), some (.int x1)] [] h res := by
  unfold F_121_0 at hf
  refine Ex.seg 2 (pc' := 2) (lc' := [some (.ref 38), some (.int x1)]) (st' := [.int x1, .ref 38]) (h' := h) (sg1 rfl rfl (sg1 rfl rfl rfl)) ?_
  obtain ⟨q1, e_q1, hf⟩ := bnd hf
  refine Ex.callV (a := 38) (As := [.int x1]) (r := []) (v := some (.int q1.1)) (h' := q1.2) rfl rfl (by decide) rfl (Nat.le_of_ble_eq_true rfl) rfl (E_128 (Nat.le_trans (by decide) hd) e_q1) rfl ?_
  refine Ex.ifc rfl rfl (fun (c0 : ¬ (q1.1 = 0)) => ?_) (fun (c0 : ¬ ¬ (q1.1 = 0)) => ?_)
  · rw [if_neg c0] at hf
    exact Ex.weak (sm_le_n (sm_le_n sm_le_nil)) (B_121_46 hd  hf hs)
  · rw [if_pos (Classical.not_not.mp c0)] at hf
    refine Ex.seg 3 (pc' := 13) (lc' := [some (.ref 38), some (.int x1)]) (st' := [.int x1, .ref 42]) (h' := q1.2) (sg1 rfl rfl (sg1 rfl rfl (sg1 rfl rfl rfl))) ?_
    obtain ⟨v2, e_v2, hf⟩ := bnd hf
    refine Ex.zald e_v2 rfl rfl ?_
    refine Ex.ifc rfl rfl (fun (c0 : ¬ (v2 = 0)) => ?_) (fun (c0 : ¬ ¬ (v2 = 0)) => ?_)
    · rw [if_neg c0] at hf
      exact Ex.weak (sm_le_n (sm_le_n sm_le_nil)) (B_121_46 hd  hf hs)
    · rw [if_pos (Classical.not_not.mp c0)] at hf
      refine Ex.seg 3 (pc' := 22) (lc' := [some (.ref 38), some (.int x1)]) (st' := [.int x1, .ref 40]) (h' := q1.2) (sg1 rfl rfl (sg1 rfl rfl (sg1 rfl rfl rfl))) ?_
      obtain ⟨v3, e_v3, hf⟩ := bnd hf
      refine Ex.iald e_v3 rfl rfl ?_
      refine Ex.ifc rfl rfl (fun (c0 : ¬ (v3 = 0)) => ?_) (fun (c0 : ¬ ¬ (v3 = 0)) => ?_)
      · rw [if_neg c0] at hf
        exact Ex.weak (sm_le_n (sm_le_n sm_le_nil)) (B_121_46 hd  hf hs)
      · rw [if_pos (Classical.not_not.mp c0)] at hf
        refine Ex.seg 5 (pc' := 35) (lc' := [some (.ref 38), some (.int x1)]) (st' := [.int x1, .ref 45, .ref 5]) (h' := q1.2) (sg1 rfl rfl (sg1 rfl rfl (sg1 rfl rfl (sg1 rfl rfl (sg1 rfl rfl rfl))))) ?_
        obtain ⟨v4, e_v4, hf⟩ := bnd hf
        refine Ex.iald e_v4 rfl rfl ?_
        obtain ⟨q5, e_q5, hf⟩ := bnd hf
        refine Ex.callV (a := 5) (As := [.int v4]) (r := []) (v := some (.int q5.1)) (h' := q5.2) rfl rfl (by decide) rfl (Nat.le_of_ble_eq_true rfl) rfl (E_225 (Nat.le_trans (by decide) hd) e_q5) rfl ?_
        refine Ex.ifc rfl rfl (fun (c0 : ¬ (q5.1 = 0)) => ?_) (fun (c0 : ¬ ¬ (q5.1 = 0)) => ?_)
        · rw [if_neg c0] at hf
          exact Ex.weak (sm_le_n (sm_le_n sm_le_nil)) (B_121_46 hd  hf hs)
        · rw [if_pos (Classical.not_not.mp c0)] at hf
          refine Ex.seg 2 (pc' := 47) (lc' := [some (.ref 38), some (.int x1)]) (st' := [.int 1]) (h' := q5.2) (sg1 rfl rfl (sg1 rfl rfl rfl)) ?_
          exact Ex.weak (sm_le_n (sm_le_n sm_le_nil)) (B_121_47 hd  hf hs)
theorem E_121 {L : Nat} {xs : Nat → Int32} {d : Nat} (hd : 3 ≤ d) {x1 : Int32} {h : sm_H} {r : Int32 × sm_H} (hf : F_121 x1 h = some r) : RUN L xs d 121 [.ref 38, .int x1] h (some (.int r.1), r.2) := by
  obtain ⟨d, rfl⟩ : ∃ e, d = e + 1 := ⟨d - 1, by omega⟩
  exact ⟨Nat.le_of_ble_eq_true rfl, B_121_0 (by omega) hf rfl⟩
theorem B_125_0 {L : Nat} {xs : Nat → Int32} {d : Nat} (hd : 2 ≤ d) {res : Option Value × sm_H} {x1 : Int32}  {h : sm_H} {r : (Int32 × sm_H)} (hf : F_125_0 x1 h = some r) (hs : (fun (r : Int32 × sm_H) => res = (some (.int r.1), r.2)) r) : Ex (P_G L xs) (RUN L xs d) (sm_lk P_t125) 0 0 [some (.ref 38), some (.int x1)] [] h res := by
  unfold F_125_0 at hf
  refine Ex.seg 5 (pc' := 9) (lc' := [some (.ref 38), some (.int x1)]) (st' := [.int x1, .ref 45, .ref 5]) (h' := h) (sg1 rfl rfl (sg1 rfl rfl (sg1 rfl rfl (sg1 rfl rfl (sg1 rfl rfl rfl))))) ?_
  obtain ⟨v1, e_v1, hf⟩ := bnd hf
  refine Ex.iald e_v1 rfl rfl ?_
  refine Ex.seg 6 (pc' := 20) (lc' := [some (.ref 38), some (.int x1)]) (st' := [.int x1, .ref 45, .ref 5, .int 0, .int v1, .ref 5]) (h' := h) (sg1 rfl rfl (sg1 rfl rfl (sg1 rfl rfl (sg1 rfl rfl (sg1 rfl rfl (sg1 rfl rfl rfl)))))) ?_
  obtain ⟨v2, e_v2, hf⟩ := bnd hf
  refine Ex.iald e_v2 rfl rfl ?_
  obtain ⟨q3, e_q3, hf⟩ := bnd hf
  refine Ex.callV (a := 5) (As := [.int v2]) (r := [.int 0, .int v1, .ref 5]) (v := some (.int q3.1)) (h' := q3.2) rfl rfl (by decide) rfl (Nat.le_of_ble_eq_true rfl) rfl (E_226 (Nat.le_trans (by decide) hd) e_q3) rfl ?_
  obtain ⟨q4, e_q4, hf⟩ := bnd hf
  refine Ex.callV (a := 5) (As := [.int v1, .int 0, .int q3.1]) (r := []) (v := none) (h' := q4) rfl rfl (by decide) rfl (Nat.le_of_ble_eq_true rfl) rfl (E_230 (Nat.le_trans (by decide) hd) e_q4) rfl ?_
  refine Ex.seg 5 (pc' := 36) (lc' := [some (.ref 38), some (.int x1)]) (st' := [.int x1, .ref 45, .ref 5]) (h' := q4) (sg1 rfl rfl (sg1 rfl rfl (sg1 rfl rfl (sg1 rfl rfl (sg1 rfl rfl rfl))))) ?_
  obtain ⟨v5, e_v5, hf⟩ := bnd hf
  refine Ex.iald e_v5 rfl rfl ?_
  obtain ⟨q6, e_q6, hf⟩ := bnd hf
  refine Ex.callV (a := 5) (As := [.int v5]) (r := []) (v := some (.int q6.1)) (h' := q6.2) rfl rfl (by decide) rfl (Nat.le_of_ble_eq_true rfl) rfl (E_225 (Nat.le_trans (by decide) hd) e_q6) rfl ?_
  obtain rfl := Option.some.inj hf
  exact Ex.iret rfl rfl (fun c0 => by cases c0) hs
theorem E_125 {L : Nat} {xs : Nat → Int32} {d : Nat} (hd : 3 ≤ d) {x1 : Int32} {h : sm_H} {r : Int32 × sm_H} (hf : F_125 x1 h = some r) : RUN L xs d 125 [.ref 38, .int x1] h (some (.int r.1), r.2) := by
  obtain ⟨d, rfl⟩ : ∃ e, d = e + 1 := ⟨d - 1, by omega⟩
  exact ⟨Nat.le_of_ble_eq_true rfl, B_125_0 (by omega) hf rfl⟩
theorem B_134_69 {L : Nat} {xs : Nat → Int32} {d : Nat} (hd : 3 ≤ d) {res : Option Value × sm_H} {z0 : Int32}  {h : sm_H} {r : (Int32 × sm_H)} (hf : F_134_69 z0 h = some r) (hs : (fun (r : Int32 × sm_H) => res = (some (.int r.1), r.2)) r) : Ex (P_G L xs) (RUN L xs d) (sm_lk P_t134) 3 69 [none, none, none] [.int z0] h res := by
  unfold F_134_69 at hf
  rcases Classical.em (z0 = 0 ∨ z0 = 1) with c0 | c0
  · rw [if_pos c0] at hf
    obtain rfl := Option.some.inj hf
    exact Ex.iret rfl rfl (fun _ => c0) hs
  · rw [if_neg c0] at hf
    cases hf
theorem B_134_68 {L : Nat} {xs : Nat → Int32} {d : Nat} (hd : 3 ≤ d) {res : Option Value × sm_H}   {h : sm_H} {r : (Int32 × sm_H)} (hf : F_134_68  h = some r) (hs : (fun (r : Int32 × sm_H) => res = (some (.int r.1), r.2)) r) : Ex (P_G L xs) (RUN L xs d) (sm_lk P_t134) 3 68 [none, none, none] [] h res := by
  unfold F_134_68 at hf
  refine Ex.seg 1 (pc' := 69) (lc' := [none, none, none]) (st' := [.int 0]) (h' := h) (sg1 rfl rfl rfl) ?_
  exact Ex.weak (sm_le_s (sm_le_s (sm_le_s sm_le_nil))) (B_134_69 hd  hf hs)
theorem B_134_0 {L : Nat} {xs : Nat → Int32} {d : Nat} (hd : 3 ≤ d) {res : Option Value × sm_H} {x1 : Int32} {x2 : Int32}  {h : sm_H} {r : (Int32 × sm_H)} (hf : F_134_0 x1 x2 h = some r) (hs : (fun (r : Int32 × sm_H) => res = (some (.int r.1), r.2)) r) : Ex (P_G L xs) (RUN L xs d) (sm_lk P_t134) 3 0 [some (.ref 38), some (.int x1), some (.int x2)] [] h res := by
  unfold F_134_0 at hf
  refine Ex.seg 3 (pc' := 5) (lc' := [some (.ref 38), some (.int x1), some (.int x2)]) (st' := [.int x1, .ref 40]) (h' := h) (sg1 rfl rfl (sg1 rfl rfl (sg1 rfl rfl rfl))) ?_
  obtain ⟨v1, e_v1, hf⟩ := bnd hf
  refine Ex.iald e_v1 rfl rfl ?_
  refine Ex.seg 3 (pc' := 11) (lc' := [some (.ref 38), some (.int x1), some (.int x2)]) (st' := [.int x2, .ref 40, .int v1]) (h' := h) (sg1 rfl rfl (sg1 rfl rfl (sg1 rfl rfl rfl))) ?_
  obtain ⟨v2, e_v2, hf⟩ := bnd hf
  refine Ex.iald e_v2 rfl rfl ?_
  refine Ex.icmp rfl rfl (fun (c0 : ¬ (v1 = v2)) => ?_) (fun (c0 : ¬ ¬ (v1 = v2)) => ?_)
  · rw [if_neg c0] at hf
    exact Ex.weak (sm_le_n (sm_le_n (sm_le_n sm_le_nil))) (B_134_68 hd  hf hs)
  · rw [if_pos (Classical.not_not.mp c0)] at hf
    refine Ex.seg 3 (pc' := 20) (lc' := [some (.ref 38), some (.int x1), some (.int x2)]) (st' := [.int x1, .ref 45]) (h' := h) (sg1 rfl rfl (sg1 rfl rfl (sg1 rfl rfl rfl))) ?_
    obtain ⟨v3, e_v3, hf⟩ := bnd hf
    refine Ex.iald e_v3 rfl rfl ?_
    refine Ex.seg 3 (pc' := 26) (lc' := [some (.ref 38), some (.int x1), some (.int x2)]) (st' := [.int x2, .ref 45, .int v3]) (h' := h) (sg1 rfl rfl (sg1 rfl rfl (sg1 rfl rfl rfl))) ?_
    obtain ⟨v4, e_v4, hf⟩ := bnd hf
    refine Ex.iald e_v4 rfl rfl ?_
    refine Ex.icmp rfl rfl (fun (c0 : ¬ (v3 = v4)) => ?_) (fun (c0 : ¬ ¬ (v3 = v4)) => ?_)
    · rw [if_neg c0] at hf
      exact Ex.weak (sm_le_n (sm_le_n (sm_le_n sm_le_nil))) (B_134_68 hd  hf hs)
    · rw [if_pos (Classical.not_not.mp c0)] at hf
      refine Ex.seg 2 (pc' := 32) (lc' := [some (.ref 38), some (.int x1), some (.int x2)]) (st' := [.int x1, .ref 38]) (h' := h) (sg1 rfl rfl (sg1 rfl rfl rfl)) ?_
      obtain ⟨q5, e_q5, hf⟩ := bnd hf
      refine Ex.callV (a := 38) (As := [.int x1]) (r := []) (v := some (.int q5.1)) (h' := q5.2) rfl rfl (by decide) rfl (Nat.le_of_ble_eq_true rfl) rfl (E_128 (Nat.le_trans (by decide) hd) e_q5) rfl ?_
      refine Ex.ifc rfl rfl (fun (c0 : ¬ (q5.1 = 0)) => ?_) (fun (c0 : ¬ ¬ (q5.1 = 0)) => ?_)
      · rw [if_neg c0] at hf
        exact Ex.weak (sm_le_n (sm_le_n (sm_le_n sm_le_nil))) (B_134_68 hd  hf hs)
      · rw [if_pos (Classical.not_not.mp c0)] at hf
        refine Ex.seg 3 (pc' := 43) (lc' := [some (.ref 38), some (.int x1), some (.int x2)]) (st' := [.int x1, .ref 42]) (h' := q5.2) (sg1 rfl rfl (sg1 rfl rfl (sg1 rfl rfl rfl))) ?_
        obtain ⟨v6, e_v6, hf⟩ := bnd hf
        refine Ex.zald e_v6 rfl rfl ?_
        refine Ex.ifc rfl rfl (fun (c0 : ¬ (v6 = 0)) => ?_) (fun (c0 : ¬ ¬ (v6 = 0)) => ?_)
        · rw [if_neg c0] at hf
          exact Ex.weak (sm_le_n (sm_le_n (sm_le_n sm_le_nil))) (B_134_68 hd  hf hs)
        · rw [if_pos (Classical.not_not.mp c0)] at hf
          refine Ex.seg 2 (pc' := 49) (lc' := [some (.ref 38), some (.int x1), some (.int x2)]) (st' := [.int x1, .ref 38]) (h' := q5.2) (sg1 rfl rfl (sg1 rfl rfl rfl)) ?_
          obtain ⟨q7, e_q7, hf⟩ := bnd hf
          refine Ex.callV (a := 38) (As := [.int x1]) (r := []) (v := some (.int q7.1)) (h' := q7.2) rfl rfl (by decide) rfl (Nat.le_of_ble_eq_true rfl) rfl (E_121 (Nat.le_trans (by decide) hd) e_q7) rfl ?_
          refine Ex.ifc rfl rfl (fun (c0 : ¬ (q7.1 = 0)) => ?_) (fun (c0 : ¬ ¬ (q7.1 = 0)) => ?_)
          · rw [if_neg c0] at hf
            exact Ex.weak (sm_le_n (sm_le_n (sm_le_n sm_le_nil))) (B_134_68 hd  hf hs)
          · rw [if_pos (Classical.not_not.mp c0)] at hf
            refine Ex.seg 3 (pc' := 60) (lc' := [some (.ref 38), some (.int x1), some (.int x2)]) (st' := [.int x1, .ref 41]) (h' := q7.2) (sg1 rfl rfl (sg1 rfl rfl (sg1 rfl rfl rfl))) ?_
            obtain ⟨v8, e_v8, hf⟩ := bnd hf
            refine Ex.iald e_v8 rfl rfl ?_
            refine Ex.ifc rfl rfl (fun (c0 : v8 = 0) => ?_) (fun (c0 : ¬ (v8 = 0)) => ?_)
            · rw [if_pos c0] at hf
              exact Ex.weak (sm_le_n (sm_le_n (sm_le_n sm_le_nil))) (B_134_68 hd  hf hs)
            · rw [if_neg c0] at hf
              refine Ex.seg 2 (pc' := 69) (lc' := [some (.ref 38), some (.int x1), some (.int x2)]) (st' := [.int 1]) (h' := q7.2) (sg1 rfl rfl (sg1 rfl rfl rfl)) ?_
              exact Ex.weak (sm_le_n (sm_le_n (sm_le_n sm_le_nil))) (B_134_69 hd  hf hs)
theorem E_134 {L : Nat} {xs : Nat → Int32} {d : Nat} (hd : 4 ≤ d) {x1 : Int32} {x2 : Int32} {h : sm_H} {r : Int32 × sm_H} (hf : F_134 x1 x2 h = some r) : RUN L xs d 134 [.ref 38, .int x1, .int x2] h (some (.int r.1), r.2) := by
  obtain ⟨d, rfl⟩ : ∃ e, d = e + 1 := ⟨d - 1, by omega⟩
  exact ⟨Nat.le_of_ble_eq_true rfl, B_134_0 (by omega) hf rfl⟩
theorem B_148_37 {L : Nat} {xs : Nat → Int32} {d : Nat} (hd : 1 ≤ d) {res : Option Value × sm_H} {z0 : Int64}  {h : sm_H} {r : (Int64 × sm_H)} (hf : F_148_37 z0 h = some r) (hs : (fun (r : Int64 × sm_H) => res = (some (.long r.1), r.2)) r) : Ex (P_G L xs) (RUN L xs d) (sm_lk P_t148) 0 37 [none, none, none, none] [.long z0] h res := by
  unfold F_148_37 at hf
  obtain rfl := Option.some.inj hf
  exact Ex.lret rfl rfl hs
theorem B_148_0 {L : Nat} {xs : Nat → Int32} {d : Nat} (hd : 1 ≤ d) {res : Option Value × sm_H} {x1 : Int64} {x3 : Int32}  {h : sm_H} {r : (Int64 × sm_H)} (hf : F_148_0 x1 x3 h = some r) (hs : (fun (r : Int64 × sm_H) => res = (some (.long r.1), r.2)) r) : Ex (P_G L xs) (RUN L xs d) (sm_lk P_t148) 0 0 [some (.ref 21), some (.long x1), none, some (.int x3)] [] h res := by
  unfold F_148_0 at hf
  refine Ex.seg 3 (pc' := 5) (lc' := [some (.ref 21), some (.long x1), none, some (.int x3)]) (st' := [.int x3, .ref 1]) (h' := h) (sg1 rfl rfl (sg1 rfl rfl (sg1 rfl rfl rfl))) ?_
  obtain ⟨q1, e_q1, hf⟩ := bnd hf
  refine Ex.callV (a := 1) (As := [.int x3]) (r := []) (v := some (.int q1.1)) (h' := q1.2) rfl rfl (by decide) rfl (Nat.le_of_ble_eq_true rfl) rfl (E_59 (Nat.le_trans (by decide) hd) e_q1) rfl ?_
  refine Ex.ifc rfl rfl (fun (c0 : q1.1 = 0) => ?_) (fun (c0 : ¬ (q1.1 = 0)) => ?_)
  · rw [if_pos c0] at hf
    refine Ex.seg 3 (pc' := 26) (lc' := [some (.ref 21), some (.long x1), none, some (.int x3)]) (st' := [.int x3, .ref 1]) (h' := q1.2) (sg1 rfl rfl (sg1 rfl rfl (sg1 rfl rfl rfl))) ?_
    obtain ⟨q2, e_q2, hf⟩ := bnd hf
    refine Ex.callV (a := 1) (As := [.int x3]) (r := []) (v := some (.int q2.1)) (h' := q2.2) rfl rfl (by decide) rfl (Nat.le_of_ble_eq_true rfl) rfl (E_55 (Nat.le_trans (by decide) hd) e_q2) rfl ?_
    refine Ex.ifc rfl rfl (fun (c0 : q2.1 = 0) => ?_) (fun (c0 : ¬ (q2.1 = 0)) => ?_)
    · rw [if_pos c0] at hf
      refine Ex.seg 1 (pc' := 37) (lc' := [some (.ref 21), some (.long x1), none, some (.int x3)]) (st' := [.long x1]) (h' := q2.2) (sg1 rfl rfl rfl) ?_
      exact Ex.weak (sm_le_n (sm_le_n (sm_le_s (sm_le_n sm_le_nil)))) (B_148_37 hd  hf hs)
    · rw [if_neg c0] at hf
      refine Ex.seg 2 (pc' := 37) (lc' := [some (.ref 21), some (.long x1), none, some (.int x3)]) (st' := [.long 0]) (h' := q2.2) (sg1 rfl rfl (sg1 rfl rfl rfl)) ?_
      exact Ex.weak (sm_le_n (sm_le_n (sm_le_s (sm_le_n sm_le_nil)))) (B_148_37 hd  hf hs)
  · rw [if_neg c0] at hf
    refine Ex.seg 2 (pc' := 13) (lc' := [some (.ref 21), some (.long x1), none, some (.int x3)]) (st' := [.long x1, .ref 21]) (h' := q1.2) (sg1 rfl rfl (sg1 rfl rfl rfl)) ?_
    obtain ⟨q3, e_q3, hf⟩ := bnd hf
    refine Ex.callV (a := 21) (As := [.long x1]) (r := []) (v := some (.ref q3.1)) (h' := q3.2) rfl rfl (by decide) rfl (Nat.le_of_ble_eq_true rfl) rfl (E_147 (Nat.le_trans (by decide) hd) e_q3) rfl ?_
    have g5 : sm_is G0 q3.2 q3.1 8 = true := Classical.byContradiction (fun z => by rw [if_pos z] at hf; cases hf)
    rw [if_neg (fun z => z g5)] at hf
    obtain ⟨q4, e_q4, hf⟩ := bnd hf
    refine Ex.callV (a := q3.1) (As := []) (r := []) (v := some (.int q4.1)) (h' := q4.2) rfl rfl (by decide) rfl (Nat.le_of_ble_eq_true rfl) g5 (E_216 (Nat.le_trans (by decide) hd) e_q4) rfl ?_
    refine Ex.seg 1 (pc' := 20) (lc' := [some (.ref 21), some (.long x1), none, some (.int x3)]) (st' := [.long (Int32.toInt64 q4.1)]) (h' := q4.2) (sg1 rfl rfl rfl) ?_
    obtain rfl := Option.some.inj hf
    exact Ex.lret rfl rfl hs
theorem E_148 {L : Nat} {xs : Nat → Int32} {d : Nat} (hd : 2 ≤ d) {x1 : Int64} {x3 : Int32} {h : sm_H} {r : Int64 × sm_H} (hf : F_148 x1 x3 h = some r) : RUN L xs d 148 [.ref 21, .long x1, .int x3] h (some (.long r.1), r.2) := by
  obtain ⟨d, rfl⟩ : ∃ e, d = e + 1 := ⟨d - 1, by omega⟩
  exact ⟨Nat.le_of_ble_eq_true rfl, B_148_0 (by omega) hf rfl⟩
