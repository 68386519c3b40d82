theorem B_208_77 {L : Nat} {xs : Nat → Int32} {d : Nat} (hd : 2 ≤ d) {res : Option Value × sm_H}   {h : sm_H} {r : (Int32 × sm_H)} (hf : F_208_77  h = some r) (hs : (fun (r : Int32 × sm_H) => res = (some (.int r.1), r.2)) r) : Ex (P_G L xs) (RUN L xs d) (sm_lk P_t208) 3 77 [none, none, none, none, none] [] h res := by
  unfold F_208_77 at hf
  refine Ex.seg 1 (pc' := 78) (lc' := [none, none, none, none, none]) (st' := [.int 1]) (h' := h) (sg1 rfl rfl rfl) ?_
  obtain rfl := Option.some.inj hf
  exact Ex.iret rfl rfl (fun _ => by decide) hs
theorem B_208_32B {L : Nat} {xs : Nat → Int32} {d : Nat} (hd : 2 ≤ d) {res : Option Value × sm_H} {S1 : (Int32 × Int32 × Int32 × sm_H) → Prop} (hS1 : ∀ s, S1 s → Ex (P_G L xs) (RUN L xs d) (sm_lk P_t208) 3 32 [some (.ref 55), some (.int s.1), some (.int s.2.1), none, some (.int s.2.2.1)] [] s.2.2.2 res) {s : (Int32 × Int32 × Int32 × sm_H)}  {r : ((Int32 × Int32 × Int32 × sm_H) ⊕ (Int32 × sm_H))} (hf : F_208_32B s = some r) (hs : (Sum.elim S1 (fun (r : Int32 × sm_H) => res = (some (.int r.1), r.2))) r) : Ex (P_G L xs) (RUN L xs d) (sm_lk P_t208) 3 32 [some (.ref 55), some (.int s.1), some (.int s.2.1), none, some (.int s.2.2.1)] [] s.2.2.2 res := by
  unfold F_208_32B at hf
  refine Ex.seg 2 (pc' := 35) (lc' := [some (.ref 55), some (.int s.1), some (.int s.2.1), none, some (.int s.2.2.1)]) (st' := [.int s.2.1, .int s.2.2.1]) (h' := s.2.2.2) (sg1 rfl rfl (sg1 rfl rfl rfl)) ?_
  refine Ex.icmp rfl rfl (fun (c0 : s.2.1 ≤ s.2.2.1) => ?_) (fun (c0 : ¬ (s.2.1 ≤ s.2.2.1)) => ?_)
  · rw [if_pos c0] at hf
    obtain ⟨r0, hf0, rfl⟩ := Option.map_eq_some_iff.mp hf
    exact Ex.weak (sm_le_n (sm_le_n (sm_le_n (sm_le_s (sm_le_n sm_le_nil))))) (B_208_77 hd  hf0 hs)
  · rw [if_neg c0] at hf
    refine Ex.seg 4 (pc' := 45) (lc' := [some (.ref 55), some (.int s.1), some (.int s.2.1), none, some (.int s.2.2.1)]) (st' := [.int 200, .int (s.1 + s.2.2.1)]) (h' := s.2.2.2) (sg1 rfl rfl (sg1 rfl rfl (sg1 rfl rfl (sg1 rfl rfl rfl)))) ?_
    refine Ex.icmp rfl rfl (fun (c0 : 200 ≤ (s.1 + s.2.2.1)) => ?_) (fun (c0 : ¬ (200 ≤ (s.1 + s.2.2.1))) => ?_)
    · rw [if_pos c0] at hf
      obtain ⟨r0, hf0, rfl⟩ := Option.map_eq_some_iff.mp hf
      exact Ex.weak (sm_le_n (sm_le_n (sm_le_n (sm_le_s (sm_le_n sm_le_nil))))) (B_208_77 hd  hf0 hs)
    · rw [if_neg c0] at hf
      refine Ex.seg 7 (pc' := 59) (lc' := [some (.ref 55), some (.int s.1), some (.int s.2.1), none, some (.int s.2.2.1)]) (st' := [.int (s.1 + s.2.2.1), .ref 61, .int s.2.2.1, .ref 55]) (h' := s.2.2.2) (sg1 rfl rfl (sg1 rfl rfl (sg1 rfl rfl (sg1 rfl rfl (sg1 rfl rfl (sg1 rfl rfl (sg1 rfl rfl rfl))))))) ?_
      obtain ⟨v1, e_v1, hf⟩ := bnd hf
      refine Ex.lald e_v1 rfl rfl ?_
      refine Ex.seg 4 (pc' := 65) (lc' := [some (.ref 55), some (.int s.1), some (.int s.2.1), none, some (.int s.2.2.1)]) (st' := [.int (s.1 + s.2.2.1), .ref 55, .long v1, .int s.2.2.1, .ref 55]) (h' := s.2.2.2) (sg1 rfl rfl (sg1 rfl rfl (sg1 rfl rfl (sg1 rfl rfl rfl)))) ?_
      obtain ⟨q2, e_q2, hf⟩ := bnd hf
      refine Ex.callV (a := 55) (As := [.int (s.1 + s.2.2.1)]) (r := [.long v1, .int s.2.2.1, .ref 55]) (v := some (.int q2.1)) (h' := q2.2) rfl rfl (by decide) rfl (Nat.le_of_ble_eq_true rfl) rfl (E_189 (Nat.le_trans (by decide) hd) e_q2) rfl ?_
      obtain ⟨q3, e_q3, hf⟩ := bnd hf
      refine Ex.callV (a := 55) (As := [.int s.2.2.1, .long v1, .int q2.1]) (r := []) (v := none) (h' := q3) rfl rfl (by decide) rfl (Nat.le_of_ble_eq_true rfl) rfl (E_183 (Nat.le_trans (by decide) hd) e_q3) rfl ?_
      refine Ex.seg 1 (pc' := 74) (lc' := [some (.ref 55), some (.int s.1), some (.int s.2.1), none, some (.int (s.2.2.1 + 1))]) (st' := []) (h' := q3) (sg1 rfl rfl rfl) ?_
      obtain ⟨v4, e_v4, hf⟩ := bnd hf
      rw [Option.some.inj e_v4]
      refine Ex.seg 1 (pc' := 32) (lc' := [some (.ref 55), some (.int s.1), some (.int s.2.1), none, some (.int v4)]) (st' := []) (h' := q3) (sg1 rfl rfl rfl) ?_
      obtain rfl := Option.some.inj hf
      exact Ex.weak (sm_le_s (sm_le_s (sm_le_s (sm_le_s (sm_le_s sm_le_nil))))) (hS1 _ hs)
theorem B_208_32 {L : Nat} {xs : Nat → Int32} {d : Nat} (hd : 2 ≤ d) {res : Option Value × sm_H} {y1 : Int32} {y2 : Int32} {y4 : Int32}  {h : sm_H} {r : (Int32 × sm_H)} (hf : F_208_32 y1 y2 y4 h = some r) (hs : (fun (r : Int32 × sm_H) => res = (some (.int r.1), r.2)) r) : Ex (P_G L xs) (RUN L xs d) (sm_lk P_t208) 3 32 [some (.ref 55), some (.int y1), some (.int y2), none, some (.int y4)] [] h res := by
  unfold F_208_32 at hf
  exact lp_ok (P := fun (s : (Int32 × Int32 × Int32 × sm_H)) => Ex (P_G L xs) (RUN L xs d) (sm_lk P_t208) 3 32 [some (.ref 55), some (.int s.1), some (.int s.2.1), none, some (.int s.2.2.1)] [] s.2.2.2 res) (S := (fun (r : Int32 × sm_H) => res = (some (.int r.1), r.2))) (fun s x hx hsx => by
    intros
    exact B_208_32B hd  (fun _ q => q) hx hsx) 1000000 _ r hf hs
theorem B_208_27 {L : Nat} {xs : Nat → Int32} {d : Nat} (hd : 2 ≤ d) {res : Option Value × sm_H}   {h : sm_H} {r : (Int32 × sm_H)} (hf : F_208_27  h = some r) (hs : (fun (r : Int32 × sm_H) => res = (some (.int r.1), r.2)) r) : Ex (P_G L xs) (RUN L xs d) (sm_lk P_t208) 3 27 [none, none, none, none, none] [] h res := by
  unfold F_208_27 at hf
  refine Ex.seg 1 (pc' := 28) (lc' := [none, none, none, none, none]) (st' := [.int 0]) (h' := h) (sg1 rfl rfl rfl) ?_
  obtain rfl := Option.some.inj hf
  exact Ex.iret rfl rfl (fun _ => by decide) hs
theorem B_208_0 {L : Nat} {xs : Nat → Int32} {d : Nat} (hd : 2 ≤ d) {res : Option Value × sm_H} {x1 : Int32} {x2 : Int32} {x3 : Int32}  {h : sm_H} {r : (Int32 × sm_H)} (hf : F_208_0 x1 x2 x3 h = some r) (hs : (fun (r : Int32 × sm_H) => res = (some (.int r.1), r.2)) r) : Ex (P_G L xs) (RUN L xs d) (sm_lk P_t208) 3 0 [some (.ref 55), some (.int x1), some (.int x2), some (.int x3), none] [] h res := by
  unfold F_208_0 at hf
  refine Ex.seg 1 (pc' := 1) (lc' := [some (.ref 55), some (.int x1), some (.int x2), some (.int x3), none]) (st' := [.int x1]) (h' := h) (sg1 rfl rfl rfl) ?_
  refine Ex.ifc rfl rfl (fun (c0 : x1 < 0) => ?_) (fun (c0 : ¬ (x1 < 0)) => ?_)
  · rw [if_pos c0] at hf
    exact Ex.weak (sm_le_n (sm_le_n (sm_le_n (sm_le_n (sm_le_s sm_le_nil))))) (B_208_27 hd  hf hs)
  · rw [if_neg c0] at hf
    refine Ex.seg 1 (pc' := 5) (lc' := [some (.ref 55), some (.int x1), some (.int x2), some (.int x3), none]) (st' := [.int x2]) (h' := h) (sg1 rfl rfl rfl) ?_
    refine Ex.ifc rfl rfl (fun (c0 : x2 < 0) => ?_) (fun (c0 : ¬ (x2 < 0)) => ?_)
    · rw [if_pos c0] at hf
      exact Ex.weak (sm_le_n (sm_le_n (sm_le_n (sm_le_n (sm_le_s sm_le_nil))))) (B_208_27 hd  hf hs)
    · rw [if_neg c0] at hf
      refine Ex.seg 5 (pc' := 15) (lc' := [some (.ref 55), some (.int x1), some (.int x2), some (.int x3), none]) (st' := [.int (h.1 55 12), .int (x1 + x2)]) (h' := h) (sg1 rfl rfl (sg1 rfl rfl (sg1 rfl rfl (sg1 rfl rfl (sg1 rfl rfl rfl))))) ?_
      refine Ex.icmp rfl rfl (fun (c0 : (h.1 55 12) < (x1 + x2)) => ?_) (fun (c0 : ¬ ((h.1 55 12) < (x1 + x2))) => ?_)
      · rw [if_pos c0] at hf
        exact Ex.weak (sm_le_n (sm_le_n (sm_le_n (sm_le_n (sm_le_s sm_le_nil))))) (B_208_27 hd  hf hs)
      · rw [if_neg c0] at hf
        refine Ex.seg 3 (pc' := 21) (lc' := [some (.ref 55), some (.int x1), some (.int x2), some (.int x3), none]) (st' := [.int x3, .int x2, .ref 55]) (h' := h) (sg1 rfl rfl (sg1 rfl rfl (sg1 rfl rfl rfl))) ?_
        obtain ⟨q5, e_q5, hf⟩ := bnd hf
        refine Ex.callV (a := 55) (As := [.int x2, .int x3]) (r := []) (v := some (.int q5.1)) (h' := q5.2) rfl rfl (by decide) rfl (Nat.le_of_ble_eq_true rfl) rfl (E_182 (Nat.le_trans (by decide) hd) e_q5) rfl ?_
        refine Ex.ifc rfl rfl (fun (c0 : ¬ (q5.1 = 0)) => ?_) (fun (c0 : ¬ ¬ (q5.1 = 0)) => ?_)
        · rw [if_neg c0] at hf
          refine Ex.seg 2 (pc' := 32) (lc' := [some (.ref 55), some (.int x1), some (.int x2), some (.int x3), some (.int 0)]) (st' := []) (h' := q5.2) (sg1 rfl rfl (sg1 rfl rfl rfl)) ?_
          exact Ex.weak (sm_le_s (sm_le_s (sm_le_s (sm_le_n (sm_le_s sm_le_nil))))) (B_208_32 hd  hf hs)
        · rw [if_pos (Classical.not_not.mp c0)] at hf
          exact Ex.weak (sm_le_n (sm_le_n (sm_le_n (sm_le_n (sm_le_s sm_le_nil))))) (B_208_27 hd  hf hs)
theorem E_208 {L : Nat} {xs : Nat → Int32} {d : Nat} (hd : 3 ≤ d) {x1 : Int32} {x2 : Int32} {x3 : Int32} {h : sm_H} {r : Int32 × sm_H} (hf : F_208 x1 x2 x3 h = some r) : RUN L xs d 208 [.ref 55, .int x1, .int x2, .int x3] h (some (.int r.1), r.2) := by
  obtain ⟨d, rfl⟩ : ∃ e, d = e + 1 := ⟨d - 1, by omega⟩
  exact ⟨Nat.le_of_ble_eq_true rfl, B_208_0 (by omega) hf rfl⟩
theorem B_213_9B {L : Nat} {xs : Nat → Int32} {d : Nat} (hd : 1 ≤ d) {res : Option Value × sm_H} {S1 : (Int32 × Int32 × Int32 × sm_H) → Prop} (hS1 : ∀ s, S1 s → Ex (P_G L xs) (RUN L xs d) (sm_lk P_t213) 0 9 [some (.ref 55), some (.int s.1), some (.int s.2.1), some (.int s.2.2.1)] [] s.2.2.2 res) {s : (Int32 × Int32 × Int32 × sm_H)}  {r : ((Int32 × Int32 × Int32 × sm_H) ⊕ (sm_H))} (hf : F_213_9B s = some r) (hs : (Sum.elim S1 (fun (r : sm_H) => res = (none, r))) r) : Ex (P_G L xs) (RUN L xs d) (sm_lk P_t213) 0 9 [some (.ref 55), some (.int s.1), some (.int s.2.1), some (.int s.2.2.1)] [] s.2.2.2 res := by
  unfold F_213_9B at hf
  refine Ex.seg 2 (pc' := 11) (lc' := [some (.ref 55), some (.int s.1), some (.int s.2.1), some (.int s.2.2.1)]) (st' := [.int s.2.1, .int s.2.2.1]) (h' := s.2.2.2) (sg1 rfl rfl (sg1 rfl rfl rfl)) ?_
  refine Ex.icmp rfl rfl (fun (c0 : s.2.1 ≤ s.2.2.1) => ?_) (fun (c0 : ¬ (s.2.1 ≤ s.2.2.1)) => ?_)
  · rw [if_pos c0] at hf
    refine Ex.seg 3 (pc' := 75) (lc' := [some (.ref 55), some (.int s.1), some (.int s.2.1), some (.int s.2.2.1)]) (st' := [.int (-1), .ref 56]) (h' := s.2.2.2) (sg1 rfl rfl (sg1 rfl rfl (sg1 rfl rfl rfl))) ?_
    obtain ⟨q1, e_q1, hf⟩ := bnd hf
    refine Ex.callV (a := 56) (As := [.int (-1)]) (r := []) (v := some (.int q1.1)) (h' := q1.2) rfl rfl (by decide) rfl (Nat.le_of_ble_eq_true rfl) rfl (E_139 (Nat.le_trans (by decide) hd) e_q1) rfl ?_
    refine Ex.seg 4 (pc' := 84) (lc' := [some (.ref 55), some (.int s.1), some (.int s.2.1), some (.int s.2.2.1)]) (st' := [.int (-1), .ref 56]) (h' := q1.2) (sg1 rfl rfl (sg1 rfl rfl (sg1 rfl rfl (sg1 rfl rfl rfl)))) ?_
    obtain ⟨q2, e_q2, hf⟩ := bnd hf
    refine Ex.callV (a := 56) (As := [.int (-1)]) (r := []) (v := some (.int q2.1)) (h' := q2.2) rfl rfl (by decide) rfl (Nat.le_of_ble_eq_true rfl) rfl (E_139 (Nat.le_trans (by decide) hd) e_q2) rfl ?_
    refine Ex.seg 9 (pc' := 98) (lc' := [some (.ref 55), some (.int s.1), some (.int s.2.1), some (.int s.2.2.1)]) (st' := [.int (s.1 + (2 * s.2.1)), .ref 55, .ref 56]) (h' := q2.2) (sg1 rfl rfl (sg1 rfl rfl (sg1 rfl rfl (sg1 rfl rfl (sg1 rfl rfl (sg1 rfl rfl (sg1 rfl rfl (sg1 rfl rfl (sg1 rfl rfl rfl))))))))) ?_
    obtain ⟨q3, e_q3, hf⟩ := bnd hf
    refine Ex.callV (a := 55) (As := [.int (s.1 + (2 * s.2.1))]) (r := [.ref 56]) (v := some (.int q3.1)) (h' := q3.2) rfl rfl (by decide) rfl (Nat.le_of_ble_eq_true rfl) rfl (E_187 (Nat.le_trans (by decide) hd) e_q3) rfl ?_
    obtain ⟨q4, e_q4, hf⟩ := bnd hf
    refine Ex.callV (a := 56) (As := [.int q3.1]) (r := []) (v := some (.int q4.1)) (h' := q4.2) rfl rfl (by decide) rfl (Nat.le_of_ble_eq_true rfl) rfl (E_139 (Nat.le_trans (by decide) hd) e_q4) rfl ?_
    refine Ex.seg 11 (pc' := 117) (lc' := [some (.ref 55), some (.int s.1), some (.int s.2.1), some (.int s.2.2.1)]) (st' := [.int ((s.1 + (2 * s.2.1)) + 1), .ref 55, .ref 56]) (h' := q4.2) (sg1 rfl rfl (sg1 rfl rfl (sg1 rfl rfl (sg1 rfl rfl (sg1 rfl rfl (sg1 rfl rfl (sg1 rfl rfl (sg1 rfl rfl (sg1 rfl rfl (sg1 rfl rfl (sg1 rfl rfl rfl))))))))))) ?_
    obtain ⟨q5, e_q5, hf⟩ := bnd hf
    refine Ex.callV (a := 55) (As := [.int ((s.1 + (2 * s.2.1)) + 1)]) (r := [.ref 56]) (v := some (.int q5.1)) (h' := q5.2) rfl rfl (by decide) rfl (Nat.le_of_ble_eq_true rfl) rfl (E_187 (Nat.le_trans (by decide) hd) e_q5) rfl ?_
    obtain ⟨q6, e_q6, hf⟩ := bnd hf
    refine Ex.callV (a := 56) (As := [.int q5.1]) (r := []) (v := some (.int q6.1)) (h' := q6.2) rfl rfl (by decide) rfl (Nat.le_of_ble_eq_true rfl) rfl (E_139 (Nat.le_trans (by decide) hd) e_q6) rfl ?_
    refine Ex.seg 1 (pc' := 124) (lc' := [some (.ref 55), some (.int s.1), some (.int s.2.1), some (.int s.2.2.1)]) (st' := []) (h' := q6.2) (sg1 rfl rfl rfl) ?_
    obtain rfl := Option.some.inj hf
    exact Ex.vret rfl rfl hs
  · rw [if_neg c0] at hf
    refine Ex.seg 6 (pc' := 22) (lc' := [some (.ref 55), some (.int s.1), some (.int s.2.1), some (.int s.2.2.1)]) (st' := [.int (s.1 + s.2.2.1), .ref 55, .ref 56]) (h' := s.2.2.2) (sg1 rfl rfl (sg1 rfl rfl (sg1 rfl rfl (sg1 rfl rfl (sg1 rfl rfl (sg1 rfl rfl rfl)))))) ?_
    obtain ⟨q7, e_q7, hf⟩ := bnd hf
    refine Ex.callV (a := 55) (As := [.int (s.1 + s.2.2.1)]) (r := [.ref 56]) (v := some (.int q7.1)) (h' := q7.2) rfl rfl (by decide) rfl (Nat.le_of_ble_eq_true rfl) rfl (E_187 (Nat.le_trans (by decide) hd) e_q7) rfl ?_
    obtain ⟨q8, e_q8, hf⟩ := bnd hf
    refine Ex.callV (a := 56) (As := [.int q7.1]) (r := []) (v := some (.int q8.1)) (h' := q8.2) rfl rfl (by decide) rfl (Nat.le_of_ble_eq_true rfl) rfl (E_139 (Nat.le_trans (by decide) hd) e_q8) rfl ?_
    refine Ex.seg 9 (pc' := 39) (lc' := [some (.ref 55), some (.int s.1), some (.int s.2.1), some (.int s.2.2.1)]) (st' := [.int ((s.1 + s.2.1) + s.2.2.1), .ref 55, .ref 56]) (h' := q8.2) (sg1 rfl rfl (sg1 rfl rfl (sg1 rfl rfl (sg1 rfl rfl (sg1 rfl rfl (sg1 rfl rfl (sg1 rfl rfl (sg1 rfl rfl (sg1 rfl rfl rfl))))))))) ?_
    obtain ⟨q9, e_q9, hf⟩ := bnd hf
    refine Ex.callV (a := 55) (As := [.int ((s.1 + s.2.1) + s.2.2.1)]) (r := [.ref 56]) (v := some (.int q9.1)) (h' := q9.2) rfl rfl (by decide) rfl (Nat.le_of_ble_eq_true rfl) rfl (E_187 (Nat.le_trans (by decide) hd) e_q9) rfl ?_
    obtain ⟨q10, e_q10, hf⟩ := bnd hf
    refine Ex.callV (a := 56) (As := [.int q9.1]) (r := []) (v := some (.int q10.1)) (h' := q10.2) rfl rfl (by decide) rfl (Nat.le_of_ble_eq_true rfl) rfl (E_139 (Nat.le_trans (by decide) hd) e_q10) rfl ?_
    refine Ex.seg 4 (pc' := 51) (lc' := [some (.ref 55), some (.int s.1), some (.int s.2.1), some (.int s.2.2.1)]) (st' := [.int (-1), .ref 56]) (h' := q10.2) (sg1 rfl rfl (sg1 rfl rfl (sg1 rfl rfl (sg1 rfl rfl rfl)))) ?_
    obtain ⟨q11, e_q11, hf⟩ := bnd hf
    refine Ex.callV (a := 56) (As := [.int (-1)]) (r := []) (v := some (.int q11.1)) (h' := q11.2) rfl rfl (by decide) rfl (Nat.le_of_ble_eq_true rfl) rfl (E_139 (Nat.le_trans (by decide) hd) e_q11) rfl ?_
    refine Ex.seg 4 (pc' := 60) (lc' := [some (.ref 55), some (.int s.1), some (.int s.2.1), some (.int s.2.2.1)]) (st' := [.int (-1), .ref 56]) (h' := q11.2) (sg1 rfl rfl (sg1 rfl rfl (sg1 rfl rfl (sg1 rfl rfl rfl)))) ?_
    obtain ⟨q12, e_q12, hf⟩ := bnd hf
    refine Ex.callV (a := 56) (As := [.int (-1)]) (r := []) (v := some (.int q12.1)) (h' := q12.2) rfl rfl (by decide) rfl (Nat.le_of_ble_eq_true rfl) rfl (E_139 (Nat.le_trans (by decide) hd) e_q12) rfl ?_
    refine Ex.seg 2 (pc' := 67) (lc' := [some (.ref 55), some (.int s.1), some (.int s.2.1), some (.int (s.2.2.1 + 1))]) (st' := []) (h' := q12.2) (sg1 rfl rfl (sg1 rfl rfl rfl)) ?_
    obtain ⟨v13, e_v13, hf⟩ := bnd hf
    rw [Option.some.inj e_v13]
    refine Ex.seg 1 (pc' := 9) (lc' := [some (.ref 55), some (.int s.1), some (.int s.2.1), some (.int v13)]) (st' := []) (h' := q12.2) (sg1 rfl rfl rfl) ?_
    obtain rfl := Option.some.inj hf
    exact Ex.weak (sm_le_s (sm_le_s (sm_le_s (sm_le_s sm_le_nil)))) (hS1 _ hs)
theorem B_213_9 {L : Nat} {xs : Nat → Int32} {d : Nat} (hd : 1 ≤ d) {res : Option Value × sm_H} {y1 : Int32} {y2 : Int32} {y3 : Int32}  {h : sm_H} {r : (sm_H)} (hf : F_213_9 y1 y2 y3 h = some r) (hs : (fun (r : sm_H) => res = (none, r)) r) : Ex (P_G L xs) (RUN L xs d) (sm_lk P_t213) 0 9 [some (.ref 55), some (.int y1), some (.int y2), some (.int y3)] [] h res := by
  unfold F_213_9 at hf
  exact lp_ok (P := fun (s : (Int32 × Int32 × Int32 × sm_H)) => Ex (P_G L xs) (RUN L xs d) (sm_lk P_t213) 0 9 [some (.ref 55), some (.int s.1), some (.int s.2.1), some (.int s.2.2.1)] [] s.2.2.2 res) (S := (fun (r : sm_H) => res = (none, r))) (fun s x hx hsx => by
    intros
    exact B_213_9B hd  (fun _ q => q) hx hsx) 1000000 _ r hf hs
theorem B_213_0 {L : Nat} {xs : Nat → Int32} {d : Nat} (hd : 1 ≤ d) {res : Option Value × sm_H} {x1 : Int32} {x2 : Int32}  {h : sm_H} {r : (sm_H)} (hf : F_213_0 x1 x2 h = some r) (hs : (fun (r : sm_H) => res = (none, r)) r) : Ex (P_G L xs) (RUN L xs d) (sm_lk P_t213) 0 0 [some (.ref 55), some (.int x1), some (.int x2), none] [] h res := by
  unfold F_213_0 at hf
  refine Ex.seg 2 (pc' := 4) (lc' := [some (.ref 55), some (.int x1), some (.int x2), none]) (st' := [.ref 56]) (h' := h) (sg1 rfl rfl (sg1 rfl rfl rfl)) ?_
  obtain ⟨q14, e_q14, hf⟩ := bnd hf
  refine Ex.callV (a := 56) (As := []) (r := []) (v := none) (h' := q14) rfl rfl (by decide) rfl (Nat.le_of_ble_eq_true rfl) rfl (E_138 (Nat.le_trans (by decide) hd) e_q14) rfl ?_
  refine Ex.seg 2 (pc' := 9) (lc' := [some (.ref 55), some (.int x1), some (.int x2), some (.int 0)]) (st' := []) (h' := q14) (sg1 rfl rfl (sg1 rfl rfl rfl)) ?_
  exact Ex.weak (sm_le_s (sm_le_s (sm_le_s (sm_le_s sm_le_nil)))) (B_213_9 hd  hf hs)
theorem E_213 {L : Nat} {xs : Nat → Int32} {d : Nat} (hd : 2 ≤ d) {x1 : Int32} {x2 : Int32} {h : sm_H} {r : sm_H} (hf : F_213 x1 x2 h = some r) : RUN L xs d 213 [.ref 55, .int x1, .int x2] h (none, r) := by
  obtain ⟨d, rfl⟩ : ∃ e, d = e + 1 := ⟨d - 1, by omega⟩
  exact ⟨Nat.le_of_ble_eq_true rfl, B_213_0 (by omega) hf rfl⟩
theorem B_216_0 {L : Nat} {xs : Nat → Int32} {d : Nat} (hd : 0 ≤ d) {res : Option Value × sm_H} {o : Nat}  {h : sm_H} {r : (Int32 × sm_H)} (hf : F_216_0 o h = some r) (hs : (fun (r : Int32 × sm_H) => res = (some (.int r.1), r.2)) r) : Ex (P_G L xs) (RUN L xs d) (sm_lk P_t216) 0 0 [some (.ref o)] [] h res := by
  unfold F_216_0 at hf
  refine Ex.seg 1 (pc' := 1) (lc' := [some (.ref o)]) (st' := [.ref o]) (h' := h) (sg1 rfl rfl rfl) ?_
  rcases Classical.em (sm_is G0 h o 8 = true) with g1 | g1
  · rw [if_pos g1] at hf
    obtain ⟨b2, e_b2, hf⟩ := bnd hf
    refine Ex.getR (c := 8) (k := 0) g1 e_b2 rfl rfl ?_
    obtain ⟨v3, e_v3, hf⟩ := bnd hf
    refine Ex.alen (alD_ok e_v3) rfl rfl ?_
    obtain rfl := Option.some.inj hf
    exact Ex.iret rfl rfl (fun c0 => by cases c0) hs
  · rw [if_neg g1] at hf
    cases hf
theorem E_216 {L : Nat} {xs : Nat → Int32} {d : Nat} (hd : 1 ≤ d) {o : Nat} {h : sm_H} {r : Int32 × sm_H} (hf : F_216 o h = some r) : RUN L xs d 216 [.ref o] h (some (.int r.1), r.2) := by
  obtain ⟨d, rfl⟩ : ∃ e, d = e + 1 := ⟨d - 1, by omega⟩
  exact ⟨Nat.le_of_ble_eq_true rfl, B_216_0 (by omega) hf rfl⟩
theorem B_217_18 {L : Nat} {xs : Nat → Int32} {d : Nat} (hd : 0 ≤ d) {res : Option Value × sm_H} {z0 : Int32}  {h : sm_H} {r : (Int32 × sm_H)} (hf : F_217_18 z0 h = some r) (hs : (fun (r : Int32 × sm_H) => res = (some (.int r.1), r.2)) r) : Ex (P_G L xs) (RUN L xs d) (sm_lk P_t217) 3 18 [none, none] [.int z0] h res := by
  unfold F_217_18 at hf
  rcases Classical.em (z0 = 0 ∨ z0 = 1) with c0 | c0
  · rw [if_pos c0] at hf
    obtain rfl := Option.some.inj hf
    exact Ex.iret rfl rfl (fun _ => c0) hs
  · rw [if_neg c0] at hf
    cases hf
theorem B_217_17 {L : Nat} {xs : Nat → Int32} {d : Nat} (hd : 0 ≤ d) {res : Option Value × sm_H}   {h : sm_H} {r : (Int32 × sm_H)} (hf : F_217_17  h = some r) (hs : (fun (r : Int32 × sm_H) => res = (some (.int r.1), r.2)) r) : Ex (P_G L xs) (RUN L xs d) (sm_lk P_t217) 3 17 [none, none] [] h res := by
  unfold F_217_17 at hf
  refine Ex.seg 1 (pc' := 18) (lc' := [none, none]) (st' := [.int 0]) (h' := h) (sg1 rfl rfl rfl) ?_
  exact Ex.weak (sm_le_s (sm_le_s sm_le_nil)) (B_217_18 hd  hf hs)
theorem B_217_0 {L : Nat} {xs : Nat → Int32} {d : Nat} (hd : 0 ≤ d) {res : Option Value × sm_H} {o : Nat} {x1 : Int32}  {h : sm_H} {r : (Int32 × sm_H)} (hf : F_217_0 o x1 h = some r) (hs : (fun (r : Int32 × sm_H) => res = (some (.int r.1), r.2)) r) : Ex (P_G L xs) (RUN L xs d) (sm_lk P_t217) 3 0 [some (.ref o), some (.int x1)] [] h res := by
  unfold F_217_0 at hf
  refine Ex.seg 1 (pc' := 1) (lc' := [some (.ref o), some (.int x1)]) (st' := [.int x1]) (h' := h) (sg1 rfl rfl rfl) ?_
  refine Ex.ifc rfl rfl (fun (c0 : x1 < 0) => ?_) (fun (c0 : ¬ (x1 < 0)) => ?_)
  · rw [if_pos c0] at hf
    exact Ex.weak (sm_le_n (sm_le_n sm_le_nil)) (B_217_17 hd  hf hs)
  · rw [if_neg c0] at hf
    refine Ex.seg 2 (pc' := 6) (lc' := [some (.ref o), some (.int x1)]) (st' := [.ref o, .int x1]) (h' := h) (sg1 rfl rfl (sg1 rfl rfl rfl)) ?_
    rcases Classical.em (sm_is G0 h o 8 = true) with g1 | g1
    · rw [if_pos g1] at hf
      obtain ⟨b2, e_b2, hf⟩ := bnd hf
      refine Ex.getR (c := 8) (k := 0) g1 e_b2 rfl rfl ?_
      obtain ⟨v3, e_v3, hf⟩ := bnd hf
      refine Ex.alen (alD_ok e_v3) rfl rfl ?_
      refine Ex.icmp rfl rfl (fun (c0 : v3 ≤ x1) => ?_) (fun (c0 : ¬ (v3 ≤ x1)) => ?_)
      · rw [if_pos c0] at hf
        exact Ex.weak (sm_le_n (sm_le_n sm_le_nil)) (B_217_17 hd  hf hs)
      · rw [if_neg c0] at hf
        refine Ex.seg 2 (pc' := 18) (lc' := [some (.ref o), some (.int x1)]) (st' := [.int 1]) (h' := h) (sg1 rfl rfl (sg1 rfl rfl rfl)) ?_
        exact Ex.weak (sm_le_n (sm_le_n sm_le_nil)) (B_217_18 hd  hf hs)
    · rw [if_neg g1] at hf
      cases hf
theorem E_217 {L : Nat} {xs : Nat → Int32} {d : Nat} (hd : 1 ≤ d) {o : Nat} {x1 : Int32} {h : sm_H} {r : Int32 × sm_H} (hf : F_217 o x1 h = some r) : RUN L xs d 217 [.ref o, .int x1] h (some (.int r.1), r.2) := by
  obtain ⟨d, rfl⟩ : ∃ e, d = e + 1 := ⟨d - 1, by omega⟩
  exact ⟨Nat.le_of_ble_eq_true rfl, B_217_0 (by omega) hf rfl⟩
theorem B_218_23 {L : Nat} {xs : Nat → Int32} {d : Nat} (hd : 0 ≤ d) {res : Option Value × sm_H} {z0 : Int64}  {h : sm_H} {r : (Int64 × sm_H)} (hf : F_218_23 z0 h = some r) (hs : (fun (r : Int64 × sm_H) => res = (some (.long r.1), r.2)) r) : Ex (P_G L xs) (RUN L xs d) (sm_lk P_t218) 0 23 [none, none] [.long z0] h res := by
  unfold F_218_23 at hf
  obtain rfl := Option.some.inj hf
  exact Ex.lret rfl rfl hs
theorem B_218_22 {L : Nat} {xs : Nat → Int32} {d : Nat} (hd : 0 ≤ d) {res : Option Value × sm_H}   {h : sm_H} {r : (Int64 × sm_H)} (hf : F_218_22  h = some r) (hs : (fun (r : Int64 × sm_H) => res = (some (.long r.1), r.2)) r) : Ex (P_G L xs) (RUN L xs d) (sm_lk P_t218) 0 22 [none, none] [] h res := by
  unfold F_218_22 at hf
  refine Ex.seg 1 (pc' := 23) (lc' := [none, none]) (st' := [.long 0]) (h' := h) (sg1 rfl rfl rfl) ?_
  exact Ex.weak (sm_le_s (sm_le_s sm_le_nil)) (B_218_23 hd  hf hs)
theorem B_218_0 {L : Nat} {xs : Nat → Int32} {d : Nat} (hd : 0 ≤ d) {res : Option Value × sm_H} {o : Nat} {x1 : Int32}  {h : sm_H} {r : (Int64 × sm_H)} (hf : F_218_0 o x1 h = some r) (hs : (fun (r : Int64 × sm_H) => res = (some (.long r.1), r.2)) r) : Ex (P_G L xs) (RUN L xs d) (sm_lk P_t218) 0 0 [some (.ref o), some (.int x1)] [] h res := by
  unfold F_218_0 at hf
  refine Ex.seg 1 (pc' := 1) (lc' := [some (.ref o), some (.int x1)]) (st' := [.int x1]) (h' := h) (sg1 rfl rfl rfl) ?_
  refine Ex.ifc rfl rfl (fun (c0 : x1 < 0) => ?_) (fun (c0 : ¬ (x1 < 0)) => ?_)
  · rw [if_pos c0] at hf
    exact Ex.weak (sm_le_n (sm_le_n sm_le_nil)) (B_218_22 hd  hf hs)
  · rw [if_neg c0] at hf
    refine Ex.seg 2 (pc' := 6) (lc' := [some (.ref o), some (.int x1)]) (st' := [.ref o, .int x1]) (h' := h) (sg1 rfl rfl (sg1 rfl rfl rfl)) ?_
    rcases Classical.em (sm_is G0 h o 8 = true) with g1 | g1
    · rw [if_pos g1] at hf
      obtain ⟨b2, e_b2, hf⟩ := bnd hf
      refine Ex.getR (c := 8) (k := 0) g1 e_b2 rfl rfl ?_
      obtain ⟨v3, e_v3, hf⟩ := bnd hf
      refine Ex.alen (alD_ok e_v3) rfl rfl ?_
      refine Ex.icmp rfl rfl (fun (c0 : v3 ≤ x1) => ?_) (fun (c0 : ¬ (v3 ≤ x1)) => ?_)
      · rw [if_pos c0] at hf
        exact Ex.weak (sm_le_n (sm_le_n sm_le_nil)) (B_218_22 hd  hf hs)
      · rw [if_neg c0] at hf
        refine Ex.seg 1 (pc' := 14) (lc' := [some (.ref o), some (.int x1)]) (st' := [.ref o]) (h' := h) (sg1 rfl rfl rfl) ?_
        rcases Classical.em (sm_is G0 h o 8 = true) with g4 | g4
        · rw [if_pos g4] at hf
          obtain ⟨b5, e_b5, hf⟩ := bnd hf
          refine Ex.getR (c := 8) (k := 0) g4 e_b5 rfl rfl ?_
          refine Ex.seg 1 (pc' := 18) (lc' := [some (.ref o), some (.int x1)]) (st' := [.int x1, .ref b5]) (h' := h) (sg1 rfl rfl rfl) ?_
          obtain ⟨v6, e_v6, hf⟩ := bnd hf
          refine Ex.lald (ldDJ_ok e_v6) rfl rfl ?_
          refine Ex.seg 1 (pc' := 23) (lc' := [some (.ref o), some (.int x1)]) (st' := [.long v6]) (h' := h) (sg1 rfl rfl rfl) ?_
          exact Ex.weak (sm_le_n (sm_le_n sm_le_nil)) (B_218_23 hd  hf hs)
        · rw [if_neg g4] at hf
          cases hf
    · rw [if_neg g1] at hf
      cases hf
theorem E_218 {L : Nat} {xs : Nat → Int32} {d : Nat} (hd : 1 ≤ d) {o : Nat} {x1 : Int32} {h : sm_H} {r : Int64 × sm_H} (hf : F_218 o x1 h = some r) : RUN L xs d 218 [.ref o, .int x1] h (some (.long r.1), r.2) := by
  obtain ⟨d, rfl⟩ : ∃ e, d = e + 1 := ⟨d - 1, by omega⟩
  exact ⟨Nat.le_of_ble_eq_true rfl, B_218_0 (by omega) hf rfl⟩
theorem B_219_23 {L : Nat} {xs : Nat → Int32} {d : Nat} (hd : 0 ≤ d) {res : Option Value × sm_H} {z0 : Int32}  {h : sm_H} {r : (Int32 × sm_H)} (hf : F_219_23 z0 h = some r) (hs : (fun (r : Int32 × sm_H) => res = (some (.int r.1), r.2)) r) : Ex (P_G L xs) (RUN L xs d) (sm_lk P_t219) 0 23 [none, none] [.int z0] h res := by
  unfold F_219_23 at hf
  obtain rfl := Option.some.inj hf
  exact Ex.iret rfl rfl (fun c0 => by cases c0) hs
theorem B_219_22 {L : Nat} {xs : Nat → Int32} {d : Nat} (hd : 0 ≤ d) {res : Option Value × sm_H}   {h : sm_H} {r : (Int32 × sm_H)} (hf : F_219_22  h = some r) (hs : (fun (r : Int32 × sm_H) => res = (some (.int r.1), r.2)) r) : Ex (P_G L xs) (RUN L xs d) (sm_lk P_t219) 0 22 [none, none] [] h res := by
  unfold F_219_22 at hf
  refine Ex.seg 1 (pc' := 23) (lc' := [none, none]) (st' := [.int 0]) (h' := h) (sg1 rfl rfl rfl) ?_
  exact Ex.weak (sm_le_s (sm_le_s sm_le_nil)) (B_219_23 hd  hf hs)
theorem B_219_0 {L : Nat} {xs : Nat → Int32} {d : Nat} (hd : 0 ≤ d) {res : Option Value × sm_H} {o : Nat} {x1 : Int32}  {h : sm_H} {r : (Int32 × sm_H)} (hf : F_219_0 o x1 h = some r) (hs : (fun (r : Int32 × sm_H) => res = (some (.int r.1), r.2)) r) : Ex (P_G L xs) (RUN L xs d) (sm_lk P_t219) 0 0 [some (.ref o), some (.int x1)] [] h res := by
  unfold F_219_0 at hf
  refine Ex.seg 1 (pc' := 1) (lc' := [some (.ref o), some (.int x1)]) (st' := [.int x1]) (h' := h) (sg1 rfl rfl rfl) ?_
  refine Ex.ifc rfl rfl (fun (c0 : x1 < 0) => ?_) (fun (c0 : ¬ (x1 < 0)) => ?_)
  · rw [if_pos c0] at hf
    exact Ex.weak (sm_le_n (sm_le_n sm_le_nil)) (B_219_22 hd  hf hs)
  · rw [if_neg c0] at hf
    refine Ex.seg 2 (pc' := 6) (lc' := [some (.ref o), some (.int x1)]) (st' := [.ref o, .int x1]) (h' := h) (sg1 rfl rfl (sg1 rfl rfl rfl)) ?_
    rcases Classical.em (sm_is G0 h o 8 = true) with g1 | g1
    · rw [if_pos g1] at hf
      obtain ⟨b2, e_b2, hf⟩ := bnd hf
      refine Ex.getR (c := 8) (k := 1) g1 e_b2 rfl rfl ?_
      obtain ⟨v3, e_v3, hf⟩ := bnd hf
      refine Ex.alen (alD_ok e_v3) rfl rfl ?_
      refine Ex.icmp rfl rfl (fun (c0 : v3 ≤ x1) => ?_) (fun (c0 : ¬ (v3 ≤ x1)) => ?_)
      · rw [if_pos c0] at hf
        exact Ex.weak (sm_le_n (sm_le_n sm_le_nil)) (B_219_22 hd  hf hs)
      · rw [if_neg c0] at hf
        refine Ex.seg 1 (pc' := 14) (lc' := [some (.ref o), some (.int x1)]) (st' := [.ref o]) (h' := h) (sg1 rfl rfl rfl) ?_
        rcases Classical.em (sm_is G0 h o 8 = true) with g4 | g4
        · rw [if_pos g4] at hf
          obtain ⟨b5, e_b5, hf⟩ := bnd hf
          refine Ex.getR (c := 8) (k := 1) g4 e_b5 rfl rfl ?_
          refine Ex.seg 1 (pc' := 18) (lc' := [some (.ref o), some (.int x1)]) (st' := [.int x1, .ref b5]) (h' := h) (sg1 rfl rfl rfl) ?_
          obtain ⟨v6, e_v6, hf⟩ := bnd hf
          refine Ex.iald (ldD_ok e_v6) rfl rfl ?_
          refine Ex.seg 1 (pc' := 23) (lc' := [some (.ref o), some (.int x1)]) (st' := [.int v6]) (h' := h) (sg1 rfl rfl rfl) ?_
          exact Ex.weak (sm_le_n (sm_le_n sm_le_nil)) (B_219_23 hd  hf hs)
        · rw [if_neg g4] at hf
          cases hf
    · rw [if_neg g1] at hf
      cases hf
theorem E_219 {L : Nat} {xs : Nat → Int32} {d : Nat} (hd : 1 ≤ d) {o : Nat} {x1 : Int32} {h : sm_H} {r : Int32 × sm_H} (hf : F_219 o x1 h = some r) : RUN L xs d 219 [.ref o, .int x1] h (some (.int r.1), r.2) := by
  obtain ⟨d, rfl⟩ : ∃ e, d = e + 1 := ⟨d - 1, by omega⟩
  exact ⟨Nat.le_of_ble_eq_true rfl, B_219_0 (by omega) hf rfl⟩
theorem B_220_25 {L : Nat} {xs : Nat → Int32} {d : Nat} (hd : 1 ≤ d) {res : Option Value × sm_H} {z0 : Int32}  {h : sm_H} {r : (Int32 × sm_H)} (hf : F_220_25 z0 h = some r) (hs : (fun (r : Int32 × sm_H) => res = (some (.int r.1), r.2)) r) : Ex (P_G L xs) (RUN L xs d) (sm_lk P_t220) 3 25 [none, none, none, none, none] [.int z0] h res := by
  unfold F_220_25 at hf
  rcases Classical.em (z0 = 0 ∨ z0 = 1) with c0 | c0
  · rw [if_pos c0] at hf
    obtain rfl := Option.some.inj hf
    exact Ex.iret rfl rfl (fun _ => c0) hs
  · rw [if_neg c0] at hf
    cases hf
theorem B_220_24 {L : Nat} {xs : Nat → Int32} {d : Nat} (hd : 1 ≤ d) {res : Option Value × sm_H}   {h : sm_H} {r : (Int32 × sm_H)} (hf : F_220_24  h = some r) (hs : (fun (r : Int32 × sm_H) => res = (some (.int r.1), r.2)) r) : Ex (P_G L xs) (RUN L xs d) (sm_lk P_t220) 3 24 [none, none, none, none, none] [] h res := by
  unfold F_220_24 at hf
  refine Ex.seg 1 (pc' := 25) (lc' := [none, none, none, none, none]) (st' := [.int 0]) (h' := h) (sg1 rfl rfl rfl) ?_
  exact Ex.weak (sm_le_s (sm_le_s (sm_le_s (sm_le_s (sm_le_s sm_le_nil))))) (B_220_25 hd  hf hs)
theorem B_220_0 {L : Nat} {xs : Nat → Int32} {d : Nat} (hd : 1 ≤ d) {res : Option Value × sm_H} {o : Nat} {x1 : Int32} {x2 : Int64} {x4 : Int32}  {h : sm_H} {r : (Int32 × sm_H)} (hf : F_220_0 o x1 x2 x4 h = some r) (hs : (fun (r : Int32 × sm_H) => res = (some (.int r.1), r.2)) r) : Ex (P_G L xs) (RUN L xs d) (sm_lk P_t220) 3 0 [some (.ref o), some (.int x1), some (.long x2), none, some (.int x4)] [] h res := by
  unfold F_220_0 at hf
  refine Ex.seg 2 (pc' := 2) (lc' := [some (.ref o), some (.int x1), some (.long x2), none, some (.int x4)]) (st' := [.int x1, .ref o]) (h' := h) (sg1 rfl rfl (sg1 rfl rfl rfl)) ?_
  have g2 : sm_is G0 h o 8 = true := Classical.byContradiction (fun z => by rw [if_pos z] at hf; cases hf)
  rw [if_neg (fun z => z g2)] at hf
  obtain ⟨q1, e_q1, hf⟩ := bnd hf
  refine Ex.callV (a := o) (As := [.int x1]) (r := []) (v := some (.long q1.1)) (h' := q1.2) rfl rfl (by decide) rfl (Nat.le_of_ble_eq_true rfl) g2 (E_218 (Nat.le_trans (by decide) hd) e_q1) rfl ?_
  refine Ex.seg 2 (pc' := 7) (lc' := [some (.ref o), some (.int x1), some (.long x2), none, some (.int x4)]) (st' := [.int (lg_cmp q1.1 x2)]) (h' := q1.2) (sg1 rfl rfl (sg1 rfl rfl rfl)) ?_
  refine Ex.ifc rfl rfl (fun (c0 : ¬ ((lg_cmp q1.1 x2) = 0)) => ?_) (fun (c0 : ¬ ¬ ((lg_cmp q1.1 x2) = 0)) => ?_)
  · rw [if_neg c0] at hf
    exact Ex.weak (sm_le_n (sm_le_n (sm_le_n (sm_le_s (sm_le_n sm_le_nil))))) (B_220_24 hd  hf hs)
  · rw [if_pos (Classical.not_not.mp c0)] at hf
    refine Ex.seg 2 (pc' := 12) (lc' := [some (.ref o), some (.int x1), some (.long x2), none, some (.int x4)]) (st' := [.int x1, .ref o]) (h' := q1.2) (sg1 rfl rfl (sg1 rfl rfl rfl)) ?_
    have g4 : sm_is G0 q1.2 o 8 = true := Classical.byContradiction (fun z => by rw [if_pos z] at hf; cases hf)
    rw [if_neg (fun z => z g4)] at hf
    obtain ⟨q3, e_q3, hf⟩ := bnd hf
    refine Ex.callV (a := o) (As := [.int x1]) (r := []) (v := some (.int q3.1)) (h' := q3.2) rfl rfl (by decide) rfl (Nat.le_of_ble_eq_true rfl) g4 (E_219 (Nat.le_trans (by decide) hd) e_q3) rfl ?_
    refine Ex.seg 1 (pc' := 17) (lc' := [some (.ref o), some (.int x1), some (.long x2), none, some (.int x4)]) (st' := [.int x4, .int q3.1]) (h' := q3.2) (sg1 rfl rfl rfl) ?_
    refine Ex.icmp rfl rfl (fun (c0 : ¬ (q3.1 = x4)) => ?_) (fun (c0 : ¬ ¬ (q3.1 = x4)) => ?_)
    · rw [if_neg c0] at hf
      exact Ex.weak (sm_le_n (sm_le_n (sm_le_n (sm_le_s (sm_le_n sm_le_nil))))) (B_220_24 hd  hf hs)
    · rw [if_pos (Classical.not_not.mp c0)] at hf
      refine Ex.seg 2 (pc' := 25) (lc' := [some (.ref o), some (.int x1), some (.long x2), none, some (.int x4)]) (st' := [.int 1]) (h' := q3.2) (sg1 rfl rfl (sg1 rfl rfl rfl)) ?_
      exact Ex.weak (sm_le_n (sm_le_n (sm_le_n (sm_le_s (sm_le_n sm_le_nil))))) (B_220_25 hd  hf hs)
theorem E_220 {L : Nat} {xs : Nat → Int32} {d : Nat} (hd : 2 ≤ d) {o : Nat} {x1 : Int32} {x2 : Int64} {x4 : Int32} {h : sm_H} {r : Int32 × sm_H} (hf : F_220 o x1 x2 x4 h = some r) : RUN L xs d 220 [.ref o, .int x1, .long x2, .int x4] h (some (.int r.1), r.2) := by
  obtain ⟨d, rfl⟩ : ∃ e, d = e + 1 := ⟨d - 1, by omega⟩
  exact ⟨Nat.le_of_ble_eq_true rfl, B_220_0 (by omega) hf rfl⟩
theorem B_221_23 {L : Nat} {xs : Nat → Int32} {d : Nat} (hd : 1 ≤ d) {res : Option Value × sm_H}   {h : sm_H} {r : (sm_H)} (hf : F_221_23  h = some r) (hs : (fun (r : sm_H) => res = (none, r)) r) : Ex (P_G L xs) (RUN L xs d) (sm_lk P_t221) 0 23 [none, none, none, none, none] [] h res := by
  unfold F_221_23 at hf
  obtain rfl := Option.some.inj hf
  exact Ex.vret rfl rfl hs
theorem B_221_0 {L : Nat} {xs : Nat → Int32} {d : Nat} (hd : 1 ≤ d) {res : Option Value × sm_H} {o : Nat} {x1 : Int32} {x2 : Int64} {x4 : Int32}  {h : sm_H} {r : (sm_H)} (hf : F_221_0 o x1 x2 x4 h = some r) (hs : (fun (r : sm_H) => res = (none, r)) r) : Ex (P_G L xs) (RUN L xs d) (sm_lk P_t221) 0 0 [some (.ref o), some (.int x1), some (.long x2), none, some (.int x4)] [] h res := by
  unfold F_221_0 at hf
  refine Ex.seg 2 (pc' := 2) (lc' := [some (.ref o), some (.int x1), some (.long x2), none, some (.int x4)]) (st' := [.int x1, .ref o]) (h' := h) (sg1 rfl rfl (sg1 rfl rfl rfl)) ?_
  have g2 : sm_is G0 h o 8 = true := Classical.byContradiction (fun z => by rw [if_pos z] at hf; cases hf)
  rw [if_neg (fun z => z g2)] at hf
  obtain ⟨q1, e_q1, hf⟩ := bnd hf
  refine Ex.callV (a := o) (As := [.int x1]) (r := []) (v := some (.int q1.1)) (h' := q1.2) rfl rfl (by decide) rfl (Nat.le_of_ble_eq_true rfl) g2 (E_217 (Nat.le_trans (by decide) hd) e_q1) rfl ?_
  refine Ex.ifc rfl rfl (fun (c0 : q1.1 = 0) => ?_) (fun (c0 : ¬ (q1.1 = 0)) => ?_)
  · rw [if_pos c0] at hf
    exact Ex.weak (sm_le_n (sm_le_n (sm_le_n (sm_le_s (sm_le_n sm_le_nil))))) (B_221_23 hd  hf hs)
  · rw [if_neg c0] at hf
    refine Ex.seg 1 (pc' := 9) (lc' := [some (.ref o), some (.int x1), some (.long x2), none, some (.int x4)]) (st' := [.ref o]) (h' := q1.2) (sg1 rfl rfl rfl) ?_
    rcases Classical.em (sm_is G0 q1.2 o 8 = true) with g3 | g3
    · rw [if_pos g3] at hf
      obtain ⟨b4, e_b4, hf⟩ := bnd hf
      refine Ex.getR (c := 8) (k := 0) g3 e_b4 rfl rfl ?_
      refine Ex.seg 2 (pc' := 14) (lc' := [some (.ref o), some (.int x1), some (.long x2), none, some (.int x4)]) (st' := [.long x2, .int x1, .ref b4]) (h' := q1.2) (sg1 rfl rfl (sg1 rfl rfl rfl)) ?_
      obtain ⟨h5, e_h5, hf⟩ := bnd hf
      refine Ex.last e_h5 rfl rfl ?_
      refine Ex.seg 1 (pc' := 16) (lc' := [some (.ref o), some (.int x1), some (.long x2), none, some (.int x4)]) (st' := [.ref o]) (h' := h5) (sg1 rfl rfl rfl) ?_
      rcases Classical.em (sm_is G0 h5 o 8 = true) with g6 | g6
      · rw [if_pos g6] at hf
        obtain ⟨b7, e_b7, hf⟩ := bnd hf
        refine Ex.getR (c := 8) (k := 1) g6 e_b7 rfl rfl ?_
        refine Ex.seg 2 (pc' := 22) (lc' := [some (.ref o), some (.int x1), some (.long x2), none, some (.int x4)]) (st' := [.int x4, .int x1, .ref b7]) (h' := h5) (sg1 rfl rfl (sg1 rfl rfl rfl)) ?_
        obtain ⟨h8, e_h8, hf⟩ := bnd hf
        refine Ex.iast e_h8 rfl rfl ?_
        exact Ex.weak (sm_le_n (sm_le_n (sm_le_n (sm_le_s (sm_le_n sm_le_nil))))) (B_221_23 hd  hf hs)
      · rw [if_neg g6] at hf
        cases hf
    · rw [if_neg g3] at hf
      cases hf
theorem E_221 {L : Nat} {xs : Nat → Int32} {d : Nat} (hd : 2 ≤ d) {o : Nat} {x1 : Int32} {x2 : Int64} {x4 : Int32} {h : sm_H} {r : sm_H} (hf : F_221 o x1 x2 x4 h = some r) : RUN L xs d 221 [.ref o, .int x1, .long x2, .int x4] h (none, r) := by
  obtain ⟨d, rfl⟩ : ∃ e, d = e + 1 := ⟨d - 1, by omega⟩
  exact ⟨Nat.le_of_ble_eq_true rfl, B_221_0 (by omega) hf rfl⟩
theorem B_223_0 {L : Nat} {xs : Nat → Int32} {d : Nat} (hd : 0 ≤ d) {res : Option Value × sm_H}   {h : sm_H} {r : (Int32 × sm_H)} (hf : F_223_0  h = some r) (hs : (fun (r : Int32 × sm_H) => res = (some (.int r.1), r.2)) r) : Ex (P_G L xs) (RUN L xs d) (sm_lk P_t223) 0 0 [some (.ref 5)] [] h res := by
  unfold F_223_0 at hf
  refine Ex.seg 2 (pc' := 4) (lc' := [some (.ref 5)]) (st' := [.int (h.1 5 4)]) (h' := h) (sg1 rfl rfl (sg1 rfl rfl rfl)) ?_
  obtain rfl := Option.some.inj hf
  exact Ex.iret rfl rfl (fun c0 => by cases c0) hs
theorem E_223 {L : Nat} {xs : Nat → Int32} {d : Nat} (hd : 1 ≤ d)  {h : sm_H} {r : Int32 × sm_H} (hf : F_223  h = some r) : RUN L xs d 223 [.ref 5] h (some (.int r.1), r.2) := by
  obtain ⟨d, rfl⟩ : ∃ e, d = e + 1 := ⟨d - 1, by omega⟩
  exact ⟨Nat.le_of_ble_eq_true rfl, B_223_0 (by omega) hf rfl⟩
theorem B_224_17 {L : Nat} {xs : Nat → Int32} {d : Nat} (hd : 0 ≤ d) {res : Option Value × sm_H} {z0 : Int32}  {h : sm_H} {r : (Int32 × sm_H)} (hf : F_224_17 z0 h = some r) (hs : (fun (r : Int32 × sm_H) => res = (some (.int r.1), r.2)) r) : Ex (P_G L xs) (RUN L xs d) (sm_lk P_t224) 3 17 [none, none] [.int z0] h res := by
  unfold F_224_17 at hf
  rcases Classical.em (z0 = 0 ∨ z0 = 1) with c0 | c0
  · rw [if_pos c0] at hf
    obtain rfl := Option.some.inj hf
    exact Ex.iret rfl rfl (fun _ => c0) hs
  · rw [if_neg c0] at hf
    cases hf
theorem B_224_16 {L : Nat} {xs : Nat → Int32} {d : Nat} (hd : 0 ≤ d) {res : Option Value × sm_H}   {h : sm_H} {r : (Int32 × sm_H)} (hf : F_224_16  h = some r) (hs : (fun (r : Int32 × sm_H) => res = (some (.int r.1), r.2)) r) : Ex (P_G L xs) (RUN L xs d) (sm_lk P_t224) 3 16 [none, none] [] h res := by
  unfold F_224_16 at hf
  refine Ex.seg 1 (pc' := 17) (lc' := [none, none]) (st' := [.int 0]) (h' := h) (sg1 rfl rfl rfl) ?_
  exact Ex.weak (sm_le_s (sm_le_s sm_le_nil)) (B_224_17 hd  hf hs)
theorem B_224_0 {L : Nat} {xs : Nat → Int32} {d : Nat} (hd : 0 ≤ d) {res : Option Value × sm_H} {x1 : Int32}  {h : sm_H} {r : (Int32 × sm_H)} (hf : F_224_0 x1 h = some r) (hs : (fun (r : Int32 × sm_H) => res = (some (.int r.1), r.2)) r) : Ex (P_G L xs) (RUN L xs d) (sm_lk P_t224) 3 0 [some (.ref 5), some (.int x1)] [] h res := by
  unfold F_224_0 at hf
  refine Ex.seg 1 (pc' := 1) (lc' := [some (.ref 5), some (.int x1)]) (st' := [.int x1]) (h' := h) (sg1 rfl rfl rfl) ?_
  refine Ex.ifc rfl rfl (fun (c0 : x1 < 0) => ?_) (fun (c0 : ¬ (x1 < 0)) => ?_)
  · rw [if_pos c0] at hf
    exact Ex.weak (sm_le_n (sm_le_n sm_le_nil)) (B_224_16 hd  hf hs)
  · rw [if_neg c0] at hf
    refine Ex.seg 3 (pc' := 9) (lc' := [some (.ref 5), some (.int x1)]) (st' := [.int (h.1 5 4), .int x1]) (h' := h) (sg1 rfl rfl (sg1 rfl rfl (sg1 rfl rfl rfl))) ?_
    refine Ex.icmp rfl rfl (fun (c0 : (h.1 5 4) ≤ x1) => ?_) (fun (c0 : ¬ ((h.1 5 4) ≤ x1)) => ?_)
    · rw [if_pos c0] at hf
      exact Ex.weak (sm_le_n (sm_le_n sm_le_nil)) (B_224_16 hd  hf hs)
    · rw [if_neg c0] at hf
      refine Ex.seg 2 (pc' := 17) (lc' := [some (.ref 5), some (.int x1)]) (st' := [.int 1]) (h' := h) (sg1 rfl rfl (sg1 rfl rfl rfl)) ?_
      exact Ex.weak (sm_le_n (sm_le_n sm_le_nil)) (B_224_17 hd  hf hs)
theorem E_224 {L : Nat} {xs : Nat → Int32} {d : Nat} (hd : 1 ≤ d) {x1 : Int32} {h : sm_H} {r : Int32 × sm_H} (hf : F_224 x1 h = some r) : RUN L xs d 224 [.ref 5, .int x1] h (some (.int r.1), r.2) := by
  obtain ⟨d, rfl⟩ : ∃ e, d = e + 1 := ⟨d - 1, by omega⟩
  exact ⟨Nat.le_of_ble_eq_true rfl, B_224_0 (by omega) hf rfl⟩
theorem B_225_22 {L : Nat} {xs : Nat → Int32} {d : Nat} (hd : 0 ≤ d) {res : Option Value × sm_H} {z0 : Int32}  {h : sm_H} {r : (Int32 × sm_H)} (hf : F_225_22 z0 h = some r) (hs : (fun (r : Int32 × sm_H) => res = (some (.int r.1), r.2)) r) : Ex (P_G L xs) (RUN L xs d) (sm_lk P_t225) 0 22 [none, none] [.int z0] h res := by
  unfold F_225_22 at hf
  obtain rfl := Option.some.inj hf
  exact Ex.iret rfl rfl (fun c0 => by cases c0) hs
theorem B_225_21 {L : Nat} {xs : Nat → Int32} {d : Nat} (hd : 0 ≤ d) {res : Option Value × sm_H}   {h : sm_H} {r : (Int32 × sm_H)} (hf : F_225_21  h = some r) (hs : (fun (r : Int32 × sm_H) => res = (some (.int r.1), r.2)) r) : Ex (P_G L xs) (RUN L xs d) (sm_lk P_t225) 0 21 [none, none] [] h res := by
  unfold F_225_21 at hf
  refine Ex.seg 1 (pc' := 22) (lc' := [none, none]) (st' := [.int (-1)]) (h' := h) (sg1 rfl rfl rfl) ?_
  exact Ex.weak (sm_le_s (sm_le_s sm_le_nil)) (B_225_22 hd  hf hs)
theorem B_225_0 {L : Nat} {xs : Nat → Int32} {d : Nat} (hd : 0 ≤ d) {res : Option Value × sm_H} {x1 : Int32}  {h : sm_H} {r : (Int32 × sm_H)} (hf : F_225_0 x1 h = some r) (hs : (fun (r : Int32 × sm_H) => res = (some (.int r.1), r.2)) r) : Ex (P_G L xs) (RUN L xs d) (sm_lk P_t225) 0 0 [some (.ref 5), some (.int x1)] [] h res := by
  unfold F_225_0 at hf
  refine Ex.seg 1 (pc' := 1) (lc' := [some (.ref 5), some (.int x1)]) (st' := [.int x1]) (h' := h) (sg1 rfl rfl rfl) ?_
  refine Ex.ifc rfl rfl (fun (c0 : x1 < 0) => ?_) (fun (c0 : ¬ (x1 < 0)) => ?_)
  · rw [if_pos c0] at hf
    exact Ex.weak (sm_le_n (sm_le_n sm_le_nil)) (B_225_21 hd  hf hs)
  · rw [if_neg c0] at hf
    refine Ex.seg 3 (pc' := 9) (lc' := [some (.ref 5), some (.int x1)]) (st' := [.int (h.1 5 4), .int x1]) (h' := h) (sg1 rfl rfl (sg1 rfl rfl (sg1 rfl rfl rfl))) ?_
    refine Ex.icmp rfl rfl (fun (c0 : (h.1 5 4) ≤ x1) => ?_) (fun (c0 : ¬ ((h.1 5 4) ≤ x1)) => ?_)
    · rw [if_pos c0] at hf
      exact Ex.weak (sm_le_n (sm_le_n sm_le_nil)) (B_225_21 hd  hf hs)
    · rw [if_neg c0] at hf
      refine Ex.seg 3 (pc' := 17) (lc' := [some (.ref 5), some (.int x1)]) (st' := [.int x1, .ref 6]) (h' := h) (sg1 rfl rfl (sg1 rfl rfl (sg1 rfl rfl rfl))) ?_
      obtain ⟨v1, e_v1, hf⟩ := bnd hf
      refine Ex.iald e_v1 rfl rfl ?_
      refine Ex.seg 1 (pc' := 22) (lc' := [some (.ref 5), some (.int x1)]) (st' := [.int v1]) (h' := h) (sg1 rfl rfl rfl) ?_
      exact Ex.weak (sm_le_n (sm_le_n sm_le_nil)) (B_225_22 hd  hf hs)
theorem E_225 {L : Nat} {xs : Nat → Int32} {d : Nat} (hd : 1 ≤ d) {x1 : Int32} {h : sm_H} {r : Int32 × sm_H} (hf : F_225 x1 h = some r) : RUN L xs d 225 [.ref 5, .int x1] h (some (.int r.1), r.2) := by
  obtain ⟨d, rfl⟩ : ∃ e, d = e + 1 := ⟨d - 1, by omega⟩
  exact ⟨Nat.le_of_ble_eq_true rfl, B_225_0 (by omega) hf rfl⟩
theorem B_226_22 {L : Nat} {xs : Nat → Int32} {d : Nat} (hd : 0 ≤ d) {res : Option Value × sm_H} {z0 : Int32}  {h : sm_H} {r : (Int32 × sm_H)} (hf : F_226_22 z0 h = some r) (hs : (fun (r : Int32 × sm_H) => res = (some (.int r.1), r.2)) r) : Ex (P_G L xs) (RUN L xs d) (sm_lk P_t226) 0 22 [none, none] [.int z0] h res := by
  unfold F_226_22 at hf
  obtain rfl := Option.some.inj hf
  exact Ex.iret rfl rfl (fun c0 => by cases c0) hs
theorem B_226_21 {L : Nat} {xs : Nat → Int32} {d : Nat} (hd : 0 ≤ d) {res : Option Value × sm_H}   {h : sm_H} {r : (Int32 × sm_H)} (hf : F_226_21  h = some r) (hs : (fun (r : Int32 × sm_H) => res = (some (.int r.1), r.2)) r) : Ex (P_G L xs) (RUN L xs d) (sm_lk P_t226) 0 21 [none, none] [] h res := by
  unfold F_226_21 at hf
  refine Ex.seg 1 (pc' := 22) (lc' := [none, none]) (st' := [.int 0]) (h' := h) (sg1 rfl rfl rfl) ?_
  exact Ex.weak (sm_le_s (sm_le_s sm_le_nil)) (B_226_22 hd  hf hs)
theorem B_226_0 {L : Nat} {xs : Nat → Int32} {d : Nat} (hd : 0 ≤ d) {res : Option Value × sm_H} {x1 : Int32}  {h : sm_H} {r : (Int32 × sm_H)} (hf : F_226_0 x1 h = some r) (hs : (fun (r : Int32 × sm_H) => res = (some (.int r.1), r.2)) r) : Ex (P_G L xs) (RUN L xs d) (sm_lk P_t226) 0 0 [some (.ref 5), some (.int x1)] [] h res := by
  unfold F_226_0 at hf
  refine Ex.seg 1 (pc' := 1) (lc' := [some (.ref 5), some (.int x1)]) (st' := [.int x1]) (h' := h) (sg1 rfl rfl rfl) ?_
  refine Ex.ifc rfl rfl (fun (c0 : x1 < 0) => ?_) (fun (c0 : ¬ (x1 < 0)) => ?_)
  · rw [if_pos c0] at hf
    exact Ex.weak (sm_le_n (sm_le_n sm_le_nil)) (B_226_21 hd  hf hs)
  · rw [if_neg c0] at hf
    refine Ex.seg 3 (pc' := 9) (lc' := [some (.ref 5), some (.int x1)]) (st' := [.int (h.1 5 4), .int x1]) (h' := h) (sg1 rfl rfl (sg1 rfl rfl (sg1 rfl rfl rfl))) ?_
    refine Ex.icmp rfl rfl (fun (c0 : (h.1 5 4) ≤ x1) => ?_) (fun (c0 : ¬ ((h.1 5 4) ≤ x1)) => ?_)
    · rw [if_pos c0] at hf
      exact Ex.weak (sm_le_n (sm_le_n sm_le_nil)) (B_226_21 hd  hf hs)
    · rw [if_neg c0] at hf
      refine Ex.seg 3 (pc' := 17) (lc' := [some (.ref 5), some (.int x1)]) (st' := [.int x1, .ref 7]) (h' := h) (sg1 rfl rfl (sg1 rfl rfl (sg1 rfl rfl rfl))) ?_
      obtain ⟨v1, e_v1, hf⟩ := bnd hf
      refine Ex.iald e_v1 rfl rfl ?_
      refine Ex.seg 1 (pc' := 22) (lc' := [some (.ref 5), some (.int x1)]) (st' := [.int v1]) (h' := h) (sg1 rfl rfl rfl) ?_
      exact Ex.weak (sm_le_n (sm_le_n sm_le_nil)) (B_226_22 hd  hf hs)
theorem E_226 {L : Nat} {xs : Nat → Int32} {d : Nat} (hd : 1 ≤ d) {x1 : Int32} {h : sm_H} {r : Int32 × sm_H} (hf : F_226 x1 h = some r) : RUN L xs d 226 [.ref 5, .int x1] h (some (.int r.1), r.2) := by
  obtain ⟨d, rfl⟩ : ∃ e, d = e + 1 := ⟨d - 1, by omega⟩
  exact ⟨Nat.le_of_ble_eq_true rfl, B_226_0 (by omega) hf rfl⟩
theorem B_227_26 {L : Nat} {xs : Nat → Int32} {d : Nat} (hd : 0 ≤ d) {res : Option Value × sm_H}   {h : sm_H} {r : (Int32 × sm_H)} (hf : F_227_26  h = some r) (hs : (fun (r : Int32 × sm_H) => res = (some (.int r.1), r.2)) r) : Ex (P_G L xs) (RUN L xs d) (sm_lk P_t227) 0 26 [none, none, none] [] h res := by
  unfold F_227_26 at hf
  refine Ex.seg 1 (pc' := 27) (lc' := [none, none, none]) (st' := [.int (-1)]) (h' := h) (sg1 rfl rfl rfl) ?_
  obtain rfl := Option.some.inj hf
  exact Ex.iret rfl rfl (fun c0 => by cases c0) hs
theorem B_227_0 {L : Nat} {xs : Nat → Int32} {d : Nat} (hd : 0 ≤ d) {res : Option Value × sm_H} {x1 : Int32} {x2 : Int32}  {h : sm_H} {r : (Int32 × sm_H)} (hf : F_227_0 x1 x2 h = some r) (hs : (fun (r : Int32 × sm_H) => res = (some (.int r.1), r.2)) r) : Ex (P_G L xs) (RUN L xs d) (sm_lk P_t227) 0 0 [some (.ref 5), some (.int x1), some (.int x2)] [] h res := by
  unfold F_227_0 at hf
  refine Ex.seg 1 (pc' := 1) (lc' := [some (.ref 5), some (.int x1), some (.int x2)]) (st' := [.int x1]) (h' := h) (sg1 rfl rfl rfl) ?_
  refine Ex.ifc rfl rfl (fun (c0 : x1 < 0) => ?_) (fun (c0 : ¬ (x1 < 0)) => ?_)
  · rw [if_pos c0] at hf
    exact Ex.weak (sm_le_n (sm_le_n (sm_le_n sm_le_nil))) (B_227_26 hd  hf hs)
  · rw [if_neg c0] at hf
    refine Ex.seg 3 (pc' := 9) (lc' := [some (.ref 5), some (.int x1), some (.int x2)]) (st' := [.int (h.1 5 4), .int x1]) (h' := h) (sg1 rfl rfl (sg1 rfl rfl (sg1 rfl rfl rfl))) ?_
    refine Ex.icmp rfl rfl (fun (c0 : (h.1 5 4) ≤ x1) => ?_) (fun (c0 : ¬ ((h.1 5 4) ≤ x1)) => ?_)
    · rw [if_pos c0] at hf
      exact Ex.weak (sm_le_n (sm_le_n (sm_le_n sm_le_nil))) (B_227_26 hd  hf hs)
    · rw [if_neg c0] at hf
      refine Ex.seg 1 (pc' := 13) (lc' := [some (.ref 5), some (.int x1), some (.int x2)]) (st' := [.int x2]) (h' := h) (sg1 rfl rfl rfl) ?_
      refine Ex.ifc rfl rfl (fun (c0 : x2 < 0) => ?_) (fun (c0 : ¬ (x2 < 0)) => ?_)
      · rw [if_pos c0] at hf
        exact Ex.weak (sm_le_n (sm_le_n (sm_le_n sm_le_nil))) (B_227_26 hd  hf hs)
      · rw [if_neg c0] at hf
        refine Ex.seg 4 (pc' := 22) (lc' := [some (.ref 5), some (.int x1), some (.int x2)]) (st' := [.int x1, .ref 7, .int x2]) (h' := h) (sg1 rfl rfl (sg1 rfl rfl (sg1 rfl rfl (sg1 rfl rfl rfl)))) ?_
        obtain ⟨v1, e_v1, hf⟩ := bnd hf
        refine Ex.iald e_v1 rfl rfl ?_
        refine Ex.icmp rfl rfl (fun (c0 : x2 < v1) => ?_) (fun (c0 : ¬ (x2 < v1)) => ?_)
        · rw [if_pos c0] at hf
          refine Ex.seg 7 (pc' := 38) (lc' := [some (.ref 5), some (.int x1), some (.int x2)]) (st' := [.int ((x1 * 10) + x2), .ref 8]) (h' := h) (sg1 rfl rfl (sg1 rfl rfl (sg1 rfl rfl (sg1 rfl rfl (sg1 rfl rfl (sg1 rfl rfl (sg1 rfl rfl rfl))))))) ?_
          obtain ⟨v2, e_v2, hf⟩ := bnd hf
          refine Ex.iald e_v2 rfl rfl ?_
          obtain rfl := Option.some.inj hf
          exact Ex.iret rfl rfl (fun c0 => by cases c0) hs
        · rw [if_neg c0] at hf
          exact Ex.weak (sm_le_n (sm_le_n (sm_le_n sm_le_nil))) (B_227_26 hd  hf hs)
theorem E_227 {L : Nat} {xs : Nat → Int32} {d : Nat} (hd : 1 ≤ d) {x1 : Int32} {x2 : Int32} {h : sm_H} {r : Int32 × sm_H} (hf : F_227 x1 x2 h = some r) : RUN L xs d 227 [.ref 5, .int x1, .int x2] h (some (.int r.1), r.2) := by
  obtain ⟨d, rfl⟩ : ∃ e, d = e + 1 := ⟨d - 1, by omega⟩
  exact ⟨Nat.le_of_ble_eq_true rfl, B_227_0 (by omega) hf rfl⟩
theorem B_228_0 {L : Nat} {xs : Nat → Int32} {d : Nat} (hd : 0 ≤ d) {res : Option Value × sm_H}   {h : sm_H} {r : (sm_H)} (hf : F_228_0  h = some r) (hs : (fun (r : sm_H) => res = (none, r)) r) : Ex (P_G L xs) (RUN L xs d) (sm_lk P_t228) 0 0 [some (.ref 5)] [] h res := by
  unfold F_228_0 at hf
  refine Ex.seg 3 (pc' := 5) (lc' := [some (.ref 5)]) (st' := []) (h' := (sm_wI h 5 6 0)) (sg1 rfl rfl (sg1 rfl rfl (sg1 rfl rfl rfl))) ?_
  obtain ⟨h1, e_h1, hf⟩ := bnd hf
  rw [Option.some.inj e_h1]
  obtain rfl := Option.some.inj hf
  exact Ex.vret rfl rfl hs
theorem E_228 {L : Nat} {xs : Nat → Int32} {d : Nat} (hd : 1 ≤ d)  {h : sm_H} {r : sm_H} (hf : F_228  h = some r) : RUN L xs d 228 [.ref 5] h (none, r) := by
  obtain ⟨d, rfl⟩ : ∃ e, d = e + 1 := ⟨d - 1, by omega⟩
  exact ⟨Nat.le_of_ble_eq_true rfl, B_228_0 (by omega) hf rfl⟩
theorem B_229_19 {L : Nat} {xs : Nat → Int32} {d : Nat} (hd : 0 ≤ d) {res : Option Value × sm_H}   {h : sm_H} {r : (sm_H)} (hf : F_229_19  h = some r) (hs : (fun (r : sm_H) => res = (none, r)) r) : Ex (P_G L xs) (RUN L xs d) (sm_lk P_t229) 0 19 [some (.ref 5), none] [] h res := by
  unfold F_229_19 at hf
  refine Ex.seg 6 (pc' := 29) (lc' := [some (.ref 5), none]) (st' := []) (h' := (sm_wI h 5 6 ((h.1 5 6) + 1))) (sg1 rfl rfl (sg1 rfl rfl (sg1 rfl rfl (sg1 rfl rfl (sg1 rfl rfl (sg1 rfl rfl rfl)))))) ?_
  obtain ⟨h1, e_h1, hf⟩ := bnd hf
  rw [Option.some.inj e_h1]
  obtain rfl := Option.some.inj hf
  exact Ex.vret rfl rfl hs
theorem B_229_0 {L : Nat} {xs : Nat → Int32} {d : Nat} (hd : 0 ≤ d) {res : Option Value × sm_H} {x1 : Int32}  {h : sm_H} {r : (sm_H)} (hf : F_229_0 x1 h = some r) (hs : (fun (r : sm_H) => res = (none, r)) r) : Ex (P_G L xs) (RUN L xs d) (sm_lk P_t229) 0 0 [some (.ref 5), some (.int x1)] [] h res := by
  unfold F_229_0 at hf
  refine Ex.seg 3 (pc' := 6) (lc' := [some (.ref 5), some (.int x1)]) (st' := [.int 10, .int (h.1 5 6)]) (h' := h) (sg1 rfl rfl (sg1 rfl rfl (sg1 rfl rfl rfl))) ?_
  refine Ex.icmp rfl rfl (fun (c0 : 10 ≤ (h.1 5 6)) => ?_) (fun (c0 : ¬ (10 ≤ (h.1 5 6))) => ?_)
  · rw [if_pos c0] at hf
    exact Ex.weak (sm_le_s (sm_le_n sm_le_nil)) (B_229_19 hd  hf hs)
  · rw [if_neg c0] at hf
    refine Ex.seg 5 (pc' := 18) (lc' := [some (.ref 5), some (.int x1)]) (st' := [.int x1, .int (h.1 5 6), .ref 9]) (h' := h) (sg1 rfl rfl (sg1 rfl rfl (sg1 rfl rfl (sg1 rfl rfl (sg1 rfl rfl rfl))))) ?_
    obtain ⟨h2, e_h2, hf⟩ := bnd hf
    refine Ex.iast e_h2 rfl rfl ?_
    exact Ex.weak (sm_le_s (sm_le_n sm_le_nil)) (B_229_19 hd  hf hs)
theorem E_229 {L : Nat} {xs : Nat → Int32} {d : Nat} (hd : 1 ≤ d) {x1 : Int32} {h : sm_H} {r : sm_H} (hf : F_229 x1 h = some r) : RUN L xs d 229 [.ref 5, .int x1] h (none, r) := by
  obtain ⟨d, rfl⟩ : ∃ e, d = e + 1 := ⟨d - 1, by omega⟩
  exact ⟨Nat.le_of_ble_eq_true rfl, B_229_0 (by omega) hf rfl⟩
theorem B_230_37 {L : Nat} {xs : Nat → Int32} {d : Nat} (hd : 1 ≤ d) {res : Option Value × sm_H}   {h : sm_H} {r : (sm_H)} (hf : F_230_37  h = some r) (hs : (fun (r : sm_H) => res = (none, r)) r) : Ex (P_G L xs) (RUN L xs d) (sm_lk P_t230) 0 37 [none, none, none, none, none] [] h res := by
  unfold F_230_37 at hf
  obtain rfl := Option.some.inj hf
  exact Ex.vret rfl rfl hs
theorem B_230_7B {L : Nat} {xs : Nat → Int32} {d : Nat} (hd : 1 ≤ d) {res : Option Value × sm_H} {S1 : (Int32 × Int32 × Int32 × sm_H) → Prop} (hS1 : ∀ s, S1 s → Ex (P_G L xs) (RUN L xs d) (sm_lk P_t230) 0 7 [some (.ref 5), some (.int s.1), none, some (.int s.2.1), some (.int s.2.2.1)] [] s.2.2.2 res) {s : (Int32 × Int32 × Int32 × sm_H)}  {r : ((Int32 × Int32 × Int32 × sm_H) ⊕ (sm_H))} (hf : F_230_7B s = some r) (hs : (Sum.elim S1 (fun (r : sm_H) => res = (none, r))) r) : Ex (P_G L xs) (RUN L xs d) (sm_lk P_t230) 0 7 [some (.ref 5), some (.int s.1), none, some (.int s.2.1), some (.int s.2.2.1)] [] s.2.2.2 res := by
  unfold F_230_7B at hf
  refine Ex.seg 2 (pc' := 10) (lc' := [some (.ref 5), some (.int s.1), none, some (.int s.2.1), some (.int s.2.2.1)]) (st' := [.int s.2.1, .int s.2.2.1]) (h' := s.2.2.2) (sg1 rfl rfl (sg1 rfl rfl rfl)) ?_
  refine Ex.icmp rfl rfl (fun (c0 : s.2.1 ≤ s.2.2.1) => ?_) (fun (c0 : ¬ (s.2.1 ≤ s.2.2.1)) => ?_)
  · rw [if_pos c0] at hf
    obtain ⟨r0, hf0, rfl⟩ := Option.map_eq_some_iff.mp hf
    exact Ex.weak (sm_le_n (sm_le_n (sm_le_s (sm_le_n (sm_le_n sm_le_nil))))) (B_230_37 hd  hf0 hs)
  · rw [if_neg c0] at hf
    refine Ex.seg 2 (pc' := 17) (lc' := [some (.ref 5), some (.int s.1), none, some (.int s.2.1), some (.int s.2.2.1)]) (st' := [.int 10, .int s.2.2.1]) (h' := s.2.2.2) (sg1 rfl rfl (sg1 rfl rfl rfl)) ?_
    refine Ex.icmp rfl rfl (fun (c0 : 10 ≤ s.2.2.1) => ?_) (fun (c0 : ¬ (10 ≤ s.2.2.1)) => ?_)
    · rw [if_pos c0] at hf
      obtain ⟨r0, hf0, rfl⟩ := Option.map_eq_some_iff.mp hf
      exact Ex.weak (sm_le_n (sm_le_n (sm_le_s (sm_le_n (sm_le_n sm_le_nil))))) (B_230_37 hd  hf0 hs)
    · rw [if_neg c0] at hf
      refine Ex.seg 4 (pc' := 25) (lc' := [some (.ref 5), some (.int s.1), none, some (.int s.2.1), some (.int s.2.2.1)]) (st' := [.int s.2.2.1, .int s.1, .ref 5, .ref 5]) (h' := s.2.2.2) (sg1 rfl rfl (sg1 rfl rfl (sg1 rfl rfl (sg1 rfl rfl rfl)))) ?_
      obtain ⟨q1, e_q1, hf⟩ := bnd hf
      refine Ex.callV (a := 5) (As := [.int s.1, .int s.2.2.1]) (r := [.ref 5]) (v := some (.int q1.1)) (h' := q1.2) rfl rfl (by decide) rfl (Nat.le_of_ble_eq_true rfl) rfl (E_227 (Nat.le_trans (by decide) hd) e_q1) rfl ?_
      obtain ⟨q2, e_q2, hf⟩ := bnd hf
      refine Ex.callV (a := 5) (As := [.int q1.1]) (r := []) (v := none) (h' := q2) rfl rfl (by decide) rfl (Nat.le_of_ble_eq_true rfl) rfl (E_229 (Nat.le_trans (by decide) hd) e_q2) rfl ?_
      refine Ex.seg 1 (pc' := 34) (lc' := [some (.ref 5), some (.int s.1), none, some (.int s.2.1), some (.int (s.2.2.1 + 1))]) (st' := []) (h' := q2) (sg1 rfl rfl rfl) ?_
      obtain ⟨v3, e_v3, hf⟩ := bnd hf
      rw [Option.some.inj e_v3]
      refine Ex.seg 1 (pc' := 7) (lc' := [some (.ref 5), some (.int s.1), none, some (.int s.2.1), some (.int v3)]) (st' := []) (h' := q2) (sg1 rfl rfl rfl) ?_
      obtain rfl := Option.some.inj hf
      exact Ex.weak (sm_le_s (sm_le_s (sm_le_s (sm_le_s (sm_le_s sm_le_nil))))) (hS1 _ hs)
theorem B_230_7 {L : Nat} {xs : Nat → Int32} {d : Nat} (hd : 1 ≤ d) {res : Option Value × sm_H} {y1 : Int32} {y3 : Int32} {y4 : Int32}  {h : sm_H} {r : (sm_H)} (hf : F_230_7 y1 y3 y4 h = some r) (hs : (fun (r : sm_H) => res = (none, r)) r) : Ex (P_G L xs) (RUN L xs d) (sm_lk P_t230) 0 7 [some (.ref 5), some (.int y1), none, some (.int y3), some (.int y4)] [] h res := by
  unfold F_230_7 at hf
  exact lp_ok (P := fun (s : (Int32 × Int32 × Int32 × sm_H)) => Ex (P_G L xs) (RUN L xs d) (sm_lk P_t230) 0 7 [some (.ref 5), some (.int s.1), none, some (.int s.2.1), some (.int s.2.2.1)] [] s.2.2.2 res) (S := (fun (r : sm_H) => res = (none, r))) (fun s x hx hsx => by
    intros
    exact B_230_7B hd  (fun _ q => q) hx hsx) 1000000 _ r hf hs
theorem B_230_0 {L : Nat} {xs : Nat → Int32} {d : Nat} (hd : 1 ≤ d) {res : Option Value × sm_H} {x1 : Int32} {x2 : Int32} {x3 : Int32}  {h : sm_H} {r : (sm_H)} (hf : F_230_0 x1 x2 x3 h = some r) (hs : (fun (r : sm_H) => res = (none, r)) r) : Ex (P_G L xs) (RUN L xs d) (sm_lk P_t230) 0 0 [some (.ref 5), some (.int x1), some (.int x2), some (.int x3), none] [] h res := by
  unfold F_230_0 at hf
  refine Ex.seg 2 (pc' := 2) (lc' := [some (.ref 5), some (.int x1), some (.int x2), some (.int x3), none]) (st' := [.int 0, .int x2]) (h' := h) (sg1 rfl rfl (sg1 rfl rfl rfl)) ?_
  refine Ex.mx rfl rfl rfl (Nat.le_of_ble_eq_true rfl) ?_
  refine Ex.seg 1 (pc' := 7) (lc' := [some (.ref 5), some (.int x1), some (.int x2), some (.int x3), some (.int (if x2 < 0 then 0 else x2))]) (st' := []) (h' := h) (sg1 rfl rfl rfl) ?_
  obtain ⟨v4, e_v4, hf⟩ := bnd hf
  rw [Option.some.inj e_v4]
  exact Ex.weak (sm_le_s (sm_le_s (sm_le_n (sm_le_s (sm_le_s sm_le_nil))))) (B_230_7 hd  hf hs)
theorem E_230 {L : Nat} {xs : Nat → Int32} {d : Nat} (hd : 2 ≤ d) {x1 : Int32} {x2 : Int32} {x3 : Int32} {h : sm_H} {r : sm_H} (hf : F_230 x1 x2 x3 h = some r) : RUN L xs d 230 [.ref 5, .int x1, .int x2, .int x3] h (none, r) := by
  obtain ⟨d, rfl⟩ : ∃ e, d = e + 1 := ⟨d - 1, by omega⟩
  exact ⟨Nat.le_of_ble_eq_true rfl, B_230_0 (by omega) hf rfl⟩
theorem B_232_44 {L : Nat} {xs : Nat → Int32} {d : Nat} (hd : 0 ≤ d) {res : Option Value × sm_H}   {h : sm_H} {r : (Int32 × sm_H)} (hf : F_232_44  h = some r) (hs : (fun (r : Int32 × sm_H) => res = (some (.int r.1), r.2)) r) : Ex (P_G L xs) (RUN L xs d) (sm_lk P_t232) 3 44 [none, none, none] [] h res := by
  unfold F_232_44 at hf
  refine Ex.seg 1 (pc' := 45) (lc' := [none, none, none]) (st' := [.int 1]) (h' := h) (sg1 rfl rfl rfl) ?_
  obtain rfl := Option.some.inj hf
  exact Ex.iret rfl rfl (fun _ => by decide) hs
theorem B_232_2B {L : Nat} {xs : Nat → Int32} {d : Nat} (hd : 0 ≤ d) {res : Option Value × sm_H} {S1 : (Int32 × Int32 × sm_H) → Prop} (hS1 : ∀ s, S1 s → Ex (P_G L xs) (RUN L xs d) (sm_lk P_t232) 3 2 [some (.ref 5), some (.int s.1), some (.int s.2.1)] [] s.2.2 res) {s : (Int32 × Int32 × sm_H)}  {r : ((Int32 × Int32 × sm_H) ⊕ (Int32 × sm_H))} (hf : F_232_2B s = some r) (hs : (Sum.elim S1 (fun (r : Int32 × sm_H) => res = (some (.int r.1), r.2))) r) : Ex (P_G L xs) (RUN L xs d) (sm_lk P_t232) 3 2 [some (.ref 5), some (.int s.1), some (.int s.2.1)] [] s.2.2 res := by
  unfold F_232_2B at hf
  refine Ex.seg 3 (pc' := 7) (lc' := [some (.ref 5), some (.int s.1), some (.int s.2.1)]) (st' := [.int (s.2.2.1 5 6), .int s.2.1]) (h' := s.2.2) (sg1 rfl rfl (sg1 rfl rfl (sg1 rfl rfl rfl))) ?_
  refine Ex.icmp rfl rfl (fun (c0 : (s.2.2.1 5 6) ≤ s.2.1) => ?_) (fun (c0 : ¬ ((s.2.2.1 5 6) ≤ s.2.1)) => ?_)
  · rw [if_pos c0] at hf
    obtain ⟨r0, hf0, rfl⟩ := Option.map_eq_some_iff.mp hf
    exact Ex.weak (sm_le_n (sm_le_n (sm_le_n sm_le_nil))) (B_232_44 hd  hf0 hs)
  · rw [if_neg c0] at hf
    refine Ex.seg 2 (pc' := 13) (lc' := [some (.ref 5), some (.int s.1), some (.int s.2.1)]) (st' := [.int 10, .int s.2.1]) (h' := s.2.2) (sg1 rfl rfl (sg1 rfl rfl rfl)) ?_
    refine Ex.icmp rfl rfl (fun (c0 : 10 ≤ s.2.1) => ?_) (fun (c0 : ¬ (10 ≤ s.2.1)) => ?_)
    · rw [if_pos c0] at hf
      obtain ⟨r0, hf0, rfl⟩ := Option.map_eq_some_iff.mp hf
      exact Ex.weak (sm_le_n (sm_le_n (sm_le_n sm_le_nil))) (B_232_44 hd  hf0 hs)
    · rw [if_neg c0] at hf
      refine Ex.seg 7 (pc' := 26) (lc' := [some (.ref 5), some (.int s.1), some (.int s.2.1)]) (st' := [.int ((s.1 * 10) + s.2.1), .ref 8]) (h' := s.2.2) (sg1 rfl rfl (sg1 rfl rfl (sg1 rfl rfl (sg1 rfl rfl (sg1 rfl rfl (sg1 rfl rfl (sg1 rfl rfl rfl))))))) ?_
      obtain ⟨v1, e_v1, hf⟩ := bnd hf
      refine Ex.iald e_v1 rfl rfl ?_
      refine Ex.seg 3 (pc' := 32) (lc' := [some (.ref 5), some (.int s.1), some (.int s.2.1)]) (st' := [.int s.2.1, .ref 9, .int v1]) (h' := s.2.2) (sg1 rfl rfl (sg1 rfl rfl (sg1 rfl rfl rfl))) ?_
      obtain ⟨v2, e_v2, hf⟩ := bnd hf
      refine Ex.iald e_v2 rfl rfl ?_
      refine Ex.icmp rfl rfl (fun (c0 : v1 = v2) => ?_) (fun (c0 : ¬ (v1 = v2)) => ?_)
      · rw [if_pos c0] at hf
        refine Ex.seg 1 (pc' := 41) (lc' := [some (.ref 5), some (.int s.1), some (.int (s.2.1 + 1))]) (st' := []) (h' := s.2.2) (sg1 rfl rfl rfl) ?_
        obtain ⟨v3, e_v3, hf⟩ := bnd hf
        rw [Option.some.inj e_v3]
        refine Ex.seg 1 (pc' := 2) (lc' := [some (.ref 5), some (.int s.1), some (.int v3)]) (st' := []) (h' := s.2.2) (sg1 rfl rfl rfl) ?_
        obtain rfl := Option.some.inj hf
        exact Ex.weak (sm_le_s (sm_le_s (sm_le_s sm_le_nil))) (hS1 _ hs)
      · rw [if_neg c0] at hf
        refine Ex.seg 1 (pc' := 37) (lc' := [some (.ref 5), some (.int s.1), some (.int s.2.1)]) (st' := [.int 0]) (h' := s.2.2) (sg1 rfl rfl rfl) ?_
        obtain rfl := Option.some.inj hf
        exact Ex.iret rfl rfl (fun _ => by decide) hs
theorem B_232_2 {L : Nat} {xs : Nat → Int32} {d : Nat} (hd : 0 ≤ d) {res : Option Value × sm_H} {y1 : Int32} {y2 : Int32}  {h : sm_H} {r : (Int32 × sm_H)} (hf : F_232_2 y1 y2 h = some r) (hs : (fun (r : Int32 × sm_H) => res = (some (.int r.1), r.2)) r) : Ex (P_G L xs) (RUN L xs d) (sm_lk P_t232) 3 2 [some (.ref 5), some (.int y1), some (.int y2)] [] h res := by
  unfold F_232_2 at hf
  exact lp_ok (P := fun (s : (Int32 × Int32 × sm_H)) => Ex (P_G L xs) (RUN L xs d) (sm_lk P_t232) 3 2 [some (.ref 5), some (.int s.1), some (.int s.2.1)] [] s.2.2 res) (S := (fun (r : Int32 × sm_H) => res = (some (.int r.1), r.2))) (fun s x hx hsx => by
    intros
    exact B_232_2B hd  (fun _ q => q) hx hsx) 1000000 _ r hf hs
theorem B_232_0 {L : Nat} {xs : Nat → Int32} {d : Nat} (hd : 0 ≤ d) {res : Option Value × sm_H} {x1 : Int32}  {h : sm_H} {r : (Int32 × sm_H)} (hf : F_232_0 x1 h = some r) (hs : (fun (r : Int32 × sm_H) => res = (some (.int r.1), r.2)) r) : Ex (P_G L xs) (RUN L xs d) (sm_lk P_t232) 3 0 [some (.ref 5), some (.int x1), none] [] h res := by
  unfold F_232_0 at hf
  refine Ex.seg 2 (pc' := 2) (lc' := [some (.ref 5), some (.int x1), some (.int 0)]) (st' := []) (h' := h) (sg1 rfl rfl (sg1 rfl rfl rfl)) ?_
  exact Ex.weak (sm_le_s (sm_le_s (sm_le_s sm_le_nil))) (B_232_2 hd  hf hs)
theorem E_232 {L : Nat} {xs : Nat → Int32} {d : Nat} (hd : 1 ≤ d) {x1 : Int32} {h : sm_H} {r : Int32 × sm_H} (hf : F_232 x1 h = some r) : RUN L xs d 232 [.ref 5, .int x1] h (some (.int r.1), r.2) := by
  obtain ⟨d, rfl⟩ : ∃ e, d = e + 1 := ⟨d - 1, by omega⟩
  exact ⟨Nat.le_of_ble_eq_true rfl, B_232_0 (by omega) hf rfl⟩
theorem B_235_74B {L : Nat} {xs : Nat → Int32} {d : Nat} (hd : 0 ≤ d) {res : Option Value × sm_H} {S1 : (Int32 × Int32 × Int32 × Int32 × Int32 × Int32 × sm_H) → Prop} (hS1 : ∀ s, S1 s → Ex (P_G L xs) (RUN L xs d) (sm_lk P_t235) 3 74 [some (.ref 5), some (.int s.1), some (.int s.2.1), some (.int s.2.2.1), some (.int s.2.2.2.1), some (.int s.2.2.2.2.1), some (.int s.2.2.2.2.2.1)] [] s.2.2.2.2.2.2 res) {s : (Int32 × Int32 × Int32 × Int32 × Int32 × Int32 × sm_H)}  {r : ((Int32 × Int32 × Int32 × Int32 × Int32 × Int32 × sm_H) ⊕ (Int32 × sm_H))} (hf : F_235_74B s = some r) (hs : (Sum.elim S1 (fun (r : Int32 × sm_H) => res = (some (.int r.1), r.2))) r) : Ex (P_G L xs) (RUN L xs d) (sm_lk P_t235) 3 74 [some (.ref 5), some (.int s.1), some (.int s.2.1), some (.int s.2.2.1), some (.int s.2.2.2.1), some (.int s.2.2.2.2.1), some (.int s.2.2.2.2.2.1)] [] s.2.2.2.2.2.2 res := by
  unfold F_235_74B at hf
  refine Ex.seg 2 (pc' := 78) (lc' := [some (.ref 5), some (.int s.1), some (.int s.2.1), some (.int s.2.2.1), some (.int s.2.2.2.1), some (.int s.2.2.2.2.1), some (.int s.2.2.2.2.2.1)]) (st' := [.int s.2.2.2.2.1, .int s.2.2.2.2.2.1]) (h' := s.2.2.2.2.2.2) (sg1 rfl rfl (sg1 rfl rfl rfl)) ?_
  refine Ex.icmp rfl rfl (fun (c0 : s.2.2.2.2.1 ≤ s.2.2.2.2.2.1) => ?_) (fun (c0 : ¬ (s.2.2.2.2.1 ≤ s.2.2.2.2.2.1)) => ?_)
  · rw [if_pos c0] at hf
    refine Ex.seg 1 (pc' := 122) (lc' := [some (.ref 5), some (.int s.1), some (.int s.2.1), some (.int s.2.2.1), some (.int s.2.2.2.1), some (.int s.2.2.2.2.1), some (.int s.2.2.2.2.2.1)]) (st' := [.int 1]) (h' := s.2.2.2.2.2.2) (sg1 rfl rfl rfl) ?_
    obtain rfl := Option.some.inj hf
    exact Ex.iret rfl rfl (fun _ => by decide) hs
  · rw [if_neg c0] at hf
    refine Ex.seg 9 (pc' := 94) (lc' := [some (.ref 5), some (.int s.1), some (.int s.2.1), some (.int s.2.2.1), some (.int s.2.2.2.1), some (.int s.2.2.2.2.1), some (.int s.2.2.2.2.2.1)]) (st' := [.int (((s.1 * 10) + s.2.1) + s.2.2.2.2.2.1), .ref 8]) (h' := s.2.2.2.2.2.2) (sg1 rfl rfl (sg1 rfl rfl (sg1 rfl rfl (sg1 rfl rfl (sg1 rfl rfl (sg1 rfl rfl (sg1 rfl rfl (sg1 rfl rfl (sg1 rfl rfl rfl))))))))) ?_
    obtain ⟨v1, e_v1, hf⟩ := bnd hf
    refine Ex.iald e_v1 rfl rfl ?_
    refine Ex.seg 9 (pc' := 109) (lc' := [some (.ref 5), some (.int s.1), some (.int s.2.1), some (.int s.2.2.1), some (.int s.2.2.2.1), some (.int s.2.2.2.2.1), some (.int s.2.2.2.2.2.1)]) (st' := [.int (((s.2.2.1 * 10) + s.2.2.2.1) + s.2.2.2.2.2.1), .ref 8, .int v1]) (h' := s.2.2.2.2.2.2) (sg1 rfl rfl (sg1 rfl rfl (sg1 rfl rfl (sg1 rfl rfl (sg1 rfl rfl (sg1 rfl rfl (sg1 rfl rfl (sg1 rfl rfl (sg1 rfl rfl rfl))))))))) ?_
    obtain ⟨v2, e_v2, hf⟩ := bnd hf
    refine Ex.iald e_v2 rfl rfl ?_
    refine Ex.icmp rfl rfl (fun (c0 : v1 = v2) => ?_) (fun (c0 : ¬ (v1 = v2)) => ?_)
    · rw [if_pos c0] at hf
      refine Ex.seg 1 (pc' := 118) (lc' := [some (.ref 5), some (.int s.1), some (.int s.2.1), some (.int s.2.2.1), some (.int s.2.2.2.1), some (.int s.2.2.2.2.1), some (.int (s.2.2.2.2.2.1 + 1))]) (st' := []) (h' := s.2.2.2.2.2.2) (sg1 rfl rfl rfl) ?_
      obtain ⟨v3, e_v3, hf⟩ := bnd hf
      rw [Option.some.inj e_v3]
      refine Ex.seg 1 (pc' := 74) (lc' := [some (.ref 5), some (.int s.1), some (.int s.2.1), some (.int s.2.2.1), some (.int s.2.2.2.1), some (.int s.2.2.2.2.1), some (.int v3)]) (st' := []) (h' := s.2.2.2.2.2.2) (sg1 rfl rfl rfl) ?_
      obtain rfl := Option.some.inj hf
      exact Ex.weak (sm_le_s (sm_le_s (sm_le_s (sm_le_s (sm_le_s (sm_le_s (sm_le_s sm_le_nil))))))) (hS1 _ hs)
    · rw [if_neg c0] at hf
      refine Ex.seg 1 (pc' := 114) (lc' := [some (.ref 5), some (.int s.1), some (.int s.2.1), some (.int s.2.2.1), some (.int s.2.2.2.1), some (.int s.2.2.2.2.1), some (.int s.2.2.2.2.2.1)]) (st' := [.int 0]) (h' := s.2.2.2.2.2.2) (sg1 rfl rfl rfl) ?_
      obtain rfl := Option.some.inj hf
      exact Ex.iret rfl rfl (fun _ => by decide) hs
theorem B_235_74 {L : Nat} {xs : Nat → Int32} {d : Nat} (hd : 0 ≤ d) {res : Option Value × sm_H} {y1 : Int32} {y2 : Int32} {y3 : Int32} {y4 : Int32} {y5 : Int32} {y6 : Int32}  {h : sm_H} {r : (Int32 × sm_H)} (hf : F_235_74 y1 y2 y3 y4 y5 y6 h = some r) (hs : (fun (r : Int32 × sm_H) => res = (some (.int r.1), r.2)) r) : Ex (P_G L xs) (RUN L xs d) (sm_lk P_t235) 3 74 [some (.ref 5), some (.int y1), some (.int y2), some (.int y3), some (.int y4), some (.int y5), some (.int y6)] [] h res := by
  unfold F_235_74 at hf
  exact lp_ok (P := fun (s : (Int32 × Int32 × Int32 × Int32 × Int32 × Int32 × sm_H)) => Ex (P_G L xs) (RUN L xs d) (sm_lk P_t235) 3 74 [some (.ref 5), some (.int s.1), some (.int s.2.1), some (.int s.2.2.1), some (.int s.2.2.2.1), some (.int s.2.2.2.2.1), some (.int s.2.2.2.2.2.1)] [] s.2.2.2.2.2.2 res) (S := (fun (r : Int32 × sm_H) => res = (some (.int r.1), r.2))) (fun s x hx hsx => by
    intros
    exact B_235_74B hd  (fun _ q => q) hx hsx) 1000000 _ r hf hs
theorem B_235_69 {L : Nat} {xs : Nat → Int32} {d : Nat} (hd : 0 ≤ d) {res : Option Value × sm_H}   {h : sm_H} {r : (Int32 × sm_H)} (hf : F_235_69  h = some r) (hs : (fun (r : Int32 × sm_H) => res = (some (.int r.1), r.2)) r) : Ex (P_G L xs) (RUN L xs d) (sm_lk P_t235) 3 69 [none, none, none, none, none, none, none] [] h res := by
  unfold F_235_69 at hf
  refine Ex.seg 1 (pc' := 70) (lc' := [none, none, none, none, none, none, none]) (st' := [.int 0]) (h' := h) (sg1 rfl rfl rfl) ?_
  obtain rfl := Option.some.inj hf
  exact Ex.iret rfl rfl (fun _ => by decide) hs
theorem B_235_40 {L : Nat} {xs : Nat → Int32} {d : Nat} (hd : 0 ≤ d) {res : Option Value × sm_H}   {h : sm_H} {r : (Int32 × sm_H)} (hf : F_235_40  h = some r) (hs : (fun (r : Int32 × sm_H) => res = (some (.int r.1), r.2)) r) : Ex (P_G L xs) (RUN L xs d) (sm_lk P_t235) 3 40 [none, none, none, none, none, none, none] [] h res := by
  unfold F_235_40 at hf
  refine Ex.seg 1 (pc' := 41) (lc' := [none, none, none, none, none, none, none]) (st' := [.int 0]) (h' := h) (sg1 rfl rfl rfl) ?_
  obtain rfl := Option.some.inj hf
  exact Ex.iret rfl rfl (fun _ => by decide) hs
theorem B_235_24 {L : Nat} {xs : Nat → Int32} {d : Nat} (hd : 0 ≤ d) {res : Option Value × sm_H}   {h : sm_H} {r : (Int32 × sm_H)} (hf : F_235_24  h = some r) (hs : (fun (r : Int32 × sm_H) => res = (some (.int r.1), r.2)) r) : Ex (P_G L xs) (RUN L xs d) (sm_lk P_t235) 3 24 [none, none, none, none, none, none, none] [] h res := by
  unfold F_235_24 at hf
  refine Ex.seg 1 (pc' := 25) (lc' := [none, none, none, none, none, none, none]) (st' := [.int 0]) (h' := h) (sg1 rfl rfl rfl) ?_
  obtain rfl := Option.some.inj hf
  exact Ex.iret rfl rfl (fun _ => by decide) hs
theorem B_235_0 {L : Nat} {xs : Nat → Int32} {d : Nat} (hd : 0 ≤ d) {res : Option Value × sm_H} {x1 : Int32} {x2 : Int32} {x3 : Int32} {x4 : Int32} {x5 : Int32}  {h : sm_H} {r : (Int32 × sm_H)} (hf : F_235_0 x1 x2 x3 x4 x5 h = some r) (hs : (fun (r : Int32 × sm_H) => res = (some (.int r.1), r.2)) r) : Ex (P_G L xs) (RUN L xs d) (sm_lk P_t235) 3 0 [some (.ref 5), some (.int x1), some (.int x2), some (.int x3), some (.int x4), some (.int x5), none] [] h res := by
  unfold F_235_0 at hf
  refine Ex.seg 1 (pc' := 1) (lc' := [some (.ref 5), some (.int x1), some (.int x2), some (.int x3), some (.int x4), some (.int x5), none]) (st' := [.int x1]) (h' := h) (sg1 rfl rfl rfl) ?_
  refine Ex.ifc rfl rfl (fun (c0 : x1 < 0) => ?_) (fun (c0 : ¬ (x1 < 0)) => ?_)
  · rw [if_pos c0] at hf
    exact Ex.weak (sm_le_n (sm_le_n (sm_le_n (sm_le_n (sm_le_n (sm_le_n (sm_le_s sm_le_nil))))))) (B_235_24 hd  hf hs)
  · rw [if_neg c0] at hf
    refine Ex.seg 3 (pc' := 9) (lc' := [some (.ref 5), some (.int x1), some (.int x2), some (.int x3), some (.int x4), some (.int x5), none]) (st' := [.int (h.1 5 4), .int x1]) (h' := h) (sg1 rfl rfl (sg1 rfl rfl (sg1 rfl rfl rfl))) ?_
    refine Ex.icmp rfl rfl (fun (c0 : (h.1 5 4) ≤ x1) => ?_) (fun (c0 : ¬ ((h.1 5 4) ≤ x1)) => ?_)
    · rw [if_pos c0] at hf
      exact Ex.weak (sm_le_n (sm_le_n (sm_le_n (sm_le_n (sm_le_n (sm_le_n (sm_le_s sm_le_nil))))))) (B_235_24 hd  hf hs)
    · rw [if_neg c0] at hf
      refine Ex.seg 1 (pc' := 13) (lc' := [some (.ref 5), some (.int x1), some (.int x2), some (.int x3), some (.int x4), some (.int x5), none]) (st' := [.int x3]) (h' := h) (sg1 rfl rfl rfl) ?_
      refine Ex.ifc rfl rfl (fun (c0 : x3 < 0) => ?_) (fun (c0 : ¬ (x3 < 0)) => ?_)
      · rw [if_pos c0] at hf
        exact Ex.weak (sm_le_n (sm_le_n (sm_le_n (sm_le_n (sm_le_n (sm_le_n (sm_le_s sm_le_nil))))))) (B_235_24 hd  hf hs)
      · rw [if_neg c0] at hf
        refine Ex.seg 3 (pc' := 21) (lc' := [some (.ref 5), some (.int x1), some (.int x2), some (.int x3), some (.int x4), some (.int x5), none]) (st' := [.int (h.1 5 4), .int x3]) (h' := h) (sg1 rfl rfl (sg1 rfl rfl (sg1 rfl rfl rfl))) ?_
        refine Ex.icmp rfl rfl (fun (c0 : x3 < (h.1 5 4)) => ?_) (fun (c0 : ¬ (x3 < (h.1 5 4))) => ?_)
        · rw [if_pos c0] at hf
          refine Ex.seg 1 (pc' := 27) (lc' := [some (.ref 5), some (.int x1), some (.int x2), some (.int x3), some (.int x4), some (.int x5), none]) (st' := [.int x2]) (h' := h) (sg1 rfl rfl rfl) ?_
          refine Ex.ifc rfl rfl (fun (c0 : x2 < 0) => ?_) (fun (c0 : ¬ (x2 < 0)) => ?_)
          · rw [if_pos c0] at hf
            exact Ex.weak (sm_le_n (sm_le_n (sm_le_n (sm_le_n (sm_le_n (sm_le_n (sm_le_s sm_le_nil))))))) (B_235_40 hd  hf hs)
          · rw [if_neg c0] at hf
            refine Ex.seg 1 (pc' := 32) (lc' := [some (.ref 5), some (.int x1), some (.int x2), some (.int x3), some (.int x4), some (.int x5), none]) (st' := [.int x4]) (h' := h) (sg1 rfl rfl rfl) ?_
            refine Ex.ifc rfl rfl (fun (c0 : x4 < 0) => ?_) (fun (c0 : ¬ (x4 < 0)) => ?_)
            · rw [if_pos c0] at hf
              exact Ex.weak (sm_le_n (sm_le_n (sm_le_n (sm_le_n (sm_le_n (sm_le_n (sm_le_s sm_le_nil))))))) (B_235_40 hd  hf hs)
            · rw [if_neg c0] at hf
              refine Ex.seg 1 (pc' := 37) (lc' := [some (.ref 5), some (.int x1), some (.int x2), some (.int x3), some (.int x4), some (.int x5), none]) (st' := [.int x5]) (h' := h) (sg1 rfl rfl rfl) ?_
              refine Ex.ifc rfl rfl (fun (c0 : 0 ≤ x5) => ?_) (fun (c0 : ¬ (0 ≤ x5)) => ?_)
              · rw [if_pos c0] at hf
                refine Ex.seg 6 (pc' := 51) (lc' := [some (.ref 5), some (.int x1), some (.int x2), some (.int x3), some (.int x4), some (.int x5), none]) (st' := [.int x1, .ref 7, .int (x2 + x5)]) (h' := h) (sg1 rfl rfl (sg1 rfl rfl (sg1 rfl rfl (sg1 rfl rfl (sg1 rfl rfl (sg1 rfl rfl rfl)))))) ?_
                obtain ⟨v4, e_v4, hf⟩ := bnd hf
                refine Ex.iald e_v4 rfl rfl ?_
                refine Ex.icmp rfl rfl (fun (c0 : v4 < (x2 + x5)) => ?_) (fun (c0 : ¬ (v4 < (x2 + x5))) => ?_)
                · rw [if_pos c0] at hf
                  exact Ex.weak (sm_le_n (sm_le_n (sm_le_n (sm_le_n (sm_le_n (sm_le_n (sm_le_s sm_le_nil))))))) (B_235_69 hd  hf hs)
                · rw [if_neg c0] at hf
                  refine Ex.seg 6 (pc' := 65) (lc' := [some (.ref 5), some (.int x1), some (.int x2), some (.int x3), some (.int x4), some (.int x5), none]) (st' := [.int x3, .ref 7, .int (x4 + x5)]) (h' := h) (sg1 rfl rfl (sg1 rfl rfl (sg1 rfl rfl (sg1 rfl rfl (sg1 rfl rfl (sg1 rfl rfl rfl)))))) ?_
                  obtain ⟨v5, e_v5, hf⟩ := bnd hf
                  refine Ex.iald e_v5 rfl rfl ?_
                  refine Ex.icmp rfl rfl (fun (c0 : (x4 + x5) ≤ v5) => ?_) (fun (c0 : ¬ ((x4 + x5) ≤ v5)) => ?_)
                  · rw [if_pos c0] at hf
                    refine Ex.seg 2 (pc' := 74) (lc' := [some (.ref 5), some (.int x1), some (.int x2), some (.int x3), some (.int x4), some (.int x5), some (.int 0)]) (st' := []) (h' := h) (sg1 rfl rfl (sg1 rfl rfl rfl)) ?_
                    exact Ex.weak (sm_le_s (sm_le_s (sm_le_s (sm_le_s (sm_le_s (sm_le_s (sm_le_s sm_le_nil))))))) (B_235_74 hd  hf hs)
                  · rw [if_neg c0] at hf
                    exact Ex.weak (sm_le_n (sm_le_n (sm_le_n (sm_le_n (sm_le_n (sm_le_n (sm_le_s sm_le_nil))))))) (B_235_69 hd  hf hs)
              · rw [if_neg c0] at hf
                exact Ex.weak (sm_le_n (sm_le_n (sm_le_n (sm_le_n (sm_le_n (sm_le_n (sm_le_s sm_le_nil))))))) (B_235_40 hd  hf hs)
        · rw [if_neg c0] at hf
          exact Ex.weak (sm_le_n (sm_le_n (sm_le_n (sm_le_n (sm_le_n (sm_le_n (sm_le_s sm_le_nil))))))) (B_235_24 hd  hf hs)
theorem E_235 {L : Nat} {xs : Nat → Int32} {d : Nat} (hd : 1 ≤ d) {x1 : Int32} {x2 : Int32} {x3 : Int32} {x4 : Int32} {x5 : Int32} {h : sm_H} {r : Int32 × sm_H} (hf : F_235 x1 x2 x3 x4 x5 h = some r) : RUN L xs d 235 [.ref 5, .int x1, .int x2, .int x3, .int x4, .int x5] h (some (.int r.1), r.2) := by
  obtain ⟨d, rfl⟩ : ∃ e, d = e + 1 := ⟨d - 1, by omega⟩
  exact ⟨Nat.le_of_ble_eq_true rfl, B_235_0 (by omega) hf rfl⟩
theorem B_238_46 {L : Nat} {xs : Nat → Int32} {d : Nat} (hd : 0 ≤ d) {res : Option Value × sm_H}   {h : sm_H} {r : (sm_H)} (hf : F_238_46  h = some r) (hs : (fun (r : sm_H) => res = (none, r)) r) : Ex (P_G L xs) (RUN L xs d) (sm_lk P_t238) 0 46 [none, none, none, none] [] h res := by
  unfold F_238_46 at hf
  obtain rfl := Option.some.inj hf
  exact Ex.vret rfl rfl hs
theorem B_238_2B {L : Nat} {xs : Nat → Int32} {d : Nat} (hd : 0 ≤ d) {res : Option Value × sm_H} {S1 : (Int32 × Int32 × Int32 × sm_H) → Prop} (hS1 : ∀ s, S1 s → Ex (P_G L xs) (RUN L xs d) (sm_lk P_t238) 0 2 [some (.ref 52), some (.int s.1), some (.int s.2.1), some (.int s.2.2.1)] [] s.2.2.2 res) {s : (Int32 × Int32 × Int32 × sm_H)}  {r : ((Int32 × Int32 × Int32 × sm_H) ⊕ (sm_H))} (hf : F_238_2B s = some r) (hs : (Sum.elim S1 (fun (r : sm_H) => res = (none, r))) r) : Ex (P_G L xs) (RUN L xs d) (sm_lk P_t238) 0 2 [some (.ref 52), some (.int s.1), some (.int s.2.1), some (.int s.2.2.1)] [] s.2.2.2 res := by
  unfold F_238_2B at hf
  refine Ex.seg 2 (pc' := 4) (lc' := [some (.ref 52), some (.int s.1), some (.int s.2.1), some (.int s.2.2.1)]) (st' := [.int 4, .int s.2.2.1]) (h' := s.2.2.2) (sg1 rfl rfl (sg1 rfl rfl rfl)) ?_
  refine Ex.icmp rfl rfl (fun (c0 : 4 ≤ s.2.2.1) => ?_) (fun (c0 : ¬ (4 ≤ s.2.2.1)) => ?_)
  · rw [if_pos c0] at hf
    obtain ⟨r0, hf0, rfl⟩ := Option.map_eq_some_iff.mp hf
    exact Ex.weak (sm_le_n (sm_le_n (sm_le_n (sm_le_n sm_le_nil)))) (B_238_46 hd  hf0 hs)
  · rw [if_neg c0] at hf
    refine Ex.seg 1 (pc' := 8) (lc' := [some (.ref 52), some (.int s.1), some (.int s.2.1), some (.int s.2.2.1)]) (st' := [.int s.1]) (h' := s.2.2.2) (sg1 rfl rfl rfl) ?_
    refine Ex.ifc rfl rfl (fun (c0 : s.1 < 0) => ?_) (fun (c0 : ¬ (s.1 < 0)) => ?_)
    · rw [if_pos c0] at hf
      obtain ⟨r0, hf0, rfl⟩ := Option.map_eq_some_iff.mp hf
      exact Ex.weak (sm_le_n (sm_le_n (sm_le_n (sm_le_n sm_le_nil)))) (B_238_46 hd  hf0 hs)
    · rw [if_neg c0] at hf
      refine Ex.seg 4 (pc' := 16) (lc' := [some (.ref 52), some (.int s.1), some (.int s.2.1), some (.int s.2.2.1)]) (st' := [.int 20, .int (s.1 + s.2.2.1)]) (h' := s.2.2.2) (sg1 rfl rfl (sg1 rfl rfl (sg1 rfl rfl (sg1 rfl rfl rfl)))) ?_
      refine Ex.icmp rfl rfl (fun (c0 : 20 ≤ (s.1 + s.2.2.1)) => ?_) (fun (c0 : ¬ (20 ≤ (s.1 + s.2.2.1))) => ?_)
      · rw [if_pos c0] at hf
        obtain ⟨r0, hf0, rfl⟩ := Option.map_eq_some_iff.mp hf
        exact Ex.weak (sm_le_n (sm_le_n (sm_le_n (sm_le_n sm_le_nil)))) (B_238_46 hd  hf0 hs)
      · rw [if_neg c0] at hf
        refine Ex.seg 14 (pc' := 39) (lc' := [some (.ref 52), some (.int s.1), some (.int s.2.1), some (.int s.2.2.1)]) (st' := [.int ((Int32.toUInt32 s.2.1 >>> (Int32.toUInt32 (24 - (8 * s.2.2.1)) &&& Int32.toUInt32 31)).toInt32 &&& 255), .int (s.1 + s.2.2.1), .ref 54]) (h' := s.2.2.2) (sg1 rfl rfl (sg1 rfl rfl (sg1 rfl rfl (sg1 rfl rfl (sg1 rfl rfl (sg1 rfl rfl (sg1 rfl rfl (sg1 rfl rfl (sg1 rfl rfl (sg1 rfl rfl (sg1 rfl rfl (sg1 rfl rfl (sg1 rfl rfl (sg1 rfl rfl rfl)))))))))))))) ?_
        obtain ⟨h1, e_h1, hf⟩ := bnd hf
        refine Ex.iast e_h1 rfl rfl ?_
        refine Ex.seg 1 (pc' := 43) (lc' := [some (.ref 52), some (.int s.1), some (.int s.2.1), some (.int (s.2.2.1 + 1))]) (st' := []) (h' := h1) (sg1 rfl rfl rfl) ?_
        obtain ⟨v2, e_v2, hf⟩ := bnd hf
        rw [Option.some.inj e_v2]
        refine Ex.seg 1 (pc' := 2) (lc' := [some (.ref 52), some (.int s.1), some (.int s.2.1), some (.int v2)]) (st' := []) (h' := h1) (sg1 rfl rfl rfl) ?_
        obtain rfl := Option.some.inj hf
        exact Ex.weak (sm_le_s (sm_le_s (sm_le_s (sm_le_s sm_le_nil)))) (hS1 _ hs)
theorem B_238_2 {L : Nat} {xs : Nat → Int32} {d : Nat} (hd : 0 ≤ d) {res : Option Value × sm_H} {y1 : Int32} {y2 : Int32} {y3 : Int32}  {h : sm_H} {r : (sm_H)} (hf : F_238_2 y1 y2 y3 h = some r) (hs : (fun (r : sm_H) => res = (none, r)) r) : Ex (P_G L xs) (RUN L xs d) (sm_lk P_t238) 0 2 [some (.ref 52), some (.int y1), some (.int y2), some (.int y3)] [] h res := by
  unfold F_238_2 at hf
  exact lp_ok (P := fun (s : (Int32 × Int32 × Int32 × sm_H)) => Ex (P_G L xs) (RUN L xs d) (sm_lk P_t238) 0 2 [some (.ref 52), some (.int s.1), some (.int s.2.1), some (.int s.2.2.1)] [] s.2.2.2 res) (S := (fun (r : sm_H) => res = (none, r))) (fun s x hx hsx => by
    intros
    exact B_238_2B hd  (fun _ q => q) hx hsx) 1000000 _ r hf hs
theorem B_238_0 {L : Nat} {xs : Nat → Int32} {d : Nat} (hd : 0 ≤ d) {res : Option Value × sm_H} {x1 : Int32} {x2 : Int32}  {h : sm_H} {r : (sm_H)} (hf : F_238_0 x1 x2 h = some r) (hs : (fun (r : sm_H) => res = (none, r)) r) : Ex (P_G L xs) (RUN L xs d) (sm_lk P_t238) 0 0 [some (.ref 52), some (.int x1), some (.int x2), none] [] h res := by
  unfold F_238_0 at hf
  refine Ex.seg 2 (pc' := 2) (lc' := [some (.ref 52), some (.int x1), some (.int x2), some (.int 0)]) (st' := []) (h' := h) (sg1 rfl rfl (sg1 rfl rfl rfl)) ?_
  exact Ex.weak (sm_le_s (sm_le_s (sm_le_s (sm_le_s sm_le_nil)))) (B_238_2 hd  hf hs)
theorem E_238 {L : Nat} {xs : Nat → Int32} {d : Nat} (hd : 1 ≤ d) {x1 : Int32} {x2 : Int32} {h : sm_H} {r : sm_H} (hf : F_238 x1 x2 h = some r) : RUN L xs d 238 [.ref 52, .int x1, .int x2] h (none, r) := by
  obtain ⟨d, rfl⟩ : ∃ e, d = e + 1 := ⟨d - 1, by omega⟩
  exact ⟨Nat.le_of_ble_eq_true rfl, B_238_0 (by omega) hf rfl⟩
theorem B_239_72 {L : Nat} {xs : Nat → Int32} {d : Nat} (hd : 0 ≤ d) {res : Option Value × sm_H} {S1 : (Int32 × Int32 × sm_H) → Prop} (hS1 : ∀ s, S1 s → Ex (P_G L xs) (RUN L xs d) (sm_lk P_t239) 0 26 [some (.ref 52), some (.int s.1), some (.int s.2.1)] [] s.2.2 res) {y1 : Int32} {y2 : Int32}  {h : sm_H} {r : ((Int32 × Int32 × sm_H) ⊕ (Int32 × sm_H))} (hf : F_239_72 y1 y2 h = some r) (hs : (Sum.elim S1 (fun (r : Int32 × sm_H) => res = (some (.int r.1), r.2))) r) : Ex (P_G L xs) (RUN L xs d) (sm_lk P_t239) 0 72 [some (.ref 52), some (.int y1), some (.int y2)] [] h res := by
  unfold F_239_72 at hf
  refine Ex.seg 4 (pc' := 78) (lc' := [some (.ref 52), some (.int y1), some (.int y2)]) (st' := [.int 0, .int y2, .ref 54]) (h' := h) (sg1 rfl rfl (sg1 rfl rfl (sg1 rfl rfl (sg1 rfl rfl rfl)))) ?_
  obtain ⟨h1, e_h1, hf⟩ := bnd hf
  refine Ex.iast e_h1 rfl rfl ?_
  refine Ex.seg 1 (pc' := 82) (lc' := [some (.ref 52), some (.int y1), some (.int (y2 + 1))]) (st' := []) (h' := h1) (sg1 rfl rfl rfl) ?_
  obtain ⟨v2, e_v2, hf⟩ := bnd hf
  rw [Option.some.inj e_v2]
  refine Ex.seg 1 (pc' := 26) (lc' := [some (.ref 52), some (.int y1), some (.int v2)]) (st' := []) (h' := h1) (sg1 rfl rfl rfl) ?_
  obtain rfl := Option.some.inj hf
  exact Ex.weak (sm_le_s (sm_le_s (sm_le_s sm_le_nil))) (hS1 _ hs)
theorem B_239_26B {L : Nat} {xs : Nat → Int32} {d : Nat} (hd : 0 ≤ d) {res : Option Value × sm_H} {S1 : (Int32 × Int32 × sm_H) → Prop} (hS1 : ∀ s, S1 s → Ex (P_G L xs) (RUN L xs d) (sm_lk P_t239) 0 26 [some (.ref 52), some (.int s.1), some (.int s.2.1)] [] s.2.2 res) {s : (Int32 × Int32 × sm_H)}  {r : ((Int32 × Int32 × sm_H) ⊕ (Int32 × sm_H))} (hf : F_239_26B s = some r) (hs : (Sum.elim S1 (fun (r : Int32 × sm_H) => res = (some (.int r.1), r.2))) r) : Ex (P_G L xs) (RUN L xs d) (sm_lk P_t239) 0 26 [some (.ref 52), some (.int s.1), some (.int s.2.1)] [] s.2.2 res := by
  unfold F_239_26B at hf
  refine Ex.seg 2 (pc' := 29) (lc' := [some (.ref 52), some (.int s.1), some (.int s.2.1)]) (st' := [.int 20, .int s.2.1]) (h' := s.2.2) (sg1 rfl rfl (sg1 rfl rfl rfl)) ?_
  refine Ex.icmp rfl rfl (fun (c0 : 20 ≤ s.2.1) => ?_) (fun (c0 : ¬ (20 ≤ s.2.1)) => ?_)
  · rw [if_pos c0] at hf
    refine Ex.seg 2 (pc' := 89) (lc' := [some (.ref 52), some (.int s.1), some (.int s.2.1)]) (st' := [.int (s.2.2.1 52 1)]) (h' := s.2.2) (sg1 rfl rfl (sg1 rfl rfl rfl)) ?_
    obtain rfl := Option.some.inj hf
    exact Ex.iret rfl rfl (fun c0 => by cases c0) hs
  · rw [if_neg c0] at hf
    refine Ex.seg 2 (pc' := 34) (lc' := [some (.ref 52), some (.int s.1), some (.int s.2.1)]) (st' := [.int s.1, .int s.2.1]) (h' := s.2.2) (sg1 rfl rfl (sg1 rfl rfl rfl)) ?_
    refine Ex.icmp rfl rfl (fun (c0 : s.1 ≤ s.2.1) => ?_) (fun (c0 : ¬ (s.1 ≤ s.2.1)) => ?_)
    · rw [if_pos c0] at hf
      exact Ex.weak (sm_le_s (sm_le_s (sm_le_s sm_le_nil))) (B_239_72 hd hS1 hf hs)
    · rw [if_neg c0] at hf
      refine Ex.seg 3 (pc' := 44) (lc' := [some (.ref 52), some (.int s.1), some (.int s.2.1)]) (st' := [.int 3000, .int (s.2.2.1 52 1)]) (h' := s.2.2) (sg1 rfl rfl (sg1 rfl rfl (sg1 rfl rfl rfl))) ?_
      refine Ex.icmp rfl rfl (fun (c0 : 3000 ≤ (s.2.2.1 52 1)) => ?_) (fun (c0 : ¬ (3000 ≤ (s.2.2.1 52 1))) => ?_)
      · rw [if_pos c0] at hf
        exact Ex.weak (sm_le_s (sm_le_s (sm_le_s sm_le_nil))) (B_239_72 hd hS1 hf hs)
      · rw [if_neg c0] at hf
        refine Ex.seg 7 (pc' := 60) (lc' := [some (.ref 52), some (.int s.1), some (.int s.2.1)]) (st' := [.int s.2.1, .ref 54, .int (s.2.2.1 52 1), .ref 53]) (h' := s.2.2) (sg1 rfl rfl (sg1 rfl rfl (sg1 rfl rfl (sg1 rfl rfl (sg1 rfl rfl (sg1 rfl rfl (sg1 rfl rfl rfl))))))) ?_
        obtain ⟨v3, e_v3, hf⟩ := bnd hf
        refine Ex.iald e_v3 rfl rfl ?_
        obtain ⟨h4, e_h4, hf⟩ := bnd hf
        refine Ex.iast e_h4 rfl rfl ?_
        refine Ex.seg 6 (pc' := 72) (lc' := [some (.ref 52), some (.int s.1), some (.int s.2.1)]) (st' := []) (h' := (sm_wI h4 52 1 ((h4.1 52 1) + 1))) (sg1 rfl rfl (sg1 rfl rfl (sg1 rfl rfl (sg1 rfl rfl (sg1 rfl rfl (sg1 rfl rfl rfl)))))) ?_
        obtain ⟨h5, e_h5, hf⟩ := bnd hf
        rw [Option.some.inj e_h5]
        exact Ex.weak (sm_le_s (sm_le_s (sm_le_s sm_le_nil))) (B_239_72 hd hS1 hf hs)
theorem B_239_26 {L : Nat} {xs : Nat → Int32} {d : Nat} (hd : 0 ≤ d) {res : Option Value × sm_H} {y1 : Int32} {y2 : Int32}  {h : sm_H} {r : (Int32 × sm_H)} (hf : F_239_26 y1 y2 h = some r) (hs : (fun (r : Int32 × sm_H) => res = (some (.int r.1), r.2)) r) : Ex (P_G L xs) (RUN L xs d) (sm_lk P_t239) 0 26 [some (.ref 52), some (.int y1), some (.int y2)] [] h res := by
  unfold F_239_26 at hf
  exact lp_ok (P := fun (s : (Int32 × Int32 × sm_H)) => Ex (P_G L xs) (RUN L xs d) (sm_lk P_t239) 0 26 [some (.ref 52), some (.int s.1), some (.int s.2.1)] [] s.2.2 res) (S := (fun (r : Int32 × sm_H) => res = (some (.int r.1), r.2))) (fun s x hx hsx => by
    intros
    exact B_239_26B hd  (fun _ q => q) hx hsx) 1000000 _ r hf hs
theorem B_239_22 {L : Nat} {xs : Nat → Int32} {d : Nat} (hd : 0 ≤ d) {res : Option Value × sm_H}   {h : sm_H} {r : (Int32 × sm_H)} (hf : F_239_22  h = some r) (hs : (fun (r : Int32 × sm_H) => res = (some (.int r.1), r.2)) r) : Ex (P_G L xs) (RUN L xs d) (sm_lk P_t239) 0 22 [none, none, none] [] h res := by
  unfold F_239_22 at hf
  refine Ex.seg 1 (pc' := 23) (lc' := [none, none, none]) (st' := [.int (-1)]) (h' := h) (sg1 rfl rfl rfl) ?_
  obtain rfl := Option.some.inj hf
  exact Ex.iret rfl rfl (fun c0 => by cases c0) hs
theorem B_239_0 {L : Nat} {xs : Nat → Int32} {d : Nat} (hd : 0 ≤ d) {res : Option Value × sm_H} {x1 : Int32}  {h : sm_H} {r : (Int32 × sm_H)} (hf : F_239_0 x1 h = some r) (hs : (fun (r : Int32 × sm_H) => res = (some (.int r.1), r.2)) r) : Ex (P_G L xs) (RUN L xs d) (sm_lk P_t239) 0 0 [some (.ref 52), some (.int x1), none] [] h res := by
  unfold F_239_0 at hf
  refine Ex.seg 1 (pc' := 1) (lc' := [some (.ref 52), some (.int x1), none]) (st' := [.int x1]) (h' := h) (sg1 rfl rfl rfl) ?_
  refine Ex.ifc rfl rfl (fun (c0 : x1 < 0) => ?_) (fun (c0 : ¬ (x1 < 0)) => ?_)
  · rw [if_pos c0] at hf
    exact Ex.weak (sm_le_n (sm_le_n (sm_le_s sm_le_nil))) (B_239_22 hd  hf hs)
  · rw [if_neg c0] at hf
    refine Ex.seg 2 (pc' := 7) (lc' := [some (.ref 52), some (.int x1), none]) (st' := [.int 20, .int x1]) (h' := h) (sg1 rfl rfl (sg1 rfl rfl rfl)) ?_
    refine Ex.icmp rfl rfl (fun (c0 : 20 < x1) => ?_) (fun (c0 : ¬ (20 < x1)) => ?_)
    · rw [if_pos c0] at hf
      exact Ex.weak (sm_le_n (sm_le_n (sm_le_s sm_le_nil))) (B_239_22 hd  hf hs)
    · rw [if_neg c0] at hf
      refine Ex.seg 5 (pc' := 19) (lc' := [some (.ref 52), some (.int x1), none]) (st' := [.int 3000, .int ((h.1 52 1) + x1)]) (h' := h) (sg1 rfl rfl (sg1 rfl rfl (sg1 rfl rfl (sg1 rfl rfl (sg1 rfl rfl rfl))))) ?_
      refine Ex.icmp rfl rfl (fun (c0 : ((h.1 52 1) + x1) ≤ 3000) => ?_) (fun (c0 : ¬ (((h.1 52 1) + x1) ≤ 3000)) => ?_)
      · rw [if_pos c0] at hf
        refine Ex.seg 2 (pc' := 26) (lc' := [some (.ref 52), some (.int x1), some (.int 0)]) (st' := []) (h' := h) (sg1 rfl rfl (sg1 rfl rfl rfl)) ?_
        exact Ex.weak (sm_le_s (sm_le_s (sm_le_s sm_le_nil))) (B_239_26 hd  hf hs)
      · rw [if_neg c0] at hf
        exact Ex.weak (sm_le_n (sm_le_n (sm_le_s sm_le_nil))) (B_239_22 hd  hf hs)
theorem E_239 {L : Nat} {xs : Nat → Int32} {d : Nat} (hd : 1 ≤ d) {x1 : Int32} {h : sm_H} {r : Int32 × sm_H} (hf : F_239 x1 h = some r) : RUN L xs d 239 [.ref 52, .int x1] h (some (.int r.1), r.2) := by
  obtain ⟨d, rfl⟩ : ∃ e, d = e + 1 := ⟨d - 1, by omega⟩
  exact ⟨Nat.le_of_ble_eq_true rfl, B_239_0 (by omega) hf rfl⟩
theorem B_240_0 {L : Nat} {xs : Nat → Int32} {d : Nat} (hd : 0 ≤ d) {res : Option Value × sm_H}   {h : sm_H} {r : (sm_H)} (hf : F_240_0  h = some r) (hs : (fun (r : sm_H) => res = (none, r)) r) : Ex (P_G L xs) (RUN L xs d) (sm_lk P_t240) 0 0 [some (.ref 52)] [] h res := by
  unfold F_240_0 at hf
  refine Ex.seg 3 (pc' := 5) (lc' := [some (.ref 52)]) (st' := []) (h' := (sm_wI h 52 3 0)) (sg1 rfl rfl (sg1 rfl rfl (sg1 rfl rfl rfl))) ?_
  obtain ⟨h1, e_h1, hf⟩ := bnd hf
  rw [Option.some.inj e_h1]
  obtain rfl := Option.some.inj hf
  exact Ex.vret rfl rfl hs
theorem E_240 {L : Nat} {xs : Nat → Int32} {d : Nat} (hd : 1 ≤ d)  {h : sm_H} {r : sm_H} (hf : F_240  h = some r) : RUN L xs d 240 [.ref 52] h (none, r) := by
  obtain ⟨d, rfl⟩ : ∃ e, d = e + 1 := ⟨d - 1, by omega⟩
  exact ⟨Nat.le_of_ble_eq_true rfl, B_240_0 (by omega) hf rfl⟩
theorem B_241_0 {L : Nat} {xs : Nat → Int32} {d : Nat} (hd : 0 ≤ d) {res : Option Value × sm_H}   {h : sm_H} {r : (sm_H)} (hf : F_241_0  h = some r) (hs : (fun (r : sm_H) => res = (none, r)) r) : Ex (P_G L xs) (RUN L xs d) (sm_lk P_t241) 0 0 [some (.ref 52)] [] h res := by
  unfold F_241_0 at hf
  refine Ex.seg 3 (pc' := 5) (lc' := [some (.ref 52)]) (st' := []) (h' := (sm_wI h 52 1 0)) (sg1 rfl rfl (sg1 rfl rfl (sg1 rfl rfl rfl))) ?_
  obtain ⟨h1, e_h1, hf⟩ := bnd hf
  rw [Option.some.inj e_h1]
  obtain rfl := Option.some.inj hf
  exact Ex.vret rfl rfl hs
theorem E_241 {L : Nat} {xs : Nat → Int32} {d : Nat} (hd : 1 ≤ d)  {h : sm_H} {r : sm_H} (hf : F_241  h = some r) : RUN L xs d 241 [.ref 52] h (none, r) := by
  obtain ⟨d, rfl⟩ : ∃ e, d = e + 1 := ⟨d - 1, by omega⟩
  exact ⟨Nat.le_of_ble_eq_true rfl, B_241_0 (by omega) hf rfl⟩
theorem B_242_0 {L : Nat} {xs : Nat → Int32} {d : Nat} (hd : 0 ≤ d) {res : Option Value × sm_H}   {h : sm_H} {r : (Int32 × sm_H)} (hf : F_242_0  h = some r) (hs : (fun (r : Int32 × sm_H) => res = (some (.int r.1), r.2)) r) : Ex (P_G L xs) (RUN L xs d) (sm_lk P_t242) 0 0 [some (.ref 52)] [] h res := by
  unfold F_242_0 at hf
  refine Ex.seg 2 (pc' := 4) (lc' := [some (.ref 52)]) (st' := [.int (h.1 52 4)]) (h' := h) (sg1 rfl rfl (sg1 rfl rfl rfl)) ?_
  obtain rfl := Option.some.inj hf
  exact Ex.iret rfl rfl (fun c0 => by cases c0) hs
theorem E_242 {L : Nat} {xs : Nat → Int32} {d : Nat} (hd : 1 ≤ d)  {h : sm_H} {r : Int32 × sm_H} (hf : F_242  h = some r) : RUN L xs d 242 [.ref 52] h (some (.int r.1), r.2) := by
  obtain ⟨d, rfl⟩ : ∃ e, d = e + 1 := ⟨d - 1, by omega⟩
  exact ⟨Nat.le_of_ble_eq_true rfl, B_242_0 (by omega) hf rfl⟩
theorem B_243_0 {L : Nat} {xs : Nat → Int32} {d : Nat} (hd : 0 ≤ d) {res : Option Value × sm_H}   {h : sm_H} {r : (Int32 × sm_H)} (hf : F_243_0  h = some r) (hs : (fun (r : Int32 × sm_H) => res = (some (.int r.1), r.2)) r) : Ex (P_G L xs) (RUN L xs d) (sm_lk P_t243) 0 0 [some (.ref 52)] [] h res := by
  unfold F_243_0 at hf
  refine Ex.seg 2 (pc' := 4) (lc' := [some (.ref 52)]) (st' := [.int (h.1 52 5)]) (h' := h) (sg1 rfl rfl (sg1 rfl rfl rfl)) ?_
  obtain rfl := Option.some.inj hf
  exact Ex.iret rfl rfl (fun c0 => by cases c0) hs
theorem E_243 {L : Nat} {xs : Nat → Int32} {d : Nat} (hd : 1 ≤ d)  {h : sm_H} {r : Int32 × sm_H} (hf : F_243  h = some r) : RUN L xs d 243 [.ref 52] h (some (.int r.1), r.2) := by
  obtain ⟨d, rfl⟩ : ∃ e, d = e + 1 := ⟨d - 1, by omega⟩
  exact ⟨Nat.le_of_ble_eq_true rfl, B_243_0 (by omega) hf rfl⟩
theorem B_244_0 {L : Nat} {xs : Nat → Int32} {d : Nat} (hd : 0 ≤ d) {res : Option Value × sm_H}   {h : sm_H} {r : (Int32 × sm_H)} (hf : F_244_0  h = some r) (hs : (fun (r : Int32 × sm_H) => res = (some (.int r.1), r.2)) r) : Ex (P_G L xs) (RUN L xs d) (sm_lk P_t244) 0 0 [some (.ref 52)] [] h res := by
  unfold F_244_0 at hf
  refine Ex.seg 2 (pc' := 4) (lc' := [some (.ref 52)]) (st' := [.int (h.1 52 6)]) (h' := h) (sg1 rfl rfl (sg1 rfl rfl rfl)) ?_
  obtain rfl := Option.some.inj hf
  exact Ex.iret rfl rfl (fun c0 => by cases c0) hs
theorem E_244 {L : Nat} {xs : Nat → Int32} {d : Nat} (hd : 1 ≤ d)  {h : sm_H} {r : Int32 × sm_H} (hf : F_244  h = some r) : RUN L xs d 244 [.ref 52] h (some (.int r.1), r.2) := by
  obtain ⟨d, rfl⟩ : ∃ e, d = e + 1 := ⟨d - 1, by omega⟩
  exact ⟨Nat.le_of_ble_eq_true rfl, B_244_0 (by omega) hf rfl⟩
theorem B_245_0 {L : Nat} {xs : Nat → Int32} {d : Nat} (hd : 0 ≤ d) {res : Option Value × sm_H}   {h : sm_H} {r : (Int32 × sm_H)} (hf : F_245_0  h = some r) (hs : (fun (r : Int32 × sm_H) => res = (some (.int r.1), r.2)) r) : Ex (P_G L xs) (RUN L xs d) (sm_lk P_t245) 0 0 [some (.ref 52)] [] h res := by
  unfold F_245_0 at hf
  refine Ex.seg 2 (pc' := 4) (lc' := [some (.ref 52)]) (st' := [.int (h.1 52 7)]) (h' := h) (sg1 rfl rfl (sg1 rfl rfl rfl)) ?_
  obtain rfl := Option.some.inj hf
  exact Ex.iret rfl rfl (fun c0 => by cases c0) hs
theorem E_245 {L : Nat} {xs : Nat → Int32} {d : Nat} (hd : 1 ≤ d)  {h : sm_H} {r : Int32 × sm_H} (hf : F_245  h = some r) : RUN L xs d 245 [.ref 52] h (some (.int r.1), r.2) := by
  obtain ⟨d, rfl⟩ : ∃ e, d = e + 1 := ⟨d - 1, by omega⟩
  exact ⟨Nat.le_of_ble_eq_true rfl, B_245_0 (by omega) hf rfl⟩
theorem B_246_0 {L : Nat} {xs : Nat → Int32} {d : Nat} (hd : 0 ≤ d) {res : Option Value × sm_H}   {h : sm_H} {r : (Int64 × sm_H)} (hf : F_246_0  h = some r) (hs : (fun (r : Int64 × sm_H) => res = (some (.long r.1), r.2)) r) : Ex (P_G L xs) (RUN L xs d) (sm_lk P_t246) 0 0 [some (.ref 52)] [] h res := by
  unfold F_246_0 at hf
  refine Ex.seg 2 (pc' := 4) (lc' := [some (.ref 52)]) (st' := [.long (h.2.1 52 8)]) (h' := h) (sg1 rfl rfl (sg1 rfl rfl rfl)) ?_
  obtain rfl := Option.some.inj hf
  exact Ex.lret rfl rfl hs
theorem E_246 {L : Nat} {xs : Nat → Int32} {d : Nat} (hd : 1 ≤ d)  {h : sm_H} {r : Int64 × sm_H} (hf : F_246  h = some r) : RUN L xs d 246 [.ref 52] h (some (.long r.1), r.2) := by
  obtain ⟨d, rfl⟩ : ∃ e, d = e + 1 := ⟨d - 1, by omega⟩
  exact ⟨Nat.le_of_ble_eq_true rfl, B_246_0 (by omega) hf rfl⟩
theorem B_247_0 {L : Nat} {xs : Nat → Int32} {d : Nat} (hd : 0 ≤ d) {res : Option Value × sm_H}   {h : sm_H} {r : (Int32 × sm_H)} (hf : F_247_0  h = some r) (hs : (fun (r : Int32 × sm_H) => res = (some (.int r.1), r.2)) r) : Ex (P_G L xs) (RUN L xs d) (sm_lk P_t247) 0 0 [some (.ref 52)] [] h res := by
  unfold F_247_0 at hf
  refine Ex.seg 2 (pc' := 4) (lc' := [some (.ref 52)]) (st' := [.int (h.1 52 9)]) (h' := h) (sg1 rfl rfl (sg1 rfl rfl rfl)) ?_
  obtain rfl := Option.some.inj hf
  exact Ex.iret rfl rfl (fun c0 => by cases c0) hs
theorem E_247 {L : Nat} {xs : Nat → Int32} {d : Nat} (hd : 1 ≤ d)  {h : sm_H} {r : Int32 × sm_H} (hf : F_247  h = some r) : RUN L xs d 247 [.ref 52] h (some (.int r.1), r.2) := by
  obtain ⟨d, rfl⟩ : ∃ e, d = e + 1 := ⟨d - 1, by omega⟩
  exact ⟨Nat.le_of_ble_eq_true rfl, B_247_0 (by omega) hf rfl⟩
theorem B_248_0 {L : Nat} {xs : Nat → Int32} {d : Nat} (hd : 0 ≤ d) {res : Option Value × sm_H}   {h : sm_H} {r : (Int64 × sm_H)} (hf : F_248_0  h = some r) (hs : (fun (r : Int64 × sm_H) => res = (some (.long r.1), r.2)) r) : Ex (P_G L xs) (RUN L xs d) (sm_lk P_t248) 0 0 [some (.ref 52)] [] h res := by
  unfold F_248_0 at hf
  refine Ex.seg 2 (pc' := 4) (lc' := [some (.ref 52)]) (st' := [.long (h.2.1 52 10)]) (h' := h) (sg1 rfl rfl (sg1 rfl rfl rfl)) ?_
  obtain rfl := Option.some.inj hf
  exact Ex.lret rfl rfl hs
theorem E_248 {L : Nat} {xs : Nat → Int32} {d : Nat} (hd : 1 ≤ d)  {h : sm_H} {r : Int64 × sm_H} (hf : F_248  h = some r) : RUN L xs d 248 [.ref 52] h (some (.long r.1), r.2) := by
  obtain ⟨d, rfl⟩ : ∃ e, d = e + 1 := ⟨d - 1, by omega⟩
  exact ⟨Nat.le_of_ble_eq_true rfl, B_248_0 (by omega) hf rfl⟩
theorem B_250_29 {L : Nat} {xs : Nat → Int32} {d : Nat} (hd : 0 ≤ d) {res : Option Value × sm_H} {z0 : Int32}  {h : sm_H} {r : (Int32 × sm_H)} (hf : F_250_29 z0 h = some r) (hs : (fun (r : Int32 × sm_H) => res = (some (.int r.1), r.2)) r) : Ex (P_G L xs) (RUN L xs d) (sm_lk P_t250) 0 29 [none, none] [.int z0] h res := by
  unfold F_250_29 at hf
  obtain rfl := Option.some.inj hf
  exact Ex.iret rfl rfl (fun c0 => by cases c0) hs
theorem B_250_28 {L : Nat} {xs : Nat → Int32} {d : Nat} (hd : 0 ≤ d) {res : Option Value × sm_H}   {h : sm_H} {r : (Int32 × sm_H)} (hf : F_250_28  h = some r) (hs : (fun (r : Int32 × sm_H) => res = (some (.int r.1), r.2)) r) : Ex (P_G L xs) (RUN L xs d) (sm_lk P_t250) 0 28 [none, none] [] h res := by
  unfold F_250_28 at hf
  refine Ex.seg 1 (pc' := 29) (lc' := [none, none]) (st' := [.int (-1)]) (h' := h) (sg1 rfl rfl rfl) ?_
  exact Ex.weak (sm_le_s (sm_le_s sm_le_nil)) (B_250_29 hd  hf hs)
theorem B_250_0 {L : Nat} {xs : Nat → Int32} {d : Nat} (hd : 0 ≤ d) {res : Option Value × sm_H} {x1 : Int32}  {h : sm_H} {r : (Int32 × sm_H)} (hf : F_250_0 x1 h = some r) (hs : (fun (r : Int32 × sm_H) => res = (some (.int r.1), r.2)) r) : Ex (P_G L xs) (RUN L xs d) (sm_lk P_t250) 0 0 [some (.ref 52), some (.int x1)] [] h res := by
  unfold F_250_0 at hf
  refine Ex.seg 1 (pc' := 1) (lc' := [some (.ref 52), some (.int x1)]) (st' := [.int x1]) (h' := h) (sg1 rfl rfl rfl) ?_
  refine Ex.ifc rfl rfl (fun (c0 : x1 < 0) => ?_) (fun (c0 : ¬ (x1 < 0)) => ?_)
  · rw [if_pos c0] at hf
    exact Ex.weak (sm_le_n (sm_le_n sm_le_nil)) (B_250_28 hd  hf hs)
  · rw [if_neg c0] at hf
    refine Ex.seg 3 (pc' := 9) (lc' := [some (.ref 52), some (.int x1)]) (st' := [.int (h.1 52 1), .int x1]) (h' := h) (sg1 rfl rfl (sg1 rfl rfl (sg1 rfl rfl rfl))) ?_
    refine Ex.icmp rfl rfl (fun (c0 : (h.1 52 1) ≤ x1) => ?_) (fun (c0 : ¬ ((h.1 52 1) ≤ x1)) => ?_)
    · rw [if_pos c0] at hf
      exact Ex.weak (sm_le_n (sm_le_n sm_le_nil)) (B_250_28 hd  hf hs)
    · rw [if_neg c0] at hf
      refine Ex.seg 2 (pc' := 16) (lc' := [some (.ref 52), some (.int x1)]) (st' := [.int 3000, .int x1]) (h' := h) (sg1 rfl rfl (sg1 rfl rfl rfl)) ?_
      refine Ex.icmp rfl rfl (fun (c0 : 3000 ≤ x1) => ?_) (fun (c0 : ¬ (3000 ≤ x1)) => ?_)
      · rw [if_pos c0] at hf
        exact Ex.weak (sm_le_n (sm_le_n sm_le_nil)) (B_250_28 hd  hf hs)
      · rw [if_neg c0] at hf
        refine Ex.seg 3 (pc' := 24) (lc' := [some (.ref 52), some (.int x1)]) (st' := [.int x1, .ref 53]) (h' := h) (sg1 rfl rfl (sg1 rfl rfl (sg1 rfl rfl rfl))) ?_
        obtain ⟨v1, e_v1, hf⟩ := bnd hf
        refine Ex.iald e_v1 rfl rfl ?_
        refine Ex.seg 1 (pc' := 29) (lc' := [some (.ref 52), some (.int x1)]) (st' := [.int v1]) (h' := h) (sg1 rfl rfl rfl) ?_
        exact Ex.weak (sm_le_n (sm_le_n sm_le_nil)) (B_250_29 hd  hf hs)
theorem E_250 {L : Nat} {xs : Nat → Int32} {d : Nat} (hd : 1 ≤ d) {x1 : Int32} {h : sm_H} {r : Int32 × sm_H} (hf : F_250 x1 h = some r) : RUN L xs d 250 [.ref 52, .int x1] h (some (.int r.1), r.2) := by
  obtain ⟨d, rfl⟩ : ∃ e, d = e + 1 := ⟨d - 1, by omega⟩
  exact ⟨Nat.le_of_ble_eq_true rfl, B_250_0 (by omega) hf rfl⟩
theorem B_251_17 {L : Nat} {xs : Nat → Int32} {d : Nat} (hd : 0 ≤ d) {res : Option Value × sm_H} {z0 : Int32}  {h : sm_H} {r : (Int32 × sm_H)} (hf : F_251_17 z0 h = some r) (hs : (fun (r : Int32 × sm_H) => res = (some (.int r.1), r.2)) r) : Ex (P_G L xs) (RUN L xs d) (sm_lk P_t251) 3 17 [none, none] [.int z0] h res := by
  unfold F_251_17 at hf
  rcases Classical.em (z0 = 0 ∨ z0 = 1) with c0 | c0
  · rw [if_pos c0] at hf
    obtain rfl := Option.some.inj hf
    exact Ex.iret rfl rfl (fun _ => c0) hs
  · rw [if_neg c0] at hf
    cases hf
theorem B_251_16 {L : Nat} {xs : Nat → Int32} {d : Nat} (hd : 0 ≤ d) {res : Option Value × sm_H}   {h : sm_H} {r : (Int32 × sm_H)} (hf : F_251_16  h = some r) (hs : (fun (r : Int32 × sm_H) => res = (some (.int r.1), r.2)) r) : Ex (P_G L xs) (RUN L xs d) (sm_lk P_t251) 3 16 [none, none] [] h res := by
  unfold F_251_16 at hf
  refine Ex.seg 1 (pc' := 17) (lc' := [none, none]) (st' := [.int 0]) (h' := h) (sg1 rfl rfl rfl) ?_
  exact Ex.weak (sm_le_s (sm_le_s sm_le_nil)) (B_251_17 hd  hf hs)
theorem B_251_0 {L : Nat} {xs : Nat → Int32} {d : Nat} (hd : 0 ≤ d) {res : Option Value × sm_H} {x1 : Int32}  {h : sm_H} {r : (Int32 × sm_H)} (hf : F_251_0 x1 h = some r) (hs : (fun (r : Int32 × sm_H) => res = (some (.int r.1), r.2)) r) : Ex (P_G L xs) (RUN L xs d) (sm_lk P_t251) 3 0 [some (.ref 52), some (.int x1)] [] h res := by
  unfold F_251_0 at hf
  refine Ex.seg 2 (pc' := 3) (lc' := [some (.ref 52), some (.int x1)]) (st' := [.int 48, .int x1]) (h' := h) (sg1 rfl rfl (sg1 rfl rfl rfl)) ?_
  refine Ex.icmp rfl rfl (fun (c0 : x1 < 48) => ?_) (fun (c0 : ¬ (x1 < 48)) => ?_)
  · rw [if_pos c0] at hf
    exact Ex.weak (sm_le_n (sm_le_n sm_le_nil)) (B_251_16 hd  hf hs)
  · rw [if_neg c0] at hf
    refine Ex.seg 2 (pc' := 9) (lc' := [some (.ref 52), some (.int x1)]) (st' := [.int 57, .int x1]) (h' := h) (sg1 rfl rfl (sg1 rfl rfl rfl)) ?_
    refine Ex.icmp rfl rfl (fun (c0 : 57 < x1) => ?_) (fun (c0 : ¬ (57 < x1)) => ?_)
    · rw [if_pos c0] at hf
      exact Ex.weak (sm_le_n (sm_le_n sm_le_nil)) (B_251_16 hd  hf hs)
    · rw [if_neg c0] at hf
      refine Ex.seg 2 (pc' := 17) (lc' := [some (.ref 52), some (.int x1)]) (st' := [.int 1]) (h' := h) (sg1 rfl rfl (sg1 rfl rfl rfl)) ?_
      exact Ex.weak (sm_le_n (sm_le_n sm_le_nil)) (B_251_17 hd  hf hs)
theorem E_251 {L : Nat} {xs : Nat → Int32} {d : Nat} (hd : 1 ≤ d) {x1 : Int32} {h : sm_H} {r : Int32 × sm_H} (hf : F_251 x1 h = some r) : RUN L xs d 251 [.ref 52, .int x1] h (some (.int r.1), r.2) := by
  obtain ⟨d, rfl⟩ : ∃ e, d = e + 1 := ⟨d - 1, by omega⟩
  exact ⟨Nat.le_of_ble_eq_true rfl, B_251_0 (by omega) hf rfl⟩
theorem B_252_17 {L : Nat} {xs : Nat → Int32} {d : Nat} (hd : 0 ≤ d) {res : Option Value × sm_H} {z0 : Int32}  {h : sm_H} {r : (Int32 × sm_H)} (hf : F_252_17 z0 h = some r) (hs : (fun (r : Int32 × sm_H) => res = (some (.int r.1), r.2)) r) : Ex (P_G L xs) (RUN L xs d) (sm_lk P_t252) 3 17 [none, none] [.int z0] h res := by
  unfold F_252_17 at hf
  rcases Classical.em (z0 = 0 ∨ z0 = 1) with c0 | c0
  · rw [if_pos c0] at hf
    obtain rfl := Option.some.inj hf
    exact Ex.iret rfl rfl (fun _ => c0) hs
  · rw [if_neg c0] at hf
    cases hf
theorem B_252_16 {L : Nat} {xs : Nat → Int32} {d : Nat} (hd : 0 ≤ d) {res : Option Value × sm_H}   {h : sm_H} {r : (Int32 × sm_H)} (hf : F_252_16  h = some r) (hs : (fun (r : Int32 × sm_H) => res = (some (.int r.1), r.2)) r) : Ex (P_G L xs) (RUN L xs d) (sm_lk P_t252) 3 16 [none, none] [] h res := by
  unfold F_252_16 at hf
  refine Ex.seg 1 (pc' := 17) (lc' := [none, none]) (st' := [.int 0]) (h' := h) (sg1 rfl rfl rfl) ?_
  exact Ex.weak (sm_le_s (sm_le_s sm_le_nil)) (B_252_17 hd  hf hs)
theorem B_252_0 {L : Nat} {xs : Nat → Int32} {d : Nat} (hd : 0 ≤ d) {res : Option Value × sm_H} {x1 : Int32}  {h : sm_H} {r : (Int32 × sm_H)} (hf : F_252_0 x1 h = some r) (hs : (fun (r : Int32 × sm_H) => res = (some (.int r.1), r.2)) r) : Ex (P_G L xs) (RUN L xs d) (sm_lk P_t252) 3 0 [some (.ref 52), some (.int x1)] [] h res := by
  unfold F_252_0 at hf
  refine Ex.seg 2 (pc' := 3) (lc' := [some (.ref 52), some (.int x1)]) (st' := [.int 97, .int x1]) (h' := h) (sg1 rfl rfl (sg1 rfl rfl rfl)) ?_
  refine Ex.icmp rfl rfl (fun (c0 : x1 < 97) => ?_) (fun (c0 : ¬ (x1 < 97)) => ?_)
  · rw [if_pos c0] at hf
    exact Ex.weak (sm_le_n (sm_le_n sm_le_nil)) (B_252_16 hd  hf hs)
  · rw [if_neg c0] at hf
    refine Ex.seg 2 (pc' := 9) (lc' := [some (.ref 52), some (.int x1)]) (st' := [.int 122, .int x1]) (h' := h) (sg1 rfl rfl (sg1 rfl rfl rfl)) ?_
    refine Ex.icmp rfl rfl (fun (c0 : 122 < x1) => ?_) (fun (c0 : ¬ (122 < x1)) => ?_)
    · rw [if_pos c0] at hf
      exact Ex.weak (sm_le_n (sm_le_n sm_le_nil)) (B_252_16 hd  hf hs)
    · rw [if_neg c0] at hf
      refine Ex.seg 2 (pc' := 17) (lc' := [some (.ref 52), some (.int x1)]) (st' := [.int 1]) (h' := h) (sg1 rfl rfl (sg1 rfl rfl rfl)) ?_
      exact Ex.weak (sm_le_n (sm_le_n sm_le_nil)) (B_252_17 hd  hf hs)
theorem E_252 {L : Nat} {xs : Nat → Int32} {d : Nat} (hd : 1 ≤ d) {x1 : Int32} {h : sm_H} {r : Int32 × sm_H} (hf : F_252 x1 h = some r) : RUN L xs d 252 [.ref 52, .int x1] h (some (.int r.1), r.2) := by
  obtain ⟨d, rfl⟩ : ∃ e, d = e + 1 := ⟨d - 1, by omega⟩
  exact ⟨Nat.le_of_ble_eq_true rfl, B_252_0 (by omega) hf rfl⟩
theorem B_253_52 {L : Nat} {xs : Nat → Int32} {d : Nat} (hd : 0 ≤ d) {res : Option Value × sm_H}   {h : sm_H} {r : (sm_H)} (hf : F_253_52  h = some r) (hs : (fun (r : sm_H) => res = (none, r)) r) : Ex (P_G L xs) (RUN L xs d) (sm_lk P_t253) 0 52 [none] [] h res := by
  unfold F_253_52 at hf
  obtain rfl := Option.some.inj hf
  exact Ex.vret rfl rfl hs
theorem B_253_39 {L : Nat} {xs : Nat → Int32} {d : Nat} (hd : 0 ≤ d) {res : Option Value × sm_H} {S1 : (sm_H) → Prop} (hS1 : ∀ s, S1 s → Ex (P_G L xs) (RUN L xs d) (sm_lk P_t253) 0 0 [some (.ref 52)] [] s res)   {h : sm_H} {r : ((sm_H) ⊕ (sm_H))} (hf : F_253_39  h = some r) (hs : (Sum.elim S1 (fun (r : sm_H) => res = (none, r))) r) : Ex (P_G L xs) (RUN L xs d) (sm_lk P_t253) 0 39 [some (.ref 52)] [] h res := by
  unfold F_253_39 at hf
  refine Ex.seg 6 (pc' := 49) (lc' := [some (.ref 52)]) (st' := []) (h' := (sm_wI h 52 3 ((h.1 52 3) + 1))) (sg1 rfl rfl (sg1 rfl rfl (sg1 rfl rfl (sg1 rfl rfl (sg1 rfl rfl (sg1 rfl rfl rfl)))))) ?_
  obtain ⟨h1, e_h1, hf⟩ := bnd hf
  rw [Option.some.inj e_h1]
  refine Ex.seg 1 (pc' := 0) (lc' := [some (.ref 52)]) (st' := []) (h' := h1) (sg1 rfl rfl rfl) ?_
  obtain rfl := Option.some.inj hf
  exact Ex.weak (sm_le_s sm_le_nil) (hS1 _ hs)
theorem B_253_0B {L : Nat} {xs : Nat → Int32} {d : Nat} (hd : 0 ≤ d) {res : Option Value × sm_H} {S1 : (sm_H) → Prop} (hS1 : ∀ s, S1 s → Ex (P_G L xs) (RUN L xs d) (sm_lk P_t253) 0 0 [some (.ref 52)] [] s res) {s : (sm_H)}  {r : ((sm_H) ⊕ (sm_H))} (hf : F_253_0B s = some r) (hs : (Sum.elim S1 (fun (r : sm_H) => res = (none, r))) r) : Ex (P_G L xs) (RUN L xs d) (sm_lk P_t253) 0 0 [some (.ref 52)] [] s res := by
  unfold F_253_0B at hf
  refine Ex.seg 4 (pc' := 8) (lc' := [some (.ref 52)]) (st' := [.int (s.1 52 1), .int (s.1 52 3)]) (h' := s) (sg1 rfl rfl (sg1 rfl rfl (sg1 rfl rfl (sg1 rfl rfl rfl)))) ?_
  refine Ex.icmp rfl rfl (fun (c0 : (s.1 52 1) ≤ (s.1 52 3)) => ?_) (fun (c0 : ¬ ((s.1 52 1) ≤ (s.1 52 3))) => ?_)
  · rw [if_pos c0] at hf
    obtain ⟨r0, hf0, rfl⟩ := Option.map_eq_some_iff.mp hf
    exact Ex.weak (sm_le_n sm_le_nil) (B_253_52 hd  hf0 hs)
  · rw [if_neg c0] at hf
    refine Ex.seg 4 (pc' := 19) (lc' := [some (.ref 52)]) (st' := [.int (s.1 52 3), .ref 53]) (h' := s) (sg1 rfl rfl (sg1 rfl rfl (sg1 rfl rfl (sg1 rfl rfl rfl)))) ?_
    obtain ⟨v2, e_v2, hf⟩ := bnd hf
    refine Ex.iald e_v2 rfl rfl ?_
    refine Ex.seg 1 (pc' := 22) (lc' := [some (.ref 52)]) (st' := [.int 32, .int v2]) (h' := s) (sg1 rfl rfl rfl) ?_
    refine Ex.icmp rfl rfl (fun (c0 : v2 = 32) => ?_) (fun (c0 : ¬ (v2 = 32)) => ?_)
    · rw [if_pos c0] at hf
      exact Ex.weak (sm_le_s sm_le_nil) (B_253_39 hd hS1 hf hs)
    · rw [if_neg c0] at hf
      refine Ex.seg 4 (pc' := 33) (lc' := [some (.ref 52)]) (st' := [.int (s.1 52 3), .ref 53]) (h' := s) (sg1 rfl rfl (sg1 rfl rfl (sg1 rfl rfl (sg1 rfl rfl rfl)))) ?_
      obtain ⟨v3, e_v3, hf⟩ := bnd hf
      refine Ex.iald e_v3 rfl rfl ?_
      refine Ex.seg 1 (pc' := 36) (lc' := [some (.ref 52)]) (st' := [.int 10, .int v3]) (h' := s) (sg1 rfl rfl rfl) ?_
      refine Ex.icmp rfl rfl (fun (c0 : ¬ (v3 = 10)) => ?_) (fun (c0 : ¬ ¬ (v3 = 10)) => ?_)
      · rw [if_neg c0] at hf
        obtain ⟨r0, hf0, rfl⟩ := Option.map_eq_some_iff.mp hf
        exact Ex.weak (sm_le_n sm_le_nil) (B_253_52 hd  hf0 hs)
      · rw [if_pos (Classical.not_not.mp c0)] at hf
        exact Ex.weak (sm_le_s sm_le_nil) (B_253_39 hd hS1 hf hs)
theorem B_253_0 {L : Nat} {xs : Nat → Int32} {d : Nat} (hd : 0 ≤ d) {res : Option Value × sm_H}   {h : sm_H} {r : (sm_H)} (hf : F_253_0  h = some r) (hs : (fun (r : sm_H) => res = (none, r)) r) : Ex (P_G L xs) (RUN L xs d) (sm_lk P_t253) 0 0 [some (.ref 52)] [] h res := by
  unfold F_253_0 at hf
  exact lp_ok (P := fun (s : (sm_H)) => Ex (P_G L xs) (RUN L xs d) (sm_lk P_t253) 0 0 [some (.ref 52)] [] s res) (S := (fun (r : sm_H) => res = (none, r))) (fun s x hx hsx => by
    intros
    exact B_253_0B hd  (fun _ q => q) hx hsx) 1000000 _ r hf hs
theorem E_253 {L : Nat} {xs : Nat → Int32} {d : Nat} (hd : 1 ≤ d)  {h : sm_H} {r : sm_H} (hf : F_253  h = some r) : RUN L xs d 253 [.ref 52] h (none, r) := by
  obtain ⟨d, rfl⟩ : ∃ e, d = e + 1 := ⟨d - 1, by omega⟩
  exact ⟨Nat.le_of_ble_eq_true rfl, Ex.weak (sm_le_s sm_le_nil) (B_253_0 (by omega) hf rfl)⟩
theorem B_254_20 {L : Nat} {xs : Nat → Int32} {d : Nat} (hd : 0 ≤ d) {res : Option Value × sm_H}   {h : sm_H} {r : (Int32 × sm_H)} (hf : F_254_20  h = some r) (hs : (fun (r : Int32 × sm_H) => res = (some (.int r.1), r.2)) r) : Ex (P_G L xs) (RUN L xs d) (sm_lk P_t254) 0 20 [some (.ref 52), none, none] [] h res := by
  unfold F_254_20 at hf
  refine Ex.seg 3 (pc' := 25) (lc' := [some (.ref 52), none, none]) (st' := []) (h' := (sm_wI h 52 6 1)) (sg1 rfl rfl (sg1 rfl rfl (sg1 rfl rfl rfl))) ?_
  obtain ⟨h1, e_h1, hf⟩ := bnd hf
  rw [Option.some.inj e_h1]
  refine Ex.seg 1 (pc' := 27) (lc' := [some (.ref 52), none, none]) (st' := [.int 6]) (h' := h1) (sg1 rfl rfl rfl) ?_
  obtain rfl := Option.some.inj hf
  exact Ex.iret rfl rfl (fun c0 => by cases c0) hs
theorem B_254_0 {L : Nat} {xs : Nat → Int32} {d : Nat} (hd : 0 ≤ d) {res : Option Value × sm_H} {x1 : Int32}  {h : sm_H} {r : (Int32 × sm_H)} (hf : F_254_0 x1 h = some r) (hs : (fun (r : Int32 × sm_H) => res = (some (.int r.1), r.2)) r) : Ex (P_G L xs) (RUN L xs d) (sm_lk P_t254) 0 0 [some (.ref 52), some (.int x1), none] [] h res := by
  unfold F_254_0 at hf
  refine Ex.seg 3 (pc' := 4) (lc' := [some (.ref 52), some (.int x1), none]) (st' := [.int (Int32.toUInt32 x1 % 65536).toInt32, .ref 3000000]) (h' := h) (sg1 rfl rfl (sg1 rfl rfl (sg1 rfl rfl rfl))) ?_
  refine Ex.ixf rfl rfl rfl (Nat.le_of_ble_eq_true rfl) ?_
  refine Ex.seg 1 (pc' := 8) (lc' := [some (.ref 52), some (.int x1), some (.int (P_ix (Int32.toUInt32 x1 % 65536).toInt32))]) (st' := []) (h' := h) (sg1 rfl rfl rfl) ?_
  obtain ⟨v2, e_v2, hf⟩ := bnd hf
  rw [Option.some.inj e_v2]
  refine Ex.seg 1 (pc' := 9) (lc' := [some (.ref 52), some (.int x1), some (.int v2)]) (st' := [.int v2]) (h' := h) (sg1 rfl rfl rfl) ?_
  refine Ex.ifc rfl rfl (fun (c0 : v2 < 0) => ?_) (fun (c0 : ¬ (v2 < 0)) => ?_)
  · rw [if_pos c0] at hf
    exact Ex.weak (sm_le_s (sm_le_n (sm_le_n sm_le_nil))) (B_254_20 hd  hf hs)
  · rw [if_neg c0] at hf
    refine Ex.seg 2 (pc' := 16) (lc' := [some (.ref 52), some (.int x1), some (.int v2)]) (st' := [.ref 1000002, .int v2]) (h' := h) (sg1 rfl rfl (sg1 rfl rfl rfl)) ?_
    obtain ⟨v3, e_v3, hf⟩ := bnd hf
    refine Ex.alen e_v3 rfl rfl ?_
    refine Ex.icmp rfl rfl (fun (c0 : v2 < v3) => ?_) (fun (c0 : ¬ (v2 < v3)) => ?_)
    · rw [if_pos c0] at hf
      refine Ex.seg 3 (pc' := 33) (lc' := [some (.ref 52), some (.int x1), some (.int v2)]) (st' := [.int v2, .ref 1000002, .ref 52]) (h' := h) (sg1 rfl rfl (sg1 rfl rfl (sg1 rfl rfl rfl))) ?_
      obtain ⟨v4, e_v4, hf⟩ := bnd hf
      refine Ex.iald e_v4 rfl rfl ?_
      refine Ex.seg 1 (pc' := 37) (lc' := [some (.ref 52), some (.int x1), some (.int v2)]) (st' := []) (h' := (sm_wI h 52 7 v4)) (sg1 rfl rfl rfl) ?_
      obtain ⟨h5, e_h5, hf⟩ := bnd hf
      rw [Option.some.inj e_h5]
      refine Ex.seg 1 (pc' := 38) (lc' := [some (.ref 52), some (.int x1), some (.int v2)]) (st' := [.int 5]) (h' := h5) (sg1 rfl rfl rfl) ?_
      obtain rfl := Option.some.inj hf
      exact Ex.iret rfl rfl (fun c0 => by cases c0) hs
    · rw [if_neg c0] at hf
      exact Ex.weak (sm_le_s (sm_le_n (sm_le_n sm_le_nil))) (B_254_20 hd  hf hs)
theorem E_254 {L : Nat} {xs : Nat → Int32} {d : Nat} (hd : 1 ≤ d) {x1 : Int32} {h : sm_H} {r : Int32 × sm_H} (hf : F_254 x1 h = some r) : RUN L xs d 254 [.ref 52, .int x1] h (some (.int r.1), r.2) := by
  obtain ⟨d, rfl⟩ : ∃ e, d = e + 1 := ⟨d - 1, by omega⟩
  exact ⟨Nat.le_of_ble_eq_true rfl, B_254_0 (by omega) hf rfl⟩
theorem B_255_129 {L : Nat} {xs : Nat → Int32} {d : Nat} (hd : 0 ≤ d) {res : Option Value × sm_H} {z0 : Int32}  {h : sm_H} {r : (Int32 × sm_H)} (hf : F_255_129 z0 h = some r) (hs : (fun (r : Int32 × sm_H) => res = (some (.int r.1), r.2)) r) : Ex (P_G L xs) (RUN L xs d) (sm_lk P_t255) 0 129 [none, none] [.int z0] h res := by
  unfold F_255_129 at hf
  obtain rfl := Option.some.inj hf
  exact Ex.iret rfl rfl (fun c0 => by cases c0) hs
theorem B_255_112 {L : Nat} {xs : Nat → Int32} {d : Nat} (hd : 0 ≤ d) {res : Option Value × sm_H} {y1 : Int32}  {h : sm_H} {r : (Int32 × sm_H)} (hf : F_255_112 y1 h = some r) (hs : (fun (r : Int32 × sm_H) => res = (some (.int r.1), r.2)) r) : Ex (P_G L xs) (RUN L xs d) (sm_lk P_t255) 0 112 [some (.ref 52), some (.int y1)] [] h res := by
  unfold F_255_112 at hf
  refine Ex.seg 3 (pc' := 117) (lc' := [some (.ref 52), some (.int y1)]) (st' := []) (h' := (sm_wI h 52 6 2)) (sg1 rfl rfl (sg1 rfl rfl (sg1 rfl rfl rfl))) ?_
  obtain ⟨h1, e_h1, hf⟩ := bnd hf
  rw [Option.some.inj e_h1]
  refine Ex.seg 2 (pc' := 120) (lc' := [some (.ref 52), some (.int y1)]) (st' := [.int 8, .int y1]) (h' := h1) (sg1 rfl rfl (sg1 rfl rfl rfl)) ?_
  refine Ex.icmp rfl rfl (fun (c0 : y1 ≤ 8) => ?_) (fun (c0 : ¬ (y1 ≤ 8)) => ?_)
  · rw [if_pos c0] at hf
    refine Ex.seg 1 (pc' := 129) (lc' := [some (.ref 52), some (.int y1)]) (st' := [.int 4]) (h' := h1) (sg1 rfl rfl rfl) ?_
    exact Ex.weak (sm_le_n (sm_le_n sm_le_nil)) (B_255_129 hd  hf hs)
  · rw [if_neg c0] at hf
    refine Ex.seg 2 (pc' := 129) (lc' := [some (.ref 52), some (.int y1)]) (st' := [.int 6]) (h' := h1) (sg1 rfl rfl (sg1 rfl rfl rfl)) ?_
    exact Ex.weak (sm_le_n (sm_le_n sm_le_nil)) (B_255_129 hd  hf hs)
theorem B_255_74 {L : Nat} {xs : Nat → Int32} {d : Nat} (hd : 0 ≤ d) {res : Option Value × sm_H} {S1 : (Int32 × sm_H) → Prop} (hS1 : ∀ s, S1 s → Ex (P_G L xs) (RUN L xs d) (sm_lk P_t255) 0 7 [some (.ref 52), some (.int s.1)] [] s.2 res) {y1 : Int32}  {h : sm_H} {r : ((Int32 × sm_H) ⊕ (Int32 × sm_H))} (hf : F_255_74 y1 h = some r) (hs : (Sum.elim S1 (fun (r : Int32 × sm_H) => res = (some (.int r.1), r.2))) r) : Ex (P_G L xs) (RUN L xs d) (sm_lk P_t255) 0 74 [some (.ref 52), some (.int y1)] [] h res := by
  unfold F_255_74 at hf
  refine Ex.seg 9 (pc' := 90) (lc' := [some (.ref 52), some (.int y1)]) (st' := [.int (h.1 52 3), .ref 53, .long ((h.2.1 52 10) <<< (Int32.toInt64 8 &&& 63)), .ref 52]) (h' := h) (sg1 rfl rfl (sg1 rfl rfl (sg1 rfl rfl (sg1 rfl rfl (sg1 rfl rfl (sg1 rfl rfl (sg1 rfl rfl (sg1 rfl rfl (sg1 rfl rfl rfl))))))))) ?_
  obtain ⟨v2, e_v2, hf⟩ := bnd hf
  refine Ex.iald e_v2 rfl rfl ?_
  refine Ex.seg 3 (pc' := 96) (lc' := [some (.ref 52), some (.int y1)]) (st' := []) (h' := (sm_wJ h 52 10 (((h.2.1 52 10) <<< (Int32.toInt64 8 &&& 63)) ||| (Int32.toInt64 v2)))) (sg1 rfl rfl (sg1 rfl rfl (sg1 rfl rfl rfl))) ?_
  obtain ⟨h3, e_h3, hf⟩ := bnd hf
  rw [Option.some.inj e_h3]
  refine Ex.seg 1 (pc' := 99) (lc' := [some (.ref 52), some (.int (y1 + 1))]) (st' := []) (h' := h3) (sg1 rfl rfl rfl) ?_
  obtain ⟨v4, e_v4, hf⟩ := bnd hf
  rw [Option.some.inj e_v4]
  refine Ex.seg 6 (pc' := 109) (lc' := [some (.ref 52), some (.int v4)]) (st' := []) (h' := (sm_wI h3 52 3 ((h3.1 52 3) + 1))) (sg1 rfl rfl (sg1 rfl rfl (sg1 rfl rfl (sg1 rfl rfl (sg1 rfl rfl (sg1 rfl rfl rfl)))))) ?_
  obtain ⟨h5, e_h5, hf⟩ := bnd hf
  rw [Option.some.inj e_h5]
  refine Ex.seg 1 (pc' := 7) (lc' := [some (.ref 52), some (.int v4)]) (st' := []) (h' := h5) (sg1 rfl rfl rfl) ?_
  obtain rfl := Option.some.inj hf
  exact Ex.weak (sm_le_s (sm_le_s sm_le_nil)) (hS1 _ hs)
theorem B_255_46 {L : Nat} {xs : Nat → Int32} {d : Nat} (hd : 0 ≤ d) {res : Option Value × sm_H} {S1 : (Int32 × sm_H) → Prop} (hS1 : ∀ s, S1 s → Ex (P_G L xs) (RUN L xs d) (sm_lk P_t255) 0 7 [some (.ref 52), some (.int s.1)] [] s.2 res) {y1 : Int32}  {h : sm_H} {r : ((Int32 × sm_H) ⊕ (Int32 × sm_H))} (hf : F_255_46 y1 h = some r) (hs : (Sum.elim S1 (fun (r : Int32 × sm_H) => res = (some (.int r.1), r.2))) r) : Ex (P_G L xs) (RUN L xs d) (sm_lk P_t255) 0 46 [some (.ref 52), some (.int y1)] [] h res := by
  unfold F_255_46 at hf
  refine Ex.seg 4 (pc' := 54) (lc' := [some (.ref 52), some (.int y1)]) (st' := [.int (h.1 52 3), .ref 53]) (h' := h) (sg1 rfl rfl (sg1 rfl rfl (sg1 rfl rfl (sg1 rfl rfl rfl)))) ?_
  obtain ⟨v6, e_v6, hf⟩ := bnd hf
  refine Ex.iald e_v6 rfl rfl ?_
  refine Ex.seg 1 (pc' := 57) (lc' := [some (.ref 52), some (.int y1)]) (st' := [.int 48, .int v6]) (h' := h) (sg1 rfl rfl rfl) ?_
  refine Ex.icmp rfl rfl (fun (c0 : v6 < 48) => ?_) (fun (c0 : ¬ (v6 < 48)) => ?_)
  · rw [if_pos c0] at hf
    obtain ⟨r0, hf0, rfl⟩ := Option.map_eq_some_iff.mp hf
    exact Ex.weak (sm_le_s (sm_le_s sm_le_nil)) (B_255_112 hd  hf0 hs)
  · rw [if_neg c0] at hf
    refine Ex.seg 4 (pc' := 68) (lc' := [some (.ref 52), some (.int y1)]) (st' := [.int (h.1 52 3), .ref 53]) (h' := h) (sg1 rfl rfl (sg1 rfl rfl (sg1 rfl rfl (sg1 rfl rfl rfl)))) ?_
    obtain ⟨v7, e_v7, hf⟩ := bnd hf
    refine Ex.iald e_v7 rfl rfl ?_
    refine Ex.seg 1 (pc' := 71) (lc' := [some (.ref 52), some (.int y1)]) (st' := [.int 57, .int v7]) (h' := h) (sg1 rfl rfl rfl) ?_
    refine Ex.icmp rfl rfl (fun (c0 : 57 < v7) => ?_) (fun (c0 : ¬ (57 < v7)) => ?_)
    · rw [if_pos c0] at hf
      obtain ⟨r0, hf0, rfl⟩ := Option.map_eq_some_iff.mp hf
      exact Ex.weak (sm_le_s (sm_le_s sm_le_nil)) (B_255_112 hd  hf0 hs)
    · rw [if_neg c0] at hf
      exact Ex.weak (sm_le_s (sm_le_s sm_le_nil)) (B_255_74 hd hS1 hf hs)
theorem B_255_7B {L : Nat} {xs : Nat → Int32} {d : Nat} (hd : 0 ≤ d) {res : Option Value × sm_H} {S1 : (Int32 × sm_H) → Prop} (hS1 : ∀ s, S1 s → Ex (P_G L xs) (RUN L xs d) (sm_lk P_t255) 0 7 [some (.ref 52), some (.int s.1)] [] s.2 res) {s : (Int32 × sm_H)}  {r : ((Int32 × sm_H) ⊕ (Int32 × sm_H))} (hf : F_255_7B s = some r) (hs : (Sum.elim S1 (fun (r : Int32 × sm_H) => res = (some (.int r.1), r.2))) r) : Ex (P_G L xs) (RUN L xs d) (sm_lk P_t255) 0 7 [some (.ref 52), some (.int s.1)] [] s.2 res := by
  unfold F_255_7B at hf
  refine Ex.seg 4 (pc' := 15) (lc' := [some (.ref 52), some (.int s.1)]) (st' := [.int (s.2.1 52 1), .int (s.2.1 52 3)]) (h' := s.2) (sg1 rfl rfl (sg1 rfl rfl (sg1 rfl rfl (sg1 rfl rfl rfl)))) ?_
  refine Ex.icmp rfl rfl (fun (c0 : (s.2.1 52 1) ≤ (s.2.1 52 3)) => ?_) (fun (c0 : ¬ ((s.2.1 52 1) ≤ (s.2.1 52 3))) => ?_)
  · rw [if_pos c0] at hf
    obtain ⟨r0, hf0, rfl⟩ := Option.map_eq_some_iff.mp hf
    exact Ex.weak (sm_le_s (sm_le_s sm_le_nil)) (B_255_112 hd  hf0 hs)
  · rw [if_neg c0] at hf
    refine Ex.seg 4 (pc' := 26) (lc' := [some (.ref 52), some (.int s.1)]) (st' := [.int (s.2.1 52 3), .ref 53]) (h' := s.2) (sg1 rfl rfl (sg1 rfl rfl (sg1 rfl rfl (sg1 rfl rfl rfl)))) ?_
    obtain ⟨v8, e_v8, hf⟩ := bnd hf
    refine Ex.iald e_v8 rfl rfl ?_
    refine Ex.seg 1 (pc' := 29) (lc' := [some (.ref 52), some (.int s.1)]) (st' := [.int 97, .int v8]) (h' := s.2) (sg1 rfl rfl rfl) ?_
    refine Ex.icmp rfl rfl (fun (c0 : v8 < 97) => ?_) (fun (c0 : ¬ (v8 < 97)) => ?_)
    · rw [if_pos c0] at hf
      exact Ex.weak (sm_le_s (sm_le_s sm_le_nil)) (B_255_46 hd hS1 hf hs)
    · rw [if_neg c0] at hf
      refine Ex.seg 4 (pc' := 40) (lc' := [some (.ref 52), some (.int s.1)]) (st' := [.int (s.2.1 52 3), .ref 53]) (h' := s.2) (sg1 rfl rfl (sg1 rfl rfl (sg1 rfl rfl (sg1 rfl rfl rfl)))) ?_
      obtain ⟨v9, e_v9, hf⟩ := bnd hf
      refine Ex.iald e_v9 rfl rfl ?_
      refine Ex.seg 1 (pc' := 43) (lc' := [some (.ref 52), some (.int s.1)]) (st' := [.int 122, .int v9]) (h' := s.2) (sg1 rfl rfl rfl) ?_
      refine Ex.icmp rfl rfl (fun (c0 : v9 ≤ 122) => ?_) (fun (c0 : ¬ (v9 ≤ 122)) => ?_)
      · rw [if_pos c0] at hf
        exact Ex.weak (sm_le_s (sm_le_s sm_le_nil)) (B_255_74 hd hS1 hf hs)
      · rw [if_neg c0] at hf
        exact Ex.weak (sm_le_s (sm_le_s sm_le_nil)) (B_255_46 hd hS1 hf hs)
theorem B_255_7 {L : Nat} {xs : Nat → Int32} {d : Nat} (hd : 0 ≤ d) {res : Option Value × sm_H} {y1 : Int32}  {h : sm_H} {r : (Int32 × sm_H)} (hf : F_255_7 y1 h = some r) (hs : (fun (r : Int32 × sm_H) => res = (some (.int r.1), r.2)) r) : Ex (P_G L xs) (RUN L xs d) (sm_lk P_t255) 0 7 [some (.ref 52), some (.int y1)] [] h res := by
  unfold F_255_7 at hf
  exact lp_ok (P := fun (s : (Int32 × sm_H)) => Ex (P_G L xs) (RUN L xs d) (sm_lk P_t255) 0 7 [some (.ref 52), some (.int s.1)] [] s.2 res) (S := (fun (r : Int32 × sm_H) => res = (some (.int r.1), r.2))) (fun s x hx hsx => by
    intros
    exact B_255_7B hd  (fun _ q => q) hx hsx) 1000000 _ r hf hs
theorem B_255_0 {L : Nat} {xs : Nat → Int32} {d : Nat} (hd : 0 ≤ d) {res : Option Value × sm_H}   {h : sm_H} {r : (Int32 × sm_H)} (hf : F_255_0  h = some r) (hs : (fun (r : Int32 × sm_H) => res = (some (.int r.1), r.2)) r) : Ex (P_G L xs) (RUN L xs d) (sm_lk P_t255) 0 0 [some (.ref 52), none] [] h res := by
  unfold F_255_0 at hf
  refine Ex.seg 5 (pc' := 7) (lc' := [some (.ref 52), some (.int 0)]) (st' := []) (h' := (sm_wJ h 52 10 0)) (sg1 rfl rfl (sg1 rfl rfl (sg1 rfl rfl (sg1 rfl rfl (sg1 rfl rfl rfl))))) ?_
  obtain ⟨h10, e_h10, hf⟩ := bnd hf
  rw [Option.some.inj e_h10]
  exact Ex.weak (sm_le_s (sm_le_s sm_le_nil)) (B_255_7 hd  hf hs)
theorem E_255 {L : Nat} {xs : Nat → Int32} {d : Nat} (hd : 1 ≤ d)  {h : sm_H} {r : Int32 × sm_H} (hf : F_255  h = some r) : RUN L xs d 255 [.ref 52] h (some (.int r.1), r.2) := by
  obtain ⟨d, rfl⟩ : ∃ e, d = e + 1 := ⟨d - 1, by omega⟩
  exact ⟨Nat.le_of_ble_eq_true rfl, B_255_0 (by omega) hf rfl⟩
theorem B_256_244 {L : Nat} {xs : Nat → Int32} {d : Nat} (hd : 0 ≤ d) {res : Option Value × sm_H} {z0 : Int32}  {h : sm_H} {r : (Int32 × sm_H)} (hf : F_256_244 z0 h = some r) (hs : (fun (r : Int32 × sm_H) => res = (some (.int r.1), r.2)) r) : Ex (P_G L xs) (RUN L xs d) (sm_lk P_t256) 0 244 [none, none, none, none, none, none] [.int z0] h res := by
  unfold F_256_244 at hf
  obtain rfl := Option.some.inj hf
  exact Ex.iret rfl rfl (fun c0 => by cases c0) hs
theorem B_256_229 {L : Nat} {xs : Nat → Int32} {d : Nat} (hd : 0 ≤ d) {res : Option Value × sm_H} {y2 : Int32}  {h : sm_H} {r : (Int32 × sm_H)} (hf : F_256_229 y2 h = some r) (hs : (fun (r : Int32 × sm_H) => res = (some (.int r.1), r.2)) r) : Ex (P_G L xs) (RUN L xs d) (sm_lk P_t256) 0 229 [some (.ref 52), none, some (.int y2), none, none, none] [] h res := by
  unfold F_256_229 at hf
  refine Ex.seg 3 (pc' := 234) (lc' := [some (.ref 52), none, some (.int y2), none, none, none]) (st' := []) (h' := (sm_wI h 52 6 3)) (sg1 rfl rfl (sg1 rfl rfl (sg1 rfl rfl rfl))) ?_
  obtain ⟨h1, e_h1, hf⟩ := bnd hf
  rw [Option.some.inj e_h1]
  refine Ex.seg 1 (pc' := 235) (lc' := [some (.ref 52), none, some (.int y2), none, none, none]) (st' := [.int y2]) (h' := h1) (sg1 rfl rfl rfl) ?_
  refine Ex.ifc rfl rfl (fun (c0 : y2 = 0) => ?_) (fun (c0 : ¬ (y2 = 0)) => ?_)
  · rw [if_pos c0] at hf
    refine Ex.seg 1 (pc' := 244) (lc' := [some (.ref 52), none, some (.int y2), none, none, none]) (st' := [.int 6]) (h' := h1) (sg1 rfl rfl rfl) ?_
    exact Ex.weak (sm_le_n (sm_le_s (sm_le_n (sm_le_s (sm_le_s (sm_le_s sm_le_nil)))))) (B_256_244 hd  hf hs)
  · rw [if_neg c0] at hf
    refine Ex.seg 2 (pc' := 244) (lc' := [some (.ref 52), none, some (.int y2), none, none, none]) (st' := [.int 3]) (h' := h1) (sg1 rfl rfl (sg1 rfl rfl rfl)) ?_
    exact Ex.weak (sm_le_n (sm_le_s (sm_le_n (sm_le_s (sm_le_s (sm_le_s sm_le_nil)))))) (B_256_244 hd  hf hs)
theorem B_256_228 {L : Nat} {xs : Nat → Int32} {d : Nat} (hd : 0 ≤ d) {res : Option Value × sm_H} {z0 : Int32}  {h : sm_H} {r : (Int32 × sm_H)} (hf : F_256_228 z0 h = some r) (hs : (fun (r : Int32 × sm_H) => res = (some (.int r.1), r.2)) r) : Ex (P_G L xs) (RUN L xs d) (sm_lk P_t256) 0 228 [some (.ref 52), none, none, none, none, none] [.int z0] h res := by
  unfold F_256_228 at hf
  refine Ex.seg 1 (pc' := 229) (lc' := [some (.ref 52), none, some (.int z0), none, none, none]) (st' := []) (h' := h) (sg1 rfl rfl rfl) ?_
  exact Ex.weak (sm_le_s (sm_le_s (sm_le_s (sm_le_s (sm_le_s (sm_le_s sm_le_nil)))))) (B_256_229 hd  hf hs)
theorem B_256_227 {L : Nat} {xs : Nat → Int32} {d : Nat} (hd : 0 ≤ d) {res : Option Value × sm_H}   {h : sm_H} {r : (Int32 × sm_H)} (hf : F_256_227  h = some r) (hs : (fun (r : Int32 × sm_H) => res = (some (.int r.1), r.2)) r) : Ex (P_G L xs) (RUN L xs d) (sm_lk P_t256) 0 227 [some (.ref 52), none, none, none, none, none] [] h res := by
  unfold F_256_227 at hf
  refine Ex.seg 1 (pc' := 228) (lc' := [some (.ref 52), none, none, none, none, none]) (st' := [.int 0]) (h' := h) (sg1 rfl rfl rfl) ?_
  exact Ex.weak (sm_le_s (sm_le_s (sm_le_s (sm_le_s (sm_le_s (sm_le_s sm_le_nil)))))) (B_256_228 hd  hf hs)
theorem B_256_205 {L : Nat} {xs : Nat → Int32} {d : Nat} (hd : 0 ≤ d) {res : Option Value × sm_H} {y2 : Int32}  {h : sm_H} {r : (Int32 × sm_H)} (hf : F_256_205 y2 h = some r) (hs : (fun (r : Int32 × sm_H) => res = (some (.int r.1), r.2)) r) : Ex (P_G L xs) (RUN L xs d) (sm_lk P_t256) 0 205 [some (.ref 52), none, some (.int y2), none, none, none] [] h res := by
  unfold F_256_205 at hf
  refine Ex.seg 1 (pc' := 206) (lc' := [some (.ref 52), none, some (.int y2), none, none, none]) (st' := [.int y2]) (h' := h) (sg1 rfl rfl rfl) ?_
  refine Ex.ifc rfl rfl (fun (c0 : y2 = 0) => ?_) (fun (c0 : ¬ (y2 = 0)) => ?_)
  · rw [if_pos c0] at hf
    exact Ex.weak (sm_le_s (sm_le_s (sm_le_n (sm_le_s (sm_le_s (sm_le_s sm_le_nil)))))) (B_256_227 hd  hf hs)
  · rw [if_neg c0] at hf
    refine Ex.seg 7 (pc' := 220) (lc' := [some (.ref 52), none, some (.int y2), none, none, none]) (st' := [.int (lg_cmp (h.2.1 52 8) (Int32.toInt64 (Int64.toInt32 (h.2.1 52 8))))]) (h' := h) (sg1 rfl rfl (sg1 rfl rfl (sg1 rfl rfl (sg1 rfl rfl (sg1 rfl rfl (sg1 rfl rfl (sg1 rfl rfl rfl))))))) ?_
    refine Ex.ifc rfl rfl (fun (c0 : ¬ ((lg_cmp (h.2.1 52 8) (Int32.toInt64 (Int64.toInt32 (h.2.1 52 8)))) = 0)) => ?_) (fun (c0 : ¬ ¬ ((lg_cmp (h.2.1 52 8) (Int32.toInt64 (Int64.toInt32 (h.2.1 52 8)))) = 0)) => ?_)
    · rw [if_neg c0] at hf
      exact Ex.weak (sm_le_s (sm_le_s (sm_le_n (sm_le_s (sm_le_s (sm_le_s sm_le_nil)))))) (B_256_227 hd  hf hs)
    · rw [if_pos (Classical.not_not.mp c0)] at hf
      refine Ex.seg 2 (pc' := 228) (lc' := [some (.ref 52), none, some (.int y2), none, none, none]) (st' := [.int 1]) (h' := h) (sg1 rfl rfl (sg1 rfl rfl rfl)) ?_
      exact Ex.weak (sm_le_s (sm_le_s (sm_le_n (sm_le_s (sm_le_s (sm_le_s sm_le_nil)))))) (B_256_228 hd  hf hs)
theorem B_256_153 {L : Nat} {xs : Nat → Int32} {d : Nat} (hd : 0 ≤ d) {res : Option Value × sm_H} {y2 : Int32} {z1 : Int64}  {h : sm_H} {r : (Int32 × sm_H)} (hf : F_256_153 y2 z1 h = some r) (hs : (fun (r : Int32 × sm_H) => res = (some (.int r.1), r.2)) r) : Ex (P_G L xs) (RUN L xs d) (sm_lk P_t256) 0 153 [some (.ref 52), none, some (.int y2), none, none, none] [.long z1, .ref 52] h res := by
  unfold F_256_153 at hf
  refine Ex.seg 1 (pc' := 156) (lc' := [some (.ref 52), none, some (.int y2), none, none, none]) (st' := []) (h' := (sm_wJ h 52 8 z1)) (sg1 rfl rfl rfl) ?_
  obtain ⟨h2, e_h2, hf⟩ := bnd hf
  rw [Option.some.inj e_h2]
  refine Ex.seg 3 (pc' := 161) (lc' := [some (.ref 52), none, some (.int y2), none, none, none]) (st' := []) (h' := (sm_wI h2 52 9 5)) (sg1 rfl rfl (sg1 rfl rfl (sg1 rfl rfl rfl))) ?_
  obtain ⟨h3, e_h3, hf⟩ := bnd hf
  rw [Option.some.inj e_h3]
  refine Ex.seg 4 (pc' := 169) (lc' := [some (.ref 52), none, some (.int y2), none, none, none]) (st' := [.int (h3.1 52 1), .int (h3.1 52 3)]) (h' := h3) (sg1 rfl rfl (sg1 rfl rfl (sg1 rfl rfl (sg1 rfl rfl rfl)))) ?_
  refine Ex.icmp rfl rfl (fun (c0 : (h3.1 52 1) ≤ (h3.1 52 3)) => ?_) (fun (c0 : ¬ ((h3.1 52 1) ≤ (h3.1 52 3))) => ?_)
  · rw [if_pos c0] at hf
    exact Ex.weak (sm_le_s (sm_le_s (sm_le_s (sm_le_s (sm_le_s (sm_le_s sm_le_nil)))))) (B_256_205 hd  hf hs)
  · rw [if_neg c0] at hf
    refine Ex.seg 4 (pc' := 180) (lc' := [some (.ref 52), none, some (.int y2), none, none, none]) (st' := [.int (h3.1 52 3), .ref 53]) (h' := h3) (sg1 rfl rfl (sg1 rfl rfl (sg1 rfl rfl (sg1 rfl rfl rfl)))) ?_
    obtain ⟨v4, e_v4, hf⟩ := bnd hf
    refine Ex.iald e_v4 rfl rfl ?_
    refine Ex.seg 1 (pc' := 183) (lc' := [some (.ref 52), none, some (.int y2), none, none, none]) (st' := [.int 108, .int v4]) (h' := h3) (sg1 rfl rfl rfl) ?_
    refine Ex.icmp rfl rfl (fun (c0 : ¬ (v4 = 108)) => ?_) (fun (c0 : ¬ ¬ (v4 = 108)) => ?_)
    · rw [if_neg c0] at hf
      exact Ex.weak (sm_le_s (sm_le_s (sm_le_s (sm_le_s (sm_le_s (sm_le_s sm_le_nil)))))) (B_256_205 hd  hf hs)
    · rw [if_pos (Classical.not_not.mp c0)] at hf
      refine Ex.seg 3 (pc' := 192) (lc' := [some (.ref 52), none, some (.int y2), none, none, none]) (st' := []) (h' := (sm_wI h3 52 9 6)) (sg1 rfl rfl (sg1 rfl rfl (sg1 rfl rfl rfl))) ?_
      obtain ⟨h5, e_h5, hf⟩ := bnd hf
      rw [Option.some.inj e_h5]
      refine Ex.seg 6 (pc' := 202) (lc' := [some (.ref 52), none, some (.int y2), none, none, none]) (st' := []) (h' := (sm_wI h5 52 3 ((h5.1 52 3) + 1))) (sg1 rfl rfl (sg1 rfl rfl (sg1 rfl rfl (sg1 rfl rfl (sg1 rfl rfl (sg1 rfl rfl rfl)))))) ?_
      obtain ⟨h6, e_h6, hf⟩ := bnd hf
      rw [Option.some.inj e_h6]
      refine Ex.seg 1 (pc' := 229) (lc' := [some (.ref 52), none, some (.int y2), none, none, none]) (st' := []) (h' := h6) (sg1 rfl rfl rfl) ?_
      exact Ex.weak (sm_le_s (sm_le_s (sm_le_s (sm_le_s (sm_le_s (sm_le_s sm_le_nil)))))) (B_256_229 hd  hf hs)
theorem B_256_141 {L : Nat} {xs : Nat → Int32} {d : Nat} (hd : 0 ≤ d) {res : Option Value × sm_H} {y1 : Int32} {y3 : Int64} {z0 : Int32}  {h : sm_H} {r : (Int32 × sm_H)} (hf : F_256_141 y1 y3 z0 h = some r) (hs : (fun (r : Int32 × sm_H) => res = (some (.int r.1), r.2)) r) : Ex (P_G L xs) (RUN L xs d) (sm_lk P_t256) 0 141 [some (.ref 52), some (.int y1), none, some (.long y3), none, none] [.int z0] h res := by
  unfold F_256_141 at hf
  refine Ex.seg 3 (pc' := 144) (lc' := [some (.ref 52), some (.int y1), some (.int z0), some (.long y3), none, none]) (st' := [.int y1, .ref 52]) (h' := h) (sg1 rfl rfl (sg1 rfl rfl (sg1 rfl rfl rfl))) ?_
  refine Ex.ifc rfl rfl (fun (c0 : y1 = 0) => ?_) (fun (c0 : ¬ (y1 = 0)) => ?_)
  · rw [if_pos c0] at hf
    refine Ex.seg 2 (pc' := 153) (lc' := [some (.ref 52), some (.int y1), some (.int z0), some (.long y3), none, none]) (st' := [.long (-y3), .ref 52]) (h' := h) (sg1 rfl rfl (sg1 rfl rfl rfl)) ?_
    exact Ex.weak (sm_le_s (sm_le_n (sm_le_s (sm_le_n (sm_le_s (sm_le_s sm_le_nil)))))) (B_256_153 hd  hf hs)
  · rw [if_neg c0] at hf
    refine Ex.seg 2 (pc' := 153) (lc' := [some (.ref 52), some (.int y1), some (.int z0), some (.long y3), none, none]) (st' := [.long y3, .ref 52]) (h' := h) (sg1 rfl rfl (sg1 rfl rfl rfl)) ?_
    exact Ex.weak (sm_le_s (sm_le_n (sm_le_s (sm_le_n (sm_le_s (sm_le_s sm_le_nil)))))) (B_256_153 hd  hf hs)
theorem B_256_140 {L : Nat} {xs : Nat → Int32} {d : Nat} (hd : 0 ≤ d) {res : Option Value × sm_H} {y1 : Int32} {y3 : Int64}  {h : sm_H} {r : (Int32 × sm_H)} (hf : F_256_140 y1 y3 h = some r) (hs : (fun (r : Int32 × sm_H) => res = (some (.int r.1), r.2)) r) : Ex (P_G L xs) (RUN L xs d) (sm_lk P_t256) 0 140 [some (.ref 52), some (.int y1), none, some (.long y3), none, none] [] h res := by
  unfold F_256_140 at hf
  refine Ex.seg 1 (pc' := 141) (lc' := [some (.ref 52), some (.int y1), none, some (.long y3), none, none]) (st' := [.int 0]) (h' := h) (sg1 rfl rfl rfl) ?_
  exact Ex.weak (sm_le_s (sm_le_s (sm_le_s (sm_le_s (sm_le_s (sm_le_s sm_le_nil)))))) (B_256_141 hd  hf hs)
theorem B_256_136 {L : Nat} {xs : Nat → Int32} {d : Nat} (hd : 0 ≤ d) {res : Option Value × sm_H} {y1 : Int32} {y3 : Int64}  {h : sm_H} {r : (Int32 × sm_H)} (hf : F_256_136 y1 y3 h = some r) (hs : (fun (r : Int32 × sm_H) => res = (some (.int r.1), r.2)) r) : Ex (P_G L xs) (RUN L xs d) (sm_lk P_t256) 0 136 [some (.ref 52), some (.int y1), none, some (.long y3), none, none] [] h res := by
  unfold F_256_136 at hf
  refine Ex.seg 2 (pc' := 141) (lc' := [some (.ref 52), some (.int y1), none, some (.long y3), none, none]) (st' := [.int 1]) (h' := h) (sg1 rfl rfl (sg1 rfl rfl rfl)) ?_
  exact Ex.weak (sm_le_s (sm_le_s (sm_le_s (sm_le_s (sm_le_s (sm_le_s sm_le_nil)))))) (B_256_141 hd  hf hs)
theorem B_256_120 {L : Nat} {xs : Nat → Int32} {d : Nat} (hd : 0 ≤ d) {res : Option Value × sm_H} {y1 : Int32} {y2 : Int32} {y3 : Int64}  {h : sm_H} {r : (Int32 × sm_H)} (hf : F_256_120 y1 y2 y3 h = some r) (hs : (fun (r : Int32 × sm_H) => res = (some (.int r.1), r.2)) r) : Ex (P_G L xs) (RUN L xs d) (sm_lk P_t256) 0 120 [some (.ref 52), some (.int y1), some (.int y2), some (.long y3), none, none] [] h res := by
  unfold F_256_120 at hf
  refine Ex.seg 1 (pc' := 121) (lc' := [some (.ref 52), some (.int y1), some (.int y2), some (.long y3), none, none]) (st' := [.int y2]) (h' := h) (sg1 rfl rfl rfl) ?_
  refine Ex.ifc rfl rfl (fun (c0 : y2 = 0) => ?_) (fun (c0 : ¬ (y2 = 0)) => ?_)
  · rw [if_pos c0] at hf
    exact Ex.weak (sm_le_s (sm_le_s (sm_le_n (sm_le_s (sm_le_s (sm_le_s sm_le_nil)))))) (B_256_140 hd  hf hs)
  · rw [if_neg c0] at hf
    refine Ex.seg 1 (pc' := 125) (lc' := [some (.ref 52), some (.int y1), some (.int y2), some (.long y3), none, none]) (st' := [.int y1]) (h' := h) (sg1 rfl rfl rfl) ?_
    refine Ex.ifc rfl rfl (fun (c0 : ¬ (y1 = 0)) => ?_) (fun (c0 : ¬ ¬ (y1 = 0)) => ?_)
    · rw [if_neg c0] at hf
      exact Ex.weak (sm_le_s (sm_le_s (sm_le_n (sm_le_s (sm_le_s (sm_le_s sm_le_nil)))))) (B_256_136 hd  hf hs)
    · rw [if_pos (Classical.not_not.mp c0)] at hf
      refine Ex.seg 3 (pc' := 133) (lc' := [some (.ref 52), some (.int y1), some (.int y2), some (.long y3), none, none]) (st' := [.int (lg_cmp y3 (-9223372036854775808))]) (h' := h) (sg1 rfl rfl (sg1 rfl rfl (sg1 rfl rfl rfl))) ?_
      refine Ex.ifc rfl rfl (fun (c0 : (lg_cmp y3 (-9223372036854775808)) = 0) => ?_) (fun (c0 : ¬ ((lg_cmp y3 (-9223372036854775808)) = 0)) => ?_)
      · rw [if_pos c0] at hf
        exact Ex.weak (sm_le_s (sm_le_s (sm_le_n (sm_le_s (sm_le_s (sm_le_s sm_le_nil)))))) (B_256_140 hd  hf hs)
      · rw [if_neg c0] at hf
        exact Ex.weak (sm_le_s (sm_le_s (sm_le_n (sm_le_s (sm_le_s (sm_le_s sm_le_nil)))))) (B_256_136 hd  hf hs)
theorem B_256_96 {L : Nat} {xs : Nat → Int32} {d : Nat} (hd : 0 ≤ d) {res : Option Value × sm_H} {S1 : (Int32 × Int32 × Int64 × sm_H) → Prop} (hS1 : ∀ s, S1 s → Ex (P_G L xs) (RUN L xs d) (sm_lk P_t256) 0 18 [some (.ref 52), some (.int s.1), some (.int s.2.1), some (.long s.2.2.1), none, none] [] s.2.2.2 res) {y1 : Int32} {y3 : Int64} {y5 : Int32} {z0 : Int32}  {h : sm_H} {r : ((Int32 × Int32 × Int64 × sm_H) ⊕ (Int32 × sm_H))} (hf : F_256_96 y1 y3 y5 z0 h = some r) (hs : (Sum.elim S1 (fun (r : Int32 × sm_H) => res = (some (.int r.1), r.2))) r) : Ex (P_G L xs) (RUN L xs d) (sm_lk P_t256) 0 96 [some (.ref 52), some (.int y1), none, some (.long y3), none, some (.int y5)] [.int z0] h res := by
  unfold F_256_96 at hf
  refine Ex.seg 8 (pc' := 107) (lc' := [some (.ref 52), some (.int y1), some (.int z0), some (.long ((y3 * 10) - (Int32.toInt64 y5))), none, some (.int y5)]) (st' := []) (h' := h) (sg1 rfl rfl (sg1 rfl rfl (sg1 rfl rfl (sg1 rfl rfl (sg1 rfl rfl (sg1 rfl rfl (sg1 rfl rfl (sg1 rfl rfl rfl)))))))) ?_
  obtain ⟨v7, e_v7, hf⟩ := bnd hf
  rw [Option.some.inj e_v7]
  refine Ex.seg 6 (pc' := 117) (lc' := [some (.ref 52), some (.int y1), some (.int z0), some (.long v7), none, some (.int y5)]) (st' := []) (h' := (sm_wI h 52 3 ((h.1 52 3) + 1))) (sg1 rfl rfl (sg1 rfl rfl (sg1 rfl rfl (sg1 rfl rfl (sg1 rfl rfl (sg1 rfl rfl rfl)))))) ?_
  obtain ⟨h8, e_h8, hf⟩ := bnd hf
  rw [Option.some.inj e_h8]
  refine Ex.seg 1 (pc' := 18) (lc' := [some (.ref 52), some (.int y1), some (.int z0), some (.long v7), none, some (.int y5)]) (st' := []) (h' := h8) (sg1 rfl rfl rfl) ?_
  obtain rfl := Option.some.inj hf
  exact Ex.weak (sm_le_s (sm_le_s (sm_le_s (sm_le_s (sm_le_s (sm_le_n sm_le_nil)))))) (hS1 _ hs)
theorem B_256_95 {L : Nat} {xs : Nat → Int32} {d : Nat} (hd : 0 ≤ d) {res : Option Value × sm_H} {S1 : (Int32 × Int32 × Int64 × sm_H) → Prop} (hS1 : ∀ s, S1 s → Ex (P_G L xs) (RUN L xs d) (sm_lk P_t256) 0 18 [some (.ref 52), some (.int s.1), some (.int s.2.1), some (.long s.2.2.1), none, none] [] s.2.2.2 res) {y1 : Int32} {y3 : Int64} {y5 : Int32}  {h : sm_H} {r : ((Int32 × Int32 × Int64 × sm_H) ⊕ (Int32 × sm_H))} (hf : F_256_95 y1 y3 y5 h = some r) (hs : (Sum.elim S1 (fun (r : Int32 × sm_H) => res = (some (.int r.1), r.2))) r) : Ex (P_G L xs) (RUN L xs d) (sm_lk P_t256) 0 95 [some (.ref 52), some (.int y1), none, some (.long y3), none, some (.int y5)] [] h res := by
  unfold F_256_95 at hf
  refine Ex.seg 1 (pc' := 96) (lc' := [some (.ref 52), some (.int y1), none, some (.long y3), none, some (.int y5)]) (st' := [.int 0]) (h' := h) (sg1 rfl rfl rfl) ?_
  exact Ex.weak (sm_le_s (sm_le_s (sm_le_s (sm_le_s (sm_le_s (sm_le_s sm_le_nil)))))) (B_256_96 hd hS1 hf hs)
theorem B_256_18B {L : Nat} {xs : Nat → Int32} {d : Nat} (hd : 0 ≤ d) {res : Option Value × sm_H} {S1 : (Int32 × Int32 × Int64 × sm_H) → Prop} (hS1 : ∀ s, S1 s → Ex (P_G L xs) (RUN L xs d) (sm_lk P_t256) 0 18 [some (.ref 52), some (.int s.1), some (.int s.2.1), some (.long s.2.2.1), none, none] [] s.2.2.2 res) {s : (Int32 × Int32 × Int64 × sm_H)}  {r : ((Int32 × Int32 × Int64 × sm_H) ⊕ (Int32 × sm_H))} (hf : F_256_18B s = some r) (hs : (Sum.elim S1 (fun (r : Int32 × sm_H) => res = (some (.int r.1), r.2))) r) : Ex (P_G L xs) (RUN L xs d) (sm_lk P_t256) 0 18 [some (.ref 52), some (.int s.1), some (.int s.2.1), some (.long s.2.2.1), none, none] [] s.2.2.2 res := by
  unfold F_256_18B at hf
  refine Ex.seg 4 (pc' := 26) (lc' := [some (.ref 52), some (.int s.1), some (.int s.2.1), some (.long s.2.2.1), none, none]) (st' := [.int (s.2.2.2.1 52 1), .int (s.2.2.2.1 52 3)]) (h' := s.2.2.2) (sg1 rfl rfl (sg1 rfl rfl (sg1 rfl rfl (sg1 rfl rfl rfl)))) ?_
  refine Ex.icmp rfl rfl (fun (c0 : (s.2.2.2.1 52 1) ≤ (s.2.2.2.1 52 3)) => ?_) (fun (c0 : ¬ ((s.2.2.2.1 52 1) ≤ (s.2.2.2.1 52 3))) => ?_)
  · rw [if_pos c0] at hf
    obtain ⟨r0, hf0, rfl⟩ := Option.map_eq_some_iff.mp hf
    exact Ex.weak (sm_le_s (sm_le_s (sm_le_s (sm_le_s (sm_le_s (sm_le_s sm_le_nil)))))) (B_256_120 hd  hf0 hs)
  · rw [if_neg c0] at hf
    refine Ex.seg 4 (pc' := 37) (lc' := [some (.ref 52), some (.int s.1), some (.int s.2.1), some (.long s.2.2.1), none, none]) (st' := [.int (s.2.2.2.1 52 3), .ref 53]) (h' := s.2.2.2) (sg1 rfl rfl (sg1 rfl rfl (sg1 rfl rfl (sg1 rfl rfl rfl)))) ?_
    obtain ⟨v9, e_v9, hf⟩ := bnd hf
    refine Ex.iald e_v9 rfl rfl ?_
    refine Ex.seg 1 (pc' := 40) (lc' := [some (.ref 52), some (.int s.1), some (.int s.2.1), some (.long s.2.2.1), none, none]) (st' := [.int 48, .int v9]) (h' := s.2.2.2) (sg1 rfl rfl rfl) ?_
    refine Ex.icmp rfl rfl (fun (c0 : v9 < 48) => ?_) (fun (c0 : ¬ (v9 < 48)) => ?_)
    · rw [if_pos c0] at hf
      obtain ⟨r0, hf0, rfl⟩ := Option.map_eq_some_iff.mp hf
      exact Ex.weak (sm_le_s (sm_le_s (sm_le_s (sm_le_s (sm_le_s (sm_le_s sm_le_nil)))))) (B_256_120 hd  hf0 hs)
    · rw [if_neg c0] at hf
      refine Ex.seg 4 (pc' := 51) (lc' := [some (.ref 52), some (.int s.1), some (.int s.2.1), some (.long s.2.2.1), none, none]) (st' := [.int (s.2.2.2.1 52 3), .ref 53]) (h' := s.2.2.2) (sg1 rfl rfl (sg1 rfl rfl (sg1 rfl rfl (sg1 rfl rfl rfl)))) ?_
      obtain ⟨v10, e_v10, hf⟩ := bnd hf
      refine Ex.iald e_v10 rfl rfl ?_
      refine Ex.seg 1 (pc' := 54) (lc' := [some (.ref 52), some (.int s.1), some (.int s.2.1), some (.long s.2.2.1), none, none]) (st' := [.int 57, .int v10]) (h' := s.2.2.2) (sg1 rfl rfl rfl) ?_
      refine Ex.icmp rfl rfl (fun (c0 : 57 < v10) => ?_) (fun (c0 : ¬ (57 < v10)) => ?_)
      · rw [if_pos c0] at hf
        obtain ⟨r0, hf0, rfl⟩ := Option.map_eq_some_iff.mp hf
        exact Ex.weak (sm_le_s (sm_le_s (sm_le_s (sm_le_s (sm_le_s (sm_le_s sm_le_nil)))))) (B_256_120 hd  hf0 hs)
      · rw [if_neg c0] at hf
        refine Ex.seg 4 (pc' := 65) (lc' := [some (.ref 52), some (.int s.1), some (.int s.2.1), some (.long s.2.2.1), none, none]) (st' := [.int (s.2.2.2.1 52 3), .ref 53]) (h' := s.2.2.2) (sg1 rfl rfl (sg1 rfl rfl (sg1 rfl rfl (sg1 rfl rfl rfl)))) ?_
        obtain ⟨v11, e_v11, hf⟩ := bnd hf
        refine Ex.iald e_v11 rfl rfl ?_
        refine Ex.seg 3 (pc' := 71) (lc' := [some (.ref 52), some (.int s.1), some (.int s.2.1), some (.long s.2.2.1), none, some (.int (v11 - 48))]) (st' := []) (h' := s.2.2.2) (sg1 rfl rfl (sg1 rfl rfl (sg1 rfl rfl rfl))) ?_
        obtain ⟨v12, e_v12, hf⟩ := bnd hf
        rw [Option.some.inj e_v12]
        refine Ex.seg 1 (pc' := 72) (lc' := [some (.ref 52), some (.int s.1), some (.int s.2.1), some (.long s.2.2.1), none, some (.int v12)]) (st' := [.int s.2.1]) (h' := s.2.2.2) (sg1 rfl rfl rfl) ?_
        refine Ex.ifc rfl rfl (fun (c0 : s.2.1 = 0) => ?_) (fun (c0 : ¬ (s.2.1 = 0)) => ?_)
        · rw [if_pos c0] at hf
          exact Ex.weak (sm_le_s (sm_le_s (sm_le_n (sm_le_s (sm_le_s (sm_le_s sm_le_nil)))))) (B_256_95 hd hS1 hf hs)
        · rw [if_neg c0] at hf
          refine Ex.seg 6 (pc' := 86) (lc' := [some (.ref 52), some (.int s.1), some (.int s.2.1), some (.long s.2.2.1), none, some (.int v12)]) (st' := [.long 10, .long ((-9223372036854775808) + (Int32.toInt64 v12)), .long s.2.2.1]) (h' := s.2.2.2) (sg1 rfl rfl (sg1 rfl rfl (sg1 rfl rfl (sg1 rfl rfl (sg1 rfl rfl (sg1 rfl rfl rfl)))))) ?_
          rcases Classical.em ((10 : Int64) = 0) with c0 | c0
          · rw [if_pos c0] at hf
            cases hf
          rw [if_neg c0] at hf
          refine Ex.ldiv c0 rfl rfl ?_
          refine Ex.seg 1 (pc' := 88) (lc' := [some (.ref 52), some (.int s.1), some (.int s.2.1), some (.long s.2.2.1), none, some (.int v12)]) (st' := [.int (lg_cmp s.2.2.1 (((-9223372036854775808) + (Int32.toInt64 v12)) / 10))]) (h' := s.2.2.2) (sg1 rfl rfl rfl) ?_
          refine Ex.ifc rfl rfl (fun (c0 : (lg_cmp s.2.2.1 (((-9223372036854775808) + (Int32.toInt64 v12)) / 10)) < 0) => ?_) (fun (c0 : ¬ ((lg_cmp s.2.2.1 (((-9223372036854775808) + (Int32.toInt64 v12)) / 10)) < 0)) => ?_)
          · rw [if_pos c0] at hf
            exact Ex.weak (sm_le_s (sm_le_s (sm_le_n (sm_le_s (sm_le_s (sm_le_s sm_le_nil)))))) (B_256_95 hd hS1 hf hs)
          · rw [if_neg c0] at hf
            refine Ex.seg 2 (pc' := 96) (lc' := [some (.ref 52), some (.int s.1), some (.int s.2.1), some (.long s.2.2.1), none, some (.int v12)]) (st' := [.int 1]) (h' := s.2.2.2) (sg1 rfl rfl (sg1 rfl rfl rfl)) ?_
            exact Ex.weak (sm_le_s (sm_le_s (sm_le_n (sm_le_s (sm_le_s (sm_le_s sm_le_nil)))))) (B_256_96 hd hS1 hf hs)
theorem B_256_18 {L : Nat} {xs : Nat → Int32} {d : Nat} (hd : 0 ≤ d) {res : Option Value × sm_H} {y1 : Int32} {y2 : Int32} {y3 : Int64}  {h : sm_H} {r : (Int32 × sm_H)} (hf : F_256_18 y1 y2 y3 h = some r) (hs : (fun (r : Int32 × sm_H) => res = (some (.int r.1), r.2)) r) : Ex (P_G L xs) (RUN L xs d) (sm_lk P_t256) 0 18 [some (.ref 52), some (.int y1), some (.int y2), some (.long y3), none, none] [] h res := by
  unfold F_256_18 at hf
  exact lp_ok (P := fun (s : (Int32 × Int32 × Int64 × sm_H)) => Ex (P_G L xs) (RUN L xs d) (sm_lk P_t256) 0 18 [some (.ref 52), some (.int s.1), some (.int s.2.1), some (.long s.2.2.1), none, none] [] s.2.2.2 res) (S := (fun (r : Int32 × sm_H) => res = (some (.int r.1), r.2))) (fun s x hx hsx => by
    intros
    exact B_256_18B hd  (fun _ q => q) hx hsx) 1000000 _ r hf hs
theorem B_256_0 {L : Nat} {xs : Nat → Int32} {d : Nat} (hd : 0 ≤ d) {res : Option Value × sm_H} {x1 : Int32}  {h : sm_H} {r : (Int32 × sm_H)} (hf : F_256_0 x1 h = some r) (hs : (fun (r : Int32 × sm_H) => res = (some (.int r.1), r.2)) r) : Ex (P_G L xs) (RUN L xs d) (sm_lk P_t256) 0 0 [some (.ref 52), some (.int x1), none, none, none, none] [] h res := by
  unfold F_256_0 at hf
  refine Ex.seg 5 (pc' := 5) (lc' := [some (.ref 52), some (.int x1), some (.int 1), some (.long 0), none, none]) (st' := [.int x1]) (h' := h) (sg1 rfl rfl (sg1 rfl rfl (sg1 rfl rfl (sg1 rfl rfl (sg1 rfl rfl rfl))))) ?_
  refine Ex.ifc rfl rfl (fun (c0 : x1 = 0) => ?_) (fun (c0 : ¬ (x1 = 0)) => ?_)
  · rw [if_pos c0] at hf
    exact Ex.weak (sm_le_s (sm_le_s (sm_le_s (sm_le_s (sm_le_s (sm_le_s sm_le_nil)))))) (B_256_18 hd  hf hs)
  · rw [if_neg c0] at hf
    refine Ex.seg 6 (pc' := 18) (lc' := [some (.ref 52), some (.int x1), some (.int 1), some (.long 0), none, none]) (st' := []) (h' := (sm_wI h 52 3 ((h.1 52 3) + 1))) (sg1 rfl rfl (sg1 rfl rfl (sg1 rfl rfl (sg1 rfl rfl (sg1 rfl rfl (sg1 rfl rfl rfl)))))) ?_
    obtain ⟨h13, e_h13, hf⟩ := bnd hf
    rw [Option.some.inj e_h13]
    exact Ex.weak (sm_le_s (sm_le_s (sm_le_s (sm_le_s (sm_le_s (sm_le_s sm_le_nil)))))) (B_256_18 hd  hf hs)
theorem E_256 {L : Nat} {xs : Nat → Int32} {d : Nat} (hd : 1 ≤ d) {x1 : Int32} {h : sm_H} {r : Int32 × sm_H} (hf : F_256 x1 h = some r) : RUN L xs d 256 [.ref 52, .int x1] h (some (.int r.1), r.2) := by
  obtain ⟨d, rfl⟩ : ∃ e, d = e + 1 := ⟨d - 1, by omega⟩
  exact ⟨Nat.le_of_ble_eq_true rfl, B_256_0 (by omega) hf rfl⟩
